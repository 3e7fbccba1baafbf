/-! what will be -/
theorem fst_step {p : Nat → Bool} {i n : Nat} (h : i < n) : fstF p i (n - i) = if p i = true then some i else fstF p (i + 1) (n - (i + 1)) := by
  rw [show n - i = (n - (i + 1)) + 1 by omega, fstF]
theorem fst_end {p : Nat → Bool} {n : Nat} : fstF p n (n - n) = none := by rw [Nat.sub_self, fstF]
theorem abs_off (x : Int32) : (if 0 ≤ x then x else 0 - x) = offF (-x) := by
  have hb := Int32.toInt_lt x
  have hb2 := Int32.le_toInt x
  have z : (0 : Int32).toInt = 0 := rfl
  unfold offF
  by_cases h0 : 0 ≤ x
  · rw [if_pos h0]
    rw [Int32.le_iff_toInt_le, z] at h0
    by_cases h1 : -x < 0
    · rw [if_pos h1, Int32.neg_neg]
    · rw [if_neg h1]
      rw [Int32.lt_iff_toInt_lt, Int32.toInt_neg, z, Int.bmod] at h1
      have : x.toInt = 0 := by split at h1 <;> omega
      rw [show x = 0 from Int32.toInt_inj.mp (this.trans z.symm)]
      rfl
  · rw [if_neg h0, Int32.zero_sub]
    rw [Int32.le_iff_toInt_le, z] at h0
    by_cases h1 : -x < 0
    · rw [if_pos h1, Int32.neg_neg]
      rw [Int32.lt_iff_toInt_lt, Int32.toInt_neg, z, Int.bmod] at h1
      have : x.toInt = -2147483648 := by split at h1 <;> omega
      rw [show x = Int32.ofInt (-2147483648) from eq_of_toInt this]
      decide
    · rw [if_neg h1]
set_option maxRecDepth 20000 in
set_option maxHeartbeats 4000000 in
theorem c_behind_bad (w : Wt) {k : Nat} (hk : 200 ≤ k) (a b : Int32) (N : Vc) (h : Mm) (hP : PR 11 h N)  (hb : ¬ (inR a 0 100 ∧ inR b 0 6)) : Ok w k MX7_behind [.ref 0, .int a, .int b] h (Rv BADv h) := by
  show Wp w k MX7_behind _ 0 [some (.ref 0), some (.int a), some (.int b)] [] h
  refine p_run (pc' := 4) [.iload_n 1, .iconst 0, .bipush 100] mkX7_behind (by decide +kernel) rfl rfl ?_
  refine p_callSv (cwithin_ok w (k := k - 1) _ _ _ _) ksX7_68 (by decide +kernel) (by omega) rfl rfl rfl rfl rfl ?_
  refine p_if_eq (off := 13) 20 (by decide +kernel) (by decide) (fun cq7 => ?_) (fun cq7 => ?_)
  · have cq7 := bI0.mp cq7
    refine p_run (pc' := 22) [.ldc 75] mkX7_behind (by decide +kernel) rfl rfl ?_
    refine p_iret rfl rfl (by decide +kernel) ?_
    exact ⟨rfl, rfl⟩
  · have cq7 := bI1.mp cq7
    refine p_run (pc' := 14) [.iload_n 2, .iconst 0, .bipush 6] mkX7_behind (by decide +kernel) rfl rfl ?_
    refine p_callSv (cwithin_ok w (k := k - 1) _ _ _ _) ksX7_68 (by decide +kernel) (by omega) rfl rfl rfl rfl rfl ?_
    refine p_if_ne (off := 6) 23 (by decide +kernel) (by decide) (fun cq17 => ?_) (fun cq17 => ?_)
    · have cq17 := bI1.mp cq17
      exact absurd (⟨cq7, cq17⟩) hb
    · have cq17 := bI0.mp cq17
      refine p_run (pc' := 22) [.ldc 75] mkX7_behind (by decide +kernel) rfl rfl ?_
      refine p_iret rfl rfl (by decide +kernel) ?_
      exact ⟨rfl, rfl⟩
set_option maxRecDepth 20000 in
set_option maxHeartbeats 4000000 in
theorem c_behind (w : Wt) {k : Nat} (hk : 200 ≤ k) (n u : Nat) (N : Vc) (h : Mm) (hI : Iv N) (hP : PR 11 h N) (hT : TR h N) (hn : n ≤ 100) (hj : u ≤ 6) : Ok w k MX7_behind [.ref 0, .int (nI n), .int (nI u)] h (Rp (behF N n u) h) := by
  show Wp w k MX7_behind _ 0 [some (.ref 0), some (.int (nI n)), some (.int (nI u))] [] h
  refine p_run (pc' := 4) [.iload_n 1, .iconst 0, .bipush 100] mkX7_behind (by decide +kernel) rfl rfl ?_
  refine p_callSv (cwithin_ok w (k := k - 1) _ _ _ _) ksX7_68 (by decide +kernel) (by omega) rfl rfl rfl rfl rfl ?_
  refine p_if_eq (off := 13) 20 (by decide +kernel) (by decide) (fun cq7 => ?_) (fun cq7 => ?_)
  · have cq7 := bI0.mp cq7
    exact absurd (in_nI (j := n) (lo := 0) (hi := 100) (by omega) (by omega) (by omega)) cq7
  · have cq7 := bI1.mp cq7
    refine p_run (pc' := 14) [.iload_n 2, .iconst 0, .bipush 6] mkX7_behind (by decide +kernel) rfl rfl ?_
    refine p_callSv (cwithin_ok w (k := k - 1) _ _ _ _) ksX7_68 (by decide +kernel) (by omega) rfl rfl rfl rfl rfl ?_
    refine p_if_ne (off := 6) 23 (by decide +kernel) (by decide) (fun cq17 => ?_) (fun cq17 => ?_)
    · have cq17 := bI1.mp cq17
      refine p_run (pc' := 31) [.aload_n 0, .getfield 35, .aload_n 0, .getfield 28] mkX7_behind (by decide +kernel) rfl rfl ?_
      refine p_callVo (cbec47_11 w (k := k - 1) (by omega) N h hI hP) (fun _ _ q => q.1) kvX7_190 (by decide +kernel) (by decide) rfl (by omega) rfl rfl rfl rfl rfl (fun h' hq => ?_)
      obtain ⟨-, hR1, hF1⟩ := hq
      rename Mm => h1
      refine p_run (pc' := 39) [.aload_n 0, .getfield 35, .iload_n 1] mkX7_behind (by decide +kernel) rfl rfl ?_
      refine p_callVo (cpass47 w (k := k - 1) (by omega) (n) (by omega) (N) h1 (hI) hR1 (hT.fp pp47 hF1)) (fun _ _ q => q.1) kvX7_171 (by decide +kernel) (by decide) rfl (by omega) rfl rfl rfl rfl rfl (fun h' hq => ?_)
      obtain ⟨-, hR2, hF2⟩ := hq
      rename Mm => h2
      refine p_run (pc' := 43) [.iload_n 2] mkX7_behind (by decide +kernel) rfl rfl ?_
      refine p_table (dflt := 49) (lo := 0) (hi := 2) (offs := #[25, 33, 41]) (len := 25) (by decide +kernel) (by decide) (fun j hj hx => ?_) (fun hx => ?_)
      · match j, hj, hx with
        | 0, _, hx =>
          have hx : nI u = Int32.ofInt (0) := hx
          refine ⟨25, 68, rfl, rfl, ?_⟩
          have ej : u = 0 := nI_case (by omega) (by omega) hx
          subst ej
          refine p_run (pc' := 75) [.aload_n 0, .getfield 35, .getfield 175] mkX7_behind (by decide +kernel) rfl rfl ?_
          refine p_iret rfl rfl (by decide +kernel) ?_
          exact ⟨by rw [hR2.1.2.2.2.2.1]; rfl, hF1.tr hF2⟩
        | 1, _, hx =>
          have hx : nI u = Int32.ofInt (1) := hx
          refine ⟨33, 76, rfl, rfl, ?_⟩
          have ej : u = 1 := nI_case (by omega) (by omega) hx
          subst ej
          refine p_run (pc' := 83) [.aload_n 0, .getfield 35, .getfield 178] mkX7_behind (by decide +kernel) rfl rfl ?_
          refine p_iret rfl rfl (by decide +kernel) ?_
          exact ⟨by rw [hR2.1.2.2.2.2.2.1]; rfl, hF1.tr hF2⟩
        | 2, _, hx =>
          have hx : nI u = Int32.ofInt (2) := hx
          refine ⟨41, 84, rfl, rfl, ?_⟩
          have ej : u = 2 := nI_case (by omega) (by omega) hx
          subst ej
          refine p_run (pc' := 88) [.aload_n 0, .getfield 35] mkX7_behind (by decide +kernel) rfl rfl ?_
          refine p_callVv (chill47 w (k := k - 1) (nsF N n) h2 (nsF_Iv hI n) hR2) kvX7_165 (by decide +kernel) (by decide) rfl (by omega) rfl rfl rfl rfl rfl ?_
          refine p_iret rfl rfl (by decide +kernel) ?_
          exact ⟨rfl, hF1.tr hF2⟩
        | j + 3, hj, _ => exact absurd hj (by simp)
      · refine ⟨92, rfl, ?_⟩
        rw [nI_toInt (by omega)] at hx
        refine p_run (pc' := 102) [.aload_n 0, .getfield 35, .getfield 123, .iload_n 2, .iconst 3, .isub] mkX7_behind (by decide +kernel) rfl rfl ?_
        rw [show nI u - Int32.ofInt 3 = nI (u - 3) from nIs (b := 3) (by omega)]
        refine p_aald (u - 3) (by decide +kernel) (by decide) rfl (by decide) rfl (by omega) (rfB47 (u - 3) (by omega)) ?_
        refine p_getI (by decide +kernel) fo7_132 (obB pp47 (by omega)).1 (obB pp47 (by omega)).2.1 ((obB pp47 (by omega)).2.2 _) ?_
        refine p_iret rfl rfl (by decide +kernel) ?_
        exact ⟨by rw [hR2.2.1 (u - 3) (by omega) 0 (by omega)]; unfold behF; rw [if_neg (by omega), if_neg (by omega)], hF1.tr hF2⟩
    · have cq17 := bI0.mp cq17
      exact absurd (in_nI (j := u) (lo := 0) (hi := 6) (by omega) (by omega) (by omega)) cq17
theorem st_behind (w : Wt) {k : Nat} (hk : 200 ≤ k) (a b : Int32) (h : Mm) (hR : Rel h) : St w k MX7_behind MX8_behind [.int a, .int b] h := by
  obtain ⟨⟨hP, hI, hQ, hT, hq⟩, -⟩ := id hR
  by_cases hg : inR a 0 100 ∧ inR b 0 6
  · obtain ⟨n, -, hn, rfl⟩ := inR_of (by omega) (by omega) hg.1
    obtain ⟨j, -, hj, rfl⟩ := inR_of (by omega) (by omega) hg.2
    exact St.pure hR (c_behind w hk n j (h 97) h hI hP hT hn hj) (fun h1 hF => by
      have e : h1 97 = h 97 := hF 97 (by omega) (by omega) (by omega)
      exact (r_behind w (by omega) n j h1 (by rw [e]; exact hI) (by rw [e]; exact hQ) hn hj).imp (fun r h2 z => ⟨by rw [z.1, e], Ag3 z.2⟩))
  · exact St.word hR (c_behind_bad w hk a b (h 97) h hP hg) (r_behind_bad w (by omega) a b h hg)
set_option maxRecDepth 20000 in
set_option maxHeartbeats 4000000 in
theorem c_reaches_bad (w : Wt) {k : Nat} (hk : 200 ≤ k) (a b : Int32) (N : Vc) (h : Mm) (hP : PR 11 h N)  (hb : ¬ (inR a 0 3 ∧ inR b 0 999)) : Ok w k MX7_reaches [.ref 0, .int a, .int b] h (Rv BADv h) := by
  show Wp w k MX7_reaches _ 0 [some (.ref 0), some (.int a), some (.int b), none, none] [] h
  refine p_run (pc' := 1) [.iload_n 1] mkX7_reaches (by decide +kernel) rfl rfl ?_
  refine p_callSv (cisBranch_ok w (k := k - 1) (by omega) _ _) ksX7_72 (by decide +kernel) (by omega) rfl rfl rfl rfl rfl ?_
  refine p_if_eq (off := 14) 18 (by decide +kernel) (by decide) (fun cq4 => ?_) (fun cq4 => ?_)
  · have cq4 := bI0.mp cq4
    refine p_run (pc' := 20) [.ldc 75] mkX7_reaches (by decide +kernel) rfl rfl ?_
    refine p_iret rfl rfl (by decide +kernel) ?_
    exact ⟨rfl, rfl⟩
  · have cq4 := bI1.mp cq4
    refine p_run (pc' := 12) [.iload_n 2, .iconst 0, .sipush 999] mkX7_reaches (by decide +kernel) rfl rfl ?_
    refine p_callSv (cwithin_ok w (k := k - 1) _ _ _ _) ksX7_68 (by decide +kernel) (by omega) rfl rfl rfl rfl rfl ?_
    refine p_if_ne (off := 6) 21 (by decide +kernel) (by decide) (fun cq15 => ?_) (fun cq15 => ?_)
    · have cq15 := bI1.mp cq15
      exact absurd (⟨cq4, cq15⟩) hb
    · have cq15 := bI0.mp cq15
      refine p_run (pc' := 20) [.ldc 75] mkX7_reaches (by decide +kernel) rfl rfl ?_
      refine p_iret rfl rfl (by decide +kernel) ?_
      exact ⟨rfl, rfl⟩
set_option maxRecDepth 20000 in
set_option maxHeartbeats 4000000 in
theorem c_reaches (w : Wt) {k : Nat} (hk : 200 ≤ k) (b : Nat) (v : Int32) (N : Vc) (h : Mm) (hI : Iv N) (hP : PR 11 h N) (hT : TR h N) (hb : b < 4) (hv : inR v 0 999) : Ok w k MX7_reaches [.ref 0, .int (nI b), .int v] h (Rp (oN (fstF (fun n => decide (v ≤ bK (nsF N n) b 0)) 0 201)) h) := by
  show Wp w k MX7_reaches _ 0 [some (.ref 0), some (.int (nI b)), some (.int v), none, none] [] h
  refine p_run (pc' := 1) [.iload_n 1] mkX7_reaches (by decide +kernel) rfl rfl ?_
  refine p_callSv (cisBranch_ok w (k := k - 1) (by omega) _ _) ksX7_72 (by decide +kernel) (by omega) rfl rfl rfl rfl rfl ?_
  refine p_if_eq (off := 14) 18 (by decide +kernel) (by decide) (fun cq4 => ?_) (fun cq4 => ?_)
  · have cq4 := bI0.mp cq4
    exact absurd (in_nI (j := b) (lo := 0) (hi := 3) (by omega) (by omega) (by omega)) cq4
  · have cq4 := bI1.mp cq4
    refine p_run (pc' := 12) [.iload_n 2, .iconst 0, .sipush 999] mkX7_reaches (by decide +kernel) rfl rfl ?_
    refine p_callSv (cwithin_ok w (k := k - 1) _ _ _ _) ksX7_68 (by decide +kernel) (by omega) rfl rfl rfl rfl rfl ?_
    refine p_if_ne (off := 6) 21 (by decide +kernel) (by decide) (fun cq15 => ?_) (fun cq15 => ?_)
    · have cq15 := bI1.mp cq15
      refine p_run (pc' := 29) [.aload_n 0, .getfield 35, .aload_n 0, .getfield 28] mkX7_reaches (by decide +kernel) rfl rfl ?_
      refine p_callVo (cbec47_11 w (k := k - 1) (by omega) N h hI hP) (fun _ _ q => q.1) kvX7_190 (by decide +kernel) (by decide) rfl (by omega) rfl rfl rfl rfl rfl (fun h' hq => ?_)
      obtain ⟨-, hR1, hF1⟩ := hq
      rename Mm => h1
      refine p_run (pc' := 40) [.aload_n 0, .getfield 35, .getfield 123, .iload_n 1] mkX7_reaches (by decide +kernel) rfl rfl ?_
      refine p_aald (b) (by decide +kernel) (by decide) rfl (by decide) rfl (by omega) (rfB47 b (by omega)) ?_
      refine p_run (pc' := 45) [.astore_n 3, .iconst 0, .istore 4] mkX7_reaches (by decide +kernel) rfl rfl ?_
      refine Wp.for (201) (fun i L hh => L = [some (.ref 0), some (.int (nI b)), some (.int v), some (.ref (47 + 2 + b)), some (.int (nI i))] ∧ (fstF (fun n => decide (v ≤ bK (nsF N n) b 0)) 0 201 = fstF (fun n => decide (v ≤ bK (nsF N n) b 0)) i (201 - i) ∧ PR 47 hh (nsF N i) ∧ Fp 47 h hh)) ?_ ?_ (0) (by omega) _ _ ?_
      · rintro i L hh hi ⟨rfl, hJ⟩ ih
        obtain ⟨hJ1, hR2, hF2⟩ := hJ
        rw [fst_step hi] at hJ1
        refine p_run (pc' := 50) [.iload 4, .sipush 200] mkX7_reaches (by decide +kernel) rfl rfl ?_
        refine p_icmp_gt (off := 28) 78 (by decide +kernel) (by decide) (fun cqh => ?_) (fun cqh => ?_)
        · exact absurd (show nI 200 < nI i from cqh) (Int32.not_lt.mpr (nI_le (by omega) (by omega)))
        · refine p_run (pc' := 54) [.aload_n 3] mkX7_reaches (by decide +kernel) rfl rfl ?_
          refine p_getI (by decide +kernel) fo7_132 (obB pp47 (by omega)).1 (obB pp47 (by omega)).2.1 ((obB pp47 (by omega)).2.2 _) ?_
          rw [hR2.2.1 b hb 0 (by omega)]
          refine p_run (pc' := 58) [.iload_n 2] mkX7_reaches (by decide +kernel) rfl rfl ?_
          refine p_icmp_lt (off := 6) 64 (by decide +kernel) (by decide) (fun cq1 => ?_) (fun cq1 => ?_)
          · rw [if_neg (fun q => Int32.not_le.mpr cq1 (of_decide_eq_true q))] at hJ1
            refine p_run (pc' := 69) [.aload_n 0, .getfield 35, .iconst 1] mkX7_reaches (by decide +kernel) rfl rfl ?_
            refine p_callVo (cpass47 w (k := k - 1) (by omega) (1) (by omega) (nsF N i) hh (nsF_Iv hI i) hR2 ((hT.fp pp47 hF2).da (fun j hj => nsF_out hI (by omega) i) (nsF_out hI (by omega) i))) (fun _ _ q => q.1) kvX7_171 (by decide +kernel) (by decide) rfl (by omega) rfl rfl rfl rfl rfl (fun h' hq => ?_)
            obtain ⟨-, hR3, hF3⟩ := hq
            rename Mm => h3
            refine p_run (pc' := 45) [.iinc 4 1, .goto (-30)] mkX7_reaches (by decide +kernel) rfl rfl ?_
            exact ih _ _ ⟨by rw [show nI i + Int32.ofInt 1 = nI (i + 1) by simp only [oI, nI_add]], hJ1, hR3, hF2.tr hF3⟩
          · refine p_run (pc' := 63) [.iload 4] mkX7_reaches (by decide +kernel) rfl rfl ?_
            refine p_iret rfl rfl (by decide +kernel) ?_
            rw [if_pos (decide_eq_true (Int32.not_lt.mp cq1))] at hJ1; exact ⟨by rw [hJ1]; rfl, hF2⟩
      · rintro L hh ⟨rfl, hJ⟩
        obtain ⟨hJ1, hR2, hF2⟩ := hJ
        refine p_run (pc' := 50) [.iload 4, .sipush 200] mkX7_reaches (by decide +kernel) rfl rfl ?_
        refine p_icmp_gt (off := 28) 78 (by decide +kernel) (by decide) (fun cqh => ?_) (fun cqh => ?_)
        · refine p_run (pc' := 80) [.ldc 194] mkX7_reaches (by decide +kernel) rfl rfl ?_
          refine p_iret rfl rfl (by decide +kernel) ?_
          exact ⟨by rw [hJ1, fst_end]; rfl, hF2⟩
        · exact False.elim (cqh (by decide))
      · exact ⟨rfl, rfl, hR1, hF1⟩
    · have cq15 := bI0.mp cq15
      exact absurd (hv) cq15
theorem st_reaches (w : Wt) {k : Nat} (hk : 200 ≤ k) (a b : Int32) (h : Mm) (hR : Rel h) : St w k MX7_reaches MX8_reaches [.int a, .int b] h := by
  obtain ⟨⟨hP, hI, hQ, hT, hq⟩, -⟩ := id hR
  by_cases hg : inR a 0 3 ∧ inR b 0 999
  · obtain ⟨n, -, hn, rfl⟩ := inR_of (by omega) (by omega) hg.1
    exact St.pure hR (c_reaches w hk n b (h 97) h hI hP hT (by omega) hg.2) (fun h1 hF => by
      have e : h1 97 = h 97 := hF 97 (by omega) (by omega) (by omega)
      exact (r_reaches w (by omega) n (by omega) b hg.2 h1 (by rw [e]; exact hI) (by rw [e]; exact hQ)).imp (fun r h2 z => ⟨by rw [z.1, e], Ag3 z.2⟩))
  · exact St.word hR (c_reaches_bad w hk a b (h 97) h hP hg) (r_reaches_bad w (by omega) a b h hg)
set_option maxRecDepth 20000 in
set_option maxHeartbeats 4000000 in
theorem c_leaves_bad (w : Wt) {k : Nat} (hk : 200 ≤ k) (a : Int32) (N : Vc) (h : Mm) (hP : PR 11 h N)  (hb : ¬ (isD N a)) : Ok w k MX7_leaves [.ref 0, .int a] h (Rv BADv h) := by
  show Wp w k MX7_leaves _ 0 [some (.ref 0), some (.int a), none, none, none] [] h
  refine p_run (pc' := 2) [.aload_n 0, .iload_n 1] mkX7_leaves (by decide +kernel) rfl rfl ?_
  refine p_callVv (cisDigger_ok w (k := k - 1) (by omega) _ N _ hP.1.1) kvX7_84 (by decide +kernel) (by decide) rfl (by omega) rfl rfl rfl rfl rfl ?_
  refine p_if_ne (off := 6) 11 (by decide +kernel) (by decide) (fun cq5 => ?_) (fun cq5 => ?_)
  · have cq5 := bI1.mp cq5
    exact absurd (cq5) hb
  · have cq5 := bI0.mp cq5
    refine p_run (pc' := 10) [.ldc 75] mkX7_leaves (by decide +kernel) rfl rfl ?_
    refine p_iret rfl rfl (by decide +kernel) ?_
    exact ⟨rfl, rfl⟩
set_option maxRecDepth 20000 in
set_option maxHeartbeats 4000000 in
theorem c_leaves (w : Wt) {k : Nat} (hk : 200 ≤ k) (d : Nat) (N : Vc) (h : Mm) (hI : Iv N) (hP : PR 11 h N) (hT : TR h N) (hd : d < nd N) : Ok w k MX7_leaves [.ref 0, .int (nI d)] h (Rp (oN (fstF (fun n => decide (dK (nsF N n) d 3 ≠ dK N d 3)) 0 201)) h) := by
  show Wp w k MX7_leaves _ 0 [some (.ref 0), some (.int (nI d)), none, none, none] [] h
  have hn10 := hI.nd.2
  have hD := isD_nI hI.nd.1 hd hn10
  refine p_run (pc' := 2) [.aload_n 0, .iload_n 1] mkX7_leaves (by decide +kernel) rfl rfl ?_
  refine p_callVv (cisDigger_ok w (k := k - 1) (by omega) _ N _ hP.1.1) kvX7_84 (by decide +kernel) (by decide) rfl (by omega) rfl rfl rfl rfl rfl ?_
  refine p_if_ne (off := 6) 11 (by decide +kernel) (by decide) (fun cq5 => ?_) (fun cq5 => ?_)
  · have cq5 := bI1.mp cq5
    refine p_run (pc' := 19) [.aload_n 0, .getfield 35, .aload_n 0, .getfield 28] mkX7_leaves (by decide +kernel) rfl rfl ?_
    refine p_callVo (cbec47_11 w (k := k - 1) (by omega) N h hI hP) (fun _ _ q => q.1) kvX7_190 (by decide +kernel) (by decide) rfl (by omega) rfl rfl rfl rfl rfl (fun h' hq => ?_)
    obtain ⟨-, hR1, hF1⟩ := hq
    rename Mm => h1
    refine p_run (pc' := 30) [.aload_n 0, .getfield 35, .getfield 87, .iload_n 1] mkX7_leaves (by decide +kernel) rfl rfl ?_
    refine p_aald (d) (by decide +kernel) (by decide) rfl (by decide) rfl (by omega) (rfD47 d (by omega)) ?_
    refine p_run (pc' := 33) [.astore_n 2, .aload_n 2] mkX7_leaves (by decide +kernel) rfl rfl ?_
    refine p_getI (by decide +kernel) fo7_102 (obD pp47 (by omega)).1 (obD pp47 (by omega)).2.1 ((obD pp47 (by omega)).2.2 _) ?_
    rw [hR1.2.2.1 d hd 3 (by omega)]
    refine p_run (pc' := 40) [.istore_n 3, .iconst 1, .istore 4] mkX7_leaves (by decide +kernel) rfl rfl ?_
    refine Wp.for (201) (fun i L hh => L = [some (.ref 0), some (.int (nI d)), some (.ref (47 + 7 + d)), some (.int (dK N d 3)), some (.int (nI i))] ∧ (1 ≤ i ∧ fstF (fun n => decide (dK (nsF N n) d 3 ≠ dK N d 3)) 0 201 = fstF (fun n => decide (dK (nsF N n) d 3 ≠ dK N d 3)) i (201 - i) ∧ PR 47 hh (nsF N (i - 1)) ∧ Fp 47 h hh)) ?_ ?_ (1) (by omega) _ _ ?_
    · rintro i L hh hi ⟨rfl, hJ⟩ ih
      obtain ⟨hi1, hJ1, hR2, hF2⟩ := hJ
      rw [fst_step hi] at hJ1
      refine p_run (pc' := 45) [.iload 4, .sipush 200] mkX7_leaves (by decide +kernel) rfl rfl ?_
      refine p_icmp_gt (off := 28) 73 (by decide +kernel) (by decide) (fun cqh => ?_) (fun cqh => ?_)
      · exact absurd (show nI 200 < nI i from cqh) (Int32.not_lt.mpr (nI_le (by omega) (by omega)))
      · refine p_run (pc' := 53) [.aload_n 0, .getfield 35, .iconst 1] mkX7_leaves (by decide +kernel) rfl rfl ?_
        refine p_callVo (cpass47 w (k := k - 1) (by omega) (1) (by omega) (nsF N (i - 1)) hh (nsF_Iv hI _) hR2 ((hT.fp pp47 hF2).da (fun j hj => nsF_out hI (by omega) _) (nsF_out hI (by omega) _))) (fun _ _ q => q.1) kvX7_171 (by decide +kernel) (by decide) rfl (by omega) rfl rfl rfl rfl rfl (fun h' hq => ?_)
        obtain ⟨-, hR3, hF3⟩ := hq
        rename Mm => h3
        have e3 : nsF (nsF N (i - 1)) 1 = nsF N i := by rw [show i = (i - 1) + 1 by omega]; rfl
        rw [e3] at hR3
        refine p_run (pc' := 57) [.aload_n 2] mkX7_leaves (by decide +kernel) rfl rfl ?_
        refine p_getI (by decide +kernel) fo7_102 (obD pp47 (by omega)).1 (obD pp47 (by omega)).2.1 ((obD pp47 (by omega)).2.2 _) ?_
        rw [hR3.2.2.1 d (show d < nd (nsF N i) by unfold nd; rw [nsF_out hI (by omega)]; exact hd) 3 (by omega)]
        refine p_run (pc' := 61) [.iload_n 3] mkX7_leaves (by decide +kernel) rfl rfl ?_
        refine p_icmp_eq (off := 6) 67 (by decide +kernel) (by decide) (fun cq1 => ?_) (fun cq1 => ?_)
        · rw [if_neg (fun q => (decide_eq_true_iff.mp q) cq1)] at hJ1
          refine p_run (pc' := 40) [.iinc 4 1, .goto (-30)] mkX7_leaves (by decide +kernel) rfl rfl ?_
          exact ih _ _ ⟨by rw [show nI i + Int32.ofInt 1 = nI (i + 1) by simp only [oI, nI_add]], by omega, hJ1, hR3, hF2.tr hF3⟩
        · refine p_run (pc' := 66) [.iload 4] mkX7_leaves (by decide +kernel) rfl rfl ?_
          refine p_iret rfl rfl (by decide +kernel) ?_
          rw [if_pos (decide_eq_true cq1)] at hJ1; exact ⟨by rw [hJ1]; rfl, hF2.tr hF3⟩
    · rintro L hh ⟨rfl, hJ⟩
      obtain ⟨hi1, hJ1, hR2, hF2⟩ := hJ
      refine p_run (pc' := 45) [.iload 4, .sipush 200] mkX7_leaves (by decide +kernel) rfl rfl ?_
      refine p_icmp_gt (off := 28) 73 (by decide +kernel) (by decide) (fun cqh => ?_) (fun cqh => ?_)
      · refine p_run (pc' := 75) [.ldc 194] mkX7_leaves (by decide +kernel) rfl rfl ?_
        refine p_iret rfl rfl (by decide +kernel) ?_
        exact ⟨by rw [hJ1, fst_end]; rfl, hF2⟩
      · exact False.elim (cqh (by decide))
    · exact ⟨rfl, by omega, (fst_step (show 0 < 201 by omega)).trans (if_neg (fun q => (decide_eq_true_iff.mp q) rfl)), hR1, hF1⟩
  · have cq5 := bI0.mp cq5
    exact absurd (hD) cq5
theorem st_leaves (w : Wt) {k : Nat} (hk : 200 ≤ k) (a : Int32) (h : Mm) (hR : Rel h) : St w k MX7_leaves MX8_leaves [.int a] h := by
  obtain ⟨⟨hP, hI, hQ, hT, hq⟩, -⟩ := id hR
  by_cases hg : isD (h 97) a
  · obtain ⟨d, hd, rfl⟩ := isD_of hI.nd.1 hI.nd.2 hg
    exact St.pure hR (c_leaves w hk d (h 97) h hI hP hT hd) (fun h1 hF => by
      have e : h1 97 = h 97 := hF 97 (by omega) (by omega) (by omega)
      exact (r_leaves w (by omega) d h1 (by rw [e]; exact hI) (by rw [e]; exact hQ) (by rw [e]; exact hd)).imp (fun r h2 z => ⟨by rw [z.1, e], Ag3 z.2⟩))
  · exact St.word hR (c_leaves_bad w hk a (h 97) h hP hg) (r_leaves_bad w (by omega) a h hg)
set_option maxRecDepth 20000 in
set_option maxHeartbeats 4000000 in
theorem c_wax_bad (w : Wt) {k : Nat} (hk : 200 ≤ k) (a b c : Int32) (N : Vc) (h : Mm) (hP : PR 11 h N)  (hb : ¬ (isD N a ∧ inR b 0 30 ∧ inR c 0 9999)) : Ok w k MX7_wax [.ref 0, .int a, .int b, .int c] h (Rv BADv h) := by
  show Wp w k MX7_wax _ 0 [some (.ref 0), some (.int a), some (.int b), some (.int c), none, none] [] h
  refine p_run (pc' := 2) [.aload_n 0, .iload_n 1] mkX7_wax (by decide +kernel) rfl rfl ?_
  refine p_callVv (cisDigger_ok w (k := k - 1) (by omega) _ N _ hP.1.1) kvX7_84 (by decide +kernel) (by decide) rfl (by omega) rfl rfl rfl rfl rfl ?_
  refine p_if_eq (off := 24) 29 (by decide +kernel) (by decide) (fun cq5 => ?_) (fun cq5 => ?_)
  · have cq5 := bI0.mp cq5
    refine p_run (pc' := 31) [.ldc 75] mkX7_wax (by decide +kernel) rfl rfl ?_
    refine p_iret rfl rfl (by decide +kernel) ?_
    exact ⟨rfl, rfl⟩
  · have cq5 := bI1.mp cq5
    refine p_run (pc' := 12) [.iload_n 2, .iconst 0, .bipush 30] mkX7_wax (by decide +kernel) rfl rfl ?_
    refine p_callSv (cwithin_ok w (k := k - 1) _ _ _ _) ksX7_68 (by decide +kernel) (by omega) rfl rfl rfl rfl rfl ?_
    refine p_if_eq (off := 14) 29 (by decide +kernel) (by decide) (fun cq15 => ?_) (fun cq15 => ?_)
    · have cq15 := bI0.mp cq15
      refine p_run (pc' := 31) [.ldc 75] mkX7_wax (by decide +kernel) rfl rfl ?_
      refine p_iret rfl rfl (by decide +kernel) ?_
      exact ⟨rfl, rfl⟩
    · have cq15 := bI1.mp cq15
      refine p_run (pc' := 23) [.iload_n 3, .iconst 0, .sipush 9999] mkX7_wax (by decide +kernel) rfl rfl ?_
      refine p_callSv (cwithin_ok w (k := k - 1) _ _ _ _) ksX7_68 (by decide +kernel) (by omega) rfl rfl rfl rfl rfl ?_
      refine p_if_ne (off := 6) 32 (by decide +kernel) (by decide) (fun cq26 => ?_) (fun cq26 => ?_)
      · have cq26 := bI1.mp cq26
        exact absurd (⟨cq5, cq15, cq26⟩) hb
      · have cq26 := bI0.mp cq26
        refine p_run (pc' := 31) [.ldc 75] mkX7_wax (by decide +kernel) rfl rfl ?_
        refine p_iret rfl rfl (by decide +kernel) ?_
        exact ⟨rfl, rfl⟩
set_option maxRecDepth 20000 in
set_option maxHeartbeats 4000000 in
theorem c_wax (w : Wt) {k : Nat} (hk : 200 ≤ k) (d n : Nat) (v : Int32) (N : Vc) (h : Mm) (hI : Iv N) (hP : PR 11 h N) (hT : TR h N) (hd : d < nd N) (hn : n ≤ 30) (hv : inR v 0 9999) : Ok w k MX7_wax [.ref 0, .int (nI d), .int (nI n), .int v] h (Rp (oN (fstF (fun c => decide (v ≤ dK (nsF (upd N (20 + 5 * d + 2) (nI c)) n) d 4)) 0 100)) h) := by
  show Wp w k MX7_wax _ 0 [some (.ref 0), some (.int (nI d)), some (.int (nI n)), some (.int v), none, none] [] h
  have hn10 := hI.nd.2
  have hD := isD_nI hI.nd.1 hd hn10
  refine p_run (pc' := 2) [.aload_n 0, .iload_n 1] mkX7_wax (by decide +kernel) rfl rfl ?_
  refine p_callVv (cisDigger_ok w (k := k - 1) (by omega) _ N _ hP.1.1) kvX7_84 (by decide +kernel) (by decide) rfl (by omega) rfl rfl rfl rfl rfl ?_
  refine p_if_eq (off := 24) 29 (by decide +kernel) (by decide) (fun cq5 => ?_) (fun cq5 => ?_)
  · have cq5 := bI0.mp cq5
    exact absurd (hD) cq5
  · have cq5 := bI1.mp cq5
    refine p_run (pc' := 12) [.iload_n 2, .iconst 0, .bipush 30] mkX7_wax (by decide +kernel) rfl rfl ?_
    refine p_callSv (cwithin_ok w (k := k - 1) _ _ _ _) ksX7_68 (by decide +kernel) (by omega) rfl rfl rfl rfl rfl ?_
    refine p_if_eq (off := 14) 29 (by decide +kernel) (by decide) (fun cq15 => ?_) (fun cq15 => ?_)
    · have cq15 := bI0.mp cq15
      exact absurd (in_nI (j := n) (lo := 0) (hi := 30) (by omega) (by omega) (by omega)) cq15
    · have cq15 := bI1.mp cq15
      refine p_run (pc' := 23) [.iload_n 3, .iconst 0, .sipush 9999] mkX7_wax (by decide +kernel) rfl rfl ?_
      refine p_callSv (cwithin_ok w (k := k - 1) _ _ _ _) ksX7_68 (by decide +kernel) (by omega) rfl rfl rfl rfl rfl ?_
      refine p_if_ne (off := 6) 32 (by decide +kernel) (by decide) (fun cq26 => ?_) (fun cq26 => ?_)
      · have cq26 := bI1.mp cq26
        refine p_run (pc' := 40) [.aload_n 0, .getfield 35, .getfield 87, .iload_n 1] mkX7_wax (by decide +kernel) rfl rfl ?_
        refine p_aald (d) (by decide +kernel) (by decide) rfl (by decide) rfl (by omega) (rfD47 d (by omega)) ?_
        refine p_run (pc' := 46) [.astore 4, .iconst 0, .istore 5] mkX7_wax (by decide +kernel) rfl rfl ?_
        refine Wp.for (100) (fun i L hh => L = [some (.ref 0), some (.int (nI d)), some (.int (nI n)), some (.int v), some (.ref (47 + 7 + d)), some (.int (nI i))] ∧ (fstF (fun c => decide (v ≤ dK (nsF (upd N (20 + 5 * d + 2) (nI c)) n) d 4)) 0 100 = fstF (fun c => decide (v ≤ dK (nsF (upd N (20 + 5 * d + 2) (nI c)) n) d 4)) i (100 - i) ∧ Fp 47 h hh)) ?_ ?_ (0) (by omega) _ _ ?_
        · rintro i L hh hi ⟨rfl, hJ⟩ ih
          obtain ⟨hJ1, hF⟩ := hJ
          rw [fst_step hi] at hJ1
          refine p_run (pc' := 50) [.iload 5, .bipush 99] mkX7_wax (by decide +kernel) rfl rfl ?_
          refine p_icmp_gt (off := 47) 97 (by decide +kernel) (by decide) (fun cqh => ?_) (fun cqh => ?_)
          · exact absurd (show nI 99 < nI i from cqh) (Int32.not_lt.mpr (nI_le (by omega) (by omega)))
          · refine p_run (pc' := 61) [.aload_n 0, .getfield 35, .aload_n 0, .getfield 28] mkX7_wax (by decide +kernel) rfl rfl ?_
            refine p_callVo (cbec47_11 w (k := k - 1) (by omega) N hh hI (hP.of (fun a h1 h2 => hF a (by omega) (by omega) (by omega)) hn10)) (fun _ _ q => q.1) kvX7_190 (by decide +kernel) (by decide) rfl (by omega) rfl rfl rfl rfl rfl (fun h' hq => ?_)
            obtain ⟨-, hR1, hF1⟩ := hq
            rename Mm => h1
            refine p_run (pc' := 68) [.aload 4, .iload 5] mkX7_wax (by decide +kernel) rfl rfl ?_
            refine p_put (by decide +kernel) fo7_99 (obD pp47 (by omega)).1 (obD pp47 (by omega)).2.1 rfl ((obD pp47 (by omega)).2.2 _) ?_
            have hR2 := hR1.upD (j := 2) (x := nI i) hd (by omega) hn10
            have hF2 : Fp 47 h1 (up h1 (47 + 7 + d) 2 (nI i)) := Fp.u1 (by omega)
            have hI2 : Iv (upd N (20 + 5 * d + 2) (nI i)) := hI.dk (by omega) (by omega) (In_nI (show i ≤ bdF 2 by simp [bdF]; omega) (by decide))
            have hT2 : TR (up h1 (47 + 7 + d) 2 (nI i)) (upd N (20 + 5 * d + 2) (nI i)) := (hT.fp pp47 ((hF.tr hF1).tr hF2)).da (fun j hj => upd_n (by omega)) (upd_n (by omega))
            have hd2 : d < nd (upd N (20 + 5 * d + 2) (nI i)) := by rw [nd_upd (by omega)]; exact hd
            generalize up h1 (47 + 7 + d) 2 (nI i) = h2 at *
            refine p_run (pc' := 76) [.aload_n 0, .getfield 35, .iload_n 2] mkX7_wax (by decide +kernel) rfl rfl ?_
            refine p_callVo (cpass47 w (k := k - 1) (by omega) (n) (by omega) (upd N (20 + 5 * d + 2) (nI i)) h2 (hI2) hR2 (hT2)) (fun _ _ q => q.1) kvX7_171 (by decide +kernel) (by decide) rfl (by omega) rfl rfl rfl rfl rfl (fun h' hq => ?_)
            obtain ⟨-, hR3, hF3⟩ := hq
            rename Mm => h3
            have hd3 : d < nd (nsF (upd N (20 + 5 * d + 2) (nI i)) n) := by unfold nd; rw [nsF_out hI2 (by omega)]; exact hd2
            refine p_run (pc' := 81) [.aload 4] mkX7_wax (by decide +kernel) rfl rfl ?_
            refine p_getI (by decide +kernel) fo7_105 (obD pp47 (by omega)).1 (obD pp47 (by omega)).2.1 ((obD pp47 (by omega)).2.2 _) ?_
            rw [hR3.2.2.1 d hd3 4 (by omega)]
            refine p_run (pc' := 85) [.iload_n 3] mkX7_wax (by decide +kernel) rfl rfl ?_
            refine p_icmp_lt (off := 6) 91 (by decide +kernel) (by decide) (fun cq1 => ?_) (fun cq1 => ?_)
            · rw [if_neg (fun q => Int32.not_le.mpr cq1 (of_decide_eq_true q))] at hJ1
              refine p_run (pc' := 46) [.iinc 5 1, .goto (-48)] mkX7_wax (by decide +kernel) rfl rfl ?_
              exact ih _ _ ⟨by rw [show nI i + Int32.ofInt 1 = nI (i + 1) by simp only [oI, nI_add]], hJ1, ((hF.tr hF1).tr hF2).tr hF3⟩
            · refine p_run (pc' := 90) [.iload 5] mkX7_wax (by decide +kernel) rfl rfl ?_
              refine p_iret rfl rfl (by decide +kernel) ?_
              rw [if_pos (decide_eq_true (Int32.not_lt.mp cq1))] at hJ1; exact ⟨by rw [hJ1]; rfl, ((hF.tr hF1).tr hF2).tr hF3⟩
        · rintro L hh ⟨rfl, hJ⟩
          obtain ⟨hJ1, hF⟩ := hJ
          refine p_run (pc' := 50) [.iload 5, .bipush 99] mkX7_wax (by decide +kernel) rfl rfl ?_
          refine p_icmp_gt (off := 47) 97 (by decide +kernel) (by decide) (fun cqh => ?_) (fun cqh => ?_)
          · refine p_run (pc' := 99) [.ldc 194] mkX7_wax (by decide +kernel) rfl rfl ?_
            refine p_iret rfl rfl (by decide +kernel) ?_
            exact ⟨by rw [hJ1, fst_end]; rfl, hF⟩
          · exact False.elim (cqh (by decide))
        · exact ⟨rfl, rfl, Fp.rf⟩
      · have cq26 := bI0.mp cq26
        exact absurd (hv) cq26
theorem st_wax (w : Wt) {k : Nat} (hk : 200 ≤ k) (a b c : Int32) (h : Mm) (hR : Rel h) : St w k MX7_wax MX8_wax [.int a, .int b, .int c] h := by
  obtain ⟨⟨hP, hI, hQ, hT, hq⟩, -⟩ := id hR
  by_cases hg : isD (h 97) a ∧ inR b 0 30 ∧ inR c 0 9999
  · obtain ⟨d, hd, rfl⟩ := isD_of hI.nd.1 hI.nd.2 hg.1
    obtain ⟨n, -, hn, rfl⟩ := inR_of (by omega) (by omega) hg.2.1
    exact St.pure hR (c_wax w hk d n c (h 97) h hI hP hT hd hn hg.2.2) (fun h1 hF => by
      have e : h1 97 = h 97 := hF 97 (by omega) (by omega) (by omega)
      exact (r_wax w (by omega) d n c h1 (by rw [e]; exact hI) (by rw [e]; exact hQ) (by rw [e]; exact hd) hn hg.2.2).imp (fun r h2 z => ⟨by rw [z.1, e], Ag3 z.2⟩))
  · exact St.word hR (c_wax_bad w hk a b c (h 97) h hP hg) (r_wax_bad w (by omega) a b c h hg)
set_option maxRecDepth 20000 in
set_option maxHeartbeats 4000000 in
theorem c_sent_bad (w : Wt) {k : Nat} (hk : 200 ≤ k) (a b c : Int32) (N : Vc) (h : Mm) (hP : PR 11 h N)  (hb : ¬ (isD N a ∧ inR b 1 60 ∧ inR c 0 1)) : Ok w k MX7_sent [.ref 0, .int a, .int b, .int c] h (Rv BADv h) := by
  show Wp w k MX7_sent _ 0 [some (.ref 0), some (.int a), some (.int b), some (.int c), none, none, none, none] [] h
  refine p_run (pc' := 2) [.aload_n 0, .iload_n 1] mkX7_sent (by decide +kernel) rfl rfl ?_
  refine p_callVv (cisDigger_ok w (k := k - 1) (by omega) _ N _ hP.1.1) kvX7_84 (by decide +kernel) (by decide) rfl (by omega) rfl rfl rfl rfl rfl ?_
  refine p_if_eq (off := 22) 27 (by decide +kernel) (by decide) (fun cq5 => ?_) (fun cq5 => ?_)
  · have cq5 := bI0.mp cq5
    refine p_run (pc' := 29) [.ldc 75] mkX7_sent (by decide +kernel) rfl rfl ?_
    refine p_iret rfl rfl (by decide +kernel) ?_
    exact ⟨rfl, rfl⟩
  · have cq5 := bI1.mp cq5
    refine p_run (pc' := 12) [.iload_n 2, .iconst 1, .bipush 60] mkX7_sent (by decide +kernel) rfl rfl ?_
    refine p_callSv (cwithin_ok w (k := k - 1) _ _ _ _) ksX7_68 (by decide +kernel) (by omega) rfl rfl rfl rfl rfl ?_
    refine p_if_eq (off := 12) 27 (by decide +kernel) (by decide) (fun cq15 => ?_) (fun cq15 => ?_)
    · have cq15 := bI0.mp cq15
      refine p_run (pc' := 29) [.ldc 75] mkX7_sent (by decide +kernel) rfl rfl ?_
      refine p_iret rfl rfl (by decide +kernel) ?_
      exact ⟨rfl, rfl⟩
    · have cq15 := bI1.mp cq15
      refine p_run (pc' := 21) [.iload_n 3, .iconst 0, .iconst 1] mkX7_sent (by decide +kernel) rfl rfl ?_
      refine p_callSv (cwithin_ok w (k := k - 1) _ _ _ _) ksX7_68 (by decide +kernel) (by omega) rfl rfl rfl rfl rfl ?_
      refine p_if_ne (off := 6) 30 (by decide +kernel) (by decide) (fun cq24 => ?_) (fun cq24 => ?_)
      · have cq24 := bI1.mp cq24
        exact absurd (⟨cq5, cq15, cq24⟩) hb
      · have cq24 := bI0.mp cq24
        refine p_run (pc' := 29) [.ldc 75] mkX7_sent (by decide +kernel) rfl rfl ?_
        refine p_iret rfl rfl (by decide +kernel) ?_
        exact ⟨rfl, rfl⟩
set_option maxRecDepth 20000 in
set_option maxHeartbeats 4000000 in
theorem c_sent (w : Wt) {k : Nat} (hk : 200 ≤ k) (d n j : Nat) (N : Vc) (h : Mm) (hI : Iv N) (hP : PR 11 h N) (hT : TR h N) (hd : d < nd N) (hn : 1 ≤ n ∧ n ≤ 60) (hj : j ≤ 1) : Ok w k MX7_sent [.ref 0, .int (nI d), .int (nI n), .int (nI j)] h (Rp (if j = 0 then nI (bsF (fun x => dK (nsF (upd N (20 + 5 * d + 3) (nI x)) n) d 4) 4).1 else (bsF (fun x => dK (nsF (upd N (20 + 5 * d + 3) (nI x)) n) d 4) 4).2) h) := by
  show Wp w k MX7_sent _ 0 [some (.ref 0), some (.int (nI d)), some (.int (nI n)), some (.int (nI j)), none, none, none, none] [] h
  have hn10 := hI.nd.2
  have hD := isD_nI hI.nd.1 hd hn10
  refine p_run (pc' := 2) [.aload_n 0, .iload_n 1] mkX7_sent (by decide +kernel) rfl rfl ?_
  refine p_callVv (cisDigger_ok w (k := k - 1) (by omega) _ N _ hP.1.1) kvX7_84 (by decide +kernel) (by decide) rfl (by omega) rfl rfl rfl rfl rfl ?_
  refine p_if_eq (off := 22) 27 (by decide +kernel) (by decide) (fun cq5 => ?_) (fun cq5 => ?_)
  · have cq5 := bI0.mp cq5
    exact absurd (hD) cq5
  · have cq5 := bI1.mp cq5
    refine p_run (pc' := 12) [.iload_n 2, .iconst 1, .bipush 60] mkX7_sent (by decide +kernel) rfl rfl ?_
    refine p_callSv (cwithin_ok w (k := k - 1) _ _ _ _) ksX7_68 (by decide +kernel) (by omega) rfl rfl rfl rfl rfl ?_
    refine p_if_eq (off := 12) 27 (by decide +kernel) (by decide) (fun cq15 => ?_) (fun cq15 => ?_)
    · have cq15 := bI0.mp cq15
      exact absurd (in_nI (j := n) (lo := 1) (hi := 60) (by omega) (by omega) (by omega)) cq15
    · have cq15 := bI1.mp cq15
      refine p_run (pc' := 21) [.iload_n 3, .iconst 0, .iconst 1] mkX7_sent (by decide +kernel) rfl rfl ?_
      refine p_callSv (cwithin_ok w (k := k - 1) _ _ _ _) ksX7_68 (by decide +kernel) (by omega) rfl rfl rfl rfl rfl ?_
      refine p_if_ne (off := 6) 30 (by decide +kernel) (by decide) (fun cq24 => ?_) (fun cq24 => ?_)
      · have cq24 := bI1.mp cq24
        refine p_run (pc' := 38) [.aload_n 0, .getfield 35, .getfield 87, .iload_n 1] mkX7_sent (by decide +kernel) rfl rfl ?_
        refine p_aald (d) (by decide +kernel) (by decide) rfl (by decide) rfl (by omega) (rfD47 d (by omega)) ?_
        refine p_run (pc' := 50) [.astore 4, .iconst 0, .istore 5, .iconst (-1), .istore 6, .iconst 0, .istore 7] mkX7_sent (by decide +kernel) rfl rfl ?_
        refine Wp.for (4) (fun i L hh => L = [some (.ref 0), some (.int (nI d)), some (.int (nI n)), some (.int (nI j)), some (.ref (47 + 7 + d)), some (.int (nI (bsF (fun x => dK (nsF (upd N (20 + 5 * d + 3) (nI x)) n) d 4) i).1)), some (.int (bsF (fun x => dK (nsF (upd N (20 + 5 * d + 3) (nI x)) n) d 4) i).2), some (.int (nI i))] ∧ Fp 47 h hh) ?_ ?_ (0) (by omega) _ _ ?_
        · rintro i L hh hi ⟨rfl, hJ⟩ ih
          rename Fp 47 h hh => hF
          refine p_run (pc' := 53) [.iload 7, .iconst 4] mkX7_sent (by decide +kernel) rfl rfl ?_
          refine p_icmp_ge (off := 56) 109 (by decide +kernel) (by decide) (fun cqh => ?_) (fun cqh => ?_)
          · exact absurd (show nI 4 ≤ nI i from cqh) (nI_ge (by omega) (by omega))
          · refine p_run (pc' := 64) [.aload_n 0, .getfield 35, .aload_n 0, .getfield 28] mkX7_sent (by decide +kernel) rfl rfl ?_
            refine p_callVo (cbec47_11 w (k := k - 1) (by omega) N hh hI (hP.of (fun a h1 h2 => hF a (by omega) (by omega) (by omega)) hn10)) (fun _ _ q => q.1) kvX7_190 (by decide +kernel) (by decide) rfl (by omega) rfl rfl rfl rfl rfl (fun h' hq => ?_)
            obtain ⟨-, hR1, hF1⟩ := hq
            rename Mm => h1
            refine p_run (pc' := 71) [.aload 4, .iload 7] mkX7_sent (by decide +kernel) rfl rfl ?_
            refine p_put (by decide +kernel) fo7_102 (obD pp47 (by omega)).1 (obD pp47 (by omega)).2.1 rfl ((obD pp47 (by omega)).2.2 _) ?_
            have hR2 := hR1.upD (j := 3) (x := nI i) hd (by omega) hn10
            have hF2 : Fp 47 h1 (up h1 (47 + 7 + d) 3 (nI i)) := Fp.u1 (by omega)
            have hI2 : Iv (upd N (20 + 5 * d + 3) (nI i)) := hI.dk (by omega) (by omega) (In_nI (show i ≤ bdF 3 by simp [bdF]; omega) (by decide))
            have hT2 : TR (up h1 (47 + 7 + d) 3 (nI i)) (upd N (20 + 5 * d + 3) (nI i)) := (hT.fp pp47 ((hF.tr hF1).tr hF2)).da (fun j hj => upd_n (by omega)) (upd_n (by omega))
            have hd2 : d < nd (upd N (20 + 5 * d + 3) (nI i)) := by rw [nd_upd (by omega)]; exact hd
            generalize up h1 (47 + 7 + d) 3 (nI i) = h2 at *
            refine p_run (pc' := 79) [.aload_n 0, .getfield 35, .iload_n 2] mkX7_sent (by decide +kernel) rfl rfl ?_
            refine p_callVo (cpass47 w (k := k - 1) (by omega) (n) (by omega) (upd N (20 + 5 * d + 3) (nI i)) h2 (hI2) hR2 (hT2)) (fun _ _ q => q.1) kvX7_171 (by decide +kernel) (by decide) rfl (by omega) rfl rfl rfl rfl rfl (fun h' hq => ?_)
            obtain ⟨-, hR3, hF3⟩ := hq
            rename Mm => h3
            have hd3 : d < nd (nsF (upd N (20 + 5 * d + 3) (nI i)) n) := by unfold nd; rw [nsF_out hI2 (by omega)]; exact hd2
            rename Fp 47 h2 _ => hF3
            refine p_run (pc' := 84) [.aload 4] mkX7_sent (by decide +kernel) rfl rfl ?_
            refine p_getI (by decide +kernel) fo7_105 (obD pp47 (by omega)).1 (obD pp47 (by omega)).2.1 ((obD pp47 (by omega)).2.2 _) ?_
            rw [hR3.2.2.1 d hd3 4 (by omega)]
            refine p_run (pc' := 89) [.iload 6] mkX7_sent (by decide +kernel) rfl rfl ?_
            refine p_icmp_le (off := 14) 103 (by decide +kernel) (by decide) (fun cq1 => ?_) (fun cq1 => ?_)
            · refine p_run (pc' := 50) [.iinc 7 1, .goto (-56)] mkX7_sent (by decide +kernel) rfl rfl ?_
              exact ih _ _ ⟨by rw [show nI i + Int32.ofInt 1 = nI (i + 1) by simp only [oI, nI_add], show bsF (fun x => dK (nsF (upd N (20 + 5 * d + 3) (nI x)) n) d 4) (i + 1) = bsF (fun x => dK (nsF (upd N (20 + 5 * d + 3) (nI x)) n) d 4) i from if_neg (Int32.not_lt.mpr cq1)], ((hF.tr hF1).tr hF2).tr hF3⟩
            · refine p_run (pc' := 94) [.aload 4] mkX7_sent (by decide +kernel) rfl rfl ?_
              refine p_getI (by decide +kernel) fo7_105 (obD pp47 (by omega)).1 (obD pp47 (by omega)).2.1 ((obD pp47 (by omega)).2.2 _) ?_
              rw [hR3.2.2.1 d hd3 4 (by omega)]
              refine p_run (pc' := 50) [.istore 6, .iload 7, .istore 5, .iinc 7 1, .goto (-56)] mkX7_sent (by decide +kernel) rfl rfl ?_
              exact ih _ _ ⟨by rw [show nI i + Int32.ofInt 1 = nI (i + 1) by simp only [oI, nI_add], show bsF (fun x => dK (nsF (upd N (20 + 5 * d + 3) (nI x)) n) d 4) (i + 1) = (i, (fun x => dK (nsF (upd N (20 + 5 * d + 3) (nI x)) n) d 4) i) from if_pos (Int32.not_le.mp cq1)] <;> rfl, ((hF.tr hF1).tr hF2).tr hF3⟩
        · rintro L hh ⟨rfl, hJ⟩
          refine p_run (pc' := 53) [.iload 7, .iconst 4] mkX7_sent (by decide +kernel) rfl rfl ?_
          refine p_icmp_ge (off := 56) 109 (by decide +kernel) (by decide) (fun cqh => ?_) (fun cqh => ?_)
          · rename Fp 47 h hh => hF
            refine p_run (pc' := 110) [.iload_n 3] mkX7_sent (by decide +kernel) rfl rfl ?_
            refine p_if_ne (off := 8) 118 (by decide +kernel) (by decide) (fun cq110 => ?_) (fun cq110 => ?_)
            · rw [nI_eq0 (by omega)] at cq110
              refine p_run (pc' := 120) [.iload 6] mkX7_sent (by decide +kernel) rfl rfl ?_
              refine p_iret rfl rfl (by decide +kernel) ?_
              exact ⟨by rw [if_neg cq110], hF⟩
            · rw [nI_eq0 (by omega)] at cq110
              refine p_run (pc' := 120) [.iload 5, .goto 5] mkX7_sent (by decide +kernel) rfl rfl ?_
              refine p_iret rfl rfl (by decide +kernel) ?_
              exact ⟨by rw [if_pos cq110], hF⟩
          · exact False.elim (cqh (by decide))
        · exact ⟨rfl, Fp.rf⟩
      · have cq24 := bI0.mp cq24
        exact absurd (in_nI (j := j) (lo := 0) (hi := 1) (by omega) (by omega) (by omega)) cq24
theorem st_sent (w : Wt) {k : Nat} (hk : 200 ≤ k) (a b c : Int32) (h : Mm) (hR : Rel h) : St w k MX7_sent MX8_sent [.int a, .int b, .int c] h := by
  obtain ⟨⟨hP, hI, hQ, hT, hq⟩, -⟩ := id hR
  by_cases hg : isD (h 97) a ∧ inR b 1 60 ∧ inR c 0 1
  · obtain ⟨d, hd, rfl⟩ := isD_of hI.nd.1 hI.nd.2 hg.1
    obtain ⟨n, hn0, hn, rfl⟩ := inR_of (by omega) (by omega) hg.2.1
    obtain ⟨j, -, hj, rfl⟩ := inR_of (by omega) (by omega) hg.2.2
    exact St.pure hR (c_sent w hk d n j (h 97) h hI hP hT hd ⟨hn0, hn⟩ hj) (fun h1 hF => by
      have e : h1 97 = h 97 := hF 97 (by omega) (by omega) (by omega)
      exact (r_sent w (by omega) d n j h1 (by rw [e]; exact hI) (by rw [e]; exact hQ) (by rw [e]; exact hd) ⟨hn0, hn⟩ hj).imp (fun r h2 z => ⟨by rw [z.1, e], Ag3 z.2⟩))
  · exact St.word hR (c_sent_bad w hk a b c (h 97) h hP hg) (r_sent_bad w (by omega) a b c h hg)
set_option maxRecDepth 20000 in
set_option maxHeartbeats 4000000 in
theorem c_becomes_bad (w : Wt) {k : Nat} (hk : 200 ≤ k) (a b c : Int32) (N : Vc) (h : Mm) (hP : PR 11 h N)  (hb : ¬ (isD N a ∧ inR b 1 60 ∧ inR c 0 1)) : Ok w k MX7_becomes [.ref 0, .int a, .int b, .int c] h (Rv BADv h) := by
  show Wp w k MX7_becomes _ 0 [some (.ref 0), some (.int a), some (.int b), some (.int c), none, none, none, none] [] h
  refine p_run (pc' := 2) [.aload_n 0, .iload_n 1] mkX7_becomes (by decide +kernel) rfl rfl ?_
  refine p_callVv (cisDigger_ok w (k := k - 1) (by omega) _ N _ hP.1.1) kvX7_84 (by decide +kernel) (by decide) rfl (by omega) rfl rfl rfl rfl rfl ?_
  refine p_if_eq (off := 22) 27 (by decide +kernel) (by decide) (fun cq5 => ?_) (fun cq5 => ?_)
  · have cq5 := bI0.mp cq5
    refine p_run (pc' := 29) [.ldc 75] mkX7_becomes (by decide +kernel) rfl rfl ?_
    refine p_iret rfl rfl (by decide +kernel) ?_
    exact ⟨rfl, rfl⟩
  · have cq5 := bI1.mp cq5
    refine p_run (pc' := 12) [.iload_n 2, .iconst 1, .bipush 60] mkX7_becomes (by decide +kernel) rfl rfl ?_
    refine p_callSv (cwithin_ok w (k := k - 1) _ _ _ _) ksX7_68 (by decide +kernel) (by omega) rfl rfl rfl rfl rfl ?_
    refine p_if_eq (off := 12) 27 (by decide +kernel) (by decide) (fun cq15 => ?_) (fun cq15 => ?_)
    · have cq15 := bI0.mp cq15
      refine p_run (pc' := 29) [.ldc 75] mkX7_becomes (by decide +kernel) rfl rfl ?_
      refine p_iret rfl rfl (by decide +kernel) ?_
      exact ⟨rfl, rfl⟩
    · have cq15 := bI1.mp cq15
      refine p_run (pc' := 21) [.iload_n 3, .iconst 0, .iconst 1] mkX7_becomes (by decide +kernel) rfl rfl ?_
      refine p_callSv (cwithin_ok w (k := k - 1) _ _ _ _) ksX7_68 (by decide +kernel) (by omega) rfl rfl rfl rfl rfl ?_
      refine p_if_ne (off := 6) 30 (by decide +kernel) (by decide) (fun cq24 => ?_) (fun cq24 => ?_)
      · have cq24 := bI1.mp cq24
        exact absurd (⟨cq5, cq15, cq24⟩) hb
      · have cq24 := bI0.mp cq24
        refine p_run (pc' := 29) [.ldc 75] mkX7_becomes (by decide +kernel) rfl rfl ?_
        refine p_iret rfl rfl (by decide +kernel) ?_
        exact ⟨rfl, rfl⟩
set_option maxRecDepth 20000 in
set_option maxHeartbeats 4000000 in
theorem c_becomes (w : Wt) {k : Nat} (hk : 200 ≤ k) (d n j : Nat) (N : Vc) (h : Mm) (hI : Iv N) (hP : PR 11 h N) (hT : TR h N) (hd : d < nd N) (hn : 1 ≤ n ∧ n ≤ 60) (hj : j ≤ 1) : Ok w k MX7_becomes [.ref 0, .int (nI d), .int (nI n), .int (nI j)] h (Rp (if j = 0 then nI (bsF (fun x => dK (nsF (upd N (20 + 5 * d) (nI x)) n) d 4) 6).1 else (bsF (fun x => dK (nsF (upd N (20 + 5 * d) (nI x)) n) d 4) 6).2) h) := by
  show Wp w k MX7_becomes _ 0 [some (.ref 0), some (.int (nI d)), some (.int (nI n)), some (.int (nI j)), none, none, none, none] [] h
  have hn10 := hI.nd.2
  have hD := isD_nI hI.nd.1 hd hn10
  refine p_run (pc' := 2) [.aload_n 0, .iload_n 1] mkX7_becomes (by decide +kernel) rfl rfl ?_
  refine p_callVv (cisDigger_ok w (k := k - 1) (by omega) _ N _ hP.1.1) kvX7_84 (by decide +kernel) (by decide) rfl (by omega) rfl rfl rfl rfl rfl ?_
  refine p_if_eq (off := 22) 27 (by decide +kernel) (by decide) (fun cq5 => ?_) (fun cq5 => ?_)
  · have cq5 := bI0.mp cq5
    exact absurd (hD) cq5
  · have cq5 := bI1.mp cq5
    refine p_run (pc' := 12) [.iload_n 2, .iconst 1, .bipush 60] mkX7_becomes (by decide +kernel) rfl rfl ?_
    refine p_callSv (cwithin_ok w (k := k - 1) _ _ _ _) ksX7_68 (by decide +kernel) (by omega) rfl rfl rfl rfl rfl ?_
    refine p_if_eq (off := 12) 27 (by decide +kernel) (by decide) (fun cq15 => ?_) (fun cq15 => ?_)
    · have cq15 := bI0.mp cq15
      exact absurd (in_nI (j := n) (lo := 1) (hi := 60) (by omega) (by omega) (by omega)) cq15
    · have cq15 := bI1.mp cq15
      refine p_run (pc' := 21) [.iload_n 3, .iconst 0, .iconst 1] mkX7_becomes (by decide +kernel) rfl rfl ?_
      refine p_callSv (cwithin_ok w (k := k - 1) _ _ _ _) ksX7_68 (by decide +kernel) (by omega) rfl rfl rfl rfl rfl ?_
      refine p_if_ne (off := 6) 30 (by decide +kernel) (by decide) (fun cq24 => ?_) (fun cq24 => ?_)
      · have cq24 := bI1.mp cq24
        refine p_run (pc' := 38) [.aload_n 0, .getfield 35, .getfield 87, .iload_n 1] mkX7_becomes (by decide +kernel) rfl rfl ?_
        refine p_aald (d) (by decide +kernel) (by decide) rfl (by decide) rfl (by omega) (rfD47 d (by omega)) ?_
        refine p_run (pc' := 50) [.astore 4, .iconst 0, .istore 5, .iconst (-1), .istore 6, .iconst 0, .istore 7] mkX7_becomes (by decide +kernel) rfl rfl ?_
        refine Wp.for (6) (fun i L hh => L = [some (.ref 0), some (.int (nI d)), some (.int (nI n)), some (.int (nI j)), some (.ref (47 + 7 + d)), some (.int (nI (bsF (fun x => dK (nsF (upd N (20 + 5 * d) (nI x)) n) d 4) i).1)), some (.int (bsF (fun x => dK (nsF (upd N (20 + 5 * d) (nI x)) n) d 4) i).2), some (.int (nI i))] ∧ Fp 47 h hh) ?_ ?_ (0) (by omega) _ _ ?_
        · rintro i L hh hi ⟨rfl, hJ⟩ ih
          rename Fp 47 h hh => hF
          refine p_run (pc' := 53) [.iload 7, .iconst 5] mkX7_becomes (by decide +kernel) rfl rfl ?_
          refine p_icmp_gt (off := 56) 109 (by decide +kernel) (by decide) (fun cqh => ?_) (fun cqh => ?_)
          · exact absurd (show nI 5 < nI i from cqh) (Int32.not_lt.mpr (nI_le (by omega) (by omega)))
          · refine p_run (pc' := 64) [.aload_n 0, .getfield 35, .aload_n 0, .getfield 28] mkX7_becomes (by decide +kernel) rfl rfl ?_
            refine p_callVo (cbec47_11 w (k := k - 1) (by omega) N hh hI (hP.of (fun a h1 h2 => hF a (by omega) (by omega) (by omega)) hn10)) (fun _ _ q => q.1) kvX7_190 (by decide +kernel) (by decide) rfl (by omega) rfl rfl rfl rfl rfl (fun h' hq => ?_)
            obtain ⟨-, hR1, hF1⟩ := hq
            rename Mm => h1
            refine p_run (pc' := 71) [.aload 4, .iload 7] mkX7_becomes (by decide +kernel) rfl rfl ?_
            refine p_put (by decide +kernel) fo7_91 (obD pp47 (by omega)).1 (obD pp47 (by omega)).2.1 rfl ((obD pp47 (by omega)).2.2 _) ?_
            have hR2 := hR1.upD (j := 0) (x := nI i) hd (by omega) hn10
            have hF2 : Fp 47 h1 (up h1 (47 + 7 + d) 0 (nI i)) := Fp.u1 (by omega)
            have hI2 : Iv (upd N (20 + 5 * d + 0) (nI i)) := hI.dk (by omega) (by omega) (In_nI (show i ≤ bdF 0 by simp [bdF]; omega) (by decide))
            have hT2 : TR (up h1 (47 + 7 + d) 0 (nI i)) (upd N (20 + 5 * d + 0) (nI i)) := (hT.fp pp47 ((hF.tr hF1).tr hF2)).da (fun j hj => upd_n (by omega)) (upd_n (by omega))
            have hd2 : d < nd (upd N (20 + 5 * d + 0) (nI i)) := by rw [nd_upd (by omega)]; exact hd
            generalize up h1 (47 + 7 + d) 0 (nI i) = h2 at *
            refine p_run (pc' := 79) [.aload_n 0, .getfield 35, .iload_n 2] mkX7_becomes (by decide +kernel) rfl rfl ?_
            refine p_callVo (cpass47 w (k := k - 1) (by omega) (n) (by omega) (upd N (20 + 5 * d + 0) (nI i)) h2 (hI2) hR2 (hT2)) (fun _ _ q => q.1) kvX7_171 (by decide +kernel) (by decide) rfl (by omega) rfl rfl rfl rfl rfl (fun h' hq => ?_)
            obtain ⟨-, hR3, hF3⟩ := hq
            rename Mm => h3
            have hd3 : d < nd (nsF (upd N (20 + 5 * d + 0) (nI i)) n) := by unfold nd; rw [nsF_out hI2 (by omega)]; exact hd2
            rename Fp 47 h2 _ => hF3
            refine p_run (pc' := 84) [.aload 4] mkX7_becomes (by decide +kernel) rfl rfl ?_
            refine p_getI (by decide +kernel) fo7_105 (obD pp47 (by omega)).1 (obD pp47 (by omega)).2.1 ((obD pp47 (by omega)).2.2 _) ?_
            rw [hR3.2.2.1 d hd3 4 (by omega)]
            refine p_run (pc' := 89) [.iload 6] mkX7_becomes (by decide +kernel) rfl rfl ?_
            refine p_icmp_le (off := 14) 103 (by decide +kernel) (by decide) (fun cq1 => ?_) (fun cq1 => ?_)
            · refine p_run (pc' := 50) [.iinc 7 1, .goto (-56)] mkX7_becomes (by decide +kernel) rfl rfl ?_
              exact ih _ _ ⟨by rw [show nI i + Int32.ofInt 1 = nI (i + 1) by simp only [oI, nI_add], show bsF (fun x => dK (nsF (upd N (20 + 5 * d) (nI x)) n) d 4) (i + 1) = bsF (fun x => dK (nsF (upd N (20 + 5 * d) (nI x)) n) d 4) i from if_neg (Int32.not_lt.mpr cq1)], ((hF.tr hF1).tr hF2).tr hF3⟩
            · refine p_run (pc' := 94) [.aload 4] mkX7_becomes (by decide +kernel) rfl rfl ?_
              refine p_getI (by decide +kernel) fo7_105 (obD pp47 (by omega)).1 (obD pp47 (by omega)).2.1 ((obD pp47 (by omega)).2.2 _) ?_
              rw [hR3.2.2.1 d hd3 4 (by omega)]
              refine p_run (pc' := 50) [.istore 6, .iload 7, .istore 5, .iinc 7 1, .goto (-56)] mkX7_becomes (by decide +kernel) rfl rfl ?_
              exact ih _ _ ⟨by rw [show nI i + Int32.ofInt 1 = nI (i + 1) by simp only [oI, nI_add], show bsF (fun x => dK (nsF (upd N (20 + 5 * d) (nI x)) n) d 4) (i + 1) = (i, (fun x => dK (nsF (upd N (20 + 5 * d) (nI x)) n) d 4) i) from if_pos (Int32.not_le.mp cq1)] <;> rfl, ((hF.tr hF1).tr hF2).tr hF3⟩
        · rintro L hh ⟨rfl, hJ⟩
          refine p_run (pc' := 53) [.iload 7, .iconst 5] mkX7_becomes (by decide +kernel) rfl rfl ?_
          refine p_icmp_gt (off := 56) 109 (by decide +kernel) (by decide) (fun cqh => ?_) (fun cqh => ?_)
          · rename Fp 47 h hh => hF
            refine p_run (pc' := 110) [.iload_n 3] mkX7_becomes (by decide +kernel) rfl rfl ?_
            refine p_if_ne (off := 8) 118 (by decide +kernel) (by decide) (fun cq110 => ?_) (fun cq110 => ?_)
            · rw [nI_eq0 (by omega)] at cq110
              refine p_run (pc' := 120) [.iload 6] mkX7_becomes (by decide +kernel) rfl rfl ?_
              refine p_iret rfl rfl (by decide +kernel) ?_
              exact ⟨by rw [if_neg cq110], hF⟩
            · rw [nI_eq0 (by omega)] at cq110
              refine p_run (pc' := 120) [.iload 5, .goto 5] mkX7_becomes (by decide +kernel) rfl rfl ?_
              refine p_iret rfl rfl (by decide +kernel) ?_
              exact ⟨by rw [if_pos cq110], hF⟩
          · exact False.elim (cqh (by decide))
        · exact ⟨rfl, Fp.rf⟩
      · have cq24 := bI0.mp cq24
        exact absurd (in_nI (j := j) (lo := 0) (hi := 1) (by omega) (by omega) (by omega)) cq24
theorem st_becomes (w : Wt) {k : Nat} (hk : 200 ≤ k) (a b c : Int32) (h : Mm) (hR : Rel h) : St w k MX7_becomes MX8_becomes [.int a, .int b, .int c] h := by
  obtain ⟨⟨hP, hI, hQ, hT, hq⟩, -⟩ := id hR
  by_cases hg : isD (h 97) a ∧ inR b 1 60 ∧ inR c 0 1
  · obtain ⟨d, hd, rfl⟩ := isD_of hI.nd.1 hI.nd.2 hg.1
    obtain ⟨n, hn0, hn, rfl⟩ := inR_of (by omega) (by omega) hg.2.1
    obtain ⟨j, -, hj, rfl⟩ := inR_of (by omega) (by omega) hg.2.2
    exact St.pure hR (c_becomes w hk d n j (h 97) h hI hP hT hd ⟨hn0, hn⟩ hj) (fun h1 hF => by
      have e : h1 97 = h 97 := hF 97 (by omega) (by omega) (by omega)
      exact (r_becomes w (by omega) d n j h1 (by rw [e]; exact hI) (by rw [e]; exact hQ) (by rw [e]; exact hd) ⟨hn0, hn⟩ hj).imp (fun r h2 z => ⟨by rw [z.1, e], Ag3 z.2⟩))
  · exact St.word hR (c_becomes_bad w hk a b c (h 97) h hP hg) (r_becomes_bad w (by omega) a b c h hg)
