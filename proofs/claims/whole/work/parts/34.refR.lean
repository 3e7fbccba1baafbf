/-! the reference: pour, reads, copy, lay, ask, item, rest -/
def tpF (N : Vc) (c : Nat → Int32) (i : Nat) : Int32 := if c i = NONEv then dK N i 2 else clF (c i) (nI 0) (nI 99)
def poN (N : Vc) (c : Nat → Int32) : Nat → Vc
  | 0 => N
  | i + 1 => upd (poN N c i) (20 + 5 * i + 2) (tpF N c i)
theorem poN_out {N : Vc} {c : Nat → Int32} {j : Nat} : ∀ (i : Nat), (∀ d, d < i → j ≠ 20 + 5 * d + 2) → poN N c i j = N j
  | 0, _ => rfl
  | i + 1, h => by rw [poN, upd_n (h i (by omega)), poN_out i (fun d hd => h d (by omega))]
def pcB (N : Vc) (c : Nat → Int32) (i : Nat) : Bool := decide (¬ dK N i 2 = tpF N c i)
theorem pcB_iff {N : Vc} {c : Nat → Int32} {i : Nat} : pcB N c i = true ↔ ¬ dK N i 2 = tpF N c i := by unfold pcB; simp
def rdB (N : Vc) (c : Nat → Int32) (i : Nat) : Bool := decide (¬ c i = NONEv ∧ (¬ i < nd N ∨ ¬ c i = dK N i 3))
theorem rdB_iff {N : Vc} {c : Nat → Int32} {i : Nat} : rdB N c i = true ↔ (¬ c i = NONEv ∧ (¬ i < nd N ∨ ¬ c i = dK N i 3)) := by unfold rdB; exact decide_eq_true_iff
theorem isD_lt {N : Vc} {n i : Nat} (hn : N 1 = nI n) (hn2 : n ≤ 10) (hi : i < 100) : (nI 0 ≤ nI i ∧ nI i ≤ N 1 - nI 1) ↔ i < n := by
  constructor
  · intro h
    obtain ⟨d, hd, e⟩ := isD_of hn hn2 h
    have : i = d := (nI_eq (by omega) (by omega)).mp e
    omega
  · exact fun h => isD_nI hn h hn2
set_option maxRecDepth 20000 in
set_option maxHeartbeats 4000000 in
theorem r_pour_bad (w : Wt) {k : Nat} (hk : 2 ≤ k) (a : Int32) (h : Mm) (hb : ¬ inR a 0 3) : Ok w k MX8_pour [.ref 96, .int a] h (Rv BADv h) := by
  show Wp w k MX8_pour _ 0 [some (.ref 96), some (.int a), none, none, none, none] [] h
  refine p_run (pc' := 1) [.iload_n 1] mkX8_pour (by decide +kernel) rfl rfl ?_
  refine p_callSv (risSheet_ok w (k := k - 1) (by omega) _ _) ksX8_206 (by decide +kernel) (by omega) rfl rfl rfl rfl rfl ?_
  refine p_if_ne (off := 6) 10 (by decide +kernel) (by decide) (fun cq4 => ?_) (fun cq4 => ?_)
  · have cq4 := bI1.mp cq4
    exact absurd cq4 hb
  · have cq4 := bI0.mp cq4
    refine p_run (pc' := 9) [.ldc 123] mkX8_pour (by decide +kernel) rfl rfl ?_
    refine p_iret rfl rfl (by decide +kernel) ?_
    exact ⟨rfl, rfl⟩
set_option maxRecDepth 20000 in
set_option maxHeartbeats 4000000 in
theorem r_pour_no (w : Wt) {k : Nat} (hk : 2 ≤ k) (s : Nat) (hs : s < 4) (h : Mm) (hno : h 109 s < 0) : Ok w k MX8_pour [.ref 96, .int (nI s)] h (Rv NOTHINGv h) := by
  show Wp w k MX8_pour _ 0 [some (.ref 96), some (.int (nI s)), none, none, none, none] [] h
  refine p_run (pc' := 1) [.iload_n 1] mkX8_pour (by decide +kernel) rfl rfl ?_
  refine p_callSv (isSheet_t w (k := k - 1) (by omega) _ _ (in_nI (lo := 0) (hi := 3) (by omega) (Nat.le_of_lt_succ hs) (by omega))) ksX8_206 (by decide +kernel) (by omega) rfl rfl rfl rfl rfl ?_
  refine p_if_ne (off := 6) 10 (by decide +kernel) (by decide) (fun cq4 => ?_) (fun cq4 => ?_)
  · refine p_run (pc' := 15) [.aload_n 0, .getfield 48, .iload_n 1] mkX8_pour (by decide +kernel) rfl rfl ?_
    refine p_iald (s) (by decide +kernel) rfl rfl (by first | rfl | simp only [oI]) (by omega) ?_
    refine p_if_ge (off := 6) 22 (by decide +kernel) (by decide) (fun cq16 => ?_) (fun cq16 => ?_)
    · exact absurd cq16 (Int32.not_le.mpr hno)
    · refine p_run (pc' := 21) [.ldc 209] mkX8_pour (by decide +kernel) rfl rfl ?_
      refine p_iret rfl rfl (by decide +kernel) ?_
      exact ⟨rfl, rfl⟩
  · exact False.elim (by revert cq4; decide)
set_option maxRecDepth 20000 in
set_option maxHeartbeats 4000000 in
theorem r_reads_bad (w : Wt) {k : Nat} (hk : 2 ≤ k) (a : Int32) (h : Mm) (hb : ¬ inR a 0 3) : Ok w k MX8_reads [.ref 96, .int a] h (Rv BADv h) := by
  show Wp w k MX8_reads _ 0 [some (.ref 96), some (.int a), none, none] [] h
  refine p_run (pc' := 1) [.iload_n 1] mkX8_reads (by decide +kernel) rfl rfl ?_
  refine p_callSv (risSheet_ok w (k := k - 1) (by omega) _ _) ksX8_206 (by decide +kernel) (by omega) rfl rfl rfl rfl rfl ?_
  refine p_if_ne (off := 6) 10 (by decide +kernel) (by decide) (fun cq4 => ?_) (fun cq4 => ?_)
  · have cq4 := bI1.mp cq4
    exact absurd cq4 hb
  · have cq4 := bI0.mp cq4
    refine p_run (pc' := 9) [.ldc 123] mkX8_reads (by decide +kernel) rfl rfl ?_
    refine p_iret rfl rfl (by decide +kernel) ?_
    exact ⟨rfl, rfl⟩
set_option maxRecDepth 20000 in
set_option maxHeartbeats 4000000 in
theorem r_reads_no (w : Wt) {k : Nat} (hk : 2 ≤ k) (s : Nat) (hs : s < 4) (h : Mm) (hno : h 109 s < 0) : Ok w k MX8_reads [.ref 96, .int (nI s)] h (Rv NOTHINGv h) := by
  show Wp w k MX8_reads _ 0 [some (.ref 96), some (.int (nI s)), none, none] [] h
  refine p_run (pc' := 1) [.iload_n 1] mkX8_reads (by decide +kernel) rfl rfl ?_
  refine p_callSv (isSheet_t w (k := k - 1) (by omega) _ _ (in_nI (lo := 0) (hi := 3) (by omega) (Nat.le_of_lt_succ hs) (by omega))) ksX8_206 (by decide +kernel) (by omega) rfl rfl rfl rfl rfl ?_
  refine p_if_ne (off := 6) 10 (by decide +kernel) (by decide) (fun cq4 => ?_) (fun cq4 => ?_)
  · refine p_run (pc' := 15) [.aload_n 0, .getfield 48, .iload_n 1] mkX8_reads (by decide +kernel) rfl rfl ?_
    refine p_iald (s) (by decide +kernel) rfl rfl (by first | rfl | simp only [oI]) (by omega) ?_
    refine p_if_ge (off := 6) 22 (by decide +kernel) (by decide) (fun cq16 => ?_) (fun cq16 => ?_)
    · exact absurd cq16 (Int32.not_le.mpr hno)
    · refine p_run (pc' := 21) [.ldc 209] mkX8_reads (by decide +kernel) rfl rfl ?_
      refine p_iret rfl rfl (by decide +kernel) ?_
      exact ⟨rfl, rfl⟩
  · exact False.elim (by revert cq4; decide)
set_option maxRecDepth 20000 in
set_option maxHeartbeats 4000000 in
theorem r_pour (w : Wt) {k : Nat} (hk : 2 ≤ k) (s sz : Nat) (hs : s < 4) (hz : sz ≤ 24) (h : Mm) (hsz : h 110 s = nI sz) (hI : Iv (h 97)) (hy : ¬ h 109 s < 0) : Ok w k MX8_pour [.ref 96, .int (nI s)] h (fun r h' => r = some (.int (nI (cntF (pcB (h 97) (fun k => h 111 (24 * s + k))) (min sz (nd (h 97)))))) ∧ h' 97 = poN (h 97) (fun k => h 111 (24 * s + k)) (min sz (nd (h 97))) ∧ Ag [97] h h') := by
  show Wp w k MX8_pour _ 0 [some (.ref 96), some (.int (nI s)), none, none, none, none] [] h
  refine p_run (pc' := 1) [.iload_n 1] mkX8_pour (by decide +kernel) rfl rfl ?_
  refine p_callSv (isSheet_t w (k := k - 1) (by omega) _ _ (in_nI (lo := 0) (hi := 3) (by omega) (Nat.le_of_lt_succ hs) (by omega))) ksX8_206 (by decide +kernel) (by omega) rfl rfl rfl rfl rfl ?_
  refine p_if_ne (off := 6) 10 (by decide +kernel) (by decide) (fun cq4 => ?_) (fun cq4 => ?_)
  · refine p_run (pc' := 15) [.aload_n 0, .getfield 48, .iload_n 1] mkX8_pour (by decide +kernel) rfl rfl ?_
    refine p_iald (s) (by decide +kernel) rfl rfl (by first | rfl | simp only [oI]) (by omega) ?_
    refine p_if_ge (off := 6) 22 (by decide +kernel) (by decide) (fun cq16 => ?_) (fun cq16 => ?_)
    · have hn10 := hI.nd.2
      refine p_run (pc' := 26) [.iconst 0, .istore_n 2, .iconst 0, .istore_n 3] mkX8_pour (by decide +kernel) rfl rfl ?_
      refine Wp.for (min sz (nd (h 97))) (fun i L hh => ∃ (x4 x5 : Option Value), L = [some (.ref 96), some (.int (nI s)), some (.int (nI (cntF (pcB (h 97) (fun k => h 111 (24 * s + k))) i))), some (.int (nI i)), x4, x5] ∧ (hh 97 = poN (h 97) (fun k => h 111 (24 * s + k)) i ∧ Ag [97] h hh)) ?_ ?_ (0) (by omega) _ _ ?_
      · rintro i L hh hi ⟨x4, x5, rfl, hJ⟩ ih
        obtain ⟨e97, hA⟩ := hJ
        have e110 : hh 110 s = nI sz := by rw [hA 110 (by decide), hsz]
        have e111 : hh 111 = h 111 := hA 111 (by decide)
        have e1 : hh 97 1 = nI (nd (h 97)) := by rw [e97, poN_out _ (fun d hd => by omega)]; exact hI.nd.1
        have hn10 := hI.nd.2
        refine p_run (pc' := 32) [.iload_n 3, .aload_n 0, .getfield 51, .iload_n 1] mkX8_pour (by decide +kernel) rfl rfl ?_
        refine p_iald (s) (by decide +kernel) rfl rfl rfl hs ?_
        rw [e110]
        refine p_icmp_ge (off := 85) 118 (by decide +kernel) (by decide) (fun cq1 => ?_) (fun cq1 => ?_)
        · exact absurd cq1 (nI_ge (by omega) (by omega))
        · refine p_run (pc' := 42) [.iload_n 3, .aload_n 0, .getfield 9, .iconst 1] mkX8_pour (by decide +kernel) rfl rfl ?_
          refine p_iald (1) (by decide +kernel) rfl rfl (by simp only [oI]) (by omega) ?_
          rw [e1]
          refine p_icmp_ge (off := 75) 118 (by decide +kernel) (by decide) (fun cq2 => ?_) (fun cq2 => ?_)
          · exact absurd cq2 (nI_ge (by omega) (by omega))
          · refine p_run (pc' := 56) [.aload_n 0, .getfield 54, .bipush 24, .iload_n 1, .imul, .iload_n 3, .iadd] mkX8_pour (by decide +kernel) rfl rfl ?_
            refine p_iald (24 * s + i) (by decide +kernel) rfl rfl (by simp only [oI, nIm, nI_add]) (by omega) ?_
            rw [e111]
            refine p_run (pc' := 63) [.istore 4, .iload 4, .ldc 195] mkX8_pour (by decide +kernel) rfl rfl ?_
            refine p_icmp_ne (off := 12) 75 (by decide +kernel) (by decide) (fun cq3 => ?_) (fun cq3 => ?_)
            · have eto : tpF (h 97) (fun k => h 111 (24 * s + k)) i = clF (h 111 (24 * s + i)) (nI 0) (nI 99) := by
                unfold tpF; rw [if_neg cq3]
              have eold : hh 97 (20 + 5 * i + 2) = dK (h 97) i 2 := by rw [e97, poN_out _ (fun d hd => by omega)]; rfl
              refine p_run (pc' := 80) [.iload 4, .iconst 0, .bipush 99] mkX8_pour (by decide +kernel) rfl rfl ?_
              refine p_callSv (rwithin_ok w (k := k - 1) _ _ _ _) ksX8_102 (by decide +kernel) (by omega) rfl rfl rfl rfl rfl ?_
              refine p_run (pc' := 85) [.istore 5] mkX8_pour (by decide +kernel) rfl rfl ?_
              refine Wp.eqL (L' := [some (.ref 96), some (.int (nI s)), some (.int (nI (cntF (pcB (h 97) (fun k => h 111 (24 * s + k))) i))), some (.int (nI i)), some (.int (h 111 (24 * s + i))), some (.int (tpF (h 97) (fun k => h 111 (24 * s + k)) i))]) (by rw [eto]; rfl) ?_
              refine p_run (pc' := 97) [.iload_n 2, .aload_n 0, .bipush 20, .iconst 5, .iload_n 3, .imul, .iadd, .iconst 2, .iadd, .iload 5] mkX8_pour (by decide +kernel) rfl rfl ?_
              refine Wp.eqS (st' := [.int (tpF (h 97) (fun k => h 111 (24 * s + k)) i), .int (nI (20 + 5 * i + 2)), .ref 96, .int (nI (cntF (pcB (h 97) (fun k => h 111 (24 * s + k))) i))]) (by simp only [oI, nIm, nI_add]) ?_
              refine p_callV (swaps_ok w (k := k - 1) (20 + 5 * i + 2) (by omega) _ hh) kvX8_146 (by decide +kernel) (by decide) rfl (by omega) rfl rfl rfl rfl rfl (fun r h' hq => ?_)
              obtain ⟨rfl, rfl⟩ := hq
              refine p_run (pc' := 102) [.iload 5] mkX8_pour (by decide +kernel) rfl rfl ?_
              rw [eold]
              refine p_icmp_ne (off := 7) 109 (by decide +kernel) (by decide) (fun cq4 => ?_) (fun cq4 => ?_)
              · refine p_run (pc' := 26) [.iconst 1, .iadd, .istore_n 2, .iinc 3 1, .goto (-89)] mkX8_pour (by decide +kernel) rfl rfl ?_
                exact ih _ _ ⟨_, _, by rw [show nI i + Int32.ofInt 1 = nI (i + 1) by simp only [oI, nI_add], oI, nI_add, cntF, if_pos (pcB_iff.mpr cq4)], by rw [upS, e97]; rfl, hA.tr (Ag.up (by decide))⟩
              · refine p_run (pc' := 26) [.iconst 0, .goto 4, .iadd, .istore_n 2, .iinc 3 1, .goto (-89)] mkX8_pour (by decide +kernel) rfl rfl ?_
                exact ih _ _ ⟨_, _, by rw [show nI i + Int32.ofInt 1 = nI (i + 1) by simp only [oI, nI_add], oI, nI_add, cntF, if_neg (fun q => pcB_iff.mp q cq4)], by rw [upS, e97]; rfl, hA.tr (Ag.up (by decide))⟩
            · have eto : tpF (h 97) (fun k => h 111 (24 * s + k)) i = dK (h 97) i 2 := by
                unfold tpF; rw [if_pos cq3]
              have eold : hh 97 (20 + 5 * i + 2) = dK (h 97) i 2 := by rw [e97, poN_out _ (fun d hd => by omega)]; rfl
              refine p_run (pc' := 69) [.aload_n 0, .iload_n 3, .iconst 2] mkX8_pour (by decide +kernel) rfl rfl ?_
              refine p_callVv (of_ok w (k := k - 1) i 2 _ (by omega)) kvX8_83 (by decide +kernel) (by decide) rfl (by omega) rfl rfl rfl rfl rfl ?_
              refine p_run (pc' := 85) [.goto 11, .istore 5] mkX8_pour (by decide +kernel) rfl rfl ?_
              refine Wp.eqL (L' := [some (.ref 96), some (.int (nI s)), some (.int (nI (cntF (pcB (h 97) (fun k => h 111 (24 * s + k))) i))), some (.int (nI i)), some (.int (h 111 (24 * s + i))), some (.int (tpF (h 97) (fun k => h 111 (24 * s + k)) i))]) (by rw [eto, eold]) ?_
              refine p_run (pc' := 97) [.iload_n 2, .aload_n 0, .bipush 20, .iconst 5, .iload_n 3, .imul, .iadd, .iconst 2, .iadd, .iload 5] mkX8_pour (by decide +kernel) rfl rfl ?_
              refine Wp.eqS (st' := [.int (tpF (h 97) (fun k => h 111 (24 * s + k)) i), .int (nI (20 + 5 * i + 2)), .ref 96, .int (nI (cntF (pcB (h 97) (fun k => h 111 (24 * s + k))) i))]) (by simp only [oI, nIm, nI_add]) ?_
              refine p_callV (swaps_ok w (k := k - 1) (20 + 5 * i + 2) (by omega) _ hh) kvX8_146 (by decide +kernel) (by decide) rfl (by omega) rfl rfl rfl rfl rfl (fun r h' hq => ?_)
              obtain ⟨rfl, rfl⟩ := hq
              refine p_run (pc' := 102) [.iload 5] mkX8_pour (by decide +kernel) rfl rfl ?_
              rw [eold]
              refine p_icmp_ne (off := 7) 109 (by decide +kernel) (by decide) (fun cq4 => ?_) (fun cq4 => ?_)
              · refine p_run (pc' := 26) [.iconst 1, .iadd, .istore_n 2, .iinc 3 1, .goto (-89)] mkX8_pour (by decide +kernel) rfl rfl ?_
                exact ih _ _ ⟨_, _, by rw [show nI i + Int32.ofInt 1 = nI (i + 1) by simp only [oI, nI_add], oI, nI_add, cntF, if_pos (pcB_iff.mpr cq4)], by rw [upS, e97]; rfl, hA.tr (Ag.up (by decide))⟩
              · refine p_run (pc' := 26) [.iconst 0, .goto 4, .iadd, .istore_n 2, .iinc 3 1, .goto (-89)] mkX8_pour (by decide +kernel) rfl rfl ?_
                exact ih _ _ ⟨_, _, by rw [show nI i + Int32.ofInt 1 = nI (i + 1) by simp only [oI, nI_add], oI, nI_add, cntF, if_neg (fun q => pcB_iff.mp q cq4)], by rw [upS, e97]; rfl, hA.tr (Ag.up (by decide))⟩
      · rintro L hh ⟨x4, x5, rfl, hJ⟩
        obtain ⟨e97, hA⟩ := hJ
        have e110 : hh 110 s = nI sz := by rw [hA 110 (by decide), hsz]
        have e111 : hh 111 = h 111 := hA 111 (by decide)
        have e1 : hh 97 1 = nI (nd (h 97)) := by rw [e97, poN_out _ (fun d hd => by omega)]; exact hI.nd.1
        have hn10 := hI.nd.2
        refine p_run (pc' := 32) [.iload_n 3, .aload_n 0, .getfield 51, .iload_n 1] mkX8_pour (by decide +kernel) rfl rfl ?_
        refine p_iald (s) (by decide +kernel) rfl rfl rfl hs ?_
        rw [e110]
        refine p_icmp_ge (off := 85) 118 (by decide +kernel) (by decide) (fun cq1 => ?_) (fun cq1 => ?_)
        · refine p_run (pc' := 119) [.iload_n 2] mkX8_pour (by decide +kernel) rfl rfl ?_
          refine p_iret rfl rfl (by decide +kernel) ?_
          exact ⟨rfl, e97, hA⟩
        · rw [nI_leI (by omega) (by omega)] at cq1
          refine p_run (pc' := 42) [.iload_n 3, .aload_n 0, .getfield 9, .iconst 1] mkX8_pour (by decide +kernel) rfl rfl ?_
          refine p_iald (1) (by decide +kernel) rfl rfl (by simp only [oI]) (by omega) ?_
          rw [e1]
          refine p_icmp_ge (off := 75) 118 (by decide +kernel) (by decide) (fun cq2 => ?_) (fun cq2 => ?_)
          · refine p_run (pc' := 119) [.iload_n 2] mkX8_pour (by decide +kernel) rfl rfl ?_
            refine p_iret rfl rfl (by decide +kernel) ?_
            exact ⟨rfl, e97, hA⟩
          · exact False.elim (by rw [nI_leI (by omega) (by omega)] at cq2; omega)
      · exact ⟨_, _, rfl, rfl, Ag.rf⟩
    · exact absurd (Int32.not_lt.mp hy) cq16
  · exact False.elim (by revert cq4; decide)
set_option maxRecDepth 20000 in
set_option maxHeartbeats 4000000 in
theorem r_reads (w : Wt) {k : Nat} (hk : 2 ≤ k) (s sz : Nat) (hs : s < 4) (hz : sz ≤ 24) (h : Mm) (hsz : h 110 s = nI sz) (hI : Iv (h 97)) (hy : ¬ h 109 s < 0) : Ok w k MX8_reads [.ref 96, .int (nI s)] h (Rv (oN (fstF (rdB (h 97) (fun k => h 111 (24 * s + k))) 0 sz)) h) := by
  show Wp w k MX8_reads _ 0 [some (.ref 96), some (.int (nI s)), none, none] [] h
  refine p_run (pc' := 1) [.iload_n 1] mkX8_reads (by decide +kernel) rfl rfl ?_
  refine p_callSv (isSheet_t w (k := k - 1) (by omega) _ _ (in_nI (lo := 0) (hi := 3) (by omega) (Nat.le_of_lt_succ hs) (by omega))) ksX8_206 (by decide +kernel) (by omega) rfl rfl rfl rfl rfl ?_
  refine p_if_ne (off := 6) 10 (by decide +kernel) (by decide) (fun cq4 => ?_) (fun cq4 => ?_)
  · refine p_run (pc' := 15) [.aload_n 0, .getfield 48, .iload_n 1] mkX8_reads (by decide +kernel) rfl rfl ?_
    refine p_iald (s) (by decide +kernel) rfl rfl (by first | rfl | simp only [oI]) (by omega) ?_
    refine p_if_ge (off := 6) 22 (by decide +kernel) (by decide) (fun cq16 => ?_) (fun cq16 => ?_)
    · refine p_run (pc' := 24) [.iconst 0, .istore_n 2] mkX8_reads (by decide +kernel) rfl rfl ?_
      refine Wp.for (sz) (fun i L hh => ∃ (x3 : Option Value), L = [some (.ref 96), some (.int (nI s)), some (.int (nI i)), x3] ∧ (hh = h ∧ fstF (rdB (h 97) (fun k => h 111 (24 * s + k))) i (sz - i) = fstF (rdB (h 97) (fun k => h 111 (24 * s + k))) 0 sz)) ?_ ?_ (0) (by omega) _ _ ?_
      · rintro i L hh hi ⟨x3, rfl, hJ⟩ ih
        obtain ⟨rfl, hq⟩ := hJ
        have hn := hI.nd
        have hn10 := hn.2
        refine p_run (pc' := 30) [.iload_n 2, .aload_n 0, .getfield 51, .iload_n 1] mkX8_reads (by decide +kernel) rfl rfl ?_
        refine p_iald (s) (by decide +kernel) rfl rfl rfl hs ?_
        rw [hsz]
        refine p_icmp_ge (off := 47) 78 (by decide +kernel) (by decide) (fun cq1 => ?_) (fun cq1 => ?_)
        · exact absurd cq1 (nI_ge (by omega) (by omega))
        · obtain ⟨q, hqq⟩ : ∃ q, sz - i = q + 1 := ⟨sz - i - 1, by omega⟩
          refine p_run (pc' := 44) [.aload_n 0, .getfield 54, .bipush 24, .iload_n 1, .imul, .iload_n 2, .iadd] mkX8_reads (by decide +kernel) rfl rfl ?_
          refine p_iald (24 * s + i) (by decide +kernel) rfl rfl (by simp only [oI, nIm, nI_add]) (by omega) ?_
          refine p_run (pc' := 49) [.istore_n 3, .iload_n 3, .ldc 195] mkX8_reads (by decide +kernel) rfl rfl ?_
          refine p_icmp_eq (off := 23) 72 (by decide +kernel) (by decide) (fun cq49 => ?_) (fun cq49 => ?_)
          · refine p_run (pc' := 24) [.iinc 2 1, .goto (-51)] mkX8_reads (by decide +kernel) rfl rfl ?_
            exact ih _ _ ⟨_, by rw [show nI i + Int32.ofInt 1 = nI (i + 1) by simp only [oI, nI_add]], rfl, by rw [← hq, hqq, fstF, if_neg (fun z => ((rdB_iff (N := hh 97) (c := fun k => hh 111 (24 * s + k)) (i := i)).mp z).1 cq49), show sz - (i + 1) = q by omega]⟩
          · refine p_run (pc' := 54) [.aload_n 0, .iload_n 2] mkX8_reads (by decide +kernel) rfl rfl ?_
            refine p_callVv (risDigger_ok w (k := k - 1) (by omega) _ _) kvX8_129 (by decide +kernel) (by decide) rfl (by omega) rfl rfl rfl rfl rfl ?_
            refine p_if_eq (off := 13) 70 (by decide +kernel) (by decide) (fun cq57 => ?_) (fun cq57 => ?_)
            · have cq57 := bI0.mp cq57
              refine p_run (pc' := 71) [.iload_n 2] mkX8_reads (by decide +kernel) rfl rfl ?_
              refine p_iret rfl rfl (by decide +kernel) ?_
              rw [← hq, hqq, fstF, if_pos ((rdB_iff (N := hh 97) (c := fun k => hh 111 (24 * s + k)) (i := i)).mpr ⟨cq49, Or.inl (fun q => cq57 ((isD_lt hn.1 hn10 (by omega)).mpr q))⟩)]; exact ⟨rfl, rfl⟩
            · have cq57 := bI1.mp cq57
              refine p_run (pc' := 64) [.iload_n 3, .aload_n 0, .iload_n 2, .iconst 3] mkX8_reads (by decide +kernel) rfl rfl ?_
              refine p_callVv (of_ok w (k := k - 1) i 3 _ (by omega)) kvX8_83 (by decide +kernel) (by decide) rfl (by omega) rfl rfl rfl rfl rfl ?_
              refine p_icmp_eq (off := 5) 72 (by decide +kernel) (by decide) (fun cq67 => ?_) (fun cq67 => ?_)
              · refine p_run (pc' := 24) [.iinc 2 1, .goto (-51)] mkX8_reads (by decide +kernel) rfl rfl ?_
                exact ih _ _ ⟨_, by rw [show nI i + Int32.ofInt 1 = nI (i + 1) by simp only [oI, nI_add]], rfl, by rw [← hq, hqq, fstF, if_neg (fun z => (((rdB_iff (N := hh 97) (c := fun k => hh 111 (24 * s + k)) (i := i)).mp z).2.resolve_left (fun n => n ((isD_lt hn.1 hn10 (by omega)).mp cq57))) cq67), show sz - (i + 1) = q by omega]⟩
              · refine p_run (pc' := 71) [.iload_n 2] mkX8_reads (by decide +kernel) rfl rfl ?_
                refine p_iret rfl rfl (by decide +kernel) ?_
                rw [← hq, hqq, fstF, if_pos ((rdB_iff (N := hh 97) (c := fun k => hh 111 (24 * s + k)) (i := i)).mpr ⟨cq49, Or.inr cq67⟩)]; exact ⟨rfl, rfl⟩
      · rintro L hh ⟨x3, rfl, hJ⟩
        obtain ⟨rfl, hq⟩ := hJ
        rw [← hq, Nat.sub_self]
        refine p_run (pc' := 30) [.iload_n 2, .aload_n 0, .getfield 51, .iload_n 1] mkX8_reads (by decide +kernel) rfl rfl ?_
        refine p_iald (s) (by decide +kernel) rfl rfl rfl hs ?_
        rw [hsz]
        refine p_icmp_ge (off := 47) 78 (by decide +kernel) (by decide) (fun cq1 => ?_) (fun cq1 => ?_)
        · refine p_run (pc' := 80) [.ldc 195] mkX8_reads (by decide +kernel) rfl rfl ?_
          refine p_iret rfl rfl (by decide +kernel) ?_
          exact ⟨rfl, rfl⟩
        · exact absurd (nI_le (Nat.le_refl _) (by omega)) cq1
      · exact ⟨_, rfl, rfl, rfl⟩
    · exact absurd (Int32.not_lt.mp hy) cq16
  · exact False.elim (by revert cq4; decide)
