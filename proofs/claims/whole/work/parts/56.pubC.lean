/-! like, reads, ask, item, rest -/
theorem sumF_congr {f g : Nat → Int32} : ∀ {n : Nat}, (∀ i, i < n → f i = g i) → sumF f n = sumF g n
  | 0, _ => rfl
  | n + 1, h => by rw [sumF, sumF, sumF_congr (fun i hi => h i (by omega)), h n (by omega)]
theorem lkS_congr {N : Vc} {c c' : Nat → Int32} {sz : Nat} (h : ∀ k, k < sz → c k = c' k) (b : Nat) : lkS N c b sz = lkS N c' b sz := by
  unfold lkS
  exact sumF_congr (fun i hi => by rw [h i hi])
theorem lkF_congr {N : Vc} {c c' : Nat → Int32} {sz j : Nat} (h : ∀ k, k < sz → c k = c' k) : lkF N c sz j = lkF N c' sz j := by
  unfold lkF
  rw [show (fun b => lkS N c b sz) = (fun b => lkS N c' b sz) from funext (fun b => lkS_congr h b), lkS_congr h]
theorem fst_congr {p q : Nat → Bool} : ∀ {m i : Nat}, (∀ k, i ≤ k → k < i + m → p k = q k) → fstF p i m = fstF q i m
  | 0, _, _ => rfl
  | m + 1, i, h => by rw [fstF, fstF, h i (by omega) (by omega), fst_congr (fun k h1 h2 => h k (by omega) (by omega))]
theorem lt_sub1 {x sz : Int32} (hz : In sz 24) : x ≤ sz - nI 1 ↔ x < sz := by
  obtain ⟨e, hb⟩ := hz
  rw [e, Int32.le_iff_toInt_le, Int32.lt_iff_toInt_lt, Int32.toInt_sub, nI_toInt (by omega), nI_toInt (by omega), Int.bmod]
  split <;> omega
theorem jrem_m1 (x : Int32) : jrem x (Int32.ofInt (-1)) = nI 0 := by
  have e : x / Int32.ofInt (-1) = -x := by
    apply Int32.toInt_inj.mp
    rw [Int32.toInt_div, Int32.toInt_neg, show (Int32.ofInt (-1)).toInt = -1 from rfl, Int.tdiv_neg, Int.tdiv_one]
  unfold jrem
  rw [e, show Int32.ofInt (-1) = -1 from rfl, Int32.mul_neg, Int32.mul_one, Int32.neg_neg, Int32.sub_self]
  rfl
theorem RS.nm {h : Mm} (hS : RS h) {s : Nat} (hs : s < 4) : h 109 s < 0 ↔ h (66 + 2 * s) 1 = Int32.ofInt (-1) := by
  obtain ⟨a, -, -, b, -⟩ := hS s hs
  rw [a]
  rcases b with b | b | b <;> rw [b] <;> decide
set_option maxRecDepth 20000 in
set_option maxHeartbeats 4000000 in
theorem c_diff (w : Wt) {k : Nat} (hk : 100 ≤ k) (s b sz : Nat) (N : Vc) (h : Mm) (hI : Iv N) (hP : PR 11 h N) (hT : TR h N) (hs : s < 4) (hb : b < 4) (hz : h (66 + 2 * s) 2 = nI sz) (hs24 : sz ≤ 24) : Ok w k MX7_differences [.ref 0, .ref (66 + 2 * s), .int (nI b)] h (Rp (lkS N (h (66 + 2 * s + 1)) b sz) h) := by
  show Wp w k MX7_differences _ 0 [some (.ref 0), some (.ref (66 + 2 * s)), some (.int (nI b)), none, none, none] [] h
  refine p_run (pc' := 8) [.aload_n 0, .getfield 35, .aload_n 0, .getfield 28] mkX7_differences (by decide +kernel) rfl rfl ?_
  refine p_callVo (cbec47_11 w (k := k - 1) (by omega) N h hI hP) (fun _ _ q => q.1) kvX7_190 (by decide +kernel) (by decide) rfl (by omega) rfl rfl rfl rfl rfl (fun h' hq => ?_)
  obtain ⟨-, hR1, hF1⟩ := hq
  rename Mm => h1
  refine p_run (pc' := 19) [.aload_n 0, .getfield 35, .getfield 123, .iload_n 2] mkX7_differences (by decide +kernel) rfl rfl ?_
  refine p_aald (b) (by decide +kernel) (by decide) rfl (by decide) rfl (by omega) (rfB47 b (by omega)) ?_
  refine p_run (pc' := 27) [.astore_n 3, .iconst 0, .istore 4, .iconst 0, .istore 5] mkX7_differences (by decide +kernel) rfl rfl ?_
  refine Wp.for (sz) (fun i L hh => L = [some (.ref 0), some (.ref (66 + 2 * s)), some (.int (nI b)), some (.ref (47 + 2 + b)), some (.int (lkS N (h (66 + 2 * s + 1)) b i)), some (.int (nI i))] ∧ (PR 47 hh (nsF N i) ∧ Fp 47 h hh)) ?_ ?_ (0) (by omega) _ _ ?_
  · rintro i L hh hi ⟨rfl, hJ⟩ ih
    obtain ⟨hR2, hF2⟩ := hJ
    have es : hh (66 + 2 * s) = h (66 + 2 * s) := hF2 _ (by omega) (by omega) (by omega)
    have es1 : hh (66 + 2 * s + 1) = h (66 + 2 * s + 1) := hF2 _ (by omega) (by omega) (by omega)
    refine p_run (pc' := 30) [.iload 5, .aload_n 1] mkX7_differences (by decide +kernel) rfl rfl ?_
    refine p_getI (by decide +kernel) fo7_269 (Nat.lt_of_succ_lt (osS s (by omega)).1) (osS s (by omega)).2.1 ((osS s (by omega)).2.2.2.1 _ (by decide)) ?_
    rw [es, hz]
    refine p_icmp_ge (off := 46) 79 (by decide +kernel) (by decide) (fun cqh => ?_) (fun cqh => ?_)
    · exact absurd cqh (nI_ge (by omega) (by omega))
    · refine p_run (pc' := 39) [.aload_n 1, .iload 5] mkX7_differences (by decide +kernel) rfl rfl ?_
      refine p_callVv (cnum_ok w (k := k - 1) (by omega) (66 + 2 * s) i sz (osS s hs) hh (by rw [es]; exact hz) hs24 (by omega)) kvX7_270 (by decide +kernel) (Nat.lt_of_succ_lt (osS s (by omega)).1) (osS s (by omega)).2.1 (by omega) rfl rfl rfl rfl rfl ?_
      rw [es1]
      refine p_if_eq (off := 23) 65 (by decide +kernel) (by decide) (fun cq1 => ?_) (fun cq1 => ?_)
      · have cq1 := Classical.not_not.mp (bI0.mp cq1)
        have hS : lkS N (h (66 + 2 * s + 1)) b (i + 1) = lkS N (h (66 + 2 * s + 1)) b i := by have q : lkS N (h (66 + 2 * s + 1)) b (i + 1) = lkS N (h (66 + 2 * s + 1)) b i + (if h (66 + 2 * s + 1) i = NONEv then nI 0 else offF (h (66 + 2 * s + 1) i - bK (nsF N i) b 0)) := rfl; rw [q, if_pos cq1]; exact add0 _
        refine p_run (pc' := 70) [.aload_n 0, .getfield 35, .iconst 1] mkX7_differences (by decide +kernel) rfl rfl ?_
        refine p_callVo (cpass47 w (k := k - 1) (by omega) 1 (by omega) (nsF N i) hh (nsF_Iv hI i) hR2 ((hT.fp pp47 hF2).da (fun j hj => nsF_out hI (by omega) i) (nsF_out hI (by omega) i))) (fun _ _ q => q.1) kvX7_171 (by decide +kernel) (by decide) rfl (by omega) rfl rfl rfl rfl rfl (fun h' hq => ?_)
        obtain ⟨-, hR3, hF3⟩ := hq
        refine p_run (pc' := 27) [.iinc 5 1, .goto (-49)] mkX7_differences (by decide +kernel) rfl rfl ?_
        exact ih _ _ ⟨by rw [show nI i + Int32.ofInt 1 = nI (i + 1) by simp only [oI, nI_add], hS], hR3, hF2.tr hF3⟩
      · have cq1 := bI1.mp cq1
        refine p_run (pc' := 48) [.iload 4, .aload_n 3] mkX7_differences (by decide +kernel) rfl rfl ?_
        refine p_getI (by decide +kernel) fo7_132 (obB pp47 (by omega)).1 (obB pp47 (by omega)).2.1 ((obB pp47 (by omega)).2.2 _) ?_
        rw [hR2.2.1 b hb 0 (by omega)]
        refine p_run (pc' := 52) [.aload_n 1] mkX7_differences (by decide +kernel) rfl rfl ?_
        refine p_getR (by decide +kernel) fo7_264 (Nat.lt_of_succ_lt (osS s (by omega)).1) (osS s (by omega)).2.1 (osS s (by omega)).2.2.1 ?_
        refine p_run (pc' := 57) [.iload 5] mkX7_differences (by decide +kernel) rfl rfl ?_
        refine p_iald (i) (by decide +kernel) (Nat.ble_eq_true_of_le (osS s (by omega)).1) (osS s (by omega)).2.2.2.2 rfl (by omega) ?_
        rw [es1]
        refine p_run (pc' := 59) [.isub] mkX7_differences (by decide +kernel) rfl rfl ?_
        refine p_mabs jlX7_319 (by decide +kernel) (by omega) rfl ?_
        rw [abs_off, Int32.neg_sub]
        have hS : lkS N (h (66 + 2 * s + 1)) b (i + 1) = lkS N (h (66 + 2 * s + 1)) b i + offF (h (66 + 2 * s + 1) i - bK (nsF N i) b 0) := by have q : lkS N (h (66 + 2 * s + 1)) b (i + 1) = lkS N (h (66 + 2 * s + 1)) b i + (if h (66 + 2 * s + 1) i = NONEv then nI 0 else offF (h (66 + 2 * s + 1) i - bK (nsF N i) b 0)) := rfl; rw [q, if_neg cq1]
        skip
        refine p_run (pc' := 70) [.iadd, .istore 4, .aload_n 0, .getfield 35, .iconst 1] mkX7_differences (by decide +kernel) rfl rfl ?_
        refine p_callVo (cpass47 w (k := k - 1) (by omega) 1 (by omega) (nsF N i) hh (nsF_Iv hI i) hR2 ((hT.fp pp47 hF2).da (fun j hj => nsF_out hI (by omega) i) (nsF_out hI (by omega) i))) (fun _ _ q => q.1) kvX7_171 (by decide +kernel) (by decide) rfl (by omega) rfl rfl rfl rfl rfl (fun h' hq => ?_)
        obtain ⟨-, hR3, hF3⟩ := hq
        refine p_run (pc' := 27) [.iinc 5 1, .goto (-49)] mkX7_differences (by decide +kernel) rfl rfl ?_
        exact ih _ _ ⟨by rw [show nI i + Int32.ofInt 1 = nI (i + 1) by simp only [oI, nI_add], hS], hR3, hF2.tr hF3⟩
  · rintro L hh ⟨rfl, hJ⟩
    obtain ⟨hR2, hF2⟩ := hJ
    have es : hh (66 + 2 * s) = h (66 + 2 * s) := hF2 _ (by omega) (by omega) (by omega)
    have es1 : hh (66 + 2 * s + 1) = h (66 + 2 * s + 1) := hF2 _ (by omega) (by omega) (by omega)
    refine p_run (pc' := 30) [.iload 5, .aload_n 1] mkX7_differences (by decide +kernel) rfl rfl ?_
    refine p_getI (by decide +kernel) fo7_269 (Nat.lt_of_succ_lt (osS s (by omega)).1) (osS s (by omega)).2.1 ((osS s (by omega)).2.2.2.1 _ (by decide)) ?_
    rw [es, hz]
    refine p_icmp_ge (off := 46) 79 (by decide +kernel) (by decide) (fun cqh => ?_) (fun cqh => ?_)
    · refine p_run (pc' := 81) [.iload 4] mkX7_differences (by decide +kernel) rfl rfl ?_
      refine p_iret rfl rfl (by decide +kernel) ?_
      exact ⟨rfl, hF2⟩
    · exact absurd (nI_le (Nat.le_refl _) (by omega)) cqh
  · exact ⟨rfl, hR1, hF1⟩
set_option maxRecDepth 20000 in
set_option maxHeartbeats 4000000 in
theorem c_like_bad (w : Wt) {k : Nat} (hk : 200 ≤ k) (a b : Int32) (N : Vc) (h : Mm) (hP : PR 11 h N)  (hb : ¬ (inR a 0 3 ∧ inR b 0 1)) : Ok w k MX7_like [.ref 0, .int a, .int b] h (Rv BADv h) := by
  show Wp w k MX7_like _ 0 [some (.ref 0), some (.int a), some (.int b), none, none, none, none, none] [] h
  refine p_run (pc' := 1) [.iload_n 1] mkX7_like (by decide +kernel) rfl rfl ?_
  refine p_callSv (cisSheet_ok w (k := k - 1) (by omega) _ _) ksX7_209 (by decide +kernel) (by omega) rfl rfl rfl rfl rfl ?_
  refine p_if_eq (off := 12) 16 (by decide +kernel) (by decide) (fun cq4 => ?_) (fun cq4 => ?_)
  · have cq4 := bI0.mp cq4
    refine p_run (pc' := 18) [.ldc 75] mkX7_like (by decide +kernel) rfl rfl ?_
    refine p_iret rfl rfl (by decide +kernel) ?_
    exact ⟨rfl, rfl⟩
  · have cq4 := bI1.mp cq4
    refine p_run (pc' := 10) [.iload_n 2, .iconst 0, .iconst 1] mkX7_like (by decide +kernel) rfl rfl ?_
    refine p_callSv (cwithin_ok w (k := k - 1) _ _ _ _) ksX7_68 (by decide +kernel) (by omega) rfl rfl rfl rfl rfl ?_
    refine p_if_ne (off := 6) 19 (by decide +kernel) (by decide) (fun cq13 => ?_) (fun cq13 => ?_)
    · have cq13 := bI1.mp cq13
      exact absurd (⟨cq4, cq13⟩) hb
    · have cq13 := bI0.mp cq13
      refine p_run (pc' := 18) [.ldc 75] mkX7_like (by decide +kernel) rfl rfl ?_
      refine p_iret rfl rfl (by decide +kernel) ?_
      exact ⟨rfl, rfl⟩
set_option maxRecDepth 20000 in
set_option maxHeartbeats 4000000 in
theorem c_like_no (w : Wt) {k : Nat} (hk : 200 ≤ k) (s j : Nat) (h : Mm) (hs : s < 4) (hj : j ≤ 1) (hm : h (66 + 2 * s) 1 = Int32.ofInt (-1)) : Ok w k MX7_like [.ref 0, .int (nI s), .int (nI j)] h (Rv NOTHINGv h) := by
  show Wp w k MX7_like _ 0 [some (.ref 0), some (.int (nI s)), some (.int (nI j)), none, none, none, none, none] [] h
  refine p_run (pc' := 1) [.iload_n 1] mkX7_like (by decide +kernel) rfl rfl ?_
  refine p_callSv (cisSheet_ok w (k := k - 1) (by omega) _ _) ksX7_209 (by decide +kernel) (by omega) rfl rfl rfl rfl rfl ?_
  refine p_if_eq (off := 12) 16 (by decide +kernel) (by decide) (fun cq4 => ?_) (fun cq4 => ?_)
  · have cq4 := bI0.mp cq4
    exact absurd (in_nI (j := s) (lo := 0) (hi := 3) (by omega) (by omega) (by omega)) cq4
  · have cq4 := bI1.mp cq4
    refine p_run (pc' := 10) [.iload_n 2, .iconst 0, .iconst 1] mkX7_like (by decide +kernel) rfl rfl ?_
    refine p_callSv (cwithin_ok w (k := k - 1) _ _ _ _) ksX7_68 (by decide +kernel) (by omega) rfl rfl rfl rfl rfl ?_
    refine p_if_ne (off := 6) 19 (by decide +kernel) (by decide) (fun cq13 => ?_) (fun cq13 => ?_)
    · have cq13 := bI1.mp cq13
      refine p_run (pc' := 24) [.aload_n 0, .getfield 40, .iload_n 1] mkX7_like (by decide +kernel) rfl rfl ?_
      refine p_aald (s) (by decide +kernel) (by decide) rfl (by decide) rfl (by omega) (rfSh s (by omega)) ?_
      refine p_run (pc' := 27) [.astore_n 3, .aload_n 3] mkX7_like (by decide +kernel) rfl rfl ?_
      refine p_callVv (cmiss_ok w (k := k - 1) _ (osS s hs) h) kvX7_212 (by decide +kernel) (Nat.lt_of_succ_lt (osS s (by omega)).1) (osS s (by omega)).2.1 (by omega) rfl rfl rfl rfl rfl ?_
      refine p_if_eq (off := 6) 36 (by decide +kernel) (by decide) (fun cq30 => ?_) (fun cq30 => ?_)
      · have cq30 := bI0.mp cq30
        exact absurd hm cq30
      · have cq30 := bI1.mp cq30
        refine p_run (pc' := 35) [.ldc 216] mkX7_like (by decide +kernel) rfl rfl ?_
        refine p_iret rfl rfl (by decide +kernel) ?_
        exact ⟨rfl, rfl⟩
    · have cq13 := bI0.mp cq13
      exact absurd (in_nI (j := j) (lo := 0) (hi := 1) (by omega) (by omega) (by omega)) cq13
set_option maxRecDepth 20000 in
set_option maxHeartbeats 4000000 in
theorem c_like (w : Wt) {k : Nat} (hk : 200 ≤ k) (s j sz : Nat) (N : Vc) (h : Mm) (hI : Iv N) (hP : PR 11 h N) (hT : TR h N) (hs : s < 4) (hj : j ≤ 1) (hm : ¬ h (66 + 2 * s) 1 = Int32.ofInt (-1)) (hz : h (66 + 2 * s) 2 = nI sz) (hs24 : sz ≤ 24) : Ok w k MX7_like [.ref 0, .int (nI s), .int (nI j)] h (Rp (lkF N (h (66 + 2 * s + 1)) sz j) h) := by
  show Wp w k MX7_like _ 0 [some (.ref 0), some (.int (nI s)), some (.int (nI j)), none, none, none, none, none] [] h
  have hn10 := hI.nd.2
  refine p_run (pc' := 1) [.iload_n 1] mkX7_like (by decide +kernel) rfl rfl ?_
  refine p_callSv (cisSheet_ok w (k := k - 1) (by omega) _ _) ksX7_209 (by decide +kernel) (by omega) rfl rfl rfl rfl rfl ?_
  refine p_if_eq (off := 12) 16 (by decide +kernel) (by decide) (fun cq4 => ?_) (fun cq4 => ?_)
  · have cq4 := bI0.mp cq4
    exact absurd (in_nI (j := s) (lo := 0) (hi := 3) (by omega) (by omega) (by omega)) cq4
  · have cq4 := bI1.mp cq4
    refine p_run (pc' := 10) [.iload_n 2, .iconst 0, .iconst 1] mkX7_like (by decide +kernel) rfl rfl ?_
    refine p_callSv (cwithin_ok w (k := k - 1) _ _ _ _) ksX7_68 (by decide +kernel) (by omega) rfl rfl rfl rfl rfl ?_
    refine p_if_ne (off := 6) 19 (by decide +kernel) (by decide) (fun cq13 => ?_) (fun cq13 => ?_)
    · have cq13 := bI1.mp cq13
      refine p_run (pc' := 24) [.aload_n 0, .getfield 40, .iload_n 1] mkX7_like (by decide +kernel) rfl rfl ?_
      refine p_aald (s) (by decide +kernel) (by decide) rfl (by decide) rfl (by omega) (rfSh s (by omega)) ?_
      refine p_run (pc' := 27) [.astore_n 3, .aload_n 3] mkX7_like (by decide +kernel) rfl rfl ?_
      refine p_callVv (cmiss_ok w (k := k - 1) _ (osS s hs) h) kvX7_212 (by decide +kernel) (Nat.lt_of_succ_lt (osS s (by omega)).1) (osS s (by omega)).2.1 (by omega) rfl rfl rfl rfl rfl ?_
      refine p_if_eq (off := 6) 36 (by decide +kernel) (by decide) (fun cq30 => ?_) (fun cq30 => ?_)
      · have cq30 := bI0.mp cq30
        refine p_run (pc' := 42) [.iconst 0, .istore 4, .aload_n 0, .aload_n 3, .iconst 0] mkX7_like (by decide +kernel) rfl rfl ?_
        refine p_callVi (c_diff w (k := k - 1) (by omega) s 0 sz N h hI hP hT hs (by omega) hz hs24) (fun _ _ q => q.1) kvX7_217 (by decide +kernel) (by decide) rfl (by omega) rfl rfl rfl rfl rfl (fun h' hq => ?_)
        obtain ⟨-, hF1⟩ := hq
        rename Mm => h1
        refine p_run (pc' := 50) [.istore 5, .iconst 1, .istore 6] mkX7_like (by decide +kernel) rfl rfl ?_
        refine Wp.for (4) (fun i L hh => ∃ (x7 : Option Value), L = [some (.ref 0), some (.int (nI s)), some (.int (nI j)), some (.ref (66 + 2 * s)), some (.int (nI (amF (fun b => lkS N (h (66 + 2 * s + 1)) b sz) (i - 1)))), some (.int ((fun b => lkS N (h (66 + 2 * s + 1)) b sz) (amF (fun b => lkS N (h (66 + 2 * s + 1)) b sz) (i - 1)))), some (.int (nI i)), x7] ∧ (1 ≤ i ∧ Fp 47 h hh)) ?_ ?_ (1) (by omega) _ _ ?_
        · rintro i L hh hi ⟨x7, rfl, hJ⟩ ih
          obtain ⟨hi1, hF⟩ := hJ
          have es : hh (66 + 2 * s) = h (66 + 2 * s) := hF _ (by omega) (by omega) (by omega)
          have es1 : hh (66 + 2 * s + 1) = h (66 + 2 * s + 1) := hF _ (by omega) (by omega) (by omega)
          obtain ⟨m, rfl⟩ : ∃ m, i = m + 1 := ⟨i - 1, by omega⟩
          rw [Nat.add_sub_cancel] at *
          refine p_run (pc' := 53) [.iload 6, .iconst 4] mkX7_like (by decide +kernel) rfl rfl ?_
          refine p_icmp_ge (off := 33) 86 (by decide +kernel) (by decide) (fun cqh => ?_) (fun cqh => ?_)
          · exact absurd (show nI 4 ≤ nI (m + 1) from cqh) (nI_ge (by omega) (by omega))
          · refine p_run (pc' := 60) [.aload_n 0, .aload_n 3, .iload 6] mkX7_like (by decide +kernel) rfl rfl ?_
            refine p_callVi (c_diff w (k := k - 1) (by omega) s (m + 1) sz N hh hI (hP.of (fun a h1 h2 => hF a (by omega) (by omega) (by omega)) hn10) (hT.fp pp47 hF) hs (by omega) (by rw [es]; exact hz) hs24) (fun _ _ q => q.1) kvX7_217 (by decide +kernel) (by decide) rfl (by omega) rfl rfl rfl rfl rfl (fun h' hq => ?_)
            obtain ⟨-, hF2⟩ := hq
            rw [es1]
            refine p_run (pc' := 69) [.istore 7, .iload 7, .iload 5] mkX7_like (by decide +kernel) rfl rfl ?_
            refine p_icmp_ge (off := 11) 80 (by decide +kernel) (by decide) (fun cq1 => ?_) (fun cq1 => ?_)
            · refine p_run (pc' := 50) [.iinc 6 1, .goto (-33)] mkX7_like (by decide +kernel) rfl rfl ?_
              exact ih _ _ ⟨_, by rw [show nI (m + 1) + Int32.ofInt 1 = nI (m + 1 + 1) by simp only [oI, nI_add], show amF (fun b => lkS N (h (66 + 2 * s + 1)) b sz) (m + 1) = amF (fun b => lkS N (h (66 + 2 * s + 1)) b sz) m from if_neg (Int32.not_lt.mpr cq1)], by omega, hF.tr hF2⟩
            · refine p_run (pc' := 50) [.iload 7, .istore 5, .iload 6, .istore 4, .iinc 6 1, .goto (-33)] mkX7_like (by decide +kernel) rfl rfl ?_
              exact ih _ _ ⟨_, by rw [show nI (m + 1) + Int32.ofInt 1 = nI (m + 1 + 1) by simp only [oI, nI_add], show amF (fun b => lkS N (h (66 + 2 * s + 1)) b sz) (m + 1) = m + 1 from if_pos (Int32.not_le.mp cq1)], by omega, hF.tr hF2⟩
        · rintro L hh ⟨x7, rfl, hJ⟩
          obtain ⟨hi1, hF⟩ := hJ
          have es : hh (66 + 2 * s) = h (66 + 2 * s) := hF _ (by omega) (by omega) (by omega)
          have es1 : hh (66 + 2 * s + 1) = h (66 + 2 * s + 1) := hF _ (by omega) (by omega) (by omega)
          refine p_run (pc' := 53) [.iload 6, .iconst 4] mkX7_like (by decide +kernel) rfl rfl ?_
          refine p_icmp_ge (off := 33) 86 (by decide +kernel) (by decide) (fun cqh => ?_) (fun cqh => ?_)
          · refine p_run (pc' := 87) [.iload_n 2] mkX7_like (by decide +kernel) rfl rfl ?_
            refine p_if_ne (off := 8) 95 (by decide +kernel) (by decide) (fun cq87 => ?_) (fun cq87 => ?_)
            · rw [nI_eq0 (by omega)] at cq87
              refine p_run (pc' := 97) [.iload 5] mkX7_like (by decide +kernel) rfl rfl ?_
              refine p_iret rfl rfl (by decide +kernel) ?_
              exact ⟨by unfold lkF; rw [if_neg cq87], hF⟩
            · rw [nI_eq0 (by omega)] at cq87
              refine p_run (pc' := 97) [.iload 4, .goto 5] mkX7_like (by decide +kernel) rfl rfl ?_
              refine p_iret rfl rfl (by decide +kernel) ?_
              exact ⟨by unfold lkF; rw [if_pos cq87], hF⟩
          · exact False.elim (cqh (by decide))
        · exact ⟨_, rfl, by omega, hF1⟩
      · have cq30 := bI1.mp cq30
        exact absurd cq30 hm
    · have cq13 := bI0.mp cq13
      exact absurd (in_nI (j := j) (lo := 0) (hi := 1) (by omega) (by omega) (by omega)) cq13
theorem st_like (w : Wt) {k : Nat} (hk : 200 ≤ k) (a b : Int32) (h : Mm) (hR : Rel h) : St w k MX7_like MX8_like [.int a, .int b] h := by
  obtain ⟨⟨hP, hI, hQ, hT, hq⟩, -⟩ := id hR
  have hS := hR.2.2.2.1
  by_cases hg : inR a 0 3 ∧ inR b 0 1
  · obtain ⟨s, -, hs, rfl⟩ := inR_of (by omega) (by omega) hg.1
    obtain ⟨j, -, hj, rfl⟩ := inR_of (by omega) (by omega) hg.2
    have hs : s < 4 := by omega
    by_cases hm : h 109 s < 0
    · exact St.word hR (c_like_no w (by omega) s j h hs hj ((hS.nm hs).mp hm)) (r_like_no w (by omega) s j hs hj h hm)
    · obtain ⟨a1, a2, a3, a4, a5⟩ := hS s hs
      refine St.pure hR (c_like w (by omega) s j (nN (h 110 s)) (h 97) h hI hP hT hs hj (fun q => hm ((hS.nm hs).mpr q)) (a2.trans a5.1) a5.2) (fun h1 hF => ?_)
      have e : h1 97 = h 97 := hF 97 (by omega) (by omega) (by omega)
      have e1 : h1 109 = h 109 := hF 109 (by omega) (by omega) (by omega)
      have e2 : h1 110 = h 110 := hF 110 (by omega) (by omega) (by omega)
      have e3 : h1 111 = h 111 := hF 111 (by omega) (by omega) (by omega)
      exact (r_like w (by omega) s j (nN (h 110 s)) hs hj a5.2 h1 (by rw [e2]; exact a5.1) (by rw [e]; exact hI) (by rw [e]; exact hQ) (by rw [e1]; exact hm)).imp (fun r h2 z => ⟨by rw [z.1, e, e3, lkF_congr (c := h (66 + 2 * s + 1)) (fun k hk => a3 k (by have := a5.2; omega))], z.2⟩)
  · exact St.word hR (c_like_bad w (by omega) a b (h 97) h hP hg) (r_like_bad w (by omega) a b h hg)
set_option maxRecDepth 20000 in
set_option maxHeartbeats 4000000 in
theorem c_reads_bad (w : Wt) {k : Nat} (hk : 200 ≤ k) (a : Int32) (N : Vc) (h : Mm) (hP : PR 11 h N)  (hb : ¬ (inR a 0 3)) : Ok w k MX7_reads [.ref 0, .int a] h (Rv BADv h) := by
  show Wp w k MX7_reads _ 0 [some (.ref 0), some (.int a), none, none] [] h
  refine p_run (pc' := 1) [.iload_n 1] mkX7_reads (by decide +kernel) rfl rfl ?_
  refine p_callSv (cisSheet_ok w (k := k - 1) (by omega) _ _) ksX7_209 (by decide +kernel) (by omega) rfl rfl rfl rfl rfl ?_
  refine p_if_ne (off := 6) 10 (by decide +kernel) (by decide) (fun cq4 => ?_) (fun cq4 => ?_)
  · have cq4 := bI1.mp cq4
    exact absurd (cq4) hb
  · have cq4 := bI0.mp cq4
    refine p_run (pc' := 9) [.ldc 75] mkX7_reads (by decide +kernel) rfl rfl ?_
    refine p_iret rfl rfl (by decide +kernel) ?_
    exact ⟨rfl, rfl⟩
set_option maxRecDepth 20000 in
set_option maxHeartbeats 4000000 in
theorem c_reads_no (w : Wt) {k : Nat} (hk : 200 ≤ k) (s : Nat) (h : Mm) (hs : s < 4) (hm : h (66 + 2 * s) 1 = Int32.ofInt (-1)) : Ok w k MX7_reads [.ref 0, .int (nI s)] h (Rv NOTHINGv h) := by
  show Wp w k MX7_reads _ 0 [some (.ref 0), some (.int (nI s)), none, none] [] h
  refine p_run (pc' := 1) [.iload_n 1] mkX7_reads (by decide +kernel) rfl rfl ?_
  refine p_callSv (cisSheet_ok w (k := k - 1) (by omega) _ _) ksX7_209 (by decide +kernel) (by omega) rfl rfl rfl rfl rfl ?_
  refine p_if_ne (off := 6) 10 (by decide +kernel) (by decide) (fun cq4 => ?_) (fun cq4 => ?_)
  · have cq4 := bI1.mp cq4
    refine p_run (pc' := 15) [.aload_n 0, .getfield 40, .iload_n 1] mkX7_reads (by decide +kernel) rfl rfl ?_
    refine p_aald (s) (by decide +kernel) (by decide) rfl (by decide) rfl (by omega) (rfSh s (by omega)) ?_
    refine p_run (pc' := 18) [.astore_n 2, .aload_n 2] mkX7_reads (by decide +kernel) rfl rfl ?_
    refine p_callVv (cmiss_ok w (k := k - 1) _ (osS s hs) h) kvX7_212 (by decide +kernel) (Nat.lt_of_succ_lt (osS s (by omega)).1) (osS s (by omega)).2.1 (by omega) rfl rfl rfl rfl rfl ?_
    refine p_if_eq (off := 6) 27 (by decide +kernel) (by decide) (fun cq21 => ?_) (fun cq21 => ?_)
    · have cq21 := bI0.mp cq21
      exact absurd hm cq21
    · have cq21 := bI1.mp cq21
      refine p_run (pc' := 26) [.ldc 216] mkX7_reads (by decide +kernel) rfl rfl ?_
      refine p_iret rfl rfl (by decide +kernel) ?_
      exact ⟨rfl, rfl⟩
  · have cq4 := bI0.mp cq4
    exact absurd (in_nI (j := s) (lo := 0) (hi := 3) (by omega) (by omega) (by omega)) cq4
set_option maxRecDepth 20000 in
set_option maxHeartbeats 4000000 in
theorem c_reads (w : Wt) {k : Nat} (hk : 200 ≤ k) (s sz : Nat) (N : Vc) (h : Mm) (hI : Iv N) (hP : PR 11 h N) (hT : TR h N) (hs : s < 4) (hm : ¬ h (66 + 2 * s) 1 = Int32.ofInt (-1)) (hz : h (66 + 2 * s) 2 = nI sz) (hs24 : sz ≤ 24) : Ok w k MX7_reads [.ref 0, .int (nI s)] h (Rv (oN (fstF (rdB N (h (66 + 2 * s + 1))) 0 sz)) h) := by
  show Wp w k MX7_reads _ 0 [some (.ref 0), some (.int (nI s)), none, none] [] h
  obtain ⟨en, hn10⟩ := hI.nd
  refine p_run (pc' := 1) [.iload_n 1] mkX7_reads (by decide +kernel) rfl rfl ?_
  refine p_callSv (cisSheet_ok w (k := k - 1) (by omega) _ _) ksX7_209 (by decide +kernel) (by omega) rfl rfl rfl rfl rfl ?_
  refine p_if_ne (off := 6) 10 (by decide +kernel) (by decide) (fun cq4 => ?_) (fun cq4 => ?_)
  · have cq4 := bI1.mp cq4
    refine p_run (pc' := 15) [.aload_n 0, .getfield 40, .iload_n 1] mkX7_reads (by decide +kernel) rfl rfl ?_
    refine p_aald (s) (by decide +kernel) (by decide) rfl (by decide) rfl (by omega) (rfSh s (by omega)) ?_
    refine p_run (pc' := 18) [.astore_n 2, .aload_n 2] mkX7_reads (by decide +kernel) rfl rfl ?_
    refine p_callVv (cmiss_ok w (k := k - 1) _ (osS s hs) h) kvX7_212 (by decide +kernel) (Nat.lt_of_succ_lt (osS s (by omega)).1) (osS s (by omega)).2.1 (by omega) rfl rfl rfl rfl rfl ?_
    refine p_if_eq (off := 6) 27 (by decide +kernel) (by decide) (fun cq21 => ?_) (fun cq21 => ?_)
    · have cq21 := bI0.mp cq21
      refine p_run (pc' := 29) [.iconst 0, .istore_n 3] mkX7_reads (by decide +kernel) rfl rfl ?_
      refine Wp.for (sz) (fun i L hh => L = [some (.ref 0), some (.int (nI s)), some (.ref (66 + 2 * s)), some (.int (nI i))] ∧ (h = hh ∧ fstF (rdB N (h (66 + 2 * s + 1))) 0 sz = fstF (rdB N (h (66 + 2 * s + 1))) i (sz - i))) ?_ ?_ (0) (by omega) _ _ ?_
      · rintro i L hh hi ⟨rfl, hJ⟩ ih
        obtain ⟨rfl, hJ1⟩ := hJ
        rw [fst_step hi] at hJ1
        refine p_run (pc' := 31) [.iload_n 3, .aload_n 2] mkX7_reads (by decide +kernel) rfl rfl ?_
        refine p_getI (by decide +kernel) fo7_269 (Nat.lt_of_succ_lt (osS s (by omega)).1) (osS s (by omega)).2.1 ((osS s (by omega)).2.2.2.1 _ (by decide)) ?_
        rw [hz]
        refine p_icmp_ge (off := 51) 85 (by decide +kernel) (by decide) (fun cqh => ?_) (fun cqh => ?_)
        · exact absurd cqh (nI_ge (by omega) (by omega))
        · refine p_run (pc' := 39) [.aload_n 2, .iload_n 3] mkX7_reads (by decide +kernel) rfl rfl ?_
          refine p_callVv (cnum_ok w (k := k - 1) (by omega) (66 + 2 * s) i sz (osS s hs) h hz hs24 (by omega)) kvX7_270 (by decide +kernel) (Nat.lt_of_succ_lt (osS s (by omega)).1) (osS s (by omega)).2.1 (by omega) rfl rfl rfl rfl rfl ?_
          refine p_if_eq (off := 37) 79 (by decide +kernel) (by decide) (fun cq1 => ?_) (fun cq1 => ?_)
          · rw [if_neg (fun q => bI0.mp cq1 (rdB_iff.mp q).1)] at hJ1
            refine p_run (pc' := 29) [.iinc 3 1, .goto (-53)] mkX7_reads (by decide +kernel) rfl rfl ?_
            exact ih _ _ ⟨by rw [show nI i + Int32.ofInt 1 = nI (i + 1) by simp only [oI, nI_add]], rfl, hJ1⟩
          · have cq1 := bI1.mp cq1
            refine p_run (pc' := 53) [.iload_n 3, .aload_n 0, .getfield 28, .getfield 76] mkX7_reads (by decide +kernel) rfl rfl ?_
            rw [hP.1.1, en]
            refine p_icmp_ge (off := 24) 77 (by decide +kernel) (by decide) (fun cq2 => ?_) (fun cq2 => ?_)
            · refine p_run (pc' := 78) [.iload_n 3] mkX7_reads (by decide +kernel) rfl rfl ?_
              refine p_iret rfl rfl (by decide +kernel) ?_
              rw [if_pos (rdB_iff.mpr ⟨cq1, Or.inl (fun q => (nI_ge (by omega) (by omega)) cq2)⟩)] at hJ1; exact ⟨by rw [hJ1]; rfl, rfl⟩
            · have hin : i < nd N := Classical.byContradiction (fun q => cq2 (nI_le (by omega) (by omega)))
              refine p_run (pc' := 57) [.aload_n 2] mkX7_reads (by decide +kernel) rfl rfl ?_
              refine p_getR (by decide +kernel) fo7_264 (Nat.lt_of_succ_lt (osS s (by omega)).1) (osS s (by omega)).2.1 (osS s (by omega)).2.2.1 ?_
              refine p_run (pc' := 61) [.iload_n 3] mkX7_reads (by decide +kernel) rfl rfl ?_
              refine p_iald (i) (by decide +kernel) (Nat.ble_eq_true_of_le (osS s (by omega)).1) (osS s (by omega)).2.2.2.2 rfl (by omega) ?_
              refine p_run (pc' := 70) [.aload_n 0, .getfield 28, .getfield 87, .iload_n 3] mkX7_reads (by decide +kernel) rfl rfl ?_
              refine p_aald (i) (by decide +kernel) (by decide) rfl (by decide) rfl (by omega) (rfD11 i (by omega)) ?_
              refine p_getI (by decide +kernel) fo7_102 (obD pp11 (by omega)).1 (obD pp11 (by omega)).2.1 ((obD pp11 (by omega)).2.2 _) ?_
              rw [hP.2.2.1 i hin 3 (by omega)]
              refine p_icmp_eq (off := 5) 79 (by decide +kernel) (by decide) (fun cq3 => ?_) (fun cq3 => ?_)
              · rw [if_neg (fun q => (rdB_iff.mp q).2.elim (fun z => z hin) (fun z => z cq3))] at hJ1
                refine p_run (pc' := 29) [.iinc 3 1, .goto (-53)] mkX7_reads (by decide +kernel) rfl rfl ?_
                exact ih _ _ ⟨by rw [show nI i + Int32.ofInt 1 = nI (i + 1) by simp only [oI, nI_add]], rfl, hJ1⟩
              · refine p_run (pc' := 78) [.iload_n 3] mkX7_reads (by decide +kernel) rfl rfl ?_
                refine p_iret rfl rfl (by decide +kernel) ?_
                rw [if_pos (rdB_iff.mpr ⟨cq1, Or.inr cq3⟩)] at hJ1; exact ⟨by rw [hJ1]; rfl, rfl⟩
      · rintro L hh ⟨rfl, hJ⟩
        obtain ⟨rfl, hJ1⟩ := hJ
        refine p_run (pc' := 31) [.iload_n 3, .aload_n 2] mkX7_reads (by decide +kernel) rfl rfl ?_
        refine p_getI (by decide +kernel) fo7_269 (Nat.lt_of_succ_lt (osS s (by omega)).1) (osS s (by omega)).2.1 ((osS s (by omega)).2.2.2.1 _ (by decide)) ?_
        rw [hz]
        refine p_icmp_ge (off := 51) 85 (by decide +kernel) (by decide) (fun cqh => ?_) (fun cqh => ?_)
        · refine p_run (pc' := 87) [.ldc 194] mkX7_reads (by decide +kernel) rfl rfl ?_
          refine p_iret rfl rfl (by decide +kernel) ?_
          exact ⟨by rw [hJ1, fst_end]; rfl, rfl⟩
        · exact absurd (nI_le (Nat.le_refl _) (by omega)) cqh
      · exact ⟨rfl, rfl, rfl⟩
    · have cq21 := bI1.mp cq21
      exact absurd cq21 hm
  · have cq4 := bI0.mp cq4
    exact absurd (in_nI (j := s) (lo := 0) (hi := 3) (by omega) (by omega) (by omega)) cq4
theorem st_reads (w : Wt) {k : Nat} (hk : 200 ≤ k) (a : Int32) (h : Mm) (hR : Rel h) : St w k MX7_reads MX8_reads [.int a] h := by
  obtain ⟨⟨hP, hI, hQ, hT, hq⟩, -⟩ := id hR
  have hS := hR.2.2.2.1
  by_cases hg : inR a 0 3
  · obtain ⟨s, -, hs, rfl⟩ := inR_of (by omega) (by omega) hg
    have hs : s < 4 := by omega
    by_cases hm : h 109 s < 0
    · exact St.word hR (c_reads_no w hk s h hs ((hS.nm hs).mp hm)) (r_reads_no w (by omega) s hs h hm)
    · obtain ⟨a1, a2, a3, a4, a5⟩ := hS s hs
      have hc := c_reads w hk s (nN (h 110 s)) (h 97) h hI hP hT hs (fun q => hm ((hS.nm hs).mpr q)) (a2.trans a5.1) a5.2
      rw [fst_congr (q := rdB (h 97) (fun k => h 111 (24 * s + k))) (fun k _ hk2 => by unfold rdB; rw [a3 k (by have := a5.2; omega)])] at hc
      exact St.word hR hc (r_reads w (by omega) s (nN (h 110 s)) hs a5.2 h a5.1 hI hm)
  · exact St.word hR (c_reads_bad w hk a (h 97) h hP hg) (r_reads_bad w (by omega) a h hg)
