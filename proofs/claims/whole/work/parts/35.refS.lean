/-! the reference: copy, lay, ask, item, rest -/
set_option maxRecDepth 20000 in
set_option maxHeartbeats 4000000 in
theorem r_copy_bad (w : Wt) {k : Nat} (hk : 2 ≤ k) (a b c e m : Int32) (h : Mm) (hb : ¬ (inR a 0 3 ∧ inR c 0 3)) : Ok w k MX8_copy [.ref 96, .int a, .int b, .int c, .int e, .int m] h (Rv BADv h) := by
  show Wp w k MX8_copy _ 0 [some (.ref 96), some (.int a), some (.int b), some (.int c), some (.int e), some (.int m), none] [] h
  refine p_run (pc' := 1) [.iload_n 1] mkX8_copy (by decide +kernel) rfl rfl ?_
  refine p_callSv (risSheet_ok w (k := k - 1) (by omega) _ _) ksX8_206 (by decide +kernel) (by omega) rfl rfl rfl rfl rfl ?_
  refine p_if_eq (off := 10) 14 (by decide +kernel) (by decide) (fun cq4 => ?_) (fun cq4 => ?_)
  · have cq4 := bI0.mp cq4
    refine p_run (pc' := 16) [.ldc 123] mkX8_copy (by decide +kernel) rfl rfl ?_
    refine p_iret rfl rfl (by decide +kernel) ?_
    exact ⟨rfl, rfl⟩
  · have cq4 := bI1.mp cq4
    refine p_run (pc' := 8) [.iload_n 3] mkX8_copy (by decide +kernel) rfl rfl ?_
    refine p_callSv (risSheet_ok w (k := k - 1) (by omega) _ _) ksX8_206 (by decide +kernel) (by omega) rfl rfl rfl rfl rfl ?_
    refine p_if_ne (off := 6) 17 (by decide +kernel) (by decide) (fun cq11 => ?_) (fun cq11 => ?_)
    · have cq11 := bI1.mp cq11
      exact absurd ⟨cq4, cq11⟩ hb
    · have cq11 := bI0.mp cq11
      refine p_run (pc' := 16) [.ldc 123] mkX8_copy (by decide +kernel) rfl rfl ?_
      refine p_iret rfl rfl (by decide +kernel) ?_
      exact ⟨rfl, rfl⟩
set_option maxRecDepth 20000 in
set_option maxHeartbeats 4000000 in
theorem r_copy_no (w : Wt) {k : Nat} (hk : 2 ≤ k) (s t : Nat) (hs : s < 4) (ht : t < 4) (b e m : Int32) (h : Mm) (hno : h 109 s < 0 ∨ h 109 t < 0) : Ok w k MX8_copy [.ref 96, .int (nI s), .int b, .int (nI t), .int e, .int m] h (Rv NOTHINGv h) := by
  show Wp w k MX8_copy _ 0 [some (.ref 96), some (.int (nI s)), some (.int b), some (.int (nI t)), some (.int e), some (.int m), none] [] h
  refine p_run (pc' := 1) [.iload_n 1] mkX8_copy (by decide +kernel) rfl rfl ?_
  refine p_callSv (isSheet_t w (k := k - 1) (by omega) _ _ (in_nI (lo := 0) (hi := 3) (by omega) (Nat.le_of_lt_succ hs) (by omega))) ksX8_206 (by decide +kernel) (by omega) rfl rfl rfl rfl rfl ?_
  refine p_if_eq (off := 10) 14 (by decide +kernel) (by decide) (fun cq4 => ?_) (fun cq4 => ?_)
  · exact False.elim (by revert cq4; decide)
  · refine p_run (pc' := 8) [.iload_n 3] mkX8_copy (by decide +kernel) rfl rfl ?_
    refine p_callSv (isSheet_t w (k := k - 1) (by omega) _ _ (in_nI (lo := 0) (hi := 3) (by omega) (Nat.le_of_lt_succ ht) (by omega))) ksX8_206 (by decide +kernel) (by omega) rfl rfl rfl rfl rfl ?_
    refine p_if_ne (off := 6) 17 (by decide +kernel) (by decide) (fun cq11 => ?_) (fun cq11 => ?_)
    · refine p_run (pc' := 22) [.aload_n 0, .getfield 48, .iload_n 1] mkX8_copy (by decide +kernel) rfl rfl ?_
      refine p_iald (s) (by decide +kernel) rfl rfl (by first | rfl | simp only [oI]) (by omega) ?_
      refine p_if_lt (off := 12) 35 (by decide +kernel) (by decide) (fun cq23 => ?_) (fun cq23 => ?_)
      · refine p_run (pc' := 37) [.ldc 209] mkX8_copy (by decide +kernel) rfl rfl ?_
        refine p_iret rfl rfl (by decide +kernel) ?_
        exact ⟨rfl, rfl⟩
      · refine p_run (pc' := 31) [.aload_n 0, .getfield 48, .iload_n 3] mkX8_copy (by decide +kernel) rfl rfl ?_
        refine p_iald (t) (by decide +kernel) rfl rfl (by first | rfl | simp only [oI]) (by omega) ?_
        refine p_if_ge (off := 6) 38 (by decide +kernel) (by decide) (fun cq32 => ?_) (fun cq32 => ?_)
        · exact absurd hno (by rintro (q | q); exact cq23 q; exact absurd cq32 (Int32.not_le.mpr q))
        · refine p_run (pc' := 37) [.ldc 209] mkX8_copy (by decide +kernel) rfl rfl ?_
          refine p_iret rfl rfl (by decide +kernel) ?_
          exact ⟨rfl, rfl⟩
    · exact False.elim (by revert cq11; decide)
set_option maxRecDepth 20000 in
set_option maxHeartbeats 4000000 in
theorem r_copy_kind (w : Wt) {k : Nat} (hk : 2 ≤ k) (s t : Nat) (hs : s < 4) (ht : t < 4) (b e m : Int32) (h : Mm) (hy : ¬ h 109 s < 0 ∧ ¬ h 109 t < 0) (hne : ¬ h 109 s = h 109 t) : Ok w k MX8_copy [.ref 96, .int (nI s), .int b, .int (nI t), .int e, .int m] h (Rv KINDv h) := by
  show Wp w k MX8_copy _ 0 [some (.ref 96), some (.int (nI s)), some (.int b), some (.int (nI t)), some (.int e), some (.int m), none] [] h
  refine p_run (pc' := 1) [.iload_n 1] mkX8_copy (by decide +kernel) rfl rfl ?_
  refine p_callSv (isSheet_t w (k := k - 1) (by omega) _ _ (in_nI (lo := 0) (hi := 3) (by omega) (Nat.le_of_lt_succ hs) (by omega))) ksX8_206 (by decide +kernel) (by omega) rfl rfl rfl rfl rfl ?_
  refine p_if_eq (off := 10) 14 (by decide +kernel) (by decide) (fun cq4 => ?_) (fun cq4 => ?_)
  · exact False.elim (by revert cq4; decide)
  · refine p_run (pc' := 8) [.iload_n 3] mkX8_copy (by decide +kernel) rfl rfl ?_
    refine p_callSv (isSheet_t w (k := k - 1) (by omega) _ _ (in_nI (lo := 0) (hi := 3) (by omega) (Nat.le_of_lt_succ ht) (by omega))) ksX8_206 (by decide +kernel) (by omega) rfl rfl rfl rfl rfl ?_
    refine p_if_ne (off := 6) 17 (by decide +kernel) (by decide) (fun cq11 => ?_) (fun cq11 => ?_)
    · refine p_run (pc' := 22) [.aload_n 0, .getfield 48, .iload_n 1] mkX8_copy (by decide +kernel) rfl rfl ?_
      refine p_iald (s) (by decide +kernel) rfl rfl (by first | rfl | simp only [oI]) (by omega) ?_
      refine p_if_lt (off := 12) 35 (by decide +kernel) (by decide) (fun cq23 => ?_) (fun cq23 => ?_)
      · exact absurd cq23 hy.1
      · refine p_run (pc' := 31) [.aload_n 0, .getfield 48, .iload_n 3] mkX8_copy (by decide +kernel) rfl rfl ?_
        refine p_iald (t) (by decide +kernel) rfl rfl (by first | rfl | simp only [oI]) (by omega) ?_
        refine p_if_ge (off := 6) 38 (by decide +kernel) (by decide) (fun cq32 => ?_) (fun cq32 => ?_)
        · refine p_run (pc' := 43) [.aload_n 0, .getfield 48, .iload_n 1] mkX8_copy (by decide +kernel) rfl rfl ?_
          refine p_iald (s) (by decide +kernel) rfl rfl (by first | rfl | simp only [oI]) (by omega) ?_
          refine p_run (pc' := 49) [.aload_n 0, .getfield 48, .iload_n 3] mkX8_copy (by decide +kernel) rfl rfl ?_
          refine p_iald (t) (by decide +kernel) rfl rfl (by first | rfl | simp only [oI]) (by omega) ?_
          refine p_icmp_eq (off := 6) 56 (by decide +kernel) (by decide) (fun cq50 => ?_) (fun cq50 => ?_)
          · exact absurd cq50 hne
          · refine p_run (pc' := 55) [.ldc 145] mkX8_copy (by decide +kernel) rfl rfl ?_
            refine p_iret rfl rfl (by decide +kernel) ?_
            exact ⟨rfl, rfl⟩
        · exact absurd (Int32.not_lt.mp hy.2) cq32
    · exact False.elim (by revert cq11; decide)
def cpP (h : Mm) (s t : Nat) (b e m : Int32) : Prop := ¬ b < 0 ∧ ¬ e < 0 ∧ ¬ m < 0 ∧ ¬ h 110 s - m < b ∧ e ≤ h 110 t - m
set_option maxRecDepth 20000 in
set_option maxHeartbeats 4000000 in
theorem r_copy_ix (w : Wt) {k : Nat} (hk : 2 ≤ k) (s t : Nat) (hs : s < 4) (ht : t < 4) (b e m : Int32) (h : Mm) (hy : ¬ h 109 s < 0 ∧ ¬ h 109 t < 0) (he : h 109 s = h 109 t) (hx : ¬ cpP h s t b e m) : Ok w k MX8_copy [.ref 96, .int (nI s), .int b, .int (nI t), .int e, .int m] h (Rv INDEXv h) := by
  show Wp w k MX8_copy _ 0 [some (.ref 96), some (.int (nI s)), some (.int b), some (.int (nI t)), some (.int e), some (.int m), none] [] h
  refine p_run (pc' := 1) [.iload_n 1] mkX8_copy (by decide +kernel) rfl rfl ?_
  refine p_callSv (isSheet_t w (k := k - 1) (by omega) _ _ (in_nI (lo := 0) (hi := 3) (by omega) (Nat.le_of_lt_succ hs) (by omega))) ksX8_206 (by decide +kernel) (by omega) rfl rfl rfl rfl rfl ?_
  refine p_if_eq (off := 10) 14 (by decide +kernel) (by decide) (fun cq4 => ?_) (fun cq4 => ?_)
  · exact False.elim (by revert cq4; decide)
  · refine p_run (pc' := 8) [.iload_n 3] mkX8_copy (by decide +kernel) rfl rfl ?_
    refine p_callSv (isSheet_t w (k := k - 1) (by omega) _ _ (in_nI (lo := 0) (hi := 3) (by omega) (Nat.le_of_lt_succ ht) (by omega))) ksX8_206 (by decide +kernel) (by omega) rfl rfl rfl rfl rfl ?_
    refine p_if_ne (off := 6) 17 (by decide +kernel) (by decide) (fun cq11 => ?_) (fun cq11 => ?_)
    · refine p_run (pc' := 22) [.aload_n 0, .getfield 48, .iload_n 1] mkX8_copy (by decide +kernel) rfl rfl ?_
      refine p_iald (s) (by decide +kernel) rfl rfl (by first | rfl | simp only [oI]) (by omega) ?_
      refine p_if_lt (off := 12) 35 (by decide +kernel) (by decide) (fun cq23 => ?_) (fun cq23 => ?_)
      · exact absurd cq23 hy.1
      · refine p_run (pc' := 31) [.aload_n 0, .getfield 48, .iload_n 3] mkX8_copy (by decide +kernel) rfl rfl ?_
        refine p_iald (t) (by decide +kernel) rfl rfl (by first | rfl | simp only [oI]) (by omega) ?_
        refine p_if_ge (off := 6) 38 (by decide +kernel) (by decide) (fun cq32 => ?_) (fun cq32 => ?_)
        · refine p_run (pc' := 43) [.aload_n 0, .getfield 48, .iload_n 1] mkX8_copy (by decide +kernel) rfl rfl ?_
          refine p_iald (s) (by decide +kernel) rfl rfl (by first | rfl | simp only [oI]) (by omega) ?_
          refine p_run (pc' := 49) [.aload_n 0, .getfield 48, .iload_n 3] mkX8_copy (by decide +kernel) rfl rfl ?_
          refine p_iald (t) (by decide +kernel) rfl rfl (by first | rfl | simp only [oI]) (by omega) ?_
          refine p_icmp_eq (off := 6) 56 (by decide +kernel) (by decide) (fun cq50 => ?_) (fun cq50 => ?_)
          · refine p_run (pc' := 57) [.iload_n 2] mkX8_copy (by decide +kernel) rfl rfl ?_
            refine p_if_lt (off := 40) 97 (by decide +kernel) (by decide) (fun cq57 => ?_) (fun cq57 => ?_)
            · refine p_run (pc' := 100) [.ldc_w 282] mkX8_copy (by decide +kernel) rfl rfl ?_
              refine p_iret rfl rfl (by decide +kernel) ?_
              exact ⟨rfl, rfl⟩
            · refine p_run (pc' := 62) [.iload 4] mkX8_copy (by decide +kernel) rfl rfl ?_
              refine p_if_lt (off := 35) 97 (by decide +kernel) (by decide) (fun cq62 => ?_) (fun cq62 => ?_)
              · refine p_run (pc' := 100) [.ldc_w 282] mkX8_copy (by decide +kernel) rfl rfl ?_
                refine p_iret rfl rfl (by decide +kernel) ?_
                exact ⟨rfl, rfl⟩
              · refine p_run (pc' := 67) [.iload 5] mkX8_copy (by decide +kernel) rfl rfl ?_
                refine p_if_lt (off := 30) 97 (by decide +kernel) (by decide) (fun cq67 => ?_) (fun cq67 => ?_)
                · refine p_run (pc' := 100) [.ldc_w 282] mkX8_copy (by decide +kernel) rfl rfl ?_
                  refine p_iret rfl rfl (by decide +kernel) ?_
                  exact ⟨rfl, rfl⟩
                · refine p_run (pc' := 76) [.iload_n 2, .aload_n 0, .getfield 51, .iload_n 1] mkX8_copy (by decide +kernel) rfl rfl ?_
                  refine p_iald (s) (by decide +kernel) rfl rfl (by first | rfl | simp only [oI]) (by omega) ?_
                  refine p_run (pc' := 80) [.iload 5, .isub] mkX8_copy (by decide +kernel) rfl rfl ?_
                  refine p_icmp_gt (off := 17) 97 (by decide +kernel) (by decide) (fun cq80 => ?_) (fun cq80 => ?_)
                  · refine p_run (pc' := 100) [.ldc_w 282] mkX8_copy (by decide +kernel) rfl rfl ?_
                    refine p_iret rfl rfl (by decide +kernel) ?_
                    exact ⟨rfl, rfl⟩
                  · refine p_run (pc' := 90) [.iload 4, .aload_n 0, .getfield 51, .iload_n 3] mkX8_copy (by decide +kernel) rfl rfl ?_
                    refine p_iald (t) (by decide +kernel) rfl rfl (by first | rfl | simp only [oI]) (by omega) ?_
                    refine p_run (pc' := 94) [.iload 5, .isub] mkX8_copy (by decide +kernel) rfl rfl ?_
                    refine p_icmp_le (off := 7) 101 (by decide +kernel) (by decide) (fun cq94 => ?_) (fun cq94 => ?_)
                    · exact absurd ⟨cq57, cq62, cq67, cq80, cq94⟩ hx
                    · refine p_run (pc' := 100) [.ldc_w 282] mkX8_copy (by decide +kernel) rfl rfl ?_
                      refine p_iret rfl rfl (by decide +kernel) ?_
                      exact ⟨rfl, rfl⟩
          · exact absurd he cq50
        · exact absurd (Int32.not_lt.mp hy.2) cq32
    · exact False.elim (by revert cq11; decide)
set_option maxRecDepth 20000 in
set_option maxHeartbeats 4000000 in
theorem r_copy (w : Wt) {k : Nat} (hk : 2 ≤ k) (s t b e m sz tz : Nat) (hs : s < 4) (ht : t < 4) (h : Mm) (hsz : h 110 s = nI sz) (htz : h 110 t = nI tz) (hz1 : sz ≤ 24) (hz2 : tz ≤ 24) (hbm : b + m ≤ sz) (hem : e + m ≤ tz) (hy : ¬ h 109 s < 0 ∧ ¬ h 109 t < 0) (he : h 109 s = h 109 t) : Ok w k MX8_copy [.ref 96, .int (nI s), .int (nI b), .int (nI t), .int (nI e), .int (nI m)] h (fun r h' => r = some (.int (nI m)) ∧ h' 111 = spl (h 111) (24 * t + e) m (fun k => h 111 (24 * s + b + k)) ∧ Ag [111, 116] h h') := by
  show Wp w k MX8_copy _ 0 [some (.ref 96), some (.int (nI s)), some (.int (nI b)), some (.int (nI t)), some (.int (nI e)), some (.int (nI m)), none] [] h
  refine p_run (pc' := 1) [.iload_n 1] mkX8_copy (by decide +kernel) rfl rfl ?_
  refine p_callSv (isSheet_t w (k := k - 1) (by omega) _ _ (in_nI (lo := 0) (hi := 3) (by omega) (Nat.le_of_lt_succ hs) (by omega))) ksX8_206 (by decide +kernel) (by omega) rfl rfl rfl rfl rfl ?_
  refine p_if_eq (off := 10) 14 (by decide +kernel) (by decide) (fun cq4 => ?_) (fun cq4 => ?_)
  · exact False.elim (by revert cq4; decide)
  · refine p_run (pc' := 8) [.iload_n 3] mkX8_copy (by decide +kernel) rfl rfl ?_
    refine p_callSv (isSheet_t w (k := k - 1) (by omega) _ _ (in_nI (lo := 0) (hi := 3) (by omega) (Nat.le_of_lt_succ ht) (by omega))) ksX8_206 (by decide +kernel) (by omega) rfl rfl rfl rfl rfl ?_
    refine p_if_ne (off := 6) 17 (by decide +kernel) (by decide) (fun cq11 => ?_) (fun cq11 => ?_)
    · refine p_run (pc' := 22) [.aload_n 0, .getfield 48, .iload_n 1] mkX8_copy (by decide +kernel) rfl rfl ?_
      refine p_iald (s) (by decide +kernel) rfl rfl (by first | rfl | simp only [oI]) (by omega) ?_
      refine p_if_lt (off := 12) 35 (by decide +kernel) (by decide) (fun cq23 => ?_) (fun cq23 => ?_)
      · exact absurd cq23 hy.1
      · refine p_run (pc' := 31) [.aload_n 0, .getfield 48, .iload_n 3] mkX8_copy (by decide +kernel) rfl rfl ?_
        refine p_iald (t) (by decide +kernel) rfl rfl (by first | rfl | simp only [oI]) (by omega) ?_
        refine p_if_ge (off := 6) 38 (by decide +kernel) (by decide) (fun cq32 => ?_) (fun cq32 => ?_)
        · refine p_run (pc' := 43) [.aload_n 0, .getfield 48, .iload_n 1] mkX8_copy (by decide +kernel) rfl rfl ?_
          refine p_iald (s) (by decide +kernel) rfl rfl (by first | rfl | simp only [oI]) (by omega) ?_
          refine p_run (pc' := 49) [.aload_n 0, .getfield 48, .iload_n 3] mkX8_copy (by decide +kernel) rfl rfl ?_
          refine p_iald (t) (by decide +kernel) rfl rfl (by first | rfl | simp only [oI]) (by omega) ?_
          refine p_icmp_eq (off := 6) 56 (by decide +kernel) (by decide) (fun cq50 => ?_) (fun cq50 => ?_)
          · refine p_run (pc' := 57) [.iload_n 2] mkX8_copy (by decide +kernel) rfl rfl ?_
            refine p_if_lt (off := 40) 97 (by decide +kernel) (by decide) (fun cq57 => ?_) (fun cq57 => ?_)
            · exact absurd cq57 (nI_lt0 (by omega))
            · refine p_run (pc' := 62) [.iload 4] mkX8_copy (by decide +kernel) rfl rfl ?_
              refine p_if_lt (off := 35) 97 (by decide +kernel) (by decide) (fun cq62 => ?_) (fun cq62 => ?_)
              · exact absurd cq62 (nI_lt0 (by omega))
              · refine p_run (pc' := 67) [.iload 5] mkX8_copy (by decide +kernel) rfl rfl ?_
                refine p_if_lt (off := 30) 97 (by decide +kernel) (by decide) (fun cq67 => ?_) (fun cq67 => ?_)
                · exact absurd cq67 (nI_lt0 (by omega))
                · refine p_run (pc' := 76) [.iload_n 2, .aload_n 0, .getfield 51, .iload_n 1] mkX8_copy (by decide +kernel) rfl rfl ?_
                  refine p_iald (s) (by decide +kernel) rfl rfl (by first | rfl | simp only [oI]) (by omega) ?_
                  refine p_run (pc' := 80) [.iload 5, .isub] mkX8_copy (by decide +kernel) rfl rfl ?_
                  refine p_icmp_gt (off := 17) 97 (by decide +kernel) (by decide) (fun cq80 => ?_) (fun cq80 => ?_)
                  · exact absurd cq80 (Int32.not_lt.mpr (by rw [hsz, nIs (by omega)]; exact nI_le (by omega) (by omega)))
                  · refine p_run (pc' := 90) [.iload 4, .aload_n 0, .getfield 51, .iload_n 3] mkX8_copy (by decide +kernel) rfl rfl ?_
                    refine p_iald (t) (by decide +kernel) rfl rfl (by first | rfl | simp only [oI]) (by omega) ?_
                    refine p_run (pc' := 94) [.iload 5, .isub] mkX8_copy (by decide +kernel) rfl rfl ?_
                    refine p_icmp_le (off := 7) 101 (by decide +kernel) (by decide) (fun cq94 => ?_) (fun cq94 => ?_)
                    · have hz1 := hz1
                      refine p_run (pc' := 104) [.iconst 0, .istore 6] mkX8_copy (by decide +kernel) rfl rfl ?_
                      refine Wp.for (m) (fun i L hh => L = [some (.ref 96), some (.int (nI s)), some (.int (nI b)), some (.int (nI t)), some (.int (nI e)), some (.int (nI m)), some (.int (nI i))] ∧ hh = wr h 116 (spl (h 116) 0 i (fun k => h 111 (24 * s + b + k)))) ?_ ?_ (0) (by omega) _ _ ?_
                      · rintro i L hh hi ⟨rfl, hJ⟩ ih
                        subst hJ
                        refine p_run (pc' := 108) [.iload 6, .iload 5] mkX8_copy (by decide +kernel) rfl rfl ?_
                        refine p_icmp_ge (off := 30) 138 (by decide +kernel) (by decide) (fun cq1 => ?_) (fun cq1 => ?_)
                        · exact absurd cq1 (nI_ge (by omega) (by omega))
                        · refine p_run (pc' := 130) [.aload_n 0, .getfield 69, .iload 6, .aload_n 0, .getfield 54, .bipush 24, .iload_n 1, .imul, .iload_n 2, .iadd, .iload 6, .iadd] mkX8_copy (by decide +kernel) rfl rfl ?_
                          refine p_iald (24 * s + b + i) (by decide +kernel) rfl rfl (by simp only [oI, nIm, nI_add]) (by omega) ?_
                          rw [wrN (by decide)]
                          refine p_iast (i) (by decide +kernel) rfl rfl rfl (by omega)  ?_
                          refine p_run (pc' := 104) [.iinc 6 1, .goto (-31)] mkX8_copy (by decide +kernel) rfl rfl ?_
                          exact ih _ _ ⟨by rw [show nI i + Int32.ofInt 1 = nI (i + 1) by simp only [oI, nI_add]], by rw [up_up97, wr_wr, wrS, ← splS, Nat.zero_add]⟩
                      · rintro L hh ⟨rfl, hJ⟩
                        subst hJ
                        refine p_run (pc' := 108) [.iload 6, .iload 5] mkX8_copy (by decide +kernel) rfl rfl ?_
                        refine p_icmp_ge (off := 30) 138 (by decide +kernel) (by decide) (fun cq1 => ?_) (fun cq1 => ?_)
                        · refine p_run (pc' := 141) [.iconst 0, .istore 6] mkX8_copy (by decide +kernel) rfl rfl ?_
                          generalize e3 : wr h 116 (spl (h 116) 0 m (fun k => h 111 (24 * s + b + k))) = h3
                          have e111 : h3 111 = h 111 := by rw [← e3, wrN (by decide)]
                          have e116 : ∀ i, i < m → h3 116 i = h 111 (24 * s + b + i) := fun i hi => by rw [← e3, wrS]; unfold spl; rw [if_pos (by omega), Nat.sub_zero]
                          have hA3 : Ag [111, 116] h h3 := by rw [← e3]; exact Ag.wr (by decide)
                          clear e3
                          refine Wp.for (m) (fun i L hh => L = [some (.ref 96), some (.int (nI s)), some (.int (nI b)), some (.int (nI t)), some (.int (nI e)), some (.int (nI m)), some (.int (nI i))] ∧ hh = wr h3 111 (spl (h 111) (24 * t + e) i (fun k => h 111 (24 * s + b + k)))) ?_ ?_ (0) (by omega) _ _ ?_
                          · rintro i L hh hi ⟨rfl, hJ⟩ ih
                            subst hJ
                            refine p_run (pc' := 145) [.iload 6, .iload 5] mkX8_copy (by decide +kernel) rfl rfl ?_
                            refine p_icmp_ge (off := 31) 176 (by decide +kernel) (by decide) (fun cq1 => ?_) (fun cq1 => ?_)
                            · exact absurd cq1 (nI_ge (by omega) (by omega))
                            · refine p_run (pc' := 168) [.aload_n 0, .getfield 54, .bipush 24, .iload_n 3, .imul, .iload 4, .iadd, .iload 6, .iadd, .aload_n 0, .getfield 69, .iload 6] mkX8_copy (by decide +kernel) rfl rfl ?_
                              refine p_iald (i) (by decide +kernel) rfl rfl rfl (by omega) ?_
                              rw [wrN (by decide), e116 i hi]
                              refine p_iast (24 * t + e + i) (by decide +kernel) rfl rfl (by simp only [oI, nIm, nI_add]) (by omega)  ?_
                              refine p_run (pc' := 141) [.iinc 6 1, .goto (-32)] mkX8_copy (by decide +kernel) rfl rfl ?_
                              exact ih _ _ ⟨by rw [show nI i + Int32.ofInt 1 = nI (i + 1) by simp only [oI, nI_add]], by rw [up_up97, wr_wr, wrS, ← splS]⟩
                          · rintro L hh ⟨rfl, hJ⟩
                            subst hJ
                            refine p_run (pc' := 145) [.iload 6, .iload 5] mkX8_copy (by decide +kernel) rfl rfl ?_
                            refine p_icmp_ge (off := 31) 176 (by decide +kernel) (by decide) (fun cq1 => ?_) (fun cq1 => ?_)
                            · refine p_run (pc' := 178) [.iload 5] mkX8_copy (by decide +kernel) rfl rfl ?_
                              refine p_iret rfl rfl (by decide +kernel) ?_
                              exact ⟨rfl, by rw [wrS], hA3.tr (Ag.wr (by decide))⟩
                            · exact absurd (nI_le (Nat.le_refl _) (by omega)) cq1
                          · exact ⟨rfl, by rw [spl0, ← e111, wr_self]⟩
                        · exact absurd (nI_le (Nat.le_refl _) (by omega)) cq1
                      · exact ⟨rfl, by rw [spl0, wr_self]⟩
                    · exact absurd (by rw [htz, nIs (by omega)]; exact nI_le (by omega) (by omega)) cq94
          · exact absurd he cq50
        · exact absurd (Int32.not_lt.mp hy.2) cq32
    · exact False.elim (by revert cq11; decide)
def laP (N : Vc) (a th x : Int32) : Prop := inR a 0 4 ∧ inR th 0 3 ∧ (th = nI 1 → isD N x) ∧ (th = nI 2 → inR x 0 3)
set_option maxRecDepth 20000 in
set_option maxHeartbeats 4000000 in
theorem r_lay_bad (w : Wt) {k : Nat} (hk : 2 ≤ k) (a b c : Int32) (h : Mm) (hb : ¬ laP (h 97) a b c) : Ok w k MX8_lay [.ref 96, .int a, .int b, .int c] h (Rv BADv h) := by
  show Wp w k MX8_lay _ 0 [some (.ref 96), some (.int a), some (.int b), some (.int c), none, none] [] h
  refine p_run (pc' := 1) [.iload_n 1] mkX8_lay (by decide +kernel) rfl rfl ?_
  refine p_callSv (risSlot_ok w (k := k - 1) (by omega) _ _) ksX8_285 (by decide +kernel) (by omega) rfl rfl rfl rfl rfl ?_
  refine p_if_eq (off := 37) 41 (by decide +kernel) (by decide) (fun cq4 => ?_) (fun cq4 => ?_)
  · have cq4 := bI0.mp cq4
    refine p_run (pc' := 43) [.ldc 123] mkX8_lay (by decide +kernel) rfl rfl ?_
    refine p_iret rfl rfl (by decide +kernel) ?_
    exact ⟨rfl, rfl⟩
  · have cq4 := bI1.mp cq4
    refine p_run (pc' := 10) [.iload_n 2, .iconst 0, .iconst 3] mkX8_lay (by decide +kernel) rfl rfl ?_
    refine p_callSv (in_ok w (k := k - 1) _ _ _ _) ksX8_75 (by decide +kernel) (by omega) rfl rfl rfl rfl rfl ?_
    refine p_if_eq (off := 28) 41 (by decide +kernel) (by decide) (fun cq13 => ?_) (fun cq13 => ?_)
    · have cq13 := bI0.mp cq13
      refine p_run (pc' := 43) [.ldc 123] mkX8_lay (by decide +kernel) rfl rfl ?_
      refine p_iret rfl rfl (by decide +kernel) ?_
      exact ⟨rfl, rfl⟩
    · have cq13 := bI1.mp cq13
      refine p_run (pc' := 18) [.iload_n 2, .iconst 1] mkX8_lay (by decide +kernel) rfl rfl ?_
      refine p_icmp_ne (off := 11) 29 (by decide +kernel) (by decide) (fun cq18 => ?_) (fun cq18 => ?_)
      · refine p_run (pc' := 31) [.iload_n 2, .iconst 2] mkX8_lay (by decide +kernel) rfl rfl ?_
        refine p_icmp_ne (off := 13) 44 (by decide +kernel) (by decide) (fun cq31 => ?_) (fun cq31 => ?_)
        · exact absurd ⟨cq4, cq13, fun z => absurd z cq18, fun z => absurd z cq31⟩ hb
        · refine p_run (pc' := 35) [.iload_n 3] mkX8_lay (by decide +kernel) rfl rfl ?_
          refine p_callSv (risSheet_ok w (k := k - 1) (by omega) _ _) ksX8_206 (by decide +kernel) (by omega) rfl rfl rfl rfl rfl ?_
          refine p_if_ne (off := 6) 44 (by decide +kernel) (by decide) (fun cq38 => ?_) (fun cq38 => ?_)
          · have cq38 := bI1.mp cq38
            exact absurd ⟨cq4, cq13, fun z => absurd z cq18, fun _ => cq38⟩ hb
          · have cq38 := bI0.mp cq38
            refine p_run (pc' := 43) [.ldc 123] mkX8_lay (by decide +kernel) rfl rfl ?_
            refine p_iret rfl rfl (by decide +kernel) ?_
            exact ⟨rfl, rfl⟩
      · refine p_run (pc' := 23) [.aload_n 0, .iload_n 3] mkX8_lay (by decide +kernel) rfl rfl ?_
        refine p_callVv (risDigger_ok w (k := k - 1) (by omega) _ _) kvX8_129 (by decide +kernel) (by decide) rfl (by omega) rfl rfl rfl rfl rfl ?_
        refine p_if_eq (off := 15) 41 (by decide +kernel) (by decide) (fun cq26 => ?_) (fun cq26 => ?_)
        · have cq26 := bI0.mp cq26
          refine p_run (pc' := 43) [.ldc 123] mkX8_lay (by decide +kernel) rfl rfl ?_
          refine p_iret rfl rfl (by decide +kernel) ?_
          exact ⟨rfl, rfl⟩
        · have cq26 := bI1.mp cq26
          refine p_run (pc' := 31) [.iload_n 2, .iconst 2] mkX8_lay (by decide +kernel) rfl rfl ?_
          refine p_icmp_ne (off := 13) 44 (by decide +kernel) (by decide) (fun cq31 => ?_) (fun cq31 => ?_)
          · exact absurd ⟨cq4, cq13, fun _ => cq26, fun z => absurd z cq31⟩ hb
          · refine p_run (pc' := 35) [.iload_n 3] mkX8_lay (by decide +kernel) rfl rfl ?_
            refine p_callSv (risSheet_ok w (k := k - 1) (by omega) _ _) ksX8_206 (by decide +kernel) (by omega) rfl rfl rfl rfl rfl ?_
            refine p_if_ne (off := 6) 44 (by decide +kernel) (by decide) (fun cq38 => ?_) (fun cq38 => ?_)
            · have cq38 := bI1.mp cq38
              exact absurd ⟨cq4, cq13, fun _ => cq26, fun _ => cq38⟩ hb
            · have cq38 := bI0.mp cq38
              refine p_run (pc' := 43) [.ldc 123] mkX8_lay (by decide +kernel) rfl rfl ?_
              refine p_iret rfl rfl (by decide +kernel) ?_
              exact ⟨rfl, rfl⟩
set_option maxRecDepth 20000 in
set_option maxHeartbeats 4000000 in
theorem r_lay_no (w : Wt) {k : Nat} (hk : 2 ≤ k) (s q : Nat) (hs : s < 5) (hq : q < 4) (h : Mm) (hno : h 109 q < 0) : Ok w k MX8_lay [.ref 96, .int (nI s), .int (nI 2), .int (nI q)] h (Rv NOTHINGv h) := by
  show Wp w k MX8_lay _ 0 [some (.ref 96), some (.int (nI s)), some (.int (nI 2)), some (.int (nI q)), none, none] [] h
  refine p_run (pc' := 1) [.iload_n 1] mkX8_lay (by decide +kernel) rfl rfl ?_
  refine p_callSv (isSlot_t w (k := k - 1) (by omega) _ _ (in_nI (lo := 0) (hi := 4) (by omega) (Nat.le_of_lt_succ hs) (by omega))) ksX8_285 (by decide +kernel) (by omega) rfl rfl rfl rfl rfl ?_
  refine p_if_eq (off := 37) 41 (by decide +kernel) (by decide) (fun cq4 => ?_) (fun cq4 => ?_)
  · exact False.elim (by revert cq4; decide)
  · refine p_run (pc' := 10) [.iload_n 2, .iconst 0, .iconst 3] mkX8_lay (by decide +kernel) rfl rfl ?_
    refine p_callSv (in_t w (k := k - 1) _ _ _ _ (by exact in_nI (lo := 0) (hi := 3) (by omega) (by omega) (by omega))) ksX8_75 (by decide +kernel) (by omega) rfl rfl rfl rfl rfl ?_
    refine p_if_eq (off := 28) 41 (by decide +kernel) (by decide) (fun cq13 => ?_) (fun cq13 => ?_)
    · exact False.elim (by revert cq13; decide)
    · refine p_run (pc' := 18) [.iload_n 2, .iconst 1] mkX8_lay (by decide +kernel) rfl rfl ?_
      refine p_icmp_ne (off := 11) 29 (by decide +kernel) (by decide) (fun cq18 => ?_) (fun cq18 => ?_)
      · refine p_run (pc' := 31) [.iload_n 2, .iconst 2] mkX8_lay (by decide +kernel) rfl rfl ?_
        refine p_icmp_ne (off := 13) 44 (by decide +kernel) (by decide) (fun cq31 => ?_) (fun cq31 => ?_)
        · exact False.elim (by revert cq31; decide)
        · refine p_run (pc' := 35) [.iload_n 3] mkX8_lay (by decide +kernel) rfl rfl ?_
          refine p_callSv (isSheet_t w (k := k - 1) (by omega) _ _ (in_nI (lo := 0) (hi := 3) (by omega) (by omega) (by omega))) ksX8_206 (by decide +kernel) (by omega) rfl rfl rfl rfl rfl ?_
          refine p_if_ne (off := 6) 44 (by decide +kernel) (by decide) (fun cq38 => ?_) (fun cq38 => ?_)
          · refine p_run (pc' := 46) [.iload_n 2, .iconst 2] mkX8_lay (by decide +kernel) rfl rfl ?_
            refine p_icmp_ne (off := 15) 61 (by decide +kernel) (by decide) (fun cq46 => ?_) (fun cq46 => ?_)
            · exact False.elim (by revert cq46; decide)
            · refine p_run (pc' := 54) [.aload_n 0, .getfield 48, .iload_n 3] mkX8_lay (by decide +kernel) rfl rfl ?_
              refine p_iald (q) (by decide +kernel) rfl rfl (by first | rfl | simp only [oI]) (by omega) ?_
              refine p_if_ge (off := 6) 61 (by decide +kernel) (by decide) (fun cq55 => ?_) (fun cq55 => ?_)
              · exact absurd cq55 (Int32.not_le.mpr hno)
              · refine p_run (pc' := 60) [.ldc 209] mkX8_lay (by decide +kernel) rfl rfl ?_
                refine p_iret rfl rfl (by decide +kernel) ?_
                exact ⟨rfl, rfl⟩
          · exact False.elim (by revert cq38; decide)
      · exact False.elim (by revert cq18; decide)
set_option maxRecDepth 20000 in
set_option maxHeartbeats 4000000 in
theorem r_lay0 (w : Wt) {k : Nat} (hk : 4 ≤ k) (s : Nat) (hs : s < 5) (x : Int32) (h : Mm) : Ok w k MX8_lay [.ref 96, .int (nI s), .int (nI 0), .int x] h (Rv (h 112 s) (up (up (up h 112 s (nI 0)) 113 s x) 114 s (nI 0))) := by
  show Wp w k MX8_lay _ 0 [some (.ref 96), some (.int (nI s)), some (.int (nI 0)), some (.int x), none, none] [] h
  refine p_run (pc' := 1) [.iload_n 1] mkX8_lay (by decide +kernel) rfl rfl ?_
  refine p_callSv (isSlot_t w (k := k - 1) (by omega) _ _ (in_nI (lo := 0) (hi := 4) (by omega) (Nat.le_of_lt_succ hs) (by omega))) ksX8_285 (by decide +kernel) (by omega) rfl rfl rfl rfl rfl ?_
  refine p_if_eq (off := 37) 41 (by decide +kernel) (by decide) (fun cq4 => ?_) (fun cq4 => ?_)
  · exact False.elim (by revert cq4; decide)
  · refine p_run (pc' := 10) [.iload_n 2, .iconst 0, .iconst 3] mkX8_lay (by decide +kernel) rfl rfl ?_
    refine p_callSv (in_t w (k := k - 1) _ _ _ _ (by exact in_nI (lo := 0) (hi := 3) (by omega) (by omega) (by omega))) ksX8_75 (by decide +kernel) (by omega) rfl rfl rfl rfl rfl ?_
    refine p_if_eq (off := 28) 41 (by decide +kernel) (by decide) (fun cq13 => ?_) (fun cq13 => ?_)
    · exact False.elim (by revert cq13; decide)
    · refine p_run (pc' := 18) [.iload_n 2, .iconst 1] mkX8_lay (by decide +kernel) rfl rfl ?_
      refine p_icmp_ne (off := 11) 29 (by decide +kernel) (by decide) (fun cq18 => ?_) (fun cq18 => ?_)
      · refine p_run (pc' := 31) [.iload_n 2, .iconst 2] mkX8_lay (by decide +kernel) rfl rfl ?_
        refine p_icmp_ne (off := 13) 44 (by decide +kernel) (by decide) (fun cq31 => ?_) (fun cq31 => ?_)
        · refine p_run (pc' := 46) [.iload_n 2, .iconst 2] mkX8_lay (by decide +kernel) rfl rfl ?_
          refine p_icmp_ne (off := 15) 61 (by decide +kernel) (by decide) (fun cq46 => ?_) (fun cq46 => ?_)
          · refine p_run (pc' := 66) [.aload_n 0, .getfield 57, .iload_n 1] mkX8_lay (by decide +kernel) rfl rfl ?_
            refine p_iald (s) (by decide +kernel) rfl rfl (by first | rfl | simp only [oI]) (by omega) ?_
            refine p_run (pc' := 75) [.istore 4, .aload_n 0, .getfield 57, .iload_n 1, .iload_n 2] mkX8_lay (by decide +kernel) rfl rfl ?_
            refine p_iast (s) (by decide +kernel) rfl rfl (by first | rfl | simp only [oI]) (by omega)  ?_
            refine p_run (pc' := 83) [.aload_n 0, .getfield 60, .iload_n 1, .iload_n 2, .iconst 1] mkX8_lay (by decide +kernel) rfl rfl ?_
            refine p_icmp_ne (off := 12) 95 (by decide +kernel) (by decide) (fun cq83 => ?_) (fun cq83 => ?_)
            · refine p_run (pc' := 97) [.iload_n 2, .iconst 2] mkX8_lay (by decide +kernel) rfl rfl ?_
              refine p_icmp_ne (off := 12) 109 (by decide +kernel) (by decide) (fun cq97 => ?_) (fun cq97 => ?_)
              · refine p_run (pc' := 110) [.iload_n 3] mkX8_lay (by decide +kernel) rfl rfl ?_
                refine p_iast (s) (by decide +kernel) rfl rfl (by first | rfl | simp only [oI]) (by omega)  ?_
                refine p_run (pc' := 118) [.aload_n 0, .getfield 63, .iload_n 1, .iload_n 2, .iconst 1] mkX8_lay (by decide +kernel) rfl rfl ?_
                refine p_icmp_ne (off := 11) 129 (by decide +kernel) (by decide) (fun cq118 => ?_) (fun cq118 => ?_)
                · refine p_run (pc' := 130) [.iconst 0] mkX8_lay (by decide +kernel) rfl rfl ?_
                  refine p_iast (s) (by decide +kernel) rfl rfl (by first | rfl | simp only [oI]) (by omega)  ?_
                  refine p_run (pc' := 134) [.iconst 0, .istore 5] mkX8_lay (by decide +kernel) rfl rfl ?_
                  refine p_run (pc' := 138) [.iload 5, .bipush 24] mkX8_lay (by decide +kernel) rfl rfl ?_
                  refine p_icmp_ge (off := 38) 176 (by decide +kernel) (by decide) (fun cqa => ?_) (fun cqa => ?_)
                  · exact False.elim (by revert cqa; decide)
                  · refine p_run (pc' := 143) [.iload_n 2, .iconst 2] mkX8_lay (by decide +kernel) rfl rfl ?_
                    refine p_icmp_ne (off := 33) 176 (by decide +kernel) (by decide) (fun cqb => ?_) (fun cqb => ?_)
                    · refine p_run (pc' := 178) [.iload 4] mkX8_lay (by decide +kernel) rfl rfl ?_
                      refine p_iret rfl rfl (by decide +kernel) ?_
                      exact ⟨rfl, rfl⟩
                    · exact False.elim (by revert cqb; decide)
                · exact False.elim (by revert cq118; decide)
              · exact False.elim (by revert cq97; decide)
            · exact False.elim (by revert cq83; decide)
          · exact False.elim (by revert cq46; decide)
        · exact False.elim (by revert cq31; decide)
      · exact False.elim (by revert cq18; decide)
set_option maxRecDepth 20000 in
set_option maxHeartbeats 4000000 in
theorem r_lay3 (w : Wt) {k : Nat} (hk : 4 ≤ k) (s : Nat) (hs : s < 5) (x : Int32) (h : Mm) : Ok w k MX8_lay [.ref 96, .int (nI s), .int (nI 3), .int x] h (Rv (h 112 s) (up (up (up h 112 s (nI 3)) 113 s x) 114 s (nI 0))) := by
  show Wp w k MX8_lay _ 0 [some (.ref 96), some (.int (nI s)), some (.int (nI 3)), some (.int x), none, none] [] h
  refine p_run (pc' := 1) [.iload_n 1] mkX8_lay (by decide +kernel) rfl rfl ?_
  refine p_callSv (isSlot_t w (k := k - 1) (by omega) _ _ (in_nI (lo := 0) (hi := 4) (by omega) (Nat.le_of_lt_succ hs) (by omega))) ksX8_285 (by decide +kernel) (by omega) rfl rfl rfl rfl rfl ?_
  refine p_if_eq (off := 37) 41 (by decide +kernel) (by decide) (fun cq4 => ?_) (fun cq4 => ?_)
  · exact False.elim (by revert cq4; decide)
  · refine p_run (pc' := 10) [.iload_n 2, .iconst 0, .iconst 3] mkX8_lay (by decide +kernel) rfl rfl ?_
    refine p_callSv (in_t w (k := k - 1) _ _ _ _ (by exact in_nI (lo := 0) (hi := 3) (by omega) (by omega) (by omega))) ksX8_75 (by decide +kernel) (by omega) rfl rfl rfl rfl rfl ?_
    refine p_if_eq (off := 28) 41 (by decide +kernel) (by decide) (fun cq13 => ?_) (fun cq13 => ?_)
    · exact False.elim (by revert cq13; decide)
    · refine p_run (pc' := 18) [.iload_n 2, .iconst 1] mkX8_lay (by decide +kernel) rfl rfl ?_
      refine p_icmp_ne (off := 11) 29 (by decide +kernel) (by decide) (fun cq18 => ?_) (fun cq18 => ?_)
      · refine p_run (pc' := 31) [.iload_n 2, .iconst 2] mkX8_lay (by decide +kernel) rfl rfl ?_
        refine p_icmp_ne (off := 13) 44 (by decide +kernel) (by decide) (fun cq31 => ?_) (fun cq31 => ?_)
        · refine p_run (pc' := 46) [.iload_n 2, .iconst 2] mkX8_lay (by decide +kernel) rfl rfl ?_
          refine p_icmp_ne (off := 15) 61 (by decide +kernel) (by decide) (fun cq46 => ?_) (fun cq46 => ?_)
          · refine p_run (pc' := 66) [.aload_n 0, .getfield 57, .iload_n 1] mkX8_lay (by decide +kernel) rfl rfl ?_
            refine p_iald (s) (by decide +kernel) rfl rfl (by first | rfl | simp only [oI]) (by omega) ?_
            refine p_run (pc' := 75) [.istore 4, .aload_n 0, .getfield 57, .iload_n 1, .iload_n 2] mkX8_lay (by decide +kernel) rfl rfl ?_
            refine p_iast (s) (by decide +kernel) rfl rfl (by first | rfl | simp only [oI]) (by omega)  ?_
            refine p_run (pc' := 83) [.aload_n 0, .getfield 60, .iload_n 1, .iload_n 2, .iconst 1] mkX8_lay (by decide +kernel) rfl rfl ?_
            refine p_icmp_ne (off := 12) 95 (by decide +kernel) (by decide) (fun cq83 => ?_) (fun cq83 => ?_)
            · refine p_run (pc' := 97) [.iload_n 2, .iconst 2] mkX8_lay (by decide +kernel) rfl rfl ?_
              refine p_icmp_ne (off := 12) 109 (by decide +kernel) (by decide) (fun cq97 => ?_) (fun cq97 => ?_)
              · refine p_run (pc' := 110) [.iload_n 3] mkX8_lay (by decide +kernel) rfl rfl ?_
                refine p_iast (s) (by decide +kernel) rfl rfl (by first | rfl | simp only [oI]) (by omega)  ?_
                refine p_run (pc' := 118) [.aload_n 0, .getfield 63, .iload_n 1, .iload_n 2, .iconst 1] mkX8_lay (by decide +kernel) rfl rfl ?_
                refine p_icmp_ne (off := 11) 129 (by decide +kernel) (by decide) (fun cq118 => ?_) (fun cq118 => ?_)
                · refine p_run (pc' := 130) [.iconst 0] mkX8_lay (by decide +kernel) rfl rfl ?_
                  refine p_iast (s) (by decide +kernel) rfl rfl (by first | rfl | simp only [oI]) (by omega)  ?_
                  refine p_run (pc' := 134) [.iconst 0, .istore 5] mkX8_lay (by decide +kernel) rfl rfl ?_
                  refine p_run (pc' := 138) [.iload 5, .bipush 24] mkX8_lay (by decide +kernel) rfl rfl ?_
                  refine p_icmp_ge (off := 38) 176 (by decide +kernel) (by decide) (fun cqa => ?_) (fun cqa => ?_)
                  · exact False.elim (by revert cqa; decide)
                  · refine p_run (pc' := 143) [.iload_n 2, .iconst 2] mkX8_lay (by decide +kernel) rfl rfl ?_
                    refine p_icmp_ne (off := 33) 176 (by decide +kernel) (by decide) (fun cqb => ?_) (fun cqb => ?_)
                    · refine p_run (pc' := 178) [.iload 4] mkX8_lay (by decide +kernel) rfl rfl ?_
                      refine p_iret rfl rfl (by decide +kernel) ?_
                      exact ⟨rfl, rfl⟩
                    · exact False.elim (by revert cqb; decide)
                · exact False.elim (by revert cq118; decide)
              · exact False.elim (by revert cq97; decide)
            · exact False.elim (by revert cq83; decide)
          · exact False.elim (by revert cq46; decide)
        · exact False.elim (by revert cq31; decide)
      · exact False.elim (by revert cq18; decide)
set_option maxRecDepth 20000 in
set_option maxHeartbeats 4000000 in
theorem r_lay1 (w : Wt) {k : Nat} (hk : 4 ≤ k) (s q : Nat) (hs : s < 5) (h : Mm) (hI : Iv (h 97)) (hq : q < nd (h 97)) : Ok w k MX8_lay [.ref 96, .int (nI s), .int (nI 1), .int (nI q)] h (Rv (h 112 s) (up (up (up h 112 s (nI 1)) 113 s (dK (h 97) q 0)) 114 s (woF (h 97) q))) := by
  show Wp w k MX8_lay _ 0 [some (.ref 96), some (.int (nI s)), some (.int (nI 1)), some (.int (nI q)), none, none] [] h
  have hn10 := hI.nd.2
  refine p_run (pc' := 1) [.iload_n 1] mkX8_lay (by decide +kernel) rfl rfl ?_
  refine p_callSv (isSlot_t w (k := k - 1) (by omega) _ _ (in_nI (lo := 0) (hi := 4) (by omega) (Nat.le_of_lt_succ hs) (by omega))) ksX8_285 (by decide +kernel) (by omega) rfl rfl rfl rfl rfl ?_
  refine p_if_eq (off := 37) 41 (by decide +kernel) (by decide) (fun cq4 => ?_) (fun cq4 => ?_)
  · exact False.elim (by revert cq4; decide)
  · refine p_run (pc' := 10) [.iload_n 2, .iconst 0, .iconst 3] mkX8_lay (by decide +kernel) rfl rfl ?_
    refine p_callSv (in_t w (k := k - 1) _ _ _ _ (by exact in_nI (lo := 0) (hi := 3) (by omega) (by omega) (by omega))) ksX8_75 (by decide +kernel) (by omega) rfl rfl rfl rfl rfl ?_
    refine p_if_eq (off := 28) 41 (by decide +kernel) (by decide) (fun cq13 => ?_) (fun cq13 => ?_)
    · exact False.elim (by revert cq13; decide)
    · refine p_run (pc' := 18) [.iload_n 2, .iconst 1] mkX8_lay (by decide +kernel) rfl rfl ?_
      refine p_icmp_ne (off := 11) 29 (by decide +kernel) (by decide) (fun cq18 => ?_) (fun cq18 => ?_)
      · exact False.elim (by revert cq18; decide)
      · refine p_run (pc' := 23) [.aload_n 0, .iload_n 3] mkX8_lay (by decide +kernel) rfl rfl ?_
        refine p_callVv (isDigger_t w (k := k - 1) (by omega) _ _ (isD_nI hI.nd.1 hq hI.nd.2)) kvX8_129 (by decide +kernel) (by decide) rfl (by omega) rfl rfl rfl rfl rfl ?_
        refine p_if_eq (off := 15) 41 (by decide +kernel) (by decide) (fun cq26 => ?_) (fun cq26 => ?_)
        · exact False.elim (by revert cq26; decide)
        · refine p_run (pc' := 31) [.iload_n 2, .iconst 2] mkX8_lay (by decide +kernel) rfl rfl ?_
          refine p_icmp_ne (off := 13) 44 (by decide +kernel) (by decide) (fun cq31 => ?_) (fun cq31 => ?_)
          · refine p_run (pc' := 46) [.iload_n 2, .iconst 2] mkX8_lay (by decide +kernel) rfl rfl ?_
            refine p_icmp_ne (off := 15) 61 (by decide +kernel) (by decide) (fun cq46 => ?_) (fun cq46 => ?_)
            · refine p_run (pc' := 66) [.aload_n 0, .getfield 57, .iload_n 1] mkX8_lay (by decide +kernel) rfl rfl ?_
              refine p_iald (s) (by decide +kernel) rfl rfl (by first | rfl | simp only [oI]) (by omega) ?_
              refine p_run (pc' := 75) [.istore 4, .aload_n 0, .getfield 57, .iload_n 1, .iload_n 2] mkX8_lay (by decide +kernel) rfl rfl ?_
              refine p_iast (s) (by decide +kernel) rfl rfl (by first | rfl | simp only [oI]) (by omega)  ?_
              refine p_run (pc' := 83) [.aload_n 0, .getfield 60, .iload_n 1, .iload_n 2, .iconst 1] mkX8_lay (by decide +kernel) rfl rfl ?_
              refine p_icmp_ne (off := 12) 95 (by decide +kernel) (by decide) (fun cq83 => ?_) (fun cq83 => ?_)
              · exact False.elim (by revert cq83; decide)
              · refine p_run (pc' := 89) [.aload_n 0, .iload_n 3, .iconst 0] mkX8_lay (by decide +kernel) rfl rfl ?_
                refine p_callVv (of_ok w (k := k - 1) q 0 _ (by omega)) kvX8_83 (by decide +kernel) (by decide) rfl (by omega) rfl rfl rfl rfl rfl ?_
                refine p_run (pc' := 110) [.goto 18] mkX8_lay (by decide +kernel) rfl rfl ?_
                refine p_iast (s) (by decide +kernel) rfl rfl (by first | rfl | simp only [oI]) (by omega)  ?_
                refine p_run (pc' := 118) [.aload_n 0, .getfield 63, .iload_n 1, .iload_n 2, .iconst 1] mkX8_lay (by decide +kernel) rfl rfl ?_
                refine p_icmp_ne (off := 11) 129 (by decide +kernel) (by decide) (fun cq118 => ?_) (fun cq118 => ?_)
                · exact False.elim (by revert cq118; decide)
                · refine p_run (pc' := 123) [.aload_n 0, .iload_n 3] mkX8_lay (by decide +kernel) rfl rfl ?_
                  refine p_callVv (worthOf_ok w (k := k - 1) (by omega) q (by omega) _ (by exact hI)) kvX8_138 (by decide +kernel) (by decide) rfl (by omega) rfl rfl rfl rfl rfl ?_
                  refine p_run (pc' := 130) [.goto 4] mkX8_lay (by decide +kernel) rfl rfl ?_
                  refine p_iast (s) (by decide +kernel) rfl rfl (by first | rfl | simp only [oI]) (by omega)  ?_
                  refine p_run (pc' := 134) [.iconst 0, .istore 5] mkX8_lay (by decide +kernel) rfl rfl ?_
                  refine p_run (pc' := 138) [.iload 5, .bipush 24] mkX8_lay (by decide +kernel) rfl rfl ?_
                  refine p_icmp_ge (off := 38) 176 (by decide +kernel) (by decide) (fun cqa => ?_) (fun cqa => ?_)
                  · exact False.elim (by revert cqa; decide)
                  · refine p_run (pc' := 143) [.iload_n 2, .iconst 2] mkX8_lay (by decide +kernel) rfl rfl ?_
                    refine p_icmp_ne (off := 33) 176 (by decide +kernel) (by decide) (fun cqb => ?_) (fun cqb => ?_)
                    · refine p_run (pc' := 178) [.iload 4] mkX8_lay (by decide +kernel) rfl rfl ?_
                      refine p_iret rfl rfl (by decide +kernel) ?_
                      exact ⟨rfl, rfl⟩
                    · exact False.elim (by revert cqb; decide)
            · exact False.elim (by revert cq46; decide)
          · exact False.elim (by revert cq31; decide)
set_option maxRecDepth 20000 in
set_option maxHeartbeats 4000000 in
theorem r_lay2 (w : Wt) {k : Nat} (hk : 4 ≤ k) (s q : Nat) (hs : s < 5) (hq : q < 4) (h : Mm) (hy : ¬ h 109 q < 0) : Ok w k MX8_lay [.ref 96, .int (nI s), .int (nI 2), .int (nI q)] h (Rv (h 112 s) (wr (up (up (up h 112 s (nI 2)) 113 s (h 110 q)) 114 s (nI 0)) 115 (spl (h 115) (24 * s) 24 (fun k => h 111 (24 * q + k))))) := by
  show Wp w k MX8_lay _ 0 [some (.ref 96), some (.int (nI s)), some (.int (nI 2)), some (.int (nI q)), none, none] [] h
  refine p_run (pc' := 1) [.iload_n 1] mkX8_lay (by decide +kernel) rfl rfl ?_
  refine p_callSv (isSlot_t w (k := k - 1) (by omega) _ _ (in_nI (lo := 0) (hi := 4) (by omega) (Nat.le_of_lt_succ hs) (by omega))) ksX8_285 (by decide +kernel) (by omega) rfl rfl rfl rfl rfl ?_
  refine p_if_eq (off := 37) 41 (by decide +kernel) (by decide) (fun cq4 => ?_) (fun cq4 => ?_)
  · exact False.elim (by revert cq4; decide)
  · refine p_run (pc' := 10) [.iload_n 2, .iconst 0, .iconst 3] mkX8_lay (by decide +kernel) rfl rfl ?_
    refine p_callSv (in_t w (k := k - 1) _ _ _ _ (by exact in_nI (lo := 0) (hi := 3) (by omega) (by omega) (by omega))) ksX8_75 (by decide +kernel) (by omega) rfl rfl rfl rfl rfl ?_
    refine p_if_eq (off := 28) 41 (by decide +kernel) (by decide) (fun cq13 => ?_) (fun cq13 => ?_)
    · exact False.elim (by revert cq13; decide)
    · refine p_run (pc' := 18) [.iload_n 2, .iconst 1] mkX8_lay (by decide +kernel) rfl rfl ?_
      refine p_icmp_ne (off := 11) 29 (by decide +kernel) (by decide) (fun cq18 => ?_) (fun cq18 => ?_)
      · refine p_run (pc' := 31) [.iload_n 2, .iconst 2] mkX8_lay (by decide +kernel) rfl rfl ?_
        refine p_icmp_ne (off := 13) 44 (by decide +kernel) (by decide) (fun cq31 => ?_) (fun cq31 => ?_)
        · exact False.elim (by revert cq31; decide)
        · refine p_run (pc' := 35) [.iload_n 3] mkX8_lay (by decide +kernel) rfl rfl ?_
          refine p_callSv (isSheet_t w (k := k - 1) (by omega) _ _ (in_nI (lo := 0) (hi := 3) (by omega) (by omega) (by omega))) ksX8_206 (by decide +kernel) (by omega) rfl rfl rfl rfl rfl ?_
          refine p_if_ne (off := 6) 44 (by decide +kernel) (by decide) (fun cq38 => ?_) (fun cq38 => ?_)
          · refine p_run (pc' := 46) [.iload_n 2, .iconst 2] mkX8_lay (by decide +kernel) rfl rfl ?_
            refine p_icmp_ne (off := 15) 61 (by decide +kernel) (by decide) (fun cq46 => ?_) (fun cq46 => ?_)
            · exact False.elim (by revert cq46; decide)
            · refine p_run (pc' := 54) [.aload_n 0, .getfield 48, .iload_n 3] mkX8_lay (by decide +kernel) rfl rfl ?_
              refine p_iald (q) (by decide +kernel) rfl rfl (by first | rfl | simp only [oI]) (by omega) ?_
              refine p_if_ge (off := 6) 61 (by decide +kernel) (by decide) (fun cq55 => ?_) (fun cq55 => ?_)
              · refine p_run (pc' := 66) [.aload_n 0, .getfield 57, .iload_n 1] mkX8_lay (by decide +kernel) rfl rfl ?_
                refine p_iald (s) (by decide +kernel) rfl rfl (by first | rfl | simp only [oI]) (by omega) ?_
                refine p_run (pc' := 75) [.istore 4, .aload_n 0, .getfield 57, .iload_n 1, .iload_n 2] mkX8_lay (by decide +kernel) rfl rfl ?_
                refine p_iast (s) (by decide +kernel) rfl rfl (by first | rfl | simp only [oI]) (by omega)  ?_
                refine p_run (pc' := 83) [.aload_n 0, .getfield 60, .iload_n 1, .iload_n 2, .iconst 1] mkX8_lay (by decide +kernel) rfl rfl ?_
                refine p_icmp_ne (off := 12) 95 (by decide +kernel) (by decide) (fun cq83 => ?_) (fun cq83 => ?_)
                · refine p_run (pc' := 97) [.iload_n 2, .iconst 2] mkX8_lay (by decide +kernel) rfl rfl ?_
                  refine p_icmp_ne (off := 12) 109 (by decide +kernel) (by decide) (fun cq97 => ?_) (fun cq97 => ?_)
                  · exact False.elim (by revert cq97; decide)
                  · refine p_run (pc' := 105) [.aload_n 0, .getfield 51, .iload_n 3] mkX8_lay (by decide +kernel) rfl rfl ?_
                    refine p_iald (q) (by decide +kernel) rfl rfl rfl hq ?_
                    refine p_run (pc' := 110) [.goto 4] mkX8_lay (by decide +kernel) rfl rfl ?_
                    refine p_iast (s) (by decide +kernel) rfl rfl (by first | rfl | simp only [oI]) (by omega)  ?_
                    refine p_run (pc' := 118) [.aload_n 0, .getfield 63, .iload_n 1, .iload_n 2, .iconst 1] mkX8_lay (by decide +kernel) rfl rfl ?_
                    refine p_icmp_ne (off := 11) 129 (by decide +kernel) (by decide) (fun cq118 => ?_) (fun cq118 => ?_)
                    · refine p_run (pc' := 130) [.iconst 0] mkX8_lay (by decide +kernel) rfl rfl ?_
                      refine p_iast (s) (by decide +kernel) rfl rfl (by first | rfl | simp only [oI]) (by omega)  ?_
                      refine p_run (pc' := 134) [.iconst 0, .istore 5] mkX8_lay (by decide +kernel) rfl rfl ?_
                      generalize e3 : up (up (up h 112 s _) 113 s _) 114 s _ = h3
                      have e111 : h3 111 = h 111 := by rw [← e3, upN (by decide), upN (by decide), upN (by decide)]
                      refine Wp.for (24) (fun i L hh => L = [some (.ref 96), some (.int (nI s)), some (.int (nI 2)), some (.int (nI q)), some (.int (h 112 s)), some (.int (nI i))] ∧ hh = wr h3 115 (spl (h3 115) (24 * s) i (fun k => h 111 (24 * q + k)))) ?_ ?_ (0) (by omega) _ _ ?_
                      · rintro i L hh hi ⟨rfl, hJ⟩ ih
                        subst hJ
                        refine p_run (pc' := 138) [.iload 5, .bipush 24] mkX8_lay (by decide +kernel) rfl rfl ?_
                        refine p_icmp_ge (off := 38) 176 (by decide +kernel) (by decide) (fun cq1 => ?_) (fun cq1 => ?_)
                        · exact False.elim (by rw [oI, nI_leI (by omega) (by omega)] at cq1; omega)
                        · refine p_run (pc' := 143) [.iload_n 2, .iconst 2] mkX8_lay (by decide +kernel) rfl rfl ?_
                          refine p_icmp_ne (off := 33) 176 (by decide +kernel) (by decide) (fun cq2 => ?_) (fun cq2 => ?_)
                          · exact False.elim (by revert cq2; decide)
                          · refine p_run (pc' := 168) [.aload_n 0, .getfield 66, .bipush 24, .iload_n 1, .imul, .iload 5, .iadd, .aload_n 0, .getfield 54, .bipush 24, .iload_n 3, .imul, .iload 5, .iadd] mkX8_lay (by decide +kernel) rfl rfl ?_
                            refine p_iald (24 * q + i) (by decide +kernel) rfl rfl (by simp only [oI, nIm, nI_add]) (by omega) ?_
                            rw [wrN (by decide), e111]
                            refine p_iast (24 * s + i) (by decide +kernel) rfl rfl (by simp only [oI, nIm, nI_add]) (by omega)  ?_
                            refine p_run (pc' := 134) [.iinc 5 1, .goto (-39)] mkX8_lay (by decide +kernel) rfl rfl ?_
                            exact ih _ _ ⟨by rw [show nI i + Int32.ofInt 1 = nI (i + 1) by simp only [oI, nI_add]], by rw [up_up97, wr_wr, wrS, ← splS]⟩
                      · rintro L hh ⟨rfl, hJ⟩
                        subst hJ
                        refine p_run (pc' := 138) [.iload 5, .bipush 24] mkX8_lay (by decide +kernel) rfl rfl ?_
                        refine p_icmp_ge (off := 38) 176 (by decide +kernel) (by decide) (fun cq1 => ?_) (fun cq1 => ?_)
                        · refine p_run (pc' := 178) [.iload 4] mkX8_lay (by decide +kernel) rfl rfl ?_
                          refine p_iret rfl rfl (by decide +kernel) ?_
                          exact ⟨rfl, by rw [← e3, upN (by decide), upN (by decide), upN (by decide)]⟩
                        · exact False.elim (by revert cq1; decide)
                      · exact ⟨rfl, by rw [spl0, wr_self, ← e3]; rfl⟩
                    · exact False.elim (by revert cq118; decide)
                · exact False.elim (by revert cq83; decide)
              · exact absurd (Int32.not_lt.mp hy) cq55
          · exact False.elim (by revert cq38; decide)
      · exact False.elim (by revert cq18; decide)
set_option maxRecDepth 20000 in
set_option maxHeartbeats 4000000 in
theorem r_ask_bad (w : Wt) {k : Nat} (hk : 2 ≤ k) (a b : Int32) (h : Mm) (hb : ¬ (inR a 0 4 ∧ inR b 0 5)) : Ok w k MX8_ask [.ref 96, .int a, .int b] h (Rv BADv h) := by
  show Wp w k MX8_ask _ 0 [some (.ref 96), some (.int a), some (.int b)] [] h
  refine p_run (pc' := 1) [.iload_n 1] mkX8_ask (by decide +kernel) rfl rfl ?_
  refine p_callSv (risSlot_ok w (k := k - 1) (by omega) _ _) ksX8_285 (by decide +kernel) (by omega) rfl rfl rfl rfl rfl ?_
  refine p_if_eq (off := 12) 16 (by decide +kernel) (by decide) (fun cq4 => ?_) (fun cq4 => ?_)
  · have cq4 := bI0.mp cq4
    refine p_run (pc' := 18) [.ldc 123] mkX8_ask (by decide +kernel) rfl rfl ?_
    refine p_iret rfl rfl (by decide +kernel) ?_
    exact ⟨rfl, rfl⟩
  · have cq4 := bI1.mp cq4
    refine p_run (pc' := 10) [.iload_n 2, .iconst 0, .iconst 5] mkX8_ask (by decide +kernel) rfl rfl ?_
    refine p_callSv (in_ok w (k := k - 1) _ _ _ _) ksX8_75 (by decide +kernel) (by omega) rfl rfl rfl rfl rfl ?_
    refine p_if_ne (off := 6) 19 (by decide +kernel) (by decide) (fun cq13 => ?_) (fun cq13 => ?_)
    · have cq13 := bI1.mp cq13
      exact absurd ⟨cq4, cq13⟩ hb
    · have cq13 := bI0.mp cq13
      refine p_run (pc' := 18) [.ldc 123] mkX8_ask (by decide +kernel) rfl rfl ?_
      refine p_iret rfl rfl (by decide +kernel) ?_
      exact ⟨rfl, rfl⟩
set_option maxRecDepth 20000 in
set_option maxHeartbeats 4000000 in
theorem r_ask (w : Wt) {k : Nat} (hk : 2 ≤ k) (s j : Nat) (hs : s < 5) (hj : j ≤ 5) (h : Mm) (hA : h 112 s = nI 1 → In (h 113 s) 5) : Ok w k MX8_ask [.ref 96, .int (nI s), .int (nI j)] h (if h 112 s = 0 then Rv NOTHINGv h else if h 112 s = nI 1 then @ite _ (unP (nN (h 113 s)) j) (Classical.propDecidable _) (Rv (h 114 s) h) (Rv KINDv h) else Rv KINDv h) := by
  show Wp w k MX8_ask _ 0 [some (.ref 96), some (.int (nI s)), some (.int (nI j))] [] h
  refine p_run (pc' := 1) [.iload_n 1] mkX8_ask (by decide +kernel) rfl rfl ?_
  refine p_callSv (isSlot_t w (k := k - 1) (by omega) _ _ (in_nI (lo := 0) (hi := 4) (by omega) (Nat.le_of_lt_succ hs) (by omega))) ksX8_285 (by decide +kernel) (by omega) rfl rfl rfl rfl rfl ?_
  refine p_if_eq (off := 12) 16 (by decide +kernel) (by decide) (fun cq4 => ?_) (fun cq4 => ?_)
  · exact False.elim (by revert cq4; decide)
  · refine p_run (pc' := 10) [.iload_n 2, .iconst 0, .iconst 5] mkX8_ask (by decide +kernel) rfl rfl ?_
    refine p_callSv (in_t w (k := k - 1) _ _ _ _ (by exact in_nI (lo := 0) (hi := 5) (by omega) (by omega) (by omega))) ksX8_75 (by decide +kernel) (by omega) rfl rfl rfl rfl rfl ?_
    refine p_if_ne (off := 6) 19 (by decide +kernel) (by decide) (fun cq13 => ?_) (fun cq13 => ?_)
    · refine p_run (pc' := 24) [.aload_n 0, .getfield 57, .iload_n 1] mkX8_ask (by decide +kernel) rfl rfl ?_
      refine p_iald (s) (by decide +kernel) rfl rfl (by first | rfl | simp only [oI]) (by omega) ?_
      refine p_if_ne (off := 6) 31 (by decide +kernel) (by decide) (fun cq25 => ?_) (fun cq25 => ?_)
      · refine p_run (pc' := 36) [.aload_n 0, .getfield 57, .iload_n 1] mkX8_ask (by decide +kernel) rfl rfl ?_
        refine p_iald (s) (by decide +kernel) rfl rfl (by first | rfl | simp only [oI]) (by omega) ?_
        refine p_run (pc' := 38) [.iconst 1] mkX8_ask (by decide +kernel) rfl rfl ?_
        refine p_icmp_ne (off := 25) 63 (by decide +kernel) (by decide) (fun cq38 => ?_) (fun cq38 => ?_)
        · refine p_run (pc' := 65) [.ldc 145] mkX8_ask (by decide +kernel) rfl rfl ?_
          refine p_iret rfl rfl (by decide +kernel) ?_
          exact iF cq25 (iF cq38 (⟨rfl, rfl⟩))
        · refine p_run (pc' := 46) [.aload_n 0, .getfield 60, .iload_n 1] mkX8_ask (by decide +kernel) rfl rfl ?_
          refine p_iald (s) (by decide +kernel) rfl rfl rfl hs ?_
          refine Wp.eqS (st' := [.int (nI (nN (h 113 s)))]) (by rw [← (hA cq38).1]) ?_
          refine p_run (pc' := 48) [.iload_n 2] mkX8_ask (by decide +kernel) rfl rfl ?_
          refine p_callSv (isUnder_ok w (k := k - 1) (nN (h 113 s)) j (hA cq38).2 hj _) ksX8_141 (by decide +kernel) (by omega) rfl rfl rfl rfl rfl ?_
          refine p_if_eq (off := 12) 63 (by decide +kernel) (by decide) (fun cq51 => ?_) (fun cq51 => ?_)
          · have cq51 := bI0.mp cq51
            refine p_run (pc' := 65) [.ldc 145] mkX8_ask (by decide +kernel) rfl rfl ?_
            refine p_iret rfl rfl (by decide +kernel) ?_
            exact iF cq25 (iT cq38 (@iF _ (Classical.propDecidable _) _ _ _ _ cq51 (⟨rfl, rfl⟩)))
          · have cq51 := bI1.mp cq51
            refine p_run (pc' := 59) [.aload_n 0, .getfield 63, .iload_n 1] mkX8_ask (by decide +kernel) rfl rfl ?_
            refine p_iald (s) (by decide +kernel) rfl rfl (by first | rfl | simp only [oI]) (by omega) ?_
            refine p_run (pc' := 65) [.goto 5] mkX8_ask (by decide +kernel) rfl rfl ?_
            refine p_iret rfl rfl (by decide +kernel) ?_
            exact iF cq25 (iT cq38 (@iT _ (Classical.propDecidable _) _ _ _ _ cq51 (⟨rfl, rfl⟩)))
      · refine p_run (pc' := 30) [.ldc 209] mkX8_ask (by decide +kernel) rfl rfl ?_
        refine p_iret rfl rfl (by decide +kernel) ?_
        exact iT cq25 (⟨rfl, rfl⟩)
    · exact False.elim (by revert cq13; decide)
set_option maxRecDepth 20000 in
set_option maxHeartbeats 4000000 in
theorem r_item_bad (w : Wt) {k : Nat} (hk : 2 ≤ k) (a b : Int32) (h : Mm) (hb : ¬ inR a 0 4) : Ok w k MX8_item [.ref 96, .int a, .int b] h (Rv BADv h) := by
  show Wp w k MX8_item _ 0 [some (.ref 96), some (.int a), some (.int b), none] [] h
  refine p_run (pc' := 1) [.iload_n 1] mkX8_item (by decide +kernel) rfl rfl ?_
  refine p_callSv (risSlot_ok w (k := k - 1) (by omega) _ _) ksX8_285 (by decide +kernel) (by omega) rfl rfl rfl rfl rfl ?_
  refine p_if_ne (off := 6) 10 (by decide +kernel) (by decide) (fun cq4 => ?_) (fun cq4 => ?_)
  · have cq4 := bI1.mp cq4
    exact absurd cq4 hb
  · have cq4 := bI0.mp cq4
    refine p_run (pc' := 9) [.ldc 123] mkX8_item (by decide +kernel) rfl rfl ?_
    refine p_iret rfl rfl (by decide +kernel) ?_
    exact ⟨rfl, rfl⟩
set_option maxRecDepth 20000 in
set_option maxHeartbeats 4000000 in
theorem r_rest_bad (w : Wt) {k : Nat} (hk : 2 ≤ k) (a b : Int32) (h : Mm) (hb : ¬ inR a 0 4) : Ok w k MX8_rest [.ref 96, .int a, .int b] h (Rv BADv h) := by
  show Wp w k MX8_rest _ 0 [some (.ref 96), some (.int a), some (.int b)] [] h
  refine p_run (pc' := 1) [.iload_n 1] mkX8_rest (by decide +kernel) rfl rfl ?_
  refine p_callSv (risSlot_ok w (k := k - 1) (by omega) _ _) ksX8_285 (by decide +kernel) (by omega) rfl rfl rfl rfl rfl ?_
  refine p_if_ne (off := 6) 10 (by decide +kernel) (by decide) (fun cq4 => ?_) (fun cq4 => ?_)
  · have cq4 := bI1.mp cq4
    exact absurd cq4 hb
  · have cq4 := bI0.mp cq4
    refine p_run (pc' := 9) [.ldc 123] mkX8_rest (by decide +kernel) rfl rfl ?_
    refine p_iret rfl rfl (by decide +kernel) ?_
    exact ⟨rfl, rfl⟩
set_option maxRecDepth 20000 in
set_option maxHeartbeats 4000000 in
theorem r_item (w : Wt) {k : Nat} (hk : 2 ≤ k) (s : Nat) (hs : s < 5) (b : Int32) (h : Mm) (hA : h 112 s = nI 2 → In (h 113 s) 24) : Ok w k MX8_item [.ref 96, .int (nI s), .int b] h (if h 112 s = 0 then Rv NOTHINGv h else if h 112 s = nI 2 then (if nI 0 ≤ b ∧ b ≤ h 113 s - nI 1 then (if h 115 (24 * s + nN b) = NONEv then Rv KINDv h else Rv (h 115 (24 * s + nN b)) h) else Rv INDEXv h) else Rv KINDv h) := by
  show Wp w k MX8_item _ 0 [some (.ref 96), some (.int (nI s)), some (.int b), none] [] h
  refine p_run (pc' := 1) [.iload_n 1] mkX8_item (by decide +kernel) rfl rfl ?_
  refine p_callSv (isSlot_t w (k := k - 1) (by omega) _ _ (in_nI (lo := 0) (hi := 4) (by omega) (Nat.le_of_lt_succ hs) (by omega))) ksX8_285 (by decide +kernel) (by omega) rfl rfl rfl rfl rfl ?_
  refine p_if_ne (off := 6) 10 (by decide +kernel) (by decide) (fun cq4 => ?_) (fun cq4 => ?_)
  · refine p_run (pc' := 15) [.aload_n 0, .getfield 57, .iload_n 1] mkX8_item (by decide +kernel) rfl rfl ?_
    refine p_iald (s) (by decide +kernel) rfl rfl (by first | rfl | simp only [oI]) (by omega) ?_
    refine p_if_ne (off := 6) 22 (by decide +kernel) (by decide) (fun cq16 => ?_) (fun cq16 => ?_)
    · refine p_run (pc' := 27) [.aload_n 0, .getfield 57, .iload_n 1] mkX8_item (by decide +kernel) rfl rfl ?_
      refine p_iald (s) (by decide +kernel) rfl rfl (by first | rfl | simp only [oI]) (by omega) ?_
      refine p_run (pc' := 29) [.iconst 2] mkX8_item (by decide +kernel) rfl rfl ?_
      refine p_icmp_eq (off := 6) 35 (by decide +kernel) (by decide) (fun cq29 => ?_) (fun cq29 => ?_)
      · refine p_run (pc' := 42) [.iload_n 2, .iconst 0, .aload_n 0, .getfield 60, .iload_n 1] mkX8_item (by decide +kernel) rfl rfl ?_
        refine p_iald (s) (by decide +kernel) rfl rfl (by first | rfl | simp only [oI]) (by omega) ?_
        refine p_run (pc' := 45) [.iconst 1, .isub] mkX8_item (by decide +kernel) rfl rfl ?_
        refine p_callSv (in_ok w (k := k - 1) _ _ _ _) ksX8_75 (by decide +kernel) (by omega) rfl rfl rfl rfl rfl ?_
        refine p_if_ne (off := 7) 55 (by decide +kernel) (by decide) (fun cq48 => ?_) (fun cq48 => ?_)
        · have cq48 := bI1.mp cq48
          refine p_run (pc' := 65) [.aload_n 0, .getfield 66, .bipush 24, .iload_n 1, .imul, .iload_n 2, .iadd] mkX8_item (by decide +kernel) rfl rfl ?_
          obtain ⟨j, hj, hj2⟩ := pl_of (hA cq29) cq48
          have hz2 := (hA cq29).2
          subst hj2
          refine p_iald (24 * s + j) (by decide +kernel) rfl rfl (by simp only [oI, nIm, nI_add]) (by omega) ?_
          refine p_run (pc' := 70) [.istore_n 3, .iload_n 3, .ldc 195] mkX8_item (by decide +kernel) rfl rfl ?_
          refine p_icmp_ne (off := 8) 78 (by decide +kernel) (by decide) (fun cq70 => ?_) (fun cq70 => ?_)
          · refine p_run (pc' := 79) [.iload_n 3] mkX8_item (by decide +kernel) rfl rfl ?_
            refine p_iret rfl rfl (by decide +kernel) ?_
            exact iF cq16 (iT cq29 (iT cq48 (iF (by rw [nN_nI (by omega)]; exact cq70) (⟨by rw [nN_nI (by omega)], rfl⟩))))
          · refine p_run (pc' := 79) [.ldc 145, .goto 4] mkX8_item (by decide +kernel) rfl rfl ?_
            refine p_iret rfl rfl (by decide +kernel) ?_
            exact iF cq16 (iT cq29 (iT cq48 (iT (by rw [nN_nI (by omega)]; exact cq70) (⟨rfl, rfl⟩))))
        · have cq48 := bI0.mp cq48
          refine p_run (pc' := 54) [.ldc_w 282] mkX8_item (by decide +kernel) rfl rfl ?_
          refine p_iret rfl rfl (by decide +kernel) ?_
          exact iF cq16 (iT cq29 (iF cq48 (⟨rfl, rfl⟩)))
      · refine p_run (pc' := 34) [.ldc 145] mkX8_item (by decide +kernel) rfl rfl ?_
        refine p_iret rfl rfl (by decide +kernel) ?_
        exact iF cq16 (iF cq29 (⟨rfl, rfl⟩))
    · refine p_run (pc' := 21) [.ldc 209] mkX8_item (by decide +kernel) rfl rfl ?_
      refine p_iret rfl rfl (by decide +kernel) ?_
      exact iT cq16 (⟨rfl, rfl⟩)
  · exact False.elim (by revert cq4; decide)
set_option maxRecDepth 20000 in
set_option maxHeartbeats 4000000 in
theorem r_rest (w : Wt) {k : Nat} (hk : 2 ≤ k) (s : Nat) (hs : s < 5) (b : Int32) (h : Mm) : Ok w k MX8_rest [.ref 96, .int (nI s), .int b] h (if h 112 s = 0 then Rv NOTHINGv h else if h 112 s = nI 3 then (if b = 0 then Rv NOv h else if b = Int32.ofInt (-1) then Rv (nI 0) h else Rv (jrem (h 113 s) b) h) else Rv KINDv h) := by
  show Wp w k MX8_rest _ 0 [some (.ref 96), some (.int (nI s)), some (.int b)] [] h
  refine p_run (pc' := 1) [.iload_n 1] mkX8_rest (by decide +kernel) rfl rfl ?_
  refine p_callSv (isSlot_t w (k := k - 1) (by omega) _ _ (in_nI (lo := 0) (hi := 4) (by omega) (Nat.le_of_lt_succ hs) (by omega))) ksX8_285 (by decide +kernel) (by omega) rfl rfl rfl rfl rfl ?_
  refine p_if_ne (off := 6) 10 (by decide +kernel) (by decide) (fun cq4 => ?_) (fun cq4 => ?_)
  · refine p_run (pc' := 15) [.aload_n 0, .getfield 57, .iload_n 1] mkX8_rest (by decide +kernel) rfl rfl ?_
    refine p_iald (s) (by decide +kernel) rfl rfl (by first | rfl | simp only [oI]) (by omega) ?_
    refine p_if_ne (off := 6) 22 (by decide +kernel) (by decide) (fun cq16 => ?_) (fun cq16 => ?_)
    · refine p_run (pc' := 27) [.aload_n 0, .getfield 57, .iload_n 1] mkX8_rest (by decide +kernel) rfl rfl ?_
      refine p_iald (s) (by decide +kernel) rfl rfl (by first | rfl | simp only [oI]) (by omega) ?_
      refine p_run (pc' := 29) [.iconst 3] mkX8_rest (by decide +kernel) rfl rfl ?_
      refine p_icmp_eq (off := 6) 35 (by decide +kernel) (by decide) (fun cq29 => ?_) (fun cq29 => ?_)
      · refine p_run (pc' := 36) [.iload_n 2] mkX8_rest (by decide +kernel) rfl rfl ?_
        refine p_if_ne (off := 9) 45 (by decide +kernel) (by decide) (fun cq36 => ?_) (fun cq36 => ?_)
        · refine p_run (pc' := 47) [.iload_n 2, .iconst (-1)] mkX8_rest (by decide +kernel) rfl rfl ?_
          refine p_icmp_ne (off := 7) 54 (by decide +kernel) (by decide) (fun cq47 => ?_) (fun cq47 => ?_)
          · refine p_run (pc' := 59) [.aload_n 0, .getfield 60, .iload_n 1] mkX8_rest (by decide +kernel) rfl rfl ?_
            refine p_iald (s) (by decide +kernel) rfl rfl (by first | rfl | simp only [oI]) (by omega) ?_
            refine p_run (pc' := 61) [.iload_n 2] mkX8_rest (by decide +kernel) rfl rfl ?_
            refine p_irem (by decide +kernel) cq36 ?_
            refine p_iret rfl rfl (by decide +kernel) ?_
            exact iF cq16 (iT cq29 (iF cq36 (iF cq47 (⟨rfl, rfl⟩))))
          · refine p_run (pc' := 62) [.iconst 0, .goto 11] mkX8_rest (by decide +kernel) rfl rfl ?_
            refine p_iret rfl rfl (by decide +kernel) ?_
            exact iF cq16 (iT cq29 (iF cq36 (iT cq47 (⟨rfl, rfl⟩))))
        · refine p_run (pc' := 62) [.ldc_w 288, .goto 20] mkX8_rest (by decide +kernel) rfl rfl ?_
          refine p_iret rfl rfl (by decide +kernel) ?_
          exact iF cq16 (iT cq29 (iT cq36 (⟨rfl, rfl⟩)))
      · refine p_run (pc' := 34) [.ldc 145] mkX8_rest (by decide +kernel) rfl rfl ?_
        refine p_iret rfl rfl (by decide +kernel) ?_
        exact iF cq16 (iF cq29 (⟨rfl, rfl⟩))
    · refine p_run (pc' := 21) [.ldc 209] mkX8_rest (by decide +kernel) rfl rfl ?_
      refine p_iret rfl rfl (by decide +kernel) ?_
      exact iT cq16 (⟨rfl, rfl⟩)
  · exact False.elim (by revert cq4; decide)
