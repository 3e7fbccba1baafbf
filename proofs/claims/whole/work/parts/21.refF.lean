/-! the reference: a night -/
theorem iteN {p : Prop} [Decidable p] : nI (if p then 1 else 0) = nI 1 ↔ p := by
  by_cases h : p
  · simp [h]
  · rw [if_neg h]; constructor
    · intro e; exact absurd e (by decide)
    · intro q; exact absurd q h
set_option maxRecDepth 20000 in
set_option maxHeartbeats 4000000 in
theorem fellows_loop (w : Wt) {k : Nat} (hk : 1 ≤ k) (d : Nat) (hd : d < 10) (h : Mm) (hI : Iv (h 97)) : ∀ (m i : Nat), i + m = nd (h 97) → ∀ x5 : Option Value, Wp w k MX8_fellows (Rv (nI (cntF (feB (h 97) d) (nd (h 97)))) h) 22 [some (.ref 96), some (.int (nI d)), some (.int (nI (setF (fun i => litB (h 97) (brF (h 97) d) i && decide (i ≠ d)) (nd (h 97))))), some (.int (nI (cntF (feB (h 97) d) i))), some (.int (nI i)), x5] [] h := by
  obtain ⟨en, hn10⟩ := hI.nd
  intro m
  induction m with
  | zero =>
    intro i hi x5
    have hi : i = nd (h 97) := by omega
    refine p_run (pc' := 29) [.iload 4, .aload_n 0, .getfield 9, .iconst 1] mkX8_fellows (by decide +kernel) rfl rfl ?_
    refine p_iald (1) (by decide +kernel) rfl rfl (by simp only [oI]) (by omega) ?_
    rw [en, hi]
    refine p_icmp_ge (off := 61) 91 (by decide +kernel) (by decide) (fun c1 => ?_) (fun c1 => ?_)
    · refine p_run (pc' := 92) [.iload_n 3] mkX8_fellows (by decide +kernel) rfl rfl ?_
      refine p_iret rfl rfl (by decide +kernel) ?_
      exact ⟨rfl, rfl⟩
    · exact absurd (nI_le (Nat.le_refl _) (by omega)) c1
  | succ m ih =>
    intro i hi x5
    refine p_run (pc' := 29) [.iload 4, .aload_n 0, .getfield 9, .iconst 1] mkX8_fellows (by decide +kernel) rfl rfl ?_
    refine p_iald (1) (by decide +kernel) rfl rfl (by simp only [oI]) (by omega) ?_
    rw [en]
    refine p_icmp_ge (off := 61) 91 (by decide +kernel) (by decide) (fun c1 => ?_) (fun c1 => ?_)
    · exact absurd c1 (nI_ge (by omega) (by omega))
    · refine p_run (pc' := 37) [.aload_n 0, .iload 4, .iconst 0] mkX8_fellows (by decide +kernel) rfl rfl ?_
      refine p_callVv (of_ok w (k := k - 1) (i) (0) _ (by omega)) kvX8_83 (by decide +kernel) (by decide) rfl (by omega) rfl rfl rfl rfl rfl ?_
      refine p_run (pc' := 41) [.iconst 2] mkX8_fellows (by decide +kernel) rfl rfl ?_
      refine p_icmp_eq (off := 14) 55 (by decide +kernel) (by decide) (fun c41 => ?_) (fun c41 => ?_)
      · refine p_run (pc' := 65) [.iconst 1, .goto 4, .istore 5, .iload_n 3, .iload 5] mkX8_fellows (by decide +kernel) rfl rfl ?_
        refine p_if_eq (off := 17) 82 (by decide +kernel) (by decide) (fun c65 => ?_) (fun c65 => ?_)
        · exact absurd c65 (by decide)
        · refine p_run (pc' := 75) [.iload_n 2, .iload 4, .ishr, .iconst 1, .iand, .iconst 1] mkX8_fellows (by decide +kernel) rfl rfl ?_
          simp only [oI]
          rw [shr_bit i (by omega) _ (setF_1024 _ hn10), setF_div]
          refine p_icmp_ne (off := 7) 82 (by decide +kernel) (by decide) (fun c75 => ?_) (fun c75 => ?_)
          · refine p_run (pc' := 22) [.iconst 0, .iadd, .istore_n 3, .iinc 4 1, .goto (-66)] mkX8_fellows (by decide +kernel) rfl rfl ?_
            refine Wp.eqL ?_ (ih (i + 1) (by omega) (some (.int (nI 1))))
            rw [cntF]
            simp only [oI, nI_add]
            have hfe : feB (h 97) d i = (decide (dK (h 97) i 0 = nI 2 ∨ dK (h 97) i 0 = nI 4) && (litB (h 97) (brF (h 97) d) i && decide (i ≠ d))) := by unfold feB; cases litB (h 97) (brF (h 97) d) i <;> simp
            rw [hfe]
            simp only [oI, iteN] at *
            have hin : i < nd (h 97) := by omega
            clear ih
            by_cases hL : litB (h 97) (brF (h 97) d) i = true <;> by_cases hdd : i = d <;> simp_all [dK]
          · refine p_run (pc' := 22) [.iconst 1, .goto 4, .iadd, .istore_n 3, .iinc 4 1, .goto (-66)] mkX8_fellows (by decide +kernel) rfl rfl ?_
            refine Wp.eqL ?_ (ih (i + 1) (by omega) (some (.int (nI 1))))
            rw [cntF]
            simp only [oI, nI_add]
            have hfe : feB (h 97) d i = (decide (dK (h 97) i 0 = nI 2 ∨ dK (h 97) i 0 = nI 4) && (litB (h 97) (brF (h 97) d) i && decide (i ≠ d))) := by unfold feB; cases litB (h 97) (brF (h 97) d) i <;> simp
            rw [hfe]
            simp only [oI, iteN] at *
            have hin : i < nd (h 97) := by omega
            clear ih
            by_cases hL : litB (h 97) (brF (h 97) d) i = true <;> by_cases hdd : i = d <;> simp_all [dK]
      · refine p_run (pc' := 48) [.aload_n 0, .iload 4, .iconst 0] mkX8_fellows (by decide +kernel) rfl rfl ?_
        refine p_callVv (of_ok w (k := k - 1) (i) (0) _ (by omega)) kvX8_83 (by decide +kernel) (by decide) rfl (by omega) rfl rfl rfl rfl rfl ?_
        refine p_run (pc' := 52) [.iconst 4] mkX8_fellows (by decide +kernel) rfl rfl ?_
        refine p_icmp_ne (off := 7) 59 (by decide +kernel) (by decide) (fun c52 => ?_) (fun c52 => ?_)
        · refine p_run (pc' := 65) [.iconst 0, .istore 5, .iload_n 3, .iload 5] mkX8_fellows (by decide +kernel) rfl rfl ?_
          refine p_if_eq (off := 17) 82 (by decide +kernel) (by decide) (fun c65 => ?_) (fun c65 => ?_)
          · refine p_run (pc' := 22) [.iconst 0, .iadd, .istore_n 3, .iinc 4 1, .goto (-66)] mkX8_fellows (by decide +kernel) rfl rfl ?_
            refine Wp.eqL ?_ (ih (i + 1) (by omega) (some (.int (nI 0))))
            rw [cntF]
            have hfe : feB (h 97) d i = false := by unfold feB; simp only [oI] at *; simp_all [dK]
            rw [hfe]
            simp only [oI, nI_add, Bool.false_eq_true, if_false]
          · exact absurd (by decide) c65
        · refine p_run (pc' := 65) [.iconst 1, .goto 4, .istore 5, .iload_n 3, .iload 5] mkX8_fellows (by decide +kernel) rfl rfl ?_
          refine p_if_eq (off := 17) 82 (by decide +kernel) (by decide) (fun c65 => ?_) (fun c65 => ?_)
          · exact absurd c65 (by decide)
          · refine p_run (pc' := 75) [.iload_n 2, .iload 4, .ishr, .iconst 1, .iand, .iconst 1] mkX8_fellows (by decide +kernel) rfl rfl ?_
            simp only [oI]
            rw [shr_bit i (by omega) _ (setF_1024 _ hn10), setF_div]
            refine p_icmp_ne (off := 7) 82 (by decide +kernel) (by decide) (fun c75 => ?_) (fun c75 => ?_)
            · refine p_run (pc' := 22) [.iconst 0, .iadd, .istore_n 3, .iinc 4 1, .goto (-66)] mkX8_fellows (by decide +kernel) rfl rfl ?_
              refine Wp.eqL ?_ (ih (i + 1) (by omega) (some (.int (nI 1))))
              rw [cntF]
              simp only [oI, nI_add]
              have hfe : feB (h 97) d i = (decide (dK (h 97) i 0 = nI 2 ∨ dK (h 97) i 0 = nI 4) && (litB (h 97) (brF (h 97) d) i && decide (i ≠ d))) := by unfold feB; cases litB (h 97) (brF (h 97) d) i <;> simp
              rw [hfe]
              simp only [oI, iteN] at *
              have hin : i < nd (h 97) := by omega
              clear ih
              by_cases hL : litB (h 97) (brF (h 97) d) i = true <;> by_cases hdd : i = d <;> simp_all [dK]
            · refine p_run (pc' := 22) [.iconst 1, .goto 4, .iadd, .istore_n 3, .iinc 4 1, .goto (-66)] mkX8_fellows (by decide +kernel) rfl rfl ?_
              refine Wp.eqL ?_ (ih (i + 1) (by omega) (some (.int (nI 1))))
              rw [cntF]
              simp only [oI, nI_add]
              have hfe : feB (h 97) d i = (decide (dK (h 97) i 0 = nI 2 ∨ dK (h 97) i 0 = nI 4) && (litB (h 97) (brF (h 97) d) i && decide (i ≠ d))) := by unfold feB; cases litB (h 97) (brF (h 97) d) i <;> simp
              rw [hfe]
              simp only [oI, iteN] at *
              have hin : i < nd (h 97) := by omega
              clear ih
              by_cases hL : litB (h 97) (brF (h 97) d) i = true <;> by_cases hdd : i = d <;> simp_all [dK]
set_option maxRecDepth 20000 in
set_option maxHeartbeats 4000000 in
theorem fellows_ok (w : Wt) {k : Nat} (hk : 2 ≤ k) (d : Nat) (hd : d < 10) (h : Mm) (hI : Iv (h 97)) : Ok w k MX8_fellows [.ref 96, .int (nI d)] h (Rv (nI (cntF (feB (h 97) d) (nd (h 97)))) h) := by
  show Wp w k MX8_fellows _ 0 [some (.ref 96), some (.int (nI d)), none, none, none, none] [] h
  obtain ⟨eb, hb4⟩ := hI.br hd
  obtain ⟨en, hn10⟩ := hI.nd
  refine p_run (pc' := 4) [.aload_n 0, .aload_n 0, .iload_n 1, .iconst 3] mkX8_fellows (by decide +kernel) rfl rfl ?_
  refine p_callVv (of_ok w (k := k - 1) d 3 h (by omega)) kvX8_83 (by decide +kernel) (by decide) rfl (by omega) rfl rfl rfl rfl rfl ?_
  rw [eb]
  refine p_callVv (rlitIn_ok w (k := k - 1) (by omega) (brF (h 97) d) (nd (h 97)) h en hn10) kvX8_93 (by decide +kernel) (by decide) rfl (by omega) rfl rfl rfl rfl rfl ?_
  refine p_run (pc' := 16) [.iconst 1, .iload_n 1, .ishl, .iconst (-1), .ixor, .iand] mkX8_fellows (by decide +kernel) rfl rfl ?_
  rw [oI, clr_bit d hd _ (setF_1024 _ hn10), setF_clr]
  refine p_run (pc' := 22) [.istore_n 2, .iconst 0, .istore_n 3, .iconst 0, .istore 4] mkX8_fellows (by decide +kernel) rfl rfl ?_
  exact fellows_loop w (by omega) d hd h hI (nd (h 97)) 0 (by omega) none
set_option maxRecDepth 20000 in
set_option maxHeartbeats 4000000 in
theorem digsOf_ok (w : Wt) {k : Nat} (hk : 3 ≤ k) (d : Nat) (hd : d < 10) (h : Mm) (hI : Iv (h 97)) (hT : Tq (h 97)) : Ok w k MX8_digsOf [.ref 96, .int (nI d)] h (Rs [107, 108] (dgF (h 97) d) h) := by
  show Wp w k MX8_digsOf _ 0 [some (.ref 96), some (.int (nI d)), none] [] h
  refine p_run (pc' := 2) [.aload_n 0, .iload_n 1] mkX8_digsOf (by decide +kernel) rfl rfl ?_
  refine p_callV (plainDig_ok w (k := k - 1) (by omega) d hd h hI hT) kvX8_106 (by decide +kernel) (by decide) rfl (by omega) rfl rfl rfl rfl rfl (fun r h' hq => ?_)
  obtain ⟨rfl, hA⟩ := hq
  have e97 : h' 97 = h 97 := hA 97 (by decide)
  refine p_run (pc' := 9) [.istore_n 2, .aload_n 0, .iload_n 1, .iconst 0] mkX8_digsOf (by decide +kernel) rfl rfl ?_
  refine p_callVv (of_ok w (k := k - 1) d 0 h' (by omega)) kvX8_83 (by decide +kernel) (by decide) rfl (by omega) rfl rfl rfl rfl rfl ?_
  rw [e97]
  refine p_table (dflt := 78) (lo := 1) (hi := 5) (offs := #[36, 40, 44, 64, 76]) (len := 36) (by decide +kernel) (by decide) (fun j hj hx => ?_) (fun hx => ?_)
  · match j, hj, hx with
    | 0, _, hx =>
      have hx : h 97 (20 + 5 * d + 0) = Int32.ofInt (1) := hx
      refine ⟨36, 48, rfl, rfl, ?_⟩
      have hK : nN (dK (h 97) d 0) = 1 := kd_case (by omega) hx
      refine p_run (pc' := 51) [.iload_n 2, .iconst 1, .iadd] mkX8_digsOf (by decide +kernel) rfl rfl ?_
      refine p_iret rfl rfl (by decide +kernel) ?_
      exact ⟨by simp only [dgF, hK, oI], hA⟩
    | 1, _, hx =>
      have hx : h 97 (20 + 5 * d + 0) = Int32.ofInt (2) := hx
      refine ⟨40, 52, rfl, rfl, ?_⟩
      have hK : nN (dK (h 97) d 0) = 2 := kd_case (by omega) hx
      refine p_run (pc' := 54) [.iload_n 2, .iconst 2] mkX8_digsOf (by decide +kernel) rfl rfl ?_
      refine p_idiv (by decide +kernel) (by decide) ?_
      refine p_iret rfl rfl (by decide +kernel) ?_
      exact ⟨by simp only [dgF, hK, oI], hA⟩
    | 2, _, hx =>
      have hx : h 97 (20 + 5 * d + 0) = Int32.ofInt (3) := hx
      refine ⟨44, 56, rfl, rfl, ?_⟩
      have hK : nN (dK (h 97) d 0) = 3 := kd_case (by omega) hx
      refine p_run (pc' := 58) [.aload_n 0, .iload_n 1] mkX8_digsOf (by decide +kernel) rfl rfl ?_
      refine p_callVv (far_ok w (k := k - 1) (by omega) d hd h' (by rw [e97]; exact hI)) kvX8_109 (by decide +kernel) (by decide) rfl (by omega) rfl rfl rfl rfl rfl ?_
      simp only [e97]
      refine p_if_eq (off := 11) 72 (by decide +kernel) (by decide) (fun c61 => ?_) (fun c61 => ?_)
      · refine p_run (pc' := 75) [.iload_n 2, .iconst 1, .iadd] mkX8_digsOf (by decide +kernel) rfl rfl ?_
        refine p_iret rfl rfl (by decide +kernel) ?_
        exact ⟨by simp only [dgF, hK, oI]; first | rw [if_pos (bI1.mp c61)] | rw [if_neg (bI0.mp c61)], hA⟩
      · refine p_run (pc' := 68) [.iload_n 2, .iconst 1, .iadd, .iconst 2] mkX8_digsOf (by decide +kernel) rfl rfl ?_
        refine p_idiv (by decide +kernel) (by decide) ?_
        refine p_run (pc' := 75) [.goto 6] mkX8_digsOf (by decide +kernel) rfl rfl ?_
        refine p_iret rfl rfl (by decide +kernel) ?_
        exact ⟨by simp only [dgF, hK, oI]; first | rw [if_pos (bI1.mp c61)] | rw [if_neg (bI0.mp c61)], hA⟩
    | 3, _, hx =>
      have hx : h 97 (20 + 5 * d + 0) = Int32.ofInt (4) := hx
      refine ⟨64, 76, rfl, rfl, ?_⟩
      have hK : nN (dK (h 97) d 0) = 4 := kd_case (by omega) hx
      refine p_run (pc' := 78) [.iload_n 2, .iconst 2] mkX8_digsOf (by decide +kernel) rfl rfl ?_
      refine p_idiv (by decide +kernel) (by decide) ?_
      refine p_run (pc' := 82) [.iconst 2, .aload_n 0, .iload_n 1] mkX8_digsOf (by decide +kernel) rfl rfl ?_
      refine p_callVv (fellows_ok w (k := k - 1) (by omega) d hd h' (by rw [e97]; exact hI)) kvX8_113 (by decide +kernel) (by decide) rfl (by omega) rfl rfl rfl rfl rfl ?_
      simp only [e97]
      refine p_run (pc' := 87) [.imul, .iadd] mkX8_digsOf (by decide +kernel) rfl rfl ?_
      refine p_iret rfl rfl (by decide +kernel) ?_
      exact ⟨by simp only [dgF, hK, oI], hA⟩
    | 4, _, hx =>
      have hx : h 97 (20 + 5 * d + 0) = Int32.ofInt (5) := hx
      refine ⟨76, 88, rfl, rfl, ?_⟩
      have hK : nN (dK (h 97) d 0) = 5 := kd_case (by omega) hx
      refine p_run (pc' := 89) [.iconst 1] mkX8_digsOf (by decide +kernel) rfl rfl ?_
      refine p_iret rfl rfl (by decide +kernel) ?_
      exact ⟨by simp only [dgF, hK, oI], hA⟩
    | j + 5, hj, _ => exact absurd hj (by simp)
  · refine ⟨90, rfl, ?_⟩
    have hK : nN (dK (h 97) d 0) = 0 := kd_dflt (hI.2.2.2.2.2.1 d hd).1 hx
    refine p_run (pc' := 91) [.iload_n 2] mkX8_digsOf (by decide +kernel) rfl rfl ?_
    refine p_iret rfl rfl (by decide +kernel) ?_
    exact ⟨by simp only [dgF, hK, oI], hA⟩
set_option maxRecDepth 20000 in
set_option maxHeartbeats 4000000 in
theorem draw_ok (w : Wt) {k : Nat} (h : Mm) : Ok w k MX8_draw [.ref 96] h (Rv (nI (dvN (zF (h 97 0)))) (up h 97 0 (zF (h 97 0)))) := by
  show Wp w k MX8_draw _ 0 [some (.ref 96)] [] h
  refine p_run (pc' := 10) [.aload_n 0, .getfield 9, .iconst 0, .aload_n 0, .getfield 9, .iconst 0] mkX8_draw (by decide +kernel) rfl rfl ?_
  refine p_iald (0) (by decide +kernel) rfl rfl (by simp only [oI]) (by omega) ?_
  refine p_run (pc' := 18) [.ldc 158, .imul, .sipush 12345, .iadd] mkX8_draw (by decide +kernel) rfl rfl ?_
  refine p_iast (0) (by decide +kernel) rfl rfl (by simp only [oI]) (by omega)  ?_
  refine p_run (pc' := 24) [.aload_n 0, .getfield 9, .iconst 0] mkX8_draw (by decide +kernel) rfl rfl ?_
  refine p_iald (0) (by decide +kernel) rfl rfl (by simp only [oI]) (by omega) ?_
  refine p_run (pc' := 28) [.bipush 8, .iushr] mkX8_draw (by decide +kernel) rfl rfl ?_
  rw [ushr8]
  refine p_iret rfl rfl (by decide +kernel) ?_
  exact ⟨by simp only [up, and_self, if_true]; rfl, rfl⟩
def Rn (F : Vc → Vc) (h : Mm) : Option Value → Mm → Prop := fun r h' => r = none ∧ h' 97 = F (h 97) ∧ Ag [97, 107, 108] h h'
set_option maxRecDepth 20000 in
set_option maxHeartbeats 4000000 in
theorem digs_ok (w : Wt) {k : Nat} (hk : 4 ≤ k) (d : Nat) (hd : d < 10) (h : Mm) (hI : Iv (h 97)) (hT : Tq (h 97)) : Ok w k MX8_digs [.ref 96, .int (nI d)] h (Rn (fun N => dsF N d) h) := by
  show Wp w k MX8_digs _ 0 [some (.ref 96), some (.int (nI d)), none, none, none] [] h
  obtain ⟨eb, hb4⟩ := hI.br hd
  refine p_run (pc' := 6) [.bipush 8, .iconst 3, .aload_n 0, .iload_n 1, .iconst 3] mkX8_digs (by decide +kernel) rfl rfl ?_
  refine p_callVv (of_ok w (k := k - 1) d 3 h (by omega)) kvX8_83 (by decide +kernel) (by decide) rfl (by omega) rfl rfl rfl rfl rfl ?_
  rw [eb]
  generalize hbb : brF (h 97) d = b at *
  refine p_run (pc' := 12) [.imul, .iadd, .istore_n 2] mkX8_digs (by decide +kernel) rfl rfl ?_
  rw [show Int32.ofInt 8 + Int32.ofInt 3 * nI b = nI (8 + 3 * b) by simp only [oI, nI_add, nIm]]
  refine p_run (pc' := 17) [.aload_n 0, .getfield 9, .iload_n 2] mkX8_digs (by decide +kernel) rfl rfl ?_
  refine p_iald (8 + 3 * b) (by decide +kernel) rfl rfl rfl (by omega) ?_
  refine p_run (pc' := 20) [.aload_n 0, .iload_n 1] mkX8_digs (by decide +kernel) rfl rfl ?_
  refine p_callV (digsOf_ok w (k := k - 1) (by omega) d hd h hI hT) kvX8_132 (by decide +kernel) (by decide) rfl (by omega) rfl rfl rfl rfl rfl (fun r h' hq => ?_)
  obtain ⟨rfl, hA⟩ := hq
  have e97 : h' 97 = h 97 := hA 97 (by decide)
  refine p_run (pc' := 28) [.iadd, .iconst 0, .sipush 999] mkX8_digs (by decide +kernel) rfl rfl ?_
  refine p_callSv (rwithin_ok w (k := k - 1) _ _ _ _) ksX8_102 (by decide +kernel) (by omega) rfl rfl rfl rfl rfl ?_
  refine p_run (pc' := 35) [.istore_n 3, .aload_n 0, .iload_n 1, .iconst 2] mkX8_digs (by decide +kernel) rfl rfl ?_
  refine p_callVv (of_ok w (k := k - 1) d 2 h' (by omega)) kvX8_83 (by decide +kernel) (by decide) rfl (by omega) rfl rfl rfl rfl rfl ?_
  rw [e97]
  refine p_run (pc' := 40) [.aload_n 0, .iload_n 1] mkX8_digs (by decide +kernel) rfl rfl ?_
  refine p_callVv (burnsOf_ok w (k := k - 1) (by omega) d hd h' (by rw [e97]; exact hI)) kvX8_135 (by decide +kernel) (by decide) rfl (by omega) rfl rfl rfl rfl rfl ?_
  rw [e97]
  refine p_run (pc' := 47) [.isub, .iconst 0, .bipush 99] mkX8_digs (by decide +kernel) rfl rfl ?_
  refine p_callSv (rwithin_ok w (k := k - 1) _ _ _ _) ksX8_102 (by decide +kernel) (by omega) rfl rfl rfl rfl rfl ?_
  refine p_run (pc' := 58) [.istore 4, .aload_n 0, .iload_n 1, .iconst 4, .aload_n 0, .iload_n 1, .iconst 4] mkX8_digs (by decide +kernel) rfl rfl ?_
  refine p_callVv (of_ok w (k := k - 1) d 4 h' (by omega)) kvX8_83 (by decide +kernel) (by decide) rfl (by omega) rfl rfl rfl rfl rfl ?_
  rw [e97]
  refine p_run (pc' := 68) [.iload_n 3, .iadd, .aload_n 0, .getfield 9, .iload_n 2] mkX8_digs (by decide +kernel) rfl rfl ?_
  refine p_iald (8 + 3 * b) (by decide +kernel) rfl rfl rfl (by omega) ?_
  rw [e97]
  refine p_run (pc' := 74) [.isub, .iconst 0, .sipush 9999] mkX8_digs (by decide +kernel) rfl rfl ?_
  refine p_callSv (rwithin_ok w (k := k - 1) _ _ _ _) ksX8_102 (by decide +kernel) (by omega) rfl rfl rfl rfl rfl ?_
  refine p_callVw (put_ok w (k := k - 1) d 4 _ _ (by omega)) kvX8_116 (by decide +kernel) (by decide) rfl (by omega) rfl rfl rfl rfl rfl ?_
  refine p_run (pc' := 85) [.aload_n 0, .iload_n 1, .iconst 2, .iload 4] mkX8_digs (by decide +kernel) rfl rfl ?_
  refine p_callVw (put_ok w (k := k - 1) d 2 _ _ (by omega)) kvX8_116 (by decide +kernel) (by decide) rfl (by omega) rfl rfl rfl rfl rfl ?_
  refine p_run (pc' := 94) [.aload_n 0, .getfield 9, .iload_n 2, .iload_n 3] mkX8_digs (by decide +kernel) rfl rfl ?_
  refine p_iast (8 + 3 * b) (by decide +kernel) rfl rfl rfl (by omega)  ?_
  refine p_vret rfl (by decide +kernel) ?_
  refine ⟨rfl, ?_, ((hA.mono (by decide)).tr ((Ag.up (by decide)).tr ((Ag.up (by decide)).tr (Ag.up (by decide)))))⟩
  rw [upS, upS, upS, e97]
  show _ = dsF (h 97) d
  unfold dsF
  rw [hbb]
  simp only [oI]
  rfl
