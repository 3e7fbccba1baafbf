/-! the reference: tests, marks of sets -/
set_option maxRecDepth 20000 in
set_option maxHeartbeats 4000000 in
theorem risBranch_ok (w : Wt) {k : Nat} (hk : 1 ≤ k) (v : Int32) (h : Mm) : Ok w k MX8_isBranch [.int v] h (Rv (bI (nI 0 ≤ v ∧ v ≤ nI 3)) h) := by
  show Wp w k MX8_isBranch _ 0 [some (.int v)] [] h
  refine p_run (pc' := 3) [.iload_n 0, .iconst 0, .iconst 3] mkX8_isBranch (by decide +kernel) rfl rfl ?_
  refine p_callSv (in_ok w (k := k - 1) _ _ _ _) ksX8_75 (by decide +kernel) (by omega) rfl rfl rfl rfl rfl ?_
  refine p_iret rfl bIn (by decide +kernel) ?_
  exact ⟨by simp only [oI], rfl⟩
set_option maxRecDepth 20000 in
set_option maxHeartbeats 4000000 in
theorem risSheet_ok (w : Wt) {k : Nat} (hk : 1 ≤ k) (v : Int32) (h : Mm) : Ok w k MX8_isSheet [.int v] h (Rv (bI (nI 0 ≤ v ∧ v ≤ nI 3)) h) := by
  show Wp w k MX8_isSheet _ 0 [some (.int v)] [] h
  refine p_run (pc' := 3) [.iload_n 0, .iconst 0, .iconst 3] mkX8_isSheet (by decide +kernel) rfl rfl ?_
  refine p_callSv (in_ok w (k := k - 1) _ _ _ _) ksX8_75 (by decide +kernel) (by omega) rfl rfl rfl rfl rfl ?_
  refine p_iret rfl bIn (by decide +kernel) ?_
  exact ⟨by simp only [oI], rfl⟩
set_option maxRecDepth 20000 in
set_option maxHeartbeats 4000000 in
theorem risSlot_ok (w : Wt) {k : Nat} (hk : 1 ≤ k) (v : Int32) (h : Mm) : Ok w k MX8_isSlot [.int v] h (Rv (bI (nI 0 ≤ v ∧ v ≤ nI 4)) h) := by
  show Wp w k MX8_isSlot _ 0 [some (.int v)] [] h
  refine p_run (pc' := 3) [.iload_n 0, .iconst 0, .iconst 4] mkX8_isSlot (by decide +kernel) rfl rfl ?_
  refine p_callSv (in_ok w (k := k - 1) _ _ _ _) ksX8_75 (by decide +kernel) (by omega) rfl rfl rfl rfl rfl ?_
  refine p_iret rfl bIn (by decide +kernel) ?_
  exact ⟨by simp only [oI], rfl⟩
set_option maxRecDepth 20000 in
set_option maxHeartbeats 4000000 in
theorem risDigger_ok (w : Wt) {k : Nat} (hk : 1 ≤ k) (v : Int32) (h : Mm) : Ok w k MX8_isDigger [.ref 96, .int v] h (Rv (bI (nI 0 ≤ v ∧ v ≤ h 97 1 - nI 1)) h) := by
  show Wp w k MX8_isDigger _ 0 [some (.ref 96), some (.int v)] [] h
  refine p_run (pc' := 7) [.iload_n 1, .iconst 0, .aload_n 0, .getfield 9, .iconst 1] mkX8_isDigger (by decide +kernel) rfl rfl ?_
  refine p_iald (1) (by decide +kernel) rfl rfl (by simp only [oI]) (by omega) ?_
  refine p_run (pc' := 10) [.iconst 1, .isub] mkX8_isDigger (by decide +kernel) rfl rfl ?_
  refine p_callSv (in_ok w (k := k - 1) _ _ _ _) ksX8_75 (by decide +kernel) (by omega) rfl rfl rfl rfl rfl ?_
  refine p_iret rfl bIn (by decide +kernel) ?_
  exact ⟨by simp only [oI], rfl⟩
set_option maxRecDepth 20000 in
set_option maxHeartbeats 4000000 in
theorem rwithin_ok (w : Wt) {k : Nat} (v lo hi : Int32) (h : Mm) : Ok w k MX8_within [.int v, .int lo, .int hi] h (Rv (clF v lo hi) h) := by
  show Wp w k MX8_within _ 0 [some (.int v), some (.int lo), some (.int hi)] [] h
  refine p_run (pc' := 2) [.iload_n 0, .iload_n 1] mkX8_within (by decide +kernel) rfl rfl ?_
  refine p_icmp_ge (off := 7) 9 (by decide +kernel) (by decide) (fun c2 => ?_) (fun c2 => ?_)
  · refine p_run (pc' := 11) [.iload_n 0, .iload_n 2] mkX8_within (by decide +kernel) rfl rfl ?_
    refine p_icmp_le (off := 7) 18 (by decide +kernel) (by decide) (fun c11 => ?_) (fun c11 => ?_)
    · refine p_run (pc' := 19) [.iload_n 0] mkX8_within (by decide +kernel) rfl rfl ?_
      refine p_iret rfl rfl (by decide +kernel) ?_
      exact ⟨by simp only [clF, Int32.lt_iff_toInt_lt, Int32.le_iff_toInt_le] at *; (repeat' split) <;> first | rfl | (exfalso; omega), rfl⟩
    · refine p_run (pc' := 19) [.iload_n 2, .goto 4] mkX8_within (by decide +kernel) rfl rfl ?_
      refine p_iret rfl rfl (by decide +kernel) ?_
      exact ⟨by simp only [clF, Int32.lt_iff_toInt_lt, Int32.le_iff_toInt_le] at *; (repeat' split) <;> first | rfl | (exfalso; omega), rfl⟩
  · refine p_run (pc' := 19) [.iload_n 1, .goto 13] mkX8_within (by decide +kernel) rfl rfl ?_
    refine p_iret rfl rfl (by decide +kernel) ?_
    exact ⟨by simp only [clF, Int32.lt_iff_toInt_lt, Int32.le_iff_toInt_le] at *; (repeat' split) <;> first | rfl | (exfalso; omega), rfl⟩
set_option maxRecDepth 20000 in
set_option maxHeartbeats 4000000 in
theorem rahead_ok (w : Wt) {k : Nat} (hk : 1 ≤ k) (b : Nat) (hb : b < 4) (h : Mm) : Ok w k MX8_ahead [.ref 96, .int (nI b)] h (Rv (ahF (h 97) b) h) := by
  show Wp w k MX8_ahead _ 0 [some (.ref 96), some (.int (nI b))] [] h
  refine p_run (pc' := 3) [.aload_n 0, .iload_n 1, .iconst 0] mkX8_ahead (by decide +kernel) rfl rfl ?_
  refine p_callVv (at_ok w (k := k - 1) (b) (0) _ (by omega)) kvX8_79 (by decide +kernel) (by decide) rfl (by omega) rfl rfl rfl rfl rfl ?_
  refine p_run (pc' := 9) [.aload_n 0, .iload_n 1, .iconst 2] mkX8_ahead (by decide +kernel) rfl rfl ?_
  refine p_callVv (at_ok w (k := k - 1) (b) (2) _ (by omega)) kvX8_79 (by decide +kernel) (by decide) rfl (by omega) rfl rfl rfl rfl rfl ?_
  refine p_run (pc' := 13) [.isub] mkX8_ahead (by decide +kernel) rfl rfl ?_
  refine p_iret rfl rfl (by decide +kernel) ?_
  exact ⟨rfl, rfl⟩
set_option maxRecDepth 20000 in
set_option maxHeartbeats 4000000 in
theorem swaps_ok (w : Wt) {k : Nat} (j : Nat) (hj : j < 1442) (x : Int32) (h : Mm) : Ok w k MX8_swaps [.ref 96, .int (nI j), .int x] h (fun r h' => r = some (.int (h 97 j)) ∧ h' = up h 97 j x) := by
  show Wp w k MX8_swaps _ 0 [some (.ref 96), some (.int (nI j)), some (.int x), none] [] h
  refine p_run (pc' := 5) [.aload_n 0, .getfield 9, .iload_n 1] mkX8_swaps (by decide +kernel) rfl rfl ?_
  refine p_iald (j) (by decide +kernel) rfl rfl rfl hj ?_
  refine p_run (pc' := 13) [.istore_n 3, .aload_n 0, .getfield 9, .iload_n 1, .iload_n 2] mkX8_swaps (by decide +kernel) rfl rfl ?_
  refine p_iast (j) (by decide +kernel) rfl rfl rfl hj  ?_
  refine p_run (pc' := 15) [.iload_n 3] mkX8_swaps (by decide +kernel) rfl rfl ?_
  refine p_iret rfl rfl (by decide +kernel) ?_
  exact ⟨rfl, rfl⟩
def offF (v : Int32) : Int32 := if v < 0 then -v else v
set_option maxRecDepth 20000 in
set_option maxHeartbeats 4000000 in
theorem off_ok (w : Wt) {k : Nat} (v : Int32) (h : Mm) : Ok w k MX8_off [.int v] h (Rv (offF v) h) := by
  show Wp w k MX8_off _ 0 [some (.int v)] [] h
  refine p_run (pc' := 1) [.iload_n 0] mkX8_off (by decide +kernel) rfl rfl ?_
  refine p_if_ge (off := 8) 9 (by decide +kernel) (by decide) (fun c1 => ?_) (fun c1 => ?_)
  · refine p_run (pc' := 10) [.iload_n 0] mkX8_off (by decide +kernel) rfl rfl ?_
    refine p_iret rfl rfl (by decide +kernel) ?_
    exact ⟨by simp only [offF, Int32.lt_iff_toInt_lt, Int32.le_iff_toInt_le] at *; (repeat' split) <;> first | rfl | (exfalso; omega), rfl⟩
  · refine p_run (pc' := 10) [.iload_n 0, .ineg, .goto 4] mkX8_off (by decide +kernel) rfl rfl ?_
    refine p_iret rfl rfl (by decide +kernel) ?_
    exact ⟨by simp only [offF, Int32.lt_iff_toInt_lt, Int32.le_iff_toInt_le] at *; (repeat' split) <;> first | rfl | (exfalso; omega), rfl⟩
set_option maxRecDepth 20000 in
set_option maxHeartbeats 4000000 in
theorem rdiggersIn_loop (w : Wt) {k : Nat} (hk : 1 ≤ k) (b nn : Nat) (h : Mm) (hn : h 97 1 = nI nn) (h10 : nn ≤ 10) : ∀ (m i : Nat), i + m = nn → Wp w k MX8_diggersIn (Rv (nI (setF (inB (h 97) b) nn)) h) 4 [some (.ref 96), some (.int (nI b)), some (.int (nI (setF (inB (h 97) b) i))), some (.int (nI i))] [] h := by
  intro m
  induction m with
  | zero =>
    intro i hi
    have hi : i = nn := by omega
    subst hi
    refine p_run (pc' := 10) [.iload_n 3, .aload_n 0, .getfield 9, .iconst 1] mkX8_diggersIn (by decide +kernel) rfl rfl ?_
    refine p_iald (1) (by decide +kernel) rfl rfl (by simp only [oI]) (by omega) ?_
    rw [hn]
    refine p_icmp_ge (off := 29) 40 (by decide +kernel) (by decide) (fun c11 => ?_) (fun c11 => ?_)
    · refine p_run (pc' := 41) [.iload_n 2] mkX8_diggersIn (by decide +kernel) rfl rfl ?_
      refine p_iret rfl rfl (by decide +kernel) ?_
      exact ⟨rfl, rfl⟩
    · exact absurd (nI_le (Nat.le_refl _) (by omega)) c11
  | succ m ih =>
    intro i hi
    refine p_run (pc' := 10) [.iload_n 3, .aload_n 0, .getfield 9, .iconst 1] mkX8_diggersIn (by decide +kernel) rfl rfl ?_
    refine p_iald (1) (by decide +kernel) rfl rfl (by simp only [oI]) (by omega) ?_
    rw [hn]
    refine p_icmp_ge (off := 29) 40 (by decide +kernel) (by decide) (fun c11 => ?_) (fun c11 => ?_)
    · exact absurd c11 (nI_ge (by omega) (by omega))
    · refine p_run (pc' := 18) [.iload_n 2, .aload_n 0, .iload_n 3, .iconst 3] mkX8_diggersIn (by decide +kernel) rfl rfl ?_
      refine p_callVv (of_ok w (k := k - 1) (i) (3) _ (by omega)) kvX8_83 (by decide +kernel) (by decide) rfl (by omega) rfl rfl rfl rfl rfl ?_
      refine p_run (pc' := 22) [.iload_n 1] mkX8_diggersIn (by decide +kernel) rfl rfl ?_
      refine p_icmp_ne (off := 9) 31 (by decide +kernel) (by decide) (fun c22 => ?_) (fun c22 => ?_)
      · refine p_run (pc' := 4) [.iconst 0, .ior, .istore_n 2, .iinc 3 1, .goto (-33)] mkX8_diggersIn (by decide +kernel) rfl rfl ?_
        refine Wp.eqL ?_ (ih (i + 1) (by omega))
        have e : nI i + Int32.ofInt 1 = nI (i + 1) := by simp only [oI, nI_add]
        rw [e, setF]
        first | (rw [if_pos (by simp only [inB]; simp only [decide_eq_true_eq]; simp_all [dK, nI_0])]; rw [← or_pow (setF_lt _ i), ← shl1 i (by omega)]; rfl) | (rw [if_neg (by simp only [inB]; simp only [decide_eq_true_eq]; simp_all [dK, nI_0])]; simp only [oI, or_0, Nat.add_zero])
      · refine p_run (pc' := 4) [.iconst 1, .iload_n 3, .ishl, .goto 4, .ior, .istore_n 2, .iinc 3 1, .goto (-33)] mkX8_diggersIn (by decide +kernel) rfl rfl ?_
        refine Wp.eqL ?_ (ih (i + 1) (by omega))
        have e : nI i + Int32.ofInt 1 = nI (i + 1) := by simp only [oI, nI_add]
        rw [e, setF]
        first | (rw [if_pos (by simp only [inB]; simp only [decide_eq_true_eq]; simp_all [dK, nI_0])]; rw [← or_pow (setF_lt _ i), ← shl1 i (by omega)]; rfl) | (rw [if_neg (by simp only [inB]; simp only [decide_eq_true_eq]; simp_all [dK, nI_0])]; simp only [oI, or_0, Nat.add_zero])
set_option maxRecDepth 20000 in
set_option maxHeartbeats 4000000 in
theorem rdiggersIn_ok (w : Wt) {k : Nat} (hk : 1 ≤ k) (b nn : Nat) (h : Mm) (hn : h 97 1 = nI nn) (h10 : nn ≤ 10) : Ok w k MX8_diggersIn [.ref 96, .int (nI b)] h (Rv (nI (setF (inB (h 97) b) nn)) h) := by
  show Wp w k MX8_diggersIn _ 0 [some (.ref 96), some (.int (nI b)), none, none] [] h
  refine p_run (pc' := 4) [.iconst 0, .istore_n 2, .iconst 0, .istore_n 3] mkX8_diggersIn (by decide +kernel) rfl rfl ?_
  exact rdiggersIn_loop w hk b nn h hn h10 nn 0 (by omega)
set_option maxRecDepth 20000 in
set_option maxHeartbeats 4000000 in
theorem rlitIn_loop (w : Wt) {k : Nat} (hk : 1 ≤ k) (b nn : Nat) (h : Mm) (hn : h 97 1 = nI nn) (h10 : nn ≤ 10) : ∀ (m i : Nat), i + m = nn → Wp w k MX8_litIn (Rv (nI (setF (litB (h 97) b) nn)) h) 4 [some (.ref 96), some (.int (nI b)), some (.int (nI (setF (litB (h 97) b) i))), some (.int (nI i))] [] h := by
  intro m
  induction m with
  | zero =>
    intro i hi
    have hi : i = nn := by omega
    subst hi
    refine p_run (pc' := 10) [.iload_n 3, .aload_n 0, .getfield 9, .iconst 1] mkX8_litIn (by decide +kernel) rfl rfl ?_
    refine p_iald (1) (by decide +kernel) rfl rfl (by simp only [oI]) (by omega) ?_
    rw [hn]
    refine p_icmp_ge (off := 38) 49 (by decide +kernel) (by decide) (fun c11 => ?_) (fun c11 => ?_)
    · refine p_run (pc' := 50) [.iload_n 2] mkX8_litIn (by decide +kernel) rfl rfl ?_
      refine p_iret rfl rfl (by decide +kernel) ?_
      exact ⟨rfl, rfl⟩
    · exact absurd (nI_le (Nat.le_refl _) (by omega)) c11
  | succ m ih =>
    intro i hi
    refine p_run (pc' := 10) [.iload_n 3, .aload_n 0, .getfield 9, .iconst 1] mkX8_litIn (by decide +kernel) rfl rfl ?_
    refine p_iald (1) (by decide +kernel) rfl rfl (by simp only [oI]) (by omega) ?_
    rw [hn]
    refine p_icmp_ge (off := 38) 49 (by decide +kernel) (by decide) (fun c11 => ?_) (fun c11 => ?_)
    · exact absurd c11 (nI_ge (by omega) (by omega))
    · refine p_run (pc' := 18) [.iload_n 2, .aload_n 0, .iload_n 3, .iconst 3] mkX8_litIn (by decide +kernel) rfl rfl ?_
      refine p_callVv (of_ok w (k := k - 1) (i) (3) _ (by omega)) kvX8_83 (by decide +kernel) (by decide) rfl (by omega) rfl rfl rfl rfl rfl ?_
      refine p_run (pc' := 22) [.iload_n 1] mkX8_litIn (by decide +kernel) rfl rfl ?_
      refine p_icmp_ne (off := 18) 40 (by decide +kernel) (by decide) (fun c22 => ?_) (fun c22 => ?_)
      · refine p_run (pc' := 4) [.iconst 0, .ior, .istore_n 2, .iinc 3 1, .goto (-42)] mkX8_litIn (by decide +kernel) rfl rfl ?_
        refine Wp.eqL ?_ (ih (i + 1) (by omega))
        have e : nI i + Int32.ofInt 1 = nI (i + 1) := by simp only [oI, nI_add]
        rw [e, setF]
        first | (rw [if_pos (by simp only [litB]; simp only [decide_eq_true_eq]; simp_all [dK, nI_0])]; rw [← or_pow (setF_lt _ i), ← shl1 i (by omega)]; rfl) | (rw [if_neg (by simp only [litB]; simp only [decide_eq_true_eq]; simp_all [dK, nI_0])]; simp only [oI, or_0, Nat.add_zero])
      · refine p_run (pc' := 28) [.aload_n 0, .iload_n 3, .iconst 2] mkX8_litIn (by decide +kernel) rfl rfl ?_
        refine p_callVv (of_ok w (k := k - 1) (i) (2) _ (by omega)) kvX8_83 (by decide +kernel) (by decide) rfl (by omega) rfl rfl rfl rfl rfl ?_
        refine p_if_le (off := 9) 40 (by decide +kernel) (by decide) (fun c31 => ?_) (fun c31 => ?_)
        · refine p_run (pc' := 4) [.iconst 0, .ior, .istore_n 2, .iinc 3 1, .goto (-42)] mkX8_litIn (by decide +kernel) rfl rfl ?_
          refine Wp.eqL ?_ (ih (i + 1) (by omega))
          have e : nI i + Int32.ofInt 1 = nI (i + 1) := by simp only [oI, nI_add]
          rw [e, setF]
          first | (rw [if_pos (by simp only [litB]; simp only [decide_eq_true_eq]; simp_all [dK, nI_0])]; rw [← or_pow (setF_lt _ i), ← shl1 i (by omega)]; rfl) | (rw [if_neg (by simp only [litB]; simp only [decide_eq_true_eq]; simp_all [dK, nI_0])]; simp only [oI, or_0, Nat.add_zero])
        · refine p_run (pc' := 4) [.iconst 1, .iload_n 3, .ishl, .goto 4, .ior, .istore_n 2, .iinc 3 1, .goto (-42)] mkX8_litIn (by decide +kernel) rfl rfl ?_
          refine Wp.eqL ?_ (ih (i + 1) (by omega))
          have e : nI i + Int32.ofInt 1 = nI (i + 1) := by simp only [oI, nI_add]
          rw [e, setF]
          first | (rw [if_pos (by simp only [litB]; simp only [decide_eq_true_eq]; simp_all [dK, nI_0])]; rw [← or_pow (setF_lt _ i), ← shl1 i (by omega)]; rfl) | (rw [if_neg (by simp only [litB]; simp only [decide_eq_true_eq]; simp_all [dK, nI_0])]; simp only [oI, or_0, Nat.add_zero])
set_option maxRecDepth 20000 in
set_option maxHeartbeats 4000000 in
theorem rlitIn_ok (w : Wt) {k : Nat} (hk : 1 ≤ k) (b nn : Nat) (h : Mm) (hn : h 97 1 = nI nn) (h10 : nn ≤ 10) : Ok w k MX8_litIn [.ref 96, .int (nI b)] h (Rv (nI (setF (litB (h 97) b) nn)) h) := by
  show Wp w k MX8_litIn _ 0 [some (.ref 96), some (.int (nI b)), none, none] [] h
  refine p_run (pc' := 4) [.iconst 0, .istore_n 2, .iconst 0, .istore_n 3] mkX8_litIn (by decide +kernel) rfl rfl ?_
  exact rlitIn_loop w hk b nn h hn h10 nn 0 (by omega)
