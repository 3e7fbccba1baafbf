/-! the reference: what will be -/
def cpI (h : Mm) (src dst i : Nat) : Mm := fun b j => if b = dst ∧ j < i then h src j else h b j
set_option maxRecDepth 20000 in
set_option maxHeartbeats 4000000 in
theorem copy_loop (w : Wt) {k : Nat} (src dst : Nat) (h : Mm) (hs : src = 97 ∨ src = 98 ∨ src = 99) (hd : dst = 97 ∨ dst = 98 ∨ dst = 99) (hne : src ≠ dst) : ∀ (m i : Nat), i + m = 1442 → Wp w k MX8_copyAll (Rw (wr h dst (h src))) 2 [some (.ref src), some (.ref dst), some (.int (nI i))] [] (cpI h src dst i) := by
  have ks : kd0 src = (10, 1442) := by rcases hs with rfl | rfl | rfl <;> rfl
  have kd : kd0 dst = (10, 1442) := by rcases hd with rfl | rfl | rfl <;> rfl
  have ls : src < 118 := by omega
  have ld : dst < 118 := by omega
  intro m
  induction m with
  | zero =>
    intro i hi
    have hi : i = 1442 := by omega
    subst hi
    refine p_run (pc' := 6) [.iload_n 2, .sipush 1442] mkX8_copyAll (by decide +kernel) rfl rfl ?_
    refine p_icmp_ge (off := 15) 21 (by decide +kernel) (by decide) (fun c1 => ?_) (fun c1 => ?_)
    · refine Wp.junk (h' := wr h dst (h src)) (fun a ha k hk => ?_) ?_
      · unfold cpI wr
        by_cases e : a = dst
        · subst e
          rw [kd] at hk
          simp only [true_and, if_true]
          exact if_pos hk
        · simp [e]
      · refine p_vret rfl (by decide +kernel) ?_
        exact ⟨rfl, rfl⟩
    · exact absurd (by decide) c1
  | succ m ih =>
    intro i hi
    refine p_run (pc' := 6) [.iload_n 2, .sipush 1442] mkX8_copyAll (by decide +kernel) rfl rfl ?_
    refine p_icmp_ge (off := 15) 21 (by decide +kernel) (by decide) (fun c1 => ?_) (fun c1 => ?_)
    · exact absurd c1 (by rw [oI]; exact nI_ge (by omega) (by omega))
    · refine p_run (pc' := 13) [.aload_n 1, .iload_n 2, .aload_n 0, .iload_n 2] mkX8_copyAll (by decide +kernel) rfl rfl ?_
      refine p_iald (i) (by decide +kernel) (Nat.ble_eq_true_of_le ls) ks rfl (by omega) ?_
      refine p_iast (i) (by decide +kernel) (Nat.ble_eq_true_of_le ld) kd rfl (by omega)  ?_
      refine p_run (pc' := 2) [.iinc 2 1, .goto (-16)] mkX8_copyAll (by decide +kernel) rfl rfl ?_
      refine Wp.eqL ?_ (Wp.eqH ?_ (ih (i + 1) (by omega)))
      · rw [show nI i + Int32.ofInt 1 = nI (i + 1) by simp only [oI, nI_add]]
      · funext x j
        unfold up cpI
        by_cases ex : x = dst
        · subst ex
          by_cases ej : j = i
          · subst ej; simp [hne]
          · by_cases lj : j < i
            · simp [ej, lj, Nat.lt_succ_of_lt lj]
            · have : ¬ j < i + 1 := by omega
              simp [ej, lj, this]
        · simp [ex]
set_option maxRecDepth 20000 in
set_option maxHeartbeats 4000000 in
theorem copyAll_ok (w : Wt) {k : Nat} (src dst : Nat) (h : Mm) (hs : src = 97 ∨ src = 98 ∨ src = 99) (hd : dst = 97 ∨ dst = 98 ∨ dst = 99) (hne : src ≠ dst) : Ok w k MX8_copyAll [.ref src, .ref dst] h (Rw (wr h dst (h src))) := by
  show Wp w k MX8_copyAll _ 0 [some (.ref src), some (.ref dst), none] [] h
  refine p_run (pc' := 2) [.iconst 0, .istore_n 2] mkX8_copyAll (by decide +kernel) rfl rfl ?_
  refine Wp.eqH ?_ (copy_loop w src dst h hs hd hne 1442 0 (by omega))
  funext x j
  simp [cpI]
set_option maxRecDepth 20000 in
set_option maxHeartbeats 4000000 in
theorem thinks_ok (w : Wt) {k : Nat} (hk : 1 ≤ k) (h : Mm) : Ok w k MX8_thinks [.ref 96] h (Rw (wr h 99 (h 97))) := by
  show Wp w k MX8_thinks _ 0 [some (.ref 96)] [] h
  refine p_run (pc' := 8) [.aload_n 0, .getfield 9, .aload_n 0, .getfield 16] mkX8_thinks (by decide +kernel) rfl rfl ?_
  refine p_callSw (copyAll_ok w (k := k - 1) 97 99 h (by decide) (by decide) (by decide)) ksX8_185 (by decide +kernel) (by omega) rfl rfl rfl rfl rfl ?_
  refine p_vret rfl (by decide +kernel) ?_
  exact ⟨rfl, rfl⟩
set_option maxRecDepth 20000 in
set_option maxHeartbeats 4000000 in
theorem putsBack_ok (w : Wt) {k : Nat} (hk : 1 ≤ k) (h : Mm) : Ok w k MX8_putsBack [.ref 96] h (Rw (wr h 97 (h 99))) := by
  show Wp w k MX8_putsBack _ 0 [some (.ref 96)] [] h
  refine p_run (pc' := 8) [.aload_n 0, .getfield 16, .aload_n 0, .getfield 9] mkX8_putsBack (by decide +kernel) rfl rfl ?_
  refine p_callSw (copyAll_ok w (k := k - 1) 99 97 h (by decide) (by decide) (by decide)) ksX8_185 (by decide +kernel) (by omega) rfl rfl rfl rfl rfl ?_
  refine p_vret rfl (by decide +kernel) ?_
  exact ⟨rfl, rfl⟩
set_option maxRecDepth 20000 in
set_option maxHeartbeats 4000000 in
theorem goesOn_loop (w : Wt) {k : Nat} (hk : 6 ≤ k) (N : Vc) (hI : Iv N) (hT : Tq N) (n : Nat) (hn : n < 2 ^ 30) (h0 : Mm) : ∀ (m i : Nat), i + m = n → ∀ h : Mm, h 97 = nsF N i → Ag [97, 107, 108] h0 h → Wp w k MX8_goesOn (fun r h' => r = none ∧ h' 97 = nsF N n ∧ Ag [97, 107, 108] h0 h') 2 [some (.ref 96), some (.int (nI n)), some (.int (nI i))] [] h := by
  intro m
  induction m with
  | zero =>
    intro i hi h e hA
    have hi : i = n := by omega
    subst hi
    refine p_run (pc' := 4) [.iload_n 2, .iload_n 1] mkX8_goesOn (by decide +kernel) rfl rfl ?_
    refine p_icmp_ge (off := 13) 17 (by decide +kernel) (by decide) (fun c1 => ?_) (fun c1 => ?_)
    · refine p_vret rfl (by decide +kernel) ?_
      exact ⟨rfl, e, hA⟩
    · exact absurd (nI_le (Nat.le_refl _) (by omega)) c1
  | succ m ih =>
    intro i hi h e hA
    refine p_run (pc' := 4) [.iload_n 2, .iload_n 1] mkX8_goesOn (by decide +kernel) rfl rfl ?_
    refine p_icmp_ge (off := 13) 17 (by decide +kernel) (by decide) (fun c1 => ?_) (fun c1 => ?_)
    · exact absurd c1 (nI_ge (by omega) (by omega))
    · refine p_run (pc' := 8) [.aload_n 0] mkX8_goesOn (by decide +kernel) rfl rfl ?_
      refine p_callV (night_ok w (k := k - 1) (by omega) h (by rw [e]; exact nsF_Iv hI i) (by rw [e]; exact hT.of (fun j hj => nsF_out hI (by omega) i))) kvX8_170 (by decide +kernel) (by decide) rfl (by omega) rfl rfl rfl rfl rfl (fun r h' hq => ?_)
      obtain ⟨rfl, e2, hA2⟩ := hq
      refine p_run (pc' := 2) [.iinc 2 1, .goto (-12)] mkX8_goesOn (by decide +kernel) rfl rfl ?_
      refine Wp.eqL ?_ (ih (i + 1) (by omega) _ ?_ (hA.tr hA2))
      · rw [show nI i + Int32.ofInt 1 = nI (i + 1) by simp only [oI, nI_add]]
      · rw [e2, e, nsF]
set_option maxRecDepth 20000 in
set_option maxHeartbeats 4000000 in
theorem goesOn_ok (w : Wt) {k : Nat} (hk : 6 ≤ k) (n : Nat) (hn : n < 2 ^ 30) (h : Mm) (hI : Iv (h 97)) (hT : Tq (h 97)) : Ok w k MX8_goesOn [.ref 96, .int (nI n)] h (Rn (fun N => nsF N n) h) := by
  show Wp w k MX8_goesOn _ 0 [some (.ref 96), some (.int (nI n)), none] [] h
  refine p_run (pc' := 2) [.iconst 0, .istore_n 2] mkX8_goesOn (by decide +kernel) rfl rfl ?_
  exact goesOn_loop w hk (h 97) hI hT n hn h n 0 (by omega) h rfl Ag.rf
def hlF (N : Vc) : Int32 := sumF (fun d => dK N d 4) (nd N)
noncomputable def behF (N : Vc) (n j : Nat) : Int32 := if j < 2 then nsF N n (5 + j) else if j = 2 then hlF (nsF N n) else bK (nsF N n) (j - 3) 0
set_option maxRecDepth 20000 in
set_option maxHeartbeats 4000000 in
theorem r_behind_bad (w : Wt) {k : Nat} (hk : 2 ≤ k) (a b : Int32) (h : Mm)  (hb : ¬ (inR a 0 100 ∧ inR b 0 6)) : Ok w k MX8_behind [.ref 96, .int a, .int b] h (Rv BADv h) := by
  show Wp w k MX8_behind _ 0 [some (.ref 96), some (.int a), some (.int b), none] [] h
  refine p_run (pc' := 4) [.iload_n 1, .iconst 0, .bipush 100] mkX8_behind (by decide +kernel) rfl rfl ?_
  refine p_callSv (in_ok w (k := k - 1) _ _ _ _) ksX8_75 (by decide +kernel) (by omega) rfl rfl rfl rfl rfl ?_
  refine p_if_eq (off := 13) 20 (by decide +kernel) (by decide) (fun c7 => ?_) (fun c7 => ?_)
  · refine p_run (pc' := 22) [.ldc 123] mkX8_behind (by decide +kernel) rfl rfl ?_
    refine p_iret rfl rfl (by decide +kernel) ?_
    exact ⟨rfl, rfl⟩
  · refine p_run (pc' := 14) [.iload_n 2, .iconst 0, .bipush 6] mkX8_behind (by decide +kernel) rfl rfl ?_
    refine p_callSv (in_ok w (k := k - 1) _ _ _ _) ksX8_75 (by decide +kernel) (by omega) rfl rfl rfl rfl rfl ?_
    refine p_if_ne (off := 6) 23 (by decide +kernel) (by decide) (fun c17 => ?_) (fun c17 => ?_)
    · exact absurd (⟨bI1.mp c7, bI1.mp c17⟩) hb
    · refine p_run (pc' := 22) [.ldc 123] mkX8_behind (by decide +kernel) rfl rfl ?_
      refine p_iret rfl rfl (by decide +kernel) ?_
      exact ⟨rfl, rfl⟩
theorem back_row {h h1 h2 : Mm} (hA : Ag [97, 107, 108] (wr h 99 (h 97)) h1) : Ag [99, 107, 108] h (wr h1 97 (h1 99)) := by
  intro a ha
  by_cases e : a = 97
  · subst e
    rw [wrS, hA 99 (by decide), wrS]
  · have h1' : a ∉ [97, 107, 108] := by simp at ha ⊢; omega
    have h2' : a ≠ 99 := by simp at ha; omega
    rw [wrN e, hA a h1', wrN h2']
set_option maxRecDepth 20000 in
set_option maxHeartbeats 4000000 in
theorem r_behind (w : Wt) {k : Nat} (hk : 7 ≤ k) (n j : Nat) (h : Mm) (hI : Iv (h 97)) (hT : Tq (h 97)) (hn : n ≤ 100) (hj : j ≤ 6) : Ok w k MX8_behind [.ref 96, .int (nI n), .int (nI j)] h (Rs [99, 107, 108] (behF (h 97) n j) h) := by
  show Wp w k MX8_behind _ 0 [some (.ref 96), some (.int (nI n)), some (.int (nI j)), none] [] h
  refine p_run (pc' := 4) [.iload_n 1, .iconst 0, .bipush 100] mkX8_behind (by decide +kernel) rfl rfl ?_
  refine p_callSv (in_t w (k := k - 1) _ _ _ _ (in_nI (lo := 0) (hi := 100) (by omega) hn (by omega))) ksX8_75 (by decide +kernel) (by omega) rfl rfl rfl rfl rfl ?_
  refine p_if_eq (off := 13) 20 (by decide +kernel) (by decide) (fun c7 => ?_) (fun c7 => ?_)
  · exact False.elim (by revert c7; decide)
  · refine p_run (pc' := 14) [.iload_n 2, .iconst 0, .bipush 6] mkX8_behind (by decide +kernel) rfl rfl ?_
    refine p_callSv (in_t w (k := k - 1) _ _ _ _ (in_nI (lo := 0) (hi := 6) (by omega) hj (by omega))) ksX8_75 (by decide +kernel) (by omega) rfl rfl rfl rfl rfl ?_
    refine p_if_ne (off := 6) 23 (by decide +kernel) (by decide) (fun c17 => ?_) (fun c17 => ?_)
    · refine p_run (pc' := 24) [.aload_n 0] mkX8_behind (by decide +kernel) rfl rfl ?_
      refine p_callVw (thinks_ok w (k := k - 1) (by omega) h) kvX8_189 (by decide +kernel) (by decide) rfl (by omega) rfl rfl rfl rfl rfl ?_
      refine p_run (pc' := 29) [.aload_n 0, .iload_n 1] mkX8_behind (by decide +kernel) rfl rfl ?_
      refine p_callVo (goesOn_ok w (k := k - 1) (by omega) n (by omega) _ (by rw [wrN (by decide)]; exact hI) (by rw [wrN (by decide)]; exact hT)) (fun _ _ q => q.1) kvX8_176 (by decide +kernel) (by decide) rfl (by omega) rfl rfl rfl rfl rfl (fun h' hq => ?_)
      obtain ⟨-, e1, hA1⟩ := hq
      have e1 : h' 97 = nsF (h 97) n := by have := e1; rw [wrN (by decide)] at this; exact this
      have hI1 : Iv (h' 97) := by rw [e1]; exact nsF_Iv hI n
      refine p_run (pc' := 34) [.iload_n 2, .iconst 2] mkX8_behind (by decide +kernel) rfl rfl ?_
      refine p_icmp_ge (off := 14) 48 (by decide +kernel) (by decide) (fun c34 => ?_) (fun c34 => ?_)
      · (try simp only [oI] at c34)
        rw [nI_leI (by omega) (by omega)] at c34
        refine p_run (pc' := 50) [.iload_n 2, .iconst 2] mkX8_behind (by decide +kernel) rfl rfl ?_
        refine p_icmp_ne (off := 11) 61 (by decide +kernel) (by decide) (fun c50 => ?_) (fun c50 => ?_)
        · (try simp only [oI] at c50)
          rw [nI_eq (by omega) (by omega)] at c50
          refine p_run (pc' := 66) [.aload_n 0, .iload_n 2, .iconst 3, .isub, .iconst 0] mkX8_behind (by decide +kernel) rfl rfl ?_
          refine Wp.eqS (st' := [.int (nI 0), .int (nI (j - 3)), .ref 96]) (by rw [oI, oI, nIs (by omega)]) ?_
          refine p_callVv (at_ok w (k := k - 1) (j - 3) 0 _ (by omega)) kvX8_79 (by decide +kernel) (by decide) rfl (by omega) rfl rfl rfl rfl rfl ?_
          refine p_run (pc' := 71) [.istore_n 3, .aload_n 0] mkX8_behind (by decide +kernel) rfl rfl ?_
          refine p_callVw (putsBack_ok w (k := k - 1) (by omega) _) kvX8_192 (by decide +kernel) (by decide) rfl (by omega) rfl rfl rfl rfl rfl ?_
          refine p_run (pc' := 75) [.iload_n 3] mkX8_behind (by decide +kernel) rfl rfl ?_
          refine p_iret rfl rfl (by decide +kernel) ?_
          exact ⟨congrArg (fun x => some (Value.int x)) (by unfold behF; rw [← e1]; (repeat' split) <;> first | rfl | omega), back_row (h2 := h') hA1⟩
        · (try simp only [oI] at c50)
          rw [nI_eq (by omega) (by omega)] at c50
          refine p_run (pc' := 55) [.aload_n 0, .iconst 4] mkX8_behind (by decide +kernel) rfl rfl ?_
          refine p_callVv (sums_ok w (k := k - 1) (by omega) 4 (by omega) _ hI1) kvX8_173 (by decide +kernel) (by decide) rfl (by omega) rfl rfl rfl rfl rfl ?_
          refine p_run (pc' := 71) [.goto 11, .istore_n 3, .aload_n 0] mkX8_behind (by decide +kernel) rfl rfl ?_
          refine p_callVw (putsBack_ok w (k := k - 1) (by omega) _) kvX8_192 (by decide +kernel) (by decide) rfl (by omega) rfl rfl rfl rfl rfl ?_
          refine p_run (pc' := 75) [.iload_n 3] mkX8_behind (by decide +kernel) rfl rfl ?_
          refine p_iret rfl rfl (by decide +kernel) ?_
          exact ⟨congrArg (fun x => some (Value.int x)) (by unfold behF; rw [← e1]; (repeat' split) <;> first | rfl | omega), back_row (h2 := h') hA1⟩
      · (try simp only [oI] at c34)
        rw [nI_leI (by omega) (by omega)] at c34
        refine p_run (pc' := 44) [.aload_n 0, .getfield 9, .iconst 5, .iload_n 2, .iadd] mkX8_behind (by decide +kernel) rfl rfl ?_
        refine p_iald (5 + j) (by decide +kernel) rfl rfl (by simp only [oI, nI_add]) (by omega) ?_
        refine p_run (pc' := 71) [.goto 24, .istore_n 3, .aload_n 0] mkX8_behind (by decide +kernel) rfl rfl ?_
        refine p_callVw (putsBack_ok w (k := k - 1) (by omega) _) kvX8_192 (by decide +kernel) (by decide) rfl (by omega) rfl rfl rfl rfl rfl ?_
        refine p_run (pc' := 75) [.iload_n 3] mkX8_behind (by decide +kernel) rfl rfl ?_
        refine p_iret rfl rfl (by decide +kernel) ?_
        exact ⟨congrArg (fun x => some (Value.int x)) (by unfold behF; rw [← e1]; (repeat' split) <;> first | rfl | omega), back_row (h2 := h') hA1⟩
    · exact False.elim (by revert c17; decide)
