/-! the two objects are made -/
set_option maxRecDepth 20000 in
set_option maxHeartbeats 4000000 in
theorem dn_S (V : Nat → Nat → Value)  : ∀ a, 65 ≤ a → a < 74 → ∀ k, k < (kd0 a).2 → (uE (uE (uE (uV (uV (uE (uE (uE (uV (uV (uE (uE (uE (uV (uV (uE (uE (uE (uV (uV (uE (uV (V) (65) (fun _ => .null)) (0) 5 (.ref (65))) (66) (df 4)) (67) (fun _ => .int 0)) (66) 0 (.ref (67))) (66) 1 (.int (Int32.ofInt (-1)))) (65) 0 (.ref (66))) (68) (df 4)) (69) (fun _ => .int 0)) (68) 0 (.ref (69))) (68) 1 (.int (Int32.ofInt (-1)))) (65) 1 (.ref (68))) (70) (df 4)) (71) (fun _ => .int 0)) (70) 0 (.ref (71))) (70) 1 (.int (Int32.ofInt (-1)))) (65) 2 (.ref (70))) (72) (df 4)) (73) (fun _ => .int 0)) (72) 0 (.ref (73))) (72) 1 (.int (Int32.ofInt (-1)))) (65) 3 (.ref (72))) a k = vl hI a k := by
  intro a h1 h2 k hk
  rcases (show a = 65 ∨ a = 66 ∨ a = 67 ∨ a = 68 ∨ a = 69 ∨ a = 70 ∨ a = 71 ∨ a = 72 ∨ a = 73 by omega) with e | e | e | e | e | e | e | e | e
  · subst e; rw [show (kd0 65).2 = 4 from (by decide +kernel)] at hk
    rcases (show k = 0 ∨ k = 1 ∨ k = 2 ∨ k = 3 by omega) with q | q | q | q <;> subst q <;> rfl
  · subst e; rw [show (kd0 66).2 = 3 from (by decide +kernel)] at hk
    rcases (show k = 0 ∨ k = 1 ∨ k = 2 by omega) with q | q | q <;> subst q <;> rfl
  · subst e; rfl
  · subst e; rw [show (kd0 68).2 = 3 from (by decide +kernel)] at hk
    rcases (show k = 0 ∨ k = 1 ∨ k = 2 by omega) with q | q | q <;> subst q <;> rfl
  · subst e; rfl
  · subst e; rw [show (kd0 70).2 = 3 from (by decide +kernel)] at hk
    rcases (show k = 0 ∨ k = 1 ∨ k = 2 by omega) with q | q | q <;> subst q <;> rfl
  · subst e; rfl
  · subst e; rw [show (kd0 72).2 = 3 from (by decide +kernel)] at hk
    rcases (show k = 0 ∨ k = 1 ∨ k = 2 by omega) with q | q | q <;> subst q <;> rfl
  · subst e; rfl
set_option maxRecDepth 20000 in
set_option maxHeartbeats 4000000 in
theorem dn_L (V : Nat → Nat → Value)  : ∀ a, 74 ≤ a → a < 95 → ∀ k, k < (kd0 a).2 → (uE (uE (uE (uE (uV (uV (uE (uV (uV (uE (uE (uE (uE (uV (uV (uE (uV (uV (uE (uE (uE (uE (uV (uV (uE (uV (uV (uE (uE (uE (uE (uV (uV (uE (uV (uV (uE (uE (uE (uE (uV (uV (uE (uV (uV (uE (uV (V) (74) (fun _ => .null)) (0) 6 (.ref (74))) (75) (df 5)) (76) (df 1)) (75) 2 (.ref (76))) (77) (df 4)) (78) (fun _ => .int 0)) (77) 0 (.ref (78))) (77) 1 (.int (Int32.ofInt (-1)))) (75) 3 (.ref (77))) (74) 0 (.ref (75))) (79) (df 5)) (80) (df 1)) (79) 2 (.ref (80))) (81) (df 4)) (82) (fun _ => .int 0)) (81) 0 (.ref (82))) (81) 1 (.int (Int32.ofInt (-1)))) (79) 3 (.ref (81))) (74) 1 (.ref (79))) (83) (df 5)) (84) (df 1)) (83) 2 (.ref (84))) (85) (df 4)) (86) (fun _ => .int 0)) (85) 0 (.ref (86))) (85) 1 (.int (Int32.ofInt (-1)))) (83) 3 (.ref (85))) (74) 2 (.ref (83))) (87) (df 5)) (88) (df 1)) (87) 2 (.ref (88))) (89) (df 4)) (90) (fun _ => .int 0)) (89) 0 (.ref (90))) (89) 1 (.int (Int32.ofInt (-1)))) (87) 3 (.ref (89))) (74) 3 (.ref (87))) (91) (df 5)) (92) (df 1)) (91) 2 (.ref (92))) (93) (df 4)) (94) (fun _ => .int 0)) (93) 0 (.ref (94))) (93) 1 (.int (Int32.ofInt (-1)))) (91) 3 (.ref (93))) (74) 4 (.ref (91))) a k = vl hI a k := by
  intro a h1 h2 k hk
  rcases (show a = 74 ∨ a = 75 ∨ a = 76 ∨ a = 77 ∨ a = 78 ∨ a = 79 ∨ a = 80 ∨ a = 81 ∨ a = 82 ∨ a = 83 ∨ a = 84 ∨ a = 85 ∨ a = 86 ∨ a = 87 ∨ a = 88 ∨ a = 89 ∨ a = 90 ∨ a = 91 ∨ a = 92 ∨ a = 93 ∨ a = 94 by omega) with e | e | e | e | e | e | e | e | e | e | e | e | e | e | e | e | e | e | e | e | e
  · subst e; rw [show (kd0 74).2 = 5 from (by decide +kernel)] at hk
    rcases (show k = 0 ∨ k = 1 ∨ k = 2 ∨ k = 3 ∨ k = 4 by omega) with q | q | q | q | q <;> subst q <;> rfl
  · subst e; rw [show (kd0 75).2 = 4 from (by decide +kernel)] at hk
    rcases (show k = 0 ∨ k = 1 ∨ k = 2 ∨ k = 3 by omega) with q | q | q | q <;> subst q <;> rfl
  · subst e; rw [show (kd0 76).2 = 5 from (by decide +kernel)] at hk
    rcases (show k = 0 ∨ k = 1 ∨ k = 2 ∨ k = 3 ∨ k = 4 by omega) with q | q | q | q | q <;> subst q <;> rfl
  · subst e; rw [show (kd0 77).2 = 3 from (by decide +kernel)] at hk
    rcases (show k = 0 ∨ k = 1 ∨ k = 2 by omega) with q | q | q <;> subst q <;> rfl
  · subst e; rfl
  · subst e; rw [show (kd0 79).2 = 4 from (by decide +kernel)] at hk
    rcases (show k = 0 ∨ k = 1 ∨ k = 2 ∨ k = 3 by omega) with q | q | q | q <;> subst q <;> rfl
  · subst e; rw [show (kd0 80).2 = 5 from (by decide +kernel)] at hk
    rcases (show k = 0 ∨ k = 1 ∨ k = 2 ∨ k = 3 ∨ k = 4 by omega) with q | q | q | q | q <;> subst q <;> rfl
  · subst e; rw [show (kd0 81).2 = 3 from (by decide +kernel)] at hk
    rcases (show k = 0 ∨ k = 1 ∨ k = 2 by omega) with q | q | q <;> subst q <;> rfl
  · subst e; rfl
  · subst e; rw [show (kd0 83).2 = 4 from (by decide +kernel)] at hk
    rcases (show k = 0 ∨ k = 1 ∨ k = 2 ∨ k = 3 by omega) with q | q | q | q <;> subst q <;> rfl
  · subst e; rw [show (kd0 84).2 = 5 from (by decide +kernel)] at hk
    rcases (show k = 0 ∨ k = 1 ∨ k = 2 ∨ k = 3 ∨ k = 4 by omega) with q | q | q | q | q <;> subst q <;> rfl
  · subst e; rw [show (kd0 85).2 = 3 from (by decide +kernel)] at hk
    rcases (show k = 0 ∨ k = 1 ∨ k = 2 by omega) with q | q | q <;> subst q <;> rfl
  · subst e; rfl
  · subst e; rw [show (kd0 87).2 = 4 from (by decide +kernel)] at hk
    rcases (show k = 0 ∨ k = 1 ∨ k = 2 ∨ k = 3 by omega) with q | q | q | q <;> subst q <;> rfl
  · subst e; rw [show (kd0 88).2 = 5 from (by decide +kernel)] at hk
    rcases (show k = 0 ∨ k = 1 ∨ k = 2 ∨ k = 3 ∨ k = 4 by omega) with q | q | q | q | q <;> subst q <;> rfl
  · subst e; rw [show (kd0 89).2 = 3 from (by decide +kernel)] at hk
    rcases (show k = 0 ∨ k = 1 ∨ k = 2 by omega) with q | q | q <;> subst q <;> rfl
  · subst e; rfl
  · subst e; rw [show (kd0 91).2 = 4 from (by decide +kernel)] at hk
    rcases (show k = 0 ∨ k = 1 ∨ k = 2 ∨ k = 3 by omega) with q | q | q | q <;> subst q <;> rfl
  · subst e; rw [show (kd0 92).2 = 5 from (by decide +kernel)] at hk
    rcases (show k = 0 ∨ k = 1 ∨ k = 2 ∨ k = 3 ∨ k = 4 by omega) with q | q | q | q | q <;> subst q <;> rfl
  · subst e; rw [show (kd0 93).2 = 3 from (by decide +kernel)] at hk
    rcases (show k = 0 ∨ k = 1 ∨ k = 2 by omega) with q | q | q <;> subst q <;> rfl
  · subst e; rfl
set_option maxRecDepth 20000 in
set_option maxHeartbeats 4000000 in
theorem i_X7 (w : Wt) {k : Nat} (hk : 10 ≤ k)  (V : Nat → Nat → Value) : Gp w k 95 2326 MX7_init (fun r u => r = none ∧ ∃ V', u = Mv 96 V' ∧ (∀ b, b < 0 → V' b = V b) ∧ ∀ a, 0 ≤ a → a < 96 → ∀ k, k < (kd0 a).2 → V' a k = vl hI a k) 0 [some (.ref 0), none] [] (Mv (1) (uV V 0 (df 7))) := by
  obtain ⟨W, hW⟩ : ∃ W, W = uV V 0 (df 7) := ⟨_, rfl⟩
  rw [← hW]
  have z0 : W 0 0 = .null := by rw [hW]; rfl
  have z1 : W 0 1 = .null := by rw [hW]; rfl
  have z2 : W 0 2 = .null := by rw [hW]; rfl
  have z3 : W 0 3 = .null := by rw [hW]; rfl
  have z4 : W 0 4 = .null := by rw [hW]; rfl
  have z5 : W 0 5 = .null := by rw [hW]; rfl
  have z6 : W 0 6 = .null := by rw [hW]; rfl
  have z7 : W 0 7 = .null := by rw [hW]; rfl
  have z8 : W 0 8 = .int 0 := by rw [hW]; rfl
  have z9 : W 0 9 = .int 0 := by rw [hW]; rfl
  have hD : ∀ a, 1 ≤ a → a < 1 → ∀ k, k < (kd0 a).2 → W a k = vl hI a k := fun a h1 h2 => by omega
  clear hW
  refine g_aload_n (i := 0) (by decide +kernel) rfl ?_
  refine g_objI (idx := 1) (by decide +kernel) (tbG_of 73 (by decide +kernel) (by decide +kernel)) (Nat.le_of_ble_eq_true rfl) (by omega) ?_
  refine g_aload_n (i := 0) (by decide +kernel) rfl ?_
  refine v_new (bc := 94) (bs := 2320) 6 6 7 (by decide +kernel) (by decide +kernel) (by decide) rfl (tbG_of 76 (by decide +kernel) (by decide +kernel)) (tbG_of 77 (by decide +kernel) (by decide +kernel)) (tbG_of 52 (by decide +kernel) (by decide +kernel)) dft6 (by omega) ?_
  refine g_dup (by decide +kernel) rfl ?_
  refine g_callI (idx := 9) (bc' := 6) (bs' := 1486) (bc2 := 88) (bs2 := 834) [] (by decide +kernel) kiX7_9 rfl rfl rfl (fun v h => absurd h List.not_mem_nil) (by decide) rfl (Nat.le_of_ble_eq_true rfl) (by omega) (i_X6 w (k := k - 1) (by omega) _) (fun r u' hq => ?_)
  obtain ⟨rfl, V1, rfl, fr1, dn1⟩ := hq
  refine v_putF (idx := 10) (ty := .object "SpoonPassage$Texts") (by decide +kernel) ⟨fo7_10, fun C T N h => by cases h; exact ⟨(by decide +kernel), (by decide +kernel), rfl⟩⟩ rfl (by omega) rfl rfl rfl ?_
  have hD' : ∀ a, 1 ≤ a → a < 8 → ∀ k, k < (kd0 a).2 → (uE (V1) (0) 0 (.ref (1))) a k = vl hI a k := fun a h1 h2 k hk => by
    rw [uE_ne (by omega)]
    rcases Nat.lt_or_ge a 1 with q | q
    · rw [fr1 a q, uV_n (by omega)]; exact hD a h1 q k hk
    · exact dn1 a q h2 k hk
  have z0' : (uE (V1) (0) 0 (.ref (1))) 0 0 = .ref 1 := rfl
  have z1' : (uE (V1) (0) 0 (.ref (1))) 0 1 = .null := (uE_nk (by omega)).trans ((congrFun (fr1 0 (by omega)) 1).trans ((congrFun (uV_n (by omega)) 1).trans z1))
  have z2' : (uE (V1) (0) 0 (.ref (1))) 0 2 = .null := (uE_nk (by omega)).trans ((congrFun (fr1 0 (by omega)) 2).trans ((congrFun (uV_n (by omega)) 2).trans z2))
  have z3' : (uE (V1) (0) 0 (.ref (1))) 0 3 = .null := (uE_nk (by omega)).trans ((congrFun (fr1 0 (by omega)) 3).trans ((congrFun (uV_n (by omega)) 3).trans z3))
  have z4' : (uE (V1) (0) 0 (.ref (1))) 0 4 = .null := (uE_nk (by omega)).trans ((congrFun (fr1 0 (by omega)) 4).trans ((congrFun (uV_n (by omega)) 4).trans z4))
  have z5' : (uE (V1) (0) 0 (.ref (1))) 0 5 = .null := (uE_nk (by omega)).trans ((congrFun (fr1 0 (by omega)) 5).trans ((congrFun (uV_n (by omega)) 5).trans z5))
  have z6' : (uE (V1) (0) 0 (.ref (1))) 0 6 = .null := (uE_nk (by omega)).trans ((congrFun (fr1 0 (by omega)) 6).trans ((congrFun (uV_n (by omega)) 6).trans z6))
  have z7' : (uE (V1) (0) 0 (.ref (1))) 0 7 = .null := (uE_nk (by omega)).trans ((congrFun (fr1 0 (by omega)) 7).trans ((congrFun (uV_n (by omega)) 7).trans z7))
  have z8' : (uE (V1) (0) 0 (.ref (1))) 0 8 = .int 0 := (uE_nk (by omega)).trans ((congrFun (fr1 0 (by omega)) 8).trans ((congrFun (uV_n (by omega)) 8).trans z8))
  have z9' : (uE (V1) (0) 0 (.ref (1))) 0 9 = .int 0 := (uE_nk (by omega)).trans ((congrFun (fr1 0 (by omega)) 9).trans ((congrFun (uV_n (by omega)) 9).trans z9))
  clear hD z0 z1 z2 z3 z4 z5 z6 z7 z8 z9
  generalize uE (V1) (0) 0 (.ref (1)) = W1 at *
  have hD := hD'
  clear hD'
  have z0 := z0'
  have z1 := z1'
  have z2 := z2'
  have z3 := z3'
  have z4 := z4'
  have z5 := z5'
  have z6 := z6'
  have z7 := z7'
  have z8 := z8'
  have z9 := z9'
  clear z0' z1' z2' z3' z4' z5' z6' z7' z8' z9'
  refine g_aload_n (i := 0) (by decide +kernel) rfl ?_
  refine v_new (bc := 87) (bs := 822) 3 12 16 (by decide +kernel) (by decide +kernel) (by decide) rfl (tbG_of 104 (by decide +kernel) (by decide +kernel)) (tbG_of 105 (by decide +kernel) (by decide +kernel)) (tbG_of 53 (by decide +kernel) (by decide +kernel)) dft3 (by omega) ?_
  refine g_dup (by decide +kernel) rfl ?_
  refine g_callI (idx := 18) (bc' := 2) (bs' := 192) (bc2 := 85) (bs2 := 630) [] (by decide +kernel) kiX7_18 rfl rfl rfl (fun v h => absurd h List.not_mem_nil) (by decide) rfl (Nat.le_of_ble_eq_true rfl) (by omega) (i_X3 w (k := k - 1) (by omega) _) (fun r u' hq => ?_)
  obtain ⟨rfl, V2, rfl, fr2, dn2⟩ := hq
  refine v_putF (idx := 19) (ty := .object "SpoonPassage$Reader") (by decide +kernel) ⟨fo7_19, fun C T N h => by cases h; exact ⟨(by decide +kernel), (by decide +kernel), rfl⟩⟩ rfl (by omega) rfl rfl rfl ?_
  have hD' : ∀ a, 1 ≤ a → a < 11 → ∀ k, k < (kd0 a).2 → (uE (V2) (0) 1 (.ref (8))) a k = vl hI a k := fun a h1 h2 k hk => by
    rw [uE_ne (by omega)]
    rcases Nat.lt_or_ge a 8 with q | q
    · rw [fr2 a q]; exact hD a h1 q k hk
    · exact dn2 a q h2 k hk
  have z0' : (uE (V2) (0) 1 (.ref (8))) 0 0 = .ref 1 := (uE_nk (by omega)).trans ((congrFun (fr2 0 (by omega)) 0).trans z0)
  have z1' : (uE (V2) (0) 1 (.ref (8))) 0 1 = .ref 8 := rfl
  have z2' : (uE (V2) (0) 1 (.ref (8))) 0 2 = .null := (uE_nk (by omega)).trans ((congrFun (fr2 0 (by omega)) 2).trans z2)
  have z3' : (uE (V2) (0) 1 (.ref (8))) 0 3 = .null := (uE_nk (by omega)).trans ((congrFun (fr2 0 (by omega)) 3).trans z3)
  have z4' : (uE (V2) (0) 1 (.ref (8))) 0 4 = .null := (uE_nk (by omega)).trans ((congrFun (fr2 0 (by omega)) 4).trans z4)
  have z5' : (uE (V2) (0) 1 (.ref (8))) 0 5 = .null := (uE_nk (by omega)).trans ((congrFun (fr2 0 (by omega)) 5).trans z5)
  have z6' : (uE (V2) (0) 1 (.ref (8))) 0 6 = .null := (uE_nk (by omega)).trans ((congrFun (fr2 0 (by omega)) 6).trans z6)
  have z7' : (uE (V2) (0) 1 (.ref (8))) 0 7 = .null := (uE_nk (by omega)).trans ((congrFun (fr2 0 (by omega)) 7).trans z7)
  have z8' : (uE (V2) (0) 1 (.ref (8))) 0 8 = .int 0 := (uE_nk (by omega)).trans ((congrFun (fr2 0 (by omega)) 8).trans z8)
  have z9' : (uE (V2) (0) 1 (.ref (8))) 0 9 = .int 0 := (uE_nk (by omega)).trans ((congrFun (fr2 0 (by omega)) 9).trans z9)
  clear hD z0 z1 z2 z3 z4 z5 z6 z7 z8 z9
  generalize uE (V2) (0) 1 (.ref (8)) = W2 at *
  have hD := hD'
  clear hD'
  have z0 := z0'
  have z1 := z1'
  have z2 := z2'
  have z3 := z3'
  have z4 := z4'
  have z5 := z5'
  have z6 := z6'
  have z7 := z7'
  have z8 := z8'
  have z9 := z9'
  clear z0' z1' z2' z3' z4' z5' z6' z7' z8' z9'
  refine g_aload_n (i := 0) (by decide +kernel) rfl ?_
  refine v_new (bc := 84) (bs := 618) 2 12 23 (by decide +kernel) (by decide +kernel) (by decide) rfl (tbG_of 153 (by decide +kernel) (by decide +kernel)) (tbG_of 154 (by decide +kernel) (by decide +kernel)) (tbG_of 54 (by decide +kernel) (by decide +kernel)) dft2 (by omega) ?_
  refine g_dup (by decide +kernel) rfl ?_
  refine g_aload_n (i := 0) (by decide +kernel) rfl ?_
  refine v_get (idx := 10) (r := .ref (1)) ((congrFun (uV_n (by omega)) 0).trans z0) (by decide +kernel) fo7_10 (by omega) rfl ?_
  refine g_callI (idx := 25) (bc' := 17) (bs' := 79) (bc2 := 67) (bs2 := 539) [.ref (1)] (by decide +kernel) kiX7_25 rfl rfl rfl (fun v h => by rw [List.mem_singleton.mp h]; rfl) (by decide) rfl (Nat.le_of_ble_eq_true rfl) (by omega) (i_P11 w (k := k - 1) (by omega) _) (fun r u' hq => ?_)
  obtain ⟨rfl, V3, rfl, fr3, dn3⟩ := hq
  refine v_putF (idx := 28) (ty := .object "SpoonPassage$Passage") (by decide +kernel) ⟨fo7_28, fun C T N h => by cases h; exact ⟨(by decide +kernel), (by decide +kernel), rfl⟩⟩ rfl (by omega) rfl rfl rfl ?_
  have hD' : ∀ a, 1 ≤ a → a < 29 → ∀ k, k < (kd0 a).2 → (uE (V3) (0) 2 (.ref (11))) a k = vl hI a k := fun a h1 h2 k hk => by
    rw [uE_ne (by omega)]
    rcases Nat.lt_or_ge a 11 with q | q
    · rw [fr3 a q]; exact hD a h1 q k hk
    · exact dn3 a q h2 k hk
  have z0' : (uE (V3) (0) 2 (.ref (11))) 0 0 = .ref 1 := (uE_nk (by omega)).trans ((congrFun (fr3 0 (by omega)) 0).trans z0)
  have z1' : (uE (V3) (0) 2 (.ref (11))) 0 1 = .ref 8 := (uE_nk (by omega)).trans ((congrFun (fr3 0 (by omega)) 1).trans z1)
  have z2' : (uE (V3) (0) 2 (.ref (11))) 0 2 = .ref 11 := rfl
  have z3' : (uE (V3) (0) 2 (.ref (11))) 0 3 = .null := (uE_nk (by omega)).trans ((congrFun (fr3 0 (by omega)) 3).trans z3)
  have z4' : (uE (V3) (0) 2 (.ref (11))) 0 4 = .null := (uE_nk (by omega)).trans ((congrFun (fr3 0 (by omega)) 4).trans z4)
  have z5' : (uE (V3) (0) 2 (.ref (11))) 0 5 = .null := (uE_nk (by omega)).trans ((congrFun (fr3 0 (by omega)) 5).trans z5)
  have z6' : (uE (V3) (0) 2 (.ref (11))) 0 6 = .null := (uE_nk (by omega)).trans ((congrFun (fr3 0 (by omega)) 6).trans z6)
  have z7' : (uE (V3) (0) 2 (.ref (11))) 0 7 = .null := (uE_nk (by omega)).trans ((congrFun (fr3 0 (by omega)) 7).trans z7)
  have z8' : (uE (V3) (0) 2 (.ref (11))) 0 8 = .int 0 := (uE_nk (by omega)).trans ((congrFun (fr3 0 (by omega)) 8).trans z8)
  have z9' : (uE (V3) (0) 2 (.ref (11))) 0 9 = .int 0 := (uE_nk (by omega)).trans ((congrFun (fr3 0 (by omega)) 9).trans z9)
  clear hD z0 z1 z2 z3 z4 z5 z6 z7 z8 z9
  generalize uE (V3) (0) 2 (.ref (11)) = W3 at *
  have hD := hD'
  clear hD'
  have z0 := z0'
  have z1 := z1'
  have z2 := z2'
  have z3 := z3'
  have z4 := z4'
  have z5 := z5'
  have z6 := z6'
  have z7 := z7'
  have z8 := z8'
  have z9 := z9'
  clear z0' z1' z2' z3' z4' z5' z6' z7' z8' z9'
  refine g_aload_n (i := 0) (by decide +kernel) rfl ?_
  refine v_new (bc := 66) (bs := 527) 2 12 23 (by decide +kernel) (by decide +kernel) (by decide) rfl (tbG_of 153 (by decide +kernel) (by decide +kernel)) (tbG_of 154 (by decide +kernel) (by decide +kernel)) (tbG_of 54 (by decide +kernel) (by decide +kernel)) dft2 (by omega) ?_
  refine g_dup (by decide +kernel) rfl ?_
  refine g_aload_n (i := 0) (by decide +kernel) rfl ?_
  refine v_get (idx := 10) (r := .ref (1)) ((congrFun (uV_n (by omega)) 0).trans z0) (by decide +kernel) fo7_10 (by omega) rfl ?_
  refine g_callI (idx := 25) (bc' := 17) (bs' := 79) (bc2 := 49) (bs2 := 448) [.ref (1)] (by decide +kernel) kiX7_25 rfl rfl rfl (fun v h => by rw [List.mem_singleton.mp h]; rfl) (by decide) rfl (Nat.le_of_ble_eq_true rfl) (by omega) (i_P29 w (k := k - 1) (by omega) _) (fun r u' hq => ?_)
  obtain ⟨rfl, V4, rfl, fr4, dn4⟩ := hq
  refine v_putF (idx := 32) (ty := .object "SpoonPassage$Passage") (by decide +kernel) ⟨fo7_32, fun C T N h => by cases h; exact ⟨(by decide +kernel), (by decide +kernel), rfl⟩⟩ rfl (by omega) rfl rfl rfl ?_
  have hD' : ∀ a, 1 ≤ a → a < 47 → ∀ k, k < (kd0 a).2 → (uE (V4) (0) 3 (.ref (29))) a k = vl hI a k := fun a h1 h2 k hk => by
    rw [uE_ne (by omega)]
    rcases Nat.lt_or_ge a 29 with q | q
    · rw [fr4 a q]; exact hD a h1 q k hk
    · exact dn4 a q h2 k hk
  have z0' : (uE (V4) (0) 3 (.ref (29))) 0 0 = .ref 1 := (uE_nk (by omega)).trans ((congrFun (fr4 0 (by omega)) 0).trans z0)
  have z1' : (uE (V4) (0) 3 (.ref (29))) 0 1 = .ref 8 := (uE_nk (by omega)).trans ((congrFun (fr4 0 (by omega)) 1).trans z1)
  have z2' : (uE (V4) (0) 3 (.ref (29))) 0 2 = .ref 11 := (uE_nk (by omega)).trans ((congrFun (fr4 0 (by omega)) 2).trans z2)
  have z3' : (uE (V4) (0) 3 (.ref (29))) 0 3 = .ref 29 := rfl
  have z4' : (uE (V4) (0) 3 (.ref (29))) 0 4 = .null := (uE_nk (by omega)).trans ((congrFun (fr4 0 (by omega)) 4).trans z4)
  have z5' : (uE (V4) (0) 3 (.ref (29))) 0 5 = .null := (uE_nk (by omega)).trans ((congrFun (fr4 0 (by omega)) 5).trans z5)
  have z6' : (uE (V4) (0) 3 (.ref (29))) 0 6 = .null := (uE_nk (by omega)).trans ((congrFun (fr4 0 (by omega)) 6).trans z6)
  have z7' : (uE (V4) (0) 3 (.ref (29))) 0 7 = .null := (uE_nk (by omega)).trans ((congrFun (fr4 0 (by omega)) 7).trans z7)
  have z8' : (uE (V4) (0) 3 (.ref (29))) 0 8 = .int 0 := (uE_nk (by omega)).trans ((congrFun (fr4 0 (by omega)) 8).trans z8)
  have z9' : (uE (V4) (0) 3 (.ref (29))) 0 9 = .int 0 := (uE_nk (by omega)).trans ((congrFun (fr4 0 (by omega)) 9).trans z9)
  clear hD z0 z1 z2 z3 z4 z5 z6 z7 z8 z9
  generalize uE (V4) (0) 3 (.ref (29)) = W4 at *
  have hD := hD'
  clear hD'
  have z0 := z0'
  have z1 := z1'
  have z2 := z2'
  have z3 := z3'
  have z4 := z4'
  have z5 := z5'
  have z6 := z6'
  have z7 := z7'
  have z8 := z8'
  have z9 := z9'
  clear z0' z1' z2' z3' z4' z5' z6' z7' z8' z9'
  refine g_aload_n (i := 0) (by decide +kernel) rfl ?_
  refine v_new (bc := 48) (bs := 436) 2 12 23 (by decide +kernel) (by decide +kernel) (by decide) rfl (tbG_of 153 (by decide +kernel) (by decide +kernel)) (tbG_of 154 (by decide +kernel) (by decide +kernel)) (tbG_of 54 (by decide +kernel) (by decide +kernel)) dft2 (by omega) ?_
  refine g_dup (by decide +kernel) rfl ?_
  refine g_aload_n (i := 0) (by decide +kernel) rfl ?_
  refine v_get (idx := 10) (r := .ref (1)) ((congrFun (uV_n (by omega)) 0).trans z0) (by decide +kernel) fo7_10 (by omega) rfl ?_
  refine g_callI (idx := 25) (bc' := 17) (bs' := 79) (bc2 := 31) (bs2 := 357) [.ref (1)] (by decide +kernel) kiX7_25 rfl rfl rfl (fun v h => by rw [List.mem_singleton.mp h]; rfl) (by decide) rfl (Nat.le_of_ble_eq_true rfl) (by omega) (i_P47 w (k := k - 1) (by omega) _) (fun r u' hq => ?_)
  obtain ⟨rfl, V5, rfl, fr5, dn5⟩ := hq
  refine v_putF (idx := 35) (ty := .object "SpoonPassage$Passage") (by decide +kernel) ⟨fo7_35, fun C T N h => by cases h; exact ⟨(by decide +kernel), (by decide +kernel), rfl⟩⟩ rfl (by omega) rfl rfl rfl ?_
  have hD' : ∀ a, 1 ≤ a → a < 65 → ∀ k, k < (kd0 a).2 → (uE (V5) (0) 4 (.ref (47))) a k = vl hI a k := fun a h1 h2 k hk => by
    rw [uE_ne (by omega)]
    rcases Nat.lt_or_ge a 47 with q | q
    · rw [fr5 a q]; exact hD a h1 q k hk
    · exact dn5 a q h2 k hk
  have z0' : (uE (V5) (0) 4 (.ref (47))) 0 0 = .ref 1 := (uE_nk (by omega)).trans ((congrFun (fr5 0 (by omega)) 0).trans z0)
  have z1' : (uE (V5) (0) 4 (.ref (47))) 0 1 = .ref 8 := (uE_nk (by omega)).trans ((congrFun (fr5 0 (by omega)) 1).trans z1)
  have z2' : (uE (V5) (0) 4 (.ref (47))) 0 2 = .ref 11 := (uE_nk (by omega)).trans ((congrFun (fr5 0 (by omega)) 2).trans z2)
  have z3' : (uE (V5) (0) 4 (.ref (47))) 0 3 = .ref 29 := (uE_nk (by omega)).trans ((congrFun (fr5 0 (by omega)) 3).trans z3)
  have z4' : (uE (V5) (0) 4 (.ref (47))) 0 4 = .ref 47 := rfl
  have z5' : (uE (V5) (0) 4 (.ref (47))) 0 5 = .null := (uE_nk (by omega)).trans ((congrFun (fr5 0 (by omega)) 5).trans z5)
  have z6' : (uE (V5) (0) 4 (.ref (47))) 0 6 = .null := (uE_nk (by omega)).trans ((congrFun (fr5 0 (by omega)) 6).trans z6)
  have z7' : (uE (V5) (0) 4 (.ref (47))) 0 7 = .null := (uE_nk (by omega)).trans ((congrFun (fr5 0 (by omega)) 7).trans z7)
  have z8' : (uE (V5) (0) 4 (.ref (47))) 0 8 = .int 0 := (uE_nk (by omega)).trans ((congrFun (fr5 0 (by omega)) 8).trans z8)
  have z9' : (uE (V5) (0) 4 (.ref (47))) 0 9 = .int 0 := (uE_nk (by omega)).trans ((congrFun (fr5 0 (by omega)) 9).trans z9)
  clear hD z0 z1 z2 z3 z4 z5 z6 z7 z8 z9
  generalize uE (V5) (0) 4 (.ref (47)) = W5 at *
  have hD := hD'
  clear hD'
  have z0 := z0'
  have z1 := z1'
  have z2 := z2'
  have z3 := z3'
  have z4 := z4'
  have z5 := z5'
  have z6 := z6'
  have z7 := z7'
  have z8 := z8'
  have z9 := z9'
  clear z0' z1' z2' z3' z4' z5' z6' z7' z8' z9'
  refine g_aload_n (i := 0) (by decide +kernel) rfl ?_
  refine g_iconst (n := 4) (by decide +kernel) ?_
  refine v_newq (bc := 30) (bs := 353) 5 16 4 38 (by decide +kernel) (by decide +kernel) rfl (by decide) (tbG_of 264 (by decide +kernel) (by decide +kernel)) (fun s h => (ao_of h).2.2.1) (by decide) (by decide) (by decide) (by omega) ?_
  refine v_putF (idx := 40) (ty := .array (.object "SpoonPassage$Sheet")) (by decide +kernel) ⟨fo7_40, fun C T N h => by cases h; exact ⟨(by decide +kernel), (by decide +kernel), rfl⟩⟩ rfl (by omega) rfl rfl rfl ?_
  refine g_iconst (n := 0) (by decide +kernel) ?_
  refine g_istore_n (i := 1) (by decide +kernel) (by decide) ?_
  refine g_iload_n (i := 1) (by decide +kernel) rfl ?_
  refine g_iconst (n := 4) (by decide +kernel) ?_
  refine g_icmp_ge (off := 22) (tgt := 105) (by decide +kernel) (by decide) (fun q => absurd q (by decide)) (fun _ => ?_)
  refine g_aload_n (i := 0) (by decide +kernel) rfl ?_
  refine v_get (idx := 40) (r := .ref (65)) rfl (by decide +kernel) fo7_40 (by omega) rfl ?_
  refine g_iload_n (i := 1) (by decide +kernel) rfl ?_
  refine v_new (bc := 29) (bs := 350) 4 3 38 (by decide +kernel) (by decide +kernel) (by decide) rfl (tbG_of 264 (by decide +kernel) (by decide +kernel)) (tbG_of 266 (by decide +kernel) (by decide +kernel)) (tbG_of 57 (by decide +kernel) (by decide +kernel)) dft4 (by omega) ?_
  refine g_dup (by decide +kernel) rfl ?_
  refine g_callI (idx := 44) (bc' := 1) (bs' := 24) (bc2 := 28) (bs2 := 326) [] (by decide +kernel) kiX7_44 rfl rfl rfl (fun v h => absurd h List.not_mem_nil) (by decide) rfl (Nat.le_of_ble_eq_true rfl) (by omega) (i_X4 w (k := k - 1) (by omega) (66) (67) (by omega) (by omega) rfl (by decide +kernel) _) (fun r u' hq => ?_)
  obtain ⟨rfl, rfl⟩ := hq
  refine v_aast 5 0 16 4 4 3 (by decide +kernel) (by decide) (by decide) rfl (by omega) (by decide +kernel) (by decide) (by decide) rfl (by omega) (by decide +kernel) (by decide) ?_
  refine g_iinc (i := 1) (n := 1) (by decide +kernel) (by decide) rfl ?_
  refine g_goto (off := -21) (tgt := 81) (by decide +kernel) (by decide) ?_
  refine g_iload_n (i := 1) (by decide +kernel) rfl ?_
  refine g_iconst (n := 4) (by decide +kernel) ?_
  refine g_icmp_ge (off := 22) (tgt := 105) (by decide +kernel) (by decide) (fun q => absurd q (by decide)) (fun _ => ?_)
  refine g_aload_n (i := 0) (by decide +kernel) rfl ?_
  refine v_get (idx := 40) (r := .ref (65)) rfl (by decide +kernel) fo7_40 (by omega) rfl ?_
  refine g_iload_n (i := 1) (by decide +kernel) rfl ?_
  refine v_new (bc := 27) (bs := 323) 4 3 38 (by decide +kernel) (by decide +kernel) (by decide) rfl (tbG_of 264 (by decide +kernel) (by decide +kernel)) (tbG_of 266 (by decide +kernel) (by decide +kernel)) (tbG_of 57 (by decide +kernel) (by decide +kernel)) dft4 (by omega) ?_
  refine g_dup (by decide +kernel) rfl ?_
  refine g_callI (idx := 44) (bc' := 1) (bs' := 24) (bc2 := 26) (bs2 := 299) [] (by decide +kernel) kiX7_44 rfl rfl rfl (fun v h => absurd h List.not_mem_nil) (by decide) rfl (Nat.le_of_ble_eq_true rfl) (by omega) (i_X4 w (k := k - 1) (by omega) (68) (69) (by omega) (by omega) rfl (by decide +kernel) _) (fun r u' hq => ?_)
  obtain ⟨rfl, rfl⟩ := hq
  refine v_aast 5 1 16 4 4 3 (by decide +kernel) (by decide) (by decide) rfl (by omega) (by decide +kernel) (by decide) (by decide) rfl (by omega) (by decide +kernel) (by decide) ?_
  refine g_iinc (i := 1) (n := 1) (by decide +kernel) (by decide) rfl ?_
  refine g_goto (off := -21) (tgt := 81) (by decide +kernel) (by decide) ?_
  refine g_iload_n (i := 1) (by decide +kernel) rfl ?_
  refine g_iconst (n := 4) (by decide +kernel) ?_
  refine g_icmp_ge (off := 22) (tgt := 105) (by decide +kernel) (by decide) (fun q => absurd q (by decide)) (fun _ => ?_)
  refine g_aload_n (i := 0) (by decide +kernel) rfl ?_
  refine v_get (idx := 40) (r := .ref (65)) rfl (by decide +kernel) fo7_40 (by omega) rfl ?_
  refine g_iload_n (i := 1) (by decide +kernel) rfl ?_
  refine v_new (bc := 25) (bs := 296) 4 3 38 (by decide +kernel) (by decide +kernel) (by decide) rfl (tbG_of 264 (by decide +kernel) (by decide +kernel)) (tbG_of 266 (by decide +kernel) (by decide +kernel)) (tbG_of 57 (by decide +kernel) (by decide +kernel)) dft4 (by omega) ?_
  refine g_dup (by decide +kernel) rfl ?_
  refine g_callI (idx := 44) (bc' := 1) (bs' := 24) (bc2 := 24) (bs2 := 272) [] (by decide +kernel) kiX7_44 rfl rfl rfl (fun v h => absurd h List.not_mem_nil) (by decide) rfl (Nat.le_of_ble_eq_true rfl) (by omega) (i_X4 w (k := k - 1) (by omega) (70) (71) (by omega) (by omega) rfl (by decide +kernel) _) (fun r u' hq => ?_)
  obtain ⟨rfl, rfl⟩ := hq
  refine v_aast 5 2 16 4 4 3 (by decide +kernel) (by decide) (by decide) rfl (by omega) (by decide +kernel) (by decide) (by decide) rfl (by omega) (by decide +kernel) (by decide) ?_
  refine g_iinc (i := 1) (n := 1) (by decide +kernel) (by decide) rfl ?_
  refine g_goto (off := -21) (tgt := 81) (by decide +kernel) (by decide) ?_
  refine g_iload_n (i := 1) (by decide +kernel) rfl ?_
  refine g_iconst (n := 4) (by decide +kernel) ?_
  refine g_icmp_ge (off := 22) (tgt := 105) (by decide +kernel) (by decide) (fun q => absurd q (by decide)) (fun _ => ?_)
  refine g_aload_n (i := 0) (by decide +kernel) rfl ?_
  refine v_get (idx := 40) (r := .ref (65)) rfl (by decide +kernel) fo7_40 (by omega) rfl ?_
  refine g_iload_n (i := 1) (by decide +kernel) rfl ?_
  refine v_new (bc := 23) (bs := 269) 4 3 38 (by decide +kernel) (by decide +kernel) (by decide) rfl (tbG_of 264 (by decide +kernel) (by decide +kernel)) (tbG_of 266 (by decide +kernel) (by decide +kernel)) (tbG_of 57 (by decide +kernel) (by decide +kernel)) dft4 (by omega) ?_
  refine g_dup (by decide +kernel) rfl ?_
  refine g_callI (idx := 44) (bc' := 1) (bs' := 24) (bc2 := 22) (bs2 := 245) [] (by decide +kernel) kiX7_44 rfl rfl rfl (fun v h => absurd h List.not_mem_nil) (by decide) rfl (Nat.le_of_ble_eq_true rfl) (by omega) (i_X4 w (k := k - 1) (by omega) (72) (73) (by omega) (by omega) rfl (by decide +kernel) _) (fun r u' hq => ?_)
  obtain ⟨rfl, rfl⟩ := hq
  refine v_aast 5 3 16 4 4 3 (by decide +kernel) (by decide) (by decide) rfl (by omega) (by decide +kernel) (by decide) (by decide) rfl (by omega) (by decide +kernel) (by decide) ?_
  refine g_iinc (i := 1) (n := 1) (by decide +kernel) (by decide) rfl ?_
  refine g_goto (off := -21) (tgt := 81) (by decide +kernel) (by decide) ?_
  refine g_iload_n (i := 1) (by decide +kernel) rfl ?_
  refine g_iconst (n := 4) (by decide +kernel) ?_
  refine g_icmp_ge (off := 22) (tgt := 105) (by decide +kernel) (by decide) (fun _ => ?_) (fun q => absurd (by decide) q)
  have hD' : ∀ a, 1 ≤ a → a < 74 → ∀ k, k < (kd0 a).2 → (uE (uE (uE (uV (uV (uE (uE (uE (uV (uV (uE (uE (uE (uV (uV (uE (uE (uE (uV (uV (uE (uV (W5) (65) (fun _ => .null)) (0) 5 (.ref (65))) (66) (df 4)) (67) (fun _ => .int 0)) (66) 0 (.ref (67))) (66) 1 (.int (Int32.ofInt (-1)))) (65) 0 (.ref (66))) (68) (df 4)) (69) (fun _ => .int 0)) (68) 0 (.ref (69))) (68) 1 (.int (Int32.ofInt (-1)))) (65) 1 (.ref (68))) (70) (df 4)) (71) (fun _ => .int 0)) (70) 0 (.ref (71))) (70) 1 (.int (Int32.ofInt (-1)))) (65) 2 (.ref (70))) (72) (df 4)) (73) (fun _ => .int 0)) (72) 0 (.ref (73))) (72) 1 (.int (Int32.ofInt (-1)))) (65) 3 (.ref (72))) a k = vl hI a k := fun a h1 h2 k hk => by
    rcases Nat.lt_or_ge a 65 with q | q
    · repeat (first | rw [uE_nk (by omega)] | rw [uV_n (by omega)])
      exact hD a h1 q k hk
    · exact dn_S W5 a q h2 k hk
  have z0' : (uE (uE (uE (uV (uV (uE (uE (uE (uV (uV (uE (uE (uE (uV (uV (uE (uE (uE (uV (uV (uE (uV (W5) (65) (fun _ => .null)) (0) 5 (.ref (65))) (66) (df 4)) (67) (fun _ => .int 0)) (66) 0 (.ref (67))) (66) 1 (.int (Int32.ofInt (-1)))) (65) 0 (.ref (66))) (68) (df 4)) (69) (fun _ => .int 0)) (68) 0 (.ref (69))) (68) 1 (.int (Int32.ofInt (-1)))) (65) 1 (.ref (68))) (70) (df 4)) (71) (fun _ => .int 0)) (70) 0 (.ref (71))) (70) 1 (.int (Int32.ofInt (-1)))) (65) 2 (.ref (70))) (72) (df 4)) (73) (fun _ => .int 0)) (72) 0 (.ref (73))) (72) 1 (.int (Int32.ofInt (-1)))) (65) 3 (.ref (72))) 0 0 = .ref 1 := by
    repeat (first | rw [uE_nk (by omega)] | rw [uV_n (by omega)])
    exact z0
  have z1' : (uE (uE (uE (uV (uV (uE (uE (uE (uV (uV (uE (uE (uE (uV (uV (uE (uE (uE (uV (uV (uE (uV (W5) (65) (fun _ => .null)) (0) 5 (.ref (65))) (66) (df 4)) (67) (fun _ => .int 0)) (66) 0 (.ref (67))) (66) 1 (.int (Int32.ofInt (-1)))) (65) 0 (.ref (66))) (68) (df 4)) (69) (fun _ => .int 0)) (68) 0 (.ref (69))) (68) 1 (.int (Int32.ofInt (-1)))) (65) 1 (.ref (68))) (70) (df 4)) (71) (fun _ => .int 0)) (70) 0 (.ref (71))) (70) 1 (.int (Int32.ofInt (-1)))) (65) 2 (.ref (70))) (72) (df 4)) (73) (fun _ => .int 0)) (72) 0 (.ref (73))) (72) 1 (.int (Int32.ofInt (-1)))) (65) 3 (.ref (72))) 0 1 = .ref 8 := by
    repeat (first | rw [uE_nk (by omega)] | rw [uV_n (by omega)])
    exact z1
  have z2' : (uE (uE (uE (uV (uV (uE (uE (uE (uV (uV (uE (uE (uE (uV (uV (uE (uE (uE (uV (uV (uE (uV (W5) (65) (fun _ => .null)) (0) 5 (.ref (65))) (66) (df 4)) (67) (fun _ => .int 0)) (66) 0 (.ref (67))) (66) 1 (.int (Int32.ofInt (-1)))) (65) 0 (.ref (66))) (68) (df 4)) (69) (fun _ => .int 0)) (68) 0 (.ref (69))) (68) 1 (.int (Int32.ofInt (-1)))) (65) 1 (.ref (68))) (70) (df 4)) (71) (fun _ => .int 0)) (70) 0 (.ref (71))) (70) 1 (.int (Int32.ofInt (-1)))) (65) 2 (.ref (70))) (72) (df 4)) (73) (fun _ => .int 0)) (72) 0 (.ref (73))) (72) 1 (.int (Int32.ofInt (-1)))) (65) 3 (.ref (72))) 0 2 = .ref 11 := by
    repeat (first | rw [uE_nk (by omega)] | rw [uV_n (by omega)])
    exact z2
  have z3' : (uE (uE (uE (uV (uV (uE (uE (uE (uV (uV (uE (uE (uE (uV (uV (uE (uE (uE (uV (uV (uE (uV (W5) (65) (fun _ => .null)) (0) 5 (.ref (65))) (66) (df 4)) (67) (fun _ => .int 0)) (66) 0 (.ref (67))) (66) 1 (.int (Int32.ofInt (-1)))) (65) 0 (.ref (66))) (68) (df 4)) (69) (fun _ => .int 0)) (68) 0 (.ref (69))) (68) 1 (.int (Int32.ofInt (-1)))) (65) 1 (.ref (68))) (70) (df 4)) (71) (fun _ => .int 0)) (70) 0 (.ref (71))) (70) 1 (.int (Int32.ofInt (-1)))) (65) 2 (.ref (70))) (72) (df 4)) (73) (fun _ => .int 0)) (72) 0 (.ref (73))) (72) 1 (.int (Int32.ofInt (-1)))) (65) 3 (.ref (72))) 0 3 = .ref 29 := by
    repeat (first | rw [uE_nk (by omega)] | rw [uV_n (by omega)])
    exact z3
  have z4' : (uE (uE (uE (uV (uV (uE (uE (uE (uV (uV (uE (uE (uE (uV (uV (uE (uE (uE (uV (uV (uE (uV (W5) (65) (fun _ => .null)) (0) 5 (.ref (65))) (66) (df 4)) (67) (fun _ => .int 0)) (66) 0 (.ref (67))) (66) 1 (.int (Int32.ofInt (-1)))) (65) 0 (.ref (66))) (68) (df 4)) (69) (fun _ => .int 0)) (68) 0 (.ref (69))) (68) 1 (.int (Int32.ofInt (-1)))) (65) 1 (.ref (68))) (70) (df 4)) (71) (fun _ => .int 0)) (70) 0 (.ref (71))) (70) 1 (.int (Int32.ofInt (-1)))) (65) 2 (.ref (70))) (72) (df 4)) (73) (fun _ => .int 0)) (72) 0 (.ref (73))) (72) 1 (.int (Int32.ofInt (-1)))) (65) 3 (.ref (72))) 0 4 = .ref 47 := by
    repeat (first | rw [uE_nk (by omega)] | rw [uV_n (by omega)])
    exact z4
  have z5' : (uE (uE (uE (uV (uV (uE (uE (uE (uV (uV (uE (uE (uE (uV (uV (uE (uE (uE (uV (uV (uE (uV (W5) (65) (fun _ => .null)) (0) 5 (.ref (65))) (66) (df 4)) (67) (fun _ => .int 0)) (66) 0 (.ref (67))) (66) 1 (.int (Int32.ofInt (-1)))) (65) 0 (.ref (66))) (68) (df 4)) (69) (fun _ => .int 0)) (68) 0 (.ref (69))) (68) 1 (.int (Int32.ofInt (-1)))) (65) 1 (.ref (68))) (70) (df 4)) (71) (fun _ => .int 0)) (70) 0 (.ref (71))) (70) 1 (.int (Int32.ofInt (-1)))) (65) 2 (.ref (70))) (72) (df 4)) (73) (fun _ => .int 0)) (72) 0 (.ref (73))) (72) 1 (.int (Int32.ofInt (-1)))) (65) 3 (.ref (72))) 0 5 = .ref 65 := rfl
  have z6' : (uE (uE (uE (uV (uV (uE (uE (uE (uV (uV (uE (uE (uE (uV (uV (uE (uE (uE (uV (uV (uE (uV (W5) (65) (fun _ => .null)) (0) 5 (.ref (65))) (66) (df 4)) (67) (fun _ => .int 0)) (66) 0 (.ref (67))) (66) 1 (.int (Int32.ofInt (-1)))) (65) 0 (.ref (66))) (68) (df 4)) (69) (fun _ => .int 0)) (68) 0 (.ref (69))) (68) 1 (.int (Int32.ofInt (-1)))) (65) 1 (.ref (68))) (70) (df 4)) (71) (fun _ => .int 0)) (70) 0 (.ref (71))) (70) 1 (.int (Int32.ofInt (-1)))) (65) 2 (.ref (70))) (72) (df 4)) (73) (fun _ => .int 0)) (72) 0 (.ref (73))) (72) 1 (.int (Int32.ofInt (-1)))) (65) 3 (.ref (72))) 0 6 = .null := by
    repeat (first | rw [uE_nk (by omega)] | rw [uV_n (by omega)])
    exact z6
  have z7' : (uE (uE (uE (uV (uV (uE (uE (uE (uV (uV (uE (uE (uE (uV (uV (uE (uE (uE (uV (uV (uE (uV (W5) (65) (fun _ => .null)) (0) 5 (.ref (65))) (66) (df 4)) (67) (fun _ => .int 0)) (66) 0 (.ref (67))) (66) 1 (.int (Int32.ofInt (-1)))) (65) 0 (.ref (66))) (68) (df 4)) (69) (fun _ => .int 0)) (68) 0 (.ref (69))) (68) 1 (.int (Int32.ofInt (-1)))) (65) 1 (.ref (68))) (70) (df 4)) (71) (fun _ => .int 0)) (70) 0 (.ref (71))) (70) 1 (.int (Int32.ofInt (-1)))) (65) 2 (.ref (70))) (72) (df 4)) (73) (fun _ => .int 0)) (72) 0 (.ref (73))) (72) 1 (.int (Int32.ofInt (-1)))) (65) 3 (.ref (72))) 0 7 = .null := by
    repeat (first | rw [uE_nk (by omega)] | rw [uV_n (by omega)])
    exact z7
  have z8' : (uE (uE (uE (uV (uV (uE (uE (uE (uV (uV (uE (uE (uE (uV (uV (uE (uE (uE (uV (uV (uE (uV (W5) (65) (fun _ => .null)) (0) 5 (.ref (65))) (66) (df 4)) (67) (fun _ => .int 0)) (66) 0 (.ref (67))) (66) 1 (.int (Int32.ofInt (-1)))) (65) 0 (.ref (66))) (68) (df 4)) (69) (fun _ => .int 0)) (68) 0 (.ref (69))) (68) 1 (.int (Int32.ofInt (-1)))) (65) 1 (.ref (68))) (70) (df 4)) (71) (fun _ => .int 0)) (70) 0 (.ref (71))) (70) 1 (.int (Int32.ofInt (-1)))) (65) 2 (.ref (70))) (72) (df 4)) (73) (fun _ => .int 0)) (72) 0 (.ref (73))) (72) 1 (.int (Int32.ofInt (-1)))) (65) 3 (.ref (72))) 0 8 = .int 0 := by
    repeat (first | rw [uE_nk (by omega)] | rw [uV_n (by omega)])
    exact z8
  have z9' : (uE (uE (uE (uV (uV (uE (uE (uE (uV (uV (uE (uE (uE (uV (uV (uE (uE (uE (uV (uV (uE (uV (W5) (65) (fun _ => .null)) (0) 5 (.ref (65))) (66) (df 4)) (67) (fun _ => .int 0)) (66) 0 (.ref (67))) (66) 1 (.int (Int32.ofInt (-1)))) (65) 0 (.ref (66))) (68) (df 4)) (69) (fun _ => .int 0)) (68) 0 (.ref (69))) (68) 1 (.int (Int32.ofInt (-1)))) (65) 1 (.ref (68))) (70) (df 4)) (71) (fun _ => .int 0)) (70) 0 (.ref (71))) (70) 1 (.int (Int32.ofInt (-1)))) (65) 2 (.ref (70))) (72) (df 4)) (73) (fun _ => .int 0)) (72) 0 (.ref (73))) (72) 1 (.int (Int32.ofInt (-1)))) (65) 3 (.ref (72))) 0 9 = .int 0 := by
    repeat (first | rw [uE_nk (by omega)] | rw [uV_n (by omega)])
    exact z9
  clear hD z0 z1 z2 z3 z4 z5 z6 z7 z8 z9
  generalize uE (uE (uE (uV (uV (uE (uE (uE (uV (uV (uE (uE (uE (uV (uV (uE (uE (uE (uV (uV (uE (uV (W5) (65) (fun _ => .null)) (0) 5 (.ref (65))) (66) (df 4)) (67) (fun _ => .int 0)) (66) 0 (.ref (67))) (66) 1 (.int (Int32.ofInt (-1)))) (65) 0 (.ref (66))) (68) (df 4)) (69) (fun _ => .int 0)) (68) 0 (.ref (69))) (68) 1 (.int (Int32.ofInt (-1)))) (65) 1 (.ref (68))) (70) (df 4)) (71) (fun _ => .int 0)) (70) 0 (.ref (71))) (70) 1 (.int (Int32.ofInt (-1)))) (65) 2 (.ref (70))) (72) (df 4)) (73) (fun _ => .int 0)) (72) 0 (.ref (73))) (72) 1 (.int (Int32.ofInt (-1)))) (65) 3 (.ref (72)) = W6 at *
  have hD := hD'
  clear hD'
  have z0 := z0'
  have z1 := z1'
  have z2 := z2'
  have z3 := z3'
  have z4 := z4'
  have z5 := z5'
  have z6 := z6'
  have z7 := z7'
  have z8 := z8'
  have z9 := z9'
  clear z0' z1' z2' z3' z4' z5' z6' z7' z8' z9'
  refine g_aload_n (i := 0) (by decide +kernel) rfl ?_
  refine g_iconst (n := 5) (by decide +kernel) ?_
  refine v_newq (bc := 21) (bs := 240) 6 17 5 45 (by decide +kernel) (by decide +kernel) rfl (by decide) (tbG_of 284 (by decide +kernel) (by decide +kernel)) (fun s h => (ao_of h).2.2.2) (by decide) (by decide) (by decide) (by omega) ?_
  refine v_putF (idx := 47) (ty := .array (.object "SpoonPassage$Slot")) (by decide +kernel) ⟨fo7_47, fun C T N h => by cases h; exact ⟨(by decide +kernel), (by decide +kernel), rfl⟩⟩ rfl (by omega) rfl rfl rfl ?_
  refine g_iconst (n := 0) (by decide +kernel) ?_
  refine g_istore_n (i := 1) (by decide +kernel) (by decide) ?_
  refine g_iload_n (i := 1) (by decide +kernel) rfl ?_
  refine g_iconst (n := 5) (by decide +kernel) ?_
  refine g_icmp_ge (off := 22) (tgt := 139) (by decide +kernel) (by decide) (fun q => absurd q (by decide)) (fun _ => ?_)
  refine g_aload_n (i := 0) (by decide +kernel) rfl ?_
  refine v_get (idx := 47) (r := .ref (74)) rfl (by decide +kernel) fo7_47 (by omega) rfl ?_
  refine g_iload_n (i := 1) (by decide +kernel) rfl ?_
  refine v_new (bc := 20) (bs := 236) 5 4 45 (by decide +kernel) (by decide +kernel) (by decide) rfl (tbG_of 284 (by decide +kernel) (by decide +kernel)) (tbG_of 286 (by decide +kernel) (by decide +kernel)) (tbG_of 58 (by decide +kernel) (by decide +kernel)) dft5 (by omega) ?_
  refine g_dup (by decide +kernel) rfl ?_
  refine g_callI (idx := 51) (bc' := 3) (bs' := 32) (bc2 := 17) (bs2 := 204) [] (by decide +kernel) kiX7_51 rfl rfl rfl (fun v h => absurd h List.not_mem_nil) (by decide) rfl (Nat.le_of_ble_eq_true rfl) (by omega) (i_X5 w (k := k - 1) (by omega) (75) (76) (by omega) (by omega) rfl (by decide +kernel) (by decide +kernel) (by decide +kernel) _) (fun r u' hq => ?_)
  obtain ⟨rfl, rfl⟩ := hq
  refine v_aast 6 0 17 5 5 4 (by decide +kernel) (by decide) (by decide) rfl (by omega) (by decide +kernel) (by decide) (by decide) rfl (by omega) (by decide +kernel) (by decide) ?_
  refine g_iinc (i := 1) (n := 1) (by decide +kernel) (by decide) rfl ?_
  refine g_goto (off := -21) (tgt := 115) (by decide +kernel) (by decide) ?_
  refine g_iload_n (i := 1) (by decide +kernel) rfl ?_
  refine g_iconst (n := 5) (by decide +kernel) ?_
  refine g_icmp_ge (off := 22) (tgt := 139) (by decide +kernel) (by decide) (fun q => absurd q (by decide)) (fun _ => ?_)
  refine g_aload_n (i := 0) (by decide +kernel) rfl ?_
  refine v_get (idx := 47) (r := .ref (74)) rfl (by decide +kernel) fo7_47 (by omega) rfl ?_
  refine g_iload_n (i := 1) (by decide +kernel) rfl ?_
  refine v_new (bc := 16) (bs := 200) 5 4 45 (by decide +kernel) (by decide +kernel) (by decide) rfl (tbG_of 284 (by decide +kernel) (by decide +kernel)) (tbG_of 286 (by decide +kernel) (by decide +kernel)) (tbG_of 58 (by decide +kernel) (by decide +kernel)) dft5 (by omega) ?_
  refine g_dup (by decide +kernel) rfl ?_
  refine g_callI (idx := 51) (bc' := 3) (bs' := 32) (bc2 := 13) (bs2 := 168) [] (by decide +kernel) kiX7_51 rfl rfl rfl (fun v h => absurd h List.not_mem_nil) (by decide) rfl (Nat.le_of_ble_eq_true rfl) (by omega) (i_X5 w (k := k - 1) (by omega) (79) (80) (by omega) (by omega) rfl (by decide +kernel) (by decide +kernel) (by decide +kernel) _) (fun r u' hq => ?_)
  obtain ⟨rfl, rfl⟩ := hq
  refine v_aast 6 1 17 5 5 4 (by decide +kernel) (by decide) (by decide) rfl (by omega) (by decide +kernel) (by decide) (by decide) rfl (by omega) (by decide +kernel) (by decide) ?_
  refine g_iinc (i := 1) (n := 1) (by decide +kernel) (by decide) rfl ?_
  refine g_goto (off := -21) (tgt := 115) (by decide +kernel) (by decide) ?_
  refine g_iload_n (i := 1) (by decide +kernel) rfl ?_
  refine g_iconst (n := 5) (by decide +kernel) ?_
  refine g_icmp_ge (off := 22) (tgt := 139) (by decide +kernel) (by decide) (fun q => absurd q (by decide)) (fun _ => ?_)
  refine g_aload_n (i := 0) (by decide +kernel) rfl ?_
  refine v_get (idx := 47) (r := .ref (74)) rfl (by decide +kernel) fo7_47 (by omega) rfl ?_
  refine g_iload_n (i := 1) (by decide +kernel) rfl ?_
  refine v_new (bc := 12) (bs := 164) 5 4 45 (by decide +kernel) (by decide +kernel) (by decide) rfl (tbG_of 284 (by decide +kernel) (by decide +kernel)) (tbG_of 286 (by decide +kernel) (by decide +kernel)) (tbG_of 58 (by decide +kernel) (by decide +kernel)) dft5 (by omega) ?_
  refine g_dup (by decide +kernel) rfl ?_
  refine g_callI (idx := 51) (bc' := 3) (bs' := 32) (bc2 := 9) (bs2 := 132) [] (by decide +kernel) kiX7_51 rfl rfl rfl (fun v h => absurd h List.not_mem_nil) (by decide) rfl (Nat.le_of_ble_eq_true rfl) (by omega) (i_X5 w (k := k - 1) (by omega) (83) (84) (by omega) (by omega) rfl (by decide +kernel) (by decide +kernel) (by decide +kernel) _) (fun r u' hq => ?_)
  obtain ⟨rfl, rfl⟩ := hq
  refine v_aast 6 2 17 5 5 4 (by decide +kernel) (by decide) (by decide) rfl (by omega) (by decide +kernel) (by decide) (by decide) rfl (by omega) (by decide +kernel) (by decide) ?_
  refine g_iinc (i := 1) (n := 1) (by decide +kernel) (by decide) rfl ?_
  refine g_goto (off := -21) (tgt := 115) (by decide +kernel) (by decide) ?_
  refine g_iload_n (i := 1) (by decide +kernel) rfl ?_
  refine g_iconst (n := 5) (by decide +kernel) ?_
  refine g_icmp_ge (off := 22) (tgt := 139) (by decide +kernel) (by decide) (fun q => absurd q (by decide)) (fun _ => ?_)
  refine g_aload_n (i := 0) (by decide +kernel) rfl ?_
  refine v_get (idx := 47) (r := .ref (74)) rfl (by decide +kernel) fo7_47 (by omega) rfl ?_
  refine g_iload_n (i := 1) (by decide +kernel) rfl ?_
  refine v_new (bc := 8) (bs := 128) 5 4 45 (by decide +kernel) (by decide +kernel) (by decide) rfl (tbG_of 284 (by decide +kernel) (by decide +kernel)) (tbG_of 286 (by decide +kernel) (by decide +kernel)) (tbG_of 58 (by decide +kernel) (by decide +kernel)) dft5 (by omega) ?_
  refine g_dup (by decide +kernel) rfl ?_
  refine g_callI (idx := 51) (bc' := 3) (bs' := 32) (bc2 := 5) (bs2 := 96) [] (by decide +kernel) kiX7_51 rfl rfl rfl (fun v h => absurd h List.not_mem_nil) (by decide) rfl (Nat.le_of_ble_eq_true rfl) (by omega) (i_X5 w (k := k - 1) (by omega) (87) (88) (by omega) (by omega) rfl (by decide +kernel) (by decide +kernel) (by decide +kernel) _) (fun r u' hq => ?_)
  obtain ⟨rfl, rfl⟩ := hq
  refine v_aast 6 3 17 5 5 4 (by decide +kernel) (by decide) (by decide) rfl (by omega) (by decide +kernel) (by decide) (by decide) rfl (by omega) (by decide +kernel) (by decide) ?_
  refine g_iinc (i := 1) (n := 1) (by decide +kernel) (by decide) rfl ?_
  refine g_goto (off := -21) (tgt := 115) (by decide +kernel) (by decide) ?_
  refine g_iload_n (i := 1) (by decide +kernel) rfl ?_
  refine g_iconst (n := 5) (by decide +kernel) ?_
  refine g_icmp_ge (off := 22) (tgt := 139) (by decide +kernel) (by decide) (fun q => absurd q (by decide)) (fun _ => ?_)
  refine g_aload_n (i := 0) (by decide +kernel) rfl ?_
  refine v_get (idx := 47) (r := .ref (74)) rfl (by decide +kernel) fo7_47 (by omega) rfl ?_
  refine g_iload_n (i := 1) (by decide +kernel) rfl ?_
  refine v_new (bc := 4) (bs := 92) 5 4 45 (by decide +kernel) (by decide +kernel) (by decide) rfl (tbG_of 284 (by decide +kernel) (by decide +kernel)) (tbG_of 286 (by decide +kernel) (by decide +kernel)) (tbG_of 58 (by decide +kernel) (by decide +kernel)) dft5 (by omega) ?_
  refine g_dup (by decide +kernel) rfl ?_
  refine g_callI (idx := 51) (bc' := 3) (bs' := 32) (bc2 := 1) (bs2 := 60) [] (by decide +kernel) kiX7_51 rfl rfl rfl (fun v h => absurd h List.not_mem_nil) (by decide) rfl (Nat.le_of_ble_eq_true rfl) (by omega) (i_X5 w (k := k - 1) (by omega) (91) (92) (by omega) (by omega) rfl (by decide +kernel) (by decide +kernel) (by decide +kernel) _) (fun r u' hq => ?_)
  obtain ⟨rfl, rfl⟩ := hq
  refine v_aast 6 4 17 5 5 4 (by decide +kernel) (by decide) (by decide) rfl (by omega) (by decide +kernel) (by decide) (by decide) rfl (by omega) (by decide +kernel) (by decide) ?_
  refine g_iinc (i := 1) (n := 1) (by decide +kernel) (by decide) rfl ?_
  refine g_goto (off := -21) (tgt := 115) (by decide +kernel) (by decide) ?_
  refine g_iload_n (i := 1) (by decide +kernel) rfl ?_
  refine g_iconst (n := 5) (by decide +kernel) ?_
  refine g_icmp_ge (off := 22) (tgt := 139) (by decide +kernel) (by decide) (fun _ => ?_) (fun q => absurd (by decide) q)
  have hD' : ∀ a, 1 ≤ a → a < 95 → ∀ k, k < (kd0 a).2 → (uE (uE (uE (uE (uV (uV (uE (uV (uV (uE (uE (uE (uE (uV (uV (uE (uV (uV (uE (uE (uE (uE (uV (uV (uE (uV (uV (uE (uE (uE (uE (uV (uV (uE (uV (uV (uE (uE (uE (uE (uV (uV (uE (uV (uV (uE (uV (W6) (74) (fun _ => .null)) (0) 6 (.ref (74))) (75) (df 5)) (76) (df 1)) (75) 2 (.ref (76))) (77) (df 4)) (78) (fun _ => .int 0)) (77) 0 (.ref (78))) (77) 1 (.int (Int32.ofInt (-1)))) (75) 3 (.ref (77))) (74) 0 (.ref (75))) (79) (df 5)) (80) (df 1)) (79) 2 (.ref (80))) (81) (df 4)) (82) (fun _ => .int 0)) (81) 0 (.ref (82))) (81) 1 (.int (Int32.ofInt (-1)))) (79) 3 (.ref (81))) (74) 1 (.ref (79))) (83) (df 5)) (84) (df 1)) (83) 2 (.ref (84))) (85) (df 4)) (86) (fun _ => .int 0)) (85) 0 (.ref (86))) (85) 1 (.int (Int32.ofInt (-1)))) (83) 3 (.ref (85))) (74) 2 (.ref (83))) (87) (df 5)) (88) (df 1)) (87) 2 (.ref (88))) (89) (df 4)) (90) (fun _ => .int 0)) (89) 0 (.ref (90))) (89) 1 (.int (Int32.ofInt (-1)))) (87) 3 (.ref (89))) (74) 3 (.ref (87))) (91) (df 5)) (92) (df 1)) (91) 2 (.ref (92))) (93) (df 4)) (94) (fun _ => .int 0)) (93) 0 (.ref (94))) (93) 1 (.int (Int32.ofInt (-1)))) (91) 3 (.ref (93))) (74) 4 (.ref (91))) a k = vl hI a k := fun a h1 h2 k hk => by
    rcases Nat.lt_or_ge a 74 with q | q
    · repeat (first | rw [uE_nk (by omega)] | rw [uV_n (by omega)])
      exact hD a h1 q k hk
    · exact dn_L W6 a q h2 k hk
  have z0' : (uE (uE (uE (uE (uV (uV (uE (uV (uV (uE (uE (uE (uE (uV (uV (uE (uV (uV (uE (uE (uE (uE (uV (uV (uE (uV (uV (uE (uE (uE (uE (uV (uV (uE (uV (uV (uE (uE (uE (uE (uV (uV (uE (uV (uV (uE (uV (W6) (74) (fun _ => .null)) (0) 6 (.ref (74))) (75) (df 5)) (76) (df 1)) (75) 2 (.ref (76))) (77) (df 4)) (78) (fun _ => .int 0)) (77) 0 (.ref (78))) (77) 1 (.int (Int32.ofInt (-1)))) (75) 3 (.ref (77))) (74) 0 (.ref (75))) (79) (df 5)) (80) (df 1)) (79) 2 (.ref (80))) (81) (df 4)) (82) (fun _ => .int 0)) (81) 0 (.ref (82))) (81) 1 (.int (Int32.ofInt (-1)))) (79) 3 (.ref (81))) (74) 1 (.ref (79))) (83) (df 5)) (84) (df 1)) (83) 2 (.ref (84))) (85) (df 4)) (86) (fun _ => .int 0)) (85) 0 (.ref (86))) (85) 1 (.int (Int32.ofInt (-1)))) (83) 3 (.ref (85))) (74) 2 (.ref (83))) (87) (df 5)) (88) (df 1)) (87) 2 (.ref (88))) (89) (df 4)) (90) (fun _ => .int 0)) (89) 0 (.ref (90))) (89) 1 (.int (Int32.ofInt (-1)))) (87) 3 (.ref (89))) (74) 3 (.ref (87))) (91) (df 5)) (92) (df 1)) (91) 2 (.ref (92))) (93) (df 4)) (94) (fun _ => .int 0)) (93) 0 (.ref (94))) (93) 1 (.int (Int32.ofInt (-1)))) (91) 3 (.ref (93))) (74) 4 (.ref (91))) 0 0 = .ref 1 := by
    repeat (first | rw [uE_nk (by omega)] | rw [uV_n (by omega)])
    exact z0
  have z1' : (uE (uE (uE (uE (uV (uV (uE (uV (uV (uE (uE (uE (uE (uV (uV (uE (uV (uV (uE (uE (uE (uE (uV (uV (uE (uV (uV (uE (uE (uE (uE (uV (uV (uE (uV (uV (uE (uE (uE (uE (uV (uV (uE (uV (uV (uE (uV (W6) (74) (fun _ => .null)) (0) 6 (.ref (74))) (75) (df 5)) (76) (df 1)) (75) 2 (.ref (76))) (77) (df 4)) (78) (fun _ => .int 0)) (77) 0 (.ref (78))) (77) 1 (.int (Int32.ofInt (-1)))) (75) 3 (.ref (77))) (74) 0 (.ref (75))) (79) (df 5)) (80) (df 1)) (79) 2 (.ref (80))) (81) (df 4)) (82) (fun _ => .int 0)) (81) 0 (.ref (82))) (81) 1 (.int (Int32.ofInt (-1)))) (79) 3 (.ref (81))) (74) 1 (.ref (79))) (83) (df 5)) (84) (df 1)) (83) 2 (.ref (84))) (85) (df 4)) (86) (fun _ => .int 0)) (85) 0 (.ref (86))) (85) 1 (.int (Int32.ofInt (-1)))) (83) 3 (.ref (85))) (74) 2 (.ref (83))) (87) (df 5)) (88) (df 1)) (87) 2 (.ref (88))) (89) (df 4)) (90) (fun _ => .int 0)) (89) 0 (.ref (90))) (89) 1 (.int (Int32.ofInt (-1)))) (87) 3 (.ref (89))) (74) 3 (.ref (87))) (91) (df 5)) (92) (df 1)) (91) 2 (.ref (92))) (93) (df 4)) (94) (fun _ => .int 0)) (93) 0 (.ref (94))) (93) 1 (.int (Int32.ofInt (-1)))) (91) 3 (.ref (93))) (74) 4 (.ref (91))) 0 1 = .ref 8 := by
    repeat (first | rw [uE_nk (by omega)] | rw [uV_n (by omega)])
    exact z1
  have z2' : (uE (uE (uE (uE (uV (uV (uE (uV (uV (uE (uE (uE (uE (uV (uV (uE (uV (uV (uE (uE (uE (uE (uV (uV (uE (uV (uV (uE (uE (uE (uE (uV (uV (uE (uV (uV (uE (uE (uE (uE (uV (uV (uE (uV (uV (uE (uV (W6) (74) (fun _ => .null)) (0) 6 (.ref (74))) (75) (df 5)) (76) (df 1)) (75) 2 (.ref (76))) (77) (df 4)) (78) (fun _ => .int 0)) (77) 0 (.ref (78))) (77) 1 (.int (Int32.ofInt (-1)))) (75) 3 (.ref (77))) (74) 0 (.ref (75))) (79) (df 5)) (80) (df 1)) (79) 2 (.ref (80))) (81) (df 4)) (82) (fun _ => .int 0)) (81) 0 (.ref (82))) (81) 1 (.int (Int32.ofInt (-1)))) (79) 3 (.ref (81))) (74) 1 (.ref (79))) (83) (df 5)) (84) (df 1)) (83) 2 (.ref (84))) (85) (df 4)) (86) (fun _ => .int 0)) (85) 0 (.ref (86))) (85) 1 (.int (Int32.ofInt (-1)))) (83) 3 (.ref (85))) (74) 2 (.ref (83))) (87) (df 5)) (88) (df 1)) (87) 2 (.ref (88))) (89) (df 4)) (90) (fun _ => .int 0)) (89) 0 (.ref (90))) (89) 1 (.int (Int32.ofInt (-1)))) (87) 3 (.ref (89))) (74) 3 (.ref (87))) (91) (df 5)) (92) (df 1)) (91) 2 (.ref (92))) (93) (df 4)) (94) (fun _ => .int 0)) (93) 0 (.ref (94))) (93) 1 (.int (Int32.ofInt (-1)))) (91) 3 (.ref (93))) (74) 4 (.ref (91))) 0 2 = .ref 11 := by
    repeat (first | rw [uE_nk (by omega)] | rw [uV_n (by omega)])
    exact z2
  have z3' : (uE (uE (uE (uE (uV (uV (uE (uV (uV (uE (uE (uE (uE (uV (uV (uE (uV (uV (uE (uE (uE (uE (uV (uV (uE (uV (uV (uE (uE (uE (uE (uV (uV (uE (uV (uV (uE (uE (uE (uE (uV (uV (uE (uV (uV (uE (uV (W6) (74) (fun _ => .null)) (0) 6 (.ref (74))) (75) (df 5)) (76) (df 1)) (75) 2 (.ref (76))) (77) (df 4)) (78) (fun _ => .int 0)) (77) 0 (.ref (78))) (77) 1 (.int (Int32.ofInt (-1)))) (75) 3 (.ref (77))) (74) 0 (.ref (75))) (79) (df 5)) (80) (df 1)) (79) 2 (.ref (80))) (81) (df 4)) (82) (fun _ => .int 0)) (81) 0 (.ref (82))) (81) 1 (.int (Int32.ofInt (-1)))) (79) 3 (.ref (81))) (74) 1 (.ref (79))) (83) (df 5)) (84) (df 1)) (83) 2 (.ref (84))) (85) (df 4)) (86) (fun _ => .int 0)) (85) 0 (.ref (86))) (85) 1 (.int (Int32.ofInt (-1)))) (83) 3 (.ref (85))) (74) 2 (.ref (83))) (87) (df 5)) (88) (df 1)) (87) 2 (.ref (88))) (89) (df 4)) (90) (fun _ => .int 0)) (89) 0 (.ref (90))) (89) 1 (.int (Int32.ofInt (-1)))) (87) 3 (.ref (89))) (74) 3 (.ref (87))) (91) (df 5)) (92) (df 1)) (91) 2 (.ref (92))) (93) (df 4)) (94) (fun _ => .int 0)) (93) 0 (.ref (94))) (93) 1 (.int (Int32.ofInt (-1)))) (91) 3 (.ref (93))) (74) 4 (.ref (91))) 0 3 = .ref 29 := by
    repeat (first | rw [uE_nk (by omega)] | rw [uV_n (by omega)])
    exact z3
  have z4' : (uE (uE (uE (uE (uV (uV (uE (uV (uV (uE (uE (uE (uE (uV (uV (uE (uV (uV (uE (uE (uE (uE (uV (uV (uE (uV (uV (uE (uE (uE (uE (uV (uV (uE (uV (uV (uE (uE (uE (uE (uV (uV (uE (uV (uV (uE (uV (W6) (74) (fun _ => .null)) (0) 6 (.ref (74))) (75) (df 5)) (76) (df 1)) (75) 2 (.ref (76))) (77) (df 4)) (78) (fun _ => .int 0)) (77) 0 (.ref (78))) (77) 1 (.int (Int32.ofInt (-1)))) (75) 3 (.ref (77))) (74) 0 (.ref (75))) (79) (df 5)) (80) (df 1)) (79) 2 (.ref (80))) (81) (df 4)) (82) (fun _ => .int 0)) (81) 0 (.ref (82))) (81) 1 (.int (Int32.ofInt (-1)))) (79) 3 (.ref (81))) (74) 1 (.ref (79))) (83) (df 5)) (84) (df 1)) (83) 2 (.ref (84))) (85) (df 4)) (86) (fun _ => .int 0)) (85) 0 (.ref (86))) (85) 1 (.int (Int32.ofInt (-1)))) (83) 3 (.ref (85))) (74) 2 (.ref (83))) (87) (df 5)) (88) (df 1)) (87) 2 (.ref (88))) (89) (df 4)) (90) (fun _ => .int 0)) (89) 0 (.ref (90))) (89) 1 (.int (Int32.ofInt (-1)))) (87) 3 (.ref (89))) (74) 3 (.ref (87))) (91) (df 5)) (92) (df 1)) (91) 2 (.ref (92))) (93) (df 4)) (94) (fun _ => .int 0)) (93) 0 (.ref (94))) (93) 1 (.int (Int32.ofInt (-1)))) (91) 3 (.ref (93))) (74) 4 (.ref (91))) 0 4 = .ref 47 := by
    repeat (first | rw [uE_nk (by omega)] | rw [uV_n (by omega)])
    exact z4
  have z5' : (uE (uE (uE (uE (uV (uV (uE (uV (uV (uE (uE (uE (uE (uV (uV (uE (uV (uV (uE (uE (uE (uE (uV (uV (uE (uV (uV (uE (uE (uE (uE (uV (uV (uE (uV (uV (uE (uE (uE (uE (uV (uV (uE (uV (uV (uE (uV (W6) (74) (fun _ => .null)) (0) 6 (.ref (74))) (75) (df 5)) (76) (df 1)) (75) 2 (.ref (76))) (77) (df 4)) (78) (fun _ => .int 0)) (77) 0 (.ref (78))) (77) 1 (.int (Int32.ofInt (-1)))) (75) 3 (.ref (77))) (74) 0 (.ref (75))) (79) (df 5)) (80) (df 1)) (79) 2 (.ref (80))) (81) (df 4)) (82) (fun _ => .int 0)) (81) 0 (.ref (82))) (81) 1 (.int (Int32.ofInt (-1)))) (79) 3 (.ref (81))) (74) 1 (.ref (79))) (83) (df 5)) (84) (df 1)) (83) 2 (.ref (84))) (85) (df 4)) (86) (fun _ => .int 0)) (85) 0 (.ref (86))) (85) 1 (.int (Int32.ofInt (-1)))) (83) 3 (.ref (85))) (74) 2 (.ref (83))) (87) (df 5)) (88) (df 1)) (87) 2 (.ref (88))) (89) (df 4)) (90) (fun _ => .int 0)) (89) 0 (.ref (90))) (89) 1 (.int (Int32.ofInt (-1)))) (87) 3 (.ref (89))) (74) 3 (.ref (87))) (91) (df 5)) (92) (df 1)) (91) 2 (.ref (92))) (93) (df 4)) (94) (fun _ => .int 0)) (93) 0 (.ref (94))) (93) 1 (.int (Int32.ofInt (-1)))) (91) 3 (.ref (93))) (74) 4 (.ref (91))) 0 5 = .ref 65 := by
    repeat (first | rw [uE_nk (by omega)] | rw [uV_n (by omega)])
    exact z5
  have z6' : (uE (uE (uE (uE (uV (uV (uE (uV (uV (uE (uE (uE (uE (uV (uV (uE (uV (uV (uE (uE (uE (uE (uV (uV (uE (uV (uV (uE (uE (uE (uE (uV (uV (uE (uV (uV (uE (uE (uE (uE (uV (uV (uE (uV (uV (uE (uV (W6) (74) (fun _ => .null)) (0) 6 (.ref (74))) (75) (df 5)) (76) (df 1)) (75) 2 (.ref (76))) (77) (df 4)) (78) (fun _ => .int 0)) (77) 0 (.ref (78))) (77) 1 (.int (Int32.ofInt (-1)))) (75) 3 (.ref (77))) (74) 0 (.ref (75))) (79) (df 5)) (80) (df 1)) (79) 2 (.ref (80))) (81) (df 4)) (82) (fun _ => .int 0)) (81) 0 (.ref (82))) (81) 1 (.int (Int32.ofInt (-1)))) (79) 3 (.ref (81))) (74) 1 (.ref (79))) (83) (df 5)) (84) (df 1)) (83) 2 (.ref (84))) (85) (df 4)) (86) (fun _ => .int 0)) (85) 0 (.ref (86))) (85) 1 (.int (Int32.ofInt (-1)))) (83) 3 (.ref (85))) (74) 2 (.ref (83))) (87) (df 5)) (88) (df 1)) (87) 2 (.ref (88))) (89) (df 4)) (90) (fun _ => .int 0)) (89) 0 (.ref (90))) (89) 1 (.int (Int32.ofInt (-1)))) (87) 3 (.ref (89))) (74) 3 (.ref (87))) (91) (df 5)) (92) (df 1)) (91) 2 (.ref (92))) (93) (df 4)) (94) (fun _ => .int 0)) (93) 0 (.ref (94))) (93) 1 (.int (Int32.ofInt (-1)))) (91) 3 (.ref (93))) (74) 4 (.ref (91))) 0 6 = .ref 74 := rfl
  have z7' : (uE (uE (uE (uE (uV (uV (uE (uV (uV (uE (uE (uE (uE (uV (uV (uE (uV (uV (uE (uE (uE (uE (uV (uV (uE (uV (uV (uE (uE (uE (uE (uV (uV (uE (uV (uV (uE (uE (uE (uE (uV (uV (uE (uV (uV (uE (uV (W6) (74) (fun _ => .null)) (0) 6 (.ref (74))) (75) (df 5)) (76) (df 1)) (75) 2 (.ref (76))) (77) (df 4)) (78) (fun _ => .int 0)) (77) 0 (.ref (78))) (77) 1 (.int (Int32.ofInt (-1)))) (75) 3 (.ref (77))) (74) 0 (.ref (75))) (79) (df 5)) (80) (df 1)) (79) 2 (.ref (80))) (81) (df 4)) (82) (fun _ => .int 0)) (81) 0 (.ref (82))) (81) 1 (.int (Int32.ofInt (-1)))) (79) 3 (.ref (81))) (74) 1 (.ref (79))) (83) (df 5)) (84) (df 1)) (83) 2 (.ref (84))) (85) (df 4)) (86) (fun _ => .int 0)) (85) 0 (.ref (86))) (85) 1 (.int (Int32.ofInt (-1)))) (83) 3 (.ref (85))) (74) 2 (.ref (83))) (87) (df 5)) (88) (df 1)) (87) 2 (.ref (88))) (89) (df 4)) (90) (fun _ => .int 0)) (89) 0 (.ref (90))) (89) 1 (.int (Int32.ofInt (-1)))) (87) 3 (.ref (89))) (74) 3 (.ref (87))) (91) (df 5)) (92) (df 1)) (91) 2 (.ref (92))) (93) (df 4)) (94) (fun _ => .int 0)) (93) 0 (.ref (94))) (93) 1 (.int (Int32.ofInt (-1)))) (91) 3 (.ref (93))) (74) 4 (.ref (91))) 0 7 = .null := by
    repeat (first | rw [uE_nk (by omega)] | rw [uV_n (by omega)])
    exact z7
  have z8' : (uE (uE (uE (uE (uV (uV (uE (uV (uV (uE (uE (uE (uE (uV (uV (uE (uV (uV (uE (uE (uE (uE (uV (uV (uE (uV (uV (uE (uE (uE (uE (uV (uV (uE (uV (uV (uE (uE (uE (uE (uV (uV (uE (uV (uV (uE (uV (W6) (74) (fun _ => .null)) (0) 6 (.ref (74))) (75) (df 5)) (76) (df 1)) (75) 2 (.ref (76))) (77) (df 4)) (78) (fun _ => .int 0)) (77) 0 (.ref (78))) (77) 1 (.int (Int32.ofInt (-1)))) (75) 3 (.ref (77))) (74) 0 (.ref (75))) (79) (df 5)) (80) (df 1)) (79) 2 (.ref (80))) (81) (df 4)) (82) (fun _ => .int 0)) (81) 0 (.ref (82))) (81) 1 (.int (Int32.ofInt (-1)))) (79) 3 (.ref (81))) (74) 1 (.ref (79))) (83) (df 5)) (84) (df 1)) (83) 2 (.ref (84))) (85) (df 4)) (86) (fun _ => .int 0)) (85) 0 (.ref (86))) (85) 1 (.int (Int32.ofInt (-1)))) (83) 3 (.ref (85))) (74) 2 (.ref (83))) (87) (df 5)) (88) (df 1)) (87) 2 (.ref (88))) (89) (df 4)) (90) (fun _ => .int 0)) (89) 0 (.ref (90))) (89) 1 (.int (Int32.ofInt (-1)))) (87) 3 (.ref (89))) (74) 3 (.ref (87))) (91) (df 5)) (92) (df 1)) (91) 2 (.ref (92))) (93) (df 4)) (94) (fun _ => .int 0)) (93) 0 (.ref (94))) (93) 1 (.int (Int32.ofInt (-1)))) (91) 3 (.ref (93))) (74) 4 (.ref (91))) 0 8 = .int 0 := by
    repeat (first | rw [uE_nk (by omega)] | rw [uV_n (by omega)])
    exact z8
  have z9' : (uE (uE (uE (uE (uV (uV (uE (uV (uV (uE (uE (uE (uE (uV (uV (uE (uV (uV (uE (uE (uE (uE (uV (uV (uE (uV (uV (uE (uE (uE (uE (uV (uV (uE (uV (uV (uE (uE (uE (uE (uV (uV (uE (uV (uV (uE (uV (W6) (74) (fun _ => .null)) (0) 6 (.ref (74))) (75) (df 5)) (76) (df 1)) (75) 2 (.ref (76))) (77) (df 4)) (78) (fun _ => .int 0)) (77) 0 (.ref (78))) (77) 1 (.int (Int32.ofInt (-1)))) (75) 3 (.ref (77))) (74) 0 (.ref (75))) (79) (df 5)) (80) (df 1)) (79) 2 (.ref (80))) (81) (df 4)) (82) (fun _ => .int 0)) (81) 0 (.ref (82))) (81) 1 (.int (Int32.ofInt (-1)))) (79) 3 (.ref (81))) (74) 1 (.ref (79))) (83) (df 5)) (84) (df 1)) (83) 2 (.ref (84))) (85) (df 4)) (86) (fun _ => .int 0)) (85) 0 (.ref (86))) (85) 1 (.int (Int32.ofInt (-1)))) (83) 3 (.ref (85))) (74) 2 (.ref (83))) (87) (df 5)) (88) (df 1)) (87) 2 (.ref (88))) (89) (df 4)) (90) (fun _ => .int 0)) (89) 0 (.ref (90))) (89) 1 (.int (Int32.ofInt (-1)))) (87) 3 (.ref (89))) (74) 3 (.ref (87))) (91) (df 5)) (92) (df 1)) (91) 2 (.ref (92))) (93) (df 4)) (94) (fun _ => .int 0)) (93) 0 (.ref (94))) (93) 1 (.int (Int32.ofInt (-1)))) (91) 3 (.ref (93))) (74) 4 (.ref (91))) 0 9 = .int 0 := by
    repeat (first | rw [uE_nk (by omega)] | rw [uV_n (by omega)])
    exact z9
  clear hD z0 z1 z2 z3 z4 z5 z6 z7 z8 z9
  generalize uE (uE (uE (uE (uV (uV (uE (uV (uV (uE (uE (uE (uE (uV (uV (uE (uV (uV (uE (uE (uE (uE (uV (uV (uE (uV (uV (uE (uE (uE (uE (uV (uV (uE (uV (uV (uE (uE (uE (uE (uV (uV (uE (uV (uV (uE (uV (W6) (74) (fun _ => .null)) (0) 6 (.ref (74))) (75) (df 5)) (76) (df 1)) (75) 2 (.ref (76))) (77) (df 4)) (78) (fun _ => .int 0)) (77) 0 (.ref (78))) (77) 1 (.int (Int32.ofInt (-1)))) (75) 3 (.ref (77))) (74) 0 (.ref (75))) (79) (df 5)) (80) (df 1)) (79) 2 (.ref (80))) (81) (df 4)) (82) (fun _ => .int 0)) (81) 0 (.ref (82))) (81) 1 (.int (Int32.ofInt (-1)))) (79) 3 (.ref (81))) (74) 1 (.ref (79))) (83) (df 5)) (84) (df 1)) (83) 2 (.ref (84))) (85) (df 4)) (86) (fun _ => .int 0)) (85) 0 (.ref (86))) (85) 1 (.int (Int32.ofInt (-1)))) (83) 3 (.ref (85))) (74) 2 (.ref (83))) (87) (df 5)) (88) (df 1)) (87) 2 (.ref (88))) (89) (df 4)) (90) (fun _ => .int 0)) (89) 0 (.ref (90))) (89) 1 (.int (Int32.ofInt (-1)))) (87) 3 (.ref (89))) (74) 3 (.ref (87))) (91) (df 5)) (92) (df 1)) (91) 2 (.ref (92))) (93) (df 4)) (94) (fun _ => .int 0)) (93) 0 (.ref (94))) (93) 1 (.int (Int32.ofInt (-1)))) (91) 3 (.ref (93))) (74) 4 (.ref (91)) = W7 at *
  have hD := hD'
  clear hD'
  have z0 := z0'
  have z1 := z1'
  have z2 := z2'
  have z3 := z3'
  have z4 := z4'
  have z5 := z5'
  have z6 := z6'
  have z7 := z7'
  have z8 := z8'
  have z9 := z9'
  clear z0' z1' z2' z3' z4' z5' z6' z7' z8' z9'
  refine g_aload_n (i := 0) (by decide +kernel) rfl ?_
  refine g_bipush (n := 60) (by decide +kernel) (by decide) ?_
  refine v_newa (atype := .int) (bc := 0) (bs := 0) 0 10 60 (by decide +kernel) (by decide +kernel) rfl (by decide) (tbG_of 103 (by decide +kernel) (by decide +kernel)) (by decide) (by decide) (by decide) rfl (by omega) ?_
  refine v_putF (idx := 52) (ty := .array .int) (by decide +kernel) ⟨fo7_52, fun C T N h => by cases h; exact ⟨(by decide +kernel), (by decide +kernel), rfl⟩⟩ rfl (by omega) rfl rfl rfl ?_
  refine g_aload_n (i := 0) (by decide +kernel) rfl ?_
  refine g_iconst (n := 0) (by decide +kernel) ?_
  refine v_put (idx := 56) (ty := .int) (by decide +kernel) ⟨fo7_56, fun C T N h => by cases h; exact ⟨(by decide +kernel), (by decide +kernel)⟩⟩ (by omega) rfl rfl rfl ?_
  refine g_aload_n (i := 0) (by decide +kernel) rfl ?_
  refine g_iconst (n := 0) (by decide +kernel) ?_
  refine v_put (idx := 60) (ty := .boolean) (by decide +kernel) ⟨fo7_60, fun C T N h => by cases h; exact ⟨(by decide +kernel), (by decide +kernel)⟩⟩ (by omega) rfl rfl rfl ?_
  refine g_vret rfl (by decide +kernel) ?_
  refine ⟨rfl, _, rfl, fun b hb => absurd hb (Nat.not_lt_zero _), fun a h1 h2 k hk => ?_⟩
  rcases (show a = 0 ∨ a = 95 ∨ (1 ≤ a ∧ a < 95) by omega) with q | q | q
  · subst q; rw [show (kd0 0).2 = 10 from (by decide +kernel)] at hk
    rcases (show k = 0 ∨ k = 1 ∨ k = 2 ∨ k = 3 ∨ k = 4 ∨ k = 5 ∨ k = 6 ∨ k = 7 ∨ k = 8 ∨ k = 9 by omega) with q | q | q | q | q | q | q | q | q | q <;> subst q
    · repeat (first | rw [uE_nk (by omega)] | rw [uV_n (by omega)])
      rw [z0]; rfl
    · repeat (first | rw [uE_nk (by omega)] | rw [uV_n (by omega)])
      rw [z1]; rfl
    · repeat (first | rw [uE_nk (by omega)] | rw [uV_n (by omega)])
      rw [z2]; rfl
    · repeat (first | rw [uE_nk (by omega)] | rw [uV_n (by omega)])
      rw [z3]; rfl
    · repeat (first | rw [uE_nk (by omega)] | rw [uV_n (by omega)])
      rw [z4]; rfl
    · repeat (first | rw [uE_nk (by omega)] | rw [uV_n (by omega)])
      rw [z5]; rfl
    · repeat (first | rw [uE_nk (by omega)] | rw [uV_n (by omega)])
      rw [z6]; rfl
    · rfl
    · rfl
    · rfl
  · subst q; rfl
  · repeat (first | rw [uE_nk (by omega)] | rw [uV_n (by omega)])
    exact hD a q.1 q.2 k hk
set_option maxRecDepth 20000 in
set_option maxHeartbeats 4000000 in
theorem dn_X8_97 (V : Nat → Nat → Value) (k : Nat) : (uE (uE (uE (uE (uE (uE (uE (uV (uE (uV (uE (uV (uE (uV (uE (uV (uE (uV (uE (uV (uE (uV (uE (uE (uE (uE (uE (uV (uE (uV (uE (uV (uE (uV (uE (uV (uE (uV (uE (uE (uE (uE (uE (uV (uE (uE (uE (uE (uE (uE (uE (uE (uE (uE (uE (uV (uE (uV (uE (uV (uE (uV (uE (uV (uE (uV (uV V 96 (df 8)) (97) (fun _ => .int 0)) (96) 0 (.ref (97))) (98) (fun _ => .int 0)) (96) 1 (.ref (98))) (99) (fun _ => .int 0)) (96) 2 (.ref (99))) (100) (fun _ => .int 0)) (96) 4 (.ref (100))) (101) (fun _ => .int 0)) (96) 5 (.ref (101))) (102) (fun _ => .int 0)) (102) 0 (.int (Int32.ofInt 100))) (102) 1 (.int (Int32.ofInt 105))) (102) 2 (.int (Int32.ofInt 103))) (102) 3 (.int (Int32.ofInt 102))) (102) 4 (.int (Int32.ofInt 101))) (102) 5 (.int (Int32.ofInt 101))) (102) 6 (.int (Int32.ofInt 102))) (102) 7 (.int (Int32.ofInt 105))) (102) 8 (.int (Int32.ofInt 110))) (102) 9 (.int (Int32.ofInt 101))) (96) 13 (.ref (102))) (103) (fun _ => .int 0)) (103) 0 (.int (Int32.ofInt 0))) (103) 1 (.int (Int32.ofInt 3))) (103) 2 (.int (Int32.ofInt 6))) (103) 3 (.int (Int32.ofInt 10))) (96) 14 (.ref (103))) (104) (fun _ => .int 0)) (96) 15 (.ref (104))) (105) (fun _ => .int 0)) (96) 18 (.ref (105))) (106) (fun _ => .int 0)) (96) 20 (.ref (106))) (107) (fun _ => .int 0)) (96) 21 (.ref (107))) (108) (fun _ => .int 0)) (96) 22 (.ref (108))) (109) (fun _ => .int 0)) (109) 0 (.int (Int32.ofInt (-1)))) (109) 1 (.int (Int32.ofInt (-1)))) (109) 2 (.int (Int32.ofInt (-1)))) (109) 3 (.int (Int32.ofInt (-1)))) (96) 23 (.ref (109))) (110) (fun _ => .int 0)) (96) 24 (.ref (110))) (111) (fun _ => .int 0)) (96) 25 (.ref (111))) (112) (fun _ => .int 0)) (96) 26 (.ref (112))) (113) (fun _ => .int 0)) (96) 27 (.ref (113))) (114) (fun _ => .int 0)) (96) 28 (.ref (114))) (115) (fun _ => .int 0)) (96) 29 (.ref (115))) (116) (fun _ => .int 0)) (96) 30 (.ref (116))) (117) (fun _ => .int 0)) (96) 31 (.ref (117))) (97) 0 (.int (Int32.ofInt 1))) (97) 3 (.int (Int32.ofInt 3))) (97) 9 (.int (Int32.ofInt 10))) (97) 12 (.int (Int32.ofInt 10))) (97) 15 (.int (Int32.ofInt 10))) (97) 18 (.int (Int32.ofInt 10))) 97 k = vl hI 97 k := by
  show (uE (uE (uE (uE (uE (uE (uE (uV (uE (uV (uE (uV (uE (uV (uE (uV (uE (uV (uE (uV (uE (uV (uE (uE (uE (uE (uE (uV (uE (uV (uE (uV (uE (uV (uE (uV (uE (uV (uE (uE (uE (uE (uE (uV (uE (uE (uE (uE (uE (uE (uE (uE (uE (uE (uE (uV (uE (uV (uE (uV (uE (uV (uE (uV (uE (uV (uV V 96 (df 8)) (97) (fun _ => .int 0)) (96) 0 (.ref (97))) (98) (fun _ => .int 0)) (96) 1 (.ref (98))) (99) (fun _ => .int 0)) (96) 2 (.ref (99))) (100) (fun _ => .int 0)) (96) 4 (.ref (100))) (101) (fun _ => .int 0)) (96) 5 (.ref (101))) (102) (fun _ => .int 0)) (102) 0 (.int (Int32.ofInt 100))) (102) 1 (.int (Int32.ofInt 105))) (102) 2 (.int (Int32.ofInt 103))) (102) 3 (.int (Int32.ofInt 102))) (102) 4 (.int (Int32.ofInt 101))) (102) 5 (.int (Int32.ofInt 101))) (102) 6 (.int (Int32.ofInt 102))) (102) 7 (.int (Int32.ofInt 105))) (102) 8 (.int (Int32.ofInt 110))) (102) 9 (.int (Int32.ofInt 101))) (96) 13 (.ref (102))) (103) (fun _ => .int 0)) (103) 0 (.int (Int32.ofInt 0))) (103) 1 (.int (Int32.ofInt 3))) (103) 2 (.int (Int32.ofInt 6))) (103) 3 (.int (Int32.ofInt 10))) (96) 14 (.ref (103))) (104) (fun _ => .int 0)) (96) 15 (.ref (104))) (105) (fun _ => .int 0)) (96) 18 (.ref (105))) (106) (fun _ => .int 0)) (96) 20 (.ref (106))) (107) (fun _ => .int 0)) (96) 21 (.ref (107))) (108) (fun _ => .int 0)) (96) 22 (.ref (108))) (109) (fun _ => .int 0)) (109) 0 (.int (Int32.ofInt (-1)))) (109) 1 (.int (Int32.ofInt (-1)))) (109) 2 (.int (Int32.ofInt (-1)))) (109) 3 (.int (Int32.ofInt (-1)))) (96) 23 (.ref (109))) (110) (fun _ => .int 0)) (96) 24 (.ref (110))) (111) (fun _ => .int 0)) (96) 25 (.ref (111))) (112) (fun _ => .int 0)) (96) 26 (.ref (112))) (113) (fun _ => .int 0)) (96) 27 (.ref (113))) (114) (fun _ => .int 0)) (96) 28 (.ref (114))) (115) (fun _ => .int 0)) (96) 29 (.ref (115))) (116) (fun _ => .int 0)) (96) 30 (.ref (116))) (117) (fun _ => .int 0)) (96) 31 (.ref (117))) (97) 0 (.int (Int32.ofInt 1))) (97) 3 (.int (Int32.ofInt 3))) (97) 9 (.int (Int32.ofInt 10))) (97) 12 (.int (Int32.ofInt 10))) (97) 15 (.int (Int32.ofInt 10))) (97) 18 (.int (Int32.ofInt 10))) 97 k = .int (h97 k)
  unfold h97
  by_cases q18 : k = 18
  · subst q18; rfl
  by_cases q15 : k = 15
  · subst q15; rfl
  by_cases q12 : k = 12
  · subst q12; rfl
  by_cases q9 : k = 9
  · subst q9; rfl
  by_cases q3 : k = 3
  · subst q3; rfl
  by_cases q0 : k = 0
  · subst q0; rfl
  rw [if_neg q18, if_neg q15, if_neg q12, if_neg q9, if_neg q3, if_neg q0]
  repeat rw [uE_nk (by omega)]
  rfl
set_option maxRecDepth 20000 in
set_option maxHeartbeats 4000000 in
theorem dn_X8 (V : Nat → Nat → Value)  : ∀ a, 96 ≤ a → a < 118 → ∀ k, k < (kd0 a).2 → (uE (uE (uE (uE (uE (uE (uE (uV (uE (uV (uE (uV (uE (uV (uE (uV (uE (uV (uE (uV (uE (uV (uE (uE (uE (uE (uE (uV (uE (uV (uE (uV (uE (uV (uE (uV (uE (uV (uE (uE (uE (uE (uE (uV (uE (uE (uE (uE (uE (uE (uE (uE (uE (uE (uE (uV (uE (uV (uE (uV (uE (uV (uE (uV (uE (uV (uV V 96 (df 8)) (97) (fun _ => .int 0)) (96) 0 (.ref (97))) (98) (fun _ => .int 0)) (96) 1 (.ref (98))) (99) (fun _ => .int 0)) (96) 2 (.ref (99))) (100) (fun _ => .int 0)) (96) 4 (.ref (100))) (101) (fun _ => .int 0)) (96) 5 (.ref (101))) (102) (fun _ => .int 0)) (102) 0 (.int (Int32.ofInt 100))) (102) 1 (.int (Int32.ofInt 105))) (102) 2 (.int (Int32.ofInt 103))) (102) 3 (.int (Int32.ofInt 102))) (102) 4 (.int (Int32.ofInt 101))) (102) 5 (.int (Int32.ofInt 101))) (102) 6 (.int (Int32.ofInt 102))) (102) 7 (.int (Int32.ofInt 105))) (102) 8 (.int (Int32.ofInt 110))) (102) 9 (.int (Int32.ofInt 101))) (96) 13 (.ref (102))) (103) (fun _ => .int 0)) (103) 0 (.int (Int32.ofInt 0))) (103) 1 (.int (Int32.ofInt 3))) (103) 2 (.int (Int32.ofInt 6))) (103) 3 (.int (Int32.ofInt 10))) (96) 14 (.ref (103))) (104) (fun _ => .int 0)) (96) 15 (.ref (104))) (105) (fun _ => .int 0)) (96) 18 (.ref (105))) (106) (fun _ => .int 0)) (96) 20 (.ref (106))) (107) (fun _ => .int 0)) (96) 21 (.ref (107))) (108) (fun _ => .int 0)) (96) 22 (.ref (108))) (109) (fun _ => .int 0)) (109) 0 (.int (Int32.ofInt (-1)))) (109) 1 (.int (Int32.ofInt (-1)))) (109) 2 (.int (Int32.ofInt (-1)))) (109) 3 (.int (Int32.ofInt (-1)))) (96) 23 (.ref (109))) (110) (fun _ => .int 0)) (96) 24 (.ref (110))) (111) (fun _ => .int 0)) (96) 25 (.ref (111))) (112) (fun _ => .int 0)) (96) 26 (.ref (112))) (113) (fun _ => .int 0)) (96) 27 (.ref (113))) (114) (fun _ => .int 0)) (96) 28 (.ref (114))) (115) (fun _ => .int 0)) (96) 29 (.ref (115))) (116) (fun _ => .int 0)) (96) 30 (.ref (116))) (117) (fun _ => .int 0)) (96) 31 (.ref (117))) (97) 0 (.int (Int32.ofInt 1))) (97) 3 (.int (Int32.ofInt 3))) (97) 9 (.int (Int32.ofInt 10))) (97) 12 (.int (Int32.ofInt 10))) (97) 15 (.int (Int32.ofInt 10))) (97) 18 (.int (Int32.ofInt 10))) a k = vl hI a k := by
  intro a h1 h2 k hk
  rcases (show a = 96 ∨ a = 97 ∨ a = 98 ∨ a = 99 ∨ a = 100 ∨ a = 101 ∨ a = 102 ∨ a = 103 ∨ a = 104 ∨ a = 105 ∨ a = 106 ∨ a = 107 ∨ a = 108 ∨ a = 109 ∨ a = 110 ∨ a = 111 ∨ a = 112 ∨ a = 113 ∨ a = 114 ∨ a = 115 ∨ a = 116 ∨ a = 117 by omega) with e | e | e | e | e | e | e | e | e | e | e | e | e | e | e | e | e | e | e | e | e | e
  · subst e; rw [show (kd0 96).2 = 33 from (by decide +kernel)] at hk
    rcases (show k = 0 ∨ k = 1 ∨ k = 2 ∨ k = 3 ∨ k = 4 ∨ k = 5 ∨ k = 6 ∨ k = 7 ∨ k = 8 ∨ k = 9 ∨ k = 10 ∨ k = 11 ∨ k = 12 ∨ k = 13 ∨ k = 14 ∨ k = 15 ∨ k = 16 ∨ k = 17 ∨ k = 18 ∨ k = 19 ∨ k = 20 ∨ k = 21 ∨ k = 22 ∨ k = 23 ∨ k = 24 ∨ k = 25 ∨ k = 26 ∨ k = 27 ∨ k = 28 ∨ k = 29 ∨ k = 30 ∨ k = 31 ∨ k = 32 by omega) with q | q | q | q | q | q | q | q | q | q | q | q | q | q | q | q | q | q | q | q | q | q | q | q | q | q | q | q | q | q | q | q | q <;> subst q <;> rfl
  · subst e; exact dn_X8_97 V k
  · subst e; rfl
  · subst e; rfl
  · subst e; rfl
  · subst e; rfl
  · subst e; rw [show (kd0 102).2 = 10 from (by decide +kernel)] at hk
    rcases (show k = 0 ∨ k = 1 ∨ k = 2 ∨ k = 3 ∨ k = 4 ∨ k = 5 ∨ k = 6 ∨ k = 7 ∨ k = 8 ∨ k = 9 by omega) with q | q | q | q | q | q | q | q | q | q <;> subst q <;> rfl
  · subst e; rw [show (kd0 103).2 = 4 from (by decide +kernel)] at hk
    rcases (show k = 0 ∨ k = 1 ∨ k = 2 ∨ k = 3 by omega) with q | q | q | q <;> subst q <;> rfl
  · subst e; rfl
  · subst e; rfl
  · subst e; rfl
  · subst e; rfl
  · subst e; rfl
  · subst e; rw [show (kd0 109).2 = 4 from (by decide +kernel)] at hk
    rcases (show k = 0 ∨ k = 1 ∨ k = 2 ∨ k = 3 by omega) with q | q | q | q <;> subst q <;> rfl
  · subst e; rfl
  · subst e; rfl
  · subst e; rfl
  · subst e; rfl
  · subst e; rfl
  · subst e; rfl
  · subst e; rfl
  · subst e; rfl
set_option maxRecDepth 20000 in
set_option maxHeartbeats 4000000 in
theorem i_X8 (w : Wt) {k : Nat} (hk : 2 ≤ k)  (V : Nat → Nat → Value) : Gp w k 21 5065 MX8_init (fun r u => r = none ∧ ∃ V', u = Mv 118 V' ∧ (∀ b, b < 96 → V' b = V b) ∧ ∀ a, 96 ≤ a → a < 118 → ∀ k, k < (kd0 a).2 → V' a k = vl hI a k) 0 [some (.ref 96), none] [] (Mv (97) (uV V 96 (df 8))) := by
  refine g_aload_n (i := 0) (by decide +kernel) rfl ?_
  refine g_objI (idx := 1) (by decide +kernel) (tbG_of 959 (by decide +kernel) (by decide +kernel)) (Nat.le_of_ble_eq_true rfl) (by omega) ?_
  refine g_aload_n (i := 0) (by decide +kernel) rfl ?_
  refine g_sipush (n := 1442) (by decide +kernel) (by decide) ?_
  refine v_newa (atype := .int) (bc := 20) (bs := 3623) 0 10 1442 (by decide +kernel) (by decide +kernel) rfl (by decide) (tbG_of 103 (by decide +kernel) (by decide +kernel)) (by decide) (by decide) (by decide) rfl (by omega) ?_
  refine v_putF (idx := 9) (ty := .array .int) (by decide +kernel) ⟨fo8_9, fun C T N h => by cases h; exact ⟨(by decide +kernel), (by decide +kernel), rfl⟩⟩ rfl (by omega) rfl rfl rfl ?_
  refine g_aload_n (i := 0) (by decide +kernel) rfl ?_
  refine g_sipush (n := 1442) (by decide +kernel) (by decide) ?_
  refine v_newa (atype := .int) (bc := 19) (bs := 2181) 0 10 1442 (by decide +kernel) (by decide +kernel) rfl (by decide) (tbG_of 103 (by decide +kernel) (by decide +kernel)) (by decide) (by decide) (by decide) rfl (by omega) ?_
  refine v_putF (idx := 13) (ty := .array .int) (by decide +kernel) ⟨fo8_13, fun C T N h => by cases h; exact ⟨(by decide +kernel), (by decide +kernel), rfl⟩⟩ rfl (by omega) rfl rfl rfl ?_
  refine g_aload_n (i := 0) (by decide +kernel) rfl ?_
  refine g_sipush (n := 1442) (by decide +kernel) (by decide) ?_
  refine v_newa (atype := .int) (bc := 18) (bs := 739) 0 10 1442 (by decide +kernel) (by decide +kernel) rfl (by decide) (tbG_of 103 (by decide +kernel) (by decide +kernel)) (by decide) (by decide) (by decide) rfl (by omega) ?_
  refine v_putF (idx := 16) (ty := .array .int) (by decide +kernel) ⟨fo8_16, fun C T N h => by cases h; exact ⟨(by decide +kernel), (by decide +kernel), rfl⟩⟩ rfl (by omega) rfl rfl rfl ?_
  refine g_aload_n (i := 0) (by decide +kernel) rfl ?_
  refine g_iconst (n := 4) (by decide +kernel) ?_
  refine v_newa (atype := .int) (bc := 17) (bs := 735) 0 10 4 (by decide +kernel) (by decide +kernel) rfl (by decide) (tbG_of 103 (by decide +kernel) (by decide +kernel)) (by decide) (by decide) (by decide) rfl (by omega) ?_
  refine v_putF (idx := 19) (ty := .array .int) (by decide +kernel) ⟨fo8_19, fun C T N h => by cases h; exact ⟨(by decide +kernel), (by decide +kernel), rfl⟩⟩ rfl (by omega) rfl rfl rfl ?_
  refine g_aload_n (i := 0) (by decide +kernel) rfl ?_
  refine g_bipush (n := 96) (by decide +kernel) (by decide) ?_
  refine v_newa (atype := .int) (bc := 16) (bs := 639) 0 10 96 (by decide +kernel) (by decide +kernel) rfl (by decide) (tbG_of 103 (by decide +kernel) (by decide +kernel)) (by decide) (by decide) (by decide) rfl (by omega) ?_
  refine v_putF (idx := 22) (ty := .array .int) (by decide +kernel) ⟨fo8_22, fun C T N h => by cases h; exact ⟨(by decide +kernel), (by decide +kernel), rfl⟩⟩ rfl (by omega) rfl rfl rfl ?_
  refine g_aload_n (i := 0) (by decide +kernel) rfl ?_
  refine g_bipush (n := 10) (by decide +kernel) (by decide) ?_
  refine v_newa (atype := .char) (bc := 15) (bs := 629) 1 11 10 (by decide +kernel) (by decide +kernel) rfl (by decide) (tbG_of 1060 (by decide +kernel) (by decide +kernel)) (by decide) (by decide) (by decide) rfl (by omega) ?_
  refine g_dup (by decide +kernel) rfl ?_
  refine g_iconst (n := 0) (by decide +kernel) ?_
  refine g_bipush (n := 100) (by decide +kernel) (by decide) ?_
  refine v_cast 0 10 (by decide +kernel) (by decide) (by decide) (by omega) (by decide +kernel) (by decide) (by decide) ?_
  refine g_dup (by decide +kernel) rfl ?_
  refine g_iconst (n := 1) (by decide +kernel) ?_
  refine g_bipush (n := 105) (by decide +kernel) (by decide) ?_
  refine v_cast 1 10 (by decide +kernel) (by decide) (by decide) (by omega) (by decide +kernel) (by decide) (by decide) ?_
  refine g_dup (by decide +kernel) rfl ?_
  refine g_iconst (n := 2) (by decide +kernel) ?_
  refine g_bipush (n := 103) (by decide +kernel) (by decide) ?_
  refine v_cast 2 10 (by decide +kernel) (by decide) (by decide) (by omega) (by decide +kernel) (by decide) (by decide) ?_
  refine g_dup (by decide +kernel) rfl ?_
  refine g_iconst (n := 3) (by decide +kernel) ?_
  refine g_bipush (n := 102) (by decide +kernel) (by decide) ?_
  refine v_cast 3 10 (by decide +kernel) (by decide) (by decide) (by omega) (by decide +kernel) (by decide) (by decide) ?_
  refine g_dup (by decide +kernel) rfl ?_
  refine g_iconst (n := 4) (by decide +kernel) ?_
  refine g_bipush (n := 101) (by decide +kernel) (by decide) ?_
  refine v_cast 4 10 (by decide +kernel) (by decide) (by decide) (by omega) (by decide +kernel) (by decide) (by decide) ?_
  refine g_dup (by decide +kernel) rfl ?_
  refine g_iconst (n := 5) (by decide +kernel) ?_
  refine g_bipush (n := 101) (by decide +kernel) (by decide) ?_
  refine v_cast 5 10 (by decide +kernel) (by decide) (by decide) (by omega) (by decide +kernel) (by decide) (by decide) ?_
  refine g_dup (by decide +kernel) rfl ?_
  refine g_bipush (n := 6) (by decide +kernel) (by decide) ?_
  refine g_bipush (n := 102) (by decide +kernel) (by decide) ?_
  refine v_cast 6 10 (by decide +kernel) (by decide) (by decide) (by omega) (by decide +kernel) (by decide) (by decide) ?_
  refine g_dup (by decide +kernel) rfl ?_
  refine g_bipush (n := 7) (by decide +kernel) (by decide) ?_
  refine g_bipush (n := 105) (by decide +kernel) (by decide) ?_
  refine v_cast 7 10 (by decide +kernel) (by decide) (by decide) (by omega) (by decide +kernel) (by decide) (by decide) ?_
  refine g_dup (by decide +kernel) rfl ?_
  refine g_bipush (n := 8) (by decide +kernel) (by decide) ?_
  refine g_bipush (n := 110) (by decide +kernel) (by decide) ?_
  refine v_cast 8 10 (by decide +kernel) (by decide) (by decide) (by omega) (by decide +kernel) (by decide) (by decide) ?_
  refine g_dup (by decide +kernel) rfl ?_
  refine g_bipush (n := 9) (by decide +kernel) (by decide) ?_
  refine g_bipush (n := 101) (by decide +kernel) (by decide) ?_
  refine v_cast 9 10 (by decide +kernel) (by decide) (by decide) (by omega) (by decide +kernel) (by decide) (by decide) ?_
  refine v_putF (idx := 25) (ty := .array .char) (by decide +kernel) ⟨fo8_25, fun C T N h => by cases h; exact ⟨(by decide +kernel), (by decide +kernel), rfl⟩⟩ rfl (by omega) rfl rfl rfl ?_
  refine g_aload_n (i := 0) (by decide +kernel) rfl ?_
  refine g_iconst (n := 4) (by decide +kernel) ?_
  refine v_newa (atype := .int) (bc := 14) (bs := 625) 0 10 4 (by decide +kernel) (by decide +kernel) rfl (by decide) (tbG_of 103 (by decide +kernel) (by decide +kernel)) (by decide) (by decide) (by decide) rfl (by omega) ?_
  refine g_dup (by decide +kernel) rfl ?_
  refine g_iconst (n := 0) (by decide +kernel) ?_
  refine g_iconst (n := 0) (by decide +kernel) ?_
  refine v_iast 0 4 (by decide +kernel) (by decide) (by decide) (by omega) (by decide +kernel) (by decide) ?_
  refine g_dup (by decide +kernel) rfl ?_
  refine g_iconst (n := 1) (by decide +kernel) ?_
  refine g_iconst (n := 3) (by decide +kernel) ?_
  refine v_iast 1 4 (by decide +kernel) (by decide) (by decide) (by omega) (by decide +kernel) (by decide) ?_
  refine g_dup (by decide +kernel) rfl ?_
  refine g_iconst (n := 2) (by decide +kernel) ?_
  refine g_bipush (n := 6) (by decide +kernel) (by decide) ?_
  refine v_iast 2 4 (by decide +kernel) (by decide) (by decide) (by omega) (by decide +kernel) (by decide) ?_
  refine g_dup (by decide +kernel) rfl ?_
  refine g_iconst (n := 3) (by decide +kernel) ?_
  refine g_bipush (n := 10) (by decide +kernel) (by decide) ?_
  refine v_iast 3 4 (by decide +kernel) (by decide) (by decide) (by omega) (by decide +kernel) (by decide) ?_
  refine v_putF (idx := 29) (ty := .array .int) (by decide +kernel) ⟨fo8_29, fun C T N h => by cases h; exact ⟨(by decide +kernel), (by decide +kernel), rfl⟩⟩ rfl (by omega) rfl rfl rfl ?_
  refine g_aload_n (i := 0) (by decide +kernel) rfl ?_
  refine g_bipush (n := 96) (by decide +kernel) (by decide) ?_
  refine v_newa (atype := .int) (bc := 13) (bs := 529) 0 10 96 (by decide +kernel) (by decide +kernel) rfl (by decide) (tbG_of 103 (by decide +kernel) (by decide +kernel)) (by decide) (by decide) (by decide) rfl (by omega) ?_
  refine v_putF (idx := 32) (ty := .array .int) (by decide +kernel) ⟨fo8_32, fun C T N h => by cases h; exact ⟨(by decide +kernel), (by decide +kernel), rfl⟩⟩ rfl (by omega) rfl rfl rfl ?_
  refine g_aload_n (i := 0) (by decide +kernel) rfl ?_
  refine g_bipush (n := 96) (by decide +kernel) (by decide) ?_
  refine v_newa (atype := .int) (bc := 12) (bs := 433) 0 10 96 (by decide +kernel) (by decide +kernel) rfl (by decide) (tbG_of 103 (by decide +kernel) (by decide +kernel)) (by decide) (by decide) (by decide) rfl (by omega) ?_
  refine v_putF (idx := 35) (ty := .array .int) (by decide +kernel) ⟨fo8_35, fun C T N h => by cases h; exact ⟨(by decide +kernel), (by decide +kernel), rfl⟩⟩ rfl (by omega) rfl rfl rfl ?_
  refine g_aload_n (i := 0) (by decide +kernel) rfl ?_
  refine g_bipush (n := 10) (by decide +kernel) (by decide) ?_
  refine v_newa (atype := .boolean) (bc := 11) (bs := 423) 2 12 10 (by decide +kernel) (by decide +kernel) rfl (by decide) (tbG_of 1061 (by decide +kernel) (by decide +kernel)) (by decide) (by decide) (by decide) rfl (by omega) ?_
  refine v_putF (idx := 38) (ty := .array .boolean) (by decide +kernel) ⟨fo8_38, fun C T N h => by cases h; exact ⟨(by decide +kernel), (by decide +kernel), rfl⟩⟩ rfl (by omega) rfl rfl rfl ?_
  refine g_aload_n (i := 0) (by decide +kernel) rfl ?_
  refine g_bipush (n := 96) (by decide +kernel) (by decide) ?_
  refine v_newa (atype := .int) (bc := 10) (bs := 327) 0 10 96 (by decide +kernel) (by decide +kernel) rfl (by decide) (tbG_of 103 (by decide +kernel) (by decide +kernel)) (by decide) (by decide) (by decide) rfl (by omega) ?_
  refine v_putF (idx := 42) (ty := .array .int) (by decide +kernel) ⟨fo8_42, fun C T N h => by cases h; exact ⟨(by decide +kernel), (by decide +kernel), rfl⟩⟩ rfl (by omega) rfl rfl rfl ?_
  refine g_aload_n (i := 0) (by decide +kernel) rfl ?_
  refine g_iconst (n := 4) (by decide +kernel) ?_
  refine v_newa (atype := .int) (bc := 9) (bs := 323) 0 10 4 (by decide +kernel) (by decide +kernel) rfl (by decide) (tbG_of 103 (by decide +kernel) (by decide +kernel)) (by decide) (by decide) (by decide) rfl (by omega) ?_
  refine v_putF (idx := 45) (ty := .array .int) (by decide +kernel) ⟨fo8_45, fun C T N h => by cases h; exact ⟨(by decide +kernel), (by decide +kernel), rfl⟩⟩ rfl (by omega) rfl rfl rfl ?_
  refine g_aload_n (i := 0) (by decide +kernel) rfl ?_
  refine g_iconst (n := 4) (by decide +kernel) ?_
  refine v_newa (atype := .int) (bc := 8) (bs := 319) 0 10 4 (by decide +kernel) (by decide +kernel) rfl (by decide) (tbG_of 103 (by decide +kernel) (by decide +kernel)) (by decide) (by decide) (by decide) rfl (by omega) ?_
  refine g_dup (by decide +kernel) rfl ?_
  refine g_iconst (n := 0) (by decide +kernel) ?_
  refine g_iconst (n := -1) (by decide +kernel) ?_
  refine v_iast 0 4 (by decide +kernel) (by decide) (by decide) (by omega) (by decide +kernel) (by decide) ?_
  refine g_dup (by decide +kernel) rfl ?_
  refine g_iconst (n := 1) (by decide +kernel) ?_
  refine g_iconst (n := -1) (by decide +kernel) ?_
  refine v_iast 1 4 (by decide +kernel) (by decide) (by decide) (by omega) (by decide +kernel) (by decide) ?_
  refine g_dup (by decide +kernel) rfl ?_
  refine g_iconst (n := 2) (by decide +kernel) ?_
  refine g_iconst (n := -1) (by decide +kernel) ?_
  refine v_iast 2 4 (by decide +kernel) (by decide) (by decide) (by omega) (by decide +kernel) (by decide) ?_
  refine g_dup (by decide +kernel) rfl ?_
  refine g_iconst (n := 3) (by decide +kernel) ?_
  refine g_iconst (n := -1) (by decide +kernel) ?_
  refine v_iast 3 4 (by decide +kernel) (by decide) (by decide) (by omega) (by decide +kernel) (by decide) ?_
  refine v_putF (idx := 48) (ty := .array .int) (by decide +kernel) ⟨fo8_48, fun C T N h => by cases h; exact ⟨(by decide +kernel), (by decide +kernel), rfl⟩⟩ rfl (by omega) rfl rfl rfl ?_
  refine g_aload_n (i := 0) (by decide +kernel) rfl ?_
  refine g_iconst (n := 4) (by decide +kernel) ?_
  refine v_newa (atype := .int) (bc := 7) (bs := 315) 0 10 4 (by decide +kernel) (by decide +kernel) rfl (by decide) (tbG_of 103 (by decide +kernel) (by decide +kernel)) (by decide) (by decide) (by decide) rfl (by omega) ?_
  refine v_putF (idx := 51) (ty := .array .int) (by decide +kernel) ⟨fo8_51, fun C T N h => by cases h; exact ⟨(by decide +kernel), (by decide +kernel), rfl⟩⟩ rfl (by omega) rfl rfl rfl ?_
  refine g_aload_n (i := 0) (by decide +kernel) rfl ?_
  refine g_bipush (n := 96) (by decide +kernel) (by decide) ?_
  refine v_newa (atype := .int) (bc := 6) (bs := 219) 0 10 96 (by decide +kernel) (by decide +kernel) rfl (by decide) (tbG_of 103 (by decide +kernel) (by decide +kernel)) (by decide) (by decide) (by decide) rfl (by omega) ?_
  refine v_putF (idx := 54) (ty := .array .int) (by decide +kernel) ⟨fo8_54, fun C T N h => by cases h; exact ⟨(by decide +kernel), (by decide +kernel), rfl⟩⟩ rfl (by omega) rfl rfl rfl ?_
  refine g_aload_n (i := 0) (by decide +kernel) rfl ?_
  refine g_iconst (n := 5) (by decide +kernel) ?_
  refine v_newa (atype := .int) (bc := 5) (bs := 214) 0 10 5 (by decide +kernel) (by decide +kernel) rfl (by decide) (tbG_of 103 (by decide +kernel) (by decide +kernel)) (by decide) (by decide) (by decide) rfl (by omega) ?_
  refine v_putF (idx := 57) (ty := .array .int) (by decide +kernel) ⟨fo8_57, fun C T N h => by cases h; exact ⟨(by decide +kernel), (by decide +kernel), rfl⟩⟩ rfl (by omega) rfl rfl rfl ?_
  refine g_aload_n (i := 0) (by decide +kernel) rfl ?_
  refine g_iconst (n := 5) (by decide +kernel) ?_
  refine v_newa (atype := .int) (bc := 4) (bs := 209) 0 10 5 (by decide +kernel) (by decide +kernel) rfl (by decide) (tbG_of 103 (by decide +kernel) (by decide +kernel)) (by decide) (by decide) (by decide) rfl (by omega) ?_
  refine v_putF (idx := 60) (ty := .array .int) (by decide +kernel) ⟨fo8_60, fun C T N h => by cases h; exact ⟨(by decide +kernel), (by decide +kernel), rfl⟩⟩ rfl (by omega) rfl rfl rfl ?_
  refine g_aload_n (i := 0) (by decide +kernel) rfl ?_
  refine g_iconst (n := 5) (by decide +kernel) ?_
  refine v_newa (atype := .int) (bc := 3) (bs := 204) 0 10 5 (by decide +kernel) (by decide +kernel) rfl (by decide) (tbG_of 103 (by decide +kernel) (by decide +kernel)) (by decide) (by decide) (by decide) rfl (by omega) ?_
  refine v_putF (idx := 63) (ty := .array .int) (by decide +kernel) ⟨fo8_63, fun C T N h => by cases h; exact ⟨(by decide +kernel), (by decide +kernel), rfl⟩⟩ rfl (by omega) rfl rfl rfl ?_
  refine g_aload_n (i := 0) (by decide +kernel) rfl ?_
  refine g_bipush (n := 120) (by decide +kernel) (by decide) ?_
  refine v_newa (atype := .int) (bc := 2) (bs := 84) 0 10 120 (by decide +kernel) (by decide +kernel) rfl (by decide) (tbG_of 103 (by decide +kernel) (by decide +kernel)) (by decide) (by decide) (by decide) rfl (by omega) ?_
  refine v_putF (idx := 66) (ty := .array .int) (by decide +kernel) ⟨fo8_66, fun C T N h => by cases h; exact ⟨(by decide +kernel), (by decide +kernel), rfl⟩⟩ rfl (by omega) rfl rfl rfl ?_
  refine g_aload_n (i := 0) (by decide +kernel) rfl ?_
  refine g_bipush (n := 24) (by decide +kernel) (by decide) ?_
  refine v_newa (atype := .int) (bc := 1) (bs := 60) 0 10 24 (by decide +kernel) (by decide +kernel) rfl (by decide) (tbG_of 103 (by decide +kernel) (by decide +kernel)) (by decide) (by decide) (by decide) rfl (by omega) ?_
  refine v_putF (idx := 69) (ty := .array .int) (by decide +kernel) ⟨fo8_69, fun C T N h => by cases h; exact ⟨(by decide +kernel), (by decide +kernel), rfl⟩⟩ rfl (by omega) rfl rfl rfl ?_
  refine g_aload_n (i := 0) (by decide +kernel) rfl ?_
  refine g_bipush (n := 60) (by decide +kernel) (by decide) ?_
  refine v_newa (atype := .int) (bc := 0) (bs := 0) 0 10 60 (by decide +kernel) (by decide +kernel) rfl (by decide) (tbG_of 103 (by decide +kernel) (by decide +kernel)) (by decide) (by decide) (by decide) rfl (by omega) ?_
  refine v_putF (idx := 72) (ty := .array .int) (by decide +kernel) ⟨fo8_72, fun C T N h => by cases h; exact ⟨(by decide +kernel), (by decide +kernel), rfl⟩⟩ rfl (by omega) rfl rfl rfl ?_
  refine g_aload_n (i := 0) (by decide +kernel) rfl ?_
  refine v_get (idx := 9) (r := .ref (97)) rfl (by decide +kernel) fo8_9 (by omega) rfl ?_
  refine g_iconst (n := 0) (by decide +kernel) ?_
  refine g_iconst (n := 1) (by decide +kernel) ?_
  refine v_iast 0 1442 (by decide +kernel) (by decide) (by decide) (by omega) (by decide +kernel) (by decide) ?_
  refine g_aload_n (i := 0) (by decide +kernel) rfl ?_
  refine v_get (idx := 9) (r := .ref (97)) rfl (by decide +kernel) fo8_9 (by omega) rfl ?_
  refine g_iconst (n := 3) (by decide +kernel) ?_
  refine g_iconst (n := 3) (by decide +kernel) ?_
  refine v_iast 3 1442 (by decide +kernel) (by decide) (by decide) (by omega) (by decide +kernel) (by decide) ?_
  refine g_iconst (n := 0) (by decide +kernel) ?_
  refine g_istore_n (i := 1) (by decide +kernel) (by decide) ?_
  refine g_iload_n (i := 1) (by decide +kernel) rfl ?_
  refine g_iconst (n := 4) (by decide +kernel) ?_
  refine g_icmp_ge (off := 24) (tgt := 297) (by decide +kernel) (by decide) (fun q => absurd q (by decide)) (fun _ => ?_)
  refine g_aload_n (i := 0) (by decide +kernel) rfl ?_
  refine v_get (idx := 9) (r := .ref (97)) rfl (by decide +kernel) fo8_9 (by omega) rfl ?_
  refine g_bipush (n := 8) (by decide +kernel) (by decide) ?_
  refine g_iconst (n := 3) (by decide +kernel) ?_
  refine g_iload_n (i := 1) (by decide +kernel) rfl ?_
  refine g_imul (by decide +kernel) ?_
  refine g_iadd (by decide +kernel) ?_
  refine g_iconst (n := 1) (by decide +kernel) ?_
  refine g_iadd (by decide +kernel) ?_
  refine g_bipush (n := 10) (by decide +kernel) (by decide) ?_
  refine v_iast 9 1442 (by decide +kernel) (by decide) (by decide) (by omega) (by decide +kernel) (by decide) ?_
  refine g_iinc (i := 1) (n := 1) (by decide +kernel) (by decide) rfl ?_
  refine g_goto (off := -23) (tgt := 271) (by decide +kernel) (by decide) ?_
  refine g_iload_n (i := 1) (by decide +kernel) rfl ?_
  refine g_iconst (n := 4) (by decide +kernel) ?_
  refine g_icmp_ge (off := 24) (tgt := 297) (by decide +kernel) (by decide) (fun q => absurd q (by decide)) (fun _ => ?_)
  refine g_aload_n (i := 0) (by decide +kernel) rfl ?_
  refine v_get (idx := 9) (r := .ref (97)) rfl (by decide +kernel) fo8_9 (by omega) rfl ?_
  refine g_bipush (n := 8) (by decide +kernel) (by decide) ?_
  refine g_iconst (n := 3) (by decide +kernel) ?_
  refine g_iload_n (i := 1) (by decide +kernel) rfl ?_
  refine g_imul (by decide +kernel) ?_
  refine g_iadd (by decide +kernel) ?_
  refine g_iconst (n := 1) (by decide +kernel) ?_
  refine g_iadd (by decide +kernel) ?_
  refine g_bipush (n := 10) (by decide +kernel) (by decide) ?_
  refine v_iast 12 1442 (by decide +kernel) (by decide) (by decide) (by omega) (by decide +kernel) (by decide) ?_
  refine g_iinc (i := 1) (n := 1) (by decide +kernel) (by decide) rfl ?_
  refine g_goto (off := -23) (tgt := 271) (by decide +kernel) (by decide) ?_
  refine g_iload_n (i := 1) (by decide +kernel) rfl ?_
  refine g_iconst (n := 4) (by decide +kernel) ?_
  refine g_icmp_ge (off := 24) (tgt := 297) (by decide +kernel) (by decide) (fun q => absurd q (by decide)) (fun _ => ?_)
  refine g_aload_n (i := 0) (by decide +kernel) rfl ?_
  refine v_get (idx := 9) (r := .ref (97)) rfl (by decide +kernel) fo8_9 (by omega) rfl ?_
  refine g_bipush (n := 8) (by decide +kernel) (by decide) ?_
  refine g_iconst (n := 3) (by decide +kernel) ?_
  refine g_iload_n (i := 1) (by decide +kernel) rfl ?_
  refine g_imul (by decide +kernel) ?_
  refine g_iadd (by decide +kernel) ?_
  refine g_iconst (n := 1) (by decide +kernel) ?_
  refine g_iadd (by decide +kernel) ?_
  refine g_bipush (n := 10) (by decide +kernel) (by decide) ?_
  refine v_iast 15 1442 (by decide +kernel) (by decide) (by decide) (by omega) (by decide +kernel) (by decide) ?_
  refine g_iinc (i := 1) (n := 1) (by decide +kernel) (by decide) rfl ?_
  refine g_goto (off := -23) (tgt := 271) (by decide +kernel) (by decide) ?_
  refine g_iload_n (i := 1) (by decide +kernel) rfl ?_
  refine g_iconst (n := 4) (by decide +kernel) ?_
  refine g_icmp_ge (off := 24) (tgt := 297) (by decide +kernel) (by decide) (fun q => absurd q (by decide)) (fun _ => ?_)
  refine g_aload_n (i := 0) (by decide +kernel) rfl ?_
  refine v_get (idx := 9) (r := .ref (97)) rfl (by decide +kernel) fo8_9 (by omega) rfl ?_
  refine g_bipush (n := 8) (by decide +kernel) (by decide) ?_
  refine g_iconst (n := 3) (by decide +kernel) ?_
  refine g_iload_n (i := 1) (by decide +kernel) rfl ?_
  refine g_imul (by decide +kernel) ?_
  refine g_iadd (by decide +kernel) ?_
  refine g_iconst (n := 1) (by decide +kernel) ?_
  refine g_iadd (by decide +kernel) ?_
  refine g_bipush (n := 10) (by decide +kernel) (by decide) ?_
  refine v_iast 18 1442 (by decide +kernel) (by decide) (by decide) (by omega) (by decide +kernel) (by decide) ?_
  refine g_iinc (i := 1) (n := 1) (by decide +kernel) (by decide) rfl ?_
  refine g_goto (off := -23) (tgt := 271) (by decide +kernel) (by decide) ?_
  refine g_iload_n (i := 1) (by decide +kernel) rfl ?_
  refine g_iconst (n := 4) (by decide +kernel) ?_
  refine g_icmp_ge (off := 24) (tgt := 297) (by decide +kernel) (by decide) (fun _ => ?_) (fun q => absurd (by decide) q)
  refine g_vret rfl (by decide +kernel) ?_
  exact ⟨rfl, _, rfl, fun b hb => by repeat (first | rw [uE_ne (by omega)] | rw [uV_n (by omega)]), dn_X8 V⟩
