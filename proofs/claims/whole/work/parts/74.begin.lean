/-! the law begins -/
theorem Gp.junk {w : Wt} {k bc bs : Nat} {M : Mt} {Q : Option Value → Mu → Prop} {pc : Nat} {L : List (Option Value)} {st : List Value} {V : Nat → Nat → Value} {h : Mm} (e : ∀ a, a < 118 → ∀ k, k < (kd0 a).2 → V a k = vl h a k) (hh : Gp w k bc bs M Q pc L st (mu h)) : Gp w k bc bs M Q pc L st (Mv 118 V) := by
  intro p e' R s m args below meth c cells slots Z X hc hs hZ H locs ls hH hS hL
  refine hh p e' R s m args below meth c cells slots Z X hc hs hZ H locs ls ⟨hH.1, hH.2.1, fun id hid => ?_⟩ hS hL
  have hid' : id < 118 := hid
  have hcc := hH.2.2 id hid
  refine ⟨fun ht => ⟨(hcc.1 ht).1, (hcc.1 ht).2.to (fun k hk => ?_)⟩, fun ht => ?_⟩
  · show cv w (V id k) = cv w (vl h id k)
    rw [e id hid' k hk]
  · rw [hcc.2 ht]
    congr 1
    refine arrV_eq (fun k hk => ?_)
    show cv w (V id k) = cv w (vl h id k)
    rw [e id hid' k hk]
theorem hI97 : hI 97 = h97 := rfl
theorem nd97 : nd h97 = 0 := by decide +kernel
theorem nt97 : nN (h97 7) = 0 := by decide +kernel
theorem i0_PR : PR 11 hI h97 := by
  refine ⟨⟨rfl, rfl, rfl, rfl, rfl, rfl, rfl, rfl⟩, ?_, fun d hd => by rw [nd97] at hd; omega, ?_⟩
  · have : ∀ b, b < 4 → ∀ j, j < 3 → hI (11 + 2 + b) j = h97 (8 + 3 * b + j) := by decide +kernel
    exact this
  · intro key hk
    unfold lawT
    rw [nt97]
    rcases (show key = 0 ∨ key = 1 ∨ key = 2 by omega) with rfl | rfl | rfl <;> rfl
theorem z97 {j : Nat} (h : 19 ≤ j) : h97 j = nI 0 := by unfold h97; rw [if_neg (by omega), if_neg (by omega), if_neg (by omega), if_neg (by omega), if_neg (by omega), if_neg (by omega)]; rfl
theorem In0 (n : Nat) : In (nI 0) n := ⟨rfl, Nat.zero_le _⟩
theorem i0_Iv : Iv h97 := by
  refine ⟨⟨by decide, by decide⟩, ⟨by decide, by decide⟩, ⟨by decide, by decide⟩, ⟨by decide, by decide⟩, ?_, ?_, fun t ht => by rw [nt97] at ht; omega⟩
  · intro b hb
    rcases (show b = 0 ∨ b = 1 ∨ b = 2 ∨ b = 3 by omega) with rfl | rfl | rfl | rfl <;> exact ⟨⟨by decide, by decide⟩, ⟨by decide, by decide⟩, by decide, by decide⟩
  · intro d hd
    unfold dK
    rw [z97 (by omega), z97 (by omega), z97 (by omega), z97 (by omega), z97 (by omega)]
    exact ⟨In0 _, In0 _, In0 _, In0 _, In0 _⟩
theorem i0_Rel : Rel hI := by
  refine ⟨⟨i0_PR, i0_Iv, fun t ht => ?_, fun t ht => ?_, ⟨by decide, by decide⟩⟩, ⟨rfl, Or.inl rfl, fun q => absurd rfl q⟩, ⟨rfl, In0 _, fun k hk => ⟨rfl, In0 _⟩, ?_⟩, ?_, ?_, ⟨rfl, In0 _, fun k hk => rfl⟩⟩
  · rw [hI97, z97 (by omega)]; exact In0 _
  · rw [hI97, nt97] at ht; omega
  · refine ⟨?_, rfl, rfl, rfl, rfl⟩
    intro i hi
    rfl
  · intro s hs
    rcases (show s = 0 ∨ s = 1 ∨ s = 2 ∨ s = 3 by omega) with rfl | rfl | rfl | rfl <;> exact ⟨rfl, rfl, fun k hk => rfl, Or.inl rfl, In0 _⟩
  · intro s hs
    rcases (show s = 0 ∨ s = 1 ∨ s = 2 ∨ s = 3 ∨ s = 4 by omega) with rfl | rfl | rfl | rfl | rfl <;> exact ⟨rfl, In0 _, fun q => absurd q (by decide), fun q => absurd q (by decide), fun q => absurd q (by decide)⟩
set_option maxRecDepth 20000 in
set_option maxHeartbeats 4000000 in
theorem law_start (w : Wt) {k : Nat} (hk : 900 ≤ k) (hL : w_L w ≤ 3072) (V : Nat → Nat → Value) : Gp w k 118 7434 ML_law (fun r _ => r = some (.int (Int32.ofInt 1))) 0 [some (.ref 1001), none, none, none] [] (Mv 0 V) := by
  refine v_new (bc := 117) (bs := 7424) 7 10 7 (by decide +kernel) (by decide +kernel) (by decide) rfl (tbG_of 68 (by decide +kernel) (by decide +kernel)) (tbG_of 69 (by decide +kernel) (by decide +kernel)) (tbG_of 51 (by decide +kernel) (by decide +kernel)) dft7 (by omega) ?_
  refine g_dup (by decide +kernel) rfl ?_
  refine g_callI (idx := 9) (bc' := 95) (bs' := 2326) (bc2 := 22) (bs2 := 5098) [] (by decide +kernel) kiL_9 rfl rfl rfl (fun v h => absurd h List.not_mem_nil) (by decide) rfl (Nat.le_of_ble_eq_true rfl) (by omega) (i_X7 w (k := k - 1) (by omega) V) (fun r u' hq => ?_)
  obtain ⟨rfl, V1, rfl, -, dn1⟩ := hq
  refine g_astore_n (i := 1) (by decide +kernel) (by decide) ?_
  refine v_new (bc := 21) (bs := 5065) 8 33 10 (by decide +kernel) (by decide +kernel) (by decide) rfl (tbG_of 954 (by decide +kernel) (by decide +kernel)) (tbG_of 955 (by decide +kernel) (by decide +kernel)) (tbG_of 59 (by decide +kernel) (by decide +kernel)) dft8 (by omega) ?_
  refine g_dup (by decide +kernel) rfl ?_
  refine g_callI (idx := 12) (bc' := 21) (bs' := 5065) (bc2 := 0) (bs2 := 0) [] (by decide +kernel) kiL_12 rfl rfl rfl (fun v h => absurd h List.not_mem_nil) (by decide) rfl (Nat.le_of_ble_eq_true rfl) (by omega) (i_X8 w (k := k - 1) (by omega) V1) (fun r u' hq => ?_)
  obtain ⟨rfl, V2, rfl, fr2, dn2⟩ := hq
  refine g_astore_n (i := 2) (by decide +kernel) (by decide) ?_
  refine g_iconst (n := 0) (by decide +kernel) ?_
  refine g_istore_n (i := 3) (by decide +kernel) (by decide) ?_
  refine Gp.junk (h := hI) (fun a ha k hk => ?_) ?_
  · rcases Nat.lt_or_ge a 96 with q | q
    · rw [fr2 a q]; exact dn1 a (Nat.zero_le _) q k hk
    · exact dn2 a q ha k hk
  · exact Gp.imp (Q' := fun r u => ∃ h', u = mu h' ∧ r = some (.int (Int32.ofInt 1))) (fun r u hq => by obtain ⟨h', _, q⟩ := hq; exact q) (law_loop w (k := k) (by omega) hL (fun r _ => r = some (.int (Int32.ofInt 1))) (fun _ _ => rfl) 600 0 (by omega) (by omega) hI i0_Rel)
