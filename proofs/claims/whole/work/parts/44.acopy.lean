/-! System.arraycopy between sheets -/
theorem rf_arr00 : ∀ a, a < 118 → (kd0 a).1 = 10 → nth (nth rfL (a / 16) []) (a % 16) [] = [] := by decide +kernel
theorem rf_arr0 (a : Nat) (ha : a < 118) (hk : (kd0 a).1 = 10) (j : Nat) : rf0 a j = none := by
  unfold rf0
  rw [rf_arr00 a ha hk]
  cases j <;> rfl
theorem rf_arr : ∀ a, a < 118 → (kd0 a).1 = 10 → rf0 a = fun _ => none := by
  intro a ha hk
  funext j
  exact rf_arr0 a ha hk j
set_option maxHeartbeats 4000000 in
theorem p_acopy {w : Wt} {k : Nat} {M : Mt} {Q : Option Value → Mm → Prop} {pc : Nat} {L : List (Option Value)} {st : List Value} {h : Mm} {idx a0 a sp dp n : Nat} (hl : Cond.methodLink (m_y M).cls idx arraycopyName ∈ tbG) (hd : decode (m_c M) pc = .ok (.invokestatic idx, 3)) (hk : 1 ≤ k) (hrest : Nat.ble (st.map fun v => v.category).sum 8 = true)
    (ha0 : a0 < 118) (ha : a < 118) (hk0 : kd0 a0 = (10, 24)) (hk1 : kd0 a = (10, 24)) (h4 : sp + n ≤ 24) (h5 : dp + n ≤ 24) (kk : Wp w k M Q (pc + 3) L st (wr h a (spl (h a) dp n (fun j => h a0 (sp + j))))) : Wp w k M Q pc L (.int (nI n) :: .int (nI dp) :: .ref a :: .int (nI sp) :: .ref a0 :: st) h := by
  intro p e R s m args below meth c cells slots Z X hc hs hZ H locs ls hH hS hL
  have hfr := X.2.2.2.2.2.2.2.2.2
  have hcs := cat_sum (w := w) (Nat.le_of_ble_eq_true hrest)
  have f0 : ∀ j, cv w ((mu h).2.2 a0 j) = .int (h a0 j) := fun j => by
    show cv w (vl h a0 j) = _
    unfold vl
    rw [rf_arr a0 ha0 (by rw [hk0])]
    rfl
  have f1 : ∀ j, cv w ((mu h).2.2 a j) = .int (h a j) := fun j => by
    show cv w (vl h a j) = _
    unfold vl
    rw [rf_arr a ha (by rw [hk1])]
    rfl
  have hc0 : H[w_b w + a0]? = some (arrV (w_c w 10) 24 (fun j => .int (h a0 j))) := by
    have q := (hH.2.2 a0 ha0).2
    have e1 : ((mu h).2.1 a0) = (10, 24) := hk0
    rw [e1] at q
    rw [q (by decide)]
    congr 2
    funext j
    exact f0 j
  have hc1 : H[w_b w + a]? = some (arrV (w_c w 10) 24 (fun j => .int (h a j))) := by
    have q := (hH.2.2 a ha).2
    have e1 : ((mu h).2.1 a) = (10, 24) := hk1
    rw [e1] at q
    rw [q (by decide)]
    congr 2
    funext j
    exact f1 j
  have ea0 : cv w (.ref a0) = .ref (w_b w + a0) := cv_lt hH ha0
  have ea1 : cv w (.ref a) = .ref (w_b w + a) := cv_lt hH ha
  have hlb : w_b w + a < H.size := (Array.getElem?_eq_some_iff.mp hc1).1
  have hst : (Value.int (nI n) :: .int (nI dp) :: .ref a :: .int (nI sp) :: .ref a0 :: st).map (cv w) = .int (nI n) :: .int (nI dp) :: .ref (w_b w + a) :: .int (nI sp) :: .ref (w_b w + a0) :: st.map (cv w) := by
    rw [List.map_cons, List.map_cons, List.map_cons, List.map_cons, List.map_cons, ea0, ea1]
    rfl
  have cn := nI_clamp (n := n) (by omega)
  have cs := nI_clamp (n := sp) (by omega)
  have cd := nI_clamp (n := dp) (by omega)
  have tn := nI_toInt (n := n) (by omega)
  have ts := nI_toInt (n := sp) (by omega)
  have td := nI_toInt (n := dp) (by omega)
  have e1 : copied (arrV (w_c w 10) 24 (fun j => .int (h a0 j))) (arrV (w_c w 10) 24 (fun j => .int (h a j))) (nI sp) (nI dp) (nI n) = arrV (w_c w 10) 24 (fun j => .int (va_cpy (h a0) (h a) sp dp n j)) := by
    have := va_copied (fun z => Value.int z) (w_c w 10) (w_c w 10) (n0 := 24) (n1 := 24) (sp := sp) (dp := dp) (n := n) (h a0) (h a) h4
    unfold copied
    rw [cn, cs, cd]
    exact this
  generalize ecell : arrV (w_c w 10) 24 (fun j => .int (va_cpy (h a0) (h a) sp dp n j)) = nc at e1
  have oq : ∀ q : Nat, q ≠ w_b w + a → (H.setIfInBounds (w_b w + a) nc)[q]? = H[q]? := fun q hq => by simp [Array.getElem?_setIfInBounds, Ne.symm hq]
  have hHd' : Hd w (mu (wr h a (spl (h a) dp n (fun j => h a0 (sp + j))))) (H.setIfInBounds (w_b w + a) nc) := by
    refine ⟨by rw [Array.size_setIfInBounds]; exact hH.1, hH.2.1, fun id hid => ?_⟩
    by_cases ei : id = a
    · subst ei
      refine ⟨fun q => absurd q (by show ¬ (kd0 id).1 < 10; rw [hk1]; decide), fun _ => ?_⟩
      show (H.setIfInBounds (w_b w + id) nc)[w_b w + id]? = some (arrV (w_c w (kd0 id).1) (kd0 id).2 (fun j => cv w (vl _ id j)))
      rw [hk1]
      simp only [Array.getElem?_setIfInBounds, hlb, if_true]
      rw [← ecell]
      congr 2
      funext j
      unfold vl
      rw [rf_arr id ha (by rw [hk1]), wrS]
      rfl
    · have hq := hH.2.2 id hid
      have e2 : ∀ j, (mu (wr h a (spl (h a) dp n (fun j => h a0 (sp + j))))).2.2 id j = (mu h).2.2 id j := fun j => by
        show vl _ id j = vl h id j
        unfold vl
        rw [wrN ei]
      have e3 : (mu (wr h a (spl (h a) dp n (fun j => h a0 (sp + j))))).2.2 id = (mu h).2.2 id := funext e2
      rw [e3]
      exact hq.kept (oq _ (by omega))
  have hw40 : nativeFrameWords "java/lang/System" "arraycopy" 5 + 11 ≤ 40 := by decide
  rw [hst]
  intro T hT Y
  obtain ⟨-, k0, hk0', cm0, hkk0⟩ := (X.kw.1.2 0 _ rfl).1 24 (fun j => .int (h a0 j))
  obtain ⟨vm', X', step⟩ := Y.arraycopy X.1 X.own (X.ts _ hl) (X.ts _ j_ac_n) (X.ts _ j_ac_s) (X.ts _ j_sys) (src := w_b w + a0) (dst := w_b w + a) (cs := arrV (w_c w 10) 24 (fun j => .int (h a0 j))) (cd := arrV (w_c w 10) 24 (fun j => .int (h a j))) (srcPos := nI sp) (destPos := nI dp) (n := nI n) (by rw [hT]; exact hc0) (by rw [hT]; exact hc1)
    (fun _ h => by cases h) (fun _ h => by cases h) (fun h => by cases h) (fun h => by cases h) hk0' hk0' hkk0 hkk0 (by simp [refKind]) (nI_pos (by omega)) (nI_pos (by omega)) (nI_pos (by omega))
    (by rw [ts, tn, arrV_size]; omega)
    (by rw [td, tn, arrV_size]; omega)
    (fun vm₁ _ i hi => by
      rw [cn] at hi
      have e : (arrV (w_c w 10) 24 (fun j => .int (h a0 j))).slots.getD ((nI sp).toNatClampNeg + i) .null = .int (h a0 (sp + i)) := by
        rw [cs, Array.getD_eq_getD_getElem?, arrV_read _ _ (by omega)]
        rfl
      refine ⟨?_, ?_⟩
      · rw [e]; rfl
      · rw [e]; exact trivial)
    (g := F0 m pc ls (.int (nI n) :: .int (nI dp) :: .ref (w_b w + a) :: .int (nI sp) :: .ref (w_b w + a0) :: st.map (cv w))) rfl (by rw [X.2.2.1, hL.sz]) (rest := st.map (cv w)) rfl (by rw [X.2.1]; exact hd) (by omega) (by show 2 * 0 + _ + _ ≤ _; omega)
  rw [e1] at X' step
  have hheap : ((T.setVm vm').setCell (w_b w + a) nc).heap = H.setIfInBounds (w_b w + a) nc := by rw [← hT]; rfl
  obtain ⟨t, a1, b1⟩ := kk p e R s m args below meth c cells slots Z X hc hs hZ (H.setIfInBounds (w_b w + a) nc) _ ls hHd' ⟨by rw [Array.size_setIfInBounds]; exact hS.1, fun q g1 g2 => by
      rw [oq q (fun e => g2 (by rw [e]; exact Nat.le_add_right _ _))]
      exact hS.2.1 q g1 g2, fun q hq => by
      rcases List.mem_append.mp hq with h | h
      · exact hS.2.2 q h
      · obtain ⟨z, -, hz⟩ := List.mem_map.mp h
        rw [← hz]
        exact Nat.le_add_right _ _⟩ hL _ hheap X'
  exact ⟨t, step t a1, b1⟩
