/-! a night keeps a row good -/
theorem clF_nI {a n : Nat} (ha : a < 2 ^ 31) (hn : n < 2 ^ 31) : clF (nI a) (nI 0) (nI n) = nI (min a n) := by
  unfold clF
  rw [if_neg (nI_nlt (Nat.zero_le _) ha)]
  split
  · rename_i h
    rw [Nat.min_eq_right (Nat.le_of_lt ((nI_ltI hn ha).mp h))]
  · rename_i h
    rw [Nat.min_eq_left (Nat.not_lt.mp fun q => h (nI_lt q ha))]
theorem plF_in (N : Vc) (d : Nat) : In (plF N d) 99 := clF_in (by omega)
theorem dgF_in {N : Vc} (hI : Iv N) (d : Nat) : In (dgF N d) 100 := by
  have hp := plF_in N d
  have h1 := hp.2
  have hc := cntF_le (feB N d) (nd N)
  have hn := hI.nd.2
  unfold dgF
  rw [hp.1]
  generalize nN (plF N d) = p at *
  split
  · rw [nI_add]; exact In_nI (by omega) (by omega)
  · rw [pk_div (by omega) (by omega) (by omega)]; exact In_nI (by omega) (by omega)
  · split
    · rw [nI_add, pk_div (by omega) (by omega) (by omega)]; exact In_nI (by omega) (by omega)
    · rw [nI_add]; exact In_nI (by omega) (by omega)
  · rw [pk_div (by omega) (by omega) (by omega), nIm, nI_add]; exact In_nI (by omega) (by omega)
  · exact In_nI (by omega) (by omega)
  · exact In_nI h1 (by omega) |>.elim (fun a b => ⟨a, by omega⟩)
theorem buF_in (N : Vc) (d : Nat) : In (buF N d) 3 := by
  unfold buF
  split
  · exact In_nI (by omega) (by omega)
  · exact In_nI (by omega) (by omega)
  · split <;> exact In_nI (by omega) (by omega)
  · exact In_nI (by omega) (by omega)
  · exact In_nI (by omega) (by omega)
  · exact In_nI (by omega) (by omega)
theorem dsF_dug {N : Vc} (hI : Iv N) {d : Nat} (hd : d < 10) : clF (N (8 + 3 * brF N d) + dgF N d) (nI 0) (nI 999) = nI (min (nN (bK N (brF N d) 0) + nN (dgF N d)) 999) := by
  have hb := (hI.br hd).2
  have h1 := (hI.2.2.2.2.1 _ hb).1
  have h2 := dgF_in hI d
  have e1 : N (8 + 3 * brF N d) = nI (nN (bK N (brF N d) 0)) := h1.1
  have b1 := h1.2
  have b2 := h2.2
  rw [e1, h2.1, nI_add, nN_nI (by omega), clF_nI (by omega) (by omega)]
theorem dsF_Iv {N : Vc} (hI : Iv N) {d : Nat} (hd : d < 10) : Iv (dsF N d) := by
  have hb4 := (hI.br hd).2
  refine hI.of (dsF_out (by omega) (by omega) (by omega)) (dsF_out (by omega) (by omega) (by omega)) (dsF_out (by omega) (by omega) (by omega)) (dsF_out (by omega) (by omega) (by omega)) (fun j hj => dsF_out (by omega) (by omega) (by omega)) (fun b hb => ?_) (fun e he => ?_)
  · obtain ⟨a1, a2, a3⟩ := hI.2.2.2.2.1 b hb
    have e1 : bK (dsF N d) b 1 = bK N b 1 := dsF_out (by omega) (by omega) (by omega)
    have e2 : bK (dsF N d) b 2 = bK N b 2 := dsF_out (by omega) (by omega) (by omega)
    rw [e1, e2]
    by_cases hbb : b = brF N d
    · have e0 : bK (dsF N d) b 0 = nI (min (nN (bK N (brF N d) 0) + nN (dgF N d)) 999) := by
        show dsF N d (8 + 3 * b + 0) = _
        rw [← dsF_dug hI hd, hbb]
        exact upd_s
      have h1 := a1.2
      rw [← hbb] at e0
      rw [e0, nN_nI (by omega)]
      exact ⟨In_nI (by omega) (by omega), a2, In_mono a3 (by omega)⟩
    · have e0 : bK (dsF N d) b 0 = bK N b 0 := dsF_out (by omega) (by omega) (by omega)
      rw [e0]
      exact ⟨a1, a2, a3⟩
  · obtain ⟨a0, a1, a2, a3, a4⟩ := hI.2.2.2.2.2.1 e he
    have e0 : dK (dsF N d) e 0 = dK N e 0 := dsF_out (by omega) (by omega) (by omega)
    have e1 : dK (dsF N d) e 1 = dK N e 1 := dsF_out (by omega) (by omega) (by omega)
    have e3 : dK (dsF N d) e 3 = dK N e 3 := dsF_out (by omega) (by omega) (by omega)
    rw [e0, e1, e3]
    refine ⟨a0, a1, ?_, a3, ?_⟩
    · by_cases hed : e = d
      · subst hed
        have : dK (dsF N e) e 2 = clF (dK N e 2 - buF N e) (nI 0) (nI 99) := by
          show dsF N e (20 + 5 * e + 2) = _
          unfold dsF
          rw [upd_n (by omega), upd_s]
        rw [this]
        exact clF_in (by omega)
      · rw [show dK (dsF N d) e 2 = dK N e 2 from dsF_out (by omega) (by omega) (by omega)]
        exact a2
    · by_cases hed : e = d
      · subst hed
        show In (dsF N e (20 + 5 * e + 4)) 9999
        unfold dsF
        rw [upd_n (by omega), upd_n (by omega), upd_s]
        exact clF_in (by omega)
      · rw [show dK (dsF N d) e 4 = dK N e 4 from dsF_out (by omega) (by omega) (by omega)]
        exact a4
theorem daF_Iv {N : Vc} (hI : Iv N) : ∀ i, i ≤ 10 → Iv (daF N i)
  | 0, _ => hI
  | i + 1, h => by
    have ih := daF_Iv hI i (by omega)
    rw [daF]
    split
    · exact dsF_Iv ih (by omega)
    · exact ih
theorem daF_out {N : Vc} (hI : Iv N) {j : Nat} (hj : j < 8 ∨ 70 ≤ j) : ∀ i, i ≤ 10 → daF N i j = N j
  | 0, _ => rfl
  | i + 1, h => by
    have ih := daF_out hI hj i (by omega)
    have hb := ((daF_Iv hI i (by omega)).br (d := i) (by omega)).2
    rw [daF]
    split
    · rw [dsF_out (by omega) (by omega) (by omega), ih]
    · exact ih
theorem flF_out {N : Vc} {b j : Nat} : ∀ (i : Nat), (∀ d, d < i → j ≠ 20 + 5 * d + 3) → flF N b i j = N j
  | 0, _ => rfl
  | i + 1, h => by
    rw [flF]
    split
    · rw [upd_n (h i (by omega))]
      exact flF_out i (fun d hd => h d (by omega))
    · exact flF_out i (fun d hd => h d (by omega))
theorem flF_br {N : Vc} {b d : Nat} : ∀ (i : Nat), dK (flF N b i) d 3 = if d < i ∧ inB N b d = true then nI ((b + 1) % 4) else dK N d 3
  | 0 => by simp [flF]
  | i + 1 => by
    have ih := flF_br (N := N) (b := b) (d := d) i
    rw [flF]
    by_cases hdi : d = i
    · subst hdi
      by_cases hp : inB N b d = true
      · rw [if_pos hp, if_pos ⟨by omega, hp⟩]
        exact upd_s
      · rw [if_neg hp, ih, if_neg (by omega), if_neg (fun q => hp q.2)]
    · have e1 : (d < i + 1 ∧ inB N b d = true) ↔ (d < i ∧ inB N b d = true) := by
        constructor
        · rintro ⟨h1, h2⟩; exact ⟨by omega, h2⟩
        · rintro ⟨h1, h2⟩; exact ⟨by omega, h2⟩
      simp only [e1]
      rw [← ih]
      by_cases hp : inB N b i = true
      · rw [if_pos hp]
        show upd _ _ _ (20 + 5 * d + 3) = _
        rw [upd_n (by omega)]
        rfl
      · rw [if_neg hp]
theorem wgF_out {N : Vc} {b j : Nat} (h : j ≠ 8 + 3 * b + 2) : wgF N b j = N j := upd_n h
theorem wgF_Iv {N : Vc} (hI : Iv N) {b : Nat} (hb : b < 4) : Iv (wgF N b) := by
  refine hI.of (wgF_out (by omega)) (wgF_out (by omega)) (wgF_out (by omega)) (wgF_out (by omega)) (fun j hj => wgF_out (by omega)) (fun c hc => ?_) (fun d hd => ?_)
  · obtain ⟨a0, a1, a2⟩ := hI.2.2.2.2.1 c hc
    have e0 : bK (wgF N b) c 0 = bK N c 0 := wgF_out (by omega)
    have e1 : bK (wgF N b) c 1 = bK N c 1 := wgF_out (by omega)
    rw [e0, e1]
    refine ⟨a0, a1, ?_⟩
    by_cases hbc : c = b
    · subst hbc
      have : bK (wgF N c) c 2 = clF (bK N c 2 + N 3) (nI 0) (bK N c 0) := upd_s
      have := a0.2
      rw [‹bK (wgF N c) c 2 = _›, a0.1, nN_nI (by omega)]
      exact clF_in (by omega)
    · rw [show bK (wgF N b) c 2 = bK N c 2 from wgF_out (by omega)]
      exact a2
  · have e : ∀ j, j < 5 → dK (wgF N b) d j = dK N d j := fun j hj => wgF_out (by omega)
    rw [e 0 (by omega), e 1 (by omega), e 2 (by omega), e 3 (by omega), e 4 (by omega)]
    exact hI.2.2.2.2.2.1 d hd
theorem up5_Iv {N : Vc} (hI : Iv N) {j : Nat} {x : Int32} (hj : j = 5 ∨ j = 0 ∨ j = 6 ∨ j = 2) : Iv (upd N j x) := by
  refine hI.of (upd_n (by omega)) (upd_n (by omega)) (upd_n (by omega)) (upd_n (by omega)) (fun i hi => upd_n (by omega)) (fun b hb => ?_) (fun d hd => ?_)
  · have e : ∀ i, i < 3 → bK (upd N j x) b i = bK N b i := fun i hi => upd_n (by omega)
    rw [e 0 (by omega), e 1 (by omega), e 2 (by omega)]
    exact hI.2.2.2.2.1 b hb
  · have e : ∀ i, i < 5 → dK (upd N j x) d i = dK N d i := fun i hi => upd_n (by omega)
    rw [e 0 (by omega), e 1 (by omega), e 2 (by omega), e 3 (by omega), e 4 (by omega)]
    exact hI.2.2.2.2.2.1 d hd
theorem flF_Iv {N : Vc} (hI : Iv N) (b : Nat) {n : Nat} (hn : n ≤ 10) : Iv (flF N b n) := by
  have o : ∀ j, (∀ d, d < 10 → j ≠ 20 + 5 * d + 3) → flF N b n j = N j := fun j h => flF_out n (fun d hd => h d (by omega))
  refine hI.of (o _ (by omega)) (o _ (by omega)) (o _ (by omega)) (o _ (by omega)) (fun j hj => ?_) (fun c hc => ?_) (fun d hd => ?_)
  · exact o _ (by omega)
  · rw [show bK (flF N b n) c 0 = bK N c 0 from o _ (by omega), show bK (flF N b n) c 1 = bK N c 1 from o _ (by omega), show bK (flF N b n) c 2 = bK N c 2 from o _ (by omega)]
    exact hI.2.2.2.2.1 c hc
  · obtain ⟨a0, a1, a2, a3, a4⟩ := hI.2.2.2.2.2.1 d hd
    rw [show dK (flF N b n) d 0 = dK N d 0 from o _ (by omega), show dK (flF N b n) d 1 = dK N d 1 from o _ (by omega), show dK (flF N b n) d 2 = dK N d 2 from o _ (by omega), show dK (flF N b n) d 4 = dK N d 4 from o _ (by omega)]
    refine ⟨a0, a1, a2, ?_, a4⟩
    rw [flF_br]
    split
    · exact In_nI (by omega) (by omega)
    · exact a3
theorem waF_Iv {N : Vc} (hI : Iv N) {b : Nat} (hb : b < 4) : Iv (waF N b) := by
  have h1 := wgF_Iv hI hb
  unfold waF
  split
  · exact h1
  · exact flF_Iv (up5_Iv h1 (Or.inl rfl)) b h1.nd.2
theorem waF_out {N : Vc} (hI : Iv N) {b j : Nat} (hb : b < 4) (hj : j < 5 ∨ j = 6 ∨ j = 7 ∨ 70 ≤ j) : waF N b j = N j := by
  have h1 := (wgF_Iv hI hb).nd.2
  unfold waF
  split
  · exact wgF_out (by omega)
  · rw [flF_out _ (fun d hd => by omega), upd_n (by omega)]
    exact wgF_out (by omega)
theorem drF_Iv {N : Vc} (hI : Iv N) : Iv (drF N) := up5_Iv hI (Or.inr (Or.inl rfl))
theorem faF_Iv {N : Vc} (hI : Iv N) : Iv (faF N) := by
  unfold faF
  split
  · refine up5_Iv ?_ (Or.inr (Or.inr (Or.inl rfl)))
    have h1 := drF_Iv (drF_Iv (drF_Iv hI))
    generalize drF (drF (drF N)) = M at h1
    have hm : dvN (zF (zF (N 0))) % 4 < 4 := Nat.mod_lt _ (by omega)
    generalize dvN (zF (zF (N 0))) % 4 = c at hm
    refine h1.of (upd_n (by omega)) (upd_n (by omega)) (upd_n (by omega)) (upd_n (by omega)) (fun i hi => upd_n (by omega)) (fun b hb => ?_) (fun d hd => ?_)
    · obtain ⟨a0, a1, a2⟩ := h1.2.2.2.2.1 b hb
      generalize hx : dvN (zF (zF (zF (N 0)))) % 100 = x
      have hx : x < 100 := by omega
      rw [show bK (upd M (8 + 3 * c + 1) (nI x)) b 0 = bK M b 0 from upd_n (by omega), show bK (upd M (8 + 3 * c + 1) (nI x)) b 2 = bK M b 2 from upd_n (by omega)]
      refine ⟨a0, ?_, a2⟩
      by_cases hbc : b = c
      · subst hbc
        rw [show bK (upd M (8 + 3 * b + 1) (nI x)) b 1 = nI x from upd_s]
        exact In_nI (by omega) (by omega)
      · rw [show bK (upd M (8 + 3 * c + 1) (nI x)) b 1 = bK M b 1 from upd_n (by omega)]
        exact a1
    · generalize nI (dvN (zF (zF (zF (N 0)))) % 100) = y
      have e : ∀ i, i < 5 → dK (upd M (8 + 3 * c + 1) y) d i = dK M d i := fun i hi => upd_n (by omega)
      rw [e 0 (by omega), e 1 (by omega), e 2 (by omega), e 3 (by omega), e 4 (by omega)]
      exact h1.2.2.2.2.2.1 d hd
  · exact drF_Iv hI
theorem faF_out {N : Vc} {j : Nat} (hj : j = 1 ∨ j = 2 ∨ j = 3 ∨ j = 4 ∨ j = 5 ∨ j = 7 ∨ 20 ≤ j) : faF N j = N j := by
  unfold faF drF
  have hm : dvN (zF (zF (N 0))) % 4 < 4 := Nat.mod_lt _ (by omega)
  split
  · rw [upd_n (by omega), upd_n (by omega), upd_n (by omega), upd_n (by omega), upd_n (by omega)]
  · exact upd_n (by omega)
theorem niF_Iv {N : Vc} (hI : Iv N) : Iv (niF N) :=
  up5_Iv (faF_Iv (waF_Iv (waF_Iv (waF_Iv (waF_Iv (daF_Iv hI _ hI.nd.2) (by omega)) (by omega)) (by omega)) (by omega))) (Or.inr (Or.inr (Or.inr rfl)))
theorem niF_out {N : Vc} (hI : Iv N) {j : Nat} (hj : j = 1 ∨ j = 3 ∨ j = 4 ∨ j = 7 ∨ 70 ≤ j) : niF N j = N j := by
  have i0 := daF_Iv hI _ hI.nd.2
  have i1 := waF_Iv i0 (b := 0) (by omega)
  have i2 := waF_Iv i1 (b := 1) (by omega)
  have i3 := waF_Iv i2 (b := 2) (by omega)
  unfold niF
  rw [upd_n (by omega), faF_out (by omega), waF_out i3 (by omega) (by omega), waF_out i2 (by omega) (by omega), waF_out i1 (by omega) (by omega), waF_out i0 (by omega) (by omega), daF_out hI (by omega) _ hI.nd.2]
theorem niF_night {N : Vc} (hI : Iv N) : niF N 2 = N 2 + nI 1 := by
  have i0 := daF_Iv hI _ hI.nd.2
  have i1 := waF_Iv i0 (b := 0) (by omega)
  have i2 := waF_Iv i1 (b := 1) (by omega)
  have i3 := waF_Iv i2 (b := 2) (by omega)
  unfold niF
  rw [upd_s, faF_out (by omega), waF_out i3 (by omega) (by omega), waF_out i2 (by omega) (by omega), waF_out i1 (by omega) (by omega), waF_out i0 (by omega) (by omega), daF_out hI (by omega) _ hI.nd.2]
theorem nsF_Iv {N : Vc} (hI : Iv N) : ∀ n, Iv (nsF N n)
  | 0 => hI
  | n + 1 => niF_Iv (nsF_Iv hI n)
theorem nsF_out {N : Vc} (hI : Iv N) {j : Nat} (hj : j = 1 ∨ j = 3 ∨ j = 4 ∨ j = 7 ∨ 70 ≤ j) : ∀ n, nsF N n j = N j
  | 0 => rfl
  | n + 1 => by rw [nsF, niF_out (nsF_Iv hI n) hj, nsF_out hI hj n]
