/-! text: both -/
theorem dep_congr {c c' : Nat → Int32} : ∀ {n : Nat}, (∀ i, i < n → c i = c' i) → dep c n = dep c' n
  | 0, _ => rfl
  | n + 1, h => by rw [dep, dep, dep_congr (fun i hi => h i (by omega)), h n (by omega)]
theorem wfC_congr {m n : Nat} {c c' : Nat → Int32} (h : ∀ i, i < n → c i = c' i) (hw : wfC m c n) : wfC m c' n := by
  obtain ⟨h1, h2, h3⟩ := hw
  refine ⟨fun i hi => ?_, by rw [← dep_congr h]; exact h2, h3⟩
  have q := h1 i hi
  rw [h i hi, dep_congr (fun j hj => h j (by omega))] at q
  exact q
theorem gC_lt {x : Int32} {C : List Int32} {k : Nat} (h : k < C.length) : gC (x :: C) k = gC C k := by rw [gC, if_neg (by omega)]
theorem gC_eq {x : Int32} {C : List Int32} : gC (x :: C) C.length = x := by rw [gC, if_pos rfl]
theorem wfL_dep {m : Nat} : ∀ {C : List Int32} {d : Nat}, wfL m C d → dep (gC C) C.length = d ∧ ∀ i, i < C.length → (nI 0 ≤ gC C i ∧ gC C i < nI (10000 + m)) ∨ (gC C i = Int32.ofInt (-10) ∧ 1 ≤ dep (gC C) i) ∨ (Int32.ofInt (-9) ≤ gC C i ∧ gC C i < nI 0 ∧ 2 ≤ dep (gC C) i)
  | [], d, h => ⟨by have h : d = 0 := h; rw [h]; rfl, fun i hi => absurd hi (Nat.not_lt_zero _)⟩
  | x :: C, d, h => by
    have hd : dep (gC (x :: C)) C.length = dep (gC C) C.length := dep_congr (fun i hi => gC_lt hi)
    have key : ∀ e, wfL m C e → dep (gC C) C.length = e ∧ ∀ i, i < C.length → (nI 0 ≤ gC (x :: C) i ∧ gC (x :: C) i < nI (10000 + m)) ∨ (gC (x :: C) i = Int32.ofInt (-10) ∧ 1 ≤ dep (gC (x :: C)) i) ∨ (Int32.ofInt (-9) ≤ gC (x :: C) i ∧ gC (x :: C) i < nI 0 ∧ 2 ≤ dep (gC (x :: C)) i) := fun e he => by
      obtain ⟨a, b⟩ := wfL_dep he
      refine ⟨a, fun i hi => ?_⟩
      rw [gC_lt hi, dep_congr (c := gC (x :: C)) (c' := gC C) (fun j hj => gC_lt (by omega))]
      exact b i hi
    rw [List.length_cons]
    rcases h with ⟨h1, h2, h3, h4⟩ | ⟨rfl, h3, h4⟩ | ⟨h1, h2, h3, h4⟩
    · obtain ⟨a, b⟩ := key _ h4
      refine ⟨by rw [dep, gC_eq, if_pos h1, hd, a]; omega, fun i hi => ?_⟩
      by_cases e : i = C.length
      · rw [e, gC_eq]; exact Or.inl ⟨h1, h2⟩
      · exact b i (by omega)
    · obtain ⟨a, b⟩ := key _ h4
      refine ⟨by rw [dep, gC_eq, if_neg (by decide), if_pos rfl, hd, a], fun i hi => ?_⟩
      by_cases e : i = C.length
      · rw [e, gC_eq, hd, a]; exact Or.inr (Or.inl ⟨rfl, h3⟩)
      · exact b i (by omega)
    · obtain ⟨a, b⟩ := key _ h4
      have hn : ¬ nI 0 ≤ x := Int32.not_le.mpr h2
      have hn2 : ¬ x = Int32.ofInt (-10) := fun q => by rw [q] at h1; exact absurd h1 (by decide)
      refine ⟨by rw [dep, gC_eq, if_neg hn, if_neg hn2, hd, a]; omega, fun i hi => ?_⟩
      by_cases e : i = C.length
      · rw [e, gC_eq, hd, a]; exact Or.inr (Or.inr ⟨h1, h2, by omega⟩)
      · exact b i (by omega)
theorem wfL_wfC {m : Nat} {C : List Int32} (h : wfL m C 1) (hl : C.length ≤ 96) : wfC m (gC C) C.length := ⟨(wfL_dep h).2, (wfL_dep h).1, hl⟩
/-- the new row -/
theorem tx_lo {N : Vc} {t key a : Nat} {C : List Int32} {j : Nat} (hj : j < 70) (h7 : j ≠ 7) : txF N t key C a j = N j := by
  unfold txF
  rw [upd_n h7]
  unfold spl
  rw [if_neg (by omega), upd_n (by omega), upd_n (by omega)]
theorem tx_7 {N : Vc} {t key a : Nat} {C : List Int32} : txF N t key C a 7 = nI (t + 1) := upd_s
theorem tx_k {N : Vc} {t key a : Nat} {C : List Int32} (ht : t < 14) : txF N t key C a (70 + 2 * t) = nI (1000 * key + C.length) := by
  unfold txF
  rw [upd_n (by omega)]
  unfold spl
  rw [if_neg (by omega), upd_n (by omega), upd_s]
theorem tx_a {N : Vc} {t key a : Nat} {C : List Int32} (ht : t < 14) : txF N t key C a (70 + 2 * t + 1) = nI a := by
  unfold txF
  rw [upd_n (by omega)]
  unfold spl
  rw [if_neg (by omega), upd_s]
theorem tx_h {N : Vc} {t key a : Nat} {C : List Int32} {j : Nat} (h1 : 70 ≤ j) (h2 : j ≤ 97) (h3 : j ≠ 70 + 2 * t) (h4 : j ≠ 70 + 2 * t + 1) : txF N t key C a j = N j := by
  unfold txF
  rw [upd_n (by omega)]
  unfold spl
  rw [if_neg (by omega), upd_n h4, upd_n h3]
theorem tx_c {N : Vc} {t key a : Nat} {C : List Int32} {i : Nat} (hi : i < C.length) : txF N t key C a (98 + 96 * t + i) = gC C i := by
  unfold txF
  rw [upd_n (by omega)]
  unfold spl
  rw [if_pos (by omega), show 98 + 96 * t + i - (98 + 96 * t) = i by omega]
theorem tx_o {N : Vc} {t key a : Nat} {C : List Int32} {j : Nat} (ht : t < 14) (h1 : 98 ≤ j) (h2 : j < 98 + 96 * t) : txF N t key C a j = N j := by
  unfold txF
  rw [upd_n (by omega)]
  unfold spl
  rw [if_neg (by omega), upd_n (by omega), upd_n (by omega)]
theorem tx_last {N : Vc} {t key a k : Nat} {C : List Int32} (ht : t < 14) : ∀ u, u ≤ t → lastT (txF N t key C a) k u = lastT N k u
  | 0, _ => rfl
  | u + 1, h => by rw [lastT, lastT, tx_h (by omega) (by omega) (by omega) (by omega), tx_last ht u (by omega)]
theorem tx_law {N : Vc} {t key a k : Nat} {C : List Int32} (ht : t < 14) (hkey : key < 3) (hl : C.length ≤ 96) (e7 : N 7 = nI t) : lawT (txF N t key C a) k = if key = k then some t else lawT N k := by
  unfold lawT
  rw [tx_7, e7, nN_nI (by omega), nN_nI (by omega), lastT, tx_k ht, nN_nI (by omega), show (1000 * key + C.length) / 1000 = key by omega, tx_last ht t (Nat.le_refl _)]
theorem tx_Iv {N : Vc} {t key a : Nat} {C : List Int32} (hI : Iv N) (ht : t < 14) (hkey : key < 3) (hl : C.length ≤ 96) (e7 : N 7 = nI t) (hw : wfL (nmF key) C 1) : Iv (txF N t key C a) := by
  obtain ⟨a1, a2, a3, a4, a5, a6, a7⟩ := hI
  have eb : ∀ b i, b < 4 → i < 3 → bK (txF N t key C a) b i = bK N b i := fun b i h1 h2 => tx_lo (by omega) (by omega)
  have ed : ∀ b i, b < 10 → i < 5 → dK (txF N t key C a) b i = dK N b i := fun b i h1 h2 => tx_lo (by omega) (by omega)
  refine ⟨by rw [tx_lo (by omega) (by omega)]; exact a1, by rw [tx_lo (by omega) (by omega)]; exact a2, by rw [tx_lo (by omega) (by omega)]; exact a3, by rw [tx_7]; exact In_nI (by omega) (by omega), fun b hb => by rw [eb b 0 hb (by omega), eb b 1 hb (by omega), eb b 2 hb (by omega)]; exact a5 b hb, fun d hd => by rw [ed d 0 hd (by omega), ed d 1 hd (by omega), ed d 2 hd (by omega), ed d 3 hd (by omega), ed d 4 hd (by omega)]; exact a6 d hd, fun u hu => ?_⟩
  rw [tx_7, nN_nI (by omega)] at hu
  unfold TX
  by_cases e : u = t
  · subst e
    rw [tx_k ht, nN_nI (by omega), show (1000 * key + C.length) / 1000 = key by omega, show (1000 * key + C.length) % 1000 = C.length by omega]
    exact ⟨In_nI (by omega) (by omega), wfC_congr (fun i hi => (tx_c hi).symm) (wfL_wfC hw hl)⟩
  · have q := a7 u (by rw [e7, nN_nI (by omega)]; omega)
    unfold TX at q
    rw [tx_h (by omega) (by omega) (by omega) (by omega)]
    refine ⟨q.1, wfC_congr (fun i hi => ?_) q.2⟩
    have := q.2.2.2
    exact (tx_o ht (by omega) (by omega)).symm
theorem tx_Tq {N : Vc} {t key a : Nat} {C : List Int32} (hQ : Tq N) (ht : t < 14) (hkey : key < 3) (hl : C.length ≤ 96) : Tq (txF N t key C a) := by
  intro u hu
  by_cases e : u = t
  · rw [e, tx_k ht]; exact In_nI (by omega) (by omega)
  · rw [tx_h (by omega) (by omega) (by omega) (by omega)]; exact hQ u hu
/-- the texts as they were -/
theorem TR.old {h h' : Mm} {N : Vc} {t len : Nat} {x y z : Int32} {f : Nat → Int32} (hT : TR h N) (hI : Iv N) (hu : nN (N 7) ≤ t) (e2 : h' 2 = upd (h 2) t x) (e3 : h' 3 = upd (h 3) t y) (e4 : h' 4 = upd (h 4) t z) (e5 : h' 5 = spl (h 5) (96 * t) len f) : TR h' N := by
  intro u hu2
  obtain ⟨a, b, c, d⟩ := hT u hu2
  have q := (hI.2.2.2.2.2.2 u hu2).2.2.2
  refine ⟨by rw [e2, upd_n (by omega)]; exact a, by rw [e3, upd_n (by omega)]; exact b, by rw [e4, upd_n (by omega)]; exact c, fun i hi => ?_⟩
  rw [e5]
  unfold spl
  rw [if_neg (by unfold lnT at hi; omega)]
  exact d i hi
theorem TR.new {h h' : Mm} {N : Vc} {t key a : Nat} {C : List Int32} (hT : TR h N) (hI : Iv N) (ht : t < 14) (hkey : key < 3) (hl : C.length ≤ 96) (e7 : N 7 = nI t) (e2 : h' 2 = upd (h 2) t (nI key)) (e3 : h' 3 = upd (h 3) t (nI a)) (e4 : h' 4 = upd (h 4) t (nI C.length)) (e5 : h' 5 = spl (h 5) (96 * t) C.length (fun k => enC (gC C k))) : TR h' (txF N t key C a) := by
  have hO := hT.old hI (by rw [e7, nN_nI (by omega)]; exact Nat.le_refl _) e2 e3 e4 e5
  intro u hu
  rw [tx_7, nN_nI (by omega)] at hu
  by_cases e : u = t
  · subst e
    unfold lnT
    rw [tx_k ht, tx_a ht, nN_nI (by omega), show (1000 * key + C.length) / 1000 = key by omega, show (1000 * key + C.length) % 1000 = C.length by omega]
    refine ⟨by rw [e2, upd_s], by rw [e3, upd_s], by rw [e4, upd_s], fun i hi => ?_⟩
    rw [tx_c hi, e5]
    unfold spl
    rw [if_pos (by omega), show 96 * u + i - 96 * u = i by omega]
  · have hun : u < nN (N 7) := by rw [e7, nN_nI (by omega)]; omega
    obtain ⟨q1, q2, q3, q4⟩ := hO u hun
    have q := (hI.2.2.2.2.2.2 u hun).2.2.2
    have hln : lnT (txF N t key C a) u = lnT N u := by unfold lnT; rw [tx_h (by omega) (by omega) (by omega) (by omega)]
    rw [hln, tx_h (by omega) (by omega) (by omega) (by omega), tx_h (by omega) (by omega) (by omega) (by omega)]
    exact ⟨q1, q2, q3, fun i hi => by rw [tx_o ht (by omega) (by unfold lnT at hi; omega)]; exact q4 i hi⟩
theorem PR.new {h h' : Mm} {N : Vc} {t key a : Nat} {C : List Int32} (hP : PR 11 h N) (hI : Iv N) (ht : t < 14) (hkey : key < 3) (hl : C.length ≤ 96) (e7 : N 7 = nI t) (e11 : h' 11 = upd (h 11) 5 (nI (t + 1))) (e28 : h' 28 = upd (h 28) key (nI t)) (eo : ∀ a, 12 ≤ a → a ≤ 27 → h' a = h a) : PR 11 h' (txF N t key C a) := by
  obtain ⟨⟨p1, p2, p3, p4, p5, p6, p7, p8⟩, p9, p10, p11⟩ := hP
  have hn10 := hI.nd.2
  have hnd : nd (txF N t key C a) = nd N := by unfold nd; rw [tx_lo (by omega) (by omega)]
  refine ⟨?_, fun b hb j hj => ?_, fun d hd j hj => ?_, fun k hk => ?_⟩
  · rw [e11, tx_7, tx_lo (j := 1) (by omega) (by omega), tx_lo (j := 3) (by omega) (by omega), tx_lo (j := 4) (by omega) (by omega), tx_lo (j := 5) (by omega) (by omega), tx_lo (j := 6) (by omega) (by omega), tx_lo (j := 2) (by omega) (by omega), tx_lo (j := 0) (by omega) (by omega)]
    exact ⟨by rw [upd_n (by decide)]; exact p1, upd_s, by rw [upd_n (by decide)]; exact p3, by rw [upd_n (by decide)]; exact p4, by rw [upd_n (by decide)]; exact p5, by rw [upd_n (by decide)]; exact p6, by rw [upd_n (by decide)]; exact p7, by rw [upd_n (by decide)]; exact p8⟩
  · rw [eo _ (by omega) (by omega), p9 b hb j hj]
    exact (tx_lo (j := 8 + 3 * b + j) (by omega) (by omega)).symm
  · rw [hnd] at hd
    rw [eo _ (by omega) (by omega), p10 d hd j hj]
    exact (tx_lo (j := 20 + 5 * d + j) (by omega) (by omega)).symm
  · rw [show 11 + 17 = 28 from rfl, e28, tx_law ht hkey hl e7]
    by_cases e : key = k
    · rw [if_pos e, e, upd_s]; rfl
    · rw [if_neg e, upd_n (Ne.symm e)]; exact p11 k hk
theorem St.junk {w : Wt} {k : Nat} {Mc Mr : Mt} {as : List Value} {h h' : Mm} (e : ∀ a, a < 118 → ∀ k, k < (kd0 a).2 → h a k = h' a k) (hh : St w k Mc Mr as h') : St w k Mc Mr as h := Wp.junk e hh
theorem st_text0 (w : Wt) {k : Nat} (hk : 820 ≤ k) (h : Mm) (hR : Rel h) (h9 : h 9 = h 101) : St w k MX7_text MX8_text [] h := by
  obtain ⟨⟨hP, hI, hQ, hT, hq⟩, ⟨i1, i2, i3⟩, ⟨t1, t2, t3, t4⟩, r4, r5, r6⟩ := id hR
  have hn := t2.2
  have h7 := hI.2.2.2.1
  have ht := h7.2
  refine St.mk (c_text w hk (nN (h 96 6)) (nN (h 97 7)) hn ht h (t1.trans t2.1) (hP.1.2.1.trans h7.1) (fun j hj => by rw [h9]; exact (t3 j (by omega)).2)) (fun r h1 q => ?_)
  rw [h9] at q
  obtain ⟨z8, q⟩ := q
  -- the reference
  have hF : ∀ h1 : Mm, (∀ a, 95 < a → h1 a = h a) → ∀ v, (∀ r2 h2, TxQ (nN (h 96 6)) (nN (h 97 7)) h1 (lxN (nN (h 96 6)) (h1 101) l00) r2 h2 → r2 = some (.int v) ∧ Rel h2) → Ok w k MX8_text [.ref 96] h1 (fun r2 h2 => r2 = some (.int v) ∧ Rel h2) := fun h1 y v z =>
    (r_text w (by omega) (nN (h 96 6)) (nN (h 97 7)) hn ht h1 (by rw [y 96 (by omega)]; exact t2.1) (by rw [y 97 (by omega)]; exact h7.1) (by unfold KR; rw [y 102 (by omega), y 103 (by omega)]; exact t4)).imp z
  -- nothing told
  have hno : ∀ h2 : Mm, F2 h h1 → h2 96 6 = nI 0 → Fa [96, 97, 104, 105, 106] [6, 7, 8, 9, 10, 11, 12, 16, 17, 19] h1 h2 → h2 97 = h1 97 → Rel h2 := fun h2 f2 e6 fa e97 => by
    have z : ∀ a, a ≠ 8 ∧ a ≠ 10 ∧ a ≠ 96 ∧ a ≠ 97 ∧ a ≠ 104 ∧ a ≠ 105 ∧ a ≠ 106 → h2 a = h a := fun a n => (fa.1 a (by simp; omega)).trans (f2 a n.1 n.2.1)
    refine hR.rt (fun a ha => ?_) (by rw [fa.2 3 (by decide), f2 96 (by decide) (by decide)]) (by rw [fa.2 32 (by decide), f2 96 (by decide) (by decide)]) ⟨?_, ?_, ?_, ?_⟩
    · by_cases e : a = 97
      · rw [e, e97, f2 97 (by decide) (by decide)]
      · exact z a (by omega)
    · rw [fa.1 8 (by decide), z8, e6]
    · rw [e6]; exact In_nI (by omega) (by omega)
    · rw [z 9 (by omega), z 101 (by omega)]; exact t3
    · unfold KR; rw [z 102 (by omega), z 103 (by omega)]; exact t4
  have yF : F2 h h1 → ∀ a, 95 < a → h1 a = h a := fun f a ha => f a (by omega) (by omega)
  rcases q with ⟨hke, rfl, f2⟩ | ⟨key, b, m', hke, hM, q⟩
  · refine ⟨_, rfl, hF h1 (yF f2) _ (fun r2 h2 z => ?_)⟩
    obtain ⟨x1, x2, x3⟩ := z
    rw [yF f2 101 (by omega), hke] at x3
    exact ⟨x3.1, hno h2 f2 x1 x2 x3.2⟩
  · have hkey := (keF_le hke).1
    rcases q with ⟨rfl, rfl, f2⟩ | ⟨rfl, e14, rfl, f2⟩ | ⟨rfl, l14, rfl, wf, hl, e2, e3, e4, e5, e28, e11, eo⟩
    · refine ⟨_, rfl, hF h1 (yF f2) _ (fun r2 h2 z => ?_)⟩
      obtain ⟨x1, x2, x3⟩ := z
      rw [yF f2 101 (by omega), hke] at x3
      obtain ⟨b, m2, y1, y2⟩ := x3
      obtain ⟨rfl, rfl⟩ := Mend.det hM y1
      rw [if_neg (by decide)] at y2
      exact ⟨y2.1, hno h2 f2 x1 x2 y2.2⟩
    · refine ⟨_, rfl, hF h1 (yF f2) _ (fun r2 h2 z => ?_)⟩
      obtain ⟨x1, x2, x3⟩ := z
      rw [yF f2 101 (by omega), hke] at x3
      obtain ⟨b, m2, y1, y2⟩ := x3
      obtain ⟨rfl, rfl⟩ := Mend.det hM y1
      rw [if_pos rfl, if_pos e14] at y2
      exact ⟨y2.1, hno h2 f2 x1 x2 y2.2⟩
    · have y : ∀ a, 95 < a → h1 a = h a := fun a ha => eo a (by omega) (by omega) (by omega) (by omega) (by omega) (by omega) (by omega) (by omega)
      refine ⟨_, rfl, hF h1 y _ (fun r2 h2 z => ?_)⟩
      obtain ⟨x1, x2, x3⟩ := z
      rw [y 101 (by omega), hke] at x3
      obtain ⟨b, m2, y1, y2⟩ := x3
      obtain ⟨rfl, rfl⟩ := Mend.det hM y1
      rw [if_pos rfl, if_neg (by omega), y 97 (by omega)] at y2
      refine ⟨y2.1, ?_⟩
      have e97 := y2.2
      have zc : ∀ a, a < 96 → h2 a = h1 a := fun a ha => x2.1 a (by simp; omega)
      have zo : ∀ a, a ≠ 2 ∧ a ≠ 3 ∧ a ≠ 4 ∧ a ≠ 5 ∧ a ≠ 28 ∧ a ≠ 11 ∧ a ≠ 8 ∧ a ≠ 10 ∧ a ≠ 96 ∧ a ≠ 97 ∧ a ≠ 104 ∧ a ≠ 105 ∧ a ≠ 106 → h2 a = h a := fun a n => (x2.1 a (by simp; omega)).trans (eo a n.1 n.2.1 n.2.2.1 n.2.2.2.1 n.2.2.2.2.1 n.2.2.2.2.2.1 n.2.2.2.2.2.2.1 n.2.2.2.2.2.2.2.1)
      have e3' : h2 96 3 = h 96 3 := by rw [x2.2 3 (by decide), y 96 (by omega)]
      have e32 : h2 96 32 = h 96 32 := by rw [x2.2 32 (by decide), y 96 (by omega)]
      have hkey3 : key < 3 := by omega
      refine ⟨?_, ⟨by rw [zo 0 (by omega), e3']; exact i1, by rw [e3']; exact i2, fun nk => ?_⟩, ⟨by rw [zc 8 (by omega), z8, x1], by rw [x1]; exact In_nI (by omega) (by omega), by rw [zo 9 (by omega), zo 101 (by omega)]; exact t3, by unfold KR; rw [zo 102 (by omega), zo 103 (by omega)]; exact t4⟩, r4.of (fun a h1 h2 => zo a (by omega)) (zo 109 (by omega)) (zo 110 (by omega)) (zo 111 (by omega)), r5.of (fun a h1 h2 => zo a (by omega)) (zo 112 (by omega)) (zo 113 (by omega)) (zo 114 (by omega)) (zo 115 (by omega)), r6.of (by rw [zo 0 (by omega)]) e32 (zo 95 (by omega)) (zo 117 (by omega))⟩
      · unfold RN
        rw [e97]
        exact ⟨hP.new hI l14 hkey3 hl h7.1 ((zc 11 (by omega)).trans e11) ((zc 28 (by omega)).trans e28) (fun a n1 n2 => zo a (by omega)), tx_Iv hI l14 hkey3 hl h7.1 wf, tx_Tq hQ l14 hkey3 hl, hT.new hI l14 hkey3 hl h7.1 ((zc 2 (by omega)).trans e2) ((zc 3 (by omega)).trans e3) ((zc 4 (by omega)).trans e4) ((zc 5 (by omega)).trans e5), by rw [tx_lo (by omega) (by omega)]; exact hq⟩
      · rw [e3'] at nk
        obtain ⟨p1, p2, p3, p4, p5, p6⟩ := i3 nk
        rw [zo 98 (by omega), e97, tx_7, nN_nI (by omega)]
        exact ⟨p1.of (fun a n1 n2 => zo a (by omega)) p2.nd.2, p2, p3, p4.old p2 p6 ((zc 2 (by omega)).trans e2) ((zc 3 (by omega)).trans e3) ((zc 4 (by omega)).trans e4) ((zc 5 (by omega)).trans e5), p5, by omega⟩
theorem kd9 : (kd0 9).2 = 96 := by decide +kernel
theorem st_text (w : Wt) {k : Nat} (hk : 820 ≤ k) (h : Mm) (hR : Rel h) : St w k MX7_text MX8_text [] h := by
  have ht3 := hR.2.2.1.2.2.1
  refine St.junk (h' := wr h 9 (h 101)) (fun a ha j hj => ?_) (st_text0 w hk _ (hR.rt (fun a n => wrN (by omega)) (by rw [wrN (by decide)]) (by rw [wrN (by decide)]) ⟨?_, ?_, ?_, ?_⟩) (by rw [wrS, wrN (by decide)]))
  · by_cases e : a = 9
    · rw [e] at hj ⊢
      rw [wrS]
      rw [kd9] at hj
      exact (ht3 j hj).1
    · rw [wrN e]
  · rw [wrN (by decide), wrN (by decide)]; exact hR.2.2.1.1
  · rw [wrN (by decide)]; exact hR.2.2.1.2.1
  · rw [wrS, wrN (by decide)]; exact fun j hj => ⟨rfl, (ht3 j hj).2⟩
  · unfold KR; rw [wrN (by decide), wrN (by decide)]; exact hR.2.2.1.2.2.2
