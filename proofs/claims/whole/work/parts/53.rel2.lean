/-! THE TWO SIDE BY SIDE -/
def RN (h : Mm) : Prop := PR 11 h (h 97) ∧ Iv (h 97) ∧ Tq (h 97) ∧ TR h (h 97) ∧ In (h 97 2) 9999
def RI (h : Mm) : Prop := h 0 9 = h 96 3 ∧ (h 96 3 = 0 ∨ h 96 3 = 1) ∧ (¬ h 96 3 = 0 → PR 29 h (h 98) ∧ Iv (h 98) ∧ Tq (h 98) ∧ TR h (h 98) ∧ In (h 98 2) 9999 ∧ nN (h 98 7) ≤ nN (h 97 7))
def RT (h : Mm) : Prop := h 8 1 = h 96 6 ∧ In (h 96 6) 96 ∧ (∀ k, k < 96 → h 9 k = h 101 k ∧ In (h 101 k) 255) ∧ KR h
def RS (h : Mm) : Prop := ∀ s, s < 4 → h (66 + 2 * s) 1 = h 109 s ∧ h (66 + 2 * s) 2 = h 110 s ∧ (∀ k, k < 24 → h (66 + 2 * s + 1) k = h 111 (24 * s + k)) ∧ (h 109 s = Int32.ofInt (-1) ∨ h 109 s = nI 0 ∨ h 109 s = nI 1) ∧ In (h 110 s) 24
def RSl (h : Mm) : Prop := ∀ s, s < 5 → h (75 + 4 * s) 0 = h 112 s ∧ In (h 112 s) 3 ∧ (h 112 s = nI 1 → h (76 + 4 * s) 0 = h 113 s ∧ In (h 113 s) 5 ∧ wV (h (76 + 4 * s)) = h 114 s) ∧ (h 112 s = nI 2 → h (77 + 4 * s) 2 = h 113 s ∧ In (h 113 s) 24 ∧ ∀ k, k < 24 → h (77 + 4 * s + 1) k = h 115 (24 * s + k)) ∧ (h 112 s = nI 3 → h (75 + 4 * s) 1 = h 113 s)
def RW (h : Mm) : Prop := h 0 8 = h 96 32 ∧ In (h 96 32) 60 ∧ ∀ k, k < 60 → h 95 k = h 117 k
def Rel (h : Mm) : Prop := RN h ∧ RI h ∧ RT h ∧ RS h ∧ RSl h ∧ RW h
theorem RT.of {h h' : Mm} (hR : RT h) (e1 : h' 8 1 = h 8 1) (e2 : h' 96 6 = h 96 6) (e3 : h' 9 = h 9) (e4 : h' 101 = h 101) (e5 : h' 102 = h 102) (e6 : h' 103 = h 103) : RT h' := by
  unfold RT KR
  rw [e1, e2, e3, e4, e5, e6]
  exact hR
theorem RS.of {h h' : Mm} (hR : RS h) (e : ∀ a, 66 ≤ a → a ≤ 73 → h' a = h a) (e1 : h' 109 = h 109) (e2 : h' 110 = h 110) (e3 : h' 111 = h 111) : RS h' := by
  intro s hs
  rw [e1, e2, e3, e (66 + 2 * s) (by omega) (by omega), e (66 + 2 * s + 1) (by omega) (by omega)]
  exact hR s hs
theorem RSl.of {h h' : Mm} (hR : RSl h) (e : ∀ a, 75 ≤ a → a ≤ 94 → h' a = h a) (e1 : h' 112 = h 112) (e2 : h' 113 = h 113) (e3 : h' 114 = h 114) (e4 : h' 115 = h 115) : RSl h' := by
  intro s hs
  rw [e1, e2, e3, e4, e (75 + 4 * s) (by omega) (by omega), e (76 + 4 * s) (by omega) (by omega), e (77 + 4 * s) (by omega) (by omega), e (77 + 4 * s + 1) (by omega) (by omega)]
  exact hR s hs
theorem RW.of {h h' : Mm} (hR : RW h) (e1 : h' 0 8 = h 0 8) (e2 : h' 96 32 = h 96 32) (e3 : h' 95 = h 95) (e4 : h' 117 = h 117) : RW h' := by
  unfold RW
  rw [e1, e2, e3, e4]
  exact hR
theorem RI.of {h h' : Mm} (hR : RI h) (e1 : h' 0 9 = h 0 9) (e2 : h' 96 3 = h 96 3) (e3 : h' 98 = h 98) (e4 : ∀ a, 29 ≤ a → a ≤ 46 → h' a = h a) (e5 : ∀ a, 2 ≤ a → a ≤ 5 → h' a = h a) (e7 : nN (h 97 7) ≤ nN (h' 97 7)) : RI h' := by
  unfold RI
  rw [e1, e2, e3]
  obtain ⟨a, b, c⟩ := hR
  refine ⟨a, b, fun q => ?_⟩
  obtain ⟨c1, c2, c3, c4, c5, c6⟩ := c q
  exact ⟨c1.of (fun a h1 h2 => e4 a h1 (by omega)) c2.nd.2, c2, c3, c4.of e5 (fun _ _ => rfl) rfl, c5, Nat.le_trans c6 e7⟩
/-- class and reference answer alike -/
def St (w : Wt) (k : Nat) (Mc Mr : Mt) (as : List Value) (h : Mm) : Prop := Ok w k Mc (.ref 0 :: as) h (fun r h1 => ∃ v, r = some (.int v) ∧ Ok w k Mr (.ref 96 :: as) h1 (fun r2 h2 => r2 = some (.int v) ∧ Rel h2))
theorem St.mk {w : Wt} {k : Nat} {Mc Mr : Mt} {as : List Value} {h : Mm} {Q : Option Value → Mm → Prop} (hc : Ok w k Mc (.ref 0 :: as) h Q) (hr : ∀ r h1, Q r h1 → ∃ v, r = some (.int v) ∧ Ok w k Mr (.ref 96 :: as) h1 (fun r2 h2 => r2 = some (.int v) ∧ Rel h2)) : St w k Mc Mr as h := hc.imp hr
/-- both only look -/
theorem Rel.pure {h h1 h2 : Mm} (hR : Rel h) (hF : Fp 47 h h1) (hA : Ag [99, 100, 107, 108] h1 h2) : Rel h2 := by
  have e : ∀ a, a ≠ 6 → a ≠ 7 → ¬ (47 ≤ a ∧ a ≤ 64) → a ≠ 99 → a ≠ 100 → a ≠ 107 → a ≠ 108 → h2 a = h a := fun a h1 h2 h3 h4 h5 h6 h7 => (hA a (by simp; omega)).trans (hF a (by omega) h1 h2)
  have z : ∀ a, a ≠ 6 ∧ a ≠ 7 ∧ ¬ (47 ≤ a ∧ a ≤ 64) ∧ a ≠ 99 ∧ a ≠ 100 ∧ a ≠ 107 ∧ a ≠ 108 → h2 a = h a := fun a q => e a q.1 q.2.1 q.2.2.1 q.2.2.2.1 q.2.2.2.2.1 q.2.2.2.2.2.1 q.2.2.2.2.2.2
  obtain ⟨r1, r2, r3, r4, r5, r6⟩ := hR
  have e97 := z 97 (by omega)
  have e96 := z 96 (by omega)
  have e0 := z 0 (by omega)
  refine ⟨?_, r2.of (by rw [e0]) (by rw [e96]) (z 98 (by omega)) (fun a h1 h2 => z a (by omega)) (fun a h1 h2 => z a (by omega)) (by rw [e97]; exact Nat.le_refl _), r3.of (by rw [z 8 (by omega)]) (by rw [e96]) (z 9 (by omega)) (z 101 (by omega)) (z 102 (by omega)) (z 103 (by omega)), r4.of (fun a h1 h2 => z a (by omega)) (z 109 (by omega)) (z 110 (by omega)) (z 111 (by omega)), r5.of (fun a h1 h2 => z a (by omega)) (z 112 (by omega)) (z 113 (by omega)) (z 114 (by omega)) (z 115 (by omega)), r6.of (by rw [e0]) (by rw [e96]) (z 95 (by omega)) (z 117 (by omega))⟩
  obtain ⟨a, b, c, d, f⟩ := r1
  unfold RN
  rw [e97]
  exact ⟨a.of (fun a h1 h2 => z a (by omega)) b.nd.2, b, c, d.of (fun a h1 h2 => z a (by omega)) (fun _ _ => rfl) rfl, f⟩
theorem St.pure {w : Wt} {k : Nat} {Mc Mr : Mt} {as : List Value} {h : Mm} {v : Int32} (hR : Rel h) (hc : Ok w k Mc (.ref 0 :: as) h (fun r h1 => r = some (.int v) ∧ Fp 47 h h1)) (hr : ∀ h1, Fp 47 h h1 → Ok w k Mr (.ref 96 :: as) h1 (fun r h2 => r = some (.int v) ∧ Ag [99, 100, 107, 108] h1 h2)) : St w k Mc Mr as h :=
  St.mk hc (fun r h1 ⟨e, hF⟩ => ⟨v, e, (hr h1 hF).imp (fun r2 h2 q => ⟨q.1, hR.pure hF q.2⟩)⟩)
/-- both look at nothing: a word -/
theorem St.word {w : Wt} {k : Nat} {Mc Mr : Mt} {as : List Value} {h : Mm} {v : Int32} (hR : Rel h) (hc : Ok w k Mc (.ref 0 :: as) h (Rv v h)) (hr : Ok w k Mr (.ref 96 :: as) h (Rv v h)) : St w k Mc Mr as h :=
  St.mk hc (fun r h1 ⟨e, e2⟩ => ⟨v, e, by rw [e2]; exact hr.imp (fun r2 h2 q => ⟨q.1, by rw [q.2]; exact hR⟩)⟩)
/-- both change the passage that is now -/
theorem Rel.now {h h1 h2 : Mm} {N : Vc} (hR : Rel h) (hP : PR 11 h1 N) (hF : Fp 11 h h1) (e97 : h2 97 = N) (hA : Ag [97, 99, 107, 108] h1 h2) (hI : Iv N) (hq : In (N 2) 9999) (hx : ∀ j, (70 ≤ j ∨ j = 7) → N j = h 97 j) : Rel h2 := by
  have z : ∀ a, a ≠ 6 ∧ a ≠ 7 ∧ ¬ (11 ≤ a ∧ a ≤ 28) ∧ a ≠ 97 ∧ a ≠ 99 ∧ a ≠ 107 ∧ a ≠ 108 → h2 a = h a := fun a q => (hA a (by simp; omega)).trans (hF a (by omega) q.1 q.2.1)
  obtain ⟨r1, r2, r3, r4, r5, r6⟩ := hR
  have e96 := z 96 (by omega)
  have e0 := z 0 (by omega)
  refine ⟨?_, r2.of (by rw [e0]) (by rw [e96]) (z 98 (by omega)) (fun a h1 h2 => z a (by omega)) (fun a h1 h2 => z a (by omega)) (by rw [e97, hx 7 (Or.inr rfl)]; exact Nat.le_refl _), r3.of (by rw [z 8 (by omega)]) (by rw [e96]) (z 9 (by omega)) (z 101 (by omega)) (z 102 (by omega)) (z 103 (by omega)), r4.of (fun a h1 h2 => z a (by omega)) (z 109 (by omega)) (z 110 (by omega)) (z 111 (by omega)), r5.of (fun a h1 h2 => z a (by omega)) (z 112 (by omega)) (z 113 (by omega)) (z 114 (by omega)) (z 115 (by omega)), r6.of (by rw [e0]) (by rw [e96]) (z 95 (by omega)) (z 117 (by omega))⟩
  obtain ⟨a, b, c, d, f⟩ := r1
  unfold RN
  rw [e97]
  exact ⟨hP.of (fun a h1 h2 => hA a (by simp; omega)) hI.nd.2, hI, c.of (fun j hj => hx j (Or.inl hj)), d.of (fun a h1 h2 => z a (by omega)) (fun j hj => hx j (Or.inl hj)) (hx 7 (Or.inr rfl)), hq⟩
theorem St.now {w : Wt} {k : Nat} {Mc Mr : Mt} {as : List Value} {h : Mm} {v : Int32} {N : Vc} (hR : Rel h) (hc : Ok w k Mc (.ref 0 :: as) h (fun r h1 => r = some (.int v) ∧ PR 11 h1 N ∧ Fp 11 h h1)) (hr : ∀ h1, Fp 11 h h1 → Ok w k Mr (.ref 96 :: as) h1 (fun r h2 => r = some (.int v) ∧ h2 97 = N ∧ Ag [97, 99, 107, 108] h1 h2)) (hI : Iv N) (hq : In (N 2) 9999) (hx : ∀ j, (70 ≤ j ∨ j = 7) → N j = h 97 j) : St w k Mc Mr as h :=
  St.mk hc (fun r h1 ⟨e, hP, hF⟩ => ⟨v, e, (hr h1 hF).imp (fun r2 h2 q => ⟨q.1, hR.now hP hF q.2.1 q.2.2 hI hq hx⟩)⟩)
theorem up_now {h1 : Mm} {j : Nat} {x : Int32} : ∀ {r : Option Value} {h2 : Mm} {v : Int32}, (r = some (.int v) ∧ h2 = up h1 97 j x) → (r = some (.int v) ∧ h2 97 = upd (h1 97) j x ∧ Ag [97, 99, 107, 108] h1 h2) := fun {r h2 v} q => ⟨q.1, by rw [q.2, upS], by rw [q.2]; exact Ag.up (by decide)⟩
theorem In_upd {N : Vc} {j : Nat} {x : Int32} (h : In (N 2) 9999) (hj : j ≠ 2) : In (upd N j x 2) 9999 := by rw [upd_n (Ne.symm hj)]; exact h
