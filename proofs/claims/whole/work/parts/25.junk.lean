/-! beyond a row's end nothing counts -/
def wr (h : Mm) (a : Nat) (f : Vc) : Mm := fun b => if b = a then f else h b
theorem wrS (h : Mm) (a : Nat) (f : Vc) : wr h a f a = f := if_pos rfl
theorem wrN {h : Mm} {a b : Nat} {f : Vc} (hb : b ≠ a) : wr h a f b = h b := if_neg hb
theorem Ag.wr {S : List Nat} {h : Mm} {a : Nat} {f : Vc} (ha : a ∈ S) : Ag S h (wr h a f) := fun b hb => wrN (fun e => hb (e ▸ ha))
theorem vl_eq {h h' : Mm} {a k : Nat} (e : h a k = h' a k) : vl h a k = vl h' a k := by
  unfold vl
  rw [e]
theorem arrV_eq {c : ClassId} {n : Nat} {f g : Nat → Value} (h : ∀ k, k < n → f k = g k) : arrV c n f = arrV c n g := by
  unfold arrV
  congr 1
  apply Array.ext
  · simp
  · intro i h1 h2
    simp at h1
    simp [h i h1]
theorem Hd_junk {w : Wt} {h h' : Mm} {H : Heap} (e : ∀ a, a < 118 → ∀ k, k < (kd0 a).2 → h a k = h' a k) (hH : Hd w (mu h) H) : Hd w (mu h') H := by
  refine ⟨hH.1, hH.2.1, fun id hid => ?_⟩
  have hid' : id < 118 := hid
  have hc := hH.2.2 id hid
  refine ⟨fun ht => ⟨(hc.1 ht).1, (hc.1 ht).2.to (fun k hk => ?_)⟩, fun ht => ?_⟩
  · show cv w (vl h id k) = cv w (vl h' id k)
    rw [vl_eq (e id hid' k hk)]
  · rw [hc.2 ht]
    congr 1
    refine arrV_eq (fun k hk => ?_)
    show cv w (vl h id k) = cv w (vl h' id k)
    rw [vl_eq (e id hid' k hk)]
theorem Wp.junk {w : Wt} {k : Nat} {M : Mt} {Q : Option Value → Mm → Prop} {pc : Nat} {L : List (Option Value)} {st : List Value} {h h' : Mm} (e : ∀ a, a < 118 → ∀ k, k < (kd0 a).2 → h a k = h' a k) (hh : Wp w k M Q pc L st h') : Wp w k M Q pc L st h := by
  intro p ev R s m args below meth c cells slots Z X hc hs hZ H locs ls hH hS hL
  exact hh p ev R s m args below meth c cells slots Z X hc hs hZ H locs ls (Hd_junk e hH) hS hL
section G7
variable {w : Wt} {k : Nat} {M : Mt} {Q : Option Value → Mm → Prop} {pc : Nat} {L : List (Option Value)} {st : List Value} {h : Mm}
theorem p_callVo {M' : Mt} {k' np idx a t : Nat} {as rest : List Value} {Q' : Option Value → Mm → Prop} (hO : Ok w k' M' (.ref a :: as) h Q') (hr : ∀ r h', Q' r h' → r = none) (hw : KV (m_y M).cls idx M' t np) (hd : decode (m_c M) pc = .ok (.invokevirtual idx, 3)) (ha : a < 118) (hkd : (kd0 a).1 = t) (hk : k' + 1 ≤ k) (hst : st = as.reverse ++ .ref a :: rest) (hn : as.length = np) (hcat : as.all (fun v => Nat.beq v.category 1) = true) (hnl : Nat.ble (np + 1) (m_n M') = true) (hrest : Nat.ble (rest.map fun v => v.category).sum 8 = true) (kk : ∀ h', Q' none h' → Wp w k M Q (pc + 3) L rest h') : Wp w k M Q pc L st h :=
  p_callV hO hw hd ha hkd hk hst hn hcat hnl hrest (fun r h' q => by have e := hr r h' q; subst e; exact kk h' q)
theorem p_callVi {M' : Mt} {k' np idx a t : Nat} {v : Int32} {as rest : List Value} {Q' : Option Value → Mm → Prop} (hO : Ok w k' M' (.ref a :: as) h Q') (hr : ∀ r h', Q' r h' → r = some (.int v)) (hw : KV (m_y M).cls idx M' t np) (hd : decode (m_c M) pc = .ok (.invokevirtual idx, 3)) (ha : a < 118) (hkd : (kd0 a).1 = t) (hk : k' + 1 ≤ k) (hst : st = as.reverse ++ .ref a :: rest) (hn : as.length = np) (hcat : as.all (fun v => Nat.beq v.category 1) = true) (hnl : Nat.ble (np + 1) (m_n M') = true) (hrest : Nat.ble (rest.map fun v => v.category).sum 8 = true) (kk : ∀ h', Q' (some (.int v)) h' → Wp w k M Q (pc + 3) L (.int v :: rest) h') : Wp w k M Q pc L st h :=
  p_callV hO hw hd ha hkd hk hst hn hcat hnl hrest (fun r h' q => by have e := hr r h' q; subst e; exact kk h' q)
end G7
