/-! rows that read and write the memory -/
def Um (u : Mu) (a k : Nat) (v : Value) : Mu := (u.1, u.2.1, fun b j => if b = a ∧ j = k then v else u.2.2 b j)
theorem ad_lt {w : Wt} {u : Mu} {H : Heap} (h : Hd w u H) {a : Nat} (ha : a < u.1) : ad w a = w_b w + a := by
  unfold ad
  rw [if_pos (by have := h.2.1; omega)]
theorem cv_lt {w : Wt} {u : Mu} {H : Heap} (h : Hd w u H) {a : Nat} (ha : a < u.1) : cv w (.ref a) = .ref (w_b w + a) := by
  show Value.ref (ad w a) = _
  rw [ad_lt h ha]
theorem cok.kept {w : Wt} {t n a : Nat} {f : Nat → Value} {H H' : Heap} (h : cok w t n f a H) (hq : H'[a]? = H[a]?) : cok w t n f a H' :=
  ⟨fun ht => ⟨(h.1 ht).1, (h.1 ht).2.kept hq⟩, fun ht => by rw [hq]; exact h.2 ht⟩
theorem Hd.put {w : Wt} {u : Mu} {H H' : Heap} (h : Hd w u H) {a k : Nat} {v : Value} (hz : H'.size = H.size) (oq : ∀ q : Nat, q ≠ w_b w + a → H'[q]? = H[q]?) (hc : cok w (u.2.1 a).1 (u.2.1 a).2 (fun j => if j = k then v else u.2.2 a j) (w_b w + a) H') : Hd w (Um u a k v) H' := by
  refine ⟨by rw [hz]; exact h.1, h.2.1, fun id hid => ?_⟩
  by_cases e : id = a
  · subst e
    have e2 : (Um u id k v).2.2 id = fun j => if j = k then v else u.2.2 id j := by funext j; simp [Um]
    rw [e2]
    exact hc
  · have e2 : (Um u a k v).2.2 id = u.2.2 id := by funext j; simp [Um, e]
    rw [e2]
    exact (h.2.2 id hid).kept (oq _ (by omega))
/-- the classes' rows -/
def CF (t : Nat) : Prop := ∃ (C : String) (T : u_T) (N : Nat) (ty : Nat → FieldType), vwCl[t]? = some (C, T, N) ∧ (∀ x ∈ u_ws C T N, x ∈ tbG) ∧ (∀ k, k < N → parseFieldDescriptor (T k).2.2.1 = some (ty k)) ∧ (∀ a, a < N → ∀ b, b < N → a ≠ b → (T a).2.1 ≠ (T b).2.1) ∧ ∀ k, k < N → (T k).1 = C
theorem cf0 : CF 0 := ⟨RX0, TX0, 3, tyX0, rfl, by decide +kernel, tyX0_ok, nmX0, by decide +kernel⟩
theorem cf1 : CF 1 := ⟨RX1, TX1, 5, tyX1, rfl, by decide +kernel, tyX1_ok, nmX1, by decide +kernel⟩
theorem cf2 : CF 2 := ⟨RX2, TX2, 12, tyX2, rfl, by decide +kernel, tyX2_ok, nmX2, by decide +kernel⟩
theorem cf3 : CF 3 := ⟨RX3, TX3, 12, tyX3, rfl, by decide +kernel, tyX3_ok, nmX3, by decide +kernel⟩
theorem cf4 : CF 4 := ⟨RX4, TX4, 3, tyX4, rfl, by decide +kernel, tyX4_ok, nmX4, by decide +kernel⟩
theorem cf5 : CF 5 := ⟨RX5, TX5, 4, tyX5, rfl, by decide +kernel, tyX5_ok, nmX5, by decide +kernel⟩
theorem cf6 : CF 6 := ⟨RX6, TX6, 6, tyX6, rfl, by decide +kernel, tyX6_ok, nmX6, by decide +kernel⟩
theorem cf7 : CF 7 := ⟨RX7, TX7, 10, tyX7, rfl, by decide +kernel, tyX7_ok, nmX7, by decide +kernel⟩
theorem cf8 : CF 8 := ⟨RX8, TX8, 33, tyX8, rfl, by decide +kernel, tyX8_ok, nmX8, by decide +kernel⟩
theorem cfs (t : Nat) (h : t < 9) : CF t := by
  match t, h with
  | 0, _ => exact cf0
  | 1, _ => exact cf1
  | 2, _ => exact cf2
  | 3, _ => exact cf3
  | 4, _ => exact cf4
  | 5, _ => exact cf5
  | 6, _ => exact cf6
  | 7, _ => exact cf7
  | 8, _ => exact cf8
  | t + 9, h => exact absurd h (by omega)
/-- a field by its entry in a class's pool: class t's slot kf -/
def FO (own : String) (idx t kf : Nat) : Prop := t < 9 ∧ ∀ C T N, vwCl[t]? = some (C, T, N) → kf < N ∧ Cond.fieldLink own idx C (T kf).2.1 (T kf).2.2.1 ∈ tbG
/-- the same, of a field that isn't final, of type ty -/
def FP (own : String) (idx t kf : Nat) (ty : FieldType) : Prop := FO own idx t kf ∧ ∀ C T N, vwCl[t]? = some (C, T, N) → (T kf).2.2.2 = false ∧ parseFieldDescriptor (T kf).2.2.1 = some ty
/-- the same, of a final one -/
def FF (own : String) (idx t kf : Nat) (ty : FieldType) : Prop := FO own idx t kf ∧ ∀ C T N, vwCl[t]? = some (C, T, N) → (T kf).2.2.2 = true ∧ parseFieldDescriptor (T kf).2.2.1 = some ty ∧ C = own
section G2
variable {w : Wt} {k bc bs : Nat} {M : Mt} {Q : Option Value → Mu → Prop} {pc : Nat} {L : List (Option Value)} {st : List Value} {u : Mu}
theorem g_get {t kf idx a : Nat} (hd : decode (m_c M) pc = .ok (.getfield idx, 3)) (hf : FO (m_y M).cls idx t kf) (ha : a < u.1) (hkd : (u.2.1 a).1 = t) (h : Gp w k bc bs M Q (pc + 3) L (u.2.2 a kf :: st) u) : Gp w k bc bs M Q pc L (.ref a :: st) u := by
  intro p e R s m args below meth c cells slots Z X hc hs hZ H locs ls hH hS hL
  have hco := hH.2.2 a ha
  obtain ⟨ht9, hf⟩ := hf
  obtain ⟨C, T, N, ty, hcl, hin, hty, hnm, hT⟩ := cfs t ht9
  obtain ⟨hk, hl⟩ := hf C T N hcl
  obtain ⟨⟨r, hr, hrn⟩, cell, q1, q2, q3, q4⟩ := hco.1 (by omega)
  rw [hkd] at hr
  cases hcl.symm.trans hr
  obtain ⟨hSl, hfc, kC, hkC, hkind⟩ := X.kw.1.1 t _ hcl
  obtain ⟨cf, kf', fi, f, hi, hsl⟩ := hSl kf hk
  show W p (w_l w) e R s m args below meth c H locs cells slots Z (F0 m pc ls (cv w (.ref a) :: st.map (cv w)))
  rw [cv_lt hH ha]
  refine W.getf X.1 X.2.1 X.own (X.ts _ hl) (by rw [← hT kf hk]; exact hi) (u_facts hfc hkC (u_lays X.ts hin hk) hi).1 q1 (by rw [q3]; exact fun h => by cases h) (v := cv w (u.2.2 a kf)) ?_ rfl rfl hd (h p e R s m args below meth c cells slots Z X hc hs hZ H locs ls hH hS hL)
  rw [hsl]
  have := q4 kf (by rw [← hrn]; exact hk)
  rw [hkd] at this
  exact this
theorem g_put {t kf idx a : Nat} {v : Value} {ty : FieldType} (hd : decode (m_c M) pc = .ok (.putfield idx, 3)) (hf : FP (m_y M).cls idx t kf ty) (ha : a < u.1) (hkd : (u.2.1 a).1 = t) (hn : narrow ty (cv w v) = cv w v) (hfit : fits ty (cv w v) = true) (h : Gp w k bc bs M Q (pc + 3) L st (Um u a kf v)) : Gp w k bc bs M Q pc L (v :: .ref a :: st) u := by
  intro p e R s m args below meth c cells slots Z X hc hs hZ H locs ls hH hS hL
  have hco := hH.2.2 a ha
  obtain ⟨⟨ht9, hf⟩, hf2⟩ := hf
  obtain ⟨C, T, N, ty0, hcl, hin, hty, hnm, hT⟩ := cfs t ht9
  obtain ⟨hk, hl⟩ := hf C T N hcl
  obtain ⟨hfin, hpd⟩ := hf2 C T N hcl
  obtain ⟨⟨r, hr, hrn⟩, cell, q1, q2, q3, q4⟩ := hco.1 (by omega)
  rw [hkd] at hr
  cases hcl.symm.trans hr
  have hap := va_apart (own := C) X.ts hin ty0 hty hnm X.kw.1 hcl
  obtain ⟨hSl, hfc, kC, hkC, hkind⟩ := X.kw.1.1 t _ hcl
  obtain ⟨cf, kf', fi, f, hi, hsl⟩ := hSl kf hk
  have hlay := X.ts _ (hin _ (u_in_lay hk))
  unfold u_lay at hlay
  rw [if_neg (by rw [hfin]; decide)] at hlay
  have hst := (u_facts hfc hkC (u_lays X.ts hin hk) hi).1
  have h6 := u_store hfc hkC hkind hlay hi hpd hn hfit
  have hrn' : N = (u.2.1 a).2 := hrn
  rw [hkd] at q2 q4
  show W p (w_l w) e R s m args below meth c H locs cells slots Z (F0 m pc ls (cv w v :: cv w (.ref a) :: st.map (cv w)))
  rw [cv_lt hH ha]
  refine W.putK X.1 X.2.1 (f := f) ⟨X.own, X.ts _ hl, ⟨_, _, _, by rw [← hT kf hk]; exact hi⟩, hst⟩ (by rw [q2]; exact h6) q1 q3 (by rw [hsl]; exact k2_hasslot (q4 kf (by omega))) rfl rfl hd fun H' e1 e2 e3 => ?_
  rw [hsl] at e1
  refine h p e R s m args below meth c cells slots Z X hc hs hZ H' _ ls (hH.put e2 e3 ⟨fun _ => ⟨⟨_, by rw [hkd]; exact hcl, hrn⟩, ?_⟩, fun h10 => by omega⟩) (hS.put e2 e3 (by show w_b w ≤ _; omega)) hL
  rw [hkd]
  refine t_OB.to (V := updV (fun j => cv w (u.2.2 a j)) kf (cv w v)) ⟨_, e1, q2, q3, t_set q4 (fun x y hx hy => hap x y (by omega) (by omega)) (by omega) (cv w v)⟩ (fun j _ => ?_)
  unfold updV
  by_cases hj : j = kf <;> simp [hj]
theorem g_putF {t kf idx a : Nat} {v : Value} {ty : FieldType} (hd : decode (m_c M) pc = .ok (.putfield idx, 3)) (hf : FF (m_y M).cls idx t kf ty) (hini : (m_y M).name = "<init>") (ha : a < u.1) (hkd : (u.2.1 a).1 = t) (hn : narrow ty (cv w v) = cv w v) (hfit : fits ty (cv w v) = true) (h : Gp w k bc bs M Q (pc + 3) L st (Um u a kf v)) : Gp w k bc bs M Q pc L (v :: .ref a :: st) u := by
  intro p e R s m args below meth c cells slots Z X hc hs hZ H locs ls hH hS hL
  have hco := hH.2.2 a ha
  obtain ⟨⟨ht9, hf⟩, hf2⟩ := hf
  obtain ⟨C, T, N, ty0, hcl, hin, hty, hnm, hT⟩ := cfs t ht9
  obtain ⟨hk, hl⟩ := hf C T N hcl
  obtain ⟨hfin, hpd, hCo⟩ := hf2 C T N hcl
  obtain ⟨⟨r, hr, hrn⟩, cell, q1, q2, q3, q4⟩ := hco.1 (by omega)
  rw [hkd] at hr
  cases hcl.symm.trans hr
  have hap := va_apart (own := C) X.ts hin ty0 hty hnm X.kw.1 hcl
  obtain ⟨hSl, hfc, kC, hkC, hkind⟩ := X.kw.1.1 t _ hcl
  obtain ⟨cf, kf', fi, f, hi, hsl⟩ := hSl kf hk
  have hlay := X.ts _ (hin _ (u_in_lay hk))
  unfold u_lay at hlay
  rw [if_pos hfin] at hlay
  have hst := (u_facts hfc hkC (u_lays X.ts hin hk) hi).1
  have hcf : m.cls = cf := by
    obtain ⟨_, _, c', _, _, _, -, -, hf', -, -, -, hown2, -⟩ := Cond.laysFinal_spec hlay
    have e1 : c' = cf := by have := hi.symm.trans hf'; simp at this; exact this.1.symm
    rw [hT kf hk, hCo] at hown2
    rw [← e1]; exact Option.some.inj (X.own.symm.trans hown2)
  have h6 := u_fits hfc hkC hkind (Or.inr hlay) hi hpd hn hfit
  have hrn' : N = (u.2.1 a).2 := hrn
  rw [hkd] at q2 q4
  show W p (w_l w) e R s m args below meth c H locs cells slots Z (F0 m pc ls (cv w v :: cv w (.ref a) :: st.map (cv w)))
  rw [cv_lt hH ha]
  refine W.putFinK X.1 X.2.1 X.own (X.ts _ hl) (by rw [← hT kf hk]; exact hi) hst hcf (by rw [← hini]; exact X.2.2.2.2.2.2.1) (by rw [q2]; exact h6) q1 q3 (by rw [hsl]; exact k2_hasslot (q4 kf (by omega))) rfl rfl hd fun H' e1 e2 e3 => ?_
  rw [hsl] at e1
  refine h p e R s m args below meth c cells slots Z X hc hs hZ H' _ ls (hH.put e2 e3 ⟨fun _ => ⟨⟨_, by rw [hkd]; exact hcl, hrn⟩, ?_⟩, fun h10 => by omega⟩) (hS.put e2 e3 (by show w_b w ≤ _; omega)) hL
  rw [hkd]
  refine t_OB.to (V := updV (fun j => cv w (u.2.2 a j)) kf (cv w v)) ⟨_, e1, q2, q3, t_set q4 (fun x y hx hy => hap x y (by omega) (by omega)) (by omega) (cv w v)⟩ (fun j _ => ?_)
  unfold updV
  by_cases hj : j = kf <;> simp [hj]
/-- the rows' classes -/
theorem Kw.ar {s : State} (h : Kw w s) (i : Nat) {q : ClassId × FieldType} (hi : (atys w)[i]? = some q) : ArrOfT s q.1 q.2 ∧ va_RA s q.1 q.2 := h.1.2 i q hi
theorem at_row {a t n : Nat} {H : Heap} (hH : Hd w u H) (ha : a < u.1) (hkd : u.2.1 a = (t, n)) (ht : 10 ≤ t) : H[w_b w + a]? = some (arrV (w_c w t) n (fun j => cv w (u.2.2 a j))) := by
  have := (hH.2.2 a ha).2 (by rw [hkd]; exact ht)
  rw [hkd] at this
  exact this
theorem g_iald {a n : Nat} {i : Int32} (hd : decode (m_c M) pc = .ok (.iaload, 1)) (ha : a < u.1) (hkd : u.2.1 a = (10, n)) (hi : vp_in i n) (h : Gp w k bc bs M Q (pc + 1) L (u.2.2 a i.toNatClampNeg :: st) u) : Gp w k bc bs M Q pc L (.int i :: .ref a :: st) u := by
  intro p e R s m args below meth c cells slots Z X hc hs hZ H locs ls hH hS hL
  show W p (w_l w) e R s m args below meth c H locs cells slots Z (F0 m pc ls (.int i :: cv w (.ref a) :: st.map (cv w)))
  rw [cv_lt hH ha]
  have hlt : i.toNatClampNeg < n := Nat.not_le.mp fun q => hi (Or.inr q)
  exact W.iald (v := cv w (u.2.2 a i.toNatClampNeg)) X.1 X.2.1 (at_row hH ha hkd (by omega)) ((X.kw.ar 0 rfl).1 n _) (fun q => by cases q) (by rw [arrV_size]; exact hi) (by rw [arrV_read _ _ hlt]) rfl rfl hd (h p e R s m args below meth c cells slots Z X hc hs hZ H locs ls hH hS hL)
theorem g_cald {a n : Nat} {i : Int32} (hd : decode (m_c M) pc = .ok (.caload, 1)) (ha : a < u.1) (hkd : u.2.1 a = (11, n)) (hi : vp_in i n) (h : Gp w k bc bs M Q (pc + 1) L (u.2.2 a i.toNatClampNeg :: st) u) : Gp w k bc bs M Q pc L (.int i :: .ref a :: st) u := by
  intro p e R s m args below meth c cells slots Z X hc hs hZ H locs ls hH hS hL
  show W p (w_l w) e R s m args below meth c H locs cells slots Z (F0 m pc ls (.int i :: cv w (.ref a) :: st.map (cv w)))
  rw [cv_lt hH ha]
  have hlt : i.toNatClampNeg < n := Nat.not_le.mp fun q => hi (Or.inr q)
  exact W.cald (v := cv w (u.2.2 a i.toNatClampNeg)) X.1 X.2.1 (at_row hH ha hkd (by omega)) ((X.kw.ar 1 rfl).1 n _) (fun q => by cases q) (by rw [arrV_size]; exact hi) (by rw [arrV_read _ _ hlt]) rfl rfl hd (h p e R s m args below meth c cells slots Z X hc hs hZ H locs ls hH hS hL)
theorem g_zald {a n : Nat} {i : Int32} (hd : decode (m_c M) pc = .ok (.baload, 1)) (ha : a < u.1) (hkd : u.2.1 a = (12, n)) (hi : vp_in i n) (h : Gp w k bc bs M Q (pc + 1) L (u.2.2 a i.toNatClampNeg :: st) u) : Gp w k bc bs M Q pc L (.int i :: .ref a :: st) u := by
  intro p e R s m args below meth c cells slots Z X hc hs hZ H locs ls hH hS hL
  show W p (w_l w) e R s m args below meth c H locs cells slots Z (F0 m pc ls (.int i :: cv w (.ref a) :: st.map (cv w)))
  rw [cv_lt hH ha]
  have hlt : i.toNatClampNeg < n := Nat.not_le.mp fun q => hi (Or.inr q)
  exact W.zald (v := cv w (u.2.2 a i.toNatClampNeg)) X.1 X.2.1 (at_row hH ha hkd (by omega)) ((X.kw.ar 2 rfl).1 n _) (fun q => by cases q) (by rw [arrV_size]; exact hi) (by rw [arrV_read _ _ hlt]) rfl rfl hd (h p e R s m args below meth c cells slots Z X hc hs hZ H locs ls hH hS hL)
theorem g_aald {a t n : Nat} {i : Int32} (hd : decode (m_c M) pc = .ok (.aaload, 1)) (ha : a < u.1) (ht : 14 ≤ t ∧ t < 18) (hkd : u.2.1 a = (t, n)) (hi : vp_in i n) (h : Gp w k bc bs M Q (pc + 1) L (u.2.2 a i.toNatClampNeg :: st) u) : Gp w k bc bs M Q pc L (.int i :: .ref a :: st) u := by
  intro p e R s m args below meth c cells slots Z X hc hs hZ H locs ls hH hS hL
  show W p (w_l w) e R s m args below meth c H locs cells slots Z (F0 m pc ls (.int i :: cv w (.ref a) :: st.map (cv w)))
  rw [cv_lt hH ha]
  have hlt : i.toNatClampNeg < n := Nat.not_le.mp fun q => hi (Or.inr q)
  have har : ∃ C, ArrOfT s (w_c w t) (.object C) := by
    rcases (show t = 14 ∨ t = 15 ∨ t = 16 ∨ t = 17 by omega) with rfl | rfl | rfl | rfl
    · exact ⟨_, (X.kw.ar 3 rfl).1⟩
    · exact ⟨_, (X.kw.ar 4 rfl).1⟩
    · exact ⟨_, (X.kw.ar 5 rfl).1⟩
    · exact ⟨_, (X.kw.ar 6 rfl).1⟩
  obtain ⟨C, har⟩ := har
  exact W.aald (v := cv w (u.2.2 a i.toNatClampNeg)) X.1 X.2.1 (at_row hH ha hkd (by omega)) (har n _) rfl (fun q => by cases q) (by rw [arrV_size]; exact hi) (by rw [arrV_read _ _ hlt]) rfl rfl hd (h p e R s m args below meth c cells slots Z X hc hs hZ H locs ls hH hS hL)
theorem Hd.ast {a t n j : Nat} {v : Value} {H H' : Heap} (hH : Hd w u H) (ha : a < u.1) (hkd : u.2.1 a = (t, n)) (ht : 10 ≤ t) (e1 : H'[w_b w + a]? = some ((arrV (w_c w t) n (fun j => cv w (u.2.2 a j))).setSlot j (cv w v))) (e2 : H'.size = H.size) (e3 : ∀ q : Nat, q ≠ w_b w + a → H'[q]? = H[q]?) : Hd w (Um u a j v) H' := by
  refine hH.put e2 e3 ⟨fun h => by rw [hkd] at h; simp at h; omega, fun _ => ?_⟩
  rw [e1, arrV_store, hkd]
  congr 2
  funext q
  unfold updV
  by_cases hq : q = j <;> simp [hq]
theorem g_iast {a n : Nat} {i x : Int32} (hd : decode (m_c M) pc = .ok (.iastore, 1)) (ha : a < u.1) (hkd : u.2.1 a = (10, n)) (hi : vp_in i n) (h : Gp w k bc bs M Q (pc + 1) L st (Um u a i.toNatClampNeg (.int x))) : Gp w k bc bs M Q pc L (.int x :: .int i :: .ref a :: st) u := by
  intro p e R s m args below meth c cells slots Z X hc hs hZ H locs ls hH hS hL
  show W p (w_l w) e R s m args below meth c H locs cells slots Z (F0 m pc ls (.int x :: .int i :: cv w (.ref a) :: st.map (cv w)))
  rw [cv_lt hH ha]
  refine W.iast X.1 X.2.1 (at_row hH ha hkd (by omega)) ((X.kw.ar 0 rfl).1 n _) (fun q => by cases q) (by rw [arrV_size]; exact hi) rfl rfl hd fun H' e1 e2 e3 => ?_
  exact h p e R s m args below meth c cells slots Z X hc hs hZ H' _ ls (hH.ast (v := .int x) ha hkd (by omega) e1 e2 e3) (hS.put e2 e3 (by show w_b w ≤ _; omega)) hL
theorem g_cast {a n : Nat} {i x : Int32} (hd : decode (m_c M) pc = .ok (.castore, 1)) (ha : a < u.1) (hkd : u.2.1 a = (11, n)) (hi : vp_in i n) (hx : narrow .char (.int x) = .int x) (h : Gp w k bc bs M Q (pc + 1) L st (Um u a i.toNatClampNeg (.int x))) : Gp w k bc bs M Q pc L (.int x :: .int i :: .ref a :: st) u := by
  intro p e R s m args below meth c cells slots Z X hc hs hZ H locs ls hH hS hL
  show W p (w_l w) e R s m args below meth c H locs cells slots Z (F0 m pc ls (.int x :: .int i :: cv w (.ref a) :: st.map (cv w)))
  rw [cv_lt hH ha]
  refine W.cast X.1 X.2.1 (at_row hH ha hkd (by omega)) ((X.kw.ar 1 rfl).1 n _) (fun q => by cases q) (by rw [arrV_size]; exact hi) rfl rfl hd fun H' e1 e2 e3 => ?_
  rw [hx] at e1
  exact h p e R s m args below meth c cells slots Z X hc hs hZ H' _ ls (hH.ast (v := .int x) ha hkd (by omega) e1 e2 e3) (hS.put e2 e3 (by show w_b w ≤ _; omega)) hL
theorem g_zast {a n : Nat} {i x : Int32} (hd : decode (m_c M) pc = .ok (.bastore, 1)) (ha : a < u.1) (hkd : u.2.1 a = (12, n)) (hi : vp_in i n) (hx : narrow .boolean (.int x) = .int x) (h : Gp w k bc bs M Q (pc + 1) L st (Um u a i.toNatClampNeg (.int x))) : Gp w k bc bs M Q pc L (.int x :: .int i :: .ref a :: st) u := by
  intro p e R s m args below meth c cells slots Z X hc hs hZ H locs ls hH hS hL
  show W p (w_l w) e R s m args below meth c H locs cells slots Z (F0 m pc ls (.int x :: .int i :: cv w (.ref a) :: st.map (cv w)))
  rw [cv_lt hH ha]
  refine W.zast X.1 X.2.1 (at_row hH ha hkd (by omega)) ((X.kw.ar 2 rfl).1 n _) (fun q => by cases q) (by rw [arrV_size]; exact hi) rfl rfl hd fun H' e1 e2 e3 => ?_
  rw [hx] at e1
  exact h p e R s m args below meth c cells slots Z X hc hs hZ H' _ ls (hH.ast (v := .int x) ha hkd (by omega) e1 e2 e3) (hS.put e2 e3 (by show w_b w ≤ _; omega)) hL
end G2
