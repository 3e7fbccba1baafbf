/-! making objects and rows -/
def Mv (n : Nat) (V : Nat → Nat → Value) : Mu := (n, kd0, V)
def uV (V : Nat → Nat → Value) (a : Nat) (f : Nat → Value) : Nat → Nat → Value := fun b => if b = a then f else V b
def uE (V : Nat → Nat → Value) (a k : Nat) (v : Value) : Nat → Nat → Value := fun b j => if b = a ∧ j = k then v else V b j
theorem Un_Mv {n t len : Nat} {V : Nat → Nat → Value} {f : Nat → Value} (h : kd0 n = (t, len)) : Un (Mv n V) t len f = Mv (n + 1) (uV V n f) := by
  unfold Un Mv uV
  congr 2
  funext b
  show (if b = n then (t, len) else kd0 b) = kd0 b
  split
  · rename_i e; rw [e, h]
  · rfl
def dnl : List (List Bool) := [[false, false, false], [false, false, false, false, false], [true, true, true, true, false, false, false, false, false, false, false, false], [true, false, false, false, false, false, false, false, false, false, true, false], [true, false, false], [false, false, true, true], [true, true, true, true, true, true], [true, true, true, true, true, true, true, true, false, false], [true, true, true, false, true, true, false, false, false, false, false, false, false, true, true, true, false, false, true, false, true, true, true, true, true, true, true, true, true, true, true, true, false]]
def df (t j : Nat) : Value := if nth (nth dnl t []) j false = true then .null else .int 0
theorem df_cv (w : Wt) (t j : Nat) : cv w (df t j) = df t j := by unfold df; split <;> rfl
theorem dft0 : ∀ j, j < 3 → ∃ ty, parseFieldDescriptor (TX0 j).2.2.1 = some ty ∧ defaultValue ty = df 0 j := by
  intro j hj
  match j, hj with
  | 0, _ => exact ⟨.int, by decide +kernel, by decide +kernel⟩
  | 1, _ => exact ⟨.int, by decide +kernel, by decide +kernel⟩
  | 2, _ => exact ⟨.int, by decide +kernel, by decide +kernel⟩
  | j + 3, hj => exact absurd hj (by omega)
theorem dft1 : ∀ j, j < 5 → ∃ ty, parseFieldDescriptor (TX1 j).2.2.1 = some ty ∧ defaultValue ty = df 1 j := by
  intro j hj
  match j, hj with
  | 0, _ => exact ⟨.int, by decide +kernel, by decide +kernel⟩
  | 1, _ => exact ⟨.int, by decide +kernel, by decide +kernel⟩
  | 2, _ => exact ⟨.int, by decide +kernel, by decide +kernel⟩
  | 3, _ => exact ⟨.int, by decide +kernel, by decide +kernel⟩
  | 4, _ => exact ⟨.int, by decide +kernel, by decide +kernel⟩
  | j + 5, hj => exact absurd hj (by omega)
theorem dft2 : ∀ j, j < 12 → ∃ ty, parseFieldDescriptor (TX2 j).2.2.1 = some ty ∧ defaultValue ty = df 2 j := by
  intro j hj
  match j, hj with
  | 0, _ => exact ⟨.array (.object "SpoonPassage$Branch"), by decide +kernel, by decide +kernel⟩
  | 1, _ => exact ⟨.array (.object "SpoonPassage$Digger"), by decide +kernel, by decide +kernel⟩
  | 2, _ => exact ⟨.array .int, by decide +kernel, by decide +kernel⟩
  | 3, _ => exact ⟨.object "SpoonPassage$Texts", by decide +kernel, by decide +kernel⟩
  | 4, _ => exact ⟨.int, by decide +kernel, by decide +kernel⟩
  | 5, _ => exact ⟨.int, by decide +kernel, by decide +kernel⟩
  | 6, _ => exact ⟨.int, by decide +kernel, by decide +kernel⟩
  | 7, _ => exact ⟨.int, by decide +kernel, by decide +kernel⟩
  | 8, _ => exact ⟨.int, by decide +kernel, by decide +kernel⟩
  | 9, _ => exact ⟨.int, by decide +kernel, by decide +kernel⟩
  | 10, _ => exact ⟨.int, by decide +kernel, by decide +kernel⟩
  | 11, _ => exact ⟨.int, by decide +kernel, by decide +kernel⟩
  | j + 12, hj => exact absurd hj (by omega)
theorem dft3 : ∀ j, j < 12 → ∃ ty, parseFieldDescriptor (TX3 j).2.2.1 = some ty ∧ defaultValue ty = df 3 j := by
  intro j hj
  match j, hj with
  | 0, _ => exact ⟨.array .int, by decide +kernel, by decide +kernel⟩
  | 1, _ => exact ⟨.int, by decide +kernel, by decide +kernel⟩
  | 2, _ => exact ⟨.int, by decide +kernel, by decide +kernel⟩
  | 3, _ => exact ⟨.int, by decide +kernel, by decide +kernel⟩
  | 4, _ => exact ⟨.int, by decide +kernel, by decide +kernel⟩
  | 5, _ => exact ⟨.boolean, by decide +kernel, by decide +kernel⟩
  | 6, _ => exact ⟨.int, by decide +kernel, by decide +kernel⟩
  | 7, _ => exact ⟨.int, by decide +kernel, by decide +kernel⟩
  | 8, _ => exact ⟨.int, by decide +kernel, by decide +kernel⟩
  | 9, _ => exact ⟨.int, by decide +kernel, by decide +kernel⟩
  | 10, _ => exact ⟨.array .int, by decide +kernel, by decide +kernel⟩
  | 11, _ => exact ⟨.int, by decide +kernel, by decide +kernel⟩
  | j + 12, hj => exact absurd hj (by omega)
theorem dft4 : ∀ j, j < 3 → ∃ ty, parseFieldDescriptor (TX4 j).2.2.1 = some ty ∧ defaultValue ty = df 4 j := by
  intro j hj
  match j, hj with
  | 0, _ => exact ⟨.array .int, by decide +kernel, by decide +kernel⟩
  | 1, _ => exact ⟨.int, by decide +kernel, by decide +kernel⟩
  | 2, _ => exact ⟨.int, by decide +kernel, by decide +kernel⟩
  | j + 3, hj => exact absurd hj (by omega)
theorem dft5 : ∀ j, j < 4 → ∃ ty, parseFieldDescriptor (TX5 j).2.2.1 = some ty ∧ defaultValue ty = df 5 j := by
  intro j hj
  match j, hj with
  | 0, _ => exact ⟨.int, by decide +kernel, by decide +kernel⟩
  | 1, _ => exact ⟨.int, by decide +kernel, by decide +kernel⟩
  | 2, _ => exact ⟨.object "SpoonPassage$Digger", by decide +kernel, by decide +kernel⟩
  | 3, _ => exact ⟨.object "SpoonPassage$Sheet", by decide +kernel, by decide +kernel⟩
  | j + 4, hj => exact absurd hj (by omega)
theorem dft6 : ∀ j, j < 6 → ∃ ty, parseFieldDescriptor (TX6 j).2.2.1 = some ty ∧ defaultValue ty = df 6 j := by
  intro j hj
  match j, hj with
  | 0, _ => exact ⟨.array .int, by decide +kernel, by decide +kernel⟩
  | 1, _ => exact ⟨.array .int, by decide +kernel, by decide +kernel⟩
  | 2, _ => exact ⟨.array .int, by decide +kernel, by decide +kernel⟩
  | 3, _ => exact ⟨.array .int, by decide +kernel, by decide +kernel⟩
  | 4, _ => exact ⟨.array .int, by decide +kernel, by decide +kernel⟩
  | 5, _ => exact ⟨.array .int, by decide +kernel, by decide +kernel⟩
  | j + 6, hj => exact absurd hj (by omega)
theorem dft7 : ∀ j, j < 10 → ∃ ty, parseFieldDescriptor (TX7 j).2.2.1 = some ty ∧ defaultValue ty = df 7 j := by
  intro j hj
  match j, hj with
  | 0, _ => exact ⟨.object "SpoonPassage$Texts", by decide +kernel, by decide +kernel⟩
  | 1, _ => exact ⟨.object "SpoonPassage$Reader", by decide +kernel, by decide +kernel⟩
  | 2, _ => exact ⟨.object "SpoonPassage$Passage", by decide +kernel, by decide +kernel⟩
  | 3, _ => exact ⟨.object "SpoonPassage$Passage", by decide +kernel, by decide +kernel⟩
  | 4, _ => exact ⟨.object "SpoonPassage$Passage", by decide +kernel, by decide +kernel⟩
  | 5, _ => exact ⟨.array (.object "SpoonPassage$Sheet"), by decide +kernel, by decide +kernel⟩
  | 6, _ => exact ⟨.array (.object "SpoonPassage$Slot"), by decide +kernel, by decide +kernel⟩
  | 7, _ => exact ⟨.array .int, by decide +kernel, by decide +kernel⟩
  | 8, _ => exact ⟨.int, by decide +kernel, by decide +kernel⟩
  | 9, _ => exact ⟨.boolean, by decide +kernel, by decide +kernel⟩
  | j + 10, hj => exact absurd hj (by omega)
theorem dft8 : ∀ j, j < 33 → ∃ ty, parseFieldDescriptor (TX8 j).2.2.1 = some ty ∧ defaultValue ty = df 8 j := by
  intro j hj
  match j, hj with
  | 0, _ => exact ⟨.array .int, by decide +kernel, by decide +kernel⟩
  | 1, _ => exact ⟨.array .int, by decide +kernel, by decide +kernel⟩
  | 2, _ => exact ⟨.array .int, by decide +kernel, by decide +kernel⟩
  | 3, _ => exact ⟨.boolean, by decide +kernel, by decide +kernel⟩
  | 4, _ => exact ⟨.array .int, by decide +kernel, by decide +kernel⟩
  | 5, _ => exact ⟨.array .int, by decide +kernel, by decide +kernel⟩
  | 6, _ => exact ⟨.int, by decide +kernel, by decide +kernel⟩
  | 7, _ => exact ⟨.int, by decide +kernel, by decide +kernel⟩
  | 8, _ => exact ⟨.int, by decide +kernel, by decide +kernel⟩
  | 9, _ => exact ⟨.int, by decide +kernel, by decide +kernel⟩
  | 10, _ => exact ⟨.int, by decide +kernel, by decide +kernel⟩
  | 11, _ => exact ⟨.int, by decide +kernel, by decide +kernel⟩
  | 12, _ => exact ⟨.int, by decide +kernel, by decide +kernel⟩
  | 13, _ => exact ⟨.array .char, by decide +kernel, by decide +kernel⟩
  | 14, _ => exact ⟨.array .int, by decide +kernel, by decide +kernel⟩
  | 15, _ => exact ⟨.array .int, by decide +kernel, by decide +kernel⟩
  | 16, _ => exact ⟨.int, by decide +kernel, by decide +kernel⟩
  | 17, _ => exact ⟨.int, by decide +kernel, by decide +kernel⟩
  | 18, _ => exact ⟨.array .int, by decide +kernel, by decide +kernel⟩
  | 19, _ => exact ⟨.int, by decide +kernel, by decide +kernel⟩
  | 20, _ => exact ⟨.array .boolean, by decide +kernel, by decide +kernel⟩
  | 21, _ => exact ⟨.array .int, by decide +kernel, by decide +kernel⟩
  | 22, _ => exact ⟨.array .int, by decide +kernel, by decide +kernel⟩
  | 23, _ => exact ⟨.array .int, by decide +kernel, by decide +kernel⟩
  | 24, _ => exact ⟨.array .int, by decide +kernel, by decide +kernel⟩
  | 25, _ => exact ⟨.array .int, by decide +kernel, by decide +kernel⟩
  | 26, _ => exact ⟨.array .int, by decide +kernel, by decide +kernel⟩
  | 27, _ => exact ⟨.array .int, by decide +kernel, by decide +kernel⟩
  | 28, _ => exact ⟨.array .int, by decide +kernel, by decide +kernel⟩
  | 29, _ => exact ⟨.array .int, by decide +kernel, by decide +kernel⟩
  | 30, _ => exact ⟨.array .int, by decide +kernel, by decide +kernel⟩
  | 31, _ => exact ⟨.array .int, by decide +kernel, by decide +kernel⟩
  | 32, _ => exact ⟨.int, by decide +kernel, by decide +kernel⟩
  | j + 33, hj => exact absurd hj (by omega)
section GN
variable {w : Wt} {k bc bs : Nat} {M : Mt} {Q : Option Value → Mu → Prop} {pc : Nat} {L : List (Option Value)} {st : List Value} {V : Nat → Nat → Value} {n : Nat}
theorem g_newa {u : Mu} {ai t N : Nat} {atype : ArrayType} {x : Int32} (hd : decode (m_c M) pc = .ok (.newarray atype, 2)) (hat : (atys w)[ai]? = some (w_c w t, newarray.typeOf atype)) (ht : 10 ≤ t) (harr : Cond.arrayClass (newarray.typeOf atype) ∈ tbG) (hn : ¬ x < 0) (hN : x.toNatClampNeg = N) (hby : N * componentBytes (newarray.typeOf atype) ≤ 536870912) (hdv : defaultValue (newarray.typeOf atype) = .int 0) (hu : u.1 < 1000) (h : Gp w k bc bs M Q (pc + 2) L (.ref u.1 :: st) (Un u t N (fun _ => .int 0))) : Gp w k (bc + 1) (bs + N) M Q pc L (.int x :: st) u := by
  intro p e R s m args below meth c cells slots Z X hc hs hZ H locs ls hH hS hL
  have hRA := (X.kw.ar ai hat).2
  refine va_newaK X.1 X.2.1 (X.ts _ harr) rfl hd rfl hn hN hby (by omega) (by omega) rfl fun H1 cA e1 z1 o1 hAr hNm => ?_
  have hcA : cA = w_c w t := by cases atype <;> exact Option.some.inj (hNm.symm.trans hRA)
  rw [hcA, hdv] at e1
  have hH' : Hd w (Un u t N (fun _ => .int 0)) H1 := hH.new hu z1 o1 ⟨fun q => by omega, fun _ => by rw [← hH.1]; exact e1⟩
  have K := h p e R s m args below meth c (cells + 1) (slots + N) Z X (by omega) (by omega) (by
    have ea : cells + 1 + bc = cells + (bc + 1) := by omega
    have eb : slots + N + bs = slots + (bs + N) := by omega
    rw [ea, eb]
    exact hZ) H1 locs ls hH' (hS.new z1 o1) hL
  have ec := cv_new hH hu
  show W p (w_l w) e R s m args below meth c H1 locs (cells + 1) (slots + N) Z (F0 m (pc + 2) ls (Value.ref H.size :: st.map (cv w)))
  rw [ec]
  exact K
theorem g_newq {u : Mu} {ai t N idx : Nat} {C : String} {x : Int32} (hd : decode (m_c M) pc = .ok (.anewarray idx, 3)) (hat : (atys w)[ai]? = some (w_c w t, .object C)) (ht : 10 ≤ t) (h1 : Cond.classLink (m_y M).cls idx C ∈ tbG) (hao : ∀ s, Kw w s → va_AO C s) (hn : ¬ x < 0) (hN : x.toNatClampNeg = N) (hby : N * 4 ≤ 536870912) (hu : u.1 < 1000) (h : Gp w k bc bs M Q (pc + 3) L (.ref u.1 :: st) (Un u t N (fun _ => .null))) : Gp w k (bc + 1) (bs + N) M Q pc L (.int x :: st) u := by
  intro p e R s m args below meth c cells slots Z X hc hs hZ H locs ls hH hS hL
  have hRA := (X.kw.ar ai hat).2
  subst hN
  refine W.anew X.1 X.2.1 X.own (X.ts _ h1) (va_AO.use (hao s X.kw)) rfl hd rfl hn hby (by omega) (by omega) fun cA kA comp f1 f2 f3 f4 => ?_
  obtain ⟨kA', comp', r1, r2, r3, r4⟩ := hRA
  have hcA : cA = w_c w t := Option.some.inj (f1.symm.trans r4)
  subst hcA
  generalize hH1 : H.push ({ cls := w_c w t, slots := Array.replicate x.toNatClampNeg .null, vm := .none } : Cell) = H1
  have z1 : H1.size = H.size + 1 := by rw [← hH1, Array.size_push]
  have e1 : H1[H.size]? = some (arrV (w_c w t) x.toNatClampNeg (fun _ => .null)) := by rw [← hH1, Array.getElem?_push_size, ← arrV_new]
  have o1 : ∀ q : Nat, q < H.size → H1[q]? = H[q]? := fun q hq => by rw [← hH1, Array.getElem?_push, if_neg (Nat.ne_of_lt hq)]
  have hH' : Hd w (Un u t x.toNatClampNeg (fun _ => .null)) H1 := hH.new hu z1 o1 ⟨fun q => by omega, fun _ => by rw [← hH.1]; exact e1⟩
  have K := h p e R s m args below meth c (cells + 1) (slots + x.toNatClampNeg) Z X (by omega) (by omega) (by
    have ea : cells + 1 + bc = cells + (bc + 1) := by omega
    have eb : slots + x.toNatClampNeg + bs = slots + (bs + x.toNatClampNeg) := by omega
    rw [ea, eb]
    exact hZ) H1 locs ls hH' (hS.new z1 o1) hL
  have ec := cv_new hH hu
  show W p (w_l w) e R s m args below meth c H1 locs (cells + 1) (slots + x.toNatClampNeg) Z (F0 m (pc + 3) ls (Value.ref H.size :: st.map (cv w)))
  rw [ec]
  exact K
theorem g_aast {u : Mu} {ai t a v ci len N : Nat} {C : String} {T : u_T} {i : Int32} (hd : decode (m_c M) pc = .ok (.aastore, 1)) (hat : (atys w)[ai]? = some (w_c w t, .object C)) (ha : a < u.1) (hkd : u.2.1 a = (t, len)) (ht : 10 ≤ t) (hci : ci < 9) (hcl : vwCl[ci]? = some (C, T, N)) (hv : v < u.1) (hvk : (u.2.1 v).1 = ci) (hin : vp_in i len) (h : Gp w k bc bs M Q (pc + 1) L st (Um u a i.toNatClampNeg (.ref v))) : Gp w k bc bs M Q pc L (.ref v :: .int i :: .ref a :: st) u := by
  intro p e R s m args below meth c cells slots Z X hc hs hZ H locs ls hH hS hL
  have hlt : i.toNatClampNeg < len := Nat.not_le.mp fun q => hin (Or.inr q)
  have h0 : ¬ i < 0 := fun q => hin (Or.inl q)
  obtain ⟨-, cellV, g1, g2, g3, -⟩ := (hH.2.2 v hv).1 (by rw [hvk]; omega)
  rw [hvk] at g2
  have hcls := (X.kw.1.1 ci _ hcl).2
  obtain ⟨kA, comp, k1, k2, k3, -⟩ := (X.kw.ar ai hat).2
  have hcomp : comp = (w_D w).1 ci := Option.some.inj (k3.symm.trans hcls.1)
  subst hcomp
  obtain ⟨kC, hkC, -⟩ := hcls.2
  show W p (w_l w) e R s m args below meth c H locs cells slots Z (F0 m pc ls (cv w (.ref v) :: .int i :: cv w (.ref a) :: st.map (cv w)))
  rw [cv_lt hH ha, cv_lt hH hv]
  refine W.aast X.1 X.2.1 (at_row hH ha hkd ht) (fun q h => by cases h) (fun h => by cases h) k1 k2 rfl hkC ⟨h0, by show _ < (arrV _ _ _).slots.size; rw [arrV_size]; exact hlt⟩ g1 (fun q h => by rw [g3] at h; cases h) (by rw [g2]; exact hkC) (by rw [g2]; exact va_assign hcls) rfl rfl hd fun H1 e1 z1 o1 => ?_
  exact h p e R s m args below meth c cells slots Z X hc hs hZ H1 _ ls (hH.ast (v := .ref v) ha hkd ht (by rw [cv_lt hH hv]; exact e1) z1 o1) (hS.put z1 o1 (by show w_b w ≤ _; omega)) hL
/-- the same over a memory of the layout -/
theorem v_new (t N idx : Nat) {C : String} {T : u_T} (hd : decode (m_c M) pc = .ok (.new idx, 3)) (hk : kd0 n = (t, N)) (ht : t < 9) (hcl : vwCl[t]? = some (C, T, N)) (h1 : Cond.classLink (m_y M).cls idx C ∈ tbG) (h2 : Cond.instantiable C N ∈ tbG) (h3 : Cond.initialized C ∈ tbG) (hf : ∀ j, j < N → ∃ ty, parseFieldDescriptor (T j).2.2.1 = some ty ∧ defaultValue ty = df t j) (hu : n < 1000) (h : Gp w k bc bs M Q (pc + 3) L (.ref n :: st) (Mv (n + 1) (uV V n (df t)))) : Gp w k (bc + 1) (bs + N) M Q pc L st (Mv n V) :=
  g_new hd ht hcl h1 h2 h3 hf (fun j => df_cv w t j) hu (by rw [Un_Mv hk]; exact h)
theorem v_newa (ai t N : Nat) {atype : ArrayType} {x : Int32} (hd : decode (m_c M) pc = .ok (.newarray atype, 2)) (hk : kd0 n = (t, N)) (hat : (atys w)[ai]? = some (w_c w t, newarray.typeOf atype)) (ht : 10 ≤ t) (harr : Cond.arrayClass (newarray.typeOf atype) ∈ tbG) (hn : ¬ x < 0) (hN : x.toNatClampNeg = N) (hby : N * componentBytes (newarray.typeOf atype) ≤ 536870912) (hdv : defaultValue (newarray.typeOf atype) = .int 0) (hu : n < 1000) (h : Gp w k bc bs M Q (pc + 2) L (.ref n :: st) (Mv (n + 1) (uV V n (fun _ => .int 0)))) : Gp w k (bc + 1) (bs + N) M Q pc L (.int x :: st) (Mv n V) :=
  g_newa hd hat ht harr hn hN hby hdv hu (by rw [Un_Mv hk]; exact h)
theorem v_newq (ai t N idx : Nat) {C : String} {x : Int32} (hd : decode (m_c M) pc = .ok (.anewarray idx, 3)) (hk : kd0 n = (t, N)) (hat : (atys w)[ai]? = some (w_c w t, .object C)) (ht : 10 ≤ t) (h1 : Cond.classLink (m_y M).cls idx C ∈ tbG) (hao : ∀ s, Kw w s → va_AO C s) (hn : ¬ x < 0) (hN : x.toNatClampNeg = N) (hby : N * 4 ≤ 536870912) (hu : n < 1000) (h : Gp w k bc bs M Q (pc + 3) L (.ref n :: st) (Mv (n + 1) (uV V n (fun _ => .null)))) : Gp w k (bc + 1) (bs + N) M Q pc L (.int x :: st) (Mv n V) :=
  g_newq hd hat ht h1 hao hn hN hby hu (by rw [Un_Mv hk]; exact h)
theorem v_aast (ai j t ci len N : Nat) {a v : Nat} {C : String} {T : u_T} {i : Int32} (hd : decode (m_c M) pc = .ok (.aastore, 1)) (hi : i = nI j) (hj : j < len) (hat : (atys w)[ai]? = some (w_c w t, .object C)) (ha : a < n) (hkd : kd0 a = (t, len)) (ht : 10 ≤ t) (hci : ci < 9) (hcl : vwCl[ci]? = some (C, T, N)) (hv : v < n) (hvk : (kd0 v).1 = ci) (hl : len < 2000) (h : Gp w k bc bs M Q (pc + 1) L st (Mv n (uE V a j (.ref v)))) : Gp w k bc bs M Q pc L (.ref v :: .int i :: .ref a :: st) (Mv n V) := by
  subst hi
  refine g_aast hd hat ha hkd ht hci hcl hv hvk (fun q => q.elim (nI_pos (by omega)) (fun q => by rw [nI_clamp (by omega)] at q; omega)) ?_
  rw [nI_clamp (by omega)]
  exact h
theorem v_iast (j len : Nat) {a : Nat} {i x : Int32} (hd : decode (m_c M) pc = .ok (.iastore, 1)) (hi : i = nI j) (hj : j < len) (ha : a < n) (hkd : kd0 a = (10, len)) (hl : len < 2000) (h : Gp w k bc bs M Q (pc + 1) L st (Mv n (uE V a j (.int x)))) : Gp w k bc bs M Q pc L (.int x :: .int i :: .ref a :: st) (Mv n V) := by
  subst hi
  refine g_iast hd ha hkd (fun q => q.elim (nI_pos (by omega)) (fun q => by rw [nI_clamp (by omega)] at q; omega)) ?_
  rw [nI_clamp (by omega)]
  exact h
theorem v_cast (j len : Nat) {a : Nat} {i x : Int32} (hd : decode (m_c M) pc = .ok (.castore, 1)) (hi : i = nI j) (hj : j < len) (ha : a < n) (hkd : kd0 a = (11, len)) (hl : len < 2000) (hx : narrow .char (.int x) = .int x) (h : Gp w k bc bs M Q (pc + 1) L st (Mv n (uE V a j (.int x)))) : Gp w k bc bs M Q pc L (.int x :: .int i :: .ref a :: st) (Mv n V) := by
  subst hi
  refine g_cast hd ha hkd (fun q => q.elim (nI_pos (by omega)) (fun q => by rw [nI_clamp (by omega)] at q; omega)) hx ?_
  rw [nI_clamp (by omega)]
  exact h
theorem v_get {t kf idx a : Nat} {r : Value} (hV : V a kf = r) (hd : decode (m_c M) pc = .ok (.getfield idx, 3)) (hf : FO (m_y M).cls idx t kf) (ha : a < n) (hkd : (kd0 a).1 = t) (h : Gp w k bc bs M Q (pc + 3) L (r :: st) (Mv n V)) : Gp w k bc bs M Q pc L (.ref a :: st) (Mv n V) := by
  subst hV
  exact g_get hd hf ha hkd h
theorem v_put {t kf idx a : Nat} {v : Value} {ty : FieldType} (hd : decode (m_c M) pc = .ok (.putfield idx, 3)) (hf : FP (m_y M).cls idx t kf ty) (ha : a < n) (hkd : (kd0 a).1 = t) (hn : narrow ty (cv w v) = cv w v) (hfit : fits ty (cv w v) = true) (h : Gp w k bc bs M Q (pc + 3) L st (Mv n (uE V a kf v))) : Gp w k bc bs M Q pc L (v :: .ref a :: st) (Mv n V) := g_put hd hf ha hkd hn hfit h
theorem v_putF {t kf idx a : Nat} {v : Value} {ty : FieldType} (hd : decode (m_c M) pc = .ok (.putfield idx, 3)) (hf : FF (m_y M).cls idx t kf ty) (hini : (m_y M).name = "<init>") (ha : a < n) (hkd : (kd0 a).1 = t) (hn : narrow ty (cv w v) = cv w v) (hfit : fits ty (cv w v) = true) (h : Gp w k bc bs M Q (pc + 3) L st (Mv n (uE V a kf v))) : Gp w k bc bs M Q pc L (v :: .ref a :: st) (Mv n V) := g_putF hd hf hini ha hkd hn hfit h
end GN
