section G4
variable {w : Wt} {k bc bs : Nat} {M : Mt} {Q : Option Value → Mu → Prop} {pc : Nat} {L : List (Option Value)} {st : List Value} {u : Mu}
def KV (own : String) (idx : Nat) (M' : Mt) (t np : Nat) : Prop := MW M' np ∧ Cond.instanceMethod (m_y M') ∈ tbG ∧ Cond.selects (m_y M').cls (m_y M') (m_y M') ∈ tbG ∧ Cond.methodLink own idx (m_y M') ∈ tbG ∧ t < 9 ∧ ∃ T N, vwCl[t]? = some ((m_y M').cls, T, N)
/-- the object that a call goes to -/
theorem gp_recv {a t : Nat} {C : String} {T : u_T} {N : Nat} {s : State} {H : Heap} (hK : Kw w s) (hH : Hd w u H) (ha : a < u.1) (hkd : (u.2.1 a).1 = t) (ht : t < 9) (hC : vwCl[t]? = some (C, T, N)) : ∃ cell : Cell, H[ad w a]? = some cell ∧ cell.vm.isStatics = false ∧ s.vm.findClass C = some cell.cls := by
  obtain ⟨-, cell, q1, q2, q3, -⟩ := (hH.2.2 a ha).1 (by omega)
  rw [ad_lt hH ha]
  refine ⟨cell, q1, by rw [q3]; rfl, ?_⟩
  rw [q2, hkd]
  exact (hK.1.1 t _ hC).2.1
set_option maxHeartbeats 4000000 in
theorem g_callV {M' : Mt} {k' bc' bs' bc2 bs2 np idx a t : Nat} {rest : List Value} {Q' : Option Value → Mu → Prop} (as : List Value) (hd : decode (m_c M) pc = .ok (.invokevirtual idx, 3)) (hw : KV (m_y M).cls idx M' t np) (ha : a < u.1) (hkd : (u.2.1 a).1 = t) (hbc : bc = bc' + bc2) (hbs : bs = bs' + bs2) (hn : as.length = np) (hcat : ∀ v ∈ as, v.category = 1) (hnl : np + 1 ≤ m_n M') (hst : st = as.reverse ++ .ref a :: rest) (hrest : (rest.map fun v => v.category).sum ≤ 8) (hk : k' + 1 ≤ k)
    (hO : Gp w k' bc' bs' M' Q' 0 (eL (m_n M') (.ref a :: as)) [] u) (hC : ∀ r u', Q' r u' → Gp w k bc2 bs2 M Q (pc + 3) L (r.toList ++ rest) u') : Gp w k bc bs M Q pc L st u := by
  refine g_core hbc hbs (fun p e R s m args below meth c cells slots X h1 h2 H locs ls hH hS hL => ?_) hC
  obtain ⟨hM, hins, hsel, hl, ht9, T, N, hcl⟩ := hw
  have hcat' : ∀ v ∈ Value.ref a :: as, v.category = 1 := fun v hv => (List.mem_cons.mp hv).elim (fun e => by rw [e]; rfl) (hcat v)
  have hmet := met_of hM hcat' (by rw [List.length_cons]; omega) hO
  have hfr := X.2.2.2.2.2.2.2.2.2
  have hR : (rmk k' bc' bs').frames + 1 ≤ R.frames ∧ 8 + (m_n M' + 11) + (rmk k' bc' bs').locals ≤ R.locals := ⟨by show k' + 1 ≤ _; omega, by show 8 + (m_n M' + 11) + 64 * k' ≤ _; have := hM.2.2.2.2; omega⟩
  have hG : GoodIn tbG (Cond.code (m_y M') (m_c M') (m_n M') (m_r M') :: tbG) := fun x hx => (List.mem_cons.mp hx).elim (fun e => by rw [e]; exact tbG_good _ hM.1) (tbG_good x)
  subst hst
  have hp := pre_of (as := .ref a :: as) X.kw hS hH
  exact va_runV (b := ad w a) (C := (m_y M').cls) (As := as.map (cv w)) (rest := rest.map (cv w)) ⟨X.1, X.2.1, X.2.2.1, X.own, X.ts⟩ hmet ⟨callB_of np X.ts hG rfl rfl rfl (X.ts _ hM.2.1) (X.ts _ hl) hM.2.2.2.1 hR, X.ts _ hins, X.ts _ hsel⟩ ⟨hp.1, gp_recv X.kw hH ha hkd ht9 hcl, hp.2⟩ rfl (by simp [hn]) hL.sz (by simp [F0, cv]) (lv_room (cat_sum hrest)) hd ⟨h1, h2⟩
def KI (own : String) (idx : Nat) (M' : Mt) (np : Nat) : Prop := MW M' np ∧ Cond.instanceMethod (m_y M') ∈ tbG ∧ (m_y M').name = "<init>" ∧ m_r M' = none ∧ (Cond.methodLink own idx (m_y M') ∈ tbG ∨ ∃ host, ∀ s, Nt s → va_Nw (.methodLinkNest own idx (m_y M') host) s)
set_option maxHeartbeats 4000000 in
theorem g_callI {M' : Mt} {k' bc' bs' bc2 bs2 np idx a : Nat} {rest : List Value} {Q' : Option Value → Mu → Prop} (as : List Value) (hd : decode (m_c M) pc = .ok (.invokespecial idx, 3)) (hw : KI (m_y M).cls idx M' np) (hbc : bc = bc' + bc2) (hbs : bs = bs' + bs2) (hn : as.length = np) (hcat : ∀ v ∈ as, v.category = 1) (hnl : np + 1 ≤ m_n M') (hst : st = as.reverse ++ .ref a :: rest) (hrest : (rest.map fun v => v.category).sum ≤ 8) (hk : k' + 1 ≤ k)
    (hO : Gp w k' bc' bs' M' Q' 0 (eL (m_n M') (.ref a :: as)) [] u) (hC : ∀ r u', Q' r u' → Gp w k bc2 bs2 M Q (pc + 3) L (r.toList ++ rest) u') : Gp w k bc bs M Q pc L st u := by
  refine g_core hbc hbs (fun p e R s m args below meth c cells slots X h1 h2 H locs ls hH hS hL => ?_) hC
  obtain ⟨hM, hins, hini, hret, hlink⟩ := hw
  have hcat' : ∀ v ∈ Value.ref a :: as, v.category = 1 := fun v hv => (List.mem_cons.mp hv).elim (fun e => by rw [e]; rfl) (hcat v)
  have hmet := met_of hM hcat' (by rw [List.length_cons]; omega) hO
  have hfr := X.2.2.2.2.2.2.2.2.2
  have hR : (rmk k' bc' bs').frames + 1 ≤ R.frames ∧ 8 + (m_n M' + 11) + (rmk k' bc' bs').locals ≤ R.locals := ⟨by show k' + 1 ≤ _; omega, by show 8 + (m_n M' + 11) + 64 * k' ≤ _; have := hM.2.2.2.2; omega⟩
  have hG : GoodIn tbG (Cond.code (m_y M') (m_c M') (m_n M') (m_r M') :: tbG) := fun x hx => (List.mem_cons.mp hx).elim (fun e => by rw [e]; exact tbG_good _ hM.1) (tbG_good x)
  subst hst
  rw [hret] at hmet hG
  have hp := pre_of (as := .ref a :: as) X.kw hS hH
  rcases hlink with hl | ⟨host, hl⟩
  · exact va_runI (b := ad w a) (As := as.map (cv w)) (rest := rest.map (cv w)) ⟨X.1, X.2.1, X.2.2.1, X.own, X.ts⟩ hmet ⟨callB_of np X.ts hG rfl rfl rfl (X.ts _ hM.2.1) (X.ts _ hl) hM.2.2.2.1 hR, hini, X.ts _ hins⟩ ⟨hp.1, hp.2⟩ rfl (by simp [hn]) hL.sz (by simp [F0, cv]) (lv_room (cat_sum hrest)) hd ⟨h1, h2⟩
  · exact va_runIN (b := ad w a) (As := as.map (cv w)) (rest := rest.map (cv w)) ⟨X.1, X.2.1, X.2.2.1, X.own, X.ts⟩ hmet ⟨va_cnB np X.ts hG rfl rfl rfl (hl s X.kw.2.2.2) (X.ts _ hM.2.1) hM.2.2.2.1 hR, hini, X.ts _ hins⟩ ⟨hp.1, hp.2⟩ rfl (by simp [hn]) hL.sz (by simp [F0, cv]) (lv_room (cat_sum hrest)) hd ⟨h1, h2⟩
theorem g_objI {idx a : Nat} (hd : decode (m_c M) pc = .ok (.invokespecial idx, 3)) (hl : Cond.methodLink (m_y M).cls idx Lib.objectInit ∈ tbG) (hrest : (st.map fun v => v.category).sum ≤ 8) (hk : 1 ≤ k) (h : Gp w k bc bs M Q (pc + 3) L st u) : Gp w k bc bs M Q pc L (.ref a :: st) u := by
  intro p e R s m args below meth c cells slots Z X hc hs hZ H locs ls hH hS hL
  have hfr := X.2.2.2.2.2.2.2.2.2
  exact W.objInit X.1 X.2.1 X.own (X.ts _ hl) (X.ts _ (tbG_of 74 (by decide +kernel) (by decide +kernel))) (X.ts _ (tbG_of 75 (by decide +kernel) (by decide +kernel))) rfl (hL.sz.trans X.2.2.1.symm) (a := ad w a) (rest := st.map (cv w)) rfl hd (by omega) (by have := cat_sum (w := w) hrest; have e : (F0 m pc ls (List.map (cv w) (Value.ref a :: st))).monitorRoom = 0 := rfl; rw [e]; omega) (h p e R s m args below meth c cells slots Z X hc hs hZ H locs ls hH hS hL)
/-- new cells -/
def Un (u : Mu) (t n : Nat) (f : Nat → Value) : Mu := (u.1 + 1, fun b => if b = u.1 then (t, n) else u.2.1 b, fun b => if b = u.1 then f else u.2.2 b)
theorem Hd.new {t n : Nat} {f : Nat → Value} {H H' : Heap} (h : Hd w u H) (hu : u.1 < 1000) (hz : H'.size = H.size + 1) (oq : ∀ q : Nat, q < H.size → H'[q]? = H[q]?) (hc : cok w t n f (w_b w + u.1) H') : Hd w (Un u t n f) H' := by
  refine ⟨by rw [hz, h.1]; rfl, by show u.1 + 1 ≤ 1000; omega, fun id hid => ?_⟩
  have hid' : id < u.1 + 1 := hid
  by_cases e : id = u.1
  · subst e
    simpa [Un] using hc
  · have := (h.2.2 id (by omega)).kept (oq (w_b w + id) (by rw [h.1]; omega))
    simpa [Un, e] using this
theorem va_S.new {A : Nat → Prop} {H0 H H1 : Heap} {locs : List Loc} (h : va_S A H0 H locs) (z : H1.size = H.size + 1) (o : ∀ q : Nat, q < H.size → H1[q]? = H[q]?) : va_S A H0 H1 locs :=
  ⟨by have := h.1; omega, fun q h1 h2 => (o q (Nat.lt_of_lt_of_le h1 h.1)).trans (h.2.1 q h1 h2), h.2.2⟩
theorem cv_new {H : Heap} (hH : Hd w u H) (hu : u.1 < 1000) : Value.ref H.size = cv w (.ref u.1) := by
  show _ = Value.ref (ad w u.1)
  unfold ad
  rw [if_pos hu, hH.1]
def dfl (ty : FieldType) : Value := defaultValue ty
set_option maxHeartbeats 4000000 in
theorem g_new {t idx N : Nat} {C : String} {T : u_T} {f : Nat → Value} (hd : decode (m_c M) pc = .ok (.new idx, 3)) (ht : t < 9) (hcl : vwCl[t]? = some (C, T, N)) (h1 : Cond.classLink (m_y M).cls idx C ∈ tbG) (h2 : Cond.instantiable C N ∈ tbG) (h3 : Cond.initialized C ∈ tbG) (hf : ∀ j, j < N → ∃ ty, parseFieldDescriptor (T j).2.2.1 = some ty ∧ defaultValue ty = f j) (hfc : ∀ j, cv w (f j) = f j) (hu : u.1 < 1000) (h : Gp w k bc bs M Q (pc + 3) L (.ref u.1 :: st) (Un u t N f)) : Gp w k (bc + 1) (bs + N) M Q pc L st u := by
  intro p e R s m args below meth c cells slots Z X hc hs hZ H locs ls hH hS hL
  obtain ⟨C', T', N', ty0, hcl', hin, hty, hnm, hT⟩ := cfs t ht
  cases hcl.symm.trans hcl'
  have hKn := X.kw.1.1 t _ hcl
  refine W.newcK X.1 X.2.1 X.own (X.ts _ h1) (X.ts _ h2) (X.ts _ h3) rfl hd (by omega) (by omega) hKn.2.1 rfl fun H1 kC hkC e1 z1 o1 => ?_
  have hb := u_born ty0 X.ts hin hKn hkC e1 hty
  rw [hH.1] at hb
  have hH' : Hd w (Un u t N f) H1 := hH.new hu z1 o1 ⟨fun _ => ⟨⟨_, hcl, rfl⟩, hb.to (fun j hj => by
    obtain ⟨ty, e2, e3⟩ := hf j hj
    have := (hty j hj).symm.trans e2
    cases this
    rw [hfc, ← e3])⟩, fun h => by omega⟩
  have K := h p e R s m args below meth c (cells + 1) (slots + N) Z X (by omega) (by omega) (by
    have ea : cells + 1 + bc = cells + (bc + 1) := by omega
    have eb : slots + N + bs = slots + (bs + N) := by omega
    rw [ea, eb]
    exact hZ) H1 locs ls hH' (hS.new z1 o1) hL
  have ec := cv_new hH hu
  show W p (w_l w) e R s m args below meth c H1 locs (cells + 1) (slots + N) Z (F0 m (pc + 3) ls (Value.ref H.size :: st.map (cv w)))
  rw [ec]
  exact K
end G4
def nth {α : Type} : List α → Nat → α → α
  | [], _, d => d
  | x :: _, 0, _ => x
  | _ :: t, n + 1, d => nth t n d
def cnm (o : Nat) : String := nth [RX0, RX1, RX2, RX3, RX4, RX5, RX6, RX7, RX8, "java/lang/Integer"] o RL
/-- a method of the table: its class's number says its class -/
def Mk (M : Mt) : Prop := m_o M < 10 → (m_y M).cls = cnm (m_o M)
