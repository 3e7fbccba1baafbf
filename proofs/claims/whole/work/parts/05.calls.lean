/-! calls -/
def eL (n : Nat) (as : List Value) : List (Option Value) := as.map some ++ List.replicate (n - as.length) none
def rmk (k bc bs : Nat) : Room := { frames := k, cells := bc, slots := bs, locals := 64 * k }
def Qcc (w : Wt) (Q : Option Value → Mu → Prop) : State → Outcome → State → Prop := fun st oc t => ∃ (r : Option Value) (u : Mu), oc = .returned (r.map (cv w)) ∧ Q r u ∧ Hd w u t.heap ∧ va_F (Aw w) st t
/-- what the tables say of a method -/
def MW (M : Mt) (np : Nat) : Prop := Cond.code (m_y M) (m_c M) (m_n M) (m_r M) ∈ tbG ∧ Cond.initialized (m_y M).cls ∈ tbG ∧ plainName (m_y M).cls = true ∧ ((m_y M).cls ≠ "java/lang/invoke/MethodHandle" ∧ (m_y M).cls ≠ "java/lang/invoke/VarHandle" ∧ (parseMethodDescriptor (m_y M).desc).map (fun d => d.parameters.length) = some np) ∧ m_n M ≤ 40
theorem pr_none (w : Wt) : ∀ (n i : Nat), pr w i (List.replicate n none) = [] := by
  intro n
  induction n with
  | zero => intro i; rfl
  | succ n ih => intro i; rw [List.replicate_succ, pr]; exact ih (i + 1)
theorem pr_eL (w : Wt) (n : Nat) : ∀ (as : List Value) (i : Nat), (∀ v ∈ as, v.category = 1) → pr w i (as.map some ++ List.replicate n none) = lv_args i (as.map (cv w)) := by
  intro as
  induction as with
  | nil => intro i _; exact pr_none w n i
  | cons v t ih =>
    intro i h
    have h1 : v.category = 1 := h v List.mem_cons_self
    rw [List.map_cons, List.cons_append, pr, ih (i + 1) (fun x hx => h x (List.mem_cons_of_mem _ hx)), List.map_cons, lv_args]
    simp [cv_cat, h1]
theorem lgsl_len (w : Wt) : ∀ (as : List Value), (∀ v ∈ as, v.category = 1) → (lg_sl (as.map (cv w))).length = as.length := by
  intro as
  induction as with
  | nil => intro _; rfl
  | cons v t ih =>
    intro h
    have h1 : v.category = 1 := h v List.mem_cons_self
    have h2 := ih (fun x hx => h x (List.mem_cons_of_mem _ hx))
    unfold lg_sl at h2 ⊢
    rw [List.map_cons, List.flatMap_cons, List.length_append, h2]
    simp [cv_cat, h1]
    omega
theorem eL_cat {n : Nat} {as : List Value} (h : ∀ v ∈ as, v.category = 1) : ∀ (j : Nat) (v : Value), (eL n as)[j]? = some (some v) → v.category = 1 := by
  intro j v hj
  have hm := List.mem_of_getElem? hj
  unfold eL at hm
  rcases List.mem_append.mp hm with h1 | h1
  · obtain ⟨x, hx, e⟩ := List.mem_map.mp h1
    cases e
    exact h v hx
  · have := List.eq_of_mem_replicate h1
    cases this
theorem Kw.blind {w : Wt} {U : State} {g : JFrame} {mk : MethodId} {a : Array Value} (h : Kw w U) : Kw w (U.calling g mk a) := Kw.go (s := U) (U := U.calling g mk a) (locs := []) (State.WarmedH.refl U) va_S.rf h
set_option maxHeartbeats 4000000 in
theorem met_of {w : Wt} {k bc bs np : Nat} {M : Mt} {Q : Option Value → Mu → Prop} {as : List Value} {u : Mu} (hM : MW M np) (hcat : ∀ v ∈ as, v.category = 1) (hlen : as.length ≤ m_n M) (h : Gp w k bc bs M Q 0 (eL (m_n M) as) [] u) :
    Met (w_l w) (m_y M) (Cond.code (m_y M) (m_c M) (m_n M) (m_r M) :: tbG) (rmk k bc bs) (va_Pc (as.map (cv w)) (fun U => Hd w u U.heap ∧ Kw w U)) (fun _ => Qcc w Q) bc bs (Aw w) := by
  refine Met.ofW (cc := m_c M) (maxL := m_n M) (ret := m_r M) hM.2.2.1 rfl ?_
  intro p e s m args below meth c s₁ B hml hv
  obtain ⟨rfl, hH, hK⟩ := hv
  have hts := atoms_spec (ws := Cond.code (m_y M) (m_c M) (m_n M) (m_r M) :: tbG) B.pre
  have hlocks := B.notSynchronized
  have hnm := (name_of_methodNamed B.named B.method).1
  have X : Cx w k M p (rmk k bc bs) s m (as.map (cv w)).toArray meth c := ⟨B.exec, B.bytes, hml, B.returns, hlocks, findClass_of_methodNamed B.named, hnm, fun t ht => hts t (List.mem_cons_of_mem _ ht), hK, Nat.le_refl _, Nat.le_refl _⟩
  have hl := lv_entry (as.map (cv w)) (n := m_n M) (by rw [lgsl_len w as hcat]; exact hlen)
  rw [lg_entry_eq]
  generalize (lg_sl (as.map (cv w)) ++ List.replicate (m_n M - (lg_sl (as.map (cv w))).length) Slot.unset).toArray = ls at hl ⊢
  have hL : Lh w (m_n M) (eL (m_n M) as) ls := ⟨by unfold eL; rw [pr_eL w _ as 0 hcat]; exact hl, eL_cat hcat⟩
  have K := h p e (rmk k bc bs) s m (as.map (cv w)).toArray below meth c 0 0 (MQ below (fun _ => Qcc w Q) (as.map (cv w)).toArray s bc bs (Aw w)) X (by rw [Nat.zero_add]; exact Nat.le_refl _) (by rw [Nat.zero_add]; exact Nat.le_refl _) ?_ s.heap [] ls hH va_S.rf hL
  · exact K
  · intro r u' H' locs' pc' ls' i hR hd hq hHd hS
    rw [Nat.zero_add, Nat.zero_add]
    have hqq : ∀ t : State, t.heap = H' → s.WarmedH t.vm → Qcc w Q s (.returned (r.map (cv w))) t := fun t ht _ => ⟨r, u', rfl, hq, by rw [ht]; exact hHd, hS.F ht⟩
    rcases hR with ⟨rfl, h1, rfl⟩ | ⟨x, ty, rfl, h1, h2, rfl⟩ | ⟨a, ty, rfl, h1, h2, rfl⟩
    · exact W.vret (Qc := fun _ => Qcc w Q) B.exec B.bytes (B.returns.trans h1) hqq hS.2.2 hd
    · exact W.zret (Qc := fun _ => Qcc w Q) B.exec B.bytes (B.returns.trans h1) h2 hqq hS.2.2 hd
    · exact W.aret (Qc := fun _ => Qcc w Q) (v := cv w (.ref a)) B.exec B.bytes (B.returns.trans h1) h2 (Or.inr ⟨_, rfl⟩) hqq hS.2.2 hd
section G3
variable {w : Wt} {k bc bs : Nat} {M : Mt} {Q : Option Value → Mu → Prop} {pc : Nat} {L : List (Option Value)} {st : List Value} {u : Mu}
theorem g_core {bc' bs' bc2 bs2 : Nat} {rest : List Value} {Q' : Option Value → Mu → Prop} (hbc : bc = bc' + bc2) (hbs : bs = bs' + bs2)
    (hrun : ∀ (p : Program) (e : Env) (R : Room) (s : State) (m : MethodId) (args : Array Value) (below : List Frame) (meth : Method) (c : Code) (cells slots : Nat), Cx w k M p R s m args meth c → cells + bc' ≤ R.cells → slots + bs' ≤ R.slots → ∀ (H : Heap) (locs : List Loc) (ls : Array Slot), Hd w u H → va_S (Aw w) s.heap H locs → Lh w (m_n M) L ls →
      va_Run p (w_l w) e R s m args below meth c H locs cells slots bc' bs' (F0 m pc ls (st.map (cv w))) (rest.map (cv w)) (Qcc w Q') (Aw w))
    (hC : ∀ r u', Q' r u' → Gp w k bc2 bs2 M Q (pc + 3) L (r.toList ++ rest) u') : Gp w k bc bs M Q pc L st u := by
  intro p e R s m args below meth c cells slots Z X hc hs hZ H locs ls hH hS hL
  subst hbc
  subst hbs
  intro T hT Y
  obtain ⟨v, st₀, t, T', Lc, h0, X', hLc, e1, e2, hq, gst⟩ := hrun p e R s m args below meth c cells slots X (by omega) (by omega) H locs ls hH hS hL T hT Y
  obtain ⟨r, u', ev, hq', hHd', hF⟩ := hq
  have ev' : v = r.map (cv w) := Outcome.returned.inj ev
  subst ev'
  obtain ⟨hz, hk⟩ := hF
  rw [h0] at hz hk
  have hS' : va_S (Aw w) s.heap T'.heap (locs ++ Lc) := ⟨Nat.le_trans hS.1 (by rw [e1]; exact hz), fun q h1 h2 => by rw [e1, hk q (Nat.lt_of_lt_of_le h1 hS.1) h2]; exact hS.2.1 q h1 h2, fun q hq => by
    rcases List.mem_append.mp hq with h | h
    · exact hS.2.2 q h
    · exact hLc q h⟩
  obtain ⟨t2, a1, b1⟩ := hC r u' hq' p e R s m args below meth c (cells + bc') (slots + bs') Z X (by omega) (by omega) (by
    have ea : cells + bc' + bc2 = cells + (bc' + bc2) := by omega
    have eb : slots + bs' + bs2 = slots + (bs' + bs2) := by omega
    rw [ea, eb]
    exact hZ) T'.heap (locs ++ Lc) ls (by rw [e1]; exact hHd') hS' hL T' rfl X'
  refine ⟨t2, gst t2 ?_, b1⟩
  have ef : (r.toList ++ rest).map (cv w) = (r.map (cv w)).toList ++ rest.map (cv w) := by cases r <;> simp
  rw [ef] at a1
  exact a1
/-- a call's start -/
theorem pre_of {as : List Value} {s : State} {H : Heap} {locs : List Loc} (hK : Kw w s) (hS : va_S (Aw w) s.heap H locs) (hH : Hd w u H) : FrameBlind (va_Pc (as.map (cv w)) (fun U => Hd w u U.heap ∧ Kw w U)) ∧ ∀ U : State, U.heap = H → s.WarmedH U.vm → va_Pc (as.map (cv w)) (fun U => Hd w u U.heap ∧ Kw w U) (as.map (cv w)).toArray U :=
  ⟨fun a U g mk h => ⟨h.1, h.2.1, h.2.2.blind⟩, fun U hU hW => ⟨rfl, by rw [hU]; exact hH, hK.go hW (by rw [hU]; exact hS)⟩⟩
theorem cat_sum {rest : List Value} (h : (rest.map fun v => v.category).sum ≤ 8) : ((rest.map (cv w)).map fun v => v.category).sum ≤ 8 := by
  have : ((rest.map (cv w)).map fun v => v.category) = rest.map fun v => v.category := by simp [cv_cat]
  rw [this]; exact h
def KS (own : String) (idx : Nat) (M' : Mt) (np : Nat) : Prop := MW M' np ∧ Cond.static (m_y M') ∈ tbG ∧ (Cond.methodLink own idx (m_y M') ∈ tbG ∨ ∃ host, ∀ s, Nt s → va_Nw (.methodLinkNest own idx (m_y M') host) s)
set_option maxHeartbeats 4000000 in
theorem g_callS {M' : Mt} {k' bc' bs' bc2 bs2 np idx : Nat} {rest : List Value} {Q' : Option Value → Mu → Prop} (as : List Value) (hd : decode (m_c M) pc = .ok (.invokestatic idx, 3)) (hw : KS (m_y M).cls idx M' np) (hbc : bc = bc' + bc2) (hbs : bs = bs' + bs2) (hn : as.length = np) (hcat : ∀ v ∈ as, v.category = 1) (hnl : np ≤ m_n M') (hst : st = as.reverse ++ rest) (hrest : (rest.map fun v => v.category).sum ≤ 8) (hk : k' + 1 ≤ k)
    (hO : Gp w k' bc' bs' M' Q' 0 (eL (m_n M') as) [] u) (hC : ∀ r u', Q' r u' → Gp w k bc2 bs2 M Q (pc + 3) L (r.toList ++ rest) u') : Gp w k bc bs M Q pc L st u := by
  refine g_core hbc hbs (fun p e R s m args below meth c cells slots X h1 h2 H locs ls hH hS hL => ?_) hC
  obtain ⟨hM, hstat, hlink⟩ := hw
  have hmet := met_of hM hcat (by omega) hO
  have hfr := X.2.2.2.2.2.2.2.2.2
  have hR : (rmk k' bc' bs').frames + 1 ≤ R.frames ∧ 8 + (m_n M' + 11) + (rmk k' bc' bs').locals ≤ R.locals := ⟨by show k' + 1 ≤ _; omega, by show 8 + (m_n M' + 11) + 64 * k' ≤ _; have := hM.2.2.2.2; omega⟩
  have hG : GoodIn tbG (Cond.code (m_y M') (m_c M') (m_n M') (m_r M') :: tbG) := fun x hx => (List.mem_cons.mp hx).elim (fun e => by rw [e]; exact tbG_good _ hM.1) (tbG_good x)
  subst hst
  rcases hlink with hl | ⟨host, hl⟩
  · exact va_runS (As := as.map (cv w)) (rest := rest.map (cv w)) ⟨X.1, X.2.1, X.2.2.1, X.own, X.ts⟩ hmet ⟨callB_of np X.ts hG rfl rfl rfl (X.ts _ hM.2.1) (X.ts _ hl) hM.2.2.2.1 hR, X.ts _ hstat⟩ (pre_of X.kw hS hH) rfl (by simp [hn]) hL.sz (by simp [F0]) (lv_room (cat_sum hrest)) hd ⟨h1, h2⟩
  · exact va_runSN (As := as.map (cv w)) (rest := rest.map (cv w)) ⟨X.1, X.2.1, X.2.2.1, X.own, X.ts⟩ hmet ⟨va_cnB np X.ts hG rfl rfl rfl (hl s X.kw.2.2.2) (X.ts _ hM.2.1) hM.2.2.2.1 hR, X.ts _ hstat, trivial⟩ (pre_of X.kw hS hH) rfl (by simp [hn]) hL.sz (by simp [F0]) (lv_room (cat_sum hrest)) hd ⟨h1, h2⟩
end G3
