/-! THE LAYER: a method's run over an abstract memory. Cells are numbered from the law's first new cell on (id n lies at base + n); constants have ids from 1000 on -/
def tbG : List Cond := lw_tbl.filter goodWord
theorem tbG_of {w : Cond} (i : Nat) (h : lw_tbl[i]? = some w) (hg : goodWord w = true) : w ∈ tbG := List.mem_filter.mpr ⟨List.mem_of_getElem? h, hg⟩
theorem tbG_good : GoodIn tbG tbG := fun w h => ⟨h, good_of_word (List.mem_filter.mp h).2⟩
/-- the world: the launch, the classes' numbers and slots, the arrays' classes, the first new cell, where constants lie, the script -/
abbrev Wt : Type := Launch × va_G × (Nat → ClassId) × Nat × (Nat → Nat) × Nat × (Nat → Int32)
abbrev w_l (w : Wt) : Launch := w.1
abbrev w_D (w : Wt) : va_G := w.2.1
abbrev w_c (w : Wt) : Nat → ClassId := w.2.2.1
abbrev w_b (w : Wt) : Nat := w.2.2.2.1
abbrev w_a (w : Wt) : Nat → Nat := w.2.2.2.2.1
abbrev w_L (w : Wt) : Nat := w.2.2.2.2.2.1
abbrev w_x (w : Wt) : Nat → Int32 := w.2.2.2.2.2.2
def ad (w : Wt) (a : Nat) : Nat := if a < 1000 then w_b w + a else w_a w a
def cv (w : Wt) (v : Value) : Value := match v with
  | .ref a => .ref (ad w a)
  | v => v
theorem cv_cat (w : Wt) (v : Value) : (cv w v).category = v.category := by cases v <;> rfl
def Aw (w : Wt) : Nat → Prop := fun q => w_b w ≤ q
/-- the memory: how many cells, of which kind and length each, what each holds -/
abbrev Mu : Type := Nat × (Nat → Nat × Nat) × (Nat → Nat → Value)
def cok (w : Wt) (t n : Nat) (f : Nat → Value) (a : Nat) (H : Heap) : Prop :=
  (t < 10 → (∃ r : vw_C, vwCl[t]? = some r ∧ r.2.2 = n) ∧ t_OB a ((w_D w).1 t) n ((w_D w).2 t) H (fun k => cv w (f k))) ∧ (10 ≤ t → H[a]? = some (arrV (w_c w t) n (fun j => cv w (f j))))
def Hd (w : Wt) (u : Mu) (H : Heap) : Prop := H.size = w_b w + u.1 ∧ u.1 ≤ 1000 ∧ ∀ id, id < u.1 → cok w (u.2.1 id).1 (u.2.1 id).2 (u.2.2 id) (w_b w + id) H
def aty (t : Nat) : FieldType := match t with
  | 10 => .int
  | 11 => .char
  | 12 => .boolean
  | 14 => .object RX0
  | 15 => .object RX1
  | 16 => .object RX4
  | _ => .object RX5
def atys (w : Wt) : List (ClassId × FieldType) := [(w_c w 10, .int), (w_c w 11, .char), (w_c w 12, .boolean), (w_c w 14, .object RX0), (w_c w 15, .object RX1), (w_c w 16, .object RX4), (w_c w 17, .object RX5)]
/-- the constants: ABOVE's row, the texts of the reader, the script -/
def cAb (j : Nat) : Int32 := if j = 0 then -1 else if j = 3 then 1 else if j = 4 then 2 else 0
def cLen : List Nat := [3, 3, 4, 1, 1, 3, 2, 2, 4, 2, 2]
def cByt : List (List Int32) := [[100, 105, 103], [102, 101, 101], [102, 105, 110, 101], [124], [38], [60, 61, 62], [43, 45], [42, 47], [102, 114, 97, 110], [109, 104], [102, 99]]
def Cn (w : Wt) (s : State) : Prop :=
  va_Z "SpoonPassage" "ABOVE" "[I" (.ref (ad w 1000)) (Aw w) s s.heap ∧ va_T .int (ad w 1000) 6 (fun j => .int (cAb j)) (Aw w) s s.heap ∧
  va_Z "java/lang/String" "COMPACT_STRINGS" "Z" (.int 1) (Aw w) s s.heap ∧
  vk_S 11 cLen cByt (fun i => ad w (1010 + i)) (fun i => ad w (1030 + i)) (Aw w) s s.heap ∧
  (va_Z "jdk/internal/util/Preconditions" "SIOOBE_FORMATTER" "Ljava/util/function/BiFunction;" .null (Aw w) s s.heap ∨ va_Z "jdk/internal/util/Preconditions" "SIOOBE_FORMATTER" "Ljava/util/function/BiFunction;" (.ref (ad w 1002)) (Aw w) s s.heap) ∧
  va_T .int (ad w 1001) (w_L w) (fun j => .int (w_x w j)) (Aw w) s s.heap ∧
  (va_AO RX0 s ∧ va_AO RX1 s ∧ va_AO RX4 s ∧ va_AO RX5 s)
def cStr : List (Nat × Nat × String) := [(0, 74, "dig"), (1, 80, "fee"), (2, 82, "fine"), (3, 119, "|"), (4, 121, "&"), (5, 123, "<=>"), (6, 125, "+-"), (7, 127, "*/"), (8, 138, "fran"), (9, 140, "mh"), (10, 142, "fc")]
def Sr (w : Wt) (s : State) : Prop := ∀ i k tx, (i, k, tx) ∈ cStr → vk_R RX3 k tx (ad w (1010 + i)) s
def Nt (s : State) : Prop := va_Nw (.methodLinkNest RX2 28 yX1_init "SpoonPassage") s ∧ va_Nw (.methodLinkNest RX5 9 yX1_init "SpoonPassage") s ∧ va_Nw (.methodLinkNest RX2 165 yX7_held "SpoonPassage") s ∧ va_Nw (.methodLinkNest RX2 102 yX7_within "SpoonPassage") s ∧ va_Nw (.fieldLinkNest RX1 27 "SpoonPassage" "ABOVE" "[I" "SpoonPassage") s
def Kw (w : Wt) (s : State) : Prop := va_K (w_D w) vwCl (atys w) s ∧ Cn w s ∧ Sr w s ∧ Nt s
theorem Cn.go {w : Wt} {s U : State} {locs : List Loc} (hW : s.WarmedH U.vm) (hS : va_S (Aw w) s.heap U.heap locs) (h : Cn w s) : Cn w U := by
  have ha := hW.alike
  obtain ⟨h1, h2, h3, h4, h0, h5, h6, h7, h8, h9⟩ := h
  exact ⟨(h1.moved ha).kept hS.2.1, (h2.moved ha).kept hS.2.1, (h3.moved ha).kept hS.2.1, (h4.moved ha).kept hS.2.1, h0.imp (fun h => (h.moved ha).kept hS.2.1) (fun h => (h.moved ha).kept hS.2.1), (h5.moved ha).kept hS.2.1, h6.moved ha, h7.moved ha, h8.moved ha, h9.moved ha⟩
theorem Kw.go {w : Wt} {s U : State} {locs : List Loc} (hW : s.WarmedH U.vm) (hS : va_S (Aw w) s.heap U.heap locs) (h : Kw w s) : Kw w U :=
  ⟨va_K.moved hW.alike h.1, h.2.1.go hW hS, fun i k tx hi => (h.2.2.1 i k tx hi).warm hW, h.2.2.2.1.warmM hW, h.2.2.2.2.1.warmM hW, h.2.2.2.2.2.1.warmM hW, h.2.2.2.2.2.2.1.warmM hW, h.2.2.2.2.2.2.2.warmF hW⟩
/-- a method: its class's number, its name, its code, how many locals, what it gives back -/
abbrev Mt : Type := Nat × MethodName × ByteArray × Nat × Option FieldType
abbrev m_o (M : Mt) : Nat := M.1
abbrev m_y (M : Mt) : MethodName := M.2.1
abbrev m_c (M : Mt) : ByteArray := M.2.2.1
abbrev m_n (M : Mt) : Nat := M.2.2.2.1
abbrev m_r (M : Mt) : Option FieldType := M.2.2.2.2
def Cx (w : Wt) (k : Nat) (M : Mt) (p : Program) (R : Room) (s : State) (m : MethodId) (args : Array Value) (meth : Method) (c : Code) : Prop :=
  p.tables.exec = Jvm.exec ∧ c.code = m_c M ∧ c.maxLocals = m_n M ∧ meth.sig.returnType = m_r M ∧ meth.locks = false ∧ s.vm.findClass (m_y M).cls = some m.cls ∧ meth.name = (m_y M).name ∧ (∀ t ∈ tbG, t.before args s = true) ∧ Kw w s ∧ k ≤ R.frames ∧ 64 * k ≤ R.locals
theorem Cx.ts {w : Wt} {k : Nat} {M : Mt} {p : Program} {R : Room} {s : State} {m : MethodId} {args : Array Value} {meth : Method} {c : Code} (C : Cx w k M p R s m args meth c) : ∀ t ∈ tbG, t.before args s = true := C.2.2.2.2.2.2.2.1
theorem Cx.own {w : Wt} {k : Nat} {M : Mt} {p : Program} {R : Room} {s : State} {m : MethodId} {args : Array Value} {meth : Method} {c : Code} (C : Cx w k M p R s m args meth c) : s.vm.findClass (m_y M).cls = some m.cls := C.2.2.2.2.2.1
theorem Cx.kw {w : Wt} {k : Nat} {M : Mt} {p : Program} {R : Room} {s : State} {m : MethodId} {args : Array Value} {meth : Method} {c : Code} (C : Cx w k M p R s m args meth c) : Kw w s := C.2.2.2.2.2.2.2.2.1
def Rt (ret : Option FieldType) (r : Option Value) (i : Instr) : Prop :=
  (r = none ∧ ret = none ∧ i = .return_) ∨ (∃ (x : Int32) (ty : FieldType), r = some (.int x) ∧ ret = some ty ∧ narrow ty (.int x) = .int x ∧ i = .ireturn) ∨ (∃ (a : Nat) (ty : FieldType), r = some (.ref a) ∧ ret = some ty ∧ ((∃ n, ty = .object n) ∨ ∃ t, ty = .array t) ∧ i = .areturn)
/-- locals -/
def pr (w : Wt) : Nat → List (Option Value) → List (Nat × Value)
  | _, [] => []
  | i, none :: t => pr w (i + 1) t
  | i, some v :: t => (i, cv w v) :: pr w (i + 1) t
theorem pr_mem {w : Wt} {L : List (Option Value)} : ∀ {i : Nat} {q : Nat × Value}, q ∈ pr w i L ↔ ∃ j v, L[j]? = some (some v) ∧ q = (i + j, cv w v) := by
  induction L with
  | nil => intro i q; simp [pr]
  | cons x t ih =>
    intro i q
    cases x with
    | none =>
      rw [pr, ih]
      constructor
      · rintro ⟨j, v, h1, h2⟩
        exact ⟨j + 1, v, by simpa using h1, by rw [h2]; congr 1; omega⟩
      · rintro ⟨j, v, h1, h2⟩
        cases j with
        | zero => simp at h1
        | succ j => exact ⟨j, v, by simpa using h1, by rw [h2]; congr 1; omega⟩
    | some u =>
      rw [pr, List.mem_cons, ih]
      constructor
      · rintro (h | ⟨j, v, h1, h2⟩)
        · exact ⟨0, u, rfl, h⟩
        · exact ⟨j + 1, v, by simpa using h1, by rw [h2]; congr 1; omega⟩
      · rintro ⟨j, v, h1, h2⟩
        cases j with
        | zero =>
          have : u = v := by simpa using h1
          subst this
          exact Or.inl h2
        | succ j => exact Or.inr ⟨j, v, by simpa using h1, by rw [h2]; congr 1; omega⟩
def Lh (w : Wt) (n : Nat) (L : List (Option Value)) (ls : Array Slot) : Prop := lv_has ls n (pr w 0 L) ∧ ∀ (j : Nat) (v : Value), L[j]? = some (some v) → v.category = 1
theorem Lh.at {w : Wt} {n : Nat} {L : List (Option Value)} {ls : Array Slot} (h : Lh w n L ls) {i : Nat} {v : Value} (hi : L[i]? = some (some v)) : ls[i]? = some (.val (cv w v)) :=
  h.1.2.2 (i, cv w v) (pr_mem.mpr ⟨i, v, hi, by simp⟩)
theorem Lh.set {w : Wt} {n : Nat} {L : List (Option Value)} {ls : Array Slot} (h : Lh w n L ls) {i : Nat} {v : Value} (hi : i < n) (hv : v.category = 1) : ∃ ls', storeLocals ls i (cv w v) = some ls' ∧ Lh w n (L.set i (some v)) ls' := by
  obtain ⟨ls', h1, h2⟩ := lv_store1 (v := cv w v) h.1 hi (by rw [cv_cat]; exact hv)
  refine ⟨ls', h1, ⟨h2.1, h2.2.1, fun q hq => ?_⟩, fun j u hj => ?_⟩
  · obtain ⟨j, u, hj, rfl⟩ := pr_mem.mp hq
    by_cases hji : j = i
    · subst hji
      have hl : j < L.length := by
        by_cases hl : j < L.length
        · exact hl
        · rw [List.set_eq_of_length_le (by omega)] at hj
          rw [List.getElem?_eq_none (by omega)] at hj
          cases hj
      rw [List.getElem?_set_self hl] at hj
      cases hj
      simpa using h2.2.2 (j, cv w v) List.mem_cons_self
    · rw [List.getElem?_set_ne (Ne.symm hji)] at hj
      refine h2.2.2 _ (List.mem_cons_of_mem _ (List.mem_filter.mpr ⟨pr_mem.mpr ⟨j, u, hj, rfl⟩, ?_⟩))
      have hc := h.2 j u hj
      simp [hji, cv_cat, hc]
  · by_cases hji : j = i
    · subst hji
      by_cases hl : j < L.length
      · rw [List.getElem?_set_self hl] at hj
        cases hj
        exact hv
      · rw [List.set_eq_of_length_le (by omega)] at hj
        exact h.2 j u hj
    · rw [List.getElem?_set_ne (Ne.symm hji)] at hj
      exact h.2 j u hj
theorem Lh.sz {w : Wt} {n : Nat} {L : List (Option Value)} {ls : Array Slot} (h : Lh w n L ls) : ls.size = n := h.1.1
/-- THE JUDGEMENT: method M stands at pc with locals L, stack st, memory u, in k frames' room, with bc cells and bs slots to make: it comes to its return with Q -/
def Gp (w : Wt) (k bc bs : Nat) (M : Mt) (Q : Option Value → Mu → Prop) (pc : Nat) (L : List (Option Value)) (st : List Value) (u : Mu) : Prop :=
  ∀ (p : Program) (e : Env) (R : Room) (s : State) (m : MethodId) (args : Array Value) (below : List Frame) (meth : Method) (c : Code) (cells slots : Nat) (Z : State → Prop),
    Cx w k M p R s m args meth c → cells + bc ≤ R.cells → slots + bs ≤ R.slots →
    (∀ (r : Option Value) (u' : Mu) (H' : Heap) (locs' : List Loc) (pc' : Nat) (ls' : Array Slot) (i : Instr), Rt (m_r M) r i → decode (m_c M) pc' = .ok (i, 1) → Q r u' → Hd w u' H' → va_S (Aw w) s.heap H' locs' →
      W p (w_l w) e R s m args below meth c H' locs' (cells + bc) (slots + bs) Z (F0 m pc' ls' ((r.map (cv w)).toList))) →
    ∀ (H : Heap) (locs : List Loc) (ls : Array Slot), Hd w u H → va_S (Aw w) s.heap H locs → Lh w (m_n M) L ls →
      W p (w_l w) e R s m args below meth c H locs cells slots Z (F0 m pc ls (st.map (cv w)))
