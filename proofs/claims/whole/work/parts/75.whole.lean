/-! THE CLAIM OUT OF ONE WALK OF THE LAW'S BODY. Your part is whole_start (and what it stands on); all else here is the same for every law, but numbers. -/
def R_law : String := "SpoonPassageLaw"
def lw_P (b : Addr) (xs : List Int32) (args : Array Value) (s : State) : Prop := args = #[.ref b] ∧ s.IntsAt b xs ∧ xs.length ≤ 3072 ∧ (Jvm.Cond.and given_1 narrow_1).before args s = true
def lw_Q (_ : Array Value) (s : State) (o : Outcome) (t : State) : Prop := o = .returned (some (.int 1)) ∧ Framed s o t [] 600000 7302250
def lw_Z (below : List Frame) (a : Array Value) (s : State) : State → Prop := fun t => ∃ o, t.status = .running ∧ Ended t below o ∧ lw_Q a s o t
/-- the law's own end, with 1 on the stack, nothing written that was there before, its room as the claim has it -/
theorem lw_ret {p : Program} {l : Launch} {e : Env} {s : State} {m : MethodId} {below : List Frame} {meth : Method} {c : Code} {b : Nat} (hx : p.tables.exec = Jvm.exec) (hb : c.code = code) (hr : meth.sig.returnType = ret) (hlocks : meth.locks = false) {pc : Nat} {H : Heap} {ls : Array Slot} (hdg : decode code pc = .ok (.ireturn, 1)) : W p l e room_1 s m #[Value.ref b] below meth c H [] 600000 7302250 (lw_Z below #[Value.ref b] s) (F0 m pc ls [.int 1]) := by
  intro T hT X
  obtain ⟨fs, hret, hrun, hended, hW, hframe⟩ := X.leave (v := some (.int 1)) (hlocks := hlocks) (fun h => by rw [hr] at h; cases h)
  have hmeth' : T.vm.method? m = some meth := X.method'
  refine ⟨T.setFrames fs, ?_, .returned (some (.int 1)), hrun, hended, rfl, ⟨_, rfl⟩, hW, hframe⟩
  jvm_step X.here [X.here.top, hx, hb, hdg, hmeth', hr, ret, narrow_b1]
  (try refine ⟨rfl, ?_⟩); (try refine ⟨rfl, ?_⟩)
  first | (intro acts; rw [hret _ acts rfl rfl rfl]) | rw [hret _ _ rfl rfl rfl]
  exact Steps.refl _
/-- what holds at the law's entry: the machine, the code, the tables' words (any of lw_tbl by 'hts w (by decide +kernel)'), the script of L ints xs at the cell b, what the Statement gives of the start (any of its parts by flat_of_before) -/
def lw_At (p : Program) (s : State) (m : MethodId) (meth : Method) (c : Code) (b L : Nat) (xs : Nat → Int32) : Prop :=
  p.tables.exec = Jvm.exec ∧ c.code = code ∧ meth.sig.returnType = ret ∧ c.maxLocals = 4 ∧ s.vm.findClass R_law = some m.cls ∧ (∀ w ∈ lw_tbl, w.before #[Value.ref b] s = true) ∧ va_X b L xs s s.heap ∧ b < s.heap.size ∧ meth.locks = false ∧ (Jvm.Cond.and given_1 narrow_1).before #[Value.ref b] s = true ∧ meth.name = "law"
def wIx (i : Nat) : Nat := nth [74, 80, 82, 119, 121, 123, 125, 127, 138, 140, 142] i 0
def wTm (i : Nat) : Term := .string "SpoonPassage$Reader" (wIx i)
def wFl : List Cond := flatC (Jvm.Cond.and given_1 narrow_1)
theorem wS1 : ∀ i, i < 11 → Cond.exactly (wTm i) "java/lang/String" ∈ wFl := by decide +kernel
theorem wS2 : ∀ i, i < 11 → Cond.eq (.field (wTm i) "java/lang/String" "coder" "B") (.int 0) ∈ wFl := by decide +kernel
theorem wS3 : ∀ i, i < 11 → Cond.arrayOf (.field (wTm i) "java/lang/String" "value" "[B") .byte ∈ wFl := by decide +kernel
theorem wS4 : ∀ i, i < 11 → Cond.eq (.length (.field (wTm i) "java/lang/String" "value" "[B")) (.int (Int32.ofNat (cLen.getD i 0))) ∈ wFl := by decide +kernel
theorem wS5 : ∀ i, i < 11 → ∀ j, j < cLen.getD i 0 → Cond.eq (.elem (.field (wTm i) "java/lang/String" "value" "[B") (.int (Int32.ofNat j))) (.int ((cByt.getD i []).getD j 0)) ∈ wFl := by decide +kernel
theorem wS6 : ∀ i, i < 11 → ∀ j, j < 11 → i ≠ j → (Cond.not (Cond.eq (wTm i) (wTm j)) ∈ wFl ∨ Cond.not (Cond.eq (wTm j) (wTm i)) ∈ wFl) := by decide +kernel
theorem wS7 : ∀ j, j < 6 → Cond.eq (.elem (.static "SpoonPassage" "ABOVE" "[I") (.int (Int32.ofNat j))) (.int (cAb j)) ∈ wFl := by decide +kernel
set_option maxRecDepth 20000 in
set_option maxHeartbeats 4000000 in
theorem whole_start {p : Program} {e : Env} {s : State} {m : MethodId} {below : List Frame} {meth : Method} {c : Code} (l : Launch) {b L : Nat} {xs : Nat → Int32} (hL : L ≤ 3072) (C0 : lw_At p s m meth c b L xs) : W p l e room_1 s m #[Value.ref b] below meth c s.heap [] 0 0 (lw_Z below #[Value.ref b] s) (entryFrame m ([Value.ref b] : List Value).toArray 4) := by
  obtain ⟨hx, hb, hr, hml, hown, hts, hX, hbl, hlocks, hgv, hnm⟩ := C0
  have hA : ∀ a : Nat, a < s.heap.size → ¬ (fun q : Nat => s.heap.size ≤ q) a := fun a h q => Nat.not_le.mpr h q
  have hs : ∀ c ∈ wFl, c.before #[Value.ref b] s = true := flat_of_before _ hgv
  have htG : ∀ t ∈ tbG, t.before #[Value.ref b] s = true := fun t h => hts t (List.mem_filter.mp h).1
  obtain ⟨c0, i0, q0⟩ : ∃ (cC : ClassId) (iS : Nat → Nat), ∀ r, vwCl[0]? = some r → u_Kn s r.1 r.2.1 r.2.2 cC iS := by
    obtain ⟨C, T, N, ty, h1, h2, -⟩ := cf0
    cases h1
    obtain ⟨cC, iS, hk⟩ := u_known htG h2 (htG (.instantiable "SpoonPassage$Branch" 3) (tbG_of 161 (by decide +kernel) (by decide +kernel)))
    exact ⟨cC, iS, fun r hr => by cases hr; exact hk⟩
  obtain ⟨c1, i1, q1⟩ : ∃ (cC : ClassId) (iS : Nat → Nat), ∀ r, vwCl[1]? = some r → u_Kn s r.1 r.2.1 r.2.2 cC iS := by
    obtain ⟨C, T, N, ty, h1, h2, -⟩ := cf1
    cases h1
    obtain ⟨cC, iS, hk⟩ := u_known htG h2 (htG (.instantiable "SpoonPassage$Digger" 5) (tbG_of 184 (by decide +kernel) (by decide +kernel)))
    exact ⟨cC, iS, fun r hr => by cases hr; exact hk⟩
  obtain ⟨c2, i2, q2⟩ : ∃ (cC : ClassId) (iS : Nat → Nat), ∀ r, vwCl[2]? = some r → u_Kn s r.1 r.2.1 r.2.2 cC iS := by
    obtain ⟨C, T, N, ty, h1, h2, -⟩ := cf2
    cases h1
    obtain ⟨cC, iS, hk⟩ := u_known htG h2 (htG (.instantiable "SpoonPassage$Passage" 12) (tbG_of 154 (by decide +kernel) (by decide +kernel)))
    exact ⟨cC, iS, fun r hr => by cases hr; exact hk⟩
  obtain ⟨c3, i3, q3⟩ : ∃ (cC : ClassId) (iS : Nat → Nat), ∀ r, vwCl[3]? = some r → u_Kn s r.1 r.2.1 r.2.2 cC iS := by
    obtain ⟨C, T, N, ty, h1, h2, -⟩ := cf3
    cases h1
    obtain ⟨cC, iS, hk⟩ := u_known htG h2 (htG (.instantiable "SpoonPassage$Reader" 12) (tbG_of 105 (by decide +kernel) (by decide +kernel)))
    exact ⟨cC, iS, fun r hr => by cases hr; exact hk⟩
  obtain ⟨c4, i4, q4⟩ : ∃ (cC : ClassId) (iS : Nat → Nat), ∀ r, vwCl[4]? = some r → u_Kn s r.1 r.2.1 r.2.2 cC iS := by
    obtain ⟨C, T, N, ty, h1, h2, -⟩ := cf4
    cases h1
    obtain ⟨cC, iS, hk⟩ := u_known htG h2 (htG (.instantiable "SpoonPassage$Sheet" 3) (tbG_of 266 (by decide +kernel) (by decide +kernel)))
    exact ⟨cC, iS, fun r hr => by cases hr; exact hk⟩
  obtain ⟨c5, i5, q5⟩ : ∃ (cC : ClassId) (iS : Nat → Nat), ∀ r, vwCl[5]? = some r → u_Kn s r.1 r.2.1 r.2.2 cC iS := by
    obtain ⟨C, T, N, ty, h1, h2, -⟩ := cf5
    cases h1
    obtain ⟨cC, iS, hk⟩ := u_known htG h2 (htG (.instantiable "SpoonPassage$Slot" 4) (tbG_of 286 (by decide +kernel) (by decide +kernel)))
    exact ⟨cC, iS, fun r hr => by cases hr; exact hk⟩
  obtain ⟨c6, i6, q6⟩ : ∃ (cC : ClassId) (iS : Nat → Nat), ∀ r, vwCl[6]? = some r → u_Kn s r.1 r.2.1 r.2.2 cC iS := by
    obtain ⟨C, T, N, ty, h1, h2, -⟩ := cf6
    cases h1
    obtain ⟨cC, iS, hk⟩ := u_known htG h2 (htG (.instantiable "SpoonPassage$Texts" 6) (tbG_of 77 (by decide +kernel) (by decide +kernel)))
    exact ⟨cC, iS, fun r hr => by cases hr; exact hk⟩
  obtain ⟨c7, i7, q7⟩ : ∃ (cC : ClassId) (iS : Nat → Nat), ∀ r, vwCl[7]? = some r → u_Kn s r.1 r.2.1 r.2.2 cC iS := by
    obtain ⟨C, T, N, ty, h1, h2, -⟩ := cf7
    cases h1
    obtain ⟨cC, iS, hk⟩ := u_known htG h2 (htG (.instantiable "SpoonPassage" 10) (tbG_of 69 (by decide +kernel) (by decide +kernel)))
    exact ⟨cC, iS, fun r hr => by cases hr; exact hk⟩
  obtain ⟨c8, i8, q8⟩ : ∃ (cC : ClassId) (iS : Nat → Nat), ∀ r, vwCl[8]? = some r → u_Kn s r.1 r.2.1 r.2.2 cC iS := by
    obtain ⟨C, T, N, ty, h1, h2, -⟩ := cf8
    cases h1
    obtain ⟨cC, iS, hk⟩ := u_known htG h2 (htG (.instantiable "SpoonPassageModel" 33) (tbG_of 955 (by decide +kernel) (by decide +kernel)))
    exact ⟨cC, iS, fun r hr => by cases hr; exact hk⟩
  obtain ⟨Aint, kint, pint, fint, gint, hint⟩ := Cond.arrayClass_spec (htG (.arrayClass .int) (tbG_of 103 (by decide +kernel) (by decide +kernel)))
  obtain ⟨Achar, kchar, pchar, fchar, gchar, hchar⟩ := Cond.arrayClass_spec (htG (.arrayClass .char) (tbG_of 1060 (by decide +kernel) (by decide +kernel)))
  obtain ⟨Aboolean, kboolean, pboolean, fboolean, gboolean, hboolean⟩ := Cond.arrayClass_spec (htG (.arrayClass .boolean) (tbG_of 1061 (by decide +kernel) (by decide +kernel)))
  obtain ⟨p_0, B0, k_0, f_0, -, g_0, h_0, e_0⟩ := Cond.arrayOver_spec (hts (.arrayOver (.object "SpoonPassage$Branch")) (List.mem_of_getElem? (i := 160) (by decide +kernel)))
  obtain ⟨p_1, B1, k_1, f_1, -, g_1, h_1, e_1⟩ := Cond.arrayOver_spec (hts (.arrayOver (.object "SpoonPassage$Digger")) (List.mem_of_getElem? (i := 183) (by decide +kernel)))
  obtain ⟨p_2, B4, k_2, f_2, -, g_2, h_2, e_2⟩ := Cond.arrayOver_spec (hts (.arrayOver (.object "SpoonPassage$Sheet")) (List.mem_of_getElem? (i := 265) (by decide +kernel)))
  obtain ⟨p_3, B5, k_3, f_3, -, g_3, h_3, e_3⟩ := Cond.arrayOver_spec (hts (.arrayOver (.object "SpoonPassage$Slot")) (List.mem_of_getElem? (i := 285) (by decide +kernel)))
  obtain ⟨tA, evA, hTA⟩ := va_Tof (tm := .static "SpoonPassage" "ABOVE" "[I") (ty := .int) (N := 6) (f := fun j => .int (cAb j)) (A := fun q : Nat => s.heap.size ≤ q) (by decide) (hs _ (by decide +kernel)) (va_eqt (z := Int32.ofNat 6) (hs _ (by decide +kernel))) (fun j hj => va_eqt (hs _ (wS7 j hj))) hA
  have hZA := va_Zref (A := fun q : Nat => s.heap.size ≤ q) (hts (.laysStatic "SpoonPassage" "ABOVE" "[I") (List.mem_of_getElem? (i := 422) (by decide +kernel))) (hts (.initialized "SpoonPassage") (List.mem_of_getElem? (i := 51) (by decide +kernel))) evA hA
  have hZC := va_Zof (v := .int 1) (A := fun q : Nat => s.heap.size ≤ q) (hts (.laysStatic "java/lang/String" "COMPACT_STRINGS" "Z") (List.mem_of_getElem? (i := 702) (by decide +kernel))) (hts (.initialized "java/lang/String") (List.mem_of_getElem? (i := 62) (by decide +kernel))) (va_eqt (hs _ (by decide +kernel))) hA
  obtain ⟨adK, adV, hvS, hev⟩ := vk_Sof (args := #[Value.ref b]) (s := s) (N := 11) (tm := wTm) (len := cLen) (byt := cByt) (A := fun q : Nat => s.heap.size ≤ q) (by decide) (fun i hi => hs _ (wS1 i hi)) (fun i hi => hs _ (wS2 i hi)) (fun i hi => hs _ (wS3 i hi)) (fun i hi => hs _ (wS4 i hi)) (fun i hi j hj => hs _ (wS5 i hi j hj)) (fun i j hi hj hne => (wS6 i hi j hj hne).imp (hs _) (hs _)) hA
  obtain ⟨tF, hZF⟩ : ∃ tF : Nat, va_Z "jdk/internal/util/Preconditions" "SIOOBE_FORMATTER" "Ljava/util/function/BiFunction;" .null (fun q : Nat => s.heap.size ≤ q) s s.heap ∨ va_Z "jdk/internal/util/Preconditions" "SIOOBE_FORMATTER" "Ljava/util/function/BiFunction;" (.ref tF) (fun q : Nat => s.heap.size ≤ q) s s.heap := by
    rcases va_Zqof (A := fun q : Nat => s.heap.size ≤ q) (hts (.laysStatic "jdk/internal/util/Preconditions" "SIOOBE_FORMATTER" "Ljava/util/function/BiFunction;") (List.mem_of_getElem? (i := 718) (by decide +kernel))) (hts (.initialized "jdk/internal/util/Preconditions") (List.mem_of_getElem? (i := 64) (by decide +kernel))) (hs _ (by decide +kernel)) hA with h | ⟨t, h⟩
    · exact ⟨0, Or.inl h⟩
    · exact ⟨t, Or.inr h⟩
  obtain ⟨dC, edC⟩ : ∃ f : Nat → ClassId, f = fun t => nth [c0, c1, c2, c3, c4, c5, c6, c7, c8] t c0 := ⟨_, rfl⟩
  obtain ⟨dI, edI⟩ : ∃ f : Nat → Nat → Nat, f = fun t => nth [i0, i1, i2, i3, i4, i5, i6, i7, i8] t i0 := ⟨_, rfl⟩
  obtain ⟨cs, ecs⟩ : ∃ f : Nat → ClassId, f = fun t => nth [Aint, Achar, Aboolean, Aint, B0, B1, B4, B5] (t - 10) Aint := ⟨_, rfl⟩
  obtain ⟨am, eam⟩ : ∃ f : Nat → Nat, f = fun a => if a = 1000 then tA else if a = 1001 then b else if a = 1002 then tF else if a < 1030 then adK (a - 1010) else adV (a - 1030) := ⟨_, rfl⟩
  obtain ⟨w, ew⟩ : ∃ w : Wt, w = (l, (dC, dI), cs, s.heap.size, am, L, xs) := ⟨_, rfl⟩
  have ha0 : ad w 1000 = tA := by rw [ew]; show (if 1000 < 1000 then s.heap.size + 1000 else am 1000) = tA; rw [eam]; rfl
  have ha1 : ad w 1001 = b := by rw [ew]; show (if 1001 < 1000 then s.heap.size + 1001 else am 1001) = b; rw [eam]; rfl
  have ha2 : ad w 1002 = tF := by rw [ew]; show (if 1002 < 1000 then s.heap.size + 1002 else am 1002) = tF; rw [eam]; rfl
  have haK : ∀ i, i < 11 → ad w (1010 + i) = adK i := fun i hi => by
    rw [ew]; show (if 1010 + i < 1000 then s.heap.size + (1010 + i) else am (1010 + i)) = adK i
    rw [if_neg (by omega), eam]; show (if 1010 + i = 1000 then tA else if 1010 + i = 1001 then b else if 1010 + i = 1002 then tF else if 1010 + i < 1030 then adK (1010 + i - 1010) else adV (1010 + i - 1030)) = adK i
    rw [if_neg (by omega), if_neg (by omega), if_neg (by omega), if_pos (by omega), show 1010 + i - 1010 = i by omega]
  have haV : ∀ i, i < 11 → ad w (1030 + i) = adV i := fun i hi => by
    rw [ew]; show (if 1030 + i < 1000 then s.heap.size + (1030 + i) else am (1030 + i)) = adV i
    rw [if_neg (by omega), eam]; show (if 1030 + i = 1000 then tA else if 1030 + i = 1001 then b else if 1030 + i = 1002 then tF else if 1030 + i < 1030 then adK (1030 + i - 1010) else adV (1030 + i - 1030)) = adV i
    rw [if_neg (by omega), if_neg (by omega), if_neg (by omega), if_neg (by omega), show 1030 + i - 1030 = i by omega]
  have hAw : Aw w = fun q : Nat => s.heap.size ≤ q := by rw [ew]; rfl
  have hK1 : va_K (w_D w) vwCl (atys w) s := by
    rw [ew]; refine ⟨fun t q hq => ?_, fun t q hq => ?_⟩
    · show u_Kn s q.1 q.2.1 q.2.2 (dC t) (dI t)
      rw [edC, edI]
      match t, hq with
      | 0, hq => exact q0 q hq
      | 1, hq => exact q1 q hq
      | 2, hq => exact q2 q hq
      | 3, hq => exact q3 q hq
      | 4, hq => exact q4 q hq
      | 5, hq => exact q5 q hq
      | 6, hq => exact q6 q hq
      | 7, hq => exact q7 q hq
      | 8, hq => exact q8 q hq
      | t + 9, hq => exact absurd hq (by rw [List.getElem?_eq_none (by show _ ≤ t + 9; simp [vwCl])]; intro z; cases z)
    · have hq : [(cs 10, FieldType.int), (cs 11, .char), (cs 12, .boolean), (cs 14, .object RX0), (cs 15, .object RX1), (cs 16, .object RX4), (cs 17, .object RX5)][t]? = some q := hq
      rw [ecs] at hq
      match t, hq with
      | 0, hq => cases hq; exact ⟨fun N z => ⟨fun k h => (by cases h), kint, gint, pint, hint⟩, fint⟩
      | 1, hq => cases hq; exact ⟨fun N z => ⟨fun k h => (by cases h), kchar, gchar, pchar, hchar⟩, fchar⟩
      | 2, hq => cases hq; exact ⟨fun N z => ⟨fun k h => (by cases h), kboolean, gboolean, pboolean, hboolean⟩, fboolean⟩
      | 3, hq => cases hq; exact ⟨fun N z => ⟨fun k h => (by cases h), k_0, g_0, p_0, h_0⟩, k_0, p_0, g_0, h_0, f_0, e_0⟩
      | 4, hq => cases hq; exact ⟨fun N z => ⟨fun k h => (by cases h), k_1, g_1, p_1, h_1⟩, k_1, p_1, g_1, h_1, f_1, e_1⟩
      | 5, hq => cases hq; exact ⟨fun N z => ⟨fun k h => (by cases h), k_2, g_2, p_2, h_2⟩, k_2, p_2, g_2, h_2, f_2, e_2⟩
      | 6, hq => cases hq; exact ⟨fun N z => ⟨fun k h => (by cases h), k_3, g_3, p_3, h_3⟩, k_3, p_3, g_3, h_3, f_3, e_3⟩
      | t + 7, hq => exact absurd hq (by rw [List.getElem?_eq_none (by simp)]; intro z; cases z)
  have hC1 : Cn w s := by
    have eL : w_L w = L := by rw [ew]
    have eX : w_x w = xs := by rw [ew]
    unfold Cn
    rw [hAw, ha0, ha1, ha2, eL, eX]
    refine ⟨hZA, hTA, hZC, ⟨fun i hi => ?_, fun i j hi hj e => ?_⟩, hZF, ?_, va_AO.of (hts (.arrayOver (.object RX0)) (List.mem_of_getElem? (i := 160) (by decide +kernel))), va_AO.of (hts (.arrayOver (.object RX1)) (List.mem_of_getElem? (i := 183) (by decide +kernel))), va_AO.of (hts (.arrayOver (.object RX4)) (List.mem_of_getElem? (i := 265) (by decide +kernel))), va_AO.of (hts (.arrayOver (.object RX5)) (List.mem_of_getElem? (i := 285) (by decide +kernel)))⟩
    · show va_O _ (ad w (1010 + i)) _ _ _ ∧ va_OF _ _ _ _ (ad w (1010 + i)) _ _ _ ∧ va_OF _ _ _ (.ref (ad w (1030 + i))) (ad w (1010 + i)) _ _ _ ∧ va_T _ (ad w (1030 + i)) _ _ _ _ _
      rw [haK i hi, haV i hi]; exact hvS.1 i hi
    · have e : ad w (1010 + i) = ad w (1010 + j) := e
      rw [haK i hi, haK j hj] at e; exact hvS.2 i j hi hj e
    · obtain ⟨scr, h1, h2, h3, h4, h5⟩ := hX
      exact ⟨scr, h1, h2, h3, by rw [h4]; exact Nat.le_refl _, by rw [h4] <;> rfl, h5, hA b hbl⟩
  have hS1 : Sr w s := by
    intro i k tx h
    have h : (i, k, tx) ∈ [(0, 74, "dig"), (1, 80, "fee"), (2, 82, "fine"), (3, 119, "|"), (4, 121, "&"), (5, 123, "<=>"), (6, 125, "+-"), (7, 127, "*/"), (8, 138, "fran"), (9, 140, "mh"), (10, 142, "fc")] := h
    simp only [List.mem_cons, List.not_mem_nil, or_false, Prod.mk.injEq] at h
    rcases h with ⟨rfl, rfl, rfl⟩ | ⟨rfl, rfl, rfl⟩ | ⟨rfl, rfl, rfl⟩ | ⟨rfl, rfl, rfl⟩ | ⟨rfl, rfl, rfl⟩ | ⟨rfl, rfl, rfl⟩ | ⟨rfl, rfl, rfl⟩ | ⟨rfl, rfl, rfl⟩ | ⟨rfl, rfl, rfl⟩ | ⟨rfl, rfl, rfl⟩ | ⟨rfl, rfl, rfl⟩
    · exact vk_R.of (hts (.stringRef "SpoonPassage$Reader" 74 "dig") (List.mem_of_getElem? (i := 688) (by decide +kernel))) (by rw [haK 0 (by omega)]; exact hev 0 (by omega))
    · exact vk_R.of (hts (.stringRef "SpoonPassage$Reader" 80 "fee") (List.mem_of_getElem? (i := 741) (by decide +kernel))) (by rw [haK 1 (by omega)]; exact hev 1 (by omega))
    · exact vk_R.of (hts (.stringRef "SpoonPassage$Reader" 82 "fine") (List.mem_of_getElem? (i := 742) (by decide +kernel))) (by rw [haK 2 (by omega)]; exact hev 2 (by omega))
    · exact vk_R.of (hts (.stringRef "SpoonPassage$Reader" 119 "|") (List.mem_of_getElem? (i := 843) (by decide +kernel))) (by rw [haK 3 (by omega)]; exact hev 3 (by omega))
    · exact vk_R.of (hts (.stringRef "SpoonPassage$Reader" 121 "&") (List.mem_of_getElem? (i := 844) (by decide +kernel))) (by rw [haK 4 (by omega)]; exact hev 4 (by omega))
    · exact vk_R.of (hts (.stringRef "SpoonPassage$Reader" 123 "<=>") (List.mem_of_getElem? (i := 845) (by decide +kernel))) (by rw [haK 5 (by omega)]; exact hev 5 (by omega))
    · exact vk_R.of (hts (.stringRef "SpoonPassage$Reader" 125 "+-") (List.mem_of_getElem? (i := 846) (by decide +kernel))) (by rw [haK 6 (by omega)]; exact hev 6 (by omega))
    · exact vk_R.of (hts (.stringRef "SpoonPassage$Reader" 127 "*/") (List.mem_of_getElem? (i := 847) (by decide +kernel))) (by rw [haK 7 (by omega)]; exact hev 7 (by omega))
    · exact vk_R.of (hts (.stringRef "SpoonPassage$Reader" 138 "fran") (List.mem_of_getElem? (i := 766) (by decide +kernel))) (by rw [haK 8 (by omega)]; exact hev 8 (by omega))
    · exact vk_R.of (hts (.stringRef "SpoonPassage$Reader" 140 "mh") (List.mem_of_getElem? (i := 767) (by decide +kernel))) (by rw [haK 9 (by omega)]; exact hev 9 (by omega))
    · exact vk_R.of (hts (.stringRef "SpoonPassage$Reader" 142 "fc") (List.mem_of_getElem? (i := 768) (by decide +kernel))) (by rw [haK 10 (by omega)]; exact hev 10 (by omega))
  have hN1 : Nt s := ⟨va_Nw.of rfl (hts (.methodLinkNest RX2 28 yX1_init "SpoonPassage") (List.mem_of_getElem? (i := 185) (by decide +kernel))), va_Nw.of rfl (hts (.methodLinkNest RX5 9 yX1_init "SpoonPassage") (List.mem_of_getElem? (i := 292) (by decide +kernel))), va_Nw.of rfl (hts (.methodLinkNest RX2 165 yX7_held "SpoonPassage") (List.mem_of_getElem? (i := 377) (by decide +kernel))), va_Nw.of rfl (hts (.methodLinkNest RX2 102 yX7_within "SpoonPassage") (List.mem_of_getElem? (i := 856) (by decide +kernel))), va_Nw.of rfl (hts (.fieldLinkNest RX1 27 "SpoonPassage" "ABOVE" "[I" "SpoonPassage") (List.mem_of_getElem? (i := 421) (by decide +kernel)))⟩
  have X : Cx w 1300 ML_law p room_1 s m #[Value.ref b] meth c := ⟨hx, hb, hml, hr, hlocks, hown, hnm, htG, ⟨hK1, hC1, hS1, hN1⟩, by decide, by decide⟩
  have hl := lv_entry ([.ref b]) (n := 4) (Nat.le_of_ble_eq_true rfl)
  rw [lg_entry_eq]
  generalize (lg_sl ([.ref b]) ++ List.replicate (4 - (lg_sl ([.ref b])).length) Slot.unset).toArray = ls at hl ⊢
  have hcat : ∀ v ∈ ([.ref 1001] : List Value), v.category = 1 := fun v h => by rw [List.mem_singleton.mp h]; rfl
  have hLs : Lh w 4 (eL 4 [.ref 1001]) ls := ⟨by unfold eL; rw [pr_eL w _ [.ref 1001] 0 hcat]; show lv_has ls 4 (lv_args 0 [Value.ref (ad w 1001)]); rw [ha1]; exact hl, eL_cat hcat⟩
  have hH : Hd w (Mv 0 (fun _ _ => .null)) s.heap := ⟨by rw [ew]; rfl, Nat.zero_le _, fun id h => absurd h (Nat.not_lt_zero _)⟩
  have el : w_l w = l := by rw [ew]
  have K := law_start w (k := 1300) (by decide) (by rw [ew]; exact hL) (fun _ _ => .null) p e room_1 s m #[Value.ref b] below meth c 0 0 (lw_Z below #[Value.ref b] s) X (by decide) (by decide) ?_ s.heap [] ls hH va_S.rf hLs
  · rw [el] at K
    exact K
  · intro r u' H' locs' pc' ls' i hR hd hq hHd hS
    rw [el]
    rcases hR with ⟨rfl, h1, rfl⟩ | ⟨x, ty, rfl, h1, h2, rfl⟩ | ⟨a, ty, rfl, h1, h2, rfl⟩
    · cases hq
    · cases hq
      rw [hAw] at hS
      refine va_forget (fun q hq => hS.2.2 q hq) ?_
      refine W.widen (k := 600000) (n := 7302250) (by decide) (by decide) ?_
      exact lw_ret hx hb hr hlocks hd
    · cases hq
set_option maxHeartbeats 4000000 in
theorem lw_walk (l : Launch) (b : Addr) (xs : List Int32) : MetFree l x (headSpec (Jvm.Cond.code x code maxLocals ret :: tables_1) room_1) (lw_P b xs) (fun _ _ _ _ _ => True) lw_Q := by
  refine MetFree.of_bodyS (code := code) (maxLocals := maxLocals) (ret := ret) (by decide) ?_ ?_
  · intro args s m h hn
    obtain ⟨meth, c, h1, h2, h3, h4, h5, h6, -, -⟩ := Cond.code_spec hn (atoms_spec (ws := Jvm.Cond.code x code maxLocals ret :: tables_1) h _ List.mem_cons_self)
    exact ⟨meth, c, h1, h2, h3, h4, h5, h6⟩
  · intro p e s m args below meth c s₁ B hml0 hP _
    obtain ⟨rfl, hx, hbd, hgv⟩ := hP
    obtain ⟨scr, harrAt, hlist, hof, hsmall⟩ := hx
    obtain ⟨hcb, hkn, -, -⟩ := State.arrayAt?_spec harrAt
    have hown : s.vm.findClass R_law = some m.cls := findClass_of_methodNamed B.named
    have hts0 : ∀ c ∈ (Jvm.Cond.code x code maxLocals ret :: tables_1), c.before #[Value.ref b] s = true := atoms_spec (ws := Jvm.Cond.code x code maxLocals ret :: tables_1) B.pre
    have hts : ∀ w ∈ lw_tbl, w.before #[Value.ref b] s = true := k2_hts_sels lw_privs (fun w hw => hts0 w (List.mem_cons_of_mem _ hw)) lw_privs_ok
    have hml : c.maxLocals = 4 := B.maxLocals_eq (hts0 _ List.mem_cons_self)
    have X₀ : Stand p l e room_1 s m #[Value.ref b] below meth c s₁ [] 0 0 := Stand.of_body B
    have hh0 : s₁.heap = s.heap := by rw [B.state]; rfl
    have hsz : scr.slots.size = xs.length := by rw [← Array.length_toList, hlist, List.length_map]
    have hval : ∀ j : Nat, j < xs.length → scr.slots[j]? = some (.int (xs.getD j 0)) := fun j hj => by
      rw [← Array.getElem?_toList, hlist]
      simp [hj]
    have hbl : b < s.heap.size := (Array.getElem?_eq_some_iff.mp hcb).1
    have hX : va_X b xs.length (fun j => xs.getD j 0) s s.heap := ⟨scr, hcb, hof, hkn, hsz, hval⟩
    have K : W p l e room_1 s m #[Value.ref b] below meth c s₁.heap [] 0 0 (lw_Z below #[Value.ref b] s) (entryFrame m ([Value.ref b] : List Value).toArray 4) := by
      rw [hh0]
      exact whole_start l hbd ⟨B.exec, B.bytes, B.returns, hml, hown, hts, hX, hbl, B.notSynchronized, hgv, (name_of_methodNamed B.named B.method).1⟩
    obtain ⟨t, a1, o, b1, b2, b3⟩ := K s₁ rfl X₀
    exact ⟨t, o, a1, b1, b2, b3⟩
theorem lw_pre_spec {args : Array Value} {s : State} (h : (Jvm.Cond.and given_1 narrow_1).before args s = true) (hr : rest_1_c.before args s = true) : ∃ (b : Addr) (xs : List Int32), lw_P b xs args s := by
  have hs := flat_of_before _ h
  have hq := flat_of_before _ hr
  have hc : (Cond.count 1).before args s = true := hs _ (by decide +kernel)
  have harr : (Cond.arrayOf (.arg 0) .int).before args s = true := hs _ (by decide +kernel)
  have hle : (Cond.le (.length (.arg 0)) (.int 3072)).before args s = true := hs _ (by decide +kernel)
  have hlen : (Cond.isInt (.length (.arg 0))).before args s = true := hq _ (by decide +kernel)
  have hall : (Cond.all (.arg 0) (.isInt (.elem (.arg 0) (.index 0)))).before args s = true := hq _ (by decide +kernel)
  obtain ⟨b, xs, hb, hx⟩ := State.ints_of_pre rfl harr hlen hall
  have hsm : xs.length < 2 ^ 31 := hx.choose_spec.2.2.2
  have hev : (Term.length (.arg 0)).eval args s none [] s = some (.int xs.length.toInt32) := hx.length_eval hb
  have hv := Cond.le_ints hev (show (Term.int 3072).eval args s none [] s = some (.int 3072) from rfl)
  have hd : xs.length.toInt32 ≤ 3072 := by
    simpa [Cond.before, Cond.holds, hv] using hle
  have hN : xs.length ≤ 3072 := (Int32.ofNat_le_ofNat hsm (by decide)).mp (show Int32.ofNat xs.length ≤ Int32.ofNat 3072 from hd)
  exact ⟨b, xs, Cond.one_arg hc (show args[0]? = some (.ref b) from hb), hx, hN, h⟩
theorem lw_comes (l : Launch) : Comes l x (Jvm.Cond.code x code maxLocals ret :: tables_1) room_1 (fun tb e args s => Calls_1 tb e args s ∧ rest_1 tb e args s ∧ Pre_1 tb e args s)
    (fun _ _ args s o t => lw_Q args s o t) := by
  intro p e ha hc hk s m args below hf hfit hheap happ hpre
  obtain ⟨b, xs, hP⟩ := lw_pre_spec hpre.2.2 hpre.2.1
  obtain ⟨k, o, h1, h2, h3, hQ⟩ := lw_walk l b xs p e ha hc hk s m args below hf ((Spec.applies_iff_loose hf).mp happ).1 hP trivial
  exact ⟨k, o, h1, h2, h3, hQ⟩
theorem lw_frame {s t : State} {o : Outcome} {args : Array Value} (h : Framed s o t [] 600000 7302250) :
    Framed s o t (fieldLocs frame_1_writes args s ++ arrayLocs frame_1_arrays args s ++ staticLocs frame_1_statics s) 600000 7302250 := h
theorem lw_limb (L : Cond) (hL : ∀ (args : Array Value) (s t : State), L.after args s (.returned (some (.int 1))) t = true) :
    ArmFor flags0 classFile x code maxLocals ret World_1 tables_1 room_1 Calls_1 rest_1 Pre_1
      (fun tb e a s o t => postC L tb e a s o t ∧ Framed s o t (fieldLocs frame_1_writes a s ++ arrayLocs frame_1_arrays a s ++ staticLocs frame_1_statics s) 600000 7302250) := by
  intro l _ _ _ p e ha hc hk s m args below hf hfit hheap happ hpre
  obtain ⟨k, o, h1, h2, h3, rfl, hF⟩ := lw_comes l p e ha hc hk s m args below hf hfit hheap happ hpre
  exact ⟨k, _, h1, h2, h3, hL args s _, lw_frame hF⟩
theorem i_vc : Claimed_1_1 ∧ Claimed_1_2 := ⟨lw_limb limb_1_1 (fun args s t => by simp [limb_1_1, Cond.after, Cond.holds, Cond.value]), lw_limb limb_1_2 (fun args s t => Cond.after_iff.mpr (by
  first | (rw [show limb_1_2 = Cond.eq .result (.int 1) from rfl, Cond.eq_ints (x := 1) (y := 1) rfl rfl]; simp; done) | (simp [limb_1_2, Cond.value, Term.eval]; done)))⟩
