/-! the class's reader against the machine: pure part -/
def wfL (m : Nat) : List Int32 → Nat → Prop
  | [], d => d = 0
  | x :: C, d => (nI 0 ≤ x ∧ x < nI (10000 + m) ∧ 1 ≤ d ∧ wfL m C (d - 1)) ∨ (x = NOTv ∧ 1 ≤ d ∧ wfL m C d) ∨ (Int32.ofInt (-9) ≤ x ∧ x < 0 ∧ 1 ≤ d ∧ wfL m C (d + 1))
def okW (lv : Nat) : List Int32 → Prop
  | [] => True
  | x :: _ => x = OPENv ∨ (¬ x = NOTv ∧ rkF x ≤ lv)
theorem stF_stop {lv : Nat} {W C : List Int32} (h : okW lv W) : stF (lv + 1) W C = (W, C) := by
  cases W with
  | nil => rfl
  | cons x r =>
    rw [stF]
    rw [if_neg]
    rintro ⟨a, b⟩
    rcases h with h | ⟨-, h⟩
    · exact a h
    · omega
theorem stF_comp {a b : Nat} (hab : a ≤ b) : ∀ (W C : List Int32), stF a W C = stF a (stF b W C).1 (stF b W C).2
  | [], C => rfl
  | x :: W, C => by
    by_cases h : ¬ x = OPENv ∧ b ≤ rkF x
    · rw [show stF b (x :: W) C = stF b W (x :: C) from by rw [stF, if_pos h], ← stF_comp hab W (x :: C)]
      rw [stF, if_pos ⟨h.1, by omega⟩]
    · rw [show stF b (x :: W) C = (x :: W, C) from by rw [stF, if_neg h]]
theorem rk1 (x : Int32) : 1 ≤ rkF x := by unfold rkF; split <;> (try split) <;> (try split) <;> (try split) <;> (try split) <;> omega
theorem stF01 : ∀ (W C : List Int32), stF 0 W C = stF 1 W C
  | [], C => rfl
  | x :: W, C => by
    rw [stF, stF]
    have := rk1 x
    by_cases h : x = OPENv
    · rw [if_neg (fun q => q.1 h), if_neg (fun q => q.1 h)]
    · rw [if_pos ⟨h, by omega⟩, if_pos ⟨h, by omega⟩]; exact stF01 W (x :: C)
theorem stq_tr {n key : Nat} {T : Vc} : ∀ {c d : Nat} {a b e : Mc}, stq n T key c a b → stq n T key d b e → stq n T key (c + d) a e
  | 0, d, a, b, e, h1, h2 => by rw [Nat.zero_add]; have h1 : a = b := h1; rw [h1]; exact h2
  | c + 1, d, a, b, e, ⟨m1, h0, h1⟩, h2 => by rw [Nat.add_right_comm]; exact ⟨m1, h0, stq_tr h1 h2⟩
theorem Mend.stq {n key : Nat} {T : Vc} {b : Bool} {m' : Mc} : ∀ {c : Nat} {a e : Mc}, stq n T key c a e → Mend n T key e b m' → Mend n T key a b m'
  | 0, a, e, h1, h2 => by have h1 : a = e := h1; rw [h1]; exact h2
  | c + 1, a, e, ⟨m1, h0, h1⟩, h2 => Mend.step h0 (Mend.stq h1 h2)
/-- steps of the machine -/
theorem ms_bad {n key : Nat} {T : Vc} {m : Mc} (h : m.wa = true) (h1 : ¬ (tkF m.l = 3 ∧ T m.l.s = nI 33 ∧ cnN m.W < 8)) (h2 : ¬ (tkF m.l = 3 ∧ T m.l.s = nI 40 ∧ m.pa < 8)) (h3 : lfF T key m.l = none) : msF n T key m = .inr (false, m) := by
  unfold msF; rw [if_pos h, if_neg h1, if_neg h2, h3]
theorem ms_leaf {n key : Nat} {T : Vc} {m : Mc} {x : Int32} (h : m.wa = true) (h1 : ¬ tkF m.l = 3) (h3 : lfF T key m.l = some x) : msF n T key m = .inl (lxN n T m.l, (stF 6 m.W (x :: m.C)).2, m.at + 1, (stF 6 m.W (x :: m.C)).1, m.ts, m.pa, false) := by
  unfold msF; rw [if_pos h, if_neg (fun q => h1 q.1), if_neg (fun q => h1 q.1), h3]
theorem ms_not {n key : Nat} {T : Vc} {m : Mc} (h : m.wa = true) (h1 : tkF m.l = 3 ∧ T m.l.s = nI 33 ∧ cnN m.W < 8) : msF n T key m = .inl (lxN n T m.l, m.C, m.at, NOTv :: m.W, m.ts, m.pa, true) := by
  unfold msF; rw [if_pos h, if_pos h1]
theorem ms_open {n key : Nat} {T : Vc} {m : Mc} (h : m.wa = true) (h1 : tkF m.l = 3 ∧ T m.l.s = nI 40 ∧ m.pa < 8) : msF n T key m = .inl (lxN n T m.l, m.C, m.at, OPENv :: m.W, ubF m.ts (m.pa + 1) false, m.pa + 1, true) := by
  unfold msF; rw [if_pos h, if_neg (fun q => absurd (q.2.1.symm.trans h1.2.1) (by decide)), if_pos h1]
theorem ms_end {n key : Nat} {T : Vc} {m : Mc} (h : m.wa = false) (h1 : tkF m.l = 0) : msF n T key m = .inr (decide (m.pa = 0), (m.l, (stF 0 m.W m.C).2, m.at, (stF 0 m.W m.C).1, m.ts, m.pa, false)) := by
  unfold msF; rw [if_neg (by rw [h]; decide), if_pos h1]
theorem ms_close {n key : Nat} {T : Vc} {m : Mc} (h : m.wa = false) (h1 : tkF m.l = 3 ∧ T m.l.s = nI 41 ∧ 0 < m.pa) : msF n T key m = .inl (lxN n T m.l, (stF 6 (stF 0 m.W m.C).1.tail (stF 0 m.W m.C).2).2, m.at, (stF 6 (stF 0 m.W m.C).1.tail (stF 0 m.W m.C).2).1, m.ts, m.pa - 1, false) := by
  unfold msF; rw [if_neg (by rw [h]; decide), if_neg (by rw [h1.1]; decide), if_pos h1]
theorem ms_stop {n key : Nat} {T : Vc} {m : Mc} (h : m.wa = false) (h0 : ¬ tkF m.l = 0) (h1 : ¬ (tkF m.l = 3 ∧ T m.l.s = nI 41 ∧ 0 < m.pa)) (h2 : sgF T m.l = 0 ∨ (rkF (sgF T m.l) = 3 ∧ m.ts m.pa = true)) : msF n T key m = .inr (false, m) := by
  unfold msF; rw [if_neg (by rw [h]; decide), if_neg h0, if_neg h1, if_pos h2]
theorem sg_tk {T : Vc} {l : Lx} (h : ¬ sgF T l = 0) : tkF l = 3 ∧ sgF T l = sgV (T l.s) ∧ ¬ T l.s = nI 41 := by
  unfold sgF at h ⊢
  by_cases q : tkF l = 3
  · rw [if_pos q] at h ⊢
    exact ⟨q, rfl, fun e => h (by rw [e]; decide)⟩
  · rw [if_neg q] at h
    exact absurd rfl h
theorem ms_sign {n key : Nat} {T : Vc} {m : Mc} (h : m.wa = false) (h1 : ¬ sgF T m.l = 0) (h2 : ¬ (rkF (sgF T m.l) = 3 ∧ m.ts m.pa = true)) : msF n T key m = .inl (lxN n T m.l, (stF (rkF (sgF T m.l)) m.W m.C).2, m.at, sgF T m.l :: (stF (rkF (sgF T m.l)) m.W m.C).1, ubF m.ts m.pa (tsF (sgF T m.l) (m.ts m.pa)), m.pa, true) := by
  have q := sg_tk h1
  unfold msF; rw [if_neg (by rw [h]; decide), if_neg (by rw [q.1]; decide), if_neg (fun z => q.2.2 z.2.1), if_neg (fun z => z.elim h1 h2)]
theorem lf3 {T : Vc} {key : Nat} {l : Lx} (h : tkF l = 3 ∨ tkF l = 0 ∨ tkF l = 4) : lfF T key l = none := lf0 (by omega) (fun q => by omega)
/-- states -/
def Pz (n : Nat) (T : Vc) (key : Nat) (m : Mc) (h : Mm) : Prop := m.wa = true ∧ Lz n T m.l ∧ Cs n T key h m.l m.at m.C ∧ h 8 6 = nI m.pa ∧ h 8 7 = nI (cnN m.W) ∧ m.W.length + m.C.length ≤ m.l.s ∧ m.pa ≤ 8
def Po (n : Nat) (T : Vc) (key : Nat) (m m' : Mc) (h h' : Mm) (C' : List Int32) : Prop := (∃ c, stq n T key c m m') ∧ m'.wa = false ∧ m'.pa = m.pa ∧ (∀ j, j < m.pa → m'.ts j = m.ts j) ∧ Lz n T m'.l ∧ m.l.e ≤ m'.l.s ∧ m'.W.length + m'.C.length ≤ m'.l.s ∧ Cs n T key h' m'.l m'.at C' ∧ h' 8 6 = h 8 6 ∧ h' 8 7 = h 8 7 ∧ Fq h h' ∧ (∀ d, wfL (nmF key) m.C d → wfL (nmF key) C' (d + 1))
def Pf (n : Nat) (T : Vc) (key : Nat) (m : Mc) (h h' : Mm) : Prop := ∃ m', Mend n T key m false m' ∧ h' 8 3 = nI m'.l.s ∧ Fq h h'
def PiQ (n : Nat) (T : Vc) (key : Nat) (m : Mc) (h : Mm) : Option Value → Mm → Prop := fun r h' => (r = some (.int (nI 0)) ∧ Pf n T key m h h') ∨ (r = some (.int (nI 1)) ∧ ∃ m' C', Po n T key m m' h h' C' ∧ (m'.W, m'.C) = stF 6 m.W C' ∧ m'.ts m.pa = m.ts m.pa)
def Sp (T : Vc) (lv : Nat) (m : Mc) : Prop := sgF T m.l = 0 ∨ rkF (sgF T m.l) ≤ lv ∨ (rkF (sgF T m.l) = 3 ∧ m.ts m.pa = true ∧ lv ≤ 2)
def PaQ (n : Nat) (T : Vc) (key lv : Nat) (m : Mc) (h : Mm) : Option Value → Mm → Prop := fun r h' => (r = some (.int (nI 0)) ∧ Pf n T key m h h') ∨ (r = some (.int (nI 1)) ∧ ∃ m' C', Po n T key m m' h h' C' ∧ stF (lv + 1) m'.W m'.C = (m.W, C') ∧ (3 ≤ lv → m'.ts m.pa = m.ts m.pa) ∧ Sp T lv m')
def PieceC (w : Wt) (n : Nat) (T : Vc) (key d : Nat) : Prop := ∀ (m : Mc) (h : Mm) (k : Nat), n - m.l.s ≤ d → 8 * (n - m.l.s) + 14 ≤ k → Pz n T key m h → Ok w k MX3_piece [.ref 8] h (PiQ n T key m h)
def PartC (w : Wt) (n : Nat) (T : Vc) (key d lv : Nat) : Prop := ∀ (m : Mc) (h : Mm) (k : Nat), n - m.l.s ≤ d → 8 * (n - m.l.s) + 20 - lv ≤ k → Pz n T key m h → okW lv m.W → (lv ≤ 2 → m.ts m.pa = false) → Ok w k MX3_part [.ref 8, .int (nI lv)] h (PaQ n T key lv m h)
theorem Cs.put {n key a : Nat} {T : Vc} {h h' : Mm} {l : Lx} {C C' : List Int32} (hC : Cs n T key h l a C) (hc : CC h' C') (f1 : ∀ a, a ≠ 8 → a ≠ 10 → h' a = h a) (f2 : ∀ j, j ≠ 11 → h' 8 j = h 8 j) : Cs n T key h' l a C' := by
  obtain ⟨a1, a2, a3, ⟨b1, b2, b3, b4⟩, a5, a6⟩ := hC
  exact ⟨by rw [f1 9 (by decide) (by decide)]; exact a1, by rw [f2 1 (by decide)]; exact a2, by rw [f2 8 (by decide)]; exact a3, ⟨by rw [f2 2 (by decide)]; exact b1, by rw [f2 3 (by decide)]; exact b2, by rw [f2 4 (by decide)]; exact b3, by rw [f2 5 (by decide)]; exact b4⟩, by rw [f2 9 (by decide)]; exact a5, hc⟩
theorem Cs.lc {n key a : Nat} {T : Vc} {h : Mm} {l : Lx} {C : List Int32} (hC : Cs n T key h l a C) : Cs n T key (up h 8 9 (nI (a + 1))) l (a + 1) C := by
  obtain ⟨a1, a2, a3, ⟨b1, b2, b3, b4⟩, a5, a6⟩ := hC
  exact ⟨by rw [upN (by decide)]; exact a1, by rw [uN (by omega)]; exact a2, by rw [uN (by omega)]; exact a3, ⟨by rw [uN (by omega)]; exact b1, by rw [uN (by omega)]; exact b2, by rw [uN (by omega)]; exact b3, by rw [uN (by omega)]; exact b4⟩, uF, a6.of (uN (by omega)) (upN (by decide))⟩
theorem Fq.put {h h' : Mm} (f1 : ∀ a, a ≠ 8 → a ≠ 10 → h' a = h a) (f2 : ∀ j, j ≠ 11 → h' 8 j = h 8 j) : Fq h h' := ⟨f1, fun j hj => f2 j (fun e => hj (by rw [e]; decide))⟩
theorem Lz.nx {n : Nat} {T : Vc} {l : Lx} (h : Lg n l) : Lz n T (lxN n T l) := ⟨l, h.2.2.1, rfl⟩
theorem Lg.adv {n : Nat} {T : Vc} {l : Lx} (h : Lg n l) : l.e ≤ (lxN n T l).s := (lxN_Lg h.2.2.1).2
set_option maxRecDepth 20000 in
set_option maxHeartbeats 4000000 in
theorem leaf_g (w : Wt) {k : Nat} (hk : 3 ≤ k) (n key a : Nat) (hn : n ≤ 96) (hkey : key < 3) (T : Vc) (l : Lx) (C : List Int32) (h : Mm) (hz : Lz n T l) (hB : Bt n T) (hC : Cs n T key h l a C) (hlen : C.length < 96) (x : Int32) (hl : lfF T key l = some x) (ht : l.t = false) (hx : nI 0 ≤ x) : Wp w k MX3_leaf (fun r h' => (lfF T key l = none ∧ r = some (.int (nI 0)) ∧ h' = h) ∨ (∃ x, lfF T key l = some x ∧ r = some (.int (nI 1)) ∧ Cs n T key h' (lxN n T l) (a + 1) (x :: C) ∧ h' 8 6 = h 8 6 ∧ h' 8 7 = h 8 7 ∧ Fq h h')) 20 [some (.ref 8), some (.int x)] [] h := by
  have hg := hz.lg
  obtain ⟨a1, a2, a3, a4, a5, a6⟩ := id hC
  refine p_run (pc' := 24) [.aload_n 0, .getfield 70] mkX3_leaf (by decide +kernel) rfl rfl ?_
  rw [a4.2.2.2, ht]
  refine p_if_ne (off := 7) 31 (by decide +kernel) (by decide) (fun cq1 => ?_) (fun cq1 => ?_)
  · exact False.elim (by revert cq1; decide)
  · refine p_run (pc' := 28) [.iload_n 1] mkX3_leaf (by decide +kernel) rfl rfl ?_
    refine p_if_ge (off := 5) 33 (by decide +kernel) (by decide) (fun cq2 => ?_) (fun cq2 => ?_)
    · refine p_run (pc' := 35) [.aload_n 0, .iload_n 1] mkX3_leaf (by decide +kernel) rfl rfl ?_
      refine p_callVo (cput_ok w (k := k - 1) C x x (enC_n hx).symm h a6 hlen) (fun _ _ q => q.1) kvX3_99 (by decide +kernel) (by decide) rfl (by omega) rfl rfl rfl rfl rfl (fun h' hq => ?_)
      obtain ⟨-, c1, c2, c3⟩ := hq
      rename Mm => h1
      have hC1 := hC.put c1 c2 c3
      refine p_run (pc' := 49) [.aload_n 0, .dup, .getfield 54, .iconst 1, .iadd, .putfield 54, .aload_n 0] mkX3_leaf (by decide +kernel) rfl rfl ?_
      rw [hC1.2.2.2.2.1, show nI a + Int32.ofInt 1 = nI (a + 1) from nI_add _ _]
      have hC2 := hC1.lc
      have f6 : up h1 8 9 (nI (a + 1)) 8 6 = h 8 6 := by rw [uN (by decide)]; exact c3 6 (by decide)
      have f7 : up h1 8 9 (nI (a + 1)) 8 7 = h 8 7 := by rw [uN (by decide)]; exact c3 7 (by decide)
      have fF : Fq h (up h1 8 9 (nI (a + 1))) := (Fq.put c2 c3).tr (Fq.u8 (by decide))
      generalize up h1 8 9 (nI (a + 1)) = h2 at *
      obtain ⟨d1, d2, d3, d4, d5, d6⟩ := id hC2
      refine p_callVo (next_ok w (k := k - 1) (by omega) n hn l hg.2.2.1 hg.2.2.2.2.2 h2 d2 d4.1 d4.2.2.1) (fun _ _ q => q.1) kvX3_35 (by decide +kernel) (by decide) rfl (by omega) rfl rfl rfl rfl rfl (fun h' hq => ?_)
      obtain ⟨-, e1, e2⟩ := hq
      rename Mm => h3
      rw [d1] at e1
      refine p_run (pc' := 53) [.iconst 1] mkX3_leaf (by decide +kernel) rfl rfl ?_
      refine p_iret rfl rfl (by decide +kernel) ?_
      exact Or.inr ⟨x, hl, rfl, hC2.nx e2 e1, by rw [e2.2 6 (by decide)]; exact f6, by rw [e2.2 7 (by decide)]; exact f7, fF.tr (Fq.f8 e2)⟩
    · exact absurd hx cq2
set_option maxRecDepth 20000 in
set_option maxHeartbeats 4000000 in
theorem leaf_b (w : Wt) {k : Nat} (n key a : Nat) (hn : n ≤ 96) (hkey : key < 3) (T : Vc) (l : Lx) (C : List Int32) (h : Mm) (hz : Lz n T l) (hB : Bt n T) (hC : Cs n T key h l a C) (hlen : C.length < 96) (x : Int32) (hl : lfF T key l = none) (hx : l.t = true ∨ x < 0) : Wp w k MX3_leaf (fun r h' => (lfF T key l = none ∧ r = some (.int (nI 0)) ∧ h' = h) ∨ (∃ x, lfF T key l = some x ∧ r = some (.int (nI 1)) ∧ Cs n T key h' (lxN n T l) (a + 1) (x :: C) ∧ h' 8 6 = h 8 6 ∧ h' 8 7 = h 8 7 ∧ Fq h h')) 20 [some (.ref 8), some (.int x)] [] h := by
  obtain ⟨a1, a2, a3, a4, a5, a6⟩ := id hC
  refine p_run (pc' := 24) [.aload_n 0, .getfield 70] mkX3_leaf (by decide +kernel) rfl rfl ?_
  rw [a4.2.2.2]
  refine p_if_ne (off := 7) 31 (by decide +kernel) (by decide) (fun cq1 => ?_) (fun cq1 => ?_)
  · refine p_run (pc' := 32) [.iconst 0] mkX3_leaf (by decide +kernel) rfl rfl ?_
    refine p_iret rfl rfl (by decide +kernel) ?_
    exact Or.inl ⟨hl, rfl, rfl⟩
  · refine p_run (pc' := 28) [.iload_n 1] mkX3_leaf (by decide +kernel) rfl rfl ?_
    refine p_if_ge (off := 5) 33 (by decide +kernel) (by decide) (fun cq2 => ?_) (fun cq2 => ?_)
    · exact absurd cq2 (hx.elim (fun q => absurd cq1 (by rw [q]; decide)) (fun q => Int32.not_le.mpr q))
    · refine p_run (pc' := 32) [.iconst 0] mkX3_leaf (by decide +kernel) rfl rfl ?_
      refine p_iret rfl rfl (by decide +kernel) ?_
      exact Or.inl ⟨hl, rfl, rfl⟩
set_option maxRecDepth 20000 in
set_option maxHeartbeats 4000000 in
theorem leaf_ok (w : Wt) {k : Nat} (hk : 10 ≤ k) (n key a : Nat) (hn : n ≤ 96) (hkey : key < 3) (T : Vc) (l : Lx) (C : List Int32) (h : Mm) (hz : Lz n T l) (hB : Bt n T) (hC : Cs n T key h l a C) (hlen : C.length < 96) (hw : isW l.k = true) : Ok w k MX3_leaf [.ref 8] h (fun r h' => (lfF T key l = none ∧ r = some (.int (nI 0)) ∧ h' = h) ∨ (∃ x, lfF T key l = some x ∧ r = some (.int (nI 1)) ∧ Cs n T key h' (lxN n T l) (a + 1) (x :: C) ∧ h' 8 6 = h 8 6 ∧ h' 8 7 = h 8 7 ∧ Fq h h')) := by
  show Wp w k MX3_leaf _ 0 [some (.ref 8), none] [] h
  have hg := hz.lg
  obtain ⟨a1, a2, a3, a4, a5, a6⟩ := id hC
  refine p_run (pc' := 5) [.aload_n 0, .getfield 42, .iconst 2] mkX3_leaf (by decide +kernel) rfl rfl ?_
  rw [a4.1]
  refine p_icmp_ne (off := 10) 15 (by decide +kernel) (by decide) (fun cq1 => ?_) (fun cq1 => ?_)
  · have h2 : ¬ l.k = 2 := fun q => cq1 (by rw [q]; rfl)
    have h1 : l.k = 1 := (of_decide_eq_true hw).resolve_right h2
    refine p_run (pc' := 16) [.aload_n 0] mkX3_leaf (by decide +kernel) rfl rfl ?_
    refine p_callVv (name_ok w (k := k - 1) (by omega) n hn l hg h a2 a4 key hkey a3 (by rw [a1]; exact hB)) kvX3_132 (by decide +kernel) (by decide) rfl (by omega) rfl rfl rfl rfl rfl ?_
    rw [a1]
    refine p_run (pc' := 20) [.istore_n 1] mkX3_leaf (by decide +kernel) rfl rfl ?_
    have ht1 : tkF l = if l.t = true then 4 else 1 := by unfold tkF; rw [h1]; rfl
    by_cases ht : l.t = true
    · exact leaf_b w n key a hn hkey T l C h hz hB hC hlen _ (lf3 (by rw [ht1, if_pos ht]; omega)) (Or.inl ht)
    · have t1 : tkF l = 1 := by rw [ht1, if_neg ht]
      by_cases hq : l.e - l.s = 1 ∧ nI 0 ≤ nmI key (T l.s)
      · rw [if_pos hq]
        have hl := lf1 (key := key) t1 hq.1 hq.2
        exact leaf_g w (by omega) n key a hn hkey T l C h hz hB hC hlen _ hl (Bool.eq_false_iff.mpr ht) (lf_in hz hB hkey hl).1
      · rw [if_neg hq]
        exact leaf_b w n key a hn hkey T l C h hz hB hC hlen _ (lf0 (by omega) (fun q => hq q.2)) (Or.inr (by decide))
  · have h2 : l.k = 2 := (nI_eq (by have := hg.2.2.2.2.2; omega) (by omega)).mp cq1
    refine p_run (pc' := 9) [.aload_n 0] mkX3_leaf (by decide +kernel) rfl rfl ?_
    refine p_callVv (number_ok w (k := k - 1) (by omega) n hn l hg h a2 a4) kvX3_129 (by decide +kernel) (by decide) rfl (by omega) rfl rfl rfl rfl rfl ?_
    rw [a1]
    refine p_run (pc' := 20) [.goto 7, .istore_n 1] mkX3_leaf (by decide +kernel) rfl rfl ?_
    have ht1 : tkF l = if l.t = true ∨ 4 < l.e - l.s then 4 else 2 := by unfold tkF; rw [h2]; rfl
    by_cases ht : l.t = true ∨ 4 < l.e - l.s
    · refine leaf_b w n key a hn hkey T l C h hz hB hC hlen _ (lf3 (by rw [ht1, if_pos ht]; omega)) (ht.elim Or.inl (fun q => Or.inr ?_))
      rw [if_pos q]; decide
    · have t2 : tkF l = 2 := by rw [ht1, if_neg ht]
      have hl : lfF T key l = some (vaF T l) := lf2 t2
      have hv : vaF T l = nuF T l.s (l.e - l.s) := by unfold vaF; rw [if_pos h2, Nat.min_eq_left (by omega)]
      rw [if_neg (fun q => ht (Or.inr q)), ← hv]
      exact leaf_g w (by omega) n key a hn hkey T l C h hz hB hC hlen _ hl (Bool.eq_false_iff.mpr (fun q => ht (Or.inl q))) (lf_in hz hB hkey hl).1
set_option maxRecDepth 20000 in
set_option maxHeartbeats 4000000 in
theorem not_ok (w : Wt) {k : Nat} (n key d : Nat) (hn : n ≤ 96) (hkey : key < 3) (T : Vc) (hB : Bt n T) (m : Mc) (h : Mm) (hIH : ∀ d', d' < d → PieceC w n T key d') (hd : n - m.l.s ≤ d) (hk : 8 * (n - m.l.s) + 13 ≤ k) (hz : Pz n T key m h) (ht : tkF m.l = 3) (hb : T m.l.s = nI 33) : Ok w k MX3_not [.ref 8] h (PiQ n T key m h) := by
  show Wp w k MX3_not _ 0 [some (.ref 8)] [] h
  obtain ⟨z1, z2, z3, z4, z5, z6, z7⟩ := id hz
  have hg := z2.lg
  have hk0 : m.l.k ≠ 0 := (tk3 ht).1
  have hadv := hg.adv (T := T)
  have hse := hg.2.2.2.2.1 hk0
  have hen := hg.2.2.1
  have hcn := cnN_le m.W
  refine p_run (pc' := 6) [.aload_n 0, .getfield 51, .bipush 8] mkX3_not (by decide +kernel) rfl rfl ?_
  rw [z5]
  refine p_icmp_lt (off := 5) 11 (by decide +kernel) (by decide) (fun cq1 => ?_) (fun cq1 => ?_)
  · have c8 : cnN m.W < 8 := (nI_ltI (by omega) (by omega)).mp cq1
    have hm := ms_not (n := n) (key := key) z1 ⟨ht, hb, c8⟩
    refine p_run (pc' := 22) [.aload_n 0, .dup, .getfield 51, .iconst 1, .iadd, .putfield 51, .aload_n 0] mkX3_not (by decide +kernel) rfl rfl ?_
    rw [z5, show nI (cnN m.W) + Int32.ofInt 1 = nI (cnN m.W + 1) from nI_add _ _]
    have y3 := z3.u (j := 7) (x := nI (cnN m.W + 1)) (Or.inr rfl)
    have y7 : up h 8 7 (nI (cnN m.W + 1)) 8 7 = nI (cnN m.W + 1) := uF
    have y6 : up h 8 7 (nI (cnN m.W + 1)) 8 6 = nI m.pa := by rw [uN (by decide)]; exact z4
    have yF : Fq h (up h 8 7 (nI (cnN m.W + 1))) := Fq.u8 (by decide)
    generalize up h 8 7 (nI (cnN m.W + 1)) = h1 at *
    obtain ⟨d1, d2, d3, d4, d5, d6⟩ := id y3
    refine p_callVo (next_ok w (k := k - 1) (by omega) n hn m.l hg.2.2.1 hg.2.2.2.2.2 h1 d2 d4.1 d4.2.2.1) (fun _ _ q => q.1) kvX3_35 (by decide +kernel) (by decide) rfl (by omega) rfl rfl rfl rfl rfl (fun h' hq => ?_)
    obtain ⟨-, e1, e2⟩ := hq
    rename Mm => h2
    rw [d1] at e1
    have x3 := y3.nx e2 e1
    have hP : Pz n T key (lxN n T m.l, m.C, m.at, NOTv :: m.W, m.ts, m.pa, true) h2 := ⟨rfl, Lz.nx hg, x3, by rw [e2.2 6 (by decide)]; exact y6, by rw [e2.2 7 (by decide), y7, cnN, if_pos rfl, Nat.add_comm], by show m.W.length + 1 + m.C.length ≤ (lxN n T m.l).s; omega, z7⟩
    refine p_run (pc' := 26) [.aload_n 0] mkX3_not (by decide +kernel) rfl rfl ?_
    refine p_callV (hIH (n - (lxN n T m.l).s) (by omega) (lxN n T m.l, m.C, m.at, NOTv :: m.W, m.ts, m.pa, true) h2 (k - 1) (Nat.le_refl _) (by show 8 * (n - (lxN n T m.l).s) + 14 ≤ k - 1; omega) hP) kvX3_92 (by decide +kernel) (by decide) rfl (by omega) rfl rfl rfl rfl rfl (fun r h' hq => ?_)
    have hz1 := hq
    rename Mm => h3
    have F3 := yF.tr (Fq.f8 e2)
    rcases hz1 with ⟨rfl, m', f1, f2, f3⟩ | ⟨rfl, m', C', po, hW, hts⟩
    · refine p_if_ne (off := 5) 34 (by decide +kernel) (by decide) (fun cq29 => ?_) (fun cq29 => ?_)
      · exact False.elim (by revert cq29; decide)
      · refine p_run (pc' := 33) [.iconst 0] mkX3_not (by decide +kernel) rfl rfl ?_
        refine p_iret rfl rfl (by decide +kernel) ?_
        exact Or.inl ⟨rfl, m', Mend.step hm f1, f2, F3.tr f3⟩
    · obtain ⟨⟨c, p1⟩, p2, p3, p4, p5, p6, p7, p8, p9, p10, p11, p12⟩ := po
      refine p_if_ne (off := 5) 34 (by decide +kernel) (by decide) (fun cq29 => ?_) (fun cq29 => ?_)
      · refine p_run (pc' := 48) [.aload_n 0, .dup, .getfield 51, .iconst 1, .isub, .putfield 51, .aload_n 0, .sipush 20033] mkX3_not (by decide +kernel) rfl rfl ?_
        rw [p10, e2.2 7 (by decide), y7, show nI (cnN m.W + 1) - Int32.ofInt 1 = nI (cnN m.W) from (nIs (a := cnN m.W + 1) (b := 1) (by omega)).trans (by rw [Nat.add_sub_cancel])]
        have q3 := p8.u (j := 7) (x := nI (cnN m.W)) (Or.inr rfl)
        have q7 : up h3 8 7 (nI (cnN m.W)) 8 7 = nI (cnN m.W) := uF
        have q6 : up h3 8 7 (nI (cnN m.W)) 8 6 = h 8 6 := by rw [uN (by decide), p9, e2.2 6 (by decide), y6, z4]
        have qF : Fq h (up h3 8 7 (nI (cnN m.W))) := (F3.tr p11).tr (Fq.u8 (by decide))
        generalize up h3 8 7 (nI (cnN m.W)) = h4 at *
        have hst : stF 6 (NOTv :: m.W) C' = stF 6 m.W (NOTv :: C') := by rw [stF, if_pos ⟨by decide, by decide⟩]
        have hln := stF_len 6 (NOTv :: m.W) C'
        have hW : (m'.W, m'.C) = stF 6 (NOTv :: m.W) C' := hW
        rw [← hW, List.length_cons] at hln
        have hlg := p5.lg.1
        have hlc : C'.length < 96 := by have hln : m'.W.length + m'.C.length = m.W.length + 1 + C'.length := hln; omega
        refine p_callVo (cput_ok w (k := k - 1) C' NOTv (Int32.ofInt 20033) rfl h4 q3.2.2.2.2.2 hlc) (fun _ _ q => q.1) kvX3_99 (by decide +kernel) (by decide) rfl (by omega) rfl rfl rfl rfl rfl (fun h' hq => ?_)
        obtain ⟨-, c1, c2, c3⟩ := hq
        rename Mm => h5
        refine p_run (pc' := 52) [.iconst 1] mkX3_not (by decide +kernel) rfl rfl ?_
        refine p_iret rfl rfl (by decide +kernel) ?_
        exact Or.inr ⟨rfl, m', NOTv :: C', ⟨⟨c + 1, _, hm, p1⟩, p2, p3, p4, p5, Nat.le_trans (by show m.l.e ≤ (lxN n T m.l).e; have := (lxN_Lg (T := T) hg.2.2.1).1.2.1; omega) p6, p7, q3.put c1 c2 c3, by rw [c3 6 (by decide)]; exact q6, by rw [c3 7 (by decide), q7, z5], qF.tr (Fq.put c2 c3), fun d hd => Or.inr (Or.inl ⟨rfl, by omega, p12 d hd⟩)⟩, by rw [← hst]; exact hW, hts⟩
      · exact False.elim (by revert cq29; decide)
  · refine p_run (pc' := 10) [.iconst 0] mkX3_not (by decide +kernel) rfl rfl ?_
    refine p_iret rfl rfl (by decide +kernel) ?_
    exact Or.inl ⟨rfl, m, Mend.now (ms_bad z1 (fun q => cq1 (show nI (cnN m.W) < nI 8 from nI_lt q.2.2 (by omega))) (fun q => absurd (hb.symm.trans q.2.1) (by decide)) (lf3 (Or.inl ht))), z3.2.2.2.1.2.1, Fq.rf⟩
theorem close3 {n : Nat} {T : Vc} {l : Lx} (h : Lz n T l) (hs : l.s < n) (hT : T l.s = nI 41) : tkF l = 3 := by
  obtain ⟨l0, h1, rfl⟩ := h
  unfold lxN at *
  generalize skF n T l0.e = s at *
  have hs : s < n := hs
  have hT : T s = nI 41 := hT
  have e : srt n T s = 3 := srt_sg hs (fun q => absurd (ltB_iff.mp q).2.1 (by rw [hT]; decide)) (fun q => absurd (fgB_iff.mp q).2.1 (by rw [hT]; decide))
  unfold lxB tkF
  rw [e]
  rfl
def endM (m : Mc) : Mc := if tkF m.l = 0 then (m.l, (stF 0 m.W m.C).2, m.at, (stF 0 m.W m.C).1, m.ts, m.pa, false) else m
theorem endM_l (m : Mc) : (endM m).l = m.l := by unfold endM; split <;> rfl
theorem nclose_end0 {n key : Nat} {T : Vc} {m : Mc} (h : m.wa = false) (hc : ¬ (tkF m.l = 3 ∧ T m.l.s = nI 41 ∧ 0 < m.pa)) (h0 : tkF m.l = 0 → ¬ m.pa = 0) (hs : Sp T 0 m) : Mend n T key m false (endM m) := by
  unfold endM
  by_cases e : tkF m.l = 0
  · rw [if_pos e]
    refine Mend.now ?_
    rw [ms_end h e, decide_eq_false (h0 e)]
  · rw [if_neg e]
    refine Mend.now (ms_stop h e hc ?_)
    rcases hs with q | q | q
    · exact Or.inl q
    · have := rk1 (sgF T m.l); omega
    · exact Or.inr ⟨q.1, q.2.1⟩
theorem nclose_end {n key p : Nat} {T : Vc} {m : Mc} (h : m.wa = false) (hp : m.pa = p + 1) (hc : ¬ byA n T m.l.s = Int32.ofInt 41) (hg : Lg n m.l) (hs : Sp T 0 m) : Mend n T key m false (endM m) :=
  nclose_end0 h (fun q => hc (by unfold byA; rw [if_pos (Classical.byContradiction (fun z => by have hn := hg.1; have := hg.2.2.2.1.mpr (by omega); exact (tk3 q.1).1 this))]; exact q.2.1)) (fun _ => by omega) hs
set_option maxRecDepth 20000 in
set_option maxHeartbeats 4000000 in
theorem bracket_ok (w : Wt) {k : Nat} (n key d : Nat) (hn : n ≤ 96) (hkey : key < 3) (T : Vc) (hB : Bt n T) (m : Mc) (h : Mm) (hIH : ∀ d', d' < d → PartC w n T key d' 0) (hd : n - m.l.s ≤ d) (hk : 8 * (n - m.l.s) + 13 ≤ k) (hz : Pz n T key m h) (ht : tkF m.l = 3) (hb : T m.l.s = nI 40) : Ok w k MX3_bracket [.ref 8] h (PiQ n T key m h) := by
  show Wp w k MX3_bracket _ 0 [some (.ref 8)] [] h
  obtain ⟨z1, z2, z3, z4, z5, z6, z7⟩ := id hz
  have hg := z2.lg
  have hk0 : m.l.k ≠ 0 := (tk3 ht).1
  have hadv := hg.adv (T := T)
  have hse := hg.2.2.2.2.1 hk0
  have hen := hg.2.2.1
  refine p_run (pc' := 6) [.aload_n 0, .getfield 48, .bipush 8] mkX3_bracket (by decide +kernel) rfl rfl ?_
  rw [z4]
  refine p_icmp_lt (off := 5) 11 (by decide +kernel) (by decide) (fun cq1 => ?_) (fun cq1 => ?_)
  · have c8 : m.pa < 8 := (nI_ltI (by omega) (by omega)).mp cq1
    have hm := ms_open (n := n) (key := key) z1 ⟨ht, hb, c8⟩
    refine p_run (pc' := 22) [.aload_n 0, .dup, .getfield 48, .iconst 1, .iadd, .putfield 48, .aload_n 0] mkX3_bracket (by decide +kernel) rfl rfl ?_
    rw [z4, show nI m.pa + Int32.ofInt 1 = nI (m.pa + 1) from nI_add _ _]
    have y3 := z3.u (j := 6) (x := nI (m.pa + 1)) (Or.inl rfl)
    have y6 : up h 8 6 (nI (m.pa + 1)) 8 6 = nI (m.pa + 1) := uF
    have y7 : up h 8 6 (nI (m.pa + 1)) 8 7 = nI (cnN m.W) := by rw [uN (by decide)]; exact z5
    have yF : Fq h (up h 8 6 (nI (m.pa + 1))) := Fq.u8 (by decide)
    generalize up h 8 6 (nI (m.pa + 1)) = h1 at *
    obtain ⟨d1, d2, d3, d4, d5, d6⟩ := id y3
    refine p_callVo (next_ok w (k := k - 1) (by omega) n hn m.l hg.2.2.1 hg.2.2.2.2.2 h1 d2 d4.1 d4.2.2.1) (fun _ _ q => q.1) kvX3_35 (by decide +kernel) (by decide) rfl (by omega) rfl rfl rfl rfl rfl (fun h' hq => ?_)
    obtain ⟨-, e1, e2⟩ := hq
    rename Mm => h2
    rw [d1] at e1
    have x3 := y3.nx e2 e1
    have hP : Pz n T key (lxN n T m.l, m.C, m.at, OPENv :: m.W, ubF m.ts (m.pa + 1) false, m.pa + 1, true) h2 := ⟨rfl, Lz.nx hg, x3, by rw [e2.2 6 (by decide)]; exact y6, by rw [e2.2 7 (by decide), y7, cnN, if_neg (by decide), Nat.zero_add], by show m.W.length + 1 + m.C.length ≤ (lxN n T m.l).s; omega, by show m.pa + 1 ≤ 8; omega⟩
    refine p_run (pc' := 27) [.aload_n 0, .iconst 0] mkX3_bracket (by decide +kernel) rfl rfl ?_
    refine p_callV (hIH (n - (lxN n T m.l).s) (by omega) (lxN n T m.l, m.C, m.at, OPENv :: m.W, ubF m.ts (m.pa + 1) false, m.pa + 1, true) h2 (k - 1) (Nat.le_refl _) (by show 8 * (n - (lxN n T m.l).s) + 20 - 0 ≤ k - 1; omega) hP (Or.inl rfl) (fun _ => by show ubF m.ts (m.pa + 1) false (m.pa + 1) = false; unfold ubF; rw [if_pos rfl])) kvX3_38 (by decide +kernel) (by decide) rfl (by omega) rfl rfl rfl rfl rfl (fun r h' hq => ?_)
    have hz1 := hq
    rename Mm => h3
    have F3 := yF.tr (Fq.f8 e2)
    rcases hz1 with ⟨rfl, m', f1, f2, f3⟩ | ⟨rfl, m', C', po, hW, hts, hsp⟩
    · refine p_if_eq (off := 16) 46 (by decide +kernel) (by decide) (fun cq30 => ?_) (fun cq30 => ?_)
      · refine p_run (pc' := 47) [.iconst 0] mkX3_bracket (by decide +kernel) rfl rfl ?_
        refine p_iret rfl rfl (by decide +kernel) ?_
        exact Or.inl ⟨rfl, m', Mend.step hm f1, f2, F3.tr f3⟩
      · exact False.elim (by revert cq30; decide)
    · obtain ⟨⟨c, p1⟩, p2, p3, p4, p5, p6, p7, p8, p9, p10, p11, p12⟩ := po
      have p3 : m'.pa = m.pa + 1 := p3
      have p4 : ∀ j, j < m.pa + 1 → m'.ts j = ubF m.ts (m.pa + 1) false j := p4
      have p6 : (lxN n T m.l).e ≤ m'.l.s := p6
      have hW : stF 1 m'.W m'.C = (OPENv :: m.W, C') := hW
      have hg2 := p5.lg
      obtain ⟨b1, b2, b3, b4, b5, b6⟩ := id p8
      refine p_if_eq (off := 16) 46 (by decide +kernel) (by decide) (fun cq30 => ?_) (fun cq30 => ?_)
      · exact False.elim (by revert cq30; decide)
      · refine p_run (pc' := 38) [.aload_n 0, .aload_n 0, .getfield 32] mkX3_bracket (by decide +kernel) rfl rfl ?_
        rw [b4.2.1]
        refine p_callVv (byteAt_ok w (k := k - 1) n m'.l.s hn (by have := hg2.1; omega) h3 b2) kvX3_60 (by decide +kernel) (by decide) rfl (by omega) rfl rfl rfl rfl rfl ?_
        rw [b1]
        refine p_run (pc' := 43) [.bipush 41] mkX3_bracket (by decide +kernel) rfl rfl ?_
        refine p_icmp_eq (off := 5) 48 (by decide +kernel) (by decide) (fun cq43 => ?_) (fun cq43 => ?_)
        · have hsn : m'.l.s < n := Classical.byContradiction (fun q => by unfold byA at cq43; rw [if_neg q] at cq43; exact absurd cq43 (by decide))
          have hT : T m'.l.s = nI 41 := by unfold byA at cq43; rw [if_pos hsn] at cq43; exact cq43
          have hk2 : tkF m'.l = 3 := close3 p5 hsn hT
          have hm2 := ms_close (n := n) (key := key) p2 ⟨hk2, hT, by omega⟩
          rw [stF01, hW] at hm2
          have hm2 : msF n T key m' = .inl (lxN n T m'.l, (stF 6 m.W C').2, m'.at, (stF 6 m.W C').1, m'.ts, m'.pa - 1, false) := hm2
          refine p_run (pc' := 59) [.aload_n 0, .dup, .getfield 48, .iconst 1, .isub, .putfield 48, .aload_n 0] mkX3_bracket (by decide +kernel) rfl rfl ?_
          rw [p9, e2.2 6 (by decide), y6, show nI (m.pa + 1) - Int32.ofInt 1 = nI m.pa from (nIs (a := m.pa + 1) (b := 1) (by omega)).trans (by rw [Nat.add_sub_cancel])]
          have q3 := p8.u (j := 6) (x := nI m.pa) (Or.inl rfl)
          have q6 : up h3 8 6 (nI m.pa) 8 6 = nI m.pa := uF
          have q7 : up h3 8 6 (nI m.pa) 8 7 = h 8 7 := by rw [uN (by decide), p10, e2.2 7 (by decide), y7, z5]
          have qF : Fq h (up h3 8 6 (nI m.pa)) := (F3.tr p11).tr (Fq.u8 (by decide))
          generalize up h3 8 6 (nI m.pa) = h4 at *
          obtain ⟨a1, a2, a3, a4, a5, a6⟩ := id q3
          refine p_callVo (next_ok w (k := k - 1) (by omega) n hn m'.l hg2.2.2.1 hg2.2.2.2.2.2 h4 a2 a4.1 a4.2.2.1) (fun _ _ q => q.1) kvX3_35 (by decide +kernel) (by decide) rfl (by omega) rfl rfl rfl rfl rfl (fun h' hq => ?_)
          obtain ⟨-, g1, g2⟩ := hq
          rename Mm => h5
          rw [a1] at g1
          have hln := stF_len 1 m'.W m'.C
          rw [hW] at hln
          have hln : m.W.length + 1 + C'.length = m'.W.length + m'.C.length := hln
          have hl6 := stF_len 6 m.W C'
          have hadv2 := hg2.adv (T := T)
          have hlgx := (lxN_Lg (T := T) hg.2.2.1).1.2.1
          have hse2 := hg2.2.1
          refine p_run (pc' := 63) [.iconst 1] mkX3_bracket (by decide +kernel) rfl rfl ?_
          refine p_iret rfl rfl (by decide +kernel) ?_
          exact Or.inr ⟨rfl, (lxN n T m'.l, (stF 6 m.W C').2, m'.at, (stF 6 m.W C').1, m'.ts, m'.pa - 1, false), C', ⟨⟨c + 1 + 1, _, hm, stq_tr p1 ⟨_, hm2, rfl⟩⟩, rfl, by show m'.pa - 1 = m.pa; omega, fun j hj => (p4 j (by omega)).trans (if_neg (by omega)), Lz.nx hg2, by show m.l.e ≤ (lxN n T m'.l).s; omega, by show (stF 6 m.W C').1.length + (stF 6 m.W C').2.length ≤ (lxN n T m'.l).s; omega, q3.nx g2 g1, by rw [g2.2 6 (by decide), q6, z4], by rw [g2.2 7 (by decide)]; exact q7, qF.tr (Fq.f8 g2), p12⟩, rfl, (p4 m.pa (by omega)).trans (if_neg (by omega))⟩
        · refine p_run (pc' := 47) [.iconst 0] mkX3_bracket (by decide +kernel) rfl rfl ?_
          refine p_iret rfl rfl (by decide +kernel) ?_
          exact Or.inl ⟨rfl, endM m', Mend.step hm (Mend.stq p1 (nclose_end p2 p3 cq43 hg2 hsp)), by rw [endM_l]; exact b4.2.1, F3.tr p11⟩
  · refine p_run (pc' := 10) [.iconst 0] mkX3_bracket (by decide +kernel) rfl rfl ?_
    refine p_iret rfl rfl (by decide +kernel) ?_
    exact Or.inl ⟨rfl, m, Mend.now (ms_bad z1 (fun q => absurd (hb.symm.trans q.2.1) (by decide)) (fun q => cq1 (show nI m.pa < nI 8 from nI_lt q.2.2 (by omega))) (lf3 (Or.inl ht))), z3.2.2.2.1.2.1, Fq.rf⟩
set_option maxRecDepth 20000 in
set_option maxHeartbeats 4000000 in
theorem piece_ok (w : Wt) (n key d : Nat) (hn : n ≤ 96) (hkey : key < 3) (T : Vc) (hB : Bt n T) (hP : ∀ d', d' < d → PieceC w n T key d') (hA : ∀ d', d' < d → PartC w n T key d' 0) : PieceC w n T key d := by
  intro m h k hd hk hz
  show Wp w k MX3_piece _ 0 [some (.ref 8), none] [] h
  obtain ⟨z1, z2, z3, z4, z5, z6, z7⟩ := id hz
  have hg := z2.lg
  obtain ⟨a1, a2, a3, a4, a5, a6⟩ := id z3
  have hk3 := hg.2.2.2.2.2
  have hsn := hg.1
  refine p_run (pc' := 4) [.aload_n 0, .getfield 42] mkX3_piece (by decide +kernel) rfl rfl ?_
  rw [a4.1]
  refine p_callSv (isWord_ok w (k := k - 1) m.l.k hk3 h) ksX3_64 (by decide +kernel) (by omega) rfl rfl rfl rfl rfl ?_
  refine p_if_eq (off := 8) 15 (by decide +kernel) (by decide) (fun cq1 => ?_) (fun cq1 => ?_)
  · have nw := bI0.mp cq1
    have hkk : m.l.k = 0 ∨ m.l.k = 3 := by have h1 : ¬ m.l.k = 1 := fun q => nw (by rw [q]; rfl); have h2 : ¬ m.l.k = 2 := fun q => nw (by rw [q]; rfl); omega
    have htk : tkF m.l = m.l.k := by unfold tkF; rcases hkk with e | e <;> rw [e] <;> rfl
    have hlf : lfF T key m.l = none := lf3 (by omega)
    have hby : ∀ v : Int32, ¬ v = Int32.ofInt (-1) → byA n T m.l.s = v → tkF m.l = 3 ∧ T m.l.s = v := fun v nv e => (Classical.em (m.l.s < n)).elim (fun q => by unfold byA at e; rw [if_pos q] at e; exact ⟨by have := hg.2.2.2.1; omega, e⟩) (fun q => by unfold byA at e; rw [if_neg q] at e; exact absurd e.symm nv)
    refine p_run (pc' := 20) [.aload_n 0, .aload_n 0, .getfield 32] mkX3_piece (by decide +kernel) rfl rfl ?_
    rw [a4.2.1]
    refine p_callVv (byteAt_ok w (k := k - 1) n m.l.s hn (by omega) h a2) kvX3_60 (by decide +kernel) (by decide) rfl (by omega) rfl rfl rfl rfl rfl ?_
    rw [a1]
    refine p_run (pc' := 27) [.istore_n 1, .iload_n 1, .bipush 33] mkX3_piece (by decide +kernel) rfl rfl ?_
    refine p_icmp_ne (off := 8) 35 (by decide +kernel) (by decide) (fun cq2 => ?_) (fun cq2 => ?_)
    · refine p_run (pc' := 38) [.iload_n 1, .bipush 40] mkX3_piece (by decide +kernel) rfl rfl ?_
      refine p_icmp_ne (off := 14) 52 (by decide +kernel) (by decide) (fun cq3 => ?_) (fun cq3 => ?_)
      · refine p_run (pc' := 53) [.iconst 0] mkX3_piece (by decide +kernel) rfl rfl ?_
        refine p_iret rfl rfl (by decide +kernel) ?_
        exact Or.inl ⟨rfl, m, Mend.now (ms_bad z1 (fun q => cq2 (by unfold byA; rw [if_pos (Classical.byContradiction (fun z => by have := hg.2.2.2.1; omega))]; exact q.2.1)) (fun q => cq3 (by unfold byA; rw [if_pos (Classical.byContradiction (fun z => by have := hg.2.2.2.1; omega))]; exact q.2.1)) hlf), a4.2.1, Fq.rf⟩
      · obtain ⟨t3, tb⟩ := hby _ (by decide) cq3
        refine p_run (pc' := 42) [.aload_n 0] mkX3_piece (by decide +kernel) rfl rfl ?_
        refine p_callV (bracket_ok w (k := k - 1) n key d hn hkey T hB m h hA hd (by omega) hz t3 tb) kvX3_109 (by decide +kernel) (by decide) rfl (by omega) rfl rfl rfl rfl rfl (fun r h' hq => ?_)
        have hz1 := hq
        rcases hz1 with ⟨rfl, hf⟩ | ⟨rfl, hf⟩
        · refine p_if_eq (off := 7) 52 (by decide +kernel) (by decide) (fun cq45 => ?_) (fun cq45 => ?_)
          · refine p_run (pc' := 53) [.iconst 0] mkX3_piece (by decide +kernel) rfl rfl ?_
            refine p_iret rfl rfl (by decide +kernel) ?_
            exact Or.inl ⟨rfl, hf⟩
          · exact False.elim (by revert cq45; decide)
        · refine p_if_eq (off := 7) 52 (by decide +kernel) (by decide) (fun cq45 => ?_) (fun cq45 => ?_)
          · exact False.elim (by revert cq45; decide)
          · refine p_run (pc' := 53) [.iconst 1, .goto 4] mkX3_piece (by decide +kernel) rfl rfl ?_
            refine p_iret rfl rfl (by decide +kernel) ?_
            exact Or.inr ⟨rfl, hf⟩
    · obtain ⟨t3, tb⟩ := hby _ (by decide) cq2
      refine p_run (pc' := 31) [.aload_n 0] mkX3_piece (by decide +kernel) rfl rfl ?_
      refine p_callV (not_ok w (k := k - 1) n key d hn hkey T hB m h hP hd (by omega) hz t3 tb) kvX3_106 (by decide +kernel) (by decide) rfl (by omega) rfl rfl rfl rfl rfl (fun r h' hq => ?_)
      have hz1 := hq
      rcases hz1 with ⟨rfl, hf⟩ | ⟨rfl, hf⟩
      · refine p_iret rfl rfl (by decide +kernel) ?_
        exact Or.inl ⟨rfl, hf⟩
      · refine p_iret rfl rfl (by decide +kernel) ?_
        exact Or.inr ⟨rfl, hf⟩
  · have hw := bI1.mp cq1
    have hnk : m.l.k = 1 ∨ m.l.k = 2 := of_decide_eq_true hw
    have hse := hg.2.2.2.2.1 (by omega)
    have hen := hg.2.2.1
    have htk : ¬ tkF m.l = 3 := fun q => by have := tk3 q; omega
    have hadv := hg.adv (T := T)
    refine p_run (pc' := 11) [.aload_n 0] mkX3_piece (by decide +kernel) rfl rfl ?_
    refine p_callV (leaf_ok w (k := k - 1) (by omega) n key m.at hn hkey T m.l m.C h z2 hB z3 (by omega) hw) kvX3_103 (by decide +kernel) (by decide) rfl (by omega) rfl rfl rfl rfl rfl (fun r h' hq => ?_)
    have hz1 := hq
    rename Mm => h1
    rcases hz1 with ⟨hl, rfl, rfl⟩ | ⟨x, hl, rfl, c1, c2, c3, c4⟩
    · refine p_iret rfl rfl (by decide +kernel) ?_
      exact Or.inl ⟨rfl, m, Mend.now (ms_bad z1 (fun q => htk q.1) (fun q => htk q.1) hl), a4.2.1, Fq.rf⟩
    · have hl6 := stF_len 6 m.W (x :: m.C)
      rw [List.length_cons] at hl6
      refine p_iret rfl rfl (by decide +kernel) ?_
      exact Or.inr ⟨rfl, (lxN n T m.l, (stF 6 m.W (x :: m.C)).2, m.at + 1, (stF 6 m.W (x :: m.C)).1, m.ts, m.pa, false), x :: m.C, ⟨⟨1, _, ms_leaf z1 htk hl, rfl⟩, rfl, rfl, fun _ _ => rfl, Lz.nx hg, hadv, by show (stF 6 m.W (x :: m.C)).1.length + (stF 6 m.W (x :: m.C)).2.length ≤ (lxN n T m.l).s; omega, c1, c2, c3, c4, fun e he => Or.inl ⟨(lf_in z2 hB hkey hl).1, (lf_in z2 hB hkey hl).2, by omega, he⟩⟩, rfl, rfl⟩
