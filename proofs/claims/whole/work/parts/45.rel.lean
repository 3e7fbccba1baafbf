/-! THE CLASS: its passages and a row of the reference -/
def Pp (p : Nat) : Prop := p = 11 ∨ p = 29 ∨ p = 47
def OB (t a : Nat) : Prop := a < 118 ∧ (kd0 a).1 = t ∧ ∀ j, rf0 a j = none
theorem ob00 : ∀ a, a < 118 → ((kd0 a).1 = 0 ∨ (kd0 a).1 = 1) → nth (nth rfL (a / 16) []) (a % 16) [] = [] := by decide +kernel
theorem OB.mk {t a : Nat} (ha : a < 118) (hk : (kd0 a).1 = t) (ht : t = 0 ∨ t = 1) : OB t a := by
  refine ⟨ha, hk, fun j => ?_⟩
  unfold rf0
  rw [ob00 a ha (by rw [hk]; exact ht)]
  cases j <;> rfl
theorem kdD11 : ∀ d, d < 10 → (kd0 (11 + 7 + d)).1 = 1 := by decide +kernel
theorem kdD29 : ∀ d, d < 10 → (kd0 (29 + 7 + d)).1 = 1 := by decide +kernel
theorem kdD47 : ∀ d, d < 10 → (kd0 (47 + 7 + d)).1 = 1 := by decide +kernel
theorem kdB11 : ∀ b, b < 4 → (kd0 (11 + 2 + b)).1 = 0 := by decide +kernel
theorem kdB29 : ∀ b, b < 4 → (kd0 (29 + 2 + b)).1 = 0 := by decide +kernel
theorem kdB47 : ∀ b, b < 4 → (kd0 (47 + 2 + b)).1 = 0 := by decide +kernel
theorem obD {p d : Nat} (hp : Pp p) (hd : d < 10) : OB 1 (p + 7 + d) := by
  rcases hp with rfl | rfl | rfl
  · exact OB.mk (by omega) (kdD11 d hd) (Or.inr rfl)
  · exact OB.mk (by omega) (kdD29 d hd) (Or.inr rfl)
  · exact OB.mk (by omega) (kdD47 d hd) (Or.inr rfl)
theorem obB {p b : Nat} (hp : Pp p) (hb : b < 4) : OB 0 (p + 2 + b) := by
  rcases hp with rfl | rfl | rfl
  · exact OB.mk (by omega) (kdB11 b hb) (Or.inl rfl)
  · exact OB.mk (by omega) (kdB29 b hb) (Or.inl rfl)
  · exact OB.mk (by omega) (kdB47 b hb) (Or.inl rfl)
theorem rfD11 : ∀ d, d < 10 → rf0 17 d = some (11 + 7 + d) := by decide +kernel
theorem rfD29 : ∀ d, d < 10 → rf0 35 d = some (29 + 7 + d) := by decide +kernel
theorem rfD47 : ∀ d, d < 10 → rf0 53 d = some (47 + 7 + d) := by decide +kernel
theorem rfB11 : ∀ b, b < 4 → rf0 12 b = some (11 + 2 + b) := by decide +kernel
theorem rfB29 : ∀ b, b < 4 → rf0 30 b = some (29 + 2 + b) := by decide +kernel
theorem rfB47 : ∀ b, b < 4 → rf0 48 b = some (47 + 2 + b) := by decide +kernel
theorem pp11 : Pp 11 := Or.inl rfl
theorem pp29 : Pp 29 := Or.inr (Or.inl rfl)
theorem pp47 : Pp 47 := Or.inr (Or.inr rfl)
/-- passage p holds what row N does -/
def PR (p : Nat) (h : Mm) (N : Vc) : Prop := (h p 4 = N 1 ∧ h p 5 = N 7 ∧ h p 6 = N 3 ∧ h p 7 = N 4 ∧ h p 8 = N 5 ∧ h p 9 = N 6 ∧ h p 10 = N 2 ∧ h p 11 = N 0) ∧ (∀ b, b < 4 → ∀ j, j < 3 → h (p + 2 + b) j = bK N b j) ∧ (∀ d, d < nd N → ∀ j, j < 5 → h (p + 7 + d) j = dK N d j) ∧ ∀ key, key < 3 → h (p + 17) key = oN (lawT N key)
/-- all but passage p and the texts' workplace stays -/
def Fp (p : Nat) (h h' : Mm) : Prop := ∀ a, ¬ (p ≤ a ∧ a ≤ p + 17) → a ≠ 6 → a ≠ 7 → h' a = h a
/-- only the texts' workplace changes -/
def Fw (h h' : Mm) : Prop := ∀ a, a ≠ 6 → a ≠ 7 → h' a = h a
theorem Fp.rf {p : Nat} {h : Mm} : Fp p h h := fun _ _ _ _ => rfl
theorem Fw.rf {h : Mm} : Fw h h := fun _ _ _ => rfl
theorem Fp.tr {p : Nat} {a b c : Mm} (x : Fp p a b) (y : Fp p b c) : Fp p a c := fun q h1 h2 h3 => (y q h1 h2 h3).trans (x q h1 h2 h3)
theorem Fw.tr {a b c : Mm} (x : Fw a b) (y : Fw b c) : Fw a c := fun q h2 h3 => (y q h2 h3).trans (x q h2 h3)
theorem Fw.fp {p : Nat} {a b : Mm} (x : Fw a b) : Fp p a b := fun q _ h2 h3 => x q h2 h3
theorem Fp.u1 {p : Nat} {h : Mm} {a k : Nat} {x : Int32} (ha : p ≤ a ∧ a ≤ p + 17) : Fp p h (up h a k x) := fun q h1 _ _ => upN (fun e => h1 (e ▸ ha))
theorem PR.of {p : Nat} {h h' : Mm} {N : Vc} (hR : PR p h N) (e : ∀ a, p ≤ a → a ≤ p + 17 → h' a = h a) (hI : nd N ≤ 10) : PR p h' N := by
  obtain ⟨h1, h2, h3, h4⟩ := hR
  refine ⟨by rw [e p (by omega) (by omega)]; exact h1, fun b hb j hj => by rw [e _ (by omega) (by omega)]; exact h2 b hb j hj, fun d hd j hj => by rw [e _ (by omega) (by omega)]; exact h3 d hd j hj, fun key hk => by rw [e _ (by omega) (by omega)]; exact h4 key hk⟩
theorem PR.fw {p : Nat} {h h' : Mm} {N : Vc} (hp : Pp p) (hR : PR p h N) (hF : Fw h h') (hI : nd N ≤ 10) : PR p h' N := hR.of (fun a h1 h2 => hF a (by unfold Pp at hp; omega) (by unfold Pp at hp; omega)) hI
theorem lawT_of {N N' : Vc} (h : ∀ j, 70 ≤ j → N' j = N j) (h7 : N' 7 = N 7) (key : Nat) : lawT N' key = lawT N key := by
  unfold lawT
  rw [h7]
  generalize nN (N 7) = n
  induction n with
  | zero => rfl
  | succ n ih => rw [lastT, lastT, ih, h _ (by omega)]
theorem PR.upB {p : Nat} {h : Mm} {N : Vc} (hR : PR p h N) {b j : Nat} {x : Int32} (hb : b < 4) (hj : j < 3) (hI : nd N ≤ 10) : PR p (up h (p + 2 + b) j x) (upd N (8 + 3 * b + j) x) := by
  obtain ⟨h1, h2, h3, h4⟩ := hR
  have hnd : nd (upd N (8 + 3 * b + j) x) = nd N := nd_upd (by omega)
  refine ⟨?_, fun c hc i hi => ?_, fun d hd i hi => ?_, fun key hk => ?_⟩
  · rw [upN (by omega), upd_n (by omega), upd_n (by omega), upd_n (by omega), upd_n (by omega), upd_n (by omega), upd_n (by omega), upd_n (by omega), upd_n (by omega)]; exact h1
  · unfold bK
    by_cases e : c = b
    · rw [e, upS]
      by_cases e2 : i = j
      · rw [e2, upd_s, upd_s]
      · rw [upd_n e2, upd_n (by omega), ← e]; exact h2 c hc i hi
    · rw [upN (by omega), upd_n (by omega)]; exact h2 c hc i hi
  · rw [hnd] at hd
    unfold dK
    rw [upN (by omega), upd_n (by omega)]; exact h3 d hd i hi
  · rw [upN (by omega), lawT_of (N := N) (fun j hj => upd_n (by omega)) (upd_n (by omega))]; exact h4 key hk
theorem PR.upD {p : Nat} {h : Mm} {N : Vc} (hR : PR p h N) {d j : Nat} {x : Int32} (hd : d < nd N) (hj : j < 5) (hI : nd N ≤ 10) : PR p (up h (p + 7 + d) j x) (upd N (20 + 5 * d + j) x) := by
  obtain ⟨h1, h2, h3, h4⟩ := hR
  have hnd : nd (upd N (20 + 5 * d + j) x) = nd N := nd_upd (by omega)
  refine ⟨?_, fun c hc i hi => ?_, fun e he i hi => ?_, fun key hk => ?_⟩
  · rw [upN (by omega), upd_n (by omega), upd_n (by omega), upd_n (by omega), upd_n (by omega), upd_n (by omega), upd_n (by omega), upd_n (by omega), upd_n (by omega)]; exact h1
  · unfold bK
    rw [upN (by omega), upd_n (by omega)]; exact h2 c hc i hi
  · rw [hnd] at he
    unfold dK
    by_cases q : e = d
    · rw [q, upS]
      by_cases e2 : i = j
      · rw [e2, upd_s, upd_s]
      · rw [upd_n e2, upd_n (by omega), ← q]; exact h3 e he i hi
    · rw [upN (by omega), upd_n (by omega)]; exact h3 e he i hi
  · rw [upN (by omega), lawT_of (N := N) (fun j hj => upd_n (by omega)) (upd_n (by omega))]; exact h4 key hk
/-- a number of the passage: its slot s, its place j of the row -/
def fsP (s j : Nat) : Prop := (s = 6 ∧ j = 3) ∨ (s = 7 ∧ j = 4) ∨ (s = 8 ∧ j = 5) ∨ (s = 9 ∧ j = 6) ∨ (s = 10 ∧ j = 2) ∨ (s = 11 ∧ j = 0)
theorem PR.upF {p : Nat} {h : Mm} {N : Vc} (hR : PR p h N) {s j : Nat} {x : Int32} (hs : fsP s j) (hI : nd N ≤ 10) : PR p (up h p s x) (upd N j x) := by
  obtain ⟨⟨a1, a2, a3, a4, a5, a6, a7, a8⟩, h2, h3, h4⟩ := hR
  have hj : j < 7 ∧ j ≠ 1 := by unfold fsP at hs; omega
  have hnd : nd (upd N j x) = nd N := nd_upd (by omega)
  refine ⟨?_, fun c hc i hi => ?_, fun d hd i hi => ?_, fun key hk => ?_⟩
  · rw [upS]
    unfold upd
    rcases hs with ⟨rfl, rfl⟩ | ⟨rfl, rfl⟩ | ⟨rfl, rfl⟩ | ⟨rfl, rfl⟩ | ⟨rfl, rfl⟩ | ⟨rfl, rfl⟩ <;> simp [*]
  · unfold bK
    rw [upN (by omega), upd_n (by omega)]; exact h2 c hc i hi
  · rw [hnd] at hd
    unfold dK
    rw [upN (by omega), upd_n (by omega)]; exact h3 d hd i hi
  · rw [upN (by omega), lawT_of (N := N) (fun j hj => upd_n (by omega)) (upd_n (by omega))]; exact h4 key hk
/-- the texts -/
def sgB (x : Int32) : Int32 := if x = Int32.ofInt (-1) then nI 124 else if x = Int32.ofInt (-2) then nI 38 else if x = Int32.ofInt (-3) then nI 60 else if x = Int32.ofInt (-4) then nI 61 else if x = Int32.ofInt (-5) then nI 62 else if x = Int32.ofInt (-6) then nI 43 else if x = Int32.ofInt (-7) then nI 45 else if x = Int32.ofInt (-8) then nI 42 else if x = Int32.ofInt (-9) then nI 47 else nI 33
def enC (x : Int32) : Int32 := if nI 0 ≤ x then x else nI 20000 + sgB x
def lnT (N : Vc) (t : Nat) : Nat := nN (N (70 + 2 * t)) % 1000
def TR (h : Mm) (N : Vc) : Prop := ∀ t, t < nN (N 7) → h 2 t = nI (nN (N (70 + 2 * t)) / 1000) ∧ h 3 t = N (70 + 2 * t + 1) ∧ h 4 t = nI (lnT N t) ∧ ∀ i, i < lnT N t → h 5 (96 * t + i) = enC (N (98 + 96 * t + i))
theorem TR.of {h h' : Mm} {N N' : Vc} (hT : TR h N) (e : ∀ a, 2 ≤ a → a ≤ 5 → h' a = h a) (eN : ∀ j, 70 ≤ j → N' j = N j) (e7 : N' 7 = N 7) : TR h' N' := by
  intro t ht
  rw [e7] at ht
  have hl : lnT N' t = lnT N t := by unfold lnT; rw [eN _ (by omega)]
  rw [hl, e 2 (by omega) (by omega), e 3 (by omega) (by omega), e 4 (by omega) (by omega), e 5 (by omega) (by omega), eN (70 + 2 * t) (by omega), eN (70 + 2 * t + 1) (by omega)]
  obtain ⟨a, b, c, d⟩ := hT t ht
  exact ⟨a, b, c, fun i hi => by rw [eN _ (by omega)]; exact d i hi⟩
theorem TR.fw {h h' : Mm} {N : Vc} (hT : TR h N) (hF : Fw h h') : TR h' N := hT.of (fun a h1 h2 => hF a (by omega) (by omega)) (fun _ _ => rfl) rfl
theorem TR.fp {p : Nat} {h h' : Mm} {N : Vc} (hp : Pp p) (hT : TR h N) (hF : Fp p h h') : TR h' N := hT.of (fun a h1 h2 => hF a (by unfold Pp at hp; omega) (by omega) (by omega)) (fun _ _ => rfl) rfl
set_option maxRecDepth 20000 in
set_option maxHeartbeats 4000000 in
theorem isLit_ok (w : Wt) {k : Nat} (a : Nat) (hO : OB 1 a) (h : Mm) : Ok w k MX1_isLit [.ref a] h (Rv (bI (0 < h a 2)) h) := by
  show Wp w k MX1_isLit _ 0 [some (.ref a)] [] h
  refine p_run (pc' := 1) [.aload_n 0] mkX1_isLit (by decide +kernel) rfl rfl ?_
  refine p_getI (by decide +kernel) fo1_18 hO.1 hO.2.1 (hO.2.2 _) ?_
  refine p_if_le (off := 7) 11 (by decide +kernel) (by decide) (fun cq4 => ?_) (fun cq4 => ?_)
  · refine p_run (pc' := 12) [.iconst 0] mkX1_isLit (by decide +kernel) rfl rfl ?_
    refine p_iret rfl rfl (by decide +kernel) ?_
    exact ⟨by rw [bIf (Int32.not_lt.mpr cq4)]; rfl, rfl⟩
  · refine p_run (pc' := 12) [.iconst 1, .goto 4] mkX1_isLit (by decide +kernel) rfl rfl ?_
    refine p_iret rfl rfl (by decide +kernel) ?_
    exact ⟨by rw [bIt (Int32.not_le.mp cq4)]; rfl, rfl⟩
set_option maxRecDepth 20000 in
set_option maxHeartbeats 4000000 in
theorem cahead_ok (w : Wt) {k : Nat} (a : Nat) (hO : OB 0 a) (h : Mm) : Ok w k MX0_ahead [.ref a] h (Rv (h a 0 - h a 2) h) := by
  show Wp w k MX0_ahead _ 0 [some (.ref a)] [] h
  refine p_run (pc' := 1) [.aload_n 0] mkX0_ahead (by decide +kernel) rfl rfl ?_
  refine p_getI (by decide +kernel) fo0_13 hO.1 hO.2.1 (hO.2.2 _) ?_
  refine p_run (pc' := 5) [.aload_n 0] mkX0_ahead (by decide +kernel) rfl rfl ?_
  refine p_getI (by decide +kernel) fo0_16 hO.1 hO.2.1 (hO.2.2 _) ?_
  refine p_run (pc' := 9) [.isub] mkX0_ahead (by decide +kernel) rfl rfl ?_
  refine p_iret rfl rfl (by decide +kernel) ?_
  exact ⟨rfl, rfl⟩
noncomputable def wV (f : Nat → Int32) : Int32 := match nN (f 0) with
  | 1 => f 2 + f 1
  | 2 => nI 99 - f 2
  | 3 => nI 2 * (f 2 + f 1)
  | 4 => (nI 99 - f 2) / nI 2
  | 5 => f 4 / nI 10
  | _ => f 2
theorem woF_wV (N : Vc) (d : Nat) : woF N d = wV (dK N d) := rfl
theorem wV_congr {f g : Nat → Int32} (h : ∀ j, j < 5 → f j = g j) : wV f = wV g := by unfold wV; rw [h 0 (by omega), h 1 (by omega), h 2 (by omega), h 4 (by omega)]
set_option maxRecDepth 20000 in
set_option maxHeartbeats 4000000 in
theorem cworth_ok (w : Wt) {k : Nat} (a : Nat) (hO : OB 1 a) (h : Mm) (h0 : In (h a 0) 5) : Ok w k MX1_worth [.ref a] h (Rv (wV (h a)) h) := by
  show Wp w k MX1_worth _ 0 [some (.ref a)] [] h
  refine p_run (pc' := 1) [.aload_n 0] mkX1_worth (by decide +kernel) rfl rfl ?_
  refine p_getI (by decide +kernel) fo1_9 hO.1 hO.2.1 (hO.2.2 _) ?_
  refine p_table (dflt := 84) (lo := 1) (hi := 5) (offs := #[36, 58, 46, 66, 76]) (len := 36) (by decide +kernel) (by decide) (fun j hj hx => ?_) (fun hx => ?_)
  · match j, hj, hx with
    | 0, _, hx =>
      have hx : h a 0 = Int32.ofInt (1) := hx
      refine ⟨36, 40, rfl, rfl, ?_⟩
      have hv : nN (h a 0) = 1 := kd_case (by omega) hx
      refine p_run (pc' := 41) [.aload_n 0] mkX1_worth (by decide +kernel) rfl rfl ?_
      refine p_getI (by decide +kernel) fo1_18 hO.1 hO.2.1 (hO.2.2 _) ?_
      refine p_run (pc' := 45) [.aload_n 0] mkX1_worth (by decide +kernel) rfl rfl ?_
      refine p_getI (by decide +kernel) fo1_15 hO.1 hO.2.1 (hO.2.2 _) ?_
      refine p_run (pc' := 49) [.iadd] mkX1_worth (by decide +kernel) rfl rfl ?_
      refine p_iret rfl rfl (by decide +kernel) ?_
      exact ⟨by unfold wV; rw [hv]; rfl, rfl⟩
    | 1, _, hx =>
      have hx : h a 0 = Int32.ofInt (2) := hx
      refine ⟨58, 62, rfl, rfl, ?_⟩
      have hv : nN (h a 0) = 2 := kd_case (by omega) hx
      refine p_run (pc' := 65) [.bipush 99, .aload_n 0] mkX1_worth (by decide +kernel) rfl rfl ?_
      refine p_getI (by decide +kernel) fo1_18 hO.1 hO.2.1 (hO.2.2 _) ?_
      refine p_run (pc' := 69) [.isub] mkX1_worth (by decide +kernel) rfl rfl ?_
      refine p_iret rfl rfl (by decide +kernel) ?_
      exact ⟨by unfold wV; rw [hv]; rfl, rfl⟩
    | 2, _, hx =>
      have hx : h a 0 = Int32.ofInt (3) := hx
      refine ⟨46, 50, rfl, rfl, ?_⟩
      have hv : nN (h a 0) = 3 := kd_case (by omega) hx
      refine p_run (pc' := 52) [.iconst 2, .aload_n 0] mkX1_worth (by decide +kernel) rfl rfl ?_
      refine p_getI (by decide +kernel) fo1_18 hO.1 hO.2.1 (hO.2.2 _) ?_
      refine p_run (pc' := 56) [.aload_n 0] mkX1_worth (by decide +kernel) rfl rfl ?_
      refine p_getI (by decide +kernel) fo1_15 hO.1 hO.2.1 (hO.2.2 _) ?_
      refine p_run (pc' := 61) [.iadd, .imul] mkX1_worth (by decide +kernel) rfl rfl ?_
      refine p_iret rfl rfl (by decide +kernel) ?_
      exact ⟨by unfold wV; rw [hv]; rfl, rfl⟩
    | 3, _, hx =>
      have hx : h a 0 = Int32.ofInt (4) := hx
      refine ⟨66, 70, rfl, rfl, ?_⟩
      have hv : nN (h a 0) = 4 := kd_case (by omega) hx
      refine p_run (pc' := 73) [.bipush 99, .aload_n 0] mkX1_worth (by decide +kernel) rfl rfl ?_
      refine p_getI (by decide +kernel) fo1_18 hO.1 hO.2.1 (hO.2.2 _) ?_
      refine p_run (pc' := 78) [.isub, .iconst 2] mkX1_worth (by decide +kernel) rfl rfl ?_
      refine p_idiv (by decide +kernel) (by decide) ?_
      refine p_iret rfl rfl (by decide +kernel) ?_
      exact ⟨by unfold wV; rw [hv]; rfl, rfl⟩
    | 4, _, hx =>
      have hx : h a 0 = Int32.ofInt (5) := hx
      refine ⟨76, 80, rfl, rfl, ?_⟩
      have hv : nN (h a 0) = 5 := kd_case (by omega) hx
      refine p_run (pc' := 81) [.aload_n 0] mkX1_worth (by decide +kernel) rfl rfl ?_
      refine p_getI (by decide +kernel) fo1_24 hO.1 hO.2.1 (hO.2.2 _) ?_
      refine p_run (pc' := 86) [.bipush 10] mkX1_worth (by decide +kernel) rfl rfl ?_
      refine p_idiv (by decide +kernel) (by decide) ?_
      refine p_iret rfl rfl (by decide +kernel) ?_
      exact ⟨by unfold wV; rw [hv]; rfl, rfl⟩
    | j + 5, hj, _ => exact absurd hj (by simp)
  · refine ⟨88, rfl, ?_⟩
    have hv : nN (h a 0) = 0 := kd_dflt h0 hx
    refine p_run (pc' := 89) [.aload_n 0] mkX1_worth (by decide +kernel) rfl rfl ?_
    refine p_getI (by decide +kernel) fo1_18 hO.1 hO.2.1 (hO.2.2 _) ?_
    refine p_iret rfl rfl (by decide +kernel) ?_
    exact ⟨by unfold wV; rw [hv]; rfl, rfl⟩
set_option maxRecDepth 20000 in
set_option maxHeartbeats 4000000 in
theorem dbec_ok (w : Wt) {k : Nat} (a c : Nat) (hO : OB 1 a) (hC : OB 1 c) (hne : c ≠ a) (h : Mm) : Ok w k MX1_becomeAs [.ref a, .ref c] h (fun r h' => r = none ∧ (∀ j, j < 5 → h' a j = h c j) ∧ ∀ b, b ≠ a → h' b = h b) := by
  show Wp w k MX1_becomeAs _ 0 [some (.ref a), some (.ref c)] [] h
  refine p_run (pc' := 2) [.aload_n 0, .aload_n 1] mkX1_becomeAs (by decide +kernel) rfl rfl ?_
  refine p_getI (by decide +kernel) fo1_9 hC.1 hC.2.1 (hC.2.2 _) ?_
  refine p_put (by decide +kernel) fo1_9 hO.1 hO.2.1 rfl (hO.2.2 _) ?_
  refine p_run (pc' := 10) [.aload_n 0, .aload_n 1] mkX1_becomeAs (by decide +kernel) rfl rfl ?_
  refine p_getI (by decide +kernel) fo1_15 hC.1 hC.2.1 (hC.2.2 _) ?_
  refine p_put (by decide +kernel) fo1_15 hO.1 hO.2.1 rfl (hO.2.2 _) ?_
  refine p_run (pc' := 18) [.aload_n 0, .aload_n 1] mkX1_becomeAs (by decide +kernel) rfl rfl ?_
  refine p_getI (by decide +kernel) fo1_18 hC.1 hC.2.1 (hC.2.2 _) ?_
  refine p_put (by decide +kernel) fo1_18 hO.1 hO.2.1 rfl (hO.2.2 _) ?_
  refine p_run (pc' := 26) [.aload_n 0, .aload_n 1] mkX1_becomeAs (by decide +kernel) rfl rfl ?_
  refine p_getI (by decide +kernel) fo1_21 hC.1 hC.2.1 (hC.2.2 _) ?_
  refine p_put (by decide +kernel) fo1_21 hO.1 hO.2.1 rfl (hO.2.2 _) ?_
  refine p_run (pc' := 34) [.aload_n 0, .aload_n 1] mkX1_becomeAs (by decide +kernel) rfl rfl ?_
  refine p_getI (by decide +kernel) fo1_24 hC.1 hC.2.1 (hC.2.2 _) ?_
  refine p_put (by decide +kernel) fo1_24 hO.1 hO.2.1 rfl (hO.2.2 _) ?_
  refine p_vret rfl (by decide +kernel) ?_
  refine ⟨rfl, fun j hj => ?_, fun b hb => ?_⟩
  · match j, hj with
    | 0, _ => rw [uN (by decide), uN (by decide), uN (by decide), uN (by decide), uF]
    | 1, _ => rw [uN (by decide), uN (by decide), uN (by decide), uF, upN hne]
    | 2, _ => rw [uN (by decide), uN (by decide), uF, upN hne, upN hne]
    | 3, _ => rw [uN (by decide), uF, upN hne, upN hne, upN hne]
    | 4, _ => rw [uF, upN hne, upN hne, upN hne, upN hne]
  · rw [upN hb, upN hb, upN hb, upN hb, upN hb]
set_option maxRecDepth 20000 in
set_option maxHeartbeats 4000000 in
theorem bbec_ok (w : Wt) {k : Nat} (a c : Nat) (hO : OB 0 a) (hC : OB 0 c) (hne : c ≠ a) (h : Mm) : Ok w k MX0_becomeAs [.ref a, .ref c] h (fun r h' => r = none ∧ (∀ j, j < 3 → h' a j = h c j) ∧ ∀ b, b ≠ a → h' b = h b) := by
  show Wp w k MX0_becomeAs _ 0 [some (.ref a), some (.ref c)] [] h
  refine p_run (pc' := 2) [.aload_n 0, .aload_n 1] mkX0_becomeAs (by decide +kernel) rfl rfl ?_
  refine p_getI (by decide +kernel) fo0_13 hC.1 hC.2.1 (hC.2.2 _) ?_
  refine p_put (by decide +kernel) fo0_13 hO.1 hO.2.1 rfl (hO.2.2 _) ?_
  refine p_run (pc' := 10) [.aload_n 0, .aload_n 1] mkX0_becomeAs (by decide +kernel) rfl rfl ?_
  refine p_getI (by decide +kernel) fo0_7 hC.1 hC.2.1 (hC.2.2 _) ?_
  refine p_put (by decide +kernel) fo0_7 hO.1 hO.2.1 rfl (hO.2.2 _) ?_
  refine p_run (pc' := 18) [.aload_n 0, .aload_n 1] mkX0_becomeAs (by decide +kernel) rfl rfl ?_
  refine p_getI (by decide +kernel) fo0_16 hC.1 hC.2.1 (hC.2.2 _) ?_
  refine p_put (by decide +kernel) fo0_16 hO.1 hO.2.1 rfl (hO.2.2 _) ?_
  refine p_vret rfl (by decide +kernel) ?_
  refine ⟨rfl, fun j hj => ?_, fun b hb => ?_⟩
  · match j, hj with
    | 0, _ => rw [uN (by decide), uN (by decide), uF]
    | 1, _ => rw [uN (by decide), uF, upN hne]
    | 2, _ => rw [uF, upN hne, upN hne]
  · rw [upN hb, upN hb, upN hb]
def onF (x b : Nat) : Nat → Prop
  | 0 => False
  | m + 1 => x = b ∨ (match x with | 0 => False | 1 => onF 0 b m | 2 => onF 0 b m | 3 => onF 1 b m | 4 => onF 2 b m | _ => onF 0 b m)
theorem cAb_v : cAb 0 = Int32.ofInt (-1) ∧ cAb 1 = nI 0 ∧ cAb 2 = nI 0 ∧ cAb 3 = nI 1 ∧ cAb 4 = nI 2 ∧ cAb 5 = nI 0 := by decide
set_option maxRecDepth 20000 in
set_option maxHeartbeats 4000000 in
theorem isOne0 (w : Wt) {k : Nat} (a b : Nat) (hO : OB 1 a) (hb : b ≤ 5) (h : Mm) (hx : h a 0 = nI 0) : Ok w k MX1_isOne [.ref a, .int (nI b)] h (Rv (bI (unP 0 b)) h) := by
  show Wp w k MX1_isOne _ 0 [some (.ref a), some (.int (nI b)), none, none] [] h
  refine p_run (pc' := 1) [.aload_n 0] mkX1_isOne (by decide +kernel) rfl rfl ?_
  refine p_getI (by decide +kernel) fo1_9 hO.1 hO.2.1 (hO.2.2 _) ?_
  rw [hx]
  refine p_run (pc' := 7) [.istore_n 2, .iconst 0, .istore_n 3] mkX1_isOne (by decide +kernel) rfl rfl ?_
  refine p_run (pc' := 8) [.iload_n 3] mkX1_isOne (by decide +kernel) rfl rfl ?_
  refine p_getsA rfl (by decide +kernel) ?_
  refine p_alenA (by decide +kernel) ?_
  refine p_icmp_ge (off := 26) 38 (by decide +kernel) (by decide) (fun cqa0 => ?_) (fun cqa0 => ?_)
  · exact False.elim (by revert cqa0; decide)
  · refine p_run (pc' := 16) [.iload_n 2] mkX1_isOne (by decide +kernel) rfl rfl ?_
    refine p_if_lt (off := 22) 38 (by decide +kernel) (by decide) (fun cqb0 => ?_) (fun cqb0 => ?_)
    · exact False.elim (by revert cqb0; decide)
    · refine p_run (pc' := 21) [.iload_n 2, .iload_n 1] mkX1_isOne (by decide +kernel) rfl rfl ?_
      refine p_icmp_ne (off := 5) 26 (by decide +kernel) (by decide) (fun cqc0 => ?_) (fun cqc0 => ?_)
      · have hn0 : ¬ 0 = b := fun q => cqc0 (by rw [← q])
        refine p_getsA rfl (by decide +kernel) ?_
        refine p_run (pc' := 30) [.iload_n 2] mkX1_isOne (by decide +kernel) rfl rfl ?_
        refine p_ialdA 0 (by decide +kernel) rfl (by decide) ?_
        rw [cAb_v.1]
        refine p_run (pc' := 7) [.istore_n 2, .iinc 3 1, .goto (-28)] mkX1_isOne (by decide +kernel) rfl rfl ?_
        refine p_run (pc' := 8) [.iload_n 3] mkX1_isOne (by decide +kernel) rfl rfl ?_
        refine p_getsA rfl (by decide +kernel) ?_
        refine p_alenA (by decide +kernel) ?_
        refine p_icmp_ge (off := 26) 38 (by decide +kernel) (by decide) (fun cqa1 => ?_) (fun cqa1 => ?_)
        · exact False.elim (by revert cqa1; decide)
        · refine p_run (pc' := 16) [.iload_n 2] mkX1_isOne (by decide +kernel) rfl rfl ?_
          refine p_if_lt (off := 22) 38 (by decide +kernel) (by decide) (fun cqb1 => ?_) (fun cqb1 => ?_)
          · refine p_run (pc' := 39) [.iconst 0] mkX1_isOne (by decide +kernel) rfl rfl ?_
            refine p_iret rfl rfl (by decide +kernel) ?_
            exact ⟨by rw [bIf (fun q => by unfold unP at q; omega)]; rfl, rfl⟩
          · exact False.elim (cqb1 (by decide))
      · have he : 0 = b := (nI_eq (by omega) (by omega)).mp cqc0
        refine p_run (pc' := 25) [.iconst 1] mkX1_isOne (by decide +kernel) rfl rfl ?_
        refine p_iret rfl rfl (by decide +kernel) ?_
        exact ⟨by rw [bIt (by unfold unP; omega)]; rfl, rfl⟩
set_option maxRecDepth 20000 in
set_option maxHeartbeats 4000000 in
theorem isOne1 (w : Wt) {k : Nat} (a b : Nat) (hO : OB 1 a) (hb : b ≤ 5) (h : Mm) (hx : h a 0 = nI 1) : Ok w k MX1_isOne [.ref a, .int (nI b)] h (Rv (bI (unP 1 b)) h) := by
  show Wp w k MX1_isOne _ 0 [some (.ref a), some (.int (nI b)), none, none] [] h
  refine p_run (pc' := 1) [.aload_n 0] mkX1_isOne (by decide +kernel) rfl rfl ?_
  refine p_getI (by decide +kernel) fo1_9 hO.1 hO.2.1 (hO.2.2 _) ?_
  rw [hx]
  refine p_run (pc' := 7) [.istore_n 2, .iconst 0, .istore_n 3] mkX1_isOne (by decide +kernel) rfl rfl ?_
  refine p_run (pc' := 8) [.iload_n 3] mkX1_isOne (by decide +kernel) rfl rfl ?_
  refine p_getsA rfl (by decide +kernel) ?_
  refine p_alenA (by decide +kernel) ?_
  refine p_icmp_ge (off := 26) 38 (by decide +kernel) (by decide) (fun cqa0 => ?_) (fun cqa0 => ?_)
  · exact False.elim (by revert cqa0; decide)
  · refine p_run (pc' := 16) [.iload_n 2] mkX1_isOne (by decide +kernel) rfl rfl ?_
    refine p_if_lt (off := 22) 38 (by decide +kernel) (by decide) (fun cqb0 => ?_) (fun cqb0 => ?_)
    · exact False.elim (by revert cqb0; decide)
    · refine p_run (pc' := 21) [.iload_n 2, .iload_n 1] mkX1_isOne (by decide +kernel) rfl rfl ?_
      refine p_icmp_ne (off := 5) 26 (by decide +kernel) (by decide) (fun cqc0 => ?_) (fun cqc0 => ?_)
      · have hn0 : ¬ 1 = b := fun q => cqc0 (by rw [← q])
        refine p_getsA rfl (by decide +kernel) ?_
        refine p_run (pc' := 30) [.iload_n 2] mkX1_isOne (by decide +kernel) rfl rfl ?_
        refine p_ialdA 1 (by decide +kernel) rfl (by decide) ?_
        rw [cAb_v.2.1]
        refine p_run (pc' := 7) [.istore_n 2, .iinc 3 1, .goto (-28)] mkX1_isOne (by decide +kernel) rfl rfl ?_
        refine p_run (pc' := 8) [.iload_n 3] mkX1_isOne (by decide +kernel) rfl rfl ?_
        refine p_getsA rfl (by decide +kernel) ?_
        refine p_alenA (by decide +kernel) ?_
        refine p_icmp_ge (off := 26) 38 (by decide +kernel) (by decide) (fun cqa1 => ?_) (fun cqa1 => ?_)
        · exact False.elim (by revert cqa1; decide)
        · refine p_run (pc' := 16) [.iload_n 2] mkX1_isOne (by decide +kernel) rfl rfl ?_
          refine p_if_lt (off := 22) 38 (by decide +kernel) (by decide) (fun cqb1 => ?_) (fun cqb1 => ?_)
          · exact False.elim (by revert cqb1; decide)
          · refine p_run (pc' := 21) [.iload_n 2, .iload_n 1] mkX1_isOne (by decide +kernel) rfl rfl ?_
            refine p_icmp_ne (off := 5) 26 (by decide +kernel) (by decide) (fun cqc1 => ?_) (fun cqc1 => ?_)
            · have hn1 : ¬ 0 = b := fun q => cqc1 (by rw [← q])
              refine p_getsA rfl (by decide +kernel) ?_
              refine p_run (pc' := 30) [.iload_n 2] mkX1_isOne (by decide +kernel) rfl rfl ?_
              refine p_ialdA 0 (by decide +kernel) rfl (by decide) ?_
              rw [cAb_v.1]
              refine p_run (pc' := 7) [.istore_n 2, .iinc 3 1, .goto (-28)] mkX1_isOne (by decide +kernel) rfl rfl ?_
              refine p_run (pc' := 8) [.iload_n 3] mkX1_isOne (by decide +kernel) rfl rfl ?_
              refine p_getsA rfl (by decide +kernel) ?_
              refine p_alenA (by decide +kernel) ?_
              refine p_icmp_ge (off := 26) 38 (by decide +kernel) (by decide) (fun cqa2 => ?_) (fun cqa2 => ?_)
              · exact False.elim (by revert cqa2; decide)
              · refine p_run (pc' := 16) [.iload_n 2] mkX1_isOne (by decide +kernel) rfl rfl ?_
                refine p_if_lt (off := 22) 38 (by decide +kernel) (by decide) (fun cqb2 => ?_) (fun cqb2 => ?_)
                · refine p_run (pc' := 39) [.iconst 0] mkX1_isOne (by decide +kernel) rfl rfl ?_
                  refine p_iret rfl rfl (by decide +kernel) ?_
                  exact ⟨by rw [bIf (fun q => by unfold unP at q; omega)]; rfl, rfl⟩
                · exact False.elim (cqb2 (by decide))
            · have he : 0 = b := (nI_eq (by omega) (by omega)).mp cqc1
              refine p_run (pc' := 25) [.iconst 1] mkX1_isOne (by decide +kernel) rfl rfl ?_
              refine p_iret rfl rfl (by decide +kernel) ?_
              exact ⟨by rw [bIt (by unfold unP; omega)]; rfl, rfl⟩
      · have he : 1 = b := (nI_eq (by omega) (by omega)).mp cqc0
        refine p_run (pc' := 25) [.iconst 1] mkX1_isOne (by decide +kernel) rfl rfl ?_
        refine p_iret rfl rfl (by decide +kernel) ?_
        exact ⟨by rw [bIt (by unfold unP; omega)]; rfl, rfl⟩
set_option maxRecDepth 20000 in
set_option maxHeartbeats 4000000 in
theorem isOne2 (w : Wt) {k : Nat} (a b : Nat) (hO : OB 1 a) (hb : b ≤ 5) (h : Mm) (hx : h a 0 = nI 2) : Ok w k MX1_isOne [.ref a, .int (nI b)] h (Rv (bI (unP 2 b)) h) := by
  show Wp w k MX1_isOne _ 0 [some (.ref a), some (.int (nI b)), none, none] [] h
  refine p_run (pc' := 1) [.aload_n 0] mkX1_isOne (by decide +kernel) rfl rfl ?_
  refine p_getI (by decide +kernel) fo1_9 hO.1 hO.2.1 (hO.2.2 _) ?_
  rw [hx]
  refine p_run (pc' := 7) [.istore_n 2, .iconst 0, .istore_n 3] mkX1_isOne (by decide +kernel) rfl rfl ?_
  refine p_run (pc' := 8) [.iload_n 3] mkX1_isOne (by decide +kernel) rfl rfl ?_
  refine p_getsA rfl (by decide +kernel) ?_
  refine p_alenA (by decide +kernel) ?_
  refine p_icmp_ge (off := 26) 38 (by decide +kernel) (by decide) (fun cqa0 => ?_) (fun cqa0 => ?_)
  · exact False.elim (by revert cqa0; decide)
  · refine p_run (pc' := 16) [.iload_n 2] mkX1_isOne (by decide +kernel) rfl rfl ?_
    refine p_if_lt (off := 22) 38 (by decide +kernel) (by decide) (fun cqb0 => ?_) (fun cqb0 => ?_)
    · exact False.elim (by revert cqb0; decide)
    · refine p_run (pc' := 21) [.iload_n 2, .iload_n 1] mkX1_isOne (by decide +kernel) rfl rfl ?_
      refine p_icmp_ne (off := 5) 26 (by decide +kernel) (by decide) (fun cqc0 => ?_) (fun cqc0 => ?_)
      · have hn0 : ¬ 2 = b := fun q => cqc0 (by rw [← q])
        refine p_getsA rfl (by decide +kernel) ?_
        refine p_run (pc' := 30) [.iload_n 2] mkX1_isOne (by decide +kernel) rfl rfl ?_
        refine p_ialdA 2 (by decide +kernel) rfl (by decide) ?_
        rw [cAb_v.2.2.1]
        refine p_run (pc' := 7) [.istore_n 2, .iinc 3 1, .goto (-28)] mkX1_isOne (by decide +kernel) rfl rfl ?_
        refine p_run (pc' := 8) [.iload_n 3] mkX1_isOne (by decide +kernel) rfl rfl ?_
        refine p_getsA rfl (by decide +kernel) ?_
        refine p_alenA (by decide +kernel) ?_
        refine p_icmp_ge (off := 26) 38 (by decide +kernel) (by decide) (fun cqa1 => ?_) (fun cqa1 => ?_)
        · exact False.elim (by revert cqa1; decide)
        · refine p_run (pc' := 16) [.iload_n 2] mkX1_isOne (by decide +kernel) rfl rfl ?_
          refine p_if_lt (off := 22) 38 (by decide +kernel) (by decide) (fun cqb1 => ?_) (fun cqb1 => ?_)
          · exact False.elim (by revert cqb1; decide)
          · refine p_run (pc' := 21) [.iload_n 2, .iload_n 1] mkX1_isOne (by decide +kernel) rfl rfl ?_
            refine p_icmp_ne (off := 5) 26 (by decide +kernel) (by decide) (fun cqc1 => ?_) (fun cqc1 => ?_)
            · have hn1 : ¬ 0 = b := fun q => cqc1 (by rw [← q])
              refine p_getsA rfl (by decide +kernel) ?_
              refine p_run (pc' := 30) [.iload_n 2] mkX1_isOne (by decide +kernel) rfl rfl ?_
              refine p_ialdA 0 (by decide +kernel) rfl (by decide) ?_
              rw [cAb_v.1]
              refine p_run (pc' := 7) [.istore_n 2, .iinc 3 1, .goto (-28)] mkX1_isOne (by decide +kernel) rfl rfl ?_
              refine p_run (pc' := 8) [.iload_n 3] mkX1_isOne (by decide +kernel) rfl rfl ?_
              refine p_getsA rfl (by decide +kernel) ?_
              refine p_alenA (by decide +kernel) ?_
              refine p_icmp_ge (off := 26) 38 (by decide +kernel) (by decide) (fun cqa2 => ?_) (fun cqa2 => ?_)
              · exact False.elim (by revert cqa2; decide)
              · refine p_run (pc' := 16) [.iload_n 2] mkX1_isOne (by decide +kernel) rfl rfl ?_
                refine p_if_lt (off := 22) 38 (by decide +kernel) (by decide) (fun cqb2 => ?_) (fun cqb2 => ?_)
                · refine p_run (pc' := 39) [.iconst 0] mkX1_isOne (by decide +kernel) rfl rfl ?_
                  refine p_iret rfl rfl (by decide +kernel) ?_
                  exact ⟨by rw [bIf (fun q => by unfold unP at q; omega)]; rfl, rfl⟩
                · exact False.elim (cqb2 (by decide))
            · have he : 0 = b := (nI_eq (by omega) (by omega)).mp cqc1
              refine p_run (pc' := 25) [.iconst 1] mkX1_isOne (by decide +kernel) rfl rfl ?_
              refine p_iret rfl rfl (by decide +kernel) ?_
              exact ⟨by rw [bIt (by unfold unP; omega)]; rfl, rfl⟩
      · have he : 2 = b := (nI_eq (by omega) (by omega)).mp cqc0
        refine p_run (pc' := 25) [.iconst 1] mkX1_isOne (by decide +kernel) rfl rfl ?_
        refine p_iret rfl rfl (by decide +kernel) ?_
        exact ⟨by rw [bIt (by unfold unP; omega)]; rfl, rfl⟩
set_option maxRecDepth 20000 in
set_option maxHeartbeats 4000000 in
theorem isOne3 (w : Wt) {k : Nat} (a b : Nat) (hO : OB 1 a) (hb : b ≤ 5) (h : Mm) (hx : h a 0 = nI 3) : Ok w k MX1_isOne [.ref a, .int (nI b)] h (Rv (bI (unP 3 b)) h) := by
  show Wp w k MX1_isOne _ 0 [some (.ref a), some (.int (nI b)), none, none] [] h
  refine p_run (pc' := 1) [.aload_n 0] mkX1_isOne (by decide +kernel) rfl rfl ?_
  refine p_getI (by decide +kernel) fo1_9 hO.1 hO.2.1 (hO.2.2 _) ?_
  rw [hx]
  refine p_run (pc' := 7) [.istore_n 2, .iconst 0, .istore_n 3] mkX1_isOne (by decide +kernel) rfl rfl ?_
  refine p_run (pc' := 8) [.iload_n 3] mkX1_isOne (by decide +kernel) rfl rfl ?_
  refine p_getsA rfl (by decide +kernel) ?_
  refine p_alenA (by decide +kernel) ?_
  refine p_icmp_ge (off := 26) 38 (by decide +kernel) (by decide) (fun cqa0 => ?_) (fun cqa0 => ?_)
  · exact False.elim (by revert cqa0; decide)
  · refine p_run (pc' := 16) [.iload_n 2] mkX1_isOne (by decide +kernel) rfl rfl ?_
    refine p_if_lt (off := 22) 38 (by decide +kernel) (by decide) (fun cqb0 => ?_) (fun cqb0 => ?_)
    · exact False.elim (by revert cqb0; decide)
    · refine p_run (pc' := 21) [.iload_n 2, .iload_n 1] mkX1_isOne (by decide +kernel) rfl rfl ?_
      refine p_icmp_ne (off := 5) 26 (by decide +kernel) (by decide) (fun cqc0 => ?_) (fun cqc0 => ?_)
      · have hn0 : ¬ 3 = b := fun q => cqc0 (by rw [← q])
        refine p_getsA rfl (by decide +kernel) ?_
        refine p_run (pc' := 30) [.iload_n 2] mkX1_isOne (by decide +kernel) rfl rfl ?_
        refine p_ialdA 3 (by decide +kernel) rfl (by decide) ?_
        rw [cAb_v.2.2.2.1]
        refine p_run (pc' := 7) [.istore_n 2, .iinc 3 1, .goto (-28)] mkX1_isOne (by decide +kernel) rfl rfl ?_
        refine p_run (pc' := 8) [.iload_n 3] mkX1_isOne (by decide +kernel) rfl rfl ?_
        refine p_getsA rfl (by decide +kernel) ?_
        refine p_alenA (by decide +kernel) ?_
        refine p_icmp_ge (off := 26) 38 (by decide +kernel) (by decide) (fun cqa1 => ?_) (fun cqa1 => ?_)
        · exact False.elim (by revert cqa1; decide)
        · refine p_run (pc' := 16) [.iload_n 2] mkX1_isOne (by decide +kernel) rfl rfl ?_
          refine p_if_lt (off := 22) 38 (by decide +kernel) (by decide) (fun cqb1 => ?_) (fun cqb1 => ?_)
          · exact False.elim (by revert cqb1; decide)
          · refine p_run (pc' := 21) [.iload_n 2, .iload_n 1] mkX1_isOne (by decide +kernel) rfl rfl ?_
            refine p_icmp_ne (off := 5) 26 (by decide +kernel) (by decide) (fun cqc1 => ?_) (fun cqc1 => ?_)
            · have hn1 : ¬ 1 = b := fun q => cqc1 (by rw [← q])
              refine p_getsA rfl (by decide +kernel) ?_
              refine p_run (pc' := 30) [.iload_n 2] mkX1_isOne (by decide +kernel) rfl rfl ?_
              refine p_ialdA 1 (by decide +kernel) rfl (by decide) ?_
              rw [cAb_v.2.1]
              refine p_run (pc' := 7) [.istore_n 2, .iinc 3 1, .goto (-28)] mkX1_isOne (by decide +kernel) rfl rfl ?_
              refine p_run (pc' := 8) [.iload_n 3] mkX1_isOne (by decide +kernel) rfl rfl ?_
              refine p_getsA rfl (by decide +kernel) ?_
              refine p_alenA (by decide +kernel) ?_
              refine p_icmp_ge (off := 26) 38 (by decide +kernel) (by decide) (fun cqa2 => ?_) (fun cqa2 => ?_)
              · exact False.elim (by revert cqa2; decide)
              · refine p_run (pc' := 16) [.iload_n 2] mkX1_isOne (by decide +kernel) rfl rfl ?_
                refine p_if_lt (off := 22) 38 (by decide +kernel) (by decide) (fun cqb2 => ?_) (fun cqb2 => ?_)
                · exact False.elim (by revert cqb2; decide)
                · refine p_run (pc' := 21) [.iload_n 2, .iload_n 1] mkX1_isOne (by decide +kernel) rfl rfl ?_
                  refine p_icmp_ne (off := 5) 26 (by decide +kernel) (by decide) (fun cqc2 => ?_) (fun cqc2 => ?_)
                  · have hn2 : ¬ 0 = b := fun q => cqc2 (by rw [← q])
                    refine p_getsA rfl (by decide +kernel) ?_
                    refine p_run (pc' := 30) [.iload_n 2] mkX1_isOne (by decide +kernel) rfl rfl ?_
                    refine p_ialdA 0 (by decide +kernel) rfl (by decide) ?_
                    rw [cAb_v.1]
                    refine p_run (pc' := 7) [.istore_n 2, .iinc 3 1, .goto (-28)] mkX1_isOne (by decide +kernel) rfl rfl ?_
                    refine p_run (pc' := 8) [.iload_n 3] mkX1_isOne (by decide +kernel) rfl rfl ?_
                    refine p_getsA rfl (by decide +kernel) ?_
                    refine p_alenA (by decide +kernel) ?_
                    refine p_icmp_ge (off := 26) 38 (by decide +kernel) (by decide) (fun cqa3 => ?_) (fun cqa3 => ?_)
                    · exact False.elim (by revert cqa3; decide)
                    · refine p_run (pc' := 16) [.iload_n 2] mkX1_isOne (by decide +kernel) rfl rfl ?_
                      refine p_if_lt (off := 22) 38 (by decide +kernel) (by decide) (fun cqb3 => ?_) (fun cqb3 => ?_)
                      · refine p_run (pc' := 39) [.iconst 0] mkX1_isOne (by decide +kernel) rfl rfl ?_
                        refine p_iret rfl rfl (by decide +kernel) ?_
                        exact ⟨by rw [bIf (fun q => by unfold unP at q; omega)]; rfl, rfl⟩
                      · exact False.elim (cqb3 (by decide))
                  · have he : 0 = b := (nI_eq (by omega) (by omega)).mp cqc2
                    refine p_run (pc' := 25) [.iconst 1] mkX1_isOne (by decide +kernel) rfl rfl ?_
                    refine p_iret rfl rfl (by decide +kernel) ?_
                    exact ⟨by rw [bIt (by unfold unP; omega)]; rfl, rfl⟩
            · have he : 1 = b := (nI_eq (by omega) (by omega)).mp cqc1
              refine p_run (pc' := 25) [.iconst 1] mkX1_isOne (by decide +kernel) rfl rfl ?_
              refine p_iret rfl rfl (by decide +kernel) ?_
              exact ⟨by rw [bIt (by unfold unP; omega)]; rfl, rfl⟩
      · have he : 3 = b := (nI_eq (by omega) (by omega)).mp cqc0
        refine p_run (pc' := 25) [.iconst 1] mkX1_isOne (by decide +kernel) rfl rfl ?_
        refine p_iret rfl rfl (by decide +kernel) ?_
        exact ⟨by rw [bIt (by unfold unP; omega)]; rfl, rfl⟩
set_option maxRecDepth 20000 in
set_option maxHeartbeats 4000000 in
theorem isOne4 (w : Wt) {k : Nat} (a b : Nat) (hO : OB 1 a) (hb : b ≤ 5) (h : Mm) (hx : h a 0 = nI 4) : Ok w k MX1_isOne [.ref a, .int (nI b)] h (Rv (bI (unP 4 b)) h) := by
  show Wp w k MX1_isOne _ 0 [some (.ref a), some (.int (nI b)), none, none] [] h
  refine p_run (pc' := 1) [.aload_n 0] mkX1_isOne (by decide +kernel) rfl rfl ?_
  refine p_getI (by decide +kernel) fo1_9 hO.1 hO.2.1 (hO.2.2 _) ?_
  rw [hx]
  refine p_run (pc' := 7) [.istore_n 2, .iconst 0, .istore_n 3] mkX1_isOne (by decide +kernel) rfl rfl ?_
  refine p_run (pc' := 8) [.iload_n 3] mkX1_isOne (by decide +kernel) rfl rfl ?_
  refine p_getsA rfl (by decide +kernel) ?_
  refine p_alenA (by decide +kernel) ?_
  refine p_icmp_ge (off := 26) 38 (by decide +kernel) (by decide) (fun cqa0 => ?_) (fun cqa0 => ?_)
  · exact False.elim (by revert cqa0; decide)
  · refine p_run (pc' := 16) [.iload_n 2] mkX1_isOne (by decide +kernel) rfl rfl ?_
    refine p_if_lt (off := 22) 38 (by decide +kernel) (by decide) (fun cqb0 => ?_) (fun cqb0 => ?_)
    · exact False.elim (by revert cqb0; decide)
    · refine p_run (pc' := 21) [.iload_n 2, .iload_n 1] mkX1_isOne (by decide +kernel) rfl rfl ?_
      refine p_icmp_ne (off := 5) 26 (by decide +kernel) (by decide) (fun cqc0 => ?_) (fun cqc0 => ?_)
      · have hn0 : ¬ 4 = b := fun q => cqc0 (by rw [← q])
        refine p_getsA rfl (by decide +kernel) ?_
        refine p_run (pc' := 30) [.iload_n 2] mkX1_isOne (by decide +kernel) rfl rfl ?_
        refine p_ialdA 4 (by decide +kernel) rfl (by decide) ?_
        rw [cAb_v.2.2.2.2.1]
        refine p_run (pc' := 7) [.istore_n 2, .iinc 3 1, .goto (-28)] mkX1_isOne (by decide +kernel) rfl rfl ?_
        refine p_run (pc' := 8) [.iload_n 3] mkX1_isOne (by decide +kernel) rfl rfl ?_
        refine p_getsA rfl (by decide +kernel) ?_
        refine p_alenA (by decide +kernel) ?_
        refine p_icmp_ge (off := 26) 38 (by decide +kernel) (by decide) (fun cqa1 => ?_) (fun cqa1 => ?_)
        · exact False.elim (by revert cqa1; decide)
        · refine p_run (pc' := 16) [.iload_n 2] mkX1_isOne (by decide +kernel) rfl rfl ?_
          refine p_if_lt (off := 22) 38 (by decide +kernel) (by decide) (fun cqb1 => ?_) (fun cqb1 => ?_)
          · exact False.elim (by revert cqb1; decide)
          · refine p_run (pc' := 21) [.iload_n 2, .iload_n 1] mkX1_isOne (by decide +kernel) rfl rfl ?_
            refine p_icmp_ne (off := 5) 26 (by decide +kernel) (by decide) (fun cqc1 => ?_) (fun cqc1 => ?_)
            · have hn1 : ¬ 2 = b := fun q => cqc1 (by rw [← q])
              refine p_getsA rfl (by decide +kernel) ?_
              refine p_run (pc' := 30) [.iload_n 2] mkX1_isOne (by decide +kernel) rfl rfl ?_
              refine p_ialdA 2 (by decide +kernel) rfl (by decide) ?_
              rw [cAb_v.2.2.1]
              refine p_run (pc' := 7) [.istore_n 2, .iinc 3 1, .goto (-28)] mkX1_isOne (by decide +kernel) rfl rfl ?_
              refine p_run (pc' := 8) [.iload_n 3] mkX1_isOne (by decide +kernel) rfl rfl ?_
              refine p_getsA rfl (by decide +kernel) ?_
              refine p_alenA (by decide +kernel) ?_
              refine p_icmp_ge (off := 26) 38 (by decide +kernel) (by decide) (fun cqa2 => ?_) (fun cqa2 => ?_)
              · exact False.elim (by revert cqa2; decide)
              · refine p_run (pc' := 16) [.iload_n 2] mkX1_isOne (by decide +kernel) rfl rfl ?_
                refine p_if_lt (off := 22) 38 (by decide +kernel) (by decide) (fun cqb2 => ?_) (fun cqb2 => ?_)
                · exact False.elim (by revert cqb2; decide)
                · refine p_run (pc' := 21) [.iload_n 2, .iload_n 1] mkX1_isOne (by decide +kernel) rfl rfl ?_
                  refine p_icmp_ne (off := 5) 26 (by decide +kernel) (by decide) (fun cqc2 => ?_) (fun cqc2 => ?_)
                  · have hn2 : ¬ 0 = b := fun q => cqc2 (by rw [← q])
                    refine p_getsA rfl (by decide +kernel) ?_
                    refine p_run (pc' := 30) [.iload_n 2] mkX1_isOne (by decide +kernel) rfl rfl ?_
                    refine p_ialdA 0 (by decide +kernel) rfl (by decide) ?_
                    rw [cAb_v.1]
                    refine p_run (pc' := 7) [.istore_n 2, .iinc 3 1, .goto (-28)] mkX1_isOne (by decide +kernel) rfl rfl ?_
                    refine p_run (pc' := 8) [.iload_n 3] mkX1_isOne (by decide +kernel) rfl rfl ?_
                    refine p_getsA rfl (by decide +kernel) ?_
                    refine p_alenA (by decide +kernel) ?_
                    refine p_icmp_ge (off := 26) 38 (by decide +kernel) (by decide) (fun cqa3 => ?_) (fun cqa3 => ?_)
                    · exact False.elim (by revert cqa3; decide)
                    · refine p_run (pc' := 16) [.iload_n 2] mkX1_isOne (by decide +kernel) rfl rfl ?_
                      refine p_if_lt (off := 22) 38 (by decide +kernel) (by decide) (fun cqb3 => ?_) (fun cqb3 => ?_)
                      · refine p_run (pc' := 39) [.iconst 0] mkX1_isOne (by decide +kernel) rfl rfl ?_
                        refine p_iret rfl rfl (by decide +kernel) ?_
                        exact ⟨by rw [bIf (fun q => by unfold unP at q; omega)]; rfl, rfl⟩
                      · exact False.elim (cqb3 (by decide))
                  · have he : 0 = b := (nI_eq (by omega) (by omega)).mp cqc2
                    refine p_run (pc' := 25) [.iconst 1] mkX1_isOne (by decide +kernel) rfl rfl ?_
                    refine p_iret rfl rfl (by decide +kernel) ?_
                    exact ⟨by rw [bIt (by unfold unP; omega)]; rfl, rfl⟩
            · have he : 2 = b := (nI_eq (by omega) (by omega)).mp cqc1
              refine p_run (pc' := 25) [.iconst 1] mkX1_isOne (by decide +kernel) rfl rfl ?_
              refine p_iret rfl rfl (by decide +kernel) ?_
              exact ⟨by rw [bIt (by unfold unP; omega)]; rfl, rfl⟩
      · have he : 4 = b := (nI_eq (by omega) (by omega)).mp cqc0
        refine p_run (pc' := 25) [.iconst 1] mkX1_isOne (by decide +kernel) rfl rfl ?_
        refine p_iret rfl rfl (by decide +kernel) ?_
        exact ⟨by rw [bIt (by unfold unP; omega)]; rfl, rfl⟩
set_option maxRecDepth 20000 in
set_option maxHeartbeats 4000000 in
theorem isOne5 (w : Wt) {k : Nat} (a b : Nat) (hO : OB 1 a) (hb : b ≤ 5) (h : Mm) (hx : h a 0 = nI 5) : Ok w k MX1_isOne [.ref a, .int (nI b)] h (Rv (bI (unP 5 b)) h) := by
  show Wp w k MX1_isOne _ 0 [some (.ref a), some (.int (nI b)), none, none] [] h
  refine p_run (pc' := 1) [.aload_n 0] mkX1_isOne (by decide +kernel) rfl rfl ?_
  refine p_getI (by decide +kernel) fo1_9 hO.1 hO.2.1 (hO.2.2 _) ?_
  rw [hx]
  refine p_run (pc' := 7) [.istore_n 2, .iconst 0, .istore_n 3] mkX1_isOne (by decide +kernel) rfl rfl ?_
  refine p_run (pc' := 8) [.iload_n 3] mkX1_isOne (by decide +kernel) rfl rfl ?_
  refine p_getsA rfl (by decide +kernel) ?_
  refine p_alenA (by decide +kernel) ?_
  refine p_icmp_ge (off := 26) 38 (by decide +kernel) (by decide) (fun cqa0 => ?_) (fun cqa0 => ?_)
  · exact False.elim (by revert cqa0; decide)
  · refine p_run (pc' := 16) [.iload_n 2] mkX1_isOne (by decide +kernel) rfl rfl ?_
    refine p_if_lt (off := 22) 38 (by decide +kernel) (by decide) (fun cqb0 => ?_) (fun cqb0 => ?_)
    · exact False.elim (by revert cqb0; decide)
    · refine p_run (pc' := 21) [.iload_n 2, .iload_n 1] mkX1_isOne (by decide +kernel) rfl rfl ?_
      refine p_icmp_ne (off := 5) 26 (by decide +kernel) (by decide) (fun cqc0 => ?_) (fun cqc0 => ?_)
      · have hn0 : ¬ 5 = b := fun q => cqc0 (by rw [← q])
        refine p_getsA rfl (by decide +kernel) ?_
        refine p_run (pc' := 30) [.iload_n 2] mkX1_isOne (by decide +kernel) rfl rfl ?_
        refine p_ialdA 5 (by decide +kernel) rfl (by decide) ?_
        rw [cAb_v.2.2.2.2.2]
        refine p_run (pc' := 7) [.istore_n 2, .iinc 3 1, .goto (-28)] mkX1_isOne (by decide +kernel) rfl rfl ?_
        refine p_run (pc' := 8) [.iload_n 3] mkX1_isOne (by decide +kernel) rfl rfl ?_
        refine p_getsA rfl (by decide +kernel) ?_
        refine p_alenA (by decide +kernel) ?_
        refine p_icmp_ge (off := 26) 38 (by decide +kernel) (by decide) (fun cqa1 => ?_) (fun cqa1 => ?_)
        · exact False.elim (by revert cqa1; decide)
        · refine p_run (pc' := 16) [.iload_n 2] mkX1_isOne (by decide +kernel) rfl rfl ?_
          refine p_if_lt (off := 22) 38 (by decide +kernel) (by decide) (fun cqb1 => ?_) (fun cqb1 => ?_)
          · exact False.elim (by revert cqb1; decide)
          · refine p_run (pc' := 21) [.iload_n 2, .iload_n 1] mkX1_isOne (by decide +kernel) rfl rfl ?_
            refine p_icmp_ne (off := 5) 26 (by decide +kernel) (by decide) (fun cqc1 => ?_) (fun cqc1 => ?_)
            · have hn1 : ¬ 0 = b := fun q => cqc1 (by rw [← q])
              refine p_getsA rfl (by decide +kernel) ?_
              refine p_run (pc' := 30) [.iload_n 2] mkX1_isOne (by decide +kernel) rfl rfl ?_
              refine p_ialdA 0 (by decide +kernel) rfl (by decide) ?_
              rw [cAb_v.1]
              refine p_run (pc' := 7) [.istore_n 2, .iinc 3 1, .goto (-28)] mkX1_isOne (by decide +kernel) rfl rfl ?_
              refine p_run (pc' := 8) [.iload_n 3] mkX1_isOne (by decide +kernel) rfl rfl ?_
              refine p_getsA rfl (by decide +kernel) ?_
              refine p_alenA (by decide +kernel) ?_
              refine p_icmp_ge (off := 26) 38 (by decide +kernel) (by decide) (fun cqa2 => ?_) (fun cqa2 => ?_)
              · exact False.elim (by revert cqa2; decide)
              · refine p_run (pc' := 16) [.iload_n 2] mkX1_isOne (by decide +kernel) rfl rfl ?_
                refine p_if_lt (off := 22) 38 (by decide +kernel) (by decide) (fun cqb2 => ?_) (fun cqb2 => ?_)
                · refine p_run (pc' := 39) [.iconst 0] mkX1_isOne (by decide +kernel) rfl rfl ?_
                  refine p_iret rfl rfl (by decide +kernel) ?_
                  exact ⟨by rw [bIf (fun q => by unfold unP at q; omega)]; rfl, rfl⟩
                · exact False.elim (cqb2 (by decide))
            · have he : 0 = b := (nI_eq (by omega) (by omega)).mp cqc1
              refine p_run (pc' := 25) [.iconst 1] mkX1_isOne (by decide +kernel) rfl rfl ?_
              refine p_iret rfl rfl (by decide +kernel) ?_
              exact ⟨by rw [bIt (by unfold unP; omega)]; rfl, rfl⟩
      · have he : 5 = b := (nI_eq (by omega) (by omega)).mp cqc0
        refine p_run (pc' := 25) [.iconst 1] mkX1_isOne (by decide +kernel) rfl rfl ?_
        refine p_iret rfl rfl (by decide +kernel) ?_
        exact ⟨by rw [bIt (by unfold unP; omega)]; rfl, rfl⟩
theorem isOne_ok (w : Wt) {k : Nat} (a b x : Nat) (hO : OB 1 a) (hb : b ≤ 5) (hx5 : x ≤ 5) (h : Mm) (hx : h a 0 = nI x) : Ok w k MX1_isOne [.ref a, .int (nI b)] h (Rv (bI (unP x b)) h) := by
  match x, hx5, hx with
  | 0, _, hx => exact isOne0 w a b hO hb h hx
  | 1, _, hx => exact isOne1 w a b hO hb h hx
  | 2, _, hx => exact isOne2 w a b hO hb h hx
  | 3, _, hx => exact isOne3 w a b hO hb h hx
  | 4, _, hx => exact isOne4 w a b hO hb h hx
  | 5, _, hx => exact isOne5 w a b hO hb h hx
  | x + 6, h5, _ => exact absurd h5 (by omega)
