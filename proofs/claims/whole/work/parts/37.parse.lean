/-! keys, names, signs, ranks; the machine that the reference reads texts with -/
theorem tI_ne {x : Int32} {v : Int} (hv : (Int32.ofInt v).toInt = v) (h : ¬ x = Int32.ofInt v) : ¬ v = x.toInt := fun e => h (by rw [e, Int32.ofInt_toInt])
def kyC : Nat → Nat
  | 0 => 100
  | 1 => 105
  | 2 => 103
  | 3 => 102
  | 4 => 101
  | 5 => 101
  | 6 => 102
  | 7 => 105
  | 8 => 110
  | _ => 101
def kln (w : Nat) : Nat := if w = 2 then 4 else 3
def kmP (T : Vc) (l : Lx) (w : Nat) : Prop := l.e - l.s = kln w ∧ ∀ k, k < kln w → T (l.s + k) = nI (kyC (3 * w + k))
noncomputable def kmB (T : Vc) (l : Lx) (w : Nat) : Bool := @decide (kmP T l w) (Classical.propDecidable _)
theorem kmB_iff {T : Vc} {l : Lx} {w : Nat} : kmB T l w = true ↔ kmP T l w := by unfold kmB; simp
noncomputable def keF (T : Vc) (l : Lx) : Option Nat := if tkF l = 1 then (if kmB T l 0 = true then some 0 else if kmB T l 1 = true then some 1 else if kmB T l 2 = true then some 2 else none) else none
def KR (h : Mm) : Prop := (∀ i, i < 10 → h 102 i = nI (kyC i)) ∧ h 103 0 = nI 0 ∧ h 103 1 = nI 3 ∧ h 103 2 = nI 6 ∧ h 103 3 = nI 10
def nmI (key : Nat) (x : Int32) : Int32 :=
  if key = 0 then (if x = nI 102 then nI 0 else if x = nI 114 then nI 1 else if x = nI 97 then nI 2 else if x = nI 110 then nI 3 else Int32.ofInt (-1))
  else if key = 1 then (if x = nI 109 then nI 0 else if x = nI 104 then nI 1 else Int32.ofInt (-1))
  else (if x = nI 102 then nI 0 else if x = nI 99 then nI 1 else Int32.ofInt (-1))
abbrev NOTv : Int32 := Int32.ofInt (-10)
abbrev OPENv : Int32 := Int32.ofInt (-11)
def rkF (x : Int32) : Nat := if x = Int32.ofInt (-1) then 1 else if x = Int32.ofInt (-2) then 2 else if Int32.ofInt (-5) ≤ x then 3 else if Int32.ofInt (-7) ≤ x then 4 else if Int32.ofInt (-9) ≤ x then 5 else 6
def stF (m : Nat) : List Int32 → List Int32 → List Int32 × List Int32
  | [], C => ([], C)
  | x :: W, C => if ¬ x = OPENv ∧ m ≤ rkF x then stF m W (x :: C) else (x :: W, C)
def sgV (x : Int32) : Int32 := if x = nI 38 then Int32.ofInt (-2) else if x = nI 42 then Int32.ofInt (-8) else if x = nI 43 then Int32.ofInt (-6) else if x = nI 45 then Int32.ofInt (-7) else if x = nI 47 then Int32.ofInt (-9) else if x = nI 60 then Int32.ofInt (-3) else if x = nI 61 then Int32.ofInt (-4) else if x = nI 62 then Int32.ofInt (-5) else if x = nI 124 then Int32.ofInt (-1) else nI 0
def sgF (T : Vc) (l : Lx) : Int32 := if tkF l = 3 then sgV (T l.s) else nI 0
def lfF (T : Vc) (key : Nat) (l : Lx) : Option Int32 := if tkF l = 2 then some (vaF T l) else if tkF l = 1 ∧ l.e - l.s = 1 ∧ nI 0 ≤ nmI key (T l.s) then some (nI 10000 + nmI key (T l.s)) else none
def cnN : List Int32 → Nat
  | [] => 0
  | x :: r => (if x = NOTv then 1 else 0) + cnN r
def cnO : List Int32 → Nat
  | [] => 0
  | x :: r => (if x = OPENv then 1 else 0) + cnO r
theorem cnN_le : ∀ W, cnN W ≤ W.length
  | [] => Nat.le_refl _
  | x :: r => by have := cnN_le r; unfold cnN; simp only [List.length_cons]; split <;> omega
theorem stF_len (m : Nat) : ∀ W C, (stF m W C).1.length + (stF m W C).2.length = W.length + C.length
  | [], C => rfl
  | x :: W, C => by
    rw [stF]
    split
    · rw [stF_len m W (x :: C)]; simp only [List.length_cons]; omega
    · rfl
theorem stF_open (m : Nat) : ∀ W C, cnO (stF m W C).1 = cnO W
  | [], C => rfl
  | x :: W, C => by
    rw [stF]
    split
    · rename_i h
      rw [stF_open m W (x :: C), cnO, if_neg h.1, Nat.zero_add]
    · rfl
theorem stF_not (m : Nat) : ∀ W C, cnN (stF m W C).1 ≤ cnN W
  | [], C => Nat.le_refl _
  | x :: W, C => by
    rw [stF]
    split
    · have := stF_not m W (x :: C)
      rw [cnN]; omega
    · exact Nat.le_refl _
theorem stF_le (m : Nat) : ∀ W C, (stF m W C).1.length ≤ W.length
  | [], C => Nat.le_refl _
  | x :: W, C => by
    rw [stF]
    split
    · have := stF_le m W (x :: C)
      simp only [List.length_cons]; omega
    · exact Nat.le_refl _
abbrev Mc : Type := Lx × List Int32 × Nat × List Int32 × (Nat → Bool) × Nat × Bool
abbrev Mc.l (m : Mc) : Lx := m.1
abbrev Mc.C (m : Mc) : List Int32 := m.2.1
abbrev Mc.at (m : Mc) : Nat := m.2.2.1
abbrev Mc.W (m : Mc) : List Int32 := m.2.2.2.1
abbrev Mc.ts (m : Mc) : Nat → Bool := m.2.2.2.2.1
abbrev Mc.pa (m : Mc) : Nat := m.2.2.2.2.2.1
abbrev Mc.wa (m : Mc) : Bool := m.2.2.2.2.2.2
def ubF (f : Nat → Bool) (j : Nat) (b : Bool) : Nat → Bool := fun i => if i = j then b else f i
def tsF (s : Int32) (b : Bool) : Bool := decide (rkF s = 3) || (decide (3 < rkF s) && b)
def msF (n : Nat) (T : Vc) (key : Nat) (m : Mc) : Sum Mc (Bool × Mc) :=
  if m.wa = true then
    (if tkF m.l = 3 ∧ T m.l.s = nI 33 ∧ cnN m.W < 8 then .inl (lxN n T m.l, m.C, m.at, NOTv :: m.W, m.ts, m.pa, true)
     else if tkF m.l = 3 ∧ T m.l.s = nI 40 ∧ m.pa < 8 then .inl (lxN n T m.l, m.C, m.at, OPENv :: m.W, ubF m.ts (m.pa + 1) false, m.pa + 1, true)
     else match lfF T key m.l with
      | some x => .inl (lxN n T m.l, (stF 6 m.W (x :: m.C)).2, m.at + 1, (stF 6 m.W (x :: m.C)).1, m.ts, m.pa, false)
      | none => .inr (false, m))
  else if tkF m.l = 0 then .inr (decide (m.pa = 0), (m.l, (stF 0 m.W m.C).2, m.at, (stF 0 m.W m.C).1, m.ts, m.pa, false))
  else if tkF m.l = 3 ∧ T m.l.s = nI 41 ∧ 0 < m.pa then
    .inl (lxN n T m.l, (stF 6 (stF 0 m.W m.C).1.tail (stF 0 m.W m.C).2).2, m.at, (stF 6 (stF 0 m.W m.C).1.tail (stF 0 m.W m.C).2).1, m.ts, m.pa - 1, false)
  else if sgF T m.l = 0 ∨ (rkF (sgF T m.l) = 3 ∧ m.ts m.pa = true) then .inr (false, m)
  else .inl (lxN n T m.l, (stF (rkF (sgF T m.l)) m.W m.C).2, m.at, sgF T m.l :: (stF (rkF (sgF T m.l)) m.W m.C).1, ubF m.ts m.pa (tsF (sgF T m.l) (m.ts m.pa)), m.pa, true)
def stq (n : Nat) (T : Vc) (key : Nat) : Nat → Mc → Mc → Prop
  | 0, m, m' => m = m'
  | c + 1, m, m' => ∃ m1, msF n T key m = .inl m1 ∧ stq n T key c m1 m'
def Mend (n : Nat) (T : Vc) (key : Nat) (m : Mc) (b : Bool) (m' : Mc) : Prop := ∃ c m1, stq n T key c m m1 ∧ msF n T key m1 = .inr (b, m')
theorem Mend.step {n : Nat} {T : Vc} {key : Nat} {m m1 m' : Mc} {b : Bool} (e : msF n T key m = .inl m1) (h : Mend n T key m1 b m') : Mend n T key m b m' := by
  obtain ⟨c, m2, h1, h2⟩ := h
  exact ⟨c + 1, m2, ⟨m1, e, h1⟩, h2⟩
theorem Mend.now {n : Nat} {T : Vc} {key : Nat} {m m' : Mc} {b : Bool} (e : msF n T key m = .inr (b, m')) : Mend n T key m b m' := ⟨0, m, rfl, e⟩
theorem Mend.det {n : Nat} {T : Vc} {key : Nat} : ∀ {m m1 m2 : Mc} {b1 b2 : Bool}, Mend n T key m b1 m1 → Mend n T key m b2 m2 → b1 = b2 ∧ m1 = m2 := by
  intro m m1 m2 b1 b2 ⟨c, x, h1, h2⟩ ⟨c', y, h3, h4⟩
  induction c generalizing m c' with
  | zero =>
    cases h1
    cases c' with
    | zero => cases h3; rw [h2] at h4; cases h4; exact ⟨rfl, rfl⟩
    | succ c' => obtain ⟨z, e, -⟩ := h3; rw [h2] at e; cases e
  | succ c ih =>
    obtain ⟨z, e, h1⟩ := h1
    cases c' with
    | zero => cases h3; rw [e] at h4; cases h4
    | succ c' => obtain ⟨z', e', h3⟩ := h3; rw [e] at e'; cases e'; exact ih h1 c' h3
/-- a word's place -/
def Lg (n : Nat) (l : Lx) : Prop := l.s ≤ n ∧ l.s ≤ l.e ∧ l.e ≤ n ∧ (l.k = 0 ↔ l.s = n) ∧ (l.k ≠ 0 → l.s < l.e) ∧ l.k ≤ 3
theorem lxB_Lg {n : Nat} {T : Vc} {s : Nat} {c : Bool} (hs : s ≤ n) : Lg n (lxB n T s c) := by
  by_cases h0 : n ≤ s
  · rw [lxB_0 h0]
    exact ⟨hs, Nat.le_refl _, hs, ⟨fun _ => Nat.le_antisymm hs h0, fun _ => rfl⟩, fun q => absurd rfl q, show 0 ≤ 3 by decide⟩
  · by_cases h1 : ltB n T s = true
    · have hb := fw_le (ltB n T) (n - s) s
      have hend := fw_ge (p := ltB n T) (n := n) (s := s) (fun i q => (ltB_iff.mp q).1) hs
      have h3 : s < fw (ltB n T) (n - s) s := by
        rcases Nat.lt_or_ge s (fw (ltB n T) (n - s) s) with q | q
        · exact q
        · have e : fw (ltB n T) (n - s) s = s := by omega
          rw [e] at hend
          exact absurd h1 hend.2
      rw [lxB_1 h1]
      exact ⟨hs, hb.1, hend.1, ⟨fun q => absurd q (show ¬ 1 = 0 by decide), fun (q : s = n) => absurd q (by omega)⟩, fun _ => h3, show 1 ≤ 3 by decide⟩
    · by_cases h2 : fgB n T s = true
      · have hb := fw_le (fgB n T) (n - s) s
        have hend := fw_ge (p := fgB n T) (n := n) (s := s) (fun i q => (fgB_iff.mp q).1) hs
        have h3 : s < fw (fgB n T) (n - s) s := by
          rcases Nat.lt_or_ge s (fw (fgB n T) (n - s) s) with q | q
          · exact q
          · have e : fw (fgB n T) (n - s) s = s := by omega
            rw [e] at hend
            exact absurd h2 hend.2
        rw [lxB_2 h1 h2]
        exact ⟨hs, hb.1, hend.1, ⟨fun q => absurd q (show ¬ 2 = 0 by decide), fun (q : s = n) => absurd q (by omega)⟩, fun _ => h3, show 2 ≤ 3 by decide⟩
      · rw [lxB_3 (by omega) h1 h2]
        exact ⟨hs, Nat.le_succ _, show s + 1 ≤ n by omega, ⟨fun q => absurd q (show ¬ 3 = 0 by decide), fun (q : s = n) => absurd q (by omega)⟩, fun _ => Nat.lt_succ_self _, show 3 ≤ 3 by decide⟩
theorem lxN_Lg {n : Nat} {T : Vc} {l : Lx} (hl : l.e ≤ n) : Lg n (lxN n T l) ∧ l.e ≤ (lxN n T l).s := by
  have hb := fw_le (spB n T) (n - l.e) l.e
  have hend := fw_ge (p := spB n T) (n := n) (s := l.e) (fun i q => (spB_iff.mp q).1) hl
  exact ⟨lxB_Lg hend.1, hb.1⟩
theorem tk0 {n : Nat} {l : Lx} (h : Lg n l) : tkF l = 0 ↔ l.k = 0 := by
  unfold tkF
  by_cases h0 : l.k = 0
  · simp [h0]
  · rw [if_neg h0]
    constructor
    · intro q
      split at q
      · split at q <;> omega
      · split at q
        · split at q <;> omega
        · omega
    · exact fun q => absurd q h0
set_option maxRecDepth 20000 in
set_option maxHeartbeats 4000000 in
theorem rank_ok (w : Wt) {k : Nat} (x : Int32) (h : Mm) : Ok w k MX8_rank [.int x] h (Rv (nI (rkF x)) h) := by
  show Wp w k MX8_rank _ 0 [some (.int x)] [] h
  refine p_run (pc' := 2) [.iload_n 0, .iconst (-1)] mkX8_rank (by decide +kernel) rfl rfl ?_
  refine p_icmp_ne (off := 7) 9 (by decide +kernel) (by decide) (fun cq2 => ?_) (fun cq2 => ?_)
  · refine p_run (pc' := 12) [.iload_n 0, .bipush (-2)] mkX8_rank (by decide +kernel) rfl rfl ?_
    refine p_icmp_ne (off := 7) 19 (by decide +kernel) (by decide) (fun cq12 => ?_) (fun cq12 => ?_)
    · refine p_run (pc' := 22) [.iload_n 0, .bipush (-5)] mkX8_rank (by decide +kernel) rfl rfl ?_
      refine p_icmp_lt (off := 7) 29 (by decide +kernel) (by decide) (fun cq22 => ?_) (fun cq22 => ?_)
      · refine p_run (pc' := 32) [.iload_n 0, .bipush (-7)] mkX8_rank (by decide +kernel) rfl rfl ?_
        refine p_icmp_lt (off := 7) 39 (by decide +kernel) (by decide) (fun cq32 => ?_) (fun cq32 => ?_)
        · refine p_run (pc' := 42) [.iload_n 0, .bipush (-9)] mkX8_rank (by decide +kernel) rfl rfl ?_
          refine p_icmp_lt (off := 7) 49 (by decide +kernel) (by decide) (fun cq42 => ?_) (fun cq42 => ?_)
          · refine p_run (pc' := 51) [.bipush 6] mkX8_rank (by decide +kernel) rfl rfl ?_
            refine p_iret rfl rfl (by decide +kernel) ?_
            exact ⟨by unfold rkF; rw [if_neg cq2, if_neg cq12, if_neg (Int32.not_le.mpr cq22), if_neg (Int32.not_le.mpr cq32), if_neg (Int32.not_le.mpr cq42)]; rfl, rfl⟩
          · refine p_run (pc' := 51) [.iconst 5, .goto 5] mkX8_rank (by decide +kernel) rfl rfl ?_
            refine p_iret rfl rfl (by decide +kernel) ?_
            exact ⟨by unfold rkF; rw [if_neg cq2, if_neg cq12, if_neg (Int32.not_le.mpr cq22), if_neg (Int32.not_le.mpr cq32), if_pos (Int32.not_lt.mp cq42)]; rfl, rfl⟩
        · refine p_run (pc' := 51) [.iconst 4, .goto 15] mkX8_rank (by decide +kernel) rfl rfl ?_
          refine p_iret rfl rfl (by decide +kernel) ?_
          exact ⟨by unfold rkF; rw [if_neg cq2, if_neg cq12, if_neg (Int32.not_le.mpr cq22), if_pos (Int32.not_lt.mp cq32)]; rfl, rfl⟩
      · refine p_run (pc' := 51) [.iconst 3, .goto 25] mkX8_rank (by decide +kernel) rfl rfl ?_
        refine p_iret rfl rfl (by decide +kernel) ?_
        exact ⟨by unfold rkF; rw [if_neg cq2, if_neg cq12, if_pos (Int32.not_lt.mp cq22)]; rfl, rfl⟩
    · refine p_run (pc' := 51) [.iconst 2, .goto 35] mkX8_rank (by decide +kernel) rfl rfl ?_
      refine p_iret rfl rfl (by decide +kernel) ?_
      exact ⟨by unfold rkF; rw [if_neg cq2, if_pos cq12]; rfl, rfl⟩
  · refine p_run (pc' := 51) [.iconst 1, .goto 45] mkX8_rank (by decide +kernel) rfl rfl ?_
    refine p_iret rfl rfl (by decide +kernel) ?_
    exact ⟨by unfold rkF; rw [if_pos cq2]; rfl, rfl⟩
theorem oIq (n : Nat) : nI (OfNat.ofNat n : Nat) = Int32.ofInt (no_index (OfNat.ofNat n : Int)) := rfl
set_option maxRecDepth 20000 in
set_option maxHeartbeats 4000000 in
theorem nameOf_ok (w : Wt) {k : Nat} (key : Nat) (hkey : key ≤ 2) (x : Int32) (h : Mm) (ek : h 96 12 = nI key) : Ok w k MX8_nameOf [.ref 96, .int x] h (Rv (nmI key x) h) := by
  show Wp w k MX8_nameOf _ 0 [some (.ref 96), some (.int x)] [] h
  refine p_run (pc' := 4) [.aload_n 0, .getfield 238] mkX8_nameOf (by decide +kernel) rfl rfl ?_
  rw [ek]
  by_cases zq0 : nI key = Int32.ofInt (0)
  · refine p_lookup (dflt := 92) (ps := #[(0, 28), (1, 70)]) (len := 28) (off := 28) 32 (by decide +kernel) (by decide) (by rw [zq0]; rfl) (by decide) ?_
    have hk0 : key = 0 := (nI_eq (by omega) (by omega)).mp zq0
    refine p_run (pc' := 35) [.iload_n 1, .bipush 102] mkX8_nameOf (by decide +kernel) rfl rfl ?_
    refine p_icmp_ne (off := 7) 42 (by decide +kernel) (by decide) (fun cq35 => ?_) (fun cq35 => ?_)
    · refine p_run (pc' := 45) [.iload_n 1, .bipush 114] mkX8_nameOf (by decide +kernel) rfl rfl ?_
      refine p_icmp_ne (off := 7) 52 (by decide +kernel) (by decide) (fun cq45 => ?_) (fun cq45 => ?_)
      · refine p_run (pc' := 55) [.iload_n 1, .bipush 97] mkX8_nameOf (by decide +kernel) rfl rfl ?_
        refine p_icmp_ne (off := 7) 62 (by decide +kernel) (by decide) (fun cq55 => ?_) (fun cq55 => ?_)
        · refine p_run (pc' := 65) [.iload_n 1, .bipush 110] mkX8_nameOf (by decide +kernel) rfl rfl ?_
          refine p_icmp_ne (off := 7) 72 (by decide +kernel) (by decide) (fun cq65 => ?_) (fun cq65 => ?_)
          · refine p_run (pc' := 73) [.iconst (-1)] mkX8_nameOf (by decide +kernel) rfl rfl ?_
            refine p_iret rfl rfl (by decide +kernel) ?_
            exact ⟨by unfold nmI; rw [if_pos hk0, if_neg (c := x = nI 102) cq35, if_neg (c := x = nI 114) cq45, if_neg (c := x = nI 97) cq55, if_neg (c := x = nI 110) cq65] <;> rfl, rfl⟩
          · refine p_run (pc' := 73) [.iconst 3, .goto 4] mkX8_nameOf (by decide +kernel) rfl rfl ?_
            refine p_iret rfl rfl (by decide +kernel) ?_
            exact ⟨by unfold nmI; rw [if_pos hk0, if_neg (c := x = nI 102) cq35, if_neg (c := x = nI 114) cq45, if_neg (c := x = nI 97) cq55, if_pos (c := x = nI 110) cq65] <;> rfl, rfl⟩
        · refine p_run (pc' := 73) [.iconst 2, .goto 14] mkX8_nameOf (by decide +kernel) rfl rfl ?_
          refine p_iret rfl rfl (by decide +kernel) ?_
          exact ⟨by unfold nmI; rw [if_pos hk0, if_neg (c := x = nI 102) cq35, if_neg (c := x = nI 114) cq45, if_pos (c := x = nI 97) cq55] <;> rfl, rfl⟩
      · refine p_run (pc' := 73) [.iconst 1, .goto 24] mkX8_nameOf (by decide +kernel) rfl rfl ?_
        refine p_iret rfl rfl (by decide +kernel) ?_
        exact ⟨by unfold nmI; rw [if_pos hk0, if_neg (c := x = nI 102) cq35, if_pos (c := x = nI 114) cq45] <;> rfl, rfl⟩
    · refine p_run (pc' := 73) [.iconst 0, .goto 34] mkX8_nameOf (by decide +kernel) rfl rfl ?_
      refine p_iret rfl rfl (by decide +kernel) ?_
      exact ⟨by unfold nmI; rw [if_pos hk0, if_pos (c := x = nI 102) cq35] <;> rfl, rfl⟩
  · by_cases zq1 : nI key = Int32.ofInt (1)
    · refine p_lookup (dflt := 92) (ps := #[(0, 28), (1, 70)]) (len := 28) (off := 70) 74 (by decide +kernel) (by decide) (by rw [zq1]; rfl) (by decide) ?_
      have hk0 : key = 1 := (nI_eq (by omega) (by omega)).mp zq1
      have hk1 := hk0
      have hk0 : ¬ key = 0 := by omega
      refine p_run (pc' := 77) [.iload_n 1, .bipush 109] mkX8_nameOf (by decide +kernel) rfl rfl ?_
      refine p_icmp_ne (off := 7) 84 (by decide +kernel) (by decide) (fun cq77 => ?_) (fun cq77 => ?_)
      · refine p_run (pc' := 87) [.iload_n 1, .bipush 104] mkX8_nameOf (by decide +kernel) rfl rfl ?_
        refine p_icmp_ne (off := 7) 94 (by decide +kernel) (by decide) (fun cq87 => ?_) (fun cq87 => ?_)
        · refine p_run (pc' := 95) [.iconst (-1)] mkX8_nameOf (by decide +kernel) rfl rfl ?_
          refine p_iret rfl rfl (by decide +kernel) ?_
          exact ⟨by unfold nmI; rw [if_neg hk0, if_pos hk1, if_neg (c := x = nI 109) cq77, if_neg (c := x = nI 104) cq87] <;> rfl, rfl⟩
        · refine p_run (pc' := 95) [.iconst 1, .goto 4] mkX8_nameOf (by decide +kernel) rfl rfl ?_
          refine p_iret rfl rfl (by decide +kernel) ?_
          exact ⟨by unfold nmI; rw [if_neg hk0, if_pos hk1, if_neg (c := x = nI 109) cq77, if_pos (c := x = nI 104) cq87] <;> rfl, rfl⟩
      · refine p_run (pc' := 95) [.iconst 0, .goto 14] mkX8_nameOf (by decide +kernel) rfl rfl ?_
        refine p_iret rfl rfl (by decide +kernel) ?_
        exact ⟨by unfold nmI; rw [if_neg hk0, if_pos hk1, if_pos (c := x = nI 109) cq77] <;> rfl, rfl⟩
    · refine p_lookup (dflt := 92) (ps := #[(0, 28), (1, 70)]) (len := 28) (off := 92) 96 (by decide +kernel) (by decide) (by show Op.lookupswitch.offset [(0, 28), (1, 70)] _ _ = _; rw [Op.lookupswitch.offset_cons, if_neg (tI_ne rfl zq0), Op.lookupswitch.offset_cons, if_neg (tI_ne rfl zq1), Op.lookupswitch.offset_nil]) (by decide) ?_
      have hk0 : ¬ key = 0 := fun q => zq0 (by rw [q]; rfl)
      have hk1 : ¬ key = 1 := fun q => zq1 (by rw [q]; rfl)
      refine p_run (pc' := 99) [.iload_n 1, .bipush 102] mkX8_nameOf (by decide +kernel) rfl rfl ?_
      refine p_icmp_ne (off := 7) 106 (by decide +kernel) (by decide) (fun cq99 => ?_) (fun cq99 => ?_)
      · refine p_run (pc' := 109) [.iload_n 1, .bipush 99] mkX8_nameOf (by decide +kernel) rfl rfl ?_
        refine p_icmp_ne (off := 7) 116 (by decide +kernel) (by decide) (fun cq109 => ?_) (fun cq109 => ?_)
        · refine p_run (pc' := 117) [.iconst (-1)] mkX8_nameOf (by decide +kernel) rfl rfl ?_
          refine p_iret rfl rfl (by decide +kernel) ?_
          exact ⟨by unfold nmI; rw [if_neg hk0, if_neg hk1, if_neg (c := x = nI 102) cq99, if_neg (c := x = nI 99) cq109] <;> rfl, rfl⟩
        · refine p_run (pc' := 117) [.iconst 1, .goto 4] mkX8_nameOf (by decide +kernel) rfl rfl ?_
          refine p_iret rfl rfl (by decide +kernel) ?_
          exact ⟨by unfold nmI; rw [if_neg hk0, if_neg hk1, if_neg (c := x = nI 102) cq99, if_pos (c := x = nI 99) cq109] <;> rfl, rfl⟩
      · refine p_run (pc' := 117) [.iconst 0, .goto 14] mkX8_nameOf (by decide +kernel) rfl rfl ?_
        refine p_iret rfl rfl (by decide +kernel) ?_
        exact ⟨by unfold nmI; rw [if_neg hk0, if_neg hk1, if_pos (c := x = nI 102) cq99] <;> rfl, rfl⟩
theorem tk4 (l : Lx) : tkF l ≤ 4 := by unfold tkF; repeat' split
                                       all_goals omega
theorem tk3 {l : Lx} (h : tkF l = 3) : l.k ≠ 0 ∧ l.k ≠ 1 ∧ l.k ≠ 2 := by
  refine ⟨fun q => ?_, fun q => ?_, fun q => ?_⟩
  · rw [tkF, if_pos q] at h; exact absurd h (by decide)
  · rw [tkF, if_neg (by omega), if_pos q] at h; split at h <;> omega
  · rw [tkF, if_neg (by omega), if_neg (by omega), if_pos q] at h; split at h <;> omega
theorem va3 {T : Vc} {l : Lx} (h : tkF l = 3) : vaF T l = T l.s := by unfold vaF; rw [if_neg (tk3 h).2.2]
set_option maxRecDepth 20000 in
set_option maxHeartbeats 4000000 in
theorem signHere_ok (w : Wt) {k : Nat} (l : Lx) (h : Mm) (e9 : h 96 9 = nI (tkF l)) (e10 : tkF l = 3 → h 96 10 = vaF (h 101) l) : Ok w k MX8_signHere [.ref 96] h (Rv (sgF (h 101) l) h) := by
  show Wp w k MX8_signHere _ 0 [some (.ref 96)] [] h
  refine p_run (pc' := 5) [.aload_n 0, .getfield 226, .iconst 3] mkX8_signHere (by decide +kernel) rfl rfl ?_
  rw [e9]
  refine p_icmp_eq (off := 5) 10 (by decide +kernel) (by decide) (fun cq1 => ?_) (fun cq1 => ?_)
  · have h3 : tkF l = 3 := (nI_eq (by have := tk4 l; omega) (by omega)).mp cq1
    have hva : vaF (h 101) l = h 101 l.s := va3 h3
    refine p_run (pc' := 14) [.aload_n 0, .getfield 232] mkX8_signHere (by decide +kernel) rfl rfl ?_
    rw [e10 h3, hva]
    by_cases zq0 : h 101 l.s = Int32.ofInt (38)
    · refine p_lookup (dflt := 108) (ps := #[(38, 84), (42, 102), (43, 96), (45, 99), (47, 105), (60, 87), (61, 90), (62, 93), (124, 82)]) (len := 82) (off := 84) 98 (by decide +kernel) (by decide) (by rw [zq0]; rfl) (by decide) ?_
      refine p_run (pc' := 100) [.bipush (-2)] mkX8_signHere (by decide +kernel) rfl rfl ?_
      refine p_iret rfl rfl (by decide +kernel) ?_
      exact ⟨by unfold sgF sgV; rw [if_pos h3, if_pos (c := h 101 l.s = nI 38) zq0] <;> rfl, rfl⟩
    · by_cases zq1 : h 101 l.s = Int32.ofInt (42)
      · refine p_lookup (dflt := 108) (ps := #[(38, 84), (42, 102), (43, 96), (45, 99), (47, 105), (60, 87), (61, 90), (62, 93), (124, 82)]) (len := 82) (off := 102) 116 (by decide +kernel) (by decide) (by rw [zq1]; rfl) (by decide) ?_
        refine p_run (pc' := 118) [.bipush (-8)] mkX8_signHere (by decide +kernel) rfl rfl ?_
        refine p_iret rfl rfl (by decide +kernel) ?_
        exact ⟨by unfold sgF sgV; rw [if_pos h3, if_neg (c := h 101 l.s = nI 38) zq0, if_pos (c := h 101 l.s = nI 42) zq1] <;> rfl, rfl⟩
      · by_cases zq2 : h 101 l.s = Int32.ofInt (43)
        · refine p_lookup (dflt := 108) (ps := #[(38, 84), (42, 102), (43, 96), (45, 99), (47, 105), (60, 87), (61, 90), (62, 93), (124, 82)]) (len := 82) (off := 96) 110 (by decide +kernel) (by decide) (by rw [zq2]; rfl) (by decide) ?_
          refine p_run (pc' := 112) [.bipush (-6)] mkX8_signHere (by decide +kernel) rfl rfl ?_
          refine p_iret rfl rfl (by decide +kernel) ?_
          exact ⟨by unfold sgF sgV; rw [if_pos h3, if_neg (c := h 101 l.s = nI 38) zq0, if_neg (c := h 101 l.s = nI 42) zq1, if_pos (c := h 101 l.s = nI 43) zq2] <;> rfl, rfl⟩
        · by_cases zq3 : h 101 l.s = Int32.ofInt (45)
          · refine p_lookup (dflt := 108) (ps := #[(38, 84), (42, 102), (43, 96), (45, 99), (47, 105), (60, 87), (61, 90), (62, 93), (124, 82)]) (len := 82) (off := 99) 113 (by decide +kernel) (by decide) (by rw [zq3]; rfl) (by decide) ?_
            refine p_run (pc' := 115) [.bipush (-7)] mkX8_signHere (by decide +kernel) rfl rfl ?_
            refine p_iret rfl rfl (by decide +kernel) ?_
            exact ⟨by unfold sgF sgV; rw [if_pos h3, if_neg (c := h 101 l.s = nI 38) zq0, if_neg (c := h 101 l.s = nI 42) zq1, if_neg (c := h 101 l.s = nI 43) zq2, if_pos (c := h 101 l.s = nI 45) zq3] <;> rfl, rfl⟩
          · by_cases zq4 : h 101 l.s = Int32.ofInt (47)
            · refine p_lookup (dflt := 108) (ps := #[(38, 84), (42, 102), (43, 96), (45, 99), (47, 105), (60, 87), (61, 90), (62, 93), (124, 82)]) (len := 82) (off := 105) 119 (by decide +kernel) (by decide) (by rw [zq4]; rfl) (by decide) ?_
              refine p_run (pc' := 121) [.bipush (-9)] mkX8_signHere (by decide +kernel) rfl rfl ?_
              refine p_iret rfl rfl (by decide +kernel) ?_
              exact ⟨by unfold sgF sgV; rw [if_pos h3, if_neg (c := h 101 l.s = nI 38) zq0, if_neg (c := h 101 l.s = nI 42) zq1, if_neg (c := h 101 l.s = nI 43) zq2, if_neg (c := h 101 l.s = nI 45) zq3, if_pos (c := h 101 l.s = nI 47) zq4] <;> rfl, rfl⟩
            · by_cases zq5 : h 101 l.s = Int32.ofInt (60)
              · refine p_lookup (dflt := 108) (ps := #[(38, 84), (42, 102), (43, 96), (45, 99), (47, 105), (60, 87), (61, 90), (62, 93), (124, 82)]) (len := 82) (off := 87) 101 (by decide +kernel) (by decide) (by rw [zq5]; rfl) (by decide) ?_
                refine p_run (pc' := 103) [.bipush (-3)] mkX8_signHere (by decide +kernel) rfl rfl ?_
                refine p_iret rfl rfl (by decide +kernel) ?_
                exact ⟨by unfold sgF sgV; rw [if_pos h3, if_neg (c := h 101 l.s = nI 38) zq0, if_neg (c := h 101 l.s = nI 42) zq1, if_neg (c := h 101 l.s = nI 43) zq2, if_neg (c := h 101 l.s = nI 45) zq3, if_neg (c := h 101 l.s = nI 47) zq4, if_pos (c := h 101 l.s = nI 60) zq5] <;> rfl, rfl⟩
              · by_cases zq6 : h 101 l.s = Int32.ofInt (61)
                · refine p_lookup (dflt := 108) (ps := #[(38, 84), (42, 102), (43, 96), (45, 99), (47, 105), (60, 87), (61, 90), (62, 93), (124, 82)]) (len := 82) (off := 90) 104 (by decide +kernel) (by decide) (by rw [zq6]; rfl) (by decide) ?_
                  refine p_run (pc' := 106) [.bipush (-4)] mkX8_signHere (by decide +kernel) rfl rfl ?_
                  refine p_iret rfl rfl (by decide +kernel) ?_
                  exact ⟨by unfold sgF sgV; rw [if_pos h3, if_neg (c := h 101 l.s = nI 38) zq0, if_neg (c := h 101 l.s = nI 42) zq1, if_neg (c := h 101 l.s = nI 43) zq2, if_neg (c := h 101 l.s = nI 45) zq3, if_neg (c := h 101 l.s = nI 47) zq4, if_neg (c := h 101 l.s = nI 60) zq5, if_pos (c := h 101 l.s = nI 61) zq6] <;> rfl, rfl⟩
                · by_cases zq7 : h 101 l.s = Int32.ofInt (62)
                  · refine p_lookup (dflt := 108) (ps := #[(38, 84), (42, 102), (43, 96), (45, 99), (47, 105), (60, 87), (61, 90), (62, 93), (124, 82)]) (len := 82) (off := 93) 107 (by decide +kernel) (by decide) (by rw [zq7]; rfl) (by decide) ?_
                    refine p_run (pc' := 109) [.bipush (-5)] mkX8_signHere (by decide +kernel) rfl rfl ?_
                    refine p_iret rfl rfl (by decide +kernel) ?_
                    exact ⟨by unfold sgF sgV; rw [if_pos h3, if_neg (c := h 101 l.s = nI 38) zq0, if_neg (c := h 101 l.s = nI 42) zq1, if_neg (c := h 101 l.s = nI 43) zq2, if_neg (c := h 101 l.s = nI 45) zq3, if_neg (c := h 101 l.s = nI 47) zq4, if_neg (c := h 101 l.s = nI 60) zq5, if_neg (c := h 101 l.s = nI 61) zq6, if_pos (c := h 101 l.s = nI 62) zq7] <;> rfl, rfl⟩
                  · by_cases zq8 : h 101 l.s = Int32.ofInt (124)
                    · refine p_lookup (dflt := 108) (ps := #[(38, 84), (42, 102), (43, 96), (45, 99), (47, 105), (60, 87), (61, 90), (62, 93), (124, 82)]) (len := 82) (off := 82) 96 (by decide +kernel) (by decide) (by rw [zq8]; rfl) (by decide) ?_
                      refine p_run (pc' := 97) [.iconst (-1)] mkX8_signHere (by decide +kernel) rfl rfl ?_
                      refine p_iret rfl rfl (by decide +kernel) ?_
                      exact ⟨by unfold sgF sgV; rw [if_pos h3, if_neg (c := h 101 l.s = nI 38) zq0, if_neg (c := h 101 l.s = nI 42) zq1, if_neg (c := h 101 l.s = nI 43) zq2, if_neg (c := h 101 l.s = nI 45) zq3, if_neg (c := h 101 l.s = nI 47) zq4, if_neg (c := h 101 l.s = nI 60) zq5, if_neg (c := h 101 l.s = nI 61) zq6, if_neg (c := h 101 l.s = nI 62) zq7, if_pos (c := h 101 l.s = nI 124) zq8] <;> rfl, rfl⟩
                    · refine p_lookup (dflt := 108) (ps := #[(38, 84), (42, 102), (43, 96), (45, 99), (47, 105), (60, 87), (61, 90), (62, 93), (124, 82)]) (len := 82) (off := 108) 122 (by decide +kernel) (by decide) (by show Op.lookupswitch.offset [(38, 84), (42, 102), (43, 96), (45, 99), (47, 105), (60, 87), (61, 90), (62, 93), (124, 82)] _ _ = _; rw [Op.lookupswitch.offset_cons, if_neg (tI_ne rfl zq0), Op.lookupswitch.offset_cons, if_neg (tI_ne rfl zq1), Op.lookupswitch.offset_cons, if_neg (tI_ne rfl zq2), Op.lookupswitch.offset_cons, if_neg (tI_ne rfl zq3), Op.lookupswitch.offset_cons, if_neg (tI_ne rfl zq4), Op.lookupswitch.offset_cons, if_neg (tI_ne rfl zq5), Op.lookupswitch.offset_cons, if_neg (tI_ne rfl zq6), Op.lookupswitch.offset_cons, if_neg (tI_ne rfl zq7), Op.lookupswitch.offset_cons, if_neg (tI_ne rfl zq8), Op.lookupswitch.offset_nil]) (by decide) ?_
                      refine p_run (pc' := 123) [.iconst 0] mkX8_signHere (by decide +kernel) rfl rfl ?_
                      refine p_iret rfl rfl (by decide +kernel) ?_
                      exact ⟨by unfold sgF sgV; rw [if_pos h3, if_neg (c := h 101 l.s = nI 38) zq0, if_neg (c := h 101 l.s = nI 42) zq1, if_neg (c := h 101 l.s = nI 43) zq2, if_neg (c := h 101 l.s = nI 45) zq3, if_neg (c := h 101 l.s = nI 47) zq4, if_neg (c := h 101 l.s = nI 60) zq5, if_neg (c := h 101 l.s = nI 61) zq6, if_neg (c := h 101 l.s = nI 62) zq7, if_neg (c := h 101 l.s = nI 124) zq8] <;> rfl, rfl⟩
  · refine p_run (pc' := 9) [.iconst 0] mkX8_signHere (by decide +kernel) rfl rfl ?_
    refine p_iret rfl rfl (by decide +kernel) ?_
    exact ⟨by unfold sgF; rw [if_neg (fun q => cq1 (by rw [q]; rfl))]; rfl, rfl⟩
