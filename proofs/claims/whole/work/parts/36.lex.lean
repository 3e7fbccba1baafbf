/-! words and signs of the tape; the reference's go -/
def fw (p : Nat → Bool) : Nat → Nat → Nat
  | 0, i => i
  | m + 1, i => if p i = true then fw p m (i + 1) else i
theorem fw_le (p : Nat → Bool) : ∀ m i, i ≤ fw p m i ∧ fw p m i ≤ i + m
  | 0, i => by simp [fw]
  | m + 1, i => by
    have := fw_le p m (i + 1)
    rw [fw]
    split <;> omega
theorem fw_in {p : Nat → Bool} : ∀ m i j, i ≤ j → j < fw p m i → p j = true
  | 0, i, j, h1, h2 => by simp [fw] at h2; omega
  | m + 1, i, j, h1, h2 => by
    rw [fw] at h2
    by_cases h : p i = true
    · rw [if_pos h] at h2
      by_cases e : j = i
      · rw [e]; exact h
      · exact fw_in m (i + 1) j (by omega) h2
    · rw [if_neg h] at h2
      omega
theorem fw_stop {p : Nat → Bool} : ∀ m i, fw p m i < i + m → ¬ p (fw p m i) = true
  | 0, i, h => by simp [fw] at h
  | m + 1, i, h => by
    rw [fw] at h ⊢
    by_cases hp : p i = true
    · rw [if_pos hp] at h ⊢
      exact fw_stop m (i + 1) (by omega)
    · rw [if_neg hp] at h ⊢
      exact hp
def spB (n : Nat) (T : Vc) (i : Nat) : Bool := decide (i < n ∧ T i = nI 32)
def ltB (n : Nat) (T : Vc) (i : Nat) : Bool := decide (i < n ∧ nI 97 ≤ T i ∧ T i ≤ nI 122)
def fgB (n : Nat) (T : Vc) (i : Nat) : Bool := decide (i < n ∧ nI 48 ≤ T i ∧ T i ≤ nI 57)
theorem spB_iff {n : Nat} {T : Vc} {i : Nat} : spB n T i = true ↔ (i < n ∧ T i = nI 32) := decide_eq_true_iff
theorem ltB_iff {n : Nat} {T : Vc} {i : Nat} : ltB n T i = true ↔ (i < n ∧ nI 97 ≤ T i ∧ T i ≤ nI 122) := decide_eq_true_iff
theorem fgB_iff {n : Nat} {T : Vc} {i : Nat} : fgB n T i = true ↔ (i < n ∧ nI 48 ≤ T i ∧ T i ≤ nI 57) := decide_eq_true_iff
abbrev Lx : Type := Nat × Nat × Nat × Bool
abbrev Lx.s (l : Lx) : Nat := l.1
abbrev Lx.e (l : Lx) : Nat := l.2.1
abbrev Lx.k (l : Lx) : Nat := l.2.2.1
abbrev Lx.t (l : Lx) : Bool := l.2.2.2
def srt (n : Nat) (T : Vc) (i : Nat) : Nat := if n ≤ i then 0 else if ltB n T i = true then 1 else if fgB n T i = true then 2 else 3
def isW (k : Nat) : Bool := decide (k = 1 ∨ k = 2)
def skF (n : Nat) (T : Vc) (i : Nat) : Nat := fw (spB n T) (n - i) i
def enF (n : Nat) (T : Vc) (i : Nat) : Nat := if srt n T i = 0 then i else if srt n T i = 1 then fw (ltB n T) (n - i) i else if srt n T i = 2 then fw (fgB n T) (n - i) i else i + 1
def lxB (n : Nat) (T : Vc) (s : Nat) (c : Bool) : Lx := ⟨s, enF n T s, srt n T s, c && isW (srt n T s)⟩
def lxN (n : Nat) (T : Vc) (l : Lx) : Lx := lxB n T (skF n T l.e) (decide (skF n T l.e = l.e) && isW l.k)
def tkF (l : Lx) : Nat := if l.k = 0 then 0 else if l.k = 1 then (if l.t = true then 4 else 1) else if l.k = 2 then (if l.t = true ∨ 4 < l.e - l.s then 4 else 2) else 3
theorem tkF_1 {s e : Nat} {c : Bool} : tkF (s, e, 1, c) = (if c = true then 4 else 1) := rfl
theorem tkF_2 {s e : Nat} {c : Bool} : tkF (s, e, 2, c) = (if c = true ∨ 4 < e - s then 4 else 2) := rfl
def nuF (T : Vc) (s : Nat) : Nat → Int32
  | 0 => nI 0
  | m + 1 => nI 10 * nuF T s m + T (s + m) - nI 48
def vaF (T : Vc) (l : Lx) : Int32 := if l.k = 2 then nuF T l.s (min (l.e - l.s) 4) else T l.s
def Ge (x : Int32) (l : Lx) : Prop := (isW l.k = true → x = nI l.e) ∧ (isW l.k = false → ∀ j, l.e ≤ j → j ≤ 96 → ¬ x = nI j)
def Gs (n : Nat) (T : Vc) (R : Vc) (l : Lx) : Prop := R 6 = nI n ∧ R 7 = nI l.e ∧ R 8 = nI l.s ∧ R 9 = nI (tkF l) ∧ (l.k ≠ 0 → R 10 = vaF T l ∧ Ge (R 11) l)
/-- all but some fields of the reference's object stay -/
def Fr (S : List Nat) (h hh : Mm) : Prop := Ag [96] h hh ∧ ∀ j, j ∉ S → hh 96 j = h 96 j
theorem Fr.rf {S : List Nat} {h : Mm} : Fr S h h := ⟨Ag.rf, fun _ _ => rfl⟩
theorem Fr.tr {S : List Nat} {a b c : Mm} (x : Fr S a b) (y : Fr S b c) : Fr S a c := ⟨x.1.tr y.1, fun j hj => (y.2 j hj).trans (x.2 j hj)⟩
theorem Fr.up {S : List Nat} {h : Mm} {k : Nat} {x : Int32} (hk : k ∈ S) : Fr S h (up h 96 k x) := ⟨Ag.up (by simp), fun j hj => by rw [upS]; exact upd_n (fun e => hj (e ▸ hk))⟩
theorem Fr.mono {S S' : List Nat} {h h' : Mm} (a : Fr S h h') (hs : ∀ x, x ∈ S → x ∈ S') : Fr S' h h' := ⟨a.1, fun j hj => a.2 j (fun q => hj (hs j q))⟩
theorem uF {h : Mm} {a k : Nat} {x : Int32} : up h a k x a k = x := by rw [upS, upd_s]
theorem uN {h : Mm} {a k j : Nat} {x : Int32} (hj : j ≠ k) : up h a k x a j = h a j := by rw [upS, upd_n hj]
set_option maxRecDepth 20000 in
set_option maxHeartbeats 4000000 in
theorem isLetter_ok (w : Wt) {k : Nat} (n j : Nat) (hn : n ≤ 96) (hj : j ≤ 96) (h : Mm) (e6 : h 96 6 = nI n) : Ok w k MX8_isLetter [.ref 96, .int (nI j)] h (Rv (bI (ltB n (h 101) j = true)) h) := by
  show Wp w k MX8_isLetter _ 0 [some (.ref 96), some (.int (nI j))] [] h
  refine p_run (pc' := 5) [.iload_n 1, .aload_n 0, .getfield 213] mkX8_isLetter (by decide +kernel) rfl rfl ?_
  rw [e6]
  refine p_icmp_ge (off := 29) 34 (by decide +kernel) (by decide) (fun cq1 => ?_) (fun cq1 => ?_)
  · rw [nI_leI (by omega) (by omega)] at cq1
    refine p_run (pc' := 35) [.iconst 0] mkX8_isLetter (by decide +kernel) rfl rfl ?_
    refine p_iret rfl rfl (by decide +kernel) ?_
    exact ⟨by rw [bIf (fun q => by have := (ltB_iff.mp q).1; omega)]; rfl, rfl⟩
  · rw [nI_leI (by omega) (by omega)] at cq1
    refine p_run (pc' := 13) [.aload_n 0, .getfield 22, .iload_n 1] mkX8_isLetter (by decide +kernel) rfl rfl ?_
    refine p_iald (j) (by decide +kernel) rfl rfl rfl (by omega) ?_
    refine p_run (pc' := 16) [.bipush 97] mkX8_isLetter (by decide +kernel) rfl rfl ?_
    refine p_icmp_lt (off := 18) 34 (by decide +kernel) (by decide) (fun cq2 => ?_) (fun cq2 => ?_)
    · refine p_run (pc' := 35) [.iconst 0] mkX8_isLetter (by decide +kernel) rfl rfl ?_
      refine p_iret rfl rfl (by decide +kernel) ?_
      exact ⟨by rw [bIf (fun q => absurd (ltB_iff.mp q).2.1 (Int32.not_le.mpr cq2))]; rfl, rfl⟩
    · refine p_run (pc' := 24) [.aload_n 0, .getfield 22, .iload_n 1] mkX8_isLetter (by decide +kernel) rfl rfl ?_
      refine p_iald (j) (by decide +kernel) rfl rfl rfl (by omega) ?_
      refine p_run (pc' := 27) [.bipush 122] mkX8_isLetter (by decide +kernel) rfl rfl ?_
      refine p_icmp_gt (off := 7) 34 (by decide +kernel) (by decide) (fun cq3 => ?_) (fun cq3 => ?_)
      · refine p_run (pc' := 35) [.iconst 0] mkX8_isLetter (by decide +kernel) rfl rfl ?_
        refine p_iret rfl rfl (by decide +kernel) ?_
        exact ⟨by rw [bIf (fun q => absurd (ltB_iff.mp q).2.2 (Int32.not_le.mpr cq3))]; rfl, rfl⟩
      · refine p_run (pc' := 35) [.iconst 1, .goto 4] mkX8_isLetter (by decide +kernel) rfl rfl ?_
        refine p_iret rfl rfl (by decide +kernel) ?_
        exact ⟨by rw [bIt (ltB_iff.mpr ⟨by omega, Int32.not_lt.mp cq2, Int32.not_lt.mp cq3⟩)]; rfl, rfl⟩
set_option maxRecDepth 20000 in
set_option maxHeartbeats 4000000 in
theorem isFigure_ok (w : Wt) {k : Nat} (n j : Nat) (hn : n ≤ 96) (hj : j ≤ 96) (h : Mm) (e6 : h 96 6 = nI n) : Ok w k MX8_isFigure [.ref 96, .int (nI j)] h (Rv (bI (fgB n (h 101) j = true)) h) := by
  show Wp w k MX8_isFigure _ 0 [some (.ref 96), some (.int (nI j))] [] h
  refine p_run (pc' := 5) [.iload_n 1, .aload_n 0, .getfield 213] mkX8_isFigure (by decide +kernel) rfl rfl ?_
  rw [e6]
  refine p_icmp_ge (off := 29) 34 (by decide +kernel) (by decide) (fun cq1 => ?_) (fun cq1 => ?_)
  · rw [nI_leI (by omega) (by omega)] at cq1
    refine p_run (pc' := 35) [.iconst 0] mkX8_isFigure (by decide +kernel) rfl rfl ?_
    refine p_iret rfl rfl (by decide +kernel) ?_
    exact ⟨by rw [bIf (fun q => by have := (fgB_iff.mp q).1; omega)]; rfl, rfl⟩
  · rw [nI_leI (by omega) (by omega)] at cq1
    refine p_run (pc' := 13) [.aload_n 0, .getfield 22, .iload_n 1] mkX8_isFigure (by decide +kernel) rfl rfl ?_
    refine p_iald (j) (by decide +kernel) rfl rfl rfl (by omega) ?_
    refine p_run (pc' := 16) [.bipush 48] mkX8_isFigure (by decide +kernel) rfl rfl ?_
    refine p_icmp_lt (off := 18) 34 (by decide +kernel) (by decide) (fun cq2 => ?_) (fun cq2 => ?_)
    · refine p_run (pc' := 35) [.iconst 0] mkX8_isFigure (by decide +kernel) rfl rfl ?_
      refine p_iret rfl rfl (by decide +kernel) ?_
      exact ⟨by rw [bIf (fun q => absurd (fgB_iff.mp q).2.1 (Int32.not_le.mpr cq2))]; rfl, rfl⟩
    · refine p_run (pc' := 24) [.aload_n 0, .getfield 22, .iload_n 1] mkX8_isFigure (by decide +kernel) rfl rfl ?_
      refine p_iald (j) (by decide +kernel) rfl rfl rfl (by omega) ?_
      refine p_run (pc' := 27) [.bipush 57] mkX8_isFigure (by decide +kernel) rfl rfl ?_
      refine p_icmp_gt (off := 7) 34 (by decide +kernel) (by decide) (fun cq3 => ?_) (fun cq3 => ?_)
      · refine p_run (pc' := 35) [.iconst 0] mkX8_isFigure (by decide +kernel) rfl rfl ?_
        refine p_iret rfl rfl (by decide +kernel) ?_
        exact ⟨by rw [bIf (fun q => absurd (fgB_iff.mp q).2.2 (Int32.not_le.mpr cq3))]; rfl, rfl⟩
      · refine p_run (pc' := 35) [.iconst 1, .goto 4] mkX8_isFigure (by decide +kernel) rfl rfl ?_
        refine p_iret rfl rfl (by decide +kernel) ?_
        exact ⟨by rw [bIt (fgB_iff.mpr ⟨by omega, Int32.not_lt.mp cq2, Int32.not_lt.mp cq3⟩)]; rfl, rfl⟩
theorem srt_le {n : Nat} {T : Vc} {s : Nat} (h : n ≤ s) : srt n T s = 0 := by unfold srt; rw [if_pos h]
theorem srt_lt {n : Nat} {T : Vc} {s : Nat} (h : ltB n T s = true) : srt n T s = 1 := by
  have := (ltB_iff.mp h).1
  unfold srt; rw [if_neg (by omega), if_pos h]
theorem srt_fg {n : Nat} {T : Vc} {s : Nat} (h1 : ¬ ltB n T s = true) (h : fgB n T s = true) : srt n T s = 2 := by
  have := (fgB_iff.mp h).1
  unfold srt; rw [if_neg (by omega), if_neg h1, if_pos h]
theorem srt_sg {n : Nat} {T : Vc} {s : Nat} (hs : s < n) (h1 : ¬ ltB n T s = true) (h2 : ¬ fgB n T s = true) : srt n T s = 3 := by
  unfold srt; rw [if_neg (by omega), if_neg h1, if_neg h2]
theorem lxB_0 {n : Nat} {T : Vc} {s : Nat} {c : Bool} (h : n ≤ s) : lxB n T s c = ⟨s, s, 0, false⟩ := by
  unfold lxB enF; rw [srt_le h]; simp [isW]
theorem lxB_1 {n : Nat} {T : Vc} {s : Nat} {c : Bool} (h : ltB n T s = true) : lxB n T s c = ⟨s, fw (ltB n T) (n - s) s, 1, c⟩ := by
  unfold lxB enF; rw [srt_lt h]; simp [isW]
theorem lxB_2 {n : Nat} {T : Vc} {s : Nat} {c : Bool} (h1 : ¬ ltB n T s = true) (h : fgB n T s = true) : lxB n T s c = ⟨s, fw (fgB n T) (n - s) s, 2, c⟩ := by
  unfold lxB enF; rw [srt_fg h1 h]; simp [isW]
theorem lxB_3 {n : Nat} {T : Vc} {s : Nat} {c : Bool} (hs : s < n) (h1 : ¬ ltB n T s = true) (h2 : ¬ fgB n T s = true) : lxB n T s c = ⟨s, s + 1, 3, false⟩ := by
  unfold lxB enF; rw [srt_sg hs h1 h2]; simp [isW]
theorem fw_ge {p : Nat → Bool} {n s : Nat} (hp : ∀ i, p i = true → i < n) (hs : s ≤ n) : fw p (n - s) s ≤ n ∧ ¬ p (fw p (n - s) s) = true := by
  have h := fw_le p (n - s) s
  refine ⟨by omega, fun q => ?_⟩
  have h2 := hp _ q
  exact fw_stop (n - s) s (by omega) q
set_option maxRecDepth 20000 in
set_option maxHeartbeats 4000000 in
theorem go_sg (w : Wt) {k : Nat} (hk : 1 ≤ k) (n s : Nat) (hn : n ≤ 96) (hs : s ≤ n) (c : Bool) (h0 hh : Mm) (hF : Fr [7, 8, 9, 10, 11] h0 hh) (e6 : hh 96 6 = nI n) (e7 : hh 96 7 = nI s) (e8 : hh 96 8 = nI s) (hlt : s < n) (h1 : ¬ ltB n (h0 101) s = true) (h2 : ¬ fgB n (h0 101) s = true) (he2 : ∀ j, s < j → j ≤ 96 → ¬ hh 96 11 = nI j) : Wp w k MX8_go (fun r h' => r = none ∧ Gs n (h0 101) (h' 96) (lxB n (h0 101) s c) ∧ Fr [7, 8, 9, 10, 11] h0 h') 275 [some (.ref 96), some (.int (if c = true then nI 1 else nI 0))] [] hh := by
  have e101 : hh 101 = h0 101 := hF.1 101 (by decide)
  refine p_run (pc' := 289) [.aload_n 0, .iconst 3, .putfield 226, .aload_n 0, .aload_n 0, .getfield 22, .aload_n 0, .getfield 220] mkX8_go (by decide +kernel) rfl rfl ?_
  refine p_iald (s) (by decide +kernel) rfl rfl (by rw [uN (by decide), e8]) (by omega) ?_
  refine p_run (pc' := 303) [.putfield 232, .aload_n 0, .dup, .getfield 217, .iconst 1, .iadd, .putfield 217] mkX8_go (by decide +kernel) rfl rfl ?_
  refine p_vret rfl (by decide +kernel) ?_
  refine ⟨rfl, ?_, ((hF.tr (Fr.up (by decide))).tr (Fr.up (by decide))).tr (Fr.up (by decide))⟩
  rw [lxB_3 hlt h1 h2]
  refine ⟨?_, ?_, ?_, ?_, fun _ => ⟨?_, fun q => absurd q (show ¬ isW 3 = true by decide), fun _ j (hj1 : s + 1 ≤ j) hj2 => ?_⟩⟩
  · rw [uN (by decide), uN (by decide), uN (by decide), e6]
  · rw [uF, uN (by decide), uN (by decide), e7, oI, nI_add]
  · rw [uN (by decide), uN (by decide), uN (by decide), e8]
  · rw [uN (by decide), uN (by decide), uF]; rfl
  · rw [uN (by decide), uF, upN (by decide), e101]; rfl
  · rw [uN (by decide), uN (by decide), uN (by decide)]; exact he2 j (by omega) hj2
set_option maxRecDepth 20000 in
set_option maxHeartbeats 4000000 in
theorem go_lt (w : Wt) {k : Nat} (hk : 1 ≤ k) (n s : Nat) (hn : n ≤ 96) (hs : s ≤ n) (c : Bool) (h0 hh : Mm) (hF : Fr [7, 8, 9, 10, 11] h0 hh) (e6 : hh 96 6 = nI n) (e7 : hh 96 7 = nI s) (e8 : hh 96 8 = nI s) (hl : ltB n (h0 101) s = true) : Wp w k MX8_go (fun r h' => r = none ∧ Gs n (h0 101) (h' 96) (lxB n (h0 101) s c) ∧ Fr [7, 8, 9, 10, 11] h0 h') 93 [some (.ref 96), some (.int (if c = true then nI 1 else nI 0))] [] hh := by
  have e101 : hh 101 = h0 101 := hF.1 101 (by decide)
  have hsn := (ltB_iff.mp hl).1
  have hb := fw_le (ltB n (h0 101)) (n - s) s
  have hend := fw_ge (p := ltB n (h0 101)) (n := n) (s := s) (fun i q => (ltB_iff.mp q).1) (by omega)
  have hin := fw_in (p := ltB n (h0 101)) (n - s) s
  rw [lxB_1 hl]
  generalize eE : fw (ltB n (h0 101)) (n - s) s = E at *
  refine Wp.for (E - s) (fun i L hh => L = [some (.ref 96), some (.int (if c = true then nI 1 else nI 0))] ∧ (hh 96 7 = nI (s + i) ∧ hh 96 8 = nI s ∧ Fr [7, 8, 9, 10, 11] h0 hh)) ?_ ?_ (0) (by omega) _ _ ?_
  · rintro i L hh hi ⟨rfl, hJ⟩ ih
    obtain ⟨f7, f8, hG⟩ := hJ
    have f6 : hh 96 6 = nI n := by rw [hG.2 6 (by decide), ← hF.2 6 (by decide)]; exact e6
    have f101 : hh 101 = h0 101 := hG.1 101 (by decide)
    have hp : ltB n (hh 101) (s + i) = true := by rw [f101]; exact hin (s + i) (by omega) (by omega)
    refine p_run (pc' := 98) [.aload_n 0, .aload_n 0, .getfield 217] mkX8_go (by decide +kernel) rfl rfl ?_
    rw [f7]
    refine p_callVv (isLetter_ok w (k := k - 1) n (s + i) hn (by omega) _ f6) kvX8_229 (by decide +kernel) (by decide) rfl (by omega) rfl rfl rfl rfl rfl ?_
    rw [bIt hp]
    refine p_if_eq (off := 16) 117 (by decide +kernel) (by decide) (fun cq1 => ?_) (fun cq1 => ?_)
    · exact False.elim (by revert cq1; decide)
    · refine p_run (pc' := 93) [.aload_n 0, .dup, .getfield 217, .iconst 1, .iadd, .putfield 217, .goto (-21)] mkX8_go (by decide +kernel) rfl rfl ?_
      exact ih _ _ ⟨rfl, by rw [uF, f7, oI, nI_add]; rfl, by rw [uN (by decide), f8], hG.tr (Fr.up (by decide))⟩
  · rintro L hh ⟨rfl, hJ⟩
    obtain ⟨f7, f8, hG⟩ := hJ
    rw [show s + (E - s) = E by omega] at f7
    have f6 : hh 96 6 = nI n := by rw [hG.2 6 (by decide), ← hF.2 6 (by decide)]; exact e6
    have f101 : hh 101 = h0 101 := hG.1 101 (by decide)
    have hp : ¬ ltB n (hh 101) E = true := by rw [f101]; exact hend.2
    refine p_run (pc' := 98) [.aload_n 0, .aload_n 0, .getfield 217] mkX8_go (by decide +kernel) rfl rfl ?_
    rw [f7]
    refine p_callVv (isLetter_ok w (k := k - 1) n E hn (by omega) _ f6) kvX8_229 (by decide +kernel) (by decide) rfl (by omega) rfl rfl rfl rfl rfl ?_
    rw [bIf hp]
    refine p_if_eq (off := 16) 117 (by decide +kernel) (by decide) (fun cq1 => ?_) (fun cq1 => ?_)
    · refine p_run (pc' := 119) [.aload_n 0, .iload_n 1] mkX8_go (by decide +kernel) rfl rfl ?_
      refine p_if_eq (off := 7) 126 (by decide +kernel) (by decide) (fun cq2 => ?_) (fun cq2 => ?_)
      · have hc : ¬ c = true := fun q => by rw [if_pos q] at cq2; exact absurd cq2 (by decide)
        refine p_run (pc' := 139) [.iconst 1, .putfield 226, .aload_n 0, .aload_n 0, .getfield 22, .aload_n 0, .getfield 220] mkX8_go (by decide +kernel) rfl rfl ?_
        refine p_iald (s) (by decide +kernel) rfl rfl (by rw [uN (by decide), f8]) (by omega) ?_
        refine p_run (pc' := 303) [.putfield 232, .aload_n 0, .aload_n 0, .getfield 217, .putfield 223, .goto 152] mkX8_go (by decide +kernel) rfl rfl ?_
        refine p_vret rfl (by decide +kernel) ?_
        refine ⟨rfl, ?_, ((hG.tr (Fr.up (by decide))).tr (Fr.up (by decide))).tr (Fr.up (by decide))⟩
        refine ⟨?_, ?_, ?_, ?_, fun _ => ⟨?_, fun _ => ?_, fun q => absurd q (show ¬ isW 1 = false by decide)⟩⟩
        · rw [uN (by decide), uN (by decide), uN (by decide), f6]
        · rw [uN (by decide), uN (by decide), uN (by decide), f7]
        · rw [uN (by decide), uN (by decide), uN (by decide), f8]
        · rw [uN (by decide), uN (by decide), uF]; rw [tkF_1, if_neg hc]; rfl
        · rw [uN (by decide), uF, upN (by decide), f101]; rfl
        · rw [uF, uN (by decide), uN (by decide), f7]
      · have hc : c = true := Classical.byContradiction (fun q => by rw [if_neg q] at cq2; exact absurd rfl cq2)
        refine p_run (pc' := 139) [.iconst 4, .goto 4, .putfield 226, .aload_n 0, .aload_n 0, .getfield 22, .aload_n 0, .getfield 220] mkX8_go (by decide +kernel) rfl rfl ?_
        refine p_iald (s) (by decide +kernel) rfl rfl (by rw [uN (by decide), f8]) (by omega) ?_
        refine p_run (pc' := 303) [.putfield 232, .aload_n 0, .aload_n 0, .getfield 217, .putfield 223, .goto 152] mkX8_go (by decide +kernel) rfl rfl ?_
        refine p_vret rfl (by decide +kernel) ?_
        refine ⟨rfl, ?_, ((hG.tr (Fr.up (by decide))).tr (Fr.up (by decide))).tr (Fr.up (by decide))⟩
        refine ⟨?_, ?_, ?_, ?_, fun _ => ⟨?_, fun _ => ?_, fun q => absurd q (show ¬ isW 1 = false by decide)⟩⟩
        · rw [uN (by decide), uN (by decide), uN (by decide), f6]
        · rw [uN (by decide), uN (by decide), uN (by decide), f7]
        · rw [uN (by decide), uN (by decide), uN (by decide), f8]
        · rw [uN (by decide), uN (by decide), uF]; rw [tkF_1, if_pos hc]; rfl
        · rw [uN (by decide), uF, upN (by decide), f101]; rfl
        · rw [uF, uN (by decide), uN (by decide), f7]
    · exact absurd rfl cq1
  · exact ⟨rfl, by rw [e7]; rfl, e8, hF⟩
set_option maxRecDepth 20000 in
set_option maxHeartbeats 4000000 in
theorem go_fg (w : Wt) {k : Nat} (hk : 1 ≤ k) (n s : Nat) (hn : n ≤ 96) (hs : s ≤ n) (c : Bool) (h0 hh : Mm) (hF : Fr [7, 8, 9, 10, 11] h0 hh) (e6 : hh 96 6 = nI n) (e7 : hh 96 7 = nI s) (e8 : hh 96 8 = nI s) (h1 : ¬ ltB n (h0 101) s = true) (hl : fgB n (h0 101) s = true) : Wp w k MX8_go (fun r h' => r = none ∧ Gs n (h0 101) (h' 96) (lxB n (h0 101) s c) ∧ Fr [7, 8, 9, 10, 11] h0 h') 165 [some (.ref 96), some (.int (if c = true then nI 1 else nI 0))] [] hh := by
  have e101 : hh 101 = h0 101 := hF.1 101 (by decide)
  have hsn := (fgB_iff.mp hl).1
  have hb := fw_le (fgB n (h0 101)) (n - s) s
  have hend := fw_ge (p := fgB n (h0 101)) (n := n) (s := s) (fun i q => (fgB_iff.mp q).1) (by omega)
  have hin := fw_in (p := fgB n (h0 101)) (n - s) s
  rw [lxB_2 h1 hl]
  generalize eE : fw (fgB n (h0 101)) (n - s) s = E at *
  refine p_run (pc' := 170) [.aload_n 0, .iconst 0, .putfield 232] mkX8_go (by decide +kernel) rfl rfl ?_
  refine Wp.for (E - s) (fun i L hh => L = [some (.ref 96), some (.int (if c = true then nI 1 else nI 0))] ∧ (hh 96 7 = nI (s + i) ∧ hh 96 8 = nI s ∧ hh 96 10 = nuF (h0 101) s (min i 4) ∧ Fr [7, 8, 9, 10, 11] h0 hh)) ?_ ?_ (0) (by omega) _ _ ?_
  · rintro i L hh hi ⟨rfl, hJ⟩ ih
    obtain ⟨f7, f8, f10, hG⟩ := hJ
    have f6 : hh 96 6 = nI n := by rw [hG.2 6 (by decide), ← hF.2 6 (by decide)]; exact e6
    have f101 : hh 101 = h0 101 := hG.1 101 (by decide)
    have hp : fgB n (hh 101) (s + i) = true := by rw [f101]; exact hin (s + i) (by omega) (by omega)
    refine p_run (pc' := 175) [.aload_n 0, .aload_n 0, .getfield 217] mkX8_go (by decide +kernel) rfl rfl ?_
    rw [f7]
    refine p_callVv (isFigure_ok w (k := k - 1) n (s + i) hn (by omega) _ f6) kvX8_235 (by decide +kernel) (by decide) rfl (by omega) rfl rfl rfl rfl rfl ?_
    rw [bIt hp]
    refine p_if_eq (off := 60) 238 (by decide +kernel) (by decide) (fun cq1 => ?_) (fun cq1 => ?_)
    · exact False.elim (by revert cq1; decide)
    · refine p_run (pc' := 192) [.aload_n 0, .aload_n 0, .getfield 217, .aload_n 0, .getfield 220, .isub, .iconst 4] mkX8_go (by decide +kernel) rfl rfl ?_
      rw [f7, f8, nIs (by omega), show s + i - s = i by omega, oI]
      refine p_icmp_ge (off := 26) 218 (by decide +kernel) (by decide) (fun cq2 => ?_) (fun cq2 => ?_)
      · rw [nI_leI (by omega) (by omega)] at cq2
        refine p_run (pc' := 170) [.aload_n 0, .getfield 232, .putfield 232, .aload_n 0, .dup, .getfield 217, .iconst 1, .iadd, .putfield 217, .goto (-65)] mkX8_go (by decide +kernel) rfl rfl ?_
        exact ih _ _ ⟨rfl, by rw [uF, uN (by decide), f7, oI, nI_add]; rfl, by rw [uN (by decide), uN (by decide), f8], by rw [uN (by decide), uF, f10, show min (i + 1) 4 = min i 4 by omega], (hG.tr (Fr.up (by decide))).tr (Fr.up (by decide))⟩
      · rw [nI_leI (by omega) (by omega)] at cq2
        refine p_run (pc' := 210) [.bipush 10, .aload_n 0, .getfield 232, .imul, .aload_n 0, .getfield 22, .aload_n 0, .getfield 217] mkX8_go (by decide +kernel) rfl rfl ?_
        refine p_iald (s + i) (by decide +kernel) rfl rfl (by rw [f7]) (by omega) ?_
        refine p_run (pc' := 170) [.iadd, .bipush 48, .isub, .goto 7, .putfield 232, .aload_n 0, .dup, .getfield 217, .iconst 1, .iadd, .putfield 217, .goto (-65)] mkX8_go (by decide +kernel) rfl rfl ?_
        exact ih _ _ ⟨rfl, by rw [uF, uN (by decide), f7, oI, nI_add]; rfl, by rw [uN (by decide), uN (by decide), f8], by rw [uN (by decide), uF, f10, show min (i + 1) 4 = i + 1 by omega, show min i 4 = i by omega, f101]; rfl, (hG.tr (Fr.up (by decide))).tr (Fr.up (by decide))⟩
  · rintro L hh ⟨rfl, hJ⟩
    obtain ⟨f7, f8, f10, hG⟩ := hJ
    have f6 : hh 96 6 = nI n := by rw [hG.2 6 (by decide), ← hF.2 6 (by decide)]; exact e6
    have f101 : hh 101 = h0 101 := hG.1 101 (by decide)
    rw [show s + (E - s) = E by omega] at f7
    have hp : ¬ fgB n (hh 101) E = true := by rw [f101]; exact hend.2
    refine p_run (pc' := 175) [.aload_n 0, .aload_n 0, .getfield 217] mkX8_go (by decide +kernel) rfl rfl ?_
    rw [f7]
    refine p_callVv (isFigure_ok w (k := k - 1) n E hn (by omega) _ f6) kvX8_235 (by decide +kernel) (by decide) rfl (by omega) rfl rfl rfl rfl rfl ?_
    rw [bIf hp]
    refine p_if_eq (off := 60) 238 (by decide +kernel) (by decide) (fun cq1 => ?_) (fun cq1 => ?_)
    · refine p_run (pc' := 240) [.aload_n 0, .iload_n 1] mkX8_go (by decide +kernel) rfl rfl ?_
      refine p_if_ne (off := 16) 256 (by decide +kernel) (by decide) (fun cq2 => ?_) (fun cq2 => ?_)
      · have hc : c = true := Classical.byContradiction (fun q => by rw [if_neg q] at cq2; exact absurd rfl cq2)
        refine p_run (pc' := 303) [.iconst 4, .goto 4, .putfield 226, .aload_n 0, .aload_n 0, .getfield 217, .putfield 223, .goto 31] mkX8_go (by decide +kernel) rfl rfl ?_
        refine p_vret rfl (by decide +kernel) ?_
        refine ⟨rfl, ?_, (hG.tr (Fr.up (by decide))).tr (Fr.up (by decide))⟩
        refine ⟨?_, ?_, ?_, ?_, fun _ => ⟨?_, fun _ => ?_, fun q => absurd q (show ¬ isW 2 = false by decide)⟩⟩
        · rw [uN (by decide), uN (by decide), f6]
        · rw [uN (by decide), uN (by decide), f7]
        · rw [uN (by decide), uN (by decide), f8]
        · rw [uN (by decide), uF]; rw [tkF_2, if_pos (Or.inl hc)]; rfl
        · rw [uN (by decide), uN (by decide), f10]; rfl
        · rw [uF, uN (by decide), f7]
      · have hc : ¬ c = true := fun q => by rw [if_pos q] at cq2; exact absurd cq2 (by decide)
        refine p_run (pc' := 253) [.aload_n 0, .getfield 217, .aload_n 0, .getfield 220, .isub, .iconst 4] mkX8_go (by decide +kernel) rfl rfl ?_
        rw [f7, f8, nIs (by omega), oI]
        refine p_icmp_le (off := 7) 260 (by decide +kernel) (by decide) (fun cq3 => ?_) (fun cq3 => ?_)
        · rw [nI_leI (by omega) (by omega)] at cq3
          refine p_run (pc' := 303) [.iconst 2, .putfield 226, .aload_n 0, .aload_n 0, .getfield 217, .putfield 223, .goto 31] mkX8_go (by decide +kernel) rfl rfl ?_
          refine p_vret rfl (by decide +kernel) ?_
          refine ⟨rfl, ?_, (hG.tr (Fr.up (by decide))).tr (Fr.up (by decide))⟩
          refine ⟨?_, ?_, ?_, ?_, fun _ => ⟨?_, fun _ => ?_, fun q => absurd q (show ¬ isW 2 = false by decide)⟩⟩
          · rw [uN (by decide), uN (by decide), f6]
          · rw [uN (by decide), uN (by decide), f7]
          · rw [uN (by decide), uN (by decide), f8]
          · rw [uN (by decide), uF]; rw [tkF_2, if_neg (fun q => q.elim hc (fun z => by omega))]; rfl
          · rw [uN (by decide), uN (by decide), f10]; rfl
          · rw [uF, uN (by decide), f7]
        · rw [nI_leI (by omega) (by omega)] at cq3
          refine p_run (pc' := 303) [.iconst 4, .goto 4, .putfield 226, .aload_n 0, .aload_n 0, .getfield 217, .putfield 223, .goto 31] mkX8_go (by decide +kernel) rfl rfl ?_
          refine p_vret rfl (by decide +kernel) ?_
          refine ⟨rfl, ?_, (hG.tr (Fr.up (by decide))).tr (Fr.up (by decide))⟩
          refine ⟨?_, ?_, ?_, ?_, fun _ => ⟨?_, fun _ => ?_, fun q => absurd q (show ¬ isW 2 = false by decide)⟩⟩
          · rw [uN (by decide), uN (by decide), f6]
          · rw [uN (by decide), uN (by decide), f7]
          · rw [uN (by decide), uN (by decide), f8]
          · rw [uN (by decide), uF]; rw [tkF_2, if_pos (Or.inr (by omega))]; rfl
          · rw [uN (by decide), uN (by decide), f10]; rfl
          · rw [uF, uN (by decide), f7]
    · exact absurd rfl cq1
  · exact ⟨rfl, by rw [uN (by decide), e7]; rfl, by rw [uN (by decide), e8], by rw [uF]; rfl, hF.tr (Fr.up (by decide))⟩
set_option maxRecDepth 20000 in
set_option maxHeartbeats 4000000 in
theorem go_b (w : Wt) {k : Nat} (hk : 1 ≤ k) (n s : Nat) (hn : n ≤ 96) (hs : s ≤ n) (c : Bool) (h0 hh : Mm) (hF : Fr [7, 8, 9, 10, 11] h0 hh) (e6 : hh 96 6 = nI n) (e7 : hh 96 7 = nI s) (e8 : hh 96 8 = nI s) (he2 : ∀ j, s < j → j ≤ 96 → ¬ hh 96 11 = nI j) : Wp w k MX8_go (fun r h' => r = none ∧ Gs n (h0 101) (h' 96) (lxB n (h0 101) s c) ∧ Fr [7, 8, 9, 10, 11] h0 h') 63 [some (.ref 96), some (.int (if c = true then nI 1 else nI 0))] [] hh := by
  have e101 : hh 101 = h0 101 := hF.1 101 (by decide)
  refine p_run (pc' := 71) [.aload_n 0, .getfield 220, .aload_n 0, .getfield 213] mkX8_go (by decide +kernel) rfl rfl ?_
  rw [e8, e6]
  refine p_icmp_ne (off := 11) 82 (by decide +kernel) (by decide) (fun cq1 => ?_) (fun cq1 => ?_)
  · rw [nI_eq (by omega) (by omega)] at cq1
    refine p_run (pc' := 87) [.aload_n 0, .aload_n 0, .getfield 220] mkX8_go (by decide +kernel) rfl rfl ?_
    rw [e8]
    refine p_callVv (isLetter_ok w (k := k - 1) n s hn (by omega) _ e6) kvX8_229 (by decide +kernel) (by decide) rfl (by omega) rfl rfl rfl rfl rfl ?_
    rw [e101]
    refine p_if_eq (off := 64) 154 (by decide +kernel) (by decide) (fun cq2 => ?_) (fun cq2 => ?_)
    · have cq2 := bI0.mp cq2
      refine p_run (pc' := 159) [.aload_n 0, .aload_n 0, .getfield 220] mkX8_go (by decide +kernel) rfl rfl ?_
      rw [e8]
      refine p_callVv (isFigure_ok w (k := k - 1) n s hn (by omega) _ e6) kvX8_235 (by decide +kernel) (by decide) rfl (by omega) rfl rfl rfl rfl rfl ?_
      rw [e101]
      refine p_if_eq (off := 113) 275 (by decide +kernel) (by decide) (fun cq3 => ?_) (fun cq3 => ?_)
      · exact go_sg w hk n s hn hs c h0 hh hF e6 e7 e8 (by omega) cq2 (bI0.mp cq3) he2
      · exact go_fg w hk n s hn hs c h0 hh hF e6 e7 e8 cq2 (bI1.mp cq3)
    · exact go_lt w hk n s hn hs c h0 hh hF e6 e7 e8 (bI1.mp cq2)
  · rw [nI_eq (by omega) (by omega)] at cq1
    refine p_run (pc' := 303) [.aload_n 0, .iconst 0, .putfield 226, .goto 224] mkX8_go (by decide +kernel) rfl rfl ?_
    refine p_vret rfl (by decide +kernel) ?_
    refine ⟨rfl, ?_, hF.tr (Fr.up (by decide))⟩
    rw [lxB_0 (by omega)]
    exact ⟨by rw [uN (by decide), e6], by rw [uN (by decide), e7], by rw [uN (by decide), e8], by rw [uF]; rfl, fun q => absurd rfl q⟩
set_option maxRecDepth 20000 in
set_option maxHeartbeats 4000000 in
theorem go_ok (w : Wt) {k : Nat} (hk : 1 ≤ k) (n : Nat) (hn : n ≤ 96) (l : Lx) (hl : l.e ≤ n) (h : Mm) (e6 : h 96 6 = nI n) (e7 : h 96 7 = nI l.e) (hg : Ge (h 96 11) l) : Ok w k MX8_go [.ref 96] h (fun r h' => r = none ∧ Gs n (h 101) (h' 96) (lxN n (h 101) l) ∧ Fr [7, 8, 9, 10, 11] h h') := by
  show Wp w k MX8_go _ 0 [some (.ref 96), none] [] h
  have hb := fw_le (spB n (h 101)) (n - l.e) l.e
  have hend := fw_ge (p := spB n (h 101)) (n := n) (s := l.e) (fun i q => (spB_iff.mp q).1) hl
  have hin := fw_in (p := spB n (h 101)) (n - l.e) l.e
  unfold lxN skF
  generalize eS : fw (spB n (h 101)) (n - l.e) l.e = s at *
  refine Wp.for (s - l.e) (fun i L hh => L = [some (.ref 96), none] ∧ (hh 96 7 = nI (l.e + i) ∧ hh 96 11 = h 96 11 ∧ Fr [7, 8, 9, 10, 11] h hh)) ?_ ?_ (0) (by omega) _ _ ?_
  · rintro i L hh hi ⟨rfl, hJ⟩ ih
    obtain ⟨f7, f11, hG⟩ := hJ
    have f6 : hh 96 6 = nI n := by rw [hG.2 6 (by decide)]; exact e6
    have f101 : hh 101 = h 101 := hG.1 101 (by decide)
    have hp := spB_iff.mp (hin (l.e + i) (by omega) (by omega))
    refine p_run (pc' := 8) [.aload_n 0, .getfield 217, .aload_n 0, .getfield 213] mkX8_go (by decide +kernel) rfl rfl ?_
    rw [f6, f7]
    refine p_icmp_ge (off := 30) 38 (by decide +kernel) (by decide) (fun cq1 => ?_) (fun cq1 => ?_)
    · exact absurd cq1 (nI_ge (by omega) (by omega))
    · refine p_run (pc' := 19) [.aload_n 0, .getfield 22, .aload_n 0, .getfield 217] mkX8_go (by decide +kernel) rfl rfl ?_
      refine p_iald (l.e + i) (by decide +kernel) rfl rfl (by rw [f7]) (by omega) ?_
      refine p_run (pc' := 22) [.bipush 32] mkX8_go (by decide +kernel) rfl rfl ?_
      rw [f101]
      refine p_icmp_ne (off := 16) 38 (by decide +kernel) (by decide) (fun cq2 => ?_) (fun cq2 => ?_)
      · exact absurd hp.2 cq2
      · refine p_run (pc' := 0) [.aload_n 0, .dup, .getfield 217, .iconst 1, .iadd, .putfield 217, .goto (-35)] mkX8_go (by decide +kernel) rfl rfl ?_
        exact ih _ _ ⟨rfl, by rw [uF, f7, oI, nI_add]; rfl, by rw [uN (by decide), f11], hG.tr (Fr.up (by decide))⟩
  · rintro L hh ⟨rfl, hJ⟩
    obtain ⟨f7, f11, hG⟩ := hJ
    have f6 : hh 96 6 = nI n := by rw [hG.2 6 (by decide)]; exact e6
    have f101 : hh 101 = h 101 := hG.1 101 (by decide)
    rw [show l.e + (s - l.e) = s by omega] at f7
    have hC : Wp w k MX8_go (fun r h' => r = none ∧ Gs n (h 101) (h' 96) (lxB n (h 101) s (decide (s = l.e) && isW l.k)) ∧ Fr [7, 8, 9, 10, 11] h h') 38 [some (.ref 96), none] [] hh := by
      refine p_run (pc' := 54) [.aload_n 0, .aload_n 0, .getfield 217, .putfield 220, .aload_n 0, .getfield 220, .aload_n 0, .getfield 223] mkX8_go (by decide +kernel) rfl rfl ?_
      rw [uF, uN (by decide), f7, f11]
      refine p_icmp_ne (off := 7) 61 (by decide +kernel) (by decide) (fun cq3 => ?_) (fun cq3 => ?_)
      · refine p_run (pc' := 63) [.iconst 0, .istore_n 1] mkX8_go (by decide +kernel) rfl rfl ?_
        have hcc : (decide (s = l.e) && isW l.k) = false := by
          cases hw : isW l.k with
          | true => rw [hg.1 hw] at cq3; rw [Bool.and_true, decide_eq_false_iff_not]; exact fun q => cq3 (by rw [q])
          | false => rw [Bool.and_false]
        rw [hcc]
        have he2 : ∀ j, s < j → j ≤ 96 → ¬ up hh 96 8 (nI s) 96 11 = nI j := by
          intro j hj1 hj2 q
          rw [uN (by decide), f11] at q
          cases hw : isW l.k with
          | true => rw [hg.1 hw, nI_eq (by omega) (by omega)] at q; omega
          | false => exact hg.2 hw j (by omega) hj2 q
        exact go_b w hk n s hn (by omega) false h _ (hG.tr (Fr.up (by decide))) (by rw [uN (by decide), f6]) (by rw [uN (by decide), f7]) (by rw [uF]) he2
      · refine p_run (pc' := 63) [.iconst 1, .goto 4, .istore_n 1] mkX8_go (by decide +kernel) rfl rfl ?_
        have hcc : (decide (s = l.e) && isW l.k) = true := by
          cases hw : isW l.k with
          | true => rw [hg.1 hw, nI_eq (by omega) (by omega)] at cq3; rw [Bool.and_true, decide_eq_true_iff]; exact cq3
          | false => exact absurd cq3.symm (hg.2 hw s (by omega) (by omega))
        rw [hcc]
        have he2 : ∀ j, s < j → j ≤ 96 → ¬ up hh 96 8 (nI s) 96 11 = nI j := by
          intro j hj1 hj2 q
          rw [uN (by decide), f11] at q
          cases hw : isW l.k with
          | true => rw [hg.1 hw, nI_eq (by omega) (by omega)] at q; omega
          | false => exact hg.2 hw j (by omega) hj2 q
        exact go_b w hk n s hn (by omega) true h _ (hG.tr (Fr.up (by decide))) (by rw [uN (by decide), f6]) (by rw [uN (by decide), f7]) (by rw [uF]) he2
    refine p_run (pc' := 8) [.aload_n 0, .getfield 217, .aload_n 0, .getfield 213] mkX8_go (by decide +kernel) rfl rfl ?_
    rw [f6, f7]
    refine p_icmp_ge (off := 30) 38 (by decide +kernel) (by decide) (fun cq1 => ?_) (fun cq1 => ?_)
    · exact hC
    · rw [nI_leI (by omega) (by omega)] at cq1
      refine p_run (pc' := 19) [.aload_n 0, .getfield 22, .aload_n 0, .getfield 217] mkX8_go (by decide +kernel) rfl rfl ?_
      refine p_iald (s) (by decide +kernel) rfl rfl (by rw [f7]) (by omega) ?_
      refine p_run (pc' := 22) [.bipush 32] mkX8_go (by decide +kernel) rfl rfl ?_
      rw [f101]
      refine p_icmp_ne (off := 16) 38 (by decide +kernel) (by decide) (fun cq2 => ?_) (fun cq2 => ?_)
      · exact hC
      · exact absurd (spB_iff.mpr ⟨by omega, cq2⟩) hend.2
  · exact ⟨rfl, by rw [e7]; rfl, rfl, Fr.rf⟩
