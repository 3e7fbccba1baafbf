/-! the reference: branches, rules, deals -/
def mbP (N : Vc) (b : Nat) (a v : Int32) : Prop := (a = nI 0 ∧ bK N b 2 ≤ v ∧ v ≤ nI 999) ∨ (a = nI 1 ∧ inR v 0 99) ∨ (a = nI 2 ∧ nI 0 ≤ v ∧ v ≤ bK N b 0)
theorem mbP0 {N : Vc} {b : Nat} {v : Int32} : mbP N b (nI 0) v ↔ (bK N b 2 ≤ v ∧ v ≤ nI 999) := by
  unfold mbP
  constructor
  · rintro (⟨-, h⟩ | ⟨h, -⟩ | ⟨h, -⟩)
    · exact h
    · exact absurd h (by decide)
    · exact absurd h (by decide)
  · exact fun h => Or.inl ⟨rfl, h⟩
theorem mbP1 {N : Vc} {b : Nat} {v : Int32} : mbP N b (nI 1) v ↔ inR v 0 99 := by
  unfold mbP
  constructor
  · rintro (⟨h, -⟩ | ⟨-, h⟩ | ⟨h, -⟩)
    · exact absurd h (by decide)
    · exact h
    · exact absurd h (by decide)
  · exact fun h => Or.inr (Or.inl ⟨rfl, h⟩)
theorem mbP2 {N : Vc} {b : Nat} {v : Int32} : mbP N b (nI 2) v ↔ (nI 0 ≤ v ∧ v ≤ bK N b 0) := by
  unfold mbP
  constructor
  · rintro (⟨h, -⟩ | ⟨h, -⟩ | ⟨-, h⟩)
    · exact absurd h (by decide)
    · exact absurd h (by decide)
    · exact h
  · exact fun h => Or.inr (Or.inr ⟨rfl, h⟩)
theorem bIc {p q : Prop} (h : p ↔ q) : bI p = bI q := by rw [propext h]
set_option maxRecDepth 20000 in
set_option maxHeartbeats 4000000 in
theorem mayBe_ok (w : Wt) {k : Nat} (hk : 1 ≤ k) (b : Nat) (hb : b < 4) (a v : Int32) (h : Mm) : Ok w k MX8_mayBe [.ref 96, .int (nI b), .int a, .int v] h (Rv (bI (mbP (h 97) b a v)) h) := by
  show Wp w k MX8_mayBe _ 0 [some (.ref 96), some (.int (nI b)), some (.int a), some (.int v)] [] h
  refine p_run (pc' := 1) [.iload_n 2] mkX8_mayBe (by decide +kernel) rfl rfl ?_
  refine p_table (dflt := 61) (lo := 0) (hi := 2) (offs := #[27, 41, 49]) (len := 27) (by decide +kernel) (by decide) (fun j hj hx => ?_) (fun hx => ?_)
  · match j, hj, hx with
    | 0, _, hx =>
      have hx : a = Int32.ofInt (0) := hx
      refine ⟨27, 28, rfl, rfl, ?_⟩
      have hx : a = nI 0 := hx
      subst hx
      refine p_run (pc' := 32) [.iload_n 3, .aload_n 0, .iload_n 1, .iconst 2] mkX8_mayBe (by decide +kernel) rfl rfl ?_
      refine p_callVv (at_ok w (k := k - 1) b 2 _ (by omega)) kvX8_79 (by decide +kernel) (by decide) rfl (by omega) rfl rfl rfl rfl rfl ?_
      refine p_run (pc' := 38) [.sipush 999] mkX8_mayBe (by decide +kernel) rfl rfl ?_
      refine p_callSv (in_ok w (k := k - 1) _ _ _ _) ksX8_75 (by decide +kernel) (by omega) rfl rfl rfl rfl rfl ?_
      refine p_iret rfl bIn (by decide +kernel) ?_
      exact ⟨by rw [bIc mbP0]; rfl, rfl⟩
    | 1, _, hx =>
      have hx : a = Int32.ofInt (1) := hx
      refine ⟨41, 42, rfl, rfl, ?_⟩
      have hx : a = nI 1 := hx
      subst hx
      refine p_run (pc' := 46) [.iload_n 3, .iconst 0, .bipush 99] mkX8_mayBe (by decide +kernel) rfl rfl ?_
      refine p_callSv (in_ok w (k := k - 1) _ _ _ _) ksX8_75 (by decide +kernel) (by omega) rfl rfl rfl rfl rfl ?_
      refine p_iret rfl bIn (by decide +kernel) ?_
      exact ⟨by rw [bIc mbP1]; rfl, rfl⟩
    | 2, _, hx =>
      have hx : a = Int32.ofInt (2) := hx
      refine ⟨49, 50, rfl, rfl, ?_⟩
      have hx : a = nI 2 := hx
      subst hx
      refine p_run (pc' := 55) [.iload_n 3, .iconst 0, .aload_n 0, .iload_n 1, .iconst 0] mkX8_mayBe (by decide +kernel) rfl rfl ?_
      refine p_callVv (at_ok w (k := k - 1) b 0 _ (by omega)) kvX8_79 (by decide +kernel) (by decide) rfl (by omega) rfl rfl rfl rfl rfl ?_
      refine p_callSv (in_ok w (k := k - 1) _ _ _ _) ksX8_75 (by decide +kernel) (by omega) rfl rfl rfl rfl rfl ?_
      refine p_iret rfl bIn (by decide +kernel) ?_
      exact ⟨by rw [bIc mbP2]; rfl, rfl⟩
    | j + 3, hj, _ => exact absurd hj (by simp)
  · refine ⟨62, rfl, ?_⟩
    have hno : ¬ mbP (h 97) b a v := by
      rintro (⟨e, -⟩ | ⟨e, -⟩ | ⟨e, -⟩) <;> (rw [e] at hx; revert hx; decide)
    refine p_run (pc' := 63) [.iconst 0] mkX8_mayBe (by decide +kernel) rfl rfl ?_
    refine p_iret rfl rfl (by decide +kernel) ?_
    exact ⟨by rw [bIf hno]; rfl, rfl⟩
set_option maxRecDepth 20000 in
set_option maxHeartbeats 4000000 in
theorem r_branch_bad (w : Wt) {k : Nat} (hk : 2 ≤ k) (x a v : Int32) (h : Mm) (hb : ¬ (inR x 0 3 ∧ mbP (h 97) (nN x) a v)) : Ok w k MX8_branch [.ref 96, .int x, .int a, .int v] h (Rv BADv h) := by
  show Wp w k MX8_branch _ 0 [some (.ref 96), some (.int x), some (.int a), some (.int v)] [] h
  refine p_run (pc' := 1) [.iload_n 1] mkX8_branch (by decide +kernel) rfl rfl ?_
  refine p_callSv (risBranch_ok w (k := k - 1) (by omega) _ _) ksX8_120 (by decide +kernel) (by omega) rfl rfl rfl rfl rfl ?_
  refine p_if_eq (off := 29) 33 (by decide +kernel) (by decide) (fun c4 => ?_) (fun c4 => ?_)
  · refine p_run (pc' := 35) [.ldc 123] mkX8_branch (by decide +kernel) rfl rfl ?_
    refine p_iret rfl rfl (by decide +kernel) ?_
    exact ⟨rfl, rfl⟩
  · obtain ⟨b, -, hb4, rfl⟩ := inR_of (lo := 0) (hi := 3) (by omega) (by omega) (bI1.mp c4)
    refine p_run (pc' := 11) [.aload_n 0, .iload_n 1, .iload_n 2, .iload_n 3] mkX8_branch (by decide +kernel) rfl rfl ?_
    refine p_callVv (mayBe_ok w (k := k - 1) (by omega) b (by omega) _ _ _) kvX8_149 (by decide +kernel) (by decide) rfl (by omega) rfl rfl rfl rfl rfl ?_
    refine p_if_eq (off := 19) 33 (by decide +kernel) (by decide) (fun c14 => ?_) (fun c14 => ?_)
    · refine p_run (pc' := 35) [.ldc 123] mkX8_branch (by decide +kernel) rfl rfl ?_
      refine p_iret rfl rfl (by decide +kernel) ?_
      exact ⟨rfl, rfl⟩
    · exact absurd ⟨bI1.mp c4, by rw [nN_nI (by omega)]; exact bI1.mp c14⟩ hb
set_option maxRecDepth 20000 in
set_option maxHeartbeats 4000000 in
theorem r_branch (w : Wt) {k : Nat} (hk : 2 ≤ k) (b j : Nat) (hb : b < 4) (hj : j ≤ 2) (v : Int32) (h : Mm) (hm : mbP (h 97) b (nI j) v) : Ok w k MX8_branch [.ref 96, .int (nI b), .int (nI j), .int v] h (fun r h' => r = some (.int (h 97 (8 + 3 * b + j))) ∧ h' = up h 97 (8 + 3 * b + j) v) := by
  show Wp w k MX8_branch _ 0 [some (.ref 96), some (.int (nI b)), some (.int (nI j)), some (.int v)] [] h
  refine p_run (pc' := 1) [.iload_n 1] mkX8_branch (by decide +kernel) rfl rfl ?_
  refine p_callSv (isBranch_t w (k := k - 1) (by omega) _ _ (in_nI (lo := 0) (hi := 3) (by omega) (Nat.le_of_lt_succ hb) (by omega))) ksX8_120 (by decide +kernel) (by omega) rfl rfl rfl rfl rfl ?_
  refine p_if_eq (off := 29) 33 (by decide +kernel) (by decide) (fun c4 => ?_) (fun c4 => ?_)
  · exact False.elim (by revert c4; decide)
  · refine p_run (pc' := 11) [.aload_n 0, .iload_n 1, .iload_n 2, .iload_n 3] mkX8_branch (by decide +kernel) rfl rfl ?_
    refine p_callVv (mayBe_ok w (k := k - 1) (by omega) b hb _ _ _) kvX8_149 (by decide +kernel) (by decide) rfl (by omega) rfl rfl rfl rfl rfl ?_
    rw [bIt hm]
    refine p_if_eq (off := 19) 33 (by decide +kernel) (by decide) (fun c1 => ?_) (fun c1 => ?_)
    · exact False.elim (by revert c1; decide)
    · refine p_run (pc' := 27) [.aload_n 0, .bipush 8, .iconst 3, .iload_n 1, .imul, .iadd, .iload_n 2, .iadd, .iload_n 3] mkX8_branch (by decide +kernel) rfl rfl ?_
      refine Wp.eqS (st' := [.int v, .int (nI (8 + 3 * b + j)), .ref 96]) (by simp only [oI, nI_add, nIm]) ?_
      refine p_callV (swaps_ok w (k := k - 1) (8 + 3 * b + j) (by omega) v h) kvX8_146 (by decide +kernel) (by decide) rfl (by omega) rfl rfl rfl rfl rfl (fun r h' hq => ?_)
      obtain ⟨rfl, rfl⟩ := hq
      refine p_run (pc' := 35) [.goto 5] mkX8_branch (by decide +kernel) rfl rfl ?_
      refine p_iret rfl rfl (by decide +kernel) ?_
      exact ⟨rfl, rfl⟩
set_option maxRecDepth 20000 in
set_option maxHeartbeats 4000000 in
theorem allDigs_loop (w : Wt) {k : Nat} (hk : 4 ≤ k) (b : Nat) (h : Mm) (hI : Iv (h 97)) (hT : Tq (h 97)) : ∀ (m i : Nat), i + m = nd (h 97) → ∀ hh : Mm, Ag [107, 108] h hh → Wp w k MX8_allDigs (Rs [107, 108] (sumF (fun i => if litB (h 97) b i = true then dgF (h 97) i else nI 0) (nd (h 97))) h) 11 [some (.ref 96), some (.int (nI b)), some (.int (nI (setF (litB (h 97) b) (nd (h 97))))), some (.int (sumF (fun i => if litB (h 97) b i = true then dgF (h 97) i else nI 0) i)), some (.int (nI i))] [] hh := by
  obtain ⟨en, hn10⟩ := hI.nd
  intro m
  induction m with
  | zero =>
    intro i hi hh hA
    have e := hA 97 (by decide)
    have hi : i = nd (h 97) := by omega
    refine p_run (pc' := 18) [.iload 4, .aload_n 0, .getfield 9, .iconst 1] mkX8_allDigs (by decide +kernel) rfl rfl ?_
    refine p_iald (1) (by decide +kernel) rfl rfl (by simp only [oI]) (by omega) ?_
    rw [e, en, hi]
    refine p_icmp_ge (off := 32) 51 (by decide +kernel) (by decide) (fun c1 => ?_) (fun c1 => ?_)
    · refine p_run (pc' := 52) [.iload_n 3] mkX8_allDigs (by decide +kernel) rfl rfl ?_
      refine p_iret rfl rfl (by decide +kernel) ?_
      exact ⟨rfl, hA⟩
    · exact absurd (nI_le (Nat.le_refl _) (by omega)) c1
  | succ m ih =>
    intro i hi hh hA
    have e := hA 97 (by decide)
    refine p_run (pc' := 18) [.iload 4, .aload_n 0, .getfield 9, .iconst 1] mkX8_allDigs (by decide +kernel) rfl rfl ?_
    refine p_iald (1) (by decide +kernel) rfl rfl (by simp only [oI]) (by omega) ?_
    rw [e, en]
    refine p_icmp_ge (off := 32) 51 (by decide +kernel) (by decide) (fun c1 => ?_) (fun c1 => ?_)
    · exact absurd c1 (nI_ge (by omega) (by omega))
    · refine p_run (pc' := 30) [.iload_n 3, .iload_n 2, .iload 4, .ishr, .iconst 1, .iand, .iconst 1] mkX8_allDigs (by decide +kernel) rfl rfl ?_
      rw [oI, shr_bit i (by omega) _ (setF_1024 _ hn10), setF_div]
      refine p_icmp_ne (off := 12) 42 (by decide +kernel) (by decide) (fun c2 => ?_) (fun c2 => ?_)
      · have hp : ¬ litB (h 97) b i = true := fun q => c2 (iteN.mpr ⟨by omega, q⟩)
        refine p_run (pc' := 11) [.iconst 0, .iadd, .istore_n 3, .iinc 4 1, .goto (-37)] mkX8_allDigs (by decide +kernel) rfl rfl ?_
        refine Wp.eqL ?_ (ih (i + 1) (by omega) _ hA)
        rw [sumF, if_neg hp]
        rw [show nI i + Int32.ofInt 1 = nI (i + 1) by simp only [oI, nI_add]]
        rfl
      · have hp : litB (h 97) b i = true := (iteN.mp c2).2
        refine p_run (pc' := 36) [.aload_n 0, .iload 4] mkX8_allDigs (by decide +kernel) rfl rfl ?_
        refine p_callVi (digsOf_ok w (k := k - 1) (by omega) i (by omega) hh (by rw [e]; exact hI) (by rw [e]; exact hT)) (fun _ _ q => q.1) kvX8_132 (by decide +kernel) (by decide) rfl (by omega) rfl rfl rfl rfl rfl (fun h' hq => ?_)
        obtain ⟨-, hA2⟩ := hq
        refine p_run (pc' := 11) [.goto 4, .iadd, .istore_n 3, .iinc 4 1, .goto (-37)] mkX8_allDigs (by decide +kernel) rfl rfl ?_
        refine Wp.eqL ?_ (ih (i + 1) (by omega) _ (hA.tr hA2))
        rw [sumF, if_pos hp, e]
        rw [show nI i + Int32.ofInt 1 = nI (i + 1) by simp only [oI, nI_add]]
set_option maxRecDepth 20000 in
set_option maxHeartbeats 4000000 in
theorem allDigs_ok (w : Wt) {k : Nat} (hk : 4 ≤ k) (b : Nat) (h : Mm) (hI : Iv (h 97)) (hT : Tq (h 97)) : Ok w k MX8_allDigs [.ref 96, .int (nI b)] h (Rs [107, 108] (sumF (fun i => if litB (h 97) b i = true then dgF (h 97) i else nI 0) (nd (h 97))) h) := by
  show Wp w k MX8_allDigs _ 0 [some (.ref 96), some (.int (nI b)), none, none, none] [] h
  obtain ⟨en, hn10⟩ := hI.nd
  refine p_run (pc' := 2) [.aload_n 0, .iload_n 1] mkX8_allDigs (by decide +kernel) rfl rfl ?_
  refine p_callVv (rlitIn_ok w (k := k - 1) (by omega) b (nd (h 97)) h en hn10) kvX8_93 (by decide +kernel) (by decide) rfl (by omega) rfl rfl rfl rfl rfl ?_
  refine p_run (pc' := 11) [.istore_n 2, .iconst 0, .istore_n 3, .iconst 0, .istore 4] mkX8_allDigs (by decide +kernel) rfl rfl ?_
  exact allDigs_loop w hk b h hI hT (nd (h 97)) 0 (by omega) h Ag.rf
set_option maxRecDepth 20000 in
set_option maxHeartbeats 4000000 in
theorem r_branchOf_bad (w : Wt) {k : Nat} (hk : 2 ≤ k) (a b : Int32) (h : Mm)  (hb : ¬ (inR a 0 3 ∧ inR b 0 5)) : Ok w k MX8_branchOf [.ref 96, .int a, .int b] h (Rv BADv h) := by
  show Wp w k MX8_branchOf _ 0 [some (.ref 96), some (.int a), some (.int b)] [] h
  refine p_run (pc' := 1) [.iload_n 1] mkX8_branchOf (by decide +kernel) rfl rfl ?_
  refine p_callSv (risBranch_ok w (k := k - 1) (by omega) _ _) ksX8_120 (by decide +kernel) (by omega) rfl rfl rfl rfl rfl ?_
  refine p_if_eq (off := 12) 16 (by decide +kernel) (by decide) (fun c4 => ?_) (fun c4 => ?_)
  · refine p_run (pc' := 18) [.ldc 123] mkX8_branchOf (by decide +kernel) rfl rfl ?_
    refine p_iret rfl rfl (by decide +kernel) ?_
    exact ⟨rfl, rfl⟩
  · refine p_run (pc' := 10) [.iload_n 2, .iconst 0, .iconst 5] mkX8_branchOf (by decide +kernel) rfl rfl ?_
    refine p_callSv (in_ok w (k := k - 1) _ _ _ _) ksX8_75 (by decide +kernel) (by omega) rfl rfl rfl rfl rfl ?_
    refine p_if_ne (off := 6) 19 (by decide +kernel) (by decide) (fun c13 => ?_) (fun c13 => ?_)
    · exact absurd (⟨bI1.mp c4, bI1.mp c13⟩) hb
    · refine p_run (pc' := 18) [.ldc 123] mkX8_branchOf (by decide +kernel) rfl rfl ?_
      refine p_iret rfl rfl (by decide +kernel) ?_
      exact ⟨rfl, rfl⟩
noncomputable def boF (N : Vc) (b j : Nat) : Int32 := if j < 3 then N (8 + 3 * b + j) else if j = 3 then ahF N b else if j = 4 then nI (setF (inB N b) (nd N)) else sumF (fun i => if litB N b i = true then dgF N i else nI 0) (nd N)
set_option maxRecDepth 20000 in
set_option maxHeartbeats 4000000 in
theorem r_branchOf (w : Wt) {k : Nat} (hk : 5 ≤ k) (b j : Nat) (hb : b < 4) (hj : j ≤ 5) (h : Mm) (hI : Iv (h 97)) (hT : Tq (h 97)) : Ok w k MX8_branchOf [.ref 96, .int (nI b), .int (nI j)] h (Rs [107, 108] (boF (h 97) b j) h) := by
  show Wp w k MX8_branchOf _ 0 [some (.ref 96), some (.int (nI b)), some (.int (nI j))] [] h
  obtain ⟨en, hn10⟩ := hI.nd
  refine p_run (pc' := 1) [.iload_n 1] mkX8_branchOf (by decide +kernel) rfl rfl ?_
  refine p_callSv (isBranch_t w (k := k - 1) (by omega) _ _ (in_nI (lo := 0) (hi := 3) (by omega) (Nat.le_of_lt_succ hb) (by omega))) ksX8_120 (by decide +kernel) (by omega) rfl rfl rfl rfl rfl ?_
  refine p_if_eq (off := 12) 16 (by decide +kernel) (by decide) (fun c4 => ?_) (fun c4 => ?_)
  · exact False.elim (by revert c4; decide)
  · refine p_run (pc' := 10) [.iload_n 2, .iconst 0, .iconst 5] mkX8_branchOf (by decide +kernel) rfl rfl ?_
    refine p_callSv (in_t w (k := k - 1) _ _ _ _ (in_nI (lo := 0) (hi := 5) (by omega) hj (by omega))) ksX8_75 (by decide +kernel) (by omega) rfl rfl rfl rfl rfl ?_
    refine p_if_ne (off := 6) 19 (by decide +kernel) (by decide) (fun c13 => ?_) (fun c13 => ?_)
    · refine p_run (pc' := 21) [.iload_n 2, .iconst 3] mkX8_branchOf (by decide +kernel) rfl rfl ?_
      refine p_icmp_ge (off := 10) 31 (by decide +kernel) (by decide) (fun c21 => ?_) (fun c21 => ?_)
      · (try simp only [oI] at c21)
        rw [nI_leI (by omega) (by omega)] at c21
        refine p_run (pc' := 33) [.iload_n 2, .iconst 3] mkX8_branchOf (by decide +kernel) rfl rfl ?_
        refine p_icmp_ne (off := 11) 44 (by decide +kernel) (by decide) (fun c33 => ?_) (fun c33 => ?_)
        · (try simp only [oI] at c33)
          rw [nI_eq (by omega) (by omega)] at c33
          refine p_run (pc' := 46) [.iload_n 2, .iconst 4] mkX8_branchOf (by decide +kernel) rfl rfl ?_
          refine p_icmp_ne (off := 11) 57 (by decide +kernel) (by decide) (fun c46 => ?_) (fun c46 => ?_)
          · (try simp only [oI] at c46)
            rw [nI_eq (by omega) (by omega)] at c46
            refine p_run (pc' := 59) [.aload_n 0, .iload_n 1] mkX8_branchOf (by decide +kernel) rfl rfl ?_
            refine p_callVi (allDigs_ok w (k := k - 1) (by omega) b h hI hT) (fun _ _ q => q.1) kvX8_155 (by decide +kernel) (by decide) rfl (by omega) rfl rfl rfl rfl rfl (fun h' hq => ?_)
            obtain ⟨-, hA⟩ := hq
            refine p_iret rfl rfl (by decide +kernel) ?_
            exact ⟨congrArg (fun x => some (Value.int x)) (by unfold boF; (repeat' split) <;> first | rfl | omega), by first | exact hA | exact Ag.rf⟩
          · (try simp only [oI] at c46)
            rw [nI_eq (by omega) (by omega)] at c46
            refine p_run (pc' := 51) [.aload_n 0, .iload_n 1] mkX8_branchOf (by decide +kernel) rfl rfl ?_
            refine p_callVv (rdiggersIn_ok w (k := k - 1) (by omega) b (nd (h 97)) h en hn10) kvX8_152 (by decide +kernel) (by decide) rfl (by omega) rfl rfl rfl rfl rfl ?_
            refine p_run (pc' := 62) [.goto 8] mkX8_branchOf (by decide +kernel) rfl rfl ?_
            refine p_iret rfl rfl (by decide +kernel) ?_
            exact ⟨congrArg (fun x => some (Value.int x)) (by unfold boF; (repeat' split) <;> first | rfl | omega), by first | exact hA | exact Ag.rf⟩
        · (try simp only [oI] at c33)
          rw [nI_eq (by omega) (by omega)] at c33
          refine p_run (pc' := 38) [.aload_n 0, .iload_n 1] mkX8_branchOf (by decide +kernel) rfl rfl ?_
          refine p_callVv (rahead_ok w (k := k - 1) (by omega) b hb _) kvX8_90 (by decide +kernel) (by decide) rfl (by omega) rfl rfl rfl rfl rfl ?_
          refine p_run (pc' := 62) [.goto 21] mkX8_branchOf (by decide +kernel) rfl rfl ?_
          refine p_iret rfl rfl (by decide +kernel) ?_
          exact ⟨congrArg (fun x => some (Value.int x)) (by unfold boF; (repeat' split) <;> first | rfl | omega), by first | exact hA | exact Ag.rf⟩
      · (try simp only [oI] at c21)
        rw [nI_leI (by omega) (by omega)] at c21
        refine p_run (pc' := 27) [.aload_n 0, .iload_n 1, .iload_n 2] mkX8_branchOf (by decide +kernel) rfl rfl ?_
        refine p_callVv (at_ok w (k := k - 1) (b) (j) _ (by omega)) kvX8_79 (by decide +kernel) (by decide) rfl (by omega) rfl rfl rfl rfl rfl ?_
        refine p_iret rfl rfl (by decide +kernel) ?_
        exact ⟨congrArg (fun x => some (Value.int x)) (by unfold boF; (repeat' split) <;> first | rfl | omega), by first | exact hA | exact Ag.rf⟩
    · exact False.elim (by revert c13; decide)
def rlP (a v : Int32) : Prop := (a = nI 0 ∧ inR v 0 99) ∨ (a = nI 1 ∧ inR v 0 100)
set_option maxRecDepth 20000 in
set_option maxHeartbeats 4000000 in
theorem r_rule_bad (w : Wt) {k : Nat} (hk : 2 ≤ k) (a v : Int32) (h : Mm) (hb : ¬ rlP a v) : Ok w k MX8_rule [.ref 96, .int a, .int v] h (Rv BADv h) := by
  show Wp w k MX8_rule _ 0 [some (.ref 96), some (.int a), some (.int v)] [] h
  refine p_run (pc' := 3) [.iload_n 1, .iconst 0, .iconst 1] mkX8_rule (by decide +kernel) rfl rfl ?_
  refine p_callSv (in_ok w (k := k - 1) _ _ _ _) ksX8_75 (by decide +kernel) (by omega) rfl rfl rfl rfl rfl ?_
  refine p_if_eq (off := 33) 39 (by decide +kernel) (by decide) (fun c6 => ?_) (fun c6 => ?_)
  · refine p_run (pc' := 41) [.ldc 123] mkX8_rule (by decide +kernel) rfl rfl ?_
    refine p_iret rfl rfl (by decide +kernel) ?_
    exact ⟨rfl, rfl⟩
  · refine p_run (pc' := 12) [.iload_n 2, .iconst 0, .iload_n 1] mkX8_rule (by decide +kernel) rfl rfl ?_
    refine p_if_ne (off := 8) 20 (by decide +kernel) (by decide) (fun c12 => ?_) (fun c12 => ?_)
    · refine p_run (pc' := 22) [.bipush 100] mkX8_rule (by decide +kernel) rfl rfl ?_
      refine p_callSv (in_ok w (k := k - 1) _ _ _ _) ksX8_75 (by decide +kernel) (by omega) rfl rfl rfl rfl rfl ?_
      refine p_if_eq (off := 14) 39 (by decide +kernel) (by decide) (fun c25 => ?_) (fun c25 => ?_)
      · refine p_run (pc' := 41) [.ldc 123] mkX8_rule (by decide +kernel) rfl rfl ?_
        refine p_iret rfl rfl (by decide +kernel) ?_
        exact ⟨rfl, rfl⟩
      · exact absurd (by first | exact Or.inl ⟨c12, bI1.mp c25⟩ | (refine Or.inr ⟨?_, bI1.mp c25⟩; obtain ⟨j, -, hj, rfl⟩ := inR_of (lo := 0) (hi := 1) (by omega) (by omega) (bI1.mp c6); rw [nI_eq0 (by omega)] at c12; exact congrArg nI (by omega))) hb
    · refine p_run (pc' := 22) [.bipush 99, .goto 5] mkX8_rule (by decide +kernel) rfl rfl ?_
      refine p_callSv (in_ok w (k := k - 1) _ _ _ _) ksX8_75 (by decide +kernel) (by omega) rfl rfl rfl rfl rfl ?_
      refine p_if_eq (off := 14) 39 (by decide +kernel) (by decide) (fun c25 => ?_) (fun c25 => ?_)
      · refine p_run (pc' := 41) [.ldc 123] mkX8_rule (by decide +kernel) rfl rfl ?_
        refine p_iret rfl rfl (by decide +kernel) ?_
        exact ⟨rfl, rfl⟩
      · exact absurd (by first | exact Or.inl ⟨c12, bI1.mp c25⟩ | (refine Or.inr ⟨?_, bI1.mp c25⟩; obtain ⟨j, -, hj, rfl⟩ := inR_of (lo := 0) (hi := 1) (by omega) (by omega) (bI1.mp c6); rw [nI_eq0 (by omega)] at c12; exact congrArg nI (by omega))) hb
set_option maxRecDepth 20000 in
set_option maxHeartbeats 4000000 in
theorem r_rule0 (w : Wt) {k : Nat} (hk : 2 ≤ k) (v : Int32) (h : Mm) (hv : inR v 0 99) : Ok w k MX8_rule [.ref 96, .int (nI 0), .int v] h (fun r h' => r = some (.int (h 97 3)) ∧ h' = up h 97 3 v) := by
  show Wp w k MX8_rule _ 0 [some (.ref 96), some (.int (nI 0)), some (.int v)] [] h
  refine p_run (pc' := 3) [.iload_n 1, .iconst 0, .iconst 1] mkX8_rule (by decide +kernel) rfl rfl ?_
  refine p_callSv (in_t w (k := k - 1) _ _ _ _ (in_nI (j := 0) (lo := 0) (hi := 1) (by omega) (by omega) (by omega))) ksX8_75 (by decide +kernel) (by omega) rfl rfl rfl rfl rfl ?_
  refine p_if_eq (off := 33) 39 (by decide +kernel) (by decide) (fun c6 => ?_) (fun c6 => ?_)
  · exact False.elim (by revert c6; decide)
  · refine p_run (pc' := 12) [.iload_n 2, .iconst 0, .iload_n 1] mkX8_rule (by decide +kernel) rfl rfl ?_
    refine p_if_ne (off := 8) 20 (by decide +kernel) (by decide) (fun c12 => ?_) (fun c12 => ?_)
    · exact False.elim (by revert c12; decide)
    · refine p_run (pc' := 22) [.bipush 99, .goto 5] mkX8_rule (by decide +kernel) rfl rfl ?_
      refine p_callSv (in_t w (k := k - 1) _ _ _ _ (hv)) ksX8_75 (by decide +kernel) (by omega) rfl rfl rfl rfl rfl ?_
      refine p_if_eq (off := 14) 39 (by decide +kernel) (by decide) (fun c25 => ?_) (fun c25 => ?_)
      · exact False.elim (by revert c25; decide)
      · refine p_run (pc' := 33) [.aload_n 0, .iconst 3, .iload_n 1, .iadd, .iload_n 2] mkX8_rule (by decide +kernel) rfl rfl ?_
        refine Wp.eqS (st' := [.int v, .int (nI 3), .ref 96]) rfl ?_
        refine p_callV (swaps_ok w (k := k - 1) 3 (by omega) v h) kvX8_146 (by decide +kernel) (by decide) rfl (by omega) rfl rfl rfl rfl rfl (fun r h' hq => ?_)
        obtain ⟨rfl, rfl⟩ := hq
        refine p_run (pc' := 41) [.goto 5] mkX8_rule (by decide +kernel) rfl rfl ?_
        refine p_iret rfl rfl (by decide +kernel) ?_
        exact ⟨rfl, rfl⟩
set_option maxRecDepth 20000 in
set_option maxHeartbeats 4000000 in
theorem r_rule1 (w : Wt) {k : Nat} (hk : 2 ≤ k) (v : Int32) (h : Mm) (hv : inR v 0 100) : Ok w k MX8_rule [.ref 96, .int (nI 1), .int v] h (fun r h' => r = some (.int (h 97 4)) ∧ h' = up h 97 4 v) := by
  show Wp w k MX8_rule _ 0 [some (.ref 96), some (.int (nI 1)), some (.int v)] [] h
  refine p_run (pc' := 3) [.iload_n 1, .iconst 0, .iconst 1] mkX8_rule (by decide +kernel) rfl rfl ?_
  refine p_callSv (in_t w (k := k - 1) _ _ _ _ (in_nI (j := 1) (lo := 0) (hi := 1) (by omega) (by omega) (by omega))) ksX8_75 (by decide +kernel) (by omega) rfl rfl rfl rfl rfl ?_
  refine p_if_eq (off := 33) 39 (by decide +kernel) (by decide) (fun c6 => ?_) (fun c6 => ?_)
  · exact False.elim (by revert c6; decide)
  · refine p_run (pc' := 12) [.iload_n 2, .iconst 0, .iload_n 1] mkX8_rule (by decide +kernel) rfl rfl ?_
    refine p_if_ne (off := 8) 20 (by decide +kernel) (by decide) (fun c12 => ?_) (fun c12 => ?_)
    · refine p_run (pc' := 22) [.bipush 100] mkX8_rule (by decide +kernel) rfl rfl ?_
      refine p_callSv (in_t w (k := k - 1) _ _ _ _ (hv)) ksX8_75 (by decide +kernel) (by omega) rfl rfl rfl rfl rfl ?_
      refine p_if_eq (off := 14) 39 (by decide +kernel) (by decide) (fun c25 => ?_) (fun c25 => ?_)
      · exact False.elim (by revert c25; decide)
      · refine p_run (pc' := 33) [.aload_n 0, .iconst 3, .iload_n 1, .iadd, .iload_n 2] mkX8_rule (by decide +kernel) rfl rfl ?_
        refine Wp.eqS (st' := [.int v, .int (nI 4), .ref 96]) rfl ?_
        refine p_callV (swaps_ok w (k := k - 1) 4 (by omega) v h) kvX8_146 (by decide +kernel) (by decide) rfl (by omega) rfl rfl rfl rfl rfl (fun r h' hq => ?_)
        obtain ⟨rfl, rfl⟩ := hq
        refine p_run (pc' := 41) [.goto 5] mkX8_rule (by decide +kernel) rfl rfl ?_
        refine p_iret rfl rfl (by decide +kernel) ?_
        exact ⟨rfl, rfl⟩
    · exact False.elim (by revert c12; decide)
def dlF (N : Vc) : Vc := addF (drF (drF (drF (drF N)))) (nI (dvN (zF (N 0)) % 6)) (nI (dvN (zF (zF (N 0))) % 40 + 10)) (nI (dvN (zF (zF (zF (N 0)))) % 60 + 5)) (nI (dvN (zF (zF (zF (zF (N 0))))) % 4))
def dlI (N : Vc) : Nat → Vc
  | 0 => N
  | n + 1 => dlF (dlI N n)
theorem nd_dr (N : Vc) : nd (drF N) = nd N := nd_upd (by omega)
theorem addF_Iv {N : Vc} (hI : Iv N) (hn : nd N < 10) {a b c e : Int32} (ha : In a 5) (hb : In b 99) (hc : In c 99) (he : In e 3) : Iv (addF N a b c e) := by
  have h1 : Iv (upd (upd (upd (upd (upd N (20 + 5 * nd N + 0) a) (20 + 5 * nd N + 1) b) (20 + 5 * nd N + 2) c) (20 + 5 * nd N + 3) e) (20 + 5 * nd N + 4) (nI 0)) :=
    ((((hI.dk (j := 0) hn (by omega) ha).dk (j := 1) hn (by omega) hb).dk (j := 2) hn (by omega) hc).dk (j := 3) hn (by omega) he).dk (j := 4) hn (by omega) (In_nI (Nat.zero_le _) (by decide))
  have e1 : addF N a b c e = upd (upd (upd (upd (upd (upd N (20 + 5 * nd N + 0) a) (20 + 5 * nd N + 1) b) (20 + 5 * nd N + 2) c) (20 + 5 * nd N + 3) e) (20 + 5 * nd N + 4) (nI 0)) 1 (N 1 + nI 1) := by
    funext j
    unfold addF
    by_cases q : j = 1
    · subst q
      rw [upd_s, upd_n (by omega), upd_n (by omega), upd_n (by omega), upd_n (by omega), upd_n (by omega), upd_s]
    · rw [upd_n q]
      simp only [upd, q, if_false]
  obtain ⟨a1, a2, a3, a4, a5, a6, a7⟩ := h1
  rw [e1]
  generalize upd (upd (upd (upd (upd N (20 + 5 * nd N + 0) a) (20 + 5 * nd N + 1) b) (20 + 5 * nd N + 2) c) (20 + 5 * nd N + 3) e) (20 + 5 * nd N + 4) (nI 0) = M at *
  have en := hI.nd.1
  refine ⟨?_, by rw [upd_n (by omega)]; exact a2, by rw [upd_n (by omega)]; exact a3, by rw [upd_n (by omega)]; exact a4, fun b hb => ?_, fun d hd => ?_, fun t ht => ?_⟩
  · rw [upd_s, en, nI_add]
    exact In_nI (by omega) (by omega)
  · have e : ∀ i, i < 3 → bK (upd M 1 (N 1 + nI 1)) b i = bK M b i := fun i hi => upd_n (by omega)
    rw [e 0 (by omega), e 1 (by omega), e 2 (by omega)]
    exact a5 b hb
  · have e : ∀ i, i < 5 → dK (upd M 1 (N 1 + nI 1)) d i = dK M d i := fun i hi => upd_n (by omega)
    rw [e 0 (by omega), e 1 (by omega), e 2 (by omega), e 3 (by omega), e 4 (by omega)]
    exact a6 d hd
  · rw [upd_n (by omega)] at ht
    have := a7 t ht
    unfold TX at this ⊢
    rw [upd_n (by omega)]
    have e2 : (fun i => upd M 1 (N 1 + nI 1) (98 + 96 * t + i)) = fun i => M (98 + 96 * t + i) := by funext i; exact upd_n (by omega)
    rw [e2]
    exact this
theorem addF_nd {N : Vc} (hI : Iv N) (a b c e : Int32) : nd (addF N a b c e) = nd N + 1 := by
  have en := hI.nd
  unfold nd
  show nN (addF N a b c e 1) = nN (N 1) + 1
  unfold addF
  rw [upd_n (by omega), upd_n (by omega), upd_n (by omega), upd_n (by omega), upd_n (by omega), upd_s, en.1, nI_add, nN_nI (by omega), nN_nI (by omega)]
theorem addF_out {N : Vc} {j : Nat} {a b c e : Int32} (hn : nd N < 10) (hj : j = 0 ∨ (2 ≤ j ∧ j < 20) ∨ 70 ≤ j) : addF N a b c e j = N j := by
  unfold addF
  rw [upd_n (by omega), upd_n (by omega), upd_n (by omega), upd_n (by omega), upd_n (by omega), upd_n (by omega)]
theorem dr4_Iv {N : Vc} (hI : Iv N) : Iv (drF (drF (drF (drF N)))) := drF_Iv (drF_Iv (drF_Iv (drF_Iv hI)))
theorem dr4_nd (N : Vc) : nd (drF (drF (drF (drF N)))) = nd N := by rw [nd_dr, nd_dr, nd_dr, nd_dr]
theorem dlF_Iv {N : Vc} (hI : Iv N) (hn : nd N < 10) : Iv (dlF N) :=
  addF_Iv (dr4_Iv hI) (by rw [dr4_nd]; exact hn) (In_nI (by omega) (by omega)) (In_nI (by omega) (by omega)) (In_nI (by omega) (by omega)) (In_nI (by omega) (by omega))
theorem dlF_nd {N : Vc} (hI : Iv N) : nd (dlF N) = nd N + 1 := by
  unfold dlF
  rw [addF_nd (dr4_Iv hI), dr4_nd]
theorem dlI_ok {N : Vc} (hI : Iv N) : ∀ n, nd N + n ≤ 10 → Iv (dlI N n) ∧ nd (dlI N n) = nd N + n
  | 0, _ => ⟨hI, rfl⟩
  | n + 1, h => by
    obtain ⟨h1, h2⟩ := dlI_ok hI n (by omega)
    rw [dlI]
    exact ⟨dlF_Iv h1 (by omega), by rw [dlF_nd h1, h2]; omega⟩
set_option maxRecDepth 20000 in
set_option maxHeartbeats 4000000 in
theorem r_deal_bad (w : Wt) {k : Nat} (hk : 2 ≤ k) (a : Int32) (h : Mm)  (hb : ¬ (inR a 1 10)) : Ok w k MX8_deal [.ref 96, .int a] h (Rv BADv h) := by
  show Wp w k MX8_deal _ 0 [some (.ref 96), some (.int a), none, none, none, none, none] [] h
  refine p_run (pc' := 4) [.iload_n 1, .iconst 1, .bipush 10] mkX8_deal (by decide +kernel) rfl rfl ?_
  refine p_callSv (in_ok w (k := k - 1) _ _ _ _) ksX8_75 (by decide +kernel) (by omega) rfl rfl rfl rfl rfl ?_
  refine p_if_ne (off := 6) 13 (by decide +kernel) (by decide) (fun c7 => ?_) (fun c7 => ?_)
  · exact absurd (bI1.mp c7) hb
  · refine p_run (pc' := 12) [.ldc 123] mkX8_deal (by decide +kernel) rfl rfl ?_
    refine p_iret rfl rfl (by decide +kernel) ?_
    exact ⟨rfl, rfl⟩
set_option maxRecDepth 20000 in
set_option maxHeartbeats 4000000 in
theorem deal_loop (w : Wt) {k : Nat} (hk : 2 ≤ k) (n : Nat) (hn : 1 ≤ n ∧ n ≤ 10) (h : Mm) (hI : Iv (h 97)) : ∀ (m i : Nat), i + m = min n (10 - nd (h 97)) → ∀ (hh : Mm) (x3 x4 x5 x6 : Option Value), hh 97 = dlI (h 97) i → Ag [97] h hh → Wp w k MX8_deal (fun r h' => r = some (.int (nI (min n (10 - nd (h 97))))) ∧ h' 97 = dlI (h 97) (min n (10 - nd (h 97))) ∧ Ag [97] h h') 15 [some (.ref 96), some (.int (nI n)), some (.int (nI i)), x3, x4, x5, x6] [] hh := by
  have hn10 := hI.nd.2
  intro m
  induction m with
  | zero =>
    intro i hi hh x3 x4 x5 x6 e hA
    have hi : i = min n (10 - nd (h 97)) := by omega
    obtain ⟨hI2, hn2⟩ := dlI_ok hI i (by omega)
    refine p_run (pc' := 17) [.iload_n 2, .iload_n 1] mkX8_deal (by decide +kernel) rfl rfl ?_
    refine p_icmp_ge (off := 68) 85 (by decide +kernel) (by decide) (fun c1 => ?_) (fun c1 => ?_)
    · refine p_run (pc' := 86) [.iload_n 2] mkX8_deal (by decide +kernel) rfl rfl ?_
      refine p_iret rfl rfl (by decide +kernel) ?_
      exact ⟨by rw [← hi], by rw [← hi]; exact e, hA⟩
    · have hlt : i < n := Nat.not_le.mp (fun q => c1 (nI_le q (by omega)))
      refine p_run (pc' := 25) [.aload_n 0, .getfield 9, .iconst 1] mkX8_deal (by decide +kernel) rfl rfl ?_
      refine p_iald (1) (by decide +kernel) rfl rfl (by simp only [oI]) (by omega) ?_
      rw [e, hI2.nd.1, hn2]
      refine p_run (pc' := 28) [.bipush 10] mkX8_deal (by decide +kernel) rfl rfl ?_
      refine p_icmp_ge (off := 57) 85 (by decide +kernel) (by decide) (fun c2 => ?_) (fun c2 => ?_)
      · refine p_run (pc' := 86) [.iload_n 2] mkX8_deal (by decide +kernel) rfl rfl ?_
        refine p_iret rfl rfl (by decide +kernel) ?_
        exact ⟨by rw [← hi], by rw [← hi]; exact e, hA⟩
      · exact absurd (by rw [oI]; exact nI_le (by omega) (by omega)) c2
  | succ m ih =>
    intro i hi hh x3 x4 x5 x6 e hA
    obtain ⟨hI2, hn2⟩ := dlI_ok hI i (by omega)
    refine p_run (pc' := 17) [.iload_n 2, .iload_n 1] mkX8_deal (by decide +kernel) rfl rfl ?_
    refine p_icmp_ge (off := 68) 85 (by decide +kernel) (by decide) (fun c1 => ?_) (fun c1 => ?_)
    · exact absurd c1 (nI_ge (by omega) (by omega))
    · refine p_run (pc' := 25) [.aload_n 0, .getfield 9, .iconst 1] mkX8_deal (by decide +kernel) rfl rfl ?_
      refine p_iald (1) (by decide +kernel) rfl rfl (by simp only [oI]) (by omega) ?_
      rw [e, hI2.nd.1, hn2]
      refine p_run (pc' := 28) [.bipush 10] mkX8_deal (by decide +kernel) rfl rfl ?_
      refine p_icmp_ge (off := 57) 85 (by decide +kernel) (by decide) (fun c2 => ?_) (fun c2 => ?_)
      · exact absurd c2 (by rw [oI]; exact nI_ge (by omega) (by omega))
      · generalize eN : dlI (h 97) i = N at *
        have hd1 := dvN_lt (zF (N 0))
        have hd2 := dvN_lt (zF (zF (N 0)))
        have hd3 := dvN_lt (zF (zF (zF (N 0))))
        have hd4 := dvN_lt (zF (zF (zF (zF (N 0)))))
        refine p_run (pc' := 32) [.aload_n 0] mkX8_deal (by decide +kernel) rfl rfl ?_
        refine p_callVv (draw_ok w (k := k - 1) _) kvX8_159 (by decide +kernel) (by decide) rfl (by omega) rfl rfl rfl rfl rfl ?_
        simp only [upS, e, upd_s]
        refine p_run (pc' := 37) [.bipush 6] mkX8_deal (by decide +kernel) rfl rfl ?_
        refine p_irem (by decide +kernel) (by decide) ?_
        simp only [oI]
        rw [jrem_nI (by omega) (by omega) (by omega)]
        refine p_run (pc' := 40) [.istore_n 3, .aload_n 0] mkX8_deal (by decide +kernel) rfl rfl ?_
        refine p_callVv (draw_ok w (k := k - 1) _) kvX8_159 (by decide +kernel) (by decide) rfl (by omega) rfl rfl rfl rfl rfl ?_
        simp only [upS, e, upd_s]
        refine p_run (pc' := 45) [.bipush 40] mkX8_deal (by decide +kernel) rfl rfl ?_
        refine p_irem (by decide +kernel) (by decide) ?_
        simp only [oI]
        rw [jrem_nI (by omega) (by omega) (by omega)]
        refine p_run (pc' := 52) [.bipush 10, .iadd, .istore 4, .aload_n 0] mkX8_deal (by decide +kernel) rfl rfl ?_
        refine p_callVv (draw_ok w (k := k - 1) _) kvX8_159 (by decide +kernel) (by decide) rfl (by omega) rfl rfl rfl rfl rfl ?_
        simp only [upS, e, upd_s]
        refine p_run (pc' := 57) [.bipush 60] mkX8_deal (by decide +kernel) rfl rfl ?_
        refine p_irem (by decide +kernel) (by decide) ?_
        simp only [oI]
        rw [jrem_nI (by omega) (by omega) (by omega)]
        refine p_run (pc' := 69) [.iconst 5, .iadd, .istore 5, .aload_n 0, .iload_n 3, .iload 4, .iload 5, .aload_n 0] mkX8_deal (by decide +kernel) rfl rfl ?_
        refine p_callVv (draw_ok w (k := k - 1) _) kvX8_159 (by decide +kernel) (by decide) rfl (by omega) rfl rfl rfl rfl rfl ?_
        simp only [upS, e, upd_s]
        refine p_run (pc' := 73) [.iconst 4] mkX8_deal (by decide +kernel) rfl rfl ?_
        refine p_irem (by decide +kernel) (by decide) ?_
        simp only [oI]
        rw [jrem_nI (by omega) (by omega) (by omega)]
        simp only [nI_add]
        generalize e5 : up (up (up (up hh 97 0 _) 97 0 _) 97 0 _) 97 0 _ = h5
        have e97 : h5 97 = drF (drF (drF (drF N))) := by rw [← e5]; simp only [upS, e, drF, upd_s]
        have hA5 : Ag [97] hh h5 := by rw [← e5]; exact (Ag.up (by decide)).tr ((Ag.up (by decide)).tr ((Ag.up (by decide)).tr (Ag.up (by decide))))
        refine p_callVi (comes_ok w (k := k - 1) (by omega) _ _ _ _ h5 (by rw [e97]; exact dr4_Iv hI2) (by rw [e97, dr4_nd]; omega)) (fun _ _ q => q.1) kvX8_125 (by decide +kernel) (by decide) rfl (by omega) rfl rfl rfl rfl rfl (fun h' hq => ?_)
        obtain ⟨-, e6, hA6⟩ := hq
        refine p_run (pc' := 15) [.istore 6, .iinc 2 1, .goto (-67)] mkX8_deal (by decide +kernel) rfl rfl ?_
        refine Wp.eqL ?_ (ih (i + 1) (by omega) _ (some (.int (nI (dvN (zF (N 0)) % 6)))) (some (.int (nI (dvN (zF (zF (N 0))) % 40 + 10)))) (some (.int (nI (dvN (zF (zF (zF (N 0)))) % 60 + 5)))) (some (.int (nI (nd (h5 97))))) ?_ (hA.tr (hA5.tr hA6)))
        · simp only [oI, nI_add]
        · rw [e6, e97, dlI, eN]; rfl
set_option maxRecDepth 20000 in
set_option maxHeartbeats 4000000 in
theorem r_deal (w : Wt) {k : Nat} (hk : 2 ≤ k) (n : Nat) (hn : 1 ≤ n ∧ n ≤ 10) (h : Mm) (hI : Iv (h 97)) : Ok w k MX8_deal [.ref 96, .int (nI n)] h (fun r h' => r = some (.int (nI (min n (10 - nd (h 97))))) ∧ h' 97 = dlI (h 97) (min n (10 - nd (h 97))) ∧ Ag [97] h h') := by
  show Wp w k MX8_deal _ 0 [some (.ref 96), some (.int (nI n)), none, none, none, none, none] [] h
  refine p_run (pc' := 4) [.iload_n 1, .iconst 1, .bipush 10] mkX8_deal (by decide +kernel) rfl rfl ?_
  refine p_callSv (in_t w (k := k - 1) _ _ _ _ (in_nI (lo := 1) (hi := 10) hn.1 hn.2 (by omega))) ksX8_75 (by decide +kernel) (by omega) rfl rfl rfl rfl rfl ?_
  refine p_if_ne (off := 6) 13 (by decide +kernel) (by decide) (fun c7 => ?_) (fun c7 => ?_)
  · refine p_run (pc' := 15) [.iconst 0, .istore_n 2] mkX8_deal (by decide +kernel) rfl rfl ?_
    exact deal_loop w (by omega) n hn h hI (min n (10 - nd (h 97))) 0 (by omega) h none none none none rfl Ag.rf
  · exact False.elim (by revert c7; decide)
