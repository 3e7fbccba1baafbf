/-! the reference: diggers, branches, rules -/
set_option maxRecDepth 20000 in
set_option maxHeartbeats 4000000 in
theorem r_digger_bad (w : Wt) {k : Nat} (hk : 2 ≤ k) (a b c e : Int32) (h : Mm)  (hb : ¬ (inR a 0 5 ∧ inR b 0 99 ∧ inR c 0 99 ∧ inR e 0 3)) : Ok w k MX8_digger [.ref 96, .int a, .int b, .int c, .int e] h (Rv BADv h) := by
  show Wp w k MX8_digger _ 0 [some (.ref 96), some (.int a), some (.int b), some (.int c), some (.int e)] [] h
  refine p_run (pc' := 3) [.iload_n 1, .iconst 0, .iconst 5] mkX8_digger (by decide +kernel) rfl rfl ?_
  refine p_callSv (in_ok w (k := k - 1) _ _ _ _) ksX8_75 (by decide +kernel) (by omega) rfl rfl rfl rfl rfl ?_
  refine p_if_eq (off := 31) 37 (by decide +kernel) (by decide) (fun c6 => ?_) (fun c6 => ?_)
  · refine p_run (pc' := 39) [.ldc 123] mkX8_digger (by decide +kernel) rfl rfl ?_
    refine p_iret rfl rfl (by decide +kernel) ?_
    exact ⟨rfl, rfl⟩
  · refine p_run (pc' := 13) [.iload_n 2, .iconst 0, .bipush 99] mkX8_digger (by decide +kernel) rfl rfl ?_
    refine p_callSv (in_ok w (k := k - 1) _ _ _ _) ksX8_75 (by decide +kernel) (by omega) rfl rfl rfl rfl rfl ?_
    refine p_if_eq (off := 21) 37 (by decide +kernel) (by decide) (fun c16 => ?_) (fun c16 => ?_)
    · refine p_run (pc' := 39) [.ldc 123] mkX8_digger (by decide +kernel) rfl rfl ?_
      refine p_iret rfl rfl (by decide +kernel) ?_
      exact ⟨rfl, rfl⟩
    · refine p_run (pc' := 23) [.iload_n 3, .iconst 0, .bipush 99] mkX8_digger (by decide +kernel) rfl rfl ?_
      refine p_callSv (in_ok w (k := k - 1) _ _ _ _) ksX8_75 (by decide +kernel) (by omega) rfl rfl rfl rfl rfl ?_
      refine p_if_eq (off := 11) 37 (by decide +kernel) (by decide) (fun c26 => ?_) (fun c26 => ?_)
      · refine p_run (pc' := 39) [.ldc 123] mkX8_digger (by decide +kernel) rfl rfl ?_
        refine p_iret rfl rfl (by decide +kernel) ?_
        exact ⟨rfl, rfl⟩
      · refine p_run (pc' := 31) [.iload 4] mkX8_digger (by decide +kernel) rfl rfl ?_
        refine p_callSv (risBranch_ok w (k := k - 1) (by omega) _ _) ksX8_120 (by decide +kernel) (by omega) rfl rfl rfl rfl rfl ?_
        refine p_if_ne (off := 6) 40 (by decide +kernel) (by decide) (fun c34 => ?_) (fun c34 => ?_)
        · exact absurd (⟨bI1.mp c6, bI1.mp c16, bI1.mp c26, bI1.mp c34⟩) hb
        · refine p_run (pc' := 39) [.ldc 123] mkX8_digger (by decide +kernel) rfl rfl ?_
          refine p_iret rfl rfl (by decide +kernel) ?_
          exact ⟨rfl, rfl⟩
set_option maxRecDepth 20000 in
set_option maxHeartbeats 4000000 in
theorem r_digger_full (w : Wt) {k : Nat} (hk : 2 ≤ k) (a b c e : Int32) (h : Mm) (hI : Iv (h 97)) (hv : inR a 0 5 ∧ inR b 0 99 ∧ inR c 0 99 ∧ inR e 0 3) (hn : nd (h 97) = 10) : Ok w k MX8_digger [.ref 96, .int a, .int b, .int c, .int e] h (Rv FULLv h) := by
  show Wp w k MX8_digger _ 0 [some (.ref 96), some (.int a), some (.int b), some (.int c), some (.int e)] [] h
  obtain ⟨en, hn10⟩ := hI.nd
  refine p_run (pc' := 3) [.iload_n 1, .iconst 0, .iconst 5] mkX8_digger (by decide +kernel) rfl rfl ?_
  refine p_callSv (in_t w (k := k - 1) _ _ _ _ (hv.1)) ksX8_75 (by decide +kernel) (by omega) rfl rfl rfl rfl rfl ?_
  refine p_if_eq (off := 31) 37 (by decide +kernel) (by decide) (fun c6 => ?_) (fun c6 => ?_)
  · exact False.elim (by revert c6; decide)
  · refine p_run (pc' := 13) [.iload_n 2, .iconst 0, .bipush 99] mkX8_digger (by decide +kernel) rfl rfl ?_
    refine p_callSv (in_t w (k := k - 1) _ _ _ _ (hv.2.1)) ksX8_75 (by decide +kernel) (by omega) rfl rfl rfl rfl rfl ?_
    refine p_if_eq (off := 21) 37 (by decide +kernel) (by decide) (fun c16 => ?_) (fun c16 => ?_)
    · exact False.elim (by revert c16; decide)
    · refine p_run (pc' := 23) [.iload_n 3, .iconst 0, .bipush 99] mkX8_digger (by decide +kernel) rfl rfl ?_
      refine p_callSv (in_t w (k := k - 1) _ _ _ _ (hv.2.2.1)) ksX8_75 (by decide +kernel) (by omega) rfl rfl rfl rfl rfl ?_
      refine p_if_eq (off := 11) 37 (by decide +kernel) (by decide) (fun c26 => ?_) (fun c26 => ?_)
      · exact False.elim (by revert c26; decide)
      · refine p_run (pc' := 31) [.iload 4] mkX8_digger (by decide +kernel) rfl rfl ?_
        refine p_callSv (isBranch_t w (k := k - 1) (by omega) _ _ (hv.2.2.2)) ksX8_120 (by decide +kernel) (by omega) rfl rfl rfl rfl rfl ?_
        refine p_if_ne (off := 6) 40 (by decide +kernel) (by decide) (fun c34 => ?_) (fun c34 => ?_)
        · refine p_run (pc' := 45) [.aload_n 0, .getfield 9, .iconst 1] mkX8_digger (by decide +kernel) rfl rfl ?_
          refine p_iald (1) (by decide +kernel) rfl rfl (by simp only [oI]) (by omega) ?_
          rw [en]
          refine p_run (pc' := 48) [.bipush 10] mkX8_digger (by decide +kernel) rfl rfl ?_
          refine p_icmp_ne (off := 8) 56 (by decide +kernel) (by decide) (fun c1 => ?_) (fun c1 => ?_)
          · exact absurd (by rw [oI, hn]) c1
          · refine p_run (pc' := 65) [.ldc 124, .goto 12] mkX8_digger (by decide +kernel) rfl rfl ?_
            refine p_iret rfl rfl (by decide +kernel) ?_
            exact ⟨rfl, rfl⟩
        · exact False.elim (by revert c34; decide)
set_option maxRecDepth 20000 in
set_option maxHeartbeats 4000000 in
theorem r_digger (w : Wt) {k : Nat} (hk : 2 ≤ k) (a b c e : Int32) (h : Mm) (hI : Iv (h 97)) (hv : inR a 0 5 ∧ inR b 0 99 ∧ inR c 0 99 ∧ inR e 0 3) (hn : nd (h 97) < 10) : Ok w k MX8_digger [.ref 96, .int a, .int b, .int c, .int e] h (fun r h' => r = some (.int (nI (nd (h 97)))) ∧ h' 97 = addF (h 97) a b c e ∧ Ag [97] h h') := by
  show Wp w k MX8_digger _ 0 [some (.ref 96), some (.int a), some (.int b), some (.int c), some (.int e)] [] h
  obtain ⟨en, hn10⟩ := hI.nd
  refine p_run (pc' := 3) [.iload_n 1, .iconst 0, .iconst 5] mkX8_digger (by decide +kernel) rfl rfl ?_
  refine p_callSv (in_t w (k := k - 1) _ _ _ _ (hv.1)) ksX8_75 (by decide +kernel) (by omega) rfl rfl rfl rfl rfl ?_
  refine p_if_eq (off := 31) 37 (by decide +kernel) (by decide) (fun c6 => ?_) (fun c6 => ?_)
  · exact False.elim (by revert c6; decide)
  · refine p_run (pc' := 13) [.iload_n 2, .iconst 0, .bipush 99] mkX8_digger (by decide +kernel) rfl rfl ?_
    refine p_callSv (in_t w (k := k - 1) _ _ _ _ (hv.2.1)) ksX8_75 (by decide +kernel) (by omega) rfl rfl rfl rfl rfl ?_
    refine p_if_eq (off := 21) 37 (by decide +kernel) (by decide) (fun c16 => ?_) (fun c16 => ?_)
    · exact False.elim (by revert c16; decide)
    · refine p_run (pc' := 23) [.iload_n 3, .iconst 0, .bipush 99] mkX8_digger (by decide +kernel) rfl rfl ?_
      refine p_callSv (in_t w (k := k - 1) _ _ _ _ (hv.2.2.1)) ksX8_75 (by decide +kernel) (by omega) rfl rfl rfl rfl rfl ?_
      refine p_if_eq (off := 11) 37 (by decide +kernel) (by decide) (fun c26 => ?_) (fun c26 => ?_)
      · exact False.elim (by revert c26; decide)
      · refine p_run (pc' := 31) [.iload 4] mkX8_digger (by decide +kernel) rfl rfl ?_
        refine p_callSv (isBranch_t w (k := k - 1) (by omega) _ _ (hv.2.2.2)) ksX8_120 (by decide +kernel) (by omega) rfl rfl rfl rfl rfl ?_
        refine p_if_ne (off := 6) 40 (by decide +kernel) (by decide) (fun c34 => ?_) (fun c34 => ?_)
        · refine p_run (pc' := 45) [.aload_n 0, .getfield 9, .iconst 1] mkX8_digger (by decide +kernel) rfl rfl ?_
          refine p_iald (1) (by decide +kernel) rfl rfl (by simp only [oI]) (by omega) ?_
          rw [en]
          refine p_run (pc' := 48) [.bipush 10] mkX8_digger (by decide +kernel) rfl rfl ?_
          refine p_icmp_ne (off := 8) 56 (by decide +kernel) (by decide) (fun c1 => ?_) (fun c1 => ?_)
          · refine p_run (pc' := 62) [.aload_n 0, .iload_n 1, .iload_n 2, .iload_n 3, .iload 4] mkX8_digger (by decide +kernel) rfl rfl ?_
            refine p_callV (comes_ok w (k := k - 1) (by omega) a b c e h hI hn) kvX8_125 (by decide +kernel) (by decide) rfl (by omega) rfl rfl rfl rfl rfl (fun r h' hq => ?_)
            obtain ⟨rfl, e2, hA⟩ := hq
            refine p_iret rfl rfl (by decide +kernel) ?_
            exact ⟨rfl, e2, hA⟩
          · rw [oI, nI_eq (by omega) (by omega)] at c1
            exact absurd c1 (by omega)
        · exact False.elim (by revert c34; decide)
noncomputable def toldF (N : Vc) (d j : Nat) : Int32 := if j < 5 then N (20 + 5 * d + j) else if j = 5 then dgF N d else if j = 6 then buF N d else woF N d
set_option maxRecDepth 20000 in
set_option maxHeartbeats 4000000 in
theorem r_told_bad (w : Wt) {k : Nat} (hk : 2 ≤ k) (a b : Int32) (h : Mm)  (hb : ¬ (isD (h 97) a ∧ inR b 0 7)) : Ok w k MX8_told [.ref 96, .int a, .int b] h (Rv BADv h) := by
  show Wp w k MX8_told _ 0 [some (.ref 96), some (.int a), some (.int b)] [] h
  refine p_run (pc' := 2) [.aload_n 0, .iload_n 1] mkX8_told (by decide +kernel) rfl rfl ?_
  refine p_callVv (risDigger_ok w (k := k - 1) (by omega) _ _) kvX8_129 (by decide +kernel) (by decide) rfl (by omega) rfl rfl rfl rfl rfl ?_
  refine p_if_eq (off := 13) 18 (by decide +kernel) (by decide) (fun c5 => ?_) (fun c5 => ?_)
  · refine p_run (pc' := 20) [.ldc 123] mkX8_told (by decide +kernel) rfl rfl ?_
    refine p_iret rfl rfl (by decide +kernel) ?_
    exact ⟨rfl, rfl⟩
  · refine p_run (pc' := 12) [.iload_n 2, .iconst 0, .bipush 7] mkX8_told (by decide +kernel) rfl rfl ?_
    refine p_callSv (in_ok w (k := k - 1) _ _ _ _) ksX8_75 (by decide +kernel) (by omega) rfl rfl rfl rfl rfl ?_
    refine p_if_ne (off := 6) 21 (by decide +kernel) (by decide) (fun c15 => ?_) (fun c15 => ?_)
    · exact absurd (⟨bI1.mp c5, bI1.mp c15⟩) hb
    · refine p_run (pc' := 20) [.ldc 123] mkX8_told (by decide +kernel) rfl rfl ?_
      refine p_iret rfl rfl (by decide +kernel) ?_
      exact ⟨rfl, rfl⟩
set_option maxRecDepth 20000 in
set_option maxHeartbeats 4000000 in
theorem r_told (w : Wt) {k : Nat} (hk : 4 ≤ k) (d j : Nat) (h : Mm) (hI : Iv (h 97)) (hT : Tq (h 97)) (hd : d < nd (h 97)) (hj : j ≤ 7) : Ok w k MX8_told [.ref 96, .int (nI d), .int (nI j)] h (Rs [107, 108] (toldF (h 97) d j) h) := by
  show Wp w k MX8_told _ 0 [some (.ref 96), some (.int (nI d)), some (.int (nI j))] [] h
  obtain ⟨en, hn10⟩ := hI.nd
  refine p_run (pc' := 2) [.aload_n 0, .iload_n 1] mkX8_told (by decide +kernel) rfl rfl ?_
  refine p_callVv (isDigger_t w (k := k - 1) (by omega) _ _ (isD_nI en hd hn10)) kvX8_129 (by decide +kernel) (by decide) rfl (by omega) rfl rfl rfl rfl rfl ?_
  refine p_if_eq (off := 13) 18 (by decide +kernel) (by decide) (fun c5 => ?_) (fun c5 => ?_)
  · exact False.elim (by revert c5; decide)
  · refine p_run (pc' := 12) [.iload_n 2, .iconst 0, .bipush 7] mkX8_told (by decide +kernel) rfl rfl ?_
    refine p_callSv (in_t w (k := k - 1) _ _ _ _ (in_nI (lo := 0) (hi := 7) (by omega) hj (by omega))) ksX8_75 (by decide +kernel) (by omega) rfl rfl rfl rfl rfl ?_
    refine p_if_ne (off := 6) 21 (by decide +kernel) (by decide) (fun c15 => ?_) (fun c15 => ?_)
    · refine p_run (pc' := 23) [.iload_n 2, .iconst 5] mkX8_told (by decide +kernel) rfl rfl ?_
      refine p_icmp_ge (off := 10) 33 (by decide +kernel) (by decide) (fun c23 => ?_) (fun c23 => ?_)
      · (try simp only [oI] at c23)
        rw [nI_leI (by omega) (by omega)] at c23
        refine p_run (pc' := 35) [.iload_n 2, .iconst 5] mkX8_told (by decide +kernel) rfl rfl ?_
        refine p_icmp_ne (off := 11) 46 (by decide +kernel) (by decide) (fun c35 => ?_) (fun c35 => ?_)
        · (try simp only [oI] at c35)
          rw [nI_eq (by omega) (by omega)] at c35
          refine p_run (pc' := 49) [.iload_n 2, .bipush 6] mkX8_told (by decide +kernel) rfl rfl ?_
          refine p_icmp_ne (off := 11) 60 (by decide +kernel) (by decide) (fun c49 => ?_) (fun c49 => ?_)
          · (try simp only [oI] at c49)
            rw [nI_eq (by omega) (by omega)] at c49
            refine p_run (pc' := 62) [.aload_n 0, .iload_n 1] mkX8_told (by decide +kernel) rfl rfl ?_
            refine p_callVv (worthOf_ok w (k := k - 1) (by omega) d (by omega) h hI) kvX8_138 (by decide +kernel) (by decide) rfl (by omega) rfl rfl rfl rfl rfl ?_
            refine p_iret rfl rfl (by decide +kernel) ?_
            exact ⟨congrArg (fun x => some (Value.int x)) (by unfold toldF; (repeat' split) <;> first | rfl | omega), by first | exact hA | exact Ag.rf⟩
          · (try simp only [oI] at c49)
            rw [nI_eq (by omega) (by omega)] at c49
            refine p_run (pc' := 54) [.aload_n 0, .iload_n 1] mkX8_told (by decide +kernel) rfl rfl ?_
            refine p_callVv (burnsOf_ok w (k := k - 1) (by omega) d (by omega) h hI) kvX8_135 (by decide +kernel) (by decide) rfl (by omega) rfl rfl rfl rfl rfl ?_
            refine p_run (pc' := 65) [.goto 8] mkX8_told (by decide +kernel) rfl rfl ?_
            refine p_iret rfl rfl (by decide +kernel) ?_
            exact ⟨congrArg (fun x => some (Value.int x)) (by unfold toldF; (repeat' split) <;> first | rfl | omega), by first | exact hA | exact Ag.rf⟩
        · (try simp only [oI] at c35)
          rw [nI_eq (by omega) (by omega)] at c35
          refine p_run (pc' := 40) [.aload_n 0, .iload_n 1] mkX8_told (by decide +kernel) rfl rfl ?_
          refine p_callV (digsOf_ok w (k := k - 1) (by omega) d (by omega) h hI hT) kvX8_132 (by decide +kernel) (by decide) rfl (by omega) rfl rfl rfl rfl rfl (fun r h' hq => ?_)
          obtain ⟨rfl, hA⟩ := hq
          refine p_run (pc' := 65) [.goto 22] mkX8_told (by decide +kernel) rfl rfl ?_
          refine p_iret rfl rfl (by decide +kernel) ?_
          exact ⟨congrArg (fun x => some (Value.int x)) (by unfold toldF; (repeat' split) <;> first | rfl | omega), by first | exact hA | exact Ag.rf⟩
      · (try simp only [oI] at c23)
        rw [nI_leI (by omega) (by omega)] at c23
        refine p_run (pc' := 29) [.aload_n 0, .iload_n 1, .iload_n 2] mkX8_told (by decide +kernel) rfl rfl ?_
        refine p_callVv (of_ok w (k := k - 1) (d) (j) _ (by omega)) kvX8_83 (by decide +kernel) (by decide) rfl (by omega) rfl rfl rfl rfl rfl ?_
        refine p_iret rfl rfl (by decide +kernel) ?_
        exact ⟨congrArg (fun x => some (Value.int x)) (by unfold toldF; (repeat' split) <;> first | rfl | omega), by first | exact hA | exact Ag.rf⟩
    · exact False.elim (by revert c15; decide)
def unP (a b : Nat) : Prop := b = 0 ∨ a = b ∨ (b = 1 ∧ a = 3) ∨ (b = 2 ∧ a = 4)
set_option maxRecDepth 20000 in
set_option maxHeartbeats 4000000 in
theorem isUnder_ok (w : Wt) {k : Nat} (a b : Nat) (ha : a ≤ 5) (hb : b ≤ 5) (h : Mm) : Ok w k MX8_isUnder [.int (nI a), .int (nI b)] h (Rv (bI (unP a b)) h) := by
  show Wp w k MX8_isUnder _ 0 [some (.int (nI a)), some (.int (nI b))] [] h
  refine p_run (pc' := 1) [.iload_n 1] mkX8_isUnder (by decide +kernel) rfl rfl ?_
  refine p_if_eq (off := 28) 29 (by decide +kernel) (by decide) (fun c1 => ?_) (fun c1 => ?_)
  · rw [nI_eq0 (by omega)] at c1
    refine p_run (pc' := 34) [.iconst 1, .goto 4] mkX8_isUnder (by decide +kernel) rfl rfl ?_
    refine p_iret rfl rfl (by decide +kernel) ?_
    exact ⟨by first | (rw [bIt (by unfold unP; omega)]; rfl) | (rw [bIf (by unfold unP; omega)]; rfl), rfl⟩
  · rw [nI_eq0 (by omega)] at c1
    refine p_run (pc' := 6) [.iload_n 0, .iload_n 1] mkX8_isUnder (by decide +kernel) rfl rfl ?_
    refine p_icmp_eq (off := 23) 29 (by decide +kernel) (by decide) (fun c6 => ?_) (fun c6 => ?_)
    · (try simp only [oI] at c6)
      rw [nI_eq (by omega) (by omega)] at c6
      refine p_run (pc' := 34) [.iconst 1, .goto 4] mkX8_isUnder (by decide +kernel) rfl rfl ?_
      refine p_iret rfl rfl (by decide +kernel) ?_
      exact ⟨by first | (rw [bIt (by unfold unP; omega)]; rfl) | (rw [bIf (by unfold unP; omega)]; rfl), rfl⟩
    · (try simp only [oI] at c6)
      rw [nI_eq (by omega) (by omega)] at c6
      refine p_run (pc' := 11) [.iload_n 1, .iconst 1] mkX8_isUnder (by decide +kernel) rfl rfl ?_
      refine p_icmp_ne (off := 8) 19 (by decide +kernel) (by decide) (fun c11 => ?_) (fun c11 => ?_)
      · (try simp only [oI] at c11)
        rw [nI_eq (by omega) (by omega)] at c11
        refine p_run (pc' := 21) [.iload_n 1, .iconst 2] mkX8_isUnder (by decide +kernel) rfl rfl ?_
        refine p_icmp_ne (off := 12) 33 (by decide +kernel) (by decide) (fun c21 => ?_) (fun c21 => ?_)
        · (try simp only [oI] at c21)
          rw [nI_eq (by omega) (by omega)] at c21
          refine p_run (pc' := 34) [.iconst 0] mkX8_isUnder (by decide +kernel) rfl rfl ?_
          refine p_iret rfl rfl (by decide +kernel) ?_
          exact ⟨by first | (rw [bIt (by unfold unP; omega)]; rfl) | (rw [bIf (by unfold unP; omega)]; rfl), rfl⟩
        · (try simp only [oI] at c21)
          rw [nI_eq (by omega) (by omega)] at c21
          refine p_run (pc' := 26) [.iload_n 0, .iconst 4] mkX8_isUnder (by decide +kernel) rfl rfl ?_
          refine p_icmp_ne (off := 7) 33 (by decide +kernel) (by decide) (fun c26 => ?_) (fun c26 => ?_)
          · (try simp only [oI] at c26)
            rw [nI_eq (by omega) (by omega)] at c26
            refine p_run (pc' := 34) [.iconst 0] mkX8_isUnder (by decide +kernel) rfl rfl ?_
            refine p_iret rfl rfl (by decide +kernel) ?_
            exact ⟨by first | (rw [bIt (by unfold unP; omega)]; rfl) | (rw [bIf (by unfold unP; omega)]; rfl), rfl⟩
          · (try simp only [oI] at c26)
            rw [nI_eq (by omega) (by omega)] at c26
            refine p_run (pc' := 34) [.iconst 1, .goto 4] mkX8_isUnder (by decide +kernel) rfl rfl ?_
            refine p_iret rfl rfl (by decide +kernel) ?_
            exact ⟨by first | (rw [bIt (by unfold unP; omega)]; rfl) | (rw [bIf (by unfold unP; omega)]; rfl), rfl⟩
      · (try simp only [oI] at c11)
        rw [nI_eq (by omega) (by omega)] at c11
        refine p_run (pc' := 16) [.iload_n 0, .iconst 3] mkX8_isUnder (by decide +kernel) rfl rfl ?_
        refine p_icmp_eq (off := 13) 29 (by decide +kernel) (by decide) (fun c16 => ?_) (fun c16 => ?_)
        · (try simp only [oI] at c16)
          rw [nI_eq (by omega) (by omega)] at c16
          refine p_run (pc' := 34) [.iconst 1, .goto 4] mkX8_isUnder (by decide +kernel) rfl rfl ?_
          refine p_iret rfl rfl (by decide +kernel) ?_
          exact ⟨by first | (rw [bIt (by unfold unP; omega)]; rfl) | (rw [bIf (by unfold unP; omega)]; rfl), rfl⟩
        · (try simp only [oI] at c16)
          rw [nI_eq (by omega) (by omega)] at c16
          refine p_run (pc' := 21) [.iload_n 1, .iconst 2] mkX8_isUnder (by decide +kernel) rfl rfl ?_
          refine p_icmp_ne (off := 12) 33 (by decide +kernel) (by decide) (fun c21 => ?_) (fun c21 => ?_)
          · (try simp only [oI] at c21)
            rw [nI_eq (by omega) (by omega)] at c21
            refine p_run (pc' := 34) [.iconst 0] mkX8_isUnder (by decide +kernel) rfl rfl ?_
            refine p_iret rfl rfl (by decide +kernel) ?_
            exact ⟨by first | (rw [bIt (by unfold unP; omega)]; rfl) | (rw [bIf (by unfold unP; omega)]; rfl), rfl⟩
          · (try simp only [oI] at c21)
            rw [nI_eq (by omega) (by omega)] at c21
            refine p_run (pc' := 26) [.iload_n 0, .iconst 4] mkX8_isUnder (by decide +kernel) rfl rfl ?_
            refine p_icmp_ne (off := 7) 33 (by decide +kernel) (by decide) (fun c26 => ?_) (fun c26 => ?_)
            · (try simp only [oI] at c26)
              rw [nI_eq (by omega) (by omega)] at c26
              refine p_run (pc' := 34) [.iconst 0] mkX8_isUnder (by decide +kernel) rfl rfl ?_
              refine p_iret rfl rfl (by decide +kernel) ?_
              exact ⟨by first | (rw [bIt (by unfold unP; omega)]; rfl) | (rw [bIf (by unfold unP; omega)]; rfl), rfl⟩
            · (try simp only [oI] at c26)
              rw [nI_eq (by omega) (by omega)] at c26
              refine p_run (pc' := 34) [.iconst 1, .goto 4] mkX8_isUnder (by decide +kernel) rfl rfl ?_
              refine p_iret rfl rfl (by decide +kernel) ?_
              exact ⟨by first | (rw [bIt (by unfold unP; omega)]; rfl) | (rw [bIf (by unfold unP; omega)]; rfl), rfl⟩
set_option maxRecDepth 20000 in
set_option maxHeartbeats 4000000 in
theorem r_as_bad (w : Wt) {k : Nat} (hk : 2 ≤ k) (a b : Int32) (h : Mm)  (hb : ¬ (isD (h 97) a ∧ inR b 0 5)) : Ok w k MX8_as [.ref 96, .int a, .int b] h (Rv BADv h) := by
  show Wp w k MX8_as _ 0 [some (.ref 96), some (.int a), some (.int b)] [] h
  refine p_run (pc' := 2) [.aload_n 0, .iload_n 1] mkX8_as (by decide +kernel) rfl rfl ?_
  refine p_callVv (risDigger_ok w (k := k - 1) (by omega) _ _) kvX8_129 (by decide +kernel) (by decide) rfl (by omega) rfl rfl rfl rfl rfl ?_
  refine p_if_eq (off := 12) 17 (by decide +kernel) (by decide) (fun c5 => ?_) (fun c5 => ?_)
  · refine p_run (pc' := 19) [.ldc 123] mkX8_as (by decide +kernel) rfl rfl ?_
    refine p_iret rfl rfl (by decide +kernel) ?_
    exact ⟨rfl, rfl⟩
  · refine p_run (pc' := 11) [.iload_n 2, .iconst 0, .iconst 5] mkX8_as (by decide +kernel) rfl rfl ?_
    refine p_callSv (in_ok w (k := k - 1) _ _ _ _) ksX8_75 (by decide +kernel) (by omega) rfl rfl rfl rfl rfl ?_
    refine p_if_ne (off := 6) 20 (by decide +kernel) (by decide) (fun c14 => ?_) (fun c14 => ?_)
    · exact absurd (⟨bI1.mp c5, bI1.mp c14⟩) hb
    · refine p_run (pc' := 19) [.ldc 123] mkX8_as (by decide +kernel) rfl rfl ?_
      refine p_iret rfl rfl (by decide +kernel) ?_
      exact ⟨rfl, rfl⟩
noncomputable def asF (N : Vc) (d j : Nat) : Int32 := @ite _ (unP (nN (dK N d 0)) j) (Classical.propDecidable _) (dK N d 1) KINDv
set_option maxRecDepth 20000 in
set_option maxHeartbeats 4000000 in
theorem r_as (w : Wt) {k : Nat} (hk : 2 ≤ k) (d j : Nat) (h : Mm) (hI : Iv (h 97)) (hd : d < nd (h 97)) (hj : j ≤ 5) : Ok w k MX8_as [.ref 96, .int (nI d), .int (nI j)] h (Rv (asF (h 97) d j) h) := by
  show Wp w k MX8_as _ 0 [some (.ref 96), some (.int (nI d)), some (.int (nI j))] [] h
  obtain ⟨en, hn10⟩ := hI.nd
  have hk5 := (hI.2.2.2.2.2.1 d (by omega)).1
  refine p_run (pc' := 2) [.aload_n 0, .iload_n 1] mkX8_as (by decide +kernel) rfl rfl ?_
  refine p_callVv (isDigger_t w (k := k - 1) (by omega) _ _ (isD_nI en hd hn10)) kvX8_129 (by decide +kernel) (by decide) rfl (by omega) rfl rfl rfl rfl rfl ?_
  refine p_if_eq (off := 12) 17 (by decide +kernel) (by decide) (fun c5 => ?_) (fun c5 => ?_)
  · exact False.elim (by revert c5; decide)
  · refine p_run (pc' := 11) [.iload_n 2, .iconst 0, .iconst 5] mkX8_as (by decide +kernel) rfl rfl ?_
    refine p_callSv (in_t w (k := k - 1) _ _ _ _ (in_nI (lo := 0) (hi := 5) (by omega) hj (by omega))) ksX8_75 (by decide +kernel) (by omega) rfl rfl rfl rfl rfl ?_
    refine p_if_ne (off := 6) 20 (by decide +kernel) (by decide) (fun c14 => ?_) (fun c14 => ?_)
    · refine p_run (pc' := 23) [.aload_n 0, .iload_n 1, .iconst 0] mkX8_as (by decide +kernel) rfl rfl ?_
      refine p_callVv (of_ok w (k := k - 1) d 0 _ (by omega)) kvX8_83 (by decide +kernel) (by decide) rfl (by omega) rfl rfl rfl rfl rfl ?_
      rw [show h 97 (20 + 5 * d + 0) = nI (nN (dK (h 97) d 0)) from hk5.1]
      refine p_run (pc' := 27) [.iload_n 2] mkX8_as (by decide +kernel) rfl rfl ?_
      refine p_callSv (isUnder_ok w (k := k - 1) (nN (dK (h 97) d 0)) j hk5.2 hj _) ksX8_141 (by decide +kernel) (by omega) rfl rfl rfl rfl rfl ?_
      refine p_if_eq (off := 12) 42 (by decide +kernel) (by decide) (fun c30 => ?_) (fun c30 => ?_)
      · refine p_run (pc' := 44) [.ldc 145] mkX8_as (by decide +kernel) rfl rfl ?_
        refine p_iret rfl rfl (by decide +kernel) ?_
        exact ⟨congrArg (fun x => some (Value.int x)) (by unfold asF; first | exact (if_pos (bI1.mp c30)).symm | exact (if_neg (bI0.mp c30)).symm), rfl⟩
      · refine p_run (pc' := 36) [.aload_n 0, .iload_n 1, .iconst 1] mkX8_as (by decide +kernel) rfl rfl ?_
        refine p_callVv (of_ok w (k := k - 1) (d) (1) _ (by omega)) kvX8_83 (by decide +kernel) (by decide) rfl (by omega) rfl rfl rfl rfl rfl ?_
        refine p_run (pc' := 44) [.goto 5] mkX8_as (by decide +kernel) rfl rfl ?_
        refine p_iret rfl rfl (by decide +kernel) ?_
        exact ⟨congrArg (fun x => some (Value.int x)) (by unfold asF; first | exact (if_pos (bI1.mp c30)).symm | exact (if_neg (bI0.mp c30)).symm), rfl⟩
    · exact False.elim (by revert c14; decide)
set_option maxRecDepth 20000 in
set_option maxHeartbeats 4000000 in
theorem r_turns_bad (w : Wt) {k : Nat} (hk : 2 ≤ k) (a b : Int32) (h : Mm)  (hb : ¬ (isD (h 97) a ∧ inR b 0 5)) : Ok w k MX8_turns [.ref 96, .int a, .int b] h (Rv BADv h) := by
  show Wp w k MX8_turns _ 0 [some (.ref 96), some (.int a), some (.int b)] [] h
  refine p_run (pc' := 2) [.aload_n 0, .iload_n 1] mkX8_turns (by decide +kernel) rfl rfl ?_
  refine p_callVv (risDigger_ok w (k := k - 1) (by omega) _ _) kvX8_129 (by decide +kernel) (by decide) rfl (by omega) rfl rfl rfl rfl rfl ?_
  refine p_if_eq (off := 26) 31 (by decide +kernel) (by decide) (fun c5 => ?_) (fun c5 => ?_)
  · refine p_run (pc' := 33) [.ldc 123] mkX8_turns (by decide +kernel) rfl rfl ?_
    refine p_iret rfl rfl (by decide +kernel) ?_
    exact ⟨rfl, rfl⟩
  · refine p_run (pc' := 11) [.iload_n 2, .iconst 0, .iconst 5] mkX8_turns (by decide +kernel) rfl rfl ?_
    refine p_callSv (in_ok w (k := k - 1) _ _ _ _) ksX8_75 (by decide +kernel) (by omega) rfl rfl rfl rfl rfl ?_
    refine p_if_eq (off := 17) 31 (by decide +kernel) (by decide) (fun c14 => ?_) (fun c14 => ?_)
    · refine p_run (pc' := 33) [.ldc 123] mkX8_turns (by decide +kernel) rfl rfl ?_
      refine p_iret rfl rfl (by decide +kernel) ?_
      exact ⟨rfl, rfl⟩
    · exact absurd (⟨bI1.mp c5, bI1.mp c14⟩) hb
set_option maxRecDepth 20000 in
set_option maxHeartbeats 4000000 in
theorem r_turns (w : Wt) {k : Nat} (hk : 2 ≤ k) (d : Nat) (b : Int32) (h : Mm) (hI : Iv (h 97)) (hd : d < nd (h 97)) (hb : inR b 0 5) : Ok w k MX8_turns [.ref 96, .int (nI d), .int b] h (fun r h' => r = some (.int (h 97 (20 + 5 * d))) ∧ h' = up h 97 (20 + 5 * d) b) := by
  show Wp w k MX8_turns _ 0 [some (.ref 96), some (.int (nI d)), some (.int b)] [] h
  obtain ⟨en, hn10⟩ := hI.nd
  refine p_run (pc' := 2) [.aload_n 0, .iload_n 1] mkX8_turns (by decide +kernel) rfl rfl ?_
  refine p_callVv (isDigger_t w (k := k - 1) (by omega) _ _ (isD_nI en hd hn10)) kvX8_129 (by decide +kernel) (by decide) rfl (by omega) rfl rfl rfl rfl rfl ?_
  refine p_if_eq (off := 26) 31 (by decide +kernel) (by decide) (fun c5 => ?_) (fun c5 => ?_)
  · exact False.elim (by revert c5; decide)
  · refine p_run (pc' := 11) [.iload_n 2, .iconst 0, .iconst 5] mkX8_turns (by decide +kernel) rfl rfl ?_
    refine p_callSv (in_t w (k := k - 1) _ _ _ _ (hb)) ksX8_75 (by decide +kernel) (by omega) rfl rfl rfl rfl rfl ?_
    refine p_if_eq (off := 17) 31 (by decide +kernel) (by decide) (fun c14 => ?_) (fun c14 => ?_)
    · exact False.elim (by revert c14; decide)
    · refine p_run (pc' := 25) [.aload_n 0, .bipush 20, .iconst 5, .iload_n 1, .imul, .iadd, .iload_n 2] mkX8_turns (by decide +kernel) rfl rfl ?_
      refine Wp.eqS (st' := [.int b, .int (nI (20 + 5 * d)), .ref 96]) (by simp only [oI, nI_add, nIm]) ?_
      refine p_callV (swaps_ok w (k := k - 1) (20 + 5 * d) (by omega) b h) kvX8_146 (by decide +kernel) (by decide) rfl (by omega) rfl rfl rfl rfl rfl (fun r h' hq => ?_)
      obtain ⟨rfl, rfl⟩ := hq
      refine p_run (pc' := 33) [.goto 5] mkX8_turns (by decide +kernel) rfl rfl ?_
      refine p_iret rfl rfl (by decide +kernel) ?_
      exact ⟨rfl, rfl⟩
set_option maxRecDepth 20000 in
set_option maxHeartbeats 4000000 in
theorem r_set_bad (w : Wt) {k : Nat} (hk : 2 ≤ k) (a b c : Int32) (h : Mm)  (hb : ¬ (isD (h 97) a ∧ inR b 1 2 ∧ inR c 0 99)) : Ok w k MX8_set [.ref 96, .int a, .int b, .int c] h (Rv BADv h) := by
  show Wp w k MX8_set _ 0 [some (.ref 96), some (.int a), some (.int b), some (.int c)] [] h
  refine p_run (pc' := 2) [.aload_n 0, .iload_n 1] mkX8_set (by decide +kernel) rfl rfl ?_
  refine p_callVv (risDigger_ok w (k := k - 1) (by omega) _ _) kvX8_129 (by decide +kernel) (by decide) rfl (by omega) rfl rfl rfl rfl rfl ?_
  refine p_if_eq (off := 38) 43 (by decide +kernel) (by decide) (fun c5 => ?_) (fun c5 => ?_)
  · refine p_run (pc' := 45) [.ldc 123] mkX8_set (by decide +kernel) rfl rfl ?_
    refine p_iret rfl rfl (by decide +kernel) ?_
    exact ⟨rfl, rfl⟩
  · refine p_run (pc' := 11) [.iload_n 2, .iconst 1, .iconst 2] mkX8_set (by decide +kernel) rfl rfl ?_
    refine p_callSv (in_ok w (k := k - 1) _ _ _ _) ksX8_75 (by decide +kernel) (by omega) rfl rfl rfl rfl rfl ?_
    refine p_if_eq (off := 29) 43 (by decide +kernel) (by decide) (fun c14 => ?_) (fun c14 => ?_)
    · refine p_run (pc' := 45) [.ldc 123] mkX8_set (by decide +kernel) rfl rfl ?_
      refine p_iret rfl rfl (by decide +kernel) ?_
      exact ⟨rfl, rfl⟩
    · refine p_run (pc' := 21) [.iload_n 3, .iconst 0, .bipush 99] mkX8_set (by decide +kernel) rfl rfl ?_
      refine p_callSv (in_ok w (k := k - 1) _ _ _ _) ksX8_75 (by decide +kernel) (by omega) rfl rfl rfl rfl rfl ?_
      refine p_if_eq (off := 19) 43 (by decide +kernel) (by decide) (fun c24 => ?_) (fun c24 => ?_)
      · refine p_run (pc' := 45) [.ldc 123] mkX8_set (by decide +kernel) rfl rfl ?_
        refine p_iret rfl rfl (by decide +kernel) ?_
        exact ⟨rfl, rfl⟩
      · exact absurd (⟨bI1.mp c5, bI1.mp c14, bI1.mp c24⟩) hb
set_option maxRecDepth 20000 in
set_option maxHeartbeats 4000000 in
theorem r_set (w : Wt) {k : Nat} (hk : 2 ≤ k) (d j : Nat) (c : Int32) (h : Mm) (hI : Iv (h 97)) (hd : d < nd (h 97)) (hj : 1 ≤ j ∧ j ≤ 2) (hc : inR c 0 99) : Ok w k MX8_set [.ref 96, .int (nI d), .int (nI j), .int c] h (fun r h' => r = some (.int (h 97 (20 + 5 * d + j))) ∧ h' = up h 97 (20 + 5 * d + j) c) := by
  show Wp w k MX8_set _ 0 [some (.ref 96), some (.int (nI d)), some (.int (nI j)), some (.int c)] [] h
  obtain ⟨en, hn10⟩ := hI.nd
  refine p_run (pc' := 2) [.aload_n 0, .iload_n 1] mkX8_set (by decide +kernel) rfl rfl ?_
  refine p_callVv (isDigger_t w (k := k - 1) (by omega) _ _ (isD_nI en hd hn10)) kvX8_129 (by decide +kernel) (by decide) rfl (by omega) rfl rfl rfl rfl rfl ?_
  refine p_if_eq (off := 38) 43 (by decide +kernel) (by decide) (fun c5 => ?_) (fun c5 => ?_)
  · exact False.elim (by revert c5; decide)
  · refine p_run (pc' := 11) [.iload_n 2, .iconst 1, .iconst 2] mkX8_set (by decide +kernel) rfl rfl ?_
    refine p_callSv (in_t w (k := k - 1) _ _ _ _ (in_nI (lo := 1) (hi := 2) hj.1 hj.2 (by omega))) ksX8_75 (by decide +kernel) (by omega) rfl rfl rfl rfl rfl ?_
    refine p_if_eq (off := 29) 43 (by decide +kernel) (by decide) (fun c14 => ?_) (fun c14 => ?_)
    · exact False.elim (by revert c14; decide)
    · refine p_run (pc' := 21) [.iload_n 3, .iconst 0, .bipush 99] mkX8_set (by decide +kernel) rfl rfl ?_
      refine p_callSv (in_t w (k := k - 1) _ _ _ _ (hc)) ksX8_75 (by decide +kernel) (by omega) rfl rfl rfl rfl rfl ?_
      refine p_if_eq (off := 19) 43 (by decide +kernel) (by decide) (fun c24 => ?_) (fun c24 => ?_)
      · exact False.elim (by revert c24; decide)
      · refine p_run (pc' := 37) [.aload_n 0, .bipush 20, .iconst 5, .iload_n 1, .imul, .iadd, .iload_n 2, .iadd, .iload_n 3] mkX8_set (by decide +kernel) rfl rfl ?_
        refine Wp.eqS (st' := [.int c, .int (nI (20 + 5 * d + j)), .ref 96]) (by simp only [oI, nI_add, nIm]) ?_
        refine p_callV (swaps_ok w (k := k - 1) (20 + 5 * d + j) (by omega) c h) kvX8_146 (by decide +kernel) (by decide) rfl (by omega) rfl rfl rfl rfl rfl (fun r h' hq => ?_)
        obtain ⟨rfl, rfl⟩ := hq
        refine p_run (pc' := 45) [.goto 5] mkX8_set (by decide +kernel) rfl rfl ?_
        refine p_iret rfl rfl (by decide +kernel) ?_
        exact ⟨rfl, rfl⟩
set_option maxRecDepth 20000 in
set_option maxHeartbeats 4000000 in
theorem r_sends_bad (w : Wt) {k : Nat} (hk : 2 ≤ k) (a b : Int32) (h : Mm)  (hb : ¬ (isD (h 97) a ∧ inR b 0 3)) : Ok w k MX8_sends [.ref 96, .int a, .int b] h (Rv BADv h) := by
  show Wp w k MX8_sends _ 0 [some (.ref 96), some (.int a), some (.int b)] [] h
  refine p_run (pc' := 2) [.aload_n 0, .iload_n 1] mkX8_sends (by decide +kernel) rfl rfl ?_
  refine p_callVv (risDigger_ok w (k := k - 1) (by omega) _ _) kvX8_129 (by decide +kernel) (by decide) rfl (by omega) rfl rfl rfl rfl rfl ?_
  refine p_if_eq (off := 26) 31 (by decide +kernel) (by decide) (fun c5 => ?_) (fun c5 => ?_)
  · refine p_run (pc' := 33) [.ldc 123] mkX8_sends (by decide +kernel) rfl rfl ?_
    refine p_iret rfl rfl (by decide +kernel) ?_
    exact ⟨rfl, rfl⟩
  · refine p_run (pc' := 9) [.iload_n 2] mkX8_sends (by decide +kernel) rfl rfl ?_
    refine p_callSv (risBranch_ok w (k := k - 1) (by omega) _ _) ksX8_120 (by decide +kernel) (by omega) rfl rfl rfl rfl rfl ?_
    refine p_if_eq (off := 19) 31 (by decide +kernel) (by decide) (fun c12 => ?_) (fun c12 => ?_)
    · refine p_run (pc' := 33) [.ldc 123] mkX8_sends (by decide +kernel) rfl rfl ?_
      refine p_iret rfl rfl (by decide +kernel) ?_
      exact ⟨rfl, rfl⟩
    · exact absurd (⟨bI1.mp c5, bI1.mp c12⟩) hb
set_option maxRecDepth 20000 in
set_option maxHeartbeats 4000000 in
theorem r_sends (w : Wt) {k : Nat} (hk : 2 ≤ k) (d : Nat) (b : Int32) (h : Mm) (hI : Iv (h 97)) (hd : d < nd (h 97)) (hb : inR b 0 3) : Ok w k MX8_sends [.ref 96, .int (nI d), .int b] h (fun r h' => r = some (.int (h 97 (20 + 5 * d + 3))) ∧ h' = up h 97 (20 + 5 * d + 3) b) := by
  show Wp w k MX8_sends _ 0 [some (.ref 96), some (.int (nI d)), some (.int b)] [] h
  obtain ⟨en, hn10⟩ := hI.nd
  refine p_run (pc' := 2) [.aload_n 0, .iload_n 1] mkX8_sends (by decide +kernel) rfl rfl ?_
  refine p_callVv (isDigger_t w (k := k - 1) (by omega) _ _ (isD_nI en hd hn10)) kvX8_129 (by decide +kernel) (by decide) rfl (by omega) rfl rfl rfl rfl rfl ?_
  refine p_if_eq (off := 26) 31 (by decide +kernel) (by decide) (fun c5 => ?_) (fun c5 => ?_)
  · exact False.elim (by revert c5; decide)
  · refine p_run (pc' := 9) [.iload_n 2] mkX8_sends (by decide +kernel) rfl rfl ?_
    refine p_callSv (isBranch_t w (k := k - 1) (by omega) _ _ (hb)) ksX8_120 (by decide +kernel) (by omega) rfl rfl rfl rfl rfl ?_
    refine p_if_eq (off := 19) 31 (by decide +kernel) (by decide) (fun c12 => ?_) (fun c12 => ?_)
    · exact False.elim (by revert c12; decide)
    · refine p_run (pc' := 25) [.aload_n 0, .bipush 20, .iconst 5, .iload_n 1, .imul, .iadd, .iconst 3, .iadd, .iload_n 2] mkX8_sends (by decide +kernel) rfl rfl ?_
      refine Wp.eqS (st' := [.int b, .int (nI (20 + 5 * d + 3)), .ref 96]) (by simp only [oI, nI_add, nIm]) ?_
      refine p_callV (swaps_ok w (k := k - 1) (20 + 5 * d + 3) (by omega) b h) kvX8_146 (by decide +kernel) (by decide) rfl (by omega) rfl rfl rfl rfl rfl (fun r h' hq => ?_)
      obtain ⟨rfl, rfl⟩ := hq
      refine p_run (pc' := 33) [.goto 5] mkX8_sends (by decide +kernel) rfl rfl ?_
      refine p_iret rfl rfl (by decide +kernel) ?_
      exact ⟨rfl, rfl⟩
set_option maxRecDepth 20000 in
set_option maxHeartbeats 4000000 in
theorem r_seed (w : Wt) {k : Nat} (hk : 1 ≤ k) (a : Int32) (h : Mm) : Ok w k MX8_seed [.ref 96, .int a] h (fun r h' => r = some (.int (h 97 0)) ∧ h' = up h 97 0 a) := by
  show Wp w k MX8_seed _ 0 [some (.ref 96), some (.int a)] [] h
  refine p_run (pc' := 3) [.aload_n 0, .iconst 0, .iload_n 1] mkX8_seed (by decide +kernel) rfl rfl ?_
  refine p_callV (swaps_ok w (k := k - 1) 0 (by omega) a h) kvX8_146 (by decide +kernel) (by decide) rfl (by omega) rfl rfl rfl rfl rfl (fun r h' hq => ?_)
  obtain ⟨rfl, rfl⟩ := hq
  refine p_iret rfl rfl (by decide +kernel) ?_
  exact ⟨rfl, rfl⟩
