/-! the class: passages, what is counted -/
theorem inB_iff {N : Vc} {b d : Nat} : inB N b d = true ↔ dK N d 3 = nI b := by unfold inB; exact decide_eq_true_iff
theorem litB_iff {N : Vc} {b d : Nat} : litB N b d = true ↔ (dK N d 3 = nI b ∧ 0 < dK N d 2) := by unfold litB; exact decide_eq_true_iff
set_option maxRecDepth 20000 in
set_option maxHeartbeats 4000000 in
theorem chill11 (w : Wt) {k : Nat} (N : Vc) (h : Mm) (hI : Iv N) (hR : PR 11 h N) : Ok w k MX2_hill [.ref 11] h (Rv (sumF (fun d => dK N d 4) (nd N)) h) := by
  show Wp w k MX2_hill _ 0 [some (.ref 11), none, none] [] h
  obtain ⟨en, hn10⟩ := hI.nd
  refine p_run (pc' := 4) [.iconst 0, .istore_n 1, .iconst 0, .istore_n 2] mkX2_hill (by decide +kernel) rfl rfl ?_
  refine Wp.for (nd N) (fun i L hh => L = [some (.ref 11), some (.int (sumF (fun d => dK N d 4) i)), some (.int (nI i))] ∧ h = hh) ?_ ?_ (0) (by omega) _ _ ?_
  · rintro i L hh hi ⟨rfl, hJ⟩ ih
    subst hJ
    refine p_run (pc' := 9) [.iload_n 2, .aload_n 0, .getfield 45] mkX2_hill (by decide +kernel) rfl rfl ?_
    rw [hR.1.1, en]
    refine p_icmp_ge (off := 21) 30 (by decide +kernel) (by decide) (fun cqh => ?_) (fun cqh => ?_)
    · exact absurd cqh (nI_ge (by omega) (by omega))
    · refine p_run (pc' := 18) [.iload_n 1, .aload_n 0, .getfield 24, .iload_n 2] mkX2_hill (by decide +kernel) rfl rfl ?_
      refine p_aald (i) (by decide +kernel) (by decide) rfl (by decide) rfl (by omega) (rfD11 i (by omega)) ?_
      refine p_getI (by decide +kernel) fo2_79 (obD pp11 (by omega)).1 (obD pp11 (by omega)).2.1 ((obD pp11 (by omega)).2.2 _) ?_
      rw [hR.2.2.1 i (by omega) 4 (by omega)]
      refine p_run (pc' := 4) [.iadd, .istore_n 1, .iinc 2 1, .goto (-23)] mkX2_hill (by decide +kernel) rfl rfl ?_
      exact ih _ _ ⟨by rw [show nI i + Int32.ofInt 1 = nI (i + 1) by simp only [oI, nI_add]]; rfl, rfl⟩
  · rintro L hh ⟨rfl, hJ⟩
    subst hJ
    refine p_run (pc' := 9) [.iload_n 2, .aload_n 0, .getfield 45] mkX2_hill (by decide +kernel) rfl rfl ?_
    rw [hR.1.1, en]
    refine p_icmp_ge (off := 21) 30 (by decide +kernel) (by decide) (fun cqh => ?_) (fun cqh => ?_)
    · refine p_run (pc' := 31) [.iload_n 1] mkX2_hill (by decide +kernel) rfl rfl ?_
      refine p_iret rfl rfl (by decide +kernel) ?_
      exact ⟨rfl, rfl⟩
    · exact absurd (nI_le (Nat.le_refl _) (by omega)) cqh
  · exact ⟨rfl, rfl⟩
set_option maxRecDepth 20000 in
set_option maxHeartbeats 4000000 in
theorem ccandlesOfAll11 (w : Wt) {k : Nat} (N : Vc) (h : Mm) (hI : Iv N) (hR : PR 11 h N) : Ok w k MX2_candlesOfAll [.ref 11] h (Rv (sumF (fun d => dK N d 2) (nd N)) h) := by
  show Wp w k MX2_candlesOfAll _ 0 [some (.ref 11), none, none] [] h
  obtain ⟨en, hn10⟩ := hI.nd
  refine p_run (pc' := 4) [.iconst 0, .istore_n 1, .iconst 0, .istore_n 2] mkX2_candlesOfAll (by decide +kernel) rfl rfl ?_
  refine Wp.for (nd N) (fun i L hh => L = [some (.ref 11), some (.int (sumF (fun d => dK N d 2) i)), some (.int (nI i))] ∧ h = hh) ?_ ?_ (0) (by omega) _ _ ?_
  · rintro i L hh hi ⟨rfl, hJ⟩ ih
    subst hJ
    refine p_run (pc' := 9) [.iload_n 2, .aload_n 0, .getfield 45] mkX2_candlesOfAll (by decide +kernel) rfl rfl ?_
    rw [hR.1.1, en]
    refine p_icmp_ge (off := 21) 30 (by decide +kernel) (by decide) (fun cqh => ?_) (fun cqh => ?_)
    · exact absurd cqh (nI_ge (by omega) (by omega))
    · refine p_run (pc' := 18) [.iload_n 1, .aload_n 0, .getfield 24, .iload_n 2] mkX2_candlesOfAll (by decide +kernel) rfl rfl ?_
      refine p_aald (i) (by decide +kernel) (by decide) rfl (by decide) rfl (by omega) (rfD11 i (by omega)) ?_
      refine p_getI (by decide +kernel) fo2_73 (obD pp11 (by omega)).1 (obD pp11 (by omega)).2.1 ((obD pp11 (by omega)).2.2 _) ?_
      rw [hR.2.2.1 i (by omega) 2 (by omega)]
      refine p_run (pc' := 4) [.iadd, .istore_n 1, .iinc 2 1, .goto (-23)] mkX2_candlesOfAll (by decide +kernel) rfl rfl ?_
      exact ih _ _ ⟨by rw [show nI i + Int32.ofInt 1 = nI (i + 1) by simp only [oI, nI_add]]; rfl, rfl⟩
  · rintro L hh ⟨rfl, hJ⟩
    subst hJ
    refine p_run (pc' := 9) [.iload_n 2, .aload_n 0, .getfield 45] mkX2_candlesOfAll (by decide +kernel) rfl rfl ?_
    rw [hR.1.1, en]
    refine p_icmp_ge (off := 21) 30 (by decide +kernel) (by decide) (fun cqh => ?_) (fun cqh => ?_)
    · refine p_run (pc' := 31) [.iload_n 1] mkX2_candlesOfAll (by decide +kernel) rfl rfl ?_
      refine p_iret rfl rfl (by decide +kernel) ?_
      exact ⟨rfl, rfl⟩
    · exact absurd (nI_le (Nat.le_refl _) (by omega)) cqh
  · exact ⟨rfl, rfl⟩
set_option maxRecDepth 20000 in
set_option maxHeartbeats 4000000 in
theorem cdiggersIn11 (w : Wt) {k : Nat} (b : Nat) (N : Vc) (h : Mm) (hI : Iv N) (hR : PR 11 h N) : Ok w k MX2_diggersIn [.ref 11, .int (nI b)] h (Rv (nI (setF (inB N b) (nd N))) h) := by
  show Wp w k MX2_diggersIn _ 0 [some (.ref 11), some (.int (nI b)), none, none] [] h
  obtain ⟨en, hn10⟩ := hI.nd
  refine p_run (pc' := 4) [.iconst 0, .istore_n 2, .iconst 0, .istore_n 3] mkX2_diggersIn (by decide +kernel) rfl rfl ?_
  refine Wp.for (nd N) (fun i L hh => L = [some (.ref 11), some (.int (nI b)), some (.int (nI (setF (inB N b) i))), some (.int (nI i))] ∧ h = hh) ?_ ?_ (0) (by omega) _ _ ?_
  · rintro i L hh hi ⟨rfl, hJ⟩ ih
    subst hJ
    refine p_run (pc' := 9) [.iload_n 3, .aload_n 0, .getfield 45] mkX2_diggersIn (by decide +kernel) rfl rfl ?_
    rw [hR.1.1, en]
    refine p_icmp_ge (off := 28) 37 (by decide +kernel) (by decide) (fun cqh => ?_) (fun cqh => ?_)
    · exact absurd cqh (nI_ge (by omega) (by omega))
    · refine p_run (pc' := 17) [.aload_n 0, .getfield 24, .iload_n 3] mkX2_diggersIn (by decide +kernel) rfl rfl ?_
      refine p_aald (i) (by decide +kernel) (by decide) rfl (by decide) rfl (by omega) (rfD11 i (by omega)) ?_
      refine p_getI (by decide +kernel) fo2_76 (obD pp11 (by omega)).1 (obD pp11 (by omega)).2.1 ((obD pp11 (by omega)).2.2 _) ?_
      rw [hR.2.2.1 i (by omega) 3 (by omega)]
      refine p_run (pc' := 22) [.iload_n 1] mkX2_diggersIn (by decide +kernel) rfl rfl ?_
      refine p_icmp_ne (off := 9) 31 (by decide +kernel) (by decide) (fun cq1 => ?_) (fun cq1 => ?_)
      · refine p_run (pc' := 4) [.iinc 3 1, .goto (-30)] mkX2_diggersIn (by decide +kernel) rfl rfl ?_
        exact ih _ _ ⟨by rw [show nI i + Int32.ofInt 1 = nI (i + 1) by simp only [oI, nI_add], setF, if_neg (fun q => cq1 (inB_iff.mp q))]; rfl, rfl⟩
      · refine p_run (pc' := 4) [.iload_n 2, .iconst 1, .iload_n 3, .ishl, .ior, .istore_n 2, .iinc 3 1, .goto (-30)] mkX2_diggersIn (by decide +kernel) rfl rfl ?_
        exact ih _ _ ⟨by rw [show nI i + Int32.ofInt 1 = nI (i + 1) by simp only [oI, nI_add], setF, if_pos (inB_iff.mpr cq1), oI, shl1 i (by omega), or_pow (setF_lt _ _)], rfl⟩
  · rintro L hh ⟨rfl, hJ⟩
    subst hJ
    refine p_run (pc' := 9) [.iload_n 3, .aload_n 0, .getfield 45] mkX2_diggersIn (by decide +kernel) rfl rfl ?_
    rw [hR.1.1, en]
    refine p_icmp_ge (off := 28) 37 (by decide +kernel) (by decide) (fun cqh => ?_) (fun cqh => ?_)
    · refine p_run (pc' := 38) [.iload_n 2] mkX2_diggersIn (by decide +kernel) rfl rfl ?_
      refine p_iret rfl rfl (by decide +kernel) ?_
      exact ⟨rfl, rfl⟩
    · exact absurd (nI_le (Nat.le_refl _) (by omega)) cqh
  · exact ⟨rfl, rfl⟩
set_option maxRecDepth 20000 in
set_option maxHeartbeats 4000000 in
theorem clitIn11 (w : Wt) {k : Nat} (hk : 1 ≤ k) (b : Nat) (N : Vc) (h : Mm) (hI : Iv N) (hR : PR 11 h N) : Ok w k MX2_litIn [.ref 11, .int (nI b)] h (Rv (nI (cntF (litB N b) (nd N))) h) := by
  show Wp w k MX2_litIn _ 0 [some (.ref 11), some (.int (nI b)), none, none] [] h
  obtain ⟨en, hn10⟩ := hI.nd
  refine p_run (pc' := 4) [.iconst 0, .istore_n 2, .iconst 0, .istore_n 3] mkX2_litIn (by decide +kernel) rfl rfl ?_
  refine Wp.for (nd N) (fun i L hh => L = [some (.ref 11), some (.int (nI b)), some (.int (nI (cntF (litB N b) i))), some (.int (nI i))] ∧ h = hh) ?_ ?_ (0) (by omega) _ _ ?_
  · rintro i L hh hi ⟨rfl, hJ⟩ ih
    subst hJ
    refine p_run (pc' := 9) [.iload_n 3, .aload_n 0, .getfield 45] mkX2_litIn (by decide +kernel) rfl rfl ?_
    rw [hR.1.1, en]
    refine p_icmp_ge (off := 37) 46 (by decide +kernel) (by decide) (fun cqh => ?_) (fun cqh => ?_)
    · exact absurd cqh (nI_ge (by omega) (by omega))
    · refine p_run (pc' := 17) [.aload_n 0, .getfield 24, .iload_n 3] mkX2_litIn (by decide +kernel) rfl rfl ?_
      refine p_aald (i) (by decide +kernel) (by decide) rfl (by decide) rfl (by omega) (rfD11 i (by omega)) ?_
      refine p_getI (by decide +kernel) fo2_76 (obD pp11 (by omega)).1 (obD pp11 (by omega)).2.1 ((obD pp11 (by omega)).2.2 _) ?_
      rw [hR.2.2.1 i (by omega) 3 (by omega)]
      refine p_run (pc' := 22) [.iload_n 1] mkX2_litIn (by decide +kernel) rfl rfl ?_
      refine p_icmp_ne (off := 18) 40 (by decide +kernel) (by decide) (fun cq1 => ?_) (fun cq1 => ?_)
      · refine p_run (pc' := 4) [.iinc 3 1, .goto (-39)] mkX2_litIn (by decide +kernel) rfl rfl ?_
        exact ih _ _ ⟨by rw [show nI i + Int32.ofInt 1 = nI (i + 1) by simp only [oI, nI_add], cntF, if_neg (fun q => cq1 (litB_iff.mp q).1)]; rfl, rfl⟩
      · refine p_run (pc' := 30) [.aload_n 0, .getfield 24, .iload_n 3] mkX2_litIn (by decide +kernel) rfl rfl ?_
        refine p_aald (i) (by decide +kernel) (by decide) rfl (by decide) rfl (by omega) (rfD11 i (by omega)) ?_
        refine p_callVv (isLit_ok w (k := k - 1) _ (obD pp11 (by omega)) h) kvX2_116 (by decide +kernel) (obD pp11 (by omega)).1 (obD pp11 (by omega)).2.1 (by omega) rfl rfl rfl rfl rfl ?_
        rw [hR.2.2.1 i (by omega) 2 (by omega)]
        refine p_if_eq (off := 6) 40 (by decide +kernel) (by decide) (fun cq2 => ?_) (fun cq2 => ?_)
        · refine p_run (pc' := 4) [.iinc 3 1, .goto (-39)] mkX2_litIn (by decide +kernel) rfl rfl ?_
          exact ih _ _ ⟨by rw [show nI i + Int32.ofInt 1 = nI (i + 1) by simp only [oI, nI_add], cntF, if_neg (fun q => bI0.mp cq2 (litB_iff.mp q).2)]; rfl, rfl⟩
        · refine p_run (pc' := 4) [.iinc 2 1, .iinc 3 1, .goto (-39)] mkX2_litIn (by decide +kernel) rfl rfl ?_
          exact ih _ _ ⟨by rw [show nI i + Int32.ofInt 1 = nI (i + 1) by simp only [oI, nI_add], cntF, if_pos (litB_iff.mpr ⟨cq1, bI1.mp cq2⟩), oI, nI_add], rfl⟩
  · rintro L hh ⟨rfl, hJ⟩
    subst hJ
    refine p_run (pc' := 9) [.iload_n 3, .aload_n 0, .getfield 45] mkX2_litIn (by decide +kernel) rfl rfl ?_
    rw [hR.1.1, en]
    refine p_icmp_ge (off := 37) 46 (by decide +kernel) (by decide) (fun cqh => ?_) (fun cqh => ?_)
    · refine p_run (pc' := 47) [.iload_n 2] mkX2_litIn (by decide +kernel) rfl rfl ?_
      refine p_iret rfl rfl (by decide +kernel) ?_
      exact ⟨rfl, rfl⟩
    · exact absurd (nI_le (Nat.le_refl _) (by omega)) cqh
  · exact ⟨rfl, rfl⟩
set_option maxRecDepth 20000 in
set_option maxHeartbeats 4000000 in
theorem cdugOfAll11 (w : Wt) {k : Nat} (N : Vc) (h : Mm) (hI : Iv N) (hR : PR 11 h N) : Ok w k MX2_dugOfAll [.ref 11] h (Rv (sumF (fun b => bK N b 0) 4) h) := by
  show Wp w k MX2_dugOfAll _ 0 [some (.ref 11), none, none] [] h
  refine p_run (pc' := 4) [.iconst 0, .istore_n 1, .iconst 0, .istore_n 2] mkX2_dugOfAll (by decide +kernel) rfl rfl ?_
  refine Wp.for (4) (fun i L hh => L = [some (.ref 11), some (.int (sumF (fun b => bK N b 0) i)), some (.int (nI i))] ∧ h = hh) ?_ ?_ (0) (by omega) _ _ ?_
  · rintro i L hh hi ⟨rfl, hJ⟩ ih
    subst hJ
    refine p_run (pc' := 6) [.iload_n 2, .iconst 4] mkX2_dugOfAll (by decide +kernel) rfl rfl ?_
    refine p_icmp_ge (off := 21) 27 (by decide +kernel) (by decide) (fun cqh => ?_) (fun cqh => ?_)
    · exact False.elim (by rw [oI, nI_leI (by omega) (by omega)] at cqh; omega)
    · refine p_run (pc' := 15) [.iload_n 1, .aload_n 0, .getfield 17, .iload_n 2] mkX2_dugOfAll (by decide +kernel) rfl rfl ?_
      refine p_aald (i) (by decide +kernel) (by decide) rfl (by decide) rfl (by omega) (rfB11 i (by omega)) ?_
      refine p_getI (by decide +kernel) fo2_127 (obB pp11 (by omega)).1 (obB pp11 (by omega)).2.1 ((obB pp11 (by omega)).2.2 _) ?_
      rw [hR.2.1 i (by omega) 0 (by omega)]
      refine p_run (pc' := 4) [.iadd, .istore_n 1, .iinc 2 1, .goto (-20)] mkX2_dugOfAll (by decide +kernel) rfl rfl ?_
      exact ih _ _ ⟨by rw [show nI i + Int32.ofInt 1 = nI (i + 1) by simp only [oI, nI_add]]; rfl, rfl⟩
  · rintro L hh ⟨rfl, hJ⟩
    subst hJ
    refine p_run (pc' := 6) [.iload_n 2, .iconst 4] mkX2_dugOfAll (by decide +kernel) rfl rfl ?_
    refine p_icmp_ge (off := 21) 27 (by decide +kernel) (by decide) (fun cqh => ?_) (fun cqh => ?_)
    · refine p_run (pc' := 28) [.iload_n 1] mkX2_dugOfAll (by decide +kernel) rfl rfl ?_
      refine p_iret rfl rfl (by decide +kernel) ?_
      exact ⟨rfl, rfl⟩
    · exact False.elim (by revert cqh; decide)
  · exact ⟨rfl, rfl⟩
set_option maxRecDepth 20000 in
set_option maxHeartbeats 4000000 in
theorem cisFar11 (w : Wt) {k : Nat} (hk : 1 ≤ k) (d : Nat) (hd : d < 10) (N : Vc) (h : Mm) (hI : Iv N) (hR : PR 11 h N) (hdn : d < nd N) : Ok w k MX2_isFar [.ref 11, .ref (11 + 7 + d)] h (Rv (bI (nI 40 < ahF N (brF N d))) h) := by
  show Wp w k MX2_isFar _ 0 [some (.ref 11), some (.ref (11 + 7 + d))] [] h
  obtain ⟨eb, hb4⟩ := hI.br hd
  have hn10 := hI.nd.2
  refine p_run (pc' := 5) [.aload_n 0, .getfield 17, .aload_n 1] mkX2_isFar (by decide +kernel) rfl rfl ?_
  refine p_getI (by decide +kernel) fo2_76 (obD pp11 hd).1 (obD pp11 hd).2.1 ((obD pp11 hd).2.2 _) ?_
  refine Wp.eqS (st' := [.int (nI (brF N d)), .ref 12]) (by rw [hR.2.2.1 d hdn 3 (by omega)]; exact congrArg (fun x => [Value.int x, .ref 12]) eb) ?_
  refine p_aald (brF N d) (by decide +kernel) (by decide) rfl (by decide) rfl (by omega) (rfB11 (brF N d) (by omega)) ?_
  refine p_callVv (cahead_ok w (k := k - 1) _ (obB pp11 hb4) h) kvX2_162 (by decide +kernel) (obB pp11 (by omega)).1 (obB pp11 (by omega)).2.1 (by omega) rfl rfl rfl rfl rfl ?_
  rw [hR.2.1 _ hb4 0 (by omega), hR.2.1 _ hb4 2 (by omega)]
  refine p_run (pc' := 14) [.bipush 40] mkX2_isFar (by decide +kernel) rfl rfl ?_
  refine p_icmp_le (off := 7) 21 (by decide +kernel) (by decide) (fun cq1 => ?_) (fun cq1 => ?_)
  · refine p_run (pc' := 22) [.iconst 0] mkX2_isFar (by decide +kernel) rfl rfl ?_
    refine p_iret rfl rfl (by decide +kernel) ?_
    exact ⟨by rw [bIf (p := nI 40 < ahF N (brF N d)) (Int32.not_lt.mpr cq1)]; rfl, rfl⟩
  · refine p_run (pc' := 22) [.iconst 1, .goto 4] mkX2_isFar (by decide +kernel) rfl rfl ?_
    refine p_iret rfl rfl (by decide +kernel) ?_
    exact ⟨by rw [bIt (p := nI 40 < ahF N (brF N d)) (Int32.not_le.mp cq1)]; rfl, rfl⟩
set_option maxRecDepth 20000 in
set_option maxHeartbeats 4000000 in
theorem cburns11 (w : Wt) {k : Nat} (hk : 2 ≤ k) (d : Nat) (N : Vc) (h : Mm) (hI : Iv N) (hR : PR 11 h N) (hdn : d < nd N) : Ok w k MX2_burns [.ref 11, .int (nI d)] h (Rv (buF N d) h) := by
  show Wp w k MX2_burns _ 0 [some (.ref 11), some (.int (nI d)), none] [] h
  have hn10 := hI.nd.2
  have hk0 := (hI.2.2.2.2.2.1 d (by omega)).1
  refine p_run (pc' := 5) [.aload_n 0, .getfield 24, .iload_n 1] mkX2_burns (by decide +kernel) rfl rfl ?_
  refine p_aald (d) (by decide +kernel) (by decide) rfl (by decide) rfl (by omega) (rfD11 d (by omega)) ?_
  refine p_run (pc' := 8) [.astore_n 2, .aload_n 2] mkX2_burns (by decide +kernel) rfl rfl ?_
  refine p_getI (by decide +kernel) fo2_67 (obD pp11 (by omega)).1 (obD pp11 (by omega)).2.1 ((obD pp11 (by omega)).2.2 _) ?_
  rw [hR.2.2.1 d hdn 0 (by omega)]
  refine p_table (dflt := 55) (lo := 1) (hi := 5) (offs := #[33, 49, 35, 51, 53]) (len := 33) (by decide +kernel) (by decide) (fun j hj hx => ?_) (fun hx => ?_)
  · match j, hj, hx with
    | 0, _, hx =>
      have hx : dK N d 0 = Int32.ofInt (1) := hx
      refine ⟨33, 44, rfl, rfl, ?_⟩
      have hv : nN (dK N d 0) = 1 := kd_case (by omega) hx
      refine p_run (pc' := 45) [.iconst 2] mkX2_burns (by decide +kernel) rfl rfl ?_
      refine p_iret rfl rfl (by decide +kernel) ?_
      exact ⟨by unfold buF; rw [hv]; rfl, rfl⟩
    | 1, _, hx =>
      have hx : dK N d 0 = Int32.ofInt (2) := hx
      refine ⟨49, 60, rfl, rfl, ?_⟩
      have hv : nN (dK N d 0) = 2 := kd_case (by omega) hx
      refine p_run (pc' := 61) [.iconst 0] mkX2_burns (by decide +kernel) rfl rfl ?_
      refine p_iret rfl rfl (by decide +kernel) ?_
      exact ⟨by unfold buF; rw [hv]; rfl, rfl⟩
    | 2, _, hx =>
      have hx : dK N d 0 = Int32.ofInt (3) := hx
      refine ⟨35, 46, rfl, rfl, ?_⟩
      have hv : nN (dK N d 0) = 3 := kd_case (by omega) hx
      refine p_run (pc' := 48) [.aload_n 0, .aload_n 2] mkX2_burns (by decide +kernel) rfl rfl ?_
      refine p_callVv (cisFar11 w (k := k - 1) (by omega) d (by omega) N h hI hR hdn) kvX2_155 (by decide +kernel) (by decide) rfl (by omega) rfl rfl rfl rfl rfl ?_
      refine p_if_eq (off := 7) 58 (by decide +kernel) (by decide) (fun cq51 => ?_) (fun cq51 => ?_)
      · have cq51 := bI0.mp cq51
        refine p_run (pc' := 59) [.iconst 2] mkX2_burns (by decide +kernel) rfl rfl ?_
        refine p_iret rfl rfl (by decide +kernel) ?_
        exact ⟨by unfold buF; rw [hv]; simp only [if_neg cq51]; rfl, rfl⟩
      · have cq51 := bI1.mp cq51
        refine p_run (pc' := 59) [.iconst 0, .goto 4] mkX2_burns (by decide +kernel) rfl rfl ?_
        refine p_iret rfl rfl (by decide +kernel) ?_
        exact ⟨by unfold buF; rw [hv]; simp only [if_pos cq51]; rfl, rfl⟩
    | 3, _, hx =>
      have hx : dK N d 0 = Int32.ofInt (4) := hx
      refine ⟨51, 62, rfl, rfl, ?_⟩
      have hv : nN (dK N d 0) = 4 := kd_case (by omega) hx
      refine p_run (pc' := 63) [.iconst 3] mkX2_burns (by decide +kernel) rfl rfl ?_
      refine p_iret rfl rfl (by decide +kernel) ?_
      exact ⟨by unfold buF; rw [hv]; rfl, rfl⟩
    | 4, _, hx =>
      have hx : dK N d 0 = Int32.ofInt (5) := hx
      refine ⟨53, 64, rfl, rfl, ?_⟩
      have hv : nN (dK N d 0) = 5 := kd_case (by omega) hx
      refine p_run (pc' := 65) [.iconst 2] mkX2_burns (by decide +kernel) rfl rfl ?_
      refine p_iret rfl rfl (by decide +kernel) ?_
      exact ⟨by unfold buF; rw [hv]; rfl, rfl⟩
    | j + 5, hj, _ => exact absurd hj (by simp)
  · refine ⟨66, rfl, ?_⟩
    have hv : nN (dK N d 0) = 0 := kd_dflt hk0 hx
    refine p_run (pc' := 67) [.iconst 1] mkX2_burns (by decide +kernel) rfl rfl ?_
    refine p_iret rfl rfl (by decide +kernel) ?_
    exact ⟨by unfold buF; rw [hv]; rfl, rfl⟩
theorem feB_iff11 {N : Vc} {d i : Nat} : feB N d i = true ↔ ((dK N i 0 = nI 2 ∨ dK N i 0 = nI 4) ∧ i ≠ d) ∧ litB N (brF N d) i = true := by unfold feB; rw [Bool.and_eq_true, decide_eq_true_iff]
set_option maxRecDepth 20000 in
set_option maxHeartbeats 4000000 in
theorem cmatesOf11 (w : Wt) {k : Nat} (hk : 1 ≤ k) (d : Nat) (N : Vc) (h : Mm) (hI : Iv N) (hR : PR 11 h N) (hdn : d < nd N) : Ok w k MX2_matesOf [.ref 11, .int (nI d)] h (Rv (nI (cntF (feB N d) (nd N))) h) := by
  show Wp w k MX2_matesOf _ 0 [some (.ref 11), some (.int (nI d)), none, none, none] [] h
  obtain ⟨en, hn10⟩ := hI.nd
  refine p_run (pc' := 4) [.iconst 0, .istore_n 2, .iconst 0, .istore_n 3] mkX2_matesOf (by decide +kernel) rfl rfl ?_
  refine Wp.for (nd N) (fun i L hh => ∃ (x4 : Option Value), L = [some (.ref 11), some (.int (nI d)), some (.int (nI (cntF (feB N d) i))), some (.int (nI i)), x4] ∧ h = hh) ?_ ?_ (0) (by omega) _ _ ?_
  · rintro i L hh hi ⟨x4, rfl, hJ⟩ ih
    subst hJ
    refine p_run (pc' := 9) [.iload_n 3, .aload_n 0, .getfield 45] mkX2_matesOf (by decide +kernel) rfl rfl ?_
    rw [hR.1.1, en]
    refine p_icmp_ge (off := 59) 68 (by decide +kernel) (by decide) (fun cqh => ?_) (fun cqh => ?_)
    · exact absurd cqh (nI_ge (by omega) (by omega))
    · obtain ⟨eb, hb4⟩ := hI.br (d := d) (by omega)
      have hki := (hI.2.2.2.2.2.1 i (by omega)).1
      have hki2 := hki.2
      refine p_run (pc' := 17) [.aload_n 0, .getfield 24, .iload_n 3] mkX2_matesOf (by decide +kernel) rfl rfl ?_
      refine p_aald (i) (by decide +kernel) (by decide) rfl (by decide) rfl (by omega) (rfD11 i (by omega)) ?_
      refine p_run (pc' := 22) [.astore 4, .iload_n 3, .iload_n 1] mkX2_matesOf (by decide +kernel) rfl rfl ?_
      refine p_icmp_eq (off := 40) 62 (by decide +kernel) (by decide) (fun cq1 => ?_) (fun cq1 => ?_)
      · refine p_run (pc' := 4) [.iinc 3 1, .goto (-61)] mkX2_matesOf (by decide +kernel) rfl rfl ?_
        exact ih _ _ ⟨_, by rw [show nI i + Int32.ofInt 1 = nI (i + 1) by simp only [oI, nI_add], cntF, if_neg (fun q => (feB_iff11.mp q).1.2 ((nI_eq (by omega) (by omega)).mp cq1))]; rfl, rfl⟩
      · refine p_run (pc' := 27) [.aload 4] mkX2_matesOf (by decide +kernel) rfl rfl ?_
        refine p_callVv (isLit_ok w (k := k - 1) _ (obD pp11 (by omega)) h) kvX2_116 (by decide +kernel) (obD pp11 (by omega)).1 (obD pp11 (by omega)).2.1 (by omega) rfl rfl rfl rfl rfl ?_
        rw [hR.2.2.1 i (by omega) 2 (by omega)]
        refine p_if_eq (off := 32) 62 (by decide +kernel) (by decide) (fun cq2 => ?_) (fun cq2 => ?_)
        · refine p_run (pc' := 4) [.iinc 3 1, .goto (-61)] mkX2_matesOf (by decide +kernel) rfl rfl ?_
          exact ih _ _ ⟨_, by rw [show nI i + Int32.ofInt 1 = nI (i + 1) by simp only [oI, nI_add], cntF, if_neg (fun q => bI0.mp cq2 (litB_iff.mp (feB_iff11.mp q).2).2)]; rfl, rfl⟩
        · refine p_run (pc' := 35) [.aload 4] mkX2_matesOf (by decide +kernel) rfl rfl ?_
          refine p_getI (by decide +kernel) fo2_76 (obD pp11 (by omega)).1 (obD pp11 (by omega)).2.1 ((obD pp11 (by omega)).2.2 _) ?_
          rw [hR.2.2.1 i (by omega) 3 (by omega)]
          refine p_run (pc' := 43) [.aload_n 0, .getfield 24, .iload_n 1] mkX2_matesOf (by decide +kernel) rfl rfl ?_
          refine p_aald (d) (by decide +kernel) (by decide) rfl (by decide) rfl (by omega) (rfD11 d (by omega)) ?_
          refine p_getI (by decide +kernel) fo2_76 (obD pp11 (by omega)).1 (obD pp11 (by omega)).2.1 ((obD pp11 (by omega)).2.2 _) ?_
          rw [hR.2.2.1 d hdn 3 (by omega)]
          refine p_icmp_ne (off := 15) 62 (by decide +kernel) (by decide) (fun cq3 => ?_) (fun cq3 => ?_)
          · refine p_run (pc' := 4) [.iinc 3 1, .goto (-61)] mkX2_matesOf (by decide +kernel) rfl rfl ?_
            exact ih _ _ ⟨_, by rw [show nI i + Int32.ofInt 1 = nI (i + 1) by simp only [oI, nI_add], cntF, if_neg (fun q => cq3 ((litB_iff.mp (feB_iff11.mp q).2).1.trans eb.symm))]; rfl, rfl⟩
          · refine p_run (pc' := 53) [.aload 4, .iconst 2] mkX2_matesOf (by decide +kernel) rfl rfl ?_
            refine p_callVv (isOne_ok w (k := k - 1) _ 2 (nN (dK N i 0)) (obD pp11 (by omega)) (by omega) hki2 h (by rw [hR.2.2.1 i (by omega) 0 (by omega)]; exact hki.1)) kvX2_181 (by decide +kernel) (obD pp11 (by omega)).1 (obD pp11 (by omega)).2.1 (by omega) rfl rfl rfl rfl rfl ?_
            refine p_if_eq (off := 6) 62 (by decide +kernel) (by decide) (fun cq4 => ?_) (fun cq4 => ?_)
            · refine p_run (pc' := 4) [.iinc 3 1, .goto (-61)] mkX2_matesOf (by decide +kernel) rfl rfl ?_
              exact ih _ _ ⟨_, by rw [show nI i + Int32.ofInt 1 = nI (i + 1) by simp only [oI, nI_add], cntF, if_neg (fun q => bI0.mp cq4 (by unfold unP; rcases (feB_iff11.mp q).1.1 with z | z <;> rw [z, nN_nI (by omega)] <;> omega))]; rfl, rfl⟩
            · refine p_run (pc' := 4) [.iinc 2 1, .iinc 3 1, .goto (-61)] mkX2_matesOf (by decide +kernel) rfl rfl ?_
              have hu := bI1.mp cq4
              exact ih _ _ ⟨_, by rw [show nI i + Int32.ofInt 1 = nI (i + 1) by simp only [oI, nI_add], cntF, if_pos (feB_iff11.mpr ⟨⟨by unfold unP at hu; rcases hu with z | z | z | z; omega; exact Or.inl (by rw [hki.1, z]); omega; exact Or.inr (by rw [hki.1, z.2]), fun q => cq1 (by rw [q])⟩, litB_iff.mpr ⟨cq3.trans eb, bI1.mp cq2⟩⟩), oI, nI_add], rfl⟩
  · rintro L hh ⟨x4, rfl, hJ⟩
    subst hJ
    refine p_run (pc' := 9) [.iload_n 3, .aload_n 0, .getfield 45] mkX2_matesOf (by decide +kernel) rfl rfl ?_
    rw [hR.1.1, en]
    refine p_icmp_ge (off := 59) 68 (by decide +kernel) (by decide) (fun cqh => ?_) (fun cqh => ?_)
    · refine p_run (pc' := 69) [.iload_n 2] mkX2_matesOf (by decide +kernel) rfl rfl ?_
      refine p_iret rfl rfl (by decide +kernel) ?_
      exact ⟨rfl, rfl⟩
    · exact absurd (nI_le (Nat.le_refl _) (by omega)) cqh
  · exact ⟨_, rfl, rfl⟩
set_option maxRecDepth 20000 in
set_option maxHeartbeats 4000000 in
theorem cdraw11 (w : Wt) {k : Nat} (h : Mm) : Ok w k MX2_draw [.ref 11] h (Rv (nI (dvN (zF (h 11 11)))) (up h 11 11 (zF (h 11 11)))) := by
  show Wp w k MX2_draw _ 0 [some (.ref 11)] [] h
  refine p_run (pc' := 22) [.aload_n 0, .aload_n 0, .getfield 38, .ldc 90, .imul, .sipush 12345, .iadd, .putfield 38, .aload_n 0, .getfield 38, .bipush 8, .iushr] mkX2_draw (by decide +kernel) rfl rfl ?_
  refine p_iret rfl rfl (by decide +kernel) ?_
  refine ⟨?_, ?_⟩
  · exact congrArg (fun x => some (Value.int x)) ((ushr8 _).trans (by rw [uF]; rfl))
  · rfl
set_option maxRecDepth 20000 in
set_option maxHeartbeats 4000000 in
theorem chill47 (w : Wt) {k : Nat} (N : Vc) (h : Mm) (hI : Iv N) (hR : PR 47 h N) : Ok w k MX2_hill [.ref 47] h (Rv (sumF (fun d => dK N d 4) (nd N)) h) := by
  show Wp w k MX2_hill _ 0 [some (.ref 47), none, none] [] h
  obtain ⟨en, hn10⟩ := hI.nd
  refine p_run (pc' := 4) [.iconst 0, .istore_n 1, .iconst 0, .istore_n 2] mkX2_hill (by decide +kernel) rfl rfl ?_
  refine Wp.for (nd N) (fun i L hh => L = [some (.ref 47), some (.int (sumF (fun d => dK N d 4) i)), some (.int (nI i))] ∧ h = hh) ?_ ?_ (0) (by omega) _ _ ?_
  · rintro i L hh hi ⟨rfl, hJ⟩ ih
    subst hJ
    refine p_run (pc' := 9) [.iload_n 2, .aload_n 0, .getfield 45] mkX2_hill (by decide +kernel) rfl rfl ?_
    rw [hR.1.1, en]
    refine p_icmp_ge (off := 21) 30 (by decide +kernel) (by decide) (fun cqh => ?_) (fun cqh => ?_)
    · exact absurd cqh (nI_ge (by omega) (by omega))
    · refine p_run (pc' := 18) [.iload_n 1, .aload_n 0, .getfield 24, .iload_n 2] mkX2_hill (by decide +kernel) rfl rfl ?_
      refine p_aald (i) (by decide +kernel) (by decide) rfl (by decide) rfl (by omega) (rfD47 i (by omega)) ?_
      refine p_getI (by decide +kernel) fo2_79 (obD pp47 (by omega)).1 (obD pp47 (by omega)).2.1 ((obD pp47 (by omega)).2.2 _) ?_
      rw [hR.2.2.1 i (by omega) 4 (by omega)]
      refine p_run (pc' := 4) [.iadd, .istore_n 1, .iinc 2 1, .goto (-23)] mkX2_hill (by decide +kernel) rfl rfl ?_
      exact ih _ _ ⟨by rw [show nI i + Int32.ofInt 1 = nI (i + 1) by simp only [oI, nI_add]]; rfl, rfl⟩
  · rintro L hh ⟨rfl, hJ⟩
    subst hJ
    refine p_run (pc' := 9) [.iload_n 2, .aload_n 0, .getfield 45] mkX2_hill (by decide +kernel) rfl rfl ?_
    rw [hR.1.1, en]
    refine p_icmp_ge (off := 21) 30 (by decide +kernel) (by decide) (fun cqh => ?_) (fun cqh => ?_)
    · refine p_run (pc' := 31) [.iload_n 1] mkX2_hill (by decide +kernel) rfl rfl ?_
      refine p_iret rfl rfl (by decide +kernel) ?_
      exact ⟨rfl, rfl⟩
    · exact absurd (nI_le (Nat.le_refl _) (by omega)) cqh
  · exact ⟨rfl, rfl⟩
set_option maxRecDepth 20000 in
set_option maxHeartbeats 4000000 in
theorem cdiggersIn47 (w : Wt) {k : Nat} (b : Nat) (N : Vc) (h : Mm) (hI : Iv N) (hR : PR 47 h N) : Ok w k MX2_diggersIn [.ref 47, .int (nI b)] h (Rv (nI (setF (inB N b) (nd N))) h) := by
  show Wp w k MX2_diggersIn _ 0 [some (.ref 47), some (.int (nI b)), none, none] [] h
  obtain ⟨en, hn10⟩ := hI.nd
  refine p_run (pc' := 4) [.iconst 0, .istore_n 2, .iconst 0, .istore_n 3] mkX2_diggersIn (by decide +kernel) rfl rfl ?_
  refine Wp.for (nd N) (fun i L hh => L = [some (.ref 47), some (.int (nI b)), some (.int (nI (setF (inB N b) i))), some (.int (nI i))] ∧ h = hh) ?_ ?_ (0) (by omega) _ _ ?_
  · rintro i L hh hi ⟨rfl, hJ⟩ ih
    subst hJ
    refine p_run (pc' := 9) [.iload_n 3, .aload_n 0, .getfield 45] mkX2_diggersIn (by decide +kernel) rfl rfl ?_
    rw [hR.1.1, en]
    refine p_icmp_ge (off := 28) 37 (by decide +kernel) (by decide) (fun cqh => ?_) (fun cqh => ?_)
    · exact absurd cqh (nI_ge (by omega) (by omega))
    · refine p_run (pc' := 17) [.aload_n 0, .getfield 24, .iload_n 3] mkX2_diggersIn (by decide +kernel) rfl rfl ?_
      refine p_aald (i) (by decide +kernel) (by decide) rfl (by decide) rfl (by omega) (rfD47 i (by omega)) ?_
      refine p_getI (by decide +kernel) fo2_76 (obD pp47 (by omega)).1 (obD pp47 (by omega)).2.1 ((obD pp47 (by omega)).2.2 _) ?_
      rw [hR.2.2.1 i (by omega) 3 (by omega)]
      refine p_run (pc' := 22) [.iload_n 1] mkX2_diggersIn (by decide +kernel) rfl rfl ?_
      refine p_icmp_ne (off := 9) 31 (by decide +kernel) (by decide) (fun cq1 => ?_) (fun cq1 => ?_)
      · refine p_run (pc' := 4) [.iinc 3 1, .goto (-30)] mkX2_diggersIn (by decide +kernel) rfl rfl ?_
        exact ih _ _ ⟨by rw [show nI i + Int32.ofInt 1 = nI (i + 1) by simp only [oI, nI_add], setF, if_neg (fun q => cq1 (inB_iff.mp q))]; rfl, rfl⟩
      · refine p_run (pc' := 4) [.iload_n 2, .iconst 1, .iload_n 3, .ishl, .ior, .istore_n 2, .iinc 3 1, .goto (-30)] mkX2_diggersIn (by decide +kernel) rfl rfl ?_
        exact ih _ _ ⟨by rw [show nI i + Int32.ofInt 1 = nI (i + 1) by simp only [oI, nI_add], setF, if_pos (inB_iff.mpr cq1), oI, shl1 i (by omega), or_pow (setF_lt _ _)], rfl⟩
  · rintro L hh ⟨rfl, hJ⟩
    subst hJ
    refine p_run (pc' := 9) [.iload_n 3, .aload_n 0, .getfield 45] mkX2_diggersIn (by decide +kernel) rfl rfl ?_
    rw [hR.1.1, en]
    refine p_icmp_ge (off := 28) 37 (by decide +kernel) (by decide) (fun cqh => ?_) (fun cqh => ?_)
    · refine p_run (pc' := 38) [.iload_n 2] mkX2_diggersIn (by decide +kernel) rfl rfl ?_
      refine p_iret rfl rfl (by decide +kernel) ?_
      exact ⟨rfl, rfl⟩
    · exact absurd (nI_le (Nat.le_refl _) (by omega)) cqh
  · exact ⟨rfl, rfl⟩
set_option maxRecDepth 20000 in
set_option maxHeartbeats 4000000 in
theorem clitIn47 (w : Wt) {k : Nat} (hk : 1 ≤ k) (b : Nat) (N : Vc) (h : Mm) (hI : Iv N) (hR : PR 47 h N) : Ok w k MX2_litIn [.ref 47, .int (nI b)] h (Rv (nI (cntF (litB N b) (nd N))) h) := by
  show Wp w k MX2_litIn _ 0 [some (.ref 47), some (.int (nI b)), none, none] [] h
  obtain ⟨en, hn10⟩ := hI.nd
  refine p_run (pc' := 4) [.iconst 0, .istore_n 2, .iconst 0, .istore_n 3] mkX2_litIn (by decide +kernel) rfl rfl ?_
  refine Wp.for (nd N) (fun i L hh => L = [some (.ref 47), some (.int (nI b)), some (.int (nI (cntF (litB N b) i))), some (.int (nI i))] ∧ h = hh) ?_ ?_ (0) (by omega) _ _ ?_
  · rintro i L hh hi ⟨rfl, hJ⟩ ih
    subst hJ
    refine p_run (pc' := 9) [.iload_n 3, .aload_n 0, .getfield 45] mkX2_litIn (by decide +kernel) rfl rfl ?_
    rw [hR.1.1, en]
    refine p_icmp_ge (off := 37) 46 (by decide +kernel) (by decide) (fun cqh => ?_) (fun cqh => ?_)
    · exact absurd cqh (nI_ge (by omega) (by omega))
    · refine p_run (pc' := 17) [.aload_n 0, .getfield 24, .iload_n 3] mkX2_litIn (by decide +kernel) rfl rfl ?_
      refine p_aald (i) (by decide +kernel) (by decide) rfl (by decide) rfl (by omega) (rfD47 i (by omega)) ?_
      refine p_getI (by decide +kernel) fo2_76 (obD pp47 (by omega)).1 (obD pp47 (by omega)).2.1 ((obD pp47 (by omega)).2.2 _) ?_
      rw [hR.2.2.1 i (by omega) 3 (by omega)]
      refine p_run (pc' := 22) [.iload_n 1] mkX2_litIn (by decide +kernel) rfl rfl ?_
      refine p_icmp_ne (off := 18) 40 (by decide +kernel) (by decide) (fun cq1 => ?_) (fun cq1 => ?_)
      · refine p_run (pc' := 4) [.iinc 3 1, .goto (-39)] mkX2_litIn (by decide +kernel) rfl rfl ?_
        exact ih _ _ ⟨by rw [show nI i + Int32.ofInt 1 = nI (i + 1) by simp only [oI, nI_add], cntF, if_neg (fun q => cq1 (litB_iff.mp q).1)]; rfl, rfl⟩
      · refine p_run (pc' := 30) [.aload_n 0, .getfield 24, .iload_n 3] mkX2_litIn (by decide +kernel) rfl rfl ?_
        refine p_aald (i) (by decide +kernel) (by decide) rfl (by decide) rfl (by omega) (rfD47 i (by omega)) ?_
        refine p_callVv (isLit_ok w (k := k - 1) _ (obD pp47 (by omega)) h) kvX2_116 (by decide +kernel) (obD pp47 (by omega)).1 (obD pp47 (by omega)).2.1 (by omega) rfl rfl rfl rfl rfl ?_
        rw [hR.2.2.1 i (by omega) 2 (by omega)]
        refine p_if_eq (off := 6) 40 (by decide +kernel) (by decide) (fun cq2 => ?_) (fun cq2 => ?_)
        · refine p_run (pc' := 4) [.iinc 3 1, .goto (-39)] mkX2_litIn (by decide +kernel) rfl rfl ?_
          exact ih _ _ ⟨by rw [show nI i + Int32.ofInt 1 = nI (i + 1) by simp only [oI, nI_add], cntF, if_neg (fun q => bI0.mp cq2 (litB_iff.mp q).2)]; rfl, rfl⟩
        · refine p_run (pc' := 4) [.iinc 2 1, .iinc 3 1, .goto (-39)] mkX2_litIn (by decide +kernel) rfl rfl ?_
          exact ih _ _ ⟨by rw [show nI i + Int32.ofInt 1 = nI (i + 1) by simp only [oI, nI_add], cntF, if_pos (litB_iff.mpr ⟨cq1, bI1.mp cq2⟩), oI, nI_add], rfl⟩
  · rintro L hh ⟨rfl, hJ⟩
    subst hJ
    refine p_run (pc' := 9) [.iload_n 3, .aload_n 0, .getfield 45] mkX2_litIn (by decide +kernel) rfl rfl ?_
    rw [hR.1.1, en]
    refine p_icmp_ge (off := 37) 46 (by decide +kernel) (by decide) (fun cqh => ?_) (fun cqh => ?_)
    · refine p_run (pc' := 47) [.iload_n 2] mkX2_litIn (by decide +kernel) rfl rfl ?_
      refine p_iret rfl rfl (by decide +kernel) ?_
      exact ⟨rfl, rfl⟩
    · exact absurd (nI_le (Nat.le_refl _) (by omega)) cqh
  · exact ⟨rfl, rfl⟩
set_option maxRecDepth 20000 in
set_option maxHeartbeats 4000000 in
theorem cdugOfAll47 (w : Wt) {k : Nat} (N : Vc) (h : Mm) (hI : Iv N) (hR : PR 47 h N) : Ok w k MX2_dugOfAll [.ref 47] h (Rv (sumF (fun b => bK N b 0) 4) h) := by
  show Wp w k MX2_dugOfAll _ 0 [some (.ref 47), none, none] [] h
  refine p_run (pc' := 4) [.iconst 0, .istore_n 1, .iconst 0, .istore_n 2] mkX2_dugOfAll (by decide +kernel) rfl rfl ?_
  refine Wp.for (4) (fun i L hh => L = [some (.ref 47), some (.int (sumF (fun b => bK N b 0) i)), some (.int (nI i))] ∧ h = hh) ?_ ?_ (0) (by omega) _ _ ?_
  · rintro i L hh hi ⟨rfl, hJ⟩ ih
    subst hJ
    refine p_run (pc' := 6) [.iload_n 2, .iconst 4] mkX2_dugOfAll (by decide +kernel) rfl rfl ?_
    refine p_icmp_ge (off := 21) 27 (by decide +kernel) (by decide) (fun cqh => ?_) (fun cqh => ?_)
    · exact False.elim (by rw [oI, nI_leI (by omega) (by omega)] at cqh; omega)
    · refine p_run (pc' := 15) [.iload_n 1, .aload_n 0, .getfield 17, .iload_n 2] mkX2_dugOfAll (by decide +kernel) rfl rfl ?_
      refine p_aald (i) (by decide +kernel) (by decide) rfl (by decide) rfl (by omega) (rfB47 i (by omega)) ?_
      refine p_getI (by decide +kernel) fo2_127 (obB pp47 (by omega)).1 (obB pp47 (by omega)).2.1 ((obB pp47 (by omega)).2.2 _) ?_
      rw [hR.2.1 i (by omega) 0 (by omega)]
      refine p_run (pc' := 4) [.iadd, .istore_n 1, .iinc 2 1, .goto (-20)] mkX2_dugOfAll (by decide +kernel) rfl rfl ?_
      exact ih _ _ ⟨by rw [show nI i + Int32.ofInt 1 = nI (i + 1) by simp only [oI, nI_add]]; rfl, rfl⟩
  · rintro L hh ⟨rfl, hJ⟩
    subst hJ
    refine p_run (pc' := 6) [.iload_n 2, .iconst 4] mkX2_dugOfAll (by decide +kernel) rfl rfl ?_
    refine p_icmp_ge (off := 21) 27 (by decide +kernel) (by decide) (fun cqh => ?_) (fun cqh => ?_)
    · refine p_run (pc' := 28) [.iload_n 1] mkX2_dugOfAll (by decide +kernel) rfl rfl ?_
      refine p_iret rfl rfl (by decide +kernel) ?_
      exact ⟨rfl, rfl⟩
    · exact False.elim (by revert cqh; decide)
  · exact ⟨rfl, rfl⟩
set_option maxRecDepth 20000 in
set_option maxHeartbeats 4000000 in
theorem cisFar47 (w : Wt) {k : Nat} (hk : 1 ≤ k) (d : Nat) (hd : d < 10) (N : Vc) (h : Mm) (hI : Iv N) (hR : PR 47 h N) (hdn : d < nd N) : Ok w k MX2_isFar [.ref 47, .ref (47 + 7 + d)] h (Rv (bI (nI 40 < ahF N (brF N d))) h) := by
  show Wp w k MX2_isFar _ 0 [some (.ref 47), some (.ref (47 + 7 + d))] [] h
  obtain ⟨eb, hb4⟩ := hI.br hd
  have hn10 := hI.nd.2
  refine p_run (pc' := 5) [.aload_n 0, .getfield 17, .aload_n 1] mkX2_isFar (by decide +kernel) rfl rfl ?_
  refine p_getI (by decide +kernel) fo2_76 (obD pp47 hd).1 (obD pp47 hd).2.1 ((obD pp47 hd).2.2 _) ?_
  refine Wp.eqS (st' := [.int (nI (brF N d)), .ref 48]) (by rw [hR.2.2.1 d hdn 3 (by omega)]; exact congrArg (fun x => [Value.int x, .ref 48]) eb) ?_
  refine p_aald (brF N d) (by decide +kernel) (by decide) rfl (by decide) rfl (by omega) (rfB47 (brF N d) (by omega)) ?_
  refine p_callVv (cahead_ok w (k := k - 1) _ (obB pp47 hb4) h) kvX2_162 (by decide +kernel) (obB pp47 (by omega)).1 (obB pp47 (by omega)).2.1 (by omega) rfl rfl rfl rfl rfl ?_
  rw [hR.2.1 _ hb4 0 (by omega), hR.2.1 _ hb4 2 (by omega)]
  refine p_run (pc' := 14) [.bipush 40] mkX2_isFar (by decide +kernel) rfl rfl ?_
  refine p_icmp_le (off := 7) 21 (by decide +kernel) (by decide) (fun cq1 => ?_) (fun cq1 => ?_)
  · refine p_run (pc' := 22) [.iconst 0] mkX2_isFar (by decide +kernel) rfl rfl ?_
    refine p_iret rfl rfl (by decide +kernel) ?_
    exact ⟨by rw [bIf (p := nI 40 < ahF N (brF N d)) (Int32.not_lt.mpr cq1)]; rfl, rfl⟩
  · refine p_run (pc' := 22) [.iconst 1, .goto 4] mkX2_isFar (by decide +kernel) rfl rfl ?_
    refine p_iret rfl rfl (by decide +kernel) ?_
    exact ⟨by rw [bIt (p := nI 40 < ahF N (brF N d)) (Int32.not_le.mp cq1)]; rfl, rfl⟩
set_option maxRecDepth 20000 in
set_option maxHeartbeats 4000000 in
theorem cburns47 (w : Wt) {k : Nat} (hk : 2 ≤ k) (d : Nat) (N : Vc) (h : Mm) (hI : Iv N) (hR : PR 47 h N) (hdn : d < nd N) : Ok w k MX2_burns [.ref 47, .int (nI d)] h (Rv (buF N d) h) := by
  show Wp w k MX2_burns _ 0 [some (.ref 47), some (.int (nI d)), none] [] h
  have hn10 := hI.nd.2
  have hk0 := (hI.2.2.2.2.2.1 d (by omega)).1
  refine p_run (pc' := 5) [.aload_n 0, .getfield 24, .iload_n 1] mkX2_burns (by decide +kernel) rfl rfl ?_
  refine p_aald (d) (by decide +kernel) (by decide) rfl (by decide) rfl (by omega) (rfD47 d (by omega)) ?_
  refine p_run (pc' := 8) [.astore_n 2, .aload_n 2] mkX2_burns (by decide +kernel) rfl rfl ?_
  refine p_getI (by decide +kernel) fo2_67 (obD pp47 (by omega)).1 (obD pp47 (by omega)).2.1 ((obD pp47 (by omega)).2.2 _) ?_
  rw [hR.2.2.1 d hdn 0 (by omega)]
  refine p_table (dflt := 55) (lo := 1) (hi := 5) (offs := #[33, 49, 35, 51, 53]) (len := 33) (by decide +kernel) (by decide) (fun j hj hx => ?_) (fun hx => ?_)
  · match j, hj, hx with
    | 0, _, hx =>
      have hx : dK N d 0 = Int32.ofInt (1) := hx
      refine ⟨33, 44, rfl, rfl, ?_⟩
      have hv : nN (dK N d 0) = 1 := kd_case (by omega) hx
      refine p_run (pc' := 45) [.iconst 2] mkX2_burns (by decide +kernel) rfl rfl ?_
      refine p_iret rfl rfl (by decide +kernel) ?_
      exact ⟨by unfold buF; rw [hv]; rfl, rfl⟩
    | 1, _, hx =>
      have hx : dK N d 0 = Int32.ofInt (2) := hx
      refine ⟨49, 60, rfl, rfl, ?_⟩
      have hv : nN (dK N d 0) = 2 := kd_case (by omega) hx
      refine p_run (pc' := 61) [.iconst 0] mkX2_burns (by decide +kernel) rfl rfl ?_
      refine p_iret rfl rfl (by decide +kernel) ?_
      exact ⟨by unfold buF; rw [hv]; rfl, rfl⟩
    | 2, _, hx =>
      have hx : dK N d 0 = Int32.ofInt (3) := hx
      refine ⟨35, 46, rfl, rfl, ?_⟩
      have hv : nN (dK N d 0) = 3 := kd_case (by omega) hx
      refine p_run (pc' := 48) [.aload_n 0, .aload_n 2] mkX2_burns (by decide +kernel) rfl rfl ?_
      refine p_callVv (cisFar47 w (k := k - 1) (by omega) d (by omega) N h hI hR hdn) kvX2_155 (by decide +kernel) (by decide) rfl (by omega) rfl rfl rfl rfl rfl ?_
      refine p_if_eq (off := 7) 58 (by decide +kernel) (by decide) (fun cq51 => ?_) (fun cq51 => ?_)
      · have cq51 := bI0.mp cq51
        refine p_run (pc' := 59) [.iconst 2] mkX2_burns (by decide +kernel) rfl rfl ?_
        refine p_iret rfl rfl (by decide +kernel) ?_
        exact ⟨by unfold buF; rw [hv]; simp only [if_neg cq51]; rfl, rfl⟩
      · have cq51 := bI1.mp cq51
        refine p_run (pc' := 59) [.iconst 0, .goto 4] mkX2_burns (by decide +kernel) rfl rfl ?_
        refine p_iret rfl rfl (by decide +kernel) ?_
        exact ⟨by unfold buF; rw [hv]; simp only [if_pos cq51]; rfl, rfl⟩
    | 3, _, hx =>
      have hx : dK N d 0 = Int32.ofInt (4) := hx
      refine ⟨51, 62, rfl, rfl, ?_⟩
      have hv : nN (dK N d 0) = 4 := kd_case (by omega) hx
      refine p_run (pc' := 63) [.iconst 3] mkX2_burns (by decide +kernel) rfl rfl ?_
      refine p_iret rfl rfl (by decide +kernel) ?_
      exact ⟨by unfold buF; rw [hv]; rfl, rfl⟩
    | 4, _, hx =>
      have hx : dK N d 0 = Int32.ofInt (5) := hx
      refine ⟨53, 64, rfl, rfl, ?_⟩
      have hv : nN (dK N d 0) = 5 := kd_case (by omega) hx
      refine p_run (pc' := 65) [.iconst 2] mkX2_burns (by decide +kernel) rfl rfl ?_
      refine p_iret rfl rfl (by decide +kernel) ?_
      exact ⟨by unfold buF; rw [hv]; rfl, rfl⟩
    | j + 5, hj, _ => exact absurd hj (by simp)
  · refine ⟨66, rfl, ?_⟩
    have hv : nN (dK N d 0) = 0 := kd_dflt hk0 hx
    refine p_run (pc' := 67) [.iconst 1] mkX2_burns (by decide +kernel) rfl rfl ?_
    refine p_iret rfl rfl (by decide +kernel) ?_
    exact ⟨by unfold buF; rw [hv]; rfl, rfl⟩
theorem feB_iff47 {N : Vc} {d i : Nat} : feB N d i = true ↔ ((dK N i 0 = nI 2 ∨ dK N i 0 = nI 4) ∧ i ≠ d) ∧ litB N (brF N d) i = true := by unfold feB; rw [Bool.and_eq_true, decide_eq_true_iff]
set_option maxRecDepth 20000 in
set_option maxHeartbeats 4000000 in
theorem cmatesOf47 (w : Wt) {k : Nat} (hk : 1 ≤ k) (d : Nat) (N : Vc) (h : Mm) (hI : Iv N) (hR : PR 47 h N) (hdn : d < nd N) : Ok w k MX2_matesOf [.ref 47, .int (nI d)] h (Rv (nI (cntF (feB N d) (nd N))) h) := by
  show Wp w k MX2_matesOf _ 0 [some (.ref 47), some (.int (nI d)), none, none, none] [] h
  obtain ⟨en, hn10⟩ := hI.nd
  refine p_run (pc' := 4) [.iconst 0, .istore_n 2, .iconst 0, .istore_n 3] mkX2_matesOf (by decide +kernel) rfl rfl ?_
  refine Wp.for (nd N) (fun i L hh => ∃ (x4 : Option Value), L = [some (.ref 47), some (.int (nI d)), some (.int (nI (cntF (feB N d) i))), some (.int (nI i)), x4] ∧ h = hh) ?_ ?_ (0) (by omega) _ _ ?_
  · rintro i L hh hi ⟨x4, rfl, hJ⟩ ih
    subst hJ
    refine p_run (pc' := 9) [.iload_n 3, .aload_n 0, .getfield 45] mkX2_matesOf (by decide +kernel) rfl rfl ?_
    rw [hR.1.1, en]
    refine p_icmp_ge (off := 59) 68 (by decide +kernel) (by decide) (fun cqh => ?_) (fun cqh => ?_)
    · exact absurd cqh (nI_ge (by omega) (by omega))
    · obtain ⟨eb, hb4⟩ := hI.br (d := d) (by omega)
      have hki := (hI.2.2.2.2.2.1 i (by omega)).1
      have hki2 := hki.2
      refine p_run (pc' := 17) [.aload_n 0, .getfield 24, .iload_n 3] mkX2_matesOf (by decide +kernel) rfl rfl ?_
      refine p_aald (i) (by decide +kernel) (by decide) rfl (by decide) rfl (by omega) (rfD47 i (by omega)) ?_
      refine p_run (pc' := 22) [.astore 4, .iload_n 3, .iload_n 1] mkX2_matesOf (by decide +kernel) rfl rfl ?_
      refine p_icmp_eq (off := 40) 62 (by decide +kernel) (by decide) (fun cq1 => ?_) (fun cq1 => ?_)
      · refine p_run (pc' := 4) [.iinc 3 1, .goto (-61)] mkX2_matesOf (by decide +kernel) rfl rfl ?_
        exact ih _ _ ⟨_, by rw [show nI i + Int32.ofInt 1 = nI (i + 1) by simp only [oI, nI_add], cntF, if_neg (fun q => (feB_iff47.mp q).1.2 ((nI_eq (by omega) (by omega)).mp cq1))]; rfl, rfl⟩
      · refine p_run (pc' := 27) [.aload 4] mkX2_matesOf (by decide +kernel) rfl rfl ?_
        refine p_callVv (isLit_ok w (k := k - 1) _ (obD pp47 (by omega)) h) kvX2_116 (by decide +kernel) (obD pp47 (by omega)).1 (obD pp47 (by omega)).2.1 (by omega) rfl rfl rfl rfl rfl ?_
        rw [hR.2.2.1 i (by omega) 2 (by omega)]
        refine p_if_eq (off := 32) 62 (by decide +kernel) (by decide) (fun cq2 => ?_) (fun cq2 => ?_)
        · refine p_run (pc' := 4) [.iinc 3 1, .goto (-61)] mkX2_matesOf (by decide +kernel) rfl rfl ?_
          exact ih _ _ ⟨_, by rw [show nI i + Int32.ofInt 1 = nI (i + 1) by simp only [oI, nI_add], cntF, if_neg (fun q => bI0.mp cq2 (litB_iff.mp (feB_iff47.mp q).2).2)]; rfl, rfl⟩
        · refine p_run (pc' := 35) [.aload 4] mkX2_matesOf (by decide +kernel) rfl rfl ?_
          refine p_getI (by decide +kernel) fo2_76 (obD pp47 (by omega)).1 (obD pp47 (by omega)).2.1 ((obD pp47 (by omega)).2.2 _) ?_
          rw [hR.2.2.1 i (by omega) 3 (by omega)]
          refine p_run (pc' := 43) [.aload_n 0, .getfield 24, .iload_n 1] mkX2_matesOf (by decide +kernel) rfl rfl ?_
          refine p_aald (d) (by decide +kernel) (by decide) rfl (by decide) rfl (by omega) (rfD47 d (by omega)) ?_
          refine p_getI (by decide +kernel) fo2_76 (obD pp47 (by omega)).1 (obD pp47 (by omega)).2.1 ((obD pp47 (by omega)).2.2 _) ?_
          rw [hR.2.2.1 d hdn 3 (by omega)]
          refine p_icmp_ne (off := 15) 62 (by decide +kernel) (by decide) (fun cq3 => ?_) (fun cq3 => ?_)
          · refine p_run (pc' := 4) [.iinc 3 1, .goto (-61)] mkX2_matesOf (by decide +kernel) rfl rfl ?_
            exact ih _ _ ⟨_, by rw [show nI i + Int32.ofInt 1 = nI (i + 1) by simp only [oI, nI_add], cntF, if_neg (fun q => cq3 ((litB_iff.mp (feB_iff47.mp q).2).1.trans eb.symm))]; rfl, rfl⟩
          · refine p_run (pc' := 53) [.aload 4, .iconst 2] mkX2_matesOf (by decide +kernel) rfl rfl ?_
            refine p_callVv (isOne_ok w (k := k - 1) _ 2 (nN (dK N i 0)) (obD pp47 (by omega)) (by omega) hki2 h (by rw [hR.2.2.1 i (by omega) 0 (by omega)]; exact hki.1)) kvX2_181 (by decide +kernel) (obD pp47 (by omega)).1 (obD pp47 (by omega)).2.1 (by omega) rfl rfl rfl rfl rfl ?_
            refine p_if_eq (off := 6) 62 (by decide +kernel) (by decide) (fun cq4 => ?_) (fun cq4 => ?_)
            · refine p_run (pc' := 4) [.iinc 3 1, .goto (-61)] mkX2_matesOf (by decide +kernel) rfl rfl ?_
              exact ih _ _ ⟨_, by rw [show nI i + Int32.ofInt 1 = nI (i + 1) by simp only [oI, nI_add], cntF, if_neg (fun q => bI0.mp cq4 (by unfold unP; rcases (feB_iff47.mp q).1.1 with z | z <;> rw [z, nN_nI (by omega)] <;> omega))]; rfl, rfl⟩
            · refine p_run (pc' := 4) [.iinc 2 1, .iinc 3 1, .goto (-61)] mkX2_matesOf (by decide +kernel) rfl rfl ?_
              have hu := bI1.mp cq4
              exact ih _ _ ⟨_, by rw [show nI i + Int32.ofInt 1 = nI (i + 1) by simp only [oI, nI_add], cntF, if_pos (feB_iff47.mpr ⟨⟨by unfold unP at hu; rcases hu with z | z | z | z; omega; exact Or.inl (by rw [hki.1, z]); omega; exact Or.inr (by rw [hki.1, z.2]), fun q => cq1 (by rw [q])⟩, litB_iff.mpr ⟨cq3.trans eb, bI1.mp cq2⟩⟩), oI, nI_add], rfl⟩
  · rintro L hh ⟨x4, rfl, hJ⟩
    subst hJ
    refine p_run (pc' := 9) [.iload_n 3, .aload_n 0, .getfield 45] mkX2_matesOf (by decide +kernel) rfl rfl ?_
    rw [hR.1.1, en]
    refine p_icmp_ge (off := 59) 68 (by decide +kernel) (by decide) (fun cqh => ?_) (fun cqh => ?_)
    · refine p_run (pc' := 69) [.iload_n 2] mkX2_matesOf (by decide +kernel) rfl rfl ?_
      refine p_iret rfl rfl (by decide +kernel) ?_
      exact ⟨rfl, rfl⟩
    · exact absurd (nI_le (Nat.le_refl _) (by omega)) cqh
  · exact ⟨_, rfl, rfl⟩
set_option maxRecDepth 20000 in
set_option maxHeartbeats 4000000 in
theorem cdraw47 (w : Wt) {k : Nat} (h : Mm) : Ok w k MX2_draw [.ref 47] h (Rv (nI (dvN (zF (h 47 11)))) (up h 47 11 (zF (h 47 11)))) := by
  show Wp w k MX2_draw _ 0 [some (.ref 47)] [] h
  refine p_run (pc' := 22) [.aload_n 0, .aload_n 0, .getfield 38, .ldc 90, .imul, .sipush 12345, .iadd, .putfield 38, .aload_n 0, .getfield 38, .bipush 8, .iushr] mkX2_draw (by decide +kernel) rfl rfl ?_
  refine p_iret rfl rfl (by decide +kernel) ?_
  refine ⟨?_, ?_⟩
  · exact congrArg (fun x => some (Value.int x)) ((ushr8 _).trans (by rw [uF]; rfl))
  · rfl
set_option maxRecDepth 20000 in
set_option maxHeartbeats 4000000 in
theorem clit (w : Wt) {k : Nat} (hk : 1 ≤ k) (N : Vc) (h : Mm) (hI : Iv N) (hR : PR 11 h N) : Ok w k MX2_lit [.ref 11] h (Rv (nI (setF (fun i => decide (0 < dK N i 2)) (nd N))) h) := by
  show Wp w k MX2_lit _ 0 [some (.ref 11), none, none] [] h
  obtain ⟨en, hn10⟩ := hI.nd
  refine p_run (pc' := 4) [.iconst 0, .istore_n 1, .iconst 0, .istore_n 2] mkX2_lit (by decide +kernel) rfl rfl ?_
  refine Wp.for (nd N) (fun i L hh => L = [some (.ref 11), some (.int (nI (setF (fun i => decide (0 < dK N i 2)) i))), some (.int (nI i))] ∧ h = hh) ?_ ?_ (0) (by omega) _ _ ?_
  · rintro i L hh hi ⟨rfl, hJ⟩ ih
    subst hJ
    refine p_run (pc' := 9) [.iload_n 2, .aload_n 0, .getfield 45] mkX2_lit (by decide +kernel) rfl rfl ?_
    rw [hR.1.1, en]
    refine p_icmp_ge (off := 27) 36 (by decide +kernel) (by decide) (fun cqh => ?_) (fun cqh => ?_)
    · exact absurd cqh (nI_ge (by omega) (by omega))
    · refine p_run (pc' := 17) [.aload_n 0, .getfield 24, .iload_n 2] mkX2_lit (by decide +kernel) rfl rfl ?_
      refine p_aald (i) (by decide +kernel) (by decide) rfl (by decide) rfl (by omega) (rfD11 i (by omega)) ?_
      refine p_callVv (isLit_ok w (k := k - 1) _ (obD pp11 (by omega)) h) kvX2_116 (by decide +kernel) (obD pp11 (by omega)).1 (obD pp11 (by omega)).2.1 (by omega) rfl rfl rfl rfl rfl ?_
      rw [hR.2.2.1 i (by omega) 2 (by omega)]
      refine p_if_eq (off := 9) 30 (by decide +kernel) (by decide) (fun cq1 => ?_) (fun cq1 => ?_)
      · refine p_run (pc' := 4) [.iinc 2 1, .goto (-29)] mkX2_lit (by decide +kernel) rfl rfl ?_
        exact ih _ _ ⟨by rw [show nI i + Int32.ofInt 1 = nI (i + 1) by simp only [oI, nI_add], setF, if_neg (fun q => bI0.mp cq1 (of_decide_eq_true q))]; rfl, rfl⟩
      · refine p_run (pc' := 4) [.iload_n 1, .iconst 1, .iload_n 2, .ishl, .ior, .istore_n 1, .iinc 2 1, .goto (-29)] mkX2_lit (by decide +kernel) rfl rfl ?_
        exact ih _ _ ⟨by rw [show nI i + Int32.ofInt 1 = nI (i + 1) by simp only [oI, nI_add], setF, if_pos (decide_eq_true (bI1.mp cq1)), oI, shl1 i (by omega), or_pow (setF_lt _ _)], rfl⟩
  · rintro L hh ⟨rfl, hJ⟩
    subst hJ
    refine p_run (pc' := 9) [.iload_n 2, .aload_n 0, .getfield 45] mkX2_lit (by decide +kernel) rfl rfl ?_
    rw [hR.1.1, en]
    refine p_icmp_ge (off := 27) 36 (by decide +kernel) (by decide) (fun cqh => ?_) (fun cqh => ?_)
    · refine p_run (pc' := 37) [.iload_n 1] mkX2_lit (by decide +kernel) rfl rfl ?_
      refine p_iret rfl rfl (by decide +kernel) ?_
      exact ⟨rfl, rfl⟩
    · exact absurd (nI_le (Nat.le_refl _) (by omega)) cqh
  · exact ⟨rfl, rfl⟩
set_option maxRecDepth 20000 in
set_option maxHeartbeats 4000000 in
theorem cfront (w : Wt) {k : Nat} (N : Vc) (h : Mm) (hI : Iv N) (hR : PR 11 h N) : Ok w k MX2_front [.ref 11] h (Rv (nI (frF N 4)) h) := by
  show Wp w k MX2_front _ 0 [some (.ref 11), none, none] [] h
  refine p_run (pc' := 4) [.iconst 0, .istore_n 1, .iconst 1, .istore_n 2] mkX2_front (by decide +kernel) rfl rfl ?_
  refine Wp.for (3) (fun i L hh => L = [some (.ref 11), some (.int (nI (frF N (i + 1)))), some (.int (nI (i + 1)))] ∧ h = hh) ?_ ?_ (0) (by omega) _ _ ?_
  · rintro i L hh hi ⟨rfl, hJ⟩ ih
    subst hJ
    have hf := frF_lt N (i + 1) (by omega)
    refine p_run (pc' := 6) [.iload_n 2, .iconst 4] mkX2_front (by decide +kernel) rfl rfl ?_
    refine p_icmp_ge (off := 32) 38 (by decide +kernel) (by decide) (fun cqh => ?_) (fun cqh => ?_)
    · exact False.elim (by rw [oI, nI_leI (by omega) (by omega)] at cqh; omega)
    · refine p_run (pc' := 14) [.aload_n 0, .getfield 17, .iload_n 2] mkX2_front (by decide +kernel) rfl rfl ?_
      refine p_aald (i + 1) (by decide +kernel) (by decide) rfl (by decide) rfl (by omega) (rfB11 (i + 1) (by omega)) ?_
      refine p_getI (by decide +kernel) fo2_127 (obB pp11 (by omega)).1 (obB pp11 (by omega)).2.1 ((obB pp11 (by omega)).2.2 _) ?_
      refine p_run (pc' := 23) [.aload_n 0, .getfield 17, .iload_n 1] mkX2_front (by decide +kernel) rfl rfl ?_
      refine p_aald (frF N (i + 1)) (by decide +kernel) (by decide) rfl (by decide) rfl (by omega) (rfB11 (frF N (i + 1)) (by omega)) ?_
      refine p_getI (by decide +kernel) fo2_127 (obB pp11 (by omega)).1 (obB pp11 (by omega)).2.1 ((obB pp11 (by omega)).2.2 _) ?_
      rw [hR.2.1 (i + 1) (by omega) 0 (by omega), hR.2.1 (frF N (i + 1)) hf 0 (by omega)]
      refine p_icmp_le (off := 5) 32 (by decide +kernel) (by decide) (fun cq1 => ?_) (fun cq1 => ?_)
      · refine p_run (pc' := 4) [.iinc 2 1, .goto (-31)] mkX2_front (by decide +kernel) rfl rfl ?_
        exact ih _ _ ⟨by rw [show nI (i + 1) + Int32.ofInt 1 = nI (i + 1 + 1) by simp only [oI, nI_add], show frF N (i + 1 + 1) = if bK N (frF N (i + 1)) 0 < bK N (i + 1) 0 then i + 1 else frF N (i + 1) from rfl, if_neg (Int32.not_lt.mpr cq1)], rfl⟩
      · refine p_run (pc' := 4) [.iload_n 2, .istore_n 1, .iinc 2 1, .goto (-31)] mkX2_front (by decide +kernel) rfl rfl ?_
        exact ih _ _ ⟨by rw [show nI (i + 1) + Int32.ofInt 1 = nI (i + 1 + 1) by simp only [oI, nI_add], show frF N (i + 1 + 1) = if bK N (frF N (i + 1)) 0 < bK N (i + 1) 0 then i + 1 else frF N (i + 1) from rfl, if_pos (Int32.not_le.mp cq1)], rfl⟩
  · rintro L hh ⟨rfl, hJ⟩
    subst hJ
    refine p_run (pc' := 6) [.iload_n 2, .iconst 4] mkX2_front (by decide +kernel) rfl rfl ?_
    refine p_icmp_ge (off := 32) 38 (by decide +kernel) (by decide) (fun cqh => ?_) (fun cqh => ?_)
    · refine p_run (pc' := 39) [.iload_n 1] mkX2_front (by decide +kernel) rfl rfl ?_
      refine p_iret rfl rfl (by decide +kernel) ?_
      exact ⟨rfl, rfl⟩
    · exact False.elim (by revert cqh; decide)
  · exact ⟨by rw [frF, frF, if_neg (Int32.lt_irrefl)]; rfl, rfl⟩
set_option maxRecDepth 20000 in
set_option maxHeartbeats 4000000 in
theorem croom (w : Wt) {k : Nat} (hk : 1 ≤ k) (N : Vc) (h : Mm) (hI : Iv N) (hR : PR 11 h N) : Ok w k MX2_room [.ref 11] h (Rv (nI 3996 - sumF (fun b => bK N b 0) 4) h) := by
  show Wp w k MX2_room _ 0 [some (.ref 11)] [] h
  refine p_run (pc' := 4) [.sipush 3996, .aload_n 0] mkX2_room (by decide +kernel) rfl rfl ?_
  refine p_callVv (cdugOfAll11 w (k := k - 1) N h hI hR) kvX2_185 (by decide +kernel) (by decide) rfl (by omega) rfl rfl rfl rfl rfl ?_
  refine p_run (pc' := 8) [.isub] mkX2_room (by decide +kernel) rfl rfl ?_
  refine p_iret rfl rfl (by decide +kernel) ?_
  exact ⟨rfl, rfl⟩
