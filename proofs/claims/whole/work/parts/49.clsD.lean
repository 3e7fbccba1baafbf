/-! the class: nights -/
theorem upd_comm {f : Vc} {i j : Nat} {x y : Int32} (h : i ≠ j) : upd (upd f i x) j y = upd (upd f j y) i x := by
  funext k
  unfold upd
  by_cases h1 : k = j
  · rw [if_pos h1, if_neg (by omega), if_pos h1]
  · rw [if_neg h1]
    by_cases h2 : k = i
    · rw [if_pos h2, if_pos h2]
    · rw [if_neg h2, if_neg h2, if_neg h1]
theorem mn_nI {a b : Nat} (ha : a < 2 ^ 31) (hb : b < 2 ^ 31) : (if nI b < nI a then nI b else nI a) = nI (min a b) := by
  by_cases h : b < a
  · rw [if_pos ((nI_ltI hb ha).mpr h), Nat.min_eq_right (by omega)]
  · rw [if_neg (fun q => h ((nI_ltI hb ha).mp q)), Nat.min_eq_left (by omega)]
theorem mx0 {v : Int32} (h : v ≤ nI 99) : (if nI 0 < v then v else nI 0) = clF v (nI 0) (nI 99) := by
  unfold clF
  by_cases h1 : v < nI 0
  · rw [if_pos h1, if_neg (fun q => Int32.lt_irrefl (Int32.lt_trans q h1))]
  · rw [if_neg h1, if_neg (Int32.not_lt.mpr h)]
    by_cases h3 : nI 0 < v
    · rw [if_pos h3]
    · rw [if_neg h3]; exact Int32.le_antisymm (Int32.not_lt.mp h1) (Int32.not_lt.mp h3)
theorem subs : ∀ c, c < 3 → ∀ b, b < 4 → nI c - nI b ≤ nI 99 := by decide
theorem sub99 {x y : Int32} (hx : In x 99) (hy : In y 3) : x - y ≤ nI 99 := by
  have h1 := hx.2
  have h2 := hy.2
  rw [hx.1, hy.1]
  by_cases h : nN y ≤ nN x
  · rw [nIs h]; exact nI_le (by omega) (by omega)
  · exact subs _ (by omega) _ (by omega)
theorem ds_class {N : Vc} (hI : Iv N) {d : Nat} (hd : d < 10) : 
    (if nI 999 - bK N (brF N d) 0 < dgF N d then nI 999 - bK N (brF N d) 0 else dgF N d) = nI (min (nN (bK N (brF N d) 0) + nN (dgF N d)) 999 - nN (bK N (brF N d) 0)) := by
  have hb := hI.br hd
  have hu := (hI.2.2.2.2.1 _ hb.2).1
  have hg := dgF_in hI d
  have u2 := hu.2
  have g2 := hg.2
  rw [hu.1, hg.1, nN_nI (by omega), nN_nI (by omega), nIs (by omega), mn_nI (by omega) (by omega)]
  congr 1
  omega
theorem PR.ds {p : Nat} {h : Mm} {N : Vc} (hR : PR p h N) (hI : Iv N) {d : Nat} (hd : d < nd N) (m : Int32) (hm : m = nI (min (nN (bK N (brF N d) 0) + nN (dgF N d)) 999 - nN (bK N (brF N d) 0))) :
    PR p (up (up (up h (p + 2 + brF N d) 0 (bK N (brF N d) 0 + m)) (p + 7 + d) 4 (if dK N d 4 + m < nI 9999 then dK N d 4 + m else nI 9999)) (p + 7 + d) 2 (if nI 0 < dK N d 2 - buF N d then dK N d 2 - buF N d else nI 0)) (dsF N d) := by
  have hn := hI.nd.2
  have hb := hI.br (d := d) (by omega)
  have hu := (hI.2.2.2.2.1 _ hb.2).1
  have hg := dgF_in hI d
  have hD := hI.2.2.2.2.2.1 d (by omega)
  have u2 := hu.2
  have g2 := hg.2
  have e4 := hD.2.2.2.2
  have e42 := e4.2
  have a1 : bK N (brF N d) 0 + m = clF (N (8 + 3 * brF N d) + dgF N d) (nI 0) (nI 999) := by
    rw [dsF_dug hI (by omega), hm]
    rw [hu.1, nI_add, nN_nI (by omega)]
    congr 1
    omega
  have a2 : (if dK N d 4 + m < nI 9999 then dK N d 4 + m else nI 9999) = clF (dK N d 4 + clF (N (8 + 3 * brF N d) + dgF N d) (nI 0) (nI 999) - N (8 + 3 * brF N d)) (nI 0) (nI 9999) := by
    have z : N (8 + 3 * brF N d) = nI (nN (bK N (brF N d) 0)) := hu.1
    rw [dsF_dug hI (by omega), z, hm, e4.1, nI_add, nI_add, nIs (by omega), clF_nI (by omega) (by omega), mn_nI (by omega) (by omega)]
    congr 1
    omega
  have a3 := mx0 (sub99 hD.2.2.1 (buF_in N d))
  rw [a1, a2, a3]
  have h1 := hR.upB (b := brF N d) (j := 0) (x := clF (N (8 + 3 * brF N d) + dgF N d) (nI 0) (nI 999)) hb.2 (by omega) hn
  have n1 : nd (upd N (8 + 3 * brF N d + 0) (clF (N (8 + 3 * brF N d) + dgF N d) (nI 0) (nI 999))) = nd N := nd_upd (by omega)
  have h2 := h1.upD (d := d) (j := 4) (x := clF (dK N d 4 + clF (N (8 + 3 * brF N d) + dgF N d) (nI 0) (nI 999) - N (8 + 3 * brF N d)) (nI 0) (nI 9999)) (by rw [n1]; exact hd) (by omega) (by rw [n1]; exact hn)
  have h3 := h2.upD (d := d) (j := 2) (x := clF (dK N d 2 - buF N d) (nI 0) (nI 99)) (by rw [nd_upd (by omega), n1]; exact hd) (by omega) (by rw [nd_upd (by omega), n1]; exact hn)
  have eq : upd (upd (upd N (8 + 3 * brF N d + 0) (clF (N (8 + 3 * brF N d) + dgF N d) (nI 0) (nI 999))) (20 + 5 * d + 4) (clF (dK N d 4 + clF (N (8 + 3 * brF N d) + dgF N d) (nI 0) (nI 999) - N (8 + 3 * brF N d)) (nI 0) (nI 9999))) (20 + 5 * d + 2) (clF (dK N d 2 - buF N d) (nI 0) (nI 99)) = dsF N d := by
    unfold dsF
    rw [upd_comm (f := N) (i := 8 + 3 * brF N d + 0) (j := 20 + 5 * d + 4) (by omega), upd_comm (i := 8 + 3 * brF N d + 0) (j := 20 + 5 * d + 2) (by omega)]
    rfl
  rw [eq] at h3
  exact h3
theorem daF_nd {N : Vc} (hI : Iv N) {i : Nat} (hi : i ≤ 10) : nd (daF N i) = nd N := by unfold nd; rw [daF_out hI (Or.inl (by omega)) i hi]
theorem TR.da {h : Mm} {N N' : Vc} (hT : TR h N) (e : ∀ j, 70 ≤ j → N' j = N j) (e7 : N' 7 = N 7) : TR h N' := hT.of (fun _ _ _ => rfl) e e7
theorem wg_class {N : Vc} (hI : Iv N) {b : Nat} (hb : b < 4) : (if bK N b 2 + N 3 < bK N b 0 then bK N b 2 + N 3 else bK N b 0) = clF (bK N b 2 + N 3) (nI 0) (bK N b 0) := by
  obtain ⟨h0, -, h2⟩ := hI.2.2.2.2.1 b hb
  have h3 := hI.2.1
  have a0 := h0.2
  have a2 := h2.2
  have a3 := h3.2
  rw [h0.1, h2.1, h3.1, nI_add, clF_nI (by omega) (by omega), mn_nI (by omega) (by omega)]
  congr 1
  omega
theorem ah_eq {N : Vc} (hI : Iv N) {b : Nat} (hb : b < 4) : bK N b 2 = bK N b 0 ↔ ¬ 0 < ahF N b := by
  obtain ⟨h0, -, h2⟩ := hI.2.2.2.2.1 b hb
  have a0 := h0.2
  have a2 := h2.2
  unfold ahF
  rw [h0.1, h2.1, nIs (by omega), show (0 : Int32) = nI 0 from rfl, nI_ltI (by omega) (by omega), nI_eq (by omega) (by omega)]
  omega
set_option maxRecDepth 20000 in
set_option maxHeartbeats 4000000 in
theorem cdigAll11 (w : Wt) {k : Nat} (hk : 5 ≤ k) (N : Vc) (h : Mm) (hI : Iv N) (hR : PR 11 h N) (hT : TR h N) : Ok w k MX2_digAll [.ref 11] h (fun r h' => r = none ∧ PR 11 h' (daF N (nd N)) ∧ Fp 11 h h') := by
  show Wp w k MX2_digAll _ 0 [some (.ref 11), none, none, none, none, none, none] [] h
  obtain ⟨en, hn10⟩ := hI.nd
  refine p_run (pc' := 2) [.iconst 0, .istore_n 1] mkX2_digAll (by decide +kernel) rfl rfl ?_
  refine Wp.for (nd N) (fun i L hh => ∃ (x2 x3 x4 x5 x6 : Option Value), L = [some (.ref 11), some (.int (nI i)), x2, x3, x4, x5, x6] ∧ (PR 11 hh (daF N i) ∧ Fp 11 h hh)) ?_ ?_ (0) (by omega) _ _ ?_
  · rintro i L hh hi ⟨x2, x3, x4, x5, x6, rfl, hJ⟩ ih
    obtain ⟨hR1, hF⟩ := hJ
    have hi10 : i ≤ 10 := by omega
    have hI1 := daF_Iv hI i hi10
    have n1 := daF_nd hI hi10
    have hT1 : TR hh (daF N i) := (hT.fp pp11 hF).da (fun j hj => daF_out hI (Or.inr hj) i hi10) (daF_out hI (Or.inl (by omega)) i hi10)
    have e1 : daF N i 1 = nI (nd N) := by rw [daF_out hI (Or.inl (by omega)) i hi10]; exact en
    refine p_run (pc' := 7) [.iload_n 1, .aload_n 0, .getfield 45] mkX2_digAll (by decide +kernel) rfl rfl ?_
    rw [hR1.1.1, e1]
    refine p_icmp_ge (off := 106) 113 (by decide +kernel) (by decide) (fun cqh => ?_) (fun cqh => ?_)
    · exact absurd cqh (nI_ge (by omega) (by omega))
    · refine p_run (pc' := 15) [.aload_n 0, .getfield 24, .iload_n 1] mkX2_digAll (by decide +kernel) rfl rfl ?_
      refine p_aald (i) (by decide +kernel) (by decide) rfl (by decide) rfl (by omega) (rfD11 i (by omega)) ?_
      refine p_run (pc' := 18) [.astore_n 2, .aload_n 2] mkX2_digAll (by decide +kernel) rfl rfl ?_
      refine p_callVv (isLit_ok w (k := k - 1) _ (obD pp11 (by omega)) _) kvX2_116 (by decide +kernel) (obD pp11 (by omega)).1 (obD pp11 (by omega)).2.1 (by omega) rfl rfl rfl rfl rfl ?_
      rw [hR1.2.2.1 i (by omega) 2 (by omega)]
      refine p_if_eq (off := 86) 107 (by decide +kernel) (by decide) (fun cq1 => ?_) (fun cq1 => ?_)
      · refine p_run (pc' := 2) [.iinc 1 1, .goto (-108)] mkX2_digAll (by decide +kernel) rfl rfl ?_
        exact ih _ _ ⟨_, _, _, _, _, by rw [show nI i + Int32.ofInt 1 = nI (i + 1) by simp only [oI, nI_add]], by rw [daF, if_neg (bI0.mp cq1)]; exact hR1, hF⟩
      · obtain ⟨eb, hb4⟩ := hI1.br (d := i) (by omega)
        refine p_run (pc' := 26) [.aload_n 0, .iload_n 1] mkX2_digAll (by decide +kernel) rfl rfl ?_
        refine p_callVi (cdigs11 w (k := k - 1) (by omega) i (daF N i) hh hI1 hR1 (by omega) hT1) (fun _ _ q => q.1) kvX2_120 (by decide +kernel) (by decide) rfl (by omega) rfl rfl rfl rfl rfl (fun h' hq => ?_)
        obtain ⟨-, hF2⟩ := hq
        rename Mm => h2
        have hR2 := hR1.fw pp11 hF2 (by omega)
        refine p_run (pc' := 32) [.istore_n 3, .aload_n 0, .iload_n 1] mkX2_digAll (by decide +kernel) rfl rfl ?_
        refine p_callVv (cburns11 w (k := k - 1) (by omega) i (daF N i) h2 hI1 hR2 (by omega)) kvX2_124 (by decide +kernel) (by decide) rfl (by omega) rfl rfl rfl rfl rfl ?_
        refine p_run (pc' := 42) [.istore 4, .aload_n 0, .getfield 17, .aload_n 2] mkX2_digAll (by decide +kernel) rfl rfl ?_
        refine p_getI (by decide +kernel) fo2_76 (obD pp11 (by omega)).1 (obD pp11 (by omega)).2.1 ((obD pp11 (by omega)).2.2 _) ?_
        refine Wp.eqS (st' := [.int (nI (brF (daF N i) i)), .ref 12]) (by rw [hR2.2.2.1 i (by omega) 3 (by omega)]; exact congrArg (fun x => [Value.int x, .ref 12]) eb) ?_
        refine p_aald (brF (daF N i) i) (by decide +kernel) (by decide) rfl (by decide) rfl (by omega) (rfB11 (brF (daF N i) i) (by omega)) ?_
        refine p_run (pc' := 54) [.astore 5, .iload_n 3, .sipush 999, .aload 5] mkX2_digAll (by decide +kernel) rfl rfl ?_
        refine p_getI (by decide +kernel) fo2_127 (obB pp11 hb4).1 (obB pp11 hb4).2.1 ((obB pp11 hb4).2.2 _) ?_
        rw [hR2.2.1 _ hb4 0 (by omega)]
        refine p_run (pc' := 58) [.isub] mkX2_digAll (by decide +kernel) rfl rfl ?_
        refine p_mmin jlX2_130 (by decide +kernel) (by omega) rfl ?_
        rw [show Int32.ofInt 999 = nI 999 from rfl, ds_class hI1 (by omega)]
        generalize em : nI (min (nN (bK (daF N i) (brF (daF N i) i) 0) + nN (dgF (daF N i) i)) 999 - nN (bK (daF N i) (brF (daF N i) i) 0)) = m
        refine p_run (pc' := 66) [.istore 6, .aload 5, .dup] mkX2_digAll (by decide +kernel) rfl rfl ?_
        refine p_getI (by decide +kernel) fo2_127 (obB pp11 hb4).1 (obB pp11 hb4).2.1 ((obB pp11 hb4).2.2 _) ?_
        rw [hR2.2.1 _ hb4 0 (by omega)]
        refine p_run (pc' := 72) [.iload 6, .iadd] mkX2_digAll (by decide +kernel) rfl rfl ?_
        refine p_put (by decide +kernel) fo2_127 (obB pp11 hb4).1 (obB pp11 hb4).2.1 rfl ((obB pp11 hb4).2.2 _) ?_
        refine p_run (pc' := 80) [.aload_n 2, .sipush 9999, .aload_n 2] mkX2_digAll (by decide +kernel) rfl rfl ?_
        refine p_getI (by decide +kernel) fo2_79 (obD pp11 (by omega)).1 (obD pp11 (by omega)).2.1 ((obD pp11 (by omega)).2.2 _) ?_
        rw [upN (by omega), hR2.2.2.1 i (by omega) 4 (by omega)]
        refine p_run (pc' := 86) [.iload 6, .iadd] mkX2_digAll (by decide +kernel) rfl rfl ?_
        refine p_mmin jlX2_130 (by decide +kernel) (by omega) rfl ?_
        refine p_put (by decide +kernel) fo2_79 (obD pp11 (by omega)).1 (obD pp11 (by omega)).2.1 rfl ((obD pp11 (by omega)).2.2 _) ?_
        refine p_run (pc' := 95) [.aload_n 2, .iconst 0, .aload_n 2] mkX2_digAll (by decide +kernel) rfl rfl ?_
        refine p_getI (by decide +kernel) fo2_73 (obD pp11 (by omega)).1 (obD pp11 (by omega)).2.1 ((obD pp11 (by omega)).2.2 _) ?_
        rw [uN (by decide), upN (by omega), hR2.2.2.1 i (by omega) 2 (by omega)]
        refine p_run (pc' := 101) [.iload 4, .isub] mkX2_digAll (by decide +kernel) rfl rfl ?_
        refine p_mmax jlX2_136 (by decide +kernel) (by omega) rfl ?_
        refine p_put (by decide +kernel) fo2_73 (obD pp11 (by omega)).1 (obD pp11 (by omega)).2.1 rfl ((obD pp11 (by omega)).2.2 _) ?_
        refine p_run (pc' := 2) [.iinc 1 1, .goto (-108)] mkX2_digAll (by decide +kernel) rfl rfl ?_
        exact ih _ _ ⟨_, _, _, _, _, by rw [show nI i + Int32.ofInt 1 = nI (i + 1) by simp only [oI, nI_add]], by rw [daF, if_pos (bI1.mp cq1)]; exact hR2.ds hI1 (by omega) m em.symm, (hF.tr hF2.fp).tr (((Fp.u1 (by omega)).tr (Fp.u1 (by omega))).tr (Fp.u1 (by omega)))⟩
  · rintro L hh ⟨x2, x3, x4, x5, x6, rfl, hJ⟩
    obtain ⟨hR1, hF⟩ := hJ
    have hi10 : (nd N) ≤ 10 := by omega
    have hI1 := daF_Iv hI (nd N) hi10
    have n1 := daF_nd hI hi10
    have hT1 : TR hh (daF N (nd N)) := (hT.fp pp11 hF).da (fun j hj => daF_out hI (Or.inr hj) (nd N) hi10) (daF_out hI (Or.inl (by omega)) (nd N) hi10)
    have e1 : daF N (nd N) 1 = nI (nd N) := by rw [daF_out hI (Or.inl (by omega)) (nd N) hi10]; exact en
    refine p_run (pc' := 7) [.iload_n 1, .aload_n 0, .getfield 45] mkX2_digAll (by decide +kernel) rfl rfl ?_
    rw [hR1.1.1, e1]
    refine p_icmp_ge (off := 106) 113 (by decide +kernel) (by decide) (fun cqh => ?_) (fun cqh => ?_)
    · refine p_vret rfl (by decide +kernel) ?_
      exact ⟨rfl, hR1, hF⟩
    · exact absurd (nI_le (Nat.le_refl _) (by omega)) cqh
  · exact ⟨_, _, _, _, _, rfl, hR, Fp.rf⟩
set_option maxRecDepth 20000 in
set_option maxHeartbeats 4000000 in
theorem cdigAll47 (w : Wt) {k : Nat} (hk : 5 ≤ k) (N : Vc) (h : Mm) (hI : Iv N) (hR : PR 47 h N) (hT : TR h N) : Ok w k MX2_digAll [.ref 47] h (fun r h' => r = none ∧ PR 47 h' (daF N (nd N)) ∧ Fp 47 h h') := by
  show Wp w k MX2_digAll _ 0 [some (.ref 47), none, none, none, none, none, none] [] h
  obtain ⟨en, hn10⟩ := hI.nd
  refine p_run (pc' := 2) [.iconst 0, .istore_n 1] mkX2_digAll (by decide +kernel) rfl rfl ?_
  refine Wp.for (nd N) (fun i L hh => ∃ (x2 x3 x4 x5 x6 : Option Value), L = [some (.ref 47), some (.int (nI i)), x2, x3, x4, x5, x6] ∧ (PR 47 hh (daF N i) ∧ Fp 47 h hh)) ?_ ?_ (0) (by omega) _ _ ?_
  · rintro i L hh hi ⟨x2, x3, x4, x5, x6, rfl, hJ⟩ ih
    obtain ⟨hR1, hF⟩ := hJ
    have hi10 : i ≤ 10 := by omega
    have hI1 := daF_Iv hI i hi10
    have n1 := daF_nd hI hi10
    have hT1 : TR hh (daF N i) := (hT.fp pp47 hF).da (fun j hj => daF_out hI (Or.inr hj) i hi10) (daF_out hI (Or.inl (by omega)) i hi10)
    have e1 : daF N i 1 = nI (nd N) := by rw [daF_out hI (Or.inl (by omega)) i hi10]; exact en
    refine p_run (pc' := 7) [.iload_n 1, .aload_n 0, .getfield 45] mkX2_digAll (by decide +kernel) rfl rfl ?_
    rw [hR1.1.1, e1]
    refine p_icmp_ge (off := 106) 113 (by decide +kernel) (by decide) (fun cqh => ?_) (fun cqh => ?_)
    · exact absurd cqh (nI_ge (by omega) (by omega))
    · refine p_run (pc' := 15) [.aload_n 0, .getfield 24, .iload_n 1] mkX2_digAll (by decide +kernel) rfl rfl ?_
      refine p_aald (i) (by decide +kernel) (by decide) rfl (by decide) rfl (by omega) (rfD47 i (by omega)) ?_
      refine p_run (pc' := 18) [.astore_n 2, .aload_n 2] mkX2_digAll (by decide +kernel) rfl rfl ?_
      refine p_callVv (isLit_ok w (k := k - 1) _ (obD pp47 (by omega)) _) kvX2_116 (by decide +kernel) (obD pp47 (by omega)).1 (obD pp47 (by omega)).2.1 (by omega) rfl rfl rfl rfl rfl ?_
      rw [hR1.2.2.1 i (by omega) 2 (by omega)]
      refine p_if_eq (off := 86) 107 (by decide +kernel) (by decide) (fun cq1 => ?_) (fun cq1 => ?_)
      · refine p_run (pc' := 2) [.iinc 1 1, .goto (-108)] mkX2_digAll (by decide +kernel) rfl rfl ?_
        exact ih _ _ ⟨_, _, _, _, _, by rw [show nI i + Int32.ofInt 1 = nI (i + 1) by simp only [oI, nI_add]], by rw [daF, if_neg (bI0.mp cq1)]; exact hR1, hF⟩
      · obtain ⟨eb, hb4⟩ := hI1.br (d := i) (by omega)
        refine p_run (pc' := 26) [.aload_n 0, .iload_n 1] mkX2_digAll (by decide +kernel) rfl rfl ?_
        refine p_callVi (cdigs47 w (k := k - 1) (by omega) i (daF N i) hh hI1 hR1 (by omega) hT1) (fun _ _ q => q.1) kvX2_120 (by decide +kernel) (by decide) rfl (by omega) rfl rfl rfl rfl rfl (fun h' hq => ?_)
        obtain ⟨-, hF2⟩ := hq
        rename Mm => h2
        have hR2 := hR1.fw pp47 hF2 (by omega)
        refine p_run (pc' := 32) [.istore_n 3, .aload_n 0, .iload_n 1] mkX2_digAll (by decide +kernel) rfl rfl ?_
        refine p_callVv (cburns47 w (k := k - 1) (by omega) i (daF N i) h2 hI1 hR2 (by omega)) kvX2_124 (by decide +kernel) (by decide) rfl (by omega) rfl rfl rfl rfl rfl ?_
        refine p_run (pc' := 42) [.istore 4, .aload_n 0, .getfield 17, .aload_n 2] mkX2_digAll (by decide +kernel) rfl rfl ?_
        refine p_getI (by decide +kernel) fo2_76 (obD pp47 (by omega)).1 (obD pp47 (by omega)).2.1 ((obD pp47 (by omega)).2.2 _) ?_
        refine Wp.eqS (st' := [.int (nI (brF (daF N i) i)), .ref 48]) (by rw [hR2.2.2.1 i (by omega) 3 (by omega)]; exact congrArg (fun x => [Value.int x, .ref 48]) eb) ?_
        refine p_aald (brF (daF N i) i) (by decide +kernel) (by decide) rfl (by decide) rfl (by omega) (rfB47 (brF (daF N i) i) (by omega)) ?_
        refine p_run (pc' := 54) [.astore 5, .iload_n 3, .sipush 999, .aload 5] mkX2_digAll (by decide +kernel) rfl rfl ?_
        refine p_getI (by decide +kernel) fo2_127 (obB pp47 hb4).1 (obB pp47 hb4).2.1 ((obB pp47 hb4).2.2 _) ?_
        rw [hR2.2.1 _ hb4 0 (by omega)]
        refine p_run (pc' := 58) [.isub] mkX2_digAll (by decide +kernel) rfl rfl ?_
        refine p_mmin jlX2_130 (by decide +kernel) (by omega) rfl ?_
        rw [show Int32.ofInt 999 = nI 999 from rfl, ds_class hI1 (by omega)]
        generalize em : nI (min (nN (bK (daF N i) (brF (daF N i) i) 0) + nN (dgF (daF N i) i)) 999 - nN (bK (daF N i) (brF (daF N i) i) 0)) = m
        refine p_run (pc' := 66) [.istore 6, .aload 5, .dup] mkX2_digAll (by decide +kernel) rfl rfl ?_
        refine p_getI (by decide +kernel) fo2_127 (obB pp47 hb4).1 (obB pp47 hb4).2.1 ((obB pp47 hb4).2.2 _) ?_
        rw [hR2.2.1 _ hb4 0 (by omega)]
        refine p_run (pc' := 72) [.iload 6, .iadd] mkX2_digAll (by decide +kernel) rfl rfl ?_
        refine p_put (by decide +kernel) fo2_127 (obB pp47 hb4).1 (obB pp47 hb4).2.1 rfl ((obB pp47 hb4).2.2 _) ?_
        refine p_run (pc' := 80) [.aload_n 2, .sipush 9999, .aload_n 2] mkX2_digAll (by decide +kernel) rfl rfl ?_
        refine p_getI (by decide +kernel) fo2_79 (obD pp47 (by omega)).1 (obD pp47 (by omega)).2.1 ((obD pp47 (by omega)).2.2 _) ?_
        rw [upN (by omega), hR2.2.2.1 i (by omega) 4 (by omega)]
        refine p_run (pc' := 86) [.iload 6, .iadd] mkX2_digAll (by decide +kernel) rfl rfl ?_
        refine p_mmin jlX2_130 (by decide +kernel) (by omega) rfl ?_
        refine p_put (by decide +kernel) fo2_79 (obD pp47 (by omega)).1 (obD pp47 (by omega)).2.1 rfl ((obD pp47 (by omega)).2.2 _) ?_
        refine p_run (pc' := 95) [.aload_n 2, .iconst 0, .aload_n 2] mkX2_digAll (by decide +kernel) rfl rfl ?_
        refine p_getI (by decide +kernel) fo2_73 (obD pp47 (by omega)).1 (obD pp47 (by omega)).2.1 ((obD pp47 (by omega)).2.2 _) ?_
        rw [uN (by decide), upN (by omega), hR2.2.2.1 i (by omega) 2 (by omega)]
        refine p_run (pc' := 101) [.iload 4, .isub] mkX2_digAll (by decide +kernel) rfl rfl ?_
        refine p_mmax jlX2_136 (by decide +kernel) (by omega) rfl ?_
        refine p_put (by decide +kernel) fo2_73 (obD pp47 (by omega)).1 (obD pp47 (by omega)).2.1 rfl ((obD pp47 (by omega)).2.2 _) ?_
        refine p_run (pc' := 2) [.iinc 1 1, .goto (-108)] mkX2_digAll (by decide +kernel) rfl rfl ?_
        exact ih _ _ ⟨_, _, _, _, _, by rw [show nI i + Int32.ofInt 1 = nI (i + 1) by simp only [oI, nI_add]], by rw [daF, if_pos (bI1.mp cq1)]; exact hR2.ds hI1 (by omega) m em.symm, (hF.tr hF2.fp).tr (((Fp.u1 (by omega)).tr (Fp.u1 (by omega))).tr (Fp.u1 (by omega)))⟩
  · rintro L hh ⟨x2, x3, x4, x5, x6, rfl, hJ⟩
    obtain ⟨hR1, hF⟩ := hJ
    have hi10 : (nd N) ≤ 10 := by omega
    have hI1 := daF_Iv hI (nd N) hi10
    have n1 := daF_nd hI hi10
    have hT1 : TR hh (daF N (nd N)) := (hT.fp pp47 hF).da (fun j hj => daF_out hI (Or.inr hj) (nd N) hi10) (daF_out hI (Or.inl (by omega)) (nd N) hi10)
    have e1 : daF N (nd N) 1 = nI (nd N) := by rw [daF_out hI (Or.inl (by omega)) (nd N) hi10]; exact en
    refine p_run (pc' := 7) [.iload_n 1, .aload_n 0, .getfield 45] mkX2_digAll (by decide +kernel) rfl rfl ?_
    rw [hR1.1.1, e1]
    refine p_icmp_ge (off := 106) 113 (by decide +kernel) (by decide) (fun cqh => ?_) (fun cqh => ?_)
    · refine p_vret rfl (by decide +kernel) ?_
      exact ⟨rfl, hR1, hF⟩
    · exact absurd (nI_le (Nat.le_refl _) (by omega)) cqh
  · exact ⟨_, _, _, _, _, rfl, hR, Fp.rf⟩
