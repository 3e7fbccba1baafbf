/-! the class: warders, rocks, nights -/
theorem flF_nd {N : Vc} {b i : Nat} : nd (flF N b i) = nd N := by unfold nd; rw [flF_out i (fun d _ => by omega)]
theorem flF_dK {N : Vc} {b i : Nat} : dK (flF N b i) i 3 = dK N i 3 := flF_out i (fun d hd => by omega)
theorem TR.fl {h : Mm} {N : Vc} {b n : Nat} (hT : TR h N) (hn : n ≤ 10) : TR h (flF N b n) := hT.da (fun j hj => flF_out n (fun d hd => by omega)) (flF_out n (fun d hd => by omega))
theorem faF_hi {N : Vc} {j : Nat} (hj : 70 ≤ j ∨ j = 7) : faF N j = N j := faF_out (by omega)
theorem jr {z d : Nat} (hz : z < 2 ^ 24) (h0 : 0 < d) (hd : d < 2 ^ 31) : jrem (nI z) (nI d) = nI (z % d) := jrem_nI (by omega) h0 hd
set_option maxRecDepth 20000 in
set_option maxHeartbeats 4000000 in
theorem cflee11 (w : Wt) {k : Nat} (b : Nat) (hb : b < 4) (N : Vc) (h : Mm) (hI : Iv N) (hR : PR 11 h N) : Ok w k MX2_flee [.ref 11, .int (nI b)] h (fun r h' => r = none ∧ PR 11 h' (flF N b (nd N)) ∧ Fp 11 h h') := by
  show Wp w k MX2_flee _ 0 [some (.ref 11), some (.int (nI b)), none, none] [] h
  obtain ⟨en, hn10⟩ := hI.nd
  refine p_run (pc' := 4) [.iload_n 1, .iconst 1, .iadd, .iconst 4] mkX2_flee (by decide +kernel) rfl rfl ?_
  rw [show nI b + Int32.ofInt 1 = nI (b + 1) by simp only [oI, nI_add]]
  refine p_irem (by decide +kernel) (by decide) ?_
  rw [show jrem (nI (b + 1)) (Int32.ofInt 4) = nI ((b + 1) % 4) from jrem_nI (d := 4) (by omega) (by omega) (by omega)]
  obtain ⟨en, hn10⟩ := hI.nd
  refine p_run (pc' := 8) [.istore_n 2, .iconst 0, .istore_n 3] mkX2_flee (by decide +kernel) rfl rfl ?_
  refine Wp.for (nd N) (fun i L hh => L = [some (.ref 11), some (.int (nI b)), some (.int (nI ((b + 1) % 4))), some (.int (nI i))] ∧ (PR 11 hh (flF N b i) ∧ Fp 11 h hh)) ?_ ?_ (0) (by omega) _ _ ?_
  · rintro i L hh hi ⟨rfl, hJ⟩ ih
    obtain ⟨hR1, hF⟩ := hJ
    have e1 : flF N b i 1 = nI (nd N) := by rw [flF_out _ (fun d _ => by omega)]; exact en
    refine p_run (pc' := 13) [.iload_n 3, .aload_n 0, .getfield 45] mkX2_flee (by decide +kernel) rfl rfl ?_
    rw [hR1.1.1, e1]
    refine p_icmp_ge (off := 32) 45 (by decide +kernel) (by decide) (fun cqh => ?_) (fun cqh => ?_)
    · exact absurd cqh (nI_ge (by omega) (by omega))
    · refine p_run (pc' := 21) [.aload_n 0, .getfield 24, .iload_n 3] mkX2_flee (by decide +kernel) rfl rfl ?_
      refine p_aald (i) (by decide +kernel) (by decide) rfl (by decide) rfl (by omega) (rfD11 i (by omega)) ?_
      refine p_getI (by decide +kernel) fo2_76 (obD pp11 (by omega)).1 (obD pp11 (by omega)).2.1 ((obD pp11 (by omega)).2.2 _) ?_
      rw [hR1.2.2.1 i (by rw [flF_nd]; omega) 3 (by omega), flF_dK]
      refine p_run (pc' := 26) [.iload_n 1] mkX2_flee (by decide +kernel) rfl rfl ?_
      refine p_icmp_ne (off := 13) 39 (by decide +kernel) (by decide) (fun cq1 => ?_) (fun cq1 => ?_)
      · refine p_run (pc' := 8) [.iinc 3 1, .goto (-34)] mkX2_flee (by decide +kernel) rfl rfl ?_
        exact ih _ _ ⟨by rw [show nI i + Int32.ofInt 1 = nI (i + 1) by simp only [oI, nI_add]], by rw [flF, if_neg (fun q => cq1 (inB_iff.mp q))]; exact hR1, hF⟩
      · refine p_run (pc' := 34) [.aload_n 0, .getfield 24, .iload_n 3] mkX2_flee (by decide +kernel) rfl rfl ?_
        refine p_aald (i) (by decide +kernel) (by decide) rfl (by decide) rfl (by omega) (rfD11 i (by omega)) ?_
        refine p_run (pc' := 36) [.iload_n 2] mkX2_flee (by decide +kernel) rfl rfl ?_
        refine p_put (by decide +kernel) fo2_76 (obD pp11 (by omega)).1 (obD pp11 (by omega)).2.1 rfl ((obD pp11 (by omega)).2.2 _) ?_
        refine p_run (pc' := 8) [.iinc 3 1, .goto (-34)] mkX2_flee (by decide +kernel) rfl rfl ?_
        exact ih _ _ ⟨by rw [show nI i + Int32.ofInt 1 = nI (i + 1) by simp only [oI, nI_add]], by rw [flF, if_pos (inB_iff.mpr cq1)]; exact hR1.upD (by rw [flF_nd]; omega) (by omega) (by rw [flF_nd]; omega), hF.tr (Fp.u1 (by omega))⟩
  · rintro L hh ⟨rfl, hJ⟩
    obtain ⟨hR1, hF⟩ := hJ
    have e1 : flF N b (nd N) 1 = nI (nd N) := by rw [flF_out _ (fun d _ => by omega)]; exact en
    refine p_run (pc' := 13) [.iload_n 3, .aload_n 0, .getfield 45] mkX2_flee (by decide +kernel) rfl rfl ?_
    rw [hR1.1.1, e1]
    refine p_icmp_ge (off := 32) 45 (by decide +kernel) (by decide) (fun cqh => ?_) (fun cqh => ?_)
    · refine p_vret rfl (by decide +kernel) ?_
      exact ⟨rfl, hR1, hF⟩
    · exact absurd (nI_le (Nat.le_refl _) (by omega)) cqh
  · exact ⟨rfl, hR, Fp.rf⟩
set_option maxRecDepth 20000 in
set_option maxHeartbeats 4000000 in
theorem cfollow11 (w : Wt) {k : Nat} (hk : 2 ≤ k) (b : Nat) (hb : b < 4) (N : Vc) (h : Mm) (hI : Iv N) (hR : PR 11 h N) : Ok w k MX2_follow [.ref 11, .int (nI b)] h (fun r h' => r = none ∧ PR 11 h' (waF N b) ∧ Fp 11 h h') := by
  show Wp w k MX2_follow _ 0 [some (.ref 11), some (.int (nI b)), none] [] h
  have hn10 := hI.nd.2
  refine p_run (pc' := 5) [.aload_n 0, .getfield 17, .iload_n 1] mkX2_follow (by decide +kernel) rfl rfl ?_
  refine p_aald (b) (by decide +kernel) (by decide) rfl (by decide) rfl (by omega) (rfB11 b (by omega)) ?_
  refine p_run (pc' := 9) [.astore_n 2, .aload_n 2, .aload_n 2] mkX2_follow (by decide +kernel) rfl rfl ?_
  refine p_getI (by decide +kernel) fo2_127 (obB pp11 hb).1 (obB pp11 hb).2.1 ((obB pp11 hb).2.2 _) ?_
  refine p_run (pc' := 13) [.aload_n 2] mkX2_follow (by decide +kernel) rfl rfl ?_
  refine p_getI (by decide +kernel) fo2_139 (obB pp11 hb).1 (obB pp11 hb).2.1 ((obB pp11 hb).2.2 _) ?_
  rw [hR.2.1 b hb 0 (by omega), hR.2.1 b hb 2 (by omega)]
  refine p_run (pc' := 21) [.aload_n 0, .getfield 34, .iadd] mkX2_follow (by decide +kernel) rfl rfl ?_
  rw [hR.1.2.2.1]
  refine p_mmin jlX2_130 (by decide +kernel) (by omega) rfl ?_
  rw [wg_class hI hb]
  refine p_put (by decide +kernel) fo2_139 (obB pp11 hb).1 (obB pp11 hb).2.1 rfl ((obB pp11 hb).2.2 _) ?_
  have hR1 : PR 11 (up h (11 + 2 + b) 2 (clF (bK N b 2 + N 3) (nI 0) (bK N b 0))) (wgF N b) := hR.upB hb (by omega) hn10
  have hF1 : Fp 11 h (up h (11 + 2 + b) 2 (clF (bK N b 2 + N 3) (nI 0) (bK N b 0))) := Fp.u1 (by omega)
  have hI1 := wgF_Iv hI hb
  generalize up h (11 + 2 + b) 2 (clF (bK N b 2 + N 3) (nI 0) (bK N b 0)) = h1 at *
  have hm1 := hI1.nd.2
  unfold waF
  generalize wgF N b = M at *
  refine p_run (pc' := 28) [.aload_n 2] mkX2_follow (by decide +kernel) rfl rfl ?_
  refine p_getI (by decide +kernel) fo2_139 (obB pp11 hb).1 (obB pp11 hb).2.1 ((obB pp11 hb).2.2 _) ?_
  refine p_run (pc' := 32) [.aload_n 2] mkX2_follow (by decide +kernel) rfl rfl ?_
  refine p_getI (by decide +kernel) fo2_127 (obB pp11 hb).1 (obB pp11 hb).2.1 ((obB pp11 hb).2.2 _) ?_
  rw [hR1.2.1 b hb 0 (by omega), hR1.2.1 b hb 2 (by omega)]
  refine p_icmp_ne (off := 26) 61 (by decide +kernel) (by decide) (fun cq1 => ?_) (fun cq1 => ?_)
  · refine p_vret rfl (by decide +kernel) ?_
    rw [if_pos (Or.inl (Classical.byContradiction (fun q => cq1 ((ah_eq hI1 hb).mpr q))))]; exact ⟨rfl, hR1, hF1⟩
  · have nah := (ah_eq hI1 hb).mp cq1
    refine p_run (pc' := 40) [.aload_n 0, .iload_n 1] mkX2_follow (by decide +kernel) rfl rfl ?_
    refine p_callVv (cdiggersIn11 w (k := k - 1) b M h1 hI1 hR1) kvX2_142 (by decide +kernel) (by decide) rfl (by omega) rfl rfl rfl rfl rfl ?_
    have hs := setF_1024 (inB M b) hm1
    refine p_if_eq (off := 18) 61 (by decide +kernel) (by decide) (fun cq2 => ?_) (fun cq2 => ?_)
    · rw [nI_eq0 (by omega)] at cq2
      refine p_vret rfl (by decide +kernel) ?_
      rw [if_pos (Or.inr cq2)]; exact ⟨rfl, hR1, hF1⟩
    · rw [nI_eq0 (by omega)] at cq2
      rw [if_neg (fun q => q.elim nah cq2)]
      refine p_run (pc' := 58) [.aload_n 0, .dup, .getfield 57, .iconst 1, .iadd, .putfield 57, .aload_n 0, .iload_n 1] mkX2_follow (by decide +kernel) rfl rfl ?_
      rw [hR1.1.2.2.2.2.1]
      have hR2 : PR 11 (up h1 11 8 (M 5 + Int32.ofInt 1)) (upd M 5 (M 5 + nI 1)) := hR1.upF (Or.inr (Or.inr (Or.inl ⟨rfl, rfl⟩))) hm1
      have hI2 : Iv (upd M 5 (M 5 + nI 1)) := up5_Iv hI1 (Or.inl rfl)
      have n2 : nd (upd M 5 (M 5 + nI 1)) = nd M := nd_upd (by omega)
      refine p_callVo (cflee11 w (k := k - 1) b hb (upd M 5 (M 5 + nI 1)) _ hI2 hR2) (fun _ _ q => q.1) kvX2_145 (by decide +kernel) (by decide) rfl (by omega) rfl rfl rfl rfl rfl (fun h' hq => ?_)
      obtain ⟨-, hR3, hF3⟩ := hq
      refine p_vret rfl (by decide +kernel) ?_
      rw [n2] at hR3; exact ⟨rfl, hR3, (hF1.tr (Fp.u1 (by omega))).tr hF3⟩
set_option maxRecDepth 20000 in
set_option maxHeartbeats 4000000 in
theorem crock11 (w : Wt) {k : Nat} (hk : 1 ≤ k) (N : Vc) (h : Mm) (hI : Iv N) (hR : PR 11 h N) : Ok w k MX2_letRockFall [.ref 11] h (fun r h' => r = none ∧ PR 11 h' (faF N) ∧ Fp 11 h h') := by
  show Wp w k MX2_letRockFall _ 0 [some (.ref 11), none] [] h
  have hn10 := hI.nd.2
  have z0 := dvN_lt (zF (N 0))
  have z1 := dvN_lt (zF (zF (N 0)))
  have z2 := dvN_lt (zF (zF (zF (N 0))))
  refine p_run (pc' := 1) [.aload_n 0] mkX2_letRockFall (by decide +kernel) rfl rfl ?_
  refine p_callVv (cdraw11 w (k := k - 1) h) kvX2_82 (by decide +kernel) (by decide) rfl (by omega) rfl rfl rfl rfl rfl ?_
  rw [hR.1.2.2.2.2.2.2.2]
  refine p_run (pc' := 6) [.bipush 100] mkX2_letRockFall (by decide +kernel) rfl rfl ?_
  refine p_irem (by decide +kernel) (by decide) ?_
  rw [show jrem (nI (dvN (zF (N 0)))) (Int32.ofInt 100) = nI (dvN (zF (N 0)) % 100) from jr (d := 100) z0 (by omega) (by omega)]
  have hR1 : PR 11 (up h 11 11 (zF (N 0))) (drF N) := hR.upF (Or.inr (Or.inr (Or.inr (Or.inr (Or.inr ⟨rfl, rfl⟩))))) hn10
  have hF1 : Fp 11 h (up h 11 11 (zF (N 0))) := Fp.u1 (by omega)
  generalize up h 11 11 (zF (N 0)) = h1 at *
  refine p_run (pc' := 11) [.aload_n 0, .getfield 54] mkX2_letRockFall (by decide +kernel) rfl rfl ?_
  rw [hR1.1.2.2.2.1]
  rw [show drF N 4 = N 4 from upd_n (by omega)]
  refine p_icmp_ge (off := 36) 47 (by decide +kernel) (by decide) (fun cq1 => ?_) (fun cq1 => ?_)
  · refine p_vret rfl (by decide +kernel) ?_
    unfold faF; rw [if_neg (Int32.not_lt.mpr cq1)]; exact ⟨rfl, hR1, hF1⟩
  · unfold faF; rw [if_pos (Int32.not_le.mp cq1)]
    refine p_run (pc' := 15) [.aload_n 0] mkX2_letRockFall (by decide +kernel) rfl rfl ?_
    refine p_callVv (cdraw11 w (k := k - 1) h1) kvX2_82 (by decide +kernel) (by decide) rfl (by omega) rfl rfl rfl rfl rfl ?_
    rw [hR1.1.2.2.2.2.2.2.2, show drF N 0 = zF (N 0) from upd_s]
    refine p_run (pc' := 19) [.iconst 4] mkX2_letRockFall (by decide +kernel) rfl rfl ?_
    refine p_irem (by decide +kernel) (by decide) ?_
    rw [show jrem (nI (dvN (zF (zF (N 0))))) (Int32.ofInt 4) = nI (dvN (zF (zF (N 0))) % 4) from jr (d := 4) z1 (by omega) (by omega)]
    have hR2 : PR 11 (up h1 11 11 (zF (zF (N 0)))) (drF (drF N)) := by have := hR1.upF (x := zF (zF (N 0))) (Or.inr (Or.inr (Or.inr (Or.inr (Or.inr ⟨rfl, rfl⟩))))) (by rw [nd_dr]; exact hn10); exact this
    have hF2 := hF1.tr (Fp.u1 (p := 11) (h := h1) (a := 11) (k := 11) (x := zF (zF (N 0))) (by omega))
    generalize up h1 11 11 (zF (zF (N 0))) = h2 at *
    generalize hb : dvN (zF (zF (N 0))) % 4 = b
    have hb4 : b < 4 := by omega
    refine p_run (pc' := 26) [.istore_n 1, .aload_n 0, .getfield 17, .iload_n 1] mkX2_letRockFall (by decide +kernel) rfl rfl ?_
    refine p_aald (b) (by decide +kernel) (by decide) rfl (by decide) rfl (by omega) (rfB11 b (by omega)) ?_
    refine p_run (pc' := 28) [.aload_n 0] mkX2_letRockFall (by decide +kernel) rfl rfl ?_
    refine p_callVv (cdraw11 w (k := k - 1) h2) kvX2_82 (by decide +kernel) (by decide) rfl (by omega) rfl rfl rfl rfl rfl ?_
    rw [hR2.1.2.2.2.2.2.2.2, show drF (drF N) 0 = zF (zF (N 0)) from upd_s]
    refine p_run (pc' := 33) [.bipush 100] mkX2_letRockFall (by decide +kernel) rfl rfl ?_
    refine p_irem (by decide +kernel) (by decide) ?_
    rw [show jrem (nI (dvN (zF (zF (zF (N 0)))))) (Int32.ofInt 100) = nI (dvN (zF (zF (zF (N 0)))) % 100) from jr (d := 100) z2 (by omega) (by omega)]
    have hR3 : PR 11 (up h2 11 11 (zF (zF (zF (N 0))))) (drF (drF (drF N))) := by have := hR2.upF (x := zF (zF (zF (N 0)))) (Or.inr (Or.inr (Or.inr (Or.inr (Or.inr ⟨rfl, rfl⟩))))) (by rw [nd_dr, nd_dr]; exact hn10); exact this
    have hF3 := hF2.tr (Fp.u1 (p := 11) (h := h2) (a := 11) (k := 11) (x := zF (zF (zF (N 0)))) (by omega))
    generalize up h2 11 11 (zF (zF (zF (N 0)))) = h3 at *
    refine p_put (by decide +kernel) fo2_148 (obB pp11 hb4).1 (obB pp11 hb4).2.1 rfl ((obB pp11 hb4).2.2 _) ?_
    have hR4 := hR3.upB (b := b) (j := 1) (x := nI (dvN (zF (zF (zF (N 0)))) % 100)) hb4 (by omega) (by rw [nd_dr, nd_dr, nd_dr]; exact hn10)
    have hF4 := hF3.tr (Fp.u1 (p := 11) (h := h3) (a := 11 + 2 + b) (k := 1) (x := nI (dvN (zF (zF (zF (N 0)))) % 100)) (by omega))
    generalize up h3 (11 + 2 + b) 1 (nI (dvN (zF (zF (zF (N 0)))) % 100)) = h4 at *
    refine p_run (pc' := 47) [.aload_n 0, .dup, .getfield 60, .iconst 1, .iadd, .putfield 60] mkX2_letRockFall (by decide +kernel) rfl rfl ?_
    rw [hR4.1.2.2.2.2.2.1]
    have e6 : upd (drF (drF (drF N))) (8 + 3 * b + 1) (nI (dvN (zF (zF (zF (N 0)))) % 100)) 6 = N 6 := by rw [upd_n (by omega)]; exact (upd_n (by omega)).trans ((upd_n (by omega)).trans (upd_n (by omega)))
    rw [e6]
    refine p_vret rfl (by decide +kernel) ?_
    exact ⟨rfl, hR4.upF (Or.inr (Or.inr (Or.inr (Or.inl ⟨rfl, rfl⟩)))) (by rw [nd_upd (by omega), nd_dr, nd_dr, nd_dr]; exact hn10), hF4.tr (Fp.u1 (by omega))⟩
set_option maxRecDepth 20000 in
set_option maxHeartbeats 4000000 in
theorem cpass11 (w : Wt) {k : Nat} (hk : 6 ≤ k) (n : Nat) (hn : n ≤ 1000) (N : Vc) (h : Mm) (hI : Iv N) (hR : PR 11 h N) (hT : TR h N) : Ok w k MX2_pass [.ref 11, .int (nI n)] h (fun r h' => r = none ∧ PR 11 h' (nsF N n) ∧ Fp 11 h h') := by
  show Wp w k MX2_pass _ 0 [some (.ref 11), some (.int (nI n)), none, none] [] h
  refine p_run (pc' := 2) [.iconst 0, .istore_n 2] mkX2_pass (by decide +kernel) rfl rfl ?_
  refine Wp.for (n) (fun i L hh => ∃ (x3 : Option Value), L = [some (.ref 11), some (.int (nI n)), some (.int (nI i)), x3] ∧ (PR 11 hh (nsF N i) ∧ Fp 11 h hh)) ?_ ?_ (0) (by omega) _ _ ?_
  · rintro i L hh hi ⟨x3, rfl, hJ⟩ ih
    obtain ⟨hR1, hF⟩ := hJ
    have hI1 := nsF_Iv hI i
    have hT1 : TR hh (nsF N i) := (hT.fp pp11 hF).da (fun j hj => nsF_out hI (by omega) i) (nsF_out hI (by omega) i)
    rw [nsF] at ih
    generalize nsF N i = K at *
    have hn10 := hI1.nd.2
    refine p_run (pc' := 4) [.iload_n 2, .iload_n 1] mkX2_pass (by decide +kernel) rfl rfl ?_
    refine p_icmp_ge (off := 45) 49 (by decide +kernel) (by decide) (fun cqh => ?_) (fun cqh => ?_)
    · exact absurd cqh (nI_ge (by omega) (by omega))
    · refine p_run (pc' := 8) [.aload_n 0] mkX2_pass (by decide +kernel) rfl rfl ?_
      refine p_callVo (cdigAll11 w (k := k - 1) (by omega) K hh hI1 hR1 hT1) (fun _ _ q => q.1) kvX2_106 (by decide +kernel) (by decide) rfl (by omega) rfl rfl rfl rfl rfl (fun h' hq => ?_)
      obtain ⟨-, hR2, hF2⟩ := hq
      rename Mm => h2
      have hI2 := daF_Iv hI1 (nd K) hn10
      have ewa : waF (waF (waF (waF (daF K (nd K)) 0) 1) 2) 3 = waI (daF K (nd K)) 4 := rfl
      unfold niF at ih
      rw [ewa] at ih
      generalize daF K (nd K) = D at *
      refine p_run (pc' := 13) [.iconst 0, .istore_n 3] mkX2_pass (by decide +kernel) rfl rfl ?_
      refine Wp.for 4 (fun b L h3 => L = [some (.ref 11), some (.int (nI n)), some (.int (nI i)), some (.int (nI b))] ∧ PR 11 h3 (waI D b) ∧ Fp 11 h2 h3) ?_ ?_ 0 (by omega) _ _ ⟨rfl, hR2, Fp.rf⟩
      · rintro b L h3 hb ⟨rfl, hJ⟩ ih2
        obtain ⟨hR3, hF3⟩ := hJ
        have hI3 := waI_Iv hI2 b (by omega)
        refine p_run (pc' := 15) [.iload_n 3, .iconst 4] mkX2_pass (by decide +kernel) rfl rfl ?_
        refine p_icmp_ge (off := 14) 29 (by decide +kernel) (by decide) (fun cqk => ?_) (fun cqk => ?_)
        · exact False.elim (by rw [oI, nI_leI (by omega) (by omega)] at cqk; omega)
        · refine p_run (pc' := 20) [.aload_n 0, .iload_n 3] mkX2_pass (by decide +kernel) rfl rfl ?_
          refine p_callVo (cfollow11 w (k := k - 1) (by omega) b (by omega) (waI D b) h3 hI3 hR3) (fun _ _ q => q.1) kvX2_109 (by decide +kernel) (by decide) rfl (by omega) rfl rfl rfl rfl rfl (fun h' hq => ?_)
          obtain ⟨-, hR4, hF4⟩ := hq
          refine p_run (pc' := 13) [.iinc 3 1, .goto (-13)] mkX2_pass (by decide +kernel) rfl rfl ?_
          exact ih2 _ _ ⟨by rw [show nI b + Int32.ofInt 1 = nI (b + 1) by simp only [oI, nI_add]], hR4, hF3.tr hF4⟩
      · rintro L h3 ⟨rfl, hJ⟩
        obtain ⟨hR3, hF3⟩ := hJ
        have hI3 := waI_Iv hI2 4 (by omega)
        have hm := hI3.nd.2
        refine p_run (pc' := 15) [.iload_n 3, .iconst 4] mkX2_pass (by decide +kernel) rfl rfl ?_
        refine p_icmp_ge (off := 14) 29 (by decide +kernel) (by decide) (fun cqk => ?_) (fun cqk => ?_)
        · refine p_run (pc' := 30) [.aload_n 0] mkX2_pass (by decide +kernel) rfl rfl ?_
          refine p_callVo (crock11 w (k := k - 1) (by omega) (waI D 4) h3 hI3 hR3) (fun _ _ q => q.1) kvX2_113 (by decide +kernel) (by decide) rfl (by omega) rfl rfl rfl rfl rfl (fun h' hq => ?_)
          obtain ⟨-, hR4, hF4⟩ := hq
          have hI4 := faF_Iv hI3
          have hm4 := hI4.nd.2
          refine p_run (pc' := 2) [.aload_n 0, .dup, .getfield 63, .iconst 1, .iadd, .putfield 63, .iinc 2 1, .goto (-44)] mkX2_pass (by decide +kernel) rfl rfl ?_
          rw [hR4.1.2.2.2.2.2.2.1]
          exact ih _ _ ⟨_, by rw [show nI i + Int32.ofInt 1 = nI (i + 1) by simp only [oI, nI_add]], hR4.upF (Or.inr (Or.inr (Or.inr (Or.inr (Or.inl ⟨rfl, rfl⟩))))) hm4, (((hF.tr hF2).tr hF3).tr hF4).tr (Fp.u1 (by omega))⟩
        · exact False.elim (by revert cqk; decide)
  · rintro L hh ⟨x3, rfl, hJ⟩
    obtain ⟨hR1, hF⟩ := hJ
    refine p_run (pc' := 4) [.iload_n 2, .iload_n 1] mkX2_pass (by decide +kernel) rfl rfl ?_
    refine p_icmp_ge (off := 45) 49 (by decide +kernel) (by decide) (fun cqh => ?_) (fun cqh => ?_)
    · refine p_vret rfl (by decide +kernel) ?_
      exact ⟨rfl, hR1, hF⟩
    · exact absurd (nI_le (Nat.le_refl _) (by omega)) cqh
  · exact ⟨_, rfl, hR, Fp.rf⟩
set_option maxRecDepth 20000 in
set_option maxHeartbeats 4000000 in
theorem cflee47 (w : Wt) {k : Nat} (b : Nat) (hb : b < 4) (N : Vc) (h : Mm) (hI : Iv N) (hR : PR 47 h N) : Ok w k MX2_flee [.ref 47, .int (nI b)] h (fun r h' => r = none ∧ PR 47 h' (flF N b (nd N)) ∧ Fp 47 h h') := by
  show Wp w k MX2_flee _ 0 [some (.ref 47), some (.int (nI b)), none, none] [] h
  obtain ⟨en, hn10⟩ := hI.nd
  refine p_run (pc' := 4) [.iload_n 1, .iconst 1, .iadd, .iconst 4] mkX2_flee (by decide +kernel) rfl rfl ?_
  rw [show nI b + Int32.ofInt 1 = nI (b + 1) by simp only [oI, nI_add]]
  refine p_irem (by decide +kernel) (by decide) ?_
  rw [show jrem (nI (b + 1)) (Int32.ofInt 4) = nI ((b + 1) % 4) from jrem_nI (d := 4) (by omega) (by omega) (by omega)]
  obtain ⟨en, hn10⟩ := hI.nd
  refine p_run (pc' := 8) [.istore_n 2, .iconst 0, .istore_n 3] mkX2_flee (by decide +kernel) rfl rfl ?_
  refine Wp.for (nd N) (fun i L hh => L = [some (.ref 47), some (.int (nI b)), some (.int (nI ((b + 1) % 4))), some (.int (nI i))] ∧ (PR 47 hh (flF N b i) ∧ Fp 47 h hh)) ?_ ?_ (0) (by omega) _ _ ?_
  · rintro i L hh hi ⟨rfl, hJ⟩ ih
    obtain ⟨hR1, hF⟩ := hJ
    have e1 : flF N b i 1 = nI (nd N) := by rw [flF_out _ (fun d _ => by omega)]; exact en
    refine p_run (pc' := 13) [.iload_n 3, .aload_n 0, .getfield 45] mkX2_flee (by decide +kernel) rfl rfl ?_
    rw [hR1.1.1, e1]
    refine p_icmp_ge (off := 32) 45 (by decide +kernel) (by decide) (fun cqh => ?_) (fun cqh => ?_)
    · exact absurd cqh (nI_ge (by omega) (by omega))
    · refine p_run (pc' := 21) [.aload_n 0, .getfield 24, .iload_n 3] mkX2_flee (by decide +kernel) rfl rfl ?_
      refine p_aald (i) (by decide +kernel) (by decide) rfl (by decide) rfl (by omega) (rfD47 i (by omega)) ?_
      refine p_getI (by decide +kernel) fo2_76 (obD pp47 (by omega)).1 (obD pp47 (by omega)).2.1 ((obD pp47 (by omega)).2.2 _) ?_
      rw [hR1.2.2.1 i (by rw [flF_nd]; omega) 3 (by omega), flF_dK]
      refine p_run (pc' := 26) [.iload_n 1] mkX2_flee (by decide +kernel) rfl rfl ?_
      refine p_icmp_ne (off := 13) 39 (by decide +kernel) (by decide) (fun cq1 => ?_) (fun cq1 => ?_)
      · refine p_run (pc' := 8) [.iinc 3 1, .goto (-34)] mkX2_flee (by decide +kernel) rfl rfl ?_
        exact ih _ _ ⟨by rw [show nI i + Int32.ofInt 1 = nI (i + 1) by simp only [oI, nI_add]], by rw [flF, if_neg (fun q => cq1 (inB_iff.mp q))]; exact hR1, hF⟩
      · refine p_run (pc' := 34) [.aload_n 0, .getfield 24, .iload_n 3] mkX2_flee (by decide +kernel) rfl rfl ?_
        refine p_aald (i) (by decide +kernel) (by decide) rfl (by decide) rfl (by omega) (rfD47 i (by omega)) ?_
        refine p_run (pc' := 36) [.iload_n 2] mkX2_flee (by decide +kernel) rfl rfl ?_
        refine p_put (by decide +kernel) fo2_76 (obD pp47 (by omega)).1 (obD pp47 (by omega)).2.1 rfl ((obD pp47 (by omega)).2.2 _) ?_
        refine p_run (pc' := 8) [.iinc 3 1, .goto (-34)] mkX2_flee (by decide +kernel) rfl rfl ?_
        exact ih _ _ ⟨by rw [show nI i + Int32.ofInt 1 = nI (i + 1) by simp only [oI, nI_add]], by rw [flF, if_pos (inB_iff.mpr cq1)]; exact hR1.upD (by rw [flF_nd]; omega) (by omega) (by rw [flF_nd]; omega), hF.tr (Fp.u1 (by omega))⟩
  · rintro L hh ⟨rfl, hJ⟩
    obtain ⟨hR1, hF⟩ := hJ
    have e1 : flF N b (nd N) 1 = nI (nd N) := by rw [flF_out _ (fun d _ => by omega)]; exact en
    refine p_run (pc' := 13) [.iload_n 3, .aload_n 0, .getfield 45] mkX2_flee (by decide +kernel) rfl rfl ?_
    rw [hR1.1.1, e1]
    refine p_icmp_ge (off := 32) 45 (by decide +kernel) (by decide) (fun cqh => ?_) (fun cqh => ?_)
    · refine p_vret rfl (by decide +kernel) ?_
      exact ⟨rfl, hR1, hF⟩
    · exact absurd (nI_le (Nat.le_refl _) (by omega)) cqh
  · exact ⟨rfl, hR, Fp.rf⟩
set_option maxRecDepth 20000 in
set_option maxHeartbeats 4000000 in
theorem cfollow47 (w : Wt) {k : Nat} (hk : 2 ≤ k) (b : Nat) (hb : b < 4) (N : Vc) (h : Mm) (hI : Iv N) (hR : PR 47 h N) : Ok w k MX2_follow [.ref 47, .int (nI b)] h (fun r h' => r = none ∧ PR 47 h' (waF N b) ∧ Fp 47 h h') := by
  show Wp w k MX2_follow _ 0 [some (.ref 47), some (.int (nI b)), none] [] h
  have hn10 := hI.nd.2
  refine p_run (pc' := 5) [.aload_n 0, .getfield 17, .iload_n 1] mkX2_follow (by decide +kernel) rfl rfl ?_
  refine p_aald (b) (by decide +kernel) (by decide) rfl (by decide) rfl (by omega) (rfB47 b (by omega)) ?_
  refine p_run (pc' := 9) [.astore_n 2, .aload_n 2, .aload_n 2] mkX2_follow (by decide +kernel) rfl rfl ?_
  refine p_getI (by decide +kernel) fo2_127 (obB pp47 hb).1 (obB pp47 hb).2.1 ((obB pp47 hb).2.2 _) ?_
  refine p_run (pc' := 13) [.aload_n 2] mkX2_follow (by decide +kernel) rfl rfl ?_
  refine p_getI (by decide +kernel) fo2_139 (obB pp47 hb).1 (obB pp47 hb).2.1 ((obB pp47 hb).2.2 _) ?_
  rw [hR.2.1 b hb 0 (by omega), hR.2.1 b hb 2 (by omega)]
  refine p_run (pc' := 21) [.aload_n 0, .getfield 34, .iadd] mkX2_follow (by decide +kernel) rfl rfl ?_
  rw [hR.1.2.2.1]
  refine p_mmin jlX2_130 (by decide +kernel) (by omega) rfl ?_
  rw [wg_class hI hb]
  refine p_put (by decide +kernel) fo2_139 (obB pp47 hb).1 (obB pp47 hb).2.1 rfl ((obB pp47 hb).2.2 _) ?_
  have hR1 : PR 47 (up h (47 + 2 + b) 2 (clF (bK N b 2 + N 3) (nI 0) (bK N b 0))) (wgF N b) := hR.upB hb (by omega) hn10
  have hF1 : Fp 47 h (up h (47 + 2 + b) 2 (clF (bK N b 2 + N 3) (nI 0) (bK N b 0))) := Fp.u1 (by omega)
  have hI1 := wgF_Iv hI hb
  generalize up h (47 + 2 + b) 2 (clF (bK N b 2 + N 3) (nI 0) (bK N b 0)) = h1 at *
  have hm1 := hI1.nd.2
  unfold waF
  generalize wgF N b = M at *
  refine p_run (pc' := 28) [.aload_n 2] mkX2_follow (by decide +kernel) rfl rfl ?_
  refine p_getI (by decide +kernel) fo2_139 (obB pp47 hb).1 (obB pp47 hb).2.1 ((obB pp47 hb).2.2 _) ?_
  refine p_run (pc' := 32) [.aload_n 2] mkX2_follow (by decide +kernel) rfl rfl ?_
  refine p_getI (by decide +kernel) fo2_127 (obB pp47 hb).1 (obB pp47 hb).2.1 ((obB pp47 hb).2.2 _) ?_
  rw [hR1.2.1 b hb 0 (by omega), hR1.2.1 b hb 2 (by omega)]
  refine p_icmp_ne (off := 26) 61 (by decide +kernel) (by decide) (fun cq1 => ?_) (fun cq1 => ?_)
  · refine p_vret rfl (by decide +kernel) ?_
    rw [if_pos (Or.inl (Classical.byContradiction (fun q => cq1 ((ah_eq hI1 hb).mpr q))))]; exact ⟨rfl, hR1, hF1⟩
  · have nah := (ah_eq hI1 hb).mp cq1
    refine p_run (pc' := 40) [.aload_n 0, .iload_n 1] mkX2_follow (by decide +kernel) rfl rfl ?_
    refine p_callVv (cdiggersIn47 w (k := k - 1) b M h1 hI1 hR1) kvX2_142 (by decide +kernel) (by decide) rfl (by omega) rfl rfl rfl rfl rfl ?_
    have hs := setF_1024 (inB M b) hm1
    refine p_if_eq (off := 18) 61 (by decide +kernel) (by decide) (fun cq2 => ?_) (fun cq2 => ?_)
    · rw [nI_eq0 (by omega)] at cq2
      refine p_vret rfl (by decide +kernel) ?_
      rw [if_pos (Or.inr cq2)]; exact ⟨rfl, hR1, hF1⟩
    · rw [nI_eq0 (by omega)] at cq2
      rw [if_neg (fun q => q.elim nah cq2)]
      refine p_run (pc' := 58) [.aload_n 0, .dup, .getfield 57, .iconst 1, .iadd, .putfield 57, .aload_n 0, .iload_n 1] mkX2_follow (by decide +kernel) rfl rfl ?_
      rw [hR1.1.2.2.2.2.1]
      have hR2 : PR 47 (up h1 47 8 (M 5 + Int32.ofInt 1)) (upd M 5 (M 5 + nI 1)) := hR1.upF (Or.inr (Or.inr (Or.inl ⟨rfl, rfl⟩))) hm1
      have hI2 : Iv (upd M 5 (M 5 + nI 1)) := up5_Iv hI1 (Or.inl rfl)
      have n2 : nd (upd M 5 (M 5 + nI 1)) = nd M := nd_upd (by omega)
      refine p_callVo (cflee47 w (k := k - 1) b hb (upd M 5 (M 5 + nI 1)) _ hI2 hR2) (fun _ _ q => q.1) kvX2_145 (by decide +kernel) (by decide) rfl (by omega) rfl rfl rfl rfl rfl (fun h' hq => ?_)
      obtain ⟨-, hR3, hF3⟩ := hq
      refine p_vret rfl (by decide +kernel) ?_
      rw [n2] at hR3; exact ⟨rfl, hR3, (hF1.tr (Fp.u1 (by omega))).tr hF3⟩
set_option maxRecDepth 20000 in
set_option maxHeartbeats 4000000 in
theorem crock47 (w : Wt) {k : Nat} (hk : 1 ≤ k) (N : Vc) (h : Mm) (hI : Iv N) (hR : PR 47 h N) : Ok w k MX2_letRockFall [.ref 47] h (fun r h' => r = none ∧ PR 47 h' (faF N) ∧ Fp 47 h h') := by
  show Wp w k MX2_letRockFall _ 0 [some (.ref 47), none] [] h
  have hn10 := hI.nd.2
  have z0 := dvN_lt (zF (N 0))
  have z1 := dvN_lt (zF (zF (N 0)))
  have z2 := dvN_lt (zF (zF (zF (N 0))))
  refine p_run (pc' := 1) [.aload_n 0] mkX2_letRockFall (by decide +kernel) rfl rfl ?_
  refine p_callVv (cdraw47 w (k := k - 1) h) kvX2_82 (by decide +kernel) (by decide) rfl (by omega) rfl rfl rfl rfl rfl ?_
  rw [hR.1.2.2.2.2.2.2.2]
  refine p_run (pc' := 6) [.bipush 100] mkX2_letRockFall (by decide +kernel) rfl rfl ?_
  refine p_irem (by decide +kernel) (by decide) ?_
  rw [show jrem (nI (dvN (zF (N 0)))) (Int32.ofInt 100) = nI (dvN (zF (N 0)) % 100) from jr (d := 100) z0 (by omega) (by omega)]
  have hR1 : PR 47 (up h 47 11 (zF (N 0))) (drF N) := hR.upF (Or.inr (Or.inr (Or.inr (Or.inr (Or.inr ⟨rfl, rfl⟩))))) hn10
  have hF1 : Fp 47 h (up h 47 11 (zF (N 0))) := Fp.u1 (by omega)
  generalize up h 47 11 (zF (N 0)) = h1 at *
  refine p_run (pc' := 11) [.aload_n 0, .getfield 54] mkX2_letRockFall (by decide +kernel) rfl rfl ?_
  rw [hR1.1.2.2.2.1]
  rw [show drF N 4 = N 4 from upd_n (by omega)]
  refine p_icmp_ge (off := 36) 47 (by decide +kernel) (by decide) (fun cq1 => ?_) (fun cq1 => ?_)
  · refine p_vret rfl (by decide +kernel) ?_
    unfold faF; rw [if_neg (Int32.not_lt.mpr cq1)]; exact ⟨rfl, hR1, hF1⟩
  · unfold faF; rw [if_pos (Int32.not_le.mp cq1)]
    refine p_run (pc' := 15) [.aload_n 0] mkX2_letRockFall (by decide +kernel) rfl rfl ?_
    refine p_callVv (cdraw47 w (k := k - 1) h1) kvX2_82 (by decide +kernel) (by decide) rfl (by omega) rfl rfl rfl rfl rfl ?_
    rw [hR1.1.2.2.2.2.2.2.2, show drF N 0 = zF (N 0) from upd_s]
    refine p_run (pc' := 19) [.iconst 4] mkX2_letRockFall (by decide +kernel) rfl rfl ?_
    refine p_irem (by decide +kernel) (by decide) ?_
    rw [show jrem (nI (dvN (zF (zF (N 0))))) (Int32.ofInt 4) = nI (dvN (zF (zF (N 0))) % 4) from jr (d := 4) z1 (by omega) (by omega)]
    have hR2 : PR 47 (up h1 47 11 (zF (zF (N 0)))) (drF (drF N)) := by have := hR1.upF (x := zF (zF (N 0))) (Or.inr (Or.inr (Or.inr (Or.inr (Or.inr ⟨rfl, rfl⟩))))) (by rw [nd_dr]; exact hn10); exact this
    have hF2 := hF1.tr (Fp.u1 (p := 47) (h := h1) (a := 47) (k := 11) (x := zF (zF (N 0))) (by omega))
    generalize up h1 47 11 (zF (zF (N 0))) = h2 at *
    generalize hb : dvN (zF (zF (N 0))) % 4 = b
    have hb4 : b < 4 := by omega
    refine p_run (pc' := 26) [.istore_n 1, .aload_n 0, .getfield 17, .iload_n 1] mkX2_letRockFall (by decide +kernel) rfl rfl ?_
    refine p_aald (b) (by decide +kernel) (by decide) rfl (by decide) rfl (by omega) (rfB47 b (by omega)) ?_
    refine p_run (pc' := 28) [.aload_n 0] mkX2_letRockFall (by decide +kernel) rfl rfl ?_
    refine p_callVv (cdraw47 w (k := k - 1) h2) kvX2_82 (by decide +kernel) (by decide) rfl (by omega) rfl rfl rfl rfl rfl ?_
    rw [hR2.1.2.2.2.2.2.2.2, show drF (drF N) 0 = zF (zF (N 0)) from upd_s]
    refine p_run (pc' := 33) [.bipush 100] mkX2_letRockFall (by decide +kernel) rfl rfl ?_
    refine p_irem (by decide +kernel) (by decide) ?_
    rw [show jrem (nI (dvN (zF (zF (zF (N 0)))))) (Int32.ofInt 100) = nI (dvN (zF (zF (zF (N 0)))) % 100) from jr (d := 100) z2 (by omega) (by omega)]
    have hR3 : PR 47 (up h2 47 11 (zF (zF (zF (N 0))))) (drF (drF (drF N))) := by have := hR2.upF (x := zF (zF (zF (N 0)))) (Or.inr (Or.inr (Or.inr (Or.inr (Or.inr ⟨rfl, rfl⟩))))) (by rw [nd_dr, nd_dr]; exact hn10); exact this
    have hF3 := hF2.tr (Fp.u1 (p := 47) (h := h2) (a := 47) (k := 11) (x := zF (zF (zF (N 0)))) (by omega))
    generalize up h2 47 11 (zF (zF (zF (N 0)))) = h3 at *
    refine p_put (by decide +kernel) fo2_148 (obB pp47 hb4).1 (obB pp47 hb4).2.1 rfl ((obB pp47 hb4).2.2 _) ?_
    have hR4 := hR3.upB (b := b) (j := 1) (x := nI (dvN (zF (zF (zF (N 0)))) % 100)) hb4 (by omega) (by rw [nd_dr, nd_dr, nd_dr]; exact hn10)
    have hF4 := hF3.tr (Fp.u1 (p := 47) (h := h3) (a := 47 + 2 + b) (k := 1) (x := nI (dvN (zF (zF (zF (N 0)))) % 100)) (by omega))
    generalize up h3 (47 + 2 + b) 1 (nI (dvN (zF (zF (zF (N 0)))) % 100)) = h4 at *
    refine p_run (pc' := 47) [.aload_n 0, .dup, .getfield 60, .iconst 1, .iadd, .putfield 60] mkX2_letRockFall (by decide +kernel) rfl rfl ?_
    rw [hR4.1.2.2.2.2.2.1]
    have e6 : upd (drF (drF (drF N))) (8 + 3 * b + 1) (nI (dvN (zF (zF (zF (N 0)))) % 100)) 6 = N 6 := by rw [upd_n (by omega)]; exact (upd_n (by omega)).trans ((upd_n (by omega)).trans (upd_n (by omega)))
    rw [e6]
    refine p_vret rfl (by decide +kernel) ?_
    exact ⟨rfl, hR4.upF (Or.inr (Or.inr (Or.inr (Or.inl ⟨rfl, rfl⟩)))) (by rw [nd_upd (by omega), nd_dr, nd_dr, nd_dr]; exact hn10), hF4.tr (Fp.u1 (by omega))⟩
set_option maxRecDepth 20000 in
set_option maxHeartbeats 4000000 in
theorem cpass47 (w : Wt) {k : Nat} (hk : 6 ≤ k) (n : Nat) (hn : n ≤ 1000) (N : Vc) (h : Mm) (hI : Iv N) (hR : PR 47 h N) (hT : TR h N) : Ok w k MX2_pass [.ref 47, .int (nI n)] h (fun r h' => r = none ∧ PR 47 h' (nsF N n) ∧ Fp 47 h h') := by
  show Wp w k MX2_pass _ 0 [some (.ref 47), some (.int (nI n)), none, none] [] h
  refine p_run (pc' := 2) [.iconst 0, .istore_n 2] mkX2_pass (by decide +kernel) rfl rfl ?_
  refine Wp.for (n) (fun i L hh => ∃ (x3 : Option Value), L = [some (.ref 47), some (.int (nI n)), some (.int (nI i)), x3] ∧ (PR 47 hh (nsF N i) ∧ Fp 47 h hh)) ?_ ?_ (0) (by omega) _ _ ?_
  · rintro i L hh hi ⟨x3, rfl, hJ⟩ ih
    obtain ⟨hR1, hF⟩ := hJ
    have hI1 := nsF_Iv hI i
    have hT1 : TR hh (nsF N i) := (hT.fp pp47 hF).da (fun j hj => nsF_out hI (by omega) i) (nsF_out hI (by omega) i)
    rw [nsF] at ih
    generalize nsF N i = K at *
    have hn10 := hI1.nd.2
    refine p_run (pc' := 4) [.iload_n 2, .iload_n 1] mkX2_pass (by decide +kernel) rfl rfl ?_
    refine p_icmp_ge (off := 45) 49 (by decide +kernel) (by decide) (fun cqh => ?_) (fun cqh => ?_)
    · exact absurd cqh (nI_ge (by omega) (by omega))
    · refine p_run (pc' := 8) [.aload_n 0] mkX2_pass (by decide +kernel) rfl rfl ?_
      refine p_callVo (cdigAll47 w (k := k - 1) (by omega) K hh hI1 hR1 hT1) (fun _ _ q => q.1) kvX2_106 (by decide +kernel) (by decide) rfl (by omega) rfl rfl rfl rfl rfl (fun h' hq => ?_)
      obtain ⟨-, hR2, hF2⟩ := hq
      rename Mm => h2
      have hI2 := daF_Iv hI1 (nd K) hn10
      have ewa : waF (waF (waF (waF (daF K (nd K)) 0) 1) 2) 3 = waI (daF K (nd K)) 4 := rfl
      unfold niF at ih
      rw [ewa] at ih
      generalize daF K (nd K) = D at *
      refine p_run (pc' := 13) [.iconst 0, .istore_n 3] mkX2_pass (by decide +kernel) rfl rfl ?_
      refine Wp.for 4 (fun b L h3 => L = [some (.ref 47), some (.int (nI n)), some (.int (nI i)), some (.int (nI b))] ∧ PR 47 h3 (waI D b) ∧ Fp 47 h2 h3) ?_ ?_ 0 (by omega) _ _ ⟨rfl, hR2, Fp.rf⟩
      · rintro b L h3 hb ⟨rfl, hJ⟩ ih2
        obtain ⟨hR3, hF3⟩ := hJ
        have hI3 := waI_Iv hI2 b (by omega)
        refine p_run (pc' := 15) [.iload_n 3, .iconst 4] mkX2_pass (by decide +kernel) rfl rfl ?_
        refine p_icmp_ge (off := 14) 29 (by decide +kernel) (by decide) (fun cqk => ?_) (fun cqk => ?_)
        · exact False.elim (by rw [oI, nI_leI (by omega) (by omega)] at cqk; omega)
        · refine p_run (pc' := 20) [.aload_n 0, .iload_n 3] mkX2_pass (by decide +kernel) rfl rfl ?_
          refine p_callVo (cfollow47 w (k := k - 1) (by omega) b (by omega) (waI D b) h3 hI3 hR3) (fun _ _ q => q.1) kvX2_109 (by decide +kernel) (by decide) rfl (by omega) rfl rfl rfl rfl rfl (fun h' hq => ?_)
          obtain ⟨-, hR4, hF4⟩ := hq
          refine p_run (pc' := 13) [.iinc 3 1, .goto (-13)] mkX2_pass (by decide +kernel) rfl rfl ?_
          exact ih2 _ _ ⟨by rw [show nI b + Int32.ofInt 1 = nI (b + 1) by simp only [oI, nI_add]], hR4, hF3.tr hF4⟩
      · rintro L h3 ⟨rfl, hJ⟩
        obtain ⟨hR3, hF3⟩ := hJ
        have hI3 := waI_Iv hI2 4 (by omega)
        have hm := hI3.nd.2
        refine p_run (pc' := 15) [.iload_n 3, .iconst 4] mkX2_pass (by decide +kernel) rfl rfl ?_
        refine p_icmp_ge (off := 14) 29 (by decide +kernel) (by decide) (fun cqk => ?_) (fun cqk => ?_)
        · refine p_run (pc' := 30) [.aload_n 0] mkX2_pass (by decide +kernel) rfl rfl ?_
          refine p_callVo (crock47 w (k := k - 1) (by omega) (waI D 4) h3 hI3 hR3) (fun _ _ q => q.1) kvX2_113 (by decide +kernel) (by decide) rfl (by omega) rfl rfl rfl rfl rfl (fun h' hq => ?_)
          obtain ⟨-, hR4, hF4⟩ := hq
          have hI4 := faF_Iv hI3
          have hm4 := hI4.nd.2
          refine p_run (pc' := 2) [.aload_n 0, .dup, .getfield 63, .iconst 1, .iadd, .putfield 63, .iinc 2 1, .goto (-44)] mkX2_pass (by decide +kernel) rfl rfl ?_
          rw [hR4.1.2.2.2.2.2.2.1]
          exact ih _ _ ⟨_, by rw [show nI i + Int32.ofInt 1 = nI (i + 1) by simp only [oI, nI_add]], hR4.upF (Or.inr (Or.inr (Or.inr (Or.inr (Or.inl ⟨rfl, rfl⟩))))) hm4, (((hF.tr hF2).tr hF3).tr hF4).tr (Fp.u1 (by omega))⟩
        · exact False.elim (by revert cqk; decide)
  · rintro L hh ⟨x3, rfl, hJ⟩
    obtain ⟨hR1, hF⟩ := hJ
    refine p_run (pc' := 4) [.iload_n 2, .iload_n 1] mkX2_pass (by decide +kernel) rfl rfl ?_
    refine p_icmp_ge (off := 45) 49 (by decide +kernel) (by decide) (fun cqh => ?_) (fun cqh => ?_)
    · refine p_vret rfl (by decide +kernel) ?_
      exact ⟨rfl, hR1, hF⟩
    · exact absurd (nI_le (Nat.le_refl _) (by omega)) cqh
  · exact ⟨_, rfl, hR, Fp.rf⟩
