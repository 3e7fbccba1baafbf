/-! the class: one becomes as another; who comes; who is put out -/
theorem nI_z : (0 : Int32) = nI 0 := rfl
theorem PR.add {p : Nat} {h : Mm} {N : Vc} (hR : PR p h N) (hI : Iv N) (hn : nd N < 10) (a b c e : Int32) : PR p (up (up (up (up (up (up h (p + 7 + nd N) 0 a) (p + 7 + nd N) 1 b) (p + 7 + nd N) 2 c) (p + 7 + nd N) 3 e) (p + 7 + nd N) 4 (nI 0)) p 4 (nI (nd N + 1))) (addF N a b c e) := by
  obtain ⟨⟨a1, a2, a3, a4, a5, a6, a7, a8⟩, h2, h3, h4⟩ := hR
  have en := hI.nd.1
  have hnd := addF_nd hI a b c e
  refine ⟨?_, fun i hi j hj => ?_, fun d hd j hj => ?_, fun key hk => ?_⟩
  · have e1 : addF N a b c e 1 = nI (nd N + 1) := by
      unfold addF
      rw [upd_n (by omega), upd_n (by omega), upd_n (by omega), upd_n (by omega), upd_n (by omega), upd_s, en, nI_add]
    rw [e1, addF_out (j := 7) hn (by omega), addF_out (j := 3) hn (by omega), addF_out (j := 4) hn (by omega), addF_out (j := 5) hn (by omega), addF_out (j := 6) hn (by omega), addF_out (j := 2) hn (by omega), addF_out (j := 0) hn (by omega)]
    have z : ∀ s, s ≠ 4 → up (up (up (up (up (up h (p + 7 + nd N) 0 a) (p + 7 + nd N) 1 b) (p + 7 + nd N) 2 c) (p + 7 + nd N) 3 e) (p + 7 + nd N) 4 (nI 0)) p 4 (nI (nd N + 1)) p s = h p s := fun s hs => by rw [uN hs, upN (by omega), upN (by omega), upN (by omega), upN (by omega), upN (by omega)]
    exact ⟨uF, by rw [z 5 (by decide), a2], by rw [z 6 (by decide), a3], by rw [z 7 (by decide), a4], by rw [z 8 (by decide), a5], by rw [z 9 (by decide), a6], by rw [z 10 (by decide), a7], by rw [z 11 (by decide), a8]⟩
  · unfold bK
    rw [addF_out hn (by omega), upN (by omega), upN (by omega), upN (by omega), upN (by omega), upN (by omega), upN (by omega)]
    exact h2 i hi j hj
  · rw [hnd] at hd
    by_cases q : d = nd N
    · subst q
      unfold dK addF
      rw [upN (by omega)]
      match j, hj with
      | 0, _ => rw [uN (by decide), uN (by decide), uN (by decide), uN (by decide), uF, upd_n (by omega), upd_n (by omega), upd_n (by omega), upd_n (by omega), upd_s]
      | 1, _ => rw [uN (by decide), uN (by decide), uN (by decide), uF, upd_n (by omega), upd_n (by omega), upd_n (by omega), upd_s]
      | 2, _ => rw [uN (by decide), uN (by decide), uF, upd_n (by omega), upd_n (by omega), upd_s]
      | 3, _ => rw [uN (by decide), uF, upd_n (by omega), upd_s]
      | 4, _ => rw [uF, upd_s]
    · unfold dK addF
      rw [upN (by omega), upN (by omega), upN (by omega), upN (by omega), upN (by omega), upN (by omega), upd_n (by omega), upd_n (by omega), upd_n (by omega), upd_n (by omega), upd_n (by omega), upd_n (by omega)]
      exact h3 d (by omega) j hj
  · rw [lawT_of (N := N) (fun j hj => addF_out hn (by omega)) (addF_out hn (by omega)), upN (by omega), upN (by omega), upN (by omega), upN (by omega), upN (by omega), upN (by omega)]
    exact h4 key hk
theorem TR.ad {h : Mm} {N : Vc} {a b c e : Int32} (hT : TR h N) (hn : nd N < 10) : TR h (addF N a b c e) := hT.da (fun j hj => addF_out hn (by omega)) (addF_out hn (by omega))
set_option maxRecDepth 20000 in
set_option maxHeartbeats 4000000 in
theorem cadd (w : Wt) {k : Nat} (a b c e : Int32) (N : Vc) (h : Mm) (hI : Iv N) (hR : PR 11 h N) (hn : nd N < 10) : Ok w k MX2_add [.ref 11, .int a, .int b, .int c, .int e] h (fun r h' => r = some (.int (nI (nd N))) ∧ PR 11 h' (addF N a b c e) ∧ Fp 11 h h') := by
  show Wp w k MX2_add _ 0 [some (.ref 11), some (.int a), some (.int b), some (.int c), some (.int e), none] [] h
  obtain ⟨en, hn10⟩ := hI.nd
  refine p_run (pc' := 6) [.aload_n 0, .getfield 45, .bipush 10] mkX2_add (by decide +kernel) rfl rfl ?_
  rw [hR.1.1, en]
  refine p_icmp_lt (off := 6) 12 (by decide +kernel) (by decide) (fun cq1 => ?_) (fun cq1 => ?_)
  · refine p_run (pc' := 20) [.aload_n 0, .getfield 24, .aload_n 0, .getfield 45] mkX2_add (by decide +kernel) rfl rfl ?_
    rw [hR.1.1, en]
    refine p_aald (nd N) (by decide +kernel) (by decide) rfl (by decide) rfl (by omega) (rfD11 (nd N) (by omega)) ?_
    refine p_run (pc' := 26) [.astore 5, .aload 5, .iload_n 1] mkX2_add (by decide +kernel) rfl rfl ?_
    refine p_put (by decide +kernel) fo2_67 (obD pp11 (by omega)).1 (obD pp11 (by omega)).2.1 rfl ((obD pp11 (by omega)).2.2 _) ?_
    refine p_run (pc' := 32) [.aload 5, .iload_n 2] mkX2_add (by decide +kernel) rfl rfl ?_
    refine p_put (by decide +kernel) fo2_70 (obD pp11 (by omega)).1 (obD pp11 (by omega)).2.1 rfl ((obD pp11 (by omega)).2.2 _) ?_
    refine p_run (pc' := 38) [.aload 5, .iload_n 3] mkX2_add (by decide +kernel) rfl rfl ?_
    refine p_put (by decide +kernel) fo2_73 (obD pp11 (by omega)).1 (obD pp11 (by omega)).2.1 rfl ((obD pp11 (by omega)).2.2 _) ?_
    refine p_run (pc' := 45) [.aload 5, .iload 4] mkX2_add (by decide +kernel) rfl rfl ?_
    refine p_put (by decide +kernel) fo2_76 (obD pp11 (by omega)).1 (obD pp11 (by omega)).2.1 rfl ((obD pp11 (by omega)).2.2 _) ?_
    refine p_run (pc' := 51) [.aload 5, .iconst 0] mkX2_add (by decide +kernel) rfl rfl ?_
    refine p_put (by decide +kernel) fo2_79 (obD pp11 (by omega)).1 (obD pp11 (by omega)).2.1 rfl ((obD pp11 (by omega)).2.2 _) ?_
    refine p_run (pc' := 70) [.aload_n 0, .dup, .getfield 45, .iconst 1, .iadd, .putfield 45, .aload_n 0, .getfield 45, .iconst 1, .isub] mkX2_add (by decide +kernel) rfl rfl ?_
    refine Wp.eqS (st' := [.int (nI (nd N))]) (by rw [uF, upN (by omega), upN (by omega), upN (by omega), upN (by omega), upN (by omega), hR.1.1, en, oI, nI_add, nIs (by omega), Nat.add_sub_cancel]) ?_
    refine Wp.eqH (h' := up (up (up (up (up (up h (11 + 7 + nd N) 0 a) (11 + 7 + nd N) 1 b) (11 + 7 + nd N) 2 c) (11 + 7 + nd N) 3 e) (11 + 7 + nd N) 4 (nI 0)) 11 4 (nI (nd N + 1))) (by rw [upN (show 11 ≠ 11 + 7 + nd N by omega), upN (show 11 ≠ 11 + 7 + nd N by omega), upN (show 11 ≠ 11 + 7 + nd N by omega), upN (show 11 ≠ 11 + 7 + nd N by omega), upN (show 11 ≠ 11 + 7 + nd N by omega), hR.1.1, en]; simp only [oI, nI_add]) ?_
    refine p_iret rfl rfl (by decide +kernel) ?_
    exact ⟨rfl, hR.add hI hn a b c e, (((((Fp.u1 (by omega)).tr (Fp.u1 (by omega))).tr (Fp.u1 (by omega))).tr (Fp.u1 (by omega))).tr (Fp.u1 (by omega))).tr (Fp.u1 (by omega))⟩
  · exact False.elim (cq1 ((nI_ltI (b := 10) (by omega) (by omega)).mpr hn))
set_option maxRecDepth 20000 in
set_option maxHeartbeats 4000000 in
theorem caddDrawn (w : Wt) {k : Nat} (hk : 1 ≤ k) (N : Vc) (h : Mm) (hI : Iv N) (hR : PR 11 h N) (hn : nd N < 10) : Ok w k MX2_addDrawn [.ref 11] h (fun r h' => r = none ∧ PR 11 h' (dlF N) ∧ Fp 11 h h') := by
  show Wp w k MX2_addDrawn _ 0 [some (.ref 11), none, none, none, none] [] h
  have hn10 := hI.nd.2
  have z0 := dvN_lt (zF (N 0))
  refine p_run (pc' := 1) [.aload_n 0] mkX2_addDrawn (by decide +kernel) rfl rfl ?_
  refine p_callVv (cdraw11 w (k := k - 1) h) kvX2_82 (by decide +kernel) (by decide) rfl (by omega) rfl rfl rfl rfl rfl ?_
  rw [show h 11 11 = N 0 from hR.1.2.2.2.2.2.2.2]
  refine p_run (pc' := 6) [.bipush 6] mkX2_addDrawn (by decide +kernel) rfl rfl ?_
  refine p_irem (by decide +kernel) (by decide) ?_
  rw [show jrem (nI (dvN (zF (N 0)))) (Int32.ofInt 6) = nI (dvN (zF (N 0)) % 6) from jr (d := 6) z0 (by omega) (by omega)]
  have hR0 : PR 11 (up h 11 11 (zF (N 0))) (drF N) := hR.upF (Or.inr (Or.inr (Or.inr (Or.inr (Or.inr ⟨rfl, rfl⟩))))) (by exact hn10)
  have hF0 : Fp 11 h (up h 11 11 (zF (N 0))) := (Fp.u1 (by omega))
  generalize up h 11 11 (zF (N 0)) = d0 at *
  have z1 := dvN_lt (zF (zF (N 0)))
  refine p_run (pc' := 9) [.istore_n 1, .aload_n 0] mkX2_addDrawn (by decide +kernel) rfl rfl ?_
  refine p_callVv (cdraw11 w (k := k - 1) d0) kvX2_82 (by decide +kernel) (by decide) rfl (by omega) rfl rfl rfl rfl rfl ?_
  rw [show d0 11 11 = zF (N 0) from hR0.1.2.2.2.2.2.2.2]
  refine p_run (pc' := 14) [.bipush 40] mkX2_addDrawn (by decide +kernel) rfl rfl ?_
  refine p_irem (by decide +kernel) (by decide) ?_
  rw [show jrem (nI (dvN (zF (zF (N 0))))) (Int32.ofInt 40) = nI (dvN (zF (zF (N 0))) % 40) from jr (d := 40) z1 (by omega) (by omega)]
  refine p_run (pc' := 18) [.bipush 10, .iadd] mkX2_addDrawn (by decide +kernel) rfl rfl ?_
  rw [show nI (dvN (zF (zF (N 0))) % 40) + Int32.ofInt 10 = nI (dvN (zF (zF (N 0))) % 40 + 10) by rw [oI, nI_add]]
  have hR1 : PR 11 (up d0 11 11 (zF (zF (N 0)))) (drF (drF N)) := hR0.upF (Or.inr (Or.inr (Or.inr (Or.inr (Or.inr ⟨rfl, rfl⟩))))) (by rw [nd_dr]; exact hn10)
  have hF1 : Fp 11 h (up d0 11 11 (zF (zF (N 0)))) := (hF0).tr (Fp.u1 (by omega))
  generalize up d0 11 11 (zF (zF (N 0))) = d1 at *
  have z2 := dvN_lt (zF (zF (zF (N 0))))
  refine p_run (pc' := 20) [.istore_n 2, .aload_n 0] mkX2_addDrawn (by decide +kernel) rfl rfl ?_
  refine p_callVv (cdraw11 w (k := k - 1) d1) kvX2_82 (by decide +kernel) (by decide) rfl (by omega) rfl rfl rfl rfl rfl ?_
  rw [show d1 11 11 = zF (zF (N 0)) from hR1.1.2.2.2.2.2.2.2]
  refine p_run (pc' := 25) [.bipush 60] mkX2_addDrawn (by decide +kernel) rfl rfl ?_
  refine p_irem (by decide +kernel) (by decide) ?_
  rw [show jrem (nI (dvN (zF (zF (zF (N 0)))))) (Int32.ofInt 60) = nI (dvN (zF (zF (zF (N 0)))) % 60) from jr (d := 60) z2 (by omega) (by omega)]
  refine p_run (pc' := 28) [.iconst 5, .iadd] mkX2_addDrawn (by decide +kernel) rfl rfl ?_
  rw [show nI (dvN (zF (zF (zF (N 0)))) % 60) + Int32.ofInt 5 = nI (dvN (zF (zF (zF (N 0)))) % 60 + 5) by rw [oI, nI_add]]
  have hR2 : PR 11 (up d1 11 11 (zF (zF (zF (N 0))))) (drF (drF (drF N))) := hR1.upF (Or.inr (Or.inr (Or.inr (Or.inr (Or.inr ⟨rfl, rfl⟩))))) (by rw [nd_dr, nd_dr]; exact hn10)
  have hF2 : Fp 11 h (up d1 11 11 (zF (zF (zF (N 0))))) := (hF1).tr (Fp.u1 (by omega))
  generalize up d1 11 11 (zF (zF (zF (N 0)))) = d2 at *
  have z3 := dvN_lt (zF (zF (zF (zF (N 0)))))
  refine p_run (pc' := 30) [.istore_n 3, .aload_n 0] mkX2_addDrawn (by decide +kernel) rfl rfl ?_
  refine p_callVv (cdraw11 w (k := k - 1) d2) kvX2_82 (by decide +kernel) (by decide) rfl (by omega) rfl rfl rfl rfl rfl ?_
  rw [show d2 11 11 = zF (zF (zF (N 0))) from hR2.1.2.2.2.2.2.2.2]
  refine p_run (pc' := 34) [.iconst 4] mkX2_addDrawn (by decide +kernel) rfl rfl ?_
  refine p_irem (by decide +kernel) (by decide) ?_
  rw [show jrem (nI (dvN (zF (zF (zF (zF (N 0))))))) (Int32.ofInt 4) = nI (dvN (zF (zF (zF (zF (N 0))))) % 4) from jr (d := 4) z3 (by omega) (by omega)]
  have hR3 : PR 11 (up d2 11 11 (zF (zF (zF (zF (N 0)))))) (drF (drF (drF (drF N)))) := hR2.upF (Or.inr (Or.inr (Or.inr (Or.inr (Or.inr ⟨rfl, rfl⟩))))) (by rw [nd_dr, nd_dr, nd_dr]; exact hn10)
  have hF3 : Fp 11 h (up d2 11 11 (zF (zF (zF (zF (N 0)))))) := (hF2).tr (Fp.u1 (by omega))
  generalize up d2 11 11 (zF (zF (zF (zF (N 0))))) = d3 at *
  refine p_run (pc' := 43) [.istore 4, .aload_n 0, .iload_n 1, .iload_n 2, .iload_n 3, .iload 4] mkX2_addDrawn (by decide +kernel) rfl rfl ?_
  refine p_callV (cadd w (k := k - 1) _ _ _ _ (drF (drF (drF (drF N)))) d3 (dr4_Iv hI) hR3 (by rw [dr4_nd]; exact hn)) kvX2_86 (by decide +kernel) (by decide) rfl (by omega) rfl rfl rfl rfl rfl (fun r h' hq => ?_)
  obtain ⟨rfl, hR5, hF5⟩ := hq
  refine p_run (pc' := 47) [.pop] mkX2_addDrawn (by decide +kernel) rfl rfl ?_
  refine p_vret rfl (by decide +kernel) ?_
  exact ⟨rfl, hR5, hF3.tr hF5⟩
set_option maxRecDepth 20000 in
set_option maxHeartbeats 4000000 in
theorem cbec47_11 (w : Wt) {k : Nat} (hk : 1 ≤ k) (N : Vc) (h : Mm) (hI : Iv N) (hR : PR 11 h N) : Ok w k MX2_becomeAs [.ref 47, .ref 11] h (fun r h' => r = none ∧ PR 47 h' N ∧ Fp 47 h h') := by
  show Wp w k MX2_becomeAs _ 0 [some (.ref 47), some (.ref 11), none] [] h
  obtain ⟨en, hn10⟩ := hI.nd
  have hQ : ∀ hh : Mm, (∀ a, ¬ (47 ≤ a ∧ a ≤ 47 + 17) → hh a = h a) → PR 11 hh N := fun hh e => hR.of (fun a h1 h2 => e a (by omega)) hn10
  refine p_run (pc' := 2) [.iconst 0, .istore_n 2] mkX2_becomeAs (by decide +kernel) rfl rfl ?_
  refine Wp.for (4) (fun i L hh => L = [some (.ref 47), some (.ref 11), some (.int (nI i))] ∧ ((∀ c, c < i → ∀ j, j < 3 → hh (47 + 2 + c) j = bK N c j) ∧ (∀ a, ¬ (47 ≤ a ∧ a ≤ 47 + 17) → hh a = h a))) ?_ ?_ (0) (by omega) _ _ ?_
  · rintro i L hh hi ⟨rfl, hJ⟩ ih
    obtain ⟨hB, hF⟩ := hJ
    have hR1 := hQ hh hF
    refine p_run (pc' := 4) [.iload_n 2, .iconst 4] mkX2_becomeAs (by decide +kernel) rfl rfl ?_
    refine p_icmp_ge (off := 24) 28 (by decide +kernel) (by decide) (fun cqh => ?_) (fun cqh => ?_)
    · exact False.elim (by rw [oI, nI_leI (by omega) (by omega)] at cqh; omega)
    · refine p_run (pc' := 12) [.aload_n 0, .getfield 17, .iload_n 2] mkX2_becomeAs (by decide +kernel) rfl rfl ?_
      refine p_aald (i) (by decide +kernel) (by decide) rfl (by decide) rfl (by omega) (rfB47 i (by omega)) ?_
      refine p_run (pc' := 18) [.aload_n 1, .getfield 17, .iload_n 2] mkX2_becomeAs (by decide +kernel) rfl rfl ?_
      refine p_aald (i) (by decide +kernel) (by decide) rfl (by decide) rfl (by omega) (rfB11 i (by omega)) ?_
      refine p_callVo (bbec_ok w (k := k - 1) _ _ (obB pp47 (by omega)) (obB pp11 (by omega)) (by omega) hh) (fun _ _ q => q.1) kvX2_41 (by decide +kernel) (obB pp47 (by omega)).1 (obB pp47 (by omega)).2.1 (by omega) rfl rfl rfl rfl rfl (fun h' hq => ?_)
      obtain ⟨-, hC, hF2⟩ := hq
      refine p_run (pc' := 2) [.iinc 2 1, .goto (-23)] mkX2_becomeAs (by decide +kernel) rfl rfl ?_
      refine ih _ _ ⟨by rw [show nI i + Int32.ofInt 1 = nI (i + 1) by simp only [oI, nI_add]], fun c hc j hj => ?_, fun a ha => by rw [hF2 a (by omega), hF a ha]⟩
      by_cases e : c = i
      · rw [e, hC j hj]; exact hR1.2.1 i (by omega) j hj
      · rw [hF2 _ (by omega)]; exact hB c (by omega) j hj
  · rintro L hh ⟨rfl, hJ⟩
    obtain ⟨hB, hF⟩ := hJ
    rename Mm => hb1
    refine p_run (pc' := 4) [.iload_n 2, .iconst 4] mkX2_becomeAs (by decide +kernel) rfl rfl ?_
    refine p_icmp_ge (off := 24) 28 (by decide +kernel) (by decide) (fun cqh => ?_) (fun cqh => ?_)
    · refine p_run (pc' := 30) [.iconst 0, .istore_n 2] mkX2_becomeAs (by decide +kernel) rfl rfl ?_
      refine Wp.for (nd N) (fun i L hh => L = [some (.ref 47), some (.ref 11), some (.int (nI i))] ∧ ((∀ c, c < 4 → ∀ j, j < 3 → hh (47 + 2 + c) j = bK N c j) ∧ (∀ c, c < i → ∀ j, j < 5 → hh (47 + 7 + c) j = dK N c j) ∧ (∀ a, ¬ (47 ≤ a ∧ a ≤ 47 + 17) → hh a = h a))) ?_ ?_ (0) (by omega) _ _ ?_
      · rintro i L hh hi ⟨rfl, hJ⟩ ih
        obtain ⟨hB, hD, hF⟩ := hJ
        have hR1 := hQ hh hF
        refine p_run (pc' := 35) [.iload_n 2, .aload_n 1, .getfield 45] mkX2_becomeAs (by decide +kernel) rfl rfl ?_
        rw [hR1.1.1, en]
        refine p_icmp_ge (off := 24) 59 (by decide +kernel) (by decide) (fun cqh => ?_) (fun cqh => ?_)
        · exact absurd cqh (nI_ge (by omega) (by omega))
        · refine p_run (pc' := 43) [.aload_n 0, .getfield 24, .iload_n 2] mkX2_becomeAs (by decide +kernel) rfl rfl ?_
          refine p_aald (i) (by decide +kernel) (by decide) rfl (by decide) rfl (by omega) (rfD47 i (by omega)) ?_
          refine p_run (pc' := 49) [.aload_n 1, .getfield 24, .iload_n 2] mkX2_becomeAs (by decide +kernel) rfl rfl ?_
          refine p_aald (i) (by decide +kernel) (by decide) rfl (by decide) rfl (by omega) (rfD11 i (by omega)) ?_
          refine p_callVo (dbec_ok w (k := k - 1) _ _ (obD pp47 (by omega)) (obD pp11 (by omega)) (by omega) hh) (fun _ _ q => q.1) kvX2_48 (by decide +kernel) (obD pp47 (by omega)).1 (obD pp47 (by omega)).2.1 (by omega) rfl rfl rfl rfl rfl (fun h' hq => ?_)
          obtain ⟨-, hC, hF2⟩ := hq
          refine p_run (pc' := 30) [.iinc 2 1, .goto (-26)] mkX2_becomeAs (by decide +kernel) rfl rfl ?_
          refine ih _ _ ⟨by rw [show nI i + Int32.ofInt 1 = nI (i + 1) by simp only [oI, nI_add]], fun c hc j hj => by rw [hF2 _ (by omega)]; exact hB c hc j hj, fun c hc j hj => ?_, fun a ha => by rw [hF2 a (by omega), hF a ha]⟩
          by_cases e : c = i
          · rw [e, hC j hj]; exact hR1.2.2.1 i (by omega) j hj
          · rw [hF2 _ (by omega)]; exact hD c (by omega) j hj
      · rintro L hh ⟨rfl, hJ⟩
        obtain ⟨hB, hD, hF⟩ := hJ
        have hR1 := hQ hh hF
        refine p_run (pc' := 35) [.iload_n 2, .aload_n 1, .getfield 45] mkX2_becomeAs (by decide +kernel) rfl rfl ?_
        rw [hR1.1.1, en]
        refine p_icmp_ge (off := 24) 59 (by decide +kernel) (by decide) (fun cqh => ?_) (fun cqh => ?_)
        · refine p_run (pc' := 61) [.iconst 0, .istore_n 2] mkX2_becomeAs (by decide +kernel) rfl rfl ?_
          refine Wp.for (3) (fun i L hh => L = [some (.ref 47), some (.ref 11), some (.int (nI i))] ∧ ((∀ c, c < 4 → ∀ j, j < 3 → hh (47 + 2 + c) j = bK N c j) ∧ (∀ c, c < nd N → ∀ j, j < 5 → hh (47 + 7 + c) j = dK N c j) ∧ (∀ c, c < i → hh (47 + 17) c = oN (lawT N c)) ∧ (∀ a, ¬ (47 ≤ a ∧ a ≤ 47 + 17) → hh a = h a))) ?_ ?_ (0) (by omega) _ _ ?_
          · rintro i L hh hi ⟨rfl, hJ⟩ ih
            obtain ⟨hB, hD, hL, hF⟩ := hJ
            have hR1 := hQ hh hF
            refine p_run (pc' := 63) [.iload_n 2, .iconst 3] mkX2_becomeAs (by decide +kernel) rfl rfl ?_
            refine p_icmp_ge (off := 21) 84 (by decide +kernel) (by decide) (fun cqh => ?_) (fun cqh => ?_)
            · exact False.elim (by rw [oI, nI_leI (by omega) (by omega)] at cqh; omega)
            · refine p_run (pc' := 76) [.aload_n 0, .getfield 29, .iload_n 2, .aload_n 1, .getfield 29, .iload_n 2] mkX2_becomeAs (by decide +kernel) rfl rfl ?_
              refine p_iald (i) (by decide +kernel) rfl rfl rfl (by omega) ?_
              rw [show hh 28 i = oN (lawT N i) from hR1.2.2.2 i hi]
              refine p_iast (i) (by decide +kernel) rfl rfl rfl (by omega)  ?_
              refine p_run (pc' := 61) [.iinc 2 1, .goto (-20)] mkX2_becomeAs (by decide +kernel) rfl rfl ?_
              refine ih _ _ ⟨by rw [show nI i + Int32.ofInt 1 = nI (i + 1) by simp only [oI, nI_add]], fun c hc j hj => by rw [upN (by omega)]; exact hB c hc j hj, fun c hc j hj => by rw [upN (by omega)]; exact hD c hc j hj, fun c hc => ?_, fun a ha => by rw [upN (by omega), hF a ha]⟩
              show up hh 64 i _ 64 c = _
              by_cases e : c = i
              · rw [e, uF]
              · rw [uN e]; exact hL c (by omega)
          · rintro L hh ⟨rfl, hJ⟩
            obtain ⟨hB, hD, hL, hF⟩ := hJ
            have hR1 := hQ hh hF
            refine p_run (pc' := 63) [.iload_n 2, .iconst 3] mkX2_becomeAs (by decide +kernel) rfl rfl ?_
            refine p_icmp_ge (off := 21) 84 (by decide +kernel) (by decide) (fun cqh => ?_) (fun cqh => ?_)
            · refine p_run (pc' := 148) [.aload_n 0, .aload_n 1, .getfield 45, .putfield 45, .aload_n 0, .aload_n 1, .getfield 51, .putfield 51, .aload_n 0, .aload_n 1, .getfield 34, .putfield 34, .aload_n 0, .aload_n 1, .getfield 54, .putfield 54, .aload_n 0, .aload_n 1, .getfield 57, .putfield 57, .aload_n 0, .aload_n 1, .getfield 60, .putfield 60, .aload_n 0, .aload_n 1, .getfield 63, .putfield 63, .aload_n 0, .aload_n 1, .getfield 38, .putfield 38] mkX2_becomeAs (by decide +kernel) rfl rfl ?_
              refine p_vret rfl (by decide +kernel) ?_
              refine ⟨rfl, ⟨⟨?_, ?_, ?_, ?_, ?_, ?_, ?_, ?_⟩, fun b hb j hj => ?_, fun d hd j hj => ?_, fun key hkk => ?_⟩, fun a h1 _ _ => ?_⟩
              · rw [uN (by decide), uN (by decide), uN (by decide), uN (by decide), uN (by decide), uN (by decide), uN (by decide), uF]; exact hR1.1.1
              · rw [uN (by decide), uN (by decide), uN (by decide), uN (by decide), uN (by decide), uN (by decide), uF, upN (show 11 ≠ 47 by decide)]; exact hR1.1.2.1
              · rw [uN (by decide), uN (by decide), uN (by decide), uN (by decide), uN (by decide), uF, upN (show 11 ≠ 47 by decide), upN (show 11 ≠ 47 by decide)]; exact hR1.1.2.2.1
              · rw [uN (by decide), uN (by decide), uN (by decide), uN (by decide), uF, upN (show 11 ≠ 47 by decide), upN (show 11 ≠ 47 by decide), upN (show 11 ≠ 47 by decide)]; exact hR1.1.2.2.2.1
              · rw [uN (by decide), uN (by decide), uN (by decide), uF, upN (show 11 ≠ 47 by decide), upN (show 11 ≠ 47 by decide), upN (show 11 ≠ 47 by decide), upN (show 11 ≠ 47 by decide)]; exact hR1.1.2.2.2.2.1
              · rw [uN (by decide), uN (by decide), uF, upN (show 11 ≠ 47 by decide), upN (show 11 ≠ 47 by decide), upN (show 11 ≠ 47 by decide), upN (show 11 ≠ 47 by decide), upN (show 11 ≠ 47 by decide)]; exact hR1.1.2.2.2.2.2.1
              · rw [uN (by decide), uF, upN (show 11 ≠ 47 by decide), upN (show 11 ≠ 47 by decide), upN (show 11 ≠ 47 by decide), upN (show 11 ≠ 47 by decide), upN (show 11 ≠ 47 by decide), upN (show 11 ≠ 47 by decide)]; exact hR1.1.2.2.2.2.2.2.1
              · rw [uF, upN (show 11 ≠ 47 by decide), upN (show 11 ≠ 47 by decide), upN (show 11 ≠ 47 by decide), upN (show 11 ≠ 47 by decide), upN (show 11 ≠ 47 by decide), upN (show 11 ≠ 47 by decide), upN (show 11 ≠ 47 by decide)]; exact hR1.1.2.2.2.2.2.2.2
              · rw [upN (by omega), upN (by omega), upN (by omega), upN (by omega), upN (by omega), upN (by omega), upN (by omega), upN (by omega)]; exact hB b hb j hj
              · rw [upN (by omega), upN (by omega), upN (by omega), upN (by omega), upN (by omega), upN (by omega), upN (by omega), upN (by omega)]; exact hD d hd j hj
              · rw [upN (by omega), upN (by omega), upN (by omega), upN (by omega), upN (by omega), upN (by omega), upN (by omega), upN (by omega)]; exact hL key hkk
              · rw [upN (by omega), upN (by omega), upN (by omega), upN (by omega), upN (by omega), upN (by omega), upN (by omega), upN (by omega)]; exact hF a h1
            · exact False.elim (by revert cqh; decide)
          · exact ⟨rfl, hB, hD, fun c hc => absurd hc (by omega), hF⟩
        · exact absurd (nI_le (Nat.le_refl _) (by omega)) cqh
      · exact ⟨rfl, hB, fun c hc => absurd hc (by omega), hF⟩
    · exact False.elim (by revert cqh; decide)
  · exact ⟨rfl, fun c hc => absurd hc (by omega), fun _ _ => rfl⟩
set_option maxRecDepth 20000 in
set_option maxHeartbeats 4000000 in
theorem cbec47_29 (w : Wt) {k : Nat} (hk : 1 ≤ k) (N : Vc) (h : Mm) (hI : Iv N) (hR : PR 29 h N) : Ok w k MX2_becomeAs [.ref 47, .ref 29] h (fun r h' => r = none ∧ PR 47 h' N ∧ Fp 47 h h') := by
  show Wp w k MX2_becomeAs _ 0 [some (.ref 47), some (.ref 29), none] [] h
  obtain ⟨en, hn10⟩ := hI.nd
  have hQ : ∀ hh : Mm, (∀ a, ¬ (47 ≤ a ∧ a ≤ 47 + 17) → hh a = h a) → PR 29 hh N := fun hh e => hR.of (fun a h1 h2 => e a (by omega)) hn10
  refine p_run (pc' := 2) [.iconst 0, .istore_n 2] mkX2_becomeAs (by decide +kernel) rfl rfl ?_
  refine Wp.for (4) (fun i L hh => L = [some (.ref 47), some (.ref 29), some (.int (nI i))] ∧ ((∀ c, c < i → ∀ j, j < 3 → hh (47 + 2 + c) j = bK N c j) ∧ (∀ a, ¬ (47 ≤ a ∧ a ≤ 47 + 17) → hh a = h a))) ?_ ?_ (0) (by omega) _ _ ?_
  · rintro i L hh hi ⟨rfl, hJ⟩ ih
    obtain ⟨hB, hF⟩ := hJ
    have hR1 := hQ hh hF
    refine p_run (pc' := 4) [.iload_n 2, .iconst 4] mkX2_becomeAs (by decide +kernel) rfl rfl ?_
    refine p_icmp_ge (off := 24) 28 (by decide +kernel) (by decide) (fun cqh => ?_) (fun cqh => ?_)
    · exact False.elim (by rw [oI, nI_leI (by omega) (by omega)] at cqh; omega)
    · refine p_run (pc' := 12) [.aload_n 0, .getfield 17, .iload_n 2] mkX2_becomeAs (by decide +kernel) rfl rfl ?_
      refine p_aald (i) (by decide +kernel) (by decide) rfl (by decide) rfl (by omega) (rfB47 i (by omega)) ?_
      refine p_run (pc' := 18) [.aload_n 1, .getfield 17, .iload_n 2] mkX2_becomeAs (by decide +kernel) rfl rfl ?_
      refine p_aald (i) (by decide +kernel) (by decide) rfl (by decide) rfl (by omega) (rfB29 i (by omega)) ?_
      refine p_callVo (bbec_ok w (k := k - 1) _ _ (obB pp47 (by omega)) (obB pp29 (by omega)) (by omega) hh) (fun _ _ q => q.1) kvX2_41 (by decide +kernel) (obB pp47 (by omega)).1 (obB pp47 (by omega)).2.1 (by omega) rfl rfl rfl rfl rfl (fun h' hq => ?_)
      obtain ⟨-, hC, hF2⟩ := hq
      refine p_run (pc' := 2) [.iinc 2 1, .goto (-23)] mkX2_becomeAs (by decide +kernel) rfl rfl ?_
      refine ih _ _ ⟨by rw [show nI i + Int32.ofInt 1 = nI (i + 1) by simp only [oI, nI_add]], fun c hc j hj => ?_, fun a ha => by rw [hF2 a (by omega), hF a ha]⟩
      by_cases e : c = i
      · rw [e, hC j hj]; exact hR1.2.1 i (by omega) j hj
      · rw [hF2 _ (by omega)]; exact hB c (by omega) j hj
  · rintro L hh ⟨rfl, hJ⟩
    obtain ⟨hB, hF⟩ := hJ
    rename Mm => hb1
    refine p_run (pc' := 4) [.iload_n 2, .iconst 4] mkX2_becomeAs (by decide +kernel) rfl rfl ?_
    refine p_icmp_ge (off := 24) 28 (by decide +kernel) (by decide) (fun cqh => ?_) (fun cqh => ?_)
    · refine p_run (pc' := 30) [.iconst 0, .istore_n 2] mkX2_becomeAs (by decide +kernel) rfl rfl ?_
      refine Wp.for (nd N) (fun i L hh => L = [some (.ref 47), some (.ref 29), some (.int (nI i))] ∧ ((∀ c, c < 4 → ∀ j, j < 3 → hh (47 + 2 + c) j = bK N c j) ∧ (∀ c, c < i → ∀ j, j < 5 → hh (47 + 7 + c) j = dK N c j) ∧ (∀ a, ¬ (47 ≤ a ∧ a ≤ 47 + 17) → hh a = h a))) ?_ ?_ (0) (by omega) _ _ ?_
      · rintro i L hh hi ⟨rfl, hJ⟩ ih
        obtain ⟨hB, hD, hF⟩ := hJ
        have hR1 := hQ hh hF
        refine p_run (pc' := 35) [.iload_n 2, .aload_n 1, .getfield 45] mkX2_becomeAs (by decide +kernel) rfl rfl ?_
        rw [hR1.1.1, en]
        refine p_icmp_ge (off := 24) 59 (by decide +kernel) (by decide) (fun cqh => ?_) (fun cqh => ?_)
        · exact absurd cqh (nI_ge (by omega) (by omega))
        · refine p_run (pc' := 43) [.aload_n 0, .getfield 24, .iload_n 2] mkX2_becomeAs (by decide +kernel) rfl rfl ?_
          refine p_aald (i) (by decide +kernel) (by decide) rfl (by decide) rfl (by omega) (rfD47 i (by omega)) ?_
          refine p_run (pc' := 49) [.aload_n 1, .getfield 24, .iload_n 2] mkX2_becomeAs (by decide +kernel) rfl rfl ?_
          refine p_aald (i) (by decide +kernel) (by decide) rfl (by decide) rfl (by omega) (rfD29 i (by omega)) ?_
          refine p_callVo (dbec_ok w (k := k - 1) _ _ (obD pp47 (by omega)) (obD pp29 (by omega)) (by omega) hh) (fun _ _ q => q.1) kvX2_48 (by decide +kernel) (obD pp47 (by omega)).1 (obD pp47 (by omega)).2.1 (by omega) rfl rfl rfl rfl rfl (fun h' hq => ?_)
          obtain ⟨-, hC, hF2⟩ := hq
          refine p_run (pc' := 30) [.iinc 2 1, .goto (-26)] mkX2_becomeAs (by decide +kernel) rfl rfl ?_
          refine ih _ _ ⟨by rw [show nI i + Int32.ofInt 1 = nI (i + 1) by simp only [oI, nI_add]], fun c hc j hj => by rw [hF2 _ (by omega)]; exact hB c hc j hj, fun c hc j hj => ?_, fun a ha => by rw [hF2 a (by omega), hF a ha]⟩
          by_cases e : c = i
          · rw [e, hC j hj]; exact hR1.2.2.1 i (by omega) j hj
          · rw [hF2 _ (by omega)]; exact hD c (by omega) j hj
      · rintro L hh ⟨rfl, hJ⟩
        obtain ⟨hB, hD, hF⟩ := hJ
        have hR1 := hQ hh hF
        refine p_run (pc' := 35) [.iload_n 2, .aload_n 1, .getfield 45] mkX2_becomeAs (by decide +kernel) rfl rfl ?_
        rw [hR1.1.1, en]
        refine p_icmp_ge (off := 24) 59 (by decide +kernel) (by decide) (fun cqh => ?_) (fun cqh => ?_)
        · refine p_run (pc' := 61) [.iconst 0, .istore_n 2] mkX2_becomeAs (by decide +kernel) rfl rfl ?_
          refine Wp.for (3) (fun i L hh => L = [some (.ref 47), some (.ref 29), some (.int (nI i))] ∧ ((∀ c, c < 4 → ∀ j, j < 3 → hh (47 + 2 + c) j = bK N c j) ∧ (∀ c, c < nd N → ∀ j, j < 5 → hh (47 + 7 + c) j = dK N c j) ∧ (∀ c, c < i → hh (47 + 17) c = oN (lawT N c)) ∧ (∀ a, ¬ (47 ≤ a ∧ a ≤ 47 + 17) → hh a = h a))) ?_ ?_ (0) (by omega) _ _ ?_
          · rintro i L hh hi ⟨rfl, hJ⟩ ih
            obtain ⟨hB, hD, hL, hF⟩ := hJ
            have hR1 := hQ hh hF
            refine p_run (pc' := 63) [.iload_n 2, .iconst 3] mkX2_becomeAs (by decide +kernel) rfl rfl ?_
            refine p_icmp_ge (off := 21) 84 (by decide +kernel) (by decide) (fun cqh => ?_) (fun cqh => ?_)
            · exact False.elim (by rw [oI, nI_leI (by omega) (by omega)] at cqh; omega)
            · refine p_run (pc' := 76) [.aload_n 0, .getfield 29, .iload_n 2, .aload_n 1, .getfield 29, .iload_n 2] mkX2_becomeAs (by decide +kernel) rfl rfl ?_
              refine p_iald (i) (by decide +kernel) rfl rfl rfl (by omega) ?_
              rw [show hh 46 i = oN (lawT N i) from hR1.2.2.2 i hi]
              refine p_iast (i) (by decide +kernel) rfl rfl rfl (by omega)  ?_
              refine p_run (pc' := 61) [.iinc 2 1, .goto (-20)] mkX2_becomeAs (by decide +kernel) rfl rfl ?_
              refine ih _ _ ⟨by rw [show nI i + Int32.ofInt 1 = nI (i + 1) by simp only [oI, nI_add]], fun c hc j hj => by rw [upN (by omega)]; exact hB c hc j hj, fun c hc j hj => by rw [upN (by omega)]; exact hD c hc j hj, fun c hc => ?_, fun a ha => by rw [upN (by omega), hF a ha]⟩
              show up hh 64 i _ 64 c = _
              by_cases e : c = i
              · rw [e, uF]
              · rw [uN e]; exact hL c (by omega)
          · rintro L hh ⟨rfl, hJ⟩
            obtain ⟨hB, hD, hL, hF⟩ := hJ
            have hR1 := hQ hh hF
            refine p_run (pc' := 63) [.iload_n 2, .iconst 3] mkX2_becomeAs (by decide +kernel) rfl rfl ?_
            refine p_icmp_ge (off := 21) 84 (by decide +kernel) (by decide) (fun cqh => ?_) (fun cqh => ?_)
            · refine p_run (pc' := 148) [.aload_n 0, .aload_n 1, .getfield 45, .putfield 45, .aload_n 0, .aload_n 1, .getfield 51, .putfield 51, .aload_n 0, .aload_n 1, .getfield 34, .putfield 34, .aload_n 0, .aload_n 1, .getfield 54, .putfield 54, .aload_n 0, .aload_n 1, .getfield 57, .putfield 57, .aload_n 0, .aload_n 1, .getfield 60, .putfield 60, .aload_n 0, .aload_n 1, .getfield 63, .putfield 63, .aload_n 0, .aload_n 1, .getfield 38, .putfield 38] mkX2_becomeAs (by decide +kernel) rfl rfl ?_
              refine p_vret rfl (by decide +kernel) ?_
              refine ⟨rfl, ⟨⟨?_, ?_, ?_, ?_, ?_, ?_, ?_, ?_⟩, fun b hb j hj => ?_, fun d hd j hj => ?_, fun key hkk => ?_⟩, fun a h1 _ _ => ?_⟩
              · rw [uN (by decide), uN (by decide), uN (by decide), uN (by decide), uN (by decide), uN (by decide), uN (by decide), uF]; exact hR1.1.1
              · rw [uN (by decide), uN (by decide), uN (by decide), uN (by decide), uN (by decide), uN (by decide), uF, upN (show 29 ≠ 47 by decide)]; exact hR1.1.2.1
              · rw [uN (by decide), uN (by decide), uN (by decide), uN (by decide), uN (by decide), uF, upN (show 29 ≠ 47 by decide), upN (show 29 ≠ 47 by decide)]; exact hR1.1.2.2.1
              · rw [uN (by decide), uN (by decide), uN (by decide), uN (by decide), uF, upN (show 29 ≠ 47 by decide), upN (show 29 ≠ 47 by decide), upN (show 29 ≠ 47 by decide)]; exact hR1.1.2.2.2.1
              · rw [uN (by decide), uN (by decide), uN (by decide), uF, upN (show 29 ≠ 47 by decide), upN (show 29 ≠ 47 by decide), upN (show 29 ≠ 47 by decide), upN (show 29 ≠ 47 by decide)]; exact hR1.1.2.2.2.2.1
              · rw [uN (by decide), uN (by decide), uF, upN (show 29 ≠ 47 by decide), upN (show 29 ≠ 47 by decide), upN (show 29 ≠ 47 by decide), upN (show 29 ≠ 47 by decide), upN (show 29 ≠ 47 by decide)]; exact hR1.1.2.2.2.2.2.1
              · rw [uN (by decide), uF, upN (show 29 ≠ 47 by decide), upN (show 29 ≠ 47 by decide), upN (show 29 ≠ 47 by decide), upN (show 29 ≠ 47 by decide), upN (show 29 ≠ 47 by decide), upN (show 29 ≠ 47 by decide)]; exact hR1.1.2.2.2.2.2.2.1
              · rw [uF, upN (show 29 ≠ 47 by decide), upN (show 29 ≠ 47 by decide), upN (show 29 ≠ 47 by decide), upN (show 29 ≠ 47 by decide), upN (show 29 ≠ 47 by decide), upN (show 29 ≠ 47 by decide), upN (show 29 ≠ 47 by decide)]; exact hR1.1.2.2.2.2.2.2.2
              · rw [upN (by omega), upN (by omega), upN (by omega), upN (by omega), upN (by omega), upN (by omega), upN (by omega), upN (by omega)]; exact hB b hb j hj
              · rw [upN (by omega), upN (by omega), upN (by omega), upN (by omega), upN (by omega), upN (by omega), upN (by omega), upN (by omega)]; exact hD d hd j hj
              · rw [upN (by omega), upN (by omega), upN (by omega), upN (by omega), upN (by omega), upN (by omega), upN (by omega), upN (by omega)]; exact hL key hkk
              · rw [upN (by omega), upN (by omega), upN (by omega), upN (by omega), upN (by omega), upN (by omega), upN (by omega), upN (by omega)]; exact hF a h1
            · exact False.elim (by revert cqh; decide)
          · exact ⟨rfl, hB, hD, fun c hc => absurd hc (by omega), hF⟩
        · exact absurd (nI_le (Nat.le_refl _) (by omega)) cqh
      · exact ⟨rfl, hB, fun c hc => absurd hc (by omega), hF⟩
    · exact False.elim (by revert cqh; decide)
  · exact ⟨rfl, fun c hc => absurd hc (by omega), fun _ _ => rfl⟩
set_option maxRecDepth 20000 in
set_option maxHeartbeats 4000000 in
theorem cbec29_11 (w : Wt) {k : Nat} (hk : 1 ≤ k) (N : Vc) (h : Mm) (hI : Iv N) (hR : PR 11 h N) : Ok w k MX2_becomeAs [.ref 29, .ref 11] h (fun r h' => r = none ∧ PR 29 h' N ∧ Fp 29 h h') := by
  show Wp w k MX2_becomeAs _ 0 [some (.ref 29), some (.ref 11), none] [] h
  obtain ⟨en, hn10⟩ := hI.nd
  have hQ : ∀ hh : Mm, (∀ a, ¬ (29 ≤ a ∧ a ≤ 29 + 17) → hh a = h a) → PR 11 hh N := fun hh e => hR.of (fun a h1 h2 => e a (by omega)) hn10
  refine p_run (pc' := 2) [.iconst 0, .istore_n 2] mkX2_becomeAs (by decide +kernel) rfl rfl ?_
  refine Wp.for (4) (fun i L hh => L = [some (.ref 29), some (.ref 11), some (.int (nI i))] ∧ ((∀ c, c < i → ∀ j, j < 3 → hh (29 + 2 + c) j = bK N c j) ∧ (∀ a, ¬ (29 ≤ a ∧ a ≤ 29 + 17) → hh a = h a))) ?_ ?_ (0) (by omega) _ _ ?_
  · rintro i L hh hi ⟨rfl, hJ⟩ ih
    obtain ⟨hB, hF⟩ := hJ
    have hR1 := hQ hh hF
    refine p_run (pc' := 4) [.iload_n 2, .iconst 4] mkX2_becomeAs (by decide +kernel) rfl rfl ?_
    refine p_icmp_ge (off := 24) 28 (by decide +kernel) (by decide) (fun cqh => ?_) (fun cqh => ?_)
    · exact False.elim (by rw [oI, nI_leI (by omega) (by omega)] at cqh; omega)
    · refine p_run (pc' := 12) [.aload_n 0, .getfield 17, .iload_n 2] mkX2_becomeAs (by decide +kernel) rfl rfl ?_
      refine p_aald (i) (by decide +kernel) (by decide) rfl (by decide) rfl (by omega) (rfB29 i (by omega)) ?_
      refine p_run (pc' := 18) [.aload_n 1, .getfield 17, .iload_n 2] mkX2_becomeAs (by decide +kernel) rfl rfl ?_
      refine p_aald (i) (by decide +kernel) (by decide) rfl (by decide) rfl (by omega) (rfB11 i (by omega)) ?_
      refine p_callVo (bbec_ok w (k := k - 1) _ _ (obB pp29 (by omega)) (obB pp11 (by omega)) (by omega) hh) (fun _ _ q => q.1) kvX2_41 (by decide +kernel) (obB pp29 (by omega)).1 (obB pp29 (by omega)).2.1 (by omega) rfl rfl rfl rfl rfl (fun h' hq => ?_)
      obtain ⟨-, hC, hF2⟩ := hq
      refine p_run (pc' := 2) [.iinc 2 1, .goto (-23)] mkX2_becomeAs (by decide +kernel) rfl rfl ?_
      refine ih _ _ ⟨by rw [show nI i + Int32.ofInt 1 = nI (i + 1) by simp only [oI, nI_add]], fun c hc j hj => ?_, fun a ha => by rw [hF2 a (by omega), hF a ha]⟩
      by_cases e : c = i
      · rw [e, hC j hj]; exact hR1.2.1 i (by omega) j hj
      · rw [hF2 _ (by omega)]; exact hB c (by omega) j hj
  · rintro L hh ⟨rfl, hJ⟩
    obtain ⟨hB, hF⟩ := hJ
    rename Mm => hb1
    refine p_run (pc' := 4) [.iload_n 2, .iconst 4] mkX2_becomeAs (by decide +kernel) rfl rfl ?_
    refine p_icmp_ge (off := 24) 28 (by decide +kernel) (by decide) (fun cqh => ?_) (fun cqh => ?_)
    · refine p_run (pc' := 30) [.iconst 0, .istore_n 2] mkX2_becomeAs (by decide +kernel) rfl rfl ?_
      refine Wp.for (nd N) (fun i L hh => L = [some (.ref 29), some (.ref 11), some (.int (nI i))] ∧ ((∀ c, c < 4 → ∀ j, j < 3 → hh (29 + 2 + c) j = bK N c j) ∧ (∀ c, c < i → ∀ j, j < 5 → hh (29 + 7 + c) j = dK N c j) ∧ (∀ a, ¬ (29 ≤ a ∧ a ≤ 29 + 17) → hh a = h a))) ?_ ?_ (0) (by omega) _ _ ?_
      · rintro i L hh hi ⟨rfl, hJ⟩ ih
        obtain ⟨hB, hD, hF⟩ := hJ
        have hR1 := hQ hh hF
        refine p_run (pc' := 35) [.iload_n 2, .aload_n 1, .getfield 45] mkX2_becomeAs (by decide +kernel) rfl rfl ?_
        rw [hR1.1.1, en]
        refine p_icmp_ge (off := 24) 59 (by decide +kernel) (by decide) (fun cqh => ?_) (fun cqh => ?_)
        · exact absurd cqh (nI_ge (by omega) (by omega))
        · refine p_run (pc' := 43) [.aload_n 0, .getfield 24, .iload_n 2] mkX2_becomeAs (by decide +kernel) rfl rfl ?_
          refine p_aald (i) (by decide +kernel) (by decide) rfl (by decide) rfl (by omega) (rfD29 i (by omega)) ?_
          refine p_run (pc' := 49) [.aload_n 1, .getfield 24, .iload_n 2] mkX2_becomeAs (by decide +kernel) rfl rfl ?_
          refine p_aald (i) (by decide +kernel) (by decide) rfl (by decide) rfl (by omega) (rfD11 i (by omega)) ?_
          refine p_callVo (dbec_ok w (k := k - 1) _ _ (obD pp29 (by omega)) (obD pp11 (by omega)) (by omega) hh) (fun _ _ q => q.1) kvX2_48 (by decide +kernel) (obD pp29 (by omega)).1 (obD pp29 (by omega)).2.1 (by omega) rfl rfl rfl rfl rfl (fun h' hq => ?_)
          obtain ⟨-, hC, hF2⟩ := hq
          refine p_run (pc' := 30) [.iinc 2 1, .goto (-26)] mkX2_becomeAs (by decide +kernel) rfl rfl ?_
          refine ih _ _ ⟨by rw [show nI i + Int32.ofInt 1 = nI (i + 1) by simp only [oI, nI_add]], fun c hc j hj => by rw [hF2 _ (by omega)]; exact hB c hc j hj, fun c hc j hj => ?_, fun a ha => by rw [hF2 a (by omega), hF a ha]⟩
          by_cases e : c = i
          · rw [e, hC j hj]; exact hR1.2.2.1 i (by omega) j hj
          · rw [hF2 _ (by omega)]; exact hD c (by omega) j hj
      · rintro L hh ⟨rfl, hJ⟩
        obtain ⟨hB, hD, hF⟩ := hJ
        have hR1 := hQ hh hF
        refine p_run (pc' := 35) [.iload_n 2, .aload_n 1, .getfield 45] mkX2_becomeAs (by decide +kernel) rfl rfl ?_
        rw [hR1.1.1, en]
        refine p_icmp_ge (off := 24) 59 (by decide +kernel) (by decide) (fun cqh => ?_) (fun cqh => ?_)
        · refine p_run (pc' := 61) [.iconst 0, .istore_n 2] mkX2_becomeAs (by decide +kernel) rfl rfl ?_
          refine Wp.for (3) (fun i L hh => L = [some (.ref 29), some (.ref 11), some (.int (nI i))] ∧ ((∀ c, c < 4 → ∀ j, j < 3 → hh (29 + 2 + c) j = bK N c j) ∧ (∀ c, c < nd N → ∀ j, j < 5 → hh (29 + 7 + c) j = dK N c j) ∧ (∀ c, c < i → hh (29 + 17) c = oN (lawT N c)) ∧ (∀ a, ¬ (29 ≤ a ∧ a ≤ 29 + 17) → hh a = h a))) ?_ ?_ (0) (by omega) _ _ ?_
          · rintro i L hh hi ⟨rfl, hJ⟩ ih
            obtain ⟨hB, hD, hL, hF⟩ := hJ
            have hR1 := hQ hh hF
            refine p_run (pc' := 63) [.iload_n 2, .iconst 3] mkX2_becomeAs (by decide +kernel) rfl rfl ?_
            refine p_icmp_ge (off := 21) 84 (by decide +kernel) (by decide) (fun cqh => ?_) (fun cqh => ?_)
            · exact False.elim (by rw [oI, nI_leI (by omega) (by omega)] at cqh; omega)
            · refine p_run (pc' := 76) [.aload_n 0, .getfield 29, .iload_n 2, .aload_n 1, .getfield 29, .iload_n 2] mkX2_becomeAs (by decide +kernel) rfl rfl ?_
              refine p_iald (i) (by decide +kernel) rfl rfl rfl (by omega) ?_
              rw [show hh 28 i = oN (lawT N i) from hR1.2.2.2 i hi]
              refine p_iast (i) (by decide +kernel) rfl rfl rfl (by omega)  ?_
              refine p_run (pc' := 61) [.iinc 2 1, .goto (-20)] mkX2_becomeAs (by decide +kernel) rfl rfl ?_
              refine ih _ _ ⟨by rw [show nI i + Int32.ofInt 1 = nI (i + 1) by simp only [oI, nI_add]], fun c hc j hj => by rw [upN (by omega)]; exact hB c hc j hj, fun c hc j hj => by rw [upN (by omega)]; exact hD c hc j hj, fun c hc => ?_, fun a ha => by rw [upN (by omega), hF a ha]⟩
              show up hh 46 i _ 46 c = _
              by_cases e : c = i
              · rw [e, uF]
              · rw [uN e]; exact hL c (by omega)
          · rintro L hh ⟨rfl, hJ⟩
            obtain ⟨hB, hD, hL, hF⟩ := hJ
            have hR1 := hQ hh hF
            refine p_run (pc' := 63) [.iload_n 2, .iconst 3] mkX2_becomeAs (by decide +kernel) rfl rfl ?_
            refine p_icmp_ge (off := 21) 84 (by decide +kernel) (by decide) (fun cqh => ?_) (fun cqh => ?_)
            · refine p_run (pc' := 148) [.aload_n 0, .aload_n 1, .getfield 45, .putfield 45, .aload_n 0, .aload_n 1, .getfield 51, .putfield 51, .aload_n 0, .aload_n 1, .getfield 34, .putfield 34, .aload_n 0, .aload_n 1, .getfield 54, .putfield 54, .aload_n 0, .aload_n 1, .getfield 57, .putfield 57, .aload_n 0, .aload_n 1, .getfield 60, .putfield 60, .aload_n 0, .aload_n 1, .getfield 63, .putfield 63, .aload_n 0, .aload_n 1, .getfield 38, .putfield 38] mkX2_becomeAs (by decide +kernel) rfl rfl ?_
              refine p_vret rfl (by decide +kernel) ?_
              refine ⟨rfl, ⟨⟨?_, ?_, ?_, ?_, ?_, ?_, ?_, ?_⟩, fun b hb j hj => ?_, fun d hd j hj => ?_, fun key hkk => ?_⟩, fun a h1 _ _ => ?_⟩
              · rw [uN (by decide), uN (by decide), uN (by decide), uN (by decide), uN (by decide), uN (by decide), uN (by decide), uF]; exact hR1.1.1
              · rw [uN (by decide), uN (by decide), uN (by decide), uN (by decide), uN (by decide), uN (by decide), uF, upN (show 11 ≠ 29 by decide)]; exact hR1.1.2.1
              · rw [uN (by decide), uN (by decide), uN (by decide), uN (by decide), uN (by decide), uF, upN (show 11 ≠ 29 by decide), upN (show 11 ≠ 29 by decide)]; exact hR1.1.2.2.1
              · rw [uN (by decide), uN (by decide), uN (by decide), uN (by decide), uF, upN (show 11 ≠ 29 by decide), upN (show 11 ≠ 29 by decide), upN (show 11 ≠ 29 by decide)]; exact hR1.1.2.2.2.1
              · rw [uN (by decide), uN (by decide), uN (by decide), uF, upN (show 11 ≠ 29 by decide), upN (show 11 ≠ 29 by decide), upN (show 11 ≠ 29 by decide), upN (show 11 ≠ 29 by decide)]; exact hR1.1.2.2.2.2.1
              · rw [uN (by decide), uN (by decide), uF, upN (show 11 ≠ 29 by decide), upN (show 11 ≠ 29 by decide), upN (show 11 ≠ 29 by decide), upN (show 11 ≠ 29 by decide), upN (show 11 ≠ 29 by decide)]; exact hR1.1.2.2.2.2.2.1
              · rw [uN (by decide), uF, upN (show 11 ≠ 29 by decide), upN (show 11 ≠ 29 by decide), upN (show 11 ≠ 29 by decide), upN (show 11 ≠ 29 by decide), upN (show 11 ≠ 29 by decide), upN (show 11 ≠ 29 by decide)]; exact hR1.1.2.2.2.2.2.2.1
              · rw [uF, upN (show 11 ≠ 29 by decide), upN (show 11 ≠ 29 by decide), upN (show 11 ≠ 29 by decide), upN (show 11 ≠ 29 by decide), upN (show 11 ≠ 29 by decide), upN (show 11 ≠ 29 by decide), upN (show 11 ≠ 29 by decide)]; exact hR1.1.2.2.2.2.2.2.2
              · rw [upN (by omega), upN (by omega), upN (by omega), upN (by omega), upN (by omega), upN (by omega), upN (by omega), upN (by omega)]; exact hB b hb j hj
              · rw [upN (by omega), upN (by omega), upN (by omega), upN (by omega), upN (by omega), upN (by omega), upN (by omega), upN (by omega)]; exact hD d hd j hj
              · rw [upN (by omega), upN (by omega), upN (by omega), upN (by omega), upN (by omega), upN (by omega), upN (by omega), upN (by omega)]; exact hL key hkk
              · rw [upN (by omega), upN (by omega), upN (by omega), upN (by omega), upN (by omega), upN (by omega), upN (by omega), upN (by omega)]; exact hF a h1
            · exact False.elim (by revert cqh; decide)
          · exact ⟨rfl, hB, hD, fun c hc => absurd hc (by omega), hF⟩
        · exact absurd (nI_le (Nat.le_refl _) (by omega)) cqh
      · exact ⟨rfl, hB, fun c hc => absurd hc (by omega), hF⟩
    · exact False.elim (by revert cqh; decide)
  · exact ⟨rfl, fun c hc => absurd hc (by omega), fun _ _ => rfl⟩
set_option maxRecDepth 20000 in
set_option maxHeartbeats 4000000 in
theorem cbec11_29 (w : Wt) {k : Nat} (hk : 1 ≤ k) (N : Vc) (h : Mm) (hI : Iv N) (hR : PR 29 h N) : Ok w k MX2_becomeAs [.ref 11, .ref 29] h (fun r h' => r = none ∧ PR 11 h' N ∧ Fp 11 h h') := by
  show Wp w k MX2_becomeAs _ 0 [some (.ref 11), some (.ref 29), none] [] h
  obtain ⟨en, hn10⟩ := hI.nd
  have hQ : ∀ hh : Mm, (∀ a, ¬ (11 ≤ a ∧ a ≤ 11 + 17) → hh a = h a) → PR 29 hh N := fun hh e => hR.of (fun a h1 h2 => e a (by omega)) hn10
  refine p_run (pc' := 2) [.iconst 0, .istore_n 2] mkX2_becomeAs (by decide +kernel) rfl rfl ?_
  refine Wp.for (4) (fun i L hh => L = [some (.ref 11), some (.ref 29), some (.int (nI i))] ∧ ((∀ c, c < i → ∀ j, j < 3 → hh (11 + 2 + c) j = bK N c j) ∧ (∀ a, ¬ (11 ≤ a ∧ a ≤ 11 + 17) → hh a = h a))) ?_ ?_ (0) (by omega) _ _ ?_
  · rintro i L hh hi ⟨rfl, hJ⟩ ih
    obtain ⟨hB, hF⟩ := hJ
    have hR1 := hQ hh hF
    refine p_run (pc' := 4) [.iload_n 2, .iconst 4] mkX2_becomeAs (by decide +kernel) rfl rfl ?_
    refine p_icmp_ge (off := 24) 28 (by decide +kernel) (by decide) (fun cqh => ?_) (fun cqh => ?_)
    · exact False.elim (by rw [oI, nI_leI (by omega) (by omega)] at cqh; omega)
    · refine p_run (pc' := 12) [.aload_n 0, .getfield 17, .iload_n 2] mkX2_becomeAs (by decide +kernel) rfl rfl ?_
      refine p_aald (i) (by decide +kernel) (by decide) rfl (by decide) rfl (by omega) (rfB11 i (by omega)) ?_
      refine p_run (pc' := 18) [.aload_n 1, .getfield 17, .iload_n 2] mkX2_becomeAs (by decide +kernel) rfl rfl ?_
      refine p_aald (i) (by decide +kernel) (by decide) rfl (by decide) rfl (by omega) (rfB29 i (by omega)) ?_
      refine p_callVo (bbec_ok w (k := k - 1) _ _ (obB pp11 (by omega)) (obB pp29 (by omega)) (by omega) hh) (fun _ _ q => q.1) kvX2_41 (by decide +kernel) (obB pp11 (by omega)).1 (obB pp11 (by omega)).2.1 (by omega) rfl rfl rfl rfl rfl (fun h' hq => ?_)
      obtain ⟨-, hC, hF2⟩ := hq
      refine p_run (pc' := 2) [.iinc 2 1, .goto (-23)] mkX2_becomeAs (by decide +kernel) rfl rfl ?_
      refine ih _ _ ⟨by rw [show nI i + Int32.ofInt 1 = nI (i + 1) by simp only [oI, nI_add]], fun c hc j hj => ?_, fun a ha => by rw [hF2 a (by omega), hF a ha]⟩
      by_cases e : c = i
      · rw [e, hC j hj]; exact hR1.2.1 i (by omega) j hj
      · rw [hF2 _ (by omega)]; exact hB c (by omega) j hj
  · rintro L hh ⟨rfl, hJ⟩
    obtain ⟨hB, hF⟩ := hJ
    rename Mm => hb1
    refine p_run (pc' := 4) [.iload_n 2, .iconst 4] mkX2_becomeAs (by decide +kernel) rfl rfl ?_
    refine p_icmp_ge (off := 24) 28 (by decide +kernel) (by decide) (fun cqh => ?_) (fun cqh => ?_)
    · refine p_run (pc' := 30) [.iconst 0, .istore_n 2] mkX2_becomeAs (by decide +kernel) rfl rfl ?_
      refine Wp.for (nd N) (fun i L hh => L = [some (.ref 11), some (.ref 29), some (.int (nI i))] ∧ ((∀ c, c < 4 → ∀ j, j < 3 → hh (11 + 2 + c) j = bK N c j) ∧ (∀ c, c < i → ∀ j, j < 5 → hh (11 + 7 + c) j = dK N c j) ∧ (∀ a, ¬ (11 ≤ a ∧ a ≤ 11 + 17) → hh a = h a))) ?_ ?_ (0) (by omega) _ _ ?_
      · rintro i L hh hi ⟨rfl, hJ⟩ ih
        obtain ⟨hB, hD, hF⟩ := hJ
        have hR1 := hQ hh hF
        refine p_run (pc' := 35) [.iload_n 2, .aload_n 1, .getfield 45] mkX2_becomeAs (by decide +kernel) rfl rfl ?_
        rw [hR1.1.1, en]
        refine p_icmp_ge (off := 24) 59 (by decide +kernel) (by decide) (fun cqh => ?_) (fun cqh => ?_)
        · exact absurd cqh (nI_ge (by omega) (by omega))
        · refine p_run (pc' := 43) [.aload_n 0, .getfield 24, .iload_n 2] mkX2_becomeAs (by decide +kernel) rfl rfl ?_
          refine p_aald (i) (by decide +kernel) (by decide) rfl (by decide) rfl (by omega) (rfD11 i (by omega)) ?_
          refine p_run (pc' := 49) [.aload_n 1, .getfield 24, .iload_n 2] mkX2_becomeAs (by decide +kernel) rfl rfl ?_
          refine p_aald (i) (by decide +kernel) (by decide) rfl (by decide) rfl (by omega) (rfD29 i (by omega)) ?_
          refine p_callVo (dbec_ok w (k := k - 1) _ _ (obD pp11 (by omega)) (obD pp29 (by omega)) (by omega) hh) (fun _ _ q => q.1) kvX2_48 (by decide +kernel) (obD pp11 (by omega)).1 (obD pp11 (by omega)).2.1 (by omega) rfl rfl rfl rfl rfl (fun h' hq => ?_)
          obtain ⟨-, hC, hF2⟩ := hq
          refine p_run (pc' := 30) [.iinc 2 1, .goto (-26)] mkX2_becomeAs (by decide +kernel) rfl rfl ?_
          refine ih _ _ ⟨by rw [show nI i + Int32.ofInt 1 = nI (i + 1) by simp only [oI, nI_add]], fun c hc j hj => by rw [hF2 _ (by omega)]; exact hB c hc j hj, fun c hc j hj => ?_, fun a ha => by rw [hF2 a (by omega), hF a ha]⟩
          by_cases e : c = i
          · rw [e, hC j hj]; exact hR1.2.2.1 i (by omega) j hj
          · rw [hF2 _ (by omega)]; exact hD c (by omega) j hj
      · rintro L hh ⟨rfl, hJ⟩
        obtain ⟨hB, hD, hF⟩ := hJ
        have hR1 := hQ hh hF
        refine p_run (pc' := 35) [.iload_n 2, .aload_n 1, .getfield 45] mkX2_becomeAs (by decide +kernel) rfl rfl ?_
        rw [hR1.1.1, en]
        refine p_icmp_ge (off := 24) 59 (by decide +kernel) (by decide) (fun cqh => ?_) (fun cqh => ?_)
        · refine p_run (pc' := 61) [.iconst 0, .istore_n 2] mkX2_becomeAs (by decide +kernel) rfl rfl ?_
          refine Wp.for (3) (fun i L hh => L = [some (.ref 11), some (.ref 29), some (.int (nI i))] ∧ ((∀ c, c < 4 → ∀ j, j < 3 → hh (11 + 2 + c) j = bK N c j) ∧ (∀ c, c < nd N → ∀ j, j < 5 → hh (11 + 7 + c) j = dK N c j) ∧ (∀ c, c < i → hh (11 + 17) c = oN (lawT N c)) ∧ (∀ a, ¬ (11 ≤ a ∧ a ≤ 11 + 17) → hh a = h a))) ?_ ?_ (0) (by omega) _ _ ?_
          · rintro i L hh hi ⟨rfl, hJ⟩ ih
            obtain ⟨hB, hD, hL, hF⟩ := hJ
            have hR1 := hQ hh hF
            refine p_run (pc' := 63) [.iload_n 2, .iconst 3] mkX2_becomeAs (by decide +kernel) rfl rfl ?_
            refine p_icmp_ge (off := 21) 84 (by decide +kernel) (by decide) (fun cqh => ?_) (fun cqh => ?_)
            · exact False.elim (by rw [oI, nI_leI (by omega) (by omega)] at cqh; omega)
            · refine p_run (pc' := 76) [.aload_n 0, .getfield 29, .iload_n 2, .aload_n 1, .getfield 29, .iload_n 2] mkX2_becomeAs (by decide +kernel) rfl rfl ?_
              refine p_iald (i) (by decide +kernel) rfl rfl rfl (by omega) ?_
              rw [show hh 46 i = oN (lawT N i) from hR1.2.2.2 i hi]
              refine p_iast (i) (by decide +kernel) rfl rfl rfl (by omega)  ?_
              refine p_run (pc' := 61) [.iinc 2 1, .goto (-20)] mkX2_becomeAs (by decide +kernel) rfl rfl ?_
              refine ih _ _ ⟨by rw [show nI i + Int32.ofInt 1 = nI (i + 1) by simp only [oI, nI_add]], fun c hc j hj => by rw [upN (by omega)]; exact hB c hc j hj, fun c hc j hj => by rw [upN (by omega)]; exact hD c hc j hj, fun c hc => ?_, fun a ha => by rw [upN (by omega), hF a ha]⟩
              show up hh 28 i _ 28 c = _
              by_cases e : c = i
              · rw [e, uF]
              · rw [uN e]; exact hL c (by omega)
          · rintro L hh ⟨rfl, hJ⟩
            obtain ⟨hB, hD, hL, hF⟩ := hJ
            have hR1 := hQ hh hF
            refine p_run (pc' := 63) [.iload_n 2, .iconst 3] mkX2_becomeAs (by decide +kernel) rfl rfl ?_
            refine p_icmp_ge (off := 21) 84 (by decide +kernel) (by decide) (fun cqh => ?_) (fun cqh => ?_)
            · refine p_run (pc' := 148) [.aload_n 0, .aload_n 1, .getfield 45, .putfield 45, .aload_n 0, .aload_n 1, .getfield 51, .putfield 51, .aload_n 0, .aload_n 1, .getfield 34, .putfield 34, .aload_n 0, .aload_n 1, .getfield 54, .putfield 54, .aload_n 0, .aload_n 1, .getfield 57, .putfield 57, .aload_n 0, .aload_n 1, .getfield 60, .putfield 60, .aload_n 0, .aload_n 1, .getfield 63, .putfield 63, .aload_n 0, .aload_n 1, .getfield 38, .putfield 38] mkX2_becomeAs (by decide +kernel) rfl rfl ?_
              refine p_vret rfl (by decide +kernel) ?_
              refine ⟨rfl, ⟨⟨?_, ?_, ?_, ?_, ?_, ?_, ?_, ?_⟩, fun b hb j hj => ?_, fun d hd j hj => ?_, fun key hkk => ?_⟩, fun a h1 _ _ => ?_⟩
              · rw [uN (by decide), uN (by decide), uN (by decide), uN (by decide), uN (by decide), uN (by decide), uN (by decide), uF]; exact hR1.1.1
              · rw [uN (by decide), uN (by decide), uN (by decide), uN (by decide), uN (by decide), uN (by decide), uF, upN (show 29 ≠ 11 by decide)]; exact hR1.1.2.1
              · rw [uN (by decide), uN (by decide), uN (by decide), uN (by decide), uN (by decide), uF, upN (show 29 ≠ 11 by decide), upN (show 29 ≠ 11 by decide)]; exact hR1.1.2.2.1
              · rw [uN (by decide), uN (by decide), uN (by decide), uN (by decide), uF, upN (show 29 ≠ 11 by decide), upN (show 29 ≠ 11 by decide), upN (show 29 ≠ 11 by decide)]; exact hR1.1.2.2.2.1
              · rw [uN (by decide), uN (by decide), uN (by decide), uF, upN (show 29 ≠ 11 by decide), upN (show 29 ≠ 11 by decide), upN (show 29 ≠ 11 by decide), upN (show 29 ≠ 11 by decide)]; exact hR1.1.2.2.2.2.1
              · rw [uN (by decide), uN (by decide), uF, upN (show 29 ≠ 11 by decide), upN (show 29 ≠ 11 by decide), upN (show 29 ≠ 11 by decide), upN (show 29 ≠ 11 by decide), upN (show 29 ≠ 11 by decide)]; exact hR1.1.2.2.2.2.2.1
              · rw [uN (by decide), uF, upN (show 29 ≠ 11 by decide), upN (show 29 ≠ 11 by decide), upN (show 29 ≠ 11 by decide), upN (show 29 ≠ 11 by decide), upN (show 29 ≠ 11 by decide), upN (show 29 ≠ 11 by decide)]; exact hR1.1.2.2.2.2.2.2.1
              · rw [uF, upN (show 29 ≠ 11 by decide), upN (show 29 ≠ 11 by decide), upN (show 29 ≠ 11 by decide), upN (show 29 ≠ 11 by decide), upN (show 29 ≠ 11 by decide), upN (show 29 ≠ 11 by decide), upN (show 29 ≠ 11 by decide)]; exact hR1.1.2.2.2.2.2.2.2
              · rw [upN (by omega), upN (by omega), upN (by omega), upN (by omega), upN (by omega), upN (by omega), upN (by omega), upN (by omega)]; exact hB b hb j hj
              · rw [upN (by omega), upN (by omega), upN (by omega), upN (by omega), upN (by omega), upN (by omega), upN (by omega), upN (by omega)]; exact hD d hd j hj
              · rw [upN (by omega), upN (by omega), upN (by omega), upN (by omega), upN (by omega), upN (by omega), upN (by omega), upN (by omega)]; exact hL key hkk
              · rw [upN (by omega), upN (by omega), upN (by omega), upN (by omega), upN (by omega), upN (by omega), upN (by omega), upN (by omega)]; exact hF a h1
            · exact False.elim (by revert cqh; decide)
          · exact ⟨rfl, hB, hD, fun c hc => absurd hc (by omega), hF⟩
        · exact absurd (nI_le (Nat.le_refl _) (by omega)) cqh
      · exact ⟨rfl, hB, fun c hc => absurd hc (by omega), hF⟩
    · exact False.elim (by revert cqh; decide)
  · exact ⟨rfl, fun c hc => absurd hc (by omega), fun _ _ => rfl⟩
