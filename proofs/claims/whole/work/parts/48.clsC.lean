/-! the class: what one digs -/
def Rf (v : Int32) (h : Mm) : Option Value → Mm → Prop := fun r h' => r = some (.int v) ∧ Fw h h'
theorem NONE_ne {t : Nat} (ht : t < 14) : ¬ nI t = NONEv := by
  have : ∀ t, t < 14 → ¬ nI t = NONEv := by decide
  exact this t ht
theorem Fw.u6 {h : Mm} {k : Nat} {x : Int32} : Fw h (up h 6 k x) := fun a h1 _ => upN h1
theorem Fw.g7 {h h' : Mm} (e : ∀ a, a ≠ 7 → h' a = h a) : Fw h h' := fun a _ h2 => e a h2
theorem law_in {N : Vc} {key t : Nat} (h : lawT N key = some t) : t < nN (N 7) := (lastT_in h).1
theorem kd_dflt4 {x : Int32} (hi : In x 5) (h5 : ¬ nN x = 5) (h : x.toInt < 1 ∨ 4 < x.toInt) : nN x = 0 := by
  have h2 := hi.2
  have e : x.toInt = (nN x : Int) := by
    have z := nI_toInt (n := nN x) (by omega)
    rw [← hi.1] at z
    exact z
  omega
set_option maxRecDepth 20000 in
set_option maxHeartbeats 4000000 in
theorem cplain11 (w : Wt) {k : Nat} (hk : 3 ≤ k) (d : Nat) (hd : d < 10) (N : Vc) (h : Mm) (hI : Iv N) (hR : PR 11 h N) (hdn : d < nd N) (hT : TR h N) : Ok w k MX2_plain [.ref 11, .ref (11 + 7 + d)] h (Rf (plF N d) h) := by
  show Wp w k MX2_plain _ 0 [some (.ref 11), some (.ref (11 + 7 + d)), none] [] h
  obtain ⟨eb, hb4⟩ := hI.br hd
  have hn10 := hI.nd.2
  refine p_run (pc' := 5) [.aload_n 0, .getfield 17, .aload_n 1] mkX2_plain (by decide +kernel) rfl rfl ?_
  refine p_getI (by decide +kernel) fo2_76 (obD pp11 hd).1 (obD pp11 hd).2.1 ((obD pp11 hd).2.2 _) ?_
  refine Wp.eqS (st' := [.int (nI (brF N d)), .ref 12]) (by rw [hR.2.2.1 d hdn 3 (by omega)]; exact congrArg (fun x => [Value.int x, .ref 12]) eb) ?_
  refine p_aald (brF N d) (by decide +kernel) (by decide) rfl (by decide) rfl (by omega) (rfB11 (brF N d) (by omega)) ?_
  refine p_run (pc' := 15) [.astore_n 2, .aload_n 0, .getfield 29, .iconst 0] mkX2_plain (by decide +kernel) rfl rfl ?_
  refine p_iald (0) (by decide +kernel) rfl rfl (by simp only [oI]) (by omega) ?_
  rw [hR.2.2.2 0 (by omega)]
  refine p_run (pc' := 18) [.ldc 33] mkX2_plain (by decide +kernel) rfl rfl ?_
  cases hl : lawT N 0 with
  | none =>
    refine p_icmp_ne (off := 16) 34 (by decide +kernel) (by decide) (fun cq1 => ?_) (fun cq1 => ?_)
    · exact absurd rfl cq1
    · refine p_run (pc' := 22) [.aload_n 1] mkX2_plain (by decide +kernel) rfl rfl ?_
      refine p_getI (by decide +kernel) fo2_70 (obD pp11 hd).1 (obD pp11 hd).2.1 ((obD pp11 hd).2.2 _) ?_
      refine p_run (pc' := 26) [.aload_n 2] mkX2_plain (by decide +kernel) rfl rfl ?_
      refine p_getI (by decide +kernel) fo2_148 (obB pp11 hb4).1 (obB pp11 hb4).2.1 ((obB pp11 hb4).2.2 _) ?_
      rw [hR.2.2.1 d hdn 1 (by omega), hR.2.1 _ hb4 1 (by omega)]
      refine p_run (pc' := 30) [.isub] mkX2_plain (by decide +kernel) rfl rfl ?_
      refine p_callSv (held_ok w (k := k - 1) (by omega) _ _) ksX2_165 (by decide +kernel) (by omega) rfl rfl rfl rfl rfl ?_
      refine p_iret rfl rfl (by decide +kernel) ?_
      exact ⟨by unfold plF; rw [hl], Fw.rf⟩
  | some t =>
    obtain ⟨ht, hX, hke⟩ := lastT_spec hl hI
    refine p_icmp_ne (off := 16) 34 (by decide +kernel) (by decide) (fun cq1 => ?_) (fun cq1 => ?_)
    · refine p_run (pc' := 40) [.aload_n 0, .getfield 9, .iconst 0, .aload_n 1] mkX2_plain (by decide +kernel) rfl rfl ?_
      refine p_getI (by decide +kernel) fo2_70 (obD pp11 hd).1 (obD pp11 hd).2.1 ((obD pp11 hd).2.2 _) ?_
      rw [hR.2.2.1 d hdn 1 (by omega)]
      refine p_callVw (tput_ok w (k := k - 1) 0 (by omega) _ _) kvX2_168 (by decide +kernel) (by decide) rfl (by omega) rfl rfl rfl rfl rfl ?_
      refine p_run (pc' := 52) [.aload_n 0, .getfield 9, .iconst 1, .aload_n 2] mkX2_plain (by decide +kernel) rfl rfl ?_
      refine p_getI (by decide +kernel) fo2_148 (obB pp11 hb4).1 (obB pp11 hb4).2.1 ((obB pp11 hb4).2.2 _) ?_
      rw [upN (by omega), hR.2.1 _ hb4 1 (by omega)]
      refine p_callVw (tput_ok w (k := k - 1) 1 (by omega) _ _) kvX2_168 (by decide +kernel) (by decide) rfl (by omega) rfl rfl rfl rfl rfl ?_
      refine p_run (pc' := 64) [.aload_n 0, .getfield 9, .iconst 2, .aload_n 2] mkX2_plain (by decide +kernel) rfl rfl ?_
      refine p_callVv (cahead_ok w (k := k - 1) _ (obB pp11 hb4) _) kvX2_162 (by decide +kernel) (obB pp11 hb4).1 (obB pp11 hb4).2.1 (by omega) rfl rfl rfl rfl rfl ?_
      rw [upN (by omega), upN (by omega), hR.2.1 _ hb4 0 (by omega), hR.2.1 _ hb4 2 (by omega)]
      refine p_callVw (tput_ok w (k := k - 1) 2 (by omega) _ _) kvX2_168 (by decide +kernel) (by decide) rfl (by omega) rfl rfl rfl rfl rfl ?_
      generalize e1 : up (up (up h 6 0 _) 6 1 _) 6 2 _ = h1
      have hF1 : Fw h h1 := by rw [← e1]; exact (Fw.u6.tr Fw.u6).tr Fw.u6
      have hR1 := hR.fw pp11 hF1 hn10
      refine p_run (pc' := 77) [.aload_n 0, .getfield 9, .iconst 3, .aload_n 0, .aload_n 1] mkX2_plain (by decide +kernel) rfl rfl ?_
      refine p_getI (by decide +kernel) fo2_76 (obD pp11 hd).1 (obD pp11 hd).2.1 ((obD pp11 hd).2.2 _) ?_
      refine Wp.eqS (st' := [.int (nI (brF N d)), .ref 11, .int (Int32.ofInt 3), .ref 1]) (by rw [hR1.2.2.1 d hdn 3 (by omega)]; exact congrArg (fun x => [Value.int x, .ref 11, .int (Int32.ofInt 3), .ref 1]) eb) ?_
      refine p_callVv (clitIn11 w (k := k - 1) (by omega) (brF N d) N h1 hI hR1) kvX2_172 (by decide +kernel) (by decide) rfl (by omega) rfl rfl rfl rfl rfl ?_
      refine p_callVw (tput_ok w (k := k - 1) 3 (by omega) _ _) kvX2_168 (by decide +kernel) (by decide) rfl (by omega) rfl rfl rfl rfl rfl ?_
      generalize e2 : up h1 6 3 _ = h2
      have hF2 : Fw h h2 := by rw [← e2]; exact hF1.tr Fw.u6
      have hR2 := hR.fw pp11 hF2 hn10
      refine p_run (pc' := 95) [.aload_n 0, .getfield 9, .aload_n 0, .getfield 29, .iconst 0] mkX2_plain (by decide +kernel) rfl rfl ?_
      refine p_iald (0) (by decide +kernel) rfl rfl (by simp only [oI]) (by omega) ?_
      rw [hR2.2.2.2 0 (by omega), hl]
      have efc : evF N t (h2 6) = evF N t (fc4 (dK N d 1) (bK N (brF N d) 1) (ahF N (brF N d)) (nI (cntF (litB N (brF N d)) (nd N)))) := by
        refine evF_congr hX (fun i hi => ?_)
        have hi4 : i < 4 := Nat.lt_of_lt_of_le hi (nmF_le _)
        rw [← e2, ← e1]
        match i, hi4 with
        | 0, _ => rfl
        | 1, _ => rfl
        | 2, _ => rfl
        | 3, _ => rfl
      refine p_callVi (gives_ok w (k := k - 1) (by omega) t ht N h2 (hT.fw hF2) (law_in hl) hX) (fun _ _ q => q.1) kvX2_175 (by decide +kernel) (by decide) rfl (by omega) rfl rfl rfl rfl rfl (fun h' hq => ?_)
      obtain ⟨-, hG⟩ := hq
      rw [efc]
      refine p_callSv (held_ok w (k := k - 1) (by omega) _ _) ksX2_165 (by decide +kernel) (by omega) rfl rfl rfl rfl rfl ?_
      refine p_iret rfl rfl (by decide +kernel) ?_
      exact ⟨by unfold plF; rw [hl], hF2.tr (Fw.g7 hG)⟩
    · exact absurd cq1 (NONE_ne ht)
set_option maxRecDepth 20000 in
set_option maxHeartbeats 4000000 in
theorem cdigs11 (w : Wt) {k : Nat} (hk : 4 ≤ k) (d : Nat) (N : Vc) (h : Mm) (hI : Iv N) (hR : PR 11 h N) (hdn : d < nd N) (hT : TR h N) : Ok w k MX2_digs [.ref 11, .int (nI d)] h (Rf (dgF N d) h) := by
  show Wp w k MX2_digs _ 0 [some (.ref 11), some (.int (nI d)), none, none] [] h
  have hn10 := hI.nd.2
  have hk0 := (hI.2.2.2.2.2.1 d (by omega)).1
  have hk5 := hk0.2
  refine p_run (pc' := 5) [.aload_n 0, .getfield 24, .iload_n 1] mkX2_digs (by decide +kernel) rfl rfl ?_
  refine p_aald (d) (by decide +kernel) (by decide) rfl (by decide) rfl (by omega) (rfD11 d (by omega)) ?_
  refine p_run (pc' := 8) [.astore_n 2, .aload_n 2] mkX2_digs (by decide +kernel) rfl rfl ?_
  refine p_getI (by decide +kernel) fo2_67 (obD pp11 (by omega)).1 (obD pp11 (by omega)).2.1 ((obD pp11 (by omega)).2.2 _) ?_
  rw [hR.2.2.1 d hdn 0 (by omega)]
  refine p_run (pc' := 12) [.iconst 5] mkX2_digs (by decide +kernel) rfl rfl ?_
  refine p_icmp_ne (off := 5) 17 (by decide +kernel) (by decide) (fun cq1 => ?_) (fun cq1 => ?_)
  · have h5 : ¬ nN (dK N d 0) = 5 := fun q => cq1 (by rw [hk0.1, q]; rfl)
    refine p_run (pc' := 19) [.aload_n 0, .aload_n 2] mkX2_digs (by decide +kernel) rfl rfl ?_
    refine p_callVi (cplain11 w (k := k - 1) (by omega) d (by omega) N h hI hR hdn hT) (fun _ _ q => q.1) kvX2_151 (by decide +kernel) (by decide) rfl (by omega) rfl rfl rfl rfl rfl (fun h' hq => ?_)
    obtain ⟨-, hF1⟩ := hq
    rename Mm => h1
    have hR1 := hR.fw pp11 hF1 hn10
    refine p_run (pc' := 24) [.istore_n 3, .aload_n 2] mkX2_digs (by decide +kernel) rfl rfl ?_
    refine p_getI (by decide +kernel) fo2_67 (obD pp11 (by omega)).1 (obD pp11 (by omega)).2.1 ((obD pp11 (by omega)).2.2 _) ?_
    rw [hR1.2.2.1 d hdn 0 (by omega)]
    refine p_table (dflt := 69) (lo := 1) (hi := 4) (offs := #[29, 53, 33, 57]) (len := 29) (by decide +kernel) (by decide) (fun j hj hx => ?_) (fun hx => ?_)
    · match j, hj, hx with
      | 0, _, hx =>
        have hx : dK N d 0 = Int32.ofInt (1) := hx
        refine ⟨29, 56, rfl, rfl, ?_⟩
        have hv : nN (dK N d 0) = 1 := kd_case (by omega) hx
        refine p_run (pc' := 59) [.iload_n 3, .iconst 1, .iadd] mkX2_digs (by decide +kernel) rfl rfl ?_
        refine p_iret rfl rfl (by decide +kernel) ?_
        exact ⟨by unfold dgF; rw [hv]; rfl, hF1⟩
      | 1, _, hx =>
        have hx : dK N d 0 = Int32.ofInt (2) := hx
        refine ⟨53, 80, rfl, rfl, ?_⟩
        have hv : nN (dK N d 0) = 2 := kd_case (by omega) hx
        refine p_run (pc' := 82) [.iload_n 3, .iconst 2] mkX2_digs (by decide +kernel) rfl rfl ?_
        refine p_idiv (by decide +kernel) (by decide) ?_
        refine p_iret rfl rfl (by decide +kernel) ?_
        exact ⟨by unfold dgF; rw [hv]; rfl, hF1⟩
      | 2, _, hx =>
        have hx : dK N d 0 = Int32.ofInt (3) := hx
        refine ⟨33, 60, rfl, rfl, ?_⟩
        have hv : nN (dK N d 0) = 3 := kd_case (by omega) hx
        refine p_run (pc' := 62) [.aload_n 0, .aload_n 2] mkX2_digs (by decide +kernel) rfl rfl ?_
        refine p_callVv (cisFar11 w (k := k - 1) (by omega) d (by omega) N h1 hI hR1 hdn) kvX2_155 (by decide +kernel) (by decide) rfl (by omega) rfl rfl rfl rfl rfl ?_
        refine p_if_eq (off := 11) 76 (by decide +kernel) (by decide) (fun cq65 => ?_) (fun cq65 => ?_)
        · have cq65 := bI0.mp cq65
          refine p_run (pc' := 79) [.iload_n 3, .iconst 1, .iadd] mkX2_digs (by decide +kernel) rfl rfl ?_
          refine p_iret rfl rfl (by decide +kernel) ?_
          exact ⟨by unfold dgF; rw [hv]; simp only [if_neg cq65]; rfl, hF1⟩
        · have cq65 := bI1.mp cq65
          refine p_run (pc' := 72) [.iload_n 3, .iconst 1, .iadd, .iconst 2] mkX2_digs (by decide +kernel) rfl rfl ?_
          refine p_idiv (by decide +kernel) (by decide) ?_
          refine p_run (pc' := 79) [.goto 6] mkX2_digs (by decide +kernel) rfl rfl ?_
          refine p_iret rfl rfl (by decide +kernel) ?_
          exact ⟨by unfold dgF; rw [hv]; simp only [if_pos cq65]; rfl, hF1⟩
      | 3, _, hx =>
        have hx : dK N d 0 = Int32.ofInt (4) := hx
        refine ⟨57, 84, rfl, rfl, ?_⟩
        have hv : nN (dK N d 0) = 4 := kd_case (by omega) hx
        refine p_run (pc' := 86) [.iload_n 3, .iconst 2] mkX2_digs (by decide +kernel) rfl rfl ?_
        refine p_idiv (by decide +kernel) (by decide) ?_
        refine p_run (pc' := 90) [.iconst 2, .aload_n 0, .iload_n 1] mkX2_digs (by decide +kernel) rfl rfl ?_
        refine p_callVv (cmatesOf11 w (k := k - 1) (by omega) d N h1 hI hR1 hdn) kvX2_159 (by decide +kernel) (by decide) rfl (by omega) rfl rfl rfl rfl rfl ?_
        refine p_run (pc' := 95) [.imul, .iadd] mkX2_digs (by decide +kernel) rfl rfl ?_
        refine p_iret rfl rfl (by decide +kernel) ?_
        exact ⟨by unfold dgF; rw [hv]; rfl, hF1⟩
      | j + 4, hj, _ => exact absurd hj (by simp)
    · refine ⟨96, rfl, ?_⟩
      have hv : nN (dK N d 0) = 0 := kd_dflt4 hk0 h5 hx
      refine p_run (pc' := 97) [.iload_n 3] mkX2_digs (by decide +kernel) rfl rfl ?_
      refine p_iret rfl rfl (by decide +kernel) ?_
      exact ⟨by unfold dgF; rw [hv]; rfl, hF1⟩
  · have hv : nN (dK N d 0) = 5 := kd_case (by omega) cq1
    refine p_run (pc' := 16) [.iconst 1] mkX2_digs (by decide +kernel) rfl rfl ?_
    refine p_iret rfl rfl (by decide +kernel) ?_
    exact ⟨by unfold dgF; rw [hv]; rfl, Fw.rf⟩
set_option maxRecDepth 20000 in
set_option maxHeartbeats 4000000 in
theorem cplain47 (w : Wt) {k : Nat} (hk : 3 ≤ k) (d : Nat) (hd : d < 10) (N : Vc) (h : Mm) (hI : Iv N) (hR : PR 47 h N) (hdn : d < nd N) (hT : TR h N) : Ok w k MX2_plain [.ref 47, .ref (47 + 7 + d)] h (Rf (plF N d) h) := by
  show Wp w k MX2_plain _ 0 [some (.ref 47), some (.ref (47 + 7 + d)), none] [] h
  obtain ⟨eb, hb4⟩ := hI.br hd
  have hn10 := hI.nd.2
  refine p_run (pc' := 5) [.aload_n 0, .getfield 17, .aload_n 1] mkX2_plain (by decide +kernel) rfl rfl ?_
  refine p_getI (by decide +kernel) fo2_76 (obD pp47 hd).1 (obD pp47 hd).2.1 ((obD pp47 hd).2.2 _) ?_
  refine Wp.eqS (st' := [.int (nI (brF N d)), .ref 48]) (by rw [hR.2.2.1 d hdn 3 (by omega)]; exact congrArg (fun x => [Value.int x, .ref 48]) eb) ?_
  refine p_aald (brF N d) (by decide +kernel) (by decide) rfl (by decide) rfl (by omega) (rfB47 (brF N d) (by omega)) ?_
  refine p_run (pc' := 15) [.astore_n 2, .aload_n 0, .getfield 29, .iconst 0] mkX2_plain (by decide +kernel) rfl rfl ?_
  refine p_iald (0) (by decide +kernel) rfl rfl (by simp only [oI]) (by omega) ?_
  rw [hR.2.2.2 0 (by omega)]
  refine p_run (pc' := 18) [.ldc 33] mkX2_plain (by decide +kernel) rfl rfl ?_
  cases hl : lawT N 0 with
  | none =>
    refine p_icmp_ne (off := 16) 34 (by decide +kernel) (by decide) (fun cq1 => ?_) (fun cq1 => ?_)
    · exact absurd rfl cq1
    · refine p_run (pc' := 22) [.aload_n 1] mkX2_plain (by decide +kernel) rfl rfl ?_
      refine p_getI (by decide +kernel) fo2_70 (obD pp47 hd).1 (obD pp47 hd).2.1 ((obD pp47 hd).2.2 _) ?_
      refine p_run (pc' := 26) [.aload_n 2] mkX2_plain (by decide +kernel) rfl rfl ?_
      refine p_getI (by decide +kernel) fo2_148 (obB pp47 hb4).1 (obB pp47 hb4).2.1 ((obB pp47 hb4).2.2 _) ?_
      rw [hR.2.2.1 d hdn 1 (by omega), hR.2.1 _ hb4 1 (by omega)]
      refine p_run (pc' := 30) [.isub] mkX2_plain (by decide +kernel) rfl rfl ?_
      refine p_callSv (held_ok w (k := k - 1) (by omega) _ _) ksX2_165 (by decide +kernel) (by omega) rfl rfl rfl rfl rfl ?_
      refine p_iret rfl rfl (by decide +kernel) ?_
      exact ⟨by unfold plF; rw [hl], Fw.rf⟩
  | some t =>
    obtain ⟨ht, hX, hke⟩ := lastT_spec hl hI
    refine p_icmp_ne (off := 16) 34 (by decide +kernel) (by decide) (fun cq1 => ?_) (fun cq1 => ?_)
    · refine p_run (pc' := 40) [.aload_n 0, .getfield 9, .iconst 0, .aload_n 1] mkX2_plain (by decide +kernel) rfl rfl ?_
      refine p_getI (by decide +kernel) fo2_70 (obD pp47 hd).1 (obD pp47 hd).2.1 ((obD pp47 hd).2.2 _) ?_
      rw [hR.2.2.1 d hdn 1 (by omega)]
      refine p_callVw (tput_ok w (k := k - 1) 0 (by omega) _ _) kvX2_168 (by decide +kernel) (by decide) rfl (by omega) rfl rfl rfl rfl rfl ?_
      refine p_run (pc' := 52) [.aload_n 0, .getfield 9, .iconst 1, .aload_n 2] mkX2_plain (by decide +kernel) rfl rfl ?_
      refine p_getI (by decide +kernel) fo2_148 (obB pp47 hb4).1 (obB pp47 hb4).2.1 ((obB pp47 hb4).2.2 _) ?_
      rw [upN (by omega), hR.2.1 _ hb4 1 (by omega)]
      refine p_callVw (tput_ok w (k := k - 1) 1 (by omega) _ _) kvX2_168 (by decide +kernel) (by decide) rfl (by omega) rfl rfl rfl rfl rfl ?_
      refine p_run (pc' := 64) [.aload_n 0, .getfield 9, .iconst 2, .aload_n 2] mkX2_plain (by decide +kernel) rfl rfl ?_
      refine p_callVv (cahead_ok w (k := k - 1) _ (obB pp47 hb4) _) kvX2_162 (by decide +kernel) (obB pp47 hb4).1 (obB pp47 hb4).2.1 (by omega) rfl rfl rfl rfl rfl ?_
      rw [upN (by omega), upN (by omega), hR.2.1 _ hb4 0 (by omega), hR.2.1 _ hb4 2 (by omega)]
      refine p_callVw (tput_ok w (k := k - 1) 2 (by omega) _ _) kvX2_168 (by decide +kernel) (by decide) rfl (by omega) rfl rfl rfl rfl rfl ?_
      generalize e1 : up (up (up h 6 0 _) 6 1 _) 6 2 _ = h1
      have hF1 : Fw h h1 := by rw [← e1]; exact (Fw.u6.tr Fw.u6).tr Fw.u6
      have hR1 := hR.fw pp47 hF1 hn10
      refine p_run (pc' := 77) [.aload_n 0, .getfield 9, .iconst 3, .aload_n 0, .aload_n 1] mkX2_plain (by decide +kernel) rfl rfl ?_
      refine p_getI (by decide +kernel) fo2_76 (obD pp47 hd).1 (obD pp47 hd).2.1 ((obD pp47 hd).2.2 _) ?_
      refine Wp.eqS (st' := [.int (nI (brF N d)), .ref 47, .int (Int32.ofInt 3), .ref 1]) (by rw [hR1.2.2.1 d hdn 3 (by omega)]; exact congrArg (fun x => [Value.int x, .ref 47, .int (Int32.ofInt 3), .ref 1]) eb) ?_
      refine p_callVv (clitIn47 w (k := k - 1) (by omega) (brF N d) N h1 hI hR1) kvX2_172 (by decide +kernel) (by decide) rfl (by omega) rfl rfl rfl rfl rfl ?_
      refine p_callVw (tput_ok w (k := k - 1) 3 (by omega) _ _) kvX2_168 (by decide +kernel) (by decide) rfl (by omega) rfl rfl rfl rfl rfl ?_
      generalize e2 : up h1 6 3 _ = h2
      have hF2 : Fw h h2 := by rw [← e2]; exact hF1.tr Fw.u6
      have hR2 := hR.fw pp47 hF2 hn10
      refine p_run (pc' := 95) [.aload_n 0, .getfield 9, .aload_n 0, .getfield 29, .iconst 0] mkX2_plain (by decide +kernel) rfl rfl ?_
      refine p_iald (0) (by decide +kernel) rfl rfl (by simp only [oI]) (by omega) ?_
      rw [hR2.2.2.2 0 (by omega), hl]
      have efc : evF N t (h2 6) = evF N t (fc4 (dK N d 1) (bK N (brF N d) 1) (ahF N (brF N d)) (nI (cntF (litB N (brF N d)) (nd N)))) := by
        refine evF_congr hX (fun i hi => ?_)
        have hi4 : i < 4 := Nat.lt_of_lt_of_le hi (nmF_le _)
        rw [← e2, ← e1]
        match i, hi4 with
        | 0, _ => rfl
        | 1, _ => rfl
        | 2, _ => rfl
        | 3, _ => rfl
      refine p_callVi (gives_ok w (k := k - 1) (by omega) t ht N h2 (hT.fw hF2) (law_in hl) hX) (fun _ _ q => q.1) kvX2_175 (by decide +kernel) (by decide) rfl (by omega) rfl rfl rfl rfl rfl (fun h' hq => ?_)
      obtain ⟨-, hG⟩ := hq
      rw [efc]
      refine p_callSv (held_ok w (k := k - 1) (by omega) _ _) ksX2_165 (by decide +kernel) (by omega) rfl rfl rfl rfl rfl ?_
      refine p_iret rfl rfl (by decide +kernel) ?_
      exact ⟨by unfold plF; rw [hl], hF2.tr (Fw.g7 hG)⟩
    · exact absurd cq1 (NONE_ne ht)
set_option maxRecDepth 20000 in
set_option maxHeartbeats 4000000 in
theorem cdigs47 (w : Wt) {k : Nat} (hk : 4 ≤ k) (d : Nat) (N : Vc) (h : Mm) (hI : Iv N) (hR : PR 47 h N) (hdn : d < nd N) (hT : TR h N) : Ok w k MX2_digs [.ref 47, .int (nI d)] h (Rf (dgF N d) h) := by
  show Wp w k MX2_digs _ 0 [some (.ref 47), some (.int (nI d)), none, none] [] h
  have hn10 := hI.nd.2
  have hk0 := (hI.2.2.2.2.2.1 d (by omega)).1
  have hk5 := hk0.2
  refine p_run (pc' := 5) [.aload_n 0, .getfield 24, .iload_n 1] mkX2_digs (by decide +kernel) rfl rfl ?_
  refine p_aald (d) (by decide +kernel) (by decide) rfl (by decide) rfl (by omega) (rfD47 d (by omega)) ?_
  refine p_run (pc' := 8) [.astore_n 2, .aload_n 2] mkX2_digs (by decide +kernel) rfl rfl ?_
  refine p_getI (by decide +kernel) fo2_67 (obD pp47 (by omega)).1 (obD pp47 (by omega)).2.1 ((obD pp47 (by omega)).2.2 _) ?_
  rw [hR.2.2.1 d hdn 0 (by omega)]
  refine p_run (pc' := 12) [.iconst 5] mkX2_digs (by decide +kernel) rfl rfl ?_
  refine p_icmp_ne (off := 5) 17 (by decide +kernel) (by decide) (fun cq1 => ?_) (fun cq1 => ?_)
  · have h5 : ¬ nN (dK N d 0) = 5 := fun q => cq1 (by rw [hk0.1, q]; rfl)
    refine p_run (pc' := 19) [.aload_n 0, .aload_n 2] mkX2_digs (by decide +kernel) rfl rfl ?_
    refine p_callVi (cplain47 w (k := k - 1) (by omega) d (by omega) N h hI hR hdn hT) (fun _ _ q => q.1) kvX2_151 (by decide +kernel) (by decide) rfl (by omega) rfl rfl rfl rfl rfl (fun h' hq => ?_)
    obtain ⟨-, hF1⟩ := hq
    rename Mm => h1
    have hR1 := hR.fw pp47 hF1 hn10
    refine p_run (pc' := 24) [.istore_n 3, .aload_n 2] mkX2_digs (by decide +kernel) rfl rfl ?_
    refine p_getI (by decide +kernel) fo2_67 (obD pp47 (by omega)).1 (obD pp47 (by omega)).2.1 ((obD pp47 (by omega)).2.2 _) ?_
    rw [hR1.2.2.1 d hdn 0 (by omega)]
    refine p_table (dflt := 69) (lo := 1) (hi := 4) (offs := #[29, 53, 33, 57]) (len := 29) (by decide +kernel) (by decide) (fun j hj hx => ?_) (fun hx => ?_)
    · match j, hj, hx with
      | 0, _, hx =>
        have hx : dK N d 0 = Int32.ofInt (1) := hx
        refine ⟨29, 56, rfl, rfl, ?_⟩
        have hv : nN (dK N d 0) = 1 := kd_case (by omega) hx
        refine p_run (pc' := 59) [.iload_n 3, .iconst 1, .iadd] mkX2_digs (by decide +kernel) rfl rfl ?_
        refine p_iret rfl rfl (by decide +kernel) ?_
        exact ⟨by unfold dgF; rw [hv]; rfl, hF1⟩
      | 1, _, hx =>
        have hx : dK N d 0 = Int32.ofInt (2) := hx
        refine ⟨53, 80, rfl, rfl, ?_⟩
        have hv : nN (dK N d 0) = 2 := kd_case (by omega) hx
        refine p_run (pc' := 82) [.iload_n 3, .iconst 2] mkX2_digs (by decide +kernel) rfl rfl ?_
        refine p_idiv (by decide +kernel) (by decide) ?_
        refine p_iret rfl rfl (by decide +kernel) ?_
        exact ⟨by unfold dgF; rw [hv]; rfl, hF1⟩
      | 2, _, hx =>
        have hx : dK N d 0 = Int32.ofInt (3) := hx
        refine ⟨33, 60, rfl, rfl, ?_⟩
        have hv : nN (dK N d 0) = 3 := kd_case (by omega) hx
        refine p_run (pc' := 62) [.aload_n 0, .aload_n 2] mkX2_digs (by decide +kernel) rfl rfl ?_
        refine p_callVv (cisFar47 w (k := k - 1) (by omega) d (by omega) N h1 hI hR1 hdn) kvX2_155 (by decide +kernel) (by decide) rfl (by omega) rfl rfl rfl rfl rfl ?_
        refine p_if_eq (off := 11) 76 (by decide +kernel) (by decide) (fun cq65 => ?_) (fun cq65 => ?_)
        · have cq65 := bI0.mp cq65
          refine p_run (pc' := 79) [.iload_n 3, .iconst 1, .iadd] mkX2_digs (by decide +kernel) rfl rfl ?_
          refine p_iret rfl rfl (by decide +kernel) ?_
          exact ⟨by unfold dgF; rw [hv]; simp only [if_neg cq65]; rfl, hF1⟩
        · have cq65 := bI1.mp cq65
          refine p_run (pc' := 72) [.iload_n 3, .iconst 1, .iadd, .iconst 2] mkX2_digs (by decide +kernel) rfl rfl ?_
          refine p_idiv (by decide +kernel) (by decide) ?_
          refine p_run (pc' := 79) [.goto 6] mkX2_digs (by decide +kernel) rfl rfl ?_
          refine p_iret rfl rfl (by decide +kernel) ?_
          exact ⟨by unfold dgF; rw [hv]; simp only [if_pos cq65]; rfl, hF1⟩
      | 3, _, hx =>
        have hx : dK N d 0 = Int32.ofInt (4) := hx
        refine ⟨57, 84, rfl, rfl, ?_⟩
        have hv : nN (dK N d 0) = 4 := kd_case (by omega) hx
        refine p_run (pc' := 86) [.iload_n 3, .iconst 2] mkX2_digs (by decide +kernel) rfl rfl ?_
        refine p_idiv (by decide +kernel) (by decide) ?_
        refine p_run (pc' := 90) [.iconst 2, .aload_n 0, .iload_n 1] mkX2_digs (by decide +kernel) rfl rfl ?_
        refine p_callVv (cmatesOf47 w (k := k - 1) (by omega) d N h1 hI hR1 hdn) kvX2_159 (by decide +kernel) (by decide) rfl (by omega) rfl rfl rfl rfl rfl ?_
        refine p_run (pc' := 95) [.imul, .iadd] mkX2_digs (by decide +kernel) rfl rfl ?_
        refine p_iret rfl rfl (by decide +kernel) ?_
        exact ⟨by unfold dgF; rw [hv]; rfl, hF1⟩
      | j + 4, hj, _ => exact absurd hj (by simp)
    · refine ⟨96, rfl, ?_⟩
      have hv : nN (dK N d 0) = 0 := kd_dflt4 hk0 h5 hx
      refine p_run (pc' := 97) [.iload_n 3] mkX2_digs (by decide +kernel) rfl rfl ?_
      refine p_iret rfl rfl (by decide +kernel) ?_
      exact ⟨by unfold dgF; rw [hv]; rfl, hF1⟩
  · have hv : nN (dK N d 0) = 5 := kd_case (by omega) cq1
    refine p_run (pc' := 16) [.iconst 1] mkX2_digs (by decide +kernel) rfl rfl ?_
    refine p_iret rfl rfl (by decide +kernel) ?_
    exact ⟨by unfold dgF; rw [hv]; rfl, Fw.rf⟩
set_option maxRecDepth 20000 in
set_option maxHeartbeats 4000000 in
theorem cdigIn (w : Wt) {k : Nat} (hk : 5 ≤ k) (b : Nat) (N : Vc) (h : Mm) (hI : Iv N) (hR : PR 11 h N) (hT : TR h N) : Ok w k MX2_digIn [.ref 11, .int (nI b)] h (Rf (sumF (fun i => if litB N b i = true then dgF N i else nI 0) (nd N)) h) := by
  show Wp w k MX2_digIn _ 0 [some (.ref 11), some (.int (nI b)), none, none] [] h
  obtain ⟨en, hn10⟩ := hI.nd
  refine p_run (pc' := 4) [.iconst 0, .istore_n 2, .iconst 0, .istore_n 3] mkX2_digIn (by decide +kernel) rfl rfl ?_
  refine Wp.for (nd N) (fun i L hh => L = [some (.ref 11), some (.int (nI b)), some (.int (sumF (fun i => if litB N b i = true then dgF N i else nI 0) i)), some (.int (nI i))] ∧ Fw h hh) ?_ ?_ (0) (by omega) _ _ ?_
  · rintro i L hh hi ⟨rfl, hJ⟩ ih
    have hF := hJ
    have hR1 := hR.fw pp11 hF hn10
    refine p_run (pc' := 9) [.iload_n 3, .aload_n 0, .getfield 45] mkX2_digIn (by decide +kernel) rfl rfl ?_
    rw [hR1.1.1, en]
    refine p_icmp_ge (off := 42) 51 (by decide +kernel) (by decide) (fun cqh => ?_) (fun cqh => ?_)
    · exact absurd cqh (nI_ge (by omega) (by omega))
    · refine p_run (pc' := 17) [.aload_n 0, .getfield 24, .iload_n 3] mkX2_digIn (by decide +kernel) rfl rfl ?_
      refine p_aald (i) (by decide +kernel) (by decide) rfl (by decide) rfl (by omega) (rfD11 i (by omega)) ?_
      refine p_getI (by decide +kernel) fo2_76 (obD pp11 (by omega)).1 (obD pp11 (by omega)).2.1 ((obD pp11 (by omega)).2.2 _) ?_
      rw [hR1.2.2.1 i (by omega) 3 (by omega)]
      refine p_run (pc' := 22) [.iload_n 1] mkX2_digIn (by decide +kernel) rfl rfl ?_
      refine p_icmp_ne (off := 23) 45 (by decide +kernel) (by decide) (fun cq1 => ?_) (fun cq1 => ?_)
      · refine p_run (pc' := 4) [.iinc 3 1, .goto (-44)] mkX2_digIn (by decide +kernel) rfl rfl ?_
        exact ih _ _ ⟨by rw [show nI i + Int32.ofInt 1 = nI (i + 1) by simp only [oI, nI_add], sumF, if_neg (fun q => cq1 (litB_iff.mp q).1), add0], hF⟩
      · refine p_run (pc' := 30) [.aload_n 0, .getfield 24, .iload_n 3] mkX2_digIn (by decide +kernel) rfl rfl ?_
        refine p_aald (i) (by decide +kernel) (by decide) rfl (by decide) rfl (by omega) (rfD11 i (by omega)) ?_
        refine p_callVv (isLit_ok w (k := k - 1) _ (obD pp11 (by omega)) _) kvX2_116 (by decide +kernel) (obD pp11 (by omega)).1 (obD pp11 (by omega)).2.1 (by omega) rfl rfl rfl rfl rfl ?_
        rw [hR1.2.2.1 i (by omega) 2 (by omega)]
        refine p_if_eq (off := 11) 45 (by decide +kernel) (by decide) (fun cq2 => ?_) (fun cq2 => ?_)
        · refine p_run (pc' := 4) [.iinc 3 1, .goto (-44)] mkX2_digIn (by decide +kernel) rfl rfl ?_
          exact ih _ _ ⟨by rw [show nI i + Int32.ofInt 1 = nI (i + 1) by simp only [oI, nI_add], sumF, if_neg (fun q => bI0.mp cq2 (litB_iff.mp q).2), add0], hF⟩
        · refine p_run (pc' := 40) [.iload_n 2, .aload_n 0, .iload_n 3] mkX2_digIn (by decide +kernel) rfl rfl ?_
          refine p_callVi (cdigs11 w (k := k - 1) (by omega) i N hh hI hR1 (by omega) (hT.fw hF)) (fun _ _ q => q.1) kvX2_120 (by decide +kernel) (by decide) rfl (by omega) rfl rfl rfl rfl rfl (fun h' hq => ?_)
          obtain ⟨-, hF2⟩ := hq
          refine p_run (pc' := 4) [.iadd, .istore_n 2, .iinc 3 1, .goto (-44)] mkX2_digIn (by decide +kernel) rfl rfl ?_
          exact ih _ _ ⟨by rw [show nI i + Int32.ofInt 1 = nI (i + 1) by simp only [oI, nI_add], sumF, if_pos (litB_iff.mpr ⟨cq1, bI1.mp cq2⟩)], hF.tr hF2⟩
  · rintro L hh ⟨rfl, hJ⟩
    have hF := hJ
    have hR1 := hR.fw pp11 hF hn10
    refine p_run (pc' := 9) [.iload_n 3, .aload_n 0, .getfield 45] mkX2_digIn (by decide +kernel) rfl rfl ?_
    rw [hR1.1.1, en]
    refine p_icmp_ge (off := 42) 51 (by decide +kernel) (by decide) (fun cqh => ?_) (fun cqh => ?_)
    · refine p_run (pc' := 52) [.iload_n 2] mkX2_digIn (by decide +kernel) rfl rfl ?_
      refine p_iret rfl rfl (by decide +kernel) ?_
      exact ⟨rfl, hF⟩
    · exact absurd (nI_le (Nat.le_refl _) (by omega)) cqh
  · exact ⟨rfl, Fw.rf⟩
