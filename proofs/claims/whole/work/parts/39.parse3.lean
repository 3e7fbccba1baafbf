/-! the reference: takesPart, takesKey -/
theorem tk1 {l : Lx} (h : tkF l = 1) : l.k = 1 := by
  unfold tkF at h
  by_cases h0 : l.k = 0
  · rw [if_pos h0] at h; omega
  · rw [if_neg h0] at h
    by_cases h1 : l.k = 1
    · exact h1
    · rw [if_neg h1] at h
      split at h
      · split at h <;> omega
      · omega
theorem tk2 {l : Lx} (h : tkF l = 2) : l.k = 2 := by
  unfold tkF at h
  by_cases h0 : l.k = 0
  · rw [if_pos h0] at h; omega
  · rw [if_neg h0] at h
    by_cases h1 : l.k = 1
    · rw [if_pos h1] at h
      split at h <;> omega
    · rw [if_neg h1] at h
      by_cases h2 : l.k = 2
      · exact h2
      · rw [if_neg h2] at h; omega
theorem Gs.of {n : Nat} {T R R' : Vc} {l : Lx} (h : Gs n T R l) (e : ∀ j, 6 ≤ j → j ≤ 11 → R' j = R j) : Gs n T R' l := by
  obtain ⟨a, b, c, d, f⟩ := h
  exact ⟨by rw [e 6 (by decide) (by decide), a], by rw [e 7 (by decide) (by decide), b], by rw [e 8 (by decide) (by decide), c], by rw [e 9 (by decide) (by decide), d], fun q => by rw [e 10 (by decide) (by decide), e 11 (by decide) (by decide)]; exact f q⟩
theorem lf2 {T : Vc} {key : Nat} {l : Lx} (h : tkF l = 2) : lfF T key l = some (vaF T l) := by unfold lfF; rw [if_pos h]
theorem lf1 {T : Vc} {key : Nat} {l : Lx} (h : tkF l = 1) (h1 : l.e - l.s = 1) (h2 : nI 0 ≤ nmI key (T l.s)) : lfF T key l = some (nI 10000 + nmI key (T l.s)) := by unfold lfF; rw [if_neg (by omega), if_pos ⟨h, h1, h2⟩]
theorem lf0 {T : Vc} {key : Nat} {l : Lx} (h : ¬ tkF l = 2) (h1 : ¬ (tkF l = 1 ∧ l.e - l.s = 1 ∧ nI 0 ≤ nmI key (T l.s))) : lfF T key l = none := by unfold lfF; rw [if_neg h, if_neg h1]
set_option maxRecDepth 20000 in
set_option maxHeartbeats 4000000 in
theorem part_b (w : Wt) {k : Nat} (hk : 2 ≤ k) (n key : Nat) (hn : n ≤ 96) (hkey : key ≤ 2) (l : Lx) (hl : Lg n l) (W C : List Int32) (h : Mm) (hg : Gs n (h 101) (h 96) l) (ek : h 96 12 = nI key) (hS : SS h W C) (hlen : W.length + C.length < 96) (x1 : Option Value) (x : Int32) (hx : lfF (h 101) key l = some x) : Wp w k MX8_takesPart (fun r h' => match lfF (h 101) key l with
    | none => r = some (.int (nI 0)) ∧ h' = h
    | some x => r = some (.int (nI 1)) ∧ Gs n (h 101) (h' 96) (lxN n (h 101) l) ∧ SS h' (stF 6 W (x :: C)).1 (stF 6 W (x :: C)).2 ∧ h' 96 17 = h 96 17 + nI 1 ∧ Fa [96, 104] [7, 8, 9, 10, 11, 16, 17, 19] h h') 52 [some (.ref 96), x1] [] h := by
  obtain ⟨e6, e7, e8, e9, e10⟩ := hg
  rw [hx]
  have hk0 : l.k ≠ 0 := by
    intro q
    have : tkF l = 0 := (tk0 hl).mpr q
    rw [lf0 (by omega) (fun z => by omega)] at hx
    cases hx
  obtain ⟨e10, eE⟩ := e10 hk0
  obtain ⟨s1, s2, s3, s4⟩ := hS
  refine p_run (pc' := 65) [.aload_n 0, .getfield 32, .aload_n 0, .getfield 250, .aload_n 0, .getfield 226, .iconst 2] mkX8_takesPart (by decide +kernel) rfl rfl ?_
  rw [e9]
  refine p_icmp_ne (off := 10) 75 (by decide +kernel) (by decide) (fun cq1 => ?_) (fun cq1 => ?_)
  · have hn2 : ¬ tkF l = 2 := fun q => cq1 (by rw [q]; rfl)
    have hnm : tkF l = 1 ∧ l.e - l.s = 1 ∧ nI 0 ≤ nmI key (h 101 l.s) := Classical.byContradiction (fun q => by rw [lf0 hn2 q] at hx; cases hx)
    have hva : vaF (h 101) l = h 101 l.s := by unfold vaF; rw [if_neg (by have := tk1 hnm.1; omega)]
    refine p_run (pc' := 83) [.sipush 10000, .aload_n 0, .aload_n 0, .getfield 232] mkX8_takesPart (by decide +kernel) rfl rfl ?_
    refine p_callVv (nameOf_ok w (k := k - 1) key hkey _ h ek) kvX8_253 (by decide +kernel) (by decide) rfl (by omega) rfl rfl rfl rfl rfl ?_
    refine p_run (pc' := 87) [.iadd] mkX8_takesPart (by decide +kernel) rfl rfl ?_
    rw [lf1 hnm.1 hnm.2.1 hnm.2.2] at hx
    have hx : nI 10000 + nmI key (h 101 l.s) = x := Option.some.inj hx
    rw [e10, hva, oI, hx]
    refine p_iast (C.length) (by decide +kernel) rfl rfl (by rw [s2]) (by omega)  ?_
    refine p_run (pc' := 111) [.aload_n 0, .dup, .getfield 250, .iconst 1, .iadd, .putfield 250, .aload_n 0, .dup, .getfield 256, .iconst 1, .iadd, .putfield 256, .aload_n 0, .bipush 6] mkX8_takesPart (by decide +kernel) rfl rfl ?_
    refine Wp.eqH (h' := up (up (up h 104 C.length x) 96 16 (nI (C.length + 1))) 96 17 (h 96 17 + nI 1)) (by rw [upN (show 96 ≠ 104 by decide), s2, uN (show 17 ≠ 16 by decide), upN (show 96 ≠ 104 by decide), oI, nI_add]) ?_
    generalize eh : up (up (up h 104 C.length x) 96 16 (nI (C.length + 1))) 96 17 (h 96 17 + nI 1) = h1
    have hF1 : Fa [96, 104] [7, 8, 9, 10, 11, 16, 17, 19] h h1 := by rw [← eh]; exact (Fa.tr (Fa.tr (Fa.ar (by decide) (by decide)) (Fa.u1 (by decide) (by decide))) (Fa.u1 (by decide) (by decide)))
    have hS1 : SS h1 W (x :: C) := by
      rw [← eh]
      exact ⟨by rw [uN (by decide), uN (by decide), upN (by decide)]; exact s1, by rw [uN (by decide), uF]; rfl, by rw [upN (by decide), upN (by decide), upN (by decide)]; exact s3, by rw [upN (by decide), upN (by decide), upS]; exact ⟨upd_s, stk_upd (Nat.le_refl _) s4⟩⟩
    have f6 : h1 96 6 = nI n := by rw [← eh, uN (by decide), uN (by decide), upN (by decide)]; exact e6
    have f7 : h1 96 7 = nI l.e := by rw [← eh, uN (by decide), uN (by decide), upN (by decide)]; exact e7
    have f11 : h1 96 11 = h 96 11 := by rw [← eh, uN (by decide), uN (by decide), upN (by decide)]
    have f17 : h1 96 17 = h 96 17 + nI 1 := by rw [← eh, uF]
    refine p_callVo (settle_ok w (k := k - 1) (by omega) 6 (by omega) W (x :: C) h1 (by simp only [List.length_cons]; omega) hS1) (fun _ _ q => q.1) kvX8_259 (by decide +kernel) (by decide) rfl (by omega) rfl rfl rfl rfl rfl (fun h' hq => ?_)
    obtain ⟨-, hS2, hF2⟩ := hq
    refine p_run (pc' := 115) [.aload_n 0] mkX8_takesPart (by decide +kernel) rfl rfl ?_
    have t101 : h' 101 = h 101 := by rw [hF2.1 101 (by decide), hF1.1 101 (by decide)]
    refine p_callVo (go_ok w (k := k - 1) (by omega) n hn l hl.2.2.1 h' (by rw [hF2.2 6 (by decide), f6]) (by rw [hF2.2 7 (by decide), f7]) (by rw [hF2.2 11 (by decide), f11]; exact eE)) (fun _ _ q => q.1) kvX8_241 (by decide +kernel) (by decide) rfl (by omega) rfl rfl rfl rfl rfl (fun h' hq => ?_)
    obtain ⟨-, hg3, hF3⟩ := hq
    refine p_run (pc' := 119) [.iconst 1] mkX8_takesPart (by decide +kernel) rfl rfl ?_
    refine p_iret rfl rfl (by decide +kernel) ?_
    refine ⟨rfl, ?_, ⟨?_, ?_, ?_, ?_⟩, ?_, ?_⟩
    · rw [t101] at hg3; exact hg3
    · rw [hF3.2 19 (by decide)]; exact hS2.1
    · rw [hF3.2 16 (by decide)]; exact hS2.2.1
    · rw [hF3.1 105 (by decide)]; exact hS2.2.2.1
    · rw [hF3.1 104 (by decide)]; exact hS2.2.2.2
    · rw [hF3.2 17 (by decide), hF2.2 17 (by decide), f17]
    · exact (hF1.tr (hF2.mono (by decide) (by decide))).tr ((Fr.fa (A := [96, 104]) (by decide) hF3).mono (by decide) (by decide))
  · have hn2 : tkF l = 2 := (nI_eq (by have := tk4 l; omega) (by omega)).mp cq1
    refine p_run (pc' := 87) [.aload_n 0, .getfield 232, .goto 15] mkX8_takesPart (by decide +kernel) rfl rfl ?_
    rw [lf2 hn2] at hx
    have hx : vaF (h 101) l = x := Option.some.inj hx
    rw [e10, hx]
    refine p_iast (C.length) (by decide +kernel) rfl rfl (by rw [s2]) (by omega)  ?_
    refine p_run (pc' := 111) [.aload_n 0, .dup, .getfield 250, .iconst 1, .iadd, .putfield 250, .aload_n 0, .dup, .getfield 256, .iconst 1, .iadd, .putfield 256, .aload_n 0, .bipush 6] mkX8_takesPart (by decide +kernel) rfl rfl ?_
    refine Wp.eqH (h' := up (up (up h 104 C.length x) 96 16 (nI (C.length + 1))) 96 17 (h 96 17 + nI 1)) (by rw [upN (show 96 ≠ 104 by decide), s2, uN (show 17 ≠ 16 by decide), upN (show 96 ≠ 104 by decide), oI, nI_add]) ?_
    generalize eh : up (up (up h 104 C.length x) 96 16 (nI (C.length + 1))) 96 17 (h 96 17 + nI 1) = h1
    have hF1 : Fa [96, 104] [7, 8, 9, 10, 11, 16, 17, 19] h h1 := by rw [← eh]; exact (Fa.tr (Fa.tr (Fa.ar (by decide) (by decide)) (Fa.u1 (by decide) (by decide))) (Fa.u1 (by decide) (by decide)))
    have hS1 : SS h1 W (x :: C) := by
      rw [← eh]
      exact ⟨by rw [uN (by decide), uN (by decide), upN (by decide)]; exact s1, by rw [uN (by decide), uF]; rfl, by rw [upN (by decide), upN (by decide), upN (by decide)]; exact s3, by rw [upN (by decide), upN (by decide), upS]; exact ⟨upd_s, stk_upd (Nat.le_refl _) s4⟩⟩
    have f6 : h1 96 6 = nI n := by rw [← eh, uN (by decide), uN (by decide), upN (by decide)]; exact e6
    have f7 : h1 96 7 = nI l.e := by rw [← eh, uN (by decide), uN (by decide), upN (by decide)]; exact e7
    have f11 : h1 96 11 = h 96 11 := by rw [← eh, uN (by decide), uN (by decide), upN (by decide)]
    have f17 : h1 96 17 = h 96 17 + nI 1 := by rw [← eh, uF]
    refine p_callVo (settle_ok w (k := k - 1) (by omega) 6 (by omega) W (x :: C) h1 (by simp only [List.length_cons]; omega) hS1) (fun _ _ q => q.1) kvX8_259 (by decide +kernel) (by decide) rfl (by omega) rfl rfl rfl rfl rfl (fun h' hq => ?_)
    obtain ⟨-, hS2, hF2⟩ := hq
    refine p_run (pc' := 115) [.aload_n 0] mkX8_takesPart (by decide +kernel) rfl rfl ?_
    have t101 : h' 101 = h 101 := by rw [hF2.1 101 (by decide), hF1.1 101 (by decide)]
    refine p_callVo (go_ok w (k := k - 1) (by omega) n hn l hl.2.2.1 h' (by rw [hF2.2 6 (by decide), f6]) (by rw [hF2.2 7 (by decide), f7]) (by rw [hF2.2 11 (by decide), f11]; exact eE)) (fun _ _ q => q.1) kvX8_241 (by decide +kernel) (by decide) rfl (by omega) rfl rfl rfl rfl rfl (fun h' hq => ?_)
    obtain ⟨-, hg3, hF3⟩ := hq
    refine p_run (pc' := 119) [.iconst 1] mkX8_takesPart (by decide +kernel) rfl rfl ?_
    refine p_iret rfl rfl (by decide +kernel) ?_
    refine ⟨rfl, ?_, ⟨?_, ?_, ?_, ?_⟩, ?_, ?_⟩
    · rw [t101] at hg3; exact hg3
    · rw [hF3.2 19 (by decide)]; exact hS2.1
    · rw [hF3.2 16 (by decide)]; exact hS2.2.1
    · rw [hF3.1 105 (by decide)]; exact hS2.2.2.1
    · rw [hF3.1 104 (by decide)]; exact hS2.2.2.2
    · rw [hF3.2 17 (by decide), hF2.2 17 (by decide), f17]
    · exact (hF1.tr (hF2.mono (by decide) (by decide))).tr ((Fr.fa (A := [96, 104]) (by decide) hF3).mono (by decide) (by decide))
set_option maxRecDepth 20000 in
set_option maxHeartbeats 4000000 in
theorem part_t (w : Wt) {k : Nat} (hk : 2 ≤ k) (n key : Nat) (hn : n ≤ 96) (hkey : key ≤ 2) (l : Lx) (hl : Lg n l) (W C : List Int32) (h : Mm) (hg : Gs n (h 101) (h 96) l) (ek : h 96 12 = nI key) (hS : SS h W C) (hlen : W.length + C.length < 96) (hnm : (tkF l = 1 ∧ l.e - l.s = 1 ∧ nI 0 ≤ nmI key (h 101 l.s))) : Wp w k MX8_takesPart (fun r h' => match lfF (h 101) key l with
    | none => r = some (.int (nI 0)) ∧ h' = h
    | some x => r = some (.int (nI 1)) ∧ Gs n (h 101) (h' 96) (lxN n (h 101) l) ∧ SS h' (stF 6 W (x :: C)).1 (stF 6 W (x :: C)).2 ∧ h' 96 17 = h 96 17 + nI 1 ∧ Fa [96, 104] [7, 8, 9, 10, 11, 16, 17, 19] h h') 38 [some (.ref 96), some (.int (nI 1))] [] h := by
  obtain ⟨e6, e7, e8, e9, e10⟩ := hg
  have hg : Gs n (h 101) (h 96) l := ⟨e6, e7, e8, e9, e10⟩
  refine p_run (pc' := 43) [.aload_n 0, .getfield 226, .iconst 2] mkX8_takesPart (by decide +kernel) rfl rfl ?_
  rw [e9]
  refine p_icmp_eq (off := 9) 52 (by decide +kernel) (by decide) (fun cq1 => ?_) (fun cq1 => ?_)
  · exact part_b w hk n key hn hkey l hl W C h hg ek hS hlen _ _ (lf2 ((nI_eq (by have := tk4 l; omega) (by omega)).mp cq1))
  · refine p_run (pc' := 47) [.iload_n 1] mkX8_takesPart (by decide +kernel) rfl rfl ?_
    refine p_if_ne (off := 5) 52 (by decide +kernel) (by decide) (fun cq2 => ?_) (fun cq2 => ?_)
    · exact part_b w hk n key hn hkey l hl W C h hg ek hS hlen _ _ (lf1 hnm.1 hnm.2.1 hnm.2.2)
    · exact False.elim (by revert cq2; decide)
set_option maxRecDepth 20000 in
set_option maxHeartbeats 4000000 in
theorem part_f (w : Wt) {k : Nat} (hk : 2 ≤ k) (n key : Nat) (hn : n ≤ 96) (hkey : key ≤ 2) (l : Lx) (hl : Lg n l) (W C : List Int32) (h : Mm) (hg : Gs n (h 101) (h 96) l) (ek : h 96 12 = nI key) (hS : SS h W C) (hlen : W.length + C.length < 96) (hnm : ¬ (tkF l = 1 ∧ l.e - l.s = 1 ∧ nI 0 ≤ nmI key (h 101 l.s))) : Wp w k MX8_takesPart (fun r h' => match lfF (h 101) key l with
    | none => r = some (.int (nI 0)) ∧ h' = h
    | some x => r = some (.int (nI 1)) ∧ Gs n (h 101) (h' 96) (lxN n (h 101) l) ∧ SS h' (stF 6 W (x :: C)).1 (stF 6 W (x :: C)).2 ∧ h' 96 17 = h 96 17 + nI 1 ∧ Fa [96, 104] [7, 8, 9, 10, 11, 16, 17, 19] h h') 38 [some (.ref 96), some (.int (nI 0))] [] h := by
  obtain ⟨e6, e7, e8, e9, e10⟩ := hg
  have hg : Gs n (h 101) (h 96) l := ⟨e6, e7, e8, e9, e10⟩
  refine p_run (pc' := 43) [.aload_n 0, .getfield 226, .iconst 2] mkX8_takesPart (by decide +kernel) rfl rfl ?_
  rw [e9]
  refine p_icmp_eq (off := 9) 52 (by decide +kernel) (by decide) (fun cq1 => ?_) (fun cq1 => ?_)
  · exact part_b w hk n key hn hkey l hl W C h hg ek hS hlen _ _ (lf2 ((nI_eq (by have := tk4 l; omega) (by omega)).mp cq1))
  · refine p_run (pc' := 47) [.iload_n 1] mkX8_takesPart (by decide +kernel) rfl rfl ?_
    refine p_if_ne (off := 5) 52 (by decide +kernel) (by decide) (fun cq2 => ?_) (fun cq2 => ?_)
    · exact absurd rfl cq2
    · refine p_run (pc' := 51) [.iconst 0] mkX8_takesPart (by decide +kernel) rfl rfl ?_
      refine p_iret rfl rfl (by decide +kernel) ?_
      rw [lf0 (fun q => cq1 (by rw [q]; rfl)) hnm]; exact ⟨rfl, rfl⟩
set_option maxRecDepth 20000 in
set_option maxHeartbeats 4000000 in
theorem takesPart_ok (w : Wt) {k : Nat} (hk : 2 ≤ k) (n key : Nat) (hn : n ≤ 96) (hkey : key ≤ 2) (l : Lx) (hl : Lg n l) (W C : List Int32) (h : Mm) (hg : Gs n (h 101) (h 96) l) (ek : h 96 12 = nI key) (hS : SS h W C) (hlen : W.length + C.length < 96) : Ok w k MX8_takesPart [.ref 96] h ((fun r h' => match lfF (h 101) key l with
    | none => r = some (.int (nI 0)) ∧ h' = h
    | some x => r = some (.int (nI 1)) ∧ Gs n (h 101) (h' 96) (lxN n (h 101) l) ∧ SS h' (stF 6 W (x :: C)).1 (stF 6 W (x :: C)).2 ∧ h' 96 17 = h 96 17 + nI 1 ∧ Fa [96, 104] [7, 8, 9, 10, 11, 16, 17, 19] h h')) := by
  show Wp w k MX8_takesPart _ 0 [some (.ref 96), none] [] h
  obtain ⟨e6, e7, e8, e9, e10⟩ := hg
  have hg : Gs n (h 101) (h 96) l := ⟨e6, e7, e8, e9, e10⟩
  have hle := hl.2.1
  have hln := hl.2.2.1
  refine p_run (pc' := 5) [.aload_n 0, .getfield 226, .iconst 1] mkX8_takesPart (by decide +kernel) rfl rfl ?_
  rw [e9]
  refine p_icmp_ne (off := 31) 36 (by decide +kernel) (by decide) (fun cq1 => ?_) (fun cq1 => ?_)
  · refine p_run (pc' := 38) [.iconst 0, .istore_n 1] mkX8_takesPart (by decide +kernel) rfl rfl ?_
    exact part_f w hk n key hn hkey l hl W C h hg ek hS hlen (fun q => cq1 (by rw [q.1]; rfl))
  · have h1 : tkF l = 1 := (nI_eq (by have := tk4 l; omega) (by omega)).mp cq1
    have hk1 := tk1 h1
    have hva : vaF (h 101) l = h 101 l.s := by unfold vaF; rw [if_neg (by omega)]
    refine p_run (pc' := 18) [.aload_n 0, .getfield 217, .aload_n 0, .getfield 220, .isub, .iconst 1] mkX8_takesPart (by decide +kernel) rfl rfl ?_
    rw [e7, e8, nIs (by omega), oI]
    refine p_icmp_ne (off := 18) 36 (by decide +kernel) (by decide) (fun cq2 => ?_) (fun cq2 => ?_)
    · refine p_run (pc' := 38) [.iconst 0, .istore_n 1] mkX8_takesPart (by decide +kernel) rfl rfl ?_
      exact part_f w hk n key hn hkey l hl W C h hg ek hS hlen (fun q => cq2 (by rw [q.2.1]))
    · have h2 : l.e - l.s = 1 := (nI_eq (by omega) (by omega)).mp cq2
      refine p_run (pc' := 26) [.aload_n 0, .aload_n 0, .getfield 232] mkX8_takesPart (by decide +kernel) rfl rfl ?_
      rw [(e10 (by omega)).1, hva]
      refine p_callVv (nameOf_ok w (k := k - 1) key hkey _ h ek) kvX8_253 (by decide +kernel) (by decide) rfl (by omega) rfl rfl rfl rfl rfl ?_
      refine p_if_lt (off := 7) 36 (by decide +kernel) (by decide) (fun cq3 => ?_) (fun cq3 => ?_)
      · refine p_run (pc' := 38) [.iconst 0, .istore_n 1] mkX8_takesPart (by decide +kernel) rfl rfl ?_
        exact part_f w hk n key hn hkey l hl W C h hg ek hS hlen (fun q => absurd q.2.2 (Int32.not_le.mpr cq3))
      · refine p_run (pc' := 38) [.iconst 1, .goto 4, .istore_n 1] mkX8_takesPart (by decide +kernel) rfl rfl ?_
        exact part_t w hk n key hn hkey l hl W C h hg ek hS hlen ⟨h1, h2, Int32.not_lt.mp cq3⟩
set_option maxRecDepth 20000 in
set_option maxHeartbeats 4000000 in
theorem key_0 (w : Wt) {k : Nat} (l : Lx) (Q : Option Value → Mm → Prop) (h : Mm) (hK : KR h) (hs : l.s ≤ l.e) (he : l.e ≤ 96) (e7 : h 96 7 = nI l.e) (e8 : h 96 8 = nI l.s) (hno : ¬ kmP (h 101) l 0 → ∀ x2 x3 x4, Wp w k MX8_takesKey Q 12 [some (.ref 96), some (.int (nI 1)), x2, x3, x4] [] h) (hyes : kmP (h 101) l 0 → ∀ x2 x3 x4, Wp w k MX8_takesKey Q 110 [some (.ref 96), some (.int (nI 0)), x2, x3, x4] [] h) (x2 x3 x4 : Option Value) : Wp w k MX8_takesKey Q 12 [some (.ref 96), some (.int (nI 0)), x2, x3, x4] [] h := by
  obtain ⟨hC, k0, k1, k2, k3⟩ := hK
  refine p_run (pc' := 14) [.iload_n 1, .iconst 3] mkX8_takesKey (by decide +kernel) rfl rfl ?_
  refine p_icmp_ge (off := 113) 127 (by decide +kernel) (by decide) (fun cq1 => ?_) (fun cq1 => ?_)
  · exact False.elim (by revert cq1; decide)
  · refine p_run (pc' := 24) [.aload_n 0, .getfield 29, .iload_n 1, .iconst 1, .iadd] mkX8_takesKey (by decide +kernel) rfl rfl ?_
    refine p_iald (1) (by decide +kernel) rfl rfl rfl (by decide) ?_
    refine p_run (pc' := 30) [.aload_n 0, .getfield 29, .iload_n 1] mkX8_takesKey (by decide +kernel) rfl rfl ?_
    refine p_iald (0) (by decide +kernel) rfl rfl rfl (by decide) ?_
    rw [k1, k0]
    refine p_run (pc' := 43) [.isub, .istore_n 2, .iload_n 2, .aload_n 0, .getfield 217, .aload_n 0, .getfield 220, .isub] mkX8_takesKey (by decide +kernel) rfl rfl ?_
    rw [e7, e8, show nI 3 - nI 0 = nI 3 from rfl, nIs (by omega)]
    refine p_icmp_ne (off := 7) 50 (by decide +kernel) (by decide) (fun cq2 => ?_) (fun cq2 => ?_)
    · rw [nI_eq (by omega) (by omega)] at cq2
      refine p_run (pc' := 58) [.iconst 0, .istore_n 3, .iconst 0, .istore 4, .iload 4, .iload_n 2] mkX8_takesKey (by decide +kernel) rfl rfl ?_
      refine p_icmp_ge (off := 48) 106 (by decide +kernel) (by decide) (fun cq3 => ?_) (fun cq3 => ?_)
      · exact False.elim (by revert cq3; decide)
      · refine p_run (pc' := 62) [.iload_n 3] mkX8_takesKey (by decide +kernel) rfl rfl ?_
        refine p_if_eq (off := 44) 106 (by decide +kernel) (by decide) (fun cq4 => ?_) (fun cq4 => ?_)
        · refine p_run (pc' := 107) [.iload_n 3] mkX8_takesKey (by decide +kernel) rfl rfl ?_
          refine p_if_eq (off := 14) 121 (by decide +kernel) (by decide) (fun cq5 => ?_) (fun cq5 => ?_)
          · refine p_run (pc' := 12) [.iinc 1 1, .goto (-112)] mkX8_takesKey (by decide +kernel) rfl rfl ?_
            exact hno (fun q => cq2 (by have := q.1; unfold kln at this; simp at this; omega)) _ _ _
          · exact absurd rfl cq5
        · exact absurd rfl cq4
    · rw [nI_eq (by omega) (by omega)] at cq2
      refine p_run (pc' := 55) [.iconst 1, .goto 4, .istore_n 3, .iconst 0, .istore 4] mkX8_takesKey (by decide +kernel) rfl rfl ?_
      refine p_run (pc' := 58) [.iload 4, .iload_n 2] mkX8_takesKey (by decide +kernel) rfl rfl ?_
      refine p_icmp_ge (off := 48) 106 (by decide +kernel) (by decide) (fun cqi0 => ?_) (fun cqi0 => ?_)
      · exact False.elim (by revert cqi0; decide)
      · refine p_run (pc' := 62) [.iload_n 3] mkX8_takesKey (by decide +kernel) rfl rfl ?_
        refine p_if_eq (off := 44) 106 (by decide +kernel) (by decide) (fun cqs0 => ?_) (fun cqs0 => ?_)
        · exact False.elim (by revert cqs0; decide)
        · refine p_run (pc' := 76) [.aload_n 0, .getfield 22, .aload_n 0, .getfield 220, .iload 4, .iadd] mkX8_takesKey (by decide +kernel) rfl rfl ?_
          refine p_iald (l.s + 0) (by decide +kernel) rfl rfl (by rw [e8, ← nI_add]; rfl) (by omega) ?_
          refine p_run (pc' := 86) [.aload_n 0, .getfield 25, .aload_n 0, .getfield 29, .iload_n 1] mkX8_takesKey (by decide +kernel) rfl rfl ?_
          refine p_iald (0) (by decide +kernel) rfl rfl rfl (by decide) ?_
          rw [k0]
          refine p_run (pc' := 90) [.iload 4, .iadd] mkX8_takesKey (by decide +kernel) rfl rfl ?_
          refine p_cald 0 (by decide +kernel) rfl rfl rfl (by decide) ?_
          rw [hC 0 (by decide)]
          refine p_icmp_ne (off := 7) 98 (by decide +kernel) (by decide) (fun cqe0 => ?_) (fun cqe0 => ?_)
          · refine p_run (pc' := 58) [.iconst 0, .istore_n 3, .iinc 4 1, .goto (-48), .iload 4, .iload_n 2] mkX8_takesKey (by decide +kernel) rfl rfl ?_
            skip
            refine p_icmp_ge (off := 48) 106 (by decide +kernel) (by decide) (fun cqj0 => ?_) (fun cqj0 => ?_)
            · exact False.elim (by revert cqj0; decide)
            · refine p_run (pc' := 62) [.iload_n 3] mkX8_takesKey (by decide +kernel) rfl rfl ?_
              refine p_if_eq (off := 44) 106 (by decide +kernel) (by decide) (fun cql0 => ?_) (fun cql0 => ?_)
              · refine p_run (pc' := 107) [.iload_n 3] mkX8_takesKey (by decide +kernel) rfl rfl ?_
                refine p_if_eq (off := 14) 121 (by decide +kernel) (by decide) (fun cqk0 => ?_) (fun cqk0 => ?_)
                · refine p_run (pc' := 12) [.iinc 1 1, .goto (-112)] mkX8_takesKey (by decide +kernel) rfl rfl ?_
                  exact hno (fun q => cqe0 (q.2 0 (by decide))) _ _ _
                · exact absurd rfl cqk0
              · exact absurd rfl cql0
          · refine p_run (pc' := 55) [.iconst 1, .goto 4, .istore_n 3, .iinc 4 1, .goto (-48)] mkX8_takesKey (by decide +kernel) rfl rfl ?_
            refine p_run (pc' := 58) [.iload 4, .iload_n 2] mkX8_takesKey (by decide +kernel) rfl rfl ?_
            refine p_icmp_ge (off := 48) 106 (by decide +kernel) (by decide) (fun cqi1 => ?_) (fun cqi1 => ?_)
            · exact False.elim (by revert cqi1; decide)
            · refine p_run (pc' := 62) [.iload_n 3] mkX8_takesKey (by decide +kernel) rfl rfl ?_
              refine p_if_eq (off := 44) 106 (by decide +kernel) (by decide) (fun cqs1 => ?_) (fun cqs1 => ?_)
              · exact False.elim (by revert cqs1; decide)
              · refine p_run (pc' := 76) [.aload_n 0, .getfield 22, .aload_n 0, .getfield 220, .iload 4, .iadd] mkX8_takesKey (by decide +kernel) rfl rfl ?_
                refine p_iald (l.s + 1) (by decide +kernel) rfl rfl (by rw [e8, ← nI_add]; rfl) (by omega) ?_
                refine p_run (pc' := 86) [.aload_n 0, .getfield 25, .aload_n 0, .getfield 29, .iload_n 1] mkX8_takesKey (by decide +kernel) rfl rfl ?_
                refine p_iald (0) (by decide +kernel) rfl rfl rfl (by decide) ?_
                rw [k0]
                refine p_run (pc' := 90) [.iload 4, .iadd] mkX8_takesKey (by decide +kernel) rfl rfl ?_
                refine p_cald 1 (by decide +kernel) rfl rfl rfl (by decide) ?_
                rw [hC 1 (by decide)]
                refine p_icmp_ne (off := 7) 98 (by decide +kernel) (by decide) (fun cqe1 => ?_) (fun cqe1 => ?_)
                · refine p_run (pc' := 58) [.iconst 0, .istore_n 3, .iinc 4 1, .goto (-48), .iload 4, .iload_n 2] mkX8_takesKey (by decide +kernel) rfl rfl ?_
                  skip
                  refine p_icmp_ge (off := 48) 106 (by decide +kernel) (by decide) (fun cqj1 => ?_) (fun cqj1 => ?_)
                  · exact False.elim (by revert cqj1; decide)
                  · refine p_run (pc' := 62) [.iload_n 3] mkX8_takesKey (by decide +kernel) rfl rfl ?_
                    refine p_if_eq (off := 44) 106 (by decide +kernel) (by decide) (fun cql1 => ?_) (fun cql1 => ?_)
                    · refine p_run (pc' := 107) [.iload_n 3] mkX8_takesKey (by decide +kernel) rfl rfl ?_
                      refine p_if_eq (off := 14) 121 (by decide +kernel) (by decide) (fun cqk1 => ?_) (fun cqk1 => ?_)
                      · refine p_run (pc' := 12) [.iinc 1 1, .goto (-112)] mkX8_takesKey (by decide +kernel) rfl rfl ?_
                        exact hno (fun q => cqe1 (q.2 1 (by decide))) _ _ _
                      · exact absurd rfl cqk1
                    · exact absurd rfl cql1
                · refine p_run (pc' := 55) [.iconst 1, .goto 4, .istore_n 3, .iinc 4 1, .goto (-48)] mkX8_takesKey (by decide +kernel) rfl rfl ?_
                  refine p_run (pc' := 58) [.iload 4, .iload_n 2] mkX8_takesKey (by decide +kernel) rfl rfl ?_
                  refine p_icmp_ge (off := 48) 106 (by decide +kernel) (by decide) (fun cqi2 => ?_) (fun cqi2 => ?_)
                  · exact False.elim (by revert cqi2; decide)
                  · refine p_run (pc' := 62) [.iload_n 3] mkX8_takesKey (by decide +kernel) rfl rfl ?_
                    refine p_if_eq (off := 44) 106 (by decide +kernel) (by decide) (fun cqs2 => ?_) (fun cqs2 => ?_)
                    · exact False.elim (by revert cqs2; decide)
                    · refine p_run (pc' := 76) [.aload_n 0, .getfield 22, .aload_n 0, .getfield 220, .iload 4, .iadd] mkX8_takesKey (by decide +kernel) rfl rfl ?_
                      refine p_iald (l.s + 2) (by decide +kernel) rfl rfl (by rw [e8, ← nI_add]; rfl) (by omega) ?_
                      refine p_run (pc' := 86) [.aload_n 0, .getfield 25, .aload_n 0, .getfield 29, .iload_n 1] mkX8_takesKey (by decide +kernel) rfl rfl ?_
                      refine p_iald (0) (by decide +kernel) rfl rfl rfl (by decide) ?_
                      rw [k0]
                      refine p_run (pc' := 90) [.iload 4, .iadd] mkX8_takesKey (by decide +kernel) rfl rfl ?_
                      refine p_cald 2 (by decide +kernel) rfl rfl rfl (by decide) ?_
                      rw [hC 2 (by decide)]
                      refine p_icmp_ne (off := 7) 98 (by decide +kernel) (by decide) (fun cqe2 => ?_) (fun cqe2 => ?_)
                      · refine p_run (pc' := 58) [.iconst 0, .istore_n 3, .iinc 4 1, .goto (-48), .iload 4, .iload_n 2] mkX8_takesKey (by decide +kernel) rfl rfl ?_
                        skip
                        refine p_icmp_ge (off := 48) 106 (by decide +kernel) (by decide) (fun cqj2 => ?_) (fun cqj2 => ?_)
                        · refine p_run (pc' := 107) [.iload_n 3] mkX8_takesKey (by decide +kernel) rfl rfl ?_
                          refine p_if_eq (off := 14) 121 (by decide +kernel) (by decide) (fun cqk2 => ?_) (fun cqk2 => ?_)
                          · refine p_run (pc' := 12) [.iinc 1 1, .goto (-112)] mkX8_takesKey (by decide +kernel) rfl rfl ?_
                            exact hno (fun q => cqe2 (q.2 2 (by decide))) _ _ _
                          · exact absurd rfl cqk2
                        · exact False.elim (by revert cqj2; decide)
                      · refine p_run (pc' := 55) [.iconst 1, .goto 4, .istore_n 3, .iinc 4 1, .goto (-48)] mkX8_takesKey (by decide +kernel) rfl rfl ?_
                        refine p_run (pc' := 58) [.iload 4, .iload_n 2] mkX8_takesKey (by decide +kernel) rfl rfl ?_
                        refine p_icmp_ge (off := 48) 106 (by decide +kernel) (by decide) (fun cqi3 => ?_) (fun cqi3 => ?_)
                        · refine p_run (pc' := 107) [.iload_n 3] mkX8_takesKey (by decide +kernel) rfl rfl ?_
                          refine p_if_eq (off := 14) 121 (by decide +kernel) (by decide) (fun cqz => ?_) (fun cqz => ?_)
                          · exact False.elim (by revert cqz; decide)
                          · refine hyes ⟨by unfold kln; simp; omega, fun k hk => ?_⟩ _ _ _
                            match k, (show k < 3 from hk) with
                            | 0, _ => exact cqe0
                            | 1, _ => exact cqe1
                            | 2, _ => exact cqe2
                        · exact False.elim (by revert cqi3; decide)
set_option maxRecDepth 20000 in
set_option maxHeartbeats 4000000 in
theorem key_1 (w : Wt) {k : Nat} (l : Lx) (Q : Option Value → Mm → Prop) (h : Mm) (hK : KR h) (hs : l.s ≤ l.e) (he : l.e ≤ 96) (e7 : h 96 7 = nI l.e) (e8 : h 96 8 = nI l.s) (hno : ¬ kmP (h 101) l 1 → ∀ x2 x3 x4, Wp w k MX8_takesKey Q 12 [some (.ref 96), some (.int (nI 2)), x2, x3, x4] [] h) (hyes : kmP (h 101) l 1 → ∀ x2 x3 x4, Wp w k MX8_takesKey Q 110 [some (.ref 96), some (.int (nI 1)), x2, x3, x4] [] h) (x2 x3 x4 : Option Value) : Wp w k MX8_takesKey Q 12 [some (.ref 96), some (.int (nI 1)), x2, x3, x4] [] h := by
  obtain ⟨hC, k0, k1, k2, k3⟩ := hK
  refine p_run (pc' := 14) [.iload_n 1, .iconst 3] mkX8_takesKey (by decide +kernel) rfl rfl ?_
  refine p_icmp_ge (off := 113) 127 (by decide +kernel) (by decide) (fun cq1 => ?_) (fun cq1 => ?_)
  · exact False.elim (by revert cq1; decide)
  · refine p_run (pc' := 24) [.aload_n 0, .getfield 29, .iload_n 1, .iconst 1, .iadd] mkX8_takesKey (by decide +kernel) rfl rfl ?_
    refine p_iald (2) (by decide +kernel) rfl rfl rfl (by decide) ?_
    refine p_run (pc' := 30) [.aload_n 0, .getfield 29, .iload_n 1] mkX8_takesKey (by decide +kernel) rfl rfl ?_
    refine p_iald (1) (by decide +kernel) rfl rfl rfl (by decide) ?_
    rw [k2, k1]
    refine p_run (pc' := 43) [.isub, .istore_n 2, .iload_n 2, .aload_n 0, .getfield 217, .aload_n 0, .getfield 220, .isub] mkX8_takesKey (by decide +kernel) rfl rfl ?_
    rw [e7, e8, show nI 6 - nI 3 = nI 3 from rfl, nIs (by omega)]
    refine p_icmp_ne (off := 7) 50 (by decide +kernel) (by decide) (fun cq2 => ?_) (fun cq2 => ?_)
    · rw [nI_eq (by omega) (by omega)] at cq2
      refine p_run (pc' := 58) [.iconst 0, .istore_n 3, .iconst 0, .istore 4, .iload 4, .iload_n 2] mkX8_takesKey (by decide +kernel) rfl rfl ?_
      refine p_icmp_ge (off := 48) 106 (by decide +kernel) (by decide) (fun cq3 => ?_) (fun cq3 => ?_)
      · exact False.elim (by revert cq3; decide)
      · refine p_run (pc' := 62) [.iload_n 3] mkX8_takesKey (by decide +kernel) rfl rfl ?_
        refine p_if_eq (off := 44) 106 (by decide +kernel) (by decide) (fun cq4 => ?_) (fun cq4 => ?_)
        · refine p_run (pc' := 107) [.iload_n 3] mkX8_takesKey (by decide +kernel) rfl rfl ?_
          refine p_if_eq (off := 14) 121 (by decide +kernel) (by decide) (fun cq5 => ?_) (fun cq5 => ?_)
          · refine p_run (pc' := 12) [.iinc 1 1, .goto (-112)] mkX8_takesKey (by decide +kernel) rfl rfl ?_
            exact hno (fun q => cq2 (by have := q.1; unfold kln at this; simp at this; omega)) _ _ _
          · exact absurd rfl cq5
        · exact absurd rfl cq4
    · rw [nI_eq (by omega) (by omega)] at cq2
      refine p_run (pc' := 55) [.iconst 1, .goto 4, .istore_n 3, .iconst 0, .istore 4] mkX8_takesKey (by decide +kernel) rfl rfl ?_
      refine p_run (pc' := 58) [.iload 4, .iload_n 2] mkX8_takesKey (by decide +kernel) rfl rfl ?_
      refine p_icmp_ge (off := 48) 106 (by decide +kernel) (by decide) (fun cqi0 => ?_) (fun cqi0 => ?_)
      · exact False.elim (by revert cqi0; decide)
      · refine p_run (pc' := 62) [.iload_n 3] mkX8_takesKey (by decide +kernel) rfl rfl ?_
        refine p_if_eq (off := 44) 106 (by decide +kernel) (by decide) (fun cqs0 => ?_) (fun cqs0 => ?_)
        · exact False.elim (by revert cqs0; decide)
        · refine p_run (pc' := 76) [.aload_n 0, .getfield 22, .aload_n 0, .getfield 220, .iload 4, .iadd] mkX8_takesKey (by decide +kernel) rfl rfl ?_
          refine p_iald (l.s + 0) (by decide +kernel) rfl rfl (by rw [e8, ← nI_add]; rfl) (by omega) ?_
          refine p_run (pc' := 86) [.aload_n 0, .getfield 25, .aload_n 0, .getfield 29, .iload_n 1] mkX8_takesKey (by decide +kernel) rfl rfl ?_
          refine p_iald (1) (by decide +kernel) rfl rfl rfl (by decide) ?_
          rw [k1]
          refine p_run (pc' := 90) [.iload 4, .iadd] mkX8_takesKey (by decide +kernel) rfl rfl ?_
          refine p_cald 3 (by decide +kernel) rfl rfl rfl (by decide) ?_
          rw [hC 3 (by decide)]
          refine p_icmp_ne (off := 7) 98 (by decide +kernel) (by decide) (fun cqe0 => ?_) (fun cqe0 => ?_)
          · refine p_run (pc' := 58) [.iconst 0, .istore_n 3, .iinc 4 1, .goto (-48), .iload 4, .iload_n 2] mkX8_takesKey (by decide +kernel) rfl rfl ?_
            skip
            refine p_icmp_ge (off := 48) 106 (by decide +kernel) (by decide) (fun cqj0 => ?_) (fun cqj0 => ?_)
            · exact False.elim (by revert cqj0; decide)
            · refine p_run (pc' := 62) [.iload_n 3] mkX8_takesKey (by decide +kernel) rfl rfl ?_
              refine p_if_eq (off := 44) 106 (by decide +kernel) (by decide) (fun cql0 => ?_) (fun cql0 => ?_)
              · refine p_run (pc' := 107) [.iload_n 3] mkX8_takesKey (by decide +kernel) rfl rfl ?_
                refine p_if_eq (off := 14) 121 (by decide +kernel) (by decide) (fun cqk0 => ?_) (fun cqk0 => ?_)
                · refine p_run (pc' := 12) [.iinc 1 1, .goto (-112)] mkX8_takesKey (by decide +kernel) rfl rfl ?_
                  exact hno (fun q => cqe0 (q.2 0 (by decide))) _ _ _
                · exact absurd rfl cqk0
              · exact absurd rfl cql0
          · refine p_run (pc' := 55) [.iconst 1, .goto 4, .istore_n 3, .iinc 4 1, .goto (-48)] mkX8_takesKey (by decide +kernel) rfl rfl ?_
            refine p_run (pc' := 58) [.iload 4, .iload_n 2] mkX8_takesKey (by decide +kernel) rfl rfl ?_
            refine p_icmp_ge (off := 48) 106 (by decide +kernel) (by decide) (fun cqi1 => ?_) (fun cqi1 => ?_)
            · exact False.elim (by revert cqi1; decide)
            · refine p_run (pc' := 62) [.iload_n 3] mkX8_takesKey (by decide +kernel) rfl rfl ?_
              refine p_if_eq (off := 44) 106 (by decide +kernel) (by decide) (fun cqs1 => ?_) (fun cqs1 => ?_)
              · exact False.elim (by revert cqs1; decide)
              · refine p_run (pc' := 76) [.aload_n 0, .getfield 22, .aload_n 0, .getfield 220, .iload 4, .iadd] mkX8_takesKey (by decide +kernel) rfl rfl ?_
                refine p_iald (l.s + 1) (by decide +kernel) rfl rfl (by rw [e8, ← nI_add]; rfl) (by omega) ?_
                refine p_run (pc' := 86) [.aload_n 0, .getfield 25, .aload_n 0, .getfield 29, .iload_n 1] mkX8_takesKey (by decide +kernel) rfl rfl ?_
                refine p_iald (1) (by decide +kernel) rfl rfl rfl (by decide) ?_
                rw [k1]
                refine p_run (pc' := 90) [.iload 4, .iadd] mkX8_takesKey (by decide +kernel) rfl rfl ?_
                refine p_cald 4 (by decide +kernel) rfl rfl rfl (by decide) ?_
                rw [hC 4 (by decide)]
                refine p_icmp_ne (off := 7) 98 (by decide +kernel) (by decide) (fun cqe1 => ?_) (fun cqe1 => ?_)
                · refine p_run (pc' := 58) [.iconst 0, .istore_n 3, .iinc 4 1, .goto (-48), .iload 4, .iload_n 2] mkX8_takesKey (by decide +kernel) rfl rfl ?_
                  skip
                  refine p_icmp_ge (off := 48) 106 (by decide +kernel) (by decide) (fun cqj1 => ?_) (fun cqj1 => ?_)
                  · exact False.elim (by revert cqj1; decide)
                  · refine p_run (pc' := 62) [.iload_n 3] mkX8_takesKey (by decide +kernel) rfl rfl ?_
                    refine p_if_eq (off := 44) 106 (by decide +kernel) (by decide) (fun cql1 => ?_) (fun cql1 => ?_)
                    · refine p_run (pc' := 107) [.iload_n 3] mkX8_takesKey (by decide +kernel) rfl rfl ?_
                      refine p_if_eq (off := 14) 121 (by decide +kernel) (by decide) (fun cqk1 => ?_) (fun cqk1 => ?_)
                      · refine p_run (pc' := 12) [.iinc 1 1, .goto (-112)] mkX8_takesKey (by decide +kernel) rfl rfl ?_
                        exact hno (fun q => cqe1 (q.2 1 (by decide))) _ _ _
                      · exact absurd rfl cqk1
                    · exact absurd rfl cql1
                · refine p_run (pc' := 55) [.iconst 1, .goto 4, .istore_n 3, .iinc 4 1, .goto (-48)] mkX8_takesKey (by decide +kernel) rfl rfl ?_
                  refine p_run (pc' := 58) [.iload 4, .iload_n 2] mkX8_takesKey (by decide +kernel) rfl rfl ?_
                  refine p_icmp_ge (off := 48) 106 (by decide +kernel) (by decide) (fun cqi2 => ?_) (fun cqi2 => ?_)
                  · exact False.elim (by revert cqi2; decide)
                  · refine p_run (pc' := 62) [.iload_n 3] mkX8_takesKey (by decide +kernel) rfl rfl ?_
                    refine p_if_eq (off := 44) 106 (by decide +kernel) (by decide) (fun cqs2 => ?_) (fun cqs2 => ?_)
                    · exact False.elim (by revert cqs2; decide)
                    · refine p_run (pc' := 76) [.aload_n 0, .getfield 22, .aload_n 0, .getfield 220, .iload 4, .iadd] mkX8_takesKey (by decide +kernel) rfl rfl ?_
                      refine p_iald (l.s + 2) (by decide +kernel) rfl rfl (by rw [e8, ← nI_add]; rfl) (by omega) ?_
                      refine p_run (pc' := 86) [.aload_n 0, .getfield 25, .aload_n 0, .getfield 29, .iload_n 1] mkX8_takesKey (by decide +kernel) rfl rfl ?_
                      refine p_iald (1) (by decide +kernel) rfl rfl rfl (by decide) ?_
                      rw [k1]
                      refine p_run (pc' := 90) [.iload 4, .iadd] mkX8_takesKey (by decide +kernel) rfl rfl ?_
                      refine p_cald 5 (by decide +kernel) rfl rfl rfl (by decide) ?_
                      rw [hC 5 (by decide)]
                      refine p_icmp_ne (off := 7) 98 (by decide +kernel) (by decide) (fun cqe2 => ?_) (fun cqe2 => ?_)
                      · refine p_run (pc' := 58) [.iconst 0, .istore_n 3, .iinc 4 1, .goto (-48), .iload 4, .iload_n 2] mkX8_takesKey (by decide +kernel) rfl rfl ?_
                        skip
                        refine p_icmp_ge (off := 48) 106 (by decide +kernel) (by decide) (fun cqj2 => ?_) (fun cqj2 => ?_)
                        · refine p_run (pc' := 107) [.iload_n 3] mkX8_takesKey (by decide +kernel) rfl rfl ?_
                          refine p_if_eq (off := 14) 121 (by decide +kernel) (by decide) (fun cqk2 => ?_) (fun cqk2 => ?_)
                          · refine p_run (pc' := 12) [.iinc 1 1, .goto (-112)] mkX8_takesKey (by decide +kernel) rfl rfl ?_
                            exact hno (fun q => cqe2 (q.2 2 (by decide))) _ _ _
                          · exact absurd rfl cqk2
                        · exact False.elim (by revert cqj2; decide)
                      · refine p_run (pc' := 55) [.iconst 1, .goto 4, .istore_n 3, .iinc 4 1, .goto (-48)] mkX8_takesKey (by decide +kernel) rfl rfl ?_
                        refine p_run (pc' := 58) [.iload 4, .iload_n 2] mkX8_takesKey (by decide +kernel) rfl rfl ?_
                        refine p_icmp_ge (off := 48) 106 (by decide +kernel) (by decide) (fun cqi3 => ?_) (fun cqi3 => ?_)
                        · refine p_run (pc' := 107) [.iload_n 3] mkX8_takesKey (by decide +kernel) rfl rfl ?_
                          refine p_if_eq (off := 14) 121 (by decide +kernel) (by decide) (fun cqz => ?_) (fun cqz => ?_)
                          · exact False.elim (by revert cqz; decide)
                          · refine hyes ⟨by unfold kln; simp; omega, fun k hk => ?_⟩ _ _ _
                            match k, (show k < 3 from hk) with
                            | 0, _ => exact cqe0
                            | 1, _ => exact cqe1
                            | 2, _ => exact cqe2
                        · exact False.elim (by revert cqi3; decide)
set_option maxRecDepth 20000 in
set_option maxHeartbeats 4000000 in
theorem key_2 (w : Wt) {k : Nat} (l : Lx) (Q : Option Value → Mm → Prop) (h : Mm) (hK : KR h) (hs : l.s ≤ l.e) (he : l.e ≤ 96) (e7 : h 96 7 = nI l.e) (e8 : h 96 8 = nI l.s) (hno : ¬ kmP (h 101) l 2 → ∀ x2 x3 x4, Wp w k MX8_takesKey Q 12 [some (.ref 96), some (.int (nI 3)), x2, x3, x4] [] h) (hyes : kmP (h 101) l 2 → ∀ x2 x3 x4, Wp w k MX8_takesKey Q 110 [some (.ref 96), some (.int (nI 2)), x2, x3, x4] [] h) (x2 x3 x4 : Option Value) : Wp w k MX8_takesKey Q 12 [some (.ref 96), some (.int (nI 2)), x2, x3, x4] [] h := by
  obtain ⟨hC, k0, k1, k2, k3⟩ := hK
  refine p_run (pc' := 14) [.iload_n 1, .iconst 3] mkX8_takesKey (by decide +kernel) rfl rfl ?_
  refine p_icmp_ge (off := 113) 127 (by decide +kernel) (by decide) (fun cq1 => ?_) (fun cq1 => ?_)
  · exact False.elim (by revert cq1; decide)
  · refine p_run (pc' := 24) [.aload_n 0, .getfield 29, .iload_n 1, .iconst 1, .iadd] mkX8_takesKey (by decide +kernel) rfl rfl ?_
    refine p_iald (3) (by decide +kernel) rfl rfl rfl (by decide) ?_
    refine p_run (pc' := 30) [.aload_n 0, .getfield 29, .iload_n 1] mkX8_takesKey (by decide +kernel) rfl rfl ?_
    refine p_iald (2) (by decide +kernel) rfl rfl rfl (by decide) ?_
    rw [k3, k2]
    refine p_run (pc' := 43) [.isub, .istore_n 2, .iload_n 2, .aload_n 0, .getfield 217, .aload_n 0, .getfield 220, .isub] mkX8_takesKey (by decide +kernel) rfl rfl ?_
    rw [e7, e8, show nI 10 - nI 6 = nI 4 from rfl, nIs (by omega)]
    refine p_icmp_ne (off := 7) 50 (by decide +kernel) (by decide) (fun cq2 => ?_) (fun cq2 => ?_)
    · rw [nI_eq (by omega) (by omega)] at cq2
      refine p_run (pc' := 58) [.iconst 0, .istore_n 3, .iconst 0, .istore 4, .iload 4, .iload_n 2] mkX8_takesKey (by decide +kernel) rfl rfl ?_
      refine p_icmp_ge (off := 48) 106 (by decide +kernel) (by decide) (fun cq3 => ?_) (fun cq3 => ?_)
      · exact False.elim (by revert cq3; decide)
      · refine p_run (pc' := 62) [.iload_n 3] mkX8_takesKey (by decide +kernel) rfl rfl ?_
        refine p_if_eq (off := 44) 106 (by decide +kernel) (by decide) (fun cq4 => ?_) (fun cq4 => ?_)
        · refine p_run (pc' := 107) [.iload_n 3] mkX8_takesKey (by decide +kernel) rfl rfl ?_
          refine p_if_eq (off := 14) 121 (by decide +kernel) (by decide) (fun cq5 => ?_) (fun cq5 => ?_)
          · refine p_run (pc' := 12) [.iinc 1 1, .goto (-112)] mkX8_takesKey (by decide +kernel) rfl rfl ?_
            exact hno (fun q => cq2 (by have := q.1; unfold kln at this; simp at this; omega)) _ _ _
          · exact absurd rfl cq5
        · exact absurd rfl cq4
    · rw [nI_eq (by omega) (by omega)] at cq2
      refine p_run (pc' := 55) [.iconst 1, .goto 4, .istore_n 3, .iconst 0, .istore 4] mkX8_takesKey (by decide +kernel) rfl rfl ?_
      refine p_run (pc' := 58) [.iload 4, .iload_n 2] mkX8_takesKey (by decide +kernel) rfl rfl ?_
      refine p_icmp_ge (off := 48) 106 (by decide +kernel) (by decide) (fun cqi0 => ?_) (fun cqi0 => ?_)
      · exact False.elim (by revert cqi0; decide)
      · refine p_run (pc' := 62) [.iload_n 3] mkX8_takesKey (by decide +kernel) rfl rfl ?_
        refine p_if_eq (off := 44) 106 (by decide +kernel) (by decide) (fun cqs0 => ?_) (fun cqs0 => ?_)
        · exact False.elim (by revert cqs0; decide)
        · refine p_run (pc' := 76) [.aload_n 0, .getfield 22, .aload_n 0, .getfield 220, .iload 4, .iadd] mkX8_takesKey (by decide +kernel) rfl rfl ?_
          refine p_iald (l.s + 0) (by decide +kernel) rfl rfl (by rw [e8, ← nI_add]; rfl) (by omega) ?_
          refine p_run (pc' := 86) [.aload_n 0, .getfield 25, .aload_n 0, .getfield 29, .iload_n 1] mkX8_takesKey (by decide +kernel) rfl rfl ?_
          refine p_iald (2) (by decide +kernel) rfl rfl rfl (by decide) ?_
          rw [k2]
          refine p_run (pc' := 90) [.iload 4, .iadd] mkX8_takesKey (by decide +kernel) rfl rfl ?_
          refine p_cald 6 (by decide +kernel) rfl rfl rfl (by decide) ?_
          rw [hC 6 (by decide)]
          refine p_icmp_ne (off := 7) 98 (by decide +kernel) (by decide) (fun cqe0 => ?_) (fun cqe0 => ?_)
          · refine p_run (pc' := 58) [.iconst 0, .istore_n 3, .iinc 4 1, .goto (-48), .iload 4, .iload_n 2] mkX8_takesKey (by decide +kernel) rfl rfl ?_
            skip
            refine p_icmp_ge (off := 48) 106 (by decide +kernel) (by decide) (fun cqj0 => ?_) (fun cqj0 => ?_)
            · exact False.elim (by revert cqj0; decide)
            · refine p_run (pc' := 62) [.iload_n 3] mkX8_takesKey (by decide +kernel) rfl rfl ?_
              refine p_if_eq (off := 44) 106 (by decide +kernel) (by decide) (fun cql0 => ?_) (fun cql0 => ?_)
              · refine p_run (pc' := 107) [.iload_n 3] mkX8_takesKey (by decide +kernel) rfl rfl ?_
                refine p_if_eq (off := 14) 121 (by decide +kernel) (by decide) (fun cqk0 => ?_) (fun cqk0 => ?_)
                · refine p_run (pc' := 12) [.iinc 1 1, .goto (-112)] mkX8_takesKey (by decide +kernel) rfl rfl ?_
                  exact hno (fun q => cqe0 (q.2 0 (by decide))) _ _ _
                · exact absurd rfl cqk0
              · exact absurd rfl cql0
          · refine p_run (pc' := 55) [.iconst 1, .goto 4, .istore_n 3, .iinc 4 1, .goto (-48)] mkX8_takesKey (by decide +kernel) rfl rfl ?_
            refine p_run (pc' := 58) [.iload 4, .iload_n 2] mkX8_takesKey (by decide +kernel) rfl rfl ?_
            refine p_icmp_ge (off := 48) 106 (by decide +kernel) (by decide) (fun cqi1 => ?_) (fun cqi1 => ?_)
            · exact False.elim (by revert cqi1; decide)
            · refine p_run (pc' := 62) [.iload_n 3] mkX8_takesKey (by decide +kernel) rfl rfl ?_
              refine p_if_eq (off := 44) 106 (by decide +kernel) (by decide) (fun cqs1 => ?_) (fun cqs1 => ?_)
              · exact False.elim (by revert cqs1; decide)
              · refine p_run (pc' := 76) [.aload_n 0, .getfield 22, .aload_n 0, .getfield 220, .iload 4, .iadd] mkX8_takesKey (by decide +kernel) rfl rfl ?_
                refine p_iald (l.s + 1) (by decide +kernel) rfl rfl (by rw [e8, ← nI_add]; rfl) (by omega) ?_
                refine p_run (pc' := 86) [.aload_n 0, .getfield 25, .aload_n 0, .getfield 29, .iload_n 1] mkX8_takesKey (by decide +kernel) rfl rfl ?_
                refine p_iald (2) (by decide +kernel) rfl rfl rfl (by decide) ?_
                rw [k2]
                refine p_run (pc' := 90) [.iload 4, .iadd] mkX8_takesKey (by decide +kernel) rfl rfl ?_
                refine p_cald 7 (by decide +kernel) rfl rfl rfl (by decide) ?_
                rw [hC 7 (by decide)]
                refine p_icmp_ne (off := 7) 98 (by decide +kernel) (by decide) (fun cqe1 => ?_) (fun cqe1 => ?_)
                · refine p_run (pc' := 58) [.iconst 0, .istore_n 3, .iinc 4 1, .goto (-48), .iload 4, .iload_n 2] mkX8_takesKey (by decide +kernel) rfl rfl ?_
                  skip
                  refine p_icmp_ge (off := 48) 106 (by decide +kernel) (by decide) (fun cqj1 => ?_) (fun cqj1 => ?_)
                  · exact False.elim (by revert cqj1; decide)
                  · refine p_run (pc' := 62) [.iload_n 3] mkX8_takesKey (by decide +kernel) rfl rfl ?_
                    refine p_if_eq (off := 44) 106 (by decide +kernel) (by decide) (fun cql1 => ?_) (fun cql1 => ?_)
                    · refine p_run (pc' := 107) [.iload_n 3] mkX8_takesKey (by decide +kernel) rfl rfl ?_
                      refine p_if_eq (off := 14) 121 (by decide +kernel) (by decide) (fun cqk1 => ?_) (fun cqk1 => ?_)
                      · refine p_run (pc' := 12) [.iinc 1 1, .goto (-112)] mkX8_takesKey (by decide +kernel) rfl rfl ?_
                        exact hno (fun q => cqe1 (q.2 1 (by decide))) _ _ _
                      · exact absurd rfl cqk1
                    · exact absurd rfl cql1
                · refine p_run (pc' := 55) [.iconst 1, .goto 4, .istore_n 3, .iinc 4 1, .goto (-48)] mkX8_takesKey (by decide +kernel) rfl rfl ?_
                  refine p_run (pc' := 58) [.iload 4, .iload_n 2] mkX8_takesKey (by decide +kernel) rfl rfl ?_
                  refine p_icmp_ge (off := 48) 106 (by decide +kernel) (by decide) (fun cqi2 => ?_) (fun cqi2 => ?_)
                  · exact False.elim (by revert cqi2; decide)
                  · refine p_run (pc' := 62) [.iload_n 3] mkX8_takesKey (by decide +kernel) rfl rfl ?_
                    refine p_if_eq (off := 44) 106 (by decide +kernel) (by decide) (fun cqs2 => ?_) (fun cqs2 => ?_)
                    · exact False.elim (by revert cqs2; decide)
                    · refine p_run (pc' := 76) [.aload_n 0, .getfield 22, .aload_n 0, .getfield 220, .iload 4, .iadd] mkX8_takesKey (by decide +kernel) rfl rfl ?_
                      refine p_iald (l.s + 2) (by decide +kernel) rfl rfl (by rw [e8, ← nI_add]; rfl) (by omega) ?_
                      refine p_run (pc' := 86) [.aload_n 0, .getfield 25, .aload_n 0, .getfield 29, .iload_n 1] mkX8_takesKey (by decide +kernel) rfl rfl ?_
                      refine p_iald (2) (by decide +kernel) rfl rfl rfl (by decide) ?_
                      rw [k2]
                      refine p_run (pc' := 90) [.iload 4, .iadd] mkX8_takesKey (by decide +kernel) rfl rfl ?_
                      refine p_cald 8 (by decide +kernel) rfl rfl rfl (by decide) ?_
                      rw [hC 8 (by decide)]
                      refine p_icmp_ne (off := 7) 98 (by decide +kernel) (by decide) (fun cqe2 => ?_) (fun cqe2 => ?_)
                      · refine p_run (pc' := 58) [.iconst 0, .istore_n 3, .iinc 4 1, .goto (-48), .iload 4, .iload_n 2] mkX8_takesKey (by decide +kernel) rfl rfl ?_
                        skip
                        refine p_icmp_ge (off := 48) 106 (by decide +kernel) (by decide) (fun cqj2 => ?_) (fun cqj2 => ?_)
                        · exact False.elim (by revert cqj2; decide)
                        · refine p_run (pc' := 62) [.iload_n 3] mkX8_takesKey (by decide +kernel) rfl rfl ?_
                          refine p_if_eq (off := 44) 106 (by decide +kernel) (by decide) (fun cql2 => ?_) (fun cql2 => ?_)
                          · refine p_run (pc' := 107) [.iload_n 3] mkX8_takesKey (by decide +kernel) rfl rfl ?_
                            refine p_if_eq (off := 14) 121 (by decide +kernel) (by decide) (fun cqk2 => ?_) (fun cqk2 => ?_)
                            · refine p_run (pc' := 12) [.iinc 1 1, .goto (-112)] mkX8_takesKey (by decide +kernel) rfl rfl ?_
                              exact hno (fun q => cqe2 (q.2 2 (by decide))) _ _ _
                            · exact absurd rfl cqk2
                          · exact absurd rfl cql2
                      · refine p_run (pc' := 55) [.iconst 1, .goto 4, .istore_n 3, .iinc 4 1, .goto (-48)] mkX8_takesKey (by decide +kernel) rfl rfl ?_
                        refine p_run (pc' := 58) [.iload 4, .iload_n 2] mkX8_takesKey (by decide +kernel) rfl rfl ?_
                        refine p_icmp_ge (off := 48) 106 (by decide +kernel) (by decide) (fun cqi3 => ?_) (fun cqi3 => ?_)
                        · exact False.elim (by revert cqi3; decide)
                        · refine p_run (pc' := 62) [.iload_n 3] mkX8_takesKey (by decide +kernel) rfl rfl ?_
                          refine p_if_eq (off := 44) 106 (by decide +kernel) (by decide) (fun cqs3 => ?_) (fun cqs3 => ?_)
                          · exact False.elim (by revert cqs3; decide)
                          · refine p_run (pc' := 76) [.aload_n 0, .getfield 22, .aload_n 0, .getfield 220, .iload 4, .iadd] mkX8_takesKey (by decide +kernel) rfl rfl ?_
                            refine p_iald (l.s + 3) (by decide +kernel) rfl rfl (by rw [e8, ← nI_add]; rfl) (by omega) ?_
                            refine p_run (pc' := 86) [.aload_n 0, .getfield 25, .aload_n 0, .getfield 29, .iload_n 1] mkX8_takesKey (by decide +kernel) rfl rfl ?_
                            refine p_iald (2) (by decide +kernel) rfl rfl rfl (by decide) ?_
                            rw [k2]
                            refine p_run (pc' := 90) [.iload 4, .iadd] mkX8_takesKey (by decide +kernel) rfl rfl ?_
                            refine p_cald 9 (by decide +kernel) rfl rfl rfl (by decide) ?_
                            rw [hC 9 (by decide)]
                            refine p_icmp_ne (off := 7) 98 (by decide +kernel) (by decide) (fun cqe3 => ?_) (fun cqe3 => ?_)
                            · refine p_run (pc' := 58) [.iconst 0, .istore_n 3, .iinc 4 1, .goto (-48), .iload 4, .iload_n 2] mkX8_takesKey (by decide +kernel) rfl rfl ?_
                              skip
                              refine p_icmp_ge (off := 48) 106 (by decide +kernel) (by decide) (fun cqj3 => ?_) (fun cqj3 => ?_)
                              · refine p_run (pc' := 107) [.iload_n 3] mkX8_takesKey (by decide +kernel) rfl rfl ?_
                                refine p_if_eq (off := 14) 121 (by decide +kernel) (by decide) (fun cqk3 => ?_) (fun cqk3 => ?_)
                                · refine p_run (pc' := 12) [.iinc 1 1, .goto (-112)] mkX8_takesKey (by decide +kernel) rfl rfl ?_
                                  exact hno (fun q => cqe3 (q.2 3 (by decide))) _ _ _
                                · exact absurd rfl cqk3
                              · exact False.elim (by revert cqj3; decide)
                            · refine p_run (pc' := 55) [.iconst 1, .goto 4, .istore_n 3, .iinc 4 1, .goto (-48)] mkX8_takesKey (by decide +kernel) rfl rfl ?_
                              refine p_run (pc' := 58) [.iload 4, .iload_n 2] mkX8_takesKey (by decide +kernel) rfl rfl ?_
                              refine p_icmp_ge (off := 48) 106 (by decide +kernel) (by decide) (fun cqi4 => ?_) (fun cqi4 => ?_)
                              · refine p_run (pc' := 107) [.iload_n 3] mkX8_takesKey (by decide +kernel) rfl rfl ?_
                                refine p_if_eq (off := 14) 121 (by decide +kernel) (by decide) (fun cqz => ?_) (fun cqz => ?_)
                                · exact False.elim (by revert cqz; decide)
                                · refine hyes ⟨by unfold kln; simp; omega, fun k hk => ?_⟩ _ _ _
                                  match k, (show k < 4 from hk) with
                                  | 0, _ => exact cqe0
                                  | 1, _ => exact cqe1
                                  | 2, _ => exact cqe2
                                  | 3, _ => exact cqe3
                              · exact False.elim (by revert cqi4; decide)
theorem ke0 {T : Vc} {l : Lx} (h : ¬ tkF l = 1) : keF T l = none := by unfold keF; rw [if_neg h]
theorem ke1 {T : Vc} {l : Lx} (h : tkF l = 1) (h0 : kmP T l 0) : keF T l = some 0 := by unfold keF; rw [if_pos h, if_pos (kmB_iff.mpr h0)]
theorem ke2 {T : Vc} {l : Lx} (h : tkF l = 1) (h0 : ¬ kmP T l 0) (h1 : kmP T l 1) : keF T l = some 1 := by unfold keF; rw [if_pos h, if_neg (fun q => h0 (kmB_iff.mp q)), if_pos (kmB_iff.mpr h1)]
theorem ke3 {T : Vc} {l : Lx} (h : tkF l = 1) (h0 : ¬ kmP T l 0) (h1 : ¬ kmP T l 1) (h2 : kmP T l 2) : keF T l = some 2 := by unfold keF; rw [if_pos h, if_neg (fun q => h0 (kmB_iff.mp q)), if_neg (fun q => h1 (kmB_iff.mp q)), if_pos (kmB_iff.mpr h2)]
theorem ke4 {T : Vc} {l : Lx} (h : tkF l = 1) (h0 : ¬ kmP T l 0) (h1 : ¬ kmP T l 1) (h2 : ¬ kmP T l 2) : keF T l = none := by unfold keF; rw [if_pos h, if_neg (fun q => h0 (kmB_iff.mp q)), if_neg (fun q => h1 (kmB_iff.mp q)), if_neg (fun q => h2 (kmB_iff.mp q))]
set_option maxRecDepth 20000 in
set_option maxHeartbeats 4000000 in
theorem key_y (w : Wt) {k : Nat} (hk : 2 ≤ k) (n v : Nat) (hn : n ≤ 96) (l : Lx) (hl : Lg n l) (h : Mm) (hg : Gs n (h 101) (h 96) l) (hk1 : l.k ≠ 0) (hv : keF (h 101) l = some v) (x2 x3 x4 : Option Value) : Wp w k MX8_takesKey (fun r h' => match keF (h 101) l with
    | none => r = some (.int (nI 0)) ∧ h' = h
    | some w => r = some (.int (nI 1)) ∧ Gs n (h 101) (h' 96) (lxN n (h 101) l) ∧ h' 96 12 = nI w ∧ Fr [7, 8, 9, 10, 11, 12] h h') 110 [some (.ref 96), some (.int (nI v)), x2, x3, x4] [] h := by
  obtain ⟨e6, e7, e8, e9, e10⟩ := hg
  rw [hv]
  refine p_run (pc' := 116) [.aload_n 0, .iload_n 1, .putfield 238, .aload_n 0] mkX8_takesKey (by decide +kernel) rfl rfl ?_
  refine p_callVo (go_ok w (k := k - 1) (by omega) n hn l hl.2.2.1 _ (by rw [uN (by decide), e6]) (by rw [uN (by decide), e7]) (by rw [uN (by decide)]; exact (e10 hk1).2)) (fun _ _ q => q.1) kvX8_241 (by decide +kernel) (by decide) rfl (by omega) rfl rfl rfl rfl rfl (fun h' hq => ?_)
  obtain ⟨-, hg3, hF3⟩ := hq
  refine p_run (pc' := 120) [.iconst 1] mkX8_takesKey (by decide +kernel) rfl rfl ?_
  refine p_iret rfl rfl (by decide +kernel) ?_
  exact ⟨rfl, by rw [upN (by decide)] at hg3; exact hg3, by rw [hF3.2 12 (by decide), uF], (Fr.up (by decide)).tr (hF3.mono (by decide))⟩
set_option maxRecDepth 20000 in
set_option maxHeartbeats 4000000 in
theorem takesKey_ok (w : Wt) {k : Nat} (hk : 2 ≤ k) (n : Nat) (hn : n ≤ 96) (l : Lx) (hl : Lg n l) (h : Mm) (hg : Gs n (h 101) (h 96) l) (hK : KR h) : Ok w k MX8_takesKey [.ref 96] h ((fun r h' => match keF (h 101) l with
    | none => r = some (.int (nI 0)) ∧ h' = h
    | some w => r = some (.int (nI 1)) ∧ Gs n (h 101) (h' 96) (lxN n (h 101) l) ∧ h' 96 12 = nI w ∧ Fr [7, 8, 9, 10, 11, 12] h h')) := by
  show Wp w k MX8_takesKey _ 0 [some (.ref 96), none, none, none, none] [] h
  have hle := hl.2.1
  have hln := hl.2.2.1
  have e9 := hg.2.2.2.1
  refine p_run (pc' := 5) [.aload_n 0, .getfield 226, .iconst 1] mkX8_takesKey (by decide +kernel) rfl rfl ?_
  rw [e9]
  refine p_icmp_eq (off := 5) 10 (by decide +kernel) (by decide) (fun cq1 => ?_) (fun cq1 => ?_)
  · have h1 : tkF l = 1 := (nI_eq (by have := tk4 l; omega) (by omega)).mp cq1
    have hk1 : l.k ≠ 0 := by have := tk1 h1; omega
    refine p_run (pc' := 12) [.iconst 0, .istore_n 1] mkX8_takesKey (by decide +kernel) rfl rfl ?_
    refine key_0 w l _ h hK hle (by omega) hg.2.1 hg.2.2.1 (fun n0 x2 x3 x4 => ?_) (fun y0 => key_y w hk n _ hn l hl h hg hk1 (ke1 h1 y0)) _ _ _
    refine key_1 w l _ h hK hle (by omega) hg.2.1 hg.2.2.1 (fun n1 x2 x3 x4 => ?_) (fun y1 => key_y w hk n _ hn l hl h hg hk1 (ke2 h1 n0 y1)) _ _ _
    refine key_2 w l _ h hK hle (by omega) hg.2.1 hg.2.2.1 (fun n2 x2 x3 x4 => ?_) (fun y2 => key_y w hk n _ hn l hl h hg hk1 (ke3 h1 n0 n1 y2)) _ _ _
    refine p_run (pc' := 14) [.iload_n 1, .iconst 3] mkX8_takesKey (by decide +kernel) rfl rfl ?_
    refine p_icmp_ge (off := 113) 127 (by decide +kernel) (by decide) (fun cq2 => ?_) (fun cq2 => ?_)
    · refine p_run (pc' := 128) [.iconst 0] mkX8_takesKey (by decide +kernel) rfl rfl ?_
      refine p_iret rfl rfl (by decide +kernel) ?_
      rw [ke4 h1 n0 n1 n2]; exact ⟨rfl, rfl⟩
    · exact False.elim (by revert cq2; decide)
  · refine p_run (pc' := 9) [.iconst 0] mkX8_takesKey (by decide +kernel) rfl rfl ?_
    refine p_iret rfl rfl (by decide +kernel) ?_
    rw [ke0 (fun q => cq1 (by rw [q]; rfl))]; exact ⟨rfl, rfl⟩
