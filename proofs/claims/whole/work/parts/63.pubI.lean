/-! lay -/
theorem RSl.set {h h2 : Mm} (hR : RSl h) {s : Nat} (hs : s < 5) (th : Int32) (a1 : h2 (75 + 4 * s) 0 = th) (b1 : h2 112 s = th) (ht : In th 3) (p1 : th = nI 1 → h2 (76 + 4 * s) 0 = h2 113 s ∧ In (h2 113 s) 5 ∧ wV (h2 (76 + 4 * s)) = h2 114 s) (p2 : th = nI 2 → h2 (77 + 4 * s) 2 = h2 113 s ∧ In (h2 113 s) 24 ∧ ∀ k, k < 24 → h2 (77 + 4 * s + 1) k = h2 115 (24 * s + k)) (p3 : th = nI 3 → h2 (75 + 4 * s) 1 = h2 113 s)
    (o : ∀ t, t < 5 → t ≠ s → h2 (75 + 4 * t) = h (75 + 4 * t) ∧ h2 (76 + 4 * t) = h (76 + 4 * t) ∧ h2 (77 + 4 * t) = h (77 + 4 * t) ∧ h2 (77 + 4 * t + 1) = h (77 + 4 * t + 1) ∧ h2 112 t = h 112 t ∧ h2 113 t = h 113 t ∧ h2 114 t = h 114 t ∧ ∀ k, k < 24 → h2 115 (24 * t + k) = h 115 (24 * t + k)) : RSl h2 := by
  intro t ht2
  by_cases e : t = s
  · subst e
    rw [b1]
    exact ⟨a1, ht, p1, p2, p3⟩
  · obtain ⟨o1, o2, o3, o4, o5, o6, o7, o8⟩ := o t ht2 e
    obtain ⟨q1, q2, q3, q4, q5⟩ := hR t ht2
    rw [o1, o2, o3, o4, o5, o6, o7]
    exact ⟨q1, q2, q3, fun z => ⟨(q4 z).1, (q4 z).2.1, fun k hk => by rw [o8 k hk]; exact (q4 z).2.2 k hk⟩, q5⟩
set_option maxRecDepth 20000 in
set_option maxHeartbeats 4000000 in
theorem c_lay_bad (w : Wt) {k : Nat} (hk : 200 ≤ k) (a b c : Int32) (N : Vc) (h : Mm) (hP : PR 11 h N) (hb : ¬ laP N a b c) : Ok w k MX7_lay [.ref 0, .int a, .int b, .int c] h (Rv BADv h) := by
  show Wp w k MX7_lay _ 0 [some (.ref 0), some (.int a), some (.int b), some (.int c), none, none] [] h
  refine p_run (pc' := 1) [.iload_n 1] mkX7_lay (by decide +kernel) rfl rfl ?_
  refine p_callSv (cisSlot_ok w (k := k - 1) (by omega) _ _) ksX7_286 (by decide +kernel) (by omega) rfl rfl rfl rfl rfl ?_
  refine p_if_eq (off := 12) 16 (by decide +kernel) (by decide) (fun cq4 => ?_) (fun cq4 => ?_)
  · have cq4 := bI0.mp cq4
    refine p_run (pc' := 18) [.ldc 75] mkX7_lay (by decide +kernel) rfl rfl ?_
    refine p_iret rfl rfl (by decide +kernel) ?_
    exact ⟨rfl, rfl⟩
  · have cq4 := bI1.mp cq4
    refine p_run (pc' := 10) [.iload_n 2, .iconst 0, .iconst 3] mkX7_lay (by decide +kernel) rfl rfl ?_
    refine p_callSv (cwithin_ok w (k := k - 1) _ _ _ _) ksX7_68 (by decide +kernel) (by omega) rfl rfl rfl rfl rfl ?_
    refine p_if_ne (off := 6) 19 (by decide +kernel) (by decide) (fun cq13 => ?_) (fun cq13 => ?_)
    · have cq13 := bI1.mp cq13
      refine p_run (pc' := 21) [.iload_n 2, .iconst 1] mkX7_lay (by decide +kernel) rfl rfl ?_
      refine p_icmp_ne (off := 11) 32 (by decide +kernel) (by decide) (fun cq21 => ?_) (fun cq21 => ?_)
      · refine p_run (pc' := 34) [.iload_n 2, .iconst 2] mkX7_lay (by decide +kernel) rfl rfl ?_
        refine p_icmp_ne (off := 13) 47 (by decide +kernel) (by decide) (fun cq34 => ?_) (fun cq34 => ?_)
        · exact absurd ⟨cq4, cq13, fun q => absurd q cq21, fun q => absurd q cq34⟩ hb
        · refine p_run (pc' := 38) [.iload_n 3] mkX7_lay (by decide +kernel) rfl rfl ?_
          refine p_callSv (cisSheet_ok w (k := k - 1) (by omega) _ _) ksX7_209 (by decide +kernel) (by omega) rfl rfl rfl rfl rfl ?_
          refine p_if_ne (off := 6) 47 (by decide +kernel) (by decide) (fun cq41 => ?_) (fun cq41 => ?_)
          · have cq41 := bI1.mp cq41
            exact absurd ⟨cq4, cq13, fun q => absurd q cq21, fun _ => cq41⟩ hb
          · have cq41 := bI0.mp cq41
            refine p_run (pc' := 46) [.ldc 75] mkX7_lay (by decide +kernel) rfl rfl ?_
            refine p_iret rfl rfl (by decide +kernel) ?_
            exact ⟨rfl, rfl⟩
      · refine p_run (pc' := 26) [.aload_n 0, .iload_n 3] mkX7_lay (by decide +kernel) rfl rfl ?_
        refine p_callVv (cisDigger_ok w (k := k - 1) (by omega) _ N _ hP.1.1) kvX7_84 (by decide +kernel) (by decide) rfl (by omega) rfl rfl rfl rfl rfl ?_
        refine p_if_eq (off := 15) 44 (by decide +kernel) (by decide) (fun cq29 => ?_) (fun cq29 => ?_)
        · have cq29 := bI0.mp cq29
          refine p_run (pc' := 46) [.ldc 75] mkX7_lay (by decide +kernel) rfl rfl ?_
          refine p_iret rfl rfl (by decide +kernel) ?_
          exact ⟨rfl, rfl⟩
        · have cq29 := bI1.mp cq29
          refine p_run (pc' := 34) [.iload_n 2, .iconst 2] mkX7_lay (by decide +kernel) rfl rfl ?_
          refine p_icmp_ne (off := 13) 47 (by decide +kernel) (by decide) (fun cq34 => ?_) (fun cq34 => ?_)
          · exact absurd ⟨cq4, cq13, fun _ => cq29, fun q => absurd q cq34⟩ hb
          · refine p_run (pc' := 38) [.iload_n 3] mkX7_lay (by decide +kernel) rfl rfl ?_
            refine p_callSv (cisSheet_ok w (k := k - 1) (by omega) _ _) ksX7_209 (by decide +kernel) (by omega) rfl rfl rfl rfl rfl ?_
            refine p_if_ne (off := 6) 47 (by decide +kernel) (by decide) (fun cq41 => ?_) (fun cq41 => ?_)
            · have cq41 := bI1.mp cq41
              exact absurd ⟨cq4, cq13, fun _ => cq29, fun _ => cq41⟩ hb
            · have cq41 := bI0.mp cq41
              refine p_run (pc' := 46) [.ldc 75] mkX7_lay (by decide +kernel) rfl rfl ?_
              refine p_iret rfl rfl (by decide +kernel) ?_
              exact ⟨rfl, rfl⟩
    · have cq13 := bI0.mp cq13
      refine p_run (pc' := 18) [.ldc 75] mkX7_lay (by decide +kernel) rfl rfl ?_
      refine p_iret rfl rfl (by decide +kernel) ?_
      exact ⟨rfl, rfl⟩
set_option maxRecDepth 20000 in
set_option maxHeartbeats 4000000 in
theorem c_lay_no (w : Wt) {k : Nat} (hk : 200 ≤ k) (s q : Nat) (hs : s < 5) (hq : q < 4) (h : Mm) (hno : h (66 + 2 * q) 1 = Int32.ofInt (-1)) : Ok w k MX7_lay [.ref 0, .int (nI s), .int (nI 2), .int (nI q)] h (Rv NOTHINGv h) := by
  show Wp w k MX7_lay _ 0 [some (.ref 0), some (.int (nI s)), some (.int (nI 2)), some (.int (nI q)), none, none] [] h
  refine p_run (pc' := 1) [.iload_n 1] mkX7_lay (by decide +kernel) rfl rfl ?_
  refine p_callSv (cisSlot_ok w (k := k - 1) (by omega) _ _) ksX7_286 (by decide +kernel) (by omega) rfl rfl rfl rfl rfl ?_
  refine p_if_eq (off := 12) 16 (by decide +kernel) (by decide) (fun cq4 => ?_) (fun cq4 => ?_)
  · have cq4 := bI0.mp cq4
    exact absurd (in_nI (j := s) (lo := 0) (hi := 4) (by omega) (by omega) (by omega)) cq4
  · have cq4 := bI1.mp cq4
    refine p_run (pc' := 10) [.iload_n 2, .iconst 0, .iconst 3] mkX7_lay (by decide +kernel) rfl rfl ?_
    refine p_callSv (cwithin_ok w (k := k - 1) _ _ _ _) ksX7_68 (by decide +kernel) (by omega) rfl rfl rfl rfl rfl ?_
    refine p_if_ne (off := 6) 19 (by decide +kernel) (by decide) (fun cq13 => ?_) (fun cq13 => ?_)
    · have cq13 := bI1.mp cq13
      refine p_run (pc' := 21) [.iload_n 2, .iconst 1] mkX7_lay (by decide +kernel) rfl rfl ?_
      refine p_icmp_ne (off := 11) 32 (by decide +kernel) (by decide) (fun cq21 => ?_) (fun cq21 => ?_)
      · refine p_run (pc' := 34) [.iload_n 2, .iconst 2] mkX7_lay (by decide +kernel) rfl rfl ?_
        refine p_icmp_ne (off := 13) 47 (by decide +kernel) (by decide) (fun cq34 => ?_) (fun cq34 => ?_)
        · exact False.elim (by revert cq34; decide)
        · refine p_run (pc' := 38) [.iload_n 3] mkX7_lay (by decide +kernel) rfl rfl ?_
          refine p_callSv (cisSheet_ok w (k := k - 1) (by omega) _ _) ksX7_209 (by decide +kernel) (by omega) rfl rfl rfl rfl rfl ?_
          refine p_if_ne (off := 6) 47 (by decide +kernel) (by decide) (fun cq41 => ?_) (fun cq41 => ?_)
          · have cq41 := bI1.mp cq41
            refine p_run (pc' := 49) [.iload_n 2, .iconst 2] mkX7_lay (by decide +kernel) rfl rfl ?_
            refine p_icmp_ne (off := 18) 67 (by decide +kernel) (by decide) (fun cq49 => ?_) (fun cq49 => ?_)
            · exact False.elim (by revert cq49; decide)
            · refine p_run (pc' := 57) [.aload_n 0, .getfield 40, .iload_n 3] mkX7_lay (by decide +kernel) rfl rfl ?_
              refine p_aald (q) (by decide +kernel) (by decide) rfl (by decide) rfl (by omega) (rfSh q (by omega)) ?_
              refine p_callVv (cmiss_ok w (k := k - 1) _ (osS q hq) h) kvX7_212 (by decide +kernel) (Nat.lt_of_succ_lt (osS q (by omega)).1) (osS q (by omega)).2.1 (by omega) rfl rfl rfl rfl rfl ?_
              refine p_if_eq (off := 6) 67 (by decide +kernel) (by decide) (fun cq61 => ?_) (fun cq61 => ?_)
              · have cq61 := bI0.mp cq61
                exact absurd hno cq61
              · have cq61 := bI1.mp cq61
                refine p_run (pc' := 66) [.ldc 216] mkX7_lay (by decide +kernel) rfl rfl ?_
                refine p_iret rfl rfl (by decide +kernel) ?_
                exact ⟨rfl, rfl⟩
          · have cq41 := bI0.mp cq41
            exact absurd (in_nI (j := q) (lo := 0) (hi := 3) (by omega) (by omega) (by omega)) cq41
      · exact False.elim (by revert cq21; decide)
    · have cq13 := bI0.mp cq13
      exact absurd (show inR (nI 2) 0 3 from ⟨by decide, by decide⟩) cq13
set_option maxRecDepth 20000 in
set_option maxHeartbeats 4000000 in
theorem c_lay0 (w : Wt) {k : Nat} (hk : 200 ≤ k) (s : Nat) (hs : s < 5) (x : Int32) (h : Mm) : Ok w k MX7_lay [.ref 0, .int (nI s), .int (nI 0), .int x] h (Rv (h (75 + 4 * s) 0) (up (up h (75 + 4 * s) 0 (nI 0)) (75 + 4 * s) 1 x)) := by
  show Wp w k MX7_lay _ 0 [some (.ref 0), some (.int (nI s)), some (.int (nI 0)), some (.int x), none, none] [] h
  refine p_run (pc' := 1) [.iload_n 1] mkX7_lay (by decide +kernel) rfl rfl ?_
  refine p_callSv (cisSlot_ok w (k := k - 1) (by omega) _ _) ksX7_286 (by decide +kernel) (by omega) rfl rfl rfl rfl rfl ?_
  refine p_if_eq (off := 12) 16 (by decide +kernel) (by decide) (fun cq4 => ?_) (fun cq4 => ?_)
  · have cq4 := bI0.mp cq4
    exact absurd (in_nI (j := s) (lo := 0) (hi := 4) (by omega) (by omega) (by omega)) cq4
  · have cq4 := bI1.mp cq4
    refine p_run (pc' := 10) [.iload_n 2, .iconst 0, .iconst 3] mkX7_lay (by decide +kernel) rfl rfl ?_
    refine p_callSv (cwithin_ok w (k := k - 1) _ _ _ _) ksX7_68 (by decide +kernel) (by omega) rfl rfl rfl rfl rfl ?_
    refine p_if_ne (off := 6) 19 (by decide +kernel) (by decide) (fun cq13 => ?_) (fun cq13 => ?_)
    · have cq13 := bI1.mp cq13
      refine p_run (pc' := 21) [.iload_n 2, .iconst 1] mkX7_lay (by decide +kernel) rfl rfl ?_
      refine p_icmp_ne (off := 11) 32 (by decide +kernel) (by decide) (fun cq21 => ?_) (fun cq21 => ?_)
      · refine p_run (pc' := 34) [.iload_n 2, .iconst 2] mkX7_lay (by decide +kernel) rfl rfl ?_
        refine p_icmp_ne (off := 13) 47 (by decide +kernel) (by decide) (fun cq34 => ?_) (fun cq34 => ?_)
        · refine p_run (pc' := 49) [.iload_n 2, .iconst 2] mkX7_lay (by decide +kernel) rfl rfl ?_
          refine p_icmp_ne (off := 18) 67 (by decide +kernel) (by decide) (fun cq49 => ?_) (fun cq49 => ?_)
          · refine p_run (pc' := 72) [.aload_n 0, .getfield 47, .iload_n 1] mkX7_lay (by decide +kernel) rfl rfl ?_
            refine p_aald (s) (by decide +kernel) (by decide) rfl (by decide) rfl (by omega) (rfSl s (by omega)) ?_
            refine p_run (pc' := 77) [.astore 4, .aload 4] mkX7_lay (by decide +kernel) rfl rfl ?_
            refine p_getI (by decide +kernel) fo7_289 (obL s (by omega)).1 (obL s (by omega)).2.1 ((obL s (by omega)).2.2.1 _ (by decide)) ?_
            refine p_run (pc' := 85) [.istore 5, .aload 4, .iload_n 2] mkX7_lay (by decide +kernel) rfl rfl ?_
            refine p_put (by decide +kernel) fo7_289 (obL s (by omega)).1 (obL s (by omega)).2.1 rfl ((obL s (by omega)).2.2.1 _ (by decide)) ?_
            refine p_run (pc' := 90) [.iload_n 2, .iconst 1] mkX7_lay (by decide +kernel) rfl rfl ?_
            refine p_icmp_ne (off := 23) 113 (by decide +kernel) (by decide) (fun cq90 => ?_) (fun cq90 => ?_)
            · refine p_run (pc' := 115) [.iload_n 2, .iconst 2] mkX7_lay (by decide +kernel) rfl rfl ?_
              refine p_icmp_ne (off := 20) 135 (by decide +kernel) (by decide) (fun cq115 => ?_) (fun cq115 => ?_)
              · refine p_run (pc' := 138) [.aload 4, .iload_n 3] mkX7_lay (by decide +kernel) rfl rfl ?_
                refine p_put (by decide +kernel) fo7_306 (obL s (by omega)).1 (obL s (by omega)).2.1 rfl ((obL s (by omega)).2.2.1 _ (by decide)) ?_
                refine p_run (pc' := 143) [.iload 5] mkX7_lay (by decide +kernel) rfl rfl ?_
                refine p_iret rfl rfl (by decide +kernel) ?_
                exact ⟨rfl, rfl⟩
              · exact False.elim (by revert cq115; decide)
            · exact False.elim (by revert cq90; decide)
          · exact False.elim (by revert cq49; decide)
        · exact False.elim (by revert cq34; decide)
      · exact False.elim (by revert cq21; decide)
    · have cq13 := bI0.mp cq13
      exact absurd (show inR (nI 0) 0 3 from ⟨by decide, by decide⟩) cq13
set_option maxRecDepth 20000 in
set_option maxHeartbeats 4000000 in
theorem c_lay3 (w : Wt) {k : Nat} (hk : 200 ≤ k) (s : Nat) (hs : s < 5) (x : Int32) (h : Mm) : Ok w k MX7_lay [.ref 0, .int (nI s), .int (nI 3), .int x] h (Rv (h (75 + 4 * s) 0) (up (up h (75 + 4 * s) 0 (nI 3)) (75 + 4 * s) 1 x)) := by
  show Wp w k MX7_lay _ 0 [some (.ref 0), some (.int (nI s)), some (.int (nI 3)), some (.int x), none, none] [] h
  refine p_run (pc' := 1) [.iload_n 1] mkX7_lay (by decide +kernel) rfl rfl ?_
  refine p_callSv (cisSlot_ok w (k := k - 1) (by omega) _ _) ksX7_286 (by decide +kernel) (by omega) rfl rfl rfl rfl rfl ?_
  refine p_if_eq (off := 12) 16 (by decide +kernel) (by decide) (fun cq4 => ?_) (fun cq4 => ?_)
  · have cq4 := bI0.mp cq4
    exact absurd (in_nI (j := s) (lo := 0) (hi := 4) (by omega) (by omega) (by omega)) cq4
  · have cq4 := bI1.mp cq4
    refine p_run (pc' := 10) [.iload_n 2, .iconst 0, .iconst 3] mkX7_lay (by decide +kernel) rfl rfl ?_
    refine p_callSv (cwithin_ok w (k := k - 1) _ _ _ _) ksX7_68 (by decide +kernel) (by omega) rfl rfl rfl rfl rfl ?_
    refine p_if_ne (off := 6) 19 (by decide +kernel) (by decide) (fun cq13 => ?_) (fun cq13 => ?_)
    · have cq13 := bI1.mp cq13
      refine p_run (pc' := 21) [.iload_n 2, .iconst 1] mkX7_lay (by decide +kernel) rfl rfl ?_
      refine p_icmp_ne (off := 11) 32 (by decide +kernel) (by decide) (fun cq21 => ?_) (fun cq21 => ?_)
      · refine p_run (pc' := 34) [.iload_n 2, .iconst 2] mkX7_lay (by decide +kernel) rfl rfl ?_
        refine p_icmp_ne (off := 13) 47 (by decide +kernel) (by decide) (fun cq34 => ?_) (fun cq34 => ?_)
        · refine p_run (pc' := 49) [.iload_n 2, .iconst 2] mkX7_lay (by decide +kernel) rfl rfl ?_
          refine p_icmp_ne (off := 18) 67 (by decide +kernel) (by decide) (fun cq49 => ?_) (fun cq49 => ?_)
          · refine p_run (pc' := 72) [.aload_n 0, .getfield 47, .iload_n 1] mkX7_lay (by decide +kernel) rfl rfl ?_
            refine p_aald (s) (by decide +kernel) (by decide) rfl (by decide) rfl (by omega) (rfSl s (by omega)) ?_
            refine p_run (pc' := 77) [.astore 4, .aload 4] mkX7_lay (by decide +kernel) rfl rfl ?_
            refine p_getI (by decide +kernel) fo7_289 (obL s (by omega)).1 (obL s (by omega)).2.1 ((obL s (by omega)).2.2.1 _ (by decide)) ?_
            refine p_run (pc' := 85) [.istore 5, .aload 4, .iload_n 2] mkX7_lay (by decide +kernel) rfl rfl ?_
            refine p_put (by decide +kernel) fo7_289 (obL s (by omega)).1 (obL s (by omega)).2.1 rfl ((obL s (by omega)).2.2.1 _ (by decide)) ?_
            refine p_run (pc' := 90) [.iload_n 2, .iconst 1] mkX7_lay (by decide +kernel) rfl rfl ?_
            refine p_icmp_ne (off := 23) 113 (by decide +kernel) (by decide) (fun cq90 => ?_) (fun cq90 => ?_)
            · refine p_run (pc' := 115) [.iload_n 2, .iconst 2] mkX7_lay (by decide +kernel) rfl rfl ?_
              refine p_icmp_ne (off := 20) 135 (by decide +kernel) (by decide) (fun cq115 => ?_) (fun cq115 => ?_)
              · refine p_run (pc' := 138) [.aload 4, .iload_n 3] mkX7_lay (by decide +kernel) rfl rfl ?_
                refine p_put (by decide +kernel) fo7_306 (obL s (by omega)).1 (obL s (by omega)).2.1 rfl ((obL s (by omega)).2.2.1 _ (by decide)) ?_
                refine p_run (pc' := 143) [.iload 5] mkX7_lay (by decide +kernel) rfl rfl ?_
                refine p_iret rfl rfl (by decide +kernel) ?_
                exact ⟨rfl, rfl⟩
              · exact False.elim (by revert cq115; decide)
            · exact False.elim (by revert cq90; decide)
          · exact False.elim (by revert cq49; decide)
        · exact False.elim (by revert cq34; decide)
      · exact False.elim (by revert cq21; decide)
    · have cq13 := bI0.mp cq13
      exact absurd (show inR (nI 3) 0 3 from ⟨by decide, by decide⟩) cq13
set_option maxRecDepth 20000 in
set_option maxHeartbeats 4000000 in
theorem c_lay1 (w : Wt) {k : Nat} (hk : 200 ≤ k) (s q : Nat) (hs : s < 5) (N : Vc) (h : Mm) (hI : Iv N) (hP : PR 11 h N) (hT : TR h N) (hq : q < nd N) : Ok w k MX7_lay [.ref 0, .int (nI s), .int (nI 1), .int (nI q)] h (fun r h' => r = some (.int (h (75 + 4 * s) 0)) ∧ (∀ j, j < 5 → h' (76 + 4 * s) j = dK N q j) ∧ ∀ b, b ≠ 76 + 4 * s → h' b = up h (75 + 4 * s) 0 (nI 1) b) := by
  show Wp w k MX7_lay _ 0 [some (.ref 0), some (.int (nI s)), some (.int (nI 1)), some (.int (nI q)), none, none] [] h
  have hn10 := hI.nd.2
  have hD := isD_nI hI.nd.1 hq hn10
  refine p_run (pc' := 1) [.iload_n 1] mkX7_lay (by decide +kernel) rfl rfl ?_
  refine p_callSv (cisSlot_ok w (k := k - 1) (by omega) _ _) ksX7_286 (by decide +kernel) (by omega) rfl rfl rfl rfl rfl ?_
  refine p_if_eq (off := 12) 16 (by decide +kernel) (by decide) (fun cq4 => ?_) (fun cq4 => ?_)
  · have cq4 := bI0.mp cq4
    exact absurd (in_nI (j := s) (lo := 0) (hi := 4) (by omega) (by omega) (by omega)) cq4
  · have cq4 := bI1.mp cq4
    refine p_run (pc' := 10) [.iload_n 2, .iconst 0, .iconst 3] mkX7_lay (by decide +kernel) rfl rfl ?_
    refine p_callSv (cwithin_ok w (k := k - 1) _ _ _ _) ksX7_68 (by decide +kernel) (by omega) rfl rfl rfl rfl rfl ?_
    refine p_if_ne (off := 6) 19 (by decide +kernel) (by decide) (fun cq13 => ?_) (fun cq13 => ?_)
    · have cq13 := bI1.mp cq13
      refine p_run (pc' := 21) [.iload_n 2, .iconst 1] mkX7_lay (by decide +kernel) rfl rfl ?_
      refine p_icmp_ne (off := 11) 32 (by decide +kernel) (by decide) (fun cq21 => ?_) (fun cq21 => ?_)
      · exact False.elim (by revert cq21; decide)
      · refine p_run (pc' := 26) [.aload_n 0, .iload_n 3] mkX7_lay (by decide +kernel) rfl rfl ?_
        refine p_callVv (cisDigger_ok w (k := k - 1) (by omega) _ N _ hP.1.1) kvX7_84 (by decide +kernel) (by decide) rfl (by omega) rfl rfl rfl rfl rfl ?_
        refine p_if_eq (off := 15) 44 (by decide +kernel) (by decide) (fun cq29 => ?_) (fun cq29 => ?_)
        · have cq29 := bI0.mp cq29
          exact absurd (hD) cq29
        · have cq29 := bI1.mp cq29
          refine p_run (pc' := 34) [.iload_n 2, .iconst 2] mkX7_lay (by decide +kernel) rfl rfl ?_
          refine p_icmp_ne (off := 13) 47 (by decide +kernel) (by decide) (fun cq34 => ?_) (fun cq34 => ?_)
          · refine p_run (pc' := 49) [.iload_n 2, .iconst 2] mkX7_lay (by decide +kernel) rfl rfl ?_
            refine p_icmp_ne (off := 18) 67 (by decide +kernel) (by decide) (fun cq49 => ?_) (fun cq49 => ?_)
            · refine p_run (pc' := 72) [.aload_n 0, .getfield 47, .iload_n 1] mkX7_lay (by decide +kernel) rfl rfl ?_
              refine p_aald (s) (by decide +kernel) (by decide) rfl (by decide) rfl (by omega) (rfSl s (by omega)) ?_
              refine p_run (pc' := 77) [.astore 4, .aload 4] mkX7_lay (by decide +kernel) rfl rfl ?_
              refine p_getI (by decide +kernel) fo7_289 (obL s (by omega)).1 (obL s (by omega)).2.1 ((obL s (by omega)).2.2.1 _ (by decide)) ?_
              refine p_run (pc' := 85) [.istore 5, .aload 4, .iload_n 2] mkX7_lay (by decide +kernel) rfl rfl ?_
              refine p_put (by decide +kernel) fo7_289 (obL s (by omega)).1 (obL s (by omega)).2.1 rfl ((obL s (by omega)).2.2.1 _ (by decide)) ?_
              refine p_run (pc' := 90) [.iload_n 2, .iconst 1] mkX7_lay (by decide +kernel) rfl rfl ?_
              refine p_icmp_ne (off := 23) 113 (by decide +kernel) (by decide) (fun cq90 => ?_) (fun cq90 => ?_)
              · exact False.elim (by revert cq90; decide)
              · refine p_run (pc' := 95) [.aload 4] mkX7_lay (by decide +kernel) rfl rfl ?_
                refine p_getR (by decide +kernel) fo7_292 (obL s (by omega)).1 (obL s (by omega)).2.1 (obL s (by omega)).2.2.2.1 ?_
                refine p_run (pc' := 106) [.aload_n 0, .getfield 28, .getfield 87, .iload_n 3] mkX7_lay (by decide +kernel) rfl rfl ?_
                refine p_aald (q) (by decide +kernel) (by decide) rfl (by decide) rfl (by omega) (rfD11 q (by omega)) ?_
                refine p_callVo (dbec_ok w (k := k - 1) (76 + 4 * s) (11 + 7 + q) (obE s hs) (obD pp11 (by omega)) (by omega) (up h (75 + 4 * s) 0 (nI 1))) (fun _ _ q => q.1) kvX7_296 (by decide +kernel) (obE s (by omega)).1 (obE s (by omega)).2.1 (by omega) rfl rfl rfl rfl rfl (fun h' hq => ?_)
                obtain ⟨-, hD1, hD2⟩ := hq
                refine p_run (pc' := 143) [.goto 31, .iload 5] mkX7_lay (by decide +kernel) rfl rfl ?_
                refine p_iret rfl rfl (by decide +kernel) ?_
                exact ⟨rfl, fun j hj => by rw [hD1 j hj, upN (by omega)]; exact hP.2.2.1 q hq j hj, fun b hb => hD2 b hb⟩
            · exact False.elim (by revert cq49; decide)
          · exact False.elim (by revert cq34; decide)
    · have cq13 := bI0.mp cq13
      exact absurd (show inR (nI 1) 0 3 from ⟨by decide, by decide⟩) cq13
set_option maxRecDepth 20000 in
set_option maxHeartbeats 4000000 in
theorem c_lay2 (w : Wt) {k : Nat} (hk : 200 ≤ k) (s q : Nat) (hs : s < 5) (hq : q < 4) (h : Mm) (hno : ¬ h (66 + 2 * q) 1 = Int32.ofInt (-1)) : Ok w k MX7_lay [.ref 0, .int (nI s), .int (nI 2), .int (nI q)] h (Rv (h (75 + 4 * s) 0) (wr (up (up (up h (75 + 4 * s) 0 (nI 2)) (77 + 4 * s) 1 (up h (75 + 4 * s) 0 (nI 2) (66 + 2 * q) 1)) (77 + 4 * s) 2 (up h (75 + 4 * s) 0 (nI 2) (66 + 2 * q) 2)) (77 + 4 * s + 1) (spl (up h (75 + 4 * s) 0 (nI 2) (77 + 4 * s + 1)) 0 24 (fun k => up h (75 + 4 * s) 0 (nI 2) (66 + 2 * q + 1) k)))) := by
  show Wp w k MX7_lay _ 0 [some (.ref 0), some (.int (nI s)), some (.int (nI 2)), some (.int (nI q)), none, none] [] h
  refine p_run (pc' := 1) [.iload_n 1] mkX7_lay (by decide +kernel) rfl rfl ?_
  refine p_callSv (cisSlot_ok w (k := k - 1) (by omega) _ _) ksX7_286 (by decide +kernel) (by omega) rfl rfl rfl rfl rfl ?_
  refine p_if_eq (off := 12) 16 (by decide +kernel) (by decide) (fun cq4 => ?_) (fun cq4 => ?_)
  · have cq4 := bI0.mp cq4
    exact absurd (in_nI (j := s) (lo := 0) (hi := 4) (by omega) (by omega) (by omega)) cq4
  · have cq4 := bI1.mp cq4
    refine p_run (pc' := 10) [.iload_n 2, .iconst 0, .iconst 3] mkX7_lay (by decide +kernel) rfl rfl ?_
    refine p_callSv (cwithin_ok w (k := k - 1) _ _ _ _) ksX7_68 (by decide +kernel) (by omega) rfl rfl rfl rfl rfl ?_
    refine p_if_ne (off := 6) 19 (by decide +kernel) (by decide) (fun cq13 => ?_) (fun cq13 => ?_)
    · have cq13 := bI1.mp cq13
      refine p_run (pc' := 21) [.iload_n 2, .iconst 1] mkX7_lay (by decide +kernel) rfl rfl ?_
      refine p_icmp_ne (off := 11) 32 (by decide +kernel) (by decide) (fun cq21 => ?_) (fun cq21 => ?_)
      · refine p_run (pc' := 34) [.iload_n 2, .iconst 2] mkX7_lay (by decide +kernel) rfl rfl ?_
        refine p_icmp_ne (off := 13) 47 (by decide +kernel) (by decide) (fun cq34 => ?_) (fun cq34 => ?_)
        · exact False.elim (by revert cq34; decide)
        · refine p_run (pc' := 38) [.iload_n 3] mkX7_lay (by decide +kernel) rfl rfl ?_
          refine p_callSv (cisSheet_ok w (k := k - 1) (by omega) _ _) ksX7_209 (by decide +kernel) (by omega) rfl rfl rfl rfl rfl ?_
          refine p_if_ne (off := 6) 47 (by decide +kernel) (by decide) (fun cq41 => ?_) (fun cq41 => ?_)
          · have cq41 := bI1.mp cq41
            refine p_run (pc' := 49) [.iload_n 2, .iconst 2] mkX7_lay (by decide +kernel) rfl rfl ?_
            refine p_icmp_ne (off := 18) 67 (by decide +kernel) (by decide) (fun cq49 => ?_) (fun cq49 => ?_)
            · exact False.elim (by revert cq49; decide)
            · refine p_run (pc' := 57) [.aload_n 0, .getfield 40, .iload_n 3] mkX7_lay (by decide +kernel) rfl rfl ?_
              refine p_aald (q) (by decide +kernel) (by decide) rfl (by decide) rfl (by omega) (rfSh q (by omega)) ?_
              refine p_callVv (cmiss_ok w (k := k - 1) _ (osS q hq) h) kvX7_212 (by decide +kernel) (Nat.lt_of_succ_lt (osS q (by omega)).1) (osS q (by omega)).2.1 (by omega) rfl rfl rfl rfl rfl ?_
              refine p_if_eq (off := 6) 67 (by decide +kernel) (by decide) (fun cq61 => ?_) (fun cq61 => ?_)
              · have cq61 := bI0.mp cq61
                refine p_run (pc' := 72) [.aload_n 0, .getfield 47, .iload_n 1] mkX7_lay (by decide +kernel) rfl rfl ?_
                refine p_aald (s) (by decide +kernel) (by decide) rfl (by decide) rfl (by omega) (rfSl s (by omega)) ?_
                refine p_run (pc' := 77) [.astore 4, .aload 4] mkX7_lay (by decide +kernel) rfl rfl ?_
                refine p_getI (by decide +kernel) fo7_289 (obL s (by omega)).1 (obL s (by omega)).2.1 ((obL s (by omega)).2.2.1 _ (by decide)) ?_
                refine p_run (pc' := 85) [.istore 5, .aload 4, .iload_n 2] mkX7_lay (by decide +kernel) rfl rfl ?_
                refine p_put (by decide +kernel) fo7_289 (obL s (by omega)).1 (obL s (by omega)).2.1 rfl ((obL s (by omega)).2.2.1 _ (by decide)) ?_
                refine p_run (pc' := 90) [.iload_n 2, .iconst 1] mkX7_lay (by decide +kernel) rfl rfl ?_
                refine p_icmp_ne (off := 23) 113 (by decide +kernel) (by decide) (fun cq90 => ?_) (fun cq90 => ?_)
                · refine p_run (pc' := 115) [.iload_n 2, .iconst 2] mkX7_lay (by decide +kernel) rfl rfl ?_
                  refine p_icmp_ne (off := 20) 135 (by decide +kernel) (by decide) (fun cq115 => ?_) (fun cq115 => ?_)
                  · exact False.elim (by revert cq115; decide)
                  · refine p_run (pc' := 120) [.aload 4] mkX7_lay (by decide +kernel) rfl rfl ?_
                    refine p_getR (by decide +kernel) fo7_299 (obL s (by omega)).1 (obL s (by omega)).2.1 (obL s (by omega)).2.2.2.2 ?_
                    refine p_run (pc' := 128) [.aload_n 0, .getfield 40, .iload_n 3] mkX7_lay (by decide +kernel) rfl rfl ?_
                    refine p_aald (q) (by decide +kernel) (by decide) rfl (by decide) rfl (by omega) (rfSh q (by omega)) ?_
                    refine p_callVw (cbecA_ok w (k := k - 1) (by omega) (77 + 4 * s) (66 + 2 * q) (osL s hs) (osS q hq) (by omega) (by omega) (by omega) (up h (75 + 4 * s) 0 (nI 2))) kvX7_303 (by decide +kernel) (Nat.lt_of_succ_lt (osL s (by omega)).1) (osL s (by omega)).2.1 (by omega) rfl rfl rfl rfl rfl ?_
                    refine p_run (pc' := 143) [.goto 9, .iload 5] mkX7_lay (by decide +kernel) rfl rfl ?_
                    refine p_iret rfl rfl (by decide +kernel) ?_
                    exact ⟨rfl, rfl⟩
                · exact False.elim (by revert cq90; decide)
              · have cq61 := bI1.mp cq61
                exact absurd cq61 hno
          · have cq41 := bI0.mp cq41
            exact absurd (in_nI (j := q) (lo := 0) (hi := 3) (by omega) (by omega) (by omega)) cq41
      · exact False.elim (by revert cq21; decide)
    · have cq13 := bI0.mp cq13
      exact absurd (show inR (nI 2) 0 3 from ⟨by decide, by decide⟩) cq13
theorem st_lay (w : Wt) {k : Nat} (hk : 200 ≤ k) (a b c : Int32) (h : Mm) (hR : Rel h) : St w k MX7_lay MX8_lay [.int a, .int b, .int c] h := by
  obtain ⟨⟨hP, hI, hQ, hT, hq⟩, -⟩ := id hR
  have hS := hR.2.2.2.1
  have hL := hR.2.2.2.2.1
  by_cases hg : laP (h 97) a b c
  · obtain ⟨g1, g2, g3, g4⟩ := hg
    obtain ⟨s, -, hs, rfl⟩ := inR_of (by omega) (by omega) g1
    obtain ⟨th, -, hth, rfl⟩ := inR_of (by omega) (by omega) g2
    have hs : s < 5 := by omega
    have l0 := (hL s hs).1
    have z03 : ∀ th, (th = 0 ∨ th = 3) → Ok w k MX7_lay [.ref 0, .int (nI s), .int (nI th), .int c] h (Rv (h (75 + 4 * s) 0) (up (up h (75 + 4 * s) 0 (nI th)) (75 + 4 * s) 1 c)) := fun th e => by
      rcases e with rfl | rfl
      · exact c_lay0 w hk s hs c h
      · exact c_lay3 w hk s hs c h
    have r03 : ∀ th, (th = 0 ∨ th = 3) → ∀ h1 : Mm, Ok w k MX8_lay [.ref 96, .int (nI s), .int (nI th), .int c] h1 (Rv (h1 112 s) (up (up (up h1 112 s (nI th)) 113 s c) 114 s (nI 0))) := fun th e h1 => by
      rcases e with rfl | rfl
      · exact r_lay0 w (by omega) s hs c h1
      · exact r_lay3 w (by omega) s hs c h1
    rcases (show (th = 0 ∨ th = 3) ∨ th = 1 ∨ th = 2 by omega) with e | rfl | rfl
    · refine St.mk (z03 th e) (fun r h1 q => ⟨_, q.1, (r03 th e h1).imp (fun r2 h2 z => ⟨?_, ?_⟩)⟩)
      · rw [z.1, q.2, upN (by omega), upN (by omega), l0]
      · rw [z.2, q.2]
        refine hR.rl (fun x hx => by rw [upN (by omega), upN (by omega), upN (by omega), upN (by omega), upN (by omega)]) (hL.set hs (nI th) ?_ ?_ (In_nI (by omega) (by omega)) (fun q => absurd ((nI_eq (by omega) (by omega)).mp q) (by omega)) (fun q => absurd ((nI_eq (by omega) (by omega)).mp q) (by omega)) (fun _ => ?_) (fun t ht hne => ?_))
        · rw [upN (by omega), upN (by omega), upN (by omega), upS, upd_n (by decide), upS, upd_s]
        · rw [upN (by decide), upN (by decide), upS, upd_s]
        · rw [upN (by omega), upN (by omega), upN (by omega), upS, upd_s, upN (by decide), upS, upd_s]
        · refine ⟨by rw [upN (by omega), upN (by omega), upN (by omega), upN (by omega), upN (by omega)], by rw [upN (by omega), upN (by omega), upN (by omega), upN (by omega), upN (by omega)], by rw [upN (by omega), upN (by omega), upN (by omega), upN (by omega), upN (by omega)], by rw [upN (by omega), upN (by omega), upN (by omega), upN (by omega), upN (by omega)], ?_, ?_, ?_, fun k hk2 => ?_⟩
          · rw [upN (by decide), upN (by decide), upS, upd_n hne, upN (by omega), upN (by omega)]
          · rw [upN (by decide), upS, upd_n hne, upN (by decide), upN (by omega), upN (by omega)]
          · rw [upS, upd_n hne, upN (by decide), upN (by decide), upN (by omega), upN (by omega)]
          · rw [upN (by decide), upN (by decide), upN (by decide), upN (by omega), upN (by omega)]
    · obtain ⟨q, hq', rfl⟩ := isD_of hI.nd.1 hI.nd.2 (g3 rfl)
      have hn10 := hI.nd.2
      have hK := hI.2.2.2.2.2.1 q (by omega)
      refine St.mk (c_lay1 w hk s q hs (h 97) h hI hP hT hq') (fun r h1 z1 => ?_)
      obtain ⟨y1, y2, y3⟩ := z1
      have e97 : h1 97 = h 97 := by rw [y3 97 (by omega), upN (by omega)]
      refine ⟨_, y1, (r_lay1 w (by omega) s q hs h1 (by rw [e97]; exact hI) (by rw [e97]; exact hq')).imp (fun r2 h2 z => ⟨?_, ?_⟩)⟩
      · rw [z.1, y3 112 (by omega), upN (by omega), l0]
      · rw [z.2, e97]
        clear z
        have zz : ∀ x, x ≠ 112 → x ≠ 113 → x ≠ 114 → x ≠ 76 + 4 * s → x ≠ 75 + 4 * s → up (up (up h1 112 s (nI 1)) 113 s (dK (h 97) q 0)) 114 s (woF (h 97) q) x = h x := fun x n1 n2 n3 n4 n5 => by rw [upN n3, upN n2, upN n1, y3 x n4, upN n5]
        have z1 : ∀ x, x = 112 ∨ x = 113 ∨ x = 114 → h1 x = h x := fun x n => by rw [y3 x (by omega), upN (by omega)]
        refine hR.rl (fun x hx => zz x (by omega) (by omega) (by omega) (by omega) (by omega)) (hL.set hs (nI 1) ?_ ?_ (In_nI (by omega) (by omega)) (fun _ => ?_) (fun q => absurd ((nI_eq (by omega) (by omega)).mp q) (by omega)) (fun q => absurd ((nI_eq (by omega) (by omega)).mp q) (by omega)) (fun t ht hne => ?_))
        · rw [upN (by omega), upN (by omega), upN (by omega), y3 _ (by omega), upS, upd_s]
        · rw [upN (by decide), upN (by decide), upS, upd_s]
        · rw [upN (by omega), upN (by omega), upN (by omega), y2 0 (by omega), upN (by decide), upS, upd_s, upS, upd_s]
          exact ⟨rfl, hK.1, by rw [woF_wV]; exact wV_congr (fun j hj => y2 j hj)⟩
        · refine ⟨zz _ (by omega) (by omega) (by omega) (by omega) (by omega), zz _ (by omega) (by omega) (by omega) (by omega) (by omega), zz _ (by omega) (by omega) (by omega) (by omega) (by omega), zz _ (by omega) (by omega) (by omega) (by omega) (by omega), ?_, ?_, ?_, fun k hk2 => by rw [zz _ (by omega) (by omega) (by omega) (by omega) (by omega)]⟩
          · rw [upN (by decide), upN (by decide), upS, upd_n hne, z1 _ (by omega)]
          · rw [upN (by decide), upS, upd_n hne, upN (by decide), z1 _ (by omega)]
          · rw [upS, upd_n hne, upN (by decide), upN (by decide), z1 _ (by omega)]
    · obtain ⟨q, -, hq4, rfl⟩ := inR_of (by omega) (by omega) (g4 rfl)
      have hq4 : q < 4 := by omega
      obtain ⟨a1, a2, a3, a4, a5⟩ := hS q hq4
      by_cases hm : h 109 q < 0
      · exact St.word hR (c_lay_no w hk s q hs hq4 h ((hS.nm hq4).mp hm)) (r_lay_no w (by omega) s q hs hq4 h hm)
      · refine St.mk (c_lay2 w hk s q hs hq4 h (fun z => hm ((hS.nm hq4).mpr z))) (fun r h1 z1 => ⟨_, z1.1, ?_⟩)
        have y := z1.2
        rw [upN (a := 75 + 4 * s) (by omega), upN (a := 75 + 4 * s) (by omega), upN (a := 75 + 4 * s) (by omega)] at y
        have yy : ∀ x, x ≠ 75 + 4 * s → x ≠ 77 + 4 * s → x ≠ 77 + 4 * s + 1 → h1 x = h x := fun x n1 n2 n3 => by rw [y, wrN n3, upN n2, upN n2, upN n1]
        have y75 : h1 (75 + 4 * s) 0 = nI 2 := by rw [y, wrN (by omega), upN (by omega), upN (by omega), upS, upd_s]
        have y77 : h1 (77 + 4 * s) 2 = h (66 + 2 * q) 2 := by rw [y, wrN (by omega), upS, upd_s]
        have y78 : h1 (77 + 4 * s + 1) = spl (h (77 + 4 * s + 1)) 0 24 (fun k => h (66 + 2 * q + 1) k) := by rw [y, wrS]
        have e109 := yy 109 (by omega) (by omega) (by omega)
        have e110 := yy 110 (by omega) (by omega) (by omega)
        have e111 := yy 111 (by omega) (by omega) (by omega)
        refine (r_lay2 w (by omega) s q hs hq4 h1 (by rw [e109]; exact hm)).imp (fun r2 h2 z => ⟨?_, ?_⟩)
        · rw [z.1, yy 112 (by omega) (by omega) (by omega), l0]
        · rw [z.2, e110, e111]
          clear z
          have zz : ∀ x, ¬ (112 ≤ x ∧ x ≤ 115) → wr (up (up (up h1 112 s (nI 2)) 113 s (h 110 q)) 114 s (nI 0)) 115 (spl (h1 115) (24 * s) 24 (fun k => h 111 (24 * q + k))) x = h1 x := fun x n => by rw [wrN (by omega), upN (by omega), upN (by omega), upN (by omega)]
          refine hR.rl (fun x hx => (zz x hx.2).trans (yy x (by omega) (by omega) (by omega))) (hL.set hs (nI 2) ?_ ?_ (In_nI (by omega) (by omega)) (fun q => absurd ((nI_eq (by omega) (by omega)).mp q) (by omega)) (fun _ => ?_) (fun q => absurd ((nI_eq (by omega) (by omega)).mp q) (by omega)) (fun t ht hne => ?_))
          · rw [zz _ (by omega)]; exact y75
          · rw [wrN (by decide), upN (by decide), upN (by decide), upS, upd_s]
          · rw [zz (77 + 4 * s) (by omega), zz (77 + 4 * s + 1) (by omega), y77, y78, wrN (a := 115) (by decide), upN (a := 114) (by decide), upS, upd_s, wrS]
            refine ⟨a2, a5, fun k hk2 => ?_⟩
            unfold spl
            rw [if_pos (by omega), if_pos (by omega)]
            show h (66 + 2 * q + 1) (k - 0) = h 111 (24 * q + (24 * s + k - 24 * s))
            rw [a3 _ (by omega)]
            congr 1
            omega
          · refine ⟨(zz _ (by omega)).trans (yy _ (by omega) (by omega) (by omega)), (zz _ (by omega)).trans (yy _ (by omega) (by omega) (by omega)), (zz _ (by omega)).trans (yy _ (by omega) (by omega) (by omega)), (zz _ (by omega)).trans (yy _ (by omega) (by omega) (by omega)), ?_, ?_, ?_, fun k hk2 => ?_⟩
            · rw [wrN (by decide), upN (by decide), upN (by decide), upS, upd_n hne, yy _ (by omega) (by omega) (by omega)]
            · rw [wrN (by decide), upN (by decide), upS, upd_n hne, upN (by decide), yy _ (by omega) (by omega) (by omega)]
            · rw [wrN (by decide), upS, upd_n hne, upN (by decide), upN (by decide), yy _ (by omega) (by omega) (by omega)]
            · rw [wrS]
              unfold spl
              rw [if_neg (by omega), yy _ (by omega) (by omega) (by omega)]
  · exact St.word hR (c_lay_bad w hk a b c (h 97) h hP hg) (r_lay_bad w (by omega) a b c h hg)
