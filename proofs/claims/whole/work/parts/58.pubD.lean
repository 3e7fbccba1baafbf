/-! light, ask, item, rest -/
theorem liP_iff {N : Vc} {n s : Nat} {v : Int32} : liP N n v s = true ↔ v ≤ hlF (nsF (poF N s (nd N)) n) := by unfold liP; exact @decide_eq_true_iff _ (Classical.propDecidable _)
set_option maxRecDepth 20000 in
set_option maxHeartbeats 4000000 in
theorem c_light_bad (w : Wt) {k : Nat} (hk : 200 ≤ k) (a b : Int32) (N : Vc) (h : Mm) (hP : PR 11 h N)  (hb : ¬ (inR a 0 10 ∧ inR b 0 9999)) : Ok w k MX7_light [.ref 0, .int a, .int b] h (Rv BADv h) := by
  show Wp w k MX7_light _ 0 [some (.ref 0), some (.int a), some (.int b), none, none, none, none, none] [] h
  refine p_run (pc' := 4) [.iload_n 1, .iconst 0, .bipush 10] mkX7_light (by decide +kernel) rfl rfl ?_
  refine p_callSv (cwithin_ok w (k := k - 1) _ _ _ _) ksX7_68 (by decide +kernel) (by omega) rfl rfl rfl rfl rfl ?_
  refine p_if_eq (off := 14) 21 (by decide +kernel) (by decide) (fun cq7 => ?_) (fun cq7 => ?_)
  · have cq7 := bI0.mp cq7
    refine p_run (pc' := 23) [.ldc 75] mkX7_light (by decide +kernel) rfl rfl ?_
    refine p_iret rfl rfl (by decide +kernel) ?_
    exact ⟨rfl, rfl⟩
  · have cq7 := bI1.mp cq7
    refine p_run (pc' := 15) [.iload_n 2, .iconst 0, .sipush 9999] mkX7_light (by decide +kernel) rfl rfl ?_
    refine p_callSv (cwithin_ok w (k := k - 1) _ _ _ _) ksX7_68 (by decide +kernel) (by omega) rfl rfl rfl rfl rfl ?_
    refine p_if_ne (off := 6) 24 (by decide +kernel) (by decide) (fun cq18 => ?_) (fun cq18 => ?_)
    · have cq18 := bI1.mp cq18
      exact absurd (⟨cq7, cq18⟩) hb
    · have cq18 := bI0.mp cq18
      refine p_run (pc' := 23) [.ldc 75] mkX7_light (by decide +kernel) rfl rfl ?_
      refine p_iret rfl rfl (by decide +kernel) ?_
      exact ⟨rfl, rfl⟩
set_option maxRecDepth 20000 in
set_option maxHeartbeats 4000000 in
theorem c_light (w : Wt) {k : Nat} (hk : 200 ≤ k) (n V : Nat) (N : Vc) (h : Mm) (hI : Iv N) (hP : PR 11 h N) (hT : TR h N) (hn : n ≤ 10) (hV : V ≤ 9999) : Ok w k MX7_light [.ref 0, .int (nI n), .int (nI V)] h (Rp (oN (liF (liP N n (nI V)) (2 ^ nd N))) h) := by
  show Wp w k MX7_light _ 0 [some (.ref 0), some (.int (nI n)), some (.int (nI V)), none, none, none, none, none] [] h
  obtain ⟨en, hn10⟩ := hI.nd
  have hE := EN_le hI
  have hD := DN_le hI
  have hl2 : litN N < 2 ^ nd N := setF_lt _ _
  have h10 : 2 ^ nd N ≤ 1024 := Nat.pow_le_pow_right (by omega : 0 < 2) hn10
  have key : ∀ i, (∀ s, s < 2 ^ nd N → liP N n (nI V) s = true → i ≤ pcF s) → ∀ s, s < 2 ^ nd N → liP N n (nI V) s = true → ¬ s &&& litN N = s → pcF s ≠ i := fun i hi s hs hp hne e => by
    have q1 := li_and hI hV hp
    have q2 := pc_and (l := litN N) (show s < 1024 by omega) hne
    have q3 := hi (s &&& litN N) (Nat.lt_of_le_of_lt Nat.and_le_left hs) q1
    omega
  refine p_run (pc' := 4) [.iload_n 1, .iconst 0, .bipush 10] mkX7_light (by decide +kernel) rfl rfl ?_
  refine p_callSv (cwithin_ok w (k := k - 1) _ _ _ _) ksX7_68 (by decide +kernel) (by omega) rfl rfl rfl rfl rfl ?_
  refine p_if_eq (off := 14) 21 (by decide +kernel) (by decide) (fun cq7 => ?_) (fun cq7 => ?_)
  · have cq7 := bI0.mp cq7
    exact absurd (in_nI (j := n) (lo := 0) (hi := 10) (by omega) (by omega) (by omega)) cq7
  · have cq7 := bI1.mp cq7
    refine p_run (pc' := 15) [.iload_n 2, .iconst 0, .sipush 9999] mkX7_light (by decide +kernel) rfl rfl ?_
    refine p_callSv (cwithin_ok w (k := k - 1) _ _ _ _) ksX7_68 (by decide +kernel) (by omega) rfl rfl rfl rfl rfl ?_
    refine p_if_ne (off := 6) 24 (by decide +kernel) (by decide) (fun cq18 => ?_) (fun cq18 => ?_)
    · have cq18 := bI1.mp cq18
      refine p_run (pc' := 29) [.iload_n 2, .aload_n 0, .getfield 28] mkX7_light (by decide +kernel) rfl rfl ?_
      refine p_callVv (chill11 w (k := k - 1) N h hI hP) kvX7_165 (by decide +kernel) (by decide) rfl (by omega) rfl rfl rfl rfl rfl ?_
      rw [show sumF (fun d => dK N d 4) (nd N) = nI (EN N) from hl_nI hI]
      refine p_run (pc' := 39) [.isub, .istore_n 3, .iload_n 3, .aload_n 0, .getfield 28] mkX7_light (by decide +kernel) rfl rfl ?_
      refine p_callVv (croom w (k := k - 1) (by omega) N h hI hP) kvX7_195 (by decide +kernel) (by decide) rfl (by omega) rfl rfl rfl rfl rfl ?_
      rw [dug_nI hI, nIs (a := 3996) hD]
      refine p_icmp_le (off := 6) 48 (by decide +kernel) (by decide) (fun cq42 => ?_) (fun cq42 => ?_)
      · rw [subI (by omega) (by omega) (by omega)] at cq42
        refine p_run (pc' := 52) [.aload_n 0, .getfield 28] mkX7_light (by decide +kernel) rfl rfl ?_
        refine p_callVv (clit w (k := k - 1) (by omega) N h hI hP) kvX7_198 (by decide +kernel) (by decide) rfl (by omega) rfl rfl rfl rfl rfl ?_
        rw [show setF (fun i => decide (0 < dK N i 2)) (nd N) = litN N from rfl]
        refine p_run (pc' := 60) [.istore 4, .iconst 0, .istore 5] mkX7_light (by decide +kernel) rfl rfl ?_
        refine Wp.for (nd N + 1) (fun i L hh => ∃ (x6 x7 : Option Value), L = [some (.ref 0), some (.int (nI n)), some (.int (nI V)), some (.int (nI V - nI (EN N))), some (.int (nI (litN N))), some (.int (nI i)), x6, x7] ∧ (Fp 47 h hh ∧ ∀ s, s < 2 ^ nd N → liP N n (nI V) s = true → i ≤ pcF s)) ?_ ?_ (0) (by omega) _ _ ?_
        · rintro z L hh hz ⟨x6, x7, rfl, hJ⟩ ih
          obtain ⟨hF, hO⟩ := hJ
          have ih1 := ih
          refine p_run (pc' := 69) [.iload 5, .aload_n 0, .getfield 28, .getfield 76] mkX7_light (by decide +kernel) rfl rfl ?_
          rw [(hP.of (fun a h1 h2 => hF a (by omega) (by omega) (by omega)) hn10).1.1, en]
          refine p_icmp_gt (off := 110) 179 (by decide +kernel) (by decide) (fun cqh => ?_) (fun cqh => ?_)
          · exact absurd cqh (Int32.not_lt.mpr (nI_le (by omega) (by omega)))
          · refine p_run (pc' := 80) [.iload_n 3, .iload 5, .iload_n 1, .imul, .bipush 100, .imul] mkX7_light (by decide +kernel) rfl rfl ?_
            rw [show nI z * nI n * Int32.ofInt 100 = nI (z * n * 100) by rw [oI, mulI, mulI]]
            have hin : z * n * 100 ≤ 100000 := by have h1 : z * n ≤ 10 * 10 := Nat.mul_le_mul (by omega) (by omega); omega
            refine p_icmp_gt (off := 7) 87 (by decide +kernel) (by decide) (fun cq80 => ?_) (fun cq80 => ?_)
            · have few : ¬ V ≤ EN N + z * n * 100 := fun q => Int32.not_le.mpr cq80 ((subI (by omega) (by omega) (by omega)).mpr q)
              refine p_run (pc' := 95) [.iconst 0, .istore 6, .iconst 0, .istore 7, .iload 6] mkX7_light (by decide +kernel) rfl rfl ?_
              refine p_if_eq (off := 78) 173 (by decide +kernel) (by decide) (fun cq95 => ?_) (fun cq95 => ?_)
              · refine p_run (pc' := 60) [.iinc 5 1, .goto (-116)] mkX7_light (by decide +kernel) rfl rfl ?_
                exact ih1 _ _ ⟨_, _, by rw [show nI z + Int32.ofInt 1 = nI (z + 1) by simp only [oI, nI_add]], hF, fun s hs hp => by have q1 := hO s hs hp; have q2 := (li_bound hI hV hp).2; exact (Classical.em (pcF s = z)).elim (fun e => by rw [e] at q2; exact absurd q2 few) (fun e => by omega)⟩
              · exact False.elim (cq95 (by decide))
            · refine p_run (pc' := 93) [.iconst 1, .goto 4, .istore 6, .iconst 0, .istore 7] mkX7_light (by decide +kernel) rfl rfl ?_
              refine Wp.for (litN N + 1) (fun i L hh => L = [some (.ref 0), some (.int (nI n)), some (.int (nI V)), some (.int (nI V - nI (EN N))), some (.int (nI (litN N))), some (.int (nI z)), some (.int (Int32.ofInt 1)), some (.int (nI i))] ∧ (Fp 47 h hh ∧ ∀ s, s < i → liP N n (nI V) s = true → pcF s ≠ z)) ?_ ?_ (0) (by omega) _ _ ?_
              · rintro m L hh hm ⟨rfl, hJ⟩ ih
                obtain ⟨hF, hU⟩ := hJ
                refine p_run (pc' := 95) [.iload 6] mkX7_light (by decide +kernel) rfl rfl ?_
                refine p_if_eq (off := 78) 173 (by decide +kernel) (by decide) (fun cq95 => ?_) (fun cq95 => ?_)
                · exact False.elim (by revert cq95; decide)
                · refine p_run (pc' := 102) [.iload 7, .iload 4] mkX7_light (by decide +kernel) rfl rfl ?_
                  refine p_icmp_gt (off := 71) 173 (by decide +kernel) (by decide) (fun cq102 => ?_) (fun cq102 => ?_)
                  · exact absurd cq102 (Int32.not_lt.mpr (nI_le (by omega) (by omega)))
                  · refine p_run (pc' := 112) [.iload 7, .iload 4, .iconst (-1), .ixor, .iand] mkX7_light (by decide +kernel) rfl rfl ?_
                    skip
                    refine p_if_ne (off := 55) 167 (by decide +kernel) (by decide) (fun cq112 => ?_) (fun cq112 => ?_)
                    · refine p_run (pc' := 93) [.iinc 7 1, .goto (-77)] mkX7_light (by decide +kernel) rfl rfl ?_
                      exact ih _ _ ⟨by rw [show nI m + Int32.ofInt 1 = nI (m + 1) by simp only [oI, nI_add]], hF, fun s hs hp => (Classical.em (s = m)).elim (fun e => by rw [e]; rw [e] at hp; exact key z hO m (by omega) hp (fun q => cq112 ((and_not m (litN N) (by omega) (by omega)).mpr q))) (fun e => hU s (by omega) hp)⟩
                    · refine p_run (pc' := 117) [.iload 7] mkX7_light (by decide +kernel) rfl rfl ?_
                      refine p_callSv (bitCount_ok w (k := k - 1) m (by omega) hh) ksX7_201 (by decide +kernel) (by omega) rfl rfl rfl rfl rfl ?_
                      refine p_run (pc' := 122) [.iload 5] mkX7_light (by decide +kernel) rfl rfl ?_
                      refine p_icmp_ne (off := 45) 167 (by decide +kernel) (by decide) (fun cq122 => ?_) (fun cq122 => ?_)
                      · refine p_run (pc' := 93) [.iinc 7 1, .goto (-77)] mkX7_light (by decide +kernel) rfl rfl ?_
                        exact ih _ _ ⟨by rw [show nI m + Int32.ofInt 1 = nI (m + 1) by simp only [oI, nI_add]], hF, fun s hs hp => (Classical.em (s = m)).elim (fun e => by rw [e]; rw [e] at hp; exact (fun q => cq122 (by rw [q]))) (fun e => hU s (by omega) hp)⟩
                      · have hpc : pcF m = z := (nI_eq (by have := pc_le (s := m) (n := nd N) (by omega); omega) (by omega)).mp cq122
                        refine p_run (pc' := 133) [.aload_n 0, .getfield 35, .aload_n 0, .getfield 28] mkX7_light (by decide +kernel) rfl rfl ?_
                        refine p_callVo (cbec47_11 w (k := k - 1) (by omega) N hh hI (hP.of (fun a h1 h2 => hF a (by omega) (by omega) (by omega)) hn10)) (fun _ _ q => q.1) kvX7_190 (by decide +kernel) (by decide) rfl (by omega) rfl rfl rfl rfl rfl (fun h' hq => ?_)
                        obtain ⟨-, hR1, hF1⟩ := hq
                        rename Mm => h1
                        refine p_run (pc' := 142) [.aload_n 0, .getfield 35, .iload 7] mkX7_light (by decide +kernel) rfl rfl ?_
                        refine p_callVo (cputOut w (k := k - 1) m (by omega) N h1 hI hR1) (fun _ _ q => q.1) kvX7_206 (by decide +kernel) (by decide) rfl (by omega) rfl rfl rfl rfl rfl (fun h' hq => ?_)
                        obtain ⟨-, hR2, hF2⟩ := hq
                        rename Mm => h2
                        have hI2 := poF_Iv hI m (nd N) hn10
                        have hT2 : TR h2 (poF N m (nd N)) := (hT.fp pp47 ((hF.tr hF1).tr hF2)).po hn10
                        refine p_run (pc' := 150) [.aload_n 0, .getfield 35, .iload_n 1] mkX7_light (by decide +kernel) rfl rfl ?_
                        refine p_callVo (cpass47 w (k := k - 1) (by omega) n (by omega) (poF N m (nd N)) h2 hI2 hR2 hT2) (fun _ _ q => q.1) kvX7_171 (by decide +kernel) (by decide) rfl (by omega) rfl rfl rfl rfl rfl (fun h' hq => ?_)
                        obtain ⟨-, hR3, hF3⟩ := hq
                        rename Mm => h3
                        refine p_run (pc' := 157) [.aload_n 0, .getfield 35] mkX7_light (by decide +kernel) rfl rfl ?_
                        refine p_callVv (chill47 w (k := k - 1) (nsF (poF N m (nd N)) n) h3 (nsF_Iv hI2 n) hR3) kvX7_165 (by decide +kernel) (by decide) rfl (by omega) rfl rfl rfl rfl rfl ?_
                        refine p_run (pc' := 161) [.iload_n 2] mkX7_light (by decide +kernel) rfl rfl ?_
                        refine p_icmp_lt (off := 6) 167 (by decide +kernel) (by decide) (fun cq161 => ?_) (fun cq161 => ?_)
                        · refine p_run (pc' := 93) [.iinc 7 1, .goto (-77)] mkX7_light (by decide +kernel) rfl rfl ?_
                          exact ih _ _ ⟨by rw [show nI m + Int32.ofInt 1 = nI (m + 1) by simp only [oI, nI_add]], ((hF.tr hF1).tr hF2).tr hF3, fun s hs hp => (Classical.em (s = m)).elim (fun e => by rw [e]; rw [e] at hp; exact absurd (liP_iff.mp hp) (Int32.not_le.mpr cq161)) (fun e => hU s (by omega) hp)⟩
                        · refine p_run (pc' := 166) [.iload 7] mkX7_light (by decide +kernel) rfl rfl ?_
                          refine p_iret rfl rfl (by decide +kernel) ?_
                          exact ⟨by rw [li_some (m := m) (by omega) (liP_iff.mpr (Int32.not_lt.mp cq161)) (fun s hs hp => by rw [hpc]; exact hO s hs hp) (fun s hs hp => by rw [hpc]; exact hU s hs hp)]; rfl, ((hF.tr hF1).tr hF2).tr hF3⟩
              · rintro L hh ⟨rfl, hJ⟩
                obtain ⟨hF, hU⟩ := hJ
                refine p_run (pc' := 95) [.iload 6] mkX7_light (by decide +kernel) rfl rfl ?_
                refine p_if_eq (off := 78) 173 (by decide +kernel) (by decide) (fun cq95 => ?_) (fun cq95 => ?_)
                · exact False.elim (by revert cq95; decide)
                · refine p_run (pc' := 102) [.iload 7, .iload 4] mkX7_light (by decide +kernel) rfl rfl ?_
                  refine p_icmp_gt (off := 71) 173 (by decide +kernel) (by decide) (fun cq102 => ?_) (fun cq102 => ?_)
                  · refine p_run (pc' := 60) [.iinc 5 1, .goto (-116)] mkX7_light (by decide +kernel) rfl rfl ?_
                    exact ih1 _ _ ⟨_, _, by rw [show nI z + Int32.ofInt 1 = nI (z + 1) by simp only [oI, nI_add]], hF, fun s hs hp => by have q1 := hO s hs hp; exact (Classical.em (pcF s = z)).elim (fun e => (Classical.em (s &&& litN N = s)).elim (fun e2 => absurd e (hU s (by have := Nat.and_le_right (n := s) (m := litN N); omega) hp)) (fun e2 => absurd e (key z hO s hs hp e2))) (fun e => by omega)⟩
                  · exact absurd (nI_lt (by omega) (by omega)) cq102
              · exact ⟨rfl, hF, fun s hs => by omega⟩
        · rintro L hh ⟨x6, x7, rfl, hJ⟩
          obtain ⟨hF, hO⟩ := hJ
          refine p_run (pc' := 69) [.iload 5, .aload_n 0, .getfield 28, .getfield 76] mkX7_light (by decide +kernel) rfl rfl ?_
          rw [(hP.of (fun a h1 h2 => hF a (by omega) (by omega) (by omega)) hn10).1.1, en]
          refine p_icmp_gt (off := 110) 179 (by decide +kernel) (by decide) (fun cqh => ?_) (fun cqh => ?_)
          · refine p_run (pc' := 181) [.ldc 194] mkX7_light (by decide +kernel) rfl rfl ?_
            refine p_iret rfl rfl (by decide +kernel) ?_
            exact ⟨by rw [li_none (fun s hs hp => by have q1 := hO s hs hp; have q2 := pc_le hs; omega)]; rfl, hF⟩
          · exact absurd (nI_lt (by omega) (by omega)) cqh
        · exact ⟨_, _, rfl, Fp.rf, fun _ _ _ => Nat.zero_le _⟩
      · refine p_run (pc' := 47) [.ldc 194] mkX7_light (by decide +kernel) rfl rfl ?_
        refine p_iret rfl rfl (by decide +kernel) ?_
        exact ⟨by rw [li_none (fun s hs hp => cq42 ((subI (by omega) (by omega) (by omega)).mpr (by have := (li_bound hI hV hp).1; omega)))]; rfl, Fp.rf⟩
    · have cq18 := bI0.mp cq18
      exact absurd (in_nI (j := V) (lo := 0) (hi := 9999) (by omega) (by omega) (by omega)) cq18
theorem st_light (w : Wt) {k : Nat} (hk : 200 ≤ k) (a b : Int32) (h : Mm) (hR : Rel h) : St w k MX7_light MX8_light [.int a, .int b] h := by
  obtain ⟨⟨hP, hI, hQ, hT, hq⟩, -⟩ := id hR
  by_cases hg : inR a 0 10 ∧ inR b 0 9999
  · obtain ⟨n, -, hn, rfl⟩ := inR_of (by omega) (by omega) hg.1
    obtain ⟨V, -, hV, rfl⟩ := inR_of (by omega) (by omega) hg.2
    exact St.pure hR (c_light w hk n V (h 97) h hI hP hT hn hV) (fun h1 hF => by
      have e : h1 97 = h 97 := hF 97 (by omega) (by omega) (by omega)
      exact (r_light w (by omega) n hn (nI V) hg.2 h1 (by rw [e]; exact hI) (by rw [e]; exact hQ)).imp (fun r h2 z => ⟨by rw [z.1, e], Ag3 z.2⟩))
  · exact St.word hR (c_light_bad w hk a b (h 97) h hP hg) (r_light_bad w (by omega) a b h hg)
set_option maxRecDepth 20000 in
set_option maxHeartbeats 4000000 in
theorem c_ask_bad (w : Wt) {k : Nat} (hk : 200 ≤ k) (a b : Int32) (N : Vc) (h : Mm) (hP : PR 11 h N)  (hb : ¬ (inR a 0 4 ∧ inR b 0 5)) : Ok w k MX7_ask [.ref 0, .int a, .int b] h (Rv BADv h) := by
  show Wp w k MX7_ask _ 0 [some (.ref 0), some (.int a), some (.int b), none] [] h
  refine p_run (pc' := 1) [.iload_n 1] mkX7_ask (by decide +kernel) rfl rfl ?_
  refine p_callSv (cisSlot_ok w (k := k - 1) (by omega) _ _) ksX7_286 (by decide +kernel) (by omega) rfl rfl rfl rfl rfl ?_
  refine p_if_eq (off := 10) 14 (by decide +kernel) (by decide) (fun cq4 => ?_) (fun cq4 => ?_)
  · have cq4 := bI0.mp cq4
    refine p_run (pc' := 16) [.ldc 75] mkX7_ask (by decide +kernel) rfl rfl ?_
    refine p_iret rfl rfl (by decide +kernel) ?_
    exact ⟨rfl, rfl⟩
  · have cq4 := bI1.mp cq4
    refine p_run (pc' := 8) [.iload_n 2] mkX7_ask (by decide +kernel) rfl rfl ?_
    refine p_callSv (cisKind_ok w (k := k - 1) (by omega) _ _) ksX7_64 (by decide +kernel) (by omega) rfl rfl rfl rfl rfl ?_
    refine p_if_ne (off := 6) 17 (by decide +kernel) (by decide) (fun cq11 => ?_) (fun cq11 => ?_)
    · have cq11 := bI1.mp cq11
      exact absurd (⟨cq4, cq11⟩) hb
    · have cq11 := bI0.mp cq11
      refine p_run (pc' := 16) [.ldc 75] mkX7_ask (by decide +kernel) rfl rfl ?_
      refine p_iret rfl rfl (by decide +kernel) ?_
      exact ⟨rfl, rfl⟩
set_option maxRecDepth 20000 in
set_option maxHeartbeats 4000000 in
theorem c_ask (w : Wt) {k : Nat} (hk : 200 ≤ k) (s j : Nat) (h : Mm) (hs : s < 5) (hj : j ≤ 5) (hL : RSl h) : Ok w k MX7_ask [.ref 0, .int (nI s), .int (nI j)] h (if h 112 s = 0 then Rv NOTHINGv h else if h 112 s = nI 1 then @ite _ (unP (nN (h 113 s)) j) (Classical.propDecidable _) (Rv (h 114 s) h) (Rv KINDv h) else Rv KINDv h) := by
  show Wp w k MX7_ask _ 0 [some (.ref 0), some (.int (nI s)), some (.int (nI j)), none] [] h
  obtain ⟨l0, l00, l1, l2, l3⟩ := hL s hs
  refine p_run (pc' := 1) [.iload_n 1] mkX7_ask (by decide +kernel) rfl rfl ?_
  refine p_callSv (cisSlot_ok w (k := k - 1) (by omega) _ _) ksX7_286 (by decide +kernel) (by omega) rfl rfl rfl rfl rfl ?_
  refine p_if_eq (off := 10) 14 (by decide +kernel) (by decide) (fun cq4 => ?_) (fun cq4 => ?_)
  · have cq4 := bI0.mp cq4
    exact absurd (in_nI (j := s) (lo := 0) (hi := 4) (by omega) (by omega) (by omega)) cq4
  · have cq4 := bI1.mp cq4
    refine p_run (pc' := 8) [.iload_n 2] mkX7_ask (by decide +kernel) rfl rfl ?_
    refine p_callSv (cisKind_ok w (k := k - 1) (by omega) _ _) ksX7_64 (by decide +kernel) (by omega) rfl rfl rfl rfl rfl ?_
    refine p_if_ne (off := 6) 17 (by decide +kernel) (by decide) (fun cq11 => ?_) (fun cq11 => ?_)
    · have cq11 := bI1.mp cq11
      refine p_run (pc' := 22) [.aload_n 0, .getfield 47, .iload_n 1] mkX7_ask (by decide +kernel) rfl rfl ?_
      refine p_aald (s) (by decide +kernel) (by decide) rfl (by decide) rfl (by omega) (rfSl s (by omega)) ?_
      refine p_run (pc' := 25) [.astore_n 3, .aload_n 3] mkX7_ask (by decide +kernel) rfl rfl ?_
      refine p_getI (by decide +kernel) fo7_289 (obL s (by omega)).1 (obL s (by omega)).2.1 ((obL s (by omega)).2.2.1 _ (by decide)) ?_
      rw [l0]
      refine p_if_ne (off := 6) 34 (by decide +kernel) (by decide) (fun cq28 => ?_) (fun cq28 => ?_)
      · refine p_run (pc' := 35) [.aload_n 3] mkX7_ask (by decide +kernel) rfl rfl ?_
        refine p_getI (by decide +kernel) fo7_289 (obL s (by omega)).1 (obL s (by omega)).2.1 ((obL s (by omega)).2.2.1 _ (by decide)) ?_
        rw [l0]
        refine p_run (pc' := 39) [.iconst 1] mkX7_ask (by decide +kernel) rfl rfl ?_
        refine p_icmp_ne (off := 24) 63 (by decide +kernel) (by decide) (fun cq39 => ?_) (fun cq39 => ?_)
        · refine p_run (pc' := 65) [.ldc 122] mkX7_ask (by decide +kernel) rfl rfl ?_
          refine p_iret rfl rfl (by decide +kernel) ?_
          exact iF cq28 (iF cq39 (⟨rfl, rfl⟩))
        · refine p_run (pc' := 43) [.aload_n 3] mkX7_ask (by decide +kernel) rfl rfl ?_
          refine p_getR (by decide +kernel) fo7_292 (obL s (by omega)).1 (obL s (by omega)).2.1 (obL s (by omega)).2.2.2.1 ?_
          refine p_run (pc' := 47) [.iload_n 2] mkX7_ask (by decide +kernel) rfl rfl ?_
          refine p_callVv (isOne_ok w (k := k - 1) (76 + 4 * s) j (nN (h 113 s)) (obE s hs) hj (l1 cq39).2.1.2 h (by rw [(l1 cq39).1]; exact (l1 cq39).2.1.1)) kvX7_119 (by decide +kernel) (obE s (by omega)).1 (obE s (by omega)).2.1 (by omega) rfl rfl rfl rfl rfl ?_
          refine p_if_eq (off := 13) 63 (by decide +kernel) (by decide) (fun cq50 => ?_) (fun cq50 => ?_)
          · have cq50 := bI0.mp cq50
            refine p_run (pc' := 65) [.ldc 122] mkX7_ask (by decide +kernel) rfl rfl ?_
            refine p_iret rfl rfl (by decide +kernel) ?_
            exact iF cq28 (iT cq39 (@iF _ (Classical.propDecidable _) _ _ _ _ cq50 (⟨rfl, rfl⟩)))
          · have cq50 := bI1.mp cq50
            refine p_run (pc' := 54) [.aload_n 3] mkX7_ask (by decide +kernel) rfl rfl ?_
            refine p_getR (by decide +kernel) fo7_292 (obL s (by omega)).1 (obL s (by omega)).2.1 (obL s (by omega)).2.2.2.1 ?_
            refine p_callVv (cworth_ok w (k := k - 1) (76 + 4 * s) (obE s hs) h (by rw [(l1 cq39).1]; exact (l1 cq39).2.1)) kvX7_115 (by decide +kernel) (obE s (by omega)).1 (obE s (by omega)).2.1 (by omega) rfl rfl rfl rfl rfl ?_
            refine p_run (pc' := 65) [.goto 5] mkX7_ask (by decide +kernel) rfl rfl ?_
            refine p_iret rfl rfl (by decide +kernel) ?_
            exact iF cq28 (iT cq39 (@iT _ (Classical.propDecidable _) _ _ _ _ cq50 (⟨by rw [(l1 cq39).2.2], rfl⟩)))
      · refine p_run (pc' := 33) [.ldc 216] mkX7_ask (by decide +kernel) rfl rfl ?_
        refine p_iret rfl rfl (by decide +kernel) ?_
        exact iT cq28 (⟨rfl, rfl⟩)
    · have cq11 := bI0.mp cq11
      exact absurd (in_nI (j := j) (lo := 0) (hi := 5) (by omega) (by omega) (by omega)) cq11
theorem st_ask (w : Wt) {k : Nat} (hk : 200 ≤ k) (a b : Int32) (h : Mm) (hR : Rel h) : St w k MX7_ask MX8_ask [.int a, .int b] h := by
  obtain ⟨⟨hP, hI, hQ, hT, hq⟩, -⟩ := id hR
  have hL := hR.2.2.2.2.1
  by_cases hg : inR a 0 4 ∧ inR b 0 5
  · obtain ⟨s, -, hs, rfl⟩ := inR_of (by omega) (by omega) hg.1
    obtain ⟨j, -, hj, rfl⟩ := inR_of (by omega) (by omega) hg.2
    have hs : s < 5 := by omega
    have hc := c_ask w hk s j h hs hj hL
    have hr := r_ask w (k := k) (by omega) s j hs hj h (fun q => ((hL s hs).2.2.1 q).2.1)
    by_cases e0 : h 112 s = 0
    · rw [if_pos e0] at hc hr; exact St.word hR hc hr
    · rw [if_neg e0] at hc hr
      by_cases e1 : h 112 s = nI 1
      · rw [if_pos e1] at hc hr
        by_cases e2 : unP (nN (h 113 s)) j
        · rw [if_pos e2] at hc hr; exact St.word hR hc hr
        · rw [if_neg e2] at hc hr; exact St.word hR hc hr
      · rw [if_neg e1] at hc hr; exact St.word hR hc hr
  · exact St.word hR (c_ask_bad w hk a b (h 97) h hP hg) (r_ask_bad w (by omega) a b h hg)
set_option maxRecDepth 20000 in
set_option maxHeartbeats 4000000 in
theorem c_item_bad (w : Wt) {k : Nat} (hk : 200 ≤ k) (a b : Int32) (N : Vc) (h : Mm) (hP : PR 11 h N)  (hb : ¬ (inR a 0 4)) : Ok w k MX7_item [.ref 0, .int a, .int b] h (Rv BADv h) := by
  show Wp w k MX7_item _ 0 [some (.ref 0), some (.int a), some (.int b), none] [] h
  refine p_run (pc' := 1) [.iload_n 1] mkX7_item (by decide +kernel) rfl rfl ?_
  refine p_callSv (cisSlot_ok w (k := k - 1) (by omega) _ _) ksX7_286 (by decide +kernel) (by omega) rfl rfl rfl rfl rfl ?_
  refine p_if_ne (off := 6) 10 (by decide +kernel) (by decide) (fun cq4 => ?_) (fun cq4 => ?_)
  · have cq4 := bI1.mp cq4
    exact absurd (cq4) hb
  · have cq4 := bI0.mp cq4
    refine p_run (pc' := 9) [.ldc 75] mkX7_item (by decide +kernel) rfl rfl ?_
    refine p_iret rfl rfl (by decide +kernel) ?_
    exact ⟨rfl, rfl⟩
set_option maxRecDepth 20000 in
set_option maxHeartbeats 4000000 in
theorem c_item (w : Wt) {k : Nat} (hk : 200 ≤ k) (s : Nat) (b : Int32) (h : Mm) (hs : s < 5) (hL : RSl h) : Ok w k MX7_item [.ref 0, .int (nI s), .int b] h (if h 112 s = 0 then Rv NOTHINGv h else if h 112 s = nI 2 then (if nI 0 ≤ b ∧ b ≤ h 113 s - nI 1 then (if h 115 (24 * s + nN b) = NONEv then Rv KINDv h else Rv (h 115 (24 * s + nN b)) h) else Rv INDEXv h) else Rv KINDv h) := by
  show Wp w k MX7_item _ 0 [some (.ref 0), some (.int (nI s)), some (.int b), none] [] h
  obtain ⟨l0, l00, l1, l2, l3⟩ := hL s hs
  refine p_run (pc' := 1) [.iload_n 1] mkX7_item (by decide +kernel) rfl rfl ?_
  refine p_callSv (cisSlot_ok w (k := k - 1) (by omega) _ _) ksX7_286 (by decide +kernel) (by omega) rfl rfl rfl rfl rfl ?_
  refine p_if_ne (off := 6) 10 (by decide +kernel) (by decide) (fun cq4 => ?_) (fun cq4 => ?_)
  · have cq4 := bI1.mp cq4
    refine p_run (pc' := 15) [.aload_n 0, .getfield 47, .iload_n 1] mkX7_item (by decide +kernel) rfl rfl ?_
    refine p_aald (s) (by decide +kernel) (by decide) rfl (by decide) rfl (by omega) (rfSl s (by omega)) ?_
    refine p_run (pc' := 18) [.astore_n 3, .aload_n 3] mkX7_item (by decide +kernel) rfl rfl ?_
    refine p_getI (by decide +kernel) fo7_289 (obL s (by omega)).1 (obL s (by omega)).2.1 ((obL s (by omega)).2.2.1 _ (by decide)) ?_
    rw [l0]
    refine p_if_ne (off := 6) 27 (by decide +kernel) (by decide) (fun cq21 => ?_) (fun cq21 => ?_)
    · refine p_run (pc' := 28) [.aload_n 3] mkX7_item (by decide +kernel) rfl rfl ?_
      refine p_getI (by decide +kernel) fo7_289 (obL s (by omega)).1 (obL s (by omega)).2.1 ((obL s (by omega)).2.2.1 _ (by decide)) ?_
      rw [l0]
      refine p_run (pc' := 32) [.iconst 2] mkX7_item (by decide +kernel) rfl rfl ?_
      refine p_icmp_eq (off := 6) 38 (by decide +kernel) (by decide) (fun cq32 => ?_) (fun cq32 => ?_)
      · refine p_run (pc' := 39) [.aload_n 3] mkX7_item (by decide +kernel) rfl rfl ?_
        refine p_getR (by decide +kernel) fo7_299 (obL s (by omega)).1 (obL s (by omega)).2.1 (obL s (by omega)).2.2.2.2 ?_
        refine p_run (pc' := 43) [.iload_n 2] mkX7_item (by decide +kernel) rfl rfl ?_
        refine p_callVv (chasp_ok w (k := k - 1) (77 + 4 * s) (osL s hs) b h) kvX7_257 (by decide +kernel) (Nat.lt_of_succ_lt (osL s (by omega)).1) (osL s (by omega)).2.1 (by omega) rfl rfl rfl rfl rfl ?_
        rw [(l2 cq32).1]
        refine p_if_ne (off := 7) 53 (by decide +kernel) (by decide) (fun cq46 => ?_) (fun cq46 => ?_)
        · have cq46 := bI1.mp cq46
          obtain ⟨u, hu, rfl⟩ := pl_of (l2 cq32).2.1 ⟨cq46.1, (lt_sub1 (l2 cq32).2.1).mpr cq46.2⟩
          have hu24 := (l2 cq32).2.1.2
          refine p_run (pc' := 54) [.aload_n 3] mkX7_item (by decide +kernel) rfl rfl ?_
          refine p_getR (by decide +kernel) fo7_299 (obL s (by omega)).1 (obL s (by omega)).2.1 (obL s (by omega)).2.2.2.2 ?_
          refine p_run (pc' := 58) [.iload_n 2] mkX7_item (by decide +kernel) rfl rfl ?_
          refine p_callVv (cnum_ok w (k := k - 1) (by omega) (77 + 4 * s) u (nN (h 113 s)) (osL s hs) h (by rw [(l2 cq32).1]; exact (l2 cq32).2.1.1) (l2 cq32).2.1.2 hu) kvX7_270 (by decide +kernel) (Nat.lt_of_succ_lt (osL s (by omega)).1) (osL s (by omega)).2.1 (by omega) rfl rfl rfl rfl rfl ?_
          rw [(l2 cq32).2.2 u (by have := (l2 cq32).2.1.2; omega)]
          refine p_if_eq (off := 15) 76 (by decide +kernel) (by decide) (fun cq61 => ?_) (fun cq61 => ?_)
          · have cq61 := bI0.mp cq61
            refine p_run (pc' := 78) [.ldc 122] mkX7_item (by decide +kernel) rfl rfl ?_
            refine p_iret rfl rfl (by decide +kernel) ?_
            exact iF cq21 (iT cq32 (iT ⟨cq46.1, (lt_sub1 (l2 cq32).2.1).mpr cq46.2⟩ (iT (by rw [nN_nI (by have := (l2 cq32).2.1.2; omega)]; exact Classical.not_not.mp cq61) (⟨rfl, rfl⟩))))
          · have cq61 := bI1.mp cq61
            refine p_run (pc' := 65) [.aload_n 3] mkX7_item (by decide +kernel) rfl rfl ?_
            refine p_getR (by decide +kernel) fo7_299 (obL s (by omega)).1 (obL s (by omega)).2.1 (obL s (by omega)).2.2.2.2 ?_
            refine p_getR (by decide +kernel) fo7_264 (Nat.lt_of_succ_lt (osL s (by omega)).1) (osL s (by omega)).2.1 (osL s (by omega)).2.2.1 ?_
            refine p_run (pc' := 72) [.iload_n 2] mkX7_item (by decide +kernel) rfl rfl ?_
            refine p_iald (u) (by decide +kernel) (Nat.ble_eq_true_of_le (osL s (by omega)).1) (osL s (by omega)).2.2.2.2 (by first | rfl | simp only [oI]) (by omega) ?_
            refine p_run (pc' := 78) [.goto 5] mkX7_item (by decide +kernel) rfl rfl ?_
            refine p_iret rfl rfl (by decide +kernel) ?_
            exact iF cq21 (iT cq32 (iT ⟨cq46.1, (lt_sub1 (l2 cq32).2.1).mpr cq46.2⟩ (iF (by rw [nN_nI (by have := (l2 cq32).2.1.2; omega)]; exact cq61) (⟨by rw [nN_nI (by have := (l2 cq32).2.1.2; omega), (l2 cq32).2.2 u (by have := (l2 cq32).2.1.2; omega)], rfl⟩))))
        · have cq46 := bI0.mp cq46
          refine p_run (pc' := 52) [.ldc_w 260] mkX7_item (by decide +kernel) rfl rfl ?_
          refine p_iret rfl rfl (by decide +kernel) ?_
          exact iF cq21 (iT cq32 (iF (fun q => cq46 ⟨q.1, (lt_sub1 (l2 cq32).2.1).mp q.2⟩) (⟨rfl, rfl⟩)))
      · refine p_run (pc' := 37) [.ldc 122] mkX7_item (by decide +kernel) rfl rfl ?_
        refine p_iret rfl rfl (by decide +kernel) ?_
        exact iF cq21 (iF cq32 (⟨rfl, rfl⟩))
    · refine p_run (pc' := 26) [.ldc 216] mkX7_item (by decide +kernel) rfl rfl ?_
      refine p_iret rfl rfl (by decide +kernel) ?_
      exact iT cq21 (⟨rfl, rfl⟩)
  · have cq4 := bI0.mp cq4
    exact absurd (in_nI (j := s) (lo := 0) (hi := 4) (by omega) (by omega) (by omega)) cq4
theorem st_item (w : Wt) {k : Nat} (hk : 200 ≤ k) (a b : Int32) (h : Mm) (hR : Rel h) : St w k MX7_item MX8_item [.int a, .int b] h := by
  obtain ⟨⟨hP, hI, hQ, hT, hq⟩, -⟩ := id hR
  have hL := hR.2.2.2.2.1
  by_cases hg : inR a 0 4
  · obtain ⟨s, -, hs, rfl⟩ := inR_of (by omega) (by omega) hg
    have hs : s < 5 := by omega
    have hc := c_item w hk s b h hs hL
    have hr := r_item w (k := k) (by omega) s hs b h (fun q => ((hL s hs).2.2.2.1 q).2.1)
    by_cases e0 : h 112 s = 0
    · rw [if_pos e0] at hc hr; exact St.word hR hc hr
    · rw [if_neg e0] at hc hr
      by_cases e1 : h 112 s = nI 2
      · rw [if_pos e1] at hc hr
        by_cases e2 : nI 0 ≤ b ∧ b ≤ h 113 s - nI 1
        · rw [if_pos e2] at hc hr
          by_cases e3 : h 115 (24 * s + nN b) = NONEv
          · rw [if_pos e3] at hc hr; exact St.word hR hc hr
          · rw [if_neg e3] at hc hr; exact St.word hR hc hr
        · rw [if_neg e2] at hc hr; exact St.word hR hc hr
      · rw [if_neg e1] at hc hr; exact St.word hR hc hr
  · exact St.word hR (c_item_bad w hk a b (h 97) h hP hg) (r_item_bad w (by omega) a b h hg)
set_option maxRecDepth 20000 in
set_option maxHeartbeats 4000000 in
theorem c_rest_bad (w : Wt) {k : Nat} (hk : 200 ≤ k) (a b : Int32) (N : Vc) (h : Mm) (hP : PR 11 h N)  (hb : ¬ (inR a 0 4)) : Ok w k MX7_rest [.ref 0, .int a, .int b] h (Rv BADv h) := by
  show Wp w k MX7_rest _ 0 [some (.ref 0), some (.int a), some (.int b), none] [] h
  refine p_run (pc' := 1) [.iload_n 1] mkX7_rest (by decide +kernel) rfl rfl ?_
  refine p_callSv (cisSlot_ok w (k := k - 1) (by omega) _ _) ksX7_286 (by decide +kernel) (by omega) rfl rfl rfl rfl rfl ?_
  refine p_if_ne (off := 6) 10 (by decide +kernel) (by decide) (fun cq4 => ?_) (fun cq4 => ?_)
  · have cq4 := bI1.mp cq4
    exact absurd (cq4) hb
  · have cq4 := bI0.mp cq4
    refine p_run (pc' := 9) [.ldc 75] mkX7_rest (by decide +kernel) rfl rfl ?_
    refine p_iret rfl rfl (by decide +kernel) ?_
    exact ⟨rfl, rfl⟩
set_option maxRecDepth 20000 in
set_option maxHeartbeats 4000000 in
theorem c_rest (w : Wt) {k : Nat} (hk : 200 ≤ k) (s : Nat) (b : Int32) (h : Mm) (hs : s < 5) (hL : RSl h) : Ok w k MX7_rest [.ref 0, .int (nI s), .int b] h (if h 112 s = 0 then Rv NOTHINGv h else if h 112 s = nI 3 then (if b = 0 then Rv NOv h else if b = Int32.ofInt (-1) then Rv (nI 0) h else Rv (jrem (h 113 s) b) h) else Rv KINDv h) := by
  show Wp w k MX7_rest _ 0 [some (.ref 0), some (.int (nI s)), some (.int b), none] [] h
  obtain ⟨l0, l00, l1, l2, l3⟩ := hL s hs
  refine p_run (pc' := 1) [.iload_n 1] mkX7_rest (by decide +kernel) rfl rfl ?_
  refine p_callSv (cisSlot_ok w (k := k - 1) (by omega) _ _) ksX7_286 (by decide +kernel) (by omega) rfl rfl rfl rfl rfl ?_
  refine p_if_ne (off := 6) 10 (by decide +kernel) (by decide) (fun cq4 => ?_) (fun cq4 => ?_)
  · have cq4 := bI1.mp cq4
    refine p_run (pc' := 15) [.aload_n 0, .getfield 47, .iload_n 1] mkX7_rest (by decide +kernel) rfl rfl ?_
    refine p_aald (s) (by decide +kernel) (by decide) rfl (by decide) rfl (by omega) (rfSl s (by omega)) ?_
    refine p_run (pc' := 18) [.astore_n 3, .aload_n 3] mkX7_rest (by decide +kernel) rfl rfl ?_
    refine p_getI (by decide +kernel) fo7_289 (obL s (by omega)).1 (obL s (by omega)).2.1 ((obL s (by omega)).2.2.1 _ (by decide)) ?_
    rw [l0]
    refine p_if_ne (off := 6) 27 (by decide +kernel) (by decide) (fun cq21 => ?_) (fun cq21 => ?_)
    · refine p_run (pc' := 28) [.aload_n 3] mkX7_rest (by decide +kernel) rfl rfl ?_
      refine p_getI (by decide +kernel) fo7_289 (obL s (by omega)).1 (obL s (by omega)).2.1 ((obL s (by omega)).2.2.1 _ (by decide)) ?_
      rw [l0]
      refine p_run (pc' := 32) [.iconst 3] mkX7_rest (by decide +kernel) rfl rfl ?_
      refine p_icmp_eq (off := 6) 38 (by decide +kernel) (by decide) (fun cq32 => ?_) (fun cq32 => ?_)
      · refine p_run (pc' := 39) [.iload_n 2] mkX7_rest (by decide +kernel) rfl rfl ?_
        refine p_if_ne (off := 9) 48 (by decide +kernel) (by decide) (fun cq39 => ?_) (fun cq39 => ?_)
        · refine p_run (pc' := 49) [.aload_n 3] mkX7_rest (by decide +kernel) rfl rfl ?_
          refine p_getI (by decide +kernel) fo7_306 (obL s (by omega)).1 (obL s (by omega)).2.1 ((obL s (by omega)).2.2.1 _ (by decide)) ?_
          rw [l3 cq32]
          refine p_run (pc' := 53) [.iload_n 2] mkX7_rest (by decide +kernel) rfl rfl ?_
          refine p_irem (by decide +kernel) cq39 ?_
          refine p_iret rfl rfl (by decide +kernel) ?_
          exact iF cq21 (iT cq32 (iF cq39 ((Classical.em (b = Int32.ofInt (-1))).elim (fun e1 => iT e1 ⟨by rw [e1, jrem_m1], rfl⟩) (fun e1 => iF e1 ⟨rfl, rfl⟩))))
        · refine p_run (pc' := 54) [.ldc_w 309, .goto 9] mkX7_rest (by decide +kernel) rfl rfl ?_
          refine p_iret rfl rfl (by decide +kernel) ?_
          exact iF cq21 (iT cq32 (iT cq39 (⟨rfl, rfl⟩)))
      · refine p_run (pc' := 37) [.ldc 122] mkX7_rest (by decide +kernel) rfl rfl ?_
        refine p_iret rfl rfl (by decide +kernel) ?_
        exact iF cq21 (iF cq32 (⟨rfl, rfl⟩))
    · refine p_run (pc' := 26) [.ldc 216] mkX7_rest (by decide +kernel) rfl rfl ?_
      refine p_iret rfl rfl (by decide +kernel) ?_
      exact iT cq21 (⟨rfl, rfl⟩)
  · have cq4 := bI0.mp cq4
    exact absurd (in_nI (j := s) (lo := 0) (hi := 4) (by omega) (by omega) (by omega)) cq4
theorem st_rest (w : Wt) {k : Nat} (hk : 200 ≤ k) (a b : Int32) (h : Mm) (hR : Rel h) : St w k MX7_rest MX8_rest [.int a, .int b] h := by
  obtain ⟨⟨hP, hI, hQ, hT, hq⟩, -⟩ := id hR
  have hL := hR.2.2.2.2.1
  by_cases hg : inR a 0 4
  · obtain ⟨s, -, hs, rfl⟩ := inR_of (by omega) (by omega) hg
    have hs : s < 5 := by omega
    have hc := c_rest w hk s b h hs hL
    have hr := r_rest w (k := k) (by omega) s hs b h
    by_cases e0 : h 112 s = 0
    · rw [if_pos e0] at hc hr; exact St.word hR hc hr
    · rw [if_neg e0] at hc hr
      by_cases e1 : h 112 s = nI 3
      · rw [if_pos e1] at hc hr
        by_cases e2 : b = 0
        · rw [if_pos e2] at hc hr; exact St.word hR hc hr
        · rw [if_neg e2] at hc hr
          by_cases e3 : b = Int32.ofInt (-1)
          · rw [if_pos e3] at hc hr; exact St.word hR hc hr
          · rw [if_neg e3] at hc hr; exact St.word hR hc hr
      · rw [if_neg e1] at hc hr; exact St.word hR hc hr
  · exact St.word hR (c_rest_bad w hk a b (h 97) h hP hg) (r_rest_bad w (by omega) a b h hg)
