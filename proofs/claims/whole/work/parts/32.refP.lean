/-! loops; the reference: like -/
theorem Wp.for {w : Wt} {k : Nat} {M : Mt} {Q : Option Value → Mm → Prop} {pc : Nat} (n : Nat) (J : Nat → List (Option Value) → Mm → Prop)
    (hs : ∀ i L hh, i < n → J i L hh → (∀ L' h', J (i + 1) L' h' → Wp w k M Q pc L' [] h') → Wp w k M Q pc L [] hh)
    (hf : ∀ L hh, J n L hh → Wp w k M Q pc L [] hh) : ∀ i, i ≤ n → ∀ L hh, J i L hh → Wp w k M Q pc L [] hh := by
  intro i hi
  obtain ⟨m, hm⟩ : ∃ m, i + m = n := ⟨n - i, by omega⟩
  induction m generalizing i with
  | zero => intro L hh hJ; have : i = n := by omega
            subst this; exact hf L hh hJ
  | succ m ih => intro L hh hJ; exact hs i L hh (by omega) hJ (fun L' h' hJ' => ih (i + 1) (by omega) (by omega) L' h' hJ')
noncomputable def lkS (N : Vc) (c : Nat → Int32) (b : Nat) : Nat → Int32 := sumF (fun k => if c k = NONEv then nI 0 else offF (c k - bK (nsF N k) b 0))
def amF (U : Nat → Int32) : Nat → Nat
  | 0 => 0
  | n + 1 => if U (n + 1) < U (amF U n) then n + 1 else amF U n
theorem amF_le (U : Nat → Int32) : ∀ n, amF U n ≤ n
  | 0 => Nat.le_refl _
  | n + 1 => by
    have := amF_le U n
    rw [amF]
    split <;> omega
noncomputable def lkF (N : Vc) (c : Nat → Int32) (sz j : Nat) : Int32 := if j = 0 then nI (amF (fun b => lkS N c b sz) 3) else lkS N c (amF (fun b => lkS N c b sz) 3) sz
theorem add0 (x : Int32) : x + nI 0 = x := by rw [nI_0, Int32.add_zero]
set_option maxRecDepth 20000 in
set_option maxHeartbeats 4000000 in
theorem r_like_bad (w : Wt) {k : Nat} (hk : 2 ≤ k) (a b : Int32) (h : Mm)  (hb : ¬ (inR a 0 3 ∧ inR b 0 1)) : Ok w k MX8_like [.ref 96, .int a, .int b] h (Rv BADv h) := by
  show Wp w k MX8_like _ 0 [some (.ref 96), some (.int a), some (.int b), none, none, none] [] h
  refine p_run (pc' := 1) [.iload_n 1] mkX8_like (by decide +kernel) rfl rfl ?_
  refine p_callSv (risSheet_ok w (k := k - 1) (by omega) _ _) ksX8_206 (by decide +kernel) (by omega) rfl rfl rfl rfl rfl ?_
  refine p_if_eq (off := 12) 16 (by decide +kernel) (by decide) (fun c4 => ?_) (fun c4 => ?_)
  · refine p_run (pc' := 18) [.ldc 123] mkX8_like (by decide +kernel) rfl rfl ?_
    refine p_iret rfl rfl (by decide +kernel) ?_
    exact ⟨rfl, rfl⟩
  · refine p_run (pc' := 10) [.iload_n 2, .iconst 0, .iconst 1] mkX8_like (by decide +kernel) rfl rfl ?_
    refine p_callSv (in_ok w (k := k - 1) _ _ _ _) ksX8_75 (by decide +kernel) (by omega) rfl rfl rfl rfl rfl ?_
    refine p_if_ne (off := 6) 19 (by decide +kernel) (by decide) (fun c13 => ?_) (fun c13 => ?_)
    · exact absurd (⟨bI1.mp c4, bI1.mp c13⟩) hb
    · refine p_run (pc' := 18) [.ldc 123] mkX8_like (by decide +kernel) rfl rfl ?_
      refine p_iret rfl rfl (by decide +kernel) ?_
      exact ⟨rfl, rfl⟩
set_option maxRecDepth 20000 in
set_option maxHeartbeats 4000000 in
theorem r_like_no (w : Wt) {k : Nat} (hk : 2 ≤ k) (s j : Nat) (hs : s < 4) (hj : j ≤ 1) (h : Mm) (hno : h 109 s < 0) : Ok w k MX8_like [.ref 96, .int (nI s), .int (nI j)] h (Rv NOTHINGv h) := by
  show Wp w k MX8_like _ 0 [some (.ref 96), some (.int (nI s)), some (.int (nI j)), none, none, none] [] h
  refine p_run (pc' := 1) [.iload_n 1] mkX8_like (by decide +kernel) rfl rfl ?_
  refine p_callSv (isSheet_t w (k := k - 1) (by omega) _ _ (in_nI (lo := 0) (hi := 3) (by omega) (Nat.le_of_lt_succ hs) (by omega))) ksX8_206 (by decide +kernel) (by omega) rfl rfl rfl rfl rfl ?_
  refine p_if_eq (off := 12) 16 (by decide +kernel) (by decide) (fun c4 => ?_) (fun c4 => ?_)
  · exact False.elim (by revert c4; decide)
  · refine p_run (pc' := 10) [.iload_n 2, .iconst 0, .iconst 1] mkX8_like (by decide +kernel) rfl rfl ?_
    refine p_callSv (in_t w (k := k - 1) _ _ _ _ (in_nI (lo := 0) (hi := 1) (by omega) hj (by omega))) ksX8_75 (by decide +kernel) (by omega) rfl rfl rfl rfl rfl ?_
    refine p_if_ne (off := 6) 19 (by decide +kernel) (by decide) (fun c13 => ?_) (fun c13 => ?_)
    · refine p_run (pc' := 24) [.aload_n 0, .getfield 48, .iload_n 1] mkX8_like (by decide +kernel) rfl rfl ?_
      refine p_iald (s) (by decide +kernel) rfl rfl rfl hs ?_
      refine p_if_ge (off := 6) 31 (by decide +kernel) (by decide) (fun c1 => ?_) (fun c1 => ?_)
      · exact absurd c1 (Int32.not_le.mpr hno)
      · refine p_run (pc' := 30) [.ldc 209] mkX8_like (by decide +kernel) rfl rfl ?_
        refine p_iret rfl rfl (by decide +kernel) ?_
        exact ⟨rfl, rfl⟩
    · exact False.elim (by revert c13; decide)
set_option maxRecDepth 20000 in
set_option maxHeartbeats 4000000 in
theorem r_like (w : Wt) {k : Nat} (hk : 6 ≤ k) (s j sz : Nat) (hs : s < 4) (hj : j ≤ 1) (hz : sz ≤ 24) (h : Mm) (hsz : h 110 s = nI sz) (hI : Iv (h 97)) (hT : Tq (h 97)) (hy : ¬ h 109 s < 0) : Ok w k MX8_like [.ref 96, .int (nI s), .int (nI j)] h (Rs [99, 100, 107, 108] (lkF (h 97) (fun k => h 111 (24 * s + k)) sz j) h) := by
  show Wp w k MX8_like _ 0 [some (.ref 96), some (.int (nI s)), some (.int (nI j)), none, none, none] [] h
  refine p_run (pc' := 1) [.iload_n 1] mkX8_like (by decide +kernel) rfl rfl ?_
  refine p_callSv (isSheet_t w (k := k - 1) (by omega) _ _ (in_nI (lo := 0) (hi := 3) (by omega) (Nat.le_of_lt_succ hs) (by omega))) ksX8_206 (by decide +kernel) (by omega) rfl rfl rfl rfl rfl ?_
  refine p_if_eq (off := 12) 16 (by decide +kernel) (by decide) (fun c4 => ?_) (fun c4 => ?_)
  · exact False.elim (by revert c4; decide)
  · refine p_run (pc' := 10) [.iload_n 2, .iconst 0, .iconst 1] mkX8_like (by decide +kernel) rfl rfl ?_
    refine p_callSv (in_t w (k := k - 1) _ _ _ _ (in_nI (lo := 0) (hi := 1) (by omega) hj (by omega))) ksX8_75 (by decide +kernel) (by omega) rfl rfl rfl rfl rfl ?_
    refine p_if_ne (off := 6) 19 (by decide +kernel) (by decide) (fun c13 => ?_) (fun c13 => ?_)
    · refine p_run (pc' := 24) [.aload_n 0, .getfield 48, .iload_n 1] mkX8_like (by decide +kernel) rfl rfl ?_
      refine p_iald (s) (by decide +kernel) rfl rfl rfl hs ?_
      refine p_if_ge (off := 6) 31 (by decide +kernel) (by decide) (fun c1 => ?_) (fun c1 => ?_)
      · refine p_run (pc' := 32) [.aload_n 0] mkX8_like (by decide +kernel) rfl rfl ?_
        refine p_callVw (thinks_ok w (k := k - 1) (by omega) _) kvX8_189 (by decide +kernel) (by decide) rfl (by omega) rfl rfl rfl rfl rfl ?_
        refine p_run (pc' := 37) [.iconst 0, .istore_n 3] mkX8_like (by decide +kernel) rfl rfl ?_
        refine p_run (pc' := 39) [.iload_n 3, .iconst 4] mkX8_like (by decide +kernel) rfl rfl ?_
        refine p_icmp_ge (off := 16) 55 (by decide +kernel) (by decide) (fun d0 => ?_) (fun d0 => ?_)
        · exact False.elim (by revert d0; decide)
        ·
          refine p_run (pc' := 48) [.aload_n 0, .getfield 19, .iload_n 3, .iconst 0] mkX8_like (by decide +kernel) rfl rfl ?_
          refine p_iast (0) (by decide +kernel) rfl rfl rfl (by omega)  ?_
          refine p_run (pc' := 37) [.iinc 3 1, .goto (-15)] mkX8_like (by decide +kernel) rfl rfl ?_
          refine p_run (pc' := 39) [.iload_n 3, .iconst 4] mkX8_like (by decide +kernel) rfl rfl ?_
          refine p_icmp_ge (off := 16) 55 (by decide +kernel) (by decide) (fun d1 => ?_) (fun d1 => ?_)
          · exact False.elim (by revert d1; decide)
          ·
            refine p_run (pc' := 48) [.aload_n 0, .getfield 19, .iload_n 3, .iconst 0] mkX8_like (by decide +kernel) rfl rfl ?_
            refine p_iast (1) (by decide +kernel) rfl rfl rfl (by omega)  ?_
            refine p_run (pc' := 37) [.iinc 3 1, .goto (-15)] mkX8_like (by decide +kernel) rfl rfl ?_
            refine p_run (pc' := 39) [.iload_n 3, .iconst 4] mkX8_like (by decide +kernel) rfl rfl ?_
            refine p_icmp_ge (off := 16) 55 (by decide +kernel) (by decide) (fun d2 => ?_) (fun d2 => ?_)
            · exact False.elim (by revert d2; decide)
            ·
              refine p_run (pc' := 48) [.aload_n 0, .getfield 19, .iload_n 3, .iconst 0] mkX8_like (by decide +kernel) rfl rfl ?_
              refine p_iast (2) (by decide +kernel) rfl rfl rfl (by omega)  ?_
              refine p_run (pc' := 37) [.iinc 3 1, .goto (-15)] mkX8_like (by decide +kernel) rfl rfl ?_
              refine p_run (pc' := 39) [.iload_n 3, .iconst 4] mkX8_like (by decide +kernel) rfl rfl ?_
              refine p_icmp_ge (off := 16) 55 (by decide +kernel) (by decide) (fun d3 => ?_) (fun d3 => ?_)
              · exact False.elim (by revert d3; decide)
              ·
                refine p_run (pc' := 48) [.aload_n 0, .getfield 19, .iload_n 3, .iconst 0] mkX8_like (by decide +kernel) rfl rfl ?_
                refine p_iast (3) (by decide +kernel) rfl rfl rfl (by omega)  ?_
                refine p_run (pc' := 37) [.iinc 3 1, .goto (-15)] mkX8_like (by decide +kernel) rfl rfl ?_
                refine p_run (pc' := 39) [.iload_n 3, .iconst 4] mkX8_like (by decide +kernel) rfl rfl ?_
                refine p_icmp_ge (off := 16) 55 (by decide +kernel) (by decide) (fun d4 => ?_) (fun d4 => ?_)
                · generalize eh : up (up (up (up _ 100 0 _) 100 1 _) 100 2 _) 100 3 _ = h1
                  have hU : ∀ b, b < 4 → h1 100 b = lkS (h 97) (fun k => h 111 (24 * s + k)) b 0 := by
                    intro b hb
                    rw [← eh]
                    match b, hb with
                    | 0, _ => rfl
                    | 1, _ => rfl
                    | 2, _ => rfl
                    | 3, _ => rfl
                  have hA1 : Ag [99, 100] h h1 := by
                    rw [← eh]
                    exact (((((Ag.wr (by decide)).tr (Ag.up (by decide))).tr (Ag.up (by decide))).tr (Ag.up (by decide))).tr (Ag.up (by decide)))
                  have e99 : h1 99 = h 97 := by rw [← eh]; rfl
                  have e97 : h1 97 = h 97 := hA1 97 (by decide)
                  clear eh
                  refine p_run (pc' := 57) [.iconst 0, .istore_n 3] mkX8_like (by decide +kernel) rfl rfl ?_
                  refine Wp.for (sz) (fun i L hh => ∃ (x4 x5 : Option Value), L = [some (.ref 96), some (.int (nI s)), some (.int (nI j)), some (.int (nI i)), x4, x5] ∧ ((∀ b, b < 4 → hh 100 b = lkS (h 97) (fun k => h 111 (24 * s + k)) b i) ∧ hh 97 = nsF (h 97) i ∧ hh 99 = h 97 ∧ Ag [97, 99, 100, 107, 108] h hh)) ?_ ?_ (0) (by omega) _ _ ?_
                  · rintro i L hh hi ⟨x4, x5, rfl, hJ⟩ ih
                    obtain ⟨hU, e97, e99, hA⟩ := hJ
                    have e110 : hh 110 s = nI sz := by rw [hA 110 (by decide), hsz]
                    have e111 : hh 111 = h 111 := hA 111 (by decide)
                    refine p_run (pc' := 63) [.iload_n 3, .aload_n 0, .getfield 51, .iload_n 1] mkX8_like (by decide +kernel) rfl rfl ?_
                    refine p_iald (s) (by decide +kernel) rfl rfl rfl hs ?_
                    rw [e110]
                    refine p_icmp_ge (off := 71) 135 (by decide +kernel) (by decide) (fun c2 => ?_) (fun c2 => ?_)
                    · exact absurd c2 (nI_ge (by omega) (by omega))
                    · refine p_run (pc' := 77) [.aload_n 0, .getfield 54, .bipush 24, .iload_n 1, .imul, .iload_n 3, .iadd] mkX8_like (by decide +kernel) rfl rfl ?_
                      refine p_iald (24 * s + i) (by decide +kernel) rfl rfl (by simp only [oI, nI_add, nIm]) (by omega) ?_
                      rw [e111]
                      refine p_run (pc' := 83) [.istore 4, .iconst 0, .istore 5] mkX8_like (by decide +kernel) rfl rfl ?_
                      have hfin : ∀ (x5 : Option Value) (h2 : Mm), (∀ b, b < 4 → h2 100 b = lkS (h 97) (fun k => h 111 (24 * s + k)) b (i + 1)) → Ag [100] hh h2 → Wp w k MX8_like (Rs [99, 100, 107, 108] (lkF (h 97) (fun k => h 111 (24 * s + k)) sz j) h) 125 [some (.ref 96), some (.int (nI s)), some (.int (nI j)), some (.int (nI i)), some (.int (h 111 (24 * s + i))), x5] [] h2 := by
                        intro x5 h2 hU2 hA2
                        have e2 : h2 97 = nsF (h 97) i := by rw [hA2 97 (by decide), e97]
                        refine p_run (pc' := 126) [.aload_n 0] mkX8_like (by decide +kernel) rfl rfl ?_
                        refine p_callVo (night_ok w (k := k - 1) (by omega) h2 (by rw [e2]; exact nsF_Iv hI i) (by rw [e2]; exact hT.of (fun j hj => nsF_out hI (by omega) i))) (fun _ _ q => q.1) kvX8_170 (by decide +kernel) (by decide) rfl (by omega) rfl rfl rfl rfl rfl (fun h' hq => ?_)
                        obtain ⟨-, e3, hA3⟩ := hq
                        refine p_run (pc' := 57) [.iinc 3 1, .goto (-75)] mkX8_like (by decide +kernel) rfl rfl ?_
                        exact ih _ _ ⟨_, _, by rw [show nI i + Int32.ofInt 1 = nI (i + 1) by simp only [oI, nI_add]], fun b hb => by rw [hA3 100 (by decide), hU2 b hb], by rw [e3, e2, nsF], by rw [hA3 99 (by decide), hA2 99 (by decide), e99], (hA.tr (hA2.mono (by decide))).tr (hA3.mono (by decide))⟩
                      by_cases hv : h 111 (24 * s + i) = NONEv
                      · have hz : ∀ b, lkS (h 97) (fun k => h 111 (24 * s + k)) b (i + 1) = lkS (h 97) (fun k => h 111 (24 * s + k)) b i := fun b => by
                          show lkS (h 97) (fun k => h 111 (24 * s + k)) b i + (if h 111 (24 * s + i) = NONEv then nI 0 else _) = _
                          rw [if_pos hv, add0]
                        refine p_run (pc' := 86) [.iload 5, .iconst 4] mkX8_like (by decide +kernel) rfl rfl ?_
                        refine p_icmp_ge (off := 39) 125 (by decide +kernel) (by decide) (fun c3 => ?_) (fun c3 => ?_)
                        · exact False.elim (by revert c3; decide)
                        · refine p_run (pc' := 93) [.iload 4, .ldc 195] mkX8_like (by decide +kernel) rfl rfl ?_
                          refine p_icmp_eq (off := 32) 125 (by decide +kernel) (by decide) (fun c4 => ?_) (fun c4 => ?_)
                          · exact hfin _ _ (fun b hb => by rw [hz, hU b hb]) Ag.rf
                          · exact absurd hv c4
                      · have hz : ∀ b, lkS (h 97) (fun k => h 111 (24 * s + k)) b (i + 1) = lkS (h 97) (fun k => h 111 (24 * s + k)) b i + offF (h 111 (24 * s + i) - bK (nsF (h 97) i) b 0) := fun b => by
                          show lkS (h 97) (fun k => h 111 (24 * s + k)) b i + (if h 111 (24 * s + i) = NONEv then nI 0 else _) = _
                          rw [if_neg hv]
                        have hJ0 := hU
                        generalize eq : h 111 (24 * s + i) = q at *
                        refine Wp.for 4 (fun b L h2 => L = [some (.ref 96), some (.int (nI s)), some (.int (nI j)), some (.int (nI i)), some (.int q), some (.int (nI b))] ∧ (∀ c, c < b → h2 100 c = lkS (h 97) (fun k => h 111 (24 * s + k)) c (i + 1)) ∧ (∀ c, b ≤ c → c < 4 → h2 100 c = lkS (h 97) (fun k => h 111 (24 * s + k)) c i) ∧ Ag [100] hh h2) ?_ ?_ 0 (by omega) _ _ ⟨rfl, fun c hc => absurd hc (by omega), fun c _ hc => hU c hc, Ag.rf⟩
                        · rintro b L h2 hb ⟨rfl, hL, hG, hA2⟩ ih2
                          refine p_run (pc' := 86) [.iload 5, .iconst 4] mkX8_like (by decide +kernel) rfl rfl ?_
                          refine p_icmp_ge (off := 39) 125 (by decide +kernel) (by decide) (fun c3 => ?_) (fun c3 => ?_)
                          · exact False.elim (by rw [oI, nI_leI (by omega) (by omega)] at c3; omega)
                          · refine p_run (pc' := 93) [.iload 4, .ldc 195] mkX8_like (by decide +kernel) rfl rfl ?_
                            refine p_icmp_eq (off := 32) 125 (by decide +kernel) (by decide) (fun c4 => ?_) (fun c4 => ?_)
                            · exact absurd c4 hv
                            · refine p_run (pc' := 103) [.aload_n 0, .getfield 19, .iload 5, .dup2] mkX8_like (by decide +kernel) rfl rfl ?_
                              refine p_iald (b) (by decide +kernel) rfl rfl rfl hb ?_
                              refine p_run (pc' := 110) [.iload 4, .aload_n 0, .iload 5, .iconst 0] mkX8_like (by decide +kernel) rfl rfl ?_
                              refine p_callVv (at_ok w (k := k - 1) b 0 _ (by omega)) kvX8_79 (by decide +kernel) (by decide) rfl (by omega) rfl rfl rfl rfl rfl ?_
                              refine p_run (pc' := 114) [.isub] mkX8_like (by decide +kernel) rfl rfl ?_
                              refine p_callSv (off_ok w (k := k - 1) _ _) ksX8_210 (by decide +kernel) (by omega) rfl rfl rfl rfl rfl ?_
                              refine p_run (pc' := 118) [.iadd] mkX8_like (by decide +kernel) rfl rfl ?_
                              refine p_iast (b) (by decide +kernel) rfl rfl rfl hb  ?_
                              refine p_run (pc' := 83) [.iinc 5 1, .goto (-39)] mkX8_like (by decide +kernel) rfl rfl ?_
                              refine ih2 _ _ ⟨by rw [show nI b + Int32.ofInt 1 = nI (b + 1) by simp only [oI, nI_add]], fun c hc => ?_, fun c h1 h2 => ?_, hA2.tr (Ag.up (by decide))⟩
                              · rw [upS]
                                by_cases hcb : c = b
                                · rw [hcb, upd_s, hz, hG b (Nat.le_refl _) hb, hA2 97 (by decide), e97]; rfl
                                · rw [upd_n hcb]; exact hL c (by omega)
                              · rw [upS, upd_n (by omega)]; exact hG c (by omega) h2
                        · rintro L h2 ⟨rfl, hL, hG, hA2⟩
                          refine p_run (pc' := 86) [.iload 5, .iconst 4] mkX8_like (by decide +kernel) rfl rfl ?_
                          refine p_icmp_ge (off := 39) 125 (by decide +kernel) (by decide) (fun c3 => ?_) (fun c3 => ?_)
                          · exact hfin _ _ hL hA2
                          · exact False.elim (by revert c3; decide)
                  · rintro L hh ⟨x4, x5, rfl, hJ⟩
                    obtain ⟨hU, e97, e99, hA⟩ := hJ
                    have e110 : hh 110 s = nI sz := by rw [hA 110 (by decide), hsz]
                    refine p_run (pc' := 63) [.iload_n 3, .aload_n 0, .getfield 51, .iload_n 1] mkX8_like (by decide +kernel) rfl rfl ?_
                    refine p_iald (s) (by decide +kernel) rfl rfl rfl hs ?_
                    rw [e110]
                    refine p_icmp_ge (off := 71) 135 (by decide +kernel) (by decide) (fun c2 => ?_) (fun c2 => ?_)
                    · refine p_run (pc' := 136) [.aload_n 0] mkX8_like (by decide +kernel) rfl rfl ?_
                      refine p_callVw (putsBack_ok w (k := k - 1) (by omega) _) kvX8_192 (by decide +kernel) (by decide) rfl (by omega) rfl rfl rfl rfl rfl ?_
                      have hAf : Ag [99, 100, 107, 108] h (wr hh 97 (hh 99)) := fun a ha => by
                        by_cases z : a = 97
                        · rw [z, wrS, e99]
                        · rw [wrN z]; exact hA a (by simp at ha ⊢; omega)
                      have hU' : ∀ b, b < 4 → wr hh 97 (hh 99) 100 b = lkS (h 97) (fun k => h 111 (24 * s + k)) b sz := fun b hb => by rw [wrN (by decide)]; exact hU b hb
                      generalize wr hh 97 (hh 99) = h3 at hAf hU' ⊢
                      generalize eU : (fun b => lkS (h 97) (fun k => h 111 (24 * s + k)) b sz) = U
                      have hU3 : ∀ b, b < 4 → h3 100 b = U b := fun b hb => by rw [← eU]; exact hU' b hb
                      have hgoal : lkF (h 97) (fun k => h 111 (24 * s + k)) sz j = if j = 0 then nI (amF U 3) else U (amF U 3) := by unfold lkF; rw [eU]; rw [← eU]
                      rw [hgoal]
                      clear hgoal eU hU'
                      refine p_run (pc' := 144) [.iconst 0, .istore_n 3, .iconst 1, .istore 4] mkX8_like (by decide +kernel) rfl rfl ?_
                      refine Wp.for 3 (fun i L hh => L = [some (.ref 96), some (.int (nI s)), some (.int (nI j)), some (.int (nI (amF U i))), some (.int (nI (i + 1))), x5] ∧ hh = h3) ?_ ?_ 0 (by omega) _ _ ⟨rfl, rfl⟩
                      · rintro i L _ hi ⟨rfl, rfl⟩ ih
                        have hle := amF_le U i
                        refine p_run (pc' := 147) [.iload 4, .iconst 4] mkX8_like (by decide +kernel) rfl rfl ?_
                        refine p_icmp_ge (off := 32) 179 (by decide +kernel) (by decide) (fun c3 => ?_) (fun c3 => ?_)
                        · exact False.elim (by rw [oI, nI_leI (by omega) (by omega)] at c3; omega)
                        · refine p_run (pc' := 156) [.aload_n 0, .getfield 19, .iload 4] mkX8_like (by decide +kernel) rfl rfl ?_
                          refine p_iald (i + 1) (by decide +kernel) rfl rfl rfl (by omega) ?_
                          refine p_run (pc' := 162) [.aload_n 0, .getfield 19, .iload_n 3] mkX8_like (by decide +kernel) rfl rfl ?_
                          refine p_iald (amF U i) (by decide +kernel) rfl rfl rfl (by omega) ?_
                          rw [hU3 _ (by omega), hU3 _ (by omega)]
                          refine p_icmp_ge (off := 8) 171 (by decide +kernel) (by decide) (fun c4 => ?_) (fun c4 => ?_)
                          · refine p_run (pc' := 144) [.iload_n 3, .istore_n 3, .iinc 4 1, .goto (-32)] mkX8_like (by decide +kernel) rfl rfl ?_
                            exact ih _ _ ⟨by rw [amF, if_neg (Int32.not_lt.mpr c4), show nI (i + 1) + Int32.ofInt 1 = nI (i + 1 + 1) by simp only [oI, nI_add]], rfl⟩
                          · refine p_run (pc' := 144) [.iload 4, .goto 4, .istore_n 3, .iinc 4 1, .goto (-32)] mkX8_like (by decide +kernel) rfl rfl ?_
                            exact ih _ _ ⟨by rw [amF, if_pos (Int32.not_le.mp c4), show nI (i + 1) + Int32.ofInt 1 = nI (i + 1 + 1) by simp only [oI, nI_add]], rfl⟩
                      · rintro L _ ⟨rfl, rfl⟩
                        have hle := amF_le U 3
                        refine p_run (pc' := 147) [.iload 4, .iconst 4] mkX8_like (by decide +kernel) rfl rfl ?_
                        refine p_icmp_ge (off := 32) 179 (by decide +kernel) (by decide) (fun c3 => ?_) (fun c3 => ?_)
                        · refine p_run (pc' := 180) [.iload_n 2] mkX8_like (by decide +kernel) rfl rfl ?_
                          refine p_if_ne (off := 7) 187 (by decide +kernel) (by decide) (fun c4 => ?_) (fun c4 => ?_)
                          · rw [nI_eq0 (by omega)] at c4
                            refine p_run (pc' := 192) [.aload_n 0, .getfield 19, .iload_n 3] mkX8_like (by decide +kernel) rfl rfl ?_
                            refine p_iald (amF U 3) (by decide +kernel) rfl rfl rfl (by omega) ?_
                            refine p_iret rfl rfl (by decide +kernel) ?_
                            exact ⟨by rw [if_neg c4, hU3 _ (by omega)], hAf⟩
                          · rw [nI_eq0 (by omega)] at c4
                            refine p_run (pc' := 193) [.iload_n 3, .goto 9] mkX8_like (by decide +kernel) rfl rfl ?_
                            refine p_iret rfl rfl (by decide +kernel) ?_
                            exact ⟨by rw [if_pos c4], hAf⟩
                        · exact False.elim (by revert c3; decide)
                    · exact absurd (nI_le (Nat.le_refl _) (by omega)) c2
                  · exact ⟨_, _, rfl, hU, e97, e99, hA1.mono (by decide)⟩
                · exact False.elim (by revert d4; decide)
      · exact absurd (Int32.not_lt.mp hy) c1
    · exact False.elim (by revert c13; decide)
