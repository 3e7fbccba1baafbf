/-! the reference: the warder, a night, sums -/
theorem Tq.of {N N' : Vc} (h : Tq N) (hx : ∀ j, 70 ≤ j → N' j = N j) : Tq N' := fun t ht => by rw [hx _ (by omega)]; exact h t ht
theorem inB_upd {N : Vc} {b j d : Nat} {x : Int32} (h : j < 20) : inB (upd N j x) b d = inB N b d := by
  unfold inB dK
  rw [upd_n (by omega)]
def waI (N : Vc) : Nat → Vc
  | 0 => N
  | b + 1 => waF (waI N b) b
theorem waI_Iv {N : Vc} (hI : Iv N) : ∀ b, b ≤ 4 → Iv (waI N b)
  | 0, _ => hI
  | b + 1, h => waF_Iv (waI_Iv hI b (by omega)) (by omega)
theorem waI_out {N : Vc} (hI : Iv N) {j : Nat} (hj : j < 5 ∨ j = 6 ∨ j = 7 ∨ 70 ≤ j) : ∀ b, b ≤ 4 → waI N b j = N j
  | 0, _ => rfl
  | b + 1, h => by rw [waI, waF_out (waI_Iv hI b (by omega)) (by omega) hj, waI_out hI hj b (by omega)]
set_option maxRecDepth 20000 in
set_option maxHeartbeats 4000000 in
theorem warder_loop (w : Wt) {k : Nat} (hk : 1 ≤ k) (b n : Nat) (hb : b < 4) (hn : n ≤ 10) (M : Vc) (eM : M 1 = nI n) (h0 : Mm) : ∀ (m i : Nat), i + m = n → ∀ h : Mm, h 97 = flF M b i → Ag [97] h0 h →
    Wp w k MX8_warder (fun r h' => r = none ∧ h' 97 = flF M b n ∧ Ag [97] h0 h') 67 [some (.ref 96), some (.int (nI b)), some (.int (nI (setF (inB M b) n))), some (.int (nI i))] [] h := by
  intro m
  induction m with
  | zero =>
    intro i hi h e hA
    have hi : i = n := by omega
    subst hi
    have e1 : h 97 1 = nI i := by rw [e, flF_out _ (fun d hd => by omega)]; exact eM
    refine p_run (pc' := 73) [.iload_n 3, .aload_n 0, .getfield 9, .iconst 1] mkX8_warder (by decide +kernel) rfl rfl ?_
    refine p_iald (1) (by decide +kernel) rfl rfl (by simp only [oI]) (by omega) ?_
    rw [e1]
    refine p_icmp_ge (off := 38) 112 (by decide +kernel) (by decide) (fun c1 => ?_) (fun c1 => ?_)
    · refine p_vret rfl (by decide +kernel) ?_
      exact ⟨rfl, e, hA⟩
    · exact absurd (nI_le (Nat.le_refl _) (by omega)) c1
  | succ m ih =>
    intro i hi h e hA
    have e1 : h 97 1 = nI n := by rw [e, flF_out _ (fun d hd => by omega)]; exact eM
    refine p_run (pc' := 73) [.iload_n 3, .aload_n 0, .getfield 9, .iconst 1] mkX8_warder (by decide +kernel) rfl rfl ?_
    refine p_iald (1) (by decide +kernel) rfl rfl (by simp only [oI]) (by omega) ?_
    rw [e1]
    refine p_icmp_ge (off := 38) 112 (by decide +kernel) (by decide) (fun c1 => ?_) (fun c1 => ?_)
    · exact absurd c1 (nI_ge (by omega) (by omega))
    · refine p_run (pc' := 86) [.aload_n 0, .iload_n 3, .iconst 3, .iload_n 2, .iload_n 3, .ishr, .iconst 1, .iand, .iconst 1] mkX8_warder (by decide +kernel) rfl rfl ?_
      rw [oI, shr_bit i (by omega) _ (setF_1024 _ hn), setF_div]
      refine p_icmp_ne (off := 11) 97 (by decide +kernel) (by decide) (fun c2 => ?_) (fun c2 => ?_)
      · have hp : ¬ inB M b i = true := fun q => c2 (iteN.mpr ⟨by omega, q⟩)
        refine p_run (pc' := 100) [.aload_n 0, .iload_n 3, .iconst 3] mkX8_warder (by decide +kernel) rfl rfl ?_
        refine p_callVv (of_ok w (k := k - 1) i 3 _ (by omega)) kvX8_83 (by decide +kernel) (by decide) rfl (by omega) rfl rfl rfl rfl rfl ?_
        refine p_callVw (put_ok w (k := k - 1) i 3 _ _ (by omega)) kvX8_116 (by decide +kernel) (by decide) rfl (by omega) rfl rfl rfl rfl rfl ?_
        refine p_run (pc' := 67) [.iinc 3 1, .goto (-42)] mkX8_warder (by decide +kernel) rfl rfl ?_
        refine Wp.eqL ?_ (ih (i + 1) (by omega) _ ?_ (hA.tr (Ag.up (by decide))))
        · rw [show nI i + Int32.ofInt 1 = nI (i + 1) by simp only [oI, nI_add]]
        · rw [upS, upd_self, e, flF, if_neg hp]
      · have hp : inB M b i = true := (iteN.mp c2).2
        refine p_run (pc' := 93) [.iload_n 1, .iconst 1, .iadd, .iconst 4] mkX8_warder (by decide +kernel) rfl rfl ?_
        refine p_irem (by decide +kernel) (by decide) ?_
        rw [show jrem (nI b + Int32.ofInt 1) (Int32.ofInt 4) = nI ((b + 1) % 4) by rw [oI, oI, nI_add, jrem_nI (by omega) (by omega) (by omega)]]
        refine p_run (pc' := 103) [.goto 9] mkX8_warder (by decide +kernel) rfl rfl ?_
        refine p_callVw (put_ok w (k := k - 1) i 3 _ _ (by omega)) kvX8_116 (by decide +kernel) (by decide) rfl (by omega) rfl rfl rfl rfl rfl ?_
        refine p_run (pc' := 67) [.iinc 3 1, .goto (-42)] mkX8_warder (by decide +kernel) rfl rfl ?_
        refine Wp.eqL ?_ (ih (i + 1) (by omega) _ ?_ (hA.tr (Ag.up (by decide))))
        · rw [show nI i + Int32.ofInt 1 = nI (i + 1) by simp only [oI, nI_add]]
        · rw [upS, e, flF, if_pos hp]
set_option maxRecDepth 20000 in
set_option maxHeartbeats 4000000 in
theorem warder_ok (w : Wt) {k : Nat} (hk : 2 ≤ k) (b : Nat) (hb : b < 4) (h : Mm) (hI : Iv (h 97)) : Ok w k MX8_warder [.ref 96, .int (nI b)] h (Rn (fun N => waF N b) h) := by
  show Wp w k MX8_warder _ 0 [some (.ref 96), some (.int (nI b)), none, none] [] h
  refine p_run (pc' := 15) [.aload_n 0, .getfield 9, .bipush 8, .iconst 3, .iload_n 1, .imul, .iadd, .iconst 2, .iadd, .aload_n 0, .iload_n 1, .iconst 2] mkX8_warder (by decide +kernel) rfl rfl ?_
  refine p_callVv (at_ok w (k := k - 1) b 2 _ (by omega)) kvX8_79 (by decide +kernel) (by decide) rfl (by omega) rfl rfl rfl rfl rfl ?_
  refine p_run (pc' := 23) [.aload_n 0, .getfield 9, .iconst 3] mkX8_warder (by decide +kernel) rfl rfl ?_
  refine p_iald (3) (by decide +kernel) rfl rfl (by simp only [oI]) (by omega) ?_
  refine p_run (pc' := 29) [.iadd, .iconst 0, .aload_n 0, .iload_n 1, .iconst 0] mkX8_warder (by decide +kernel) rfl rfl ?_
  refine p_callVv (at_ok w (k := k - 1) b 0 _ (by omega)) kvX8_79 (by decide +kernel) (by decide) rfl (by omega) rfl rfl rfl rfl rfl ?_
  refine p_callSv (rwithin_ok w (k := k - 1) _ _ _ _) ksX8_102 (by decide +kernel) (by omega) rfl rfl rfl rfl rfl ?_
  refine p_iast (8 + 3 * b + 2) (by decide +kernel) rfl rfl (by simp only [oI, nI_add, nIm]) (by omega)  ?_
  generalize eh : up h 97 (8 + 3 * b + 2) _ = h1
  have e1 : h1 97 = wgF (h 97) b := by rw [← eh, upS]; rfl
  have hA1 : Ag [97] h h1 := by rw [← eh]; exact Ag.up (by decide)
  have hI1 := wgF_Iv hI hb
  rw [← e1] at hI1
  obtain ⟨en, hn10⟩ := hI1.nd
  refine p_run (pc' := 38) [.aload_n 0, .iload_n 1] mkX8_warder (by decide +kernel) rfl rfl ?_
  refine p_callVv (rdiggersIn_ok w (k := k - 1) (by omega) b (nd (h1 97)) h1 en hn10) kvX8_152 (by decide +kernel) (by decide) rfl (by omega) rfl rfl rfl rfl rfl ?_
  refine p_run (pc' := 44) [.istore_n 2, .aload_n 0, .iload_n 1] mkX8_warder (by decide +kernel) rfl rfl ?_
  refine p_callVv (rahead_ok w (k := k - 1) (by omega) b hb h1) kvX8_90 (by decide +kernel) (by decide) rfl (by omega) rfl rfl rfl rfl rfl ?_
  refine p_if_gt (off := 7) 54 (by decide +kernel) (by decide) (fun c1 => ?_) (fun c1 => ?_)
  · refine p_vret rfl (by decide +kernel) ?_
    exact ⟨rfl, by rw [e1]; show _ = waF (h 97) b; unfold waF; rw [if_pos (Or.inl (by rw [← e1]; exact c1))], hA1.mono (by decide)⟩
  · refine p_run (pc' := 51) [.iload_n 2] mkX8_warder (by decide +kernel) rfl rfl ?_
    refine p_if_ne (off := 4) 55 (by decide +kernel) (by decide) (fun c2 => ?_) (fun c2 => ?_)
    · rw [nI_eq0 (by have := setF_1024 (inB (h1 97) b) hn10; omega)] at c2
      refine p_run (pc' := 61) [.aload_n 0, .getfield 9, .iconst 5, .dup2] mkX8_warder (by decide +kernel) rfl rfl ?_
      refine p_iald (5) (by decide +kernel) rfl rfl (by simp only [oI]) (by omega) ?_
      refine p_run (pc' := 64) [.iconst 1, .iadd] mkX8_warder (by decide +kernel) rfl rfl ?_
      refine p_iast (5) (by decide +kernel) rfl rfl (by simp only [oI]) (by omega)  ?_
      refine p_run (pc' := 67) [.iconst 0, .istore_n 3] mkX8_warder (by decide +kernel) rfl rfl ?_
      refine Wp.imp (fun r h' hq => ⟨hq.1, ?_, (hA1.tr ((Ag.up (by decide)).tr hq.2.2)).mono (by decide)⟩) (Wp.eqL ?_ (warder_loop w (by omega) b (nd (h1 97)) hb hn10 (upd (h1 97) 5 (h1 97 5 + Int32.ofInt 1)) (by rw [upd_n (by omega)]; exact en) _ (nd (h1 97)) 0 (by omega) _ (upS _ _ _ _) Ag.rf))
      · rw [hq.2.1]
        show _ = waF (h 97) b
        unfold waF
        rw [← e1, if_neg (fun q => q.elim c1 c2), oI]
      · rw [setF_congr (fun i _ => inB_upd (by omega)), oI]
    · rw [nI_eq0 (by have := setF_1024 (inB (h1 97) b) hn10; omega)] at c2
      refine p_vret rfl (by decide +kernel) ?_
      exact ⟨rfl, by rw [e1]; show _ = waF (h 97) b; unfold waF; rw [if_pos (Or.inr (by rw [← e1]; exact c2))], hA1.mono (by decide)⟩
set_option maxRecDepth 20000 in
set_option maxHeartbeats 4000000 in
theorem night_loop1 (w : Wt) {k : Nat} (hk : 5 ≤ k) (N : Vc) (hI : Iv N) (hT : Tq N) (h0 : Mm) (Q : Option Value → Mm → Prop) (hC : ∀ h x1, h 97 = daF N (nd N) → Ag [97, 107, 108] h0 h → Wp w k MX8_night Q 32 [some (.ref 96), x1] [] h) : ∀ (m i : Nat), i + m = nd N → ∀ h : Mm, h 97 = daF N i → Ag [97, 107, 108] h0 h →
    Wp w k MX8_night Q 2 [some (.ref 96), some (.int (nI i))] [] h := by
  obtain ⟨en, hn10⟩ := hI.nd
  intro m
  induction m with
  | zero =>
    intro i hi h e hA
    have hi : i = nd N := by omega
    have e1 : h 97 1 = nI (nd N) := by rw [e, daF_out hI (by omega) _ (by omega)]; exact en
    refine p_run (pc' := 8) [.iload_n 1, .aload_n 0, .getfield 9, .iconst 1] mkX8_night (by decide +kernel) rfl rfl ?_
    refine p_iald (1) (by decide +kernel) rfl rfl (by simp only [oI]) (by omega) ?_
    rw [e1, hi]
    refine p_icmp_ge (off := 23) 32 (by decide +kernel) (by decide) (fun c1 => ?_) (fun c1 => ?_)
    · exact hC h _ (by rw [e, hi]) hA
    · exact absurd (nI_le (Nat.le_refl _) (by omega)) c1
  | succ m ih =>
    intro i hi h e hA
    have e1 : h 97 1 = nI (nd N) := by rw [e, daF_out hI (by omega) _ (by omega)]; exact en
    refine p_run (pc' := 8) [.iload_n 1, .aload_n 0, .getfield 9, .iconst 1] mkX8_night (by decide +kernel) rfl rfl ?_
    refine p_iald (1) (by decide +kernel) rfl rfl (by simp only [oI]) (by omega) ?_
    rw [e1]
    refine p_icmp_ge (off := 23) 32 (by decide +kernel) (by decide) (fun c1 => ?_) (fun c1 => ?_)
    · exact absurd c1 (nI_ge (by omega) (by omega))
    · refine p_run (pc' := 15) [.aload_n 0, .iload_n 1, .iconst 2] mkX8_night (by decide +kernel) rfl rfl ?_
      refine p_callVv (of_ok w (k := k - 1) i 2 _ (by omega)) kvX8_83 (by decide +kernel) (by decide) rfl (by omega) rfl rfl rfl rfl rfl ?_
      refine p_if_le (off := 8) 26 (by decide +kernel) (by decide) (fun c2 => ?_) (fun c2 => ?_)
      · refine p_run (pc' := 2) [.iinc 1 1, .goto (-27)] mkX8_night (by decide +kernel) rfl rfl ?_
        refine Wp.eqL ?_ (ih (i + 1) (by omega) _ ?_ hA)
        · rw [show nI i + Int32.ofInt 1 = nI (i + 1) by simp only [oI, nI_add]]
        · rw [daF, if_neg (by rw [← e]; exact Int32.not_lt.mpr c2), e]
      · refine p_run (pc' := 23) [.aload_n 0, .iload_n 1] mkX8_night (by decide +kernel) rfl rfl ?_
        refine p_callV (digs_ok w (k := k - 1) (by omega) i (by omega) h (by rw [e]; exact daF_Iv hI i (by omega)) (by rw [e]; exact hT.of (fun j hj => daF_out hI (Or.inr hj) i (by omega)))) kvX8_163 (by decide +kernel) (by decide) rfl (by omega) rfl rfl rfl rfl rfl (fun r h' hq => ?_)
        obtain ⟨rfl, e2, hA2⟩ := hq
        refine p_run (pc' := 2) [.iinc 1 1, .goto (-27)] mkX8_night (by decide +kernel) rfl rfl ?_
        refine Wp.eqL ?_ (ih (i + 1) (by omega) _ ?_ (hA.tr hA2))
        · rw [show nI i + Int32.ofInt 1 = nI (i + 1) by simp only [oI, nI_add]]
        · rw [e2, e, daF, if_pos (by rw [← e]; exact Int32.not_le.mp c2)]
set_option maxRecDepth 20000 in
set_option maxHeartbeats 4000000 in
theorem night_loop2 (w : Wt) {k : Nat} (hk : 5 ≤ k) (N : Vc) (hI : Iv N) (h0 : Mm) (Q : Option Value → Mm → Prop) (hC : ∀ h x1, h 97 = waI N 4 → Ag [97, 107, 108] h0 h → Wp w k MX8_night Q 50 [some (.ref 96), x1] [] h) : ∀ (m i : Nat), i + m = 4 → ∀ h : Mm, h 97 = waI N i → Ag [97, 107, 108] h0 h →
    Wp w k MX8_night Q 34 [some (.ref 96), some (.int (nI i))] [] h := by
  intro m
  induction m with
  | zero =>
    intro i hi h e hA
    have hi : i = 4 := by omega
    subst hi
    refine p_run (pc' := 36) [.iload_n 1, .iconst 4] mkX8_night (by decide +kernel) rfl rfl ?_
    refine p_icmp_ge (off := 14) 50 (by decide +kernel) (by decide) (fun c1 => ?_) (fun c1 => ?_)
    · exact hC h _ e hA
    · exact absurd (by decide) c1
  | succ m ih =>
    intro i hi h e hA
    refine p_run (pc' := 36) [.iload_n 1, .iconst 4] mkX8_night (by decide +kernel) rfl rfl ?_
    refine p_icmp_ge (off := 14) 50 (by decide +kernel) (by decide) (fun c1 => ?_) (fun c1 => ?_)
    · exact absurd c1 (by rw [oI]; exact nI_ge (by omega) (by omega))
    · refine p_run (pc' := 41) [.aload_n 0, .iload_n 1] mkX8_night (by decide +kernel) rfl rfl ?_
      refine p_callV (warder_ok w (k := k - 1) (by omega) i (by omega) h (by rw [e]; exact waI_Iv hI i (by omega))) kvX8_167 (by decide +kernel) (by decide) rfl (by omega) rfl rfl rfl rfl rfl (fun r h' hq => ?_)
      obtain ⟨rfl, e2, hA2⟩ := hq
      refine p_run (pc' := 34) [.iinc 1 1, .goto (-13)] mkX8_night (by decide +kernel) rfl rfl ?_
      refine Wp.eqL ?_ (ih (i + 1) (by omega) _ ?_ (hA.tr hA2))
      · rw [show nI i + Int32.ofInt 1 = nI (i + 1) by simp only [oI, nI_add]]
      · rw [e2, e, waI]
set_option maxRecDepth 20000 in
set_option maxHeartbeats 4000000 in
theorem night_end (w : Wt) {k : Nat} (hk : 5 ≤ k) (N : Vc) (hI : Iv N) (h0 : Mm) (h : Mm) (x1 : Option Value) (e : h 97 = N) (hA : Ag [97, 107, 108] h0 h) :
    Wp w k MX8_night (fun r h' => r = none ∧ h' 97 = upd (faF N) 2 (faF N 2 + nI 1) ∧ Ag [97, 107, 108] h0 h') 50 [some (.ref 96), x1] [] h := by
  have A1 : ∀ (h : Mm) (j : Nat) (x : Int32), Ag [97, 107, 108] h (up h 97 j x) := fun h j x => Ag.up (by decide)
  have hd1 := dvN_lt (zF (N 0))
  refine p_run (pc' := 51) [.aload_n 0] mkX8_night (by decide +kernel) rfl rfl ?_
  refine p_callVv (draw_ok w (k := k - 1) h) kvX8_159 (by decide +kernel) (by decide) rfl (by omega) rfl rfl rfl rfl rfl ?_
  rw [e]
  refine p_run (pc' := 56) [.bipush 100] mkX8_night (by decide +kernel) rfl rfl ?_
  refine p_irem (by decide +kernel) (by decide) ?_
  rw [oI, jrem_nI (by omega) (by omega) (by omega)]
  refine p_run (pc' := 62) [.aload_n 0, .getfield 9, .iconst 4] mkX8_night (by decide +kernel) rfl rfl ?_
  refine p_iald (4) (by decide +kernel) rfl rfl (by simp only [oI]) (by omega) ?_
  rw [upS, e, upd_n (by omega)]
  refine p_icmp_ge (off := 41) 104 (by decide +kernel) (by decide) (fun c1 => ?_) (fun c1 => ?_)
  · refine p_run (pc' := 110) [.aload_n 0, .getfield 9, .iconst 2, .dup2] mkX8_night (by decide +kernel) rfl rfl ?_
    refine p_iald (2) (by decide +kernel) rfl rfl (by simp only [oI]) (by omega) ?_
    refine p_run (pc' := 113) [.iconst 1, .iadd] mkX8_night (by decide +kernel) rfl rfl ?_
    refine p_iast (2) (by decide +kernel) rfl rfl (by simp only [oI]) (by omega)  ?_
    refine p_vret rfl (by decide +kernel) ?_
    refine ⟨rfl, ?_, hA.tr ((A1 _ _ _).tr (A1 _ _ _))⟩
    rw [upS, upS, e, oI]
    have ef : faF N = drF N := by unfold faF; rw [if_neg (Int32.not_lt.mpr c1)]
    rw [ef]
    rfl
  · have hd2 := dvN_lt (zF (zF (N 0)))
    have hd3 := dvN_lt (zF (zF (zF (N 0))))
    refine p_run (pc' := 67) [.aload_n 0] mkX8_night (by decide +kernel) rfl rfl ?_
    refine p_callVv (draw_ok w (k := k - 1) _) kvX8_159 (by decide +kernel) (by decide) rfl (by omega) rfl rfl rfl rfl rfl ?_
    rw [upS, e, upd_s]
    refine p_run (pc' := 71) [.iconst 4] mkX8_night (by decide +kernel) rfl rfl ?_
    refine p_irem (by decide +kernel) (by decide) ?_
    rw [oI, jrem_nI (by omega) (by omega) (by omega)]
    generalize ec : dvN (zF (zF (N 0))) % 4 = cc
    have hcc : cc < 4 := by omega
    refine p_run (pc' := 86) [.istore_n 1, .aload_n 0, .getfield 9, .bipush 8, .iconst 3, .iload_n 1, .imul, .iadd, .iconst 1, .iadd, .aload_n 0] mkX8_night (by decide +kernel) rfl rfl ?_
    refine p_callVv (draw_ok w (k := k - 1) _) kvX8_159 (by decide +kernel) (by decide) rfl (by omega) rfl rfl rfl rfl rfl ?_
    rw [upS, upd_s]
    refine p_run (pc' := 91) [.bipush 100] mkX8_night (by decide +kernel) rfl rfl ?_
    refine p_irem (by decide +kernel) (by decide) ?_
    rw [oI, jrem_nI (by omega) (by omega) (by omega)]
    refine p_iast (8 + 3 * cc + 1) (by decide +kernel) rfl rfl (by simp only [oI, nI_add, nIm]) (by omega)  ?_
    refine p_run (pc' := 100) [.aload_n 0, .getfield 9, .bipush 6, .dup2] mkX8_night (by decide +kernel) rfl rfl ?_
    refine p_iald (6) (by decide +kernel) rfl rfl (by simp only [oI]) (by omega) ?_
    refine p_run (pc' := 103) [.iconst 1, .iadd] mkX8_night (by decide +kernel) rfl rfl ?_
    refine p_iast (6) (by decide +kernel) rfl rfl (by simp only [oI]) (by omega)  ?_
    refine p_run (pc' := 110) [.aload_n 0, .getfield 9, .iconst 2, .dup2] mkX8_night (by decide +kernel) rfl rfl ?_
    refine p_iald (2) (by decide +kernel) rfl rfl (by simp only [oI]) (by omega) ?_
    refine p_run (pc' := 113) [.iconst 1, .iadd] mkX8_night (by decide +kernel) rfl rfl ?_
    refine p_iast (2) (by decide +kernel) rfl rfl (by simp only [oI]) (by omega)  ?_
    refine p_vret rfl (by decide +kernel) ?_
    refine ⟨rfl, ?_, hA.tr ((A1 _ _ _).tr ((A1 _ _ _).tr ((A1 _ _ _).tr ((A1 _ _ _).tr ((A1 _ _ _).tr (A1 _ _ _))))))⟩
    simp only [upS, e, oI]
    have ef : faF N = upd (upd (drF (drF (drF N))) (8 + 3 * cc + 1) (nI (dvN (zF (zF (zF (N 0)))) % 100))) 6 (N 6 + nI 1) := by unfold faF; rw [if_pos (Int32.not_le.mp c1), ec]
    rw [ef]
    have e6 : ∀ x y z v, upd (upd (upd (upd N 0 x) 0 y) 0 z) (8 + 3 * cc + 1) v 6 = N 6 := fun x y z v => by rw [upd_n (by omega), upd_n (by omega), upd_n (by omega), upd_n (by omega)]
    rw [e6]
    simp only [drF, upd_s]
set_option maxRecDepth 20000 in
set_option maxHeartbeats 4000000 in
theorem night_ok (w : Wt) {k : Nat} (hk : 5 ≤ k) (h : Mm) (hI : Iv (h 97)) (hT : Tq (h 97)) : Ok w k MX8_night [.ref 96] h (Rn niF h) := by
  show Wp w k MX8_night _ 0 [some (.ref 96), none] [] h
  refine p_run (pc' := 2) [.iconst 0, .istore_n 1] mkX8_night (by decide +kernel) rfl rfl ?_
  refine night_loop1 w hk (h 97) hI hT h _ (fun h1 x1 e1 hA1 => ?_) (nd (h 97)) 0 (by omega) h rfl Ag.rf
  refine p_run (pc' := 34) [.iconst 0, .istore_n 1] mkX8_night (by decide +kernel) rfl rfl ?_
  refine night_loop2 w hk _ (daF_Iv hI _ hI.nd.2) h _ (fun h2 x2 e2 hA2 => ?_) 4 0 (by omega) h1 e1 hA1
  exact night_end w hk _ (waI_Iv (daF_Iv hI _ hI.nd.2) 4 (by omega)) h h2 x2 e2 hA2
