/-! the reference: what is dug, burned, worth -/
noncomputable def dgF (N : Vc) (d : Nat) : Int32 := match nN (dK N d 0) with
  | 1 => plF N d + nI 1
  | 2 => plF N d / nI 2
  | 3 => if nI 40 < ahF N (brF N d) then (plF N d + nI 1) / nI 2 else plF N d + nI 1
  | 4 => plF N d / nI 2 + nI 2 * nI (cntF (feB N d) (nd N))
  | 5 => nI 1
  | _ => plF N d
noncomputable def buF (N : Vc) (d : Nat) : Int32 := match nN (dK N d 0) with
  | 1 => nI 2
  | 2 => nI 0
  | 3 => if nI 40 < ahF N (brF N d) then nI 0 else nI 2
  | 4 => nI 3
  | 5 => nI 2
  | _ => nI 1
noncomputable def woF (N : Vc) (d : Nat) : Int32 := match nN (dK N d 0) with
  | 1 => dK N d 2 + dK N d 1
  | 2 => nI 99 - dK N d 2
  | 3 => nI 2 * (dK N d 2 + dK N d 1)
  | 4 => (nI 99 - dK N d 2) / nI 2
  | 5 => dK N d 4 / nI 10
  | _ => dK N d 2
theorem kd_case {x : Int32} {v : Nat} (hv : v < 10) (h : x = Int32.ofInt (v : Int)) : nN x = v := by
  rw [h]
  exact nI_clamp (n := v) (by omega)
theorem kd_dflt {x : Int32} (hi : In x 5) (h : x.toInt < 1 ∨ 5 < x.toInt) : nN x = 0 := by
  have h1 := hi.2
  rw [hi.1, nI_toInt (by omega)] at h
  omega
/-- the texts' rows are small -/
theorem Iv.tx {N : Vc} (h : Iv N) : In (N 7) 14 := h.2.2.2.1
def Tq (N : Vc) : Prop := ∀ t, t < 14 → In (N (70 + 2 * t)) 9999
set_option maxRecDepth 20000 in
set_option maxHeartbeats 4000000 in
theorem far_ok (w : Wt) {k : Nat} (hk : 2 ≤ k) (d : Nat) (hd : d < 10) (h : Mm) (hI : Iv (h 97)) : Ok w k MX8_isFarOff [.ref 96, .int (nI d)] h (Rv (bI (nI 40 < ahF (h 97) (brF (h 97) d))) h) := by
  show Wp w k MX8_isFarOff _ 0 [some (.ref 96), some (.int (nI d))] [] h
  refine p_run (pc' := 4) [.aload_n 0, .aload_n 0, .iload_n 1, .iconst 3] mkX8_isFarOff (by decide +kernel) rfl rfl ?_
  refine p_callVv (of_ok w (k := k - 1) d 3 h (by omega)) kvX8_83 (by decide +kernel) (by decide) rfl (by omega) rfl rfl rfl rfl rfl ?_
  rw [(hI.br hd).1]
  refine p_callVv (rahead_ok w (k := k - 1) (by omega) (brF (h 97) d) (hI.br hd).2 h) kvX8_90 (by decide +kernel) (by decide) rfl (by omega) rfl rfl rfl rfl rfl ?_
  refine p_run (pc' := 12) [.bipush 40] mkX8_isFarOff (by decide +kernel) rfl rfl ?_
  refine p_icmp_le (off := 7) 19 (by decide +kernel) (by decide) (fun c12 => ?_) (fun c12 => ?_)
  · refine p_run (pc' := 20) [.iconst 0] mkX8_isFarOff (by decide +kernel) rfl rfl ?_
    refine p_iret rfl rfl (by decide +kernel) ?_
    exact ⟨by first | (rw [bIt (by rw [oI] at c12; first | exact c12 | exact Int32.not_le.mp c12)]; rfl) | (rw [bIf (by rw [oI] at c12; first | exact c12 | exact Int32.not_lt.mpr c12)]; rfl), rfl⟩
  · refine p_run (pc' := 20) [.iconst 1, .goto 4] mkX8_isFarOff (by decide +kernel) rfl rfl ?_
    refine p_iret rfl rfl (by decide +kernel) ?_
    exact ⟨by first | (rw [bIt (by rw [oI] at c12; first | exact c12 | exact Int32.not_le.mp c12)]; rfl) | (rw [bIf (by rw [oI] at c12; first | exact c12 | exact Int32.not_lt.mpr c12)]; rfl), rfl⟩
set_option maxRecDepth 20000 in
set_option maxHeartbeats 4000000 in
theorem worthOf_ok (w : Wt) {k : Nat} (hk : 1 ≤ k) (d : Nat) (hd : d < 10) (h : Mm) (hI : Iv (h 97)) : Ok w k MX8_worthOf [.ref 96, .int (nI d)] h (Rv (woF (h 97) d) h) := by
  show Wp w k MX8_worthOf _ 0 [some (.ref 96), some (.int (nI d)), none] [] h
  refine p_run (pc' := 3) [.aload_n 0, .iload_n 1, .iconst 2] mkX8_worthOf (by decide +kernel) rfl rfl ?_
  refine p_callVv (of_ok w (k := k - 1) d 2 h (by omega)) kvX8_83 (by decide +kernel) (by decide) rfl (by omega) rfl rfl rfl rfl rfl ?_
  refine p_run (pc' := 10) [.istore_n 2, .aload_n 0, .iload_n 1, .iconst 0] mkX8_worthOf (by decide +kernel) rfl rfl ?_
  refine p_callVv (of_ok w (k := k - 1) d 0 h (by omega)) kvX8_83 (by decide +kernel) (by decide) rfl (by omega) rfl rfl rfl rfl rfl ?_
  refine p_table (dflt := 77) (lo := 1) (hi := 5) (offs := #[35, 44, 49, 60, 67]) (len := 35) (by decide +kernel) (by decide) (fun j hj hx => ?_) (fun hx => ?_)
  · match j, hj, hx with
    | 0, _, hx =>
      have hx : h 97 (20 + 5 * d + 0) = Int32.ofInt (1) := hx
      refine ⟨35, 48, rfl, rfl, ?_⟩
      have hK : nN (dK (h 97) d 0) = 1 := kd_case (by omega) hx
      refine p_run (pc' := 52) [.iload_n 2, .aload_n 0, .iload_n 1, .iconst 1] mkX8_worthOf (by decide +kernel) rfl rfl ?_
      refine p_callVv (of_ok w (k := k - 1) (d) (1) _ (by omega)) kvX8_83 (by decide +kernel) (by decide) rfl (by omega) rfl rfl rfl rfl rfl ?_
      refine p_run (pc' := 56) [.iadd] mkX8_worthOf (by decide +kernel) rfl rfl ?_
      refine p_iret rfl rfl (by decide +kernel) ?_
      exact ⟨by simp only [woF, hK, oI]; rfl, rfl⟩
    | 1, _, hx =>
      have hx : h 97 (20 + 5 * d + 0) = Int32.ofInt (2) := hx
      refine ⟨44, 57, rfl, rfl, ?_⟩
      have hK : nN (dK (h 97) d 0) = 2 := kd_case (by omega) hx
      refine p_run (pc' := 61) [.bipush 99, .iload_n 2, .isub] mkX8_worthOf (by decide +kernel) rfl rfl ?_
      refine p_iret rfl rfl (by decide +kernel) ?_
      exact ⟨by simp only [woF, hK, oI]; rfl, rfl⟩
    | 2, _, hx =>
      have hx : h 97 (20 + 5 * d + 0) = Int32.ofInt (3) := hx
      refine ⟨49, 62, rfl, rfl, ?_⟩
      have hK : nN (dK (h 97) d 0) = 3 := kd_case (by omega) hx
      refine p_run (pc' := 67) [.iconst 2, .iload_n 2, .aload_n 0, .iload_n 1, .iconst 1] mkX8_worthOf (by decide +kernel) rfl rfl ?_
      refine p_callVv (of_ok w (k := k - 1) (d) (1) _ (by omega)) kvX8_83 (by decide +kernel) (by decide) rfl (by omega) rfl rfl rfl rfl rfl ?_
      refine p_run (pc' := 72) [.iadd, .imul] mkX8_worthOf (by decide +kernel) rfl rfl ?_
      refine p_iret rfl rfl (by decide +kernel) ?_
      exact ⟨by simp only [woF, hK, oI]; rfl, rfl⟩
    | 3, _, hx =>
      have hx : h 97 (20 + 5 * d + 0) = Int32.ofInt (4) := hx
      refine ⟨60, 73, rfl, rfl, ?_⟩
      have hK : nN (dK (h 97) d 0) = 4 := kd_case (by omega) hx
      refine p_run (pc' := 78) [.bipush 99, .iload_n 2, .isub, .iconst 2] mkX8_worthOf (by decide +kernel) rfl rfl ?_
      refine p_idiv (by decide +kernel) (by decide) ?_
      refine p_iret rfl rfl (by decide +kernel) ?_
      exact ⟨by simp only [woF, hK, oI]; rfl, rfl⟩
    | 4, _, hx =>
      have hx : h 97 (20 + 5 * d + 0) = Int32.ofInt (5) := hx
      refine ⟨67, 80, rfl, rfl, ?_⟩
      have hK : nN (dK (h 97) d 0) = 5 := kd_case (by omega) hx
      refine p_run (pc' := 83) [.aload_n 0, .iload_n 1, .iconst 4] mkX8_worthOf (by decide +kernel) rfl rfl ?_
      refine p_callVv (of_ok w (k := k - 1) (d) (4) _ (by omega)) kvX8_83 (by decide +kernel) (by decide) rfl (by omega) rfl rfl rfl rfl rfl ?_
      refine p_run (pc' := 88) [.bipush 10] mkX8_worthOf (by decide +kernel) rfl rfl ?_
      refine p_idiv (by decide +kernel) (by decide) ?_
      refine p_iret rfl rfl (by decide +kernel) ?_
      exact ⟨by simp only [woF, hK, oI]; rfl, rfl⟩
    | j + 5, hj, _ => exact absurd hj (by simp)
  · refine ⟨90, rfl, ?_⟩
    have hK : nN (dK (h 97) d 0) = 0 := kd_dflt (hI.2.2.2.2.2.1 d hd).1 hx
    refine p_run (pc' := 91) [.iload_n 2] mkX8_worthOf (by decide +kernel) rfl rfl ?_
    refine p_iret rfl rfl (by decide +kernel) ?_
    exact ⟨by simp only [woF, hK, oI]; rfl, rfl⟩
set_option maxRecDepth 20000 in
set_option maxHeartbeats 4000000 in
theorem burnsOf_ok (w : Wt) {k : Nat} (hk : 3 ≤ k) (d : Nat) (hd : d < 10) (h : Mm) (hI : Iv (h 97)) : Ok w k MX8_burnsOf [.ref 96, .int (nI d)] h (Rv (buF (h 97) d) h) := by
  show Wp w k MX8_burnsOf _ 0 [some (.ref 96), some (.int (nI d))] [] h
  refine p_run (pc' := 3) [.aload_n 0, .iload_n 1, .iconst 0] mkX8_burnsOf (by decide +kernel) rfl rfl ?_
  refine p_callVv (of_ok w (k := k - 1) d 0 h (by omega)) kvX8_83 (by decide +kernel) (by decide) rfl (by omega) rfl rfl rfl rfl rfl ?_
  refine p_table (dflt := 54) (lo := 1) (hi := 5) (offs := #[34, 36, 38, 52, 34]) (len := 34) (by decide +kernel) (by decide) (fun j hj hx => ?_) (fun hx => ?_)
  · match j, hj, hx with
    | 0, _, hx =>
      have hx : h 97 (20 + 5 * d + 0) = Int32.ofInt (1) := hx
      refine ⟨34, 40, rfl, rfl, ?_⟩
      have hK : nN (dK (h 97) d 0) = 1 := kd_case (by omega) hx
      refine p_run (pc' := 41) [.iconst 2] mkX8_burnsOf (by decide +kernel) rfl rfl ?_
      refine p_iret rfl rfl (by decide +kernel) ?_
      exact ⟨by simp only [buF, hK, oI], rfl⟩
    | 1, _, hx =>
      have hx : h 97 (20 + 5 * d + 0) = Int32.ofInt (2) := hx
      refine ⟨36, 42, rfl, rfl, ?_⟩
      have hK : nN (dK (h 97) d 0) = 2 := kd_case (by omega) hx
      refine p_run (pc' := 43) [.iconst 0] mkX8_burnsOf (by decide +kernel) rfl rfl ?_
      refine p_iret rfl rfl (by decide +kernel) ?_
      exact ⟨by simp only [buF, hK, oI], rfl⟩
    | 2, _, hx =>
      have hx : h 97 (20 + 5 * d + 0) = Int32.ofInt (3) := hx
      refine ⟨38, 44, rfl, rfl, ?_⟩
      have hK : nN (dK (h 97) d 0) = 3 := kd_case (by omega) hx
      refine p_run (pc' := 46) [.aload_n 0, .iload_n 1] mkX8_burnsOf (by decide +kernel) rfl rfl ?_
      refine p_callVv (far_ok w (k := k - 1) (by omega) d hd _ hI) kvX8_109 (by decide +kernel) (by decide) rfl (by omega) rfl rfl rfl rfl rfl ?_
      refine p_if_eq (off := 7) 56 (by decide +kernel) (by decide) (fun c49 => ?_) (fun c49 => ?_)
      · refine p_run (pc' := 57) [.iconst 2] mkX8_burnsOf (by decide +kernel) rfl rfl ?_
        refine p_iret rfl rfl (by decide +kernel) ?_
        exact ⟨by simp only [buF, hK]; first | (rw [if_pos (bI1.mp c49)]; rfl) | (rw [if_neg (bI0.mp c49)]; rfl), rfl⟩
      · refine p_run (pc' := 57) [.iconst 0, .goto 4] mkX8_burnsOf (by decide +kernel) rfl rfl ?_
        refine p_iret rfl rfl (by decide +kernel) ?_
        exact ⟨by simp only [buF, hK]; first | (rw [if_pos (bI1.mp c49)]; rfl) | (rw [if_neg (bI0.mp c49)]; rfl), rfl⟩
    | 3, _, hx =>
      have hx : h 97 (20 + 5 * d + 0) = Int32.ofInt (4) := hx
      refine ⟨52, 58, rfl, rfl, ?_⟩
      have hK : nN (dK (h 97) d 0) = 4 := kd_case (by omega) hx
      refine p_run (pc' := 59) [.iconst 3] mkX8_burnsOf (by decide +kernel) rfl rfl ?_
      refine p_iret rfl rfl (by decide +kernel) ?_
      exact ⟨by simp only [buF, hK, oI], rfl⟩
    | 4, _, hx =>
      have hx : h 97 (20 + 5 * d + 0) = Int32.ofInt (5) := hx
      refine ⟨34, 40, rfl, rfl, ?_⟩
      have hK : nN (dK (h 97) d 0) = 5 := kd_case (by omega) hx
      refine p_run (pc' := 41) [.iconst 2] mkX8_burnsOf (by decide +kernel) rfl rfl ?_
      refine p_iret rfl rfl (by decide +kernel) ?_
      exact ⟨by simp only [buF, hK, oI], rfl⟩
    | j + 5, hj, _ => exact absurd hj (by simp)
  · refine ⟨60, rfl, ?_⟩
    have hK : nN (dK (h 97) d 0) = 0 := kd_dflt (hI.2.2.2.2.2.1 d hd).1 hx
    refine p_run (pc' := 61) [.iconst 1] mkX8_burnsOf (by decide +kernel) rfl rfl ?_
    refine p_iret rfl rfl (by decide +kernel) ?_
    exact ⟨by simp only [buF, hK, oI], rfl⟩
theorem lastT_in {N : Vc} {key : Nat} : ∀ {n t : Nat}, lastT N key n = some t → t < n ∧ nN (N (70 + 2 * t)) / 1000 = key
  | 0, t, h => by simp [lastT] at h
  | n + 1, t, h => by
    rw [lastT] at h
    split at h
    · rename_i hk
      cases h
      exact ⟨by omega, hk⟩
    · obtain ⟨h1, h2⟩ := lastT_in h
      exact ⟨by omega, h2⟩
theorem lastT_spec {N : Vc} {key t : Nat} (h : lawT N key = some t) (hI : Iv N) : t < 14 ∧ TX N t ∧ nN (N (70 + 2 * t)) / 1000 = key := by
  obtain ⟨h1, h2⟩ := lastT_in h
  have h3 := hI.tx.2
  exact ⟨by omega, hI.2.2.2.2.2.2 t h1, h2⟩
set_option maxRecDepth 20000 in
set_option maxHeartbeats 4000000 in
theorem plainDig_ok (w : Wt) {k : Nat} (hk : 2 ≤ k) (d : Nat) (hd : d < 10) (h : Mm) (hI : Iv (h 97)) (hT : Tq (h 97)) : Ok w k MX8_plainDig [.ref 96, .int (nI d)] h (Rs [107, 108] (plF (h 97) d) h) := by
  show Wp w k MX8_plainDig _ 0 [some (.ref 96), some (.int (nI d)), none, none] [] h
  refine p_run (pc' := 2) [.aload_n 0, .iconst 0] mkX8_plainDig (by decide +kernel) rfl rfl ?_
  refine p_callVv (counts_ok w (k := k - 1) 0 (by omega) h hI.tx hT) kvX8_86 (by decide +kernel) (by decide) rfl (by omega) rfl rfl rfl rfl rfl ?_
  refine p_run (pc' := 9) [.istore_n 2, .aload_n 0, .iload_n 1, .iconst 3] mkX8_plainDig (by decide +kernel) rfl rfl ?_
  refine p_callVv (of_ok w (k := k - 1) d 3 h (by omega)) kvX8_83 (by decide +kernel) (by decide) rfl (by omega) rfl rfl rfl rfl rfl ?_
  obtain ⟨eb, hb4⟩ := hI.br hd
  obtain ⟨en, hn10⟩ := hI.nd
  rw [eb]
  generalize hbb : brF (h 97) d = b at *
  refine p_run (pc' := 21) [.istore_n 3, .aload_n 0, .getfield 45, .iconst 0, .aload_n 0, .iload_n 1, .iconst 1] mkX8_plainDig (by decide +kernel) rfl rfl ?_
  refine p_callVv (of_ok w (k := k - 1) d 1 _ (by omega)) kvX8_83 (by decide +kernel) (by decide) rfl (by omega) rfl rfl rfl rfl rfl ?_
  refine p_iast (0) (by decide +kernel) rfl rfl (by simp only [oI]) (by omega)  ?_
  refine p_run (pc' := 33) [.aload_n 0, .getfield 45, .iconst 1, .aload_n 0, .iload_n 3, .iconst 1] mkX8_plainDig (by decide +kernel) rfl rfl ?_
  refine p_callVv (at_ok w (k := k - 1) b 1 _ (by omega)) kvX8_79 (by decide +kernel) (by decide) rfl (by omega) rfl rfl rfl rfl rfl ?_
  refine p_iast (1) (by decide +kernel) rfl rfl (by simp only [oI]) (by omega)  ?_
  simp only [upN (show (97 : Nat) ≠ 108 by decide)]
  refine p_run (pc' := 44) [.aload_n 0, .getfield 45, .iconst 2, .aload_n 0, .iload_n 3] mkX8_plainDig (by decide +kernel) rfl rfl ?_
  refine p_callVv (rahead_ok w (k := k - 1) (by omega) b hb4 _) kvX8_90 (by decide +kernel) (by decide) rfl (by omega) rfl rfl rfl rfl rfl ?_
  refine p_iast (2) (by decide +kernel) rfl rfl (by simp only [oI]) (by omega)  ?_
  simp only [upN (show (97 : Nat) ≠ 108 by decide)]
  refine p_run (pc' := 55) [.aload_n 0, .getfield 45, .iconst 3, .aload_n 0, .iload_n 3] mkX8_plainDig (by decide +kernel) rfl rfl ?_
  refine p_callVv (rlitIn_ok w (k := k - 1) (by omega) b (nd (h 97)) _ (by simp only [upN (show (97 : Nat) ≠ 108 by decide)]; exact en) hn10) kvX8_93 (by decide +kernel) (by decide) rfl (by omega) rfl rfl rfl rfl rfl ?_
  simp only [upN (show (97 : Nat) ≠ 108 by decide)]
  refine p_callSv (bits_ok w (k := k - 1) _ (setF_1024 _ hn10) _) ksX8_96 (by decide +kernel) (by omega) rfl rfl rfl rfl rfl ?_
  rw [pcF_set _ _ hn10]
  refine p_iast (3) (by decide +kernel) rfl rfl (by simp only [oI]) (by omega)  ?_
  generalize e4 : up (up (up (up h 108 0 (h 97 (20 + 5 * d + 1))) 108 1 (h 97 (8 + 3 * b + 1))) 108 2 (ahF (h 97) b)) 108 3 (nI (cntF (litB (h 97) b) (nd (h 97)))) = h4
  have e97 : h4 97 = h 97 := by rw [← e4]; simp only [upN (show (97 : Nat) ≠ 108 by decide)]
  have eA : ∀ a, a ≠ 108 → h4 a = h a := fun a ha => by rw [← e4]; simp only [upN ha]
  have e108 : ∀ i, i < 4 → h4 108 i = fc4 (h 97 (20 + 5 * d + 1)) (h 97 (8 + 3 * b + 1)) (ahF (h 97) b) (nI (cntF (litB (h 97) b) (nd (h 97)))) i := fun i hi => by
    rw [← e4]
    rcases (show i = 0 ∨ i = 1 ∨ i = 2 ∨ i = 3 by omega) with rfl | rfl | rfl | rfl <;> simp [up, fc4]
  cases hl : lawT (h 97) 0 with
  | none =>
    rw [show oT none = Int32.ofInt (-1) from rfl]
    refine p_run (pc' := 63) [.iload_n 2] mkX8_plainDig (by decide +kernel) rfl rfl ?_
    refine p_if_ge (off := 19) 82 (by decide +kernel) (by decide) (fun c1 => ?_) (fun c1 => ?_)
    · exact absurd c1 (by decide)
    · refine p_run (pc' := 69) [.aload_n 0, .iload_n 1, .iconst 1] mkX8_plainDig (by decide +kernel) rfl rfl ?_
      refine p_callVv (of_ok w (k := k - 1) d 1 _ (by omega)) kvX8_83 (by decide +kernel) (by decide) rfl (by omega) rfl rfl rfl rfl rfl ?_
      refine p_run (pc' := 75) [.aload_n 0, .iload_n 3, .iconst 1] mkX8_plainDig (by decide +kernel) rfl rfl ?_
      refine p_callVv (at_ok w (k := k - 1) b 1 _ (by omega)) kvX8_79 (by decide +kernel) (by decide) rfl (by omega) rfl rfl rfl rfl rfl ?_
      refine p_run (pc' := 90) [.isub, .goto 8, .iconst 0, .bipush 99] mkX8_plainDig (by decide +kernel) rfl rfl ?_
      refine p_callSv (rwithin_ok w (k := k - 1) _ _ _ _) ksX8_102 (by decide +kernel) (by omega) rfl rfl rfl rfl rfl ?_
      refine p_iret rfl rfl (by decide +kernel) ?_
      exact ⟨by rw [plF, hl, hbb, e97]; simp only [oI]; rfl, fun a ha => eA a (fun e => ha (by rw [e]; decide))⟩
  | some t =>
    rw [show oT (some t) = nI t from rfl]
    obtain ⟨ht, hX, hx0⟩ := lastT_spec hl hI
    refine p_run (pc' := 63) [.iload_n 2] mkX8_plainDig (by decide +kernel) rfl rfl ?_
    refine p_if_ge (off := 19) 82 (by decide +kernel) (by decide) (fun c1 => ?_) (fun c1 => ?_)
    · refine p_run (pc' := 84) [.aload_n 0, .iload_n 2] mkX8_plainDig (by decide +kernel) rfl rfl ?_
      refine p_callV (worksOut_ok w (k := k - 1) (by omega) t ht _ (by rw [e97]; exact hX)) kvX8_99 (by decide +kernel) (by decide) rfl (by omega) rfl rfl rfl rfl rfl (fun r h' hq => ?_)
      obtain ⟨rfl, hA⟩ := hq
      refine p_run (pc' := 90) [.iconst 0, .bipush 99] mkX8_plainDig (by decide +kernel) rfl rfl ?_
      refine p_callSv (rwithin_ok w (k := k - 1) _ _ _ _) ksX8_102 (by decide +kernel) (by omega) rfl rfl rfl rfl rfl ?_
      refine p_iret rfl rfl (by decide +kernel) ?_
      refine ⟨?_, fun a ha => (hA a (fun e => ha (by rw [e]; decide))).trans (eA a (fun e => ha (by rw [e]; decide)))⟩
      rw [plF, hl, hbb]
      simp only [oI]
      rw [e97, evF_congr hX (fun i hi => e108 i (by rw [hx0] at hi; exact hi))]
      rfl
    · exact absurd (by rw [← nI_0]; exact nI_le (Nat.zero_le _) (by omega)) c1
