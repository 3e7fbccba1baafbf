/-! the class: who is put out; fee and fine; branches in use; sheets -/
theorem and_bit : ∀ i, i < 10 → ∀ m, m < 1024 → (nI m &&& (nI 1 <<< (nI i &&& 31)) = 0 ↔ m / 2 ^ i % 2 = 0) := by decide +kernel
theorem poF_nd {N : Vc} {m i : Nat} : nd (poF N m i) = nd N := by unfold nd; rw [poF_out i (fun d _ => by omega)]
theorem TR.po {h : Mm} {N : Vc} {m n : Nat} (hT : TR h N) (hn : n ≤ 10) : TR h (poF N m n) := hT.da (fun j hj => poF_out n (fun d hd => by omega)) (poF_out n (fun d hd => by omega))
theorem setF_pos {p : Nat → Bool} : ∀ {n : Nat}, setF p n ≠ 0 ↔ ∃ i, i < n ∧ p i = true
  | 0 => by simp [setF]
  | n + 1 => by
    rw [setF]
    constructor
    · intro h
      by_cases hp : p n = true
      · exact ⟨n, by omega, hp⟩
      · rw [if_neg hp, Nat.add_zero] at h
        obtain ⟨i, hi, q⟩ := setF_pos.mp h
        exact ⟨i, by omega, q⟩
    · rintro ⟨i, hi, q⟩
      by_cases hp : p n = true
      · rw [if_pos hp]
        have := Nat.two_pow_pos n
        omega
      · have hi2 : i < n := by
          rcases Nat.lt_or_ge i n with z | z
          · exact z
          · have : i = n := by omega
            rw [this] at q; exact absurd q hp
        have := setF_pos.mpr ⟨i, hi2, q⟩
        omega
noncomputable def uuB (N : Vc) (i : Nat) (b : Nat) : Bool := @decide (∃ d, d < i ∧ brF N d = b) (Classical.propDecidable _)
theorem uuB_iff {N : Vc} {i b : Nat} : uuB N i b = true ↔ ∃ d, d < i ∧ brF N d = b := by unfold uuB; simp
theorem or4 : ∀ q0 q1 q2 q3 : Bool, ∀ b, b < 4 → nI ((((0 + if q0 then 2 ^ 0 else 0) + if q1 then 2 ^ 1 else 0) + if q2 then 2 ^ 2 else 0) + if q3 then 2 ^ 3 else 0) ||| (nI 1 <<< (nI b &&& 31)) = nI ((((0 + if (q0 || b == 0) then 2 ^ 0 else 0) + if (q1 || b == 1) then 2 ^ 1 else 0) + if (q2 || b == 2) then 2 ^ 2 else 0) + if (q3 || b == 3) then 2 ^ 3 else 0) := by decide +kernel
theorem uu_step {N : Vc} {i : Nat} (hb : brF N i < 4) : nI (setF (uuB N i) 4) ||| (nI 1 <<< (nI (brF N i) &&& 31)) = nI (setF (uuB N (i + 1)) 4) := by
  have e : ∀ c, uuB N (i + 1) c = (uuB N i c || brF N i == c) := fun c => by
    rw [Bool.eq_iff_iff, uuB_iff, Bool.or_eq_true, uuB_iff, beq_iff_eq]
    constructor
    · rintro ⟨d, hd, q⟩
      by_cases z : d = i
      · exact Or.inr (by rw [← z]; exact q)
      · exact Or.inl ⟨d, by omega, q⟩
    · rintro (⟨d, hd, q⟩ | q)
      · exact ⟨d, by omega, q⟩
      · exact ⟨i, by omega, q⟩
  have := or4 (uuB N i 0) (uuB N i 1) (uuB N i 2) (uuB N i 3) (brF N i) hb
  unfold setF setF setF setF setF
  rw [e 0, e 1, e 2, e 3]
  exact this
theorem uu_end {N : Vc} (hI : Iv N) : setF (uuB N (nd N)) 4 = setF (peB N) 4 := by
  refine setF_congr (fun b hb => ?_)
  rw [Bool.eq_iff_iff, uuB_iff]
  unfold peB
  rw [decide_eq_true_iff, setF_pos]
  have hn := hI.nd.2
  constructor
  · rintro ⟨d, hd, q⟩
    exact ⟨d, hd, inB_iff.mpr (by rw [← q]; exact (hI.br (by omega)).1)⟩
  · rintro ⟨d, hd, q⟩
    have h1 := inB_iff.mp q
    have h2 := hI.br (d := d) (by omega)
    refine ⟨d, hd, ?_⟩
    have h3 : nI (brF N d) = nI b := h2.1.symm.trans h1
    exact (nI_eq (by omega) (by omega)).mp h3
set_option maxRecDepth 20000 in
set_option maxHeartbeats 4000000 in
theorem cputOut (w : Wt) {k : Nat} (m : Nat) (hm : m < 1024) (N : Vc) (h : Mm) (hI : Iv N) (hR : PR 47 h N) : Ok w k MX2_putOutAllBut [.ref 47, .int (nI m)] h (fun r h' => r = none ∧ PR 47 h' (poF N m (nd N)) ∧ Fp 47 h h') := by
  show Wp w k MX2_putOutAllBut _ 0 [some (.ref 47), some (.int (nI m)), none] [] h
  obtain ⟨en, hn10⟩ := hI.nd
  refine p_run (pc' := 2) [.iconst 0, .istore_n 2] mkX2_putOutAllBut (by decide +kernel) rfl rfl ?_
  refine Wp.for (nd N) (fun i L hh => L = [some (.ref 47), some (.int (nI m)), some (.int (nI i))] ∧ (PR 47 hh (poF N m i) ∧ Fp 47 h hh)) ?_ ?_ (0) (by omega) _ _ ?_
  · rintro i L hh hi ⟨rfl, hJ⟩ ih
    obtain ⟨hR1, hF⟩ := hJ
    have e1 : poF N m i 1 = nI (nd N) := by rw [poF_out _ (fun d _ => by omega)]; exact en
    refine p_run (pc' := 7) [.iload_n 2, .aload_n 0, .getfield 45] mkX2_putOutAllBut (by decide +kernel) rfl rfl ?_
    rw [hR1.1.1, e1]
    refine p_icmp_ge (off := 27) 34 (by decide +kernel) (by decide) (fun cqh => ?_) (fun cqh => ?_)
    · exact absurd cqh (nI_ge (by omega) (by omega))
    · refine p_run (pc' := 15) [.iload_n 1, .iconst 1, .iload_n 2, .ishl, .iand] mkX2_putOutAllBut (by decide +kernel) rfl rfl ?_
      have hab := and_bit i (by omega) m hm
      refine p_if_ne (off := 13) 28 (by decide +kernel) (by decide) (fun cq1 => ?_) (fun cq1 => ?_)
      · refine p_run (pc' := 2) [.iinc 2 1, .goto (-29)] mkX2_putOutAllBut (by decide +kernel) rfl rfl ?_
        exact ih _ _ ⟨by rw [show nI i + Int32.ofInt 1 = nI (i + 1) by simp only [oI, nI_add]], by rw [poF, if_pos (by have : ¬ m / 2 ^ i % 2 = 0 := fun q => cq1 (hab.mpr q); omega)]; exact hR1, hF⟩
      · refine p_run (pc' := 23) [.aload_n 0, .getfield 24, .iload_n 2] mkX2_putOutAllBut (by decide +kernel) rfl rfl ?_
        refine p_aald (i) (by decide +kernel) (by decide) rfl (by decide) rfl (by omega) (rfD47 i (by omega)) ?_
        refine p_run (pc' := 25) [.iconst 0] mkX2_putOutAllBut (by decide +kernel) rfl rfl ?_
        refine p_put (by decide +kernel) fo2_73 (obD pp47 (by omega)).1 (obD pp47 (by omega)).2.1 rfl ((obD pp47 (by omega)).2.2 _) ?_
        refine p_run (pc' := 2) [.iinc 2 1, .goto (-29)] mkX2_putOutAllBut (by decide +kernel) rfl rfl ?_
        exact ih _ _ ⟨by rw [show nI i + Int32.ofInt 1 = nI (i + 1) by simp only [oI, nI_add]], by rw [poF, if_neg (by have := hab.mp cq1; omega)]; exact hR1.upD (by rw [poF_nd]; omega) (by omega) (by rw [poF_nd]; omega), hF.tr (Fp.u1 (by omega))⟩
  · rintro L hh ⟨rfl, hJ⟩
    obtain ⟨hR1, hF⟩ := hJ
    have e1 : poF N m (nd N) 1 = nI (nd N) := by rw [poF_out _ (fun d _ => by omega)]; exact en
    refine p_run (pc' := 7) [.iload_n 2, .aload_n 0, .getfield 45] mkX2_putOutAllBut (by decide +kernel) rfl rfl ?_
    rw [hR1.1.1, e1]
    refine p_icmp_ge (off := 27) 34 (by decide +kernel) (by decide) (fun cqh => ?_) (fun cqh => ?_)
    · refine p_vret rfl (by decide +kernel) ?_
      exact ⟨rfl, hR1, hF⟩
    · exact absurd (nI_le (Nat.le_refl _) (by omega)) cqh
  · exact ⟨rfl, hR, Fp.rf⟩
set_option maxRecDepth 20000 in
set_option maxHeartbeats 4000000 in
theorem cfeeGives (w : Wt) {k : Nat} (hk : 3 ≤ k) (N : Vc) (h : Mm) (hI : Iv N) (hR : PR 11 h N) (hT : TR h N) : Ok w k MX2_feeGives [.ref 11] h (Rf (feF N) h) := by
  show Wp w k MX2_feeGives _ 0 [some (.ref 11)] [] h
  have hn10 := hI.nd.2
  refine p_run (pc' := 5) [.aload_n 0, .getfield 29, .iconst 1] mkX2_feeGives (by decide +kernel) rfl rfl ?_
  refine p_iald (1) (by decide +kernel) rfl rfl (by simp only [oI]) (by omega) ?_
  rw [show h 28 1 = oN (lawT N 1) from hR.2.2.2 1 (by omega)]
  refine p_run (pc' := 8) [.ldc 33] mkX2_feeGives (by decide +kernel) rfl rfl ?_
  cases hl : lawT N 1 with
  | none =>
    refine p_icmp_ne (off := 8) 16 (by decide +kernel) (by decide) (fun cq1 => ?_) (fun cq1 => ?_)
    · exact absurd rfl cq1
    · refine p_run (pc' := 15) [.aload_n 0, .getfield 57] mkX2_feeGives (by decide +kernel) rfl rfl ?_
      rw [hR.1.2.2.2.2.1]
      refine p_iret rfl rfl (by decide +kernel) ?_
      exact ⟨by unfold feF; rw [hl], Fw.rf⟩
  | some t =>
    obtain ⟨ht, hX, hke⟩ := lastT_spec hl hI
    refine p_icmp_ne (off := 8) 16 (by decide +kernel) (by decide) (fun cq1 => ?_) (fun cq1 => ?_)
    · refine p_run (pc' := 25) [.aload_n 0, .getfield 9, .iconst 0, .aload_n 0, .getfield 57] mkX2_feeGives (by decide +kernel) rfl rfl ?_
      rw [hR.1.2.2.2.2.1]
      refine p_callVw (tput_ok w (k := k - 1) 0 (by omega) _ _) kvX2_168 (by decide +kernel) (by decide) rfl (by omega) rfl rfl rfl rfl rfl ?_
      have hF1 : Fw h (up h 6 0 (N 5)) := Fw.u6
      have hR1 := hR.fw pp11 hF1 hn10
      refine p_run (pc' := 34) [.aload_n 0, .getfield 9, .iconst 1, .aload_n 0] mkX2_feeGives (by decide +kernel) rfl rfl ?_
      refine p_callVv (chill11 w (k := k - 1) N _ hI hR1) kvX2_178 (by decide +kernel) (by decide) rfl (by omega) rfl rfl rfl rfl rfl ?_
      refine p_callVw (tput_ok w (k := k - 1) 1 (by omega) _ _) kvX2_168 (by decide +kernel) (by decide) rfl (by omega) rfl rfl rfl rfl rfl ?_
      generalize e2 : up (up h 6 0 _) 6 1 _ = h2
      have hF2 : Fw h h2 := by rw [← e2]; exact Fw.u6.tr Fw.u6
      have hR2 := hR.fw pp11 hF2 hn10
      refine p_run (pc' := 49) [.aload_n 0, .getfield 9, .aload_n 0, .getfield 29, .iconst 1] mkX2_feeGives (by decide +kernel) rfl rfl ?_
      refine p_iald (1) (by decide +kernel) rfl rfl (by simp only [oI]) (by omega) ?_
      rw [show h2 28 1 = oN (lawT N 1) from hR2.2.2.2 1 (by omega), hl]
      have efc : evF N t (h2 6) = evF N t (fc4 (N 5) (hlF N) (nI 0) (nI 0)) := by
        refine evF_congr hX (fun i hi => ?_)
        rw [hke] at hi
        have hi2 : i < 2 := hi
        rw [← e2]
        match i, hi2 with
        | 0, _ => rfl
        | 1, _ => rfl
      refine p_callVi (gives_ok w (k := k - 1) (by omega) t ht N h2 (hT.fw hF2) (law_in hl) hX) (fun _ _ q => q.1) kvX2_175 (by decide +kernel) (by decide) rfl (by omega) rfl rfl rfl rfl rfl (fun h' hq => ?_)
      obtain ⟨-, hG⟩ := hq
      rw [efc]
      refine p_iret rfl rfl (by decide +kernel) ?_
      exact ⟨by unfold feF; rw [hl], hF2.tr (Fw.g7 hG)⟩
    · exact absurd cq1 (NONE_ne ht)
set_option maxRecDepth 20000 in
set_option maxHeartbeats 4000000 in
theorem cfineGives (w : Wt) {k : Nat} (hk : 3 ≤ k) (d : Nat) (N : Vc) (h : Mm) (hI : Iv N) (hR : PR 11 h N) (hdn : d < nd N) (hT : TR h N) : Ok w k MX2_fineGives [.ref 11, .ref (11 + 7 + d)] h (Rf (fiF N d) h) := by
  show Wp w k MX2_fineGives _ 0 [some (.ref 11), some (.ref (11 + 7 + d))] [] h
  have hn10 := hI.nd.2
  refine p_run (pc' := 5) [.aload_n 0, .getfield 29, .iconst 2] mkX2_fineGives (by decide +kernel) rfl rfl ?_
  refine p_iald (2) (by decide +kernel) rfl rfl (by simp only [oI]) (by omega) ?_
  rw [show h 28 2 = oN (lawT N 2) from hR.2.2.2 2 (by omega)]
  refine p_run (pc' := 8) [.ldc 33] mkX2_fineGives (by decide +kernel) rfl rfl ?_
  cases hl : lawT N 2 with
  | none =>
    refine p_icmp_ne (off := 8) 16 (by decide +kernel) (by decide) (fun cq1 => ?_) (fun cq1 => ?_)
    · exact absurd rfl cq1
    · refine p_run (pc' := 12) [.aload_n 1] mkX2_fineGives (by decide +kernel) rfl rfl ?_
      refine p_getI (by decide +kernel) fo2_73 (obD pp11 (by omega)).1 (obD pp11 (by omega)).2.1 ((obD pp11 (by omega)).2.2 _) ?_
      rw [hR.2.2.1 d hdn 2 (by omega)]
      refine p_iret rfl rfl (by decide +kernel) ?_
      exact ⟨by unfold fiF; rw [hl], Fw.rf⟩
  | some t =>
    obtain ⟨ht, hX, hke⟩ := lastT_spec hl hI
    refine p_icmp_ne (off := 8) 16 (by decide +kernel) (by decide) (fun cq1 => ?_) (fun cq1 => ?_)
    · refine p_run (pc' := 22) [.aload_n 0, .getfield 9, .iconst 0, .aload_n 1] mkX2_fineGives (by decide +kernel) rfl rfl ?_
      refine p_getI (by decide +kernel) fo2_70 (obD pp11 (by omega)).1 (obD pp11 (by omega)).2.1 ((obD pp11 (by omega)).2.2 _) ?_
      rw [hR.2.2.1 d hdn 1 (by omega)]
      refine p_callVw (tput_ok w (k := k - 1) 0 (by omega) _ _) kvX2_168 (by decide +kernel) (by decide) rfl (by omega) rfl rfl rfl rfl rfl ?_
      refine p_run (pc' := 34) [.aload_n 0, .getfield 9, .iconst 1, .aload_n 1] mkX2_fineGives (by decide +kernel) rfl rfl ?_
      refine p_getI (by decide +kernel) fo2_73 (obD pp11 (by omega)).1 (obD pp11 (by omega)).2.1 ((obD pp11 (by omega)).2.2 _) ?_
      rw [upN (by omega), hR.2.2.1 d hdn 2 (by omega)]
      refine p_callVw (tput_ok w (k := k - 1) 1 (by omega) _ _) kvX2_168 (by decide +kernel) (by decide) rfl (by omega) rfl rfl rfl rfl rfl ?_
      generalize e2 : up (up h 6 0 _) 6 1 _ = h2
      have hF2 : Fw h h2 := by rw [← e2]; exact Fw.u6.tr Fw.u6
      have hR2 := hR.fw pp11 hF2 hn10
      refine p_run (pc' := 49) [.aload_n 0, .getfield 9, .aload_n 0, .getfield 29, .iconst 2] mkX2_fineGives (by decide +kernel) rfl rfl ?_
      refine p_iald (2) (by decide +kernel) rfl rfl (by simp only [oI]) (by omega) ?_
      rw [show h2 28 2 = oN (lawT N 2) from hR2.2.2.2 2 (by omega), hl]
      have efc : evF N t (h2 6) = evF N t (fc4 (dK N d 1) (dK N d 2) (nI 0) (nI 0)) := by
        refine evF_congr hX (fun i hi => ?_)
        rw [hke] at hi
        have hi2 : i < 2 := hi
        rw [← e2]
        match i, hi2 with
        | 0, _ => rfl
        | 1, _ => rfl
      refine p_callVi (gives_ok w (k := k - 1) (by omega) t ht N h2 (hT.fw hF2) (law_in hl) hX) (fun _ _ q => q.1) kvX2_175 (by decide +kernel) (by decide) rfl (by omega) rfl rfl rfl rfl rfl (fun h' hq => ?_)
      obtain ⟨-, hG⟩ := hq
      rw [efc]
      refine p_iret rfl rfl (by decide +kernel) ?_
      exact ⟨by unfold fiF; rw [hl], hF2.tr (Fw.g7 hG)⟩
    · exact absurd cq1 (NONE_ne ht)
set_option maxRecDepth 20000 in
set_option maxHeartbeats 4000000 in
theorem cbiu (w : Wt) {k : Nat} (N : Vc) (h : Mm) (hI : Iv N) (hR : PR 11 h N) : Ok w k MX2_branchesInUse [.ref 11] h (Rv (nI (setF (peB N) 4)) h) := by
  show Wp w k MX2_branchesInUse _ 0 [some (.ref 11), none, none] [] h
  obtain ⟨en, hn10⟩ := hI.nd
  refine p_run (pc' := 4) [.iconst 0, .istore_n 1, .iconst 0, .istore_n 2] mkX2_branchesInUse (by decide +kernel) rfl rfl ?_
  refine Wp.for (nd N) (fun i L hh => L = [some (.ref 11), some (.int (nI (setF (uuB N i) 4))), some (.int (nI i))] ∧ h = hh) ?_ ?_ (0) (by omega) _ _ ?_
  · rintro i L hh hi ⟨rfl, hJ⟩ ih
    subst hJ
    refine p_run (pc' := 9) [.iload_n 2, .aload_n 0, .getfield 45] mkX2_branchesInUse (by decide +kernel) rfl rfl ?_
    rw [hR.1.1, en]
    refine p_icmp_ge (off := 23) 32 (by decide +kernel) (by decide) (fun cqh => ?_) (fun cqh => ?_)
    · exact absurd cqh (nI_ge (by omega) (by omega))
    · obtain ⟨eb, hb4⟩ := hI.br (d := i) (by omega)
      refine p_run (pc' := 19) [.iload_n 1, .iconst 1, .aload_n 0, .getfield 24, .iload_n 2] mkX2_branchesInUse (by decide +kernel) rfl rfl ?_
      refine p_aald (i) (by decide +kernel) (by decide) rfl (by decide) rfl (by omega) (rfD11 i (by omega)) ?_
      refine p_getI (by decide +kernel) fo2_76 (obD pp11 (by omega)).1 (obD pp11 (by omega)).2.1 ((obD pp11 (by omega)).2.2 _) ?_
      rw [hR.2.2.1 i (by omega) 3 (by omega), show dK N i 3 = nI (brF N i) from eb]
      refine p_run (pc' := 4) [.ishl, .ior, .istore_n 1, .iinc 2 1, .goto (-25)] mkX2_branchesInUse (by decide +kernel) rfl rfl ?_
      exact ih _ _ ⟨by rw [show nI i + Int32.ofInt 1 = nI (i + 1) by simp only [oI, nI_add], show Int32.ofInt 1 = nI 1 from rfl, uu_step hb4], rfl⟩
  · rintro L hh ⟨rfl, hJ⟩
    subst hJ
    refine p_run (pc' := 9) [.iload_n 2, .aload_n 0, .getfield 45] mkX2_branchesInUse (by decide +kernel) rfl rfl ?_
    rw [hR.1.1, en]
    refine p_icmp_ge (off := 23) 32 (by decide +kernel) (by decide) (fun cqh => ?_) (fun cqh => ?_)
    · refine p_run (pc' := 33) [.iload_n 1] mkX2_branchesInUse (by decide +kernel) rfl rfl ?_
      refine p_iret rfl rfl (by decide +kernel) ?_
      exact ⟨by rw [uu_end hI], rfl⟩
    · exact absurd (nI_le (Nat.le_refl _) (by omega)) cqh
  · exact ⟨by rw [show setF (uuB N 0) 4 = 0 from Classical.byContradiction (fun q => by obtain ⟨b, -, z⟩ := setF_pos.mp q; obtain ⟨d, hd, -⟩ := uuB_iff.mp z; omega)]; rfl, rfl⟩
/-- a sheet: its object a, its places a + 1 -/
def OS (a : Nat) : Prop := a + 1 < 118 ∧ (kd0 a).1 = 4 ∧ rf0 a 0 = some (a + 1) ∧ (∀ j, (j = 1 ∨ j = 2) → rf0 a j = none) ∧ kd0 (a + 1) = (10, 24)
theorem osS : ∀ i, i < 4 → OS (66 + 2 * i) := by
  have : ∀ i, i < 4 → (66 + 2 * i + 1 < 118 ∧ (kd0 (66 + 2 * i)).1 = 4 ∧ rf0 (66 + 2 * i) 0 = some (66 + 2 * i + 1) ∧ (rf0 (66 + 2 * i) 1 = none ∧ rf0 (66 + 2 * i) 2 = none) ∧ kd0 (66 + 2 * i + 1) = (10, 24)) := by decide +kernel
  intro i hi
  obtain ⟨a, b, c, d, e⟩ := this i hi
  exact ⟨a, b, c, fun j hj => by rcases hj with rfl | rfl; exact d.1; exact d.2, e⟩
theorem osL : ∀ i, i < 5 → OS (77 + 4 * i) := by
  have : ∀ i, i < 5 → (77 + 4 * i + 1 < 118 ∧ (kd0 (77 + 4 * i)).1 = 4 ∧ rf0 (77 + 4 * i) 0 = some (77 + 4 * i + 1) ∧ (rf0 (77 + 4 * i) 1 = none ∧ rf0 (77 + 4 * i) 2 = none) ∧ kd0 (77 + 4 * i + 1) = (10, 24)) := by decide +kernel
  intro i hi
  obtain ⟨a, b, c, d, e⟩ := this i hi
  exact ⟨a, b, c, fun j hj => by rcases hj with rfl | rfl; exact d.1; exact d.2, e⟩
set_option maxRecDepth 20000 in
set_option maxHeartbeats 4000000 in
theorem cmiss_ok (w : Wt) {k : Nat} (a : Nat) (hO : OS a) (h : Mm) : Ok w k MX4_isMissing [.ref a] h (Rv (bI (h a 1 = Int32.ofInt (-1))) h) := by
  show Wp w k MX4_isMissing _ 0 [some (.ref a)] [] h
  refine p_run (pc' := 1) [.aload_n 0] mkX4_isMissing (by decide +kernel) rfl rfl ?_
  refine p_getI (by decide +kernel) fo4_15 (Nat.lt_of_succ_lt hO.1) hO.2.1 (hO.2.2.2.1 _ (by decide)) ?_
  refine p_run (pc' := 5) [.iconst (-1)] mkX4_isMissing (by decide +kernel) rfl rfl ?_
  refine p_icmp_ne (off := 7) 12 (by decide +kernel) (by decide) (fun cq5 => ?_) (fun cq5 => ?_)
  · refine p_run (pc' := 13) [.iconst 0] mkX4_isMissing (by decide +kernel) rfl rfl ?_
    refine p_iret rfl rfl (by decide +kernel) ?_
    exact ⟨by rw [bIf cq5]; rfl, rfl⟩
  · refine p_run (pc' := 13) [.iconst 1, .goto 4] mkX4_isMissing (by decide +kernel) rfl rfl ?_
    refine p_iret rfl rfl (by decide +kernel) ?_
    exact ⟨by rw [bIt cq5]; rfl, rfl⟩
set_option maxRecDepth 20000 in
set_option maxHeartbeats 4000000 in
theorem chasp_ok (w : Wt) {k : Nat} (a : Nat) (hO : OS a) (x : Int32) (h : Mm) : Ok w k MX4_hasPlace [.ref a, .int x] h (Rv (bI (0 ≤ x ∧ x < h a 2)) h) := by
  show Wp w k MX4_hasPlace _ 0 [some (.ref a), some (.int x)] [] h
  refine p_run (pc' := 1) [.iload_n 1] mkX4_hasPlace (by decide +kernel) rfl rfl ?_
  refine p_if_lt (off := 15) 16 (by decide +kernel) (by decide) (fun cq1 => ?_) (fun cq1 => ?_)
  · refine p_run (pc' := 17) [.iconst 0] mkX4_hasPlace (by decide +kernel) rfl rfl ?_
    refine p_iret rfl rfl (by decide +kernel) ?_
    exact ⟨by rw [bIf (fun q => absurd q.1 (Int32.not_le.mpr cq1))]; rfl, rfl⟩
  · refine p_run (pc' := 6) [.iload_n 1, .aload_n 0] mkX4_hasPlace (by decide +kernel) rfl rfl ?_
    refine p_getI (by decide +kernel) fo4_19 (Nat.lt_of_succ_lt hO.1) hO.2.1 (hO.2.2.2.1 _ (by decide)) ?_
    refine p_icmp_ge (off := 7) 16 (by decide +kernel) (by decide) (fun cq2 => ?_) (fun cq2 => ?_)
    · refine p_run (pc' := 17) [.iconst 0] mkX4_hasPlace (by decide +kernel) rfl rfl ?_
      refine p_iret rfl rfl (by decide +kernel) ?_
      exact ⟨by rw [bIf (fun q => absurd q.2 (Int32.not_lt.mpr cq2))]; rfl, rfl⟩
    · refine p_run (pc' := 17) [.iconst 1, .goto 4] mkX4_hasPlace (by decide +kernel) rfl rfl ?_
      refine p_iret rfl rfl (by decide +kernel) ?_
      exact ⟨by rw [bIt ⟨Int32.not_lt.mp cq1, Int32.not_le.mp cq2⟩]; rfl, rfl⟩
set_option maxRecDepth 20000 in
set_option maxHeartbeats 4000000 in
theorem cnum_ok (w : Wt) {k : Nat} (hk : 1 ≤ k) (a j sz : Nat) (hO : OS a) (h : Mm) (hz : h a 2 = nI sz) (hs : sz ≤ 24) (hj : j < sz) : Ok w k MX4_isNumber [.ref a, .int (nI j)] h (Rv (bI (¬ h (a + 1) j = NONEv)) h) := by
  show Wp w k MX4_isNumber _ 0 [some (.ref a), some (.int (nI j))] [] h
  refine p_run (pc' := 2) [.aload_n 0, .iload_n 1] mkX4_isNumber (by decide +kernel) rfl rfl ?_
  refine p_callVv (chasp_ok w (k := k - 1) a hO _ h) kvX4_28 (by decide +kernel) (Nat.lt_of_succ_lt hO.1) hO.2.1 (by omega) rfl rfl rfl rfl rfl ?_
  refine p_if_eq (off := 18) 23 (by decide +kernel) (by decide) (fun cq1 => ?_) (fun cq1 => ?_)
  · exact absurd (show (0 : Int32) ≤ nI j ∧ nI j < h a 2 from ⟨nI_le (a := 0) (Nat.zero_le _) (by omega), by rw [hz]; exact (nI_ltI (by omega) (by omega)).mpr hj⟩) (bI0.mp cq1)
  · refine p_run (pc' := 9) [.aload_n 0] mkX4_isNumber (by decide +kernel) rfl rfl ?_
    refine p_getR (by decide +kernel) fo4_9 (Nat.lt_of_succ_lt hO.1) hO.2.1 hO.2.2.1 ?_
    refine p_run (pc' := 13) [.iload_n 1] mkX4_isNumber (by decide +kernel) rfl rfl ?_
    refine p_iald (j) (by decide +kernel) (Nat.ble_eq_true_of_le hO.1) hO.2.2.2.2 rfl (by omega) ?_
    refine p_run (pc' := 16) [.ldc 32] mkX4_isNumber (by decide +kernel) rfl rfl ?_
    refine p_icmp_eq (off := 7) 23 (by decide +kernel) (by decide) (fun cq2 => ?_) (fun cq2 => ?_)
    · refine p_run (pc' := 24) [.iconst 0] mkX4_isNumber (by decide +kernel) rfl rfl ?_
      refine p_iret rfl rfl (by decide +kernel) ?_
      exact ⟨by rw [bIf (fun q => q cq2)]; rfl, rfl⟩
    · refine p_run (pc' := 24) [.iconst 1, .goto 4] mkX4_isNumber (by decide +kernel) rfl rfl ?_
      refine p_iret rfl rfl (by decide +kernel) ?_
      exact ⟨by rw [bIt cq2]; rfl, rfl⟩
set_option maxRecDepth 20000 in
set_option maxHeartbeats 4000000 in
theorem chasps_ok (w : Wt) {k : Nat} (a : Nat) (hO : OS a) (x m : Int32) (h : Mm) : Ok w k MX4_hasPlaces [.ref a, .int x, .int m] h (Rv (bI (¬ x < 0 ∧ ¬ m < 0 ∧ ¬ h a 2 < x ∧ ¬ h a 2 - x < m)) h) := by
  show Wp w k MX4_hasPlaces _ 0 [some (.ref a), some (.int x), some (.int m)] [] h
  refine p_run (pc' := 1) [.iload_n 1] mkX4_hasPlaces (by decide +kernel) rfl rfl ?_
  refine p_if_lt (off := 29) 30 (by decide +kernel) (by decide) (fun cq1 => ?_) (fun cq1 => ?_)
  · refine p_run (pc' := 31) [.iconst 0] mkX4_hasPlaces (by decide +kernel) rfl rfl ?_
    refine p_iret rfl rfl (by decide +kernel) ?_
    exact ⟨by rw [bIf (fun q => q.1 cq1)]; rfl, rfl⟩
  · refine p_run (pc' := 5) [.iload_n 2] mkX4_hasPlaces (by decide +kernel) rfl rfl ?_
    refine p_if_lt (off := 25) 30 (by decide +kernel) (by decide) (fun cq2 => ?_) (fun cq2 => ?_)
    · refine p_run (pc' := 31) [.iconst 0] mkX4_hasPlaces (by decide +kernel) rfl rfl ?_
      refine p_iret rfl rfl (by decide +kernel) ?_
      exact ⟨by rw [bIf (fun q => q.2.1 cq2)]; rfl, rfl⟩
    · refine p_run (pc' := 10) [.iload_n 1, .aload_n 0] mkX4_hasPlaces (by decide +kernel) rfl rfl ?_
      refine p_getI (by decide +kernel) fo4_19 (Nat.lt_of_succ_lt hO.1) hO.2.1 (hO.2.2.2.1 _ (by decide)) ?_
      refine p_icmp_gt (off := 17) 30 (by decide +kernel) (by decide) (fun cq3 => ?_) (fun cq3 => ?_)
      · refine p_run (pc' := 31) [.iconst 0] mkX4_hasPlaces (by decide +kernel) rfl rfl ?_
        refine p_iret rfl rfl (by decide +kernel) ?_
        exact ⟨by rw [bIf (fun q => q.2.2.1 cq3)]; rfl, rfl⟩
      · refine p_run (pc' := 18) [.iload_n 2, .aload_n 0] mkX4_hasPlaces (by decide +kernel) rfl rfl ?_
        refine p_getI (by decide +kernel) fo4_19 (Nat.lt_of_succ_lt hO.1) hO.2.1 (hO.2.2.2.1 _ (by decide)) ?_
        refine p_run (pc' := 23) [.iload_n 1, .isub] mkX4_hasPlaces (by decide +kernel) rfl rfl ?_
        refine p_icmp_gt (off := 7) 30 (by decide +kernel) (by decide) (fun cq4 => ?_) (fun cq4 => ?_)
        · refine p_run (pc' := 31) [.iconst 0] mkX4_hasPlaces (by decide +kernel) rfl rfl ?_
          refine p_iret rfl rfl (by decide +kernel) ?_
          exact ⟨by rw [bIf (fun q => q.2.2.2 cq4)]; rfl, rfl⟩
        · refine p_run (pc' := 31) [.iconst 1, .goto 4] mkX4_hasPlaces (by decide +kernel) rfl rfl ?_
          refine p_iret rfl rfl (by decide +kernel) ?_
          exact ⟨by rw [bIt ⟨cq1, cq2, cq3, cq4⟩]; rfl, rfl⟩
set_option maxRecDepth 20000 in
set_option maxHeartbeats 4000000 in
theorem cbecS_ok (w : Wt) {k : Nat} (a : Nat) (hO : OS a) (x y : Int32) (h : Mm) : Ok w k MX4_become [.ref a, .int x, .int y] h (Rw (wr (up (up h a 1 x) a 2 y) (a + 1) (spl (h (a + 1)) 0 24 (fun _ => nI 0)))) := by
  show Wp w k MX4_become _ 0 [some (.ref a), some (.int x), some (.int y), none] [] h
  refine p_run (pc' := 2) [.aload_n 0, .iload_n 1] mkX4_become (by decide +kernel) rfl rfl ?_
  refine p_put (by decide +kernel) fo4_15 (Nat.lt_of_succ_lt hO.1) hO.2.1 rfl (hO.2.2.2.1 _ (by decide)) ?_
  refine p_run (pc' := 7) [.aload_n 0, .iload_n 2] mkX4_become (by decide +kernel) rfl rfl ?_
  refine p_put (by decide +kernel) fo4_19 (Nat.lt_of_succ_lt hO.1) hO.2.1 rfl (hO.2.2.2.1 _ (by decide)) ?_
  refine p_run (pc' := 12) [.iconst 0, .istore_n 3] mkX4_become (by decide +kernel) rfl rfl ?_
  have hO2 := hO
  generalize eh : up (up h a 1 x) a 2 y = h1
  refine Wp.for (24) (fun i L hh => L = [some (.ref a), some (.int x), some (.int y), some (.int (nI i))] ∧ hh = wr h1 (a + 1) (spl (h1 (a + 1)) 0 i (fun _ => nI 0))) ?_ ?_ (0) (by omega) _ _ ?_
  · rintro i L hh hi ⟨rfl, hJ⟩ ih
    subst hJ
    refine p_run (pc' := 15) [.iload_n 3, .bipush 24] mkX4_become (by decide +kernel) rfl rfl ?_
    refine p_icmp_ge (off := 16) 31 (by decide +kernel) (by decide) (fun cqh => ?_) (fun cqh => ?_)
    · exact False.elim (by rw [oI, nI_leI (by omega) (by omega)] at cqh; omega)
    · refine p_run (pc' := 19) [.aload_n 0] mkX4_become (by decide +kernel) rfl rfl ?_
      refine p_getR (by decide +kernel) fo4_9 (Nat.lt_of_succ_lt hO.1) hO.2.1 hO.2.2.1 ?_
      refine p_run (pc' := 24) [.iload_n 3, .iconst 0] mkX4_become (by decide +kernel) rfl rfl ?_
      refine p_iast (i) (by decide +kernel) (Nat.ble_eq_true_of_le hO.1) hO.2.2.2.2 rfl (by omega)  ?_
      refine p_run (pc' := 12) [.iinc 3 1, .goto (-16)] mkX4_become (by decide +kernel) rfl rfl ?_
      exact ih _ _ ⟨by rw [show nI i + Int32.ofInt 1 = nI (i + 1) by simp only [oI, nI_add]], by rw [up_up97, wr_wr, wrS, ← splS, Nat.zero_add]; rfl⟩
  · rintro L hh ⟨rfl, hJ⟩
    subst hJ
    refine p_run (pc' := 15) [.iload_n 3, .bipush 24] mkX4_become (by decide +kernel) rfl rfl ?_
    refine p_icmp_ge (off := 16) 31 (by decide +kernel) (by decide) (fun cqh => ?_) (fun cqh => ?_)
    · refine p_vret rfl (by decide +kernel) ?_
      exact ⟨rfl, by rw [← eh, upN (by omega), upN (by omega)]⟩
    · exact False.elim (by revert cqh; decide)
  · exact ⟨rfl, by rw [spl0, wr_self]⟩
set_option maxRecDepth 20000 in
set_option maxHeartbeats 4000000 in
theorem cbecA_ok (w : Wt) {k : Nat} (hk : 1 ≤ k) (a c : Nat) (hO : OS a) (hC : OS c) (hne : c ≠ a) (hne2 : c + 1 ≠ a) (hne3 : a + 1 ≠ c) (h : Mm) : Ok w k MX4_becomeAs [.ref a, .ref c] h (Rw (wr (up (up h a 1 (h c 1)) a 2 (h c 2)) (a + 1) (spl (h (a + 1)) 0 24 (fun k => h (c + 1) k)))) := by
  show Wp w k MX4_becomeAs _ 0 [some (.ref a), some (.ref c)] [] h
  refine p_run (pc' := 2) [.aload_n 0, .aload_n 1] mkX4_becomeAs (by decide +kernel) rfl rfl ?_
  refine p_getI (by decide +kernel) fo4_15 (Nat.lt_of_succ_lt hC.1) hC.2.1 (hC.2.2.2.1 _ (by decide)) ?_
  refine p_put (by decide +kernel) fo4_15 (Nat.lt_of_succ_lt hO.1) hO.2.1 rfl (hO.2.2.2.1 _ (by decide)) ?_
  refine p_run (pc' := 10) [.aload_n 0, .aload_n 1] mkX4_becomeAs (by decide +kernel) rfl rfl ?_
  refine p_getI (by decide +kernel) fo4_19 (Nat.lt_of_succ_lt hC.1) hC.2.1 (hC.2.2.2.1 _ (by decide)) ?_
  refine p_put (by decide +kernel) fo4_19 (Nat.lt_of_succ_lt hO.1) hO.2.1 rfl (hO.2.2.2.1 _ (by decide)) ?_
  refine p_run (pc' := 17) [.aload_n 1] mkX4_becomeAs (by decide +kernel) rfl rfl ?_
  refine p_getR (by decide +kernel) fo4_9 (Nat.lt_of_succ_lt hC.1) hC.2.1 hC.2.2.1 ?_
  refine p_run (pc' := 22) [.iconst 0, .aload_n 0] mkX4_becomeAs (by decide +kernel) rfl rfl ?_
  refine p_getR (by decide +kernel) fo4_9 (Nat.lt_of_succ_lt hO.1) hO.2.1 hO.2.2.1 ?_
  refine p_run (pc' := 28) [.iconst 0, .bipush 24] mkX4_becomeAs (by decide +kernel) rfl rfl ?_
  refine p_acopy (sp := 0) (dp := 0) (n := 24) jlX4_22 (by decide +kernel) (by omega) rfl hC.1 hO.1 hC.2.2.2.2 hO.2.2.2.2 (by omega) (by omega) ?_
  refine p_vret rfl (by decide +kernel) ?_
  refine ⟨rfl, ?_⟩
  rw [show up h a 1 (h c 1) c = h c from upN (by omega), show up (up h a 1 (h c 1)) a 2 (h c 2) (c + 1) = h (c + 1) by rw [upN (by omega), upN (by omega)], show up (up h a 1 (h c 1)) a 2 (h c 2) (a + 1) = h (a + 1) by rw [upN (by omega), upN (by omega)]]
  simp only [Nat.zero_add]
