/-! public methods that only look -/
def Rp (v : Int32) (h : Mm) : Option Value → Mm → Prop := fun r h' => r = some (.int v) ∧ Fp 47 h h'
theorem Ag2 {h h' : Mm} (x : Ag [107, 108] h h') : Ag [99, 100, 107, 108] h h' := x.mono (fun x => by simp; omega)
theorem Ag3 {h h' : Mm} (x : Ag [99, 107, 108] h h') : Ag [99, 100, 107, 108] h h' := x.mono (fun x => by simp; omega)
theorem nI_case {j v : Nat} (hj : j < 10000) (hv : v < 10) (h : nI j = Int32.ofInt (v : Int)) : j = v := by
  have := kd_case hv h
  rwa [nN_nI (by omega)] at this
theorem rfSh : ∀ s, s < 4 → rf0 65 s = some (66 + 2 * s) := by decide +kernel
theorem rfSl : ∀ s, s < 5 → rf0 74 s = some (75 + 4 * s) := by decide +kernel
theorem obL : ∀ s, s < 5 → 75 + 4 * s < 118 ∧ (kd0 (75 + 4 * s)).1 = 5 ∧ (∀ j, (j = 0 ∨ j = 1) → rf0 (75 + 4 * s) j = none) ∧ rf0 (75 + 4 * s) 2 = some (76 + 4 * s) ∧ rf0 (75 + 4 * s) 3 = some (77 + 4 * s) := by
  intro s hs
  match s, hs with
  | 0, _ => exact ⟨by decide, by decide +kernel, fun j hj => by rcases hj with rfl | rfl <;> decide +kernel, by decide +kernel, by decide +kernel⟩
  | 1, _ => exact ⟨by decide, by decide +kernel, fun j hj => by rcases hj with rfl | rfl <;> decide +kernel, by decide +kernel, by decide +kernel⟩
  | 2, _ => exact ⟨by decide, by decide +kernel, fun j hj => by rcases hj with rfl | rfl <;> decide +kernel, by decide +kernel, by decide +kernel⟩
  | 3, _ => exact ⟨by decide, by decide +kernel, fun j hj => by rcases hj with rfl | rfl <;> decide +kernel, by decide +kernel, by decide +kernel⟩
  | 4, _ => exact ⟨by decide, by decide +kernel, fun j hj => by rcases hj with rfl | rfl <;> decide +kernel, by decide +kernel, by decide +kernel⟩
theorem kdE : ∀ s, s < 5 → (kd0 (76 + 4 * s)).1 = 1 := by decide +kernel
theorem obE (s : Nat) (hs : s < 5) : OB 1 (76 + 4 * s) := OB.mk (by omega) (kdE s hs) (Or.inr rfl)
set_option maxRecDepth 20000 in
set_option maxHeartbeats 4000000 in
theorem c_told_bad (w : Wt) {k : Nat} (hk : 200 ≤ k) (a b : Int32) (N : Vc) (h : Mm) (hP : PR 11 h N)  (hb : ¬ (isD N a)) : Ok w k MX7_told [.ref 0, .int a, .int b] h (Rv BADv h) := by
  show Wp w k MX7_told _ 0 [some (.ref 0), some (.int a), some (.int b), none] [] h
  refine p_run (pc' := 2) [.aload_n 0, .iload_n 1] mkX7_told (by decide +kernel) rfl rfl ?_
  refine p_callVv (cisDigger_ok w (k := k - 1) (by omega) _ N _ hP.1.1) kvX7_84 (by decide +kernel) (by decide) rfl (by omega) rfl rfl rfl rfl rfl ?_
  refine p_if_ne (off := 6) 11 (by decide +kernel) (by decide) (fun cq5 => ?_) (fun cq5 => ?_)
  · have cq5 := bI1.mp cq5
    exact absurd (cq5) hb
  · have cq5 := bI0.mp cq5
    refine p_run (pc' := 10) [.ldc 75] mkX7_told (by decide +kernel) rfl rfl ?_
    refine p_iret rfl rfl (by decide +kernel) ?_
    exact ⟨rfl, rfl⟩
set_option maxRecDepth 20000 in
set_option maxHeartbeats 4000000 in
theorem c_told (w : Wt) {k : Nat} (hk : 200 ≤ k) (d : Nat) (b : Int32) (N : Vc) (h : Mm) (hI : Iv N) (hP : PR 11 h N) (hT : TR h N) (hd : d < nd N) : Ok w k MX7_told [.ref 0, .int (nI d), .int b] h (Rp (@ite _ (inR b 0 7) (Classical.propDecidable _) (toldF N d (nN b)) BADv) h) := by
  show Wp w k MX7_told _ 0 [some (.ref 0), some (.int (nI d)), some (.int b), none] [] h
  have hn10 := hI.nd.2
  have hD := isD_nI hI.nd.1 hd hn10
  refine p_run (pc' := 2) [.aload_n 0, .iload_n 1] mkX7_told (by decide +kernel) rfl rfl ?_
  refine p_callVv (cisDigger_ok w (k := k - 1) (by omega) _ N _ hP.1.1) kvX7_84 (by decide +kernel) (by decide) rfl (by omega) rfl rfl rfl rfl rfl ?_
  refine p_if_ne (off := 6) 11 (by decide +kernel) (by decide) (fun cq5 => ?_) (fun cq5 => ?_)
  · have cq5 := bI1.mp cq5
    refine p_run (pc' := 19) [.aload_n 0, .getfield 28, .getfield 87, .iload_n 1] mkX7_told (by decide +kernel) rfl rfl ?_
    refine p_aald (d) (by decide +kernel) (by decide) rfl (by decide) rfl (by omega) (rfD11 d (by omega)) ?_
    refine p_run (pc' := 22) [.astore_n 3, .iload_n 2] mkX7_told (by decide +kernel) rfl rfl ?_
    refine p_table (dflt := 94) (lo := 0) (hi := 7) (offs := #[46, 51, 56, 61, 66, 71, 80, 89]) (len := 46) (by decide +kernel) (by decide) (fun j hj hx => ?_) (fun hx => ?_)
    · match j, hj, hx with
      | 0, _, hx =>
        have hx : b = Int32.ofInt (0) := hx
        refine ⟨46, 68, rfl, rfl, ?_⟩
        subst hx
        refine p_run (pc' := 69) [.aload_n 3] mkX7_told (by decide +kernel) rfl rfl ?_
        refine p_getI (by decide +kernel) fo7_91 (obD pp11 (by omega)).1 (obD pp11 (by omega)).2.1 ((obD pp11 (by omega)).2.2 _) ?_
        refine p_iret rfl rfl (by decide +kernel) ?_
        exact ⟨by rw [if_pos (by exact ⟨by decide, by decide⟩)]; rw [hP.2.2.1 d hd 0 (by omega)]; rfl, Fp.rf⟩
      | 1, _, hx =>
        have hx : b = Int32.ofInt (1) := hx
        refine ⟨51, 73, rfl, rfl, ?_⟩
        subst hx
        refine p_run (pc' := 74) [.aload_n 3] mkX7_told (by decide +kernel) rfl rfl ?_
        refine p_getI (by decide +kernel) fo7_96 (obD pp11 (by omega)).1 (obD pp11 (by omega)).2.1 ((obD pp11 (by omega)).2.2 _) ?_
        refine p_iret rfl rfl (by decide +kernel) ?_
        exact ⟨by rw [if_pos (by exact ⟨by decide, by decide⟩)]; rw [hP.2.2.1 d hd 1 (by omega)]; rfl, Fp.rf⟩
      | 2, _, hx =>
        have hx : b = Int32.ofInt (2) := hx
        refine ⟨56, 78, rfl, rfl, ?_⟩
        subst hx
        refine p_run (pc' := 79) [.aload_n 3] mkX7_told (by decide +kernel) rfl rfl ?_
        refine p_getI (by decide +kernel) fo7_99 (obD pp11 (by omega)).1 (obD pp11 (by omega)).2.1 ((obD pp11 (by omega)).2.2 _) ?_
        refine p_iret rfl rfl (by decide +kernel) ?_
        exact ⟨by rw [if_pos (by exact ⟨by decide, by decide⟩)]; rw [hP.2.2.1 d hd 2 (by omega)]; rfl, Fp.rf⟩
      | 3, _, hx =>
        have hx : b = Int32.ofInt (3) := hx
        refine ⟨61, 83, rfl, rfl, ?_⟩
        subst hx
        refine p_run (pc' := 84) [.aload_n 3] mkX7_told (by decide +kernel) rfl rfl ?_
        refine p_getI (by decide +kernel) fo7_102 (obD pp11 (by omega)).1 (obD pp11 (by omega)).2.1 ((obD pp11 (by omega)).2.2 _) ?_
        refine p_iret rfl rfl (by decide +kernel) ?_
        exact ⟨by rw [if_pos (by exact ⟨by decide, by decide⟩)]; rw [hP.2.2.1 d hd 3 (by omega)]; rfl, Fp.rf⟩
      | 4, _, hx =>
        have hx : b = Int32.ofInt (4) := hx
        refine ⟨66, 88, rfl, rfl, ?_⟩
        subst hx
        refine p_run (pc' := 89) [.aload_n 3] mkX7_told (by decide +kernel) rfl rfl ?_
        refine p_getI (by decide +kernel) fo7_105 (obD pp11 (by omega)).1 (obD pp11 (by omega)).2.1 ((obD pp11 (by omega)).2.2 _) ?_
        refine p_iret rfl rfl (by decide +kernel) ?_
        exact ⟨by rw [if_pos (by exact ⟨by decide, by decide⟩)]; rw [hP.2.2.1 d hd 4 (by omega)]; rfl, Fp.rf⟩
      | 5, _, hx =>
        have hx : b = Int32.ofInt (5) := hx
        refine ⟨71, 93, rfl, rfl, ?_⟩
        subst hx
        refine p_run (pc' := 98) [.aload_n 0, .getfield 28, .iload_n 1] mkX7_told (by decide +kernel) rfl rfl ?_
        refine p_callVi (cdigs11 w (k := k - 1) (by omega) d N h hI hP hd hT) (fun _ _ q => q.1) kvX7_108 (by decide +kernel) (by decide) rfl (by omega) rfl rfl rfl rfl rfl (fun h' hq => ?_)
        obtain ⟨-, hF⟩ := hq
        refine p_iret rfl rfl (by decide +kernel) ?_
        exact ⟨by rw [if_pos (by exact ⟨by decide, by decide⟩)]; rfl, hF.fp⟩
      | 6, _, hx =>
        have hx : b = Int32.ofInt (6) := hx
        refine ⟨80, 102, rfl, rfl, ?_⟩
        subst hx
        refine p_run (pc' := 107) [.aload_n 0, .getfield 28, .iload_n 1] mkX7_told (by decide +kernel) rfl rfl ?_
        refine p_callVv (cburns11 w (k := k - 1) (by omega) d N h hI hP hd) kvX7_112 (by decide +kernel) (by decide) rfl (by omega) rfl rfl rfl rfl rfl ?_
        refine p_iret rfl rfl (by decide +kernel) ?_
        exact ⟨by rw [if_pos (by exact ⟨by decide, by decide⟩)]; rfl, Fp.rf⟩
      | 7, _, hx =>
        have hx : b = Int32.ofInt (7) := hx
        refine ⟨89, 111, rfl, rfl, ?_⟩
        subst hx
        refine p_run (pc' := 112) [.aload_n 3] mkX7_told (by decide +kernel) rfl rfl ?_
        refine p_callVv (cworth_ok w (k := k - 1) _ (obD pp11 (by omega)) h (by rw [hP.2.2.1 d hd 0 (by omega)]; exact (hI.2.2.2.2.2.1 d (by omega)).1)) kvX7_115 (by decide +kernel) (obD pp11 (by omega)).1 (obD pp11 (by omega)).2.1 (by omega) rfl rfl rfl rfl rfl ?_
        refine p_iret rfl rfl (by decide +kernel) ?_
        exact ⟨by rw [if_pos (by exact ⟨by decide, by decide⟩)]; rw [show toldF N d (nN (Int32.ofInt 7)) = woF N d from rfl, woF_wV, wV_congr (fun j hj => hP.2.2.1 d hd j hj)], Fp.rf⟩
      | j + 8, hj, _ => exact absurd hj (by simp)
    · refine ⟨116, rfl, ?_⟩
      refine p_run (pc' := 118) [.ldc 75] mkX7_told (by decide +kernel) rfl rfl ?_
      refine p_iret rfl rfl (by decide +kernel) ?_
      exact ⟨by rw [if_neg (fun q => by have h1 := Int32.le_iff_toInt_le.mp q.1; have h2 := Int32.le_iff_toInt_le.mp q.2; rw [nI_toInt (by omega)] at h1 h2; omega)], Fp.rf⟩
  · have cq5 := bI0.mp cq5
    exact absurd (hD) cq5
theorem st_told (w : Wt) {k : Nat} (hk : 200 ≤ k) (a b : Int32) (h : Mm) (hR : Rel h) : St w k MX7_told MX8_told [.int a, .int b] h := by
  obtain ⟨⟨hP, hI, hQ, hT, hq⟩, -⟩ := id hR
  by_cases hg : isD (h 97) a
  · obtain ⟨d, hd, rfl⟩ := isD_of hI.nd.1 hI.nd.2 hg
    by_cases hb : inR b 0 7
    · obtain ⟨j, -, hj, rfl⟩ := inR_of (by omega) (by omega) hb
      exact St.pure hR (c_told w hk d (nI j) (h 97) h hI hP hT hd) (fun h1 hF => by
        have e : h1 97 = h 97 := hF 97 (by omega) (by omega) (by omega)
        exact (r_told w (by omega) d j h1 (by rw [e]; exact hI) (by rw [e]; exact hQ) (by rw [e]; exact hd) hj).imp (fun r h2 z => ⟨by rw [z.1, e, if_pos hb, nN_nI (by omega)], Ag2 z.2⟩))
    · exact St.pure hR (c_told w hk d b (h 97) h hI hP hT hd) (fun h1 hF => by
        have e : h1 97 = h 97 := hF 97 (by omega) (by omega) (by omega)
        exact (r_told_bad w (by omega) (nI d) b h1 (fun q => hb q.2)).imp (fun r h2 z => ⟨by rw [z.1, if_neg hb], by rw [z.2]; exact Ag.rf⟩))
  · exact St.word hR (c_told_bad w hk a b (h 97) h hP hg) (r_told_bad w (by omega) a b h (fun q => hg q.1))
set_option maxRecDepth 20000 in
set_option maxHeartbeats 4000000 in
theorem c_as_bad (w : Wt) {k : Nat} (hk : 200 ≤ k) (a b : Int32) (N : Vc) (h : Mm) (hP : PR 11 h N)  (hb : ¬ (isD N a ∧ inR b 0 5)) : Ok w k MX7_as [.ref 0, .int a, .int b] h (Rv BADv h) := by
  show Wp w k MX7_as _ 0 [some (.ref 0), some (.int a), some (.int b), none] [] h
  refine p_run (pc' := 2) [.aload_n 0, .iload_n 1] mkX7_as (by decide +kernel) rfl rfl ?_
  refine p_callVv (cisDigger_ok w (k := k - 1) (by omega) _ N _ hP.1.1) kvX7_84 (by decide +kernel) (by decide) rfl (by omega) rfl rfl rfl rfl rfl ?_
  refine p_if_eq (off := 10) 15 (by decide +kernel) (by decide) (fun cq5 => ?_) (fun cq5 => ?_)
  · have cq5 := bI0.mp cq5
    refine p_run (pc' := 17) [.ldc 75] mkX7_as (by decide +kernel) rfl rfl ?_
    refine p_iret rfl rfl (by decide +kernel) ?_
    exact ⟨rfl, rfl⟩
  · have cq5 := bI1.mp cq5
    refine p_run (pc' := 9) [.iload_n 2] mkX7_as (by decide +kernel) rfl rfl ?_
    refine p_callSv (cisKind_ok w (k := k - 1) (by omega) _ _) ksX7_64 (by decide +kernel) (by omega) rfl rfl rfl rfl rfl ?_
    refine p_if_ne (off := 6) 18 (by decide +kernel) (by decide) (fun cq12 => ?_) (fun cq12 => ?_)
    · have cq12 := bI1.mp cq12
      exact absurd (⟨cq5, cq12⟩) hb
    · have cq12 := bI0.mp cq12
      refine p_run (pc' := 17) [.ldc 75] mkX7_as (by decide +kernel) rfl rfl ?_
      refine p_iret rfl rfl (by decide +kernel) ?_
      exact ⟨rfl, rfl⟩
set_option maxRecDepth 20000 in
set_option maxHeartbeats 4000000 in
theorem c_as (w : Wt) {k : Nat} (hk : 200 ≤ k) (d j : Nat) (N : Vc) (h : Mm) (hI : Iv N) (hP : PR 11 h N) (hT : TR h N) (hd : d < nd N) (hj : j ≤ 5) : Ok w k MX7_as [.ref 0, .int (nI d), .int (nI j)] h (Rv (asF N d j) h) := by
  show Wp w k MX7_as _ 0 [some (.ref 0), some (.int (nI d)), some (.int (nI j)), none] [] h
  have hn10 := hI.nd.2
  have hD := isD_nI hI.nd.1 hd hn10
  have hK := hI.2.2.2.2.2.1 d (by omega)
  refine p_run (pc' := 2) [.aload_n 0, .iload_n 1] mkX7_as (by decide +kernel) rfl rfl ?_
  refine p_callVv (cisDigger_ok w (k := k - 1) (by omega) _ N _ hP.1.1) kvX7_84 (by decide +kernel) (by decide) rfl (by omega) rfl rfl rfl rfl rfl ?_
  refine p_if_eq (off := 10) 15 (by decide +kernel) (by decide) (fun cq5 => ?_) (fun cq5 => ?_)
  · have cq5 := bI0.mp cq5
    exact absurd (hD) cq5
  · have cq5 := bI1.mp cq5
    refine p_run (pc' := 9) [.iload_n 2] mkX7_as (by decide +kernel) rfl rfl ?_
    refine p_callSv (cisKind_ok w (k := k - 1) (by omega) _ _) ksX7_64 (by decide +kernel) (by omega) rfl rfl rfl rfl rfl ?_
    refine p_if_ne (off := 6) 18 (by decide +kernel) (by decide) (fun cq12 => ?_) (fun cq12 => ?_)
    · have cq12 := bI1.mp cq12
      refine p_run (pc' := 26) [.aload_n 0, .getfield 28, .getfield 87, .iload_n 1] mkX7_as (by decide +kernel) rfl rfl ?_
      refine p_aald (d) (by decide +kernel) (by decide) rfl (by decide) rfl (by omega) (rfD11 d (by omega)) ?_
      refine p_run (pc' := 30) [.astore_n 3, .aload_n 3, .iload_n 2] mkX7_as (by decide +kernel) rfl rfl ?_
      refine p_callVv (isOne_ok w (k := k - 1) _ j (nN (dK N d 0)) (obD pp11 (by omega)) hj hK.1.2 h (by rw [hP.2.2.1 d hd 0 (by omega)]; exact hK.1.1)) kvX7_119 (by decide +kernel) (obD pp11 (by omega)).1 (obD pp11 (by omega)).2.1 (by omega) rfl rfl rfl rfl rfl ?_
      refine p_if_eq (off := 10) 43 (by decide +kernel) (by decide) (fun cq33 => ?_) (fun cq33 => ?_)
      · have cq33 := bI0.mp cq33
        refine p_run (pc' := 45) [.ldc 122] mkX7_as (by decide +kernel) rfl rfl ?_
        refine p_iret rfl rfl (by decide +kernel) ?_
        exact ⟨by unfold asF; rw [if_neg cq33], rfl⟩
      · have cq33 := bI1.mp cq33
        refine p_run (pc' := 37) [.aload_n 3] mkX7_as (by decide +kernel) rfl rfl ?_
        refine p_getI (by decide +kernel) fo7_96 (obD pp11 (by omega)).1 (obD pp11 (by omega)).2.1 ((obD pp11 (by omega)).2.2 _) ?_
        refine p_run (pc' := 45) [.goto 5] mkX7_as (by decide +kernel) rfl rfl ?_
        refine p_iret rfl rfl (by decide +kernel) ?_
        exact ⟨by unfold asF; rw [if_pos cq33, hP.2.2.1 d hd 1 (by omega)], rfl⟩
    · have cq12 := bI0.mp cq12
      exact absurd (in_nI (by omega) hj (by omega)) cq12
theorem st_as (w : Wt) {k : Nat} (hk : 200 ≤ k) (a b : Int32) (h : Mm) (hR : Rel h) : St w k MX7_as MX8_as [.int a, .int b] h := by
  obtain ⟨⟨hP, hI, hQ, hT, hq⟩, -⟩ := id hR
  by_cases hg : isD (h 97) a ∧ inR b 0 5
  · obtain ⟨d, hd, rfl⟩ := isD_of hI.nd.1 hI.nd.2 hg.1
    obtain ⟨j, -, hj, rfl⟩ := inR_of (by omega) (by omega) hg.2
    exact St.word hR (c_as w hk d j (h 97) h hI hP hT hd hj) (r_as w (by omega) d j h hI hd hj)
  · exact St.word hR (c_as_bad w hk a b (h 97) h hP hg) (r_as_bad w (by omega) a b h hg)
set_option maxRecDepth 20000 in
set_option maxHeartbeats 4000000 in
theorem c_branchOf_bad (w : Wt) {k : Nat} (hk : 200 ≤ k) (a b : Int32) (N : Vc) (h : Mm) (hP : PR 11 h N)  (hb : ¬ (inR a 0 3)) : Ok w k MX7_branchOf [.ref 0, .int a, .int b] h (Rv BADv h) := by
  show Wp w k MX7_branchOf _ 0 [some (.ref 0), some (.int a), some (.int b), none] [] h
  refine p_run (pc' := 1) [.iload_n 1] mkX7_branchOf (by decide +kernel) rfl rfl ?_
  refine p_callSv (cisBranch_ok w (k := k - 1) (by omega) _ _) ksX7_72 (by decide +kernel) (by omega) rfl rfl rfl rfl rfl ?_
  refine p_if_ne (off := 6) 10 (by decide +kernel) (by decide) (fun cq4 => ?_) (fun cq4 => ?_)
  · have cq4 := bI1.mp cq4
    exact absurd (cq4) hb
  · have cq4 := bI0.mp cq4
    refine p_run (pc' := 9) [.ldc 75] mkX7_branchOf (by decide +kernel) rfl rfl ?_
    refine p_iret rfl rfl (by decide +kernel) ?_
    exact ⟨rfl, rfl⟩
set_option maxRecDepth 20000 in
set_option maxHeartbeats 4000000 in
theorem c_branchOf (w : Wt) {k : Nat} (hk : 200 ≤ k) (d : Nat) (b : Int32) (N : Vc) (h : Mm) (hI : Iv N) (hP : PR 11 h N) (hT : TR h N) (hd : d < 4) : Ok w k MX7_branchOf [.ref 0, .int (nI d), .int b] h (Rp (@ite _ (inR b 0 5) (Classical.propDecidable _) (boF N d (nN b)) BADv) h) := by
  show Wp w k MX7_branchOf _ 0 [some (.ref 0), some (.int (nI d)), some (.int b), none] [] h
  refine p_run (pc' := 1) [.iload_n 1] mkX7_branchOf (by decide +kernel) rfl rfl ?_
  refine p_callSv (cisBranch_ok w (k := k - 1) (by omega) _ _) ksX7_72 (by decide +kernel) (by omega) rfl rfl rfl rfl rfl ?_
  refine p_if_ne (off := 6) 10 (by decide +kernel) (by decide) (fun cq4 => ?_) (fun cq4 => ?_)
  · have cq4 := bI1.mp cq4
    refine p_run (pc' := 18) [.aload_n 0, .getfield 28, .getfield 123, .iload_n 1] mkX7_branchOf (by decide +kernel) rfl rfl ?_
    refine p_aald (d) (by decide +kernel) (by decide) rfl (by decide) rfl (by omega) (rfB11 d (by omega)) ?_
    refine p_run (pc' := 21) [.astore_n 3, .iload_n 2] mkX7_branchOf (by decide +kernel) rfl rfl ?_
    refine p_table (dflt := 77) (lo := 0) (hi := 5) (offs := #[39, 44, 49, 54, 59, 68]) (len := 39) (by decide +kernel) (by decide) (fun j hj hx => ?_) (fun hx => ?_)
    · match j, hj, hx with
      | 0, _, hx =>
        have hx : b = Int32.ofInt (0) := hx
        refine ⟨39, 60, rfl, rfl, ?_⟩
        subst hx
        refine p_run (pc' := 61) [.aload_n 3] mkX7_branchOf (by decide +kernel) rfl rfl ?_
        refine p_getI (by decide +kernel) fo7_132 (obB pp11 (by omega)).1 (obB pp11 (by omega)).2.1 ((obB pp11 (by omega)).2.2 _) ?_
        refine p_iret rfl rfl (by decide +kernel) ?_
        exact ⟨by rw [if_pos (by exact ⟨by decide, by decide⟩)]; rw [hP.2.1 d hd 0 (by omega)]; rfl, Fp.rf⟩
      | 1, _, hx =>
        have hx : b = Int32.ofInt (1) := hx
        refine ⟨44, 65, rfl, rfl, ?_⟩
        subst hx
        refine p_run (pc' := 66) [.aload_n 3] mkX7_branchOf (by decide +kernel) rfl rfl ?_
        refine p_getI (by decide +kernel) fo7_135 (obB pp11 (by omega)).1 (obB pp11 (by omega)).2.1 ((obB pp11 (by omega)).2.2 _) ?_
        refine p_iret rfl rfl (by decide +kernel) ?_
        exact ⟨by rw [if_pos (by exact ⟨by decide, by decide⟩)]; rw [hP.2.1 d hd 1 (by omega)]; rfl, Fp.rf⟩
      | 2, _, hx =>
        have hx : b = Int32.ofInt (2) := hx
        refine ⟨49, 70, rfl, rfl, ?_⟩
        subst hx
        refine p_run (pc' := 71) [.aload_n 3] mkX7_branchOf (by decide +kernel) rfl rfl ?_
        refine p_getI (by decide +kernel) fo7_127 (obB pp11 (by omega)).1 (obB pp11 (by omega)).2.1 ((obB pp11 (by omega)).2.2 _) ?_
        refine p_iret rfl rfl (by decide +kernel) ?_
        exact ⟨by rw [if_pos (by exact ⟨by decide, by decide⟩)]; rw [hP.2.1 d hd 2 (by omega)]; rfl, Fp.rf⟩
      | 3, _, hx =>
        have hx : b = Int32.ofInt (3) := hx
        refine ⟨54, 75, rfl, rfl, ?_⟩
        subst hx
        refine p_run (pc' := 76) [.aload_n 3] mkX7_branchOf (by decide +kernel) rfl rfl ?_
        refine p_callVv (cahead_ok w (k := k - 1) _ (obB pp11 (by omega)) h) kvX7_138 (by decide +kernel) (obB pp11 (by omega)).1 (obB pp11 (by omega)).2.1 (by omega) rfl rfl rfl rfl rfl ?_
        refine p_iret rfl rfl (by decide +kernel) ?_
        exact ⟨by rw [if_pos (by exact ⟨by decide, by decide⟩)]; rw [hP.2.1 d hd 0 (by omega), hP.2.1 d hd 2 (by omega)]; rfl, Fp.rf⟩
      | 4, _, hx =>
        have hx : b = Int32.ofInt (4) := hx
        refine ⟨59, 80, rfl, rfl, ?_⟩
        subst hx
        refine p_run (pc' := 85) [.aload_n 0, .getfield 28, .iload_n 1] mkX7_branchOf (by decide +kernel) rfl rfl ?_
        refine p_callVv (cdiggersIn11 w (k := k - 1) d N h hI hP) kvX7_141 (by decide +kernel) (by decide) rfl (by omega) rfl rfl rfl rfl rfl ?_
        refine p_iret rfl rfl (by decide +kernel) ?_
        exact ⟨by rw [if_pos (by exact ⟨by decide, by decide⟩)]; rfl, Fp.rf⟩
      | 5, _, hx =>
        have hx : b = Int32.ofInt (5) := hx
        refine ⟨68, 89, rfl, rfl, ?_⟩
        subst hx
        refine p_run (pc' := 94) [.aload_n 0, .getfield 28, .iload_n 1] mkX7_branchOf (by decide +kernel) rfl rfl ?_
        refine p_callVi (cdigIn w (k := k - 1) (by omega) d N h hI hP hT) (fun _ _ q => q.1) kvX7_144 (by decide +kernel) (by decide) rfl (by omega) rfl rfl rfl rfl rfl (fun h' hq => ?_)
        obtain ⟨-, hF⟩ := hq
        refine p_iret rfl rfl (by decide +kernel) ?_
        exact ⟨by rw [if_pos (by exact ⟨by decide, by decide⟩)]; rfl, hF.fp⟩
      | j + 6, hj, _ => exact absurd hj (by simp)
    · refine ⟨98, rfl, ?_⟩
      refine p_run (pc' := 100) [.ldc 75] mkX7_branchOf (by decide +kernel) rfl rfl ?_
      refine p_iret rfl rfl (by decide +kernel) ?_
      exact ⟨by rw [if_neg (fun q => by have h1 := Int32.le_iff_toInt_le.mp q.1; have h2 := Int32.le_iff_toInt_le.mp q.2; rw [nI_toInt (by omega)] at h1 h2; omega)], Fp.rf⟩
  · have cq4 := bI0.mp cq4
    exact absurd (in_nI (by omega) (show d ≤ 3 by omega) (by omega)) cq4
theorem st_branchOf (w : Wt) {k : Nat} (hk : 200 ≤ k) (a b : Int32) (h : Mm) (hR : Rel h) : St w k MX7_branchOf MX8_branchOf [.int a, .int b] h := by
  obtain ⟨⟨hP, hI, hQ, hT, hq⟩, -⟩ := id hR
  by_cases hg : inR a 0 3
  · obtain ⟨d, -, hd, rfl⟩ := inR_of (by omega) (by omega) hg
    by_cases hb : inR b 0 5
    · obtain ⟨j, -, hj, rfl⟩ := inR_of (by omega) (by omega) hb
      exact St.pure hR (c_branchOf w hk d (nI j) (h 97) h hI hP hT (by omega)) (fun h1 hF => by
        have e : h1 97 = h 97 := hF 97 (by omega) (by omega) (by omega)
        exact (r_branchOf w (by omega) d j (by omega) hj h1 (by rw [e]; exact hI) (by rw [e]; exact hQ)).imp (fun r h2 z => ⟨by rw [z.1, e, if_pos hb, nN_nI (by omega)], Ag2 z.2⟩))
    · exact St.pure hR (c_branchOf w hk d b (h 97) h hI hP hT (by omega)) (fun h1 hF => by
        exact (r_branchOf_bad w (by omega) (nI d) b h1 (fun q => hb q.2)).imp (fun r h2 z => ⟨by rw [z.1, if_neg hb], by rw [z.2]; exact Ag.rf⟩))
  · exact St.word hR (c_branchOf_bad w hk a b (h 97) h hP hg) (r_branchOf_bad w (by omega) a b h (fun q => hg q.1))
set_option maxRecDepth 20000 in
set_option maxHeartbeats 4000000 in
theorem c_below (w : Wt) {k : Nat} (hk : 200 ≤ k) (b : Int32) (N : Vc) (h : Mm) (hI : Iv N) (hP : PR 11 h N) (hT : TR h N) : Ok w k MX7_below [.ref 0, .int b] h (Rv (@ite _ (inR b 0 5) (Classical.propDecidable _) (belF N (nN b)) BADv) h) := by
  show Wp w k MX7_below _ 0 [some (.ref 0), some (.int b)] [] h
  refine p_run (pc' := 1) [.iload_n 1] mkX7_below (by decide +kernel) rfl rfl ?_
  refine p_table (dflt := 87) (lo := 0) (hi := 5) (offs := #[39, 47, 55, 63, 71, 79]) (len := 39) (by decide +kernel) (by decide) (fun j hj hx => ?_) (fun hx => ?_)
  · match j, hj, hx with
    | 0, _, hx =>
      have hx : b = Int32.ofInt (0) := hx
      refine ⟨39, 40, rfl, rfl, ?_⟩
      subst hx
      refine p_run (pc' := 47) [.aload_n 0, .getfield 28, .getfield 175] mkX7_below (by decide +kernel) rfl rfl ?_
      refine p_iret rfl rfl (by decide +kernel) ?_
      exact ⟨by rw [if_pos (by exact ⟨by decide, by decide⟩)]; rw [hP.1.2.2.2.2.1]; rfl, rfl⟩
    | 1, _, hx =>
      have hx : b = Int32.ofInt (1) := hx
      refine ⟨47, 48, rfl, rfl, ?_⟩
      subst hx
      refine p_run (pc' := 55) [.aload_n 0, .getfield 28, .getfield 178] mkX7_below (by decide +kernel) rfl rfl ?_
      refine p_iret rfl rfl (by decide +kernel) ?_
      exact ⟨by rw [if_pos (by exact ⟨by decide, by decide⟩)]; rw [hP.1.2.2.2.2.2.1]; rfl, rfl⟩
    | 2, _, hx =>
      have hx : b = Int32.ofInt (2) := hx
      refine ⟨55, 56, rfl, rfl, ?_⟩
      subst hx
      refine p_run (pc' := 60) [.aload_n 0, .getfield 28] mkX7_below (by decide +kernel) rfl rfl ?_
      refine p_callVv (chill11 w (k := k - 1) N h hI hP) kvX7_165 (by decide +kernel) (by decide) rfl (by omega) rfl rfl rfl rfl rfl ?_
      refine p_iret rfl rfl (by decide +kernel) ?_
      exact ⟨by rw [if_pos (by exact ⟨by decide, by decide⟩)]; rfl, rfl⟩
    | 3, _, hx =>
      have hx : b = Int32.ofInt (3) := hx
      refine ⟨63, 64, rfl, rfl, ?_⟩
      subst hx
      refine p_run (pc' := 68) [.aload_n 0, .getfield 28] mkX7_below (by decide +kernel) rfl rfl ?_
      refine p_callVv (ccandlesOfAll11 w (k := k - 1) N h hI hP) kvX7_181 (by decide +kernel) (by decide) rfl (by omega) rfl rfl rfl rfl rfl ?_
      refine p_iret rfl rfl (by decide +kernel) ?_
      exact ⟨by rw [if_pos (by exact ⟨by decide, by decide⟩)]; rfl, rfl⟩
    | 4, _, hx =>
      have hx : b = Int32.ofInt (4) := hx
      refine ⟨71, 72, rfl, rfl, ?_⟩
      subst hx
      refine p_run (pc' := 76) [.aload_n 0, .getfield 28] mkX7_below (by decide +kernel) rfl rfl ?_
      refine p_callVv (cbiu w (k := k - 1) N h hI hP) kvX7_184 (by decide +kernel) (by decide) rfl (by omega) rfl rfl rfl rfl rfl ?_
      refine p_iret rfl rfl (by decide +kernel) ?_
      exact ⟨by rw [if_pos (by exact ⟨by decide, by decide⟩)]; rfl, rfl⟩
    | 5, _, hx =>
      have hx : b = Int32.ofInt (5) := hx
      refine ⟨79, 80, rfl, rfl, ?_⟩
      subst hx
      refine p_run (pc' := 84) [.aload_n 0, .getfield 28] mkX7_below (by decide +kernel) rfl rfl ?_
      refine p_callVv (cfront w (k := k - 1) N h hI hP) kvX7_187 (by decide +kernel) (by decide) rfl (by omega) rfl rfl rfl rfl rfl ?_
      refine p_iret rfl rfl (by decide +kernel) ?_
      exact ⟨by rw [if_pos (by exact ⟨by decide, by decide⟩)]; rfl, rfl⟩
    | j + 6, hj, _ => exact absurd hj (by simp)
  · refine ⟨88, rfl, ?_⟩
    refine p_run (pc' := 90) [.ldc 75] mkX7_below (by decide +kernel) rfl rfl ?_
    refine p_iret rfl rfl (by decide +kernel) ?_
    exact ⟨by rw [if_neg (fun q => by have h1 := Int32.le_iff_toInt_le.mp q.1; have h2 := Int32.le_iff_toInt_le.mp q.2; rw [nI_toInt (by omega)] at h1 h2; omega)], rfl⟩
theorem st_below (w : Wt) {k : Nat} (hk : 200 ≤ k) (b : Int32) (h : Mm) (hR : Rel h) : St w k MX7_below MX8_below [.int b] h := by
  obtain ⟨⟨hP, hI, hQ, hT, hq⟩, -⟩ := id hR
  exact St.word hR (c_below w hk b (h 97) h hI hP hT) (r_below w (by omega) b h hI)
set_option maxRecDepth 20000 in
set_option maxHeartbeats 4000000 in
theorem c_count (w : Wt) {k : Nat} (hk : 200 ≤ k) (b : Int32) (h : Mm) (hP : PR 11 h (h 97)) (e8 : h 0 8 = h 96 32) (e6 : h 8 1 = h 96 6) : Ok w k MX7_count [.ref 0, .int b] h (Rv (@ite _ (inR b 0 9) (Classical.propDecidable _) (coF h (nN b)) BADv) h) := by
  show Wp w k MX7_count _ 0 [some (.ref 0), some (.int b)] [] h
  refine p_run (pc' := 1) [.iload_n 1] mkX7_count (by decide +kernel) rfl rfl ?_
  refine p_table (dflt := 132) (lo := 0) (hi := 9) (offs := #[55, 63, 71, 79, 87, 95, 103, 111, 116, 124]) (len := 55) (by decide +kernel) (by decide) (fun j hj hx => ?_) (fun hx => ?_)
  · match j, hj, hx with
    | 0, _, hx =>
      have hx : b = Int32.ofInt (0) := hx
      refine ⟨55, 56, rfl, rfl, ?_⟩
      subst hx
      refine p_run (pc' := 63) [.aload_n 0, .getfield 28, .getfield 76] mkX7_count (by decide +kernel) rfl rfl ?_
      refine p_iret rfl rfl (by decide +kernel) ?_
      exact ⟨by rw [if_pos (by exact ⟨by decide, by decide⟩)]; rw [hP.1.1]; rfl, rfl⟩
    | 1, _, hx =>
      have hx : b = Int32.ofInt (1) := hx
      refine ⟨63, 64, rfl, rfl, ?_⟩
      subst hx
      refine p_run (pc' := 71) [.aload_n 0, .getfield 28, .getfield 168] mkX7_count (by decide +kernel) rfl rfl ?_
      refine p_iret rfl rfl (by decide +kernel) ?_
      exact ⟨by rw [if_pos (by exact ⟨by decide, by decide⟩)]; rw [hP.1.2.2.2.2.2.2.1]; rfl, rfl⟩
    | 2, _, hx =>
      have hx : b = Int32.ofInt (2) := hx
      refine ⟨71, 72, rfl, rfl, ?_⟩
      subst hx
      refine p_run (pc' := 79) [.aload_n 0, .getfield 28, .getfield 147] mkX7_count (by decide +kernel) rfl rfl ?_
      refine p_iret rfl rfl (by decide +kernel) ?_
      exact ⟨by rw [if_pos (by exact ⟨by decide, by decide⟩)]; rw [hP.1.2.2.1]; rfl, rfl⟩
    | 3, _, hx =>
      have hx : b = Int32.ofInt (3) := hx
      refine ⟨79, 80, rfl, rfl, ?_⟩
      subst hx
      refine p_run (pc' := 87) [.aload_n 0, .getfield 28, .getfield 150] mkX7_count (by decide +kernel) rfl rfl ?_
      refine p_iret rfl rfl (by decide +kernel) ?_
      exact ⟨by rw [if_pos (by exact ⟨by decide, by decide⟩)]; rw [hP.1.2.2.2.1]; rfl, rfl⟩
    | 4, _, hx =>
      have hx : b = Int32.ofInt (4) := hx
      refine ⟨87, 88, rfl, rfl, ?_⟩
      subst hx
      refine p_run (pc' := 95) [.aload_n 0, .getfield 28, .getfield 175] mkX7_count (by decide +kernel) rfl rfl ?_
      refine p_iret rfl rfl (by decide +kernel) ?_
      exact ⟨by rw [if_pos (by exact ⟨by decide, by decide⟩)]; rw [hP.1.2.2.2.2.1]; rfl, rfl⟩
    | 5, _, hx =>
      have hx : b = Int32.ofInt (5) := hx
      refine ⟨95, 96, rfl, rfl, ?_⟩
      subst hx
      refine p_run (pc' := 103) [.aload_n 0, .getfield 28, .getfield 178] mkX7_count (by decide +kernel) rfl rfl ?_
      refine p_iret rfl rfl (by decide +kernel) ?_
      exact ⟨by rw [if_pos (by exact ⟨by decide, by decide⟩)]; rw [hP.1.2.2.2.2.2.1]; rfl, rfl⟩
    | 6, _, hx =>
      have hx : b = Int32.ofInt (6) := hx
      refine ⟨103, 104, rfl, rfl, ?_⟩
      subst hx
      refine p_run (pc' := 111) [.aload_n 0, .getfield 28, .getfield 237] mkX7_count (by decide +kernel) rfl rfl ?_
      refine p_iret rfl rfl (by decide +kernel) ?_
      exact ⟨by rw [if_pos (by exact ⟨by decide, by decide⟩)]; rw [hP.1.2.1]; rfl, rfl⟩
    | 7, _, hx =>
      have hx : b = Int32.ofInt (7) := hx
      refine ⟨111, 112, rfl, rfl, ?_⟩
      subst hx
      refine p_run (pc' := 116) [.aload_n 0, .getfield 56] mkX7_count (by decide +kernel) rfl rfl ?_
      refine p_iret rfl rfl (by decide +kernel) ?_
      exact ⟨by rw [if_pos (by exact ⟨by decide, by decide⟩)]; rw [e8]; rfl, rfl⟩
    | 8, _, hx =>
      have hx : b = Int32.ofInt (8) := hx
      refine ⟨116, 117, rfl, rfl, ?_⟩
      subst hx
      refine p_run (pc' := 124) [.aload_n 0, .getfield 19, .getfield 228] mkX7_count (by decide +kernel) rfl rfl ?_
      refine p_iret rfl rfl (by decide +kernel) ?_
      exact ⟨by rw [if_pos (by exact ⟨by decide, by decide⟩)]; rw [e6]; rfl, rfl⟩
    | 9, _, hx =>
      have hx : b = Int32.ofInt (9) := hx
      refine ⟨124, 125, rfl, rfl, ?_⟩
      subst hx
      refine p_run (pc' := 132) [.aload_n 0, .getfield 28, .getfield 162] mkX7_count (by decide +kernel) rfl rfl ?_
      refine p_iret rfl rfl (by decide +kernel) ?_
      exact ⟨by rw [if_pos (by exact ⟨by decide, by decide⟩)]; rw [hP.1.2.2.2.2.2.2.2]; rfl, rfl⟩
    | j + 10, hj, _ => exact absurd hj (by simp)
  · refine ⟨133, rfl, ?_⟩
    refine p_run (pc' := 135) [.ldc 75] mkX7_count (by decide +kernel) rfl rfl ?_
    refine p_iret rfl rfl (by decide +kernel) ?_
    exact ⟨by rw [if_neg (fun q => by have h1 := Int32.le_iff_toInt_le.mp q.1; have h2 := Int32.le_iff_toInt_le.mp q.2; rw [nI_toInt (by omega)] at h1 h2; omega)], rfl⟩
theorem st_count (w : Wt) {k : Nat} (hk : 200 ≤ k) (b : Int32) (h : Mm) (hR : Rel h) : St w k MX7_count MX8_count [.int b] h := by
  obtain ⟨⟨hP, hI, hQ, hT, hq⟩, -⟩ := id hR
  exact St.word hR (c_count w hk b h hP hR.2.2.2.2.2.1 hR.2.2.1.1) (r_count w b h)
set_option maxRecDepth 20000 in
set_option maxHeartbeats 4000000 in
theorem c_fee (w : Wt) {k : Nat} (hk : 200 ≤ k) (N : Vc) (h : Mm) (hI : Iv N) (hP : PR 11 h N) (hT : TR h N) : Ok w k MX7_fee [.ref 0] h (Rp (feF N) h) := by
  show Wp w k MX7_fee _ 0 [some (.ref 0)] [] h
  refine p_run (pc' := 4) [.aload_n 0, .getfield 28] mkX7_fee (by decide +kernel) rfl rfl ?_
  refine p_callVi (cfeeGives w (k := k - 1) (by omega) N h hI hP hT) (fun _ _ q => q.1) kvX7_221 (by decide +kernel) (by decide) rfl (by omega) rfl rfl rfl rfl rfl (fun h' hq => ?_)
  obtain ⟨-, hF⟩ := hq
  refine p_iret rfl rfl (by decide +kernel) ?_
  exact ⟨rfl, hF.fp⟩
theorem st_fee (w : Wt) {k : Nat} (hk : 200 ≤ k) (h : Mm) (hR : Rel h) : St w k MX7_fee MX8_fee [] h := by
  obtain ⟨⟨hP, hI, hQ, hT, hq⟩, -⟩ := id hR
  exact St.pure hR (c_fee w hk (h 97) h hI hP hT) (fun h1 hF => by
    have e : h1 97 = h 97 := hF 97 (by omega) (by omega) (by omega)
    exact (r_fee w (by omega) h1 (by rw [e]; exact hI) (by rw [e]; exact hQ)).imp (fun r h2 z => ⟨by rw [z.1, e], Ag2 z.2⟩))
set_option maxRecDepth 20000 in
set_option maxHeartbeats 4000000 in
theorem c_fine_bad (w : Wt) {k : Nat} (hk : 200 ≤ k) (a : Int32) (N : Vc) (h : Mm) (hP : PR 11 h N) (hb : ¬ isD N a) : Ok w k MX7_fine [.ref 0, .int a] h (Rv BADv h) := by
  show Wp w k MX7_fine _ 0 [some (.ref 0), some (.int a)] [] h
  refine p_run (pc' := 2) [.aload_n 0, .iload_n 1] mkX7_fine (by decide +kernel) rfl rfl ?_
  refine p_callVv (cisDigger_ok w (k := k - 1) (by omega) _ N _ hP.1.1) kvX7_84 (by decide +kernel) (by decide) rfl (by omega) rfl rfl rfl rfl rfl ?_
  refine p_if_eq (off := 22) 27 (by decide +kernel) (by decide) (fun cq5 => ?_) (fun cq5 => ?_)
  · have cq5 := bI0.mp cq5
    refine p_run (pc' := 29) [.ldc 75] mkX7_fine (by decide +kernel) rfl rfl ?_
    refine p_iret rfl rfl (by decide +kernel) ?_
    exact ⟨rfl, rfl⟩
  · have cq5 := bI1.mp cq5
    exact absurd cq5 hb
set_option maxRecDepth 20000 in
set_option maxHeartbeats 4000000 in
theorem c_fine (w : Wt) {k : Nat} (hk : 200 ≤ k) (d : Nat) (N : Vc) (h : Mm) (hI : Iv N) (hP : PR 11 h N) (hT : TR h N) (hd : d < nd N) : Ok w k MX7_fine [.ref 0, .int (nI d)] h (Rp (fiF N d) h) := by
  show Wp w k MX7_fine _ 0 [some (.ref 0), some (.int (nI d))] [] h
  have hn10 := hI.nd.2
  have hD := isD_nI hI.nd.1 hd hn10
  refine p_run (pc' := 2) [.aload_n 0, .iload_n 1] mkX7_fine (by decide +kernel) rfl rfl ?_
  refine p_callVv (cisDigger_ok w (k := k - 1) (by omega) _ N _ hP.1.1) kvX7_84 (by decide +kernel) (by decide) rfl (by omega) rfl rfl rfl rfl rfl ?_
  refine p_if_eq (off := 22) 27 (by decide +kernel) (by decide) (fun cq5 => ?_) (fun cq5 => ?_)
  · have cq5 := bI0.mp cq5
    exact absurd (hD) cq5
  · have cq5 := bI1.mp cq5
    refine p_run (pc' := 20) [.aload_n 0, .getfield 28, .aload_n 0, .getfield 28, .getfield 87, .iload_n 1] mkX7_fine (by decide +kernel) rfl rfl ?_
    refine p_aald (d) (by decide +kernel) (by decide) rfl (by decide) rfl (by omega) (rfD11 d (by omega)) ?_
    refine p_callVi (cfineGives w (k := k - 1) (by omega) d N h hI hP hd hT) (fun _ _ q => q.1) kvX7_224 (by decide +kernel) (by decide) rfl (by omega) rfl rfl rfl rfl rfl (fun h' hq => ?_)
    obtain ⟨-, hF⟩ := hq
    refine p_run (pc' := 29) [.goto 5] mkX7_fine (by decide +kernel) rfl rfl ?_
    refine p_iret rfl rfl (by decide +kernel) ?_
    exact ⟨rfl, hF.fp⟩
theorem st_fine (w : Wt) {k : Nat} (hk : 200 ≤ k) (a : Int32) (h : Mm) (hR : Rel h) : St w k MX7_fine MX8_fine [.int a] h := by
  obtain ⟨⟨hP, hI, hQ, hT, hq⟩, -⟩ := id hR
  by_cases hg : isD (h 97) a
  · obtain ⟨d, hd, rfl⟩ := isD_of hI.nd.1 hI.nd.2 hg
    exact St.pure hR (c_fine w hk d (h 97) h hI hP hT hd) (fun h1 hF => by
      have e : h1 97 = h 97 := hF 97 (by omega) (by omega) (by omega)
      exact (r_fine w (by omega) d h1 (by rw [e]; exact hI) (by rw [e]; exact hQ) (by rw [e]; exact hd)).imp (fun r h2 z => ⟨by rw [z.1, e], Ag2 z.2⟩))
  · exact St.word hR (c_fine_bad w hk a (h 97) h hP hg) (r_fine_bad w (by omega) a h hg)
set_option maxRecDepth 20000 in
set_option maxHeartbeats 4000000 in
theorem c_textTold_bad (w : Wt) {k : Nat} (hk : 200 ≤ k) (a b : Int32) (N : Vc) (h : Mm) (hP : PR 11 h N) (hb : ¬ ((nI 0 ≤ a ∧ a ≤ N 7 - nI 1) ∧ inR b 0 1)) : Ok w k MX7_textTold [.ref 0, .int a, .int b] h (Rv BADv h) := by
  show Wp w k MX7_textTold _ 0 [some (.ref 0), some (.int a), some (.int b)] [] h
  refine p_run (pc' := 11) [.iload_n 1, .iconst 0, .aload_n 0, .getfield 28, .getfield 237, .iconst 1, .isub] mkX7_textTold (by decide +kernel) rfl rfl ?_
  refine p_callSv (cwithin_ok w (k := k - 1) _ _ _ _) ksX7_68 (by decide +kernel) (by omega) rfl rfl rfl rfl rfl ?_
  refine p_if_eq (off := 12) 26 (by decide +kernel) (by decide) (fun cq14 => ?_) (fun cq14 => ?_)
  · have cq14 := bI0.mp cq14
    refine p_run (pc' := 28) [.ldc 75] mkX7_textTold (by decide +kernel) rfl rfl ?_
    refine p_iret rfl rfl (by decide +kernel) ?_
    exact ⟨rfl, rfl⟩
  · have cq14 := bI1.mp cq14
    refine p_run (pc' := 20) [.iload_n 2, .iconst 0, .iconst 1] mkX7_textTold (by decide +kernel) rfl rfl ?_
    refine p_callSv (cwithin_ok w (k := k - 1) _ _ _ _) ksX7_68 (by decide +kernel) (by omega) rfl rfl rfl rfl rfl ?_
    refine p_if_ne (off := 6) 29 (by decide +kernel) (by decide) (fun cq23 => ?_) (fun cq23 => ?_)
    · have cq23 := bI1.mp cq23
      exact absurd ⟨by rw [← hP.1.2.1]; exact cq14, cq23⟩ hb
    · have cq23 := bI0.mp cq23
      refine p_run (pc' := 28) [.ldc 75] mkX7_textTold (by decide +kernel) rfl rfl ?_
      refine p_iret rfl rfl (by decide +kernel) ?_
      exact ⟨rfl, rfl⟩
set_option maxRecDepth 20000 in
set_option maxHeartbeats 4000000 in
theorem c_textTold (w : Wt) {k : Nat} (hk : 200 ≤ k) (t j : Nat) (N : Vc) (h : Mm) (hI : Iv N) (hP : PR 11 h N) (hT : TR h N) (hA : nI 0 ≤ nI t ∧ nI t ≤ N 7 - nI 1) (ht : t < nN (N 7)) (hj : j ≤ 1) : Ok w k MX7_textTold [.ref 0, .int (nI t), .int (nI j)] h (Rv (if j = 0 then nI (nN (N (70 + 2 * t)) / 1000) else N (70 + 2 * t + 1)) h) := by
  show Wp w k MX7_textTold _ 0 [some (.ref 0), some (.int (nI t)), some (.int (nI j))] [] h
  have hT1 := hT t ht
  have hN7 := hI.2.2.2.1.2
  refine p_run (pc' := 11) [.iload_n 1, .iconst 0, .aload_n 0, .getfield 28, .getfield 237, .iconst 1, .isub] mkX7_textTold (by decide +kernel) rfl rfl ?_
  refine p_callSv (cwithin_ok w (k := k - 1) _ _ _ _) ksX7_68 (by decide +kernel) (by omega) rfl rfl rfl rfl rfl ?_
  refine p_if_eq (off := 12) 26 (by decide +kernel) (by decide) (fun cq14 => ?_) (fun cq14 => ?_)
  · have cq14 := bI0.mp cq14
    exact absurd (by rw [hP.1.2.1]; exact hA) cq14
  · have cq14 := bI1.mp cq14
    refine p_run (pc' := 20) [.iload_n 2, .iconst 0, .iconst 1] mkX7_textTold (by decide +kernel) rfl rfl ?_
    refine p_callSv (cwithin_ok w (k := k - 1) _ _ _ _) ksX7_68 (by decide +kernel) (by omega) rfl rfl rfl rfl rfl ?_
    refine p_if_ne (off := 6) 29 (by decide +kernel) (by decide) (fun cq23 => ?_) (fun cq23 => ?_)
    · have cq23 := bI1.mp cq23
      refine p_run (pc' := 30) [.iload_n 2] mkX7_textTold (by decide +kernel) rfl rfl ?_
      refine p_if_ne (off := 15) 45 (by decide +kernel) (by decide) (fun cq30 => ?_) (fun cq30 => ?_)
      · rw [nI_eq0 (by omega)] at cq30
        refine p_run (pc' := 53) [.aload_n 0, .getfield 10, .getfield 246, .iload_n 1] mkX7_textTold (by decide +kernel) rfl rfl ?_
        refine p_iald (t) (by decide +kernel) rfl rfl (by first | rfl | simp only [oI]) (by omega) ?_
        refine p_iret rfl rfl (by decide +kernel) ?_
        exact ⟨by rw [if_neg cq30, hT1.2.1], rfl⟩
      · rw [nI_eq0 (by omega)] at cq30
        refine p_run (pc' := 41) [.aload_n 0, .getfield 10, .getfield 243, .iload_n 1] mkX7_textTold (by decide +kernel) rfl rfl ?_
        refine p_iald (t) (by decide +kernel) rfl rfl (by first | rfl | simp only [oI]) (by omega) ?_
        refine p_run (pc' := 54) [.goto 12] mkX7_textTold (by decide +kernel) rfl rfl ?_
        refine p_iret rfl rfl (by decide +kernel) ?_
        exact ⟨by rw [if_pos cq30, hT1.1], rfl⟩
    · have cq23 := bI0.mp cq23
      exact absurd (in_nI (lo := 0) (hi := 1) (by omega) hj (by omega)) cq23
theorem st_textTold (w : Wt) {k : Nat} (hk : 200 ≤ k) (a b : Int32) (h : Mm) (hR : Rel h) : St w k MX7_textTold MX8_textTold [.int a, .int b] h := by
  obtain ⟨⟨hP, hI, hQ, hT, hq⟩, -⟩ := id hR
  by_cases hg : (nI 0 ≤ a ∧ a ≤ h 97 7 - nI 1) ∧ inR b 0 1
  · obtain ⟨t, ht, rfl⟩ := pl_of (In_mono hI.2.2.2.1 (by omega)) hg.1
    obtain ⟨j, -, hj, rfl⟩ := inR_of (by omega) (by omega) hg.2
    exact St.word hR (c_textTold w hk t j (h 97) h hI hP hT hg.1 ht hj) (r_textTold w (by omega) t j h hI.2.2.2.1 hQ ht hj)
  · exact St.word hR (c_textTold_bad w hk a b (h 97) h hP hg) (r_textTold_bad w (by omega) a b h hg)
set_option maxRecDepth 20000 in
set_option maxHeartbeats 4000000 in
theorem c_why_bad (w : Wt) {k : Nat} (hk : 200 ≤ k) (a : Int32) (N : Vc) (h : Mm) (hP : PR 11 h N) (hb : ¬ inR a 0 2) : Ok w k MX7_why [.ref 0, .int a] h (Rv BADv h) := by
  show Wp w k MX7_why _ 0 [some (.ref 0), some (.int a)] [] h
  refine p_run (pc' := 3) [.iload_n 1, .iconst 0, .iconst 2] mkX7_why (by decide +kernel) rfl rfl ?_
  refine p_callSv (cwithin_ok w (k := k - 1) _ _ _ _) ksX7_68 (by decide +kernel) (by omega) rfl rfl rfl rfl rfl ?_
  refine p_if_eq (off := 15) 21 (by decide +kernel) (by decide) (fun cq6 => ?_) (fun cq6 => ?_)
  · have cq6 := bI0.mp cq6
    refine p_run (pc' := 23) [.ldc 75] mkX7_why (by decide +kernel) rfl rfl ?_
    refine p_iret rfl rfl (by decide +kernel) ?_
    exact ⟨rfl, rfl⟩
  · have cq6 := bI1.mp cq6
    exact absurd cq6 hb
set_option maxRecDepth 20000 in
set_option maxHeartbeats 4000000 in
theorem c_why (w : Wt) {k : Nat} (hk : 200 ≤ k) (j : Nat) (N : Vc) (h : Mm) (hI : Iv N) (hP : PR 11 h N) (hT : TR h N) (hj : j ≤ 2) : Ok w k MX7_why [.ref 0, .int (nI j)] h (Rv (oN (lawT N j)) h) := by
  show Wp w k MX7_why _ 0 [some (.ref 0), some (.int (nI j))] [] h
  refine p_run (pc' := 3) [.iload_n 1, .iconst 0, .iconst 2] mkX7_why (by decide +kernel) rfl rfl ?_
  refine p_callSv (cwithin_ok w (k := k - 1) _ _ _ _) ksX7_68 (by decide +kernel) (by omega) rfl rfl rfl rfl rfl ?_
  refine p_if_eq (off := 15) 21 (by decide +kernel) (by decide) (fun cq6 => ?_) (fun cq6 => ?_)
  · have cq6 := bI0.mp cq6
    exact absurd (in_nI (lo := 0) (hi := 2) (by omega) hj (by omega)) cq6
  · have cq6 := bI1.mp cq6
    refine p_run (pc' := 17) [.aload_n 0, .getfield 28, .getfield 249, .iload_n 1] mkX7_why (by decide +kernel) rfl rfl ?_
    refine p_iald (j) (by decide +kernel) rfl rfl (by first | rfl | simp only [oI]) (by omega) ?_
    refine p_run (pc' := 23) [.goto 5] mkX7_why (by decide +kernel) rfl rfl ?_
    refine p_iret rfl rfl (by decide +kernel) ?_
    exact ⟨by rw [← hP.2.2.2 j (by omega)], rfl⟩
theorem st_why (w : Wt) {k : Nat} (hk : 200 ≤ k) (a : Int32) (h : Mm) (hR : Rel h) : St w k MX7_why MX8_why [.int a] h := by
  obtain ⟨⟨hP, hI, hQ, hT, hq⟩, -⟩ := id hR
  by_cases hg : inR a 0 2
  · obtain ⟨j, -, hj, rfl⟩ := inR_of (by omega) (by omega) hg
    exact St.word hR (c_why w hk j (h 97) h hI hP hT hj) (r_why w (by omega) j h hI hQ hj)
  · exact St.word hR (c_why_bad w hk a (h 97) h hP hg) (r_why_bad w (by omega) a h hg)
