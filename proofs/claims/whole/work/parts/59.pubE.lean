/-! methods that change the passage that is now -/
def Rn1 (v : Int32) (N : Vc) (h : Mm) : Option Value → Mm → Prop := fun r h' => r = some (.int v) ∧ PR 11 h' N ∧ Fp 11 h h'
theorem e97 {h h1 : Mm} (hF : Fp 11 h h1) : h1 97 = h 97 := hF 97 (by omega) (by omega) (by omega)
theorem Ag1 {h h' : Mm} (x : Ag [97] h h') : Ag [97, 99, 107, 108] h h' := x.mono (fun x => by simp; omega)
theorem Ag13 {h h' : Mm} (x : Ag [97, 107, 108] h h') : Ag [97, 99, 107, 108] h h' := x.mono (fun x => by simp; omega)
theorem In_of_inR {v : Int32} {n : Nat} (hn : n < 2 ^ 31) (h : inR v 0 n) : In v n := In_of hn h.1 h.2
theorem dlF_out {N : Vc} {j : Nat} (hn : nd N < 10) (hj : (2 ≤ j ∧ j < 20) ∨ 70 ≤ j) : dlF N j = N j := by
  unfold dlF
  rw [addF_out (by rw [dr4_nd]; exact hn) (by omega)]
  unfold drF
  rw [upd_n (by omega), upd_n (by omega), upd_n (by omega), upd_n (by omega)]
theorem dlI_out {N : Vc} (hI : Iv N) {j : Nat} (hj : (2 ≤ j ∧ j < 20) ∨ 70 ≤ j) : ∀ n, nd N + n ≤ 10 → dlI N n j = N j
  | 0, _ => rfl
  | n + 1, h => by
    rw [dlI, dlF_out (by have := (dlI_ok hI n (by omega)).2; omega) hj]
    exact dlI_out hI hj n (by omega)
theorem ns_night {N : Vc} (hI : Iv N) (h2 : N 2 = nI (nN (N 2))) : ∀ n, nsF N n 2 = nI (nN (N 2) + n)
  | 0 => h2
  | n + 1 => by rw [nsF, niF_night (nsF_Iv hI n), ns_night hI h2 n, nI_add, Nat.add_assoc]
theorem poN_Iv {N : Vc} (hI : Iv N) (c : Nat → Int32) : ∀ i, i ≤ 10 → Iv (poN N c i)
  | 0, _ => hI
  | i + 1, h => by
    rw [poN]
    refine (poN_Iv hI c i (by omega)).dk (j := 2) (by omega) (by omega) ?_
    unfold tpF
    split
    · exact (hI.2.2.2.2.2.1 i (by omega)).2.2.1
    · exact clF_in (by decide)
theorem poN_nd {N : Vc} {c : Nat → Int32} {i : Nat} : nd (poN N c i) = nd N := by unfold nd; rw [poN_out i (fun d _ => by omega)]
set_option maxRecDepth 20000 in
set_option maxHeartbeats 4000000 in
theorem c_digger_bad (w : Wt) {k : Nat} (hk : 200 ≤ k) (a b c e : Int32) (N : Vc) (h : Mm) (hP : PR 11 h N)  (hb : ¬ (inR a 0 5 ∧ inR b 0 99 ∧ inR c 0 99 ∧ inR e 0 3)) : Ok w k MX7_digger [.ref 0, .int a, .int b, .int c, .int e] h (Rv BADv h) := by
  show Wp w k MX7_digger _ 0 [some (.ref 0), some (.int a), some (.int b), some (.int c), some (.int e)] [] h
  refine p_run (pc' := 1) [.iload_n 1] mkX7_digger (by decide +kernel) rfl rfl ?_
  refine p_callSv (cisKind_ok w (k := k - 1) (by omega) _ _) ksX7_64 (by decide +kernel) (by omega) rfl rfl rfl rfl rfl ?_
  refine p_if_eq (off := 31) 35 (by decide +kernel) (by decide) (fun cq4 => ?_) (fun cq4 => ?_)
  · have cq4 := bI0.mp cq4
    refine p_run (pc' := 37) [.ldc 75] mkX7_digger (by decide +kernel) rfl rfl ?_
    refine p_iret rfl rfl (by decide +kernel) ?_
    exact ⟨rfl, rfl⟩
  · have cq4 := bI1.mp cq4
    refine p_run (pc' := 11) [.iload_n 2, .iconst 0, .bipush 99] mkX7_digger (by decide +kernel) rfl rfl ?_
    refine p_callSv (cwithin_ok w (k := k - 1) _ _ _ _) ksX7_68 (by decide +kernel) (by omega) rfl rfl rfl rfl rfl ?_
    refine p_if_eq (off := 21) 35 (by decide +kernel) (by decide) (fun cq14 => ?_) (fun cq14 => ?_)
    · have cq14 := bI0.mp cq14
      refine p_run (pc' := 37) [.ldc 75] mkX7_digger (by decide +kernel) rfl rfl ?_
      refine p_iret rfl rfl (by decide +kernel) ?_
      exact ⟨rfl, rfl⟩
    · have cq14 := bI1.mp cq14
      refine p_run (pc' := 21) [.iload_n 3, .iconst 0, .bipush 99] mkX7_digger (by decide +kernel) rfl rfl ?_
      refine p_callSv (cwithin_ok w (k := k - 1) _ _ _ _) ksX7_68 (by decide +kernel) (by omega) rfl rfl rfl rfl rfl ?_
      refine p_if_eq (off := 11) 35 (by decide +kernel) (by decide) (fun cq24 => ?_) (fun cq24 => ?_)
      · have cq24 := bI0.mp cq24
        refine p_run (pc' := 37) [.ldc 75] mkX7_digger (by decide +kernel) rfl rfl ?_
        refine p_iret rfl rfl (by decide +kernel) ?_
        exact ⟨rfl, rfl⟩
      · have cq24 := bI1.mp cq24
        refine p_run (pc' := 29) [.iload 4] mkX7_digger (by decide +kernel) rfl rfl ?_
        refine p_callSv (cisBranch_ok w (k := k - 1) (by omega) _ _) ksX7_72 (by decide +kernel) (by omega) rfl rfl rfl rfl rfl ?_
        refine p_if_ne (off := 6) 38 (by decide +kernel) (by decide) (fun cq32 => ?_) (fun cq32 => ?_)
        · have cq32 := bI1.mp cq32
          exact absurd (⟨cq4, cq14, cq24, cq32⟩) hb
        · have cq32 := bI0.mp cq32
          refine p_run (pc' := 37) [.ldc 75] mkX7_digger (by decide +kernel) rfl rfl ?_
          refine p_iret rfl rfl (by decide +kernel) ?_
          exact ⟨rfl, rfl⟩
set_option maxRecDepth 20000 in
set_option maxHeartbeats 4000000 in
theorem c_digger_full (w : Wt) {k : Nat} (hk : 200 ≤ k) (a b c e : Int32) (N : Vc) (h : Mm) (hI : Iv N) (hP : PR 11 h N) (hT : TR h N) (hv : inR a 0 5 ∧ inR b 0 99 ∧ inR c 0 99 ∧ inR e 0 3) (hn : nd N = 10) : Ok w k MX7_digger [.ref 0, .int a, .int b, .int c, .int e] h (Rv FULLv h) := by
  show Wp w k MX7_digger _ 0 [some (.ref 0), some (.int a), some (.int b), some (.int c), some (.int e)] [] h
  obtain ⟨en, hn10⟩ := hI.nd
  refine p_run (pc' := 1) [.iload_n 1] mkX7_digger (by decide +kernel) rfl rfl ?_
  refine p_callSv (cisKind_ok w (k := k - 1) (by omega) _ _) ksX7_64 (by decide +kernel) (by omega) rfl rfl rfl rfl rfl ?_
  refine p_if_eq (off := 31) 35 (by decide +kernel) (by decide) (fun cq4 => ?_) (fun cq4 => ?_)
  · have cq4 := bI0.mp cq4
    exact absurd (hv.1) cq4
  · have cq4 := bI1.mp cq4
    refine p_run (pc' := 11) [.iload_n 2, .iconst 0, .bipush 99] mkX7_digger (by decide +kernel) rfl rfl ?_
    refine p_callSv (cwithin_ok w (k := k - 1) _ _ _ _) ksX7_68 (by decide +kernel) (by omega) rfl rfl rfl rfl rfl ?_
    refine p_if_eq (off := 21) 35 (by decide +kernel) (by decide) (fun cq14 => ?_) (fun cq14 => ?_)
    · have cq14 := bI0.mp cq14
      exact absurd (hv.2.1) cq14
    · have cq14 := bI1.mp cq14
      refine p_run (pc' := 21) [.iload_n 3, .iconst 0, .bipush 99] mkX7_digger (by decide +kernel) rfl rfl ?_
      refine p_callSv (cwithin_ok w (k := k - 1) _ _ _ _) ksX7_68 (by decide +kernel) (by omega) rfl rfl rfl rfl rfl ?_
      refine p_if_eq (off := 11) 35 (by decide +kernel) (by decide) (fun cq24 => ?_) (fun cq24 => ?_)
      · have cq24 := bI0.mp cq24
        exact absurd (hv.2.2.1) cq24
      · have cq24 := bI1.mp cq24
        refine p_run (pc' := 29) [.iload 4] mkX7_digger (by decide +kernel) rfl rfl ?_
        refine p_callSv (cisBranch_ok w (k := k - 1) (by omega) _ _) ksX7_72 (by decide +kernel) (by omega) rfl rfl rfl rfl rfl ?_
        refine p_if_ne (off := 6) 38 (by decide +kernel) (by decide) (fun cq32 => ?_) (fun cq32 => ?_)
        · have cq32 := bI1.mp cq32
          refine p_run (pc' := 47) [.aload_n 0, .getfield 28, .getfield 76, .bipush 10] mkX7_digger (by decide +kernel) rfl rfl ?_
          rw [hP.1.1, en]
          refine p_icmp_ge (off := 18) 65 (by decide +kernel) (by decide) (fun cqf => ?_) (fun cqf => ?_)
          · refine p_run (pc' := 67) [.ldc 83] mkX7_digger (by decide +kernel) rfl rfl ?_
            refine p_iret rfl rfl (by decide +kernel) ?_
            exact ⟨rfl, rfl⟩
          · exact absurd (show nI 10 ≤ nI (nd N) from nI_le (by omega) (by omega)) cqf
        · have cq32 := bI0.mp cq32
          exact absurd (hv.2.2.2) cq32
set_option maxRecDepth 20000 in
set_option maxHeartbeats 4000000 in
theorem c_digger (w : Wt) {k : Nat} (hk : 200 ≤ k) (a b c e : Int32) (N : Vc) (h : Mm) (hI : Iv N) (hP : PR 11 h N) (hT : TR h N) (hv : inR a 0 5 ∧ inR b 0 99 ∧ inR c 0 99 ∧ inR e 0 3) (hn : nd N < 10) : Ok w k MX7_digger [.ref 0, .int a, .int b, .int c, .int e] h (Rn1 (nI (nd N)) (addF N a b c e) h) := by
  show Wp w k MX7_digger _ 0 [some (.ref 0), some (.int a), some (.int b), some (.int c), some (.int e)] [] h
  obtain ⟨en, hn10⟩ := hI.nd
  refine p_run (pc' := 1) [.iload_n 1] mkX7_digger (by decide +kernel) rfl rfl ?_
  refine p_callSv (cisKind_ok w (k := k - 1) (by omega) _ _) ksX7_64 (by decide +kernel) (by omega) rfl rfl rfl rfl rfl ?_
  refine p_if_eq (off := 31) 35 (by decide +kernel) (by decide) (fun cq4 => ?_) (fun cq4 => ?_)
  · have cq4 := bI0.mp cq4
    exact absurd (hv.1) cq4
  · have cq4 := bI1.mp cq4
    refine p_run (pc' := 11) [.iload_n 2, .iconst 0, .bipush 99] mkX7_digger (by decide +kernel) rfl rfl ?_
    refine p_callSv (cwithin_ok w (k := k - 1) _ _ _ _) ksX7_68 (by decide +kernel) (by omega) rfl rfl rfl rfl rfl ?_
    refine p_if_eq (off := 21) 35 (by decide +kernel) (by decide) (fun cq14 => ?_) (fun cq14 => ?_)
    · have cq14 := bI0.mp cq14
      exact absurd (hv.2.1) cq14
    · have cq14 := bI1.mp cq14
      refine p_run (pc' := 21) [.iload_n 3, .iconst 0, .bipush 99] mkX7_digger (by decide +kernel) rfl rfl ?_
      refine p_callSv (cwithin_ok w (k := k - 1) _ _ _ _) ksX7_68 (by decide +kernel) (by omega) rfl rfl rfl rfl rfl ?_
      refine p_if_eq (off := 11) 35 (by decide +kernel) (by decide) (fun cq24 => ?_) (fun cq24 => ?_)
      · have cq24 := bI0.mp cq24
        exact absurd (hv.2.2.1) cq24
      · have cq24 := bI1.mp cq24
        refine p_run (pc' := 29) [.iload 4] mkX7_digger (by decide +kernel) rfl rfl ?_
        refine p_callSv (cisBranch_ok w (k := k - 1) (by omega) _ _) ksX7_72 (by decide +kernel) (by omega) rfl rfl rfl rfl rfl ?_
        refine p_if_ne (off := 6) 38 (by decide +kernel) (by decide) (fun cq32 => ?_) (fun cq32 => ?_)
        · have cq32 := bI1.mp cq32
          refine p_run (pc' := 47) [.aload_n 0, .getfield 28, .getfield 76, .bipush 10] mkX7_digger (by decide +kernel) rfl rfl ?_
          rw [hP.1.1, en]
          refine p_icmp_ge (off := 18) 65 (by decide +kernel) (by decide) (fun cqf => ?_) (fun cqf => ?_)
          · exact absurd (show nI 10 ≤ nI (nd N) from cqf) (nI_ge (by omega) (by omega))
          · refine p_run (pc' := 59) [.aload_n 0, .getfield 28, .iload_n 1, .iload_n 2, .iload_n 3, .iload 4] mkX7_digger (by decide +kernel) rfl rfl ?_
            refine p_callVi (cadd w (k := k - 1) a b c e N h hI hP hn) (fun _ _ q => q.1) kvX7_79 (by decide +kernel) (by decide) rfl (by omega) rfl rfl rfl rfl rfl (fun h' hq => ?_)
            obtain ⟨-, hR1, hF1⟩ := hq
            refine p_run (pc' := 67) [.goto 5] mkX7_digger (by decide +kernel) rfl rfl ?_
            refine p_iret rfl rfl (by decide +kernel) ?_
            exact ⟨rfl, hR1, hF1⟩
        · have cq32 := bI0.mp cq32
          exact absurd (hv.2.2.2) cq32
theorem st_digger (w : Wt) {k : Nat} (hk : 200 ≤ k) (a b c e : Int32) (h : Mm) (hR : Rel h) : St w k MX7_digger MX8_digger [.int a, .int b, .int c, .int e] h := by
  obtain ⟨⟨hP, hI, hQ, hT, hq⟩, -⟩ := id hR
  by_cases hg : inR a 0 5 ∧ inR b 0 99 ∧ inR c 0 99 ∧ inR e 0 3
  · by_cases hn : nd (h 97) = 10
    · exact St.word hR (c_digger_full w hk a b c e (h 97) h hI hP hT hg hn) (r_digger_full w (by omega) a b c e h hI hg hn)
    · have hn : nd (h 97) < 10 := by have := hI.nd.2; omega
      refine St.now hR (c_digger w hk a b c e (h 97) h hI hP hT hg hn) (fun h1 hF => ?_) (addF_Iv hI hn (In_of_inR (by omega) hg.1) (In_of_inR (by omega) hg.2.1) (In_of_inR (by omega) hg.2.2.1) (In_of_inR (by omega) hg.2.2.2)) (by rw [addF_out hn (by omega)]; exact hq) (fun j hj => addF_out hn (by omega))
      have ee := e97 hF
      exact (r_digger w (by omega) a b c e h1 (by rw [ee]; exact hI) hg (by rw [ee]; exact hn)).imp (fun r h2 z => ⟨by rw [z.1, ee], by rw [z.2.1, ee], Ag1 z.2.2⟩)
  · exact St.word hR (c_digger_bad w hk a b c e (h 97) h hP hg) (r_digger_bad w (by omega) a b c e h hg)
set_option maxRecDepth 20000 in
set_option maxHeartbeats 4000000 in
theorem c_turns_bad (w : Wt) {k : Nat} (hk : 200 ≤ k) (a b : Int32) (N : Vc) (h : Mm) (hP : PR 11 h N)  (hb : ¬ (isD N a ∧ inR b 0 5)) : Ok w k MX7_turns [.ref 0, .int a, .int b] h (Rv BADv h) := by
  show Wp w k MX7_turns _ 0 [some (.ref 0), some (.int a), some (.int b), none, none] [] h
  refine p_run (pc' := 2) [.aload_n 0, .iload_n 1] mkX7_turns (by decide +kernel) rfl rfl ?_
  refine p_callVv (cisDigger_ok w (k := k - 1) (by omega) _ N _ hP.1.1) kvX7_84 (by decide +kernel) (by decide) rfl (by omega) rfl rfl rfl rfl rfl ?_
  refine p_if_eq (off := 10) 15 (by decide +kernel) (by decide) (fun cq5 => ?_) (fun cq5 => ?_)
  · have cq5 := bI0.mp cq5
    refine p_run (pc' := 17) [.ldc 75] mkX7_turns (by decide +kernel) rfl rfl ?_
    refine p_iret rfl rfl (by decide +kernel) ?_
    exact ⟨rfl, rfl⟩
  · have cq5 := bI1.mp cq5
    refine p_run (pc' := 9) [.iload_n 2] mkX7_turns (by decide +kernel) rfl rfl ?_
    refine p_callSv (cisKind_ok w (k := k - 1) (by omega) _ _) ksX7_64 (by decide +kernel) (by omega) rfl rfl rfl rfl rfl ?_
    refine p_if_ne (off := 6) 18 (by decide +kernel) (by decide) (fun cq12 => ?_) (fun cq12 => ?_)
    · have cq12 := bI1.mp cq12
      exact absurd (⟨cq5, cq12⟩) hb
    · have cq12 := bI0.mp cq12
      refine p_run (pc' := 17) [.ldc 75] mkX7_turns (by decide +kernel) rfl rfl ?_
      refine p_iret rfl rfl (by decide +kernel) ?_
      exact ⟨rfl, rfl⟩
set_option maxRecDepth 20000 in
set_option maxHeartbeats 4000000 in
theorem c_turns (w : Wt) {k : Nat} (hk : 200 ≤ k) (d : Nat) (b : Int32) (N : Vc) (h : Mm) (hI : Iv N) (hP : PR 11 h N) (hT : TR h N) (hd : d < nd N) (hb : inR b 0 5) : Ok w k MX7_turns [.ref 0, .int (nI d), .int b] h (Rn1 (N (20 + 5 * d + 0)) (upd N (20 + 5 * d + 0) b) h) := by
  show Wp w k MX7_turns _ 0 [some (.ref 0), some (.int (nI d)), some (.int b), none, none] [] h
  have hn10 := hI.nd.2
  have hD := isD_nI hI.nd.1 hd hn10
  refine p_run (pc' := 2) [.aload_n 0, .iload_n 1] mkX7_turns (by decide +kernel) rfl rfl ?_
  refine p_callVv (cisDigger_ok w (k := k - 1) (by omega) _ N _ hP.1.1) kvX7_84 (by decide +kernel) (by decide) rfl (by omega) rfl rfl rfl rfl rfl ?_
  refine p_if_eq (off := 10) 15 (by decide +kernel) (by decide) (fun cq5 => ?_) (fun cq5 => ?_)
  · have cq5 := bI0.mp cq5
    exact absurd (hD) cq5
  · have cq5 := bI1.mp cq5
    refine p_run (pc' := 9) [.iload_n 2] mkX7_turns (by decide +kernel) rfl rfl ?_
    refine p_callSv (cisKind_ok w (k := k - 1) (by omega) _ _) ksX7_64 (by decide +kernel) (by omega) rfl rfl rfl rfl rfl ?_
    refine p_if_ne (off := 6) 18 (by decide +kernel) (by decide) (fun cq12 => ?_) (fun cq12 => ?_)
    · have cq12 := bI1.mp cq12
      refine p_run (pc' := 26) [.aload_n 0, .getfield 28, .getfield 87, .iload_n 1] mkX7_turns (by decide +kernel) rfl rfl ?_
      refine p_aald (d) (by decide +kernel) (by decide) rfl (by decide) rfl (by omega) (rfD11 d (by omega)) ?_
      refine p_run (pc' := 29) [.astore_n 3, .aload_n 3] mkX7_turns (by decide +kernel) rfl rfl ?_
      refine p_getI (by decide +kernel) fo7_91 (obD pp11 (by omega)).1 (obD pp11 (by omega)).2.1 ((obD pp11 (by omega)).2.2 _) ?_
      refine p_run (pc' := 36) [.istore 4, .aload_n 3, .iload_n 2] mkX7_turns (by decide +kernel) rfl rfl ?_
      refine p_put (by decide +kernel) fo7_91 (obD pp11 (by omega)).1 (obD pp11 (by omega)).2.1 rfl ((obD pp11 (by omega)).2.2 _) ?_
      refine p_run (pc' := 41) [.iload 4] mkX7_turns (by decide +kernel) rfl rfl ?_
      refine p_iret rfl rfl (by decide +kernel) ?_
      exact ⟨by rw [hP.2.2.1 d hd 0 (by omega)]; rfl, hP.upD hd (by omega) hn10, Fp.u1 (by omega)⟩
    · have cq12 := bI0.mp cq12
      exact absurd (hb) cq12
theorem st_turns (w : Wt) {k : Nat} (hk : 200 ≤ k) (a b : Int32) (h : Mm) (hR : Rel h) : St w k MX7_turns MX8_turns [.int a, .int b] h := by
  obtain ⟨⟨hP, hI, hQ, hT, hq⟩, -⟩ := id hR
  by_cases hg : isD (h 97) a ∧ inR b 0 5
  · obtain ⟨d, hd, rfl⟩ := isD_of hI.nd.1 hI.nd.2 hg.1
    refine St.now hR (c_turns w hk d b (h 97) h hI hP hT hd hg.2) (fun h1 hF => ?_) (hI.dk (by have := hI.nd.2; omega) (by omega) (In_of_inR (by decide) hg.2)) (In_upd hq (by omega)) (fun j hj => upd_n (by have := hI.nd.2; omega))
    have ee := e97 hF
    exact (r_turns w (by omega) d b h1 (by rw [ee]; exact hI) (by rw [ee]; exact hd) hg.2).imp (fun r h2 z => by have q := up_now z; rw [ee] at q; exact q)
  · exact St.word hR (c_turns_bad w hk a b (h 97) h hP hg) (r_turns_bad w (by omega) a b h hg)
set_option maxRecDepth 20000 in
set_option maxHeartbeats 4000000 in
theorem c_sends_bad (w : Wt) {k : Nat} (hk : 200 ≤ k) (a b : Int32) (N : Vc) (h : Mm) (hP : PR 11 h N)  (hb : ¬ (isD N a ∧ inR b 0 3)) : Ok w k MX7_sends [.ref 0, .int a, .int b] h (Rv BADv h) := by
  show Wp w k MX7_sends _ 0 [some (.ref 0), some (.int a), some (.int b), none, none] [] h
  refine p_run (pc' := 2) [.aload_n 0, .iload_n 1] mkX7_sends (by decide +kernel) rfl rfl ?_
  refine p_callVv (cisDigger_ok w (k := k - 1) (by omega) _ N _ hP.1.1) kvX7_84 (by decide +kernel) (by decide) rfl (by omega) rfl rfl rfl rfl rfl ?_
  refine p_if_eq (off := 10) 15 (by decide +kernel) (by decide) (fun cq5 => ?_) (fun cq5 => ?_)
  · have cq5 := bI0.mp cq5
    refine p_run (pc' := 17) [.ldc 75] mkX7_sends (by decide +kernel) rfl rfl ?_
    refine p_iret rfl rfl (by decide +kernel) ?_
    exact ⟨rfl, rfl⟩
  · have cq5 := bI1.mp cq5
    refine p_run (pc' := 9) [.iload_n 2] mkX7_sends (by decide +kernel) rfl rfl ?_
    refine p_callSv (cisBranch_ok w (k := k - 1) (by omega) _ _) ksX7_72 (by decide +kernel) (by omega) rfl rfl rfl rfl rfl ?_
    refine p_if_ne (off := 6) 18 (by decide +kernel) (by decide) (fun cq12 => ?_) (fun cq12 => ?_)
    · have cq12 := bI1.mp cq12
      exact absurd (⟨cq5, cq12⟩) hb
    · have cq12 := bI0.mp cq12
      refine p_run (pc' := 17) [.ldc 75] mkX7_sends (by decide +kernel) rfl rfl ?_
      refine p_iret rfl rfl (by decide +kernel) ?_
      exact ⟨rfl, rfl⟩
set_option maxRecDepth 20000 in
set_option maxHeartbeats 4000000 in
theorem c_sends (w : Wt) {k : Nat} (hk : 200 ≤ k) (d : Nat) (b : Int32) (N : Vc) (h : Mm) (hI : Iv N) (hP : PR 11 h N) (hT : TR h N) (hd : d < nd N) (hb : inR b 0 3) : Ok w k MX7_sends [.ref 0, .int (nI d), .int b] h (Rn1 (N (20 + 5 * d + 3)) (upd N (20 + 5 * d + 3) b) h) := by
  show Wp w k MX7_sends _ 0 [some (.ref 0), some (.int (nI d)), some (.int b), none, none] [] h
  have hn10 := hI.nd.2
  have hD := isD_nI hI.nd.1 hd hn10
  refine p_run (pc' := 2) [.aload_n 0, .iload_n 1] mkX7_sends (by decide +kernel) rfl rfl ?_
  refine p_callVv (cisDigger_ok w (k := k - 1) (by omega) _ N _ hP.1.1) kvX7_84 (by decide +kernel) (by decide) rfl (by omega) rfl rfl rfl rfl rfl ?_
  refine p_if_eq (off := 10) 15 (by decide +kernel) (by decide) (fun cq5 => ?_) (fun cq5 => ?_)
  · have cq5 := bI0.mp cq5
    exact absurd (hD) cq5
  · have cq5 := bI1.mp cq5
    refine p_run (pc' := 9) [.iload_n 2] mkX7_sends (by decide +kernel) rfl rfl ?_
    refine p_callSv (cisBranch_ok w (k := k - 1) (by omega) _ _) ksX7_72 (by decide +kernel) (by omega) rfl rfl rfl rfl rfl ?_
    refine p_if_ne (off := 6) 18 (by decide +kernel) (by decide) (fun cq12 => ?_) (fun cq12 => ?_)
    · have cq12 := bI1.mp cq12
      refine p_run (pc' := 26) [.aload_n 0, .getfield 28, .getfield 87, .iload_n 1] mkX7_sends (by decide +kernel) rfl rfl ?_
      refine p_aald (d) (by decide +kernel) (by decide) rfl (by decide) rfl (by omega) (rfD11 d (by omega)) ?_
      refine p_run (pc' := 29) [.astore_n 3, .aload_n 3] mkX7_sends (by decide +kernel) rfl rfl ?_
      refine p_getI (by decide +kernel) fo7_102 (obD pp11 (by omega)).1 (obD pp11 (by omega)).2.1 ((obD pp11 (by omega)).2.2 _) ?_
      refine p_run (pc' := 36) [.istore 4, .aload_n 3, .iload_n 2] mkX7_sends (by decide +kernel) rfl rfl ?_
      refine p_put (by decide +kernel) fo7_102 (obD pp11 (by omega)).1 (obD pp11 (by omega)).2.1 rfl ((obD pp11 (by omega)).2.2 _) ?_
      refine p_run (pc' := 41) [.iload 4] mkX7_sends (by decide +kernel) rfl rfl ?_
      refine p_iret rfl rfl (by decide +kernel) ?_
      exact ⟨by rw [hP.2.2.1 d hd 3 (by omega)]; rfl, hP.upD hd (by omega) hn10, Fp.u1 (by omega)⟩
    · have cq12 := bI0.mp cq12
      exact absurd (hb) cq12
theorem st_sends (w : Wt) {k : Nat} (hk : 200 ≤ k) (a b : Int32) (h : Mm) (hR : Rel h) : St w k MX7_sends MX8_sends [.int a, .int b] h := by
  obtain ⟨⟨hP, hI, hQ, hT, hq⟩, -⟩ := id hR
  by_cases hg : isD (h 97) a ∧ inR b 0 3
  · obtain ⟨d, hd, rfl⟩ := isD_of hI.nd.1 hI.nd.2 hg.1
    refine St.now hR (c_sends w hk d b (h 97) h hI hP hT hd hg.2) (fun h1 hF => ?_) (hI.dk (by have := hI.nd.2; omega) (by omega) (In_of_inR (by decide) hg.2)) (In_upd hq (by omega)) (fun j hj => upd_n (by have := hI.nd.2; omega))
    have ee := e97 hF
    exact (r_sends w (by omega) d b h1 (by rw [ee]; exact hI) (by rw [ee]; exact hd) hg.2).imp (fun r h2 z => by have q := up_now z; rw [ee] at q; exact q)
  · exact St.word hR (c_sends_bad w hk a b (h 97) h hP hg) (r_sends_bad w (by omega) a b h hg)
set_option maxRecDepth 20000 in
set_option maxHeartbeats 4000000 in
theorem c_set_bad (w : Wt) {k : Nat} (hk : 200 ≤ k) (a b c : Int32) (N : Vc) (h : Mm) (hP : PR 11 h N)  (hb : ¬ (isD N a ∧ inR b 1 2 ∧ inR c 0 99)) : Ok w k MX7_set [.ref 0, .int a, .int b, .int c] h (Rv BADv h) := by
  show Wp w k MX7_set _ 0 [some (.ref 0), some (.int a), some (.int b), some (.int c), none, none] [] h
  refine p_run (pc' := 2) [.aload_n 0, .iload_n 1] mkX7_set (by decide +kernel) rfl rfl ?_
  refine p_callVv (cisDigger_ok w (k := k - 1) (by omega) _ N _ hP.1.1) kvX7_84 (by decide +kernel) (by decide) rfl (by omega) rfl rfl rfl rfl rfl ?_
  refine p_if_eq (off := 22) 27 (by decide +kernel) (by decide) (fun cq5 => ?_) (fun cq5 => ?_)
  · have cq5 := bI0.mp cq5
    refine p_run (pc' := 29) [.ldc 75] mkX7_set (by decide +kernel) rfl rfl ?_
    refine p_iret rfl rfl (by decide +kernel) ?_
    exact ⟨rfl, rfl⟩
  · have cq5 := bI1.mp cq5
    refine p_run (pc' := 11) [.iload_n 2, .iconst 1, .iconst 2] mkX7_set (by decide +kernel) rfl rfl ?_
    refine p_callSv (cwithin_ok w (k := k - 1) _ _ _ _) ksX7_68 (by decide +kernel) (by omega) rfl rfl rfl rfl rfl ?_
    refine p_if_eq (off := 13) 27 (by decide +kernel) (by decide) (fun cq14 => ?_) (fun cq14 => ?_)
    · have cq14 := bI0.mp cq14
      refine p_run (pc' := 29) [.ldc 75] mkX7_set (by decide +kernel) rfl rfl ?_
      refine p_iret rfl rfl (by decide +kernel) ?_
      exact ⟨rfl, rfl⟩
    · have cq14 := bI1.mp cq14
      refine p_run (pc' := 21) [.iload_n 3, .iconst 0, .bipush 99] mkX7_set (by decide +kernel) rfl rfl ?_
      refine p_callSv (cwithin_ok w (k := k - 1) _ _ _ _) ksX7_68 (by decide +kernel) (by omega) rfl rfl rfl rfl rfl ?_
      refine p_if_ne (off := 6) 30 (by decide +kernel) (by decide) (fun cq24 => ?_) (fun cq24 => ?_)
      · have cq24 := bI1.mp cq24
        exact absurd (⟨cq5, cq14, cq24⟩) hb
      · have cq24 := bI0.mp cq24
        refine p_run (pc' := 29) [.ldc 75] mkX7_set (by decide +kernel) rfl rfl ?_
        refine p_iret rfl rfl (by decide +kernel) ?_
        exact ⟨rfl, rfl⟩
set_option maxRecDepth 20000 in
set_option maxHeartbeats 4000000 in
theorem c_set1 (w : Wt) {k : Nat} (hk : 200 ≤ k) (d : Nat) (c : Int32) (N : Vc) (h : Mm) (hI : Iv N) (hP : PR 11 h N) (hT : TR h N) (hd : d < nd N) (hc : inR c 0 99) : Ok w k MX7_set [.ref 0, .int (nI d), .int (nI 1), .int c] h (Rn1 (N (20 + 5 * d + 1)) (upd N (20 + 5 * d + 1) c) h) := by
  show Wp w k MX7_set _ 0 [some (.ref 0), some (.int (nI d)), some (.int (nI 1)), some (.int c), none, none] [] h
  have hn10 := hI.nd.2
  have hD := isD_nI hI.nd.1 hd hn10
  refine p_run (pc' := 2) [.aload_n 0, .iload_n 1] mkX7_set (by decide +kernel) rfl rfl ?_
  refine p_callVv (cisDigger_ok w (k := k - 1) (by omega) _ N _ hP.1.1) kvX7_84 (by decide +kernel) (by decide) rfl (by omega) rfl rfl rfl rfl rfl ?_
  refine p_if_eq (off := 22) 27 (by decide +kernel) (by decide) (fun cq5 => ?_) (fun cq5 => ?_)
  · have cq5 := bI0.mp cq5
    exact absurd (hD) cq5
  · have cq5 := bI1.mp cq5
    refine p_run (pc' := 11) [.iload_n 2, .iconst 1, .iconst 2] mkX7_set (by decide +kernel) rfl rfl ?_
    refine p_callSv (cwithin_ok w (k := k - 1) _ _ _ _) ksX7_68 (by decide +kernel) (by omega) rfl rfl rfl rfl rfl ?_
    refine p_if_eq (off := 13) 27 (by decide +kernel) (by decide) (fun cq14 => ?_) (fun cq14 => ?_)
    · have cq14 := bI0.mp cq14
      exact absurd (show inR (nI 1) 1 2 from ⟨by decide, by decide⟩) cq14
    · have cq14 := bI1.mp cq14
      refine p_run (pc' := 21) [.iload_n 3, .iconst 0, .bipush 99] mkX7_set (by decide +kernel) rfl rfl ?_
      refine p_callSv (cwithin_ok w (k := k - 1) _ _ _ _) ksX7_68 (by decide +kernel) (by omega) rfl rfl rfl rfl rfl ?_
      refine p_if_ne (off := 6) 30 (by decide +kernel) (by decide) (fun cq24 => ?_) (fun cq24 => ?_)
      · have cq24 := bI1.mp cq24
        refine p_run (pc' := 38) [.aload_n 0, .getfield 28, .getfield 87, .iload_n 1] mkX7_set (by decide +kernel) rfl rfl ?_
        refine p_aald (d) (by decide +kernel) (by decide) rfl (by decide) rfl (by omega) (rfD11 d (by omega)) ?_
        refine p_run (pc' := 43) [.astore 4, .iload_n 2, .iconst 1] mkX7_set (by decide +kernel) rfl rfl ?_
        refine p_icmp_ne (off := 19) 62 (by decide +kernel) (by decide) (fun cq43 => ?_) (fun cq43 => ?_)
        · exact False.elim (by revert cq43; decide)
        · refine p_run (pc' := 48) [.aload 4] mkX7_set (by decide +kernel) rfl rfl ?_
          refine p_getI (by decide +kernel) fo7_96 (obD pp11 (by omega)).1 (obD pp11 (by omega)).2.1 ((obD pp11 (by omega)).2.2 _) ?_
          refine p_run (pc' := 56) [.istore 5, .aload 4, .iload_n 3] mkX7_set (by decide +kernel) rfl rfl ?_
          refine p_put (by decide +kernel) fo7_96 (obD pp11 (by omega)).1 (obD pp11 (by omega)).2.1 rfl ((obD pp11 (by omega)).2.2 _) ?_
          refine p_run (pc' := 77) [.goto 16, .iload 5] mkX7_set (by decide +kernel) rfl rfl ?_
          refine p_iret rfl rfl (by decide +kernel) ?_
          exact ⟨by rw [hP.2.2.1 d hd 1 (by omega)]; rfl, hP.upD hd (by omega) hn10, Fp.u1 (by omega)⟩
      · have cq24 := bI0.mp cq24
        exact absurd (hc) cq24
set_option maxRecDepth 20000 in
set_option maxHeartbeats 4000000 in
theorem c_set2 (w : Wt) {k : Nat} (hk : 200 ≤ k) (d : Nat) (c : Int32) (N : Vc) (h : Mm) (hI : Iv N) (hP : PR 11 h N) (hT : TR h N) (hd : d < nd N) (hc : inR c 0 99) : Ok w k MX7_set [.ref 0, .int (nI d), .int (nI 2), .int c] h (Rn1 (N (20 + 5 * d + 2)) (upd N (20 + 5 * d + 2) c) h) := by
  show Wp w k MX7_set _ 0 [some (.ref 0), some (.int (nI d)), some (.int (nI 2)), some (.int c), none, none] [] h
  have hn10 := hI.nd.2
  have hD := isD_nI hI.nd.1 hd hn10
  refine p_run (pc' := 2) [.aload_n 0, .iload_n 1] mkX7_set (by decide +kernel) rfl rfl ?_
  refine p_callVv (cisDigger_ok w (k := k - 1) (by omega) _ N _ hP.1.1) kvX7_84 (by decide +kernel) (by decide) rfl (by omega) rfl rfl rfl rfl rfl ?_
  refine p_if_eq (off := 22) 27 (by decide +kernel) (by decide) (fun cq5 => ?_) (fun cq5 => ?_)
  · have cq5 := bI0.mp cq5
    exact absurd (hD) cq5
  · have cq5 := bI1.mp cq5
    refine p_run (pc' := 11) [.iload_n 2, .iconst 1, .iconst 2] mkX7_set (by decide +kernel) rfl rfl ?_
    refine p_callSv (cwithin_ok w (k := k - 1) _ _ _ _) ksX7_68 (by decide +kernel) (by omega) rfl rfl rfl rfl rfl ?_
    refine p_if_eq (off := 13) 27 (by decide +kernel) (by decide) (fun cq14 => ?_) (fun cq14 => ?_)
    · have cq14 := bI0.mp cq14
      exact absurd (show inR (nI 2) 1 2 from ⟨by decide, by decide⟩) cq14
    · have cq14 := bI1.mp cq14
      refine p_run (pc' := 21) [.iload_n 3, .iconst 0, .bipush 99] mkX7_set (by decide +kernel) rfl rfl ?_
      refine p_callSv (cwithin_ok w (k := k - 1) _ _ _ _) ksX7_68 (by decide +kernel) (by omega) rfl rfl rfl rfl rfl ?_
      refine p_if_ne (off := 6) 30 (by decide +kernel) (by decide) (fun cq24 => ?_) (fun cq24 => ?_)
      · have cq24 := bI1.mp cq24
        refine p_run (pc' := 38) [.aload_n 0, .getfield 28, .getfield 87, .iload_n 1] mkX7_set (by decide +kernel) rfl rfl ?_
        refine p_aald (d) (by decide +kernel) (by decide) rfl (by decide) rfl (by omega) (rfD11 d (by omega)) ?_
        refine p_run (pc' := 43) [.astore 4, .iload_n 2, .iconst 1] mkX7_set (by decide +kernel) rfl rfl ?_
        refine p_icmp_ne (off := 19) 62 (by decide +kernel) (by decide) (fun cq43 => ?_) (fun cq43 => ?_)
        · refine p_run (pc' := 64) [.aload 4] mkX7_set (by decide +kernel) rfl rfl ?_
          refine p_getI (by decide +kernel) fo7_99 (obD pp11 (by omega)).1 (obD pp11 (by omega)).2.1 ((obD pp11 (by omega)).2.2 _) ?_
          refine p_run (pc' := 72) [.istore 5, .aload 4, .iload_n 3] mkX7_set (by decide +kernel) rfl rfl ?_
          refine p_put (by decide +kernel) fo7_99 (obD pp11 (by omega)).1 (obD pp11 (by omega)).2.1 rfl ((obD pp11 (by omega)).2.2 _) ?_
          refine p_run (pc' := 77) [.iload 5] mkX7_set (by decide +kernel) rfl rfl ?_
          refine p_iret rfl rfl (by decide +kernel) ?_
          exact ⟨by rw [hP.2.2.1 d hd 2 (by omega)]; rfl, hP.upD hd (by omega) hn10, Fp.u1 (by omega)⟩
        · exact False.elim (by revert cq43; decide)
      · have cq24 := bI0.mp cq24
        exact absurd (hc) cq24
theorem st_set (w : Wt) {k : Nat} (hk : 200 ≤ k) (a b c : Int32) (h : Mm) (hR : Rel h) : St w k MX7_set MX8_set [.int a, .int b, .int c] h := by
  obtain ⟨⟨hP, hI, hQ, hT, hq⟩, -⟩ := id hR
  by_cases hg : isD (h 97) a ∧ inR b 1 2 ∧ inR c 0 99
  · obtain ⟨d, hd, rfl⟩ := isD_of hI.nd.1 hI.nd.2 hg.1
    obtain ⟨j, hj0, hj, rfl⟩ := inR_of (by omega) (by omega) hg.2.1
    have hc : Ok w k MX7_set [.ref 0, .int (nI d), .int (nI j), .int c] h (Rn1 (h 97 (20 + 5 * d + j)) (upd (h 97) (20 + 5 * d + j) c) h) := by
      rcases (show j = 1 ∨ j = 2 by omega) with rfl | rfl
      · exact c_set1 w hk d c (h 97) h hI hP hT hd hg.2.2
      · exact c_set2 w hk d c (h 97) h hI hP hT hd hg.2.2
    refine St.now hR hc (fun h1 hF => ?_) (hI.dk (by have := hI.nd.2; omega) (by omega) (by rcases (show j = 1 ∨ j = 2 by omega) with rfl | rfl <;> exact In_of_inR (by decide) hg.2.2)) (In_upd hq (by omega)) (fun i hi => upd_n (by have := hI.nd.2; omega))
    have ee := e97 hF
    exact (r_set w (by omega) d j c h1 (by rw [ee]; exact hI) (by rw [ee]; exact hd) ⟨hj0, hj⟩ hg.2.2).imp (fun r h2 z => by have q := up_now z; rw [ee] at q; exact q)
  · exact St.word hR (c_set_bad w hk a b c (h 97) h hP hg) (r_set_bad w (by omega) a b c h hg)
set_option maxRecDepth 20000 in
set_option maxHeartbeats 4000000 in
theorem c_branch_bad (w : Wt) {k : Nat} (hk : 200 ≤ k) (x a v : Int32) (N : Vc) (h : Mm) (hP : PR 11 h N) (hb : ¬ inR x 0 3) : Ok w k MX7_branch [.ref 0, .int x, .int a, .int v] h (Rv BADv h) := by
  show Wp w k MX7_branch _ 0 [some (.ref 0), some (.int x), some (.int a), some (.int v), none, none] [] h
  refine p_run (pc' := 1) [.iload_n 1] mkX7_branch (by decide +kernel) rfl rfl ?_
  refine p_callSv (cisBranch_ok w (k := k - 1) (by omega) _ _) ksX7_72 (by decide +kernel) (by omega) rfl rfl rfl rfl rfl ?_
  refine p_if_ne (off := 6) 10 (by decide +kernel) (by decide) (fun cq4 => ?_) (fun cq4 => ?_)
  · have cq4 := bI1.mp cq4
    exact absurd cq4 hb
  · have cq4 := bI0.mp cq4
    refine p_run (pc' := 9) [.ldc 75] mkX7_branch (by decide +kernel) rfl rfl ?_
    refine p_iret rfl rfl (by decide +kernel) ?_
    exact ⟨rfl, rfl⟩
set_option maxRecDepth 20000 in
set_option maxHeartbeats 4000000 in
theorem c_branch (w : Wt) {k : Nat} (hk : 200 ≤ k) (b : Nat) (a v : Int32) (N : Vc) (h : Mm) (hI : Iv N) (hP : PR 11 h N) (hT : TR h N) (hb : b < 4) : Ok w k MX7_branch [.ref 0, .int (nI b), .int a, .int v] h (@ite _ (mbP N b a v) (Classical.propDecidable _) (Rn1 (N (8 + 3 * b + nN a)) (upd N (8 + 3 * b + nN a) v) h) (Rv BADv h)) := by
  show Wp w k MX7_branch _ 0 [some (.ref 0), some (.int (nI b)), some (.int a), some (.int v), none, none] [] h
  have hn10 := hI.nd.2
  refine p_run (pc' := 1) [.iload_n 1] mkX7_branch (by decide +kernel) rfl rfl ?_
  refine p_callSv (cisBranch_ok w (k := k - 1) (by omega) _ _) ksX7_72 (by decide +kernel) (by omega) rfl rfl rfl rfl rfl ?_
  refine p_if_ne (off := 6) 10 (by decide +kernel) (by decide) (fun cq4 => ?_) (fun cq4 => ?_)
  · have cq4 := bI1.mp cq4
    refine p_run (pc' := 18) [.aload_n 0, .getfield 28, .getfield 123, .iload_n 1] mkX7_branch (by decide +kernel) rfl rfl ?_
    refine p_aald (b) (by decide +kernel) (by decide) rfl (by decide) rfl (by omega) (rfB11 b (by omega)) ?_
    refine p_run (pc' := 22) [.astore 4, .iload_n 2] mkX7_branch (by decide +kernel) rfl rfl ?_
    refine p_table (dflt := 121) (lo := 0) (hi := 2) (offs := #[26, 60, 89]) (len := 26) (by decide +kernel) (by decide) (fun j hj hx => ?_) (fun hx => ?_)
    · match j, hj, hx with
      | 0, _, hx =>
        have hx : a = Int32.ofInt (0) := hx
        refine ⟨26, 48, rfl, rfl, ?_⟩
        subst hx
        refine p_run (pc' := 51) [.iload_n 3, .aload 4] mkX7_branch (by decide +kernel) rfl rfl ?_
        refine p_getI (by decide +kernel) fo7_127 (obB pp11 (by omega)).1 (obB pp11 (by omega)).2.1 ((obB pp11 (by omega)).2.2 _) ?_
        rw [hP.2.1 b hb 2 (by omega)]
        refine p_run (pc' := 57) [.sipush 999] mkX7_branch (by decide +kernel) rfl rfl ?_
        refine p_callSv (cwithin_ok w (k := k - 1) _ _ _ _) ksX7_68 (by decide +kernel) (by omega) rfl rfl rfl rfl rfl ?_
        refine p_if_ne (off := 6) 66 (by decide +kernel) (by decide) (fun cq60 => ?_) (fun cq60 => ?_)
        · have cq60 := bI1.mp cq60
          refine p_run (pc' := 68) [.aload 4] mkX7_branch (by decide +kernel) rfl rfl ?_
          refine p_getI (by decide +kernel) fo7_132 (obB pp11 (by omega)).1 (obB pp11 (by omega)).2.1 ((obB pp11 (by omega)).2.2 _) ?_
          rw [hP.2.1 b hb 0 (by omega)]
          refine p_run (pc' := 76) [.istore 5, .aload 4, .iload_n 3] mkX7_branch (by decide +kernel) rfl rfl ?_
          refine p_put (by decide +kernel) fo7_132 (obB pp11 (by omega)).1 (obB pp11 (by omega)).2.1 rfl ((obB pp11 (by omega)).2.2 _) ?_
          refine p_run (pc' := 81) [.iload 5] mkX7_branch (by decide +kernel) rfl rfl ?_
          refine p_iret rfl rfl (by decide +kernel) ?_
          exact @iT _ (Classical.propDecidable _) _ _ _ _ (mbP0.mpr cq60) ⟨rfl, hP.upB hb (by omega) hn10, Fp.u1 (by omega)⟩
        · have cq60 := bI0.mp cq60
          refine p_run (pc' := 65) [.ldc 75] mkX7_branch (by decide +kernel) rfl rfl ?_
          refine p_iret rfl rfl (by decide +kernel) ?_
          exact @iF _ (Classical.propDecidable _) _ _ _ _ (fun q => cq60 (mbP0.mp q)) ⟨rfl, rfl⟩
      | 1, _, hx =>
        have hx : a = Int32.ofInt (1) := hx
        refine ⟨60, 82, rfl, rfl, ?_⟩
        subst hx
        refine p_run (pc' := 86) [.iload_n 3, .iconst 0, .bipush 99] mkX7_branch (by decide +kernel) rfl rfl ?_
        refine p_callSv (cwithin_ok w (k := k - 1) _ _ _ _) ksX7_68 (by decide +kernel) (by omega) rfl rfl rfl rfl rfl ?_
        refine p_if_ne (off := 6) 95 (by decide +kernel) (by decide) (fun cq89 => ?_) (fun cq89 => ?_)
        · have cq89 := bI1.mp cq89
          refine p_run (pc' := 97) [.aload 4] mkX7_branch (by decide +kernel) rfl rfl ?_
          refine p_getI (by decide +kernel) fo7_135 (obB pp11 (by omega)).1 (obB pp11 (by omega)).2.1 ((obB pp11 (by omega)).2.2 _) ?_
          rw [hP.2.1 b hb 1 (by omega)]
          refine p_run (pc' := 105) [.istore 5, .aload 4, .iload_n 3] mkX7_branch (by decide +kernel) rfl rfl ?_
          refine p_put (by decide +kernel) fo7_135 (obB pp11 (by omega)).1 (obB pp11 (by omega)).2.1 rfl ((obB pp11 (by omega)).2.2 _) ?_
          refine p_run (pc' := 110) [.iload 5] mkX7_branch (by decide +kernel) rfl rfl ?_
          refine p_iret rfl rfl (by decide +kernel) ?_
          exact @iT _ (Classical.propDecidable _) _ _ _ _ (mbP1.mpr cq89) ⟨rfl, hP.upB hb (by omega) hn10, Fp.u1 (by omega)⟩
        · have cq89 := bI0.mp cq89
          refine p_run (pc' := 94) [.ldc 75] mkX7_branch (by decide +kernel) rfl rfl ?_
          refine p_iret rfl rfl (by decide +kernel) ?_
          exact @iF _ (Classical.propDecidable _) _ _ _ _ (fun q => cq89 (mbP1.mp q)) ⟨rfl, rfl⟩
      | 2, _, hx =>
        have hx : a = Int32.ofInt (2) := hx
        refine ⟨89, 111, rfl, rfl, ?_⟩
        subst hx
        refine p_run (pc' := 115) [.iload_n 3, .iconst 0, .aload 4] mkX7_branch (by decide +kernel) rfl rfl ?_
        refine p_getI (by decide +kernel) fo7_132 (obB pp11 (by omega)).1 (obB pp11 (by omega)).2.1 ((obB pp11 (by omega)).2.2 _) ?_
        rw [hP.2.1 b hb 0 (by omega)]
        refine p_callSv (cwithin_ok w (k := k - 1) _ _ _ _) ksX7_68 (by decide +kernel) (by omega) rfl rfl rfl rfl rfl ?_
        refine p_if_ne (off := 6) 127 (by decide +kernel) (by decide) (fun cq121 => ?_) (fun cq121 => ?_)
        · have cq121 := bI1.mp cq121
          refine p_run (pc' := 129) [.aload 4] mkX7_branch (by decide +kernel) rfl rfl ?_
          refine p_getI (by decide +kernel) fo7_127 (obB pp11 (by omega)).1 (obB pp11 (by omega)).2.1 ((obB pp11 (by omega)).2.2 _) ?_
          rw [hP.2.1 b hb 2 (by omega)]
          refine p_run (pc' := 137) [.istore 5, .aload 4, .iload_n 3] mkX7_branch (by decide +kernel) rfl rfl ?_
          refine p_put (by decide +kernel) fo7_127 (obB pp11 (by omega)).1 (obB pp11 (by omega)).2.1 rfl ((obB pp11 (by omega)).2.2 _) ?_
          refine p_run (pc' := 142) [.iload 5] mkX7_branch (by decide +kernel) rfl rfl ?_
          refine p_iret rfl rfl (by decide +kernel) ?_
          exact @iT _ (Classical.propDecidable _) _ _ _ _ (mbP2.mpr cq121) ⟨rfl, hP.upB hb (by omega) hn10, Fp.u1 (by omega)⟩
        · have cq121 := bI0.mp cq121
          refine p_run (pc' := 126) [.ldc 75] mkX7_branch (by decide +kernel) rfl rfl ?_
          refine p_iret rfl rfl (by decide +kernel) ?_
          exact @iF _ (Classical.propDecidable _) _ _ _ _ (fun q => cq121 (mbP2.mp q)) ⟨rfl, rfl⟩
      | j + 3, hj, _ => exact absurd hj (by simp)
    · refine ⟨143, rfl, ?_⟩
      refine p_run (pc' := 145) [.ldc 75] mkX7_branch (by decide +kernel) rfl rfl ?_
      refine p_iret rfl rfl (by decide +kernel) ?_
      exact @iF _ (Classical.propDecidable _) _ _ _ _ (fun q => by rcases q with ⟨e, -⟩ | ⟨e, -⟩ | ⟨e, -⟩ <;> rw [e, nI_toInt (by omega)] at hx <;> omega) ⟨rfl, rfl⟩
  · have cq4 := bI0.mp cq4
    exact absurd (in_nI (j := b) (lo := 0) (hi := 3) (by omega) (by omega) (by omega)) cq4
theorem mb_Iv {N : Vc} (hI : Iv N) {b j : Nat} (hb : b < 4) {v : Int32} (hm : mbP N b (nI j) v) (hj : j ≤ 2) : Iv (upd N (8 + 3 * b + j) v) := by
  refine hI.of (upd_n (by omega)) (upd_n (by omega)) (upd_n (by omega)) (upd_n (by omega)) (fun i hi => upd_n (by omega)) (fun c hc => ?_) (fun d hd => ?_)
  · obtain ⟨a1, a2, a3⟩ := hI.2.2.2.2.1 c hc
    by_cases e : c = b
    · subst e
      rcases (show j = 0 ∨ j = 1 ∨ j = 2 by omega) with rfl | rfl | rfl
      · have q := mbP0.mp hm
        have e0 : bK (upd N (8 + 3 * c + 0) v) c 0 = v := upd_s
        have e1 : bK (upd N (8 + 3 * c + 0) v) c 1 = bK N c 1 := upd_n (by omega)
        have e2 : bK (upd N (8 + 3 * c + 0) v) c 2 = bK N c 2 := upd_n (by omega)
        rw [e0, e1, e2]
        have hz : In v 999 := In_of (by omega) (Int32.le_trans (In_le (by have := a1.2; omega) a3).1 q.1) q.2
        refine ⟨hz, a2, a3.1, ?_⟩
        have q1 := q.1
        rw [a3.1, hz.1, nI_leI (by have := a3.2; have := a1.2; omega) (by have := hz.2; omega)] at q1
        exact q1
      · have q := mbP1.mp hm
        have e0 : bK (upd N (8 + 3 * c + 1) v) c 0 = bK N c 0 := upd_n (by omega)
        have e1 : bK (upd N (8 + 3 * c + 1) v) c 1 = v := upd_s
        have e2 : bK (upd N (8 + 3 * c + 1) v) c 2 = bK N c 2 := upd_n (by omega)
        rw [e0, e1, e2]
        exact ⟨a1, In_of_inR (by omega) q, a3⟩
      · have q := mbP2.mp hm
        have e0 : bK (upd N (8 + 3 * c + 2) v) c 0 = bK N c 0 := upd_n (by omega)
        have e1 : bK (upd N (8 + 3 * c + 2) v) c 1 = bK N c 1 := upd_n (by omega)
        have e2 : bK (upd N (8 + 3 * c + 2) v) c 2 = v := upd_s
        rw [e0, e1, e2]
        have q2 := q.2
        rw [a1.1] at q2
        exact ⟨a1, a2, In_of (by have := a1.2; omega) q.1 q2⟩
    · have e0 : ∀ i, i < 3 → bK (upd N (8 + 3 * b + j) v) c i = bK N c i := fun i hi => upd_n (by omega)
      rw [e0 0 (by omega), e0 1 (by omega), e0 2 (by omega)]
      exact ⟨a1, a2, a3⟩
  · have e0 : ∀ i, i < 5 → dK (upd N (8 + 3 * b + j) v) d i = dK N d i := fun i hi => upd_n (by omega)
    rw [e0 0 (by omega), e0 1 (by omega), e0 2 (by omega), e0 3 (by omega), e0 4 (by omega)]
    exact hI.2.2.2.2.2.1 d hd
theorem st_branch (w : Wt) {k : Nat} (hk : 200 ≤ k) (x a v : Int32) (h : Mm) (hR : Rel h) : St w k MX7_branch MX8_branch [.int x, .int a, .int v] h := by
  obtain ⟨⟨hP, hI, hQ, hT, hq⟩, -⟩ := id hR
  by_cases hx : inR x 0 3
  · obtain ⟨b, -, hb, rfl⟩ := inR_of (by omega) (by omega) hx
    have hc := c_branch w hk b a v (h 97) h hI hP hT (by omega)
    by_cases hm : mbP (h 97) b a v
    · rw [if_pos hm] at hc
      obtain ⟨j, hj, rfl⟩ : ∃ j, j ≤ 2 ∧ a = nI j := by rcases hm with ⟨e, -⟩ | ⟨e, -⟩ | ⟨e, -⟩ <;> exact ⟨_, by omega, e⟩
      rw [nN_nI (by omega)] at hc
      refine St.now hR hc (fun h1 hF => ?_) (mb_Iv hI (by omega) hm hj) (In_upd hq (by omega)) (fun i hi => upd_n (by omega))
      have ee := e97 hF
      exact (r_branch w (by omega) b j (by omega) hj v h1 (by rw [ee]; exact hm)).imp (fun r h2 z => by have q := up_now z; rw [ee] at q; exact q)
    · rw [if_neg hm] at hc
      exact St.word hR hc (r_branch_bad w (by omega) (nI b) a v h (fun q => hm (by have q2 := q.2; rw [nN_nI (by omega)] at q2; exact q2)))
  · exact St.word hR (c_branch_bad w hk x a v (h 97) h hP hx) (r_branch_bad w (by omega) x a v h (fun q => hx q.1))
set_option maxRecDepth 20000 in
set_option maxHeartbeats 4000000 in
theorem c_rule_bad (w : Wt) {k : Nat} (hk : 200 ≤ k) (a v : Int32) (h : Mm) (hb : ¬ rlP a v) : Ok w k MX7_rule [.ref 0, .int a, .int v] h (Rv BADv h) := by
  show Wp w k MX7_rule _ 0 [some (.ref 0), some (.int a), some (.int v), none] [] h
  refine p_run (pc' := 1) [.iload_n 1] mkX7_rule (by decide +kernel) rfl rfl ?_
  refine p_if_ne (off := 31) 32 (by decide +kernel) (by decide) (fun cq1 => ?_) (fun cq1 => ?_)
  · refine p_run (pc' := 34) [.iload_n 1, .iconst 1] mkX7_rule (by decide +kernel) rfl rfl ?_
    refine p_icmp_ne (off := 31) 65 (by decide +kernel) (by decide) (fun cq34 => ?_) (fun cq34 => ?_)
    · refine p_run (pc' := 67) [.ldc 75] mkX7_rule (by decide +kernel) rfl rfl ?_
      refine p_iret rfl rfl (by decide +kernel) ?_
      exact ⟨rfl, rfl⟩
    · refine p_run (pc' := 41) [.iload_n 2, .iconst 0, .bipush 100] mkX7_rule (by decide +kernel) rfl rfl ?_
      refine p_callSv (cwithin_ok w (k := k - 1) _ _ _ _) ksX7_68 (by decide +kernel) (by omega) rfl rfl rfl rfl rfl ?_
      refine p_if_eq (off := 21) 65 (by decide +kernel) (by decide) (fun cq44 => ?_) (fun cq44 => ?_)
      · have cq44 := bI0.mp cq44
        refine p_run (pc' := 67) [.ldc 75] mkX7_rule (by decide +kernel) rfl rfl ?_
        refine p_iret rfl rfl (by decide +kernel) ?_
        exact ⟨rfl, rfl⟩
      · have cq44 := bI1.mp cq44
        exact absurd (Or.inr ⟨cq34, cq44⟩) hb
  · refine p_run (pc' := 8) [.iload_n 2, .iconst 0, .bipush 99] mkX7_rule (by decide +kernel) rfl rfl ?_
    refine p_callSv (cwithin_ok w (k := k - 1) _ _ _ _) ksX7_68 (by decide +kernel) (by omega) rfl rfl rfl rfl rfl ?_
    refine p_if_eq (off := 21) 32 (by decide +kernel) (by decide) (fun cq11 => ?_) (fun cq11 => ?_)
    · have cq11 := bI0.mp cq11
      refine p_run (pc' := 34) [.iload_n 1, .iconst 1] mkX7_rule (by decide +kernel) rfl rfl ?_
      refine p_icmp_ne (off := 31) 65 (by decide +kernel) (by decide) (fun cq34 => ?_) (fun cq34 => ?_)
      · refine p_run (pc' := 67) [.ldc 75] mkX7_rule (by decide +kernel) rfl rfl ?_
        refine p_iret rfl rfl (by decide +kernel) ?_
        exact ⟨rfl, rfl⟩
      · refine p_run (pc' := 41) [.iload_n 2, .iconst 0, .bipush 100] mkX7_rule (by decide +kernel) rfl rfl ?_
        refine p_callSv (cwithin_ok w (k := k - 1) _ _ _ _) ksX7_68 (by decide +kernel) (by omega) rfl rfl rfl rfl rfl ?_
        refine p_if_eq (off := 21) 65 (by decide +kernel) (by decide) (fun cq44 => ?_) (fun cq44 => ?_)
        · have cq44 := bI0.mp cq44
          refine p_run (pc' := 67) [.ldc 75] mkX7_rule (by decide +kernel) rfl rfl ?_
          refine p_iret rfl rfl (by decide +kernel) ?_
          exact ⟨rfl, rfl⟩
        · have cq44 := bI1.mp cq44
          exact absurd (Or.inr ⟨cq34, cq44⟩) hb
    · have cq11 := bI1.mp cq11
      exact absurd (Or.inl ⟨cq1, cq11⟩) hb
set_option maxRecDepth 20000 in
set_option maxHeartbeats 4000000 in
theorem c_rule0 (w : Wt) {k : Nat} (hk : 200 ≤ k) (v : Int32) (N : Vc) (h : Mm) (hI : Iv N) (hP : PR 11 h N) (hT : TR h N) (hv : inR v 0 99) : Ok w k MX7_rule [.ref 0, .int (nI 0), .int v] h (Rn1 (N 3) (upd N 3 v) h) := by
  show Wp w k MX7_rule _ 0 [some (.ref 0), some (.int (nI 0)), some (.int v), none] [] h
  have hn10 := hI.nd.2
  refine p_run (pc' := 1) [.iload_n 1] mkX7_rule (by decide +kernel) rfl rfl ?_
  refine p_if_ne (off := 31) 32 (by decide +kernel) (by decide) (fun cq1 => ?_) (fun cq1 => ?_)
  · exact False.elim (by revert cq1; decide)
  · refine p_run (pc' := 8) [.iload_n 2, .iconst 0, .bipush 99] mkX7_rule (by decide +kernel) rfl rfl ?_
    refine p_callSv (cwithin_ok w (k := k - 1) _ _ _ _) ksX7_68 (by decide +kernel) (by omega) rfl rfl rfl rfl rfl ?_
    refine p_if_eq (off := 21) 32 (by decide +kernel) (by decide) (fun cq11 => ?_) (fun cq11 => ?_)
    · have cq11 := bI0.mp cq11
      exact absurd hv cq11
    · have cq11 := bI1.mp cq11
      refine p_run (pc' := 31) [.aload_n 0, .getfield 28, .getfield 147, .istore_n 3, .aload_n 0, .getfield 28, .iload_n 2, .putfield 147, .iload_n 3] mkX7_rule (by decide +kernel) rfl rfl ?_
      refine p_iret rfl rfl (by decide +kernel) ?_
      exact ⟨by rw [hP.1.2.2.1], hP.upF (Or.inl ⟨rfl, rfl⟩) hn10, Fp.u1 (by omega)⟩
set_option maxRecDepth 20000 in
set_option maxHeartbeats 4000000 in
theorem c_rule1 (w : Wt) {k : Nat} (hk : 200 ≤ k) (v : Int32) (N : Vc) (h : Mm) (hI : Iv N) (hP : PR 11 h N) (hT : TR h N) (hv : inR v 0 100) : Ok w k MX7_rule [.ref 0, .int (nI 1), .int v] h (Rn1 (N 4) (upd N 4 v) h) := by
  show Wp w k MX7_rule _ 0 [some (.ref 0), some (.int (nI 1)), some (.int v), none] [] h
  have hn10 := hI.nd.2
  refine p_run (pc' := 1) [.iload_n 1] mkX7_rule (by decide +kernel) rfl rfl ?_
  refine p_if_ne (off := 31) 32 (by decide +kernel) (by decide) (fun cq1 => ?_) (fun cq1 => ?_)
  · refine p_run (pc' := 34) [.iload_n 1, .iconst 1] mkX7_rule (by decide +kernel) rfl rfl ?_
    refine p_icmp_ne (off := 31) 65 (by decide +kernel) (by decide) (fun cq34 => ?_) (fun cq34 => ?_)
    · exact False.elim (by revert cq34; decide)
    · refine p_run (pc' := 41) [.iload_n 2, .iconst 0, .bipush 100] mkX7_rule (by decide +kernel) rfl rfl ?_
      refine p_callSv (cwithin_ok w (k := k - 1) _ _ _ _) ksX7_68 (by decide +kernel) (by omega) rfl rfl rfl rfl rfl ?_
      refine p_if_eq (off := 21) 65 (by decide +kernel) (by decide) (fun cq44 => ?_) (fun cq44 => ?_)
      · have cq44 := bI0.mp cq44
        exact absurd hv cq44
      · have cq44 := bI1.mp cq44
        refine p_run (pc' := 64) [.aload_n 0, .getfield 28, .getfield 150, .istore_n 3, .aload_n 0, .getfield 28, .iload_n 2, .putfield 150, .iload_n 3] mkX7_rule (by decide +kernel) rfl rfl ?_
        refine p_iret rfl rfl (by decide +kernel) ?_
        exact ⟨by rw [hP.1.2.2.2.1], hP.upF (Or.inr (Or.inl ⟨rfl, rfl⟩)) hn10, Fp.u1 (by omega)⟩
  · exact False.elim (by revert cq1; decide)
theorem rl_Iv {N : Vc} (hI : Iv N) {j : Nat} {v : Int32} (h : (j = 3 ∧ In v 99) ∨ (j = 4 ∧ In v 100)) : Iv (upd N j v) := by
  have e1 : upd N j v 1 = N 1 := upd_n (by omega)
  have e7 : upd N j v 7 = N 7 := upd_n (by omega)
  have eb : ∀ b i, bK (upd N j v) b i = bK N b i := fun b i => upd_n (by omega)
  have ed : ∀ b i, dK (upd N j v) b i = dK N b i := fun b i => upd_n (by omega)
  obtain ⟨a1, a2, a3, a4, a5, a6, a7⟩ := hI
  refine ⟨by rw [e1]; exact a1, ?_, ?_, by rw [e7]; exact a4, fun b hb => by rw [eb, eb, eb]; exact a5 b hb, fun d hd => by rw [ed, ed, ed, ed, ed]; exact a6 d hd, fun t ht => ?_⟩
  · rcases h with ⟨rfl, h⟩ | ⟨rfl, h⟩
    · rw [upd_s]; exact h
    · rw [upd_n (by omega)]; exact a2
  · rcases h with ⟨rfl, h⟩ | ⟨rfl, h⟩
    · rw [upd_n (by omega)]; exact a3
    · rw [upd_s]; exact h
  · rw [e7] at ht
    have q := a7 t ht
    unfold TX at q ⊢
    have e : ∀ i, 70 ≤ i → upd N j v i = N i := fun i hi => upd_n (by omega)
    rw [e _ (by omega), show (fun i => upd N j v (98 + 96 * t + i)) = (fun i => N (98 + 96 * t + i)) from funext (fun i => e _ (by omega))]
    exact q
theorem st_rule (w : Wt) {k : Nat} (hk : 200 ≤ k) (a v : Int32) (h : Mm) (hR : Rel h) : St w k MX7_rule MX8_rule [.int a, .int v] h := by
  obtain ⟨⟨hP, hI, hQ, hT, hq⟩, -⟩ := id hR
  by_cases hr : rlP a v
  · rcases hr with ⟨rfl, hv⟩ | ⟨rfl, hv⟩
    · refine St.now hR (c_rule0 w hk v (h 97) h hI hP hT hv) (fun h1 hF => ?_) (rl_Iv hI (Or.inl ⟨rfl, In_of_inR (by omega) hv⟩)) (In_upd hq (by omega)) (fun i hi => upd_n (by omega))
      have ee := e97 hF
      exact (r_rule0 w (by omega) v h1 hv).imp (fun r h2 z => by have q := up_now z; rw [ee] at q; exact q)
    · refine St.now hR (c_rule1 w hk v (h 97) h hI hP hT hv) (fun h1 hF => ?_) (rl_Iv hI (Or.inr ⟨rfl, In_of_inR (by omega) hv⟩)) (In_upd hq (by omega)) (fun i hi => upd_n (by omega))
      have ee := e97 hF
      exact (r_rule1 w (by omega) v h1 hv).imp (fun r h2 z => by have q := up_now z; rw [ee] at q; exact q)
  · exact St.word hR (c_rule_bad w hk a v h hr) (r_rule_bad w (by omega) a v h hr)
set_option maxRecDepth 20000 in
set_option maxHeartbeats 4000000 in
theorem c_seed (w : Wt) {k : Nat} (hk : 200 ≤ k) (v : Int32) (N : Vc) (h : Mm) (hI : Iv N) (hP : PR 11 h N) (hT : TR h N) : Ok w k MX7_seed [.ref 0, .int v] h (Rn1 (N 0) (upd N 0 v) h) := by
  show Wp w k MX7_seed _ 0 [some (.ref 0), some (.int v), none] [] h
  have hn10 := hI.nd.2
  refine p_run (pc' := 17) [.aload_n 0, .getfield 28, .getfield 162, .istore_n 2, .aload_n 0, .getfield 28, .iload_n 1, .putfield 162, .iload_n 2] mkX7_seed (by decide +kernel) rfl rfl ?_
  refine p_iret rfl rfl (by decide +kernel) ?_
  exact ⟨by rw [hP.1.2.2.2.2.2.2.2], hP.upF (Or.inr (Or.inr (Or.inr (Or.inr (Or.inr ⟨rfl, rfl⟩))))) hn10, Fp.u1 (by omega)⟩
theorem st_seed (w : Wt) {k : Nat} (hk : 200 ≤ k) (v : Int32) (h : Mm) (hR : Rel h) : St w k MX7_seed MX8_seed [.int v] h := by
  obtain ⟨⟨hP, hI, hQ, hT, hq⟩, -⟩ := id hR
  refine St.now hR (c_seed w hk v (h 97) h hI hP hT) (fun h1 hF => ?_) (up5_Iv hI (Or.inr (Or.inl rfl))) (In_upd hq (by omega)) (fun i hi => upd_n (by omega))
  have ee := e97 hF
  exact (r_seed w (by omega) v h1).imp (fun r h2 z => by have q := up_now z; rw [ee] at q; exact q)
set_option maxRecDepth 20000 in
set_option maxHeartbeats 4000000 in
theorem c_deal_bad (w : Wt) {k : Nat} (hk : 200 ≤ k) (a : Int32) (N : Vc) (h : Mm) (hP : PR 11 h N)  (hb : ¬ (inR a 1 10)) : Ok w k MX7_deal [.ref 0, .int a] h (Rv BADv h) := by
  show Wp w k MX7_deal _ 0 [some (.ref 0), some (.int a), none, none] [] h
  refine p_run (pc' := 4) [.iload_n 1, .iconst 1, .bipush 10] mkX7_deal (by decide +kernel) rfl rfl ?_
  refine p_callSv (cwithin_ok w (k := k - 1) _ _ _ _) ksX7_68 (by decide +kernel) (by omega) rfl rfl rfl rfl rfl ?_
  refine p_if_ne (off := 6) 13 (by decide +kernel) (by decide) (fun cq7 => ?_) (fun cq7 => ?_)
  · have cq7 := bI1.mp cq7
    exact absurd (cq7) hb
  · have cq7 := bI0.mp cq7
    refine p_run (pc' := 12) [.ldc 75] mkX7_deal (by decide +kernel) rfl rfl ?_
    refine p_iret rfl rfl (by decide +kernel) ?_
    exact ⟨rfl, rfl⟩
set_option maxRecDepth 20000 in
set_option maxHeartbeats 4000000 in
theorem c_deal (w : Wt) {k : Nat} (hk : 200 ≤ k) (n : Nat) (N : Vc) (h : Mm) (hI : Iv N) (hP : PR 11 h N) (hT : TR h N) (hn : 1 ≤ n ∧ n ≤ 10) : Ok w k MX7_deal [.ref 0, .int (nI n)] h (Rn1 (nI (min n (10 - nd N))) (dlI N (min n (10 - nd N))) h) := by
  show Wp w k MX7_deal _ 0 [some (.ref 0), some (.int (nI n)), none, none] [] h
  obtain ⟨en, hn10⟩ := hI.nd
  refine p_run (pc' := 4) [.iload_n 1, .iconst 1, .bipush 10] mkX7_deal (by decide +kernel) rfl rfl ?_
  refine p_callSv (cwithin_ok w (k := k - 1) _ _ _ _) ksX7_68 (by decide +kernel) (by omega) rfl rfl rfl rfl rfl ?_
  refine p_if_ne (off := 6) 13 (by decide +kernel) (by decide) (fun cq7 => ?_) (fun cq7 => ?_)
  · have cq7 := bI1.mp cq7
    refine p_run (pc' := 24) [.iload_n 1, .bipush 10, .aload_n 0, .getfield 28, .getfield 76, .isub] mkX7_deal (by decide +kernel) rfl rfl ?_
    rw [hP.1.1, en, show Int32.ofInt 10 - nI (nd N) = nI (10 - nd N) from nIs (a := 10) (by omega)]
    refine p_mmin jlX7_153 (by decide +kernel) (by omega) rfl ?_
    rw [mn_nI (by omega) (by omega)]
    refine p_run (pc' := 30) [.istore_n 2, .iconst 0, .istore_n 3] mkX7_deal (by decide +kernel) rfl rfl ?_
    refine Wp.for (min n (10 - nd N)) (fun i L hh => L = [some (.ref 0), some (.int (nI n)), some (.int (nI (min n (10 - nd N)))), some (.int (nI i))] ∧ (PR 11 hh (dlI N i) ∧ Fp 11 h hh)) ?_ ?_ (0) (by omega) _ _ ?_
    · rintro i L hh hi ⟨rfl, hJ⟩ ih
      obtain ⟨hR1, hF⟩ := hJ
      obtain ⟨hI1, en1⟩ := dlI_ok hI i (by omega)
      refine p_run (pc' := 32) [.iload_n 3, .iload_n 2] mkX7_deal (by decide +kernel) rfl rfl ?_
      refine p_icmp_ge (off := 16) 48 (by decide +kernel) (by decide) (fun cqh => ?_) (fun cqh => ?_)
      · exact absurd cqh (nI_ge (by omega) (by omega))
      · refine p_run (pc' := 39) [.aload_n 0, .getfield 28] mkX7_deal (by decide +kernel) rfl rfl ?_
        refine p_callVo (caddDrawn w (k := k - 1) (by omega) (dlI N i) hh hI1 hR1 (by omega)) (fun _ _ q => q.1) kvX7_159 (by decide +kernel) (by decide) rfl (by omega) rfl rfl rfl rfl rfl (fun h' hq => ?_)
        obtain ⟨-, hR2, hF2⟩ := hq
        refine p_run (pc' := 30) [.iinc 3 1, .goto (-15)] mkX7_deal (by decide +kernel) rfl rfl ?_
        exact ih _ _ ⟨by rw [show nI i + Int32.ofInt 1 = nI (i + 1) by simp only [oI, nI_add]], hR2, hF.tr hF2⟩
    · rintro L hh ⟨rfl, hJ⟩
      obtain ⟨hR1, hF⟩ := hJ
      refine p_run (pc' := 32) [.iload_n 3, .iload_n 2] mkX7_deal (by decide +kernel) rfl rfl ?_
      refine p_icmp_ge (off := 16) 48 (by decide +kernel) (by decide) (fun cqh => ?_) (fun cqh => ?_)
      · refine p_run (pc' := 49) [.iload_n 2] mkX7_deal (by decide +kernel) rfl rfl ?_
        refine p_iret rfl rfl (by decide +kernel) ?_
        exact ⟨rfl, hR1, hF⟩
      · exact absurd (nI_le (Nat.le_refl _) (by omega)) cqh
    · exact ⟨rfl, hP, Fp.rf⟩
  · have cq7 := bI0.mp cq7
    exact absurd (in_nI (j := n) (lo := 1) (hi := 10) (by omega) (by omega) (by omega)) cq7
theorem st_deal (w : Wt) {k : Nat} (hk : 200 ≤ k) (a : Int32) (h : Mm) (hR : Rel h) : St w k MX7_deal MX8_deal [.int a] h := by
  obtain ⟨⟨hP, hI, hQ, hT, hq⟩, -⟩ := id hR
  by_cases hg : inR a 1 10
  · obtain ⟨n, hn0, hn, rfl⟩ := inR_of (by omega) (by omega) hg
    have hn10 := hI.nd.2
    obtain ⟨hI1, en1⟩ := dlI_ok hI (min n (10 - nd (h 97))) (by omega)
    refine St.now hR (c_deal w hk n (h 97) h hI hP hT ⟨hn0, hn⟩) (fun h1 hF => ?_) hI1 (by rw [dlI_out hI (by omega) _ (by omega)]; exact hq) (fun j hj => dlI_out hI (by omega) _ (by omega))
    have ee := e97 hF
    exact (r_deal w (by omega) n ⟨hn0, hn⟩ h1 (by rw [ee]; exact hI)).imp (fun r h2 z => ⟨by rw [z.1, ee], by rw [z.2.1, ee], Ag1 z.2.2⟩)
  · exact St.word hR (c_deal_bad w hk a (h 97) h hP hg) (r_deal_bad w (by omega) a h hg)
set_option maxRecDepth 20000 in
set_option maxHeartbeats 4000000 in
theorem c_nights_bad (w : Wt) {k : Nat} (hk : 200 ≤ k) (a : Int32) (N : Vc) (h : Mm) (hP : PR 11 h N)  (hb : ¬ (inR a 1 100)) : Ok w k MX7_nights [.ref 0, .int a] h (Rv BADv h) := by
  show Wp w k MX7_nights _ 0 [some (.ref 0), some (.int a), none] [] h
  refine p_run (pc' := 4) [.iload_n 1, .iconst 1, .bipush 100] mkX7_nights (by decide +kernel) rfl rfl ?_
  refine p_callSv (cwithin_ok w (k := k - 1) _ _ _ _) ksX7_68 (by decide +kernel) (by omega) rfl rfl rfl rfl rfl ?_
  refine p_if_ne (off := 6) 13 (by decide +kernel) (by decide) (fun cq7 => ?_) (fun cq7 => ?_)
  · have cq7 := bI1.mp cq7
    exact absurd (cq7) hb
  · have cq7 := bI0.mp cq7
    refine p_run (pc' := 12) [.ldc 75] mkX7_nights (by decide +kernel) rfl rfl ?_
    refine p_iret rfl rfl (by decide +kernel) ?_
    exact ⟨rfl, rfl⟩
set_option maxRecDepth 20000 in
set_option maxHeartbeats 4000000 in
theorem c_nights (w : Wt) {k : Nat} (hk : 200 ≤ k) (n : Nat) (N : Vc) (h : Mm) (hI : Iv N) (hP : PR 11 h N) (hT : TR h N) (hn : 1 ≤ n ∧ n ≤ 100) (hq : In (N 2) 9999) : Ok w k MX7_nights [.ref 0, .int (nI n)] h (Rn1 (hlF (nsF N (min (9999 - nN (N 2)) n)) - hlF N) (nsF N (min (9999 - nN (N 2)) n)) h) := by
  show Wp w k MX7_nights _ 0 [some (.ref 0), some (.int (nI n)), none] [] h
  have hn10 := hI.nd.2
  refine p_run (pc' := 4) [.iload_n 1, .iconst 1, .bipush 100] mkX7_nights (by decide +kernel) rfl rfl ?_
  refine p_callSv (cwithin_ok w (k := k - 1) _ _ _ _) ksX7_68 (by decide +kernel) (by omega) rfl rfl rfl rfl rfl ?_
  refine p_if_ne (off := 6) 13 (by decide +kernel) (by decide) (fun cq7 => ?_) (fun cq7 => ?_)
  · have cq7 := bI1.mp cq7
    refine p_run (pc' := 17) [.aload_n 0, .getfield 28] mkX7_nights (by decide +kernel) rfl rfl ?_
    refine p_callVv (chill11 w (k := k - 1) N h hI hP) kvX7_165 (by decide +kernel) (by decide) rfl (by omega) rfl rfl rfl rfl rfl ?_
    refine p_run (pc' := 37) [.istore_n 2, .aload_n 0, .getfield 28, .iload_n 1, .sipush 9999, .aload_n 0, .getfield 28, .getfield 168, .isub] mkX7_nights (by decide +kernel) rfl rfl ?_
    rw [hP.1.2.2.2.2.2.2.1, show Int32.ofInt 9999 - N 2 = nI (9999 - nN (N 2)) from (congrArg (Int32.ofInt 9999 - ·) hq.1).trans (nIs (a := 9999) hq.2)]
    refine p_mmin jlX7_153 (by decide +kernel) (by omega) rfl ?_
    rw [mn_nI (by omega) (by omega), Nat.min_comm n (9999 - nN (N 2))]
    refine p_callVo (cpass11 w (k := k - 1) (by omega) (min (9999 - nN (N 2)) n) (by omega) N h hI hP hT) (fun _ _ q => q.1) kvX7_171 (by decide +kernel) (by decide) rfl (by omega) rfl rfl rfl rfl rfl (fun h' hq => ?_)
    obtain ⟨-, hR1, hF1⟩ := hq
    rename Mm => h1
    refine p_run (pc' := 47) [.aload_n 0, .getfield 28] mkX7_nights (by decide +kernel) rfl rfl ?_
    refine p_callVv (chill11 w (k := k - 1) (nsF N (min (9999 - nN (N 2)) n)) h1 (nsF_Iv hI _) hR1) kvX7_165 (by decide +kernel) (by decide) rfl (by omega) rfl rfl rfl rfl rfl ?_
    refine p_run (pc' := 52) [.iload_n 2, .isub] mkX7_nights (by decide +kernel) rfl rfl ?_
    refine p_iret rfl rfl (by decide +kernel) ?_
    exact ⟨rfl, hR1, hF1⟩
  · have cq7 := bI0.mp cq7
    exact absurd (in_nI (j := n) (lo := 1) (hi := 100) (by omega) (by omega) (by omega)) cq7
theorem st_nights (w : Wt) {k : Nat} (hk : 200 ≤ k) (a : Int32) (h : Mm) (hR : Rel h) : St w k MX7_nights MX8_nights [.int a] h := by
  obtain ⟨⟨hP, hI, hQ, hT, hq⟩, -⟩ := id hR
  by_cases hg : inR a 1 100
  · obtain ⟨n, hn0, hn, rfl⟩ := inR_of (by omega) (by omega) hg
    refine St.now hR (c_nights w hk n (h 97) h hI hP hT ⟨hn0, hn⟩ hq) (fun h1 hF => ?_) (nsF_Iv hI _) (by rw [ns_night hI hq.1]; exact In_nI (by have := hq.2; omega) (by omega)) (fun j hj => nsF_out hI (by omega) _)
    have ee := e97 hF
    exact (r_nights w (by omega) n ⟨hn0, hn⟩ h1 (by rw [ee]; exact hI) (by rw [ee]; exact hQ) (by rw [ee]; exact hq)).imp (fun r h2 z => ⟨by rw [z.1, ee], by rw [z.2.1, ee], Ag13 z.2.2⟩)
  · exact St.word hR (c_nights_bad w hk a (h 97) h hP hg) (r_nights_bad w (by omega) a h hg)
set_option maxRecDepth 20000 in
set_option maxHeartbeats 4000000 in
theorem c_pour_bad (w : Wt) {k : Nat} (hk : 200 ≤ k) (a : Int32) (N : Vc) (h : Mm) (hP : PR 11 h N)  (hb : ¬ (inR a 0 3)) : Ok w k MX7_pour [.ref 0, .int a] h (Rv BADv h) := by
  show Wp w k MX7_pour _ 0 [some (.ref 0), some (.int a), none, none, none, none, none, none] [] h
  refine p_run (pc' := 1) [.iload_n 1] mkX7_pour (by decide +kernel) rfl rfl ?_
  refine p_callSv (cisSheet_ok w (k := k - 1) (by omega) _ _) ksX7_209 (by decide +kernel) (by omega) rfl rfl rfl rfl rfl ?_
  refine p_if_ne (off := 6) 10 (by decide +kernel) (by decide) (fun cq4 => ?_) (fun cq4 => ?_)
  · have cq4 := bI1.mp cq4
    exact absurd (cq4) hb
  · have cq4 := bI0.mp cq4
    refine p_run (pc' := 9) [.ldc 75] mkX7_pour (by decide +kernel) rfl rfl ?_
    refine p_iret rfl rfl (by decide +kernel) ?_
    exact ⟨rfl, rfl⟩
set_option maxRecDepth 20000 in
set_option maxHeartbeats 4000000 in
theorem c_pour_no (w : Wt) {k : Nat} (hk : 200 ≤ k) (s : Nat) (h : Mm) (hs : s < 4) (hm : h (66 + 2 * s) 1 = Int32.ofInt (-1)) : Ok w k MX7_pour [.ref 0, .int (nI s)] h (Rv NOTHINGv h) := by
  show Wp w k MX7_pour _ 0 [some (.ref 0), some (.int (nI s)), none, none, none, none, none, none] [] h
  refine p_run (pc' := 1) [.iload_n 1] mkX7_pour (by decide +kernel) rfl rfl ?_
  refine p_callSv (cisSheet_ok w (k := k - 1) (by omega) _ _) ksX7_209 (by decide +kernel) (by omega) rfl rfl rfl rfl rfl ?_
  refine p_if_ne (off := 6) 10 (by decide +kernel) (by decide) (fun cq4 => ?_) (fun cq4 => ?_)
  · have cq4 := bI1.mp cq4
    refine p_run (pc' := 15) [.aload_n 0, .getfield 40, .iload_n 1] mkX7_pour (by decide +kernel) rfl rfl ?_
    refine p_aald (s) (by decide +kernel) (by decide) rfl (by decide) rfl (by omega) (rfSh s (by omega)) ?_
    refine p_run (pc' := 18) [.astore_n 2, .aload_n 2] mkX7_pour (by decide +kernel) rfl rfl ?_
    refine p_callVv (cmiss_ok w (k := k - 1) _ (osS s hs) h) kvX7_212 (by decide +kernel) (Nat.lt_of_succ_lt (osS s (by omega)).1) (osS s (by omega)).2.1 (by omega) rfl rfl rfl rfl rfl ?_
    refine p_if_eq (off := 6) 27 (by decide +kernel) (by decide) (fun cq21 => ?_) (fun cq21 => ?_)
    · have cq21 := bI0.mp cq21
      exact absurd hm cq21
    · have cq21 := bI1.mp cq21
      refine p_run (pc' := 26) [.ldc 216] mkX7_pour (by decide +kernel) rfl rfl ?_
      refine p_iret rfl rfl (by decide +kernel) ?_
      exact ⟨rfl, rfl⟩
  · have cq4 := bI0.mp cq4
    exact absurd (in_nI (j := s) (lo := 0) (hi := 3) (by omega) (by omega) (by omega)) cq4
set_option maxRecDepth 20000 in
set_option maxHeartbeats 4000000 in
theorem c_pour (w : Wt) {k : Nat} (hk : 200 ≤ k) (s sz : Nat) (N : Vc) (h : Mm) (hI : Iv N) (hP : PR 11 h N) (hT : TR h N) (hs : s < 4) (hm : ¬ h (66 + 2 * s) 1 = Int32.ofInt (-1)) (hz : h (66 + 2 * s) 2 = nI sz) (hs24 : sz ≤ 24) : Ok w k MX7_pour [.ref 0, .int (nI s)] h (Rn1 (nI (cntF (pcB N (h (66 + 2 * s + 1))) (min sz (nd N)))) (poN N (h (66 + 2 * s + 1)) (min sz (nd N))) h) := by
  show Wp w k MX7_pour _ 0 [some (.ref 0), some (.int (nI s)), none, none, none, none, none, none] [] h
  obtain ⟨en, hn10⟩ := hI.nd
  refine p_run (pc' := 1) [.iload_n 1] mkX7_pour (by decide +kernel) rfl rfl ?_
  refine p_callSv (cisSheet_ok w (k := k - 1) (by omega) _ _) ksX7_209 (by decide +kernel) (by omega) rfl rfl rfl rfl rfl ?_
  refine p_if_ne (off := 6) 10 (by decide +kernel) (by decide) (fun cq4 => ?_) (fun cq4 => ?_)
  · have cq4 := bI1.mp cq4
    refine p_run (pc' := 15) [.aload_n 0, .getfield 40, .iload_n 1] mkX7_pour (by decide +kernel) rfl rfl ?_
    refine p_aald (s) (by decide +kernel) (by decide) rfl (by decide) rfl (by omega) (rfSh s (by omega)) ?_
    refine p_run (pc' := 18) [.astore_n 2, .aload_n 2] mkX7_pour (by decide +kernel) rfl rfl ?_
    refine p_callVv (cmiss_ok w (k := k - 1) _ (osS s hs) h) kvX7_212 (by decide +kernel) (Nat.lt_of_succ_lt (osS s (by omega)).1) (osS s (by omega)).2.1 (by omega) rfl rfl rfl rfl rfl ?_
    refine p_if_eq (off := 6) 27 (by decide +kernel) (by decide) (fun cq21 => ?_) (fun cq21 => ?_)
    · have cq21 := bI0.mp cq21
      refine p_run (pc' := 30) [.iconst 0, .istore_n 3, .aload_n 2] mkX7_pour (by decide +kernel) rfl rfl ?_
      refine p_getI (by decide +kernel) fo7_269 (Nat.lt_of_succ_lt (osS s (by omega)).1) (osS s (by omega)).2.1 ((osS s (by omega)).2.2.2.1 _ (by decide)) ?_
      rw [hz]
      refine p_run (pc' := 40) [.aload_n 0, .getfield 28, .getfield 76] mkX7_pour (by decide +kernel) rfl rfl ?_
      rw [hP.1.1, en]
      refine p_mmin jlX7_153 (by decide +kernel) (by omega) rfl ?_
      rw [mn_nI (by omega) (by omega)]
      refine p_run (pc' := 48) [.istore 4, .iconst 0, .istore 5] mkX7_pour (by decide +kernel) rfl rfl ?_
      refine Wp.for (min sz (nd N)) (fun i L hh => ∃ (x6 x7 : Option Value), L = [some (.ref 0), some (.int (nI s)), some (.ref (66 + 2 * s)), some (.int (nI (cntF (pcB N (h (66 + 2 * s + 1))) i))), some (.int (nI (min sz (nd N)))), some (.int (nI i)), x6, x7] ∧ (PR 11 hh (poN N (h (66 + 2 * s + 1)) i) ∧ Fp 11 h hh)) ?_ ?_ (0) (by omega) _ _ ?_
      · rintro i L hh hi ⟨x6, x7, rfl, hJ⟩ ih
        obtain ⟨hR1, hF⟩ := hJ
        have es : hh (66 + 2 * s) = h (66 + 2 * s) := hF _ (by omega) (by omega) (by omega)
        have es1 : hh (66 + 2 * s + 1) = h (66 + 2 * s + 1) := hF _ (by omega) (by omega) (by omega)
        have hnd : nd (poN N (h (66 + 2 * s + 1)) i) = nd N := poN_nd
        have hdk : dK (poN N (h (66 + 2 * s + 1)) i) i 2 = dK N i 2 := poN_out i (fun d hd => by omega)
        refine p_run (pc' := 52) [.iload 5, .iload 4] mkX7_pour (by decide +kernel) rfl rfl ?_
        refine p_icmp_ge (off := 67) 119 (by decide +kernel) (by decide) (fun cqh => ?_) (fun cqh => ?_)
        · exact absurd cqh (nI_ge (by omega) (by omega))
        · refine p_run (pc' := 58) [.aload_n 2, .iload 5] mkX7_pour (by decide +kernel) rfl rfl ?_
          refine p_callVv (cnum_ok w (k := k - 1) (by omega) (66 + 2 * s) i sz (osS s hs) hh (by rw [es]; exact hz) hs24 (by omega)) kvX7_270 (by decide +kernel) (Nat.lt_of_succ_lt (osS s (by omega)).1) (osS s (by omega)).2.1 (by omega) rfl rfl rfl rfl rfl ?_
          rw [es1]
          refine p_if_eq (off := 52) 113 (by decide +kernel) (by decide) (fun cq1 => ?_) (fun cq1 => ?_)
          · have cq1 := Classical.not_not.mp (bI0.mp cq1)
            have ht : tpF N (h (66 + 2 * s + 1)) i = dK N i 2 := if_pos cq1
            have hcs : cntF (pcB N (h (66 + 2 * s + 1))) (i + 1) = cntF (pcB N (h (66 + 2 * s + 1))) i := by rw [cntF, if_neg (fun q => pcB_iff.mp q ht.symm)]; rfl
            refine p_run (pc' := 48) [.iinc 5 1, .goto (-68)] mkX7_pour (by decide +kernel) rfl rfl ?_
            exact ih _ _ ⟨_, _, by rw [show nI i + Int32.ofInt 1 = nI (i + 1) by simp only [oI, nI_add], hcs], by rw [poN, ht, ← hdk]; exact (congrArg (PR 11 hh) upd_self).mpr hR1, hF⟩
          · have cq1 := bI1.mp cq1
            have ht : tpF N (h (66 + 2 * s + 1)) i = clF ((h (66 + 2 * s + 1)) i) (nI 0) (nI 99) := if_neg cq1
            refine p_run (pc' := 73) [.aload_n 0, .getfield 28, .getfield 87, .iload 5] mkX7_pour (by decide +kernel) rfl rfl ?_
            refine p_aald (i) (by decide +kernel) (by decide) rfl (by decide) rfl (by omega) (rfD11 i (by omega)) ?_
            refine p_run (pc' := 77) [.astore 6, .aload_n 2] mkX7_pour (by decide +kernel) rfl rfl ?_
            refine p_getR (by decide +kernel) fo7_264 (Nat.lt_of_succ_lt (osS s (by omega)).1) (osS s (by omega)).2.1 (osS s (by omega)).2.2.1 ?_
            refine p_run (pc' := 82) [.iload 5] mkX7_pour (by decide +kernel) rfl rfl ?_
            refine p_iald (i) (by decide +kernel) (Nat.ble_eq_true_of_le (osS s (by omega)).1) (osS s (by omega)).2.2.2.2 rfl (by omega) ?_
            rw [es1]
            refine p_callSv (held_ok w (k := k - 1) (by omega) _ hh) ksX7_273 (by decide +kernel) (by omega) rfl rfl rfl rfl rfl ?_
            rw [← ht]
            refine p_run (pc' := 93) [.istore 7, .iload_n 3, .iload 7, .aload 6] mkX7_pour (by decide +kernel) rfl rfl ?_
            refine p_getI (by decide +kernel) fo7_99 (obD pp11 (by omega)).1 (obD pp11 (by omega)).2.1 ((obD pp11 (by omega)).2.2 _) ?_
            rw [hR1.2.2.1 i (by omega) 2 (by omega), hdk]
            refine p_icmp_ne (off := 7) 103 (by decide +kernel) (by decide) (fun cq2 => ?_) (fun cq2 => ?_)
            · refine p_run (pc' := 110) [.iconst 1, .iadd, .istore_n 3, .aload 6, .iload 7] mkX7_pour (by decide +kernel) rfl rfl ?_
              refine p_put (by decide +kernel) fo7_99 (obD pp11 (by omega)).1 (obD pp11 (by omega)).2.1 rfl ((obD pp11 (by omega)).2.2 _) ?_
              refine p_run (pc' := 48) [.iinc 5 1, .goto (-68)] mkX7_pour (by decide +kernel) rfl rfl ?_
              exact ih _ _ ⟨_, _, by rw [show nI i + Int32.ofInt 1 = nI (i + 1) by simp only [oI, nI_add], cntF, if_pos (pcB_iff.mpr (fun q => cq2 q.symm)), oI, nI_add], hR1.upD (by omega) (by omega) (by omega), hF.tr (Fp.u1 (by omega))⟩
            · refine p_run (pc' := 110) [.iconst 0, .goto 4, .iadd, .istore_n 3, .aload 6, .iload 7] mkX7_pour (by decide +kernel) rfl rfl ?_
              refine p_put (by decide +kernel) fo7_99 (obD pp11 (by omega)).1 (obD pp11 (by omega)).2.1 rfl ((obD pp11 (by omega)).2.2 _) ?_
              refine p_run (pc' := 48) [.iinc 5 1, .goto (-68)] mkX7_pour (by decide +kernel) rfl rfl ?_
              exact ih _ _ ⟨_, _, by rw [show nI i + Int32.ofInt 1 = nI (i + 1) by simp only [oI, nI_add], cntF, if_neg (fun q => pcB_iff.mp q cq2.symm), oI, nI_add], hR1.upD (by omega) (by omega) (by omega), hF.tr (Fp.u1 (by omega))⟩
      · rintro L hh ⟨x6, x7, rfl, hJ⟩
        obtain ⟨hR1, hF⟩ := hJ
        have es : hh (66 + 2 * s) = h (66 + 2 * s) := hF _ (by omega) (by omega) (by omega)
        have es1 : hh (66 + 2 * s + 1) = h (66 + 2 * s + 1) := hF _ (by omega) (by omega) (by omega)
        refine p_run (pc' := 52) [.iload 5, .iload 4] mkX7_pour (by decide +kernel) rfl rfl ?_
        refine p_icmp_ge (off := 67) 119 (by decide +kernel) (by decide) (fun cqh => ?_) (fun cqh => ?_)
        · refine p_run (pc' := 120) [.iload_n 3] mkX7_pour (by decide +kernel) rfl rfl ?_
          refine p_iret rfl rfl (by decide +kernel) ?_
          exact ⟨rfl, hR1, hF⟩
        · exact absurd (nI_le (Nat.le_refl _) (by omega)) cqh
      · exact ⟨_, _, rfl, hP, Fp.rf⟩
    · have cq21 := bI1.mp cq21
      exact absurd cq21 hm
  · have cq4 := bI0.mp cq4
    exact absurd (in_nI (j := s) (lo := 0) (hi := 3) (by omega) (by omega) (by omega)) cq4
theorem poN_congr {N : Vc} {c c' : Nat → Int32} : ∀ {n : Nat}, (∀ i, i < n → c i = c' i) → poN N c n = poN N c' n
  | 0, _ => rfl
  | n + 1, h => by rw [poN, poN, poN_congr (fun i hi => h i (by omega))]; unfold tpF; rw [h n (by omega)]
theorem st_pour (w : Wt) {k : Nat} (hk : 200 ≤ k) (a : Int32) (h : Mm) (hR : Rel h) : St w k MX7_pour MX8_pour [.int a] h := by
  obtain ⟨⟨hP, hI, hQ, hT, hq⟩, -⟩ := id hR
  have hS := hR.2.2.2.1
  by_cases hg : inR a 0 3
  · obtain ⟨s, -, hs, rfl⟩ := inR_of (by omega) (by omega) hg
    have hs : s < 4 := by omega
    by_cases hm : h 109 s < 0
    · exact St.word hR (c_pour_no w hk s h hs ((hS.nm hs).mp hm)) (r_pour_no w (by omega) s hs h hm)
    · obtain ⟨a1, a2, a3, a4, a5⟩ := hS s hs
      have hz := a5.2
      have hn10 := hI.nd.2
      have hc := c_pour w hk s (nN (h 110 s)) (h 97) h hI hP hT hs (fun q => hm ((hS.nm hs).mpr q)) (a2.trans a5.1) a5.2
      rw [cntF_congr (q := pcB (h 97) (fun k => h 111 (24 * s + k))) (fun k hk2 => by unfold pcB tpF; rw [a3 k (by omega)]), poN_congr (c' := fun k => h 111 (24 * s + k)) (fun k hk2 => a3 k (by omega))] at hc
      refine St.now hR hc (fun h1 hF => ?_) (poN_Iv hI _ _ (by omega)) (by rw [poN_out _ (fun d _ => by omega)]; exact hq) (fun j hj => poN_out _ (fun d hd => by omega))
      have ee := e97 hF
      have e1 : h1 109 = h 109 := hF 109 (by omega) (by omega) (by omega)
      have e2 : h1 110 = h 110 := hF 110 (by omega) (by omega) (by omega)
      have e3 : h1 111 = h 111 := hF 111 (by omega) (by omega) (by omega)
      exact (r_pour w (by omega) s (nN (h 110 s)) hs a5.2 h1 (by rw [e2]; exact a5.1) (by rw [ee]; exact hI) (by rw [e1]; exact hm)).imp (fun r h2 z => ⟨by rw [z.1, ee, e3], by rw [z.2.1, ee, e3], Ag1 z.2.2⟩)
  · exact St.word hR (c_pour_bad w hk a (h 97) h hP hg) (r_pour_bad w (by omega) a h hg)
