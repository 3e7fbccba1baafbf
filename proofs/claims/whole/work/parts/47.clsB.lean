/-! the class: small tests; texts at work -/
noncomputable def jnF (x a b : Int32) : Int32 := if x = nI 38 then bI (a ≠ 0 ∧ b ≠ 0) else if x = nI 42 then a * b else if x = nI 43 then a + b else if x = nI 45 then a - b else if x = nI 60 then bI (a < b) else if x = nI 61 then bI (a = b) else if x = nI 62 then bI (b < a) else if x = nI 124 then bI (a ≠ 0 ∨ b ≠ 0) else if b = 0 then 0 else a / b
theorem sgs {s : Int32} (h1 : Int32.ofInt (-9) ≤ s) (h2 : s < nI 0) : s = Int32.ofInt (-1) ∨ s = Int32.ofInt (-2) ∨ s = Int32.ofInt (-3) ∨ s = Int32.ofInt (-4) ∨ s = Int32.ofInt (-5) ∨ s = Int32.ofInt (-6) ∨ s = Int32.ofInt (-7) ∨ s = Int32.ofInt (-8) ∨ s = Int32.ofInt (-9) := by
  have a1 : (-9 : Int) ≤ s.toInt := Int32.le_iff_toInt_le.mp h1
  have a2 : s.toInt < 0 := Int32.lt_iff_toInt_lt.mp h2
  have e : ∀ v : Int, s.toInt = v → s = Int32.ofInt v := fun v q => by rw [← q, Int32.ofInt_toInt]
  have : s.toInt = -1 ∨ s.toInt = -2 ∨ s.toInt = -3 ∨ s.toInt = -4 ∨ s.toInt = -5 ∨ s.toInt = -6 ∨ s.toInt = -7 ∨ s.toInt = -8 ∨ s.toInt = -9 := by omega
  rcases this with q | q | q | q | q | q | q | q | q
  · exact Or.inl (e _ q)
  · exact Or.inr (Or.inl (e _ q))
  · exact Or.inr (Or.inr (Or.inl (e _ q)))
  · exact Or.inr (Or.inr (Or.inr (Or.inl (e _ q))))
  · exact Or.inr (Or.inr (Or.inr (Or.inr (Or.inl (e _ q)))))
  · exact Or.inr (Or.inr (Or.inr (Or.inr (Or.inr (Or.inl (e _ q))))))
  · exact Or.inr (Or.inr (Or.inr (Or.inr (Or.inr (Or.inr (Or.inl (e _ q)))))))
  · exact Or.inr (Or.inr (Or.inr (Or.inr (Or.inr (Or.inr (Or.inr (Or.inl (e _ q))))))))
  · exact Or.inr (Or.inr (Or.inr (Or.inr (Or.inr (Or.inr (Or.inr (Or.inr (e _ q))))))))
theorem jn_two {s : Int32} (h1 : Int32.ofInt (-9) ≤ s) (h2 : s < nI 0) (a b : Int32) : jnF (sgB s) a b = two s a b := by
  rcases sgs h1 h2 with rfl | rfl | rfl | rfl | rfl | rfl | rfl | rfl | rfl
  · rw [show sgB (Int32.ofInt (-1)) = nI 124 by decide]; unfold jnF two; rw [if_neg (by decide), if_neg (by decide), if_neg (by decide), if_neg (by decide), if_neg (by decide), if_neg (by decide), if_neg (by decide), if_pos rfl, if_pos rfl]
  · rw [show sgB (Int32.ofInt (-2)) = nI 38 by decide]; unfold jnF two; rw [if_pos rfl, if_neg (by decide), if_pos rfl]
  · rw [show sgB (Int32.ofInt (-3)) = nI 60 by decide]; unfold jnF two; rw [if_neg (by decide), if_neg (by decide), if_neg (by decide), if_neg (by decide), if_pos rfl, if_neg (by decide), if_neg (by decide), if_pos rfl]
  · rw [show sgB (Int32.ofInt (-4)) = nI 61 by decide]; unfold jnF two; rw [if_neg (by decide), if_neg (by decide), if_neg (by decide), if_neg (by decide), if_neg (by decide), if_pos rfl, if_neg (by decide), if_neg (by decide), if_neg (by decide), if_pos rfl]
  · rw [show sgB (Int32.ofInt (-5)) = nI 62 by decide]; unfold jnF two; rw [if_neg (by decide), if_neg (by decide), if_neg (by decide), if_neg (by decide), if_neg (by decide), if_neg (by decide), if_pos rfl, if_neg (by decide), if_neg (by decide), if_neg (by decide), if_neg (by decide), if_pos rfl]
  · rw [show sgB (Int32.ofInt (-6)) = nI 43 by decide]; unfold jnF two; rw [if_neg (by decide), if_neg (by decide), if_pos rfl, if_neg (by decide), if_neg (by decide), if_neg (by decide), if_neg (by decide), if_neg (by decide), if_pos rfl]
  · rw [show sgB (Int32.ofInt (-7)) = nI 45 by decide]; unfold jnF two; rw [if_neg (by decide), if_neg (by decide), if_neg (by decide), if_pos rfl, if_neg (by decide), if_neg (by decide), if_neg (by decide), if_neg (by decide), if_neg (by decide), if_neg (by decide), if_pos rfl]
  · rw [show sgB (Int32.ofInt (-8)) = nI 42 by decide]; unfold jnF two; rw [if_neg (by decide), if_pos rfl, if_neg (by decide), if_neg (by decide), if_neg (by decide), if_neg (by decide), if_neg (by decide), if_neg (by decide), if_neg (by decide), if_pos rfl]
  · rw [show sgB (Int32.ofInt (-9)) = nI 47 by decide]; unfold jnF two; rw [if_neg (c := nI 47 = nI 38) (by decide), if_neg (c := nI 47 = nI 42) (by decide), if_neg (c := nI 47 = nI 43) (by decide), if_neg (c := nI 47 = nI 45) (by decide), if_neg (c := nI 47 = nI 60) (by decide), if_neg (c := nI 47 = nI 61) (by decide), if_neg (c := nI 47 = nI 62) (by decide), if_neg (c := nI 47 = nI 124) (by decide), if_neg (c := Int32.ofInt (-9) = Int32.ofInt (-1)) (by decide), if_neg (c := Int32.ofInt (-9) = Int32.ofInt (-2)) (by decide), if_neg (c := Int32.ofInt (-9) = Int32.ofInt (-3)) (by decide), if_neg (c := Int32.ofInt (-9) = Int32.ofInt (-4)) (by decide), if_neg (c := Int32.ofInt (-9) = Int32.ofInt (-5)) (by decide), if_neg (c := Int32.ofInt (-9) = Int32.ofInt (-6)) (by decide), if_neg (c := Int32.ofInt (-9) = Int32.ofInt (-7)) (by decide), if_neg (c := Int32.ofInt (-9) = Int32.ofInt (-8)) (by decide)]
theorem enC_n {x : Int32} (h : nI 0 ≤ x) : enC x = x := by unfold enC; rw [if_pos h]
theorem enC_not : enC NOTv = nI 20033 := by decide
theorem enC_s {s : Int32} (h2 : s < nI 0) : enC s = nI 20000 + sgB s := by unfold enC; rw [if_neg (Int32.not_le.mpr h2)]
theorem sgB_ge {s : Int32} (h1 : Int32.ofInt (-9) ≤ s) (h2 : s < nI 0) : nI 20000 ≤ nI 20000 + sgB s ∧ ¬ nI 20000 + sgB s = nI 20033 ∧ nI 20000 + sgB s - nI 20000 = sgB s := by
  rcases sgs h1 h2 with rfl | rfl | rfl | rfl | rfl | rfl | rfl | rfl | rfl <;> decide
set_option maxRecDepth 20000 in
set_option maxHeartbeats 4000000 in
theorem cwithin_ok (w : Wt) {k : Nat} (v lo hi : Int32) (h : Mm) : Ok w k MX7_within [.int v, .int lo, .int hi] h (Rv (bI (lo ≤ v ∧ v ≤ hi)) h) := by
  show Wp w k MX7_within _ 0 [some (.int v), some (.int lo), some (.int hi)] [] h
  refine p_run (pc' := 2) [.iload_n 0, .iload_n 1] mkX7_within (by decide +kernel) rfl rfl ?_
  refine p_icmp_lt (off := 12) 14 (by decide +kernel) (by decide) (fun cq1 => ?_) (fun cq1 => ?_)
  · refine p_run (pc' := 15) [.iconst 0] mkX7_within (by decide +kernel) rfl rfl ?_
    refine p_iret rfl rfl (by decide +kernel) ?_
    exact ⟨by rw [bIf (fun q => absurd q.1 (Int32.not_le.mpr cq1))]; rfl, rfl⟩
  · refine p_run (pc' := 7) [.iload_n 0, .iload_n 2] mkX7_within (by decide +kernel) rfl rfl ?_
    refine p_icmp_gt (off := 7) 14 (by decide +kernel) (by decide) (fun cq2 => ?_) (fun cq2 => ?_)
    · refine p_run (pc' := 15) [.iconst 0] mkX7_within (by decide +kernel) rfl rfl ?_
      refine p_iret rfl rfl (by decide +kernel) ?_
      exact ⟨by rw [bIf (fun q => absurd q.2 (Int32.not_le.mpr cq2))]; rfl, rfl⟩
    · refine p_run (pc' := 15) [.iconst 1, .goto 4] mkX7_within (by decide +kernel) rfl rfl ?_
      refine p_iret rfl rfl (by decide +kernel) ?_
      exact ⟨by rw [bIt ⟨Int32.not_lt.mp cq1, Int32.not_lt.mp cq2⟩]; rfl, rfl⟩
theorem held_cl (v : Int32) : (if Int32.ofInt 0 < (if v < Int32.ofInt 99 then v else Int32.ofInt 99) then (if v < Int32.ofInt 99 then v else Int32.ofInt 99) else Int32.ofInt 0) = clF v (nI 0) (nI 99) := by
  unfold clF
  rw [show Int32.ofInt 0 = nI 0 from rfl, show Int32.ofInt 99 = nI 99 from rfl]
  by_cases h1 : v < nI 0
  · have h2 : v < nI 99 := Int32.lt_of_lt_of_le h1 (by decide)
    rw [if_pos h1, if_pos h2, if_neg (fun q => Int32.lt_irrefl (Int32.lt_trans q h1))]
  · rw [if_neg h1]
    by_cases h2 : v < nI 99
    · rw [if_pos h2, if_neg (fun q => Int32.lt_irrefl (Int32.lt_trans q h2))]
      by_cases h3 : nI 0 < v
      · rw [if_pos h3]
      · rw [if_neg h3]; exact Int32.le_antisymm (Int32.not_lt.mp h1) (Int32.not_lt.mp h3)
    · rw [if_neg h2, if_pos (by decide)]
      by_cases h3 : nI 99 < v
      · rw [if_pos h3]
      · rw [if_neg h3]; exact Int32.le_antisymm (Int32.not_lt.mp h2) (Int32.not_lt.mp h3)
set_option maxRecDepth 20000 in
set_option maxHeartbeats 4000000 in
theorem held_ok (w : Wt) {k : Nat} (hk : 1 ≤ k) (v : Int32) (h : Mm) : Ok w k MX7_held [.int v] h (Rv (clF v (nI 0) (nI 99)) h) := by
  show Wp w k MX7_held _ 0 [some (.int v)] [] h
  refine p_run (pc' := 4) [.iconst 0, .bipush 99, .iload_n 0] mkX7_held (by decide +kernel) rfl rfl ?_
  refine p_mmin jlX7_153 (by decide +kernel) (by omega) rfl ?_
  refine p_mmax jlX7_316 (by decide +kernel) (by omega) rfl ?_
  refine p_iret rfl rfl (by decide +kernel) ?_
  exact ⟨congrArg (fun x => some (Value.int x)) (held_cl v), rfl⟩
set_option maxRecDepth 20000 in
set_option maxHeartbeats 4000000 in
theorem cisKind_ok (w : Wt) {k : Nat} (hk : 1 ≤ k) (v : Int32) (h : Mm) : Ok w k MX7_isKind [.int v] h (Rv (bI (inR v 0 5)) h) := by
  show Wp w k MX7_isKind _ 0 [some (.int v)] [] h
  refine p_run (pc' := 3) [.iload_n 0, .iconst 0, .iconst 5] mkX7_isKind (by decide +kernel) rfl rfl ?_
  refine p_callSv (cwithin_ok w (k := k - 1) _ _ _ _) ksX7_68 (by decide +kernel) (by omega) rfl rfl rfl rfl rfl ?_
  refine p_iret rfl bIn (by decide +kernel) ?_
  exact ⟨rfl, rfl⟩
set_option maxRecDepth 20000 in
set_option maxHeartbeats 4000000 in
theorem cisBranch_ok (w : Wt) {k : Nat} (hk : 1 ≤ k) (v : Int32) (h : Mm) : Ok w k MX7_isBranch [.int v] h (Rv (bI (inR v 0 3)) h) := by
  show Wp w k MX7_isBranch _ 0 [some (.int v)] [] h
  refine p_run (pc' := 3) [.iload_n 0, .iconst 0, .iconst 3] mkX7_isBranch (by decide +kernel) rfl rfl ?_
  refine p_callSv (cwithin_ok w (k := k - 1) _ _ _ _) ksX7_68 (by decide +kernel) (by omega) rfl rfl rfl rfl rfl ?_
  refine p_iret rfl bIn (by decide +kernel) ?_
  exact ⟨rfl, rfl⟩
set_option maxRecDepth 20000 in
set_option maxHeartbeats 4000000 in
theorem cisSheet_ok (w : Wt) {k : Nat} (hk : 1 ≤ k) (v : Int32) (h : Mm) : Ok w k MX7_isSheet [.int v] h (Rv (bI (inR v 0 3)) h) := by
  show Wp w k MX7_isSheet _ 0 [some (.int v)] [] h
  refine p_run (pc' := 3) [.iload_n 0, .iconst 0, .iconst 3] mkX7_isSheet (by decide +kernel) rfl rfl ?_
  refine p_callSv (cwithin_ok w (k := k - 1) _ _ _ _) ksX7_68 (by decide +kernel) (by omega) rfl rfl rfl rfl rfl ?_
  refine p_iret rfl bIn (by decide +kernel) ?_
  exact ⟨rfl, rfl⟩
set_option maxRecDepth 20000 in
set_option maxHeartbeats 4000000 in
theorem cisSlot_ok (w : Wt) {k : Nat} (hk : 1 ≤ k) (v : Int32) (h : Mm) : Ok w k MX7_isSlot [.int v] h (Rv (bI (inR v 0 4)) h) := by
  show Wp w k MX7_isSlot _ 0 [some (.int v)] [] h
  refine p_run (pc' := 3) [.iload_n 0, .iconst 0, .iconst 4] mkX7_isSlot (by decide +kernel) rfl rfl ?_
  refine p_callSv (cwithin_ok w (k := k - 1) _ _ _ _) ksX7_68 (by decide +kernel) (by omega) rfl rfl rfl rfl rfl ?_
  refine p_iret rfl bIn (by decide +kernel) ?_
  exact ⟨rfl, rfl⟩
set_option maxRecDepth 20000 in
set_option maxHeartbeats 4000000 in
theorem cisDigger_ok (w : Wt) {k : Nat} (hk : 1 ≤ k) (v : Int32) (N : Vc) (h : Mm) (e : h 11 4 = N 1) : Ok w k MX7_isDigger [.ref 0, .int v] h (Rv (bI (isD N v)) h) := by
  show Wp w k MX7_isDigger _ 0 [some (.ref 0), some (.int v)] [] h
  refine p_run (pc' := 11) [.iload_n 1, .iconst 0, .aload_n 0, .getfield 28, .getfield 76, .iconst 1, .isub] mkX7_isDigger (by decide +kernel) rfl rfl ?_
  refine p_callSv (cwithin_ok w (k := k - 1) _ _ _ _) ksX7_68 (by decide +kernel) (by omega) rfl rfl rfl rfl rfl ?_
  refine p_iret rfl bIn (by decide +kernel) ?_
  exact ⟨by rw [e]; rfl, rfl⟩
set_option maxRecDepth 20000 in
set_option maxHeartbeats 4000000 in
theorem tput_ok (w : Wt) {k : Nat} (j : Nat) (hj : j < 4) (x : Int32) (h : Mm) : Ok w k MX6_put [.ref 1, .int (nI j), .int x] h (Rw (up h 6 j x)) := by
  show Wp w k MX6_put _ 0 [some (.ref 1), some (.int (nI j)), some (.int x)] [] h
  refine p_run (pc' := 1) [.iload_n 1] mkX6_put (by decide +kernel) rfl rfl ?_
  refine p_if_lt (off := 15) 16 (by decide +kernel) (by decide) (fun cq1 => ?_) (fun cq1 => ?_)
  · exact absurd cq1 (nI_lt0 (by omega))
  · refine p_run (pc' := 6) [.iload_n 1, .iconst 4] mkX6_put (by decide +kernel) rfl rfl ?_
    refine p_icmp_ge (off := 10) 16 (by decide +kernel) (by decide) (fun cq2 => ?_) (fun cq2 => ?_)
    · exact False.elim (by rw [oI, nI_leI (by omega) (by omega)] at cq2; omega)
    · refine p_run (pc' := 15) [.aload_n 0, .getfield 24, .iload_n 1, .iload_n 2] mkX6_put (by decide +kernel) rfl rfl ?_
      refine p_iast (j) (by decide +kernel) rfl rfl rfl hj  ?_
      refine p_vret rfl (by decide +kernel) ?_
      exact ⟨rfl, rfl⟩
set_option maxRecDepth 20000 in
set_option maxHeartbeats 4000000 in
theorem joined_ok (w : Wt) {k : Nat} (x a b : Int32) (h : Mm) : Ok w k MX6_joined [.int x, .int a, .int b] h (Rv (jnF x a b) h) := by
  show Wp w k MX6_joined _ 0 [some (.int x), some (.int a), some (.int b)] [] h
  refine p_run (pc' := 1) [.iload_n 0] mkX6_joined (by decide +kernel) rfl rfl ?_
  by_cases zq0 : x = Int32.ofInt (38)
  · refine p_lookup (dflt := 148) (ps := #[(38, 89), (42, 144), (43, 136), (45, 140), (60, 103), (61, 114), (62, 125), (124, 75)]) (len := 75) (off := 89) 90 (by decide +kernel) (by decide) (by rw [zq0]; rfl) (by decide) ?_
    refine p_run (pc' := 91) [.iload_n 1] mkX6_joined (by decide +kernel) rfl rfl ?_
    refine p_if_eq (off := 11) 102 (by decide +kernel) (by decide) (fun cq91 => ?_) (fun cq91 => ?_)
    · refine p_run (pc' := 103) [.iconst 0] mkX6_joined (by decide +kernel) rfl rfl ?_
      refine p_iret rfl rfl (by decide +kernel) ?_
      exact ⟨by unfold jnF; rw [if_pos (c := x = nI 38) zq0, bIf (fun q => q.1 cq91)]; rfl, rfl⟩
    · refine p_run (pc' := 95) [.iload_n 2] mkX6_joined (by decide +kernel) rfl rfl ?_
      refine p_if_eq (off := 7) 102 (by decide +kernel) (by decide) (fun cq95 => ?_) (fun cq95 => ?_)
      · refine p_run (pc' := 103) [.iconst 0] mkX6_joined (by decide +kernel) rfl rfl ?_
        refine p_iret rfl rfl (by decide +kernel) ?_
        exact ⟨by unfold jnF; rw [if_pos (c := x = nI 38) zq0, bIf (fun q => q.2 cq95)]; rfl, rfl⟩
      · refine p_run (pc' := 103) [.iconst 1, .goto 4] mkX6_joined (by decide +kernel) rfl rfl ?_
        refine p_iret rfl rfl (by decide +kernel) ?_
        exact ⟨by unfold jnF; rw [if_pos (c := x = nI 38) zq0, bIt ⟨cq91, cq95⟩]; rfl, rfl⟩
  · by_cases zq1 : x = Int32.ofInt (42)
    · refine p_lookup (dflt := 148) (ps := #[(38, 89), (42, 144), (43, 136), (45, 140), (60, 103), (61, 114), (62, 125), (124, 75)]) (len := 75) (off := 144) 145 (by decide +kernel) (by decide) (by rw [zq1]; rfl) (by decide) ?_
      refine p_run (pc' := 148) [.iload_n 1, .iload_n 2, .imul] mkX6_joined (by decide +kernel) rfl rfl ?_
      refine p_iret rfl rfl (by decide +kernel) ?_
      exact ⟨by unfold jnF; rw [if_neg (c := x = nI 38) zq0, if_pos (c := x = nI 42) zq1], rfl⟩
    · by_cases zq2 : x = Int32.ofInt (43)
      · refine p_lookup (dflt := 148) (ps := #[(38, 89), (42, 144), (43, 136), (45, 140), (60, 103), (61, 114), (62, 125), (124, 75)]) (len := 75) (off := 136) 137 (by decide +kernel) (by decide) (by rw [zq2]; rfl) (by decide) ?_
        refine p_run (pc' := 140) [.iload_n 1, .iload_n 2, .iadd] mkX6_joined (by decide +kernel) rfl rfl ?_
        refine p_iret rfl rfl (by decide +kernel) ?_
        exact ⟨by unfold jnF; rw [if_neg (c := x = nI 38) zq0, if_neg (c := x = nI 42) zq1, if_pos (c := x = nI 43) zq2], rfl⟩
      · by_cases zq3 : x = Int32.ofInt (45)
        · refine p_lookup (dflt := 148) (ps := #[(38, 89), (42, 144), (43, 136), (45, 140), (60, 103), (61, 114), (62, 125), (124, 75)]) (len := 75) (off := 140) 141 (by decide +kernel) (by decide) (by rw [zq3]; rfl) (by decide) ?_
          refine p_run (pc' := 144) [.iload_n 1, .iload_n 2, .isub] mkX6_joined (by decide +kernel) rfl rfl ?_
          refine p_iret rfl rfl (by decide +kernel) ?_
          exact ⟨by unfold jnF; rw [if_neg (c := x = nI 38) zq0, if_neg (c := x = nI 42) zq1, if_neg (c := x = nI 43) zq2, if_pos (c := x = nI 45) zq3], rfl⟩
        · by_cases zq4 : x = Int32.ofInt (60)
          · refine p_lookup (dflt := 148) (ps := #[(38, 89), (42, 144), (43, 136), (45, 140), (60, 103), (61, 114), (62, 125), (124, 75)]) (len := 75) (off := 103) 104 (by decide +kernel) (by decide) (by rw [zq4]; rfl) (by decide) ?_
            refine p_run (pc' := 106) [.iload_n 1, .iload_n 2] mkX6_joined (by decide +kernel) rfl rfl ?_
            refine p_icmp_ge (off := 7) 113 (by decide +kernel) (by decide) (fun cq106 => ?_) (fun cq106 => ?_)
            · refine p_run (pc' := 114) [.iconst 0] mkX6_joined (by decide +kernel) rfl rfl ?_
              refine p_iret rfl rfl (by decide +kernel) ?_
              exact ⟨by unfold jnF; rw [if_neg (c := x = nI 38) zq0, if_neg (c := x = nI 42) zq1, if_neg (c := x = nI 43) zq2, if_neg (c := x = nI 45) zq3, if_pos (c := x = nI 60) zq4, bIf (Int32.not_lt.mpr cq106)]; rfl, rfl⟩
            · refine p_run (pc' := 114) [.iconst 1, .goto 4] mkX6_joined (by decide +kernel) rfl rfl ?_
              refine p_iret rfl rfl (by decide +kernel) ?_
              exact ⟨by unfold jnF; rw [if_neg (c := x = nI 38) zq0, if_neg (c := x = nI 42) zq1, if_neg (c := x = nI 43) zq2, if_neg (c := x = nI 45) zq3, if_pos (c := x = nI 60) zq4, bIt (Int32.not_le.mp cq106)]; rfl, rfl⟩
          · by_cases zq5 : x = Int32.ofInt (61)
            · refine p_lookup (dflt := 148) (ps := #[(38, 89), (42, 144), (43, 136), (45, 140), (60, 103), (61, 114), (62, 125), (124, 75)]) (len := 75) (off := 114) 115 (by decide +kernel) (by decide) (by rw [zq5]; rfl) (by decide) ?_
              refine p_run (pc' := 117) [.iload_n 1, .iload_n 2] mkX6_joined (by decide +kernel) rfl rfl ?_
              refine p_icmp_ne (off := 7) 124 (by decide +kernel) (by decide) (fun cq117 => ?_) (fun cq117 => ?_)
              · refine p_run (pc' := 125) [.iconst 0] mkX6_joined (by decide +kernel) rfl rfl ?_
                refine p_iret rfl rfl (by decide +kernel) ?_
                exact ⟨by unfold jnF; rw [if_neg (c := x = nI 38) zq0, if_neg (c := x = nI 42) zq1, if_neg (c := x = nI 43) zq2, if_neg (c := x = nI 45) zq3, if_neg (c := x = nI 60) zq4, if_pos (c := x = nI 61) zq5, bIf cq117]; rfl, rfl⟩
              · refine p_run (pc' := 125) [.iconst 1, .goto 4] mkX6_joined (by decide +kernel) rfl rfl ?_
                refine p_iret rfl rfl (by decide +kernel) ?_
                exact ⟨by unfold jnF; rw [if_neg (c := x = nI 38) zq0, if_neg (c := x = nI 42) zq1, if_neg (c := x = nI 43) zq2, if_neg (c := x = nI 45) zq3, if_neg (c := x = nI 60) zq4, if_pos (c := x = nI 61) zq5, bIt cq117]; rfl, rfl⟩
            · by_cases zq6 : x = Int32.ofInt (62)
              · refine p_lookup (dflt := 148) (ps := #[(38, 89), (42, 144), (43, 136), (45, 140), (60, 103), (61, 114), (62, 125), (124, 75)]) (len := 75) (off := 125) 126 (by decide +kernel) (by decide) (by rw [zq6]; rfl) (by decide) ?_
                refine p_run (pc' := 128) [.iload_n 1, .iload_n 2] mkX6_joined (by decide +kernel) rfl rfl ?_
                refine p_icmp_le (off := 7) 135 (by decide +kernel) (by decide) (fun cq128 => ?_) (fun cq128 => ?_)
                · refine p_run (pc' := 136) [.iconst 0] mkX6_joined (by decide +kernel) rfl rfl ?_
                  refine p_iret rfl rfl (by decide +kernel) ?_
                  exact ⟨by unfold jnF; rw [if_neg (c := x = nI 38) zq0, if_neg (c := x = nI 42) zq1, if_neg (c := x = nI 43) zq2, if_neg (c := x = nI 45) zq3, if_neg (c := x = nI 60) zq4, if_neg (c := x = nI 61) zq5, if_pos (c := x = nI 62) zq6, bIf (Int32.not_lt.mpr cq128)]; rfl, rfl⟩
                · refine p_run (pc' := 136) [.iconst 1, .goto 4] mkX6_joined (by decide +kernel) rfl rfl ?_
                  refine p_iret rfl rfl (by decide +kernel) ?_
                  exact ⟨by unfold jnF; rw [if_neg (c := x = nI 38) zq0, if_neg (c := x = nI 42) zq1, if_neg (c := x = nI 43) zq2, if_neg (c := x = nI 45) zq3, if_neg (c := x = nI 60) zq4, if_neg (c := x = nI 61) zq5, if_pos (c := x = nI 62) zq6, bIt (Int32.not_le.mp cq128)]; rfl, rfl⟩
              · by_cases zq7 : x = Int32.ofInt (124)
                · refine p_lookup (dflt := 148) (ps := #[(38, 89), (42, 144), (43, 136), (45, 140), (60, 103), (61, 114), (62, 125), (124, 75)]) (len := 75) (off := 75) 76 (by decide +kernel) (by decide) (by rw [zq7]; rfl) (by decide) ?_
                  refine p_run (pc' := 77) [.iload_n 1] mkX6_joined (by decide +kernel) rfl rfl ?_
                  refine p_if_ne (off := 7) 84 (by decide +kernel) (by decide) (fun cq77 => ?_) (fun cq77 => ?_)
                  · refine p_run (pc' := 89) [.iconst 1, .goto 4] mkX6_joined (by decide +kernel) rfl rfl ?_
                    refine p_iret rfl rfl (by decide +kernel) ?_
                    exact ⟨by unfold jnF; rw [if_neg (c := x = nI 38) zq0, if_neg (c := x = nI 42) zq1, if_neg (c := x = nI 43) zq2, if_neg (c := x = nI 45) zq3, if_neg (c := x = nI 60) zq4, if_neg (c := x = nI 61) zq5, if_neg (c := x = nI 62) zq6, if_pos (c := x = nI 124) zq7, bIt (Or.inl cq77)]; rfl, rfl⟩
                  · refine p_run (pc' := 81) [.iload_n 2] mkX6_joined (by decide +kernel) rfl rfl ?_
                    refine p_if_eq (off := 7) 88 (by decide +kernel) (by decide) (fun cq81 => ?_) (fun cq81 => ?_)
                    · refine p_run (pc' := 89) [.iconst 0] mkX6_joined (by decide +kernel) rfl rfl ?_
                      refine p_iret rfl rfl (by decide +kernel) ?_
                      exact ⟨by unfold jnF; rw [if_neg (c := x = nI 38) zq0, if_neg (c := x = nI 42) zq1, if_neg (c := x = nI 43) zq2, if_neg (c := x = nI 45) zq3, if_neg (c := x = nI 60) zq4, if_neg (c := x = nI 61) zq5, if_neg (c := x = nI 62) zq6, if_pos (c := x = nI 124) zq7, bIf (fun q => q.elim (fun z => z cq77) (fun z => z cq81))]; rfl, rfl⟩
                    · refine p_run (pc' := 89) [.iconst 1, .goto 4] mkX6_joined (by decide +kernel) rfl rfl ?_
                      refine p_iret rfl rfl (by decide +kernel) ?_
                      exact ⟨by unfold jnF; rw [if_neg (c := x = nI 38) zq0, if_neg (c := x = nI 42) zq1, if_neg (c := x = nI 43) zq2, if_neg (c := x = nI 45) zq3, if_neg (c := x = nI 60) zq4, if_neg (c := x = nI 61) zq5, if_neg (c := x = nI 62) zq6, if_pos (c := x = nI 124) zq7, bIt (Or.inr cq81)]; rfl, rfl⟩
                · refine p_lookup (dflt := 148) (ps := #[(38, 89), (42, 144), (43, 136), (45, 140), (60, 103), (61, 114), (62, 125), (124, 75)]) (len := 75) (off := 148) 149 (by decide +kernel) (by decide) (by show Op.lookupswitch.offset [(38, 89), (42, 144), (43, 136), (45, 140), (60, 103), (61, 114), (62, 125), (124, 75)] _ _ = _; rw [Op.lookupswitch.offset_cons, if_neg (tI_ne rfl zq0), Op.lookupswitch.offset_cons, if_neg (tI_ne rfl zq1), Op.lookupswitch.offset_cons, if_neg (tI_ne rfl zq2), Op.lookupswitch.offset_cons, if_neg (tI_ne rfl zq3), Op.lookupswitch.offset_cons, if_neg (tI_ne rfl zq4), Op.lookupswitch.offset_cons, if_neg (tI_ne rfl zq5), Op.lookupswitch.offset_cons, if_neg (tI_ne rfl zq6), Op.lookupswitch.offset_cons, if_neg (tI_ne rfl zq7), Op.lookupswitch.offset_nil]) (by decide) ?_
                  refine p_run (pc' := 150) [.iload_n 2] mkX6_joined (by decide +kernel) rfl rfl ?_
                  refine p_if_ne (off := 7) 157 (by decide +kernel) (by decide) (fun cq150 => ?_) (fun cq150 => ?_)
                  · refine p_run (pc' := 159) [.iload_n 1, .iload_n 2] mkX6_joined (by decide +kernel) rfl rfl ?_
                    refine p_idiv (by decide +kernel) cq150 ?_
                    refine p_iret rfl rfl (by decide +kernel) ?_
                    exact ⟨by unfold jnF; rw [if_neg (c := x = nI 38) zq0, if_neg (c := x = nI 42) zq1, if_neg (c := x = nI 43) zq2, if_neg (c := x = nI 45) zq3, if_neg (c := x = nI 60) zq4, if_neg (c := x = nI 61) zq5, if_neg (c := x = nI 62) zq6, if_neg (c := x = nI 124) zq7, if_neg cq150] <;> rfl, rfl⟩
                  · refine p_run (pc' := 160) [.iconst 0, .goto 6] mkX6_joined (by decide +kernel) rfl rfl ?_
                    refine p_iret rfl rfl (by decide +kernel) ?_
                    exact ⟨by unfold jnF; rw [if_neg (c := x = nI 38) zq0, if_neg (c := x = nI 42) zq1, if_neg (c := x = nI 43) zq2, if_neg (c := x = nI 45) zq3, if_neg (c := x = nI 60) zq4, if_neg (c := x = nI 61) zq5, if_neg (c := x = nI 62) zq6, if_neg (c := x = nI 124) zq7, if_pos cq150] <;> rfl, rfl⟩
set_option maxRecDepth 20000 in
set_option maxHeartbeats 4000000 in
theorem gives_ok (w : Wt) {k : Nat} (hk : 1 ≤ k) (t : Nat) (ht : t < 14) (N : Vc) (h : Mm) (hT : TR h N) (htN : t < nN (N 7)) (hX : TX N t) : Ok w k MX6_gives [.ref 1, .int (nI t)] h (fun r h' => r = some (.int (evF N t (h 6))) ∧ ∀ a, a ≠ 7 → h' a = h a) := by
  show Wp w k MX6_gives _ 0 [some (.ref 1), some (.int (nI t)), none, none, none, none] [] h
  obtain ⟨-, -, eL, eC⟩ := hT t htN
  obtain ⟨hXi, hwf⟩ := hX
  have hm4 := nmF_le (nN (N (70 + 2 * t)) / 1000)
  have en : nN (N (70 + 2 * t)) % 1000 = lnT N t := rfl
  unfold evF
  rw [en] at hwf ⊢
  generalize nmF (nN (N (70 + 2 * t)) / 1000) = m at *
  generalize lnT N t = n at *
  generalize ec : (fun i => N (98 + 96 * t + i)) = c at *
  have eC' : ∀ i, i < n → h 5 (96 * t + i) = enC (c i) := fun i hi => by rw [eC i hi, ← ec]
  have hn96 := hwf.2.2
  refine p_run (pc' := 1) [.iload_n 1] mkX6_gives (by decide +kernel) rfl rfl ?_
  refine p_if_lt (off := 9) 10 (by decide +kernel) (by decide) (fun cq1 => ?_) (fun cq1 => ?_)
  · exact absurd cq1 (nI_lt0 (by omega))
  · refine p_run (pc' := 7) [.iload_n 1, .bipush 14] mkX6_gives (by decide +kernel) rfl rfl ?_
    refine p_icmp_lt (off := 5) 12 (by decide +kernel) (by decide) (fun cq2 => ?_) (fun cq2 => ?_)
    · refine p_run (pc' := 22) [.iload_n 1, .bipush 96, .imul, .istore_n 2, .iconst 0, .istore_n 3, .iconst 0, .istore 4] mkX6_gives (by decide +kernel) rfl rfl ?_
      refine Wp.eqL (L' := [some (.ref 1), some (.int (nI t)), some (.int (nI (96 * t))), some (.int (nI 0)), some (.int (nI 0)), none]) (by rw [oI, nIm, Nat.mul_comm]; rfl) ?_
      refine Wp.for (n) (fun i L hh => ∃ (x5 : Option Value), L = [some (.ref 1), some (.int (nI t)), some (.int (nI (96 * t))), some (.int (nI (dep c i))), some (.int (nI i)), x5] ∧ ((∀ a, a ≠ 7 → hh a = h a) ∧ stk (hh 7) (runT (h 6) c i))) ?_ ?_ (0) (by omega) _ _ ?_
      · rintro i L hh hi ⟨x5, rfl, hJ⟩ ih
        obtain ⟨hh1, hs⟩ := hJ
        have hde := dep_le c i
        have hl := runT_len (fc := h 6) hwf i (by omega)
        refine p_run (pc' := 29) [.iload 4, .aload_n 0, .getfield 18, .iload_n 1] mkX6_gives (by decide +kernel) rfl rfl ?_
        refine p_iald (t) (by decide +kernel) rfl rfl rfl (by omega) ?_
        rw [hh1 4 (by decide), eL]
        refine p_icmp_ge (off := 158) 188 (by decide +kernel) (by decide) (fun cqa => ?_) (fun cqa => ?_)
        · exact absurd cqa (nI_ge (by omega) (by omega))
        · refine p_run (pc' := 37) [.iload 4, .bipush 96] mkX6_gives (by decide +kernel) rfl rfl ?_
          refine p_icmp_ge (off := 151) 188 (by decide +kernel) (by decide) (fun cqb => ?_) (fun cqb => ?_)
          · exact False.elim (by rw [oI, nI_leI (by omega) (by omega)] at cqb; omega)
          · refine p_run (pc' := 43) [.iload_n 3, .bipush 96] mkX6_gives (by decide +kernel) rfl rfl ?_
            refine p_icmp_ge (off := 145) 188 (by decide +kernel) (by decide) (fun cqc => ?_) (fun cqc => ?_)
            · exact False.elim (by rw [oI, nI_leI (by omega) (by omega)] at cqc; omega)
            · refine p_run (pc' := 54) [.aload_n 0, .getfield 21, .iload_n 2, .iload 4, .iadd] mkX6_gives (by decide +kernel) rfl rfl ?_
              refine p_iald (96 * t + i) (by decide +kernel) rfl rfl (by rw [nI_add]) (by omega) ?_
              rw [hh1 5 (by decide), eC' i hi]
              rcases hwf.1 i hi with ⟨s1, s2⟩ | ⟨s1, s2⟩ | ⟨s1, s2, s3⟩
              · rw [enC_n s1]
                have hin : In (c i) (10000 + m) := In_of (by omega) s1 (Int32.le_of_lt s2)
                have hin2 := hin.2
                refine p_run (pc' := 62) [.istore 5, .iload 5, .sipush 20000] mkX6_gives (by decide +kernel) rfl rfl ?_
                refine p_icmp_ge (off := 41) 103 (by decide +kernel) (by decide) (fun cqd => ?_) (fun cqd => ?_)
                · exact False.elim (by rw [oI, hin.1, nI_leI (by omega) (by omega)] at cqd; omega)
                · refine p_run (pc' := 75) [.aload_n 0, .getfield 27, .iload_n 3, .iload 5, .sipush 10000] mkX6_gives (by decide +kernel) rfl rfl ?_
                  refine p_icmp_ge (off := 8) 83 (by decide +kernel) (by decide) (fun cqe => ?_) (fun cqe => ?_)
                  · have hq : 10000 ≤ nN (c i) := by rw [oI, hin.1] at cqe; exact (nI_leI (by omega) (by omega)).mp cqe
                    have hlt : nN (c i) < 10000 + m := by have := s2; rw [hin.1] at this; exact (nI_ltI (by omega) (by omega)).mp this
                    have hci : c i - Int32.ofInt 10000 = nI (nN (c i) - 10000) := by
                      have z := nIs hq
                      rw [← hin.1] at z
                      exact z
                    refine p_run (pc' := 94) [.aload_n 0, .getfield 24, .iload 5, .sipush 10000, .isub, .iconst 4] mkX6_gives (by decide +kernel) rfl rfl ?_
                    rw [hci]
                    refine p_irem (by decide +kernel) (by decide) ?_
                    rw [oI, jrem_nI (by omega) (by omega) (by omega), Nat.mod_eq_of_lt (by omega)]
                    refine p_iald (nN (c i) - 10000) (by decide +kernel) rfl rfl rfl (by omega) ?_
                    refine p_iast (dep c i) (by decide +kernel) rfl rfl rfl (by omega)  ?_
                    refine p_run (pc' := 22) [.iinc 3 1, .goto 82, .iinc 4 1, .goto (-163)] mkX6_gives (by decide +kernel) rfl rfl ?_
                    exact ih _ _ ⟨_, by rw [show nI i + Int32.ofInt 1 = nI (i + 1) by simp only [oI, nI_add], dep, if_pos s1, oI, nI_add], fun a ha => by rw [upN ha]; exact hh1 a ha, by rw [upS, runT, tokS_n s1]; exact ⟨by rw [hl]; simp only [upd, if_true]; rw [hh1 6 (by decide), if_neg (by rw [oI] at cqe; exact Int32.not_lt.mpr cqe)], stk_upd (by omega) hs⟩⟩
                  · refine p_run (pc' := 96) [.iload 5, .goto 16] mkX6_gives (by decide +kernel) rfl rfl ?_
                    refine p_iast (dep c i) (by decide +kernel) rfl rfl rfl (by omega)  ?_
                    refine p_run (pc' := 22) [.iinc 3 1, .goto 82, .iinc 4 1, .goto (-163)] mkX6_gives (by decide +kernel) rfl rfl ?_
                    exact ih _ _ ⟨_, by rw [show nI i + Int32.ofInt 1 = nI (i + 1) by simp only [oI, nI_add], dep, if_pos s1, oI, nI_add], fun a ha => by rw [upN ha]; exact hh1 a ha, by rw [upS, runT, tokS_n s1]; exact ⟨by rw [hl]; simp only [upd, if_true]; rw [if_pos (by rw [oI] at cqe; exact Int32.not_le.mp cqe)], stk_upd (by omega) hs⟩⟩
              · rw [s1, enC_not]
                cases hr : runT (h 6) c i with
                | nil => rw [hr] at hl; simp at hl; omega
                | cons x r =>
                  rw [hr] at hl hs
                  have hl' : r.length = dep c i - 1 := by simp at hl; omega
                  refine p_run (pc' := 62) [.istore 5, .iload 5, .sipush 20000] mkX6_gives (by decide +kernel) rfl rfl ?_
                  refine p_icmp_ge (off := 41) 103 (by decide +kernel) (by decide) (fun cqd => ?_) (fun cqd => ?_)
                  · refine p_run (pc' := 108) [.iload 5, .sipush 20033] mkX6_gives (by decide +kernel) rfl rfl ?_
                    refine p_icmp_ne (off := 35) 143 (by decide +kernel) (by decide) (fun cqe => ?_) (fun cqe => ?_)
                    · exact False.elim (cqe rfl)
                    · refine p_run (pc' := 113) [.iload_n 3, .iconst 1] mkX6_gives (by decide +kernel) rfl rfl ?_
                      refine p_icmp_lt (off := 30) 143 (by decide +kernel) (by decide) (fun cqf => ?_) (fun cqf => ?_)
                      · exact False.elim (by rw [oI, nI_ltI (by omega) (by omega)] at cqf; omega)
                      · refine p_run (pc' := 130) [.aload_n 0, .getfield 27, .iload_n 3, .iconst 1, .isub, .aload_n 0, .getfield 27, .iload_n 3, .iconst 1, .isub] mkX6_gives (by decide +kernel) rfl rfl ?_
                        rw [oI, nIs (by omega)]
                        refine p_iald (dep c i - 1) (by decide +kernel) rfl rfl rfl (by omega) ?_
                        rw [show hh 7 (dep c i - 1) = x by rw [← hl']; exact hs.1]
                        refine p_if_ne (off := 7) 138 (by decide +kernel) (by decide) (fun cqg => ?_) (fun cqg => ?_)
                        · refine p_run (pc' := 139) [.iconst 0] mkX6_gives (by decide +kernel) rfl rfl ?_
                          refine p_iast (dep c i - 1) (by decide +kernel) rfl rfl rfl (by omega)  ?_
                          refine p_run (pc' := 22) [.goto 42, .iinc 4 1, .goto (-163)] mkX6_gives (by decide +kernel) rfl rfl ?_
                          exact ih _ _ ⟨_, by rw [show nI i + Int32.ofInt 1 = nI (i + 1) by simp only [oI, nI_add], dep, if_neg (by rw [s1]; decide), if_pos s1], fun a ha => by rw [upN ha]; exact hh1 a ha, by rw [upS, runT, s1, hr, tokS_not]; exact ⟨by rw [hl', upd_s, bIf cqg]; rfl, stk_upd (by omega) hs.2⟩⟩
                        · refine p_run (pc' := 139) [.iconst 1, .goto 4] mkX6_gives (by decide +kernel) rfl rfl ?_
                          refine p_iast (dep c i - 1) (by decide +kernel) rfl rfl rfl (by omega)  ?_
                          refine p_run (pc' := 22) [.goto 42, .iinc 4 1, .goto (-163)] mkX6_gives (by decide +kernel) rfl rfl ?_
                          exact ih _ _ ⟨_, by rw [show nI i + Int32.ofInt 1 = nI (i + 1) by simp only [oI, nI_add], dep, if_neg (by rw [s1]; decide), if_pos s1], fun a ha => by rw [upN ha]; exact hh1 a ha, by rw [upS, runT, s1, hr, tokS_not]; exact ⟨by rw [hl', upd_s, bIt cqg]; rfl, stk_upd (by omega) hs.2⟩⟩
                  · exact False.elim (cqd (by decide))
              · obtain ⟨g1, g2, g3⟩ := sgB_ge s1 s2
                rw [enC_s s2]
                have sn : ¬ c i = Int32.ofInt (-10) := fun q => by rw [q] at s1; exact absurd s1 (by decide)
                cases hr : runT (h 6) c i with
                | nil => rw [hr] at hl; simp at hl; omega
                | cons y r0 =>
                  cases r0 with
                  | nil => rw [hr] at hl; simp at hl; omega
                  | cons x r =>
                    rw [hr] at hl hs
                    have hl' : r.length = dep c i - 2 := by simp at hl; omega
                    have hy : hh 7 (dep c i - 1) = y := by have := hs.1; rw [show (x :: r).length = dep c i - 1 by simp; omega] at this; exact this
                    have hx : hh 7 (dep c i - 2) = x := by rw [← hl']; exact hs.2.1
                    refine p_run (pc' := 62) [.istore 5, .iload 5, .sipush 20000] mkX6_gives (by decide +kernel) rfl rfl ?_
                    refine p_icmp_ge (off := 41) 103 (by decide +kernel) (by decide) (fun cqd => ?_) (fun cqd => ?_)
                    · refine p_run (pc' := 108) [.iload 5, .sipush 20033] mkX6_gives (by decide +kernel) rfl rfl ?_
                      refine p_icmp_ne (off := 35) 143 (by decide +kernel) (by decide) (fun cqe => ?_) (fun cqe => ?_)
                      · refine p_run (pc' := 145) [.iload_n 3, .iconst 2] mkX6_gives (by decide +kernel) rfl rfl ?_
                        refine p_icmp_lt (off := 37) 182 (by decide +kernel) (by decide) (fun cqf => ?_) (fun cqf => ?_)
                        · exact False.elim (by rw [oI, nI_ltI (by omega) (by omega)] at cqf; omega)
                        · refine p_run (pc' := 171) [.iinc 3 (-1), .aload_n 0, .getfield 27, .iload_n 3, .iconst 1, .isub, .iload 5, .sipush 20000, .isub, .aload_n 0, .getfield 27, .iload_n 3, .iconst 1, .isub] mkX6_gives (by decide +kernel) rfl rfl ?_
                          rw [nIdec (by omega), show nI (dep c i - 1) - Int32.ofInt 1 = nI (dep c i - 2) by rw [oI, nIs (by omega)]; rfl]
                          refine p_iald (dep c i - 2) (by decide +kernel) rfl rfl rfl (by omega) ?_
                          refine p_run (pc' := 177) [.aload_n 0, .getfield 27, .iload_n 3] mkX6_gives (by decide +kernel) rfl rfl ?_
                          refine p_iald (dep c i - 1) (by decide +kernel) rfl rfl rfl (by omega) ?_
                          rw [hx, hy]
                          refine p_callSv (joined_ok w (k := k - 1) _ _ _ _) ksX6_43 (by decide +kernel) (by omega) rfl rfl rfl rfl rfl ?_
                          rw [show nI 20000 + sgB (c i) - Int32.ofInt 20000 = sgB (c i) from g3, jn_two s1 s2]
                          refine p_iast (dep c i - 2) (by decide +kernel) rfl rfl rfl (by omega)  ?_
                          refine p_run (pc' := 22) [.iinc 4 1, .goto (-163)] mkX6_gives (by decide +kernel) rfl rfl ?_
                          exact ih _ _ ⟨_, by rw [show nI i + Int32.ofInt 1 = nI (i + 1) by simp only [oI, nI_add], dep, if_neg (Int32.not_le.mpr s2), if_neg sn], fun a ha => by rw [upN ha]; exact hh1 a ha, by rw [upS, runT, hr, tokS_two (Int32.not_le.mpr s2) sn]; exact ⟨by rw [hl', upd_s], stk_upd (by omega) hs.2.2⟩⟩
                      · exact False.elim (g2 cqe)
                    · exact False.elim (cqd g1)
      · rintro L hh ⟨x5, rfl, hJ⟩
        obtain ⟨hh1, hs⟩ := hJ
        refine p_run (pc' := 29) [.iload 4, .aload_n 0, .getfield 18, .iload_n 1] mkX6_gives (by decide +kernel) rfl rfl ?_
        refine p_iald (t) (by decide +kernel) rfl rfl rfl (by omega) ?_
        rw [hh1 4 (by decide), eL]
        refine p_icmp_ge (off := 158) 188 (by decide +kernel) (by decide) (fun cqa => ?_) (fun cqa => ?_)
        · refine p_run (pc' := 193) [.aload_n 0, .getfield 27, .iconst 0] mkX6_gives (by decide +kernel) rfl rfl ?_
          refine p_iald (0) (by decide +kernel) rfl rfl (by simp only [oI]) (by omega) ?_
          have hl := runT_len (fc := h 6) hwf n (Nat.le_refl _)
          rw [hwf.2.1] at hl
          refine p_iret rfl rfl (by decide +kernel) ?_
          refine ⟨?_, hh1⟩
          cases hr : runT (h 6) c n with
          | nil => rw [hr] at hl; simp at hl
          | cons x r =>
            rw [hr] at hl hs
            cases r with
            | nil => rw [show hh 7 0 = x from hs.1]; rfl
            | cons y r => simp at hl
        · exact absurd (nI_le (Nat.le_refl _) (by omega)) cqa
      · exact ⟨_, rfl, fun _ _ => rfl, trivial⟩
    · exact absurd ((nI_ltI (by omega) (by omega)).mpr ht) cq2
