/-! the reference: texts at work -/
set_option maxRecDepth 20000 in
set_option maxHeartbeats 4000000 in
theorem bits_loop (w : Wt) {k : Nat} (s0 : Option Value) (h : Mm) : ∀ (m : Nat), m < 1024 → ∀ a, Wp w k MX8_bits (Rv (nI (a + pcF m)) h) 4 [s0, some (.int (nI a)), some (.int (nI m))] [] h := by
  intro m
  induction m using Nat.strongRecOn with
  | _ m ih =>
    intro hm a
    refine p_run (pc' := 5) [.iload_n 2] mkX8_bits (by decide +kernel) rfl rfl ?_
    refine p_if_eq (off := 15) 20 (by decide +kernel) (by decide) (fun cz => ?_) (fun cz => ?_)
    · rw [nI_eq0 (by omega)] at cz
      subst cz
      refine p_run (pc' := 21) [.iload_n 1] mkX8_bits (by decide +kernel) rfl rfl ?_
      refine p_iret rfl rfl (by decide +kernel) ?_
      exact ⟨by rw [pcF_0]; rfl, rfl⟩
    · rw [nI_eq0 (by omega)] at cz
      obtain ⟨h1, h2⟩ := pcF_step m hm cz
      refine p_run (pc' := 4) [.iinc 1 1, .iload_n 2, .iload_n 2, .iconst 1, .isub, .iand, .istore_n 2, .goto (-13)] mkX8_bits (by decide +kernel) rfl rfl ?_
      rw [h2, show a + (pcF (m &&& (m - 1)) + 1) = (a + 1) + pcF (m &&& (m - 1)) by omega]
      refine Wp.eqL ?_ (ih _ h1 (by omega) (a + 1))
      rw [show nI a + Int32.ofInt 1 = nI (a + 1) by simp only [oI, nI_add], show nI m &&& (nI m - Int32.ofInt 1) = nI (m &&& (m - 1)) by rw [oI, nIs (by omega), and_nI]]
set_option maxRecDepth 20000 in
set_option maxHeartbeats 4000000 in
theorem two_ok (w : Wt) {k : Nat} (s a b : Int32) (h : Mm) : Ok w k MX8_two [.int s, .int a, .int b] h (Rv (two s a b) h) := by
  show Wp w k MX8_two _ 0 [some (.int s), some (.int a), some (.int b)] [] h
  refine p_run (pc' := 1) [.iload_n 0] mkX8_two (by decide +kernel) rfl rfl ?_
  refine p_table (dflt := 120) (lo := -8) (hi := -1) (offs := #[116, 112, 108, 97, 86, 75, 61, 47]) (len := 47) (by decide +kernel) (by decide) (fun j hj hx => ?_) (fun hx => ?_)
  · match j, hj, hx with
    | 0, _, hx =>
      have hx : s = Int32.ofInt (-8) := hx
      refine ⟨116, 117, rfl, rfl, ?_⟩
      subst hx
      refine p_run (pc' := 120) [.iload_n 1, .iload_n 2, .imul] mkX8_two (by decide +kernel) rfl rfl ?_
      refine p_iret rfl rfl (by decide +kernel) ?_
      exact ⟨by rw [two, if_neg (by decide), if_neg (by decide), if_neg (by decide), if_neg (by decide), if_neg (by decide), if_neg (by decide), if_neg (by decide), if_pos rfl], rfl⟩
    | 1, _, hx =>
      have hx : s = Int32.ofInt (-7) := hx
      refine ⟨112, 113, rfl, rfl, ?_⟩
      subst hx
      refine p_run (pc' := 116) [.iload_n 1, .iload_n 2, .isub] mkX8_two (by decide +kernel) rfl rfl ?_
      refine p_iret rfl rfl (by decide +kernel) ?_
      exact ⟨by rw [two, if_neg (by decide), if_neg (by decide), if_neg (by decide), if_neg (by decide), if_neg (by decide), if_neg (by decide), if_pos rfl], rfl⟩
    | 2, _, hx =>
      have hx : s = Int32.ofInt (-6) := hx
      refine ⟨108, 109, rfl, rfl, ?_⟩
      subst hx
      refine p_run (pc' := 112) [.iload_n 1, .iload_n 2, .iadd] mkX8_two (by decide +kernel) rfl rfl ?_
      refine p_iret rfl rfl (by decide +kernel) ?_
      exact ⟨by rw [two, if_neg (by decide), if_neg (by decide), if_neg (by decide), if_neg (by decide), if_neg (by decide), if_pos rfl], rfl⟩
    | 3, _, hx =>
      have hx : s = Int32.ofInt (-5) := hx
      refine ⟨97, 98, rfl, rfl, ?_⟩
      subst hx
      refine p_run (pc' := 100) [.iload_n 1, .iload_n 2] mkX8_two (by decide +kernel) rfl rfl ?_
      refine p_icmp_le (off := 7) 107 (by decide +kernel) (by decide) (fun c100 => ?_) (fun c100 => ?_)
      · refine p_run (pc' := 108) [.iconst 0] mkX8_two (by decide +kernel) rfl rfl ?_
        refine p_iret rfl rfl (by decide +kernel) ?_
        exact ⟨by rw [two, if_neg (by decide), if_neg (by decide), if_neg (by decide), if_neg (by decide), if_pos rfl]; first | (rw [bIt (by simpa using c100)]; rfl) | (rw [bIf (by simpa using c100)]; rfl), rfl⟩
      · refine p_run (pc' := 108) [.iconst 1, .goto 4] mkX8_two (by decide +kernel) rfl rfl ?_
        refine p_iret rfl rfl (by decide +kernel) ?_
        exact ⟨by rw [two, if_neg (by decide), if_neg (by decide), if_neg (by decide), if_neg (by decide), if_pos rfl]; first | (rw [bIt (by simpa using c100)]; rfl) | (rw [bIf (by simpa using c100)]; rfl), rfl⟩
    | 4, _, hx =>
      have hx : s = Int32.ofInt (-4) := hx
      refine ⟨86, 87, rfl, rfl, ?_⟩
      subst hx
      refine p_run (pc' := 89) [.iload_n 1, .iload_n 2] mkX8_two (by decide +kernel) rfl rfl ?_
      refine p_icmp_ne (off := 7) 96 (by decide +kernel) (by decide) (fun c89 => ?_) (fun c89 => ?_)
      · refine p_run (pc' := 97) [.iconst 0] mkX8_two (by decide +kernel) rfl rfl ?_
        refine p_iret rfl rfl (by decide +kernel) ?_
        exact ⟨by rw [two, if_neg (by decide), if_neg (by decide), if_neg (by decide), if_pos rfl]; first | (rw [bIt (by simpa using c89)]; rfl) | (rw [bIf (by simpa using c89)]; rfl), rfl⟩
      · refine p_run (pc' := 97) [.iconst 1, .goto 4] mkX8_two (by decide +kernel) rfl rfl ?_
        refine p_iret rfl rfl (by decide +kernel) ?_
        exact ⟨by rw [two, if_neg (by decide), if_neg (by decide), if_neg (by decide), if_pos rfl]; first | (rw [bIt (by simpa using c89)]; rfl) | (rw [bIf (by simpa using c89)]; rfl), rfl⟩
    | 5, _, hx =>
      have hx : s = Int32.ofInt (-3) := hx
      refine ⟨75, 76, rfl, rfl, ?_⟩
      subst hx
      refine p_run (pc' := 78) [.iload_n 1, .iload_n 2] mkX8_two (by decide +kernel) rfl rfl ?_
      refine p_icmp_ge (off := 7) 85 (by decide +kernel) (by decide) (fun c78 => ?_) (fun c78 => ?_)
      · refine p_run (pc' := 86) [.iconst 0] mkX8_two (by decide +kernel) rfl rfl ?_
        refine p_iret rfl rfl (by decide +kernel) ?_
        exact ⟨by rw [two, if_neg (by decide), if_neg (by decide), if_pos rfl]; first | (rw [bIt (by simpa using c78)]; rfl) | (rw [bIf (by simpa using c78)]; rfl), rfl⟩
      · refine p_run (pc' := 86) [.iconst 1, .goto 4] mkX8_two (by decide +kernel) rfl rfl ?_
        refine p_iret rfl rfl (by decide +kernel) ?_
        exact ⟨by rw [two, if_neg (by decide), if_neg (by decide), if_pos rfl]; first | (rw [bIt (by simpa using c78)]; rfl) | (rw [bIf (by simpa using c78)]; rfl), rfl⟩
    | 6, _, hx =>
      have hx : s = Int32.ofInt (-2) := hx
      refine ⟨61, 62, rfl, rfl, ?_⟩
      subst hx
      refine p_run (pc' := 63) [.iload_n 1] mkX8_two (by decide +kernel) rfl rfl ?_
      refine p_if_eq (off := 11) 74 (by decide +kernel) (by decide) (fun c63 => ?_) (fun c63 => ?_)
      · refine p_run (pc' := 75) [.iconst 0] mkX8_two (by decide +kernel) rfl rfl ?_
        refine p_iret rfl rfl (by decide +kernel) ?_
        exact ⟨by rw [two, if_neg (by decide), if_pos rfl]; first | (rw [bIt (by simp_all)]; rfl) | (rw [bIf (by simp_all)]; rfl), rfl⟩
      · refine p_run (pc' := 67) [.iload_n 2] mkX8_two (by decide +kernel) rfl rfl ?_
        refine p_if_eq (off := 7) 74 (by decide +kernel) (by decide) (fun c67 => ?_) (fun c67 => ?_)
        · refine p_run (pc' := 75) [.iconst 0] mkX8_two (by decide +kernel) rfl rfl ?_
          refine p_iret rfl rfl (by decide +kernel) ?_
          exact ⟨by rw [two, if_neg (by decide), if_pos rfl]; first | (rw [bIt (by simp_all)]; rfl) | (rw [bIf (by simp_all)]; rfl), rfl⟩
        · refine p_run (pc' := 75) [.iconst 1, .goto 4] mkX8_two (by decide +kernel) rfl rfl ?_
          refine p_iret rfl rfl (by decide +kernel) ?_
          exact ⟨by rw [two, if_neg (by decide), if_pos rfl]; first | (rw [bIt (by simp_all)]; rfl) | (rw [bIf (by simp_all)]; rfl), rfl⟩
    | 7, _, hx =>
      have hx : s = Int32.ofInt (-1) := hx
      refine ⟨47, 48, rfl, rfl, ?_⟩
      subst hx
      refine p_run (pc' := 49) [.iload_n 1] mkX8_two (by decide +kernel) rfl rfl ?_
      refine p_if_ne (off := 7) 56 (by decide +kernel) (by decide) (fun c49 => ?_) (fun c49 => ?_)
      · refine p_run (pc' := 61) [.iconst 1, .goto 4] mkX8_two (by decide +kernel) rfl rfl ?_
        refine p_iret rfl rfl (by decide +kernel) ?_
        exact ⟨by rw [two, if_pos rfl]; first | (rw [bIt (by simp_all)]; rfl) | (rw [bIf (by simp_all)]; rfl), rfl⟩
      · refine p_run (pc' := 53) [.iload_n 2] mkX8_two (by decide +kernel) rfl rfl ?_
        refine p_if_eq (off := 7) 60 (by decide +kernel) (by decide) (fun c53 => ?_) (fun c53 => ?_)
        · refine p_run (pc' := 61) [.iconst 0] mkX8_two (by decide +kernel) rfl rfl ?_
          refine p_iret rfl rfl (by decide +kernel) ?_
          exact ⟨by rw [two, if_pos rfl]; first | (rw [bIt (by simp_all)]; rfl) | (rw [bIf (by simp_all)]; rfl), rfl⟩
        · refine p_run (pc' := 61) [.iconst 1, .goto 4] mkX8_two (by decide +kernel) rfl rfl ?_
          refine p_iret rfl rfl (by decide +kernel) ?_
          exact ⟨by rw [two, if_pos rfl]; first | (rw [bIt (by simp_all)]; rfl) | (rw [bIf (by simp_all)]; rfl), rfl⟩
    | j + 8, hj, _ => exact absurd hj (by simp)
  · refine ⟨121, rfl, ?_⟩
    have hn1 : ¬ s = Int32.ofInt (-1) := by rintro rfl; revert hx; decide
    have hn2 : ¬ s = Int32.ofInt (-2) := by rintro rfl; revert hx; decide
    have hn3 : ¬ s = Int32.ofInt (-3) := by rintro rfl; revert hx; decide
    have hn4 : ¬ s = Int32.ofInt (-4) := by rintro rfl; revert hx; decide
    have hn5 : ¬ s = Int32.ofInt (-5) := by rintro rfl; revert hx; decide
    have hn6 : ¬ s = Int32.ofInt (-6) := by rintro rfl; revert hx; decide
    have hn7 : ¬ s = Int32.ofInt (-7) := by rintro rfl; revert hx; decide
    have hn8 : ¬ s = Int32.ofInt (-8) := by rintro rfl; revert hx; decide
    refine p_run (pc' := 122) [.iload_n 2] mkX8_two (by decide +kernel) rfl rfl ?_
    refine p_if_ne (off := 7) 129 (by decide +kernel) (by decide) (fun cz => ?_) (fun cz => ?_)
    · refine p_run (pc' := 131) [.iload_n 1, .iload_n 2] mkX8_two (by decide +kernel) rfl rfl ?_
      refine p_idiv (by decide +kernel) cz ?_
      refine p_iret rfl rfl (by decide +kernel) ?_
      exact ⟨by rw [two, if_neg hn1, if_neg hn2, if_neg hn3, if_neg hn4, if_neg hn5, if_neg hn6, if_neg hn7, if_neg hn8, if_neg cz], rfl⟩
    · refine p_run (pc' := 132) [.iconst 0, .goto 6] mkX8_two (by decide +kernel) rfl rfl ?_
      refine p_iret rfl rfl (by decide +kernel) ?_
      exact ⟨by rw [two, if_neg hn1, if_neg hn2, if_neg hn3, if_neg hn4, if_neg hn5, if_neg hn6, if_neg hn7, if_neg hn8, if_pos cz]; rfl, rfl⟩
