/-! the reference: takesE -/
def nt : Bool → List Int32 → Prop
  | _, [] => True
  | b, x :: r => if x = OPENv then nt true r else if x = NOTv then (b = true ∧ nt true r) else nt false r
theorem nt_op {b : Bool} {x : Int32} {r : List Int32} (h1 : ¬ x = OPENv) (h2 : ¬ x = NOTv) : nt b (x :: r) ↔ nt false r := by rw [nt, if_neg h1, if_neg h2]
theorem nt_open {b : Bool} {r : List Int32} : nt b (OPENv :: r) ↔ nt true r := by rw [nt, if_pos rfl]
theorem nt_not {b : Bool} {r : List Int32} : nt b (NOTv :: r) ↔ (b = true ∧ nt true r) := by rw [nt, if_neg (by decide), if_pos rfl]
theorem stF_nt (m : Nat) : ∀ W C, nt false W → nt false (stF m W C).1 ∧ cnN (stF m W C).1 = cnN W
  | [], C, _ => ⟨trivial, rfl⟩
  | x :: W, C, h => by
    rw [stF]
    split
    · rename_i hx
      by_cases hN : x = NOTv
      · rw [hN, nt_not] at h; exact absurd h.1 (by decide)
      · have := stF_nt m W (x :: C) ((nt_op hx.1 hN).mp h)
        rw [cnN, if_neg hN, Nat.zero_add]
        exact this
    · exact ⟨h, rfl⟩
theorem stF6_nt : ∀ W C, nt true W → nt false (stF 6 W C).1
  | [], C, _ => trivial
  | x :: W, C, h => by
    rw [stF]
    by_cases hO : x = OPENv
    · rw [if_neg (fun q => q.1 hO)]
      rw [hO, nt_open] at h ⊢; exact h
    · by_cases hN : x = NOTv
      · rw [if_pos ⟨hO, by rw [hN]; decide⟩]
        rw [hN, nt_not] at h
        exact stF6_nt W (x :: C) h.2
      · rw [nt_op hO hN] at h
        split
        · exact (stF_nt 6 W (x :: C) h).1
        · exact (nt_op hO hN).mpr h
theorem stF0 : ∀ W C, (stF 0 W C).1 = [] ∨ ∃ r, (stF 0 W C).1 = OPENv :: r
  | [], C => Or.inl rfl
  | x :: W, C => by
    rw [stF]
    by_cases hO : x = OPENv
    · rw [if_neg (fun q => q.1 hO), hO]; exact Or.inr ⟨W, rfl⟩
    · rw [if_pos ⟨hO, Nat.zero_le _⟩]; exact stF0 W (x :: C)
theorem sgV_op (x : Int32) : ¬ sgV x = OPENv ∧ ¬ sgV x = NOTv := by unfold sgV; (repeat' split) <;> decide
def b01 (b : Bool) : Int32 := if b = true then nI 1 else nI 0
theorem b01_or (b : Bool) : b01 b = 0 ∨ b01 b = 1 := by cases b <;> decide
def Mr (n key : Nat) (h : Mm) (m : Mc) : Prop := Lg n m.l ∧ Gs n (h 101) (h 96) m.l ∧ h 96 12 = nI key ∧ SS h m.W m.C ∧ h 96 17 = nI m.at ∧ (∀ j, j ≤ m.pa → h 106 j = b01 (m.ts j)) ∧ m.W.length + m.C.length ≤ m.l.s ∧ cnO m.W = m.pa ∧ m.pa ≤ 8 ∧ nt m.wa m.W
theorem Mr_next {n key : Nat} {h1 h2 : Mm} {l : Lx} {C W : List Int32} {a pa : Nat} {ts : Nat → Bool} {b : Bool} (hl : Lg n l) (hk : l.k ≠ 0) (hg : Gs n (h1 101) (h2 96) (lxN n (h1 101) l)) (hF : Fr [7, 8, 9, 10, 11] h1 h2) (ek : h1 96 12 = nI key) (hS : SS h1 W C) (ea : h1 96 17 = nI a) (ht : ∀ j, j ≤ pa → h1 106 j = b01 (ts j)) (hlen : W.length + C.length ≤ l.s + 1) (ho : cnO W = pa) (hp : pa ≤ 8) (hnt : nt b W) : Mr n key h2 (lxN n (h1 101) l, C, a, W, ts, pa, b) := by
  have hx := lxN_Lg (T := h1 101) hl.2.2.1
  have h3 := hl.2.2.2.2.1 hk
  obtain ⟨s1, s2, s3, s4⟩ := hS
  refine ⟨hx.1, ?_, ?_, ⟨?_, ?_, ?_, ?_⟩, ?_, ?_, ?_, ho, hp, hnt⟩
  · rw [hF.1 101 (by decide)]; exact hg
  · rw [hF.2 12 (by decide), ek]
  · rw [hF.2 19 (by decide), s1]
  · rw [hF.2 16 (by decide), s2]
  · rw [hF.1 105 (by decide)]; exact s3
  · rw [hF.1 104 (by decide)]; exact s4
  · rw [hF.2 17 (by decide), ea]
  · intro j hj; rw [hF.1 106 (by decide)]; exact ht j hj
  · show W.length + C.length ≤ (lxN n (h1 101) l).s
    omega
set_option maxRecDepth 20000 in
set_option maxHeartbeats 4000000 in
theorem takesPart_no (w : Wt) {k : Nat} (hk : 2 ≤ k) (l : Lx) (h : Mm) (e9 : h 96 9 = nI (tkF l)) (h0 : tkF l = 0) : Ok w k MX8_takesPart [.ref 96] h (Rv (nI 0) h) := by
  show Wp w k MX8_takesPart _ 0 [some (.ref 96), none] [] h
  refine p_run (pc' := 5) [.aload_n 0, .getfield 226, .iconst 1] mkX8_takesPart (by decide +kernel) rfl rfl ?_
  rw [e9, h0]
  refine p_icmp_ne (off := 31) 36 (by decide +kernel) (by decide) (fun cq1 => ?_) (fun cq1 => ?_)
  · refine p_run (pc' := 43) [.iconst 0, .istore_n 1, .aload_n 0, .getfield 226, .iconst 2] mkX8_takesPart (by decide +kernel) rfl rfl ?_
    rw [e9, h0]
    refine p_icmp_eq (off := 9) 52 (by decide +kernel) (by decide) (fun cq2 => ?_) (fun cq2 => ?_)
    · exact False.elim (by revert cq2; decide)
    · refine p_run (pc' := 47) [.iload_n 1] mkX8_takesPart (by decide +kernel) rfl rfl ?_
      refine p_if_ne (off := 5) 52 (by decide +kernel) (by decide) (fun cq47 => ?_) (fun cq47 => ?_)
      · exact False.elim (by revert cq47; decide)
      · refine p_run (pc' := 51) [.iconst 0] mkX8_takesPart (by decide +kernel) rfl rfl ?_
        refine p_iret rfl rfl (by decide +kernel) ?_
        exact ⟨rfl, rfl⟩
  · exact False.elim (by revert cq1; decide)
set_option maxRecDepth 20000 in
set_option maxHeartbeats 4000000 in
theorem tE_w (w : Wt) {k : Nat} (hk : 4 ≤ k) (n key : Nat) (hn : n ≤ 96) (hkey : key ≤ 2) (T : Vc) (l : Lx) (C : List Int32) (a : Nat) (W : List Int32) (ts : Nat → Bool) (pa : Nat) (h0 h : Mm) (hT : h 101 = T) (hM : Mr n key h (l, C, a, W, ts, pa, true)) (hF : Fa [96, 104, 105, 106] [7, 8, 9, 10, 11, 16, 17, 19] h0 h) (Q : Option Value → Mm → Prop)
    (hI : ∀ m1 h1 x4, msF n T key (l, C, a, W, ts, pa, true) = .inl m1 → Mr n key h1 m1 → Fa [96, 104, 105, 106] [7, 8, 9, 10, 11, 16, 17, 19] h0 h1 → Wp w k MX8_takesE Q 28 [some (.ref 96), some (.int (nI m1.pa)), some (.int (nI (cnN m1.W))), some (.int (b01 m1.wa)), x4] [] h1)
    (hE : ∀ b m' h', msF n T key (l, C, a, W, ts, pa, true) = .inr (b, m') → Mr n key h' m' → Fa [96, 104, 105, 106] [7, 8, 9, 10, 11, 16, 17, 19] h0 h' → Q (some (.int (b01 b))) h') (x4 : Option Value) :
    Wp w k MX8_takesE Q 28 [some (.ref 96), some (.int (nI pa)), some (.int (nI (cnN W))), some (.int (nI 1)), x4] [] h := by
  obtain ⟨hl, ⟨e6, e7, e8, e9, e10⟩, ek, ⟨s1, s2, s3, s4⟩, ea, ht, hlen, ho, hp, hnt⟩ := hM
  have hM : Mr n key h (l, C, a, W, ts, pa, true) := ⟨hl, ⟨e6, e7, e8, e9, e10⟩, ek, ⟨s1, s2, s3, s4⟩, ea, ht, hlen, ho, hp, hnt⟩
  change h 96 7 = nI l.e at e7
  change h 96 8 = nI l.s at e8
  change h 96 9 = nI (tkF l) at e9
  change l.k ≠ 0 → h 96 10 = vaF (h 101) l ∧ Ge (h 96 11) l at e10
  change h 96 19 = nI W.length at s1
  change h 96 16 = nI C.length at s2
  change stk (h 105) W at s3
  change stk (h 104) C at s4
  change h 96 17 = nI a at ea
  change ∀ j, j ≤ pa → h 106 j = b01 (ts j) at ht
  change W.length + C.length ≤ l.s at hlen
  change cnO W = pa at ho
  change pa ≤ 8 at hp
  change nt true W at hnt
  change Lg n l at hl
  have htk := tk4 l
  have hcn := cnN_le W
  have l1 := hl.2.1
  have l2 := hl.2.2.1
  have l3 := hl.1
  have v3 : tkF l = 3 → h 96 10 = T l.s ∧ l.k ≠ 0 ∧ l.s < l.e := fun q => ⟨by rw [(e10 (tk3 q).1).1, va3 q, hT], (tk3 q).1, hl.2.2.2.2.1 (tk3 q).1⟩
  have h172 : ∀ m1 h1 x2, msF n T key (l, C, a, W, ts, pa, true) = .inl m1 → Mr n key h1 m1 → Fa [96, 104, 105, 106] [7, 8, 9, 10, 11, 16, 17, 19] h0 h1 → Wp w k MX8_takesE Q 172 [some (.ref 96), some (.int (nI m1.pa)), x2, some (.int (b01 m1.wa)), x4] [] h1 := by
    intro m1 h1 x2 q1 q2 q3
    refine p_run (pc' := 173) [.aload_n 0] mkX8_takesE (by decide +kernel) rfl rfl ?_
    refine p_callVv (notsOpen_ok w (k := k - 1) m1.W h1 q2.2.2.2.1.1 q2.2.2.2.1.2.2.1 (by have := q2.2.2.2.2.2.2.1; have := q2.1.1; omega)) kvX8_266 (by decide +kernel) (by decide) rfl (by omega) rfl rfl rfl rfl rfl ?_
    refine p_run (pc' := 28) [.istore_n 2, .goto (-149)] mkX8_takesE (by decide +kernel) rfl rfl ?_
    exact hI m1 h1 x4 q1 q2 q3
  have h158 : ¬ (tkF l = 3 ∧ T l.s = nI 33 ∧ cnN W < 8) → ¬ (tkF l = 3 ∧ T l.s = nI 40 ∧ pa < 8) → Wp w k MX8_takesE Q 158 [some (.ref 96), some (.int (nI pa)), some (.int (nI (cnN W))), some (.int (nI 1)), x4] [] h := by
    intro nb np
    have hms : msF n T key (l, C, a, W, ts, pa, true) = (match lfF T key l with | some x => .inl (lxN n T l, (stF 6 W (x :: C)).2, a + 1, (stF 6 W (x :: C)).1, ts, pa, false) | none => .inr (false, (l, C, a, W, ts, pa, true))) := by
      unfold msF
      rw [if_pos rfl, if_neg nb, if_neg np]
      rfl
    by_cases hk0 : l.k = 0
    · have t0 : tkF l = 0 := (tk0 hl).mpr hk0
      have lfn : lfF T key l = none := lf0 (by omega) (fun z => by omega)
      rw [lfn] at hms
      refine p_run (pc' := 159) [.aload_n 0] mkX8_takesE (by decide +kernel) rfl rfl ?_
      refine p_callVv (takesPart_no w (k := k - 1) (by omega) l h e9 (by omega)) kvX8_262 (by decide +kernel) (by decide) rfl (by omega) rfl rfl rfl rfl rfl ?_
      refine p_if_eq (off := 8) 170 (by decide +kernel) (by decide) (fun cq1 => ?_) (fun cq1 => ?_)
      · refine p_run (pc' := 171) [.iconst 0] mkX8_takesE (by decide +kernel) rfl rfl ?_
        refine p_iret rfl rfl (by decide +kernel) ?_
        exact hE false _ h hms hM hF
      · exact absurd rfl cq1
    · have l4 := hl.2.2.2.2.1 hk0
      refine p_run (pc' := 159) [.aload_n 0] mkX8_takesE (by decide +kernel) rfl rfl ?_
      refine p_callV (takesPart_ok w (k := k - 1) (by omega) n key hn hkey l hl W C h ⟨e6, e7, e8, e9, e10⟩ ek ⟨s1, s2, s3, s4⟩ (by omega)) kvX8_262 (by decide +kernel) (by decide) rfl (by omega) rfl rfl rfl rfl rfl (fun r h' hq => ?_)
      rw [hT] at hq
      cases hlf : lfF T key l with
      | none =>
        rw [hlf] at hq hms
        obtain ⟨rfl, rfl⟩ := hq
        refine p_if_eq (off := 8) 170 (by decide +kernel) (by decide) (fun cq1 => ?_) (fun cq1 => ?_)
        · refine p_run (pc' := 171) [.iconst 0] mkX8_takesE (by decide +kernel) rfl rfl ?_
          refine p_iret rfl rfl (by decide +kernel) ?_
          exact hE false _ _ hms hM hF
        · exact absurd rfl cq1
      | some x =>
        rw [hlf] at hq hms
        obtain ⟨rfl, hg3, hS3, ea3, hF3⟩ := hq
        refine p_if_eq (off := 8) 170 (by decide +kernel) (by decide) (fun cq1 => ?_) (fun cq1 => ?_)
        · exact False.elim (by revert cq1; decide)
        · refine p_run (pc' := 172) [.iconst 0, .istore_n 3, .goto 5] mkX8_takesE (by decide +kernel) rfl rfl ?_
          have hx := lxN_Lg (T := T) l2
          refine h172 _ h' _ hms ⟨hx.1, ?_, ?_, hS3, ?_, ?_, ?_, ?_, hp, stF6_nt _ _ hnt⟩ (hF.tr (hF3.mono (by decide) (by decide)))
          · rw [hF3.1 101 (by decide), hT]; exact hg3
          · rw [hF3.2 12 (by decide)]; exact ek
          · rw [ea3, ea, nI_add]
          · intro j hj; rw [hF3.1 106 (by decide)]; exact ht j hj
          · show (stF 6 W (x :: C)).1.length + (stF 6 W (x :: C)).2.length ≤ (lxN n T l).s
            rw [stF_len]; simp only [List.length_cons]; omega
          · show cnO (stF 6 W (x :: C)).1 = pa
            rw [stF_open]; exact ho
  have h97 : ¬ (tkF l = 3 ∧ T l.s = nI 33 ∧ cnN W < 8) → Wp w k MX8_takesE Q 97 [some (.ref 96), some (.int (nI pa)), some (.int (nI (cnN W))), some (.int (nI 1)), x4] [] h := by
    intro nb
    refine p_run (pc' := 102) [.aload_n 0, .getfield 226, .iconst 3] mkX8_takesE (by decide +kernel) rfl rfl ?_
    rw [e9]
    refine p_icmp_ne (off := 56) 158 (by decide +kernel) (by decide) (fun cq1 => ?_) (fun cq1 => ?_)
    · exact h158 nb (fun q => cq1 (by rw [q.1]; rfl))
    · have t3 : tkF l = 3 := (nI_eq (by omega) (by omega)).mp cq1
      obtain ⟨v10, hk0, l4⟩ := v3 t3
      refine p_run (pc' := 111) [.aload_n 0, .getfield 232, .bipush 40] mkX8_takesE (by decide +kernel) rfl rfl ?_
      rw [v10]
      refine p_icmp_ne (off := 47) 158 (by decide +kernel) (by decide) (fun cq2 => ?_) (fun cq2 => ?_)
      · exact h158 nb (fun q => cq2 (by rw [q.2.1]; rfl))
      · refine p_run (pc' := 117) [.iload_n 1, .bipush 8] mkX8_takesE (by decide +kernel) rfl rfl ?_
        refine p_icmp_ge (off := 41) 158 (by decide +kernel) (by decide) (fun cq3 => ?_) (fun cq3 => ?_)
        · rw [oI, nI_leI (by omega) (by omega)] at cq3
          exact h158 nb (fun q => by omega)
        · rw [oI, nI_leI (by omega) (by omega)] at cq3
          refine p_run (pc' := 130) [.aload_n 0, .getfield 35, .aload_n 0, .getfield 244, .bipush (-11)] mkX8_takesE (by decide +kernel) rfl rfl ?_
          refine p_iast (W.length) (by decide +kernel) rfl rfl (by rw [s1]) (by omega)  ?_
          refine p_run (pc' := 150) [.aload_n 0, .dup, .getfield 244, .iconst 1, .iadd, .putfield 244, .iinc 1 1, .aload_n 0, .getfield 38, .iload_n 1, .iconst 0] mkX8_takesE (by decide +kernel) rfl rfl ?_
          rw [show nI pa + Int32.ofInt 1 = nI (pa + 1) by simp only [oI, nI_add]]
          refine p_zast (pa + 1) (by decide +kernel) rfl rfl rfl (by omega) (Or.inl rfl) ?_
          refine Wp.eqH (h' := up (up (up h 105 W.length OPENv) 96 19 (nI (W.length + 1))) 106 (pa + 1) (nI 0)) (by rw [upN (show 96 ≠ 105 by decide), s1, oI, nI_add]; rfl) ?_
          generalize eh : up (up (up h 105 W.length OPENv) 96 19 (nI (W.length + 1))) 106 (pa + 1) (nI 0) = h1
          have hF1 : Fa [96, 104, 105, 106] [7, 8, 9, 10, 11, 16, 17, 19] h h1 := by rw [← eh]; exact (Fa.tr (Fa.tr (Fa.ar (by decide) (by decide)) (Fa.u1 (by decide) (by decide))) (Fa.ar (by decide) (by decide)))
          have f : ∀ j, j ≠ 19 → h1 96 j = h 96 j := fun j hj => by rw [← eh, upN (by decide), uN hj, upN (by decide)]
          have hS1 : SS h1 (OPENv :: W) C := by rw [← eh]; exact ⟨by rw [upN (by decide), uF]; rfl, by rw [upN (by decide), uN (by decide), upN (by decide)]; exact s2, by rw [upN (by decide), upN (by decide), upS]; exact ⟨upd_s, stk_upd (Nat.le_refl _) s3⟩, by rw [upN (by decide), upN (by decide), upN (by decide)]; exact s4⟩
          have ht1 : ∀ j, j ≤ pa + 1 → h1 106 j = b01 (ubF ts (pa + 1) false j) := by
            intro j hj
            rw [← eh]
            unfold ubF
            by_cases hj2 : j = pa + 1
            · rw [if_pos hj2, hj2, uF]; rfl
            · rw [if_neg hj2, uN hj2, upN (by decide), upN (by decide)]; exact ht j (by omega)
          have t101 : h1 101 = T := by rw [hF1.1 101 (by decide), hT]
          refine p_run (pc' := 152) [.aload_n 0] mkX8_takesE (by decide +kernel) rfl rfl ?_
          refine p_callVo (go_ok w (k := k - 1) (by omega) n hn l l2 h1 (by rw [f 6 (by decide)]; exact e6) (by rw [f 7 (by decide), e7]) (by rw [f 11 (by decide)]; exact (e10 hk0).2)) (fun _ _ q => q.1) kvX8_241 (by decide +kernel) (by decide) rfl (by omega) rfl rfl rfl rfl rfl (fun h' hq => ?_)
          obtain ⟨-, hg3, hF3⟩ := hq
          refine p_run (pc' := 172) [.goto 17] mkX8_takesE (by decide +kernel) rfl rfl ?_
          have hms : msF n T key (l, C, a, W, ts, pa, true) = .inl (lxN n (h1 101) l, C, a, OPENv :: W, ubF ts (pa + 1) false, pa + 1, true) := by
            rw [t101]
            unfold msF
            rw [if_pos rfl, if_neg nb, if_pos ⟨t3, cq2, by show pa < 8; omega⟩]
          exact h172 _ h' _ hms (Mr_next hl hk0 hg3 hF3 (by rw [f 12 (by decide)]; exact ek) hS1 (by rw [f 17 (by decide)]; exact ea) ht1 (by simp only [List.length_cons]; omega) (by rw [cnO, if_pos rfl, ho, Nat.add_comm]) (by omega) (nt_open.mpr hnt)) ((hF.tr hF1).tr ((Fr.fa (A := [96, 104, 105, 106]) (by decide) hF3).mono (by decide) (by decide)))
  refine p_run (pc' := 29) [.iload_n 3] mkX8_takesE (by decide +kernel) rfl rfl ?_
  refine p_if_ne (off := 10) 39 (by decide +kernel) (by decide) (fun cq0 => ?_) (fun cq0 => ?_)
  · refine p_run (pc' := 40) [.iload_n 3] mkX8_takesE (by decide +kernel) rfl rfl ?_
    refine p_if_eq (off := 140) 180 (by decide +kernel) (by decide) (fun cqa => ?_) (fun cqa => ?_)
    · exact False.elim (by revert cqa; decide)
    · refine p_run (pc' := 48) [.aload_n 0, .getfield 226, .iconst 3] mkX8_takesE (by decide +kernel) rfl rfl ?_
      rw [e9]
      refine p_icmp_ne (off := 49) 97 (by decide +kernel) (by decide) (fun cq1 => ?_) (fun cq1 => ?_)
      · exact h97 (fun q => cq1 (by rw [q.1]; rfl))
      · have t3 : tkF l = 3 := (nI_eq (by omega) (by omega)).mp cq1
        obtain ⟨v10, hk0, l4⟩ := v3 t3
        refine p_run (pc' := 57) [.aload_n 0, .getfield 232, .bipush 33] mkX8_takesE (by decide +kernel) rfl rfl ?_
        rw [v10]
        refine p_icmp_ne (off := 40) 97 (by decide +kernel) (by decide) (fun cq2 => ?_) (fun cq2 => ?_)
        · exact h97 (fun q => cq2 (by rw [q.2.1]; rfl))
        · refine p_run (pc' := 63) [.iload_n 2, .bipush 8] mkX8_takesE (by decide +kernel) rfl rfl ?_
          refine p_icmp_ge (off := 34) 97 (by decide +kernel) (by decide) (fun cq3 => ?_) (fun cq3 => ?_)
          · rw [oI, nI_leI (by omega) (by omega)] at cq3
            exact h97 (fun q => by omega)
          · rw [oI, nI_leI (by omega) (by omega)] at cq3
            refine p_run (pc' := 76) [.aload_n 0, .getfield 35, .aload_n 0, .getfield 244, .bipush (-10)] mkX8_takesE (by decide +kernel) rfl rfl ?_
            refine p_iast (W.length) (by decide +kernel) rfl rfl (by rw [s1]) (by omega)  ?_
            refine p_run (pc' := 91) [.aload_n 0, .dup, .getfield 244, .iconst 1, .iadd, .putfield 244, .iinc 2 1, .aload_n 0] mkX8_takesE (by decide +kernel) rfl rfl ?_
            refine Wp.eqH (h' := up (up h 105 W.length NOTv) 96 19 (nI (W.length + 1))) (by rw [upN (show 96 ≠ 105 by decide), s1, oI, nI_add]) ?_
            generalize eh : up (up h 105 W.length NOTv) 96 19 (nI (W.length + 1)) = h1
            have hF1 : Fa [96, 104, 105, 106] [7, 8, 9, 10, 11, 16, 17, 19] h h1 := by rw [← eh]; exact (Fa.tr (Fa.ar (by decide) (by decide)) (Fa.u1 (by decide) (by decide)))
            have f : ∀ j, j ≠ 19 → h1 96 j = h 96 j := fun j hj => by rw [← eh, uN hj, upN (by decide)]
            have hS1 : SS h1 (NOTv :: W) C := by rw [← eh]; exact ⟨by rw [uF]; rfl, by rw [uN (by decide), upN (by decide)]; exact s2, by rw [upN (by decide), upS]; exact ⟨upd_s, stk_upd (Nat.le_refl _) s3⟩, by rw [upN (by decide), upN (by decide)]; exact s4⟩
            have t101 : h1 101 = T := by rw [hF1.1 101 (by decide), hT]
            refine p_callVo (go_ok w (k := k - 1) (by omega) n hn l l2 h1 (by rw [f 6 (by decide)]; exact e6) (by rw [f 7 (by decide), e7]) (by rw [f 11 (by decide)]; exact (e10 hk0).2)) (fun _ _ q => q.1) kvX8_241 (by decide +kernel) (by decide) rfl (by omega) rfl rfl rfl rfl rfl (fun h' hq => ?_)
            obtain ⟨-, hg3, hF3⟩ := hq
            refine p_run (pc' := 172) [.goto 78] mkX8_takesE (by decide +kernel) rfl rfl ?_
            have hms : msF n T key (l, C, a, W, ts, pa, true) = .inl (lxN n (h1 101) l, C, a, NOTv :: W, ts, pa, true) := by
              rw [t101]
              unfold msF
              rw [if_pos rfl, if_pos ⟨t3, cq2, by show cnN W < 8; omega⟩]
            exact h172 _ h' _ hms (Mr_next hl hk0 hg3 hF3 (by rw [f 12 (by decide)]; exact ek) hS1 (by rw [f 17 (by decide)]; exact ea) (fun j hj => by rw [← eh, upN (by decide), upN (by decide)]; exact ht j hj) (by simp only [List.length_cons]; omega) (by rw [cnO, if_neg (by decide), ho, Nat.zero_add]) hp (nt_not.mpr ⟨rfl, hnt⟩)) ((hF.tr hF1).tr ((Fr.fa (A := [96, 104, 105, 106]) (by decide) hF3).mono (by decide) (by decide)))
  · exact False.elim (by revert cq0; decide)
set_option maxRecDepth 20000 in
set_option maxHeartbeats 4000000 in
theorem tE_n (w : Wt) {k : Nat} (hk : 4 ≤ k) (n key : Nat) (hn : n ≤ 96) (hkey : key ≤ 2) (T : Vc) (l : Lx) (C : List Int32) (a : Nat) (W : List Int32) (ts : Nat → Bool) (pa : Nat) (h0 h : Mm) (hT : h 101 = T) (hM : Mr n key h (l, C, a, W, ts, pa, false)) (hF : Fa [96, 104, 105, 106] [7, 8, 9, 10, 11, 16, 17, 19] h0 h) (Q : Option Value → Mm → Prop)
    (hI : ∀ m1 h1 x4, msF n T key (l, C, a, W, ts, pa, false) = .inl m1 → Mr n key h1 m1 → Fa [96, 104, 105, 106] [7, 8, 9, 10, 11, 16, 17, 19] h0 h1 → Wp w k MX8_takesE Q 28 [some (.ref 96), some (.int (nI m1.pa)), some (.int (nI (cnN m1.W))), some (.int (b01 m1.wa)), x4] [] h1)
    (hE : ∀ b m' h', msF n T key (l, C, a, W, ts, pa, false) = .inr (b, m') → Mr n key h' m' → Fa [96, 104, 105, 106] [7, 8, 9, 10, 11, 16, 17, 19] h0 h' → Q (some (.int (b01 b))) h') (x4 : Option Value) :
    Wp w k MX8_takesE Q 28 [some (.ref 96), some (.int (nI pa)), some (.int (nI (cnN W))), some (.int (nI 0)), x4] [] h := by
  obtain ⟨hl, ⟨e6, e7, e8, e9, e10⟩, ek, ⟨s1, s2, s3, s4⟩, ea, ht, hlen, ho, hp, hnt⟩ := hM
  have hM : Mr n key h (l, C, a, W, ts, pa, false) := ⟨hl, ⟨e6, e7, e8, e9, e10⟩, ek, ⟨s1, s2, s3, s4⟩, ea, ht, hlen, ho, hp, hnt⟩
  change h 96 7 = nI l.e at e7
  change h 96 8 = nI l.s at e8
  change h 96 9 = nI (tkF l) at e9
  change l.k ≠ 0 → h 96 10 = vaF (h 101) l ∧ Ge (h 96 11) l at e10
  change h 96 19 = nI W.length at s1
  change h 96 16 = nI C.length at s2
  change stk (h 105) W at s3
  change stk (h 104) C at s4
  change h 96 17 = nI a at ea
  change ∀ j, j ≤ pa → h 106 j = b01 (ts j) at ht
  change W.length + C.length ≤ l.s at hlen
  change cnO W = pa at ho
  change pa ≤ 8 at hp
  change nt false W at hnt
  change Lg n l at hl
  have htk := tk4 l
  have hcn := cnN_le W
  have l1 := hl.2.1
  have l2 := hl.2.2.1
  have l3 := hl.1
  have v3 : tkF l = 3 → h 96 10 = T l.s ∧ l.k ≠ 0 ∧ l.s < l.e := fun q => ⟨by rw [(e10 (tk3 q).1).1, va3 q, hT], (tk3 q).1, hl.2.2.2.2.1 (tk3 q).1⟩
  have h268 : ¬ tkF l = 0 → ¬ (tkF l = 3 ∧ T l.s = nI 41 ∧ 0 < pa) → ¬ sgF T l = 0 → ¬ (rkF (sgF T l) = 3 ∧ ts pa = true) → Wp w k MX8_takesE Q 268 [some (.ref 96), some (.int (nI pa)), some (.int (nI (cnN W))), some (.int (nI 0)), some (.int (sgF T l))] [] h := by
    intro n0 nc sg0 nts
    have t3 : tkF l = 3 := Classical.byContradiction (fun q => sg0 (by unfold sgF; rw [if_neg q]; rfl))
    obtain ⟨v10, hk0, l4⟩ := v3 t3
    have hms : msF n T key (l, C, a, W, ts, pa, false) = .inl (lxN n T l, (stF (rkF (sgF T l)) W C).2, a, sgF T l :: (stF (rkF (sgF T l)) W C).1, ubF ts pa (tsF (sgF T l) (ts pa)), pa, true) := by
      unfold msF
      rw [if_neg (show ¬ false = true by decide), if_neg n0, if_neg nc, if_neg (fun q => q.elim sg0 nts)]
    have sgn : ¬ sgF T l = OPENv ∧ ¬ sgF T l = NOTv := by
      unfold sgF
      rw [if_pos t3]
      exact sgV_op _
    have hr6 := rk6 (sgF T l)
    generalize sgF T l = sg at *
    have h305 : Wp w k MX8_takesE Q 305 [some (.ref 96), some (.int (nI pa)), some (.int (nI (cnN W))), some (.int (nI 0)), some (.int sg)] [.int (b01 (tsF sg (ts pa))), .int (nI pa), .ref 106] h := by
      refine p_zast (pa) (by decide +kernel) rfl rfl rfl (by omega) (b01_or _) ?_
      generalize eh : up h 106 pa (b01 (tsF sg (ts pa))) = h1
      have hF1 : Fa [96, 104, 105, 106] [7, 8, 9, 10, 11, 16, 17, 19] h h1 := by rw [← eh]; exact Fa.ar (by decide) (by decide)
      have f : ∀ j, h1 96 j = h 96 j := fun j => by rw [← eh, upN (by decide)]
      have hS1 : SS h1 W C := by rw [← eh]; exact ⟨by rw [upN (by decide)]; exact s1, by rw [upN (by decide)]; exact s2, by rw [upN (by decide)]; exact s3, by rw [upN (by decide)]; exact s4⟩
      have ht1 : ∀ j, j ≤ pa → h1 106 j = b01 (ubF ts pa (tsF sg (ts pa)) j) := by
        intro j hj
        rw [← eh]
        unfold ubF
        by_cases hj2 : j = pa
        · rw [if_pos hj2, hj2, uF]
        · rw [if_neg hj2, uN hj2]; exact ht j hj
      clear eh
      refine p_run (pc' := 309) [.aload_n 0, .iload 4] mkX8_takesE (by decide +kernel) rfl rfl ?_
      refine p_callSv (rank_ok w (k := k - 1) _ _) ksX8_247 (by decide +kernel) (by omega) rfl rfl rfl rfl rfl ?_
      refine p_callVo (settle_ok w (k := k - 1) (by omega) (rkF sg) hr6 W C h1 (by omega) hS1) (fun _ _ q => q.1) kvX8_259 (by decide +kernel) (by decide) rfl (by omega) rfl rfl rfl rfl rfl (fun h' hq => ?_)
      obtain ⟨-, hS2, hF2⟩ := hq
      obtain ⟨q1, q2, q3, q4⟩ := hS2
      have hln := stF_len (rkF sg) W C
      generalize eW : (stF (rkF sg) W C).1 = W' at *
      generalize eC : (stF (rkF sg) W C).2 = C' at *
      rename Mm => h2
      refine p_run (pc' := 325) [.aload_n 0, .getfield 35, .aload_n 0, .getfield 244, .iload 4] mkX8_takesE (by decide +kernel) rfl rfl ?_
      refine p_iast (W'.length) (by decide +kernel) rfl rfl (by rw [q1]) (by omega)  ?_
      refine p_run (pc' := 339) [.aload_n 0, .dup, .getfield 244, .iconst 1, .iadd, .putfield 244, .iconst 1, .istore_n 3, .aload_n 0] mkX8_takesE (by decide +kernel) rfl rfl ?_
      refine Wp.eqH (h' := up (up h2 105 W'.length sg) 96 19 (nI (W'.length + 1))) (by rw [upN (show 96 ≠ 105 by decide), q1, oI, nI_add]) ?_
      generalize eh : up (up h2 105 W'.length sg) 96 19 (nI (W'.length + 1)) = h3
      have hF3 : Fa [96, 104, 105, 106] [7, 8, 9, 10, 11, 16, 17, 19] h2 h3 := by rw [← eh]; exact (Fa.tr (Fa.ar (by decide) (by decide)) (Fa.u1 (by decide) (by decide)))
      have f3 : ∀ j, j ≠ 19 → j ≠ 16 → h3 96 j = h 96 j := fun j hj hj2 => by rw [← eh, uN hj, upN (by decide), hF2.2 j (by simp; omega), f]
      have f16 : h3 96 16 = nI C'.length := by rw [← eh, uN (by decide), upN (by decide)]; exact q2
      have hS3 : SS h3 (sg :: W') C' := by rw [← eh]; exact ⟨by rw [uF]; rfl, by rw [uN (by decide), upN (by decide)]; exact q2, by rw [upN (by decide), upS]; exact ⟨upd_s, stk_upd (Nat.le_refl _) q3⟩, by rw [upN (by decide), upN (by decide)]; exact q4⟩
      have t101 : h3 101 = T := by rw [hF3.1 101 (by decide), hF2.1 101 (by decide), hF1.1 101 (by decide), hT]
      have t106 : h3 106 = h1 106 := by rw [← eh, upN (by decide), upN (by decide), hF2.1 106 (by decide)]
      refine p_callVo (go_ok w (k := k - 1) (by omega) n hn l l2 h3 (by rw [f3 6 (by decide) (by decide)]; exact e6) (by rw [f3 7 (by decide) (by decide), e7]) (by rw [f3 11 (by decide) (by decide)]; exact (e10 hk0).2)) (fun _ _ q => q.1) kvX8_241 (by decide +kernel) (by decide) rfl (by omega) rfl rfl rfl rfl rfl (fun h' hq => ?_)
      obtain ⟨-, hg4, hF4⟩ := hq
      refine p_run (pc' := 28) [.goto (-314)] mkX8_takesE (by decide +kernel) rfl rfl ?_
      have hnt2 := stF_nt (rkF sg) W C hnt
      have hop := stF_open (rkF sg) W C
      rw [eW] at hnt2 hop
      have hres := hI _ h' (some (.int sg)) (by rw [hms, ← t101]) (Mr_next hl hk0 hg4 hF4 (by rw [f3 12 (by decide) (by decide)]; exact ek) hS3 (by rw [f3 17 (by decide) (by decide)]; exact ea) (fun j hj => by rw [t106]; exact ht1 j hj) (by simp only [List.length_cons]; omega) (by rw [cnO, if_neg sgn.1, hop, ho, Nat.zero_add]) hp ((nt_op sgn.1 sgn.2).mpr hnt2.1)) (((hF.tr hF1).tr (hF2.mono (by decide) (by decide))).tr (hF3.tr ((Fr.fa (A := [96, 104, 105, 106]) (by decide) hF4).mono (by decide) (by decide))))
      refine Wp.eqL ?_ hres
      show _ = ([some (.ref 96), some (.int (nI pa)), some (.int (nI (cnN (sg :: W')))), some (.int (b01 true)), some (.int sg)] : List (Option Value))
      rw [cnN, if_neg sgn.2, Nat.zero_add, hnt2.2]
      rfl
    refine p_run (pc' := 275) [.aload_n 0, .getfield 38, .iload_n 1, .iload 4] mkX8_takesE (by decide +kernel) rfl rfl ?_
    refine p_callSv (rank_ok w (k := k - 1) _ _) ksX8_247 (by decide +kernel) (by omega) rfl rfl rfl rfl rfl ?_
    refine p_run (pc' := 279) [.iconst 3] mkX8_takesE (by decide +kernel) rfl rfl ?_
    refine p_icmp_eq (off := 21) 300 (by decide +kernel) (by decide) (fun cq1 => ?_) (fun cq1 => ?_)
    · have r3 : rkF sg = 3 := (nI_eq (by omega) (by omega)).mp cq1
      refine p_run (pc' := 305) [.iconst 1, .goto 4] mkX8_takesE (by decide +kernel) rfl rfl ?_
      refine Wp.eqS ?_ h305
      unfold tsF; rw [decide_eq_true r3]; rfl
    · have n3 : ¬ rkF sg = 3 := fun q => cq1 (by rw [q]; rfl)
      refine p_run (pc' := 284) [.iload 4] mkX8_takesE (by decide +kernel) rfl rfl ?_
      refine p_callSv (rank_ok w (k := k - 1) _ _) ksX8_247 (by decide +kernel) (by omega) rfl rfl rfl rfl rfl ?_
      refine p_run (pc' := 288) [.iconst 3] mkX8_takesE (by decide +kernel) rfl rfl ?_
      refine p_icmp_le (off := 16) 304 (by decide +kernel) (by decide) (fun cq2 => ?_) (fun cq2 => ?_)
      · rw [oI, nI_leI (by omega) (by omega)] at cq2
        refine p_run (pc' := 305) [.iconst 0] mkX8_takesE (by decide +kernel) rfl rfl ?_
        refine Wp.eqS ?_ h305
        unfold tsF; rw [decide_eq_false n3, decide_eq_false (by omega)]; rfl
      · rw [oI, nI_leI (by omega) (by omega)] at cq2
        refine p_run (pc' := 296) [.aload_n 0, .getfield 38, .iload_n 1] mkX8_takesE (by decide +kernel) rfl rfl ?_
        refine p_zald pa (by decide +kernel) rfl rfl rfl (by omega) ?_
        rw [ht pa (Nat.le_refl _)]
        refine p_if_eq (off := 7) 304 (by decide +kernel) (by decide) (fun cq3 => ?_) (fun cq3 => ?_)
        · have hts : ts pa = false := by cases q : ts pa with | true => (rw [q] at cq3; exact absurd cq3 (by decide)) | false => rfl
          refine p_run (pc' := 305) [.iconst 0] mkX8_takesE (by decide +kernel) rfl rfl ?_
          refine Wp.eqS ?_ h305
          unfold tsF; rw [decide_eq_false n3, hts, Bool.and_false]; rfl
        · have hts : ts pa = true := by cases q : ts pa with | true => rfl | false => (rw [q] at cq3; exact absurd rfl cq3)
          refine p_run (pc' := 305) [.iconst 1, .goto 4] mkX8_takesE (by decide +kernel) rfl rfl ?_
          refine Wp.eqS ?_ h305
          unfold tsF; rw [decide_eq_false n3, hts, decide_eq_true (by omega)]; rfl
  have h237 : ¬ tkF l = 0 → ¬ (tkF l = 3 ∧ T l.s = nI 41 ∧ 0 < pa) → Wp w k MX8_takesE Q 237 [some (.ref 96), some (.int (nI pa)), some (.int (nI (cnN W))), some (.int (nI 0)), x4] [] h := by
    intro n0 nc
    have hk0 : l.k ≠ 0 := fun q => n0 ((tk0 hl).mpr q)
    have hbad : (sgF T l = 0 ∨ (rkF (sgF T l) = 3 ∧ ts pa = true)) → msF n T key (l, C, a, W, ts, pa, false) = .inr (false, (l, C, a, W, ts, pa, false)) := fun q => by
      unfold msF
      rw [if_neg (show ¬ false = true by decide), if_neg n0, if_neg nc, if_pos q]
    refine p_run (pc' := 238) [.aload_n 0] mkX8_takesE (by decide +kernel) rfl rfl ?_
    refine p_callVv (signHere_ok w (k := k - 1) l h e9 (fun _ => (e10 hk0).1)) kvX8_269 (by decide +kernel) (by decide) rfl (by omega) rfl rfl rfl rfl rfl ?_
    rw [hT]
    refine p_run (pc' := 245) [.istore 4, .iload 4] mkX8_takesE (by decide +kernel) rfl rfl ?_
    refine p_if_eq (off := 21) 266 (by decide +kernel) (by decide) (fun cq1 => ?_) (fun cq1 => ?_)
    · refine p_run (pc' := 267) [.iconst 0] mkX8_takesE (by decide +kernel) rfl rfl ?_
      refine p_iret rfl rfl (by decide +kernel) ?_
      exact hE false _ h (hbad (Or.inl cq1)) hM hF
    · have hr6 := rk6 (sgF T l)
      refine p_run (pc' := 250) [.iload 4] mkX8_takesE (by decide +kernel) rfl rfl ?_
      refine p_callSv (rank_ok w (k := k - 1) _ _) ksX8_247 (by decide +kernel) (by omega) rfl rfl rfl rfl rfl ?_
      refine p_run (pc' := 254) [.iconst 3] mkX8_takesE (by decide +kernel) rfl rfl ?_
      refine p_icmp_ne (off := 14) 268 (by decide +kernel) (by decide) (fun cq2 => ?_) (fun cq2 => ?_)
      · exact h268 n0 nc cq1 (fun q => cq2 (by rw [q.1]; rfl))
      · have r3 : rkF (sgF T l) = 3 := (nI_eq (by omega) (by omega)).mp cq2
        refine p_run (pc' := 262) [.aload_n 0, .getfield 38, .iload_n 1] mkX8_takesE (by decide +kernel) rfl rfl ?_
        refine p_zald pa (by decide +kernel) rfl rfl rfl (by omega) ?_
        rw [ht pa (Nat.le_refl _)]
        refine p_if_eq (off := 5) 268 (by decide +kernel) (by decide) (fun cq3 => ?_) (fun cq3 => ?_)
        · exact h268 n0 nc cq1 (fun q => by rw [q.2] at cq3; exact absurd cq3 (by decide))
        · have hts : ts pa = true := by cases q : ts pa with | true => rfl | false => (rw [q] at cq3; exact absurd rfl cq3)
          refine p_run (pc' := 267) [.iconst 0] mkX8_takesE (by decide +kernel) rfl rfl ?_
          refine p_iret rfl rfl (by decide +kernel) ?_
          exact hE false _ h (hbad (Or.inr ⟨r3, hts⟩)) hM hF
  refine p_run (pc' := 29) [.iload_n 3] mkX8_takesE (by decide +kernel) rfl rfl ?_
  refine p_if_ne (off := 10) 39 (by decide +kernel) (by decide) (fun cq0 => ?_) (fun cq0 => ?_)
  · exact absurd rfl cq0
  · refine p_run (pc' := 36) [.aload_n 0, .getfield 226] mkX8_takesE (by decide +kernel) rfl rfl ?_
    rw [e9]
    refine p_if_eq (off := 309) 345 (by decide +kernel) (by decide) (fun cqa => ?_) (fun cqa => ?_)
    · have t0 : tkF l = 0 := (nI_eq0 (by omega)).mp cqa
      have hms : msF n T key (l, C, a, W, ts, pa, false) = .inr (decide (pa = 0), (l, (stF 0 W C).2, a, (stF 0 W C).1, ts, pa, false)) := by
        unfold msF
        rw [if_neg (show ¬ false = true by decide), if_pos t0]
      refine p_run (pc' := 347) [.aload_n 0, .iconst 0] mkX8_takesE (by decide +kernel) rfl rfl ?_
      refine p_callVo (settle_ok w (k := k - 1) (by omega) 0 (by omega) W C h (by omega) ⟨s1, s2, s3, s4⟩) (fun _ _ q => q.1) kvX8_259 (by decide +kernel) (by decide) rfl (by omega) rfl rfl rfl rfl rfl (fun h' hq => ?_)
      obtain ⟨-, hS2, hF2⟩ := hq
      have hM2 : Mr n key h' (l, (stF 0 W C).2, a, (stF 0 W C).1, ts, pa, false) := ⟨hl, by rw [hF2.1 101 (by decide)]; exact Gs.of ⟨e6, e7, e8, e9, e10⟩ (fun j h1 h2 => hF2.2 j (by simp; omega)), by rw [hF2.2 12 (by decide)]; exact ek, hS2, by rw [hF2.2 17 (by decide)]; exact ea, fun j hj => by rw [hF2.1 106 (by decide)]; exact ht j hj, by show (stF 0 W C).1.length + (stF 0 W C).2.length ≤ l.s; rw [stF_len]; omega, by show cnO (stF 0 W C).1 = pa; rw [stF_open]; exact ho, hp, (stF_nt 0 W C hnt).1⟩
      have hq := hE _ _ h' hms hM2 (hF.tr (hF2.mono (by decide) (by decide)))
      refine p_run (pc' := 351) [.iload_n 1] mkX8_takesE (by decide +kernel) rfl rfl ?_
      refine p_if_ne (off := 7) 358 (by decide +kernel) (by decide) (fun cqb => ?_) (fun cqb => ?_)
      · rw [nI_eq0 (by omega)] at cqb
        refine p_run (pc' := 359) [.iconst 0] mkX8_takesE (by decide +kernel) rfl rfl ?_
        refine p_iret rfl rfl (by decide +kernel) ?_
        rw [decide_eq_false cqb] at hq; exact hq
      · rw [nI_eq0 (by omega)] at cqb
        refine p_run (pc' := 359) [.iconst 1, .goto 4] mkX8_takesE (by decide +kernel) rfl rfl ?_
        refine p_iret rfl rfl (by decide +kernel) ?_
        rw [decide_eq_true cqb] at hq; exact hq
    · have n0 : ¬ tkF l = 0 := fun q => cqa (by rw [q]; rfl)
      refine p_run (pc' := 40) [.iload_n 3] mkX8_takesE (by decide +kernel) rfl rfl ?_
      refine p_if_eq (off := 140) 180 (by decide +kernel) (by decide) (fun cqb => ?_) (fun cqb => ?_)
      · refine p_run (pc' := 185) [.aload_n 0, .getfield 226, .iconst 3] mkX8_takesE (by decide +kernel) rfl rfl ?_
        rw [e9]
        refine p_icmp_ne (off := 52) 237 (by decide +kernel) (by decide) (fun cq1 => ?_) (fun cq1 => ?_)
        · exact h237 n0 (fun q => cq1 (by rw [q.1]; rfl))
        · have t3 : tkF l = 3 := (nI_eq (by omega) (by omega)).mp cq1
          obtain ⟨v10, hk0, l4⟩ := v3 t3
          refine p_run (pc' := 194) [.aload_n 0, .getfield 232, .bipush 41] mkX8_takesE (by decide +kernel) rfl rfl ?_
          rw [v10]
          refine p_icmp_ne (off := 43) 237 (by decide +kernel) (by decide) (fun cq2 => ?_) (fun cq2 => ?_)
          · exact h237 n0 (fun q => cq2 (by rw [q.2.1]; rfl))
          · refine p_run (pc' := 198) [.iload_n 1] mkX8_takesE (by decide +kernel) rfl rfl ?_
            refine p_if_le (off := 39) 237 (by decide +kernel) (by decide) (fun cq3 => ?_) (fun cq3 => ?_)
            · rw [show (0 : Int32) = nI 0 from rfl, nI_leI (by omega) (by omega)] at cq3
              exact h237 n0 (fun q => by omega)
            · rw [show (0 : Int32) = nI 0 from rfl, nI_leI (by omega) (by omega)] at cq3
              have hms : msF n T key (l, C, a, W, ts, pa, false) = .inl (lxN n T l, (stF 6 (stF 0 W C).1.tail (stF 0 W C).2).2, a, (stF 6 (stF 0 W C).1.tail (stF 0 W C).2).1, ts, pa - 1, false) := by
                unfold msF
                rw [if_neg (show ¬ false = true by decide), if_neg n0, if_pos ⟨t3, cq2, by show 0 < pa; omega⟩]
              refine p_run (pc' := 203) [.aload_n 0, .iconst 0] mkX8_takesE (by decide +kernel) rfl rfl ?_
              refine p_callVo (settle_ok w (k := k - 1) (by omega) 0 (by omega) W C h (by omega) ⟨s1, s2, s3, s4⟩) (fun _ _ q => q.1) kvX8_259 (by decide +kernel) (by decide) rfl (by omega) rfl rfl rfl rfl rfl (fun h' hq => ?_)
              obtain ⟨-, hS2, hF2⟩ := hq
              have hln := stF_len 0 W C
              have hop := stF_open 0 W C
              have hnt2 := stF_nt 0 W C hnt
              obtain ⟨r, hr⟩ : ∃ r, (stF 0 W C).1 = OPENv :: r := by
                rcases stF0 W C with q | q
                · rw [q] at hop; simp only [cnO] at hop; omega
                · exact q
              rw [hr] at hms hS2 hln hop hnt2
              generalize eC : (stF 0 W C).2 = C' at *
              rename Mm => h2
              obtain ⟨q1, q2, q3, q4⟩ := hS2
              simp only [List.length_cons] at hln q1
              rw [cnO, if_pos rfl] at hop
              have hnt3 := nt_open.mp hnt2.1
              refine p_run (pc' := 222) [.aload_n 0, .dup, .getfield 244, .iconst 1, .isub, .putfield 244, .iinc 1 (-1), .aload_n 0, .bipush 6] mkX8_takesE (by decide +kernel) rfl rfl ?_
              refine Wp.eqH (h' := up h2 96 19 (nI r.length)) (by rw [q1, oI, nIs (by omega), Nat.add_sub_cancel]) ?_
              refine Wp.eqL (L' := [some (.ref 96), some (.int (nI (pa - 1))), some (.int (nI (cnN W))), some (.int (nI 0)), x4]) (by rw [nIdec (by omega)]) ?_
              generalize eh : up h2 96 19 (nI r.length) = h3
              have hS3 : SS h3 r C' := by rw [← eh]; exact ⟨uF, by rw [uN (by decide)]; exact q2, by rw [upN (by decide)]; exact q3.2, by rw [upN (by decide)]; exact q4⟩
              have hF3 : Fa [96, 104, 105, 106] [7, 8, 9, 10, 11, 16, 17, 19] h2 h3 := by rw [← eh]; exact Fa.u1 (by decide) (by decide)
              have f3 : ∀ j, j ≠ 19 → j ≠ 16 → h3 96 j = h 96 j := fun j hj hj2 => by rw [← eh, uN hj, hF2.2 j (by simp; omega)]
              have e3106 : h3 106 = h2 106 := by rw [← eh, upN (by decide)]
              clear eh
              refine p_callVo (settle_ok w (k := k - 1) (by omega) 6 (by omega) r C' h3 (by omega) hS3) (fun _ _ q => q.1) kvX8_259 (by decide +kernel) (by decide) rfl (by omega) rfl rfl rfl rfl rfl (fun h' hq => ?_)
              obtain ⟨-, hS4, hF4⟩ := hq
              rename Mm => h4
              have hln2 := stF_len 6 r C'
              have hop2 := stF_open 6 r C'
              have hnt4 := stF6_nt r C' hnt3
              change msF n T key (l, C, a, W, ts, pa, false) = .inl (lxN n T l, (stF 6 r C').2, a, (stF 6 r C').1, ts, pa - 1, false) at hms
              generalize eW3 : (stF 6 r C').1 = W3 at *
              generalize eC3 : (stF 6 r C').2 = C3 at *
              have f4 : ∀ j, j ≠ 19 → j ≠ 16 → h4 96 j = h 96 j := fun j hj hj2 => by rw [hF4.2 j (by simp; omega), f3 j hj hj2]
              refine p_run (pc' := 226) [.aload_n 0] mkX8_takesE (by decide +kernel) rfl rfl ?_
              refine p_callVv (notsOpen_ok w (k := k - 1) W3 h4 hS4.1 hS4.2.2.1 (by omega)) kvX8_266 (by decide +kernel) (by decide) rfl (by omega) rfl rfl rfl rfl rfl ?_
              refine p_run (pc' := 231) [.istore_n 2, .aload_n 0] mkX8_takesE (by decide +kernel) rfl rfl ?_
              have t101 : h4 101 = T := by rw [hF4.1 101 (by decide), hF3.1 101 (by decide), hF2.1 101 (by decide), hT]
              have t106 : h4 106 = h 106 := by rw [hF4.1 106 (by decide), e3106, hF2.1 106 (by decide)]
              refine p_callVo (go_ok w (k := k - 1) (by omega) n hn l l2 h4 (by rw [f4 6 (by decide) (by decide)]; exact e6) (by rw [f4 7 (by decide) (by decide), e7]) (by rw [f4 11 (by decide) (by decide)]; exact (e10 hk0).2)) (fun _ _ q => q.1) kvX8_241 (by decide +kernel) (by decide) rfl (by omega) rfl rfl rfl rfl rfl (fun h' hq => ?_)
              obtain ⟨-, hg5, hF5⟩ := hq
              refine p_run (pc' := 28) [.goto (-206)] mkX8_takesE (by decide +kernel) rfl rfl ?_
              have hres := hI _ h' x4 (by rw [hms, ← t101]) (Mr_next hl hk0 hg5 hF5 (by rw [f4 12 (by decide) (by decide)]; exact ek) hS4 (by rw [f4 17 (by decide) (by decide)]; exact ea) (fun j hj => by rw [t106]; exact ht j (by omega)) (by omega) (by rw [hop2]; omega) (by omega) hnt4) (((hF.tr (hF2.mono (by decide) (by decide))).tr (hF3.tr (hF4.mono (by decide) (by decide)))).tr ((Fr.fa (A := [96, 104, 105, 106]) (by decide) hF5).mono (by decide) (by decide)))
              exact hres
      · exact absurd rfl cqb
