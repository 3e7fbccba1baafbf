/-! the class's part -/
theorem tsF_lo {s : Int32} {b : Bool} (h : rkF s < 3) : tsF s b = false := by unfold tsF; rw [decide_eq_false (by omega), decide_eq_false (by omega)]; rfl
theorem tsF_hi {s : Int32} {b : Bool} (h : 3 < rkF s) : tsF s b = b := by unfold tsF; rw [decide_eq_false (by omega), decide_eq_true h]; rfl
theorem tsF_3 {s : Int32} {b : Bool} (h : rkF s = 3) : tsF s b = true := by unfold tsF; rw [decide_eq_true h]; rfl
def Li (n : Nat) (T : Vc) (key lv : Nat) (m mk : Mc) (h0 h : Mm) (C : List Int32) (i : Nat) : Prop := Po n T key m mk h0 h C ∧ stF (lv + 1) mk.W mk.C = (m.W, C) ∧ (3 ≤ lv → mk.ts m.pa = m.ts m.pa) ∧ Sp T (lv + 1) mk ∧ i ≤ mk.l.s ∧ (lv = 2 → (i = 0 → mk.ts m.pa = false) ∧ (1 ≤ i → mk.ts m.pa = true))
theorem sp_no {T : Vc} {lv : Nat} {m : Mc} (h : Sp T (lv + 1) m) (hn : ¬ (¬ sgF T m.l = 0 ∧ rkF (sgF T m.l) = lv + 1)) : Sp T lv m := by
  by_cases e : sgF T m.l = 0
  · exact Or.inl e
  · rcases h with q | q | q
    · exact absurd q e
    · exact Or.inr (Or.inl (by have : ¬ rkF (sgF T m.l) = lv + 1 := fun z => hn ⟨e, z⟩; omega))
    · exact Or.inr (Or.inr ⟨q.1, q.2.1, by omega⟩)
theorem sp_2 {T : Vc} {lv : Nat} {m : Mc} (e : lv = 2) (h : Sp T (lv + 1) m) (ht : rkF (sgF T m.l) = 3 → m.ts m.pa = true) : Sp T lv m := by
  rcases h with q | q | q
  · exact Or.inl q
  · by_cases e3 : rkF (sgF T m.l) = 3
    · exact Or.inr (Or.inr ⟨e3, ht e3, by omega⟩)
    · exact Or.inr (Or.inl (by omega))
  · omega
set_option maxRecDepth 20000 in
set_option maxHeartbeats 4000000 in
theorem part_loop (w : Wt) {k : Nat} (n key d lv mo : Nat) (hn : n ≤ 96) (hkey : key < 3) (hlv : lv < 5) (hmo : mo = if lv = 2 then 1 else 96) (hmo2 : mo ≤ 96) (T : Vc) (hB : Bt n T) (m : Mc) (h0 : Mm) (hA : PartC w n T key d (lv + 1)) (hd : n - m.l.s ≤ d) (hk : 8 * (n - m.l.s) + 20 - lv ≤ k) (hse0 : m.l.s ≤ m.l.e) (hz : Pz n T key m h0) (hok : okW lv m.W) : ∀ (r : Nat) (mk : Mc) (h : Mm) (C : List Int32) (i : Nat) (x4 : Option Value), n - mk.l.s ≤ r → Li n T key lv m mk h0 h C i → Wp w k MX3_part (PaQ n T key lv m h0) 36 [some (.ref 8), some (.int (nI lv)), some (.int (nI mo)), some (.int (nI i)), x4] [] h := by
  intro r
  induction r with
  | zero =>
    intro mk h C i x4 hr hL
    obtain ⟨po, hW, hts, hsp, hi, h2⟩ := id hL
    obtain ⟨⟨c, p1⟩, p2, p3, p4, p5, p6, p7, p8, p9, p10, p11, p12⟩ := id po
    have hg := p5.lg
    have hsn := hg.1
    obtain ⟨b1, b2, b3, b4, b5, b6⟩ := id p8
    obtain ⟨z1, z2, z3, z4, z5, z6, z7⟩ := id hz
    have hend : 96 ≤ i → sgF T mk.l = 0 := fun q => Classical.byContradiction (fun z => by have := tk3 (sg_tk z).1; have := hg.2.2.2.1; omega)
    refine p_run (pc' := 38) [.iload_n 3, .iload_n 2] mkX3_part (by decide +kernel) rfl rfl ?_
    refine p_icmp_ge (off := 53) 91 (by decide +kernel) (by decide) (fun cqh => ?_) (fun cqh => ?_)
    · rw [nI_leI (by omega) (by omega)] at cqh
      refine p_run (pc' := 92) [.iconst 1] mkX3_part (by decide +kernel) rfl rfl ?_
      refine p_iret rfl rfl (by decide +kernel) ?_
      exact Or.inr ⟨rfl, mk, C, po, hW, hts, (Classical.em (lv = 2)).elim (fun e => sp_2 e hsp (fun q => by rw [p3]; exact (h2 e).2 (by rw [hmo, if_pos e] at cqh; omega))) (fun e => Or.inl (hend (by rw [hmo, if_neg e] at cqh; omega)))⟩
    · rw [nI_leI (by omega) (by omega)] at cqh
      refine p_run (pc' := 43) [.aload_n 0, .iload_n 1] mkX3_part (by decide +kernel) rfl rfl ?_
      refine p_callVv (isSignOf_ok w (k := k - 1) (by omega) n hn mk.l hg h b2 b4 lv hlv (by rw [b1]; exact hB)) kvX3_96 (by decide +kernel) (by decide) rfl (by omega) rfl rfl rfl rfl rfl ?_
      rw [b1]
      refine p_if_eq (off := 45) 91 (by decide +kernel) (by decide) (fun cqs => ?_) (fun cqs => ?_)
      · have ns := bI0.mp cqs
        refine p_run (pc' := 92) [.iconst 1] mkX3_part (by decide +kernel) rfl rfl ?_
        refine p_iret rfl rfl (by decide +kernel) ?_
        exact Or.inr ⟨rfl, mk, C, po, hW, hts, sp_no hsp ns⟩
      · obtain ⟨s0, srk⟩ := bI1.mp cqs
        obtain ⟨t3, sgv, -⟩ := sg_tk s0
        have hk0 := (tk3 t3).1
        have hse := hg.2.2.2.2.1 hk0
        have hen := hg.2.2.1
        exact absurd hr (by omega)
  | succ r ih =>
    intro mk h C i x4 hr hL
    obtain ⟨po, hW, hts, hsp, hi, h2⟩ := id hL
    obtain ⟨⟨c, p1⟩, p2, p3, p4, p5, p6, p7, p8, p9, p10, p11, p12⟩ := id po
    have hg := p5.lg
    have hsn := hg.1
    obtain ⟨b1, b2, b3, b4, b5, b6⟩ := id p8
    obtain ⟨z1, z2, z3, z4, z5, z6, z7⟩ := id hz
    have hend : 96 ≤ i → sgF T mk.l = 0 := fun q => Classical.byContradiction (fun z => by have := tk3 (sg_tk z).1; have := hg.2.2.2.1; omega)
    refine p_run (pc' := 38) [.iload_n 3, .iload_n 2] mkX3_part (by decide +kernel) rfl rfl ?_
    refine p_icmp_ge (off := 53) 91 (by decide +kernel) (by decide) (fun cqh => ?_) (fun cqh => ?_)
    · rw [nI_leI (by omega) (by omega)] at cqh
      refine p_run (pc' := 92) [.iconst 1] mkX3_part (by decide +kernel) rfl rfl ?_
      refine p_iret rfl rfl (by decide +kernel) ?_
      exact Or.inr ⟨rfl, mk, C, po, hW, hts, (Classical.em (lv = 2)).elim (fun e => sp_2 e hsp (fun q => by rw [p3]; exact (h2 e).2 (by rw [hmo, if_pos e] at cqh; omega))) (fun e => Or.inl (hend (by rw [hmo, if_neg e] at cqh; omega)))⟩
    · rw [nI_leI (by omega) (by omega)] at cqh
      refine p_run (pc' := 43) [.aload_n 0, .iload_n 1] mkX3_part (by decide +kernel) rfl rfl ?_
      refine p_callVv (isSignOf_ok w (k := k - 1) (by omega) n hn mk.l hg h b2 b4 lv hlv (by rw [b1]; exact hB)) kvX3_96 (by decide +kernel) (by decide) rfl (by omega) rfl rfl rfl rfl rfl ?_
      rw [b1]
      refine p_if_eq (off := 45) 91 (by decide +kernel) (by decide) (fun cqs => ?_) (fun cqs => ?_)
      · have ns := bI0.mp cqs
        refine p_run (pc' := 92) [.iconst 1] mkX3_part (by decide +kernel) rfl rfl ?_
        refine p_iret rfl rfl (by decide +kernel) ?_
        exact Or.inr ⟨rfl, mk, C, po, hW, hts, sp_no hsp ns⟩
      · obtain ⟨s0, srk⟩ := bI1.mp cqs
        obtain ⟨t3, sgv, -⟩ := sg_tk s0
        have hk0 := (tk3 t3).1
        have hse := hg.2.2.2.2.1 hk0
        have hen := hg.2.2.1
        have hadv := hg.adv (T := T)
        have hbt := hB mk.l.s (by omega)
        have hb2 := hbt.2
        have sgi := sg_in (nN (T mk.l.s)) (by omega) (by rw [← hbt.1, ← sgv]; exact s0)
        rw [← hbt.1, ← sgv] at sgi
        obtain ⟨si1, si2, si3, si4, si5⟩ := sgi
        have hnt : ¬ (rkF (sgF T mk.l) = 3 ∧ mk.ts mk.pa = true) := fun q => by rw [p3] at q; have e : lv = 2 := (by omega); have q2 := (h2 e).1 (by rw [hmo, if_pos e] at cqh; omega); rw [q2] at q; exact absurd q.2 (by decide)
        have hm := ms_sign (n := n) (key := key) p2 s0 hnt
        rw [srk, hW] at hm
        have hm : msF n T key mk = .inl (lxN n T mk.l, C, mk.at, sgF T mk.l :: m.W, ubF mk.ts mk.pa (tsF (sgF T mk.l) (mk.ts mk.pa)), mk.pa, true) := hm
        refine p_run (pc' := 54) [.aload_n 0, .aload_n 0, .getfield 32] mkX3_part (by decide +kernel) rfl rfl ?_
        rw [b4.2.1]
        refine p_callVv (byteAt_ok w (k := k - 1) n mk.l.s hn (by omega) h b2) kvX3_60 (by decide +kernel) (by decide) rfl (by omega) rfl rfl rfl rfl rfl ?_
        rw [b1, show byA n T mk.l.s = T mk.l.s from if_pos (by omega)]
        refine p_run (pc' := 60) [.istore 4, .aload_n 0] mkX3_part (by decide +kernel) rfl rfl ?_
        refine p_callVo (next_ok w (k := k - 1) (by omega) n hn mk.l hg.2.2.1 hg.2.2.2.2.2 h b2 b4.1 b4.2.2.1) (fun _ _ q => q.1) kvX3_35 (by decide +kernel) (by decide) rfl (by omega) rfl rfl rfl rfl rfl (fun h' hq => ?_)
        obtain ⟨-, e1, e2⟩ := hq
        rename Mm => h1
        rw [b1] at e1
        have x3 := p8.nx e2 e1
        have hln := stF_len (lv + 1) mk.W mk.C
        rw [hW] at hln
        have hln : m.W.length + C.length = mk.W.length + mk.C.length := hln
        have snt : ¬ sgF T mk.l = NOTv := by rw [sgv]; exact (sgV_op _).2
        have sno : ¬ sgF T mk.l = OPENv := by rw [sgv]; exact (sgV_op _).1
        have hP : Pz n T key (lxN n T mk.l, C, mk.at, sgF T mk.l :: m.W, ubF mk.ts mk.pa (tsF (sgF T mk.l) (mk.ts mk.pa)), mk.pa, true) h1 := ⟨rfl, Lz.nx hg, x3, by rw [e2.2 6 (by decide), p9, z4, p3], by rw [e2.2 7 (by decide), p10, z5, cnN, if_neg snt, Nat.zero_add], by show m.W.length + 1 + C.length ≤ (lxN n T mk.l).s; omega, by show mk.pa ≤ 8; omega⟩
        refine p_run (pc' := 67) [.aload_n 0, .iload_n 1, .iconst 1, .iadd] mkX3_part (by decide +kernel) rfl rfl ?_
        rw [show nI lv + Int32.ofInt 1 = nI (lv + 1) from nI_add _ _]
        refine p_callV (hA (lxN n T mk.l, C, mk.at, sgF T mk.l :: m.W, ubF mk.ts mk.pa (tsF (sgF T mk.l) (mk.ts mk.pa)), mk.pa, true) h1 (k - 1) (by show n - (lxN n T mk.l).s ≤ d; omega) (by show 8 * (n - (lxN n T mk.l).s) + 20 - (lv + 1) ≤ k - 1; omega) hP (Or.inr ⟨snt, by omega⟩) (fun q => by show ubF mk.ts mk.pa _ mk.pa = false; unfold ubF; rw [if_pos rfl]; exact tsF_lo (by omega))) kvX3_38 (by decide +kernel) (by decide) rfl (by omega) rfl rfl rfl rfl rfl (fun r h' hq => ?_)
        have hz1 := hq
        rename Mm => h3
        have F3 := p11.tr (Fq.f8 e2)
        rcases hz1 with ⟨rfl, m', f1, f2, f3⟩ | ⟨rfl, m', C', po', hW', hts', hsp'⟩
        · refine p_if_ne (off := 5) 75 (by decide +kernel) (by decide) (fun cq70 => ?_) (fun cq70 => ?_)
          · exact False.elim (by revert cq70; decide)
          · refine p_run (pc' := 74) [.iconst 0] mkX3_part (by decide +kernel) rfl rfl ?_
            refine p_iret rfl rfl (by decide +kernel) ?_
            exact Or.inl ⟨rfl, m', Mend.stq p1 (Mend.step hm f1), f2, F3.tr f3⟩
        · obtain ⟨⟨c', q1⟩, q2, q3, q4, q5, q6, q7, q8, q9, q10, q11, q12⟩ := id po'
          have hW' : stF (lv + 1 + 1) m'.W m'.C = (sgF T mk.l :: m.W, C') := hW'
          have q3 : m'.pa = mk.pa := q3
          have q4 : ∀ j, j < mk.pa → m'.ts j = ubF mk.ts mk.pa (tsF (sgF T mk.l) (mk.ts mk.pa)) j := q4
          have q6 : (lxN n T mk.l).e ≤ m'.l.s := q6
          have hts' : 3 ≤ lv + 1 → m'.ts mk.pa = tsF (sgF T mk.l) (mk.ts mk.pa) := fun z => (hts' z).trans (if_pos rfl)
          refine p_if_ne (off := 5) 75 (by decide +kernel) (by decide) (fun cq70 => ?_) (fun cq70 => ?_)
          · refine p_run (pc' := 82) [.aload_n 0, .sipush 20000, .iload 4, .iadd] mkX3_part (by decide +kernel) rfl rfl ?_
            have hln' := stF_len (lv + 1 + 1) m'.W m'.C
            rw [hW'] at hln'
            have hln' : m.W.length + 1 + C'.length = m'.W.length + m'.C.length := hln'
            have hlg' := q5.lg.1
            have hlgx := (lxN_Lg (T := T) hg.2.2.1).1.2.1
            refine p_callVo (cput_ok w (k := k - 1) C' (sgF T mk.l) (Int32.ofInt 20000 + T mk.l.s) (by rw [si5]; rfl) h3 q8.2.2.2.2.2 (by omega)) (fun _ _ q => q.1) kvX3_99 (by decide +kernel) (by decide) rfl (by omega) rfl rfl rfl rfl rfl (fun h' hq => ?_)
            obtain ⟨-, c1, c2, c3⟩ := hq
            rename Mm => h5
            refine p_run (pc' := 36) [.iinc 3 1, .goto (-52)] mkX3_part (by decide +kernel) rfl rfl ?_
            rw [show nI i + Int32.ofInt 1 = nI (i + 1) by simp only [oI, nI_add]]
            have hst : stF (lv + 1) m'.W m'.C = (m.W, sgF T mk.l :: C') := by rw [stF_comp (Nat.le_succ (lv + 1)) m'.W m'.C, hW', stF, if_pos ⟨sno, by omega⟩]; exact stF_stop hok
            refine ih m' h5 (sgF T mk.l :: C') (i + 1) _ (by omega) ⟨⟨⟨c + (c' + 1), stq_tr p1 ⟨_, hm, q1⟩⟩, q2, q3.trans p3, fun j hj => ?_, q5, by omega, q7, q8.put c1 c2 c3, ?_, ?_, F3.tr (q11.tr (Fq.put c2 c3)), fun e he => Or.inr (Or.inr ⟨si1, si2, by omega, q12 (e + 1) (p12 e he)⟩)⟩, hst, fun z => ?_, hsp', by omega, fun e => ⟨fun z => by omega, fun _ => ?_⟩⟩
            · exact (q4 j (by omega)).trans ((if_neg (by omega)).trans (p4 j hj))
            · rw [c3 6 (by decide), q9, e2.2 6 (by decide), p9]
            · rw [c3 7 (by decide), q10, e2.2 7 (by decide), p10]
            · rw [← p3, hts' (by omega), tsF_hi (by omega), p3]; exact hts z
            · rw [← p3, hts' (by omega), tsF_3 (by omega)]
          · exact False.elim (by revert cq70; decide)
theorem okW_up {lv : Nat} {W : List Int32} (h : okW lv W) : okW (lv + 1) W := by
  cases W with
  | nil => trivial
  | cons x r => exact h.elim Or.inl (fun q => Or.inr ⟨q.1, Nat.le_succ_of_le q.2⟩)
set_option maxRecDepth 20000 in
set_option maxHeartbeats 4000000 in
theorem part_ok (w : Wt) (n key d lv : Nat) (hn : n ≤ 96) (hkey : key < 3) (hlv : lv < 5) (T : Vc) (hB : Bt n T) (hA : PartC w n T key d (lv + 1)) : PartC w n T key d lv := by
  intro m h k hd hk hz hok hts
  show Wp w k MX3_part _ 0 [some (.ref 8), some (.int (nI lv)), none, none, none] [] h
  obtain ⟨z1, z2, z3, z4, z5, z6, z7⟩ := id hz
  have hg := z2.lg
  refine p_run (pc' := 2) [.iload_n 1, .iconst 5] mkX3_part (by decide +kernel) rfl rfl ?_
  refine p_icmp_lt (off := 8) 10 (by decide +kernel) (by decide) (fun cq0 => ?_) (fun cq0 => ?_)
  · refine p_run (pc' := 14) [.aload_n 0, .iload_n 1, .iconst 1, .iadd] mkX3_part (by decide +kernel) rfl rfl ?_
    rw [show nI lv + Int32.ofInt 1 = nI (lv + 1) from nI_add _ _]
    refine p_callV (hA m h (k - 1) hd (by omega) hz (okW_up hok) (fun q => hts (by omega))) kvX3_38 (by decide +kernel) (by decide) rfl (by omega) rfl rfl rfl rfl rfl (fun r h' hq => ?_)
    have hz1 := hq
    rename Mm => h3
    rcases hz1 with ⟨rfl, hf⟩ | ⟨rfl, m', C', po, hW, hts', hsp⟩
    · refine p_if_ne (off := 5) 22 (by decide +kernel) (by decide) (fun cq17 => ?_) (fun cq17 => ?_)
      · exact False.elim (by revert cq17; decide)
      · refine p_run (pc' := 21) [.iconst 0] mkX3_part (by decide +kernel) rfl rfl ?_
        refine p_iret rfl rfl (by decide +kernel) ?_
        exact Or.inl ⟨rfl, hf⟩
    · refine p_if_ne (off := 5) 22 (by decide +kernel) (by decide) (fun cq17 => ?_) (fun cq17 => ?_)
      · have hst : stF (lv + 1) m'.W m'.C = (m.W, C') := by rw [stF_comp (Nat.le_succ (lv + 1)) m'.W m'.C, hW]; exact stF_stop hok
        refine p_run (pc' := 24) [.iload_n 1, .iconst 2] mkX3_part (by decide +kernel) rfl rfl ?_
        refine p_icmp_ne (off := 7) 31 (by decide +kernel) (by decide) (fun cq24 => ?_) (fun cq24 => ?_)
        · have ne2 : ¬ lv = 2 := fun q => cq24 (by rw [q]; rfl)
          refine p_run (pc' := 36) [.bipush 96, .istore_n 2, .iconst 0, .istore_n 3] mkX3_part (by decide +kernel) rfl rfl ?_
          exact part_loop w n key d lv 96 hn hkey hlv (by rw [if_neg ne2]) (by omega) T hB m h hA hd hk hg.2.1 hz hok _ m' h3 C' 0 none (Nat.le_refl _) ⟨po, hst, fun z => hts' (by omega), hsp, Nat.zero_le _, fun e => ⟨fun _ => (hts' (by omega)).trans (hts (by omega)), fun q => by omega⟩⟩
        · have e2 : lv = 2 := (nI_eq (by omega) (by omega)).mp cq24
          refine p_run (pc' := 36) [.iconst 1, .goto 5, .istore_n 2, .iconst 0, .istore_n 3] mkX3_part (by decide +kernel) rfl rfl ?_
          exact part_loop w n key d lv 1 hn hkey hlv (by rw [if_pos e2]) (by omega) T hB m h hA hd hk hg.2.1 hz hok _ m' h3 C' 0 none (Nat.le_refl _) ⟨po, hst, fun z => hts' (by omega), hsp, Nat.zero_le _, fun e => ⟨fun _ => (hts' (by omega)).trans (hts (by omega)), fun q => by omega⟩⟩
      · exact False.elim (by revert cq17; decide)
  · exact absurd (show nI lv < nI 5 from nI_lt (by omega) (by omega)) cq0
theorem sp_5 {n : Nat} {T : Vc} {m : Mc} (hB : Bt n T) (hz : Lz n T m.l) : Sp T 5 m := by
  by_cases e : sgF T m.l = 0
  · exact Or.inl e
  · obtain ⟨t3, sgv, -⟩ := sg_tk e
    have hg := hz.lg
    have hse := hg.2.2.2.2.1 (tk3 t3).1
    have hen := hg.2.2.1
    have hb := hB m.l.s (by omega)
    have q := sg_in (nN (T m.l.s)) (by have := hb.2; omega) (by rw [← hb.1, ← sgv]; exact e)
    rw [← hb.1, ← sgv] at q
    exact Or.inr (Or.inl q.2.2.2.1)
set_option maxRecDepth 20000 in
set_option maxHeartbeats 4000000 in
theorem part_5 (w : Wt) (n key d : Nat) (hn : n ≤ 96) (hkey : key < 3) (T : Vc) (hB : Bt n T) (hP : PieceC w n T key d) : PartC w n T key d 5 := by
  intro m h k hd hk hz hok hts
  show Wp w k MX3_part _ 0 [some (.ref 8), some (.int (nI 5)), none, none, none] [] h
  obtain ⟨z1, z2, z3, z4, z5, z6, z7⟩ := id hz
  refine p_run (pc' := 2) [.iload_n 1, .iconst 5] mkX3_part (by decide +kernel) rfl rfl ?_
  refine p_icmp_lt (off := 8) 10 (by decide +kernel) (by decide) (fun cq0 => ?_) (fun cq0 => ?_)
  · exact False.elim (by revert cq0; decide)
  · refine p_run (pc' := 6) [.aload_n 0] mkX3_part (by decide +kernel) rfl rfl ?_
    refine p_callV (hP m h (k - 1) hd (by omega) hz) kvX3_92 (by decide +kernel) (by decide) rfl (by omega) rfl rfl rfl rfl rfl (fun r h' hq => ?_)
    have hz1 := hq
    rename Mm => h3
    rcases hz1 with ⟨rfl, hf⟩ | ⟨rfl, m', C', po, hW, hts'⟩
    · refine p_iret rfl rfl (by decide +kernel) ?_
      exact Or.inl ⟨rfl, hf⟩
    · have e := stF_stop (C := C') hok
      have hW : (m'.W, m'.C) = stF 6 m.W C' := hW
      have e : stF 6 m.W C' = (m.W, C') := e
      have hW2 := hW
      rw [e] at hW2
      have w1 : m'.W = m.W := (Prod.mk.inj hW2).1
      have w2 : m'.C = C' := (Prod.mk.inj hW2).2
      refine p_iret rfl rfl (by decide +kernel) ?_
      exact Or.inr ⟨rfl, m', C', po, by rw [w1, w2]; exact e, fun _ => hts', sp_5 hB po.2.2.2.2.1⟩
theorem parse_ok (w : Wt) (n key : Nat) (hn : n ≤ 96) (hkey : key < 3) (T : Vc) (hB : Bt n T) : ∀ d, PieceC w n T key d ∧ PartC w n T key d 0 := by
  intro d
  induction d using Nat.strongRecOn with
  | ind d ih =>
    have hP := piece_ok w n key d hn hkey T hB (fun d' h => (ih d' h).1) (fun d' h => (ih d' h).2)
    have p5 := part_5 w n key d hn hkey T hB hP
    have p4 := part_ok w n key d 4 hn hkey (by omega) T hB p5
    have p3 := part_ok w n key d 3 hn hkey (by omega) T hB p4
    have p2 := part_ok w n key d 2 hn hkey (by omega) T hB p3
    have p1 := part_ok w n key d 1 hn hkey (by omega) T hB p2
    exact ⟨hP, part_ok w n key d 0 hn hkey (by omega) T hB p1⟩
