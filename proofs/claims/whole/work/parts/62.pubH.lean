/-! sheet, mark, copy, lay -/
theorem m1_of {b : Int32} (h1 : Int32.ofInt (-1) ≤ b) (h2 : b < 0) : b = Int32.ofInt (-1) := by
  rw [Int32.le_iff_toInt_le] at h1
  rw [Int32.lt_iff_toInt_lt] at h2
  have e1 : (Int32.ofInt (-1)).toInt = -1 := rfl
  have e2 : (0 : Int32).toInt = 0 := rfl
  exact eq_of_toInt (by omega)
theorem so_of {b : Int32} (h1 : Int32.ofInt (-1) ≤ b) (h2 : b ≤ nI 1) : b = Int32.ofInt (-1) ∨ b = nI 0 ∨ b = nI 1 := by
  rw [Int32.le_iff_toInt_le] at h1 h2
  have e1 : (Int32.ofInt (-1)).toInt = -1 := rfl
  have e2 : (nI 1).toInt = 1 := rfl
  rcases (show b.toInt = -1 ∨ b.toInt = 0 ∨ b.toInt = 1 by omega) with e | e | e
  · exact Or.inl (eq_of_toInt e)
  · exact Or.inr (Or.inl (eq_of_toInt e))
  · exact Or.inr (Or.inr (eq_of_toInt e))
def shH (h : Mm) (s : Nat) (b n : Int32) : Mm := wr (up (up h (66 + 2 * s) 1 b) (66 + 2 * s) 2 n) (66 + 2 * s + 1) (spl (h (66 + 2 * s + 1)) 0 24 (fun _ => nI 0))
set_option maxRecDepth 20000 in
set_option maxHeartbeats 4000000 in
theorem c_sheet_bad (w : Wt) {k : Nat} (hk : 200 ≤ k) (a b n : Int32) (h : Mm) (hb : ¬ shP a b n) : Ok w k MX7_sheet [.ref 0, .int a, .int b, .int n] h (Rv BADv h) := by
  show Wp w k MX7_sheet _ 0 [some (.ref 0), some (.int a), some (.int b), some (.int n)] [] h
  refine p_run (pc' := 1) [.iload_n 1] mkX7_sheet (by decide +kernel) rfl rfl ?_
  refine p_callSv (cisSheet_ok w (k := k - 1) (by omega) _ _) ksX7_209 (by decide +kernel) (by omega) rfl rfl rfl rfl rfl ?_
  refine p_if_eq (off := 12) 16 (by decide +kernel) (by decide) (fun cq4 => ?_) (fun cq4 => ?_)
  · have cq4 := bI0.mp cq4
    refine p_run (pc' := 18) [.ldc 75] mkX7_sheet (by decide +kernel) rfl rfl ?_
    refine p_iret rfl rfl (by decide +kernel) ?_
    exact ⟨rfl, rfl⟩
  · have cq4 := bI1.mp cq4
    refine p_run (pc' := 10) [.iload_n 2, .iconst (-1), .iconst 1] mkX7_sheet (by decide +kernel) rfl rfl ?_
    refine p_callSv (cwithin_ok w (k := k - 1) _ _ _ _) ksX7_68 (by decide +kernel) (by omega) rfl rfl rfl rfl rfl ?_
    refine p_if_ne (off := 6) 19 (by decide +kernel) (by decide) (fun cq13 => ?_) (fun cq13 => ?_)
    · have cq13 := bI1.mp cq13
      refine p_run (pc' := 21) [.iload_n 2, .iconst (-1)] mkX7_sheet (by decide +kernel) rfl rfl ?_
      refine p_icmp_ne (off := 16) 37 (by decide +kernel) (by decide) (fun cq21 => ?_) (fun cq21 => ?_)
      · refine p_run (pc' := 40) [.iload_n 3, .bipush 24] mkX7_sheet (by decide +kernel) rfl rfl ?_
        refine p_icmp_le (off := 6) 46 (by decide +kernel) (by decide) (fun cq40 => ?_) (fun cq40 => ?_)
        · exact absurd ⟨cq4, cq13, Or.inr cq40⟩ hb
        · refine p_run (pc' := 45) [.ldc 75] mkX7_sheet (by decide +kernel) rfl rfl ?_
          refine p_iret rfl rfl (by decide +kernel) ?_
          exact ⟨rfl, rfl⟩
      · exact absurd ⟨cq4, cq13, Or.inl (by rw [cq21]; decide)⟩ hb
    · have cq13 := bI0.mp cq13
      refine p_run (pc' := 18) [.ldc 75] mkX7_sheet (by decide +kernel) rfl rfl ?_
      refine p_iret rfl rfl (by decide +kernel) ?_
      exact ⟨rfl, rfl⟩
set_option maxRecDepth 20000 in
set_option maxHeartbeats 4000000 in
theorem c_sheet_size (w : Wt) {k : Nat} (hk : 200 ≤ k) (a b n : Int32) (h : Mm) (hb : shP a b n) (h0 : 0 ≤ b) (hn : n < 0) : Ok w k MX7_sheet [.ref 0, .int a, .int b, .int n] h (Rv SIZEv h) := by
  show Wp w k MX7_sheet _ 0 [some (.ref 0), some (.int a), some (.int b), some (.int n)] [] h
  refine p_run (pc' := 1) [.iload_n 1] mkX7_sheet (by decide +kernel) rfl rfl ?_
  refine p_callSv (cisSheet_ok w (k := k - 1) (by omega) _ _) ksX7_209 (by decide +kernel) (by omega) rfl rfl rfl rfl rfl ?_
  refine p_if_eq (off := 12) 16 (by decide +kernel) (by decide) (fun cq4 => ?_) (fun cq4 => ?_)
  · have cq4 := bI0.mp cq4
    exact absurd (hb.1) cq4
  · have cq4 := bI1.mp cq4
    refine p_run (pc' := 10) [.iload_n 2, .iconst (-1), .iconst 1] mkX7_sheet (by decide +kernel) rfl rfl ?_
    refine p_callSv (cwithin_ok w (k := k - 1) _ _ _ _) ksX7_68 (by decide +kernel) (by omega) rfl rfl rfl rfl rfl ?_
    refine p_if_ne (off := 6) 19 (by decide +kernel) (by decide) (fun cq13 => ?_) (fun cq13 => ?_)
    · have cq13 := bI1.mp cq13
      refine p_run (pc' := 21) [.iload_n 2, .iconst (-1)] mkX7_sheet (by decide +kernel) rfl rfl ?_
      refine p_icmp_ne (off := 16) 37 (by decide +kernel) (by decide) (fun cq21 => ?_) (fun cq21 => ?_)
      · refine p_run (pc' := 40) [.iload_n 3, .bipush 24] mkX7_sheet (by decide +kernel) rfl rfl ?_
        refine p_icmp_le (off := 6) 46 (by decide +kernel) (by decide) (fun cq40 => ?_) (fun cq40 => ?_)
        · refine p_run (pc' := 47) [.iload_n 3] mkX7_sheet (by decide +kernel) rfl rfl ?_
          refine p_if_ge (off := 7) 54 (by decide +kernel) (by decide) (fun cq47 => ?_) (fun cq47 => ?_)
          · exact absurd hn (Int32.not_lt.mpr cq47)
          · refine p_run (pc' := 53) [.ldc_w 256] mkX7_sheet (by decide +kernel) rfl rfl ?_
            refine p_iret rfl rfl (by decide +kernel) ?_
            exact ⟨rfl, rfl⟩
        · exact absurd (hb.2.2.elim (fun q => absurd h0 (Int32.not_le.mpr q)) id) cq40
      · exact absurd h0 (by rw [cq21]; decide)
    · have cq13 := bI0.mp cq13
      exact absurd (hb.2.1) cq13
set_option maxRecDepth 20000 in
set_option maxHeartbeats 4000000 in
theorem c_sheet (w : Wt) {k : Nat} (hk : 200 ≤ k) (s : Nat) (hs : s < 4) (b n : Int32) (h : Mm) (hb : shP (nI s) b n) (hn : ¬ (0 ≤ b ∧ n < 0)) : Ok w k MX7_sheet [.ref 0, .int (nI s), .int b, .int n] h (Rv (if b < 0 then nI 0 else n) (shH h s b (if b < 0 then nI 0 else n))) := by
  show Wp w k MX7_sheet _ 0 [some (.ref 0), some (.int (nI s)), some (.int b), some (.int n)] [] h
  refine p_run (pc' := 1) [.iload_n 1] mkX7_sheet (by decide +kernel) rfl rfl ?_
  refine p_callSv (cisSheet_ok w (k := k - 1) (by omega) _ _) ksX7_209 (by decide +kernel) (by omega) rfl rfl rfl rfl rfl ?_
  refine p_if_eq (off := 12) 16 (by decide +kernel) (by decide) (fun cq4 => ?_) (fun cq4 => ?_)
  · have cq4 := bI0.mp cq4
    exact absurd (hb.1) cq4
  · have cq4 := bI1.mp cq4
    refine p_run (pc' := 10) [.iload_n 2, .iconst (-1), .iconst 1] mkX7_sheet (by decide +kernel) rfl rfl ?_
    refine p_callSv (cwithin_ok w (k := k - 1) _ _ _ _) ksX7_68 (by decide +kernel) (by omega) rfl rfl rfl rfl rfl ?_
    refine p_if_ne (off := 6) 19 (by decide +kernel) (by decide) (fun cq13 => ?_) (fun cq13 => ?_)
    · have cq13 := bI1.mp cq13
      refine p_run (pc' := 21) [.iload_n 2, .iconst (-1)] mkX7_sheet (by decide +kernel) rfl rfl ?_
      refine p_icmp_ne (off := 16) 37 (by decide +kernel) (by decide) (fun cq21 => ?_) (fun cq21 => ?_)
      · have nb : ¬ b < 0 := fun q => cq21 (m1_of hb.2.1.1 q)
        refine p_run (pc' := 40) [.iload_n 3, .bipush 24] mkX7_sheet (by decide +kernel) rfl rfl ?_
        refine p_icmp_le (off := 6) 46 (by decide +kernel) (by decide) (fun cq40 => ?_) (fun cq40 => ?_)
        · refine p_run (pc' := 47) [.iload_n 3] mkX7_sheet (by decide +kernel) rfl rfl ?_
          refine p_if_ge (off := 7) 54 (by decide +kernel) (by decide) (fun cq47 => ?_) (fun cq47 => ?_)
          · refine p_run (pc' := 59) [.aload_n 0, .getfield 40, .iload_n 1] mkX7_sheet (by decide +kernel) rfl rfl ?_
            refine p_aald (s) (by decide +kernel) (by decide) rfl (by decide) rfl (by omega) (rfSh s (by omega)) ?_
            refine p_run (pc' := 62) [.iload_n 2, .iload_n 3] mkX7_sheet (by decide +kernel) rfl rfl ?_
            refine p_callVw (cbecS_ok w (k := k - 1) _ (osS s hs) _ _ h) kvX7_252 (by decide +kernel) (Nat.lt_of_succ_lt (osS s (by omega)).1) (osS s (by omega)).2.1 (by omega) rfl rfl rfl rfl rfl ?_
            refine p_run (pc' := 66) [.iload_n 3] mkX7_sheet (by decide +kernel) rfl rfl ?_
            refine p_iret rfl rfl (by decide +kernel) ?_
            exact ⟨by rw [if_neg nb], by rw [if_neg nb]; rfl⟩
          · exact absurd ⟨Int32.not_lt.mp nb, Int32.not_le.mp cq47⟩ hn
        · exact absurd (hb.2.2.elim (fun q => absurd q nb) id) cq40
      · refine p_run (pc' := 29) [.aload_n 0, .getfield 40, .iload_n 1] mkX7_sheet (by decide +kernel) rfl rfl ?_
        refine p_aald (s) (by decide +kernel) (by decide) rfl (by decide) rfl (by omega) (rfSh s (by omega)) ?_
        refine p_run (pc' := 32) [.iconst (-1), .iconst 0] mkX7_sheet (by decide +kernel) rfl rfl ?_
        refine p_callVw (cbecS_ok w (k := k - 1) _ (osS s hs) _ _ h) kvX7_252 (by decide +kernel) (Nat.lt_of_succ_lt (osS s (by omega)).1) (osS s (by omega)).2.1 (by omega) rfl rfl rfl rfl rfl ?_
        refine p_run (pc' := 36) [.iconst 0] mkX7_sheet (by decide +kernel) rfl rfl ?_
        refine p_iret rfl rfl (by decide +kernel) ?_
        exact ⟨by rw [if_pos (by rw [cq21]; decide)]; rfl, by rw [if_pos (by rw [cq21]; decide), cq21]; rfl⟩
    · have cq13 := bI0.mp cq13
      exact absurd (hb.2.1) cq13
theorem st_sheet (w : Wt) {k : Nat} (hk : 200 ≤ k) (a b n : Int32) (h : Mm) (hR : Rel h) : St w k MX7_sheet MX8_sheet [.int a, .int b, .int n] h := by
  obtain ⟨⟨hP, hI, hQ, hT, hq⟩, -⟩ := id hR
  by_cases hg : shP a b n
  · by_cases hs : 0 ≤ b ∧ n < 0
    · exact St.word hR (c_sheet_size w hk a b n h hg hs.1 hs.2) (r_sheet_size w (by omega) a b n h hg hs.1 hs.2)
    · obtain ⟨s, -, hs4, rfl⟩ := inR_of (by omega) (by omega) hg.1
      have hs4 : s < 4 := by omega
      have hy : In (if b < 0 then nI 0 else n) 24 := by
        by_cases q : b < 0
        · rw [if_pos q]; exact In_nI (by omega) (by omega)
        · rw [if_neg q]
          exact In24 (fun z => hs ⟨Int32.not_lt.mp q, z⟩) (hg.2.2.elim (fun z => absurd z q) id)
      have hx := so_of hg.2.1.1 hg.2.1.2
      refine St.mk (c_sheet w hk s hs4 b n h hg hs) (fun r h1 q => ⟨_, q.1, (r_sheet w (by omega) s hs4 b n h1 hg hs).imp (fun r2 h2 z => ⟨z.1, ?_⟩)⟩)
      rw [z.2, q.2]
      clear z q
      generalize (if b < 0 then nI 0 else n) = y at *
      have e1 : ∀ a, a ≠ 66 + 2 * s → a ≠ 66 + 2 * s + 1 → shH h s b y a = h a := fun a n1 n2 => by unfold shH; rw [wrN n2, upN n1, upN n1]
      refine hR.rs (fun a ha => ?_) ((hR.2.2.2.1).set hs4 b y ?_ ?_ ?_ ?_ ?_ hx hy ?_)
      · rw [wrN (by omega), upN (by omega), upN (by omega)]; exact e1 a (by omega) (by omega)
      · rw [wrN (by omega), upN (by omega), upN (by omega)]; unfold shH; rw [wrN (by omega), upS, upd_n (by decide), upS, upd_s]
      · rw [wrN (by omega), upN (by omega), upN (by omega)]; unfold shH; rw [wrN (by omega), upS, upd_s]
      · rw [wrN (by decide), upN (by decide), upS, upd_s]
      · rw [wrN (by decide), upS, upd_s]
      · intro k hk2
        rw [wrN (by omega), upN (by omega), upN (by omega), wrS]
        unfold shH
        rw [wrS]
        unfold spl
        rw [if_pos (by omega), if_pos (by omega)]
      · intro t ht hne
        refine ⟨by rw [wrN (by omega), upN (by omega), upN (by omega)]; exact e1 _ (by omega) (by omega), by rw [wrN (by omega), upN (by omega), upN (by omega)]; exact e1 _ (by omega) (by omega), ?_, ?_, ?_⟩
        · rw [wrN (by decide), upN (by decide), upS, upd_n hne, e1 _ (by omega) (by omega)]
        · rw [wrN (by decide), upS, upd_n hne, upN (by decide), e1 _ (by omega) (by omega)]
        · intro k hk2
          rw [wrS]
          unfold spl
          rw [if_neg (by omega), e1 _ (by omega) (by omega)]
  · exact St.word hR (c_sheet_bad w hk a b n h hg) (r_sheet_bad w (by omega) a b n h hg)
set_option maxRecDepth 20000 in
set_option maxHeartbeats 4000000 in
theorem c_mark_bad (w : Wt) {k : Nat} (hk : 200 ≤ k) (a b c : Int32) (h : Mm) (hb : ¬ inR a 0 3) : Ok w k MX7_mark [.ref 0, .int a, .int b, .int c] h (Rv BADv h) := by
  show Wp w k MX7_mark _ 0 [some (.ref 0), some (.int a), some (.int b), some (.int c), none] [] h
  refine p_run (pc' := 1) [.iload_n 1] mkX7_mark (by decide +kernel) rfl rfl ?_
  refine p_callSv (cisSheet_ok w (k := k - 1) (by omega) _ _) ksX7_209 (by decide +kernel) (by omega) rfl rfl rfl rfl rfl ?_
  refine p_if_ne (off := 6) 10 (by decide +kernel) (by decide) (fun cq4 => ?_) (fun cq4 => ?_)
  · have cq4 := bI1.mp cq4
    exact absurd cq4 hb
  · have cq4 := bI0.mp cq4
    refine p_run (pc' := 9) [.ldc 75] mkX7_mark (by decide +kernel) rfl rfl ?_
    refine p_iret rfl rfl (by decide +kernel) ?_
    exact ⟨rfl, rfl⟩
def mkC (h : Mm) (s : Nat) (pl v : Int32) : Option Value → Mm → Prop :=
  if h 109 s < 0 then Rv NOTHINGv h else if nI 0 ≤ pl ∧ pl ≤ h 110 s - nI 1 then
    (if h 109 s = 0 then (if v = NONEv then Rv KINDv h else Rv (nI 1) (up h (66 + 2 * s + 1) (nN pl) (v.toInt16.toInt32)))
     else (if v = NONEv then Rv (nI 1) (up h (66 + 2 * s + 1) (nN pl) v) else if Int32.ofInt (-99999) ≤ v ∧ v ≤ nI 99999 then Rv (nI 1) (up h (66 + 2 * s + 1) (nN pl) v) else Rv BADv h))
  else Rv INDEXv h
set_option maxRecDepth 20000 in
set_option maxHeartbeats 4000000 in
theorem c_mark (w : Wt) {k : Nat} (hk : 200 ≤ k) (s : Nat) (hs : s < 4) (pl v : Int32) (h : Mm) (hS : RS h) : Ok w k MX7_mark [.ref 0, .int (nI s), .int pl, .int v] h (mkC h s pl v) := by
  show Wp w k MX7_mark _ 0 [some (.ref 0), some (.int (nI s)), some (.int pl), some (.int v), none] [] h
  obtain ⟨a1, a2, a3, a4, a5⟩ := hS s hs
  unfold mkC
  refine p_run (pc' := 1) [.iload_n 1] mkX7_mark (by decide +kernel) rfl rfl ?_
  refine p_callSv (cisSheet_ok w (k := k - 1) (by omega) _ _) ksX7_209 (by decide +kernel) (by omega) rfl rfl rfl rfl rfl ?_
  refine p_if_ne (off := 6) 10 (by decide +kernel) (by decide) (fun cq4 => ?_) (fun cq4 => ?_)
  · have cq4 := bI1.mp cq4
    refine p_run (pc' := 15) [.aload_n 0, .getfield 40, .iload_n 1] mkX7_mark (by decide +kernel) rfl rfl ?_
    refine p_aald (s) (by decide +kernel) (by decide) rfl (by decide) rfl (by omega) (rfSh s (by omega)) ?_
    refine p_run (pc' := 20) [.astore 4, .aload 4] mkX7_mark (by decide +kernel) rfl rfl ?_
    refine p_callVv (cmiss_ok w (k := k - 1) _ (osS s hs) h) kvX7_212 (by decide +kernel) (Nat.lt_of_succ_lt (osS s (by omega)).1) (osS s (by omega)).2.1 (by omega) rfl rfl rfl rfl rfl ?_
    refine p_if_eq (off := 6) 29 (by decide +kernel) (by decide) (fun cq23 => ?_) (fun cq23 => ?_)
    · have cq23 := bI0.mp cq23
      refine p_run (pc' := 32) [.aload 4, .iload_n 2] mkX7_mark (by decide +kernel) rfl rfl ?_
      refine p_callVv (chasp_ok w (k := k - 1) (66 + 2 * s) (osS s hs) pl h) kvX7_257 (by decide +kernel) (Nat.lt_of_succ_lt (osS s (by omega)).1) (osS s (by omega)).2.1 (by omega) rfl rfl rfl rfl rfl ?_
      rw [a2]
      refine p_if_ne (off := 7) 42 (by decide +kernel) (by decide) (fun cq35 => ?_) (fun cq35 => ?_)
      · have cq35 := bI1.mp cq35
        obtain ⟨u, hu, rfl⟩ := pl_of a5 ⟨cq35.1, (lt_sub1 a5).mpr cq35.2⟩
        have hu24 := a5.2
        refine p_run (pc' := 44) [.aload 4] mkX7_mark (by decide +kernel) rfl rfl ?_
        refine p_getI (by decide +kernel) fo7_261 (Nat.lt_of_succ_lt (osS s (by omega)).1) (osS s (by omega)).2.1 ((osS s (by omega)).2.2.2.1 _ (by decide)) ?_
        rw [a1]
        refine p_if_ne (off := 23) 70 (by decide +kernel) (by decide) (fun cq47 => ?_) (fun cq47 => ?_)
        · refine p_run (pc' := 73) [.iload_n 3, .ldc 194] mkX7_mark (by decide +kernel) rfl rfl ?_
          refine p_icmp_eq (off := 19) 92 (by decide +kernel) (by decide) (fun cq73 => ?_) (fun cq73 => ?_)
          · refine p_run (pc' := 94) [.aload 4] mkX7_mark (by decide +kernel) rfl rfl ?_
            refine p_getR (by decide +kernel) fo7_264 (Nat.lt_of_succ_lt (osS s (by omega)).1) (osS s (by omega)).2.1 (osS s (by omega)).2.2.1 ?_
            refine p_run (pc' := 99) [.iload_n 2, .iload_n 3] mkX7_mark (by decide +kernel) rfl rfl ?_
            refine p_iast (u) (by decide +kernel) (Nat.ble_eq_true_of_le (osS s (by omega)).1) (osS s (by omega)).2.2.2.2 (by first | rfl | simp only [oI]) (by omega)  ?_
            refine p_run (pc' := 101) [.iconst 1] mkX7_mark (by decide +kernel) rfl rfl ?_
            refine p_iret rfl rfl (by decide +kernel) ?_
            exact iF (fun q => cq23 ((hS.nm hs).mp q)) (iT ⟨cq35.1, (lt_sub1 a5).mpr cq35.2⟩ (iF cq47 (iT cq73 (⟨rfl, by rw [nN_nI (by have := a5.2; omega)]⟩))))
          · refine p_run (pc' := 83) [.iload_n 3, .ldc_w 267, .ldc_w 268] mkX7_mark (by decide +kernel) rfl rfl ?_
            refine p_callSv (cwithin_ok w (k := k - 1) _ _ _ _) ksX7_68 (by decide +kernel) (by omega) rfl rfl rfl rfl rfl ?_
            refine p_if_ne (off := 6) 92 (by decide +kernel) (by decide) (fun cq86 => ?_) (fun cq86 => ?_)
            · have cq86 := bI1.mp cq86
              refine p_run (pc' := 94) [.aload 4] mkX7_mark (by decide +kernel) rfl rfl ?_
              refine p_getR (by decide +kernel) fo7_264 (Nat.lt_of_succ_lt (osS s (by omega)).1) (osS s (by omega)).2.1 (osS s (by omega)).2.2.1 ?_
              refine p_run (pc' := 99) [.iload_n 2, .iload_n 3] mkX7_mark (by decide +kernel) rfl rfl ?_
              refine p_iast (u) (by decide +kernel) (Nat.ble_eq_true_of_le (osS s (by omega)).1) (osS s (by omega)).2.2.2.2 (by first | rfl | simp only [oI]) (by omega)  ?_
              refine p_run (pc' := 101) [.iconst 1] mkX7_mark (by decide +kernel) rfl rfl ?_
              refine p_iret rfl rfl (by decide +kernel) ?_
              exact iF (fun q => cq23 ((hS.nm hs).mp q)) (iT ⟨cq35.1, (lt_sub1 a5).mpr cq35.2⟩ (iF cq47 (iF cq73 (iT cq86 (⟨rfl, by rw [nN_nI (by have := a5.2; omega)]⟩)))))
            · have cq86 := bI0.mp cq86
              refine p_run (pc' := 91) [.ldc 75] mkX7_mark (by decide +kernel) rfl rfl ?_
              refine p_iret rfl rfl (by decide +kernel) ?_
              exact iF (fun q => cq23 ((hS.nm hs).mp q)) (iT ⟨cq35.1, (lt_sub1 a5).mpr cq35.2⟩ (iF cq47 (iF cq73 (iF cq86 (⟨rfl, rfl⟩)))))
        · refine p_run (pc' := 53) [.iload_n 3, .ldc 194] mkX7_mark (by decide +kernel) rfl rfl ?_
          refine p_icmp_ne (off := 6) 59 (by decide +kernel) (by decide) (fun cq53 => ?_) (fun cq53 => ?_)
          · refine p_run (pc' := 61) [.aload 4] mkX7_mark (by decide +kernel) rfl rfl ?_
            refine p_getR (by decide +kernel) fo7_264 (Nat.lt_of_succ_lt (osS s (by omega)).1) (osS s (by omega)).2.1 (osS s (by omega)).2.2.1 ?_
            refine p_run (pc' := 67) [.iload_n 2, .iload_n 3, .i2s] mkX7_mark (by decide +kernel) rfl rfl ?_
            refine p_iast (u) (by decide +kernel) (Nat.ble_eq_true_of_le (osS s (by omega)).1) (osS s (by omega)).2.2.2.2 (by first | rfl | simp only [oI]) (by omega)  ?_
            refine p_run (pc' := 69) [.iconst 1] mkX7_mark (by decide +kernel) rfl rfl ?_
            refine p_iret rfl rfl (by decide +kernel) ?_
            exact iF (fun q => cq23 ((hS.nm hs).mp q)) (iT ⟨cq35.1, (lt_sub1 a5).mpr cq35.2⟩ (iT cq47 (iF cq53 (⟨rfl, by rw [nN_nI (by have := a5.2; omega)]⟩))))
          · refine p_run (pc' := 58) [.ldc 122] mkX7_mark (by decide +kernel) rfl rfl ?_
            refine p_iret rfl rfl (by decide +kernel) ?_
            exact iF (fun q => cq23 ((hS.nm hs).mp q)) (iT ⟨cq35.1, (lt_sub1 a5).mpr cq35.2⟩ (iT cq47 (iT cq53 (⟨rfl, rfl⟩))))
      · have cq35 := bI0.mp cq35
        refine p_run (pc' := 41) [.ldc_w 260] mkX7_mark (by decide +kernel) rfl rfl ?_
        refine p_iret rfl rfl (by decide +kernel) ?_
        exact iF (fun q => cq23 ((hS.nm hs).mp q)) (iF (fun q => cq35 ⟨q.1, (lt_sub1 a5).mp q.2⟩) (⟨rfl, rfl⟩))
    · have cq23 := bI1.mp cq23
      refine p_run (pc' := 28) [.ldc 216] mkX7_mark (by decide +kernel) rfl rfl ?_
      refine p_iret rfl rfl (by decide +kernel) ?_
      exact iT ((hS.nm hs).mpr cq23) (⟨rfl, rfl⟩)
  · have cq4 := bI0.mp cq4
    exact absurd (in_nI (j := s) (lo := 0) (hi := 3) (by omega) (by omega) (by omega)) cq4
theorem Rel.mk {h : Mm} (hR : Rel h) {s j : Nat} (hs : s < 4) (hj : j < 24) (x : Int32) : Rel (up (up h (66 + 2 * s + 1) j x) 111 (24 * s + j) x) := by
  obtain ⟨a1, a2, a3, a4, a5⟩ := hR.2.2.2.1 s hs
  refine hR.rs (fun a ha => by rw [upN (by omega), upN (by omega)]) ((hR.2.2.2.1).set hs (h 109 s) (h 110 s) ?_ ?_ ?_ ?_ ?_ a4 a5 ?_)
  · rw [upN (by omega), upN (by omega)]; exact a1
  · rw [upN (by omega), upN (by omega)]; exact a2
  · rw [upN (by decide), upN (by omega)]
  · rw [upN (by decide), upN (by omega)]
  · intro k hk
    rw [upN (by omega), upS, upS, upN (by omega)]
    by_cases e : k = j
    · rw [e, upd_s, upd_s]
    · rw [upd_n e, upd_n (by omega)]; exact a3 k hk
  · intro t ht hne
    refine ⟨by rw [upN (by omega), upN (by omega)], by rw [upN (by omega), upN (by omega)], by rw [upN (by decide), upN (by omega)], by rw [upN (by decide), upN (by omega)], fun k hk => ?_⟩
    rw [upS, upN (by omega), upd_n (by omega)]
theorem St.mk1 {w : Wt} {k : Nat} {Mc Mr : Mt} {as : List Value} {h : Mm} (hR : Rel h) {s j : Nat} (hs : s < 4) (hj : j < 24) (x v : Int32) (hc : Ok w k Mc (.ref 0 :: as) h (Rv v (up h (66 + 2 * s + 1) j x))) (hr : Ok w k Mr (.ref 96 :: as) (up h (66 + 2 * s + 1) j x) (Rv v (up (up h (66 + 2 * s + 1) j x) 111 (24 * s + j) x))) : St w k Mc Mr as h :=
  St.mk hc (fun r h1 q => ⟨v, q.1, by rw [q.2]; exact hr.imp (fun r2 h2 z => ⟨z.1, by rw [z.2]; exact hR.mk hs hj x⟩)⟩)
theorem st_mark (w : Wt) {k : Nat} (hk : 200 ≤ k) (a b c : Int32) (h : Mm) (hR : Rel h) : St w k MX7_mark MX8_mark [.int a, .int b, .int c] h := by
  obtain ⟨⟨hP, hI, hQ, hT, hq⟩, -⟩ := id hR
  have hS := hR.2.2.2.1
  by_cases hg : inR a 0 3
  · obtain ⟨s, -, hs, rfl⟩ := inR_of (by omega) (by omega) hg
    have hs : s < 4 := by omega
    obtain ⟨a1, a2, a3, a4, a5⟩ := hS s hs
    have hz := a5.2
    have hc := c_mark w hk s hs b c h hS
    have hr : ∀ h1 : Mm, h1 109 = h 109 → h1 110 = h 110 → Ok w k MX8_mark [.ref 96, .int (nI s), .int b, .int c] h1 (mkQ h1 s b c) := fun h1 e1 e2 => r_mark w (by omega) s hs b c h1 (by rw [e2]; exact a5) (by rw [e1]; exact a4)
    have hr0 := hr h rfl rfl
    have hr1 : ∀ x, Ok w k MX8_mark [.ref 96, .int (nI s), .int b, .int c] (up h (66 + 2 * s + 1) (nN b) x) (mkQ (up h (66 + 2 * s + 1) (nN b) x) s b c) := fun x => hr _ (upN (by omega)) (upN (by omega))
    unfold mkC at hc
    unfold mkQ at hr0 hr1
    have e1 : ∀ x, up h (66 + 2 * s + 1) (nN b) x 109 = h 109 := fun x => upN (by omega)
    have e2 : ∀ x, up h (66 + 2 * s + 1) (nN b) x 110 = h 110 := fun x => upN (by omega)
    simp only [e1, e2] at hr1
    by_cases c1 : h 109 s < 0
    · rw [if_pos c1] at hc hr0; exact St.word hR hc hr0
    · rw [if_neg c1] at hc hr0
      simp only [if_neg c1] at hr1
      by_cases c2 : nI 0 ≤ b ∧ b ≤ h 110 s - nI 1
      · rw [if_pos c2] at hc hr0
        simp only [if_pos c2] at hr1
        obtain ⟨j, hj, rfl⟩ := pl_of a5 c2
        rw [nN_nI (by omega)] at hc hr0
        rw [nN_nI (by omega)] at hr1
        by_cases c3 : h 109 s = 0
        · rw [if_pos c3] at hc hr0
          simp only [if_pos c3] at hr1
          by_cases c4 : c = NONEv
          · rw [if_pos c4] at hc hr0; exact St.word hR hc hr0
          · rw [if_neg c4] at hc
            simp only [if_neg c4] at hr1
            exact St.mk1 hR hs (by omega) _ _ hc (hr1 _)
        · rw [if_neg c3] at hc hr0
          simp only [if_neg c3] at hr1
          by_cases c4 : c = NONEv
          · rw [if_pos c4] at hc
            simp only [if_pos c4] at hr1
            exact St.mk1 hR hs (by omega) _ _ hc (hr1 _)
          · rw [if_neg c4] at hc hr0
            simp only [if_neg c4] at hr1
            by_cases c5 : Int32.ofInt (-99999) ≤ c ∧ c ≤ nI 99999
            · rw [if_pos c5] at hc
              simp only [if_pos c5] at hr1
              exact St.mk1 hR hs (by omega) _ _ hc (hr1 _)
            · rw [if_neg c5] at hc hr0; exact St.word hR hc hr0
      · rw [if_neg c2] at hc hr0; exact St.word hR hc hr0
  · exact St.word hR (c_mark_bad w hk a b c h hg) (r_mark_bad w (by omega) a b c h hg)
set_option maxRecDepth 20000 in
set_option maxHeartbeats 4000000 in
theorem c_copy_bad (w : Wt) {k : Nat} (hk : 200 ≤ k) (a b c e m : Int32) (h : Mm) (hb : ¬ (inR a 0 3 ∧ inR c 0 3)) : Ok w k MX7_copy [.ref 0, .int a, .int b, .int c, .int e, .int m] h (Rv BADv h) := by
  show Wp w k MX7_copy _ 0 [some (.ref 0), some (.int a), some (.int b), some (.int c), some (.int e), some (.int m), none, none] [] h
  refine p_run (pc' := 1) [.iload_n 1] mkX7_copy (by decide +kernel) rfl rfl ?_
  refine p_callSv (cisSheet_ok w (k := k - 1) (by omega) _ _) ksX7_209 (by decide +kernel) (by omega) rfl rfl rfl rfl rfl ?_
  refine p_if_eq (off := 10) 14 (by decide +kernel) (by decide) (fun cq4 => ?_) (fun cq4 => ?_)
  · have cq4 := bI0.mp cq4
    refine p_run (pc' := 16) [.ldc 75] mkX7_copy (by decide +kernel) rfl rfl ?_
    refine p_iret rfl rfl (by decide +kernel) ?_
    exact ⟨rfl, rfl⟩
  · have cq4 := bI1.mp cq4
    refine p_run (pc' := 8) [.iload_n 3] mkX7_copy (by decide +kernel) rfl rfl ?_
    refine p_callSv (cisSheet_ok w (k := k - 1) (by omega) _ _) ksX7_209 (by decide +kernel) (by omega) rfl rfl rfl rfl rfl ?_
    refine p_if_ne (off := 6) 17 (by decide +kernel) (by decide) (fun cq11 => ?_) (fun cq11 => ?_)
    · have cq11 := bI1.mp cq11
      exact absurd ⟨cq4, cq11⟩ hb
    · have cq11 := bI0.mp cq11
      refine p_run (pc' := 16) [.ldc 75] mkX7_copy (by decide +kernel) rfl rfl ?_
      refine p_iret rfl rfl (by decide +kernel) ?_
      exact ⟨rfl, rfl⟩
set_option maxRecDepth 20000 in
set_option maxHeartbeats 4000000 in
theorem c_copy_no (w : Wt) {k : Nat} (hk : 200 ≤ k) (s t : Nat) (hs : s < 4) (ht : t < 4) (b e m : Int32) (h : Mm) (hno : h (66 + 2 * s) 1 = Int32.ofInt (-1) ∨ h (66 + 2 * t) 1 = Int32.ofInt (-1)) : Ok w k MX7_copy [.ref 0, .int (nI s), .int b, .int (nI t), .int e, .int m] h (Rv NOTHINGv h) := by
  show Wp w k MX7_copy _ 0 [some (.ref 0), some (.int (nI s)), some (.int b), some (.int (nI t)), some (.int e), some (.int m), none, none] [] h
  refine p_run (pc' := 1) [.iload_n 1] mkX7_copy (by decide +kernel) rfl rfl ?_
  refine p_callSv (cisSheet_ok w (k := k - 1) (by omega) _ _) ksX7_209 (by decide +kernel) (by omega) rfl rfl rfl rfl rfl ?_
  refine p_if_eq (off := 10) 14 (by decide +kernel) (by decide) (fun cq4 => ?_) (fun cq4 => ?_)
  · have cq4 := bI0.mp cq4
    exact absurd (in_nI (j := s) (lo := 0) (hi := 3) (by omega) (by omega) (by omega)) cq4
  · have cq4 := bI1.mp cq4
    refine p_run (pc' := 8) [.iload_n 3] mkX7_copy (by decide +kernel) rfl rfl ?_
    refine p_callSv (cisSheet_ok w (k := k - 1) (by omega) _ _) ksX7_209 (by decide +kernel) (by omega) rfl rfl rfl rfl rfl ?_
    refine p_if_ne (off := 6) 17 (by decide +kernel) (by decide) (fun cq11 => ?_) (fun cq11 => ?_)
    · have cq11 := bI1.mp cq11
      refine p_run (pc' := 22) [.aload_n 0, .getfield 40, .iload_n 1] mkX7_copy (by decide +kernel) rfl rfl ?_
      refine p_aald (s) (by decide +kernel) (by decide) rfl (by decide) rfl (by omega) (rfSh s (by omega)) ?_
      refine p_run (pc' := 30) [.astore 6, .aload_n 0, .getfield 40, .iload_n 3] mkX7_copy (by decide +kernel) rfl rfl ?_
      refine p_aald (t) (by decide +kernel) (by decide) rfl (by decide) rfl (by omega) (rfSh t (by omega)) ?_
      refine p_run (pc' := 35) [.astore 7, .aload 6] mkX7_copy (by decide +kernel) rfl rfl ?_
      refine p_callVv (cmiss_ok w (k := k - 1) _ (osS s hs) h) kvX7_212 (by decide +kernel) (Nat.lt_of_succ_lt (osS s (by omega)).1) (osS s (by omega)).2.1 (by omega) rfl rfl rfl rfl rfl ?_
      refine p_if_ne (off := 11) 49 (by decide +kernel) (by decide) (fun cq38 => ?_) (fun cq38 => ?_)
      · have cq38 := bI1.mp cq38
        refine p_run (pc' := 51) [.ldc 216] mkX7_copy (by decide +kernel) rfl rfl ?_
        refine p_iret rfl rfl (by decide +kernel) ?_
        exact ⟨rfl, rfl⟩
      · have cq38 := bI0.mp cq38
        refine p_run (pc' := 43) [.aload 7] mkX7_copy (by decide +kernel) rfl rfl ?_
        refine p_callVv (cmiss_ok w (k := k - 1) _ (osS t ht) h) kvX7_212 (by decide +kernel) (Nat.lt_of_succ_lt (osS t (by omega)).1) (osS t (by omega)).2.1 (by omega) rfl rfl rfl rfl rfl ?_
        refine p_if_eq (off := 6) 52 (by decide +kernel) (by decide) (fun cq46 => ?_) (fun cq46 => ?_)
        · have cq46 := bI0.mp cq46
          exact absurd hno (fun q => q.elim cq38 cq46)
        · have cq46 := bI1.mp cq46
          refine p_run (pc' := 51) [.ldc 216] mkX7_copy (by decide +kernel) rfl rfl ?_
          refine p_iret rfl rfl (by decide +kernel) ?_
          exact ⟨rfl, rfl⟩
    · have cq11 := bI0.mp cq11
      exact absurd (in_nI (j := t) (lo := 0) (hi := 3) (by omega) (by omega) (by omega)) cq11
set_option maxRecDepth 20000 in
set_option maxHeartbeats 4000000 in
theorem c_copy_kind (w : Wt) {k : Nat} (hk : 200 ≤ k) (s t : Nat) (hs : s < 4) (ht : t < 4) (b e m : Int32) (h : Mm) (hy : ¬ h (66 + 2 * s) 1 = Int32.ofInt (-1) ∧ ¬ h (66 + 2 * t) 1 = Int32.ofInt (-1)) (hne : ¬ h (66 + 2 * s) 1 = h (66 + 2 * t) 1) : Ok w k MX7_copy [.ref 0, .int (nI s), .int b, .int (nI t), .int e, .int m] h (Rv KINDv h) := by
  show Wp w k MX7_copy _ 0 [some (.ref 0), some (.int (nI s)), some (.int b), some (.int (nI t)), some (.int e), some (.int m), none, none] [] h
  refine p_run (pc' := 1) [.iload_n 1] mkX7_copy (by decide +kernel) rfl rfl ?_
  refine p_callSv (cisSheet_ok w (k := k - 1) (by omega) _ _) ksX7_209 (by decide +kernel) (by omega) rfl rfl rfl rfl rfl ?_
  refine p_if_eq (off := 10) 14 (by decide +kernel) (by decide) (fun cq4 => ?_) (fun cq4 => ?_)
  · have cq4 := bI0.mp cq4
    exact absurd (in_nI (j := s) (lo := 0) (hi := 3) (by omega) (by omega) (by omega)) cq4
  · have cq4 := bI1.mp cq4
    refine p_run (pc' := 8) [.iload_n 3] mkX7_copy (by decide +kernel) rfl rfl ?_
    refine p_callSv (cisSheet_ok w (k := k - 1) (by omega) _ _) ksX7_209 (by decide +kernel) (by omega) rfl rfl rfl rfl rfl ?_
    refine p_if_ne (off := 6) 17 (by decide +kernel) (by decide) (fun cq11 => ?_) (fun cq11 => ?_)
    · have cq11 := bI1.mp cq11
      refine p_run (pc' := 22) [.aload_n 0, .getfield 40, .iload_n 1] mkX7_copy (by decide +kernel) rfl rfl ?_
      refine p_aald (s) (by decide +kernel) (by decide) rfl (by decide) rfl (by omega) (rfSh s (by omega)) ?_
      refine p_run (pc' := 30) [.astore 6, .aload_n 0, .getfield 40, .iload_n 3] mkX7_copy (by decide +kernel) rfl rfl ?_
      refine p_aald (t) (by decide +kernel) (by decide) rfl (by decide) rfl (by omega) (rfSh t (by omega)) ?_
      refine p_run (pc' := 35) [.astore 7, .aload 6] mkX7_copy (by decide +kernel) rfl rfl ?_
      refine p_callVv (cmiss_ok w (k := k - 1) _ (osS s hs) h) kvX7_212 (by decide +kernel) (Nat.lt_of_succ_lt (osS s (by omega)).1) (osS s (by omega)).2.1 (by omega) rfl rfl rfl rfl rfl ?_
      refine p_if_ne (off := 11) 49 (by decide +kernel) (by decide) (fun cq38 => ?_) (fun cq38 => ?_)
      · have cq38 := bI1.mp cq38
        exact absurd cq38 hy.1
      · have cq38 := bI0.mp cq38
        refine p_run (pc' := 43) [.aload 7] mkX7_copy (by decide +kernel) rfl rfl ?_
        refine p_callVv (cmiss_ok w (k := k - 1) _ (osS t ht) h) kvX7_212 (by decide +kernel) (Nat.lt_of_succ_lt (osS t (by omega)).1) (osS t (by omega)).2.1 (by omega) rfl rfl rfl rfl rfl ?_
        refine p_if_eq (off := 6) 52 (by decide +kernel) (by decide) (fun cq46 => ?_) (fun cq46 => ?_)
        · have cq46 := bI0.mp cq46
          refine p_run (pc' := 54) [.aload 6] mkX7_copy (by decide +kernel) rfl rfl ?_
          refine p_getI (by decide +kernel) fo7_261 (Nat.lt_of_succ_lt (osS s (by omega)).1) (osS s (by omega)).2.1 ((osS s (by omega)).2.2.2.1 _ (by decide)) ?_
          refine p_run (pc' := 59) [.aload 7] mkX7_copy (by decide +kernel) rfl rfl ?_
          refine p_getI (by decide +kernel) fo7_261 (Nat.lt_of_succ_lt (osS t (by omega)).1) (osS t (by omega)).2.1 ((osS t (by omega)).2.2.2.1 _ (by decide)) ?_
          refine p_icmp_eq (off := 6) 68 (by decide +kernel) (by decide) (fun cq62 => ?_) (fun cq62 => ?_)
          · exact absurd cq62 hne
          · refine p_run (pc' := 67) [.ldc 122] mkX7_copy (by decide +kernel) rfl rfl ?_
            refine p_iret rfl rfl (by decide +kernel) ?_
            exact ⟨rfl, rfl⟩
        · have cq46 := bI1.mp cq46
          exact absurd cq46 hy.2
    · have cq11 := bI0.mp cq11
      exact absurd (in_nI (j := t) (lo := 0) (hi := 3) (by omega) (by omega) (by omega)) cq11
def hpP (h : Mm) (a : Nat) (x m : Int32) : Prop := ¬ x < 0 ∧ ¬ m < 0 ∧ ¬ h a 2 < x ∧ ¬ h a 2 - x < m
set_option maxRecDepth 20000 in
set_option maxHeartbeats 4000000 in
theorem c_copy_ix (w : Wt) {k : Nat} (hk : 200 ≤ k) (s t : Nat) (hs : s < 4) (ht : t < 4) (b e m : Int32) (h : Mm) (hy : ¬ h (66 + 2 * s) 1 = Int32.ofInt (-1) ∧ ¬ h (66 + 2 * t) 1 = Int32.ofInt (-1)) (he : h (66 + 2 * s) 1 = h (66 + 2 * t) 1) (hx : ¬ (hpP h (66 + 2 * s) b m ∧ hpP h (66 + 2 * t) e m)) : Ok w k MX7_copy [.ref 0, .int (nI s), .int b, .int (nI t), .int e, .int m] h (Rv INDEXv h) := by
  show Wp w k MX7_copy _ 0 [some (.ref 0), some (.int (nI s)), some (.int b), some (.int (nI t)), some (.int e), some (.int m), none, none] [] h
  refine p_run (pc' := 1) [.iload_n 1] mkX7_copy (by decide +kernel) rfl rfl ?_
  refine p_callSv (cisSheet_ok w (k := k - 1) (by omega) _ _) ksX7_209 (by decide +kernel) (by omega) rfl rfl rfl rfl rfl ?_
  refine p_if_eq (off := 10) 14 (by decide +kernel) (by decide) (fun cq4 => ?_) (fun cq4 => ?_)
  · have cq4 := bI0.mp cq4
    exact absurd (in_nI (j := s) (lo := 0) (hi := 3) (by omega) (by omega) (by omega)) cq4
  · have cq4 := bI1.mp cq4
    refine p_run (pc' := 8) [.iload_n 3] mkX7_copy (by decide +kernel) rfl rfl ?_
    refine p_callSv (cisSheet_ok w (k := k - 1) (by omega) _ _) ksX7_209 (by decide +kernel) (by omega) rfl rfl rfl rfl rfl ?_
    refine p_if_ne (off := 6) 17 (by decide +kernel) (by decide) (fun cq11 => ?_) (fun cq11 => ?_)
    · have cq11 := bI1.mp cq11
      refine p_run (pc' := 22) [.aload_n 0, .getfield 40, .iload_n 1] mkX7_copy (by decide +kernel) rfl rfl ?_
      refine p_aald (s) (by decide +kernel) (by decide) rfl (by decide) rfl (by omega) (rfSh s (by omega)) ?_
      refine p_run (pc' := 30) [.astore 6, .aload_n 0, .getfield 40, .iload_n 3] mkX7_copy (by decide +kernel) rfl rfl ?_
      refine p_aald (t) (by decide +kernel) (by decide) rfl (by decide) rfl (by omega) (rfSh t (by omega)) ?_
      refine p_run (pc' := 35) [.astore 7, .aload 6] mkX7_copy (by decide +kernel) rfl rfl ?_
      refine p_callVv (cmiss_ok w (k := k - 1) _ (osS s hs) h) kvX7_212 (by decide +kernel) (Nat.lt_of_succ_lt (osS s (by omega)).1) (osS s (by omega)).2.1 (by omega) rfl rfl rfl rfl rfl ?_
      refine p_if_ne (off := 11) 49 (by decide +kernel) (by decide) (fun cq38 => ?_) (fun cq38 => ?_)
      · have cq38 := bI1.mp cq38
        exact absurd cq38 hy.1
      · have cq38 := bI0.mp cq38
        refine p_run (pc' := 43) [.aload 7] mkX7_copy (by decide +kernel) rfl rfl ?_
        refine p_callVv (cmiss_ok w (k := k - 1) _ (osS t ht) h) kvX7_212 (by decide +kernel) (Nat.lt_of_succ_lt (osS t (by omega)).1) (osS t (by omega)).2.1 (by omega) rfl rfl rfl rfl rfl ?_
        refine p_if_eq (off := 6) 52 (by decide +kernel) (by decide) (fun cq46 => ?_) (fun cq46 => ?_)
        · have cq46 := bI0.mp cq46
          refine p_run (pc' := 54) [.aload 6] mkX7_copy (by decide +kernel) rfl rfl ?_
          refine p_getI (by decide +kernel) fo7_261 (Nat.lt_of_succ_lt (osS s (by omega)).1) (osS s (by omega)).2.1 ((osS s (by omega)).2.2.2.1 _ (by decide)) ?_
          refine p_run (pc' := 59) [.aload 7] mkX7_copy (by decide +kernel) rfl rfl ?_
          refine p_getI (by decide +kernel) fo7_261 (Nat.lt_of_succ_lt (osS t (by omega)).1) (osS t (by omega)).2.1 ((osS t (by omega)).2.2.2.1 _ (by decide)) ?_
          refine p_icmp_eq (off := 6) 68 (by decide +kernel) (by decide) (fun cq62 => ?_) (fun cq62 => ?_)
          · refine p_run (pc' := 73) [.aload 6, .iload_n 2, .iload 5] mkX7_copy (by decide +kernel) rfl rfl ?_
            refine p_callVv (chasps_ok w (k := k - 1) _ (osS s hs) b m h) kvX7_276 (by decide +kernel) (Nat.lt_of_succ_lt (osS s (by omega)).1) (osS s (by omega)).2.1 (by omega) rfl rfl rfl rfl rfl ?_
            refine p_if_eq (off := 15) 91 (by decide +kernel) (by decide) (fun cq76 => ?_) (fun cq76 => ?_)
            · have cq76 := bI0.mp cq76
              refine p_run (pc' := 94) [.ldc_w 260] mkX7_copy (by decide +kernel) rfl rfl ?_
              refine p_iret rfl rfl (by decide +kernel) ?_
              exact ⟨rfl, rfl⟩
            · have cq76 := bI1.mp cq76
              refine p_run (pc' := 85) [.aload 7, .iload 4, .iload 5] mkX7_copy (by decide +kernel) rfl rfl ?_
              refine p_callVv (chasps_ok w (k := k - 1) _ (osS t ht) e m h) kvX7_276 (by decide +kernel) (Nat.lt_of_succ_lt (osS t (by omega)).1) (osS t (by omega)).2.1 (by omega) rfl rfl rfl rfl rfl ?_
              refine p_if_ne (off := 7) 95 (by decide +kernel) (by decide) (fun cq88 => ?_) (fun cq88 => ?_)
              · have cq88 := bI1.mp cq88
                exact absurd ⟨cq76, cq88⟩ hx
              · have cq88 := bI0.mp cq88
                refine p_run (pc' := 94) [.ldc_w 260] mkX7_copy (by decide +kernel) rfl rfl ?_
                refine p_iret rfl rfl (by decide +kernel) ?_
                exact ⟨rfl, rfl⟩
          · exact absurd he cq62
        · have cq46 := bI1.mp cq46
          exact absurd cq46 hy.2
    · have cq11 := bI0.mp cq11
      exact absurd (in_nI (j := t) (lo := 0) (hi := 3) (by omega) (by omega) (by omega)) cq11
set_option maxRecDepth 20000 in
set_option maxHeartbeats 4000000 in
theorem c_copy (w : Wt) {k : Nat} (hk : 200 ≤ k) (s t b e m : Nat) (hs : s < 4) (ht : t < 4) (h : Mm) (hy : ¬ h (66 + 2 * s) 1 = Int32.ofInt (-1) ∧ ¬ h (66 + 2 * t) 1 = Int32.ofInt (-1)) (he : h (66 + 2 * s) 1 = h (66 + 2 * t) 1) (hx : hpP h (66 + 2 * s) (nI b) (nI m) ∧ hpP h (66 + 2 * t) (nI e) (nI m)) (hbm : b + m ≤ 24) (hem : e + m ≤ 24) : Ok w k MX7_copy [.ref 0, .int (nI s), .int (nI b), .int (nI t), .int (nI e), .int (nI m)] h (Rv (nI m) (wr h (66 + 2 * t + 1) (spl (h (66 + 2 * t + 1)) e m (fun j => h (66 + 2 * s + 1) (b + j))))) := by
  show Wp w k MX7_copy _ 0 [some (.ref 0), some (.int (nI s)), some (.int (nI b)), some (.int (nI t)), some (.int (nI e)), some (.int (nI m)), none, none] [] h
  refine p_run (pc' := 1) [.iload_n 1] mkX7_copy (by decide +kernel) rfl rfl ?_
  refine p_callSv (cisSheet_ok w (k := k - 1) (by omega) _ _) ksX7_209 (by decide +kernel) (by omega) rfl rfl rfl rfl rfl ?_
  refine p_if_eq (off := 10) 14 (by decide +kernel) (by decide) (fun cq4 => ?_) (fun cq4 => ?_)
  · have cq4 := bI0.mp cq4
    exact absurd (in_nI (j := s) (lo := 0) (hi := 3) (by omega) (by omega) (by omega)) cq4
  · have cq4 := bI1.mp cq4
    refine p_run (pc' := 8) [.iload_n 3] mkX7_copy (by decide +kernel) rfl rfl ?_
    refine p_callSv (cisSheet_ok w (k := k - 1) (by omega) _ _) ksX7_209 (by decide +kernel) (by omega) rfl rfl rfl rfl rfl ?_
    refine p_if_ne (off := 6) 17 (by decide +kernel) (by decide) (fun cq11 => ?_) (fun cq11 => ?_)
    · have cq11 := bI1.mp cq11
      refine p_run (pc' := 22) [.aload_n 0, .getfield 40, .iload_n 1] mkX7_copy (by decide +kernel) rfl rfl ?_
      refine p_aald (s) (by decide +kernel) (by decide) rfl (by decide) rfl (by omega) (rfSh s (by omega)) ?_
      refine p_run (pc' := 30) [.astore 6, .aload_n 0, .getfield 40, .iload_n 3] mkX7_copy (by decide +kernel) rfl rfl ?_
      refine p_aald (t) (by decide +kernel) (by decide) rfl (by decide) rfl (by omega) (rfSh t (by omega)) ?_
      refine p_run (pc' := 35) [.astore 7, .aload 6] mkX7_copy (by decide +kernel) rfl rfl ?_
      refine p_callVv (cmiss_ok w (k := k - 1) _ (osS s hs) h) kvX7_212 (by decide +kernel) (Nat.lt_of_succ_lt (osS s (by omega)).1) (osS s (by omega)).2.1 (by omega) rfl rfl rfl rfl rfl ?_
      refine p_if_ne (off := 11) 49 (by decide +kernel) (by decide) (fun cq38 => ?_) (fun cq38 => ?_)
      · have cq38 := bI1.mp cq38
        exact absurd cq38 hy.1
      · have cq38 := bI0.mp cq38
        refine p_run (pc' := 43) [.aload 7] mkX7_copy (by decide +kernel) rfl rfl ?_
        refine p_callVv (cmiss_ok w (k := k - 1) _ (osS t ht) h) kvX7_212 (by decide +kernel) (Nat.lt_of_succ_lt (osS t (by omega)).1) (osS t (by omega)).2.1 (by omega) rfl rfl rfl rfl rfl ?_
        refine p_if_eq (off := 6) 52 (by decide +kernel) (by decide) (fun cq46 => ?_) (fun cq46 => ?_)
        · have cq46 := bI0.mp cq46
          refine p_run (pc' := 54) [.aload 6] mkX7_copy (by decide +kernel) rfl rfl ?_
          refine p_getI (by decide +kernel) fo7_261 (Nat.lt_of_succ_lt (osS s (by omega)).1) (osS s (by omega)).2.1 ((osS s (by omega)).2.2.2.1 _ (by decide)) ?_
          refine p_run (pc' := 59) [.aload 7] mkX7_copy (by decide +kernel) rfl rfl ?_
          refine p_getI (by decide +kernel) fo7_261 (Nat.lt_of_succ_lt (osS t (by omega)).1) (osS t (by omega)).2.1 ((osS t (by omega)).2.2.2.1 _ (by decide)) ?_
          refine p_icmp_eq (off := 6) 68 (by decide +kernel) (by decide) (fun cq62 => ?_) (fun cq62 => ?_)
          · refine p_run (pc' := 73) [.aload 6, .iload_n 2, .iload 5] mkX7_copy (by decide +kernel) rfl rfl ?_
            refine p_callVv (chasps_ok w (k := k - 1) _ (osS s hs) (nI b) (nI m) h) kvX7_276 (by decide +kernel) (Nat.lt_of_succ_lt (osS s (by omega)).1) (osS s (by omega)).2.1 (by omega) rfl rfl rfl rfl rfl ?_
            refine p_if_eq (off := 15) 91 (by decide +kernel) (by decide) (fun cq76 => ?_) (fun cq76 => ?_)
            · have cq76 := bI0.mp cq76
              exact absurd hx.1 cq76
            · have cq76 := bI1.mp cq76
              refine p_run (pc' := 85) [.aload 7, .iload 4, .iload 5] mkX7_copy (by decide +kernel) rfl rfl ?_
              refine p_callVv (chasps_ok w (k := k - 1) _ (osS t ht) (nI e) (nI m) h) kvX7_276 (by decide +kernel) (Nat.lt_of_succ_lt (osS t (by omega)).1) (osS t (by omega)).2.1 (by omega) rfl rfl rfl rfl rfl ?_
              refine p_if_ne (off := 7) 95 (by decide +kernel) (by decide) (fun cq88 => ?_) (fun cq88 => ?_)
              · have cq88 := bI1.mp cq88
                refine p_run (pc' := 97) [.aload 6] mkX7_copy (by decide +kernel) rfl rfl ?_
                refine p_getR (by decide +kernel) fo7_264 (Nat.lt_of_succ_lt (osS s (by omega)).1) (osS s (by omega)).2.1 (osS s (by omega)).2.2.1 ?_
                refine p_run (pc' := 103) [.iload_n 2, .aload 7] mkX7_copy (by decide +kernel) rfl rfl ?_
                refine p_getR (by decide +kernel) fo7_264 (Nat.lt_of_succ_lt (osS t (by omega)).1) (osS t (by omega)).2.1 (osS t (by omega)).2.2.1 ?_
                refine p_run (pc' := 110) [.iload 4, .iload 5] mkX7_copy (by decide +kernel) rfl rfl ?_
                refine p_acopy jlX7_280 (by decide +kernel) (by omega) rfl (osS s hs).1 (osS t ht).1 (osS s hs).2.2.2.2 (osS t ht).2.2.2.2 hbm hem ?_
                refine p_run (pc' := 115) [.iload 5] mkX7_copy (by decide +kernel) rfl rfl ?_
                refine p_iret rfl rfl (by decide +kernel) ?_
                exact ⟨rfl, rfl⟩
              · have cq88 := bI0.mp cq88
                exact absurd hx.2 cq88
          · exact absurd he cq62
        · have cq46 := bI1.mp cq46
          exact absurd cq46 hy.2
    · have cq11 := bI0.mp cq11
      exact absurd (in_nI (j := t) (lo := 0) (hi := 3) (by omega) (by omega) (by omega)) cq11
theorem hp_of {sz x m : Int32} (hz : In sz 24) (h : ¬ x < 0 ∧ ¬ m < 0 ∧ ¬ sz < x ∧ ¬ sz - x < m) : ∃ b n, x = nI b ∧ m = nI n ∧ b + n ≤ nN sz := by
  obtain ⟨h1, h2, h3, h4⟩ := h
  obtain ⟨e, hb⟩ := hz
  rw [e] at h3 h4
  have hx : In x (nN sz) := In_of (by omega) (Int32.not_lt.mp h1) (Int32.not_lt.mp h3)
  have hx2 := hx.2
  rw [hx.1, nIs hx.2] at h4
  have hm : In m (nN sz - nN x) := In_of (by omega) (Int32.not_lt.mp h2) (Int32.not_lt.mp h4)
  exact ⟨nN x, nN m, hx.1, hm.1, by have := hm.2; omega⟩
theorem hp_mk {sz : Int32} {b n : Nat} (hz : In sz 24) (h : b + n ≤ nN sz) : ¬ nI b < 0 ∧ ¬ nI n < 0 ∧ ¬ sz < nI b ∧ ¬ sz - nI b < nI n := by
  obtain ⟨e, hb⟩ := hz
  rw [e, nIs (by omega), nI_ltI (by omega) (by omega), nI_ltI (by omega) (by omega)]
  exact ⟨nI_lt0 (by omega), nI_lt0 (by omega), by omega, by omega⟩
theorem sub_big {sz m : Int32} (hz : In sz 24) (h2 : ¬ m < 0) : (sz - m).toInt = sz.toInt - m.toInt ∧ 0 ≤ m.toInt ∧ sz.toInt = (nN sz : Int) := by
  obtain ⟨e, hb⟩ := hz
  have hm := Int32.not_lt.mp h2
  rw [Int32.le_iff_toInt_le] at hm
  have e2 : (0 : Int32).toInt = 0 := rfl
  have hlt := Int32.toInt_lt m
  have es : sz.toInt = (nN sz : Int) := by rw [e, nI_toInt (by omega), nN_nI (by omega)]
  refine ⟨?_, by omega, es⟩
  rw [Int32.toInt_sub, es, Int.bmod]
  split <;> omega
theorem cp_iff {h : Mm} {s t : Nat} {b e m : Int32} (h1 : h (66 + 2 * s) 2 = h 110 s) (h2 : h (66 + 2 * t) 2 = h 110 t) (z1 : In (h 110 s) 24) (z2 : In (h 110 t) 24) : (hpP h (66 + 2 * s) b m ∧ hpP h (66 + 2 * t) e m) ↔ cpP h s t b e m := by
  unfold hpP cpP
  rw [h1, h2]
  constructor
  · rintro ⟨q1, q2⟩
    obtain ⟨x, n, rfl, rfl, hx⟩ := hp_of z1 q1
    obtain ⟨y, n', rfl, en, hy⟩ := hp_of z2 q2
    have zz1 := z1.2
    have zz2 := z2.2
    have en : n = n' := (nI_eq (by omega) (by omega)).mp en
    subst en
    rw [z1.1, z2.1, nIs (by omega), nIs (by omega), nI_ltI (by omega) (by omega), nI_leI (by omega) (by omega)]
    exact ⟨q1.1, q2.1, q1.2.1, by omega, by omega⟩
  · rintro ⟨c1, c2, c3, c4, c5⟩
    obtain ⟨s1, s2, s3⟩ := sub_big z1 c3
    obtain ⟨s4, s5, s6⟩ := sub_big z2 c3
    have zz1 := z1.2
    have zz2 := z2.2
    have d1 := Int32.not_lt.mp c1
    have d2 := Int32.not_lt.mp c2
    rw [Int32.le_iff_toInt_le] at d1 d2
    have d4 := Int32.not_lt.mp c4
    rw [Int32.le_iff_toInt_le, s1] at d4
    rw [Int32.le_iff_toInt_le, s4] at c5
    have e0 : (0 : Int32).toInt = 0 := rfl
    have l1 : ∀ {x : Int32}, 0 ≤ x.toInt → x.toInt ≤ 24 → x = nI x.toInt.toNat := fun {x} p q => by
      apply Int32.toInt_inj.mp
      rw [nI_toInt (by omega)]
      omega
    rw [l1 (x := b) (by omega) (by omega), l1 (x := e) (by omega) (by omega), l1 (x := m) (by omega) (by omega)]
    exact ⟨hp_mk z1 (by omega), hp_mk z2 (by omega)⟩
theorem st_copy (w : Wt) {k : Nat} (hk : 200 ≤ k) (a b c e m : Int32) (h : Mm) (hR : Rel h) : St w k MX7_copy MX8_copy [.int a, .int b, .int c, .int e, .int m] h := by
  obtain ⟨⟨hP, hI, hQ, hT, hq⟩, -⟩ := id hR
  have hS := hR.2.2.2.1
  by_cases hg : inR a 0 3 ∧ inR c 0 3
  · obtain ⟨s, -, hs, rfl⟩ := inR_of (by omega) (by omega) hg.1
    obtain ⟨t, -, ht, rfl⟩ := inR_of (by omega) (by omega) hg.2
    have hs : s < 4 := by omega
    have ht : t < 4 := by omega
    obtain ⟨a1, a2, a3, a4, a5⟩ := hS s hs
    obtain ⟨b1, b2, b3, b4, b5⟩ := hS t ht
    by_cases hno : h 109 s < 0 ∨ h 109 t < 0
    · exact St.word hR (c_copy_no w hk s t hs ht b e m h (hno.elim (fun q => Or.inl ((hS.nm hs).mp q)) (fun q => Or.inr ((hS.nm ht).mp q)))) (r_copy_no w (by omega) s t hs ht b e m h hno)
    · have hy : ¬ h 109 s < 0 ∧ ¬ h 109 t < 0 := ⟨fun q => hno (Or.inl q), fun q => hno (Or.inr q)⟩
      have hy2 : ¬ h (66 + 2 * s) 1 = Int32.ofInt (-1) ∧ ¬ h (66 + 2 * t) 1 = Int32.ofInt (-1) := ⟨fun q => hy.1 ((hS.nm hs).mpr q), fun q => hy.2 ((hS.nm ht).mpr q)⟩
      by_cases he : h 109 s = h 109 t
      · have he2 : h (66 + 2 * s) 1 = h (66 + 2 * t) 1 := by rw [a1, b1]; exact he
        have hcp := cp_iff (b := b) (e := e) (m := m) a2 b2 a5 b5
        by_cases hx : cpP h s t b e m
        · have hx2 := hcp.mpr hx
          obtain ⟨x, n, rfl, rfl, hbm⟩ := hp_of a5 (by rw [← a2]; exact hx2.1)
          obtain ⟨y, n', rfl, en, hem⟩ := hp_of b5 (by rw [← b2]; exact hx2.2)
          have z1 := a5.2
          have z2 := b5.2
          have en : n = n' := (nI_eq (by omega) (by omega)).mp en
          subst en
          refine St.mk (c_copy w hk s t x y n hs ht h hy2 he2 hx2 (by omega) (by omega)) (fun r h1 q => ⟨_, q.1, ?_⟩)
          have y1 : ∀ a, 95 < a → h1 a = h a := fun a ha => by rw [q.2, wrN (by omega)]
          have e109 := y1 109 (by omega)
          have e110 := y1 110 (by omega)
          have e111 := y1 111 (by omega)
          refine (r_copy w (by omega) s t x y n (nN (h 110 s)) (nN (h 110 t)) hs ht h1 (by rw [e110]; exact a5.1) (by rw [e110]; exact b5.1) z1 z2 hbm hem (by rw [e109]; exact hy) (by rw [e109]; exact he)).imp (fun r2 h2 z => ⟨z.1, ?_⟩)
          obtain ⟨-, z3, z4⟩ := z
          rw [e111] at z3
          have zz : ∀ a, a ≠ 111 → a ≠ 116 → a ≠ 66 + 2 * t + 1 → h2 a = h a := fun a n1 n2 n3 => by rw [z4 a (by simp; omega), q.2, wrN n3]
          refine hR.rs (fun a ha => zz a (by omega) (by omega) (by omega)) ((hR.2.2.2.1).set ht (h 109 t) (h 110 t) ?_ ?_ ?_ ?_ ?_ b4 b5 ?_)
          · rw [zz _ (by omega) (by omega) (by omega)]; exact b1
          · rw [zz _ (by omega) (by omega) (by omega)]; exact b2
          · rw [zz _ (by omega) (by omega) (by omega)]
          · rw [zz _ (by omega) (by omega) (by omega)]
          · intro k hk2
            rw [z4 _ (by simp; omega), q.2, wrS, z3]
            unfold spl
            by_cases hc : y ≤ k ∧ k < y + n
            · rw [if_pos hc, if_pos (by omega)]
              show h (66 + 2 * s + 1) (x + (k - y)) = h 111 (24 * s + x + (24 * t + k - (24 * t + y)))
              rw [a3 _ (by omega)]
              congr 1
              omega
            · rw [if_neg hc, if_neg (by omega)]
              exact b3 k hk2
          · intro u hu hne
            refine ⟨zz _ (by omega) (by omega) (by omega), zz _ (by omega) (by omega) (by omega), by rw [zz _ (by omega) (by omega) (by omega)], by rw [zz _ (by omega) (by omega) (by omega)], fun k hk2 => ?_⟩
            rw [z3]
            unfold spl
            rw [if_neg (by omega)]
        · exact St.word hR (c_copy_ix w hk s t hs ht b e m h hy2 he2 (fun q => hx (hcp.mp q))) (r_copy_ix w (by omega) s t hs ht b e m h hy he hx)
      · exact St.word hR (c_copy_kind w hk s t hs ht b e m h hy2 (by rw [a1, b1]; exact he)) (r_copy_kind w (by omega) s t hs ht b e m h hy he)
  · exact St.word hR (c_copy_bad w hk a b c e m h hg) (r_copy_bad w (by omega) a b c e m h hg)
