/-! the reference: takesE, text -/
theorem ms_adv {n key : Nat} {T : Vc} {m m1 : Mc} (hl : Lg n m.l) (h : msF n T key m = .inl m1) : m1.l = lxN n T m.l ∧ m.l.k ≠ 0 := by
  have t0 := tk0 hl
  unfold msF at h
  by_cases hw : m.wa = true
  · rw [if_pos hw] at h
    by_cases h1 : tkF m.l = 3 ∧ T m.l.s = nI 33 ∧ cnN m.W < 8
    · rw [if_pos h1] at h
      cases h
      exact ⟨rfl, (tk3 h1.1).1⟩
    · rw [if_neg h1] at h
      by_cases h2 : tkF m.l = 3 ∧ T m.l.s = nI 40 ∧ m.pa < 8
      · rw [if_pos h2] at h
        cases h
        exact ⟨rfl, (tk3 h2.1).1⟩
      · rw [if_neg h2] at h
        cases hx : lfF T key m.l with
        | none => rw [hx] at h; cases h
        | some x =>
          rw [hx] at h
          cases h
          refine ⟨rfl, fun q => ?_⟩
          have := t0.mpr q
          rw [lf0 (by omega) (fun z => by omega)] at hx
          cases hx
  · rw [if_neg hw] at h
    by_cases h0 : tkF m.l = 0
    · rw [if_pos h0] at h; cases h
    · rw [if_neg h0] at h
      have hk : m.l.k ≠ 0 := fun q => h0 (t0.mpr q)
      by_cases h1 : tkF m.l = 3 ∧ T m.l.s = nI 41 ∧ 0 < m.pa
      · rw [if_pos h1] at h; cases h; exact ⟨rfl, hk⟩
      · rw [if_neg h1] at h
        by_cases h2 : sgF T m.l = 0 ∨ (rkF (sgF T m.l) = 3 ∧ m.ts m.pa = true)
        · rw [if_pos h2] at h; cases h
        · rw [if_neg h2] at h; cases h; exact ⟨rfl, hk⟩
theorem takes_loop (w : Wt) {k : Nat} (hk : 4 ≤ k) (n key : Nat) (hn : n ≤ 96) (hkey : key ≤ 2) (h0 : Mm) : ∀ (d : Nat) (m : Mc) (h : Mm) (x4 : Option Value), n - m.l.s ≤ d → Mr n key h m → Fa [96, 104, 105, 106] [7, 8, 9, 10, 11, 16, 17, 19] h0 h →
    Wp w k MX8_takesE (fun r h' => ∃ b m', Mend n (h0 101) key m b m' ∧ r = some (.int (b01 b)) ∧ Mr n key h' m' ∧ Fa [96, 104, 105, 106] [7, 8, 9, 10, 11, 16, 17, 19] h0 h') 28 [some (.ref 96), some (.int (nI m.pa)), some (.int (nI (cnN m.W))), some (.int (b01 m.wa)), x4] [] h := by
  intro d
  induction d with
  | zero =>
    intro m h x4 hd hM hF
    have hT : h 101 = h0 101 := hF.1 101 (by decide)
    obtain ⟨l, C, a, W, ts, pa, wa⟩ := m
    have hno : ∀ m1, ¬ msF n (h0 101) key (l, C, a, W, ts, pa, wa) = .inl m1 := fun m1 q => by
      have := ms_adv hM.1 q
      have h1 := hM.1.2.2.2.2.1 this.2
      have h2 := hM.1.2.2.1
      simp only [Mc.l] at *
      omega
    cases wa with
    | true => exact tE_w w hk n key hn hkey (h0 101) l C a W ts pa h0 h hT hM hF _ (fun m1 h1 x4 q => absurd q (hno m1)) (fun b m' h' q1 q2 q3 => ⟨b, m', Mend.now q1, rfl, q2, q3⟩) x4
    | false => exact tE_n w hk n key hn hkey (h0 101) l C a W ts pa h0 h hT hM hF _ (fun m1 h1 x4 q => absurd q (hno m1)) (fun b m' h' q1 q2 q3 => ⟨b, m', Mend.now q1, rfl, q2, q3⟩) x4
  | succ d ih =>
    intro m h x4 hd hM hF
    have hT : h 101 = h0 101 := hF.1 101 (by decide)
    obtain ⟨l, C, a, W, ts, pa, wa⟩ := m
    have hnx : ∀ m1 h1 x4, msF n (h0 101) key (l, C, a, W, ts, pa, wa) = .inl m1 → Mr n key h1 m1 → Fa [96, 104, 105, 106] [7, 8, 9, 10, 11, 16, 17, 19] h0 h1 → Wp w k MX8_takesE (fun r h' => ∃ b m', Mend n (h0 101) key (l, C, a, W, ts, pa, wa) b m' ∧ r = some (.int (b01 b)) ∧ Mr n key h' m' ∧ Fa [96, 104, 105, 106] [7, 8, 9, 10, 11, 16, 17, 19] h0 h') 28 [some (.ref 96), some (.int (nI m1.pa)), some (.int (nI (cnN m1.W))), some (.int (b01 m1.wa)), x4] [] h1 := fun m1 h1 x4 q hM1 hF1 => by
      have ad := ms_adv hM.1 q
      have g1 := hM.1.2.2.2.2.1 ad.2
      have g2 := (lxN_Lg (n := n) (T := h0 101) (l := l) hM.1.2.2.1).2
      have g3 : m1.l.s = (lxN n (h0 101) l).s := by rw [ad.1]
      simp only [Mc.l] at *
      exact Wp.imp (fun r h' ⟨b, m', z1, z2⟩ => ⟨b, m', Mend.step q z1, z2⟩) (ih m1 h1 x4 (by omega) hM1 hF1)
    cases wa with
    | true => exact tE_w w hk n key hn hkey (h0 101) l C a W ts pa h0 h hT hM hF _ hnx (fun b m' h' q1 q2 q3 => ⟨b, m', Mend.now q1, rfl, q2, q3⟩) x4
    | false => exact tE_n w hk n key hn hkey (h0 101) l C a W ts pa h0 h hT hM hF _ hnx (fun b m' h' q1 q2 q3 => ⟨b, m', Mend.now q1, rfl, q2, q3⟩) x4
theorem m1_ne : ∀ j, j < 97 → ¬ Int32.ofInt (-1) = nI j := by decide +kernel
abbrev m00 (l : Lx) : Mc := (l, [], 0, [], fun _ => false, 0, true)
set_option maxRecDepth 20000 in
set_option maxHeartbeats 4000000 in
theorem takesE_ok (w : Wt) {k : Nat} (hk : 4 ≤ k) (n key : Nat) (hn : n ≤ 96) (hkey : key ≤ 2) (l : Lx) (hl : Lg n l) (h : Mm) (hg : Gs n (h 101) (h 96) l) (ek : h 96 12 = nI key) : Ok w k MX8_takesE [.ref 96] h (fun r h' => ∃ b m', Mend n (h 101) key (m00 l) b m' ∧ r = some (.int (b01 b)) ∧ Mr n key h' m' ∧ Fa [96, 104, 105, 106] [7, 8, 9, 10, 11, 16, 17, 19] h h') := by
  show Wp w k MX8_takesE _ 0 [some (.ref 96), none, none, none, none] [] h
  refine p_run (pc' := 27) [.iconst 0, .istore_n 1, .iconst 0, .istore_n 2, .iconst 1, .istore_n 3, .aload_n 0, .iconst 0, .putfield 250, .aload_n 0, .iconst 0, .putfield 256, .aload_n 0, .iconst 0, .putfield 244, .aload_n 0, .getfield 38, .iconst 0, .iconst 0] mkX8_takesE (by decide +kernel) rfl rfl ?_
  refine p_zast 0 (by decide +kernel) rfl rfl rfl (by decide) (Or.inl rfl) ?_
  generalize eh : up (up (up (up h 96 16 _) 96 17 _) 96 19 _) 106 0 _ = h1
  have f : ∀ j, j ≠ 16 → j ≠ 17 → j ≠ 19 → h1 96 j = h 96 j := fun j a b c => by rw [← eh, upN (by decide), uN c, uN b, uN a]
  have hF : Fa [96, 104, 105, 106] [7, 8, 9, 10, 11, 16, 17, 19] h h1 := by rw [← eh]; exact Fa.tr (Fa.tr (Fa.tr (Fa.u1 (by decide) (by decide)) (Fa.u1 (by decide) (by decide))) (Fa.u1 (by decide) (by decide))) (Fa.ar (by decide) (by decide))
  have hM : Mr n key h1 (m00 l) := by
    refine ⟨hl, ?_, ?_, ⟨?_, ?_, trivial, trivial⟩, ?_, ?_, Nat.zero_le _, rfl, Nat.zero_le _, trivial⟩
    · rw [hF.1 101 (by decide)]; exact hg.of (fun j a b => f j (by omega) (by omega) (by omega))
    · rw [f 12 (by decide) (by decide) (by decide)]; exact ek
    · rw [← eh, upN (by decide), uF]; rfl
    · rw [← eh, upN (by decide), uN (by decide), uN (by decide), uF]; rfl
    · rw [← eh, upN (by decide), uN (by decide), uF]; rfl
    · intro j hj; have hj : j = 0 := Nat.le_zero.mp hj; rw [← eh, hj, uF]; rfl
  exact takes_loop w hk n key hn hkey h (n - l.s) (m00 l) h1 none (Nat.le_refl _) hM hF
def gC : List Int32 → Nat → Int32
  | [], _ => nI 0
  | x :: r, k => if k = r.length then x else gC r k
theorem stk_gC {f : Vc} : ∀ {C : List Int32}, stk f C → ∀ k, k < C.length → f k = gC C k
  | [], _, k, hk => absurd hk (Nat.not_lt_zero _)
  | x :: r, h, k, hk => by
    rw [gC]
    by_cases e : k = r.length
    · rw [if_pos e, e]; exact h.1
    · rw [if_neg e]; exact stk_gC h.2 k (by simp only [List.length_cons] at hk; omega)
def txF (N : Vc) (t key : Nat) (C : List Int32) (a : Nat) : Vc := upd (spl (upd (upd N (70 + 2 * t) (nI (1000 * key + C.length))) (70 + 2 * t + 1) (nI a)) (98 + 96 * t) C.length (gC C)) 7 (nI (t + 1))
abbrev fltV (s : Nat) : Int32 := Int32.ofInt (-100) - nI s
def l00 : Lx := (0, 0, 0, false)
theorem keF_le {T : Vc} {l : Lx} {v : Nat} (h : keF T l = some v) : v ≤ 2 ∧ tkF l = 1 := by
  unfold keF at h
  by_cases h1 : tkF l = 1
  · rw [if_pos h1] at h
    refine ⟨?_, h1⟩
    split at h
    · cases h; omega
    · split at h
      · cases h; omega
      · split at h
        · cases h; omega
        · cases h
  · rw [if_neg h1] at h; cases h
theorem spl_congr {f : Vc} {t n : Nat} {g g' : Nat → Int32} (h : ∀ k, k < n → g k = g' k) : spl f t n g = spl f t n g' := by
  funext k
  unfold spl
  by_cases q : t ≤ k ∧ k < t + n
  · rw [if_pos q, if_pos q]; exact h _ (by omega)
  · rw [if_neg q, if_neg q]
def TxQ (n t : Nat) (h : Mm) (l1 : Lx) (r : Option Value) (h' : Mm) : Prop := h' 96 6 = nI 0 ∧ Fa [96, 97, 104, 105, 106] [6, 7, 8, 9, 10, 11, 12, 16, 17, 19] h h' ∧ (match keF (h 101) l1 with
  | none => r = some (.int (fltV l1.s)) ∧ h' 97 = h 97
  | some key => ∃ b m', Mend n (h 101) key (m00 (lxN n (h 101) l1)) b m' ∧ (if b = true then (if t = 14 then r = some (.int FULLv) ∧ h' 97 = h 97 else r = some (.int (nI t)) ∧ h' 97 = txF (h 97) t key m'.C m'.at) else r = some (.int (fltV m'.l.s)) ∧ h' 97 = h 97))
set_option maxRecDepth 20000 in
set_option maxHeartbeats 4000000 in
theorem r_text (w : Wt) {k : Nat} (hk : 6 ≤ k) (n t : Nat) (hn : n ≤ 96) (ht : t ≤ 14) (h : Mm) (e6 : h 96 6 = nI n) (e7 : h 97 7 = nI t) (hK : KR h) : Ok w k MX8_text [.ref 96] h (TxQ n t h (lxN n (h 101) l00)) := by
  show Wp w k MX8_text _ 0 [some (.ref 96), none, none, none] [] h
  refine p_run (pc' := 11) [.aload_n 0, .iconst 0, .putfield 217, .aload_n 0, .iconst (-1), .putfield 223, .aload_n 0] mkX8_text (by decide +kernel) rfl rfl ?_
  generalize eh : up (up h 96 7 _) 96 11 _ = h1
  have hF1 : Fr [7, 8, 9, 10, 11] h h1 := by rw [← eh]; exact (Fr.up (by decide)).tr (Fr.up (by decide))
  have e11 : h1 96 11 = Int32.ofInt (-1) := by rw [← eh, uF]
  have e71 : h1 96 7 = nI 0 := by rw [← eh, uN (by decide), uF]; rfl
  clear eh
  have t1 : h1 101 = h 101 := hF1.1 101 (by decide)
  refine p_callVo (go_ok w (k := k - 1) (by omega) n hn l00 (Nat.zero_le _) h1 (by rw [hF1.2 6 (by decide), e6]) e71 ⟨fun q => absurd q (by decide), fun _ j h1 h2 q => by rw [e11] at q; exact m1_ne j (by omega) q⟩) (fun _ _ q => q.1) kvX8_241 (by decide +kernel) (by decide) rfl (by omega) rfl rfl rfl rfl rfl (fun h' hq => ?_)
  obtain ⟨-, hg2, hF2⟩ := hq
  rw [t1] at hg2
  have hl1 := (lxN_Lg (n := n) (T := h 101) (l := l00) (Nat.zero_le _)).1
  generalize el : lxN n (h 101) l00 = l1 at *
  rename Mm => h2
  have t2 : h2 101 = h 101 := by rw [hF2.1 101 (by decide), t1]
  have hFF : Fr [7, 8, 9, 10, 11] h h2 := hF1.tr hF2
  have hK2 : KR h2 := by unfold KR; rw [hFF.1 102 (by decide), hFF.1 103 (by decide)]; exact hK
  refine p_run (pc' := 15) [.aload_n 0] mkX8_text (by decide +kernel) rfl rfl ?_
  refine p_callV (takesKey_ok w (k := k - 1) (by omega) n hn l1 hl1 h2 (by rw [t2]; exact hg2) hK2) kvX8_272 (by decide +kernel) (by decide) rfl (by omega) rfl rfl rfl rfl rfl (fun r h' hq => ?_)
  rw [t2] at hq
  unfold TxQ
  cases hke : keF (h 101) l1 with
  | none =>
    rw [hke] at hq
    obtain ⟨rfl, rfl⟩ := hq
    refine p_if_eq (off := 14) 32 (by decide +kernel) (by decide) (fun cq1 => ?_) (fun cq1 => ?_)
    · refine p_run (pc' := 40) [.iconst 0, .istore_n 1, .aload_n 0, .iconst 0, .putfield 213, .iload_n 1] mkX8_text (by decide +kernel) rfl rfl ?_
      refine p_if_ne (off := 11) 51 (by decide +kernel) (by decide) (fun cq2 => ?_) (fun cq2 => ?_)
      · exact absurd rfl cq2
      · refine p_run (pc' := 50) [.bipush (-100), .aload_n 0, .getfield 220, .isub] mkX8_text (by decide +kernel) rfl rfl ?_
        refine p_iret rfl rfl (by decide +kernel) ?_
        exact ⟨uF, ⟨(hFF.1.mono (by decide)).tr (Ag.up (by decide)), fun j hj => by rw [uN (fun q => hj (by rw [q]; decide)), hFF.2 j (fun q => hj (by revert q; simp; omega))]⟩, by rw [uN (by decide), hg2.2.2.1], by rw [upN (by decide), hFF.1 97 (by decide)]⟩
    · exact absurd rfl cq1
  | some key =>
    rw [hke] at hq
    obtain ⟨rfl, hg3, ek3, hF3⟩ := hq
    rename Mm => h3
    have hkl := keF_le hke
    have hl2 := (lxN_Lg (n := n) (T := h 101) (l := l1) hl1.2.2.1).1
    have t3 : h3 101 = h 101 := by rw [hF3.1 101 (by decide), t2]
    refine p_if_eq (off := 14) 32 (by decide +kernel) (by decide) (fun cq1 => ?_) (fun cq1 => ?_)
    · exact False.elim (by revert cq1; decide)
    · refine p_run (pc' := 22) [.aload_n 0] mkX8_text (by decide +kernel) rfl rfl ?_
      refine p_callV (takesE_ok w (k := k - 1) (by omega) n key hn hkl.1 _ hl2 h3 (by rw [t3]; exact hg3) ek3) kvX8_275 (by decide +kernel) (by decide) rfl (by omega) rfl rfl rfl rfl rfl (fun r h' hq => ?_)
      obtain ⟨b, m', hE, rfl, hM, hF4⟩ := hq
      rename Mm => h4
      rw [t3] at hE
      have hF5 : Fa [96, 97, 104, 105, 106] [6, 7, 8, 9, 10, 11, 12, 16, 17, 19] h h4 := (((Fr.fa (A := [96, 97, 104, 105, 106]) (by decide) hFF).mono (by decide) (by decide)).tr ((Fr.fa (A := [96, 97, 104, 105, 106]) (by decide) hF3).mono (by decide) (by decide))).tr (hF4.mono (by decide) (by decide))
      have e97 : h4 97 = h 97 := by rw [hF4.1 97 (by decide), hF3.1 97 (by decide), hFF.1 97 (by decide)]
      have e8 : h4 96 8 = nI m'.l.s := hM.2.1.2.2.1
      cases b with
      | false =>
        refine p_if_eq (off := 7) 32 (by decide +kernel) (by decide) (fun cq2 => ?_) (fun cq2 => ?_)
        · refine p_run (pc' := 40) [.iconst 0, .istore_n 1, .aload_n 0, .iconst 0, .putfield 213, .iload_n 1] mkX8_text (by decide +kernel) rfl rfl ?_
          refine p_if_ne (off := 11) 51 (by decide +kernel) (by decide) (fun cq3 => ?_) (fun cq3 => ?_)
          · exact absurd rfl cq3
          · refine p_run (pc' := 50) [.bipush (-100), .aload_n 0, .getfield 220, .isub] mkX8_text (by decide +kernel) rfl rfl ?_
            refine p_iret rfl rfl (by decide +kernel) ?_
            exact ⟨uF, hF5.tr (Fa.u1 (by decide) (by decide)), false, m', hE, by rw [if_neg (by decide)]; exact ⟨by rw [uN (by decide), e8], by rw [upN (by decide), e97]⟩⟩
        · exact absurd rfl cq2
      | true =>
        refine p_if_eq (off := 7) 32 (by decide +kernel) (by decide) (fun cq2 => ?_) (fun cq2 => ?_)
        · exact False.elim (by revert cq2; decide)
        · refine p_run (pc' := 40) [.iconst 1, .goto 4, .istore_n 1, .aload_n 0, .iconst 0, .putfield 213, .iload_n 1] mkX8_text (by decide +kernel) rfl rfl ?_
          refine p_if_ne (off := 11) 51 (by decide +kernel) (by decide) (fun cq3 => ?_) (fun cq3 => ?_)
          · generalize eh : up h4 96 6 _ = h5
            have e6' : h5 96 6 = nI 0 := by rw [← eh, uF]; rfl
            have hF6 : Fa [96, 97, 104, 105, 106] [6, 7, 8, 9, 10, 11, 12, 16, 17, 19] h h5 := by rw [← eh]; exact hF5.tr (Fa.u1 (by decide) (by decide))
            have e97' : h5 97 = h 97 := by rw [← eh, upN (by decide), e97]
            have f12 : h5 96 12 = nI key := by rw [← eh, uN (by decide)]; exact hM.2.2.1
            have f16 : h5 96 16 = nI m'.C.length := by rw [← eh, uN (by decide)]; exact hM.2.2.2.1.2.1
            have f17 : h5 96 17 = nI m'.at := by rw [← eh, uN (by decide)]; exact hM.2.2.2.2.1
            have f104 : ∀ k, k < m'.C.length → h5 104 k = gC m'.C k := by rw [← eh, upN (by decide)]; exact stk_gC hM.2.2.2.1.2.2.2
            have hcl : m'.C.length ≤ 96 := by have := hM.2.2.2.2.2.2.1; have := hM.1.1; omega
            clear eh
            refine p_run (pc' := 57) [.aload_n 0, .getfield 9, .bipush 7] mkX8_text (by decide +kernel) rfl rfl ?_
            refine p_iald (7) (by decide +kernel) rfl rfl (by simp only [oI]) (by omega) ?_
            rw [e97', e7]
            refine p_run (pc' := 60) [.bipush 14] mkX8_text (by decide +kernel) rfl rfl ?_
            refine p_icmp_ne (off := 6) 66 (by decide +kernel) (by decide) (fun cq4 => ?_) (fun cq4 => ?_)
            · have nt14 : ¬ t = 14 := fun q => cq4 (by rw [q]; rfl)
              refine p_run (pc' := 72) [.aload_n 0, .getfield 9, .bipush 7] mkX8_text (by decide +kernel) rfl rfl ?_
              refine p_iald (7) (by decide +kernel) rfl rfl (by simp only [oI]) (by omega) ?_
              rw [e97', e7]
              refine p_run (pc' := 97) [.istore_n 2, .aload_n 0, .getfield 9, .bipush 70, .iconst 2, .iload_n 2, .imul, .iadd, .sipush 1000, .aload_n 0, .getfield 238, .imul, .aload_n 0, .getfield 250, .iadd] mkX8_text (by decide +kernel) rfl rfl ?_
              refine Wp.eqS (st' := [.int (nI (1000 * key + m'.C.length)), .int (nI (70 + 2 * t)), .ref 97]) (by rw [f12, f16]; simp only [oI, nIm, nI_add]; rfl) ?_
              refine p_iast (70 + 2 * t) (by decide +kernel) rfl rfl rfl (by omega)  ?_
              refine p_run (pc' := 114) [.aload_n 0, .getfield 9, .bipush 70, .iconst 2, .iload_n 2, .imul, .iadd, .iconst 1, .iadd, .aload_n 0, .getfield 256] mkX8_text (by decide +kernel) rfl rfl ?_
              refine Wp.eqS (st' := [.int (nI m'.at), .int (nI (70 + 2 * t + 1)), .ref 97]) (by rw [upN (show 96 ≠ 97 by decide), f17]; simp only [oI, nIm, nI_add]) ?_
              refine p_iast (70 + 2 * t + 1) (by decide +kernel) rfl rfl rfl (by omega)  ?_
              refine p_run (pc' := 117) [.iconst 0, .istore_n 3] mkX8_text (by decide +kernel) rfl rfl ?_
              generalize e6q : up (up h5 97 (70 + 2 * t) _) 97 (70 + 2 * t + 1) _ = h6
              have g97 : h6 97 = upd (upd (h 97) (70 + 2 * t) (nI (1000 * key + m'.C.length))) (70 + 2 * t + 1) (nI m'.at) := by rw [← e6q, upS, upS, e97']
              have gA : ∀ a, a ≠ 97 → h6 a = h5 a := fun a ha => by rw [← e6q, upN ha, upN ha]
              clear e6q
              refine Wp.for (m'.C.length) (fun i L hh => L = [some (.ref 96), some (.int (nI 1)), some (.int (nI t)), some (.int (nI i))] ∧ hh = wr h6 97 (spl (h6 97) (98 + 96 * t) i (gC m'.C))) ?_ ?_ (0) (by omega) _ _ ?_
              · rintro i L hh hi ⟨rfl, hJ⟩ ih
                subst hJ
                refine p_run (pc' := 122) [.iload_n 3, .aload_n 0, .getfield 250] mkX8_text (by decide +kernel) rfl rfl ?_
                rw [wrN (by decide), gA 96 (by decide), f16]
                refine p_icmp_ge (off := 29) 151 (by decide +kernel) (by decide) (fun cq5 => ?_) (fun cq5 => ?_)
                · exact absurd cq5 (nI_ge (by omega) (by omega))
                · refine p_run (pc' := 143) [.aload_n 0, .getfield 9, .bipush 98, .bipush 96, .iload_n 2, .imul, .iadd, .iload_n 3, .iadd, .aload_n 0, .getfield 32, .iload_n 3] mkX8_text (by decide +kernel) rfl rfl ?_
                  refine p_iald (i) (by decide +kernel) rfl rfl rfl (by omega) ?_
                  rw [wrN (by decide), gA 104 (by decide), f104 i hi]
                  refine p_iast (98 + 96 * t + i) (by decide +kernel) rfl rfl (by simp only [oI, nIm, nI_add]) (by omega)  ?_
                  refine p_run (pc' := 117) [.iinc 3 1, .goto (-31)] mkX8_text (by decide +kernel) rfl rfl ?_
                  exact ih _ _ ⟨by rw [show nI i + Int32.ofInt 1 = nI (i + 1) by simp only [oI, nI_add]], by rw [up_up97, wr_wr, wrS, ← splS]⟩
              · rintro L hh ⟨rfl, hJ⟩
                subst hJ
                refine p_run (pc' := 122) [.iload_n 3, .aload_n 0, .getfield 250] mkX8_text (by decide +kernel) rfl rfl ?_
                rw [wrN (by decide), gA 96 (by decide), f16]
                refine p_icmp_ge (off := 29) 151 (by decide +kernel) (by decide) (fun cq5 => ?_) (fun cq5 => ?_)
                · refine p_run (pc' := 158) [.aload_n 0, .getfield 9, .bipush 7, .dup2] mkX8_text (by decide +kernel) rfl rfl ?_
                  refine p_iald (7) (by decide +kernel) rfl rfl (by simp only [oI]) (by omega) ?_
                  have w7 : wr h6 97 (spl (h6 97) (98 + 96 * t) m'.C.length (gC m'.C)) 97 7 = nI t := by rw [wrS, g97]; unfold spl; rw [if_neg (by omega), upd_n (by omega), upd_n (by omega), e7]
                  rw [w7]
                  refine p_run (pc' := 161) [.iconst 1, .iadd] mkX8_text (by decide +kernel) rfl rfl ?_
                  refine p_iast (7) (by decide +kernel) rfl rfl (by simp only [oI]) (by omega)  ?_
                  refine p_run (pc' := 163) [.iload_n 2] mkX8_text (by decide +kernel) rfl rfl ?_
                  refine p_iret rfl rfl (by decide +kernel) ?_
                  refine ⟨?_, ?_, true, m', hE, ?_⟩
                  · rw [upN (by decide), wrN (by decide), gA 96 (by decide), e6']
                  · exact hF6.tr ⟨fun a ha => by rw [upN (fun q => ha (by rw [q]; decide)), wrN (fun q => ha (by rw [q]; decide)), gA a (fun q => ha (by rw [q]; decide))], fun j _ => by rw [upN (by decide), wrN (by decide), gA 96 (by decide)]⟩
                  · rw [if_pos rfl, if_neg nt14]
                    refine ⟨rfl, ?_⟩
                    rw [upS, wrS, g97, oI, nI_add]
                    rfl
                · exact absurd (nI_le (Nat.le_refl _) (by omega)) cq5
              · exact ⟨rfl, by rw [spl0, wr_self]⟩
            · have t14 : t = 14 := (nI_eq (by omega) (by omega)).mp cq4
              refine p_run (pc' := 65) [.ldc 124] mkX8_text (by decide +kernel) rfl rfl ?_
              refine p_iret rfl rfl (by decide +kernel) ?_
              exact ⟨e6', hF6, true, m', hE, by rw [if_pos rfl, if_pos t14]; exact ⟨rfl, e97'⟩⟩
          · exact False.elim (by revert cq3; decide)
