/-! the class's text -/
theorem l1_t {n : Nat} {T : Vc} : (lxN n T l00).t = false := by
  show ((decide (skF n T 0 = 0) && isW 0) && isW (srt n T (skF n T 0))) = false
  rw [show isW 0 = false from rfl, Bool.and_false, Bool.false_and]
theorem l1_tk {n : Nat} {T : Vc} (h : (lxN n T l00).k = 1) : tkF (lxN n T l00) = 1 := by
  unfold tkF
  rw [h, l1_t]
  rfl
def F2 (h h' : Mm) : Prop := ∀ a, a ≠ 8 → a ≠ 10 → h' a = h a
def FaQ (n : Nat) (h : Mm) (r : Option Value) (h' : Mm) : Prop := F2 h h' ∧ ((keF (h 9) (lxN n (h 9) l00) = none ∧ r = some (.int (nI (lxN n (h 9) l00).s))) ∨ ∃ key b m', keF (h 9) (lxN n (h 9) l00) = some key ∧ Mend n (h 9) key (m00 (lxN n (h 9) (lxN n (h 9) l00))) b m' ∧ ((b = false ∧ r = some (.int (nI m'.l.s))) ∨ (b = true ∧ r = some (.int (Int32.ofInt (-1))) ∧ h' 8 8 = nI key ∧ h' 8 9 = nI m'.at ∧ CC h' m'.C ∧ wfL (nmF key) m'.C 1 ∧ m'.C.length ≤ 96)))
set_option maxRecDepth 20000 in
set_option maxHeartbeats 4000000 in
theorem begin_ok (w : Wt) {k : Nat} (hk : 3 ≤ k) (n : Nat) (hn : n ≤ 96) (h : Mm) (e1 : h 8 1 = nI n) : Ok w k MX3_begin [.ref 8] h (fun r h' => r = none ∧ Cl h' (lxN n (h 9) l00) ∧ h' 8 1 = nI n ∧ h' 8 6 = nI 0 ∧ h' 8 7 = nI 0 ∧ h' 8 9 = nI 0 ∧ h' 8 11 = nI 0 ∧ Fq h h') := by
  show Wp w k MX3_begin _ 0 [some (.ref 8)] [] h
  refine p_run (pc' := 31) [.aload_n 0, .iconst 0, .putfield 42, .aload_n 0, .iconst 0, .putfield 45, .aload_n 0, .iconst 0, .putfield 48, .aload_n 0, .iconst 0, .putfield 51, .aload_n 0, .iconst 0, .putfield 54, .aload_n 0, .iconst 0, .putfield 57, .aload_n 0] mkX3_begin (by decide +kernel) rfl rfl ?_
  have f1 : up (up (up (up (up (up h 8 2 (Int32.ofInt 0)) 8 4 (Int32.ofInt 0)) 8 6 (Int32.ofInt 0)) 8 7 (Int32.ofInt 0)) 8 9 (Int32.ofInt 0)) 8 11 (Int32.ofInt 0) 8 1 = nI n := by rw [uN (by decide), uN (by decide), uN (by decide), uN (by decide), uN (by decide), uN (by decide)]; exact e1
  have f2 : up (up (up (up (up (up h 8 2 (Int32.ofInt 0)) 8 4 (Int32.ofInt 0)) 8 6 (Int32.ofInt 0)) 8 7 (Int32.ofInt 0)) 8 9 (Int32.ofInt 0)) 8 11 (Int32.ofInt 0) 8 2 = nI 0 := by rw [uN (by decide), uN (by decide), uN (by decide), uN (by decide), uN (by decide), uF]; rfl
  have f4 : up (up (up (up (up (up h 8 2 (Int32.ofInt 0)) 8 4 (Int32.ofInt 0)) 8 6 (Int32.ofInt 0)) 8 7 (Int32.ofInt 0)) 8 9 (Int32.ofInt 0)) 8 11 (Int32.ofInt 0) 8 4 = nI 0 := by rw [uN (by decide), uN (by decide), uN (by decide), uN (by decide), uF]; rfl
  have f6 : up (up (up (up (up (up h 8 2 (Int32.ofInt 0)) 8 4 (Int32.ofInt 0)) 8 6 (Int32.ofInt 0)) 8 7 (Int32.ofInt 0)) 8 9 (Int32.ofInt 0)) 8 11 (Int32.ofInt 0) 8 6 = nI 0 := by rw [uN (by decide), uN (by decide), uN (by decide), uF]; rfl
  have f7 : up (up (up (up (up (up h 8 2 (Int32.ofInt 0)) 8 4 (Int32.ofInt 0)) 8 6 (Int32.ofInt 0)) 8 7 (Int32.ofInt 0)) 8 9 (Int32.ofInt 0)) 8 11 (Int32.ofInt 0) 8 7 = nI 0 := by rw [uN (by decide), uN (by decide), uF]; rfl
  have f9 : up (up (up (up (up (up h 8 2 (Int32.ofInt 0)) 8 4 (Int32.ofInt 0)) 8 6 (Int32.ofInt 0)) 8 7 (Int32.ofInt 0)) 8 9 (Int32.ofInt 0)) 8 11 (Int32.ofInt 0) 8 9 = nI 0 := by rw [uN (by decide), uF]; rfl
  have f11 : up (up (up (up (up (up h 8 2 (Int32.ofInt 0)) 8 4 (Int32.ofInt 0)) 8 6 (Int32.ofInt 0)) 8 7 (Int32.ofInt 0)) 8 9 (Int32.ofInt 0)) 8 11 (Int32.ofInt 0) 8 11 = nI 0 := by rw [uF]; rfl
  have f0 : up (up (up (up (up (up h 8 2 (Int32.ofInt 0)) 8 4 (Int32.ofInt 0)) 8 6 (Int32.ofInt 0)) 8 7 (Int32.ofInt 0)) 8 9 (Int32.ofInt 0)) 8 11 (Int32.ofInt 0) 9 = h 9 := by rw [upN (by decide), upN (by decide), upN (by decide), upN (by decide), upN (by decide), upN (by decide)]
  have fF : Fq h (up (up (up (up (up (up h 8 2 (Int32.ofInt 0)) 8 4 (Int32.ofInt 0)) 8 6 (Int32.ofInt 0)) 8 7 (Int32.ofInt 0)) 8 9 (Int32.ofInt 0)) 8 11 (Int32.ofInt 0)) := (((((Fq.u8 (by decide)).tr (Fq.u8 (by decide))).tr (Fq.u8 (by decide))).tr (Fq.u8 (by decide))).tr (Fq.u8 (by decide))).tr (Fq.u8 (by decide))
  generalize up (up (up (up (up (up h 8 2 (Int32.ofInt 0)) 8 4 (Int32.ofInt 0)) 8 6 (Int32.ofInt 0)) 8 7 (Int32.ofInt 0)) 8 9 (Int32.ofInt 0)) 8 11 (Int32.ofInt 0) = h1 at *
  refine p_callVo (next_ok w (k := k - 1) (by omega) n hn l00 (Nat.zero_le _) (by decide) h1 f1 f2 f4) (fun _ _ q => q.1) kvX3_35 (by decide +kernel) (by decide) rfl (by omega) rfl rfl rfl rfl rfl (fun h' hq => ?_)
  obtain ⟨-, a1, a2⟩ := hq
  rename Mm => h2
  rw [f0] at a1
  refine p_vret rfl (by decide +kernel) ?_
  exact ⟨rfl, a1, by rw [a2.2 1 (by decide)]; exact f1, by rw [a2.2 6 (by decide)]; exact f6, by rw [a2.2 7 (by decide)]; exact f7, by rw [a2.2 9 (by decide)]; exact f9, by rw [a2.2 11 (by decide)]; exact f11, fF.tr (Fq.f8 a2)⟩
set_option maxRecDepth 20000 in
set_option maxHeartbeats 4000000 in
theorem fault_ok (w : Wt) {k : Nat} (hk : 800 ≤ k) (n : Nat) (hn : n ≤ 96) (h : Mm) (e1 : h 8 1 = nI n) (hB : Bt n (h 9)) : Ok w k MX3_fault [.ref 8] h (FaQ n h) := by
  show Wp w k MX3_fault _ 0 [some (.ref 8)] [] h
  refine p_run (pc' := 1) [.aload_n 0] mkX3_fault (by decide +kernel) rfl rfl ?_
  refine p_callVo (begin_ok w (k := k - 1) (by omega) n hn h e1) (fun _ _ q => q.1) kvX3_22 (by decide +kernel) (by decide) rfl (by omega) rfl rfl rfl rfl rfl (fun h' hq => ?_)
  obtain ⟨-, a1, a2, a3, a4, a5, a6, aF⟩ := hq
  rename Mm => h1
  have e9 : h1 9 = h 9 := aF.1 9 (by decide) (by decide)
  have hg1 : Lg n (lxN n (h 9) l00) := (lxN_Lg (Nat.zero_le _)).1
  have hn2 := hg1.1
  refine p_run (pc' := 6) [.aload_n 0, .aload_n 0] mkX3_fault (by decide +kernel) rfl rfl ?_
  refine p_callVv (keyHere_ok w (k := k - 1) (by omega) n hn (lxN n (h 9) l00) hg1 h1 a2 a1 l1_tk) kvX3_25 (by decide +kernel) (by decide) rfl (by omega) rfl rfl rfl rfl rfl ?_
  rw [e9]
  refine p_run (pc' := 16) [.putfield 29, .aload_n 0, .getfield 29] mkX3_fault (by decide +kernel) rfl rfl ?_
  have hF2 : F2 h (up h1 8 8 (kvF (h 9) (lxN n (h 9) l00))) := fun a n1 n2 => by rw [upN n1]; exact aF.1 a n1 n2
  rw [show up h1 8 8 (kvF (h 9) (lxN n (h 9) l00)) 8 8 = kvF (h 9) (lxN n (h 9) l00) from uF]
  cases hke : keF (h 9) (lxN n (h 9) l00) with
  | none =>
    rw [kv0 hke]
    refine p_if_ge (off := 8) 24 (by decide +kernel) (by decide) (fun cq1 => ?_) (fun cq1 => ?_)
    · exact False.elim (by revert cq1; decide)
    · refine p_run (pc' := 23) [.aload_n 0, .getfield 32] mkX3_fault (by decide +kernel) rfl rfl ?_
      refine p_iret rfl rfl (by decide +kernel) ?_
      exact ⟨by rw [kv0 hke] at hF2; exact hF2, Or.inl ⟨hke, by rw [uN (by decide), a1.2.1]⟩⟩
  | some key =>
    rw [kv1 hke] at *
    have hkey := (keF_le hke).1
    have hk1 : (lxN n (h 9) l00).k = 1 := tk1 (keF_le hke).2
    refine p_if_ge (off := 8) 24 (by decide +kernel) (by decide) (fun cq1 => ?_) (fun cq1 => ?_)
    · have b1 : up h1 8 8 (nI key) 8 8 = nI key := uF
      have b2 : up h1 8 8 (nI key) 8 1 = nI n := by rw [uN (by decide)]; exact a2
      have b3 : Cl (up h1 8 8 (nI key)) (lxN n (h 9) l00) := ⟨by rw [uN (by decide)]; exact a1.1, by rw [uN (by decide)]; exact a1.2.1, by rw [uN (by decide)]; exact a1.2.2.1, by rw [uN (by decide)]; exact a1.2.2.2⟩
      have b6 : up h1 8 8 (nI key) 8 6 = nI 0 := by rw [uN (by decide)]; exact a3
      have b7 : up h1 8 8 (nI key) 8 7 = nI 0 := by rw [uN (by decide)]; exact a4
      have b9 : up h1 8 8 (nI key) 8 9 = nI 0 := by rw [uN (by decide)]; exact a5
      have b11 : up h1 8 8 (nI key) 8 11 = nI 0 := by rw [uN (by decide)]; exact a6
      have b0 : up h1 8 8 (nI key) 9 = h 9 := by rw [upN (by decide)]; exact e9
      generalize up h1 8 8 (nI key) = h2 at *
      refine p_run (pc' := 25) [.aload_n 0] mkX3_fault (by decide +kernel) rfl rfl ?_
      refine p_callVo (next_ok w (k := k - 1) (by omega) n hn (lxN n (h 9) l00) hg1.2.2.1 hg1.2.2.2.2.2 h2 b2 b3.1 b3.2.2.1) (fun _ _ q => q.1) kvX3_35 (by decide +kernel) (by decide) rfl (by omega) rfl rfl rfl rfl rfl (fun h' hq => ?_)
      obtain ⟨-, c1, c2⟩ := hq
      rename Mm => h3
      rw [b0] at c1
      have hF3 : F2 h h3 := fun a n1 n2 => (c2.1 a n1).trans (hF2 a n1 n2)
      have hP : Pz n (h 9) key (m00 (lxN n (h 9) (lxN n (h 9) l00))) h3 := ⟨rfl, Lz.nx hg1, ⟨by rw [c2.1 9 (by decide)]; exact b0, by rw [c2.2 1 (by decide)]; exact b2, by rw [c2.2 8 (by decide)]; exact b1, c1, by rw [c2.2 9 (by decide)]; exact b9, by rw [c2.2 11 (by decide)]; exact b11, fun k hk2 => absurd hk2 (Nat.not_lt_zero _)⟩, by rw [c2.2 6 (by decide)]; exact b6, by rw [c2.2 7 (by decide)]; exact b7, Nat.zero_le _, Nat.zero_le _⟩
      refine p_run (pc' := 30) [.aload_n 0, .iconst 0] mkX3_fault (by decide +kernel) rfl rfl ?_
      refine p_callV ((parse_ok w n key hn (by omega) (h 9) hB n).2 (m00 (lxN n (h 9) (lxN n (h 9) l00))) h3 (k - 1) (by omega) (by omega) hP trivial (fun _ => rfl)) kvX3_38 (by decide +kernel) (by decide) rfl (by omega) rfl rfl rfl rfl rfl (fun r h' hq => ?_)
      have hz1 := hq
      rename Mm => h4
      rcases hz1 with ⟨rfl, m', f1, f2, f3⟩ | ⟨rfl, m', C', po, hW, -, hsp⟩
      · refine p_if_eq (off := 14) 47 (by decide +kernel) (by decide) (fun cq33 => ?_) (fun cq33 => ?_)
        · refine p_run (pc' := 51) [.aload_n 0, .getfield 32] mkX3_fault (by decide +kernel) rfl rfl ?_
          refine p_iret rfl rfl (by decide +kernel) ?_
          exact ⟨fun a n1 n2 => (f3.1 a n1 n2).trans (hF3 a n1 n2), Or.inr ⟨key, false, m', hke, f1, Or.inl ⟨rfl, by rw [f2]⟩⟩⟩
        · exact False.elim (by revert cq33; decide)
      · obtain ⟨⟨c, p1⟩, p2, p3, p4, p5, p6, p7, p8, p9, p10, p11, p12⟩ := po
        have hg2 := p5.lg
        have p3 : m'.pa = 0 := p3
        have hW : stF 1 m'.W m'.C = ([], C') := hW
        have hln := stF_len 1 m'.W m'.C
        rw [hW] at hln
        have hln : 0 + C'.length = m'.W.length + m'.C.length := hln
        have hk32 := hg2.2.2.2.2.2
        have hgn := hg2.1
        refine p_if_eq (off := 14) 47 (by decide +kernel) (by decide) (fun cq33 => ?_) (fun cq33 => ?_)
        · exact False.elim (by revert cq33; decide)
        · refine p_run (pc' := 40) [.aload_n 0, .getfield 42] mkX3_fault (by decide +kernel) rfl rfl ?_
          rw [p8.2.2.2.1.1]
          refine p_if_ne (off := 7) 47 (by decide +kernel) (by decide) (fun cq40 => ?_) (fun cq40 => ?_)
          · refine p_run (pc' := 51) [.aload_n 0, .getfield 32] mkX3_fault (by decide +kernel) rfl rfl ?_
            refine p_iret rfl rfl (by decide +kernel) ?_
            exact ⟨fun a n1 n2 => (p11.1 a n1 n2).trans (hF3 a n1 n2), Or.inr ⟨key, false, endM m', hke, Mend.stq p1 (nclose_end0 p2 (fun q => by omega) (fun q => absurd ((tk0 hg2).mp q) (fun z => cq40 (by rw [z]; rfl))) hsp), Or.inl ⟨rfl, by rw [endM_l, p8.2.2.2.1.2.1]⟩⟩⟩
          · have hz0 : m'.l.k = 0 := (nI_eq0 (by omega)).mp cq40
            have hm := ms_end (n := n) (T := h 9) (key := key) p2 ((tk0 hg2).mpr hz0)
            rw [p3, stF01, hW, decide_eq_true rfl] at hm
            refine p_run (pc' := 51) [.iconst (-1), .goto 7] mkX3_fault (by decide +kernel) rfl rfl ?_
            refine p_iret rfl rfl (by decide +kernel) ?_
            exact ⟨fun a n1 n2 => (p11.1 a n1 n2).trans (hF3 a n1 n2), Or.inr ⟨key, true, (m'.l, C', m'.at, [], m'.ts, 0, false), hke, Mend.stq p1 (Mend.now hm), Or.inr ⟨rfl, rfl, p8.2.2.1, p8.2.2.2.2.1, p8.2.2.2.2.2, p12 0 rfl, by show C'.length ≤ 96; omega⟩⟩⟩
    · exact absurd (show (0 : Int32) ≤ nI key from nI_le (Nat.zero_le _) (by omega)) cq1
set_option maxRecDepth 20000 in
set_option maxHeartbeats 4000000 in
theorem write_ok (w : Wt) {k : Nat} (t len : Nat) (ht : t < 14) (hlen : len ≤ 96) (h : Mm) (eL : h 8 11 = nI len) : Ok w k MX6_write [.ref 1, .int (nI t), .ref 8] h (fun r h' => r = none ∧ h' 2 = upd (h 2) t (h 8 8) ∧ h' 3 = upd (h 3) t (h 8 9) ∧ h' 4 = upd (h 4) t (nI len) ∧ h' 5 = spl (h 5) (96 * t) len (h 10) ∧ ∀ a, a ≠ 2 → a ≠ 3 → a ≠ 4 → a ≠ 5 → h' a = h a) := by
  show Wp w k MX6_write _ 0 [some (.ref 1), some (.int (nI t)), some (.ref 8), none] [] h
  refine p_run (pc' := 1) [.iload_n 1] mkX6_write (by decide +kernel) rfl rfl ?_
  refine p_if_lt (off := 9) 10 (by decide +kernel) (by decide) (fun cq1 => ?_) (fun cq1 => ?_)
  · exact absurd cq1 (nI_lt0 (by omega))
  · refine p_run (pc' := 7) [.iload_n 1, .bipush 14] mkX6_write (by decide +kernel) rfl rfl ?_
    refine p_icmp_lt (off := 4) 11 (by decide +kernel) (by decide) (fun cq2 => ?_) (fun cq2 => ?_)
    · refine p_run (pc' := 20) [.aload_n 0, .getfield 9, .iload_n 1, .aload_n 2, .getfield 30] mkX6_write (by decide +kernel) rfl rfl ?_
      refine p_iast (t) (by decide +kernel) rfl rfl rfl (by omega)  ?_
      refine p_run (pc' := 30) [.aload_n 0, .getfield 15, .iload_n 1, .aload_n 2, .getfield 36] mkX6_write (by decide +kernel) rfl rfl ?_
      rw [show up h 2 t (h 8 8) 8 = h 8 from upN (by decide)]
      refine p_iast (t) (by decide +kernel) rfl rfl rfl (by omega)  ?_
      refine p_run (pc' := 40) [.aload_n 0, .getfield 18, .iload_n 1, .aload_n 2, .getfield 39] mkX6_write (by decide +kernel) rfl rfl ?_
      rw [show up (up h 2 t (h 8 8)) 3 t (h 8 9) 8 = h 8 from by rw [upN (by decide), upN (by decide)]]
      refine p_iast (t) (by decide +kernel) rfl rfl rfl (by omega)  ?_
      refine p_run (pc' := 43) [.iconst 0, .istore_n 3] mkX6_write (by decide +kernel) rfl rfl ?_
      have g5 : (up (up (up h 2 t (h 8 8)) 3 t (h 8 9)) 4 t (h 8 11)) 5 = h 5 := by rw [upN (by decide), upN (by decide), upN (by decide)]
      have g8 : (up (up (up h 2 t (h 8 8)) 3 t (h 8 9)) 4 t (h 8 11)) 8 = h 8 := by rw [upN (by decide), upN (by decide), upN (by decide)]
      have g10 : (up (up (up h 2 t (h 8 8)) 3 t (h 8 9)) 4 t (h 8 11)) 10 = h 10 := by rw [upN (by decide), upN (by decide), upN (by decide)]
      skip
      generalize hh1 : up (up (up h 2 t (h 8 8)) 3 t (h 8 9)) 4 t (h 8 11) = h1 at *
      refine Wp.for (len) (fun i L hh => L = [some (.ref 1), some (.int (nI t)), some (.ref 8), some (.int (nI i))] ∧ (hh 5 = spl (h 5) (96 * t) i (h 10) ∧ ∀ a, a ≠ 5 → hh a = h1 a)) ?_ ?_ (0) (by omega) _ _ ?_
      · rintro i L hh hi ⟨rfl, hJ⟩ ih
        obtain ⟨j5, ja⟩ := hJ
        refine p_run (pc' := 48) [.iload_n 3, .aload_n 2, .getfield 39] mkX6_write (by decide +kernel) rfl rfl ?_
        rw [ja 8 (by decide), g8, eL]
        refine p_icmp_ge (off := 32) 80 (by decide +kernel) (by decide) (fun cqh => ?_) (fun cqh => ?_)
        · exact absurd cqh (nI_ge (by omega) (by omega))
        · refine p_run (pc' := 54) [.iload_n 3, .bipush 96] mkX6_write (by decide +kernel) rfl rfl ?_
          refine p_icmp_ge (off := 26) 80 (by decide +kernel) (by decide) (fun cq3 => ?_) (fun cq3 => ?_)
          · exact absurd (show nI 96 ≤ nI i from cq3) (nI_ge (by omega) (by omega))
          · refine p_run (pc' := 72) [.aload_n 0, .getfield 21, .iload_n 1, .bipush 96, .imul, .iload_n 3, .iadd, .aload_n 2, .getfield 42, .iload_n 3] mkX6_write (by decide +kernel) rfl rfl ?_
            refine p_iald (i) (by decide +kernel) rfl rfl rfl (by omega) ?_
            rw [ja 10 (by decide), g10]
            refine p_iast (96 * t + i) (by decide +kernel) rfl rfl (by rw [oI, mulI, nI_add, Nat.mul_comm]) (by omega)  ?_
            refine p_run (pc' := 43) [.iinc 3 1, .goto (-34)] mkX6_write (by decide +kernel) rfl rfl ?_
            exact ih _ _ ⟨by rw [show nI i + Int32.ofInt 1 = nI (i + 1) by simp only [oI, nI_add]], by rw [upS, j5]; exact splS, fun a ha => by rw [upN ha]; exact ja a ha⟩
      · rintro L hh ⟨rfl, hJ⟩
        obtain ⟨j5, ja⟩ := hJ
        refine p_run (pc' := 48) [.iload_n 3, .aload_n 2, .getfield 39] mkX6_write (by decide +kernel) rfl rfl ?_
        rw [ja 8 (by decide), g8, eL]
        refine p_icmp_ge (off := 32) 80 (by decide +kernel) (by decide) (fun cqh => ?_) (fun cqh => ?_)
        · refine p_vret rfl (by decide +kernel) ?_
          exact ⟨rfl, by rw [ja 2 (by decide), ← hh1, upN (by decide), upN (by decide), upS], by rw [ja 3 (by decide), ← hh1, upN (by decide), upS, upN (by decide)], by rw [ja 4 (by decide), ← hh1, upS, upN (by decide), upN (by decide), eL], j5, fun a n1 n2 n3 n4 => by rw [ja a n4, ← hh1, upN n3, upN n2, upN n1]⟩
        · exact absurd (nI_le (Nat.le_refl _) (by omega)) cqh
      · exact ⟨rfl, by rw [g5]; exact spl0.symm, fun _ _ => rfl⟩
    · exact absurd (show nI t < nI 14 from nI_lt (by omega) (by omega)) cq2
set_option maxRecDepth 20000 in
set_option maxHeartbeats 4000000 in
theorem addText_ok (w : Wt) {k : Nat} (hk : 2 ≤ k) (t len key : Nat) (ht : t < 14) (hlen : len ≤ 96) (hkey : key < 3) (h : Mm) (e5 : h 11 5 = nI t) (eK : h 8 8 = nI key) (eL : h 8 11 = nI len) : Ok w k MX2_addText [.ref 11, .ref 8] h (fun r h' => r = some (.int (nI t)) ∧ h' 2 = upd (h 2) t (nI key) ∧ h' 3 = upd (h 3) t (h 8 9) ∧ h' 4 = upd (h 4) t (nI len) ∧ h' 5 = spl (h 5) (96 * t) len (h 10) ∧ h' 28 = upd (h 28) key (nI t) ∧ h' 11 = upd (h 11) 5 (nI (t + 1)) ∧ ∀ a, a ≠ 2 → a ≠ 3 → a ≠ 4 → a ≠ 5 → a ≠ 28 → a ≠ 11 → h' a = h a) := by
  show Wp w k MX2_addText _ 0 [some (.ref 11), some (.ref 8), none] [] h
  refine p_run (pc' := 6) [.aload_n 0, .getfield 51, .bipush 14] mkX2_addText (by decide +kernel) rfl rfl ?_
  rw [e5]
  refine p_icmp_lt (off := 6) 12 (by decide +kernel) (by decide) (fun cq1 => ?_) (fun cq1 => ?_)
  · refine p_run (pc' := 23) [.aload_n 0, .getfield 51, .istore_n 2, .aload_n 0, .getfield 9, .iload_n 2, .aload_n 1] mkX2_addText (by decide +kernel) rfl rfl ?_
    rw [e5]
    refine p_callVo (write_ok w (k := k - 1) t len ht hlen h eL) (fun _ _ q => q.1) kvX2_91 (by decide +kernel) (by decide) rfl (by omega) rfl rfl rfl rfl rfl (fun h' hq => ?_)
    obtain ⟨-, w2, w3, w4, w5, wa⟩ := hq
    rename Mm => h1
    have k8 : h1 8 = h 8 := wa 8 (by decide) (by decide) (by decide) (by decide)
    refine p_run (pc' := 32) [.aload_n 1, .getfield 97, .iconst 0, .iconst 2] mkX2_addText (by decide +kernel) rfl rfl ?_
    rw [k8, eK]
    refine p_callSv (cwithin_ok w (k := k - 1) _ _ _ _) ksX2_102 (by decide +kernel) (by omega) rfl rfl rfl rfl rfl ?_
    refine p_if_eq (off := 13) 48 (by decide +kernel) (by decide) (fun cq2 => ?_) (fun cq2 => ?_)
    · exact absurd (show inR (nI key) 0 2 from in_nI (by omega) (by omega) (by omega)) (bI0.mp cq2)
    · refine p_run (pc' := 47) [.aload_n 0, .getfield 29, .aload_n 1, .getfield 97, .iload_n 2] mkX2_addText (by decide +kernel) rfl rfl ?_
      rw [k8, eK]
      refine p_iast (key) (by decide +kernel) rfl rfl rfl (by omega)  ?_
      refine p_run (pc' := 59) [.aload_n 0, .dup, .getfield 51, .iconst 1, .iadd, .putfield 51, .iload_n 2] mkX2_addText (by decide +kernel) rfl rfl ?_
      have e5' : up h1 28 key (nI t) 11 5 = nI t := by rw [upN (by decide), wa 11 (by decide) (by decide) (by decide) (by decide)]; exact e5
      rw [e5', show nI t + Int32.ofInt 1 = nI (t + 1) from nI_add _ _]
      refine p_iret rfl rfl (by decide +kernel) ?_
      exact ⟨rfl, by rw [upN (by decide), upN (by decide), w2, eK], by rw [upN (by decide), upN (by decide), w3], by rw [upN (by decide), upN (by decide), w4], by rw [upN (by decide), upN (by decide), w5], by rw [upN (by decide), upS, wa 28 (by decide) (by decide) (by decide) (by decide)], by rw [upS, upN (by decide), wa 11 (by decide) (by decide) (by decide) (by decide)], fun a n1 n2 n3 n4 n5 n6 => by rw [upN n6, upN n5, wa a n1 n2 n3 n4]⟩
  · exact absurd (show nI t < nI 14 from nI_lt (by omega) (by omega)) cq1
theorem stq_s {n key : Nat} {T : Vc} : ∀ {c : Nat} {a b : Mc}, Lg n a.l → stq n T key c a b → Lg n b.l
  | 0, a, b, hl, h => by have h : a = b := h; rw [← h]; exact hl
  | c + 1, a, b, hl, ⟨m1, h0, h1⟩ => stq_s (by rw [(ms_adv hl h0).1]; exact (lxN_Lg hl.2.2.1).1) h1
theorem ms_end_l {n key : Nat} {T : Vc} {m m' : Mc} {b : Bool} (h : msF n T key m = .inr (b, m')) : m'.l = m.l := by
  unfold msF at h
  split at h
  · split at h
    · cases h
    · split at h
      · cases h
      · split at h
        · cases h
        · cases h; rfl
  · split at h
    · cases h; rfl
    · split at h
      · cases h
      · split at h
        · cases h; rfl
        · cases h
theorem mend_g {n key : Nat} {T : Vc} {a m' : Mc} {b : Bool} (hl : Lg n a.l) (h : Mend n T key a b m') : Lg n m'.l := by
  obtain ⟨c, m1, h1, h2⟩ := h
  rw [ms_end_l h2]
  exact stq_s hl h1
theorem mend_s {n key : Nat} {T : Vc} {m' : Mc} {b : Bool} (h : Mend n T key (m00 (lxN n T (lxN n T l00))) b m') : m'.l.s ≤ n :=
  (mend_g (lxN_Lg ((lxN_Lg (l := l00) (Nat.zero_le _)).1.2.2.1)).1 h).1
set_option maxRecDepth 20000 in
set_option maxHeartbeats 4000000 in
theorem c_text (w : Wt) {k : Nat} (hk : 820 ≤ k) (n t : Nat) (hn : n ≤ 96) (ht : t ≤ 14) (h : Mm) (e1 : h 8 1 = nI n) (e5 : h 11 5 = nI t) (hB : Bt n (h 9)) : Ok w k MX7_text [.ref 0] h (fun r h' => h' 8 1 = nI 0 ∧ ((keF (h 9) (lxN n (h 9) l00) = none ∧ r = some (.int (fltV (lxN n (h 9) l00).s)) ∧ F2 h h') ∨ ∃ key b m', keF (h 9) (lxN n (h 9) l00) = some key ∧ Mend n (h 9) key (m00 (lxN n (h 9) (lxN n (h 9) l00))) b m' ∧ ((b = false ∧ r = some (.int (fltV m'.l.s)) ∧ F2 h h') ∨ (b = true ∧ t = 14 ∧ r = some (.int FULLv) ∧ F2 h h') ∨ (b = true ∧ t < 14 ∧ r = some (.int (nI t)) ∧ wfL (nmF key) m'.C 1 ∧ m'.C.length ≤ 96 ∧ h' 2 = upd (h 2) t (nI key) ∧ h' 3 = upd (h 3) t (nI m'.at) ∧ h' 4 = upd (h 4) t (nI m'.C.length) ∧ h' 5 = spl (h 5) (96 * t) m'.C.length (fun k => enC (gC m'.C k)) ∧ h' 28 = upd (h 28) key (nI t) ∧ h' 11 = upd (h 11) 5 (nI (t + 1)) ∧ ∀ a, a ≠ 2 → a ≠ 3 → a ≠ 4 → a ≠ 5 → a ≠ 28 → a ≠ 11 → a ≠ 8 → a ≠ 10 → h' a = h a)))) := by
  show Wp w k MX7_text _ 0 [some (.ref 0), none] [] h
  refine p_run (pc' := 4) [.aload_n 0, .getfield 19] mkX7_text (by decide +kernel) rfl rfl ?_
  refine p_callV (fault_ok w (k := k - 1) (by omega) n hn h e1 hB) kvX7_234 (by decide +kernel) (by decide) rfl (by omega) rfl rfl rfl rfl rfl (fun r h' hq => ?_)
  have hz1 := hq
  rename Mm => h1
  obtain ⟨hF, hz1⟩ := hz1
  have e11 : h1 11 5 = nI t := by rw [hF 11 (by decide) (by decide)]; exact e5
  rcases hz1 with ⟨hke, rfl⟩ | ⟨key, b, m', hke, hM, hz2⟩
  · have hsn := (lxN_Lg (n := n) (T := h 9) (l := l00) (Nat.zero_le _)).1.1
    refine p_run (pc' := 17) [.istore_n 1, .aload_n 0, .getfield 19, .iconst 0, .putfield 228, .iload_n 1] mkX7_text (by decide +kernel) rfl rfl ?_
    refine p_if_lt (off := 8) 25 (by decide +kernel) (by decide) (fun cq17 => ?_) (fun cq17 => ?_)
    · exact absurd cq17 (nI_lt0 (by omega))
    · refine p_run (pc' := 24) [.bipush (-100), .iload_n 1, .isub] mkX7_text (by decide +kernel) rfl rfl ?_
      refine p_iret rfl rfl (by decide +kernel) ?_
      exact ⟨uF, Or.inl ⟨hke, rfl, fun a n1 n2 => by rw [upN n1]; exact hF a n1 n2⟩⟩
  · rcases hz2 with ⟨rfl, rfl⟩ | ⟨rfl, rfl, q1, q2, q3, q4, q5⟩
    · refine p_run (pc' := 17) [.istore_n 1, .aload_n 0, .getfield 19, .iconst 0, .putfield 228, .iload_n 1] mkX7_text (by decide +kernel) rfl rfl ?_
      refine p_if_lt (off := 8) 25 (by decide +kernel) (by decide) (fun cq17 => ?_) (fun cq17 => ?_)
      · exact absurd cq17 (nI_lt0 (by have := mend_s hM; omega))
      · refine p_run (pc' := 24) [.bipush (-100), .iload_n 1, .isub] mkX7_text (by decide +kernel) rfl rfl ?_
        refine p_iret rfl rfl (by decide +kernel) ?_
        exact ⟨uF, Or.inr ⟨key, false, m', hke, hM, Or.inl ⟨rfl, rfl, fun a n1 n2 => by rw [upN n1]; exact hF a n1 n2⟩⟩⟩
    · have hkey := (keF_le hke).1
      refine p_run (pc' := 17) [.istore_n 1, .aload_n 0, .getfield 19, .iconst 0, .putfield 228, .iload_n 1] mkX7_text (by decide +kernel) rfl rfl ?_
      refine p_if_lt (off := 8) 25 (by decide +kernel) (by decide) (fun cq17 => ?_) (fun cq17 => ?_)
      · refine p_run (pc' := 34) [.aload_n 0, .getfield 28, .getfield 237, .bipush 14] mkX7_text (by decide +kernel) rfl rfl ?_
        rw [show up h1 8 1 (Int32.ofInt 0) 11 5 = nI t from by rw [upN (by decide)]; exact e11]
        refine p_icmp_ge (off := 17) 51 (by decide +kernel) (by decide) (fun cq34 => ?_) (fun cq34 => ?_)
        · have ht14 : t = 14 := by have q : nI 14 ≤ nI t := cq34; rw [nI_leI (by omega) (by omega)] at q; omega
          refine p_run (pc' := 53) [.ldc 83] mkX7_text (by decide +kernel) rfl rfl ?_
          refine p_iret rfl rfl (by decide +kernel) ?_
          exact ⟨uF, Or.inr ⟨key, true, m', hke, hM, Or.inr (Or.inl ⟨rfl, ht14, rfl, fun a n1 n2 => by rw [upN n1]; exact hF a n1 n2⟩)⟩⟩
        · have ht14 : t < 14 := Classical.byContradiction (fun q => cq34 (show nI 14 ≤ nI t from nI_le (by omega) (by omega)))
          refine p_run (pc' := 45) [.aload_n 0, .getfield 28, .aload_n 0, .getfield 19] mkX7_text (by decide +kernel) rfl rfl ?_
          refine p_callVi (addText_ok w (k := k - 1) (by omega) t m'.C.length key ht14 q5 (by omega) (up h1 8 1 (Int32.ofInt 0)) (by rw [upN (by decide)]; exact e11) (by rw [uN (by decide)]; exact q1) (by rw [uN (by decide)]; exact q3.1)) (fun _ _ q => q.1) kvX7_239 (by decide +kernel) (by decide) rfl (by omega) rfl rfl rfl rfl rfl (fun h' hq => ?_)
          obtain ⟨-, x2, x3, x4, x5, x28, x11, xa⟩ := hq
          rename Mm => h2
          refine p_run (pc' := 53) [.goto 5] mkX7_text (by decide +kernel) rfl rfl ?_
          refine p_iret rfl rfl (by decide +kernel) ?_
          exact ⟨by rw [xa 8 (by decide) (by decide) (by decide) (by decide) (by decide) (by decide)]; exact uF, Or.inr ⟨key, true, m', hke, hM, Or.inr (Or.inr ⟨rfl, ht14, rfl, q4, q5, by rw [x2, upN (by decide), hF 2 (by decide) (by decide)], by rw [x3, upN (by decide), hF 3 (by decide) (by decide), uN (by decide), q2], by rw [x4, upN (by decide), hF 4 (by decide) (by decide)], by rw [x5, upN (by decide), hF 5 (by decide) (by decide), upN (by decide)]; exact spl_congr q3.2, by rw [x28, upN (by decide), hF 28 (by decide) (by decide)], by rw [x11, upN (by decide), hF 11 (by decide) (by decide)], fun a n1 n2 n3 n4 n5 n6 n7 n8 => by rw [xa a n1 n2 n3 n4 n5 n6, upN n7]; exact hF a n7 n8⟩)⟩⟩
      · exact False.elim (cq17 (by decide))
