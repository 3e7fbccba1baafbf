/-! the reference: feed, trim, sheet, mark, pour, reads -/
theorem iT {c : Prop} [Decidable c] {P Q : Option Value → Mm → Prop} {r : Option Value} {h : Mm} (hc : c) (hp : P r h) : (if c then P else Q) r h := by rw [if_pos hc]; exact hp
theorem iF {c : Prop} [Decidable c] {P Q : Option Value → Mm → Prop} {r : Option Value} {h : Mm} (hc : ¬ c) (hp : Q r h) : (if c then P else Q) r h := by rw [if_neg hc]; exact hp
def byF (a b c : Int32) (i : Nat) : Int32 := ((if i < 4 then a else if i < 8 then b else c) >>> (nI (24 - 8 * (i % 4)) &&& 31)) &&& nI 255
def spl (f : Vc) (t n : Nat) (g : Nat → Int32) : Vc := fun k => if t ≤ k ∧ k < t + n then g (k - t) else f k
theorem spl0 {f : Vc} {t : Nat} {g : Nat → Int32} : spl f t 0 g = f := by
  funext k
  unfold spl
  rw [if_neg (by omega)]
theorem splS {f : Vc} {t n : Nat} {g : Nat → Int32} : upd (spl f t n g) (t + n) (g n) = spl f t (n + 1) g := by
  funext k
  unfold upd spl
  by_cases h : k = t + n
  · rw [if_pos h, if_pos (by omega), h, Nat.add_sub_cancel_left]
  · rw [if_neg h]
    by_cases h2 : t ≤ k ∧ k < t + n
    · rw [if_pos h2, if_pos (by omega)]
    · rw [if_neg h2, if_neg (by omega)]
theorem up_up97 {h : Mm} {a k : Nat} {x : Int32} : up h a k x = wr h a (upd (h a) k x) := by
  funext b
  by_cases hb : b = a
  · rw [hb, upS, wrS]
  · rw [upN hb, wrN hb]
theorem wr_wr {h : Mm} {a : Nat} {f g : Vc} : wr (wr h a f) a g = wr h a g := by
  funext b
  by_cases hb : b = a
  · rw [hb, wrS, wrS]
  · rw [wrN hb, wrN hb, wrN hb]
theorem wr_self {h : Mm} {a : Nat} : wr h a (h a) = h := by
  funext b
  by_cases hb : b = a
  · rw [hb, wrS]
  · rw [wrN hb]
set_option maxRecDepth 20000 in
set_option maxHeartbeats 4000000 in
theorem r_feed (w : Wt) {k : Nat} (t : Nat) (ht : t + 12 ≤ 96) (a b c : Int32) (h : Mm) (e : h 96 6 = nI t) : Ok w k MX8_feed [.ref 96, .int a, .int b, .int c] h (Rv (nI (t + 12)) (up (wr h 101 (spl (h 101) t 12 (byF a b c))) 96 6 (nI (t + 12)))) := by
  show Wp w k MX8_feed _ 0 [some (.ref 96), some (.int a), some (.int b), some (.int c), none, none] [] h
  refine p_run (pc' := 9) [.aload_n 0, .getfield 213, .bipush 12, .iadd, .bipush 96] mkX8_feed (by decide +kernel) rfl rfl ?_
  refine Wp.eqS (st' := [.int (nI 96), .int (nI (t + 12))]) (by rw [e, oI, oI, nI_add]) ?_
  refine p_icmp_le (off := 6) 15 (by decide +kernel) (by decide) (fun c1 => ?_) (fun c1 => ?_)
  · refine p_run (pc' := 18) [.iconst 0, .istore 4] mkX8_feed (by decide +kernel) rfl rfl ?_
    refine Wp.for (12) (fun i L hh => ∃ (x5 : Option Value), L = [some (.ref 96), some (.int a), some (.int b), some (.int c), some (.int (nI i)), x5] ∧ hh = wr h 101 (spl (h 101) t i (byF a b c))) ?_ ?_ (0) (by omega) _ _ ?_
    · rintro i L hh hi ⟨x5, rfl, hJ⟩ ih
      rw [hJ]
      have e6 : wr h 101 (spl (h 101) t i (byF a b c)) 96 6 = nI t := by rw [wrN (by decide), e]
      refine p_run (pc' := 22) [.iload 4, .bipush 12] mkX8_feed (by decide +kernel) rfl rfl ?_
      refine p_icmp_ge (off := 62) 84 (by decide +kernel) (by decide) (fun c2 => ?_) (fun c2 => ?_)
      · exact False.elim (by rw [oI, nI_leI (by omega) (by omega)] at c2; omega)
      · refine p_run (pc' := 28) [.iload 4, .iconst 4] mkX8_feed (by decide +kernel) rfl rfl ?_
        refine p_icmp_ge (off := 7) 35 (by decide +kernel) (by decide) (fun c3 => ?_) (fun c3 => ?_)
        · rw [oI, nI_leI (by omega) (by omega)] at c3
          refine p_run (pc' := 39) [.iload 4, .bipush 8] mkX8_feed (by decide +kernel) rfl rfl ?_
          refine p_icmp_ge (off := 7) 46 (by decide +kernel) (by decide) (fun c4 => ?_) (fun c4 => ?_)
          · rw [oI, nI_leI (by omega) (by omega)] at c4
            refine p_run (pc' := 47) [.iload_n 3] mkX8_feed (by decide +kernel) rfl rfl ?_
            refine p_run (pc' := 69) [.istore 5, .aload_n 0, .getfield 22, .aload_n 0, .getfield 213, .iload 4, .iadd, .iload 5, .bipush 24, .bipush 8, .iload 4, .iconst 4] mkX8_feed (by decide +kernel) rfl rfl ?_
            refine p_irem (by decide +kernel) (by decide) ?_
            refine p_run (pc' := 77) [.imul, .isub, .ishr, .sipush 255, .iand] mkX8_feed (by decide +kernel) rfl rfl ?_
            refine p_iast (t + i) (by decide +kernel) rfl rfl (by rw [e6, nI_add]) (by omega)  ?_
            refine p_run (pc' := 18) [.iinc 4 1, .goto (-63)] mkX8_feed (by decide +kernel) rfl rfl ?_
            exact ih _ _ ⟨_, by rw [show nI i + Int32.ofInt 1 = nI (i + 1) by simp only [oI, nI_add]], by rw [up_up97, wr_wr, wrS, ← splS]; congr 2; simp only [oI]; rw [jrem_nI (by omega) (by omega) (by omega), nIm, nIs (by omega)]; unfold byF; rw [if_neg (by omega), if_neg (by omega)]⟩
          · rw [oI, nI_leI (by omega) (by omega)] at c4
            refine p_run (pc' := 47) [.iload_n 2, .goto 4] mkX8_feed (by decide +kernel) rfl rfl ?_
            refine p_run (pc' := 69) [.istore 5, .aload_n 0, .getfield 22, .aload_n 0, .getfield 213, .iload 4, .iadd, .iload 5, .bipush 24, .bipush 8, .iload 4, .iconst 4] mkX8_feed (by decide +kernel) rfl rfl ?_
            refine p_irem (by decide +kernel) (by decide) ?_
            refine p_run (pc' := 77) [.imul, .isub, .ishr, .sipush 255, .iand] mkX8_feed (by decide +kernel) rfl rfl ?_
            refine p_iast (t + i) (by decide +kernel) rfl rfl (by rw [e6, nI_add]) (by omega)  ?_
            refine p_run (pc' := 18) [.iinc 4 1, .goto (-63)] mkX8_feed (by decide +kernel) rfl rfl ?_
            exact ih _ _ ⟨_, by rw [show nI i + Int32.ofInt 1 = nI (i + 1) by simp only [oI, nI_add]], by rw [up_up97, wr_wr, wrS, ← splS]; congr 2; simp only [oI]; rw [jrem_nI (by omega) (by omega) (by omega), nIm, nIs (by omega)]; unfold byF; rw [if_neg (by omega), if_pos (by omega)]⟩
        · rw [oI, nI_leI (by omega) (by omega)] at c3
          refine p_run (pc' := 47) [.iload_n 1, .goto 15] mkX8_feed (by decide +kernel) rfl rfl ?_
          refine p_run (pc' := 69) [.istore 5, .aload_n 0, .getfield 22, .aload_n 0, .getfield 213, .iload 4, .iadd, .iload 5, .bipush 24, .bipush 8, .iload 4, .iconst 4] mkX8_feed (by decide +kernel) rfl rfl ?_
          refine p_irem (by decide +kernel) (by decide) ?_
          refine p_run (pc' := 77) [.imul, .isub, .ishr, .sipush 255, .iand] mkX8_feed (by decide +kernel) rfl rfl ?_
          refine p_iast (t + i) (by decide +kernel) rfl rfl (by rw [e6, nI_add]) (by omega)  ?_
          refine p_run (pc' := 18) [.iinc 4 1, .goto (-63)] mkX8_feed (by decide +kernel) rfl rfl ?_
          exact ih _ _ ⟨_, by rw [show nI i + Int32.ofInt 1 = nI (i + 1) by simp only [oI, nI_add]], by rw [up_up97, wr_wr, wrS, ← splS]; congr 2; simp only [oI]; rw [jrem_nI (by omega) (by omega) (by omega), nIm, nIs (by omega)]; unfold byF; rw [if_pos (by omega)]⟩
    · rintro L hh ⟨x5, rfl, hJ⟩
      rw [hJ]
      refine p_run (pc' := 22) [.iload 4, .bipush 12] mkX8_feed (by decide +kernel) rfl rfl ?_
      refine p_icmp_ge (off := 62) 84 (by decide +kernel) (by decide) (fun c2 => ?_) (fun c2 => ?_)
      · have e6 : wr h 101 (spl (h 101) t 12 (byF a b c)) 96 6 = nI t := by rw [wrN (by decide), e]
        refine p_run (pc' := 99) [.aload_n 0, .dup, .getfield 213, .bipush 12, .iadd, .putfield 213, .aload_n 0, .getfield 213] mkX8_feed (by decide +kernel) rfl rfl ?_
        refine p_iret rfl rfl (by decide +kernel) ?_
        rw [e6, oI, nI_add]; exact ⟨by rw [upS, upd_s], rfl⟩
      · exact False.elim (by revert c2; decide)
    · exact ⟨_, rfl, by rw [spl0, wr_self]⟩
  · exact absurd (nI_le (by omega) (by omega)) c1
set_option maxRecDepth 20000 in
set_option maxHeartbeats 4000000 in
theorem r_feed_full (w : Wt) {k : Nat} (t : Nat) (ht : ¬ t + 12 ≤ 96) (ht2 : t ≤ 96) (a b c : Int32) (h : Mm) (e : h 96 6 = nI t) : Ok w k MX8_feed [.ref 96, .int a, .int b, .int c] h (Rv FULLv h) := by
  show Wp w k MX8_feed _ 0 [some (.ref 96), some (.int a), some (.int b), some (.int c), none, none] [] h
  refine p_run (pc' := 9) [.aload_n 0, .getfield 213, .bipush 12, .iadd, .bipush 96] mkX8_feed (by decide +kernel) rfl rfl ?_
  refine Wp.eqS (st' := [.int (nI 96), .int (nI (t + 12))]) (by rw [e, oI, oI, nI_add]) ?_
  refine p_icmp_le (off := 6) 15 (by decide +kernel) (by decide) (fun c1 => ?_) (fun c1 => ?_)
  · exact False.elim (by rw [nI_leI (by omega) (by omega)] at c1; omega)
  · refine p_run (pc' := 14) [.ldc 124] mkX8_feed (by decide +kernel) rfl rfl ?_
    refine p_iret rfl rfl (by decide +kernel) ?_
    exact ⟨rfl, rfl⟩
set_option maxRecDepth 20000 in
set_option maxHeartbeats 4000000 in
theorem r_trim (w : Wt) {k : Nat} (hk : 1 ≤ k) (a : Int32) (h : Mm) : Ok w k MX8_trim [.ref 96, .int a] h (if nI 0 ≤ a ∧ a ≤ h 96 6 then Rv a (up h 96 6 a) else Rv BADv h) := by
  show Wp w k MX8_trim _ 0 [some (.ref 96), some (.int a)] [] h
  refine p_run (pc' := 6) [.iload_n 1, .iconst 0, .aload_n 0, .getfield 213] mkX8_trim (by decide +kernel) rfl rfl ?_
  refine p_callSv (in_ok w (k := k - 1) _ _ _ _) ksX8_75 (by decide +kernel) (by omega) rfl rfl rfl rfl rfl ?_
  refine p_if_ne (off := 6) 15 (by decide +kernel) (by decide) (fun c9 => ?_) (fun c9 => ?_)
  · have c9 := bI1.mp c9
    refine p_run (pc' := 21) [.aload_n 0, .iload_n 1, .putfield 213, .iload_n 1] mkX8_trim (by decide +kernel) rfl rfl ?_
    refine p_iret rfl rfl (by decide +kernel) ?_
    first | exact iT c9 ⟨rfl, rfl⟩ | exact iF c9 ⟨rfl, rfl⟩
  · have c9 := bI0.mp c9
    refine p_run (pc' := 14) [.ldc 123] mkX8_trim (by decide +kernel) rfl rfl ?_
    refine p_iret rfl rfl (by decide +kernel) ?_
    first | exact iT c9 ⟨rfl, rfl⟩ | exact iF c9 ⟨rfl, rfl⟩
def shP (a b n : Int32) : Prop := inR a 0 3 ∧ (Int32.ofInt (-1) ≤ b ∧ b ≤ nI 1) ∧ (b < 0 ∨ n ≤ nI 24)

set_option maxRecDepth 20000 in
set_option maxHeartbeats 4000000 in
theorem r_sheet_bad (w : Wt) {k : Nat} (hk : 2 ≤ k) (a b n : Int32) (h : Mm) (hb : ¬ shP a b n) : Ok w k MX8_sheet [.ref 96, .int a, .int b, .int n] h (Rv BADv h) := by
  show Wp w k MX8_sheet _ 0 [some (.ref 96), some (.int a), some (.int b), some (.int n), none] [] h
  refine p_run (pc' := 1) [.iload_n 1] mkX8_sheet (by decide +kernel) rfl rfl ?_
  refine p_callSv (risSheet_ok w (k := k - 1) (by omega) _ _) ksX8_206 (by decide +kernel) (by omega) rfl rfl rfl rfl rfl ?_
  refine p_if_eq (off := 22) 26 (by decide +kernel) (by decide) (fun c4 => ?_) (fun c4 => ?_)
  · have c4 := bI0.mp c4
    refine p_run (pc' := 28) [.ldc 123] mkX8_sheet (by decide +kernel) rfl rfl ?_
    refine p_iret rfl rfl (by decide +kernel) ?_
    exact ⟨rfl, rfl⟩
  · have c4 := bI1.mp c4
    refine p_run (pc' := 10) [.iload_n 2, .iconst (-1), .iconst 1] mkX8_sheet (by decide +kernel) rfl rfl ?_
    refine p_callSv (in_ok w (k := k - 1) _ _ _ _) ksX8_75 (by decide +kernel) (by omega) rfl rfl rfl rfl rfl ?_
    refine p_if_eq (off := 13) 26 (by decide +kernel) (by decide) (fun c13 => ?_) (fun c13 => ?_)
    · have c13 := bI0.mp c13
      refine p_run (pc' := 28) [.ldc 123] mkX8_sheet (by decide +kernel) rfl rfl ?_
      refine p_iret rfl rfl (by decide +kernel) ?_
      exact ⟨rfl, rfl⟩
    · have c13 := bI1.mp c13
      refine p_run (pc' := 17) [.iload_n 2] mkX8_sheet (by decide +kernel) rfl rfl ?_
      refine p_if_lt (off := 12) 29 (by decide +kernel) (by decide) (fun c17 => ?_) (fun c17 => ?_)
      · exact absurd ⟨c4, c13, Or.inl c17⟩ hb
      · refine p_run (pc' := 23) [.iload_n 3, .bipush 24] mkX8_sheet (by decide +kernel) rfl rfl ?_
        refine p_icmp_le (off := 6) 29 (by decide +kernel) (by decide) (fun c23 => ?_) (fun c23 => ?_)
        · exact absurd ⟨c4, c13, Or.inr c23⟩ hb
        · refine p_run (pc' := 28) [.ldc 123] mkX8_sheet (by decide +kernel) rfl rfl ?_
          refine p_iret rfl rfl (by decide +kernel) ?_
          exact ⟨rfl, rfl⟩
set_option maxRecDepth 20000 in
set_option maxHeartbeats 4000000 in
theorem r_sheet_size (w : Wt) {k : Nat} (hk : 2 ≤ k) (a b n : Int32) (h : Mm) (hb : shP a b n) (h0 : 0 ≤ b) (hn : n < 0) : Ok w k MX8_sheet [.ref 96, .int a, .int b, .int n] h (Rv SIZEv h) := by
  show Wp w k MX8_sheet _ 0 [some (.ref 96), some (.int a), some (.int b), some (.int n), none] [] h
  refine p_run (pc' := 1) [.iload_n 1] mkX8_sheet (by decide +kernel) rfl rfl ?_
  refine p_callSv (risSheet_ok w (k := k - 1) (by omega) _ _) ksX8_206 (by decide +kernel) (by omega) rfl rfl rfl rfl rfl ?_
  refine p_if_eq (off := 22) 26 (by decide +kernel) (by decide) (fun c4 => ?_) (fun c4 => ?_)
  · have c4 := bI0.mp c4
    exact absurd hb.1 c4
  · have c4 := bI1.mp c4
    refine p_run (pc' := 10) [.iload_n 2, .iconst (-1), .iconst 1] mkX8_sheet (by decide +kernel) rfl rfl ?_
    refine p_callSv (in_ok w (k := k - 1) _ _ _ _) ksX8_75 (by decide +kernel) (by omega) rfl rfl rfl rfl rfl ?_
    refine p_if_eq (off := 13) 26 (by decide +kernel) (by decide) (fun c13 => ?_) (fun c13 => ?_)
    · have c13 := bI0.mp c13
      exact absurd hb.2.1 c13
    · have c13 := bI1.mp c13
      refine p_run (pc' := 17) [.iload_n 2] mkX8_sheet (by decide +kernel) rfl rfl ?_
      refine p_if_lt (off := 12) 29 (by decide +kernel) (by decide) (fun c17 => ?_) (fun c17 => ?_)
      · exact absurd c17 (Int32.not_lt.mpr h0)
      · refine p_run (pc' := 23) [.iload_n 3, .bipush 24] mkX8_sheet (by decide +kernel) rfl rfl ?_
        refine p_icmp_le (off := 6) 29 (by decide +kernel) (by decide) (fun c23 => ?_) (fun c23 => ?_)
        · refine p_run (pc' := 30) [.iload_n 2] mkX8_sheet (by decide +kernel) rfl rfl ?_
          refine p_if_lt (off := 11) 41 (by decide +kernel) (by decide) (fun c30 => ?_) (fun c30 => ?_)
          · exact absurd c30 (Int32.not_lt.mpr h0)
          · refine p_run (pc' := 34) [.iload_n 3] mkX8_sheet (by decide +kernel) rfl rfl ?_
            refine p_if_ge (off := 7) 41 (by decide +kernel) (by decide) (fun c34 => ?_) (fun c34 => ?_)
            · exact absurd c34 (Int32.not_le.mpr hn)
            · refine p_run (pc' := 40) [.ldc_w 281] mkX8_sheet (by decide +kernel) rfl rfl ?_
              refine p_iret rfl rfl (by decide +kernel) ?_
              exact ⟨rfl, rfl⟩
        · exact absurd (hb.2.2.resolve_left c17) c23
set_option maxRecDepth 20000 in
set_option maxHeartbeats 4000000 in
theorem r_sheet (w : Wt) {k : Nat} (hk : 2 ≤ k) (s : Nat) (hs : s < 4) (b n : Int32) (h : Mm) (hb : shP (nI s) b n) (hn : ¬ (0 ≤ b ∧ n < 0)) : Ok w k MX8_sheet [.ref 96, .int (nI s), .int b, .int n] h (Rv (if b < 0 then nI 0 else n) (wr (up (up h 109 s b) 110 s (if b < 0 then nI 0 else n)) 111 (spl (h 111) (24 * s) 24 (fun _ => nI 0)))) := by
  show Wp w k MX8_sheet _ 0 [some (.ref 96), some (.int (nI s)), some (.int b), some (.int n), none] [] h
  refine p_run (pc' := 1) [.iload_n 1] mkX8_sheet (by decide +kernel) rfl rfl ?_
  refine p_callSv (risSheet_ok w (k := k - 1) (by omega) _ _) ksX8_206 (by decide +kernel) (by omega) rfl rfl rfl rfl rfl ?_
  refine p_if_eq (off := 22) 26 (by decide +kernel) (by decide) (fun c4 => ?_) (fun c4 => ?_)
  · have c4 := bI0.mp c4
    exact absurd hb.1 c4
  · have c4 := bI1.mp c4
    refine p_run (pc' := 10) [.iload_n 2, .iconst (-1), .iconst 1] mkX8_sheet (by decide +kernel) rfl rfl ?_
    refine p_callSv (in_ok w (k := k - 1) _ _ _ _) ksX8_75 (by decide +kernel) (by omega) rfl rfl rfl rfl rfl ?_
    refine p_if_eq (off := 13) 26 (by decide +kernel) (by decide) (fun c13 => ?_) (fun c13 => ?_)
    · have c13 := bI0.mp c13
      exact absurd hb.2.1 c13
    · have c13 := bI1.mp c13
      refine p_run (pc' := 17) [.iload_n 2] mkX8_sheet (by decide +kernel) rfl rfl ?_
      refine p_if_lt (off := 12) 29 (by decide +kernel) (by decide) (fun c17 => ?_) (fun c17 => ?_)
      · refine p_run (pc' := 30) [.iload_n 2] mkX8_sheet (by decide +kernel) rfl rfl ?_
        refine p_if_lt (off := 11) 41 (by decide +kernel) (by decide) (fun c30 => ?_) (fun c30 => ?_)
        · refine p_run (pc' := 47) [.aload_n 0, .getfield 48, .iload_n 1, .iload_n 2] mkX8_sheet (by decide +kernel) rfl rfl ?_
          refine p_iast (s) (by decide +kernel) rfl rfl rfl (by omega)  ?_
          refine p_run (pc' := 54) [.aload_n 0, .getfield 51, .iload_n 1, .iload_n 2] mkX8_sheet (by decide +kernel) rfl rfl ?_
          refine p_if_ge (off := 7) 61 (by decide +kernel) (by decide) (fun c54 => ?_) (fun c54 => ?_)
          · refine p_run (pc' := 62) [.iload_n 3] mkX8_sheet (by decide +kernel) rfl rfl ?_
            refine Wp.eqS (st' := [.int (if b < 0 then nI 0 else n), .int (nI s), .ref 110]) (by first | rw [if_pos (Int32.not_le.mp c54)]; rfl | rw [if_neg (Int32.not_lt.mpr c54)]) ?_
            refine p_iast (s) (by decide +kernel) rfl rfl rfl (by omega)  ?_
            refine p_run (pc' := 66) [.iconst 0, .istore 4] mkX8_sheet (by decide +kernel) rfl rfl ?_
            generalize e2 : up (up h 109 s b) 110 s _ = h2
            refine Wp.for (24) (fun i L hh => L = [some (.ref 96), some (.int (nI s)), some (.int b), some (.int n), some (.int (nI i))] ∧ hh = wr h2 111 (spl (h2 111) (24 * s) i (fun _ => nI 0))) ?_ ?_ (0) (by omega) _ _ ?_
            · rintro i L hh hi ⟨rfl, hJ⟩ ih
              rw [hJ]
              refine p_run (pc' := 70) [.iload 4, .bipush 24] mkX8_sheet (by decide +kernel) rfl rfl ?_
              refine p_icmp_ge (off := 22) 92 (by decide +kernel) (by decide) (fun c2 => ?_) (fun c2 => ?_)
              · exact False.elim (by rw [oI, nI_leI (by omega) (by omega)] at c2; omega)
              · refine p_run (pc' := 85) [.aload_n 0, .getfield 54, .bipush 24, .iload_n 1, .imul, .iload 4, .iadd, .iconst 0] mkX8_sheet (by decide +kernel) rfl rfl ?_
                refine p_iast (24 * s + i) (by decide +kernel) rfl rfl (by simp only [oI, nIm, nI_add]) (by omega)  ?_
                refine p_run (pc' := 66) [.iinc 4 1, .goto (-23)] mkX8_sheet (by decide +kernel) rfl rfl ?_
                exact ih _ _ ⟨by rw [show nI i + Int32.ofInt 1 = nI (i + 1) by simp only [oI, nI_add]], by rw [up_up97, wr_wr, wrS, ← splS, oI]⟩
            · rintro L hh ⟨rfl, hJ⟩
              rw [hJ]
              refine p_run (pc' := 70) [.iload 4, .bipush 24] mkX8_sheet (by decide +kernel) rfl rfl ?_
              refine p_icmp_ge (off := 22) 92 (by decide +kernel) (by decide) (fun c2 => ?_) (fun c2 => ?_)
              · refine p_run (pc' := 97) [.aload_n 0, .getfield 51, .iload_n 1] mkX8_sheet (by decide +kernel) rfl rfl ?_
                refine p_iald (s) (by decide +kernel) rfl rfl rfl (by omega) ?_
                refine p_iret rfl rfl (by decide +kernel) ?_
                exact ⟨by rw [wrN (by decide), ← e2, upS, upd_s], by rw [← e2, upN (by decide), upN (by decide)]⟩
              · exact False.elim (by revert c2; decide)
            · exact ⟨rfl, by rw [spl0, wr_self]⟩
          · refine p_run (pc' := 62) [.iconst 0, .goto 4] mkX8_sheet (by decide +kernel) rfl rfl ?_
            refine Wp.eqS (st' := [.int (if b < 0 then nI 0 else n), .int (nI s), .ref 110]) (by first | rw [if_pos (Int32.not_le.mp c54)]; rfl | rw [if_neg (Int32.not_lt.mpr c54)]) ?_
            refine p_iast (s) (by decide +kernel) rfl rfl rfl (by omega)  ?_
            refine p_run (pc' := 66) [.iconst 0, .istore 4] mkX8_sheet (by decide +kernel) rfl rfl ?_
            generalize e2 : up (up h 109 s b) 110 s _ = h2
            refine Wp.for (24) (fun i L hh => L = [some (.ref 96), some (.int (nI s)), some (.int b), some (.int n), some (.int (nI i))] ∧ hh = wr h2 111 (spl (h2 111) (24 * s) i (fun _ => nI 0))) ?_ ?_ (0) (by omega) _ _ ?_
            · rintro i L hh hi ⟨rfl, hJ⟩ ih
              rw [hJ]
              refine p_run (pc' := 70) [.iload 4, .bipush 24] mkX8_sheet (by decide +kernel) rfl rfl ?_
              refine p_icmp_ge (off := 22) 92 (by decide +kernel) (by decide) (fun c2 => ?_) (fun c2 => ?_)
              · exact False.elim (by rw [oI, nI_leI (by omega) (by omega)] at c2; omega)
              · refine p_run (pc' := 85) [.aload_n 0, .getfield 54, .bipush 24, .iload_n 1, .imul, .iload 4, .iadd, .iconst 0] mkX8_sheet (by decide +kernel) rfl rfl ?_
                refine p_iast (24 * s + i) (by decide +kernel) rfl rfl (by simp only [oI, nIm, nI_add]) (by omega)  ?_
                refine p_run (pc' := 66) [.iinc 4 1, .goto (-23)] mkX8_sheet (by decide +kernel) rfl rfl ?_
                exact ih _ _ ⟨by rw [show nI i + Int32.ofInt 1 = nI (i + 1) by simp only [oI, nI_add]], by rw [up_up97, wr_wr, wrS, ← splS, oI]⟩
            · rintro L hh ⟨rfl, hJ⟩
              rw [hJ]
              refine p_run (pc' := 70) [.iload 4, .bipush 24] mkX8_sheet (by decide +kernel) rfl rfl ?_
              refine p_icmp_ge (off := 22) 92 (by decide +kernel) (by decide) (fun c2 => ?_) (fun c2 => ?_)
              · refine p_run (pc' := 97) [.aload_n 0, .getfield 51, .iload_n 1] mkX8_sheet (by decide +kernel) rfl rfl ?_
                refine p_iald (s) (by decide +kernel) rfl rfl rfl (by omega) ?_
                refine p_iret rfl rfl (by decide +kernel) ?_
                exact ⟨by rw [wrN (by decide), ← e2, upS, upd_s], by rw [← e2, upN (by decide), upN (by decide)]⟩
              · exact False.elim (by revert c2; decide)
            · exact ⟨rfl, by rw [spl0, wr_self]⟩
        · refine p_run (pc' := 34) [.iload_n 3] mkX8_sheet (by decide +kernel) rfl rfl ?_
          refine p_if_ge (off := 7) 41 (by decide +kernel) (by decide) (fun c34 => ?_) (fun c34 => ?_)
          · refine p_run (pc' := 47) [.aload_n 0, .getfield 48, .iload_n 1, .iload_n 2] mkX8_sheet (by decide +kernel) rfl rfl ?_
            refine p_iast (s) (by decide +kernel) rfl rfl rfl (by omega)  ?_
            refine p_run (pc' := 54) [.aload_n 0, .getfield 51, .iload_n 1, .iload_n 2] mkX8_sheet (by decide +kernel) rfl rfl ?_
            refine p_if_ge (off := 7) 61 (by decide +kernel) (by decide) (fun c54 => ?_) (fun c54 => ?_)
            · refine p_run (pc' := 62) [.iload_n 3] mkX8_sheet (by decide +kernel) rfl rfl ?_
              refine Wp.eqS (st' := [.int (if b < 0 then nI 0 else n), .int (nI s), .ref 110]) (by first | rw [if_pos (Int32.not_le.mp c54)]; rfl | rw [if_neg (Int32.not_lt.mpr c54)]) ?_
              refine p_iast (s) (by decide +kernel) rfl rfl rfl (by omega)  ?_
              refine p_run (pc' := 66) [.iconst 0, .istore 4] mkX8_sheet (by decide +kernel) rfl rfl ?_
              generalize e2 : up (up h 109 s b) 110 s _ = h2
              refine Wp.for (24) (fun i L hh => L = [some (.ref 96), some (.int (nI s)), some (.int b), some (.int n), some (.int (nI i))] ∧ hh = wr h2 111 (spl (h2 111) (24 * s) i (fun _ => nI 0))) ?_ ?_ (0) (by omega) _ _ ?_
              · rintro i L hh hi ⟨rfl, hJ⟩ ih
                rw [hJ]
                refine p_run (pc' := 70) [.iload 4, .bipush 24] mkX8_sheet (by decide +kernel) rfl rfl ?_
                refine p_icmp_ge (off := 22) 92 (by decide +kernel) (by decide) (fun c2 => ?_) (fun c2 => ?_)
                · exact False.elim (by rw [oI, nI_leI (by omega) (by omega)] at c2; omega)
                · refine p_run (pc' := 85) [.aload_n 0, .getfield 54, .bipush 24, .iload_n 1, .imul, .iload 4, .iadd, .iconst 0] mkX8_sheet (by decide +kernel) rfl rfl ?_
                  refine p_iast (24 * s + i) (by decide +kernel) rfl rfl (by simp only [oI, nIm, nI_add]) (by omega)  ?_
                  refine p_run (pc' := 66) [.iinc 4 1, .goto (-23)] mkX8_sheet (by decide +kernel) rfl rfl ?_
                  exact ih _ _ ⟨by rw [show nI i + Int32.ofInt 1 = nI (i + 1) by simp only [oI, nI_add]], by rw [up_up97, wr_wr, wrS, ← splS, oI]⟩
              · rintro L hh ⟨rfl, hJ⟩
                rw [hJ]
                refine p_run (pc' := 70) [.iload 4, .bipush 24] mkX8_sheet (by decide +kernel) rfl rfl ?_
                refine p_icmp_ge (off := 22) 92 (by decide +kernel) (by decide) (fun c2 => ?_) (fun c2 => ?_)
                · refine p_run (pc' := 97) [.aload_n 0, .getfield 51, .iload_n 1] mkX8_sheet (by decide +kernel) rfl rfl ?_
                  refine p_iald (s) (by decide +kernel) rfl rfl rfl (by omega) ?_
                  refine p_iret rfl rfl (by decide +kernel) ?_
                  exact ⟨by rw [wrN (by decide), ← e2, upS, upd_s], by rw [← e2, upN (by decide), upN (by decide)]⟩
                · exact False.elim (by revert c2; decide)
              · exact ⟨rfl, by rw [spl0, wr_self]⟩
            · refine p_run (pc' := 62) [.iconst 0, .goto 4] mkX8_sheet (by decide +kernel) rfl rfl ?_
              refine Wp.eqS (st' := [.int (if b < 0 then nI 0 else n), .int (nI s), .ref 110]) (by first | rw [if_pos (Int32.not_le.mp c54)]; rfl | rw [if_neg (Int32.not_lt.mpr c54)]) ?_
              refine p_iast (s) (by decide +kernel) rfl rfl rfl (by omega)  ?_
              refine p_run (pc' := 66) [.iconst 0, .istore 4] mkX8_sheet (by decide +kernel) rfl rfl ?_
              generalize e2 : up (up h 109 s b) 110 s _ = h2
              refine Wp.for (24) (fun i L hh => L = [some (.ref 96), some (.int (nI s)), some (.int b), some (.int n), some (.int (nI i))] ∧ hh = wr h2 111 (spl (h2 111) (24 * s) i (fun _ => nI 0))) ?_ ?_ (0) (by omega) _ _ ?_
              · rintro i L hh hi ⟨rfl, hJ⟩ ih
                rw [hJ]
                refine p_run (pc' := 70) [.iload 4, .bipush 24] mkX8_sheet (by decide +kernel) rfl rfl ?_
                refine p_icmp_ge (off := 22) 92 (by decide +kernel) (by decide) (fun c2 => ?_) (fun c2 => ?_)
                · exact False.elim (by rw [oI, nI_leI (by omega) (by omega)] at c2; omega)
                · refine p_run (pc' := 85) [.aload_n 0, .getfield 54, .bipush 24, .iload_n 1, .imul, .iload 4, .iadd, .iconst 0] mkX8_sheet (by decide +kernel) rfl rfl ?_
                  refine p_iast (24 * s + i) (by decide +kernel) rfl rfl (by simp only [oI, nIm, nI_add]) (by omega)  ?_
                  refine p_run (pc' := 66) [.iinc 4 1, .goto (-23)] mkX8_sheet (by decide +kernel) rfl rfl ?_
                  exact ih _ _ ⟨by rw [show nI i + Int32.ofInt 1 = nI (i + 1) by simp only [oI, nI_add]], by rw [up_up97, wr_wr, wrS, ← splS, oI]⟩
              · rintro L hh ⟨rfl, hJ⟩
                rw [hJ]
                refine p_run (pc' := 70) [.iload 4, .bipush 24] mkX8_sheet (by decide +kernel) rfl rfl ?_
                refine p_icmp_ge (off := 22) 92 (by decide +kernel) (by decide) (fun c2 => ?_) (fun c2 => ?_)
                · refine p_run (pc' := 97) [.aload_n 0, .getfield 51, .iload_n 1] mkX8_sheet (by decide +kernel) rfl rfl ?_
                  refine p_iald (s) (by decide +kernel) rfl rfl rfl (by omega) ?_
                  refine p_iret rfl rfl (by decide +kernel) ?_
                  exact ⟨by rw [wrN (by decide), ← e2, upS, upd_s], by rw [← e2, upN (by decide), upN (by decide)]⟩
                · exact False.elim (by revert c2; decide)
              · exact ⟨rfl, by rw [spl0, wr_self]⟩
          · exact absurd (Int32.not_lt.mp (fun q => hn ⟨Int32.not_lt.mp c30, q⟩)) c34
      · refine p_run (pc' := 23) [.iload_n 3, .bipush 24] mkX8_sheet (by decide +kernel) rfl rfl ?_
        refine p_icmp_le (off := 6) 29 (by decide +kernel) (by decide) (fun c23 => ?_) (fun c23 => ?_)
        · refine p_run (pc' := 30) [.iload_n 2] mkX8_sheet (by decide +kernel) rfl rfl ?_
          refine p_if_lt (off := 11) 41 (by decide +kernel) (by decide) (fun c30 => ?_) (fun c30 => ?_)
          · refine p_run (pc' := 47) [.aload_n 0, .getfield 48, .iload_n 1, .iload_n 2] mkX8_sheet (by decide +kernel) rfl rfl ?_
            refine p_iast (s) (by decide +kernel) rfl rfl rfl (by omega)  ?_
            refine p_run (pc' := 54) [.aload_n 0, .getfield 51, .iload_n 1, .iload_n 2] mkX8_sheet (by decide +kernel) rfl rfl ?_
            refine p_if_ge (off := 7) 61 (by decide +kernel) (by decide) (fun c54 => ?_) (fun c54 => ?_)
            · refine p_run (pc' := 62) [.iload_n 3] mkX8_sheet (by decide +kernel) rfl rfl ?_
              refine Wp.eqS (st' := [.int (if b < 0 then nI 0 else n), .int (nI s), .ref 110]) (by first | rw [if_pos (Int32.not_le.mp c54)]; rfl | rw [if_neg (Int32.not_lt.mpr c54)]) ?_
              refine p_iast (s) (by decide +kernel) rfl rfl rfl (by omega)  ?_
              refine p_run (pc' := 66) [.iconst 0, .istore 4] mkX8_sheet (by decide +kernel) rfl rfl ?_
              generalize e2 : up (up h 109 s b) 110 s _ = h2
              refine Wp.for (24) (fun i L hh => L = [some (.ref 96), some (.int (nI s)), some (.int b), some (.int n), some (.int (nI i))] ∧ hh = wr h2 111 (spl (h2 111) (24 * s) i (fun _ => nI 0))) ?_ ?_ (0) (by omega) _ _ ?_
              · rintro i L hh hi ⟨rfl, hJ⟩ ih
                rw [hJ]
                refine p_run (pc' := 70) [.iload 4, .bipush 24] mkX8_sheet (by decide +kernel) rfl rfl ?_
                refine p_icmp_ge (off := 22) 92 (by decide +kernel) (by decide) (fun c2 => ?_) (fun c2 => ?_)
                · exact False.elim (by rw [oI, nI_leI (by omega) (by omega)] at c2; omega)
                · refine p_run (pc' := 85) [.aload_n 0, .getfield 54, .bipush 24, .iload_n 1, .imul, .iload 4, .iadd, .iconst 0] mkX8_sheet (by decide +kernel) rfl rfl ?_
                  refine p_iast (24 * s + i) (by decide +kernel) rfl rfl (by simp only [oI, nIm, nI_add]) (by omega)  ?_
                  refine p_run (pc' := 66) [.iinc 4 1, .goto (-23)] mkX8_sheet (by decide +kernel) rfl rfl ?_
                  exact ih _ _ ⟨by rw [show nI i + Int32.ofInt 1 = nI (i + 1) by simp only [oI, nI_add]], by rw [up_up97, wr_wr, wrS, ← splS, oI]⟩
              · rintro L hh ⟨rfl, hJ⟩
                rw [hJ]
                refine p_run (pc' := 70) [.iload 4, .bipush 24] mkX8_sheet (by decide +kernel) rfl rfl ?_
                refine p_icmp_ge (off := 22) 92 (by decide +kernel) (by decide) (fun c2 => ?_) (fun c2 => ?_)
                · refine p_run (pc' := 97) [.aload_n 0, .getfield 51, .iload_n 1] mkX8_sheet (by decide +kernel) rfl rfl ?_
                  refine p_iald (s) (by decide +kernel) rfl rfl rfl (by omega) ?_
                  refine p_iret rfl rfl (by decide +kernel) ?_
                  exact ⟨by rw [wrN (by decide), ← e2, upS, upd_s], by rw [← e2, upN (by decide), upN (by decide)]⟩
                · exact False.elim (by revert c2; decide)
              · exact ⟨rfl, by rw [spl0, wr_self]⟩
            · refine p_run (pc' := 62) [.iconst 0, .goto 4] mkX8_sheet (by decide +kernel) rfl rfl ?_
              refine Wp.eqS (st' := [.int (if b < 0 then nI 0 else n), .int (nI s), .ref 110]) (by first | rw [if_pos (Int32.not_le.mp c54)]; rfl | rw [if_neg (Int32.not_lt.mpr c54)]) ?_
              refine p_iast (s) (by decide +kernel) rfl rfl rfl (by omega)  ?_
              refine p_run (pc' := 66) [.iconst 0, .istore 4] mkX8_sheet (by decide +kernel) rfl rfl ?_
              generalize e2 : up (up h 109 s b) 110 s _ = h2
              refine Wp.for (24) (fun i L hh => L = [some (.ref 96), some (.int (nI s)), some (.int b), some (.int n), some (.int (nI i))] ∧ hh = wr h2 111 (spl (h2 111) (24 * s) i (fun _ => nI 0))) ?_ ?_ (0) (by omega) _ _ ?_
              · rintro i L hh hi ⟨rfl, hJ⟩ ih
                rw [hJ]
                refine p_run (pc' := 70) [.iload 4, .bipush 24] mkX8_sheet (by decide +kernel) rfl rfl ?_
                refine p_icmp_ge (off := 22) 92 (by decide +kernel) (by decide) (fun c2 => ?_) (fun c2 => ?_)
                · exact False.elim (by rw [oI, nI_leI (by omega) (by omega)] at c2; omega)
                · refine p_run (pc' := 85) [.aload_n 0, .getfield 54, .bipush 24, .iload_n 1, .imul, .iload 4, .iadd, .iconst 0] mkX8_sheet (by decide +kernel) rfl rfl ?_
                  refine p_iast (24 * s + i) (by decide +kernel) rfl rfl (by simp only [oI, nIm, nI_add]) (by omega)  ?_
                  refine p_run (pc' := 66) [.iinc 4 1, .goto (-23)] mkX8_sheet (by decide +kernel) rfl rfl ?_
                  exact ih _ _ ⟨by rw [show nI i + Int32.ofInt 1 = nI (i + 1) by simp only [oI, nI_add]], by rw [up_up97, wr_wr, wrS, ← splS, oI]⟩
              · rintro L hh ⟨rfl, hJ⟩
                rw [hJ]
                refine p_run (pc' := 70) [.iload 4, .bipush 24] mkX8_sheet (by decide +kernel) rfl rfl ?_
                refine p_icmp_ge (off := 22) 92 (by decide +kernel) (by decide) (fun c2 => ?_) (fun c2 => ?_)
                · refine p_run (pc' := 97) [.aload_n 0, .getfield 51, .iload_n 1] mkX8_sheet (by decide +kernel) rfl rfl ?_
                  refine p_iald (s) (by decide +kernel) rfl rfl rfl (by omega) ?_
                  refine p_iret rfl rfl (by decide +kernel) ?_
                  exact ⟨by rw [wrN (by decide), ← e2, upS, upd_s], by rw [← e2, upN (by decide), upN (by decide)]⟩
                · exact False.elim (by revert c2; decide)
              · exact ⟨rfl, by rw [spl0, wr_self]⟩
          · refine p_run (pc' := 34) [.iload_n 3] mkX8_sheet (by decide +kernel) rfl rfl ?_
            refine p_if_ge (off := 7) 41 (by decide +kernel) (by decide) (fun c34 => ?_) (fun c34 => ?_)
            · refine p_run (pc' := 47) [.aload_n 0, .getfield 48, .iload_n 1, .iload_n 2] mkX8_sheet (by decide +kernel) rfl rfl ?_
              refine p_iast (s) (by decide +kernel) rfl rfl rfl (by omega)  ?_
              refine p_run (pc' := 54) [.aload_n 0, .getfield 51, .iload_n 1, .iload_n 2] mkX8_sheet (by decide +kernel) rfl rfl ?_
              refine p_if_ge (off := 7) 61 (by decide +kernel) (by decide) (fun c54 => ?_) (fun c54 => ?_)
              · refine p_run (pc' := 62) [.iload_n 3] mkX8_sheet (by decide +kernel) rfl rfl ?_
                refine Wp.eqS (st' := [.int (if b < 0 then nI 0 else n), .int (nI s), .ref 110]) (by first | rw [if_pos (Int32.not_le.mp c54)]; rfl | rw [if_neg (Int32.not_lt.mpr c54)]) ?_
                refine p_iast (s) (by decide +kernel) rfl rfl rfl (by omega)  ?_
                refine p_run (pc' := 66) [.iconst 0, .istore 4] mkX8_sheet (by decide +kernel) rfl rfl ?_
                generalize e2 : up (up h 109 s b) 110 s _ = h2
                refine Wp.for (24) (fun i L hh => L = [some (.ref 96), some (.int (nI s)), some (.int b), some (.int n), some (.int (nI i))] ∧ hh = wr h2 111 (spl (h2 111) (24 * s) i (fun _ => nI 0))) ?_ ?_ (0) (by omega) _ _ ?_
                · rintro i L hh hi ⟨rfl, hJ⟩ ih
                  rw [hJ]
                  refine p_run (pc' := 70) [.iload 4, .bipush 24] mkX8_sheet (by decide +kernel) rfl rfl ?_
                  refine p_icmp_ge (off := 22) 92 (by decide +kernel) (by decide) (fun c2 => ?_) (fun c2 => ?_)
                  · exact False.elim (by rw [oI, nI_leI (by omega) (by omega)] at c2; omega)
                  · refine p_run (pc' := 85) [.aload_n 0, .getfield 54, .bipush 24, .iload_n 1, .imul, .iload 4, .iadd, .iconst 0] mkX8_sheet (by decide +kernel) rfl rfl ?_
                    refine p_iast (24 * s + i) (by decide +kernel) rfl rfl (by simp only [oI, nIm, nI_add]) (by omega)  ?_
                    refine p_run (pc' := 66) [.iinc 4 1, .goto (-23)] mkX8_sheet (by decide +kernel) rfl rfl ?_
                    exact ih _ _ ⟨by rw [show nI i + Int32.ofInt 1 = nI (i + 1) by simp only [oI, nI_add]], by rw [up_up97, wr_wr, wrS, ← splS, oI]⟩
                · rintro L hh ⟨rfl, hJ⟩
                  rw [hJ]
                  refine p_run (pc' := 70) [.iload 4, .bipush 24] mkX8_sheet (by decide +kernel) rfl rfl ?_
                  refine p_icmp_ge (off := 22) 92 (by decide +kernel) (by decide) (fun c2 => ?_) (fun c2 => ?_)
                  · refine p_run (pc' := 97) [.aload_n 0, .getfield 51, .iload_n 1] mkX8_sheet (by decide +kernel) rfl rfl ?_
                    refine p_iald (s) (by decide +kernel) rfl rfl rfl (by omega) ?_
                    refine p_iret rfl rfl (by decide +kernel) ?_
                    exact ⟨by rw [wrN (by decide), ← e2, upS, upd_s], by rw [← e2, upN (by decide), upN (by decide)]⟩
                  · exact False.elim (by revert c2; decide)
                · exact ⟨rfl, by rw [spl0, wr_self]⟩
              · refine p_run (pc' := 62) [.iconst 0, .goto 4] mkX8_sheet (by decide +kernel) rfl rfl ?_
                refine Wp.eqS (st' := [.int (if b < 0 then nI 0 else n), .int (nI s), .ref 110]) (by first | rw [if_pos (Int32.not_le.mp c54)]; rfl | rw [if_neg (Int32.not_lt.mpr c54)]) ?_
                refine p_iast (s) (by decide +kernel) rfl rfl rfl (by omega)  ?_
                refine p_run (pc' := 66) [.iconst 0, .istore 4] mkX8_sheet (by decide +kernel) rfl rfl ?_
                generalize e2 : up (up h 109 s b) 110 s _ = h2
                refine Wp.for (24) (fun i L hh => L = [some (.ref 96), some (.int (nI s)), some (.int b), some (.int n), some (.int (nI i))] ∧ hh = wr h2 111 (spl (h2 111) (24 * s) i (fun _ => nI 0))) ?_ ?_ (0) (by omega) _ _ ?_
                · rintro i L hh hi ⟨rfl, hJ⟩ ih
                  rw [hJ]
                  refine p_run (pc' := 70) [.iload 4, .bipush 24] mkX8_sheet (by decide +kernel) rfl rfl ?_
                  refine p_icmp_ge (off := 22) 92 (by decide +kernel) (by decide) (fun c2 => ?_) (fun c2 => ?_)
                  · exact False.elim (by rw [oI, nI_leI (by omega) (by omega)] at c2; omega)
                  · refine p_run (pc' := 85) [.aload_n 0, .getfield 54, .bipush 24, .iload_n 1, .imul, .iload 4, .iadd, .iconst 0] mkX8_sheet (by decide +kernel) rfl rfl ?_
                    refine p_iast (24 * s + i) (by decide +kernel) rfl rfl (by simp only [oI, nIm, nI_add]) (by omega)  ?_
                    refine p_run (pc' := 66) [.iinc 4 1, .goto (-23)] mkX8_sheet (by decide +kernel) rfl rfl ?_
                    exact ih _ _ ⟨by rw [show nI i + Int32.ofInt 1 = nI (i + 1) by simp only [oI, nI_add]], by rw [up_up97, wr_wr, wrS, ← splS, oI]⟩
                · rintro L hh ⟨rfl, hJ⟩
                  rw [hJ]
                  refine p_run (pc' := 70) [.iload 4, .bipush 24] mkX8_sheet (by decide +kernel) rfl rfl ?_
                  refine p_icmp_ge (off := 22) 92 (by decide +kernel) (by decide) (fun c2 => ?_) (fun c2 => ?_)
                  · refine p_run (pc' := 97) [.aload_n 0, .getfield 51, .iload_n 1] mkX8_sheet (by decide +kernel) rfl rfl ?_
                    refine p_iald (s) (by decide +kernel) rfl rfl rfl (by omega) ?_
                    refine p_iret rfl rfl (by decide +kernel) ?_
                    exact ⟨by rw [wrN (by decide), ← e2, upS, upd_s], by rw [← e2, upN (by decide), upN (by decide)]⟩
                  · exact False.elim (by revert c2; decide)
                · exact ⟨rfl, by rw [spl0, wr_self]⟩
            · exact absurd (Int32.not_lt.mp (fun q => hn ⟨Int32.not_lt.mp c30, q⟩)) c34
        · exact absurd (hb.2.2.resolve_left c17) c23
set_option maxRecDepth 20000 in
set_option maxHeartbeats 4000000 in
theorem r_mark_bad (w : Wt) {k : Nat} (hk : 2 ≤ k) (a b c : Int32) (h : Mm) (hb : ¬ inR a 0 3) : Ok w k MX8_mark [.ref 96, .int a, .int b, .int c] h (Rv BADv h) := by
  show Wp w k MX8_mark _ 0 [some (.ref 96), some (.int a), some (.int b), some (.int c)] [] h
  refine p_run (pc' := 1) [.iload_n 1] mkX8_mark (by decide +kernel) rfl rfl ?_
  refine p_callSv (risSheet_ok w (k := k - 1) (by omega) _ _) ksX8_206 (by decide +kernel) (by omega) rfl rfl rfl rfl rfl ?_
  refine p_if_ne (off := 6) 10 (by decide +kernel) (by decide) (fun c4 => ?_) (fun c4 => ?_)
  · have c4 := bI1.mp c4
    exact absurd c4 hb
  · have c4 := bI0.mp c4
    refine p_run (pc' := 9) [.ldc 123] mkX8_mark (by decide +kernel) rfl rfl ?_
    refine p_iret rfl rfl (by decide +kernel) ?_
    exact ⟨rfl, rfl⟩
def mkQ (h : Mm) (s : Nat) (pl v : Int32) : Option Value → Mm → Prop :=
  if h 109 s < 0 then Rv NOTHINGv h else if nI 0 ≤ pl ∧ pl ≤ h 110 s - nI 1 then
    (if h 109 s = 0 then (if v = NONEv then Rv KINDv h else Rv (nI 1) (up h 111 (24 * s + nN pl) (v.toInt16.toInt32)))
     else (if v = NONEv then Rv (nI 1) (up h 111 (24 * s + nN pl) v) else if Int32.ofInt (-99999) ≤ v ∧ v ≤ nI 99999 then Rv (nI 1) (up h 111 (24 * s + nN pl) v) else Rv BADv h))
  else Rv INDEXv h
theorem pl_of {x sz : Int32} (hz : In sz 24) (h : nI 0 ≤ x ∧ x ≤ sz - nI 1) : ∃ j, j < nN sz ∧ x = nI j := by
  have h2 := hz.2
  rcases Nat.eq_zero_or_pos (nN sz) with h0 | h0
  · rw [hz.1, h0] at h
    have h3 : nI 0 ≤ nI 0 - nI 1 := Int32.le_trans h.1 h.2
    exact absurd h3 (by decide)
  · have h3 : x ≤ nI (nN sz - 1) := by
      have := h.2
      rw [hz.1, nIs (by omega)] at this
      exact this
    obtain ⟨j, -, hj, rfl⟩ := inR_of (lo := 0) (hi := nN sz - 1) (by omega) (by omega) ⟨h.1, h3⟩
    exact ⟨j, by omega, rfl⟩
set_option maxRecDepth 20000 in
set_option maxHeartbeats 4000000 in
theorem r_mark (w : Wt) {k : Nat} (hk : 2 ≤ k) (s : Nat) (hs : s < 4) (pl v : Int32) (h : Mm) (hz : In (h 110 s) 24) (ho : h 109 s = Int32.ofInt (-1) ∨ h 109 s = nI 0 ∨ h 109 s = nI 1) : Ok w k MX8_mark [.ref 96, .int (nI s), .int pl, .int v] h (mkQ h s pl v) := by
  show Wp w k MX8_mark _ 0 [some (.ref 96), some (.int (nI s)), some (.int pl), some (.int v)] [] h
  refine p_run (pc' := 1) [.iload_n 1] mkX8_mark (by decide +kernel) rfl rfl ?_
  refine p_callSv (isSheet_t w (k := k - 1) (by omega) _ _ (in_nI (lo := 0) (hi := 3) (by omega) (Nat.le_of_lt_succ hs) (by omega))) ksX8_206 (by decide +kernel) (by omega) rfl rfl rfl rfl rfl ?_
  refine p_if_ne (off := 6) 10 (by decide +kernel) (by decide) (fun c4 => ?_) (fun c4 => ?_)
  · refine p_run (pc' := 15) [.aload_n 0, .getfield 48, .iload_n 1] mkX8_mark (by decide +kernel) rfl rfl ?_
    refine p_iald (s) (by decide +kernel) rfl rfl (by first | rfl | simp only [oI]) (by omega) ?_
    refine p_if_ge (off := 6) 22 (by decide +kernel) (by decide) (fun c16 => ?_) (fun c16 => ?_)
    · refine p_run (pc' := 29) [.iload_n 2, .iconst 0, .aload_n 0, .getfield 51, .iload_n 1] mkX8_mark (by decide +kernel) rfl rfl ?_
      refine p_iald (s) (by decide +kernel) rfl rfl (by first | rfl | simp only [oI]) (by omega) ?_
      refine p_run (pc' := 32) [.iconst 1, .isub] mkX8_mark (by decide +kernel) rfl rfl ?_
      refine p_callSv (in_ok w (k := k - 1) _ _ _ _) ksX8_75 (by decide +kernel) (by omega) rfl rfl rfl rfl rfl ?_
      refine p_if_ne (off := 7) 42 (by decide +kernel) (by decide) (fun c35 => ?_) (fun c35 => ?_)
      · have c35 := bI1.mp c35
        refine p_run (pc' := 47) [.aload_n 0, .getfield 48, .iload_n 1] mkX8_mark (by decide +kernel) rfl rfl ?_
        refine p_iald (s) (by decide +kernel) rfl rfl (by first | rfl | simp only [oI]) (by omega) ?_
        refine p_if_ne (off := 12) 60 (by decide +kernel) (by decide) (fun c48 => ?_) (fun c48 => ?_)
        · refine p_run (pc' := 65) [.aload_n 0, .getfield 48, .iload_n 1] mkX8_mark (by decide +kernel) rfl rfl ?_
          refine p_iald (s) (by decide +kernel) rfl rfl (by first | rfl | simp only [oI]) (by omega) ?_
          refine p_run (pc' := 67) [.iconst 1] mkX8_mark (by decide +kernel) rfl rfl ?_
          refine p_icmp_ne (off := 25) 92 (by decide +kernel) (by decide) (fun c67 => ?_) (fun c67 => ?_)
          · exact absurd ((ho.resolve_left (fun q => absurd c16 (by rw [q]; decide))).resolve_left c48) c67
          · refine p_run (pc' := 73) [.iload_n 3, .ldc 195] mkX8_mark (by decide +kernel) rfl rfl ?_
            refine p_icmp_eq (off := 19) 92 (by decide +kernel) (by decide) (fun c73 => ?_) (fun c73 => ?_)
            · refine p_run (pc' := 107) [.aload_n 0, .getfield 54, .bipush 24, .iload_n 1, .imul, .iload_n 2, .iadd, .aload_n 0, .getfield 48, .iload_n 1] mkX8_mark (by decide +kernel) rfl rfl ?_
              refine p_iald (s) (by decide +kernel) rfl rfl (by first | rfl | simp only [oI]) (by omega) ?_
              refine p_if_ne (off := 8) 116 (by decide +kernel) (by decide) (fun c108 => ?_) (fun c108 => ?_)
              · refine p_run (pc' := 117) [.iload_n 3] mkX8_mark (by decide +kernel) rfl rfl ?_
                obtain ⟨j, hj, hj2⟩ := pl_of hz c35
                have hz2 := hz.2
                subst hj2
                refine p_iast (24 * s + j) (by decide +kernel) rfl rfl (by simp only [oI, nIm, nI_add]) (by omega)  ?_
                refine p_run (pc' := 119) [.iconst 1] mkX8_mark (by decide +kernel) rfl rfl ?_
                refine p_iret rfl rfl (by decide +kernel) ?_
                unfold mkQ; exact iF (Int32.not_lt.mpr c16) (iT c35 (iF c48 (iT c73 (⟨rfl, by rw [nN_nI (by omega)]⟩))))
              · exact absurd c108 c48
            · refine p_run (pc' := 83) [.iload_n 3, .ldc_w 283, .ldc_w 284] mkX8_mark (by decide +kernel) rfl rfl ?_
              refine p_callSv (in_ok w (k := k - 1) _ _ _ _) ksX8_75 (by decide +kernel) (by omega) rfl rfl rfl rfl rfl ?_
              refine p_if_ne (off := 6) 92 (by decide +kernel) (by decide) (fun c86 => ?_) (fun c86 => ?_)
              · have c86 := bI1.mp c86
                refine p_run (pc' := 107) [.aload_n 0, .getfield 54, .bipush 24, .iload_n 1, .imul, .iload_n 2, .iadd, .aload_n 0, .getfield 48, .iload_n 1] mkX8_mark (by decide +kernel) rfl rfl ?_
                refine p_iald (s) (by decide +kernel) rfl rfl (by first | rfl | simp only [oI]) (by omega) ?_
                refine p_if_ne (off := 8) 116 (by decide +kernel) (by decide) (fun c108 => ?_) (fun c108 => ?_)
                · refine p_run (pc' := 117) [.iload_n 3] mkX8_mark (by decide +kernel) rfl rfl ?_
                  obtain ⟨j, hj, hj2⟩ := pl_of hz c35
                  have hz2 := hz.2
                  subst hj2
                  refine p_iast (24 * s + j) (by decide +kernel) rfl rfl (by simp only [oI, nIm, nI_add]) (by omega)  ?_
                  refine p_run (pc' := 119) [.iconst 1] mkX8_mark (by decide +kernel) rfl rfl ?_
                  refine p_iret rfl rfl (by decide +kernel) ?_
                  unfold mkQ; exact iF (Int32.not_lt.mpr c16) (iT c35 (iF c48 (iF c73 (iT c86 (⟨rfl, by rw [nN_nI (by omega)]⟩)))))
                · exact absurd c108 c48
              · have c86 := bI0.mp c86
                refine p_run (pc' := 91) [.ldc 123] mkX8_mark (by decide +kernel) rfl rfl ?_
                refine p_iret rfl rfl (by decide +kernel) ?_
                unfold mkQ; exact iF (Int32.not_lt.mpr c16) (iT c35 (iF c48 (iF c73 (iF c86 (⟨rfl, rfl⟩)))))
        · refine p_run (pc' := 54) [.iload_n 3, .ldc 195] mkX8_mark (by decide +kernel) rfl rfl ?_
          refine p_icmp_ne (off := 6) 60 (by decide +kernel) (by decide) (fun c54 => ?_) (fun c54 => ?_)
          · refine p_run (pc' := 65) [.aload_n 0, .getfield 48, .iload_n 1] mkX8_mark (by decide +kernel) rfl rfl ?_
            refine p_iald (s) (by decide +kernel) rfl rfl (by first | rfl | simp only [oI]) (by omega) ?_
            refine p_run (pc' := 67) [.iconst 1] mkX8_mark (by decide +kernel) rfl rfl ?_
            refine p_icmp_ne (off := 25) 92 (by decide +kernel) (by decide) (fun c67 => ?_) (fun c67 => ?_)
            · refine p_run (pc' := 107) [.aload_n 0, .getfield 54, .bipush 24, .iload_n 1, .imul, .iload_n 2, .iadd, .aload_n 0, .getfield 48, .iload_n 1] mkX8_mark (by decide +kernel) rfl rfl ?_
              refine p_iald (s) (by decide +kernel) rfl rfl (by first | rfl | simp only [oI]) (by omega) ?_
              refine p_if_ne (off := 8) 116 (by decide +kernel) (by decide) (fun c108 => ?_) (fun c108 => ?_)
              · exact absurd c48 c108
              · refine p_run (pc' := 117) [.iload_n 3, .i2s, .goto 4] mkX8_mark (by decide +kernel) rfl rfl ?_
                obtain ⟨j, hj, hj2⟩ := pl_of hz c35
                have hz2 := hz.2
                subst hj2
                refine p_iast (24 * s + j) (by decide +kernel) rfl rfl (by simp only [oI, nIm, nI_add]) (by omega)  ?_
                refine p_run (pc' := 119) [.iconst 1] mkX8_mark (by decide +kernel) rfl rfl ?_
                refine p_iret rfl rfl (by decide +kernel) ?_
                unfold mkQ; exact iF (Int32.not_lt.mpr c16) (iT c35 (iT c48 (iF c54 (⟨rfl, by rw [nN_nI (by omega)]⟩))))
            · exact absurd (c48.symm.trans c67) (by decide)
          · refine p_run (pc' := 59) [.ldc 145] mkX8_mark (by decide +kernel) rfl rfl ?_
            refine p_iret rfl rfl (by decide +kernel) ?_
            unfold mkQ; exact iF (Int32.not_lt.mpr c16) (iT c35 (iT c48 (iT c54 (⟨rfl, rfl⟩))))
      · have c35 := bI0.mp c35
        refine p_run (pc' := 41) [.ldc_w 282] mkX8_mark (by decide +kernel) rfl rfl ?_
        refine p_iret rfl rfl (by decide +kernel) ?_
        unfold mkQ; exact iF (Int32.not_lt.mpr c16) (iF c35 (⟨rfl, rfl⟩))
    · refine p_run (pc' := 21) [.ldc 209] mkX8_mark (by decide +kernel) rfl rfl ?_
      refine p_iret rfl rfl (by decide +kernel) ?_
      unfold mkQ; exact iT (Int32.not_le.mp c16) (⟨rfl, rfl⟩)
  · exact False.elim (by revert c4; decide)
