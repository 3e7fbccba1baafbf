/-! the reference: what will be, second -/
def fstF (p : Nat → Bool) : Nat → Nat → Option Nat
  | _, 0 => none
  | lo, m + 1 => if p lo = true then some lo else fstF p (lo + 1) m
def oN (o : Option Nat) : Int32 := match o with
  | none => NONEv
  | some n => nI n
def bdF (j : Nat) : Nat := if j = 0 then 5 else if j = 3 then 3 else if j = 4 then 9999 else 99
theorem Iv.dk {N : Vc} (hI : Iv N) {d j : Nat} {x : Int32} (hd : d < 10) (hj : j < 5) (hx : In x (bdF j)) : Iv (upd N (20 + 5 * d + j) x) := by
  refine hI.of (upd_n (by omega)) (upd_n (by omega)) (upd_n (by omega)) (upd_n (by omega)) (fun i hi => upd_n (by omega)) (fun b hb => ?_) (fun e he => ?_)
  · have ee : ∀ i, i < 3 → bK (upd N (20 + 5 * d + j) x) b i = bK N b i := fun i hi => upd_n (by omega)
    rw [ee 0 (by omega), ee 1 (by omega), ee 2 (by omega)]
    exact hI.2.2.2.2.1 b hb
  · have key : ∀ i, i < 5 → dK (upd N (20 + 5 * d + j) x) e i = if e = d ∧ i = j then x else dK N e i := by
      intro i hi
      by_cases q : e = d ∧ i = j
      · rw [if_pos q, q.1, q.2]
        exact upd_s
      · rw [if_neg q]
        exact upd_n (by omega)
    obtain ⟨a0, a1, a2, a3, a4⟩ := hI.2.2.2.2.2.1 e he
    rw [key 0 (by omega), key 1 (by omega), key 2 (by omega), key 3 (by omega), key 4 (by omega)]
    refine ⟨?_, ?_, ?_, ?_, ?_⟩
    · split
      · rename_i q; rw [← q.2] at hx; exact hx
      · exact a0
    · split
      · rename_i q; rw [← q.2] at hx; exact hx
      · exact a1
    · split
      · rename_i q; rw [← q.2] at hx; exact hx
      · exact a2
    · split
      · rename_i q; rw [← q.2] at hx; exact hx
      · exact a3
    · split
      · rename_i q; rw [← q.2] at hx; exact hx
      · exact a4
theorem Tq.up {N : Vc} (h : Tq N) {j : Nat} {x : Int32} (hj : j < 70) : Tq (upd N j x) := h.of (fun i hi => upd_n (by omega))
set_option maxRecDepth 20000 in
set_option maxHeartbeats 4000000 in
theorem r_reaches_bad (w : Wt) {k : Nat} (hk : 2 ≤ k) (a b : Int32) (h : Mm)  (hb : ¬ (inR a 0 3 ∧ inR b 0 999)) : Ok w k MX8_reaches [.ref 96, .int a, .int b] h (Rv BADv h) := by
  show Wp w k MX8_reaches _ 0 [some (.ref 96), some (.int a), some (.int b), none] [] h
  refine p_run (pc' := 1) [.iload_n 1] mkX8_reaches (by decide +kernel) rfl rfl ?_
  refine p_callSv (risBranch_ok w (k := k - 1) (by omega) _ _) ksX8_120 (by decide +kernel) (by omega) rfl rfl rfl rfl rfl ?_
  refine p_if_eq (off := 14) 18 (by decide +kernel) (by decide) (fun c4 => ?_) (fun c4 => ?_)
  · refine p_run (pc' := 20) [.ldc 123] mkX8_reaches (by decide +kernel) rfl rfl ?_
    refine p_iret rfl rfl (by decide +kernel) ?_
    exact ⟨rfl, rfl⟩
  · refine p_run (pc' := 12) [.iload_n 2, .iconst 0, .sipush 999] mkX8_reaches (by decide +kernel) rfl rfl ?_
    refine p_callSv (in_ok w (k := k - 1) _ _ _ _) ksX8_75 (by decide +kernel) (by omega) rfl rfl rfl rfl rfl ?_
    refine p_if_ne (off := 6) 21 (by decide +kernel) (by decide) (fun c15 => ?_) (fun c15 => ?_)
    · exact absurd (⟨bI1.mp c4, bI1.mp c15⟩) hb
    · refine p_run (pc' := 20) [.ldc 123] mkX8_reaches (by decide +kernel) rfl rfl ?_
      refine p_iret rfl rfl (by decide +kernel) ?_
      exact ⟨rfl, rfl⟩
set_option maxRecDepth 20000 in
set_option maxHeartbeats 4000000 in
theorem reaches_loop (w : Wt) {k : Nat} (hk : 6 ≤ k) (b : Nat) (hb : b < 4) (v : Int32) (h : Mm) (hI : Iv (h 97)) (hT : Tq (h 97)) : ∀ (m i : Nat), i + m = 201 → ∀ hh : Mm, hh 97 = nsF (h 97) i → Ag [97, 107, 108] (wr h 99 (h 97)) hh → Wp w k MX8_reaches (Rs [99, 107, 108] (oN (fstF (fun n => decide (v ≤ bK (nsF (h 97) n) b 0)) i m)) h) 27 [some (.ref 96), some (.int (nI b)), some (.int v), some (.int (nI i))] [] hh := by
  intro m
  induction m with
  | zero =>
    intro i hi hh e hA
    have hi : i = 201 := by omega
    subst hi
    refine p_run (pc' := 31) [.iload_n 3, .sipush 200] mkX8_reaches (by decide +kernel) rfl rfl ?_
    refine p_icmp_gt (off := 23) 54 (by decide +kernel) (by decide) (fun c1 => ?_) (fun c1 => ?_)
    · refine p_run (pc' := 55) [.aload_n 0] mkX8_reaches (by decide +kernel) rfl rfl ?_
      refine p_callVw (putsBack_ok w (k := k - 1) (by omega) _) kvX8_192 (by decide +kernel) (by decide) rfl (by omega) rfl rfl rfl rfl rfl ?_
      refine p_run (pc' := 62) [.iload_n 3, .sipush 200] mkX8_reaches (by decide +kernel) rfl rfl ?_
      refine p_icmp_le (off := 8) 70 (by decide +kernel) (by decide) (fun c2 => ?_) (fun c2 => ?_)
      · exact False.elim (by revert c2; decide)
      · refine p_run (pc' := 71) [.ldc 195, .goto 4] mkX8_reaches (by decide +kernel) rfl rfl ?_
        refine p_iret rfl rfl (by decide +kernel) ?_
        exact ⟨rfl, back_row (h2 := hh) hA⟩
    · exact False.elim (by revert c1; decide)
  | succ m ih =>
    intro i hi hh e hA
    refine p_run (pc' := 31) [.iload_n 3, .sipush 200] mkX8_reaches (by decide +kernel) rfl rfl ?_
    refine p_icmp_gt (off := 23) 54 (by decide +kernel) (by decide) (fun c1 => ?_) (fun c1 => ?_)
    · exact absurd c1 (by rw [oI]; exact nI_nlt (by omega) (by omega))
    · refine p_run (pc' := 37) [.aload_n 0, .iload_n 1, .iconst 0] mkX8_reaches (by decide +kernel) rfl rfl ?_
      refine p_callVv (at_ok w (k := k - 1) b 0 _ (by omega)) kvX8_79 (by decide +kernel) (by decide) rfl (by omega) rfl rfl rfl rfl rfl ?_
      refine p_run (pc' := 41) [.iload_n 2] mkX8_reaches (by decide +kernel) rfl rfl ?_
      refine p_icmp_ge (off := 13) 54 (by decide +kernel) (by decide) (fun c3 => ?_) (fun c3 => ?_)
      · have hp : (fun n => decide (v ≤ bK (nsF (h 97) n) b 0)) i = true := by simp only [decide_eq_true_eq]; rw [← e]; exact c3
        refine p_run (pc' := 55) [.aload_n 0] mkX8_reaches (by decide +kernel) rfl rfl ?_
        refine p_callVw (putsBack_ok w (k := k - 1) (by omega) _) kvX8_192 (by decide +kernel) (by decide) rfl (by omega) rfl rfl rfl rfl rfl ?_
        refine p_run (pc' := 62) [.iload_n 3, .sipush 200] mkX8_reaches (by decide +kernel) rfl rfl ?_
        refine p_icmp_le (off := 8) 70 (by decide +kernel) (by decide) (fun c4 => ?_) (fun c4 => ?_)
        · refine p_run (pc' := 71) [.iload_n 3] mkX8_reaches (by decide +kernel) rfl rfl ?_
          refine p_iret rfl rfl (by decide +kernel) ?_
          exact ⟨by rw [fstF, if_pos hp]; rfl, back_row (h2 := hh) hA⟩
        · exact absurd (by rw [oI]; exact nI_le (by omega) (by omega)) c4
      · have hp : ¬ (fun n => decide (v ≤ bK (nsF (h 97) n) b 0)) i = true := by simp only [decide_eq_true_eq]; rw [← e]; exact (fun q => c3 q)
        refine p_run (pc' := 45) [.aload_n 0] mkX8_reaches (by decide +kernel) rfl rfl ?_
        refine p_callVo (night_ok w (k := k - 1) (by omega) hh (by rw [e]; exact nsF_Iv hI i) (by rw [e]; exact hT.of (fun j hj => nsF_out hI (by omega) i))) (fun _ _ q => q.1) kvX8_170 (by decide +kernel) (by decide) rfl (by omega) rfl rfl rfl rfl rfl (fun h' hq => ?_)
        obtain ⟨-, e2, hA2⟩ := hq
        refine p_run (pc' := 27) [.iinc 3 1, .goto (-24)] mkX8_reaches (by decide +kernel) rfl rfl ?_
        rw [fstF, if_neg hp]
        refine Wp.eqL ?_ (ih (i + 1) (by omega) _ ?_ (hA.tr hA2))
        · rw [show nI i + Int32.ofInt 1 = nI (i + 1) by simp only [oI, nI_add]]
        · rw [e2, e, nsF]
set_option maxRecDepth 20000 in
set_option maxHeartbeats 4000000 in
theorem r_reaches (w : Wt) {k : Nat} (hk : 6 ≤ k) (b : Nat) (hb : b < 4) (v : Int32) (hv : inR v 0 999) (h : Mm) (hI : Iv (h 97)) (hT : Tq (h 97)) : Ok w k MX8_reaches [.ref 96, .int (nI b), .int v] h (Rs [99, 107, 108] (oN (fstF (fun n => decide (v ≤ bK (nsF (h 97) n) b 0)) 0 201)) h) := by
  show Wp w k MX8_reaches _ 0 [some (.ref 96), some (.int (nI b)), some (.int v), none] [] h
  refine p_run (pc' := 1) [.iload_n 1] mkX8_reaches (by decide +kernel) rfl rfl ?_
  refine p_callSv (isBranch_t w (k := k - 1) (by omega) _ _ (in_nI (lo := 0) (hi := 3) (by omega) (Nat.le_of_lt_succ hb) (by omega))) ksX8_120 (by decide +kernel) (by omega) rfl rfl rfl rfl rfl ?_
  refine p_if_eq (off := 14) 18 (by decide +kernel) (by decide) (fun c4 => ?_) (fun c4 => ?_)
  · exact False.elim (by revert c4; decide)
  · refine p_run (pc' := 12) [.iload_n 2, .iconst 0, .sipush 999] mkX8_reaches (by decide +kernel) rfl rfl ?_
    refine p_callSv (in_t w (k := k - 1) _ _ _ _ (hv)) ksX8_75 (by decide +kernel) (by omega) rfl rfl rfl rfl rfl ?_
    refine p_if_ne (off := 6) 21 (by decide +kernel) (by decide) (fun c15 => ?_) (fun c15 => ?_)
    · refine p_run (pc' := 22) [.aload_n 0] mkX8_reaches (by decide +kernel) rfl rfl ?_
      refine p_callVw (thinks_ok w (k := k - 1) (by omega) h) kvX8_189 (by decide +kernel) (by decide) rfl (by omega) rfl rfl rfl rfl rfl ?_
      refine p_run (pc' := 27) [.iconst 0, .istore_n 3] mkX8_reaches (by decide +kernel) rfl rfl ?_
      exact reaches_loop w (by omega) b hb v h hI hT 201 0 (by omega) _ (wrN (by decide)) Ag.rf
    · exact False.elim (by revert c15; decide)
set_option maxRecDepth 20000 in
set_option maxHeartbeats 4000000 in
theorem r_leaves_bad (w : Wt) {k : Nat} (hk : 2 ≤ k) (a : Int32) (h : Mm)  (hb : ¬ (isD (h 97) a)) : Ok w k MX8_leaves [.ref 96, .int a] h (Rv BADv h) := by
  show Wp w k MX8_leaves _ 0 [some (.ref 96), some (.int a), none, none] [] h
  refine p_run (pc' := 2) [.aload_n 0, .iload_n 1] mkX8_leaves (by decide +kernel) rfl rfl ?_
  refine p_callVv (risDigger_ok w (k := k - 1) (by omega) _ _) kvX8_129 (by decide +kernel) (by decide) rfl (by omega) rfl rfl rfl rfl rfl ?_
  refine p_if_ne (off := 6) 11 (by decide +kernel) (by decide) (fun c5 => ?_) (fun c5 => ?_)
  · exact absurd (bI1.mp c5) hb
  · refine p_run (pc' := 10) [.ldc 123] mkX8_leaves (by decide +kernel) rfl rfl ?_
    refine p_iret rfl rfl (by decide +kernel) ?_
    exact ⟨rfl, rfl⟩
set_option maxRecDepth 20000 in
set_option maxHeartbeats 4000000 in
theorem leaves_loop (w : Wt) {k : Nat} (hk : 6 ≤ k) (d : Nat) (hd : d < 10) (h : Mm) (hI : Iv (h 97)) (hT : Tq (h 97)) : ∀ (m i : Nat), i + m = 201 → ∀ hh : Mm, hh 97 = nsF (h 97) i → Ag [97, 107, 108] (wr h 99 (h 97)) hh → Wp w k MX8_leaves (Rs [99, 107, 108] (oN (fstF (fun n => decide (dK (nsF (h 97) n) d 3 ≠ dK (h 97) d 3)) i m)) h) 24 [some (.ref 96), some (.int (nI d)), some (.int (dK (h 97) d 3)), some (.int (nI i))] [] hh := by
  intro m
  induction m with
  | zero =>
    intro i hi hh e hA
    have hi : i = 201 := by omega
    subst hi
    refine p_run (pc' := 28) [.iload_n 3, .sipush 200] mkX8_leaves (by decide +kernel) rfl rfl ?_
    refine p_icmp_gt (off := 23) 51 (by decide +kernel) (by decide) (fun c1 => ?_) (fun c1 => ?_)
    · refine p_run (pc' := 52) [.aload_n 0] mkX8_leaves (by decide +kernel) rfl rfl ?_
      refine p_callVw (putsBack_ok w (k := k - 1) (by omega) _) kvX8_192 (by decide +kernel) (by decide) rfl (by omega) rfl rfl rfl rfl rfl ?_
      refine p_run (pc' := 59) [.iload_n 3, .sipush 200] mkX8_leaves (by decide +kernel) rfl rfl ?_
      refine p_icmp_le (off := 8) 67 (by decide +kernel) (by decide) (fun c2 => ?_) (fun c2 => ?_)
      · exact False.elim (by revert c2; decide)
      · refine p_run (pc' := 68) [.ldc 195, .goto 4] mkX8_leaves (by decide +kernel) rfl rfl ?_
        refine p_iret rfl rfl (by decide +kernel) ?_
        exact ⟨rfl, back_row (h2 := hh) hA⟩
    · exact False.elim (by revert c1; decide)
  | succ m ih =>
    intro i hi hh e hA
    refine p_run (pc' := 28) [.iload_n 3, .sipush 200] mkX8_leaves (by decide +kernel) rfl rfl ?_
    refine p_icmp_gt (off := 23) 51 (by decide +kernel) (by decide) (fun c1 => ?_) (fun c1 => ?_)
    · exact absurd c1 (by rw [oI]; exact nI_nlt (by omega) (by omega))
    · refine p_run (pc' := 34) [.aload_n 0, .iload_n 1, .iconst 3] mkX8_leaves (by decide +kernel) rfl rfl ?_
      refine p_callVv (of_ok w (k := k - 1) d 3 _ (by omega)) kvX8_83 (by decide +kernel) (by decide) rfl (by omega) rfl rfl rfl rfl rfl ?_
      refine p_run (pc' := 38) [.iload_n 2] mkX8_leaves (by decide +kernel) rfl rfl ?_
      refine p_icmp_ne (off := 13) 51 (by decide +kernel) (by decide) (fun c3 => ?_) (fun c3 => ?_)
      · have hp : (fun n => decide (dK (nsF (h 97) n) d 3 ≠ dK (h 97) d 3)) i = true := by simp only [decide_eq_true_eq]; rw [← e]; exact c3
        refine p_run (pc' := 52) [.aload_n 0] mkX8_leaves (by decide +kernel) rfl rfl ?_
        refine p_callVw (putsBack_ok w (k := k - 1) (by omega) _) kvX8_192 (by decide +kernel) (by decide) rfl (by omega) rfl rfl rfl rfl rfl ?_
        refine p_run (pc' := 59) [.iload_n 3, .sipush 200] mkX8_leaves (by decide +kernel) rfl rfl ?_
        refine p_icmp_le (off := 8) 67 (by decide +kernel) (by decide) (fun c4 => ?_) (fun c4 => ?_)
        · refine p_run (pc' := 68) [.iload_n 3] mkX8_leaves (by decide +kernel) rfl rfl ?_
          refine p_iret rfl rfl (by decide +kernel) ?_
          exact ⟨by rw [fstF, if_pos hp]; rfl, back_row (h2 := hh) hA⟩
        · exact absurd (by rw [oI]; exact nI_le (by omega) (by omega)) c4
      · have hp : ¬ (fun n => decide (dK (nsF (h 97) n) d 3 ≠ dK (h 97) d 3)) i = true := by simp only [decide_eq_true_eq]; rw [← e]; exact (fun q => q c3)
        refine p_run (pc' := 42) [.aload_n 0] mkX8_leaves (by decide +kernel) rfl rfl ?_
        refine p_callVo (night_ok w (k := k - 1) (by omega) hh (by rw [e]; exact nsF_Iv hI i) (by rw [e]; exact hT.of (fun j hj => nsF_out hI (by omega) i))) (fun _ _ q => q.1) kvX8_170 (by decide +kernel) (by decide) rfl (by omega) rfl rfl rfl rfl rfl (fun h' hq => ?_)
        obtain ⟨-, e2, hA2⟩ := hq
        refine p_run (pc' := 24) [.iinc 3 1, .goto (-24)] mkX8_leaves (by decide +kernel) rfl rfl ?_
        rw [fstF, if_neg hp]
        refine Wp.eqL ?_ (ih (i + 1) (by omega) _ ?_ (hA.tr hA2))
        · rw [show nI i + Int32.ofInt 1 = nI (i + 1) by simp only [oI, nI_add]]
        · rw [e2, e, nsF]
set_option maxRecDepth 20000 in
set_option maxHeartbeats 4000000 in
theorem r_leaves (w : Wt) {k : Nat} (hk : 6 ≤ k) (d : Nat) (h : Mm) (hI : Iv (h 97)) (hT : Tq (h 97)) (hd : d < nd (h 97)) : Ok w k MX8_leaves [.ref 96, .int (nI d)] h (Rs [99, 107, 108] (oN (fstF (fun n => decide (dK (nsF (h 97) n) d 3 ≠ dK (h 97) d 3)) 0 201)) h) := by
  show Wp w k MX8_leaves _ 0 [some (.ref 96), some (.int (nI d)), none, none] [] h
  obtain ⟨en, hn10⟩ := hI.nd
  refine p_run (pc' := 2) [.aload_n 0, .iload_n 1] mkX8_leaves (by decide +kernel) rfl rfl ?_
  refine p_callVv (isDigger_t w (k := k - 1) (by omega) _ _ (isD_nI en hd hn10)) kvX8_129 (by decide +kernel) (by decide) rfl (by omega) rfl rfl rfl rfl rfl ?_
  refine p_if_ne (off := 6) 11 (by decide +kernel) (by decide) (fun c5 => ?_) (fun c5 => ?_)
  · refine p_run (pc' := 12) [.aload_n 0] mkX8_leaves (by decide +kernel) rfl rfl ?_
    refine p_callVw (thinks_ok w (k := k - 1) (by omega) h) kvX8_189 (by decide +kernel) (by decide) rfl (by omega) rfl rfl rfl rfl rfl ?_
    refine p_run (pc' := 18) [.aload_n 0, .iload_n 1, .iconst 3] mkX8_leaves (by decide +kernel) rfl rfl ?_
    refine p_callVv (of_ok w (k := k - 1) d 3 _ (by omega)) kvX8_83 (by decide +kernel) (by decide) rfl (by omega) rfl rfl rfl rfl rfl ?_
    rw [wrN (by decide)]
    refine p_run (pc' := 24) [.istore_n 2, .iconst 0, .istore_n 3] mkX8_leaves (by decide +kernel) rfl rfl ?_
    exact leaves_loop w (by omega) d (by omega) h hI hT 201 0 (by omega) _ (wrN (by decide)) Ag.rf
  · exact False.elim (by revert c5; decide)
set_option maxRecDepth 20000 in
set_option maxHeartbeats 4000000 in
theorem r_nights_bad (w : Wt) {k : Nat} (hk : 2 ≤ k) (a : Int32) (h : Mm)  (hb : ¬ (inR a 1 100)) : Ok w k MX8_nights [.ref 96, .int a] h (Rv BADv h) := by
  show Wp w k MX8_nights _ 0 [some (.ref 96), some (.int a), none] [] h
  refine p_run (pc' := 4) [.iload_n 1, .iconst 1, .bipush 100] mkX8_nights (by decide +kernel) rfl rfl ?_
  refine p_callSv (in_ok w (k := k - 1) _ _ _ _) ksX8_75 (by decide +kernel) (by omega) rfl rfl rfl rfl rfl ?_
  refine p_if_ne (off := 6) 13 (by decide +kernel) (by decide) (fun c7 => ?_) (fun c7 => ?_)
  · exact absurd (bI1.mp c7) hb
  · refine p_run (pc' := 12) [.ldc 123] mkX8_nights (by decide +kernel) rfl rfl ?_
    refine p_iret rfl rfl (by decide +kernel) ?_
    exact ⟨rfl, rfl⟩
theorem clF_sub {a b n : Nat} (ha : b ≤ a) (ha2 : a < 2 ^ 31) (hn : n < 2 ^ 31) : clF (nI a - nI b) (nI 0) (nI n) = nI (min (a - b) n) := by rw [nIs ha, clF_nI (by omega) hn]
set_option maxRecDepth 20000 in
set_option maxHeartbeats 4000000 in
theorem r_nights (w : Wt) {k : Nat} (hk : 7 ≤ k) (n : Nat) (hn : 1 ≤ n ∧ n ≤ 100) (h : Mm) (hI : Iv (h 97)) (hT : Tq (h 97)) (hq : In (h 97 2) 9999) : Ok w k MX8_nights [.ref 96, .int (nI n)] h (fun r h' => r = some (.int (hlF (nsF (h 97) (min (9999 - nN (h 97 2)) n)) - hlF (h 97))) ∧ h' 97 = nsF (h 97) (min (9999 - nN (h 97 2)) n) ∧ Ag [97, 107, 108] h h') := by
  show Wp w k MX8_nights _ 0 [some (.ref 96), some (.int (nI n)), none] [] h
  refine p_run (pc' := 4) [.iload_n 1, .iconst 1, .bipush 100] mkX8_nights (by decide +kernel) rfl rfl ?_
  refine p_callSv (in_t w (k := k - 1) _ _ _ _ (in_nI (lo := 1) (hi := 100) hn.1 hn.2 (by omega))) ksX8_75 (by decide +kernel) (by omega) rfl rfl rfl rfl rfl ?_
  refine p_if_ne (off := 6) 13 (by decide +kernel) (by decide) (fun c7 => ?_) (fun c7 => ?_)
  · refine p_run (pc' := 15) [.aload_n 0, .iconst 4] mkX8_nights (by decide +kernel) rfl rfl ?_
    refine p_callVv (sums_ok w (k := k - 1) (by omega) 4 (by omega) h hI) kvX8_173 (by decide +kernel) (by decide) rfl (by omega) rfl rfl rfl rfl rfl ?_
    refine p_run (pc' := 28) [.istore_n 2, .aload_n 0, .sipush 9999, .aload_n 0, .getfield 9, .iconst 2] mkX8_nights (by decide +kernel) rfl rfl ?_
    refine p_iald (2) (by decide +kernel) rfl rfl (by simp only [oI]) (by omega) ?_
    have hq2 := hq.2
    refine Wp.eqS (st' := [.int (nI (nN (h 97 2))), .int (Int32.ofInt 9999), .ref 96]) (by rw [← hq.1]) ?_
    refine p_run (pc' := 32) [.isub, .iconst 0, .iload_n 1] mkX8_nights (by decide +kernel) rfl rfl ?_
    refine p_callSv (rwithin_ok w (k := k - 1) _ _ _ _) ksX8_102 (by decide +kernel) (by omega) rfl rfl rfl rfl rfl ?_
    rw [oI, oI, clF_sub (by omega) (by omega) (by omega)]
    refine p_callVo (goesOn_ok w (k := k - 1) (by omega) (min (9999 - nN (h 97 2)) n) (by omega) h hI hT) (fun _ _ q => q.1) kvX8_176 (by decide +kernel) (by decide) rfl (by omega) rfl rfl rfl rfl rfl (fun h' hq => ?_)
    obtain ⟨-, e1, hA1⟩ := hq
    have e1 : h' 97 = nsF (h 97) (min (9999 - nN (h 97 2)) n) := e1
    refine p_run (pc' := 40) [.aload_n 0, .iconst 4] mkX8_nights (by decide +kernel) rfl rfl ?_
    refine p_callVv (sums_ok w (k := k - 1) (by omega) 4 (by omega) h' (by rw [e1]; exact nsF_Iv hI _)) kvX8_173 (by decide +kernel) (by decide) rfl (by omega) rfl rfl rfl rfl rfl ?_
    refine p_run (pc' := 45) [.iload_n 2, .isub] mkX8_nights (by decide +kernel) rfl rfl ?_
    refine p_iret rfl rfl (by decide +kernel) ?_
    exact ⟨by rw [e1]; rfl, e1, hA1⟩
  · exact False.elim (by revert c7; decide)
def belF (N : Vc) (j : Nat) : Int32 := if j < 2 then N (5 + j) else if j = 2 then hlF N else if j = 3 then sumF (fun d => dK N d 2) (nd N) else if j = 4 then nI (setF (peB N) 4) else nI (frF N 4)
set_option maxRecDepth 20000 in
set_option maxHeartbeats 4000000 in
theorem r_below (w : Wt) {k : Nat} (hk : 3 ≤ k) (a : Int32) (h : Mm) (hI : Iv (h 97)) : Ok w k MX8_below [.ref 96, .int a] h (Rv (@ite _ (inR a 0 5) (Classical.propDecidable _) (belF (h 97) (nN a)) BADv) h) := by
  show Wp w k MX8_below _ 0 [some (.ref 96), some (.int a)] [] h
  refine p_run (pc' := 1) [.iload_n 1] mkX8_below (by decide +kernel) rfl rfl ?_
  refine p_table (dflt := 70) (lo := 0) (hi := 5) (offs := #[39, 39, 48, 54, 60, 65]) (len := 39) (by decide +kernel) (by decide) (fun j hj hx => ?_) (fun hx => ?_)
  · match j, hj, hx with
    | 0, _, hx =>
      have hx : a = Int32.ofInt (0) := hx
      refine ⟨39, 40, rfl, rfl, ?_⟩
      refine p_run (pc' := 47) [.aload_n 0, .getfield 9, .iconst 5, .iload_n 1, .iadd] mkX8_below (by decide +kernel) rfl rfl ?_
      refine p_iald (5 + 0) (by decide +kernel) rfl rfl (by rw [hx]; rfl) (by omega) ?_
      refine p_iret rfl rfl (by decide +kernel) ?_
      exact ⟨by rw [if_pos (by rw [hx]; exact ⟨by decide, by decide⟩), hx]; rfl, rfl⟩
    | 1, _, hx =>
      have hx : a = Int32.ofInt (1) := hx
      refine ⟨39, 40, rfl, rfl, ?_⟩
      refine p_run (pc' := 47) [.aload_n 0, .getfield 9, .iconst 5, .iload_n 1, .iadd] mkX8_below (by decide +kernel) rfl rfl ?_
      refine p_iald (5 + 1) (by decide +kernel) rfl rfl (by rw [hx]; rfl) (by omega) ?_
      refine p_iret rfl rfl (by decide +kernel) ?_
      exact ⟨by rw [if_pos (by rw [hx]; exact ⟨by decide, by decide⟩), hx]; rfl, rfl⟩
    | 2, _, hx =>
      have hx : a = Int32.ofInt (2) := hx
      refine ⟨48, 49, rfl, rfl, ?_⟩
      refine p_run (pc' := 51) [.aload_n 0, .iconst 4] mkX8_below (by decide +kernel) rfl rfl ?_
      refine p_callVv (sums_ok w (k := k - 1) (by omega) 4 (by omega) _ hI) kvX8_173 (by decide +kernel) (by decide) rfl (by omega) rfl rfl rfl rfl rfl ?_
      refine p_iret rfl rfl (by decide +kernel) ?_
      exact ⟨by rw [if_pos (by rw [hx]; exact ⟨by decide, by decide⟩), hx]; rfl, rfl⟩
    | 3, _, hx =>
      have hx : a = Int32.ofInt (3) := hx
      refine ⟨54, 55, rfl, rfl, ?_⟩
      refine p_run (pc' := 57) [.aload_n 0, .iconst 2] mkX8_below (by decide +kernel) rfl rfl ?_
      refine p_callVv (sums_ok w (k := k - 1) (by omega) 2 (by omega) _ hI) kvX8_173 (by decide +kernel) (by decide) rfl (by omega) rfl rfl rfl rfl rfl ?_
      refine p_iret rfl rfl (by decide +kernel) ?_
      exact ⟨by rw [if_pos (by rw [hx]; exact ⟨by decide, by decide⟩), hx]; rfl, rfl⟩
    | 4, _, hx =>
      have hx : a = Int32.ofInt (4) := hx
      refine ⟨60, 61, rfl, rfl, ?_⟩
      refine p_run (pc' := 62) [.aload_n 0] mkX8_below (by decide +kernel) rfl rfl ?_
      refine p_callVv (peopled_ok w (k := k - 1) (by omega) h hI) kvX8_179 (by decide +kernel) (by decide) rfl (by omega) rfl rfl rfl rfl rfl ?_
      refine p_iret rfl rfl (by decide +kernel) ?_
      exact ⟨by rw [if_pos (by rw [hx]; exact ⟨by decide, by decide⟩), hx]; rfl, rfl⟩
    | 5, _, hx =>
      have hx : a = Int32.ofInt (5) := hx
      refine ⟨65, 66, rfl, rfl, ?_⟩
      refine p_run (pc' := 67) [.aload_n 0] mkX8_below (by decide +kernel) rfl rfl ?_
      refine p_callVv (front_ok w (k := k - 1) (by omega) h) kvX8_182 (by decide +kernel) (by decide) rfl (by omega) rfl rfl rfl rfl rfl ?_
      refine p_iret rfl rfl (by decide +kernel) ?_
      exact ⟨by rw [if_pos (by rw [hx]; exact ⟨by decide, by decide⟩), hx]; rfl, rfl⟩
    | j + 6, hj, _ => exact absurd hj (by simp)
  · refine ⟨71, rfl, ?_⟩
    refine p_run (pc' := 73) [.ldc 123] mkX8_below (by decide +kernel) rfl rfl ?_
    refine p_iret rfl rfl (by decide +kernel) ?_
    exact ⟨by rw [if_neg (fun q => by have h1 := Int32.le_iff_toInt_le.mp q.1; have h2 := Int32.le_iff_toInt_le.mp q.2; rw [nI_toInt (by omega)] at h1 h2; omega)], rfl⟩
