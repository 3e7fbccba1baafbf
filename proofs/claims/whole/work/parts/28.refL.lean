/-! the reference: whom to send, light, wax -/
def poF (N : Vc) (m : Nat) : Nat → Vc
  | 0 => N
  | i + 1 => if m / 2 ^ i % 2 = 1 then poF N m i else upd (poF N m i) (20 + 5 * i + 2) (nI 0)
theorem poF_Iv {N : Vc} (hI : Iv N) (m : Nat) : ∀ i, i ≤ 10 → Iv (poF N m i)
  | 0, _ => hI
  | i + 1, h => by
    have ih := poF_Iv hI m i (by omega)
    rw [poF]
    split
    · exact ih
    · exact ih.dk (j := 2) (by omega) (by omega) (In_nI (Nat.zero_le _) (by decide))
theorem poF_out {N : Vc} {m j : Nat} : ∀ (i : Nat), (∀ d, d < i → j ≠ 20 + 5 * d + 2) → poF N m i j = N j
  | 0, _ => rfl
  | i + 1, h => by
    have ih := poF_out (N := N) (m := m) (j := j) i (fun d hd => h d (by omega))
    rw [poF]
    split
    · exact ih
    · rw [upd_n (h i (by omega)), ih]
def liF (p : Nat → Bool) : Nat → Option Nat
  | 0 => none
  | s + 1 => match liF p s with
    | none => if p s = true then some s else none
    | some b => if pcF s < pcF b ∧ p s = true then some s else some b
theorem liF_lt {p : Nat → Bool} : ∀ {n b : Nat}, liF p n = some b → b < n
  | 0, b, h => by simp [liF] at h
  | n + 1, b, h => by
    rw [liF] at h
    cases hl : liF p n with
    | none =>
      rw [hl] at h
      simp only at h
      split at h
      · cases h; omega
      · cases h
    | some c =>
      rw [hl] at h
      simp only at h
      have := liF_lt hl
      split at h
      · cases h; omega
      · cases h; omega
noncomputable def liP (N : Vc) (n : Nat) (v : Int32) (s : Nat) : Bool := @decide (v ≤ hlF (nsF (poF N s (nd N)) n)) (Classical.propDecidable _)
def bsF (f : Nat → Int32) : Nat → Nat × Int32
  | 0 => (0, Int32.ofInt (-1))
  | i + 1 => if (bsF f i).2 < f i then (i, f i) else bsF f i
theorem nd_upd {N : Vc} {j : Nat} {x : Int32} (h : j ≠ 1) : nd (upd N j x) = nd N := by unfold nd; rw [upd_n (Ne.symm h)]
theorem bit_cases (m i : Nat) : m / 2 ^ i % 2 = 0 ∨ m / 2 ^ i % 2 = 1 := by omega
set_option maxRecDepth 20000 in
set_option maxHeartbeats 4000000 in
theorem earthOn_ok (w : Wt) {k : Nat} (hk : 7 ≤ k) (d n : Nat) (hd : d < 10) (hn : n ≤ 100) (h : Mm) (hI : Iv (h 97)) (hT : Tq (h 97)) : Ok w k MX8_earthOn [.ref 96, .int (nI d), .int (nI n)] h (fun r h' => r = some (.int (dK (nsF (h 97) n) d 4)) ∧ h' 97 = h 99 ∧ Ag [97, 107, 108] h h') := by
  show Wp w k MX8_earthOn _ 0 [some (.ref 96), some (.int (nI d)), some (.int (nI n)), none] [] h
  refine p_run (pc' := 2) [.aload_n 0, .iload_n 2] mkX8_earthOn (by decide +kernel) rfl rfl ?_
  refine p_callVo (goesOn_ok w (k := k - 1) (by omega) n (by omega) h hI hT) (fun _ _ q => q.1) kvX8_176 (by decide +kernel) (by decide) rfl (by omega) rfl rfl rfl rfl rfl (fun h' hq => ?_)
  obtain ⟨-, e1, hA1⟩ := hq
  have e1 : h' 97 = nsF (h 97) n := e1
  refine p_run (pc' := 8) [.aload_n 0, .iload_n 1, .iconst 4] mkX8_earthOn (by decide +kernel) rfl rfl ?_
  refine p_callVv (of_ok w (k := k - 1) d 4 _ (by omega)) kvX8_83 (by decide +kernel) (by decide) rfl (by omega) rfl rfl rfl rfl rfl ?_
  refine p_run (pc' := 13) [.istore_n 3, .aload_n 0] mkX8_earthOn (by decide +kernel) rfl rfl ?_
  refine p_callVw (putsBack_ok w (k := k - 1) (by omega) _) kvX8_192 (by decide +kernel) (by decide) rfl (by omega) rfl rfl rfl rfl rfl ?_
  refine p_run (pc' := 17) [.iload_n 3] mkX8_earthOn (by decide +kernel) rfl rfl ?_
  refine p_iret rfl rfl (by decide +kernel) ?_
  exact ⟨by rw [e1]; rfl, by rw [wrS, hA1 99 (by decide)], fun a ha => by rw [wrN (fun e => ha (by rw [e]; decide))]; exact hA1 a ha⟩
set_option maxRecDepth 20000 in
set_option maxHeartbeats 4000000 in
theorem r_wax_bad (w : Wt) {k : Nat} (hk : 2 ≤ k) (a b c : Int32) (h : Mm)  (hb : ¬ (isD (h 97) a ∧ inR b 0 30 ∧ inR c 0 9999)) : Ok w k MX8_wax [.ref 96, .int a, .int b, .int c] h (Rv BADv h) := by
  show Wp w k MX8_wax _ 0 [some (.ref 96), some (.int a), some (.int b), some (.int c), none] [] h
  refine p_run (pc' := 2) [.aload_n 0, .iload_n 1] mkX8_wax (by decide +kernel) rfl rfl ?_
  refine p_callVv (risDigger_ok w (k := k - 1) (by omega) _ _) kvX8_129 (by decide +kernel) (by decide) rfl (by omega) rfl rfl rfl rfl rfl ?_
  refine p_if_eq (off := 24) 29 (by decide +kernel) (by decide) (fun c5 => ?_) (fun c5 => ?_)
  · refine p_run (pc' := 31) [.ldc 123] mkX8_wax (by decide +kernel) rfl rfl ?_
    refine p_iret rfl rfl (by decide +kernel) ?_
    exact ⟨rfl, rfl⟩
  · refine p_run (pc' := 12) [.iload_n 2, .iconst 0, .bipush 30] mkX8_wax (by decide +kernel) rfl rfl ?_
    refine p_callSv (in_ok w (k := k - 1) _ _ _ _) ksX8_75 (by decide +kernel) (by omega) rfl rfl rfl rfl rfl ?_
    refine p_if_eq (off := 14) 29 (by decide +kernel) (by decide) (fun c15 => ?_) (fun c15 => ?_)
    · refine p_run (pc' := 31) [.ldc 123] mkX8_wax (by decide +kernel) rfl rfl ?_
      refine p_iret rfl rfl (by decide +kernel) ?_
      exact ⟨rfl, rfl⟩
    · refine p_run (pc' := 23) [.iload_n 3, .iconst 0, .sipush 9999] mkX8_wax (by decide +kernel) rfl rfl ?_
      refine p_callSv (in_ok w (k := k - 1) _ _ _ _) ksX8_75 (by decide +kernel) (by omega) rfl rfl rfl rfl rfl ?_
      refine p_if_ne (off := 6) 32 (by decide +kernel) (by decide) (fun c26 => ?_) (fun c26 => ?_)
      · exact absurd (⟨bI1.mp c5, bI1.mp c15, bI1.mp c26⟩) hb
      · refine p_run (pc' := 31) [.ldc 123] mkX8_wax (by decide +kernel) rfl rfl ?_
        refine p_iret rfl rfl (by decide +kernel) ?_
        exact ⟨rfl, rfl⟩
set_option maxRecDepth 20000 in
set_option maxHeartbeats 4000000 in
theorem wax_loop (w : Wt) {k : Nat} (hk : 8 ≤ k) (d n : Nat) (hd : d < 10) (hn : n ≤ 30) (v : Int32) (h : Mm) (hI : Iv (h 97)) (hT : Tq (h 97)) : ∀ (m i : Nat), i + m = 100 → ∀ hh : Mm, hh 97 = h 97 → hh 99 = h 97 → Ag [99, 107, 108] h hh → Wp w k MX8_wax (fun r h' => r = some (.int (oN (fstF (fun c => decide (v ≤ dK (nsF (upd (h 97) (20 + 5 * d + 2) (nI c)) n) d 4)) i m))) ∧ Ag [99, 107, 108] h h') 39 [some (.ref 96), some (.int (nI d)), some (.int (nI n)), some (.int v), some (.int (nI i))] [] hh := by
  intro m
  induction m with
  | zero =>
    intro i hi hh e e9 hA
    have hi : i = 100 := by omega
    subst hi
    refine p_run (pc' := 43) [.iload 4, .bipush 99] mkX8_wax (by decide +kernel) rfl rfl ?_
    refine p_icmp_gt (off := 30) 73 (by decide +kernel) (by decide) (fun c1 => ?_) (fun c1 => ?_)
    · refine p_run (pc' := 75) [.ldc 195] mkX8_wax (by decide +kernel) rfl rfl ?_
      refine p_iret rfl rfl (by decide +kernel) ?_
      exact ⟨rfl, hA⟩
    · exact False.elim (by revert c1; decide)
  | succ m ih =>
    intro i hi hh e e9 hA
    refine p_run (pc' := 43) [.iload 4, .bipush 99] mkX8_wax (by decide +kernel) rfl rfl ?_
    refine p_icmp_gt (off := 30) 73 (by decide +kernel) (by decide) (fun c1 => ?_) (fun c1 => ?_)
    · exact absurd c1 (by rw [oI]; exact nI_nlt (by omega) (by omega))
    · refine p_run (pc' := 51) [.aload_n 0, .iload_n 1, .iconst 2, .iload 4] mkX8_wax (by decide +kernel) rfl rfl ?_
      refine p_callVw (put_ok w (k := k - 1) d 2 _ _ (by omega)) kvX8_116 (by decide +kernel) (by decide) rfl (by omega) rfl rfl rfl rfl rfl ?_
      have e2 : up hh 97 (20 + 5 * d + 2) (nI i) 97 = upd (h 97) (20 + 5 * d + 2) (nI i) := by rw [upS, e]
      refine p_run (pc' := 57) [.aload_n 0, .iload_n 1, .iload_n 2] mkX8_wax (by decide +kernel) rfl rfl ?_
      refine p_callVi (earthOn_ok w (k := k - 1) (by omega) d n hd (by omega) _ (by rw [e2]; exact hI.dk (j := 2) hd (by omega) (In_nI (by show i ≤ 99; omega) (by decide))) (by rw [e2]; exact hT.up (by omega))) (fun _ _ q => q.1) kvX8_199 (by decide +kernel) (by decide) rfl (by omega) rfl rfl rfl rfl rfl (fun h' hq => ?_)
      obtain ⟨-, e3, hA3⟩ := hq
      rw [e2]
      rw [upN (by decide), e9] at e3
      have hA4 : Ag [99, 107, 108] h h' := fun a ha => by
        by_cases q : a = 97
        · rw [q, e3]
        · rw [hA3 a (by simp at ha ⊢; omega), upN q]; exact hA a ha
      have e9' : h' 99 = h 97 := by rw [hA3 99 (by decide), upN (by decide), e9]
      refine p_run (pc' := 61) [.iload_n 3] mkX8_wax (by decide +kernel) rfl rfl ?_
      refine p_icmp_lt (off := 6) 67 (by decide +kernel) (by decide) (fun c2 => ?_) (fun c2 => ?_)
      · refine p_run (pc' := 39) [.iinc 4 1, .goto (-31)] mkX8_wax (by decide +kernel) rfl rfl ?_
        rw [fstF, if_neg (by simp only [decide_eq_true_eq]; exact Int32.not_le.mpr c2)]
        refine Wp.eqL ?_ (ih (i + 1) (by omega) _ e3 e9' hA4)
        rw [show nI i + Int32.ofInt 1 = nI (i + 1) by simp only [oI, nI_add]]
      · refine p_run (pc' := 66) [.iload 4] mkX8_wax (by decide +kernel) rfl rfl ?_
        refine p_iret rfl rfl (by decide +kernel) ?_
        exact ⟨by rw [fstF, if_pos (by simp only [decide_eq_true_eq]; exact Int32.not_lt.mp c2)]; rfl, hA4⟩
set_option maxRecDepth 20000 in
set_option maxHeartbeats 4000000 in
theorem r_wax (w : Wt) {k : Nat} (hk : 8 ≤ k) (d n : Nat) (v : Int32) (h : Mm) (hI : Iv (h 97)) (hT : Tq (h 97)) (hd : d < nd (h 97)) (hn : n ≤ 30) (hv : inR v 0 9999) : Ok w k MX8_wax [.ref 96, .int (nI d), .int (nI n), .int v] h (Rs [99, 107, 108] (oN (fstF (fun c => decide (v ≤ dK (nsF (upd (h 97) (20 + 5 * d + 2) (nI c)) n) d 4)) 0 100)) h) := by
  show Wp w k MX8_wax _ 0 [some (.ref 96), some (.int (nI d)), some (.int (nI n)), some (.int v), none] [] h
  obtain ⟨en, hn10⟩ := hI.nd
  refine p_run (pc' := 2) [.aload_n 0, .iload_n 1] mkX8_wax (by decide +kernel) rfl rfl ?_
  refine p_callVv (isDigger_t w (k := k - 1) (by omega) _ _ (isD_nI en hd hn10)) kvX8_129 (by decide +kernel) (by decide) rfl (by omega) rfl rfl rfl rfl rfl ?_
  refine p_if_eq (off := 24) 29 (by decide +kernel) (by decide) (fun c5 => ?_) (fun c5 => ?_)
  · exact False.elim (by revert c5; decide)
  · refine p_run (pc' := 12) [.iload_n 2, .iconst 0, .bipush 30] mkX8_wax (by decide +kernel) rfl rfl ?_
    refine p_callSv (in_t w (k := k - 1) _ _ _ _ (in_nI (lo := 0) (hi := 30) (by omega) hn (by omega))) ksX8_75 (by decide +kernel) (by omega) rfl rfl rfl rfl rfl ?_
    refine p_if_eq (off := 14) 29 (by decide +kernel) (by decide) (fun c15 => ?_) (fun c15 => ?_)
    · exact False.elim (by revert c15; decide)
    · refine p_run (pc' := 23) [.iload_n 3, .iconst 0, .sipush 9999] mkX8_wax (by decide +kernel) rfl rfl ?_
      refine p_callSv (in_t w (k := k - 1) _ _ _ _ (hv)) ksX8_75 (by decide +kernel) (by omega) rfl rfl rfl rfl rfl ?_
      refine p_if_ne (off := 6) 32 (by decide +kernel) (by decide) (fun c26 => ?_) (fun c26 => ?_)
      · refine p_run (pc' := 33) [.aload_n 0] mkX8_wax (by decide +kernel) rfl rfl ?_
        refine p_callVw (thinks_ok w (k := k - 1) (by omega) h) kvX8_189 (by decide +kernel) (by decide) rfl (by omega) rfl rfl rfl rfl rfl ?_
        refine p_run (pc' := 39) [.iconst 0, .istore 4] mkX8_wax (by decide +kernel) rfl rfl ?_
        exact wax_loop w hk d n (by omega) hn v h hI hT 100 0 (by omega) _ (wrN (by decide)) (wrS _ _ _) (Ag.wr (by decide))
      · exact False.elim (by revert c26; decide)
set_option maxRecDepth 20000 in
set_option maxHeartbeats 4000000 in
theorem best_loop (w : Wt) {k : Nat} (hk : 8 ≤ k) (spot last d n what : Nat) (hd : d < 10) (hn : n ≤ 60) (hw : what ≤ 1) (h : Mm) (hT : Tq (h 97)) (hs : spot < 70) (hl : last ≤ 5) (hI : ∀ x, x ≤ last → Iv (upd (h 97) spot (nI x))) : ∀ (m i : Nat), i + m = last + 1 → ∀ (hh : Mm) (x9 : Option Value), hh 97 = h 97 → hh 99 = h 97 → Ag [99, 107, 108] h hh → Wp w k MX8_bestOf (fun r h' => r = some (.int (if what = 0 then nI (bsF (fun x => dK (nsF (upd (h 97) spot (nI x)) n) d 4) (last + 1)).1 else (bsF (fun x => dK (nsF (upd (h 97) spot (nI x)) n) d 4) (last + 1)).2)) ∧ Ag [99, 107, 108] h h') 13 [some (.ref 96), some (.int (nI spot)), some (.int (nI last)), some (.int (nI d)), some (.int (nI n)), some (.int (nI what)), some (.int (nI (bsF (fun x => dK (nsF (upd (h 97) spot (nI x)) n) d 4) i).1)), some (.int (bsF (fun x => dK (nsF (upd (h 97) spot (nI x)) n) d 4) i).2), some (.int (nI i)), x9] [] hh := by
  intro m
  induction m with
  | zero =>
    intro i hi hh x9 e e9 hA
    have hi : i = last + 1 := by omega
    subst hi
    refine p_run (pc' := 16) [.iload 8, .iload_n 2] mkX8_bestOf (by decide +kernel) rfl rfl ?_
    refine p_icmp_gt (off := 58) 74 (by decide +kernel) (by decide) (fun c1 => ?_) (fun c1 => ?_)
    · refine p_run (pc' := 76) [.iload 5] mkX8_bestOf (by decide +kernel) rfl rfl ?_
      refine p_if_ne (off := 8) 84 (by decide +kernel) (by decide) (fun c76 => ?_) (fun c76 => ?_)
      · rw [nI_eq0 (by omega)] at c76
        refine p_run (pc' := 86) [.iload 7] mkX8_bestOf (by decide +kernel) rfl rfl ?_
        refine p_iret rfl rfl (by decide +kernel) ?_
        exact ⟨congrArg (fun x => some (Value.int x)) (by first | exact (if_pos c76).symm | exact (if_neg c76).symm), hA⟩
      · rw [nI_eq0 (by omega)] at c76
        refine p_run (pc' := 86) [.iload 6, .goto 5] mkX8_bestOf (by decide +kernel) rfl rfl ?_
        refine p_iret rfl rfl (by decide +kernel) ?_
        exact ⟨congrArg (fun x => some (Value.int x)) (by first | exact (if_pos c76).symm | exact (if_neg c76).symm), hA⟩
    · exact absurd (nI_lt (by omega) (by omega)) c1
  | succ m ih =>
    intro i hi hh x9 e e9 hA
    refine p_run (pc' := 16) [.iload 8, .iload_n 2] mkX8_bestOf (by decide +kernel) rfl rfl ?_
    refine p_icmp_gt (off := 58) 74 (by decide +kernel) (by decide) (fun c1 => ?_) (fun c1 => ?_)
    · exact absurd c1 (nI_nlt (by omega) (by omega))
    · refine p_run (pc' := 26) [.aload_n 0, .getfield 9, .iload_n 1, .iload 8] mkX8_bestOf (by decide +kernel) rfl rfl ?_
      refine p_iast (spot) (by decide +kernel) rfl rfl rfl (by omega)  ?_
      have e2 : up hh 97 spot (nI i) 97 = upd (h 97) spot (nI i) := by rw [upS, e]
      refine p_run (pc' := 31) [.aload_n 0, .iload_n 3, .iload 4] mkX8_bestOf (by decide +kernel) rfl rfl ?_
      refine p_callVi (earthOn_ok w (k := k - 1) (by omega) d n hd (by omega) _ (by rw [e2]; exact hI i (by omega)) (by rw [e2]; exact hT.up hs)) (fun _ _ q => q.1) kvX8_199 (by decide +kernel) (by decide) rfl (by omega) rfl rfl rfl rfl rfl (fun h' hq => ?_)
      obtain ⟨-, e3, hA3⟩ := hq
      rw [e2]
      rw [upN (by decide), e9] at e3
      have hA4 : Ag [99, 107, 108] h h' := fun a ha => by
        by_cases q : a = 97
        · rw [q, e3]
        · rw [hA3 a (by simp at ha ⊢; omega), upN q]; exact hA a ha
      have e9' : h' 99 = h 97 := by rw [hA3 99 (by decide), upN (by decide), e9]
      refine p_run (pc' := 40) [.istore 9, .iload 9, .iload 7] mkX8_bestOf (by decide +kernel) rfl rfl ?_
      refine p_icmp_le (off := 8) 48 (by decide +kernel) (by decide) (fun c40 => ?_) (fun c40 => ?_)
      · refine p_run (pc' := 56) [.iload 6, .istore 6, .iload 9, .iload 7] mkX8_bestOf (by decide +kernel) rfl rfl ?_
        refine p_icmp_le (off := 8) 64 (by decide +kernel) (by decide) (fun c56 => ?_) (fun c56 => ?_)
        · refine p_run (pc' := 13) [.iload 7, .istore 7, .iinc 8 1, .goto (-58)] mkX8_bestOf (by decide +kernel) rfl rfl ?_
          refine Wp.eqL ?_ (ih (i + 1) (by omega) _ (some (.int (dK (nsF (upd (h 97) spot (nI i)) n) d 4))) e3 e9' hA4)
          rw [bsF]
          first | (rw [if_neg (Int32.not_lt.mpr c40)]; rw [show nI i + Int32.ofInt 1 = nI (i + 1) by simp only [oI, nI_add]]; done) | (rw [if_pos (Int32.not_le.mp c40)]; rw [show nI i + Int32.ofInt 1 = nI (i + 1) by simp only [oI, nI_add]]; done) | exact absurd c40 c56 | exact absurd c56 c40
        · refine p_run (pc' := 13) [.iload 9, .goto 5, .istore 7, .iinc 8 1, .goto (-58)] mkX8_bestOf (by decide +kernel) rfl rfl ?_
          refine Wp.eqL ?_ (ih (i + 1) (by omega) _ (some (.int (dK (nsF (upd (h 97) spot (nI i)) n) d 4))) e3 e9' hA4)
          rw [bsF]
          first | (rw [if_neg (Int32.not_lt.mpr c40)]; rw [show nI i + Int32.ofInt 1 = nI (i + 1) by simp only [oI, nI_add]]; done) | (rw [if_pos (Int32.not_le.mp c40)]; rw [show nI i + Int32.ofInt 1 = nI (i + 1) by simp only [oI, nI_add]]; done) | exact absurd c40 c56 | exact absurd c56 c40
      · refine p_run (pc' := 56) [.iload 8, .goto 5, .istore 6, .iload 9, .iload 7] mkX8_bestOf (by decide +kernel) rfl rfl ?_
        refine p_icmp_le (off := 8) 64 (by decide +kernel) (by decide) (fun c56 => ?_) (fun c56 => ?_)
        · refine p_run (pc' := 13) [.iload 7, .istore 7, .iinc 8 1, .goto (-58)] mkX8_bestOf (by decide +kernel) rfl rfl ?_
          refine Wp.eqL ?_ (ih (i + 1) (by omega) _ (some (.int (dK (nsF (upd (h 97) spot (nI i)) n) d 4))) e3 e9' hA4)
          rw [bsF]
          first | (rw [if_neg (Int32.not_lt.mpr c40)]; rw [show nI i + Int32.ofInt 1 = nI (i + 1) by simp only [oI, nI_add]]; done) | (rw [if_pos (Int32.not_le.mp c40)]; rw [show nI i + Int32.ofInt 1 = nI (i + 1) by simp only [oI, nI_add]]; done) | exact absurd c40 c56 | exact absurd c56 c40
        · refine p_run (pc' := 13) [.iload 9, .goto 5, .istore 7, .iinc 8 1, .goto (-58)] mkX8_bestOf (by decide +kernel) rfl rfl ?_
          refine Wp.eqL ?_ (ih (i + 1) (by omega) _ (some (.int (dK (nsF (upd (h 97) spot (nI i)) n) d 4))) e3 e9' hA4)
          rw [bsF]
          first | (rw [if_neg (Int32.not_lt.mpr c40)]; rw [show nI i + Int32.ofInt 1 = nI (i + 1) by simp only [oI, nI_add]]; done) | (rw [if_pos (Int32.not_le.mp c40)]; rw [show nI i + Int32.ofInt 1 = nI (i + 1) by simp only [oI, nI_add]]; done) | exact absurd c40 c56 | exact absurd c56 c40
set_option maxRecDepth 20000 in
set_option maxHeartbeats 4000000 in
theorem bestOf_ok (w : Wt) {k : Nat} (hk : 8 ≤ k) (spot last d n what : Nat) (hd : d < 10) (hn : n ≤ 60) (hw : what ≤ 1) (h : Mm) (hT : Tq (h 97)) (hs : spot < 70) (hl : last ≤ 5) (hI : ∀ x, x ≤ last → Iv (upd (h 97) spot (nI x))) : Ok w k MX8_bestOf [.ref 96, .int (nI spot), .int (nI last), .int (nI d), .int (nI n), .int (nI what)] h (Rs [99, 107, 108] (if what = 0 then nI (bsF (fun x => dK (nsF (upd (h 97) spot (nI x)) n) d 4) (last + 1)).1 else (bsF (fun x => dK (nsF (upd (h 97) spot (nI x)) n) d 4) (last + 1)).2) h) := by
  show Wp w k MX8_bestOf _ 0 [some (.ref 96), some (.int (nI spot)), some (.int (nI last)), some (.int (nI d)), some (.int (nI n)), some (.int (nI what)), none, none, none, none] [] h
  refine p_run (pc' := 1) [.aload_n 0] mkX8_bestOf (by decide +kernel) rfl rfl ?_
  refine p_callVw (thinks_ok w (k := k - 1) (by omega) h) kvX8_189 (by decide +kernel) (by decide) rfl (by omega) rfl rfl rfl rfl rfl ?_
  refine p_run (pc' := 13) [.iconst 0, .istore 6, .iconst (-1), .istore 7, .iconst 0, .istore 8] mkX8_bestOf (by decide +kernel) rfl rfl ?_
  exact best_loop w hk spot last d n what hd hn hw h hT hs hl hI (last + 1) 0 (by omega) _ none (wrN (by decide)) (wrS _ _ _) (Ag.wr (by decide))
set_option maxRecDepth 20000 in
set_option maxHeartbeats 4000000 in
theorem r_sent_bad (w : Wt) {k : Nat} (hk : 2 ≤ k) (a b c : Int32) (h : Mm)  (hb : ¬ (isD (h 97) a ∧ inR b 1 60 ∧ inR c 0 1)) : Ok w k MX8_sent [.ref 96, .int a, .int b, .int c] h (Rv BADv h) := by
  show Wp w k MX8_sent _ 0 [some (.ref 96), some (.int a), some (.int b), some (.int c)] [] h
  refine p_run (pc' := 2) [.aload_n 0, .iload_n 1] mkX8_sent (by decide +kernel) rfl rfl ?_
  refine p_callVv (risDigger_ok w (k := k - 1) (by omega) _ _) kvX8_129 (by decide +kernel) (by decide) rfl (by omega) rfl rfl rfl rfl rfl ?_
  refine p_if_eq (off := 41) 46 (by decide +kernel) (by decide) (fun c5 => ?_) (fun c5 => ?_)
  · refine p_run (pc' := 48) [.ldc 123] mkX8_sent (by decide +kernel) rfl rfl ?_
    refine p_iret rfl rfl (by decide +kernel) ?_
    exact ⟨rfl, rfl⟩
  · refine p_run (pc' := 12) [.iload_n 2, .iconst 1, .bipush 60] mkX8_sent (by decide +kernel) rfl rfl ?_
    refine p_callSv (in_ok w (k := k - 1) _ _ _ _) ksX8_75 (by decide +kernel) (by omega) rfl rfl rfl rfl rfl ?_
    refine p_if_eq (off := 31) 46 (by decide +kernel) (by decide) (fun c15 => ?_) (fun c15 => ?_)
    · refine p_run (pc' := 48) [.ldc 123] mkX8_sent (by decide +kernel) rfl rfl ?_
      refine p_iret rfl rfl (by decide +kernel) ?_
      exact ⟨rfl, rfl⟩
    · refine p_run (pc' := 21) [.iload_n 3, .iconst 0, .iconst 1] mkX8_sent (by decide +kernel) rfl rfl ?_
      refine p_callSv (in_ok w (k := k - 1) _ _ _ _) ksX8_75 (by decide +kernel) (by omega) rfl rfl rfl rfl rfl ?_
      refine p_if_eq (off := 22) 46 (by decide +kernel) (by decide) (fun c24 => ?_) (fun c24 => ?_)
      · refine p_run (pc' := 48) [.ldc 123] mkX8_sent (by decide +kernel) rfl rfl ?_
        refine p_iret rfl rfl (by decide +kernel) ?_
        exact ⟨rfl, rfl⟩
      · exact absurd (⟨bI1.mp c5, bI1.mp c15, bI1.mp c24⟩) hb
set_option maxRecDepth 20000 in
set_option maxHeartbeats 4000000 in
theorem r_sent (w : Wt) {k : Nat} (hk : 9 ≤ k) (d n j : Nat) (h : Mm) (hI : Iv (h 97)) (hT : Tq (h 97)) (hd : d < nd (h 97)) (hn : 1 ≤ n ∧ n ≤ 60) (hj : j ≤ 1) : Ok w k MX8_sent [.ref 96, .int (nI d), .int (nI n), .int (nI j)] h (Rs [99, 107, 108] (if j = 0 then nI (bsF (fun x => dK (nsF (upd (h 97) (20 + 5 * d + 3) (nI x)) n) d 4) 4).1 else (bsF (fun x => dK (nsF (upd (h 97) (20 + 5 * d + 3) (nI x)) n) d 4) 4).2) h) := by
  show Wp w k MX8_sent _ 0 [some (.ref 96), some (.int (nI d)), some (.int (nI n)), some (.int (nI j))] [] h
  obtain ⟨en, hn10⟩ := hI.nd
  refine p_run (pc' := 2) [.aload_n 0, .iload_n 1] mkX8_sent (by decide +kernel) rfl rfl ?_
  refine p_callVv (isDigger_t w (k := k - 1) (by omega) _ _ (isD_nI en hd hn10)) kvX8_129 (by decide +kernel) (by decide) rfl (by omega) rfl rfl rfl rfl rfl ?_
  refine p_if_eq (off := 41) 46 (by decide +kernel) (by decide) (fun c5 => ?_) (fun c5 => ?_)
  · exact False.elim (by revert c5; decide)
  · refine p_run (pc' := 12) [.iload_n 2, .iconst 1, .bipush 60] mkX8_sent (by decide +kernel) rfl rfl ?_
    refine p_callSv (in_t w (k := k - 1) _ _ _ _ (in_nI (lo := 1) (hi := 60) hn.1 hn.2 (by omega))) ksX8_75 (by decide +kernel) (by omega) rfl rfl rfl rfl rfl ?_
    refine p_if_eq (off := 31) 46 (by decide +kernel) (by decide) (fun c15 => ?_) (fun c15 => ?_)
    · exact False.elim (by revert c15; decide)
    · refine p_run (pc' := 21) [.iload_n 3, .iconst 0, .iconst 1] mkX8_sent (by decide +kernel) rfl rfl ?_
      refine p_callSv (in_t w (k := k - 1) _ _ _ _ (in_nI (lo := 0) (hi := 1) (by omega) hj (by omega))) ksX8_75 (by decide +kernel) (by omega) rfl rfl rfl rfl rfl ?_
      refine p_if_eq (off := 22) 46 (by decide +kernel) (by decide) (fun c24 => ?_) (fun c24 => ?_)
      · exact False.elim (by revert c24; decide)
      · refine p_run (pc' := 40) [.aload_n 0, .bipush 20, .iconst 5, .iload_n 1, .imul, .iadd, .iconst 3, .iadd, .iconst 3, .iload_n 1, .iload_n 2, .iload_n 3] mkX8_sent (by decide +kernel) rfl rfl ?_
        refine Wp.eqS (st' := [.int (nI j), .int (nI n), .int (nI d), .int (nI 3), .int (nI (20 + 5 * d + 3)), .ref 96]) (by simp only [oI, nI_add, nIm]) ?_
        refine p_callVi (bestOf_ok w (k := k - 1) (by omega) (20 + 5 * d + 3) 3 d n j (by omega) hn.2 hj h hT (by omega) (by omega) (fun x hx => hI.dk (j := 3) (by omega) (by omega) (In_nI (by show x ≤ 3; omega) (by decide)))) (fun _ _ q => q.1) kvX8_202 (by decide +kernel) (by decide) rfl (by omega) rfl rfl rfl rfl rfl (fun h' hq => ?_)
        obtain ⟨-, hA⟩ := hq
        refine p_run (pc' := 48) [.goto 5] mkX8_sent (by decide +kernel) rfl rfl ?_
        refine p_iret rfl rfl (by decide +kernel) ?_
        exact ⟨rfl, hA⟩
set_option maxRecDepth 20000 in
set_option maxHeartbeats 4000000 in
theorem r_becomes_bad (w : Wt) {k : Nat} (hk : 2 ≤ k) (a b c : Int32) (h : Mm)  (hb : ¬ (isD (h 97) a ∧ inR b 1 60 ∧ inR c 0 1)) : Ok w k MX8_becomes [.ref 96, .int a, .int b, .int c] h (Rv BADv h) := by
  show Wp w k MX8_becomes _ 0 [some (.ref 96), some (.int a), some (.int b), some (.int c)] [] h
  refine p_run (pc' := 2) [.aload_n 0, .iload_n 1] mkX8_becomes (by decide +kernel) rfl rfl ?_
  refine p_callVv (risDigger_ok w (k := k - 1) (by omega) _ _) kvX8_129 (by decide +kernel) (by decide) rfl (by omega) rfl rfl rfl rfl rfl ?_
  refine p_if_eq (off := 39) 44 (by decide +kernel) (by decide) (fun c5 => ?_) (fun c5 => ?_)
  · refine p_run (pc' := 46) [.ldc 123] mkX8_becomes (by decide +kernel) rfl rfl ?_
    refine p_iret rfl rfl (by decide +kernel) ?_
    exact ⟨rfl, rfl⟩
  · refine p_run (pc' := 12) [.iload_n 2, .iconst 1, .bipush 60] mkX8_becomes (by decide +kernel) rfl rfl ?_
    refine p_callSv (in_ok w (k := k - 1) _ _ _ _) ksX8_75 (by decide +kernel) (by omega) rfl rfl rfl rfl rfl ?_
    refine p_if_eq (off := 29) 44 (by decide +kernel) (by decide) (fun c15 => ?_) (fun c15 => ?_)
    · refine p_run (pc' := 46) [.ldc 123] mkX8_becomes (by decide +kernel) rfl rfl ?_
      refine p_iret rfl rfl (by decide +kernel) ?_
      exact ⟨rfl, rfl⟩
    · refine p_run (pc' := 21) [.iload_n 3, .iconst 0, .iconst 1] mkX8_becomes (by decide +kernel) rfl rfl ?_
      refine p_callSv (in_ok w (k := k - 1) _ _ _ _) ksX8_75 (by decide +kernel) (by omega) rfl rfl rfl rfl rfl ?_
      refine p_if_eq (off := 20) 44 (by decide +kernel) (by decide) (fun c24 => ?_) (fun c24 => ?_)
      · refine p_run (pc' := 46) [.ldc 123] mkX8_becomes (by decide +kernel) rfl rfl ?_
        refine p_iret rfl rfl (by decide +kernel) ?_
        exact ⟨rfl, rfl⟩
      · exact absurd (⟨bI1.mp c5, bI1.mp c15, bI1.mp c24⟩) hb
set_option maxRecDepth 20000 in
set_option maxHeartbeats 4000000 in
theorem r_becomes (w : Wt) {k : Nat} (hk : 9 ≤ k) (d n j : Nat) (h : Mm) (hI : Iv (h 97)) (hT : Tq (h 97)) (hd : d < nd (h 97)) (hn : 1 ≤ n ∧ n ≤ 60) (hj : j ≤ 1) : Ok w k MX8_becomes [.ref 96, .int (nI d), .int (nI n), .int (nI j)] h (Rs [99, 107, 108] (if j = 0 then nI (bsF (fun x => dK (nsF (upd (h 97) (20 + 5 * d) (nI x)) n) d 4) 6).1 else (bsF (fun x => dK (nsF (upd (h 97) (20 + 5 * d) (nI x)) n) d 4) 6).2) h) := by
  show Wp w k MX8_becomes _ 0 [some (.ref 96), some (.int (nI d)), some (.int (nI n)), some (.int (nI j))] [] h
  obtain ⟨en, hn10⟩ := hI.nd
  refine p_run (pc' := 2) [.aload_n 0, .iload_n 1] mkX8_becomes (by decide +kernel) rfl rfl ?_
  refine p_callVv (isDigger_t w (k := k - 1) (by omega) _ _ (isD_nI en hd hn10)) kvX8_129 (by decide +kernel) (by decide) rfl (by omega) rfl rfl rfl rfl rfl ?_
  refine p_if_eq (off := 39) 44 (by decide +kernel) (by decide) (fun c5 => ?_) (fun c5 => ?_)
  · exact False.elim (by revert c5; decide)
  · refine p_run (pc' := 12) [.iload_n 2, .iconst 1, .bipush 60] mkX8_becomes (by decide +kernel) rfl rfl ?_
    refine p_callSv (in_t w (k := k - 1) _ _ _ _ (in_nI (lo := 1) (hi := 60) hn.1 hn.2 (by omega))) ksX8_75 (by decide +kernel) (by omega) rfl rfl rfl rfl rfl ?_
    refine p_if_eq (off := 29) 44 (by decide +kernel) (by decide) (fun c15 => ?_) (fun c15 => ?_)
    · exact False.elim (by revert c15; decide)
    · refine p_run (pc' := 21) [.iload_n 3, .iconst 0, .iconst 1] mkX8_becomes (by decide +kernel) rfl rfl ?_
      refine p_callSv (in_t w (k := k - 1) _ _ _ _ (in_nI (lo := 0) (hi := 1) (by omega) hj (by omega))) ksX8_75 (by decide +kernel) (by omega) rfl rfl rfl rfl rfl ?_
      refine p_if_eq (off := 20) 44 (by decide +kernel) (by decide) (fun c24 => ?_) (fun c24 => ?_)
      · exact False.elim (by revert c24; decide)
      · refine p_run (pc' := 38) [.aload_n 0, .bipush 20, .iconst 5, .iload_n 1, .imul, .iadd, .iconst 5, .iload_n 1, .iload_n 2, .iload_n 3] mkX8_becomes (by decide +kernel) rfl rfl ?_
        refine Wp.eqS (st' := [.int (nI j), .int (nI n), .int (nI d), .int (nI 5), .int (nI (20 + 5 * d)), .ref 96]) (by simp only [oI, nI_add, nIm]) ?_
        refine p_callVi (bestOf_ok w (k := k - 1) (by omega) (20 + 5 * d) 5 d n j (by omega) hn.2 hj h hT (by omega) (by omega) (fun x hx => hI.dk (j := 0) (by omega) (by omega) (In_nI (by show x ≤ 5; omega) (by decide)))) (fun _ _ q => q.1) kvX8_202 (by decide +kernel) (by decide) rfl (by omega) rfl rfl rfl rfl rfl (fun h' hq => ?_)
        obtain ⟨-, hA⟩ := hq
        refine p_run (pc' := 46) [.goto 5] mkX8_becomes (by decide +kernel) rfl rfl ?_
        refine p_iret rfl rfl (by decide +kernel) ?_
        exact ⟨rfl, hA⟩
set_option maxRecDepth 20000 in
set_option maxHeartbeats 4000000 in
theorem high_loop (w : Wt) {k : Nat} (hk : 1 ≤ k) (m n : Nat) (hm : m < 1024) (v : Int32) (N : Vc) (hI : Iv N) (h0 : Mm) (Q : Option Value → Mm → Prop) (hC : ∀ h : Mm, h 97 = poF N m (nd N) → Ag [97] h0 h → Wp w k MX8_isHigh Q 48 [some (.ref 96), some (.int (nI m)), some (.int (nI n)), some (.int v), some (.int (nI (nd N)))] [] h) : ∀ (q i : Nat), i + q = nd N → ∀ h : Mm, h 97 = poF N m i → Ag [97] h0 h → Wp w k MX8_isHigh Q 3 [some (.ref 96), some (.int (nI m)), some (.int (nI n)), some (.int v), some (.int (nI i))] [] h := by
  obtain ⟨en, hn10⟩ := hI.nd
  intro q
  induction q with
  | zero =>
    intro i hi h e hA
    have e1 : h 97 1 = nI (nd N) := by rw [e, poF_out _ (fun d hd => by omega)]; exact en
    have hi : i = nd N := by omega
    refine p_run (pc' := 10) [.iload 4, .aload_n 0, .getfield 9, .iconst 1] mkX8_isHigh (by decide +kernel) rfl rfl ?_
    refine p_iald (1) (by decide +kernel) rfl rfl (by simp only [oI]) (by omega) ?_
    rw [e1, hi]
    refine p_icmp_ge (off := 37) 48 (by decide +kernel) (by decide) (fun c1 => ?_) (fun c1 => ?_)
    · exact hC h (by rw [e, hi]) hA
    · exact absurd (nI_le (Nat.le_refl _) (by omega)) c1
  | succ q ih =>
    intro i hi h e hA
    have e1 : h 97 1 = nI (nd N) := by rw [e, poF_out _ (fun d hd => by omega)]; exact en
    refine p_run (pc' := 10) [.iload 4, .aload_n 0, .getfield 9, .iconst 1] mkX8_isHigh (by decide +kernel) rfl rfl ?_
    refine p_iald (1) (by decide +kernel) rfl rfl (by simp only [oI]) (by omega) ?_
    rw [e1]
    refine p_icmp_ge (off := 37) 48 (by decide +kernel) (by decide) (fun c1 => ?_) (fun c1 => ?_)
    · exact absurd c1 (nI_ge (by omega) (by omega))
    · refine p_run (pc' := 25) [.aload_n 0, .iload 4, .iconst 2, .iload_n 1, .iload 4, .ishr, .iconst 1, .iand, .iconst 1] mkX8_isHigh (by decide +kernel) rfl rfl ?_
      rw [oI, shr_bit i (by omega) m hm]
      refine p_icmp_ne (off := 13) 38 (by decide +kernel) (by decide) (fun c2 => ?_) (fun c2 => ?_)
      · rw [nI_eq (by have := Nat.mod_lt (m / 2 ^ i) (y := 2) (by omega); omega) (by omega)] at c2
        refine p_run (pc' := 39) [.iconst 0] mkX8_isHigh (by decide +kernel) rfl rfl ?_
        refine p_callVw (put_ok w (k := k - 1) i 2 _ _ (by omega)) kvX8_116 (by decide +kernel) (by decide) rfl (by omega) rfl rfl rfl rfl rfl ?_
        refine p_run (pc' := 3) [.iinc 4 1, .goto (-42)] mkX8_isHigh (by decide +kernel) rfl rfl ?_
        refine Wp.eqL ?_ (ih (i + 1) (by omega) _ ?_ (hA.tr (Ag.up (by decide))))
        · rw [show nI i + Int32.ofInt 1 = nI (i + 1) by simp only [oI, nI_add]]
        · rw [upS, e, poF, if_neg c2, oI]
      · rw [nI_eq (by have := Nat.mod_lt (m / 2 ^ i) (y := 2) (by omega); omega) (by omega)] at c2
        refine p_run (pc' := 32) [.aload_n 0, .iload 4, .iconst 2] mkX8_isHigh (by decide +kernel) rfl rfl ?_
        refine p_callVv (of_ok w (k := k - 1) i 2 _ (by omega)) kvX8_83 (by decide +kernel) (by decide) rfl (by omega) rfl rfl rfl rfl rfl ?_
        refine p_run (pc' := 39) [.goto 4] mkX8_isHigh (by decide +kernel) rfl rfl ?_
        refine p_callVw (put_ok w (k := k - 1) i 2 _ _ (by omega)) kvX8_116 (by decide +kernel) (by decide) rfl (by omega) rfl rfl rfl rfl rfl ?_
        refine p_run (pc' := 3) [.iinc 4 1, .goto (-42)] mkX8_isHigh (by decide +kernel) rfl rfl ?_
        refine Wp.eqL ?_ (ih (i + 1) (by omega) _ ?_ (hA.tr (Ag.up (by decide))))
        · rw [show nI i + Int32.ofInt 1 = nI (i + 1) by simp only [oI, nI_add]]
        · rw [upS, upd_self, e, poF, if_pos c2]
set_option maxRecDepth 20000 in
set_option maxHeartbeats 4000000 in
theorem isHigh_ok (w : Wt) {k : Nat} (hk : 7 ≤ k) (m n : Nat) (hm : m < 1024) (hn : n ≤ 10) (v : Int32) (h : Mm) (hI : Iv (h 97)) (hT : Tq (h 97)) : Ok w k MX8_isHigh [.ref 96, .int (nI m), .int (nI n), .int v] h (fun r h' => r = some (.int (bI (v ≤ hlF (nsF (poF (h 97) m (nd (h 97))) n)))) ∧ h' 97 = h 99 ∧ Ag [97, 107, 108] h h') := by
  show Wp w k MX8_isHigh _ 0 [some (.ref 96), some (.int (nI m)), some (.int (nI n)), some (.int v), none] [] h
  obtain ⟨en, hn10⟩ := hI.nd
  refine p_run (pc' := 3) [.iconst 0, .istore 4] mkX8_isHigh (by decide +kernel) rfl rfl ?_
  refine high_loop w (by omega) m n hm v (h 97) hI h _ (fun h1 e1 hA1 => ?_) (nd (h 97)) 0 (by omega) h rfl Ag.rf
  refine p_run (pc' := 50) [.aload_n 0, .iload_n 2] mkX8_isHigh (by decide +kernel) rfl rfl ?_
  refine p_callVo (goesOn_ok w (k := k - 1) (by omega) n (by omega) h1 (by rw [e1]; exact poF_Iv hI m _ hn10) (by rw [e1]; exact hT.of (fun j hj => poF_out _ (fun d hd => by omega)))) (fun _ _ q => q.1) kvX8_176 (by decide +kernel) (by decide) rfl (by omega) rfl rfl rfl rfl rfl (fun h' hq => ?_)
  obtain ⟨-, e2, hA2⟩ := hq
  have e2 : h' 97 = nsF (poF (h 97) m (nd (h 97))) n := by have := e2; rw [e1] at this; exact this
  have hI2 : Iv (h' 97) := by rw [e2]; exact nsF_Iv (poF_Iv hI m _ hn10) n
  refine p_run (pc' := 55) [.aload_n 0, .iconst 4] mkX8_isHigh (by decide +kernel) rfl rfl ?_
  refine p_callVv (sums_ok w (k := k - 1) (by omega) 4 (by omega) h' hI2) kvX8_173 (by decide +kernel) (by decide) rfl (by omega) rfl rfl rfl rfl rfl ?_
  refine p_run (pc' := 59) [.iload_n 3] mkX8_isHigh (by decide +kernel) rfl rfl ?_
  rw [show sumF (fun d => dK (h' 97) d 4) (nd (h' 97)) = hlF (h' 97) from rfl, e2]
  refine p_icmp_lt (off := 7) 66 (by decide +kernel) (by decide) (fun c9 => ?_) (fun c9 => ?_)
  · refine p_run (pc' := 70) [.iconst 0, .istore 4, .aload_n 0] mkX8_isHigh (by decide +kernel) rfl rfl ?_
    refine p_callVw (putsBack_ok w (k := k - 1) (by omega) _) kvX8_192 (by decide +kernel) (by decide) rfl (by omega) rfl rfl rfl rfl rfl ?_
    refine p_run (pc' := 75) [.iload 4] mkX8_isHigh (by decide +kernel) rfl rfl ?_
    refine p_iret rfl rfl (by decide +kernel) ?_
    exact ⟨by rw [bIf (Int32.not_le.mpr c9)]; rfl, by rw [wrS, hA2 99 (by decide), hA1 99 (by decide)], fun a ha => by rw [wrN (fun e => ha (by rw [e]; decide)), hA2 a ha]; exact hA1 a (by simp at ha ⊢; omega)⟩
  · refine p_run (pc' := 70) [.iconst 1, .goto 4, .istore 4, .aload_n 0] mkX8_isHigh (by decide +kernel) rfl rfl ?_
    refine p_callVw (putsBack_ok w (k := k - 1) (by omega) _) kvX8_192 (by decide +kernel) (by decide) rfl (by omega) rfl rfl rfl rfl rfl ?_
    refine p_run (pc' := 75) [.iload 4] mkX8_isHigh (by decide +kernel) rfl rfl ?_
    refine p_iret rfl rfl (by decide +kernel) ?_
    exact ⟨by rw [bIt (Int32.not_lt.mp c9)]; rfl, by rw [wrS, hA2 99 (by decide), hA1 99 (by decide)], fun a ha => by rw [wrN (fun e => ha (by rw [e]; decide)), hA2 a ha]; exact hA1 a (by simp at ha ⊢; omega)⟩
set_option maxRecDepth 20000 in
set_option maxHeartbeats 4000000 in
theorem r_light_bad (w : Wt) {k : Nat} (hk : 2 ≤ k) (a b : Int32) (h : Mm)  (hb : ¬ (inR a 0 10 ∧ inR b 0 9999)) : Ok w k MX8_light [.ref 96, .int a, .int b] h (Rv BADv h) := by
  show Wp w k MX8_light _ 0 [some (.ref 96), some (.int a), some (.int b), none, none, none] [] h
  refine p_run (pc' := 4) [.iload_n 1, .iconst 0, .bipush 10] mkX8_light (by decide +kernel) rfl rfl ?_
  refine p_callSv (in_ok w (k := k - 1) _ _ _ _) ksX8_75 (by decide +kernel) (by omega) rfl rfl rfl rfl rfl ?_
  refine p_if_eq (off := 14) 21 (by decide +kernel) (by decide) (fun c7 => ?_) (fun c7 => ?_)
  · refine p_run (pc' := 23) [.ldc 123] mkX8_light (by decide +kernel) rfl rfl ?_
    refine p_iret rfl rfl (by decide +kernel) ?_
    exact ⟨rfl, rfl⟩
  · refine p_run (pc' := 15) [.iload_n 2, .iconst 0, .sipush 9999] mkX8_light (by decide +kernel) rfl rfl ?_
    refine p_callSv (in_ok w (k := k - 1) _ _ _ _) ksX8_75 (by decide +kernel) (by omega) rfl rfl rfl rfl rfl ?_
    refine p_if_ne (off := 6) 24 (by decide +kernel) (by decide) (fun c18 => ?_) (fun c18 => ?_)
    · exact absurd (⟨bI1.mp c7, bI1.mp c18⟩) hb
    · refine p_run (pc' := 23) [.ldc 123] mkX8_light (by decide +kernel) rfl rfl ?_
      refine p_iret rfl rfl (by decide +kernel) ?_
      exact ⟨rfl, rfl⟩
set_option maxRecDepth 20000 in
set_option maxHeartbeats 4000000 in
theorem light_loop (w : Wt) {k : Nat} (hk : 8 ≤ k) (n : Nat) (hn : n ≤ 10) (v : Int32) (h : Mm) (hI : Iv (h 97)) (hT : Tq (h 97)) : ∀ (q i : Nat), i + q = 2 ^ nd (h 97) → ∀ (hh : Mm) (x5 : Option Value), hh 97 = h 97 → hh 99 = h 97 → Ag [99, 107, 108] h hh → Wp w k MX8_light (Rs [99, 107, 108] (oN (liF (liP (h 97) n v) (2 ^ nd (h 97)))) h) 34 [some (.ref 96), some (.int (nI n)), some (.int v), some (.int (oN (liF (liP (h 97) n v) i))), some (.int (nI i)), x5] [] hh := by
  obtain ⟨en, hn10⟩ := hI.nd
  have hp10 : 2 ^ nd (h 97) ≤ 1024 := Nat.pow_le_pow_right (n := 2) (by omega) hn10
  intro q
  induction q with
  | zero =>
    intro i hi hh x5 e e9 hA
    have hi : i = 2 ^ nd (h 97) := by omega
    refine p_run (pc' := 42) [.iload 4, .iconst 1, .aload_n 0, .getfield 9, .iconst 1] mkX8_light (by decide +kernel) rfl rfl ?_
    refine p_iald (1) (by decide +kernel) rfl rfl (by simp only [oI]) (by omega) ?_
    refine p_run (pc' := 44) [.ishl] mkX8_light (by decide +kernel) rfl rfl ?_
    rw [e, en, oI, shl1 _ (by omega)]
    rw [hi]
    refine p_icmp_ge (off := 57) 101 (by decide +kernel) (by decide) (fun c1 => ?_) (fun c1 => ?_)
    · refine p_run (pc' := 102) [.iload_n 3] mkX8_light (by decide +kernel) rfl rfl ?_
      refine p_iret rfl rfl (by decide +kernel) ?_
      exact ⟨rfl, hA⟩
    · exact absurd (nI_le (Nat.le_refl _) (by omega)) c1
  | succ q ih =>
    intro i hi hh x5 e e9 hA
    refine p_run (pc' := 42) [.iload 4, .iconst 1, .aload_n 0, .getfield 9, .iconst 1] mkX8_light (by decide +kernel) rfl rfl ?_
    refine p_iald (1) (by decide +kernel) rfl rfl (by simp only [oI]) (by omega) ?_
    refine p_run (pc' := 44) [.ishl] mkX8_light (by decide +kernel) rfl rfl ?_
    rw [e, en, oI, shl1 _ (by omega)]
    refine p_icmp_ge (off := 57) 101 (by decide +kernel) (by decide) (fun c1 => ?_) (fun c1 => ?_)
    · exact absurd c1 (nI_ge (by omega) (by omega))
    · cases hl : liF (liP (h 97) n v) i with
      | none =>
        rw [show oN none = Int32.ofInt (-1000000005) from rfl]
        refine p_run (pc' := 50) [.iload_n 3, .ldc 195] mkX8_light (by decide +kernel) rfl rfl ?_
        refine p_icmp_eq (off := 15) 65 (by decide +kernel) (by decide) (fun c2 => ?_) (fun c2 => ?_)
        · refine p_run (pc' := 74) [.iconst 1, .goto 4, .istore 5, .iload 5] mkX8_light (by decide +kernel) rfl rfl ?_
          refine p_if_eq (off := 19) 93 (by decide +kernel) (by decide) (fun c5 => ?_) (fun c5 => ?_)
          · exact False.elim (by revert c5; decide)
          · refine p_run (pc' := 82) [.aload_n 0, .iload 4, .iload_n 1, .iload_n 2] mkX8_light (by decide +kernel) rfl rfl ?_
            refine p_callVi (isHigh_ok w (k := k - 1) (by omega) i n (by omega) hn v hh (by rw [e]; exact hI) (by rw [e]; exact hT)) (fun _ _ q => q.1) kvX8_196 (by decide +kernel) (by decide) rfl (by omega) rfl rfl rfl rfl rfl (fun h' hq => ?_)
            obtain ⟨-, e3, hA3⟩ := hq
            rw [e]
            rw [e9] at e3
            have hA4 : Ag [99, 107, 108] h h' := fun a ha => by
              by_cases q : a = 97
              · rw [q, e3]
              · rw [hA3 a (by simp at ha ⊢; omega)]; exact hA a ha
            have e9' : h' 99 = h 97 := by rw [hA3 99 (by decide), e9]
            refine p_if_eq (off := 8) 93 (by decide +kernel) (by decide) (fun c8 => ?_) (fun c8 => ?_)
            · have hq : ¬ liP (h 97) n v i = true := by unfold liP; simpa using bI0.mp c8
              refine p_run (pc' := 34) [.iload_n 3, .istore_n 3, .iinc 4 1, .goto (-64)] mkX8_light (by decide +kernel) rfl rfl ?_
              refine Wp.eqL ?_ (ih (i + 1) (by omega) _ (some (.int (nI 1))) e3 e9' hA4)
              rw [show liF (liP (h 97) n v) (i + 1) = none by rw [liF, hl]; simp only; rw [if_neg hq], show oN none = Int32.ofInt (-1000000005) from rfl]
              rw [show nI i + Int32.ofInt 1 = nI (i + 1) by simp only [oI, nI_add]]
              rfl
            · have hq : liP (h 97) n v i = true := by unfold liP; simpa using bI1.mp c8
              refine p_run (pc' := 34) [.iload 4, .goto 4, .istore_n 3, .iinc 4 1, .goto (-64)] mkX8_light (by decide +kernel) rfl rfl ?_
              refine Wp.eqL ?_ (ih (i + 1) (by omega) _ (some (.int (nI 1))) e3 e9' hA4)
              rw [show liF (liP (h 97) n v) (i + 1) = some i by rw [liF, hl]; simp only; rw [if_pos hq], show oN (some i) = nI i from rfl]
              rw [show nI i + Int32.ofInt 1 = nI (i + 1) by simp only [oI, nI_add]]
              rfl
        · exact absurd rfl c2
      | some bb =>
        have hbb := liF_lt hl
        rw [show oN (some bb) = nI bb from rfl]
        refine p_run (pc' := 50) [.iload_n 3, .ldc 195] mkX8_light (by decide +kernel) rfl rfl ?_
        refine p_icmp_eq (off := 15) 65 (by decide +kernel) (by decide) (fun c2 => ?_) (fun c2 => ?_)
        · exact absurd (show (nI bb).toInt = _ from congrArg Int32.toInt c2) (by rw [nI_toInt (by omega)]; show ((bb : Nat) : Int) ≠ -1000000005; omega)
        · refine p_run (pc' := 55) [.iload 4] mkX8_light (by decide +kernel) rfl rfl ?_
          refine p_callSv (bits_ok w (k := k - 1) i (by omega) _) ksX8_96 (by decide +kernel) (by omega) rfl rfl rfl rfl rfl ?_
          refine p_run (pc' := 59) [.iload_n 3] mkX8_light (by decide +kernel) rfl rfl ?_
          refine p_callSv (bits_ok w (k := k - 1) bb (by omega) _) ksX8_96 (by decide +kernel) (by omega) rfl rfl rfl rfl rfl ?_
          refine p_icmp_ge (off := 7) 69 (by decide +kernel) (by decide) (fun c3 => ?_) (fun c3 => ?_)
          · have hpc : ¬ pcF i < pcF bb := fun q => c3 |> Int32.not_lt.mpr |> (fun r => r (nI_lt q (by have := cntF_le (fun j => bb.testBit j) 10; unfold pcF at *; omega)))
            refine p_run (pc' := 74) [.iconst 0, .istore 5, .iload 5] mkX8_light (by decide +kernel) rfl rfl ?_
            refine p_if_eq (off := 19) 93 (by decide +kernel) (by decide) (fun c5 => ?_) (fun c5 => ?_)
            · refine p_run (pc' := 34) [.iload_n 3, .istore_n 3, .iinc 4 1, .goto (-64)] mkX8_light (by decide +kernel) rfl rfl ?_
              refine Wp.eqL ?_ (ih (i + 1) (by omega) _ (some (.int (nI 0))) e e9 hA)
              rw [show liF (liP (h 97) n v) (i + 1) = some bb by rw [liF, hl]; simp only; rw [if_neg (fun q => hpc q.1)], show oN (some bb) = nI bb from rfl]
              rw [show nI i + Int32.ofInt 1 = nI (i + 1) by simp only [oI, nI_add]]
              rfl
            · exact False.elim (by revert c5; decide)
          · have hpc : pcF i < pcF bb := (nI_ltI (by have := cntF_le (fun j => i.testBit j) 10; unfold pcF; omega) (by have := cntF_le (fun j => bb.testBit j) 10; unfold pcF; omega)).mp (Int32.not_le.mp c3)
            refine p_run (pc' := 74) [.iconst 1, .goto 4, .istore 5, .iload 5] mkX8_light (by decide +kernel) rfl rfl ?_
            refine p_if_eq (off := 19) 93 (by decide +kernel) (by decide) (fun c5 => ?_) (fun c5 => ?_)
            · exact False.elim (by revert c5; decide)
            · refine p_run (pc' := 82) [.aload_n 0, .iload 4, .iload_n 1, .iload_n 2] mkX8_light (by decide +kernel) rfl rfl ?_
              refine p_callVi (isHigh_ok w (k := k - 1) (by omega) i n (by omega) hn v hh (by rw [e]; exact hI) (by rw [e]; exact hT)) (fun _ _ q => q.1) kvX8_196 (by decide +kernel) (by decide) rfl (by omega) rfl rfl rfl rfl rfl (fun h' hq => ?_)
              obtain ⟨-, e3, hA3⟩ := hq
              rw [e]
              rw [e9] at e3
              have hA4 : Ag [99, 107, 108] h h' := fun a ha => by
                by_cases q : a = 97
                · rw [q, e3]
                · rw [hA3 a (by simp at ha ⊢; omega)]; exact hA a ha
              have e9' : h' 99 = h 97 := by rw [hA3 99 (by decide), e9]
              refine p_if_eq (off := 8) 93 (by decide +kernel) (by decide) (fun c8 => ?_) (fun c8 => ?_)
              · have hq : ¬ liP (h 97) n v i = true := by unfold liP; simpa using bI0.mp c8
                refine p_run (pc' := 34) [.iload_n 3, .istore_n 3, .iinc 4 1, .goto (-64)] mkX8_light (by decide +kernel) rfl rfl ?_
                refine Wp.eqL ?_ (ih (i + 1) (by omega) _ (some (.int (nI 1))) e3 e9' hA4)
                rw [show liF (liP (h 97) n v) (i + 1) = some bb by rw [liF, hl]; simp only; rw [if_neg (fun q => hq q.2)], show oN (some bb) = nI bb from rfl]
                rw [show nI i + Int32.ofInt 1 = nI (i + 1) by simp only [oI, nI_add]]
                rfl
              · have hq : liP (h 97) n v i = true := by unfold liP; simpa using bI1.mp c8
                refine p_run (pc' := 34) [.iload 4, .goto 4, .istore_n 3, .iinc 4 1, .goto (-64)] mkX8_light (by decide +kernel) rfl rfl ?_
                refine Wp.eqL ?_ (ih (i + 1) (by omega) _ (some (.int (nI 1))) e3 e9' hA4)
                rw [show liF (liP (h 97) n v) (i + 1) = some i by rw [liF, hl]; simp only; rw [if_pos ⟨hpc, hq⟩], show oN (some i) = nI i from rfl]
                rw [show nI i + Int32.ofInt 1 = nI (i + 1) by simp only [oI, nI_add]]
                rfl
set_option maxRecDepth 20000 in
set_option maxHeartbeats 4000000 in
theorem r_light (w : Wt) {k : Nat} (hk : 8 ≤ k) (n : Nat) (hn : n ≤ 10) (v : Int32) (hv : inR v 0 9999) (h : Mm) (hI : Iv (h 97)) (hT : Tq (h 97)) : Ok w k MX8_light [.ref 96, .int (nI n), .int v] h (Rs [99, 107, 108] (oN (liF (liP (h 97) n v) (2 ^ nd (h 97)))) h) := by
  show Wp w k MX8_light _ 0 [some (.ref 96), some (.int (nI n)), some (.int v), none, none, none] [] h
  refine p_run (pc' := 4) [.iload_n 1, .iconst 0, .bipush 10] mkX8_light (by decide +kernel) rfl rfl ?_
  refine p_callSv (in_t w (k := k - 1) _ _ _ _ (in_nI (lo := 0) (hi := 10) (by omega) hn (by omega))) ksX8_75 (by decide +kernel) (by omega) rfl rfl rfl rfl rfl ?_
  refine p_if_eq (off := 14) 21 (by decide +kernel) (by decide) (fun c7 => ?_) (fun c7 => ?_)
  · exact False.elim (by revert c7; decide)
  · refine p_run (pc' := 15) [.iload_n 2, .iconst 0, .sipush 9999] mkX8_light (by decide +kernel) rfl rfl ?_
    refine p_callSv (in_t w (k := k - 1) _ _ _ _ (hv)) ksX8_75 (by decide +kernel) (by omega) rfl rfl rfl rfl rfl ?_
    refine p_if_ne (off := 6) 24 (by decide +kernel) (by decide) (fun c18 => ?_) (fun c18 => ?_)
    · refine p_run (pc' := 25) [.aload_n 0] mkX8_light (by decide +kernel) rfl rfl ?_
      refine p_callVw (thinks_ok w (k := k - 1) (by omega) h) kvX8_189 (by decide +kernel) (by decide) rfl (by omega) rfl rfl rfl rfl rfl ?_
      refine p_run (pc' := 34) [.ldc 195, .istore_n 3, .iconst 0, .istore 4] mkX8_light (by decide +kernel) rfl rfl ?_
      exact light_loop w (by omega) n hn v h hI hT (2 ^ nd (h 97)) 0 (by omega) _ none (wrN (by decide)) (wrS _ _ _) (Ag.wr (by decide))
    · exact False.elim (by revert c18; decide)
