/-! the reference: fee, fine, rows kept -/
noncomputable def feF (N : Vc) : Int32 := match lawT N 1 with
  | none => N 5
  | some t => evF N t (fc4 (N 5) (hlF N) (nI 0) (nI 0))
noncomputable def fiF (N : Vc) (d : Nat) : Int32 := match lawT N 2 with
  | none => dK N d 2
  | some t => evF N t (fc4 (dK N d 1) (dK N d 2) (nI 0) (nI 0))
set_option maxRecDepth 20000 in
set_option maxHeartbeats 4000000 in
theorem r_fee (w : Wt) {k : Nat} (hk : 3 ≤ k) (h : Mm) (hI : Iv (h 97)) (hT : Tq (h 97)) : Ok w k MX8_fee [.ref 96] h (Rs [107, 108] (feF (h 97)) h) := by
  show Wp w k MX8_fee _ 0 [some (.ref 96), none] [] h
  refine p_run (pc' := 2) [.aload_n 0, .iconst 1] mkX8_fee (by decide +kernel) rfl rfl ?_
  refine p_callVv (counts_ok w (k := k - 1) 1 (by omega) h hI.tx hT) kvX8_86 (by decide +kernel) (by decide) rfl (by omega) rfl rfl rfl rfl rfl ?_
  refine p_run (pc' := 16) [.istore_n 1, .aload_n 0, .getfield 45, .iconst 0, .aload_n 0, .getfield 9, .iconst 5] mkX8_fee (by decide +kernel) rfl rfl ?_
  refine p_iald (5) (by decide +kernel) rfl rfl (by simp only [oI]) (by omega) ?_
  refine p_iast (0) (by decide +kernel) rfl rfl (by simp only [oI]) (by omega)  ?_
  refine p_run (pc' := 25) [.aload_n 0, .getfield 45, .iconst 1, .aload_n 0, .iconst 4] mkX8_fee (by decide +kernel) rfl rfl ?_
  refine p_callVv (sums_ok w (k := k - 1) (by omega) 4 (by omega) _ (by simp only [upN (show (97 : Nat) ≠ 108 by decide)]; exact hI)) kvX8_173 (by decide +kernel) (by decide) rfl (by omega) rfl rfl rfl rfl rfl ?_
  simp only [upN (show (97 : Nat) ≠ 108 by decide)]
  refine p_iast (1) (by decide +kernel) rfl rfl (by simp only [oI]) (by omega)  ?_
  generalize e4 : up (up h 108 0 _) 108 1 _ = h4
  have e97 : h4 97 = h 97 := by rw [← e4]; simp only [upN (show (97 : Nat) ≠ 108 by decide)]
  have eA : ∀ a, a ≠ 108 → h4 a = h a := fun a ha => by rw [← e4]; simp only [upN ha]
  have e108 : ∀ i, i < 2 → h4 108 i = fc4 (h 97 5) (hlF (h 97)) (nI 0) (nI 0) i := fun i hi => by
    rw [← e4]
    rcases (show i = 0 ∨ i = 1 by omega) with rfl | rfl
    · simp [up, fc4]; (try rfl)
    · simp [up, fc4]; (try rfl)
  cases hl : lawT (h 97) 1 with
  | none =>
    rw [show oT none = Int32.ofInt (-1) from rfl]
    refine p_run (pc' := 30) [.iload_n 1] mkX8_fee (by decide +kernel) rfl rfl ?_
    refine p_if_ge (off := 12) 42 (by decide +kernel) (by decide) (fun c1 => ?_) (fun c1 => ?_)
    · exact False.elim (by revert c1; decide)
    · refine p_run (pc' := 38) [.aload_n 0, .getfield 9, .iconst 5] mkX8_fee (by decide +kernel) rfl rfl ?_
      refine p_iald (5) (by decide +kernel) rfl rfl (by first | rfl | simp only [oI]) (by omega) ?_
      refine p_run (pc' := 47) [.goto 8] mkX8_fee (by decide +kernel) rfl rfl ?_
      refine p_iret rfl rfl (by decide +kernel) ?_
      exact ⟨by rw [feF, hl, e97]; (try rfl), fun a ha => eA a (fun e => ha (by rw [e]; decide))⟩
  | some t =>
    rw [show oT (some t) = nI t from rfl]
    obtain ⟨ht, hX, hx0⟩ := lastT_spec hl hI
    refine p_run (pc' := 30) [.iload_n 1] mkX8_fee (by decide +kernel) rfl rfl ?_
    refine p_if_ge (off := 12) 42 (by decide +kernel) (by decide) (fun c1 => ?_) (fun c1 => ?_)
    · refine p_run (pc' := 44) [.aload_n 0, .iload_n 1] mkX8_fee (by decide +kernel) rfl rfl ?_
      refine p_callVi (worksOut_ok w (k := k - 1) (by omega) t ht _ (by rw [e97]; exact hX)) (fun _ _ q => q.1) kvX8_99 (by decide +kernel) (by decide) rfl (by omega) rfl rfl rfl rfl rfl (fun h' hq => ?_)
      obtain ⟨-, hA⟩ := hq
      refine p_iret rfl rfl (by decide +kernel) ?_
      refine ⟨?_, fun a ha => (hA a (fun e => ha (by rw [e]; decide))).trans (eA a (fun e => ha (by rw [e]; decide)))⟩
      rw [feF, hl, e97, evF_congr hX (fun i hi => e108 i (by rw [hx0] at hi; exact hi))]
    · exact absurd (by rw [← nI_0]; exact nI_le (Nat.zero_le _) (by omega)) c1
set_option maxRecDepth 20000 in
set_option maxHeartbeats 4000000 in
theorem r_fine_bad (w : Wt) {k : Nat} (hk : 2 ≤ k) (a : Int32) (h : Mm)  (hb : ¬ (isD (h 97) a)) : Ok w k MX8_fine [.ref 96, .int a] h (Rv BADv h) := by
  show Wp w k MX8_fine _ 0 [some (.ref 96), some (.int a), none] [] h
  refine p_run (pc' := 2) [.aload_n 0, .iload_n 1] mkX8_fine (by decide +kernel) rfl rfl ?_
  refine p_callVv (risDigger_ok w (k := k - 1) (by omega) _ _) kvX8_129 (by decide +kernel) (by decide) rfl (by omega) rfl rfl rfl rfl rfl ?_
  refine p_if_ne (off := 6) 11 (by decide +kernel) (by decide) (fun c5 => ?_) (fun c5 => ?_)
  · exact absurd (bI1.mp c5) hb
  · refine p_run (pc' := 10) [.ldc 123] mkX8_fine (by decide +kernel) rfl rfl ?_
    refine p_iret rfl rfl (by decide +kernel) ?_
    exact ⟨rfl, rfl⟩
set_option maxRecDepth 20000 in
set_option maxHeartbeats 4000000 in
theorem r_fine (w : Wt) {k : Nat} (hk : 3 ≤ k) (d : Nat) (h : Mm) (hI : Iv (h 97)) (hT : Tq (h 97)) (hd : d < nd (h 97)) : Ok w k MX8_fine [.ref 96, .int (nI d)] h (Rs [107, 108] (fiF (h 97) d) h) := by
  show Wp w k MX8_fine _ 0 [some (.ref 96), some (.int (nI d)), none] [] h
  obtain ⟨en, hn10⟩ := hI.nd
  refine p_run (pc' := 2) [.aload_n 0, .iload_n 1] mkX8_fine (by decide +kernel) rfl rfl ?_
  refine p_callVv (isDigger_t w (k := k - 1) (by omega) _ _ (isD_nI en hd hn10)) kvX8_129 (by decide +kernel) (by decide) rfl (by omega) rfl rfl rfl rfl rfl ?_
  refine p_if_ne (off := 6) 11 (by decide +kernel) (by decide) (fun c5 => ?_) (fun c5 => ?_)
  · refine p_run (pc' := 13) [.aload_n 0, .iconst 2] mkX8_fine (by decide +kernel) rfl rfl ?_
    refine p_callVv (counts_ok w (k := k - 1) 2 (by omega) h hI.tx hT) kvX8_86 (by decide +kernel) (by decide) rfl (by omega) rfl rfl rfl rfl rfl ?_
    refine p_run (pc' := 25) [.istore_n 2, .aload_n 0, .getfield 45, .iconst 0, .aload_n 0, .iload_n 1, .iconst 1] mkX8_fine (by decide +kernel) rfl rfl ?_
    refine p_callVv (of_ok w (k := k - 1) d 1 _ (by omega)) kvX8_83 (by decide +kernel) (by decide) rfl (by omega) rfl rfl rfl rfl rfl ?_
    refine p_iast (0) (by decide +kernel) rfl rfl (by simp only [oI]) (by omega)  ?_
    refine p_run (pc' := 37) [.aload_n 0, .getfield 45, .iconst 1, .aload_n 0, .iload_n 1, .iconst 2] mkX8_fine (by decide +kernel) rfl rfl ?_
    refine p_callVv (of_ok w (k := k - 1) d 2 _ (by omega)) kvX8_83 (by decide +kernel) (by decide) rfl (by omega) rfl rfl rfl rfl rfl ?_
    simp only [upN (show (97 : Nat) ≠ 108 by decide)]
    refine p_iast (1) (by decide +kernel) rfl rfl (by simp only [oI]) (by omega)  ?_
    generalize e4 : up (up h 108 0 _) 108 1 _ = h4
    have e97 : h4 97 = h 97 := by rw [← e4]; simp only [upN (show (97 : Nat) ≠ 108 by decide)]
    have eA : ∀ a, a ≠ 108 → h4 a = h a := fun a ha => by rw [← e4]; simp only [upN ha]
    have e108 : ∀ i, i < 2 → h4 108 i = fc4 (dK (h 97) d 1) (dK (h 97) d 2) (nI 0) (nI 0) i := fun i hi => by
      rw [← e4]
      rcases (show i = 0 ∨ i = 1 by omega) with rfl | rfl
      · simp [up, fc4]; (try rfl)
      · simp [up, fc4]; (try rfl)
    cases hl : lawT (h 97) 2 with
    | none =>
      rw [show oT none = Int32.ofInt (-1) from rfl]
      refine p_run (pc' := 42) [.iload_n 2] mkX8_fine (by decide +kernel) rfl rfl ?_
      refine p_if_ge (off := 12) 54 (by decide +kernel) (by decide) (fun c1 => ?_) (fun c1 => ?_)
      · exact False.elim (by revert c1; decide)
      · refine p_run (pc' := 48) [.aload_n 0, .iload_n 1, .iconst 2] mkX8_fine (by decide +kernel) rfl rfl ?_
        refine p_callVv (of_ok w (k := k - 1) (d) (2) _ (by omega)) kvX8_83 (by decide +kernel) (by decide) rfl (by omega) rfl rfl rfl rfl rfl ?_
        refine p_run (pc' := 59) [.goto 8] mkX8_fine (by decide +kernel) rfl rfl ?_
        refine p_iret rfl rfl (by decide +kernel) ?_
        exact ⟨by rw [fiF, hl, e97]; (try rfl), fun a ha => eA a (fun e => ha (by rw [e]; decide))⟩
    | some t =>
      rw [show oT (some t) = nI t from rfl]
      obtain ⟨ht, hX, hx0⟩ := lastT_spec hl hI
      refine p_run (pc' := 42) [.iload_n 2] mkX8_fine (by decide +kernel) rfl rfl ?_
      refine p_if_ge (off := 12) 54 (by decide +kernel) (by decide) (fun c1 => ?_) (fun c1 => ?_)
      · refine p_run (pc' := 56) [.aload_n 0, .iload_n 2] mkX8_fine (by decide +kernel) rfl rfl ?_
        refine p_callVi (worksOut_ok w (k := k - 1) (by omega) t ht _ (by rw [e97]; exact hX)) (fun _ _ q => q.1) kvX8_99 (by decide +kernel) (by decide) rfl (by omega) rfl rfl rfl rfl rfl (fun h' hq => ?_)
        obtain ⟨-, hA⟩ := hq
        refine p_iret rfl rfl (by decide +kernel) ?_
        refine ⟨?_, fun a ha => (hA a (fun e => ha (by rw [e]; decide))).trans (eA a (fun e => ha (by rw [e]; decide)))⟩
        rw [fiF, hl, e97, evF_congr hX (fun i hi => e108 i (by rw [hx0] at hi; exact hi))]
      · exact absurd (by rw [← nI_0]; exact nI_le (Nat.zero_le _) (by omega)) c1
  · exact False.elim (by revert c5; decide)
theorem zF8 : ∀ C T N, vwCl[8]? = some (C, T, N) → (T 3).2.2.2 = false ∧ parseFieldDescriptor (T 3).2.2.1 = some .boolean := by
  intro C T N h
  cases h
  exact ⟨by decide +kernel, by decide +kernel⟩
set_option maxRecDepth 20000 in
set_option maxHeartbeats 4000000 in
theorem r_keep (w : Wt) {k : Nat} (hk : 1 ≤ k) (h : Mm) : Ok w k MX8_keep [.ref 96] h (Rv (h 97 1) (up (wr h 98 (h 97)) 96 3 (Int32.ofInt 1))) := by
  show Wp w k MX8_keep _ 0 [some (.ref 96)] [] h
  refine p_run (pc' := 8) [.aload_n 0, .getfield 9, .aload_n 0, .getfield 13] mkX8_keep (by decide +kernel) rfl rfl ?_
  refine p_callSw (copyAll_ok w (k := k - 1) 97 98 h (by decide) (by decide) (by decide)) ksX8_185 (by decide +kernel) (by omega) rfl rfl rfl rfl rfl ?_
  refine p_run (pc' := 13) [.aload_n 0, .iconst 1] mkX8_keep (by decide +kernel) rfl rfl ?_
  refine p_putZ (by decide +kernel) fo8_292 (by decide) rfl zF8 rfl (Or.inr rfl) ?_
  refine p_run (pc' := 21) [.aload_n 0, .getfield 9, .iconst 1] mkX8_keep (by decide +kernel) rfl rfl ?_
  refine p_iald (1) (by decide +kernel) rfl rfl (by simp only [oI]) (by omega) ?_
  rw [upN (by decide), wrN (by decide)]
  refine p_iret rfl rfl (by decide +kernel) ?_
  exact ⟨rfl, rfl⟩
set_option maxRecDepth 20000 in
set_option maxHeartbeats 4000000 in
theorem r_back (w : Wt) {k : Nat} (hk : 1 ≤ k) (h : Mm) : Ok w k MX8_back [.ref 96] h (Rv (if h 96 3 = 0 then NOv else h 98 1) (if h 96 3 = 0 then h else wr h 97 (h 98))) := by
  show Wp w k MX8_back _ 0 [some (.ref 96)] [] h
  refine p_run (pc' := 4) [.aload_n 0, .getfield 292] mkX8_back (by decide +kernel) rfl rfl ?_
  refine p_if_ne (off := 7) 11 (by decide +kernel) (by decide) (fun c1 => ?_) (fun c1 => ?_)
  · refine p_run (pc' := 19) [.aload_n 0, .getfield 13, .aload_n 0, .getfield 9] mkX8_back (by decide +kernel) rfl rfl ?_
    refine p_callSw (copyAll_ok w (k := k - 1) 98 97 h (by decide) (by decide) (by decide)) ksX8_185 (by decide +kernel) (by omega) rfl rfl rfl rfl rfl ?_
    refine p_run (pc' := 27) [.aload_n 0, .getfield 9, .iconst 1] mkX8_back (by decide +kernel) rfl rfl ?_
    refine p_iald (1) (by decide +kernel) rfl rfl (by simp only [oI]) (by omega) ?_
    rw [wrS]
    refine p_iret rfl rfl (by decide +kernel) ?_
    exact ⟨by rw [if_neg c1], by rw [if_neg c1]⟩
  · refine p_run (pc' := 10) [.ldc_w 288] mkX8_back (by decide +kernel) rfl rfl ?_
    refine p_iret rfl rfl (by decide +kernel) ?_
    exact ⟨by rw [if_pos c1]; (try rfl), by rw [if_pos c1]⟩
def coF (h : Mm) (j : Nat) : Int32 := if j < 6 then h 97 (1 + j) else if j = 6 then h 97 7 else if j = 7 then h 96 32 else if j = 8 then h 96 6 else h 97 0
set_option maxRecDepth 20000 in
set_option maxHeartbeats 4000000 in
theorem r_count (w : Wt) {k : Nat} (a : Int32) (h : Mm) : Ok w k MX8_count [.ref 96, .int a] h (Rv (@ite _ (inR a 0 9) (Classical.propDecidable _) (coF h (nN a)) BADv) h) := by
  show Wp w k MX8_count _ 0 [some (.ref 96), some (.int a)] [] h
  refine p_run (pc' := 1) [.iload_n 1] mkX8_count (by decide +kernel) rfl rfl ?_
  refine p_table (dflt := 89) (lo := 0) (hi := 9) (offs := #[55, 55, 55, 55, 55, 55, 64, 72, 77, 82]) (len := 55) (by decide +kernel) (by decide) (fun j hj hx => ?_) (fun hx => ?_)
  · match j, hj, hx with
    | 0, _, hx =>
      have hx : a = Int32.ofInt (0) := hx
      refine ⟨55, 56, rfl, rfl, ?_⟩
      refine p_run (pc' := 63) [.aload_n 0, .getfield 9, .iconst 1, .iload_n 1, .iadd] mkX8_count (by decide +kernel) rfl rfl ?_
      refine p_iald (1 + 0) (by decide +kernel) rfl rfl (by rw [hx]; rfl) (by omega) ?_
      refine p_iret rfl rfl (by decide +kernel) ?_
      exact ⟨by rw [if_pos (by rw [hx]; exact ⟨by decide, by decide⟩), hx]; rfl, rfl⟩
    | 1, _, hx =>
      have hx : a = Int32.ofInt (1) := hx
      refine ⟨55, 56, rfl, rfl, ?_⟩
      refine p_run (pc' := 63) [.aload_n 0, .getfield 9, .iconst 1, .iload_n 1, .iadd] mkX8_count (by decide +kernel) rfl rfl ?_
      refine p_iald (1 + 1) (by decide +kernel) rfl rfl (by rw [hx]; rfl) (by omega) ?_
      refine p_iret rfl rfl (by decide +kernel) ?_
      exact ⟨by rw [if_pos (by rw [hx]; exact ⟨by decide, by decide⟩), hx]; rfl, rfl⟩
    | 2, _, hx =>
      have hx : a = Int32.ofInt (2) := hx
      refine ⟨55, 56, rfl, rfl, ?_⟩
      refine p_run (pc' := 63) [.aload_n 0, .getfield 9, .iconst 1, .iload_n 1, .iadd] mkX8_count (by decide +kernel) rfl rfl ?_
      refine p_iald (1 + 2) (by decide +kernel) rfl rfl (by rw [hx]; rfl) (by omega) ?_
      refine p_iret rfl rfl (by decide +kernel) ?_
      exact ⟨by rw [if_pos (by rw [hx]; exact ⟨by decide, by decide⟩), hx]; rfl, rfl⟩
    | 3, _, hx =>
      have hx : a = Int32.ofInt (3) := hx
      refine ⟨55, 56, rfl, rfl, ?_⟩
      refine p_run (pc' := 63) [.aload_n 0, .getfield 9, .iconst 1, .iload_n 1, .iadd] mkX8_count (by decide +kernel) rfl rfl ?_
      refine p_iald (1 + 3) (by decide +kernel) rfl rfl (by rw [hx]; rfl) (by omega) ?_
      refine p_iret rfl rfl (by decide +kernel) ?_
      exact ⟨by rw [if_pos (by rw [hx]; exact ⟨by decide, by decide⟩), hx]; rfl, rfl⟩
    | 4, _, hx =>
      have hx : a = Int32.ofInt (4) := hx
      refine ⟨55, 56, rfl, rfl, ?_⟩
      refine p_run (pc' := 63) [.aload_n 0, .getfield 9, .iconst 1, .iload_n 1, .iadd] mkX8_count (by decide +kernel) rfl rfl ?_
      refine p_iald (1 + 4) (by decide +kernel) rfl rfl (by rw [hx]; rfl) (by omega) ?_
      refine p_iret rfl rfl (by decide +kernel) ?_
      exact ⟨by rw [if_pos (by rw [hx]; exact ⟨by decide, by decide⟩), hx]; rfl, rfl⟩
    | 5, _, hx =>
      have hx : a = Int32.ofInt (5) := hx
      refine ⟨55, 56, rfl, rfl, ?_⟩
      refine p_run (pc' := 63) [.aload_n 0, .getfield 9, .iconst 1, .iload_n 1, .iadd] mkX8_count (by decide +kernel) rfl rfl ?_
      refine p_iald (1 + 5) (by decide +kernel) rfl rfl (by rw [hx]; rfl) (by omega) ?_
      refine p_iret rfl rfl (by decide +kernel) ?_
      exact ⟨by rw [if_pos (by rw [hx]; exact ⟨by decide, by decide⟩), hx]; rfl, rfl⟩
    | 6, _, hx =>
      have hx : a = Int32.ofInt (6) := hx
      refine ⟨64, 65, rfl, rfl, ?_⟩
      refine p_run (pc' := 71) [.aload_n 0, .getfield 9, .bipush 7] mkX8_count (by decide +kernel) rfl rfl ?_
      refine p_iald (7) (by decide +kernel) rfl rfl (by first | rfl | simp only [oI]) (by omega) ?_
      refine p_iret rfl rfl (by decide +kernel) ?_
      exact ⟨by rw [if_pos (by rw [hx]; exact ⟨by decide, by decide⟩), hx]; rfl, rfl⟩
    | 7, _, hx =>
      have hx : a = Int32.ofInt (7) := hx
      refine ⟨72, 73, rfl, rfl, ?_⟩
      refine p_run (pc' := 77) [.aload_n 0, .getfield 289] mkX8_count (by decide +kernel) rfl rfl ?_
      refine p_iret rfl rfl (by decide +kernel) ?_
      exact ⟨by rw [if_pos (by rw [hx]; exact ⟨by decide, by decide⟩), hx]; rfl, rfl⟩
    | 8, _, hx =>
      have hx : a = Int32.ofInt (8) := hx
      refine ⟨77, 78, rfl, rfl, ?_⟩
      refine p_run (pc' := 82) [.aload_n 0, .getfield 213] mkX8_count (by decide +kernel) rfl rfl ?_
      refine p_iret rfl rfl (by decide +kernel) ?_
      exact ⟨by rw [if_pos (by rw [hx]; exact ⟨by decide, by decide⟩), hx]; rfl, rfl⟩
    | 9, _, hx =>
      have hx : a = Int32.ofInt (9) := hx
      refine ⟨82, 83, rfl, rfl, ?_⟩
      refine p_run (pc' := 88) [.aload_n 0, .getfield 9, .iconst 0] mkX8_count (by decide +kernel) rfl rfl ?_
      refine p_iald (0) (by decide +kernel) rfl rfl (by first | rfl | simp only [oI]) (by omega) ?_
      refine p_iret rfl rfl (by decide +kernel) ?_
      exact ⟨by rw [if_pos (by rw [hx]; exact ⟨by decide, by decide⟩), hx]; rfl, rfl⟩
    | j + 10, hj, _ => exact absurd hj (by simp)
  · refine ⟨90, rfl, ?_⟩
    refine p_run (pc' := 92) [.ldc 123] mkX8_count (by decide +kernel) rfl rfl ?_
    refine p_iret rfl rfl (by decide +kernel) ?_
    exact ⟨by rw [if_neg (fun q => by have h1 := Int32.le_iff_toInt_le.mp q.1; have h2 := Int32.le_iff_toInt_le.mp q.2; rw [nI_toInt (by omega)] at h1 h2; omega)], rfl⟩
set_option maxRecDepth 20000 in
set_option maxHeartbeats 4000000 in
theorem r_tell_full (w : Wt) {k : Nat} (a : Int32) (h : Mm) (hq : In (h 96 32) 60) (hf : nN (h 96 32) = 60) : Ok w k MX8_tell [.ref 96, .int a] h (Rv FULLv h) := by
  show Wp w k MX8_tell _ 0 [some (.ref 96), some (.int a)] [] h
  refine p_run (pc' := 6) [.aload_n 0, .getfield 289, .bipush 60] mkX8_tell (by decide +kernel) rfl rfl ?_
  have hq2 := hq.2
  refine Wp.eqS (st' := [.int (Int32.ofInt 60), .int (nI (nN (h 96 32)))]) (by rw [← hq.1]) ?_
  refine p_icmp_ne (off := 6) 12 (by decide +kernel) (by decide) (fun c1 => ?_) (fun c1 => ?_)
  · exact absurd (by rw [hf, oI]) c1
  · refine p_run (pc' := 11) [.ldc 124] mkX8_tell (by decide +kernel) rfl rfl ?_
    refine p_iret rfl rfl (by decide +kernel) ?_
    exact ⟨rfl, rfl⟩
set_option maxRecDepth 20000 in
set_option maxHeartbeats 4000000 in
theorem r_tell (w : Wt) {k : Nat} (a : Int32) (h : Mm) (hq : In (h 96 32) 60) (hf : nN (h 96 32) < 60) : Ok w k MX8_tell [.ref 96, .int a] h (Rv (nI (nN (h 96 32) + 1)) (up (up h 117 (nN (h 96 32)) a) 96 32 (nI (nN (h 96 32) + 1)))) := by
  show Wp w k MX8_tell _ 0 [some (.ref 96), some (.int a)] [] h
  refine p_run (pc' := 6) [.aload_n 0, .getfield 289, .bipush 60] mkX8_tell (by decide +kernel) rfl rfl ?_
  have hq2 := hq.2
  refine Wp.eqS (st' := [.int (Int32.ofInt 60), .int (nI (nN (h 96 32)))]) (by rw [← hq.1]) ?_
  refine p_icmp_ne (off := 6) 12 (by decide +kernel) (by decide) (fun c1 => ?_) (fun c1 => ?_)
  · refine p_run (pc' := 21) [.aload_n 0, .getfield 72, .aload_n 0, .getfield 289, .iload_n 1] mkX8_tell (by decide +kernel) rfl rfl ?_
    refine p_iast (nN (h 96 32)) (by decide +kernel) rfl rfl hq.1 (by omega)  ?_
    refine p_run (pc' := 36) [.aload_n 0, .dup, .getfield 289, .iconst 1, .iadd, .putfield 289, .aload_n 0, .getfield 289] mkX8_tell (by decide +kernel) rfl rfl ?_
    refine p_iret rfl rfl (by decide +kernel) ?_
    refine ⟨?_, ?_⟩
    · simp only [up, show ¬ (96 : Nat) = 117 by decide, false_and, if_false, and_self, if_true]; rw [hq.1, nN_nI (by omega), oI, nI_add]
    · simp only [up, show ¬ (96 : Nat) = 117 by decide, false_and, if_false]; rw [hq.1, oI, nI_add, nN_nI (by omega)]
  · rw [oI, nI_eq (by omega) (by omega)] at c1
    exact absurd c1 (by omega)
set_option maxRecDepth 20000 in
set_option maxHeartbeats 4000000 in
theorem r_textTold_bad (w : Wt) {k : Nat} (hk : 1 ≤ k) (a b : Int32) (h : Mm) (hb : ¬ ((nI 0 ≤ a ∧ a ≤ h 97 7 - nI 1) ∧ inR b 0 1)) : Ok w k MX8_textTold [.ref 96, .int a, .int b] h (Rv BADv h) := by
  show Wp w k MX8_textTold _ 0 [some (.ref 96), some (.int a), some (.int b)] [] h
  refine p_run (pc' := 8) [.iload_n 1, .iconst 0, .aload_n 0, .getfield 9, .bipush 7] mkX8_textTold (by decide +kernel) rfl rfl ?_
  refine p_iald (7) (by decide +kernel) rfl rfl (by first | rfl | simp only [oI]) (by omega) ?_
  refine p_run (pc' := 11) [.iconst 1, .isub] mkX8_textTold (by decide +kernel) rfl rfl ?_
  refine p_callSv (in_ok w (k := k - 1) _ _ _ _) ksX8_75 (by decide +kernel) (by omega) rfl rfl rfl rfl rfl ?_
  refine p_if_eq (off := 12) 26 (by decide +kernel) (by decide) (fun c14 => ?_) (fun c14 => ?_)
  · refine p_run (pc' := 28) [.ldc 123] mkX8_textTold (by decide +kernel) rfl rfl ?_
    refine p_iret rfl rfl (by decide +kernel) ?_
    exact ⟨rfl, rfl⟩
  · refine p_run (pc' := 20) [.iload_n 2, .iconst 0, .iconst 1] mkX8_textTold (by decide +kernel) rfl rfl ?_
    refine p_callSv (in_ok w (k := k - 1) _ _ _ _) ksX8_75 (by decide +kernel) (by omega) rfl rfl rfl rfl rfl ?_
    refine p_if_ne (off := 6) 29 (by decide +kernel) (by decide) (fun c23 => ?_) (fun c23 => ?_)
    · exact absurd ⟨bI1.mp c14, bI1.mp c23⟩ hb
    · refine p_run (pc' := 28) [.ldc 123] mkX8_textTold (by decide +kernel) rfl rfl ?_
      refine p_iret rfl rfl (by decide +kernel) ?_
      exact ⟨rfl, rfl⟩
set_option maxRecDepth 20000 in
set_option maxHeartbeats 4000000 in
theorem r_textTold (w : Wt) {k : Nat} (hk : 1 ≤ k) (t j : Nat) (h : Mm) (h7 : In (h 97 7) 14) (hT : Tq (h 97)) (ht : t < nN (h 97 7)) (hj : j ≤ 1) : Ok w k MX8_textTold [.ref 96, .int (nI t), .int (nI j)] h (Rv (if j = 0 then nI (nN (h 97 (70 + 2 * t)) / 1000) else h 97 (70 + 2 * t + 1)) h) := by
  show Wp w k MX8_textTold _ 0 [some (.ref 96), some (.int (nI t)), some (.int (nI j))] [] h
  have h72 := h7.2
  have hX := hT t (by omega)
  have hX2 := hX.2
  refine p_run (pc' := 8) [.iload_n 1, .iconst 0, .aload_n 0, .getfield 9, .bipush 7] mkX8_textTold (by decide +kernel) rfl rfl ?_
  refine p_iald (7) (by decide +kernel) rfl rfl (by first | rfl | simp only [oI]) (by omega) ?_
  refine p_run (pc' := 11) [.iconst 1, .isub] mkX8_textTold (by decide +kernel) rfl rfl ?_
  refine p_callSv (in_t w (k := k - 1) _ _ _ _ ((show nI 0 ≤ nI t ∧ nI t ≤ h 97 7 - nI 1 by rw [h7.1, nIs (by omega)]; exact ⟨nI_le (by omega) (by omega), nI_le (by omega) (by omega)⟩))) ksX8_75 (by decide +kernel) (by omega) rfl rfl rfl rfl rfl ?_
  refine p_if_eq (off := 12) 26 (by decide +kernel) (by decide) (fun c14 => ?_) (fun c14 => ?_)
  · exact False.elim (by revert c14; decide)
  · refine p_run (pc' := 20) [.iload_n 2, .iconst 0, .iconst 1] mkX8_textTold (by decide +kernel) rfl rfl ?_
    refine p_callSv (in_t w (k := k - 1) _ _ _ _ (in_nI (lo := 0) (hi := 1) (by omega) hj (by omega))) ksX8_75 (by decide +kernel) (by omega) rfl rfl rfl rfl rfl ?_
    refine p_if_ne (off := 6) 29 (by decide +kernel) (by decide) (fun c23 => ?_) (fun c23 => ?_)
    · refine p_run (pc' := 30) [.iload_n 2] mkX8_textTold (by decide +kernel) rfl rfl ?_
      refine p_if_ne (off := 21) 51 (by decide +kernel) (by decide) (fun c30 => ?_) (fun c30 => ?_)
      · rw [nI_eq0 (by omega)] at c30
        refine p_run (pc' := 63) [.aload_n 0, .getfield 9, .bipush 70, .iconst 2, .iload_n 1, .imul, .iadd, .iconst 1, .iadd] mkX8_textTold (by decide +kernel) rfl rfl ?_
        refine p_iald (70 + 2 * t + 1) (by decide +kernel) rfl rfl (by simp only [oI, nI_add, nIm]) (by omega) ?_
        refine p_iret rfl rfl (by decide +kernel) ?_
        exact ⟨congrArg (fun x => some (Value.int x)) (by first | (rw [if_pos c30, oI, pk_div (by omega) (by omega) (by omega), nN_nI (by omega)]; done) | (rw [if_neg c30]; done)), rfl⟩
      · rw [nI_eq0 (by omega)] at c30
        refine p_run (pc' := 43) [.aload_n 0, .getfield 9, .bipush 70, .iconst 2, .iload_n 1, .imul, .iadd] mkX8_textTold (by decide +kernel) rfl rfl ?_
        refine p_iald (70 + 2 * t) (by decide +kernel) rfl rfl (by simp only [oI, nI_add, nIm]) (by omega) ?_
        rw [hX.1]
        refine p_run (pc' := 47) [.sipush 1000] mkX8_textTold (by decide +kernel) rfl rfl ?_
        refine p_idiv (by decide +kernel) (by decide) ?_
        refine p_run (pc' := 64) [.goto 16] mkX8_textTold (by decide +kernel) rfl rfl ?_
        refine p_iret rfl rfl (by decide +kernel) ?_
        exact ⟨congrArg (fun x => some (Value.int x)) (by first | (rw [if_pos c30, oI, pk_div (by omega) (by omega) (by omega), nN_nI (by omega)]; done) | (rw [if_neg c30]; done)), rfl⟩
    · exact False.elim (by revert c23; decide)
set_option maxRecDepth 20000 in
set_option maxHeartbeats 4000000 in
theorem r_why_bad (w : Wt) {k : Nat} (hk : 2 ≤ k) (a : Int32) (h : Mm)  (hb : ¬ (inR a 0 2)) : Ok w k MX8_why [.ref 96, .int a] h (Rv BADv h) := by
  show Wp w k MX8_why _ 0 [some (.ref 96), some (.int a), none] [] h
  refine p_run (pc' := 3) [.iload_n 1, .iconst 0, .iconst 2] mkX8_why (by decide +kernel) rfl rfl ?_
  refine p_callSv (in_ok w (k := k - 1) _ _ _ _) ksX8_75 (by decide +kernel) (by omega) rfl rfl rfl rfl rfl ?_
  refine p_if_ne (off := 6) 12 (by decide +kernel) (by decide) (fun c6 => ?_) (fun c6 => ?_)
  · exact absurd (bI1.mp c6) hb
  · refine p_run (pc' := 11) [.ldc 123] mkX8_why (by decide +kernel) rfl rfl ?_
    refine p_iret rfl rfl (by decide +kernel) ?_
    exact ⟨rfl, rfl⟩
set_option maxRecDepth 20000 in
set_option maxHeartbeats 4000000 in
theorem r_why (w : Wt) {k : Nat} (hk : 2 ≤ k) (j : Nat) (h : Mm) (hI : Iv (h 97)) (hT : Tq (h 97)) (hj : j ≤ 2) : Ok w k MX8_why [.ref 96, .int (nI j)] h (Rv (oN (lawT (h 97) j)) h) := by
  show Wp w k MX8_why _ 0 [some (.ref 96), some (.int (nI j)), none] [] h
  refine p_run (pc' := 3) [.iload_n 1, .iconst 0, .iconst 2] mkX8_why (by decide +kernel) rfl rfl ?_
  refine p_callSv (in_t w (k := k - 1) _ _ _ _ (in_nI (lo := 0) (hi := 2) (by omega) hj (by omega))) ksX8_75 (by decide +kernel) (by omega) rfl rfl rfl rfl rfl ?_
  refine p_if_ne (off := 6) 12 (by decide +kernel) (by decide) (fun c6 => ?_) (fun c6 => ?_)
  · refine p_run (pc' := 14) [.aload_n 0, .iload_n 1] mkX8_why (by decide +kernel) rfl rfl ?_
    refine p_callVv (counts_ok w (k := k - 1) j (by omega) h hI.tx hT) kvX8_86 (by decide +kernel) (by decide) rfl (by omega) rfl rfl rfl rfl rfl ?_
    cases hl : lawT (h 97) j with
    | none =>
      rw [show oT none = Int32.ofInt (-1) from rfl]
      refine p_run (pc' := 19) [.istore_n 2, .iload_n 2] mkX8_why (by decide +kernel) rfl rfl ?_
      refine p_if_ge (off := 8) 27 (by decide +kernel) (by decide) (fun c1 => ?_) (fun c1 => ?_)
      · exact False.elim (by revert c1; decide)
      · refine p_run (pc' := 28) [.ldc 195, .goto 4] mkX8_why (by decide +kernel) rfl rfl ?_
        refine p_iret rfl rfl (by decide +kernel) ?_
        exact ⟨by (try rw [hl]); rfl, rfl⟩
    | some t =>
      rw [show oT (some t) = nI t from rfl]
      obtain ⟨ht, -, -⟩ := lastT_spec hl hI
      refine p_run (pc' := 19) [.istore_n 2, .iload_n 2] mkX8_why (by decide +kernel) rfl rfl ?_
      refine p_if_ge (off := 8) 27 (by decide +kernel) (by decide) (fun c1 => ?_) (fun c1 => ?_)
      · refine p_run (pc' := 28) [.iload_n 2] mkX8_why (by decide +kernel) rfl rfl ?_
        refine p_iret rfl rfl (by decide +kernel) ?_
        exact ⟨by (try rw [hl]); rfl, rfl⟩
      · exact absurd (by rw [← nI_0]; exact nI_le (Nat.zero_le _) (by omega)) c1
  · exact False.elim (by revert c6; decide)
