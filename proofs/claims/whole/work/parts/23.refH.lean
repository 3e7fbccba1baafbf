/-! the reference: sums, sets, who comes -/
def inR (v : Int32) (lo hi : Nat) : Prop := nI lo ≤ v ∧ v ≤ nI hi
def isD (N : Vc) (v : Int32) : Prop := nI 0 ≤ v ∧ v ≤ N 1 - nI 1
theorem in_nI {j lo hi : Nat} (h1 : lo ≤ j) (h2 : j ≤ hi) (h3 : hi < 2 ^ 31) : inR (nI j) lo hi := ⟨nI_le h1 (by omega), nI_le h2 h3⟩
theorem inR_of {v : Int32} {lo hi : Nat} (h2 : lo < 2 ^ 31) (h3 : hi < 2 ^ 31) (h : inR v lo hi) : ∃ j, lo ≤ j ∧ j ≤ hi ∧ v = nI j := by
  obtain ⟨e, hj⟩ := In_of h3 (Int32.le_trans (nI_le (Nat.zero_le _) h2) h.1) h.2
  have h1 := h.1
  rw [e] at h1
  exact ⟨nN v, (nI_leI h2 (by omega)).mp h1, hj, e⟩
theorem isD_nI {N : Vc} {d n : Nat} (hn : N 1 = nI n) (h : d < n) (hn2 : n ≤ 10) : isD N (nI d) := by
  unfold isD
  rw [hn, nIs (by omega)]
  exact ⟨nI_le (Nat.zero_le _) (by omega), nI_le (by omega) (by omega)⟩
theorem isD_of {N : Vc} {n : Nat} {v : Int32} (hn : N 1 = nI n) (hn2 : n ≤ 10) (h : isD N v) : ∃ d, d < n ∧ v = nI d := by
  unfold isD at h
  cases n with
  | zero =>
    rw [hn] at h
    exact absurd (Int32.le_trans h.1 h.2) (by decide)
  | succ n =>
    rw [hn, nIs (by omega), Nat.add_sub_cancel] at h
    obtain ⟨e, hj⟩ := In_of (by omega) h.1 h.2
    exact ⟨_, by omega, e⟩
def sumF (f : Nat → Int32) : Nat → Int32
  | 0 => nI 0
  | n + 1 => sumF f n + f n
def addF (N : Vc) (a b c e : Int32) : Vc := upd (upd (upd (upd (upd (upd N 1 (N 1 + nI 1)) (20 + 5 * nd N + 0) a) (20 + 5 * nd N + 1) b) (20 + 5 * nd N + 2) c) (20 + 5 * nd N + 3) e) (20 + 5 * nd N + 4) (nI 0)
theorem in_t (w : Wt) {k : Nat} (v lo hi : Int32) (h : Mm) (hp : lo ≤ v ∧ v ≤ hi) : Ok w k MX8_in [.int v, .int lo, .int hi] h (Rv (nI 1) h) := (in_ok w v lo hi h).imp (fun r h' q => ⟨by rw [q.1, bIt hp]; rfl, q.2⟩)
theorem isDigger_t (w : Wt) {k : Nat} (hk : 1 ≤ k) (v : Int32) (h : Mm) (hp : isD (h 97) v) : Ok w k MX8_isDigger [.ref 96, .int v] h (Rv (nI 1) h) := (risDigger_ok w hk v h).imp (fun r h' q => ⟨by rw [q.1, bIt (p := nI 0 ≤ v ∧ v ≤ h 97 1 - nI 1) hp]; rfl, q.2⟩)
theorem isBranch_t (w : Wt) {k : Nat} (hk : 1 ≤ k) (v : Int32) (h : Mm) (hp : inR v 0 3) : Ok w k MX8_isBranch [.int v] h (Rv (nI 1) h) := (risBranch_ok w hk v h).imp (fun r h' q => ⟨by rw [q.1, bIt (p := nI 0 ≤ v ∧ v ≤ nI 3) hp]; rfl, q.2⟩)
theorem isSheet_t (w : Wt) {k : Nat} (hk : 1 ≤ k) (v : Int32) (h : Mm) (hp : inR v 0 3) : Ok w k MX8_isSheet [.int v] h (Rv (nI 1) h) := (risSheet_ok w hk v h).imp (fun r h' q => ⟨by rw [q.1, bIt (p := nI 0 ≤ v ∧ v ≤ nI 3) hp]; rfl, q.2⟩)
theorem isSlot_t (w : Wt) {k : Nat} (hk : 1 ≤ k) (v : Int32) (h : Mm) (hp : inR v 0 4) : Ok w k MX8_isSlot [.int v] h (Rv (nI 1) h) := (risSlot_ok w hk v h).imp (fun r h' q => ⟨by rw [q.1, bIt (p := nI 0 ≤ v ∧ v ≤ nI 4) hp]; rfl, q.2⟩)
set_option maxRecDepth 20000 in
set_option maxHeartbeats 4000000 in
theorem sums_loop (w : Wt) {k : Nat} (hk : 1 ≤ k) (j : Nat) (hj : j < 5) (h : Mm) (hI : Iv (h 97)) : ∀ (m i : Nat), i + m = nd (h 97) → Wp w k MX8_sums (Rv (sumF (fun d => dK (h 97) d j) (nd (h 97))) h) 4 [some (.ref 96), some (.int (nI j)), some (.int (sumF (fun d => dK (h 97) d j) i)), some (.int (nI i))] [] h := by
  obtain ⟨en, hn10⟩ := hI.nd
  intro m
  induction m with
  | zero =>
    intro i hi
    have hi : i = nd (h 97) := by omega
    refine p_run (pc' := 10) [.iload_n 3, .aload_n 0, .getfield 9, .iconst 1] mkX8_sums (by decide +kernel) rfl rfl ?_
    refine p_iald (1) (by decide +kernel) rfl rfl (by simp only [oI]) (by omega) ?_
    rw [en]
    rw [hi]
    refine p_icmp_ge (off := 18) 29 (by decide +kernel) (by decide) (fun c1 => ?_) (fun c1 => ?_)
    · refine p_run (pc' := 30) [.iload_n 2] mkX8_sums (by decide +kernel) rfl rfl ?_
      refine p_iret rfl rfl (by decide +kernel) ?_
      exact ⟨rfl, rfl⟩
    · exact absurd (by first | decide | ((try simp only [oI]); exact nI_le (Nat.le_refl _) (by omega))) c1
  | succ m ih =>
    intro i hi
    refine p_run (pc' := 10) [.iload_n 3, .aload_n 0, .getfield 9, .iconst 1] mkX8_sums (by decide +kernel) rfl rfl ?_
    refine p_iald (1) (by decide +kernel) rfl rfl (by simp only [oI]) (by omega) ?_
    rw [en]
    refine p_icmp_ge (off := 18) 29 (by decide +kernel) (by decide) (fun c1 => ?_) (fun c1 => ?_)
    · exact absurd c1 (by (try simp only [oI]); exact nI_ge (by omega) (by omega))
    · refine p_run (pc' := 18) [.iload_n 2, .aload_n 0, .iload_n 3, .iload_n 1] mkX8_sums (by decide +kernel) rfl rfl ?_
      refine p_callVv (of_ok w (k := k - 1) i j _ (by omega)) kvX8_83 (by decide +kernel) (by decide) rfl (by omega) rfl rfl rfl rfl rfl ?_
      refine p_run (pc' := 4) [.iadd, .istore_n 2, .iinc 3 1, .goto (-22)] mkX8_sums (by decide +kernel) rfl rfl ?_
      refine Wp.eqL ?_ (ih (i + 1) (by omega))
      rw [show nI i + Int32.ofInt 1 = nI (i + 1) by simp only [oI, nI_add], sumF]
      rfl
set_option maxRecDepth 20000 in
set_option maxHeartbeats 4000000 in
theorem sums_ok (w : Wt) {k : Nat} (hk : 1 ≤ k) (j : Nat) (hj : j < 5) (h : Mm) (hI : Iv (h 97)) : Ok w k MX8_sums [.ref 96, .int (nI j)] h (Rv (sumF (fun d => dK (h 97) d j) (nd (h 97))) h) := by
  show Wp w k MX8_sums _ 0 [some (.ref 96), some (.int (nI j)), none, none] [] h
  refine p_run (pc' := 4) [.iconst 0, .istore_n 2, .iconst 0, .istore_n 3] mkX8_sums (by decide +kernel) rfl rfl ?_
  exact sums_loop w hk j hj h hI (nd (h 97)) 0 (by omega)
set_option maxRecDepth 20000 in
set_option maxHeartbeats 4000000 in
theorem allDug_loop (w : Wt) {k : Nat} (hk : 1 ≤ k) (h : Mm) : ∀ (m i : Nat), i + m = 4 → Wp w k MX8_allDug (Rv (sumF (fun b => bK (h 97) b 0) 4) h) 4 [some (.ref 96), some (.int (sumF (fun b => bK (h 97) b 0) i)), some (.int (nI i))] [] h := by
  intro m
  induction m with
  | zero =>
    intro i hi
    have hi : i = 4 := by omega
    refine p_run (pc' := 6) [.iload_n 2, .iconst 4] mkX8_allDug (by decide +kernel) rfl rfl ?_
    rw [hi]
    refine p_icmp_ge (off := 18) 24 (by decide +kernel) (by decide) (fun c1 => ?_) (fun c1 => ?_)
    · refine p_run (pc' := 25) [.iload_n 1] mkX8_allDug (by decide +kernel) rfl rfl ?_
      refine p_iret rfl rfl (by decide +kernel) ?_
      exact ⟨rfl, rfl⟩
    · exact absurd (by first | decide | ((try simp only [oI]); exact nI_le (Nat.le_refl _) (by omega))) c1
  | succ m ih =>
    intro i hi
    refine p_run (pc' := 6) [.iload_n 2, .iconst 4] mkX8_allDug (by decide +kernel) rfl rfl ?_
    refine p_icmp_ge (off := 18) 24 (by decide +kernel) (by decide) (fun c1 => ?_) (fun c1 => ?_)
    · exact absurd c1 (by (try simp only [oI]); exact nI_ge (by omega) (by omega))
    · refine p_run (pc' := 13) [.iload_n 1, .aload_n 0, .iload_n 2, .iconst 0] mkX8_allDug (by decide +kernel) rfl rfl ?_
      refine p_callVv (at_ok w (k := k - 1) i 0 _ (by omega)) kvX8_79 (by decide +kernel) (by decide) rfl (by omega) rfl rfl rfl rfl rfl ?_
      refine p_run (pc' := 4) [.iadd, .istore_n 1, .iinc 2 1, .goto (-17)] mkX8_allDug (by decide +kernel) rfl rfl ?_
      refine Wp.eqL ?_ (ih (i + 1) (by omega))
      rw [show nI i + Int32.ofInt 1 = nI (i + 1) by simp only [oI, nI_add], sumF]
      rfl
set_option maxRecDepth 20000 in
set_option maxHeartbeats 4000000 in
theorem allDug_ok (w : Wt) {k : Nat} (hk : 1 ≤ k) (h : Mm) : Ok w k MX8_allDug [.ref 96] h (Rv (sumF (fun b => bK (h 97) b 0) 4) h) := by
  show Wp w k MX8_allDug _ 0 [some (.ref 96), none, none] [] h
  refine p_run (pc' := 4) [.iconst 0, .istore_n 1, .iconst 0, .istore_n 2] mkX8_allDug (by decide +kernel) rfl rfl ?_
  exact allDug_loop w hk h 4 0 (by omega)
def frF (N : Vc) : Nat → Nat
  | 0 => 0
  | i + 1 => if bK N (frF N i) 0 < bK N i 0 then i else frF N i
theorem frF_lt (N : Vc) : ∀ i, i ≤ 4 → frF N i < 4
  | 0, _ => by simp [frF]
  | i + 1, h => by
    have := frF_lt N i (by omega)
    rw [frF]
    split <;> omega
set_option maxRecDepth 20000 in
set_option maxHeartbeats 4000000 in
theorem front_loop (w : Wt) {k : Nat} (hk : 1 ≤ k) (h : Mm) : ∀ (m i : Nat), i + m = 4 → 1 ≤ i → Wp w k MX8_front (Rv (nI (frF (h 97) 4)) h) 4 [some (.ref 96), some (.int (nI (frF (h 97) i))), some (.int (nI i))] [] h := by
  intro m
  induction m with
  | zero =>
    intro i hi h1
    have hi : i = 4 := by omega
    subst hi
    refine p_run (pc' := 6) [.iload_n 2, .iconst 4] mkX8_front (by decide +kernel) rfl rfl ?_
    refine p_icmp_ge (off := 30) 36 (by decide +kernel) (by decide) (fun c1 => ?_) (fun c1 => ?_)
    · refine p_run (pc' := 37) [.iload_n 1] mkX8_front (by decide +kernel) rfl rfl ?_
      refine p_iret rfl rfl (by decide +kernel) ?_
      exact ⟨rfl, rfl⟩
    · exact absurd (by decide) c1
  | succ m ih =>
    intro i hi h1
    refine p_run (pc' := 6) [.iload_n 2, .iconst 4] mkX8_front (by decide +kernel) rfl rfl ?_
    refine p_icmp_ge (off := 30) 36 (by decide +kernel) (by decide) (fun c1 => ?_) (fun c1 => ?_)
    · exact absurd c1 (by simp only [oI]; exact nI_ge (by omega) (by omega))
    · have hf := frF_lt (h 97) i (by omega)
      refine p_run (pc' := 12) [.aload_n 0, .iload_n 2, .iconst 0] mkX8_front (by decide +kernel) rfl rfl ?_
      refine p_callVv (at_ok w (k := k - 1) i 0 _ (by omega)) kvX8_79 (by decide +kernel) (by decide) rfl (by omega) rfl rfl rfl rfl rfl ?_
      refine p_run (pc' := 18) [.aload_n 0, .iload_n 1, .iconst 0] mkX8_front (by decide +kernel) rfl rfl ?_
      refine p_callVv (at_ok w (k := k - 1) (frF (h 97) i) 0 _ (by omega)) kvX8_79 (by decide +kernel) (by decide) rfl (by omega) rfl rfl rfl rfl rfl ?_
      refine p_icmp_le (off := 7) 28 (by decide +kernel) (by decide) (fun c2 => ?_) (fun c2 => ?_)
      · refine p_run (pc' := 4) [.iload_n 1, .istore_n 1, .iinc 2 1, .goto (-29)] mkX8_front (by decide +kernel) rfl rfl ?_
        refine Wp.eqL ?_ (ih (i + 1) (by omega) (by omega))
        rw [show nI i + Int32.ofInt 1 = nI (i + 1) by simp only [oI, nI_add], frF, if_neg (show ¬ bK (h 97) (frF (h 97) i) 0 < bK (h 97) i 0 from Int32.not_lt.mpr c2)]
      · refine p_run (pc' := 4) [.iload_n 2, .goto 4, .istore_n 1, .iinc 2 1, .goto (-29)] mkX8_front (by decide +kernel) rfl rfl ?_
        refine Wp.eqL ?_ (ih (i + 1) (by omega) (by omega))
        rw [show nI i + Int32.ofInt 1 = nI (i + 1) by simp only [oI, nI_add], frF, if_pos (show bK (h 97) (frF (h 97) i) 0 < bK (h 97) i 0 from Int32.not_le.mp c2)]
set_option maxRecDepth 20000 in
set_option maxHeartbeats 4000000 in
theorem front_ok (w : Wt) {k : Nat} (hk : 1 ≤ k) (h : Mm) : Ok w k MX8_front [.ref 96] h (Rv (nI (frF (h 97) 4)) h) := by
  show Wp w k MX8_front _ 0 [some (.ref 96), none, none] [] h
  refine p_run (pc' := 4) [.iconst 0, .istore_n 1, .iconst 1, .istore_n 2] mkX8_front (by decide +kernel) rfl rfl ?_
  exact Wp.eqL (by rw [show frF (h 97) 1 = 0 by rw [frF, frF]; split <;> rfl]; rfl) (front_loop w hk h 3 1 (by omega) (by omega))
def peB (N : Vc) (b : Nat) : Bool := decide (setF (inB N b) (nd N) ≠ 0)
set_option maxRecDepth 20000 in
set_option maxHeartbeats 4000000 in
theorem peopled_loop (w : Wt) {k : Nat} (hk : 2 ≤ k) (h : Mm) (hI : Iv (h 97)) : ∀ (m i : Nat), i + m = 4 → Wp w k MX8_peopled (Rv (nI (setF (peB (h 97)) 4)) h) 4 [some (.ref 96), some (.int (nI (setF (peB (h 97)) i))), some (.int (nI i))] [] h := by
  obtain ⟨en, hn10⟩ := hI.nd
  intro m
  induction m with
  | zero =>
    intro i hi
    have hi : i = 4 := by omega
    refine p_run (pc' := 6) [.iload_n 2, .iconst 4] mkX8_peopled (by decide +kernel) rfl rfl ?_
    rw [hi]
    refine p_icmp_ge (off := 27) 33 (by decide +kernel) (by decide) (fun c1 => ?_) (fun c1 => ?_)
    · refine p_run (pc' := 34) [.iload_n 1] mkX8_peopled (by decide +kernel) rfl rfl ?_
      refine p_iret rfl rfl (by decide +kernel) ?_
      exact ⟨rfl, rfl⟩
    · exact absurd (by first | decide | ((try simp only [oI]); exact nI_le (Nat.le_refl _) (by omega))) c1
  | succ m ih =>
    intro i hi
    refine p_run (pc' := 6) [.iload_n 2, .iconst 4] mkX8_peopled (by decide +kernel) rfl rfl ?_
    refine p_icmp_ge (off := 27) 33 (by decide +kernel) (by decide) (fun c1 => ?_) (fun c1 => ?_)
    · exact absurd c1 (by (try simp only [oI]); exact nI_ge (by omega) (by omega))
    · refine p_run (pc' := 12) [.iload_n 1, .aload_n 0, .iload_n 2] mkX8_peopled (by decide +kernel) rfl rfl ?_
      refine p_callVv (rdiggersIn_ok w (k := k - 1) (by omega) i (nd (h 97)) _ en hn10) kvX8_152 (by decide +kernel) (by decide) rfl (by omega) rfl rfl rfl rfl rfl ?_
      refine p_if_eq (off := 9) 24 (by decide +kernel) (by decide) (fun c2 => ?_) (fun c2 => ?_)
      · rw [nI_eq0 (by have := setF_1024 (inB (h 97) i) hn10; omega)] at c2
        refine p_run (pc' := 4) [.iconst 0, .ior, .istore_n 1, .iinc 2 1, .goto (-26)] mkX8_peopled (by decide +kernel) rfl rfl ?_
        refine Wp.eqL ?_ (ih (i + 1) (by omega))
        rw [show nI i + Int32.ofInt 1 = nI (i + 1) by simp only [oI, nI_add], setF, if_neg (by unfold peB; simp [c2])]
        simp only [Nat.add_zero, oI, or_0]
      · rw [nI_eq0 (by have := setF_1024 (inB (h 97) i) hn10; omega)] at c2
        refine p_run (pc' := 4) [.iconst 1, .iload_n 2, .ishl, .goto 4, .ior, .istore_n 1, .iinc 2 1, .goto (-26)] mkX8_peopled (by decide +kernel) rfl rfl ?_
        refine Wp.eqL ?_ (ih (i + 1) (by omega))
        rw [show nI i + Int32.ofInt 1 = nI (i + 1) by simp only [oI, nI_add], setF, if_pos (by unfold peB; simp [c2]), ← or_pow (setF_lt _ i), ← shl1 i (by omega)]
        rfl
set_option maxRecDepth 20000 in
set_option maxHeartbeats 4000000 in
theorem peopled_ok (w : Wt) {k : Nat} (hk : 2 ≤ k) (h : Mm) (hI : Iv (h 97)) : Ok w k MX8_peopled [.ref 96] h (Rv (nI (setF (peB (h 97)) 4)) h) := by
  show Wp w k MX8_peopled _ 0 [some (.ref 96), none, none] [] h
  refine p_run (pc' := 4) [.iconst 0, .istore_n 1, .iconst 0, .istore_n 2] mkX8_peopled (by decide +kernel) rfl rfl ?_
  exact peopled_loop w hk h hI 4 0 (by omega)
set_option maxRecDepth 20000 in
set_option maxHeartbeats 4000000 in
theorem comes_ok (w : Wt) {k : Nat} (hk : 1 ≤ k) (a b c e : Int32) (h : Mm) (hI : Iv (h 97)) (hn : nd (h 97) < 10) : Ok w k MX8_comes [.ref 96, .int a, .int b, .int c, .int e] h (fun r h' => r = some (.int (nI (nd (h 97)))) ∧ h' 97 = addF (h 97) a b c e ∧ Ag [97] h h') := by
  show Wp w k MX8_comes _ 0 [some (.ref 96), some (.int a), some (.int b), some (.int c), some (.int e), none] [] h
  obtain ⟨en, hn10⟩ := hI.nd
  refine p_run (pc' := 5) [.aload_n 0, .getfield 9, .iconst 1] mkX8_comes (by decide +kernel) rfl rfl ?_
  refine p_iald (1) (by decide +kernel) rfl rfl (by simp only [oI]) (by omega) ?_
  rw [en]
  refine p_run (pc' := 14) [.istore 5, .aload_n 0, .getfield 9, .iconst 1, .dup2] mkX8_comes (by decide +kernel) rfl rfl ?_
  refine p_iald (1) (by decide +kernel) rfl rfl (by simp only [oI]) (by omega) ?_
  refine p_run (pc' := 17) [.iconst 1, .iadd] mkX8_comes (by decide +kernel) rfl rfl ?_
  refine p_iast (1) (by decide +kernel) rfl rfl (by simp only [oI]) (by omega)  ?_
  refine p_run (pc' := 23) [.aload_n 0, .iload 5, .iconst 0, .iload_n 1] mkX8_comes (by decide +kernel) rfl rfl ?_
  refine p_callVw (put_ok w (k := k - 1) (nd (h 97)) 0 _ _ (by omega)) kvX8_116 (by decide +kernel) (by decide) rfl (by omega) rfl rfl rfl rfl rfl ?_
  refine p_run (pc' := 31) [.aload_n 0, .iload 5, .iconst 1, .iload_n 2] mkX8_comes (by decide +kernel) rfl rfl ?_
  refine p_callVw (put_ok w (k := k - 1) (nd (h 97)) 1 _ _ (by omega)) kvX8_116 (by decide +kernel) (by decide) rfl (by omega) rfl rfl rfl rfl rfl ?_
  refine p_run (pc' := 39) [.aload_n 0, .iload 5, .iconst 2, .iload_n 3] mkX8_comes (by decide +kernel) rfl rfl ?_
  refine p_callVw (put_ok w (k := k - 1) (nd (h 97)) 2 _ _ (by omega)) kvX8_116 (by decide +kernel) (by decide) rfl (by omega) rfl rfl rfl rfl rfl ?_
  refine p_run (pc' := 48) [.aload_n 0, .iload 5, .iconst 3, .iload 4] mkX8_comes (by decide +kernel) rfl rfl ?_
  refine p_callVw (put_ok w (k := k - 1) (nd (h 97)) 3 _ _ (by omega)) kvX8_116 (by decide +kernel) (by decide) rfl (by omega) rfl rfl rfl rfl rfl ?_
  refine p_run (pc' := 56) [.aload_n 0, .iload 5, .iconst 4, .iconst 0] mkX8_comes (by decide +kernel) rfl rfl ?_
  refine p_callVw (put_ok w (k := k - 1) (nd (h 97)) 4 _ _ (by omega)) kvX8_116 (by decide +kernel) (by decide) rfl (by omega) rfl rfl rfl rfl rfl ?_
  refine p_run (pc' := 61) [.iload 5] mkX8_comes (by decide +kernel) rfl rfl ?_
  refine p_iret rfl rfl (by decide +kernel) ?_
  exact ⟨rfl, by simp only [upS, oI]; rfl, (Ag.up (by decide)).tr ((Ag.up (by decide)).tr ((Ag.up (by decide)).tr ((Ag.up (by decide)).tr ((Ag.up (by decide)).tr (Ag.up (by decide))))))⟩
