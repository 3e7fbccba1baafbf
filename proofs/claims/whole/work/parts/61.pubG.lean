/-! keep, back, check, sheet, mark, copy, lay -/
theorem zF7 : ∀ C T N, vwCl[7]? = some (C, T, N) → (T 9).2.2.2 = false ∧ parseFieldDescriptor (T 9).2.2.1 = some .boolean := by
  intro C T N h
  cases h
  exact ⟨by decide +kernel, by decide +kernel⟩
theorem up0 {h : Mm} {k : Nat} {x : Int32} {a : Nat} (ha : a ≠ 0) : up h 0 k x a = h a := upN ha
theorem RS.set {h h2 : Mm} (hR : RS h) {s : Nat} (hs : s < 4) (x y : Int32) (a1 : h2 (66 + 2 * s) 1 = x) (a2 : h2 (66 + 2 * s) 2 = y) (b1 : h2 109 s = x) (b2 : h2 110 s = y) (c : ∀ k, k < 24 → h2 (66 + 2 * s + 1) k = h2 111 (24 * s + k)) (hx : x = Int32.ofInt (-1) ∨ x = nI 0 ∨ x = nI 1) (hy : In y 24)
    (o : ∀ t, t < 4 → t ≠ s → h2 (66 + 2 * t) = h (66 + 2 * t) ∧ h2 (66 + 2 * t + 1) = h (66 + 2 * t + 1) ∧ h2 109 t = h 109 t ∧ h2 110 t = h 110 t ∧ ∀ k, k < 24 → h2 111 (24 * t + k) = h 111 (24 * t + k)) : RS h2 := by
  intro t ht
  by_cases e : t = s
  · subst e
    exact ⟨a1.trans b1.symm, a2.trans b2.symm, c, by rw [b1]; exact hx, by rw [b2]; exact hy⟩
  · obtain ⟨o1, o2, o3, o4, o5⟩ := o t ht e
    obtain ⟨q1, q2, q3, q4, q5⟩ := hR t ht
    rw [o1, o2, o3, o4]
    exact ⟨q1, q2, fun k hk => by rw [o5 k hk]; exact q3 k hk, q4, q5⟩
theorem In24 {x : Int32} (h0 : ¬ x < 0) (h1 : x ≤ nI 24) : In x 24 := In_of (by omega) (Int32.not_lt.mp h0) h1
set_option maxRecDepth 20000 in
set_option maxHeartbeats 4000000 in
theorem c_keep (w : Wt) {k : Nat} (hk : 200 ≤ k) (N : Vc) (h : Mm) (hI : Iv N) (hP : PR 11 h N) (hT : TR h N) : Ok w k MX7_keep [.ref 0] h (fun r h' => r = some (.int (N 1)) ∧ ∃ h1, PR 29 h1 N ∧ Fp 29 h h1 ∧ h' = up h1 0 9 (Int32.ofInt 1)) := by
  show Wp w k MX7_keep _ 0 [some (.ref 0)] [] h
  refine p_run (pc' := 8) [.aload_n 0, .getfield 32, .aload_n 0, .getfield 28] mkX7_keep (by decide +kernel) rfl rfl ?_
  refine p_callVo (cbec29_11 w (k := k - 1) (by omega) N h hI hP) (fun _ _ q => q.1) kvX7_190 (by decide +kernel) (by decide) rfl (by omega) rfl rfl rfl rfl rfl (fun h' hq => ?_)
  obtain ⟨-, hR1, hF1⟩ := hq
  rename Mm => h1
  refine p_run (pc' := 13) [.aload_n 0, .iconst 1] mkX7_keep (by decide +kernel) rfl rfl ?_
  refine p_putZ (by decide +kernel) fo7_60 (by decide) rfl zF7 rfl (Or.inr rfl) ?_
  refine p_run (pc' := 23) [.aload_n 0, .getfield 32, .getfield 76] mkX7_keep (by decide +kernel) rfl rfl ?_
  refine p_iret rfl rfl (by decide +kernel) ?_
  exact ⟨by rw [up0 (by decide), hR1.1.1], h1, hR1, hF1, rfl⟩
theorem st_keep (w : Wt) {k : Nat} (hk : 200 ≤ k) (h : Mm) (hR : Rel h) : St w k MX7_keep MX8_keep [] h := by
  obtain ⟨⟨hP, hI, hQ, hT, hq⟩, -⟩ := id hR
  refine St.mk (c_keep w hk (h 97) h hI hP hT) (fun r h' q => ?_)
  obtain ⟨q1, h1, q2, q3, rfl⟩ := q
  have e97 : up h1 0 9 (Int32.ofInt 1) 97 = h 97 := by rw [up0 (by decide)]; exact q3 97 (by omega) (by omega) (by omega)
  refine ⟨_, q1, (r_keep w (by omega) _).imp (fun r2 h2 z => ⟨by rw [z.1, e97], ?_⟩)⟩
  rw [z.2]
  clear z
  generalize hh : up (wr (up h1 0 9 (Int32.ofInt 1)) 98 (up h1 0 9 (Int32.ofInt 1) 97)) 96 3 (Int32.ofInt 1) = h2'
  have z : ∀ a, a ≠ 0 → a ≠ 98 → a ≠ 96 → ¬ (29 ≤ a ∧ a ≤ 46) → a ≠ 6 → a ≠ 7 → h2' a = h a := fun a n1 n2 n3 n4 n5 n6 => by
    rw [← hh, upN n3, wrN n2, up0 n1]; exact q3 a (by omega) n5 n6
  have z' : ∀ a, a ≠ 0 ∧ a ≠ 98 ∧ a ≠ 96 ∧ ¬ (29 ≤ a ∧ a ≤ 46) ∧ a ≠ 6 ∧ a ≠ 7 → h2' a = h a := fun a n => z a n.1 n.2.1 n.2.2.1 n.2.2.2.1 n.2.2.2.2.1 n.2.2.2.2.2
  have z0 : ∀ j, j ≠ 9 → h2' 0 j = h 0 j := fun j hj => by rw [← hh, upN (by decide), wrN (by decide), upS, upd_n hj, q3 0 (by omega) (by omega) (by omega)]
  have z96 : ∀ j, j ≠ 3 → h2' 96 j = h 96 j := fun j hj => by rw [← hh, upS, upd_n hj, wrN (by decide), up0 (by decide), q3 96 (by omega) (by omega) (by omega)]
  have y97 := z' 97 (by omega)
  have y98 : h2' 98 = h 97 := by rw [← hh, upN (by decide), wrS, e97]
  have y0 : h2' 0 9 = Int32.ofInt 1 := by rw [← hh, upN (by decide), wrN (by decide), upS, upd_s]
  have y96 : h2' 96 3 = Int32.ofInt 1 := by rw [← hh, upS, upd_s]
  obtain ⟨r1, r2, r3, r4, r5, r6⟩ := hR
  refine ⟨r1.of y97 (fun a h1 h2 => z' a (by omega)) (fun a h1 h2 => z' a (by omega)), ⟨y0.trans y96.symm, Or.inr y96, fun _ => ?_⟩, r3.of (by rw [z' 8 (by omega)]) (z96 6 (by decide)) (z' 9 (by omega)) (z' 101 (by omega)) (z' 102 (by omega)) (z' 103 (by omega)), r4.of (fun a h1 h2 => z' a (by omega)) (z' 109 (by omega)) (z' 110 (by omega)) (z' 111 (by omega)), r5.of (fun a h1 h2 => z' a (by omega)) (z' 112 (by omega)) (z' 113 (by omega)) (z' 114 (by omega)) (z' 115 (by omega)), r6.of (z0 8 (by decide)) (z96 32 (by decide)) (z' 95 (by omega)) (z' 117 (by omega))⟩
  rw [y98, y97]
  exact ⟨q2.of (fun a n1 n2 => by rw [← hh, upN (by omega), wrN (by omega), up0 (by omega)]) hI.nd.2, hI, hQ, hT.of (fun a n1 n2 => z' a (by omega)) (fun _ _ => rfl) rfl, hq, Nat.le_refl _⟩
set_option maxRecDepth 20000 in
set_option maxHeartbeats 4000000 in
theorem c_back_no (w : Wt) {k : Nat} (hk : 200 ≤ k) (h : Mm) (e : h 0 9 = 0) : Ok w k MX7_back [.ref 0] h (Rv NOv h) := by
  show Wp w k MX7_back _ 0 [some (.ref 0)] [] h
  refine p_run (pc' := 4) [.aload_n 0, .getfield 60] mkX7_back (by decide +kernel) rfl rfl ?_
  refine p_if_ne (off := 7) 11 (by decide +kernel) (by decide) (fun cq1 => ?_) (fun cq1 => ?_)
  · exact absurd e cq1
  · refine p_run (pc' := 10) [.ldc_w 309] mkX7_back (by decide +kernel) rfl rfl ?_
    refine p_iret rfl rfl (by decide +kernel) ?_
    exact ⟨rfl, rfl⟩
set_option maxRecDepth 20000 in
set_option maxHeartbeats 4000000 in
theorem c_back (w : Wt) {k : Nat} (hk : 200 ≤ k) (N : Vc) (h : Mm) (hI : Iv N) (hP : PR 29 h N) (e : ¬ h 0 9 = 0) : Ok w k MX7_back [.ref 0] h (Rn1 (N 1) N h) := by
  show Wp w k MX7_back _ 0 [some (.ref 0)] [] h
  refine p_run (pc' := 4) [.aload_n 0, .getfield 60] mkX7_back (by decide +kernel) rfl rfl ?_
  refine p_if_ne (off := 7) 11 (by decide +kernel) (by decide) (fun cq1 => ?_) (fun cq1 => ?_)
  · refine p_run (pc' := 19) [.aload_n 0, .getfield 28, .aload_n 0, .getfield 32] mkX7_back (by decide +kernel) rfl rfl ?_
    refine p_callVo (cbec11_29 w (k := k - 1) (by omega) N h hI hP) (fun _ _ q => q.1) kvX7_190 (by decide +kernel) (by decide) rfl (by omega) rfl rfl rfl rfl rfl (fun h' hq => ?_)
    obtain ⟨-, hR1, hF1⟩ := hq
    refine p_run (pc' := 29) [.aload_n 0, .getfield 28, .getfield 76] mkX7_back (by decide +kernel) rfl rfl ?_
    refine p_iret rfl rfl (by decide +kernel) ?_
    exact ⟨by rw [hR1.1.1], hR1, hF1⟩
  · exact absurd cq1 e
theorem st_back (w : Wt) {k : Nat} (hk : 200 ≤ k) (h : Mm) (hR : Rel h) : St w k MX7_back MX8_back [] h := by
  obtain ⟨⟨hP, hI, hQ, hT, hq⟩, -⟩ := id hR
  obtain ⟨i1, i2, i3⟩ := hR.2.1
  by_cases e : h 96 3 = 0
  · have hr := r_back w (k := k) (by omega) h
    rw [if_pos e, if_pos e] at hr
    exact St.word hR (c_back_no w hk h (i1.trans e)) hr
  · obtain ⟨p1, p2, p3, p4, p5, p6⟩ := i3 e
    refine St.mk (c_back w hk (h 98) h p2 p1 (by rw [i1]; exact e)) (fun r h1 q => ?_)
    obtain ⟨q1, q2, q3⟩ := q
    have y : ∀ a, ¬ (11 ≤ a ∧ a ≤ 28) ∧ a ≠ 6 ∧ a ≠ 7 → h1 a = h a := fun a n => q3 a (by omega) n.2.1 n.2.2
    have e96 := y 96 (by omega)
    have e98 := y 98 (by omega)
    have hr := r_back w (k := k) (by omega) h1
    rw [e96, if_neg e, if_neg e, e98] at hr
    refine ⟨_, q1, hr.imp (fun r2 h2 z => ⟨z.1, ?_⟩)⟩
    rw [z.2]
    have z' : ∀ a, a ≠ 97 ∧ ¬ (11 ≤ a ∧ a ≤ 28) ∧ a ≠ 6 ∧ a ≠ 7 → wr h1 97 (h 98) a = h a := fun a n => by rw [wrN n.1]; exact y a n.2
    have y97 : wr h1 97 (h 98) 97 = h 98 := wrS _ _ _
    generalize hh : wr h1 97 (h 98) = h2' at *
    obtain ⟨r1, r2, r3, r4, r5, r6⟩ := hR
    refine ⟨?_, ⟨by rw [z' 0 (by omega), z' 96 (by omega)]; exact i1, by rw [z' 96 (by omega)]; exact i2, fun _ => ?_⟩, r3.of (by rw [z' 8 (by omega)]) (by rw [z' 96 (by omega)]) (z' 9 (by omega)) (z' 101 (by omega)) (z' 102 (by omega)) (z' 103 (by omega)), r4.of (fun a h1 h2 => z' a (by omega)) (z' 109 (by omega)) (z' 110 (by omega)) (z' 111 (by omega)), r5.of (fun a h1 h2 => z' a (by omega)) (z' 112 (by omega)) (z' 113 (by omega)) (z' 114 (by omega)) (z' 115 (by omega)), r6.of (by rw [z' 0 (by omega)]) (by rw [z' 96 (by omega)]) (z' 95 (by omega)) (z' 117 (by omega))⟩
    · unfold RN
      rw [y97]
      exact ⟨q2.of (fun a n1 n2 => by rw [← hh, wrN (by omega)]) p2.nd.2, p2, p3, p4.of (fun a n1 n2 => z' a (by omega)) (fun _ _ => rfl) rfl, p5⟩
    · rw [y97, z' 98 (by omega)]
      exact ⟨p1.of (fun a n1 n2 => z' a (by omega)) p2.nd.2, p2, p3, p4.of (fun a n1 n2 => z' a (by omega)) (fun _ _ => rfl) rfl, p5, Nat.le_refl _⟩
set_option maxRecDepth 20000 in
set_option maxHeartbeats 4000000 in
theorem c_isTold (w : Wt) {k : Nat} (p q : Nat) (due : Int32) (h : Mm) (hp : p ≤ 100) (hq : q ≤ 60) : Ok w k MX7_isTold [.ref 0, .int (nI p), .int (nI q), .int due] h (Rv (bI (p < q ∧ h 95 p = due)) h) := by
  show Wp w k MX7_isTold _ 0 [some (.ref 0), some (.int (nI p)), some (.int (nI q)), some (.int due)] [] h
  refine p_run (pc' := 2) [.iload_n 1, .iload_n 2] mkX7_isTold (by decide +kernel) rfl rfl ?_
  refine p_icmp_ge (off := 23) 25 (by decide +kernel) (by decide) (fun cq2 => ?_) (fun cq2 => ?_)
  · (try simp only [oI] at cq2)
    rw [nI_leI (by omega) (by omega)] at cq2
    refine p_run (pc' := 26) [.iconst 0] mkX7_isTold (by decide +kernel) rfl rfl ?_
    refine p_iret rfl rfl (by decide +kernel) ?_
    exact ⟨by rw [bIf (fun z => by omega)]; rfl, rfl⟩
  · (try simp only [oI] at cq2)
    rw [nI_leI (by omega) (by omega)] at cq2
    refine p_run (pc' := 8) [.iload_n 1, .bipush 60] mkX7_isTold (by decide +kernel) rfl rfl ?_
    refine p_icmp_ge (off := 17) 25 (by decide +kernel) (by decide) (fun cq8 => ?_) (fun cq8 => ?_)
    · (try simp only [oI] at cq8)
      rw [nI_leI (by omega) (by omega)] at cq8
      refine p_run (pc' := 26) [.iconst 0] mkX7_isTold (by decide +kernel) rfl rfl ?_
      refine p_iret rfl rfl (by decide +kernel) ?_
      exact ⟨by rw [bIf (fun z => by omega)]; rfl, rfl⟩
    · (try simp only [oI] at cq8)
      rw [nI_leI (by omega) (by omega)] at cq8
      refine p_run (pc' := 16) [.aload_n 0, .getfield 52, .iload_n 1] mkX7_isTold (by decide +kernel) rfl rfl ?_
      refine p_iald (p) (by decide +kernel) rfl rfl (by first | rfl | simp only [oI]) (by omega) ?_
      refine p_run (pc' := 18) [.iload_n 3] mkX7_isTold (by decide +kernel) rfl rfl ?_
      refine p_icmp_ne (off := 7) 25 (by decide +kernel) (by decide) (fun cq18 => ?_) (fun cq18 => ?_)
      · refine p_run (pc' := 26) [.iconst 0] mkX7_isTold (by decide +kernel) rfl rfl ?_
        refine p_iret rfl rfl (by decide +kernel) ?_
        exact ⟨by rw [bIf (fun z => cq18 z.2)]; rfl, rfl⟩
      · refine p_run (pc' := 26) [.iconst 1, .goto 4] mkX7_isTold (by decide +kernel) rfl rfl ?_
        refine p_iret rfl rfl (by decide +kernel) ?_
        exact ⟨by rw [bIt ⟨by omega, cq18⟩]; rfl, rfl⟩
theorem ck_step {o1 o2 : Nat → Bool} {n i : Nat} (h : i < n) : ckF o1 o2 (n - i) i = if o1 i = true then (if o2 i = true then ckF o1 o2 (n - (i + 1)) (i + 1) else 2 * i + 1) else 2 * i := by
  rw [show n - i = (n - (i + 1)) + 1 by omega, ckF]
theorem ck_end {o1 o2 : Nat → Bool} {n : Nat} : ckF o1 o2 (n - n) n = 2 * n := by rw [Nat.sub_self, ckF]
set_option maxRecDepth 20000 in
set_option maxHeartbeats 4000000 in
theorem c_check_bad (w : Wt) {k : Nat} (hk : 200 ≤ k) (a : Int32) (h : Mm) (hb : ¬ inR a 1 30) : Ok w k MX7_check [.ref 0, .int a] h (Rv BADv (up h 0 8 (nI 0))) := by
  show Wp w k MX7_check _ 0 [some (.ref 0), some (.int a), none, none, none] [] h
  refine p_run (pc' := 14) [.aload_n 0, .getfield 56, .istore_n 2, .aload_n 0, .iconst 0, .putfield 56, .iload_n 1, .iconst 1, .bipush 30] mkX7_check (by decide +kernel) rfl rfl ?_
  refine p_callSv (cwithin_ok w (k := k - 1) _ _ _ _) ksX7_68 (by decide +kernel) (by omega) rfl rfl rfl rfl rfl ?_
  refine p_if_ne (off := 6) 23 (by decide +kernel) (by decide) (fun cq17 => ?_) (fun cq17 => ?_)
  · have cq17 := bI1.mp cq17
    exact absurd cq17 hb
  · have cq17 := bI0.mp cq17
    refine p_run (pc' := 22) [.ldc 75] mkX7_check (by decide +kernel) rfl rfl ?_
    refine p_iret rfl rfl (by decide +kernel) ?_
    exact ⟨rfl, rfl⟩
set_option maxRecDepth 20000 in
set_option maxHeartbeats 4000000 in
theorem c_check_no (w : Wt) {k : Nat} (hk : 200 ≤ k) (n : Nat) (hn : 1 ≤ n ∧ n ≤ 30) (h : Mm) (e : h 0 9 = 0) : Ok w k MX7_check [.ref 0, .int (nI n)] h (Rv NOv (up h 0 8 (nI 0))) := by
  show Wp w k MX7_check _ 0 [some (.ref 0), some (.int (nI n)), none, none, none] [] h
  refine p_run (pc' := 14) [.aload_n 0, .getfield 56, .istore_n 2, .aload_n 0, .iconst 0, .putfield 56, .iload_n 1, .iconst 1, .bipush 30] mkX7_check (by decide +kernel) rfl rfl ?_
  refine p_callSv (cwithin_ok w (k := k - 1) _ _ _ _) ksX7_68 (by decide +kernel) (by omega) rfl rfl rfl rfl rfl ?_
  refine p_if_ne (off := 6) 23 (by decide +kernel) (by decide) (fun cq17 => ?_) (fun cq17 => ?_)
  · have cq17 := bI1.mp cq17
    refine p_run (pc' := 27) [.aload_n 0, .getfield 60] mkX7_check (by decide +kernel) rfl rfl ?_
    refine p_if_ne (off := 7) 34 (by decide +kernel) (by decide) (fun cq27 => ?_) (fun cq27 => ?_)
    · exact absurd (by rw [upS, upd_n (by decide)]; exact e) cq27
    · refine p_run (pc' := 33) [.ldc_w 309] mkX7_check (by decide +kernel) rfl rfl ?_
      refine p_iret rfl rfl (by decide +kernel) ?_
      exact ⟨rfl, rfl⟩
  · have cq17 := bI0.mp cq17
    exact absurd (in_nI (j := n) (lo := 1) (hi := 30) (by omega) (by omega) (by omega)) cq17
set_option maxRecDepth 20000 in
set_option maxHeartbeats 4000000 in
theorem c_check (w : Wt) {k : Nat} (hk : 200 ≤ k) (n q : Nat) (hn : 1 ≤ n ∧ n ≤ 30) (N : Vc) (h : Mm) (hI : Iv N) (hP : PR 29 h N) (hT : TR h N) (hq2 : In (N 2) 9999) (e : ¬ h 0 9 = 0) (e8 : h 0 8 = nI q) (hqq : q ≤ 60) : Ok w k MX7_check [.ref 0, .int (nI n)] h (fun r h' => r = some (.int (ckA N (h 95) q (min (9999 - nN (N 2)) n))) ∧ Fp 47 (up h 0 8 (nI 0)) h') := by
  show Wp w k MX7_check _ 0 [some (.ref 0), some (.int (nI n)), none, none, none] [] h
  have hn10 := hI.nd.2
  refine p_run (pc' := 5) [.aload_n 0, .getfield 56, .istore_n 2] mkX7_check (by decide +kernel) rfl rfl ?_
  rw [e8]
  refine p_run (pc' := 14) [.aload_n 0, .iconst 0, .putfield 56, .iload_n 1, .iconst 1, .bipush 30] mkX7_check (by decide +kernel) rfl rfl ?_
  refine p_callSv (cwithin_ok w (k := k - 1) _ _ _ _) ksX7_68 (by decide +kernel) (by omega) rfl rfl rfl rfl rfl ?_
  refine p_if_ne (off := 6) 23 (by decide +kernel) (by decide) (fun cq17 => ?_) (fun cq17 => ?_)
  · have cq17 := bI1.mp cq17
    refine p_run (pc' := 27) [.aload_n 0, .getfield 60] mkX7_check (by decide +kernel) rfl rfl ?_
    refine p_if_ne (off := 7) 34 (by decide +kernel) (by decide) (fun cq27 => ?_) (fun cq27 => ?_)
    · skip
      refine p_run (pc' := 46) [.iload_n 1, .sipush 9999, .aload_n 0, .getfield 32, .getfield 168, .isub] mkX7_check (by decide +kernel) rfl rfl ?_
      rw [show up h 0 8 (Int32.ofInt 0) 29 10 = N 2 from (congrFun (up0 (by decide)) 10).trans hP.1.2.2.2.2.2.2.1, show Int32.ofInt 9999 - N 2 = nI (9999 - nN (N 2)) from (congrArg (Int32.ofInt 9999 - ·) hq2.1).trans (nIs (a := 9999) hq2.2)]
      refine p_mmin jlX7_153 (by decide +kernel) (by omega) rfl ?_
      rw [mn_nI (by omega) (by omega), Nat.min_comm n (9999 - nN (N 2))]
      have hP0 : PR 29 (up h 0 8 (Int32.ofInt 0)) N := hP.of (fun a n1 n2 => up0 (by omega)) hn10
      have hT0 : TR (up h 0 8 (Int32.ofInt 0)) N := hT.of (fun a n1 n2 => up0 (by omega)) (fun _ _ => rfl) rfl
      have e95 : up h 0 8 (Int32.ofInt 0) 95 = h 95 := up0 (by decide)
      have eh : up h 0 8 (nI 0) = up h 0 8 (Int32.ofInt 0) := rfl
      rw [eh]
      generalize up h 0 8 (Int32.ofInt 0) = h0 at *
      have hmm : min (9999 - nN (N 2)) n ≤ 30 := by omega
      generalize min (9999 - nN (N 2)) n = nn at *
      refine p_run (pc' := 58) [.istore_n 3, .aload_n 0, .getfield 35, .aload_n 0, .getfield 32] mkX7_check (by decide +kernel) rfl rfl ?_
      refine p_callVo (cbec47_29 w (k := k - 1) (by omega) N h0 hI hP0) (fun _ _ q => q.1) kvX7_190 (by decide +kernel) (by decide) rfl (by omega) rfl rfl rfl rfl rfl (fun h' hq => ?_)
      obtain ⟨-, hR1, hF1⟩ := hq
      rename Mm => h1
      refine p_run (pc' := 64) [.iconst 0, .istore 4] mkX7_check (by decide +kernel) rfl rfl ?_
      refine Wp.for (nn) (fun i L hh => L = [some (.ref 0), some (.int (nI n)), some (.int (nI q)), some (.int (nI nn)), some (.int (nI i))] ∧ (ckF (ck1 N (h 95) q) (ck2 N (h 95) q) nn 0 = ckF (ck1 N (h 95) q) (ck2 N (h 95) q) (nn - i) i ∧ 2 * i ≤ q ∧ PR 47 hh (nsF N i) ∧ Fp 47 h0 hh)) ?_ ?_ (0) (by omega) _ _ ?_
      · rintro i L hh hi ⟨rfl, hJ⟩ ih
        obtain ⟨hJ1, hJ2, hR2, hF2⟩ := hJ
        rw [ck_step hi] at hJ1
        refine p_run (pc' := 67) [.iload 4, .iload_n 3] mkX7_check (by decide +kernel) rfl rfl ?_
        refine p_icmp_ge (off := 71) 138 (by decide +kernel) (by decide) (fun cqh => ?_) (fun cqh => ?_)
        · exact absurd cqh (nI_ge (by omega) (by omega))
        · refine p_run (pc' := 75) [.aload_n 0, .getfield 35, .iconst 1] mkX7_check (by decide +kernel) rfl rfl ?_
          refine p_callVo (cpass47 w (k := k - 1) (by omega) 1 (by omega) (nsF N i) hh (nsF_Iv hI i) hR2 ((hT0.fp pp47 hF2).da (fun j hj => nsF_out hI (by omega) i) (nsF_out hI (by omega) i))) (fun _ _ q => q.1) kvX7_171 (by decide +kernel) (by decide) rfl (by omega) rfl rfl rfl rfl rfl (fun h' hq => ?_)
          obtain ⟨-, hR3, hF3⟩ := hq
          rename Mm => h3
          have hR3 : PR 47 h3 (nsF N (i + 1)) := hR3
          have hF := hF2.tr hF3
          have e3 : h3 95 = h 95 := (hF 95 (by omega) (by omega) (by omega)).trans e95
          refine p_run (pc' := 91) [.aload_n 0, .iconst 2, .iload 4, .imul, .iload_n 2, .aload_n 0, .getfield 35, .getfield 175] mkX7_check (by decide +kernel) rfl rfl ?_
          rw [show Int32.ofInt 2 * nI i = nI (2 * i) from mulI 2 i, hR3.1.2.2.2.2.1]
          refine p_callVv (c_isTold w (k := k - 1) (2 * i) q _ h3 (by omega) hqq) kvX7_310 (by decide +kernel) (by decide) rfl (by omega) rfl rfl rfl rfl rfl ?_
          rw [e3]
          refine p_if_ne (off := 10) 104 (by decide +kernel) (by decide) (fun cq94 => ?_) (fun cq94 => ?_)
          · have cq94 := bI1.mp cq94
            rw [if_pos (ck1_iff.mpr cq94)] at hJ1
            refine p_run (pc' := 116) [.aload_n 0, .iconst 2, .iload 4, .imul, .iconst 1, .iadd, .iload_n 2, .aload_n 0, .getfield 35] mkX7_check (by decide +kernel) rfl rfl ?_
            refine p_callVv (cdugOfAll47 w (k := k - 1) (nsF N (i + 1)) h3 (nsF_Iv hI _) hR3) kvX7_313 (by decide +kernel) (by decide) rfl (by omega) rfl rfl rfl rfl rfl ?_
            rw [show Int32.ofInt 2 * nI i + Int32.ofInt 1 = nI (2 * i + 1) from by rw [show Int32.ofInt 2 * nI i = nI (2 * i) from mulI 2 i]; exact nI_add _ _]
            refine p_callVv (c_isTold w (k := k - 1) (2 * i + 1) q _ h3 (by omega) hqq) kvX7_310 (by decide +kernel) (by decide) rfl (by omega) rfl rfl rfl rfl rfl ?_
            rw [e3]
            refine p_if_ne (off := 10) 132 (by decide +kernel) (by decide) (fun cq122 => ?_) (fun cq122 => ?_)
            · have cq122 := bI1.mp cq122
              rw [if_pos (ck2_iff.mpr cq122)] at hJ1
              refine p_run (pc' := 64) [.iinc 4 1, .goto (-71)] mkX7_check (by decide +kernel) rfl rfl ?_
              exact ih _ _ ⟨by rw [show nI i + Int32.ofInt 1 = nI (i + 1) by simp only [oI, nI_add]], hJ1, by omega, hR3, hF⟩
            · have cq122 := bI0.mp cq122
              rw [if_neg (fun z => cq122 (ck2_iff.mp z))] at hJ1
              refine p_run (pc' := 131) [.iconst 2, .iconst 2, .iload 4, .imul, .iadd] mkX7_check (by decide +kernel) rfl rfl ?_
              refine p_iret rfl rfl (by decide +kernel) ?_
              exact ⟨by unfold ckA; rw [hJ1, if_neg (by omega), show Int32.ofInt 2 + Int32.ofInt 2 * nI i = nI (1 + (2 * i + 1)) from by rw [show Int32.ofInt 2 * nI i = nI (2 * i) from mulI 2 i, oI, nI_add]; congr 1; omega], hF⟩
          · have cq94 := bI0.mp cq94
            rw [if_neg (fun z => cq94 (ck1_iff.mp z))] at hJ1
            refine p_run (pc' := 103) [.iconst 1, .iconst 2, .iload 4, .imul, .iadd] mkX7_check (by decide +kernel) rfl rfl ?_
            refine p_iret rfl rfl (by decide +kernel) ?_
            exact ⟨by unfold ckA; rw [hJ1, if_neg (by omega), show Int32.ofInt 1 + Int32.ofInt 2 * nI i = nI (1 + 2 * i) from by rw [show Int32.ofInt 2 * nI i = nI (2 * i) from mulI 2 i, oI, nI_add]], hF⟩
      · rintro L hh ⟨rfl, hJ⟩
        obtain ⟨hJ1, hJ2, hR2, hF2⟩ := hJ
        rw [ck_end] at hJ1
        refine p_run (pc' := 67) [.iload 4, .iload_n 3] mkX7_check (by decide +kernel) rfl rfl ?_
        refine p_icmp_ge (off := 71) 138 (by decide +kernel) (by decide) (fun cqh => ?_) (fun cqh => ?_)
        · refine p_run (pc' := 142) [.iload_n 2, .iconst 2, .iload_n 3, .imul] mkX7_check (by decide +kernel) rfl rfl ?_
          rw [show Int32.ofInt 2 * nI nn = nI (2 * nn) from mulI 2 nn]
          refine p_icmp_le (off := 11) 153 (by decide +kernel) (by decide) (fun cq142 => ?_) (fun cq142 => ?_)
          · rw [nI_leI (by omega) (by omega)] at cq142
            refine p_run (pc' := 154) [.iconst 0] mkX7_check (by decide +kernel) rfl rfl ?_
            refine p_iret rfl rfl (by decide +kernel) ?_
            exact ⟨by unfold ckA; rw [hJ1, if_pos (by omega)]; rfl, hF2⟩
          · rw [nI_leI (by omega) (by omega)] at cq142
            refine p_run (pc' := 154) [.iconst 1, .iconst 2, .iload_n 3, .imul, .iadd, .goto 4] mkX7_check (by decide +kernel) rfl rfl ?_
            refine p_iret rfl rfl (by decide +kernel) ?_
            exact ⟨by unfold ckA; rw [hJ1, if_neg (by omega), show Int32.ofInt 1 + Int32.ofInt 2 * nI nn = nI (1 + 2 * nn) from by rw [show Int32.ofInt 2 * nI nn = nI (2 * nn) from mulI 2 nn, oI, nI_add]], hF2⟩
        · exact absurd (nI_le (Nat.le_refl _) (by omega)) cqh
      · exact ⟨rfl, rfl, by omega, hR1, hF1⟩
    · exact absurd (by rw [upS, upd_n (by decide)] at cq27; exact cq27) e
  · have cq17 := bI0.mp cq17
    exact absurd (in_nI (j := n) (lo := 1) (hi := 30) (by omega) (by omega) (by omega)) cq17
theorem ckF_congr {o1 o2 p1 p2 : Nat → Bool} : ∀ {m k : Nat}, (∀ i, i < k + m → o1 i = p1 i ∧ o2 i = p2 i) → ckF o1 o2 m k = ckF p1 p2 m k
  | 0, _, _ => rfl
  | m + 1, k, h => by rw [ckF, ckF, (h k (by omega)).1, (h k (by omega)).2, ckF_congr (fun i hi => h i (by omega))]
theorem ckA_congr {I t t' : Vc} {q n : Nat} (hq : q ≤ 60) (h : ∀ k, k < 60 → t k = t' k) : ckA I t q n = ckA I t' q n := by
  unfold ckA
  rw [ckF_congr (p1 := ck1 I t' q) (p2 := ck2 I t' q) (fun i _ => ⟨by rw [Bool.eq_iff_iff, ck1_iff, ck1_iff]; exact ⟨fun z => ⟨z.1, by rw [← h _ (by omega)]; exact z.2⟩, fun z => ⟨z.1, by rw [h _ (by omega)]; exact z.2⟩⟩, by rw [Bool.eq_iff_iff, ck2_iff, ck2_iff]; exact ⟨fun z => ⟨z.1, by rw [← h _ (by omega)]; exact z.2⟩, fun z => ⟨z.1, by rw [h _ (by omega)]; exact z.2⟩⟩⟩)]
theorem Rel.ck {h h1 h2 : Mm} (hR : Rel h) (hF : Fp 47 (up h 0 8 (nI 0)) h1) (hA : Ag [99, 107, 108] (up h1 96 32 (nI 0)) h2) : Rel h2 := by
  have z : ∀ a, a ≠ 0 ∧ a ≠ 96 ∧ a ≠ 99 ∧ a ≠ 107 ∧ a ≠ 108 ∧ a ≠ 6 ∧ a ≠ 7 ∧ ¬ (47 ≤ a ∧ a ≤ 64) → h2 a = h a := fun a n => by
    rw [hA a (by simp; omega), upN (by omega), hF a (by omega) (by omega) (by omega), up0 (by omega)]
  have e0 : h2 0 = upd (h 0) 8 (nI 0) := by rw [hA 0 (by decide), upN (by decide), hF 0 (by omega) (by omega) (by omega), upS]
  have e96 : h2 96 = upd (h 96) 32 (nI 0) := by rw [hA 96 (by decide), upS, hF 96 (by omega) (by omega) (by omega), up0 (by decide)]
  refine hR.rw (fun a n => z a (by omega)) (by rw [e0, upd_n (by decide)]) (by rw [e96, upd_n (by decide)]) (by rw [e96, upd_n (by decide)]) ⟨by rw [e0, e96, upd_s, upd_s], by rw [e96, upd_s]; exact In_nI (by omega) (by omega), ?_⟩
  rw [z 95 (by omega), z 117 (by omega)]
  exact hR.2.2.2.2.2.2.2
theorem st_check (w : Wt) {k : Nat} (hk : 200 ≤ k) (a : Int32) (h : Mm) (hR : Rel h) : St w k MX7_check MX8_check [.int a] h := by
  obtain ⟨⟨hP, hI, hQ, hT, hq⟩, -⟩ := id hR
  obtain ⟨w1, w2, w3⟩ := hR.2.2.2.2.2
  obtain ⟨i1, i2, i3⟩ := hR.2.1
  by_cases hg : inR a 1 30
  · obtain ⟨n, hn0, hn, rfl⟩ := inR_of (by omega) (by omega) hg
    by_cases e : h 96 3 = 0
    · refine St.mk (c_check_no w hk n ⟨hn0, hn⟩ h (i1.trans e)) (fun r h1 q => ⟨_, q.1, ?_⟩)
      refine (r_check_no w (by omega) n ⟨hn0, hn⟩ h1 (by rw [q.2, up0 (by decide)]; exact e)).imp (fun r2 h2 z => ⟨z.1, hR.ck (h1 := h1) (by rw [q.2]; exact Fp.rf) (by rw [z.2]; exact Ag.rf)⟩)
    · obtain ⟨p1, p2, p3, p4, p5, p6⟩ := i3 e
      refine St.mk (c_check w hk n (nN (h 96 32)) ⟨hn0, hn⟩ (h 98) h p2 p1 p4 p5 (by rw [i1]; exact e) (w1.trans w2.1) w2.2) (fun r h1 q => ⟨_, q.1, ?_⟩)
      have y : ∀ a, 95 < a → h1 a = h a := fun a ha => (q.2 a (by omega) (by omega) (by omega)).trans (up0 (by omega))
      have e98 := y 98 (by omega)
      have e96 := y 96 (by omega)
      have e117 := y 117 (by omega)
      refine (r_check w (by omega) n ⟨hn0, hn⟩ h1 (by rw [e98]; exact p2) (by rw [e98]; exact p3) (by rw [e98]; exact p5) (by rw [e96]; exact w2) (by rw [e96]; exact e)).imp (fun r2 h2 z => ⟨?_, hR.ck q.2 z.2⟩)
      rw [z.1, e98, e96, e117, ckA_congr (t := h 95) w2.2 w3]
  · refine St.mk (c_check_bad w hk a h hg) (fun r h1 q => ⟨_, q.1, ?_⟩)
    exact (r_check_bad w (by omega) a h1 hg).imp (fun r2 h2 z => ⟨z.1, hR.ck (h1 := h1) (by rw [q.2]; exact Fp.rf) (by rw [z.2]; exact Ag.rf)⟩)
