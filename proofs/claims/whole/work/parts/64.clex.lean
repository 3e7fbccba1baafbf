/-! the class's reader: words and signs -/
def byA (n : Nat) (T : Vc) (j : Nat) : Int32 := if j < n then T j else Int32.ofInt (-1)
def F8 (S : List Nat) (h h' : Mm) : Prop := (∀ a, a ≠ 8 → h' a = h a) ∧ ∀ j, j ∉ S → h' 8 j = h 8 j
theorem F8.rf {S : List Nat} {h : Mm} : F8 S h h := ⟨fun _ _ => rfl, fun _ _ => rfl⟩
theorem F8.tr {S : List Nat} {a b c : Mm} (x : F8 S a b) (y : F8 S b c) : F8 S a c := ⟨fun q hq => (y.1 q hq).trans (x.1 q hq), fun j hj => (y.2 j hj).trans (x.2 j hj)⟩
theorem F8.up {S : List Nat} {h : Mm} {k : Nat} {x : Int32} (hk : k ∈ S) : F8 S h (up h 8 k x) := ⟨fun a ha => upN ha, fun j hj => uN (fun e => hj (e ▸ hk))⟩
theorem F8.mono {S S' : List Nat} {h h' : Mm} (a : F8 S h h') (hs : ∀ x, x ∈ S → x ∈ S') : F8 S' h h' := ⟨a.1, fun j hj => a.2 j (fun q => hj (hs j q))⟩
def Cl (h : Mm) (l : Lx) : Prop := h 8 2 = nI l.k ∧ h 8 3 = nI l.s ∧ h 8 4 = nI l.e ∧ h 8 5 = b01 l.t
theorem srt3 (n : Nat) (T : Vc) (i : Nat) : srt n T i ≤ 3 := by unfold srt; split <;> (try split) <;> (try split) <;> omega
theorem lt_srt {n : Nat} {T : Vc} : ltB n T = fun j => decide (srt n T j = 1) := by
  funext j
  rw [Bool.eq_iff_iff, decide_eq_true_iff]
  constructor
  · exact srt_lt
  · intro h
    unfold srt at h
    by_cases h1 : n ≤ j
    · rw [if_pos h1] at h; omega
    · rw [if_neg h1] at h
      by_cases h2 : ltB n T j = true
      · exact h2
      · rw [if_neg h2] at h
        split at h <;> omega
theorem fg_srt {n : Nat} {T : Vc} : fgB n T = fun j => decide (srt n T j = 2) := by
  funext j
  rw [Bool.eq_iff_iff, decide_eq_true_iff]
  constructor
  · intro h
    refine srt_fg (fun q => ?_) h
    have a := (fgB_iff.mp h).2.2
    have b := (ltB_iff.mp q).2.1
    have c := Int32.le_trans b a
    exact absurd c (by decide)
  · intro h
    unfold srt at h
    by_cases h1 : n ≤ j
    · rw [if_pos h1] at h; omega
    · rw [if_neg h1] at h
      by_cases h2 : ltB n T j = true
      · rw [if_pos h2] at h; omega
      · rw [if_neg h2] at h
        by_cases h3 : fgB n T j = true
        · exact h3
        · rw [if_neg h3] at h; omega
theorem zF3 : ∀ C T N, vwCl[3]? = some (C, T, N) → (T 5).2.2.2 = false ∧ parseFieldDescriptor (T 5).2.2.1 = some .boolean := by
  intro C T N h
  cases h
  exact ⟨by decide +kernel, by decide +kernel⟩
set_option maxRecDepth 20000 in
set_option maxHeartbeats 4000000 in
theorem byteAt_ok (w : Wt) {k : Nat} (n j : Nat) (hn : n ≤ 96) (hj : j ≤ 96) (h : Mm) (e1 : h 8 1 = nI n) : Ok w k MX3_byteAt [.ref 8, .int (nI j)] h (Rv (byA n (h 9) j) h) := by
  show Wp w k MX3_byteAt _ 0 [some (.ref 8), some (.int (nI j))] [] h
  refine p_run (pc' := 1) [.iload_n 1] mkX3_byteAt (by decide +kernel) rfl rfl ?_
  refine p_if_lt (off := 26) 27 (by decide +kernel) (by decide) (fun cq1 => ?_) (fun cq1 => ?_)
  · exact absurd cq1 (nI_lt0 (by omega))
  · refine p_run (pc' := 9) [.iload_n 1, .aload_n 0, .getfield 18] mkX3_byteAt (by decide +kernel) rfl rfl ?_
    rw [e1]
    refine p_icmp_ge (off := 18) 27 (by decide +kernel) (by decide) (fun cq2 => ?_) (fun cq2 => ?_)
    · refine p_run (pc' := 28) [.iconst (-1)] mkX3_byteAt (by decide +kernel) rfl rfl ?_
      refine p_iret rfl rfl (by decide +kernel) ?_
      rw [nI_leI (by omega) (by omega)] at cq2; exact ⟨by unfold byA; rw [if_neg (by omega)], rfl⟩
    · rw [nI_leI (by omega) (by omega)] at cq2
      refine p_run (pc' := 15) [.iload_n 1, .bipush 96] mkX3_byteAt (by decide +kernel) rfl rfl ?_
      refine p_icmp_ge (off := 12) 27 (by decide +kernel) (by decide) (fun cq3 => ?_) (fun cq3 => ?_)
      · exact absurd (show nI 96 ≤ nI j from cq3) (nI_ge (by omega) (by omega))
      · refine p_run (pc' := 23) [.aload_n 0, .getfield 9, .iload_n 1] mkX3_byteAt (by decide +kernel) rfl rfl ?_
        refine p_iald (j) (by decide +kernel) rfl rfl (by first | rfl | simp only [oI]) (by omega) ?_
        refine p_run (pc' := 28) [.goto 4] mkX3_byteAt (by decide +kernel) rfl rfl ?_
        refine p_iret rfl rfl (by decide +kernel) ?_
        exact ⟨by unfold byA; rw [if_pos (by omega)], rfl⟩
set_option maxRecDepth 20000 in
set_option maxHeartbeats 4000000 in
theorem sortAt_ok (w : Wt) {k : Nat} (n j : Nat) (hn : n ≤ 96) (hj : j ≤ 96) (h : Mm) (e1 : h 8 1 = nI n) : Ok w k MX3_sortAt [.ref 8, .int (nI j)] h (Rv (nI (srt n (h 9) j)) h) := by
  show Wp w k MX3_sortAt _ 0 [some (.ref 8), some (.int (nI j)), none] [] h
  refine p_run (pc' := 1) [.iload_n 1] mkX3_sortAt (by decide +kernel) rfl rfl ?_
  refine p_if_lt (off := 17) 18 (by decide +kernel) (by decide) (fun cq1 => ?_) (fun cq1 => ?_)
  · exact absurd cq1 (nI_lt0 (by omega))
  · refine p_run (pc' := 9) [.iload_n 1, .aload_n 0, .getfield 18] mkX3_sortAt (by decide +kernel) rfl rfl ?_
    rw [e1]
    refine p_icmp_ge (off := 9) 18 (by decide +kernel) (by decide) (fun cq2 => ?_) (fun cq2 => ?_)
    · refine p_run (pc' := 19) [.iconst 0] mkX3_sortAt (by decide +kernel) rfl rfl ?_
      refine p_iret rfl rfl (by decide +kernel) ?_
      rw [nI_leI (by omega) (by omega)] at cq2; exact ⟨by rw [srt_le cq2]; rfl, rfl⟩
    · rw [nI_leI (by omega) (by omega)] at cq2
      refine p_run (pc' := 15) [.iload_n 1, .bipush 96] mkX3_sortAt (by decide +kernel) rfl rfl ?_
      refine p_icmp_lt (off := 5) 20 (by decide +kernel) (by decide) (fun cq3 => ?_) (fun cq3 => ?_)
      · refine p_run (pc' := 25) [.aload_n 0, .getfield 9, .iload_n 1] mkX3_sortAt (by decide +kernel) rfl rfl ?_
        refine p_iald (j) (by decide +kernel) rfl rfl rfl (by omega) ?_
        refine p_run (pc' := 30) [.istore_n 2, .iload_n 2, .bipush 97] mkX3_sortAt (by decide +kernel) rfl rfl ?_
        refine p_icmp_lt (off := 11) 41 (by decide +kernel) (by decide) (fun cq30 => ?_) (fun cq30 => ?_)
        · refine p_run (pc' := 44) [.iload_n 2, .bipush 48] mkX3_sortAt (by decide +kernel) rfl rfl ?_
          refine p_icmp_lt (off := 13) 57 (by decide +kernel) (by decide) (fun cq44 => ?_) (fun cq44 => ?_)
          · refine p_run (pc' := 58) [.iconst 3] mkX3_sortAt (by decide +kernel) rfl rfl ?_
            refine p_iret rfl rfl (by decide +kernel) ?_
            exact ⟨by rw [srt_sg (by omega) (fun q => Int32.not_le.mpr cq30 (ltB_iff.mp q).2.1) (fun q => Int32.not_le.mpr cq44 (fgB_iff.mp q).2.1)]; rfl, rfl⟩
          · refine p_run (pc' := 50) [.iload_n 2, .bipush 57] mkX3_sortAt (by decide +kernel) rfl rfl ?_
            refine p_icmp_gt (off := 7) 57 (by decide +kernel) (by decide) (fun cq50 => ?_) (fun cq50 => ?_)
            · refine p_run (pc' := 58) [.iconst 3] mkX3_sortAt (by decide +kernel) rfl rfl ?_
              refine p_iret rfl rfl (by decide +kernel) ?_
              exact ⟨by rw [srt_sg (by omega) (fun q => Int32.not_le.mpr cq30 (ltB_iff.mp q).2.1) (fun q => Int32.not_le.mpr cq50 (fgB_iff.mp q).2.2)]; rfl, rfl⟩
            · refine p_run (pc' := 58) [.iconst 2, .goto 4] mkX3_sortAt (by decide +kernel) rfl rfl ?_
              refine p_iret rfl rfl (by decide +kernel) ?_
              exact ⟨by rw [srt_fg (fun q => Int32.not_le.mpr cq30 (ltB_iff.mp q).2.1) (fgB_iff.mpr ⟨by omega, Int32.not_lt.mp cq44, Int32.not_lt.mp cq50⟩)]; rfl, rfl⟩
        · refine p_run (pc' := 36) [.iload_n 2, .bipush 122] mkX3_sortAt (by decide +kernel) rfl rfl ?_
          refine p_icmp_gt (off := 5) 41 (by decide +kernel) (by decide) (fun cq36 => ?_) (fun cq36 => ?_)
          · refine p_run (pc' := 44) [.iload_n 2, .bipush 48] mkX3_sortAt (by decide +kernel) rfl rfl ?_
            refine p_icmp_lt (off := 13) 57 (by decide +kernel) (by decide) (fun cq44 => ?_) (fun cq44 => ?_)
            · refine p_run (pc' := 58) [.iconst 3] mkX3_sortAt (by decide +kernel) rfl rfl ?_
              refine p_iret rfl rfl (by decide +kernel) ?_
              exact ⟨by rw [srt_sg (by omega) (fun q => Int32.not_le.mpr cq36 (ltB_iff.mp q).2.2) (fun q => Int32.not_le.mpr cq44 (fgB_iff.mp q).2.1)]; rfl, rfl⟩
            · refine p_run (pc' := 50) [.iload_n 2, .bipush 57] mkX3_sortAt (by decide +kernel) rfl rfl ?_
              refine p_icmp_gt (off := 7) 57 (by decide +kernel) (by decide) (fun cq50 => ?_) (fun cq50 => ?_)
              · refine p_run (pc' := 58) [.iconst 3] mkX3_sortAt (by decide +kernel) rfl rfl ?_
                refine p_iret rfl rfl (by decide +kernel) ?_
                exact ⟨by rw [srt_sg (by omega) (fun q => Int32.not_le.mpr cq36 (ltB_iff.mp q).2.2) (fun q => Int32.not_le.mpr cq50 (fgB_iff.mp q).2.2)]; rfl, rfl⟩
              · refine p_run (pc' := 58) [.iconst 2, .goto 4] mkX3_sortAt (by decide +kernel) rfl rfl ?_
                refine p_iret rfl rfl (by decide +kernel) ?_
                exact ⟨by rw [srt_fg (fun q => Int32.not_le.mpr cq36 (ltB_iff.mp q).2.2) (fgB_iff.mpr ⟨by omega, Int32.not_lt.mp cq44, Int32.not_lt.mp cq50⟩)]; rfl, rfl⟩
          · refine p_run (pc' := 40) [.iconst 1] mkX3_sortAt (by decide +kernel) rfl rfl ?_
            refine p_iret rfl rfl (by decide +kernel) ?_
            exact ⟨by rw [srt_lt (ltB_iff.mpr ⟨by omega, Int32.not_lt.mp cq30, Int32.not_lt.mp cq36⟩)]; rfl, rfl⟩
      · exact absurd (show nI j < nI 96 from nI_lt (by omega) (by omega)) cq3
set_option maxRecDepth 20000 in
set_option maxHeartbeats 4000000 in
theorem isWord_ok (w : Wt) {k : Nat} (u : Nat) (hu : u ≤ 3) (h : Mm) : Ok w k MX3_isWord [.int (nI u)] h (Rv (bI (isW u = true)) h) := by
  show Wp w k MX3_isWord _ 0 [some (.int (nI u))] [] h
  refine p_run (pc' := 2) [.iload_n 0, .iconst 1] mkX3_isWord (by decide +kernel) rfl rfl ?_
  refine p_icmp_eq (off := 8) 10 (by decide +kernel) (by decide) (fun cq2 => ?_) (fun cq2 => ?_)
  · (try simp only [oI] at cq2)
    rw [nI_eq (by omega) (by omega)] at cq2
    refine p_run (pc' := 15) [.iconst 1, .goto 4] mkX3_isWord (by decide +kernel) rfl rfl ?_
    refine p_iret rfl rfl (by decide +kernel) ?_
    exact ⟨by rw [bIt (by unfold isW; exact decide_eq_true (Or.inl cq2))]; rfl, rfl⟩
  · (try simp only [oI] at cq2)
    rw [nI_eq (by omega) (by omega)] at cq2
    refine p_run (pc' := 7) [.iload_n 0, .iconst 2] mkX3_isWord (by decide +kernel) rfl rfl ?_
    refine p_icmp_ne (off := 7) 14 (by decide +kernel) (by decide) (fun cq7 => ?_) (fun cq7 => ?_)
    · (try simp only [oI] at cq7)
      rw [nI_eq (by omega) (by omega)] at cq7
      refine p_run (pc' := 15) [.iconst 0] mkX3_isWord (by decide +kernel) rfl rfl ?_
      refine p_iret rfl rfl (by decide +kernel) ?_
      exact ⟨by rw [bIf (by unfold isW; exact fun q => (of_decide_eq_true q).elim cq2 cq7)]; rfl, rfl⟩
    · (try simp only [oI] at cq7)
      rw [nI_eq (by omega) (by omega)] at cq7
      refine p_run (pc' := 15) [.iconst 1, .goto 4] mkX3_isWord (by decide +kernel) rfl rfl ?_
      refine p_iret rfl rfl (by decide +kernel) ?_
      exact ⟨by rw [bIt (by unfold isW; exact decide_eq_true (Or.inr cq7))]; rfl, rfl⟩
set_option maxRecDepth 20000 in
set_option maxHeartbeats 4000000 in
theorem next_sk (w : Wt) {k : Nat} (hk : 1 ≤ k) (n : Nat) (hn : n ≤ 96) (h : Mm) (e1 : h 8 1 = nI n) (Q : Option Value → Mm → Prop) : ∀ (m i : Nat), i + m = n → ∀ x2, Wp w k MX3_next Q 29 [some (.ref 8), some (.int (nI (fw (spB n (h 9)) m i))), x2] [] h → Wp w k MX3_next Q 5 [some (.ref 8), some (.int (nI i)), x2] [] h := by
  intro m
  induction m with
  | zero =>
    intro i hi x2 hC
    refine p_run (pc' := 10) [.iload_n 1, .aload_n 0, .getfield 18] mkX3_next (by decide +kernel) rfl rfl ?_
    rw [e1]
    refine p_icmp_ge (off := 19) 29 (by decide +kernel) (by decide) (fun cq1 => ?_) (fun cq1 => ?_)
    · exact hC
    · exact absurd (nI_le (by omega) (by omega)) cq1
  | succ m ih =>
    intro i hi x2 hC
    refine p_run (pc' := 10) [.iload_n 1, .aload_n 0, .getfield 18] mkX3_next (by decide +kernel) rfl rfl ?_
    rw [e1]
    refine p_icmp_ge (off := 19) 29 (by decide +kernel) (by decide) (fun cq1 => ?_) (fun cq1 => ?_)
    · exact absurd cq1 (nI_ge (by omega) (by omega))
    · refine p_run (pc' := 15) [.aload_n 0, .iload_n 1] mkX3_next (by decide +kernel) rfl rfl ?_
      refine p_callVv (byteAt_ok w (k := k - 1) n i hn (by omega) h e1) kvX3_60 (by decide +kernel) (by decide) rfl (by omega) rfl rfl rfl rfl rfl ?_
      rw [show byA n (h 9) i = h 9 i from if_pos (by omega)]
      refine p_run (pc' := 20) [.bipush 32] mkX3_next (by decide +kernel) rfl rfl ?_
      refine p_icmp_ne (off := 9) 29 (by decide +kernel) (by decide) (fun cq2 => ?_) (fun cq2 => ?_)
      · rw [fw, if_neg (fun q => cq2 (spB_iff.mp q).2)] at hC; exact hC
      · rw [fw, if_pos (spB_iff.mpr ⟨by omega, cq2⟩)] at hC
        refine p_run (pc' := 5) [.iinc 1 1, .goto (-21)] mkX3_next (by decide +kernel) rfl rfl ?_
        rw [show nI i + Int32.ofInt 1 = nI (i + 1) by simp only [oI, nI_add]]
        exact ih (i + 1) (by omega) x2 hC
set_option maxRecDepth 20000 in
set_option maxHeartbeats 4000000 in
theorem next_en (w : Wt) {k : Nat} (hk : 1 ≤ k) (n u : Nat) (hn : n ≤ 96) (hu3 : u ≤ 3) (hu : isW u = true) (h0 : Mm) (Q : Option Value → Mm → Prop) (x1 x2 : Option Value) : ∀ (m e : Nat), e + m = n → ∀ h, F8 [4] h0 h → h 8 1 = nI n → h 8 2 = nI u → h 8 4 = nI e → (∀ h', F8 [4] h0 h' → h' 8 4 = nI (fw (fun j => decide (srt n (h0 9) j = u)) m e) → Q none h') → Wp w k MX3_next Q 108 [some (.ref 8), x1, x2] [] h := by
  intro m
  induction m with
  | zero =>
    intro e he h hF e1 e2 e4 hC
    refine p_run (pc' := 112) [.aload_n 0, .getfield 42] mkX3_next (by decide +kernel) rfl rfl ?_
    rw [e2]
    refine p_callSv (isWord_ok w (k := k - 1) u hu3 h) ksX3_64 (by decide +kernel) (by omega) rfl rfl rfl rfl rfl ?_
    refine p_if_eq (off := 42) 157 (by decide +kernel) (by decide) (fun cq1 => ?_) (fun cq1 => ?_)
    · exact absurd hu (bI0.mp cq1)
    · refine p_run (pc' := 126) [.aload_n 0, .getfield 45, .aload_n 0, .getfield 18] mkX3_next (by decide +kernel) rfl rfl ?_
      rw [e4, e1]
      refine p_icmp_ge (off := 31) 157 (by decide +kernel) (by decide) (fun cq2 => ?_) (fun cq2 => ?_)
      · refine p_vret rfl (by decide +kernel) ?_
        exact hC h hF e4
      · exact absurd (nI_le (by omega) (by omega)) cq2
  | succ m ih =>
    intro e he h hF e1 e2 e4 hC
    refine p_run (pc' := 112) [.aload_n 0, .getfield 42] mkX3_next (by decide +kernel) rfl rfl ?_
    rw [e2]
    refine p_callSv (isWord_ok w (k := k - 1) u hu3 h) ksX3_64 (by decide +kernel) (by omega) rfl rfl rfl rfl rfl ?_
    refine p_if_eq (off := 42) 157 (by decide +kernel) (by decide) (fun cq1 => ?_) (fun cq1 => ?_)
    · exact absurd hu (bI0.mp cq1)
    · refine p_run (pc' := 126) [.aload_n 0, .getfield 45, .aload_n 0, .getfield 18] mkX3_next (by decide +kernel) rfl rfl ?_
      rw [e4, e1]
      refine p_icmp_ge (off := 31) 157 (by decide +kernel) (by decide) (fun cq2 => ?_) (fun cq2 => ?_)
      · exact absurd cq2 (nI_ge (by omega) (by omega))
      · refine p_run (pc' := 134) [.aload_n 0, .aload_n 0, .getfield 45] mkX3_next (by decide +kernel) rfl rfl ?_
        rw [e4]
        refine p_callVv (sortAt_ok w (k := k - 1) n e hn (by omega) h e1) kvX3_67 (by decide +kernel) (by decide) rfl (by omega) rfl rfl rfl rfl rfl ?_
        rw [show h 9 = h0 9 from hF.1 9 (by decide)]
        refine p_run (pc' := 141) [.aload_n 0, .getfield 42] mkX3_next (by decide +kernel) rfl rfl ?_
        rw [e2]
        refine p_icmp_ne (off := 16) 157 (by decide +kernel) (by decide) (fun cq3 => ?_) (fun cq3 => ?_)
        · rw [fw, if_neg (fun q => cq3 (by rw [of_decide_eq_true q]))] at hC
          refine p_vret rfl (by decide +kernel) ?_
          exact hC h hF e4
        · have cq3 : srt n (h0 9) e = u := (nI_eq (by have := srt3 n (h0 9) e; omega) (by omega)).mp cq3
          rw [fw, if_pos (decide_eq_true cq3)] at hC
          refine p_run (pc' := 108) [.aload_n 0, .dup, .getfield 45, .iconst 1, .iadd, .putfield 45, .goto (-46)] mkX3_next (by decide +kernel) rfl rfl ?_
          rw [e4, show nI e + Int32.ofInt 1 = nI (e + 1) by simp only [oI, nI_add]]
          exact ih (e + 1) (by omega) _ (hF.tr (F8.up (by decide))) (by rw [uN (by decide)]; exact e1) (by rw [uN (by decide)]; exact e2) uF hC
set_option maxRecDepth 20000 in
set_option maxHeartbeats 4000000 in
theorem next_3 (w : Wt) {k : Nat} (hk : 1 ≤ k) (n s u : Nat) (hn : n ≤ 96) (hs : s ≤ n) (c : Bool) (h h1 : Mm) (hu : u = srt n (h 9) s) (hF1 : F8 [2, 3, 4, 5] h h1) (f1 : h1 8 1 = nI n) (f2 : h1 8 2 = nI u) (f3 : h1 8 3 = nI s) (f5 : h1 8 5 = b01 (c && isW u)) (x2 : Option Value) : Wp w k MX3_next (fun r h' => r = none ∧ Cl h' (lxB n (h 9) s c) ∧ F8 [2, 3, 4, 5] h h') 90 [some (.ref 8), some (.int (nI s)), x2] [] h1 := by
  have hu3 := srt3 n (h 9) s
  rw [← hu] at hu3
  refine p_run (pc' := 95) [.aload_n 0, .aload_n 0, .getfield 42] mkX3_next (by decide +kernel) rfl rfl ?_
  rw [f2]
  refine p_if_ne (off := 7) 102 (by decide +kernel) (by decide) (fun cq95 => ?_) (fun cq95 => ?_)
  · have hu0 : ¬ u = 0 := fun q => cq95 (by rw [q]; rfl)
    have hsn : s < n := Classical.byContradiction (fun q => hu0 (by rw [hu, srt_le (by omega)]))
    refine p_run (pc' := 108) [.iload_n 1, .iconst 1, .iadd, .putfield 45] mkX3_next (by decide +kernel) rfl rfl ?_
    rw [show nI s + Int32.ofInt 1 = nI (s + 1) by simp only [oI, nI_add]]
    have g1 : up h1 8 4 (nI (s + 1)) 8 1 = nI n := by rw [uN (by decide)]; exact f1
    have g2 : up h1 8 4 (nI (s + 1)) 8 2 = nI u := by rw [uN (by decide)]; exact f2
    have g3 : up h1 8 4 (nI (s + 1)) 8 3 = nI s := by rw [uN (by decide)]; exact f3
    have g5 : up h1 8 4 (nI (s + 1)) 8 5 = b01 (c && isW u) := by rw [uN (by decide)]; exact f5
    have g4 : up h1 8 4 (nI (s + 1)) 8 4 = (nI (s + 1)) := uF
    have gF : F8 [2, 3, 4, 5] h (up h1 8 4 (nI (s + 1))) := hF1.tr (F8.up (by decide))
    generalize up h1 8 4 (nI (s + 1)) = h2 at *
    by_cases hw : isW u = true
    · have e9 : h2 9 = h 9 := gF.1 9 (by decide)
      refine next_en w hk n u hn hu3 hw h2 _ _ _ (n - (s + 1)) (s + 1) (by omega) h2 F8.rf g1 g2 g4 (fun h' hF' e4' => ?_)
      rw [e9] at e4'
      refine ⟨rfl, ⟨by rw [hF'.2 2 (by decide)]; exact g2.trans (congrArg nI hu), by rw [hF'.2 3 (by decide)]; exact g3, e4'.trans (congrArg nI ?_), by rw [hF'.2 5 (by decide)]; exact g5.trans (by rw [hu]; rfl)⟩, gF.tr (hF'.mono (fun x hx => by simp at hx ⊢; omega))⟩
      show _ = enF n (h 9) s
      unfold enF
      rw [← hu, if_neg hu0]
      have hp : (fun j => decide (srt n (h 9) j = u)) s = true := decide_eq_true hu.symm
      have hst : fw (fun j => decide (srt n (h 9) j = u)) (n - s) s = fw (fun j => decide (srt n (h 9) j = u)) (n - (s + 1)) (s + 1) := by rw [show n - s = (n - (s + 1)) + 1 by omega, fw, if_pos hp]
      rcases (show u = 1 ∨ u = 2 from of_decide_eq_true hw) with e | e
      · rw [if_pos e, lt_srt, ← hst, e]
      · rw [if_neg (by omega), if_pos e, fg_srt, ← hst, e]
    · refine p_run (pc' := 112) [.aload_n 0, .getfield 42] mkX3_next (by decide +kernel) rfl rfl ?_
      rw [g2]
      refine p_callSv (isWord_ok w (k := k - 1) u hu3 h2) ksX3_64 (by decide +kernel) (by omega) rfl rfl rfl rfl rfl ?_
      refine p_if_eq (off := 42) 157 (by decide +kernel) (by decide) (fun cq115 => ?_) (fun cq115 => ?_)
      · have cq115 := bI0.mp cq115
        refine p_vret rfl (by decide +kernel) ?_
        exact ⟨rfl, ⟨g2.trans (congrArg nI hu), g3, g4.trans (congrArg nI (by unfold lxB enF; rw [← hu, if_neg hu0, if_neg (fun q => hw (by rw [q]; rfl)), if_neg (fun q => hw (by rw [q]; rfl))])), g5.trans (by rw [hu]; rfl)⟩, gF⟩
      · exact absurd (bI1.mp cq115) hw
  · have hu0 : u = 0 := (nI_eq0 (by omega)).mp cq95
    refine p_run (pc' := 108) [.iload_n 1, .goto 6, .putfield 45] mkX3_next (by decide +kernel) rfl rfl ?_
    have g1 : up h1 8 4 (nI s) 8 1 = nI n := by rw [uN (by decide)]; exact f1
    have g2 : up h1 8 4 (nI s) 8 2 = nI u := by rw [uN (by decide)]; exact f2
    have g3 : up h1 8 4 (nI s) 8 3 = nI s := by rw [uN (by decide)]; exact f3
    have g5 : up h1 8 4 (nI s) 8 5 = b01 (c && isW u) := by rw [uN (by decide)]; exact f5
    have g4 : up h1 8 4 (nI s) 8 4 = (nI s) := uF
    have gF : F8 [2, 3, 4, 5] h (up h1 8 4 (nI s)) := hF1.tr (F8.up (by decide))
    generalize up h1 8 4 (nI s) = h2 at *
    refine p_run (pc' := 112) [.aload_n 0, .getfield 42] mkX3_next (by decide +kernel) rfl rfl ?_
    rw [g2]
    refine p_callSv (isWord_ok w (k := k - 1) u hu3 h2) ksX3_64 (by decide +kernel) (by omega) rfl rfl rfl rfl rfl ?_
    refine p_if_eq (off := 42) 157 (by decide +kernel) (by decide) (fun cq115 => ?_) (fun cq115 => ?_)
    · have cq115 := bI0.mp cq115
      refine p_vret rfl (by decide +kernel) ?_
      exact ⟨rfl, ⟨g2.trans (congrArg nI hu), g3, g4.trans (congrArg nI (by unfold lxB enF; rw [← hu, if_pos hu0])), g5.trans (by rw [hu]; rfl)⟩, gF⟩
    · exact absurd (bI1.mp cq115) (by rw [hu0]; decide)
set_option maxRecDepth 20000 in
set_option maxHeartbeats 4000000 in
theorem next_2 (w : Wt) {k : Nat} (hk : 1 ≤ k) (n s : Nat) (hn : n ≤ 96) (hs : s ≤ n) (c : Bool) (h : Mm) (e1 : h 8 1 = nI n) : Wp w k MX3_next (fun r h' => r = none ∧ Cl h' (lxB n (h 9) s c) ∧ F8 [2, 3, 4, 5] h h') 53 [some (.ref 8), some (.int (nI s)), some (.int (b01 c))] [] h := by
  refine p_run (pc' := 61) [.aload_n 0, .iload_n 1, .putfield 32, .aload_n 0, .aload_n 0, .iload_n 1] mkX3_next (by decide +kernel) rfl rfl ?_
  refine p_callVv (sortAt_ok w (k := k - 1) n s hn (by omega) (up h 8 3 (nI s)) (by rw [uN (by decide)]; exact e1)) kvX3_67 (by decide +kernel) (by decide) rfl (by omega) rfl rfl rfl rfl rfl ?_
  rw [show up h 8 3 (nI s) 9 = h 9 from upN (by decide)]
  have hu3 := srt3 n (h 9) s
  obtain ⟨u, hu⟩ : ∃ u, u = srt n (h 9) s := ⟨_, rfl⟩
  rw [← hu]
  rw [← hu] at hu3
  refine p_run (pc' := 69) [.putfield 42, .aload_n 0, .iload_n 2] mkX3_next (by decide +kernel) rfl rfl ?_
  refine p_if_eq (off := 17) 86 (by decide +kernel) (by decide) (fun cq69 => ?_) (fun cq69 => ?_)
  · refine p_run (pc' := 87) [.iconst 0] mkX3_next (by decide +kernel) rfl rfl ?_
    refine p_putZ (by decide +kernel) fo3_70 (by decide) rfl zF3 rfl (by decide) ?_
    have hF1 : F8 [2, 3, 4, 5] h (up (up (up h 8 3 (nI s)) 8 2 (nI u)) 8 5 (Int32.ofInt 0)) := ((F8.up (by decide)).tr (F8.up (by decide))).tr (F8.up (by decide))
    have f1 : up (up (up h 8 3 (nI s)) 8 2 (nI u)) 8 5 (Int32.ofInt 0) 8 1 = nI n := by rw [uN (by decide), uN (by decide), uN (by decide)]; exact e1
    have f2 : up (up (up h 8 3 (nI s)) 8 2 (nI u)) 8 5 (Int32.ofInt 0) 8 2 = nI u := by rw [uN (by decide), uF]
    have f3 : up (up (up h 8 3 (nI s)) 8 2 (nI u)) 8 5 (Int32.ofInt 0) 8 3 = nI s := by rw [uN (by decide), uN (by decide), uF]
    have f5 : up (up (up h 8 3 (nI s)) 8 2 (nI u)) 8 5 (Int32.ofInt 0) 8 5 = b01 (c && isW u) := by rw [uF]; rw [show c = false by revert cq69; cases c <;> decide]; rfl
    generalize up (up (up h 8 3 (nI s)) 8 2 (nI u)) 8 5 (Int32.ofInt 0) = h1 at *
    exact next_3 w hk n s u hn hs c h h1 hu hF1 f1 f2 f3 f5 _
  · refine p_run (pc' := 76) [.aload_n 0, .getfield 42] mkX3_next (by decide +kernel) rfl rfl ?_
    rw [show (up (up h 8 3 (nI s)) 8 2 (nI u)) 8 2 = nI u from uF]
    refine p_callSv (isWord_ok w (k := k - 1) u hu3 (up (up h 8 3 (nI s)) 8 2 (nI u))) ksX3_64 (by decide +kernel) (by omega) rfl rfl rfl rfl rfl ?_
    refine p_if_eq (off := 7) 86 (by decide +kernel) (by decide) (fun cq79 => ?_) (fun cq79 => ?_)
    · have cq79 := bI0.mp cq79
      refine p_run (pc' := 87) [.iconst 0] mkX3_next (by decide +kernel) rfl rfl ?_
      refine p_putZ (by decide +kernel) fo3_70 (by decide) rfl zF3 rfl (by decide) ?_
      have hF1 : F8 [2, 3, 4, 5] h (up (up (up h 8 3 (nI s)) 8 2 (nI u)) 8 5 (Int32.ofInt 0)) := ((F8.up (by decide)).tr (F8.up (by decide))).tr (F8.up (by decide))
      have f1 : up (up (up h 8 3 (nI s)) 8 2 (nI u)) 8 5 (Int32.ofInt 0) 8 1 = nI n := by rw [uN (by decide), uN (by decide), uN (by decide)]; exact e1
      have f2 : up (up (up h 8 3 (nI s)) 8 2 (nI u)) 8 5 (Int32.ofInt 0) 8 2 = nI u := by rw [uN (by decide), uF]
      have f3 : up (up (up h 8 3 (nI s)) 8 2 (nI u)) 8 5 (Int32.ofInt 0) 8 3 = nI s := by rw [uN (by decide), uN (by decide), uF]
      have f5 : up (up (up h 8 3 (nI s)) 8 2 (nI u)) 8 5 (Int32.ofInt 0) 8 5 = b01 (c && isW u) := by rw [uF]; rw [Bool.eq_false_iff.mpr cq79, Bool.and_false]; rfl
      generalize up (up (up h 8 3 (nI s)) 8 2 (nI u)) 8 5 (Int32.ofInt 0) = h1 at *
      exact next_3 w hk n s u hn hs c h h1 hu hF1 f1 f2 f3 f5 _
    · have cq79 := bI1.mp cq79
      refine p_run (pc' := 87) [.iconst 1, .goto 4] mkX3_next (by decide +kernel) rfl rfl ?_
      refine p_putZ (by decide +kernel) fo3_70 (by decide) rfl zF3 rfl (by decide) ?_
      have hF1 : F8 [2, 3, 4, 5] h (up (up (up h 8 3 (nI s)) 8 2 (nI u)) 8 5 (Int32.ofInt 1)) := ((F8.up (by decide)).tr (F8.up (by decide))).tr (F8.up (by decide))
      have f1 : up (up (up h 8 3 (nI s)) 8 2 (nI u)) 8 5 (Int32.ofInt 1) 8 1 = nI n := by rw [uN (by decide), uN (by decide), uN (by decide)]; exact e1
      have f2 : up (up (up h 8 3 (nI s)) 8 2 (nI u)) 8 5 (Int32.ofInt 1) 8 2 = nI u := by rw [uN (by decide), uF]
      have f3 : up (up (up h 8 3 (nI s)) 8 2 (nI u)) 8 5 (Int32.ofInt 1) 8 3 = nI s := by rw [uN (by decide), uN (by decide), uF]
      have f5 : up (up (up h 8 3 (nI s)) 8 2 (nI u)) 8 5 (Int32.ofInt 1) 8 5 = b01 (c && isW u) := by rw [uF]; rw [cq79, show c = true by revert cq69; cases c <;> decide]; rfl
      generalize up (up (up h 8 3 (nI s)) 8 2 (nI u)) 8 5 (Int32.ofInt 1) = h1 at *
      exact next_3 w hk n s u hn hs c h h1 hu hF1 f1 f2 f3 f5 _
set_option maxRecDepth 20000 in
set_option maxHeartbeats 4000000 in
theorem next_ok (w : Wt) {k : Nat} (hk : 1 ≤ k) (n : Nat) (hn : n ≤ 96) (l : Lx) (hl : l.e ≤ n) (hk3 : l.k ≤ 3) (h : Mm) (e1 : h 8 1 = nI n) (e2 : h 8 2 = nI l.k) (e4 : h 8 4 = nI l.e) : Ok w k MX3_next [.ref 8] h (fun r h' => r = none ∧ Cl h' (lxN n (h 9) l) ∧ F8 [2, 3, 4, 5] h h') := by
  show Wp w k MX3_next _ 0 [some (.ref 8), none, none] [] h
  have ee := hl
  refine p_run (pc' := 5) [.aload_n 0, .getfield 45, .istore_n 1] mkX3_next (by decide +kernel) rfl rfl ?_
  rw [e4]
  refine next_sk w hk n hn h e1 _ (n - l.e) l.e (by omega) _ ?_
  have hs : skF n (h 9) l.e = fw (spB n (h 9)) (n - l.e) l.e := rfl
  rw [← hs]
  have hsn : skF n (h 9) l.e ≤ n := Nat.le_trans (fw_le (spB n (h 9)) (n - l.e) l.e).2 (by omega)
  have hse : l.e ≤ skF n (h 9) l.e := (fw_le (spB n (h 9)) (n - l.e) l.e).1
  unfold lxN
  generalize skF n (h 9) l.e = s at *
  obtain ⟨c, hc⟩ : ∃ c, c = (decide (s = l.e) && isW l.k) := ⟨_, rfl⟩
  rw [← hc]
  refine p_run (pc' := 34) [.iload_n 1, .aload_n 0, .getfield 45] mkX3_next (by decide +kernel) rfl rfl ?_
  rw [e4]
  refine p_icmp_ne (off := 17) 51 (by decide +kernel) (by decide) (fun cq1 => ?_) (fun cq1 => ?_)
  · rw [nI_eq (by omega) (by omega)] at cq1
    refine p_run (pc' := 53) [.iconst 0, .istore_n 2] mkX3_next (by decide +kernel) rfl rfl ?_
    have hcf : c = false := by rw [hc, decide_eq_false cq1]; rfl
    rw [hcf]
    exact next_2 w hk n s hn hsn false h e1
  · rw [nI_eq (by omega) (by omega)] at cq1
    refine p_run (pc' := 41) [.aload_n 0, .getfield 42] mkX3_next (by decide +kernel) rfl rfl ?_
    rw [e2]
    refine p_callSv (isWord_ok w (k := k - 1) l.k hk3 h) ksX3_64 (by decide +kernel) (by omega) rfl rfl rfl rfl rfl ?_
    refine p_if_eq (off := 7) 51 (by decide +kernel) (by decide) (fun cq2 => ?_) (fun cq2 => ?_)
    · have cq2 := bI0.mp cq2
      refine p_run (pc' := 53) [.iconst 0, .istore_n 2] mkX3_next (by decide +kernel) rfl rfl ?_
      have hcf : c = false := by rw [hc, Bool.eq_false_iff.mpr cq2, Bool.and_false]
      rw [hcf]
      exact next_2 w hk n s hn hsn false h e1
    · have cq2 := bI1.mp cq2
      refine p_run (pc' := 53) [.iconst 1, .goto 4, .istore_n 2] mkX3_next (by decide +kernel) rfl rfl ?_
      have hcf : c = true := by rw [hc, decide_eq_true cq1, cq2]; rfl
      rw [hcf]
      exact next_2 w hk n s hn hsn true h e1
