/-! the reference: check, like -/
def ckF (o1 o2 : Nat → Bool) : Nat → Nat → Nat
  | 0, k => 2 * k
  | m + 1, k => if o1 k = true then (if o2 k = true then ckF o1 o2 m (k + 1) else 2 * k + 1) else 2 * k
noncomputable def ck1 (I t : Vc) (many : Nat) (k : Nat) : Bool := @decide (2 * k < many ∧ t (2 * k) = nsF I (k + 1) 5) (Classical.propDecidable _)
noncomputable def ck2 (I t : Vc) (many : Nat) (k : Nat) : Bool := @decide (2 * k + 1 < many ∧ t (2 * k + 1) = sumF (fun b => bK (nsF I (k + 1)) b 0) 4) (Classical.propDecidable _)
theorem ck1_iff {I t : Vc} {many k : Nat} : ck1 I t many k = true ↔ (2 * k < many ∧ t (2 * k) = nsF I (k + 1) 5) := by unfold ck1; simp
theorem ck2_iff {I t : Vc} {many k : Nat} : ck2 I t many k = true ↔ (2 * k + 1 < many ∧ t (2 * k + 1) = sumF (fun b => bK (nsF I (k + 1)) b 0) 4) := by unfold ck2; simp
noncomputable def ckA (I t : Vc) (many nn : Nat) : Int32 := if ckF (ck1 I t many) (ck2 I t many) nn 0 = many ∧ many = 2 * nn then nI 0 else nI (1 + ckF (ck1 I t many) (ck2 I t many) nn 0)
theorem ckF_le (o1 o2 : Nat → Bool) : ∀ m k, ckF o1 o2 m k ≤ 2 * (k + m)
  | 0, k => by simp [ckF]
  | m + 1, k => by
    rw [ckF]
    have := ckF_le o1 o2 m (k + 1)
    split
    · split <;> omega
    · omega
set_option maxRecDepth 20000 in
set_option maxHeartbeats 4000000 in
theorem check_end (w : Wt) {k : Nat} (hk : 1 ≤ k) (x1 : Option Value) (q nn r : Nat) (hq : q ≤ 60) (hnn : nn ≤ 30) (hr : r ≤ 60) (x5 : Option Value) (hh : Mm) (Q : Option Value → Mm → Prop) (hC : Q (some (.int (if r = q ∧ q = 2 * nn then nI 0 else nI (1 + r)))) (wr hh 97 (hh 99))) : Wp w k MX8_check Q 180 [some (.ref 96), x1, some (.int (nI q)), some (.int (nI (2 * nn))), some (.int (nI r)), x5] [] hh := by
  refine p_run (pc' := 188) [.aload_n 0, .getfield 16, .aload_n 0, .getfield 9] mkX8_check (by decide +kernel) rfl rfl ?_
  refine p_callSw (copyAll_ok w (k := k - 1) 99 97 hh (by decide) (by decide) (by decide)) ksX8_185 (by decide +kernel) (by omega) rfl rfl rfl rfl rfl ?_
  refine p_run (pc' := 194) [.iload 4, .iload_n 2] mkX8_check (by decide +kernel) rfl rfl ?_
  refine p_icmp_ne (off := 13) 207 (by decide +kernel) (by decide) (fun c194 => ?_) (fun c194 => ?_)
  · (try simp only [oI] at c194)
    rw [nI_eq (by omega) (by omega)] at c194
    refine p_run (pc' := 211) [.iconst 1, .iload 4, .iadd] mkX8_check (by decide +kernel) rfl rfl ?_
    refine p_iret rfl rfl (by decide +kernel) ?_
    first | (rw [if_pos ⟨c194, by omega⟩] at hC; exact hC) | (rw [if_neg (fun z => c194 z.1)] at hC; simp only [oI, nI_add]; exact hC) | (rw [if_neg (fun z => c200 (by omega))] at hC; simp only [oI, nI_add]; exact hC)
  · (try simp only [oI] at c194)
    rw [nI_eq (by omega) (by omega)] at c194
    refine p_run (pc' := 200) [.iload 4, .iload_n 3] mkX8_check (by decide +kernel) rfl rfl ?_
    refine p_icmp_ne (off := 7) 207 (by decide +kernel) (by decide) (fun c200 => ?_) (fun c200 => ?_)
    · (try simp only [oI] at c200)
      rw [nI_eq (by omega) (by omega)] at c200
      refine p_run (pc' := 211) [.iconst 1, .iload 4, .iadd] mkX8_check (by decide +kernel) rfl rfl ?_
      refine p_iret rfl rfl (by decide +kernel) ?_
      first | (rw [if_pos ⟨c194, by omega⟩] at hC; exact hC) | (rw [if_neg (fun z => c194 z.1)] at hC; simp only [oI, nI_add]; exact hC) | (rw [if_neg (fun z => c200 (by omega))] at hC; simp only [oI, nI_add]; exact hC)
    · (try simp only [oI] at c200)
      rw [nI_eq (by omega) (by omega)] at c200
      refine p_run (pc' := 211) [.iconst 0, .goto 7] mkX8_check (by decide +kernel) rfl rfl ?_
      refine p_iret rfl rfl (by decide +kernel) ?_
      first | (rw [if_pos ⟨c194, by omega⟩] at hC; exact hC) | (rw [if_neg (fun z => c194 z.1)] at hC; simp only [oI, nI_add]; exact hC) | (rw [if_neg (fun z => c200 (by omega))] at hC; simp only [oI, nI_add]; exact hC)
set_option maxRecDepth 20000 in
set_option maxHeartbeats 4000000 in
theorem check_loop (w : Wt) {k : Nat} (hk : 6 ≤ k) (x1 : Option Value) (q nn : Nat) (hq : q ≤ 60) (hnn : nn ≤ 30) (h : Mm) (hI : Iv (h 98)) (hT : Tq (h 98)) : ∀ (m i : Nat), i + m = nn → ∀ hh : Mm, hh 97 = nsF (h 98) i → hh 99 = h 97 → Ag [97, 99, 107, 108] (up h 96 32 (nI 0)) hh →
    Wp w k MX8_check (fun r h' => r = some (.int (if ckF (ck1 (h 98) (h 117) q) (ck2 (h 98) (h 117) q) m i = q ∧ q = 2 * nn then nI 0 else nI (1 + ckF (ck1 (h 98) (h 117) q) (ck2 (h 98) (h 117) q) m i))) ∧ Ag [99, 107, 108] (up h 96 32 (nI 0)) h') 80 [some (.ref 96), x1, some (.int (nI q)), some (.int (nI (2 * nn))), some (.int (nI (2 * i))), some (.int (nI i))] [] hh := by
  intro m
  induction m with
  | zero =>
    intro i hi hh e e9 hA
    have hi : i = nn := by omega
    subst hi
    refine p_run (pc' := 85) [.iconst 2, .iload 5, .imul, .iload_n 3] mkX8_check (by decide +kernel) rfl rfl ?_
    rw [show Int32.ofInt 2 * nI i = nI (2 * i) by rw [oI, nIm]]
    refine p_icmp_ge (off := 95) 180 (by decide +kernel) (by decide) (fun c1 => ?_) (fun c1 => ?_)
    · have hF : Ag [99, 107, 108] (up h 96 32 (nI 0)) (wr hh 97 (hh 99)) := fun a ha => by
        by_cases z : a = 97
        · rw [z, wrS, e9, upN (by decide)]
        · rw [wrN z]; exact hA a (by simp at ha ⊢; omega)
      exact check_end w (by omega) x1 q i (2 * i) hq hnn (by omega) _ hh _ ⟨rfl, hF⟩
    · exact absurd (nI_le (Nat.le_refl _) (by omega)) c1
  | succ m ih =>
    intro i hi hh e e9 hA
    refine p_run (pc' := 85) [.iconst 2, .iload 5, .imul, .iload_n 3] mkX8_check (by decide +kernel) rfl rfl ?_
    rw [show Int32.ofInt 2 * nI i = nI (2 * i) by rw [oI, nIm]]
    refine p_icmp_ge (off := 95) 180 (by decide +kernel) (by decide) (fun c1 => ?_) (fun c1 => ?_)
    · exact absurd c1 (nI_ge (by omega) (by omega))
    · refine p_run (pc' := 94) [.iload 4, .iconst 2, .iload 5, .imul] mkX8_check (by decide +kernel) rfl rfl ?_
      rw [show Int32.ofInt 2 * nI i = nI (2 * i) by rw [oI, nIm]]
      refine p_icmp_ne (off := 86) 180 (by decide +kernel) (by decide) (fun c2 => ?_) (fun c2 => ?_)
      · exact absurd rfl c2
      · refine p_run (pc' := 98) [.aload_n 0] mkX8_check (by decide +kernel) rfl rfl ?_
        refine p_callVo (night_ok w (k := k - 1) (by omega) hh (by rw [e]; exact nsF_Iv hI i) (by rw [e]; exact hT.of (fun j hj => nsF_out hI (by omega) i))) (fun _ _ q => q.1) kvX8_170 (by decide +kernel) (by decide) rfl (by omega) rfl rfl rfl rfl rfl (fun h' hq => ?_)
        obtain ⟨-, e2, hA2⟩ := hq
        have e2 : h' 97 = nsF (h 98) (i + 1) := by rw [e2, e, nsF]
        have e9' : h' 99 = h 97 := by rw [hA2 99 (by decide), e9]
        have hA' : Ag [97, 99, 107, 108] (up h 96 32 (nI 0)) h' := hA.tr (hA2.mono (by decide))
        have e117 : h' 117 = h 117 := by rw [hA' 117 (by decide), upN (by decide)]
        refine p_run (pc' := 106) [.iload 4, .iload 4, .iload_n 2] mkX8_check (by decide +kernel) rfl rfl ?_
        refine p_icmp_ge (off := 23) 129 (by decide +kernel) (by decide) (fun c3 => ?_) (fun c3 => ?_)
        · rw [nI_leI (by omega) (by omega)] at c3
          have hno : ¬ ck1 (h 98) (h 117) q i = true := fun z => (fun z => by omega) (ck1_iff.mp z)
          refine p_run (pc' := 133) [.iconst 0, .iadd, .istore 4] mkX8_check (by decide +kernel) rfl rfl ?_
          rw [show nI (2 * i) + Int32.ofInt 0 = nI (2 * i) by rw [oI, nI_add, Nat.add_zero]]
          refine p_run (pc' := 143) [.iload 4, .iload 4, .iconst 2, .iload 5, .imul, .iconst 1, .iadd] mkX8_check (by decide +kernel) rfl rfl ?_
          rw [show Int32.ofInt 2 * nI i + Int32.ofInt 1 = nI (2 * i + 1) by simp only [oI, nIm, nI_add]]
          refine p_icmp_ne (off := 27) 170 (by decide +kernel) (by decide) (fun c6 => ?_) (fun c6 => ?_)
          · refine p_run (pc' := 80) [.iconst 0, .iadd, .istore 4, .iinc 5 1, .goto (-97)] mkX8_check (by decide +kernel) rfl rfl ?_
            rw [show nI (2 * i) + Int32.ofInt 0 = nI (2 * i) by rw [oI, nI_add, Nat.add_zero]]
            rw [ckF, if_neg hno]
            have hF : Ag [99, 107, 108] (up h 96 32 (nI 0)) (wr h' 97 (h' 99)) := fun a ha => by
              by_cases z : a = 97
              · rw [z, wrS, e9', upN (by decide)]
              · rw [wrN z]; exact hA' a (by simp at ha ⊢; omega)
            refine p_run (pc' := 85) [.iconst 2, .iload 5, .imul, .iload_n 3] mkX8_check (by decide +kernel) rfl rfl ?_
            rw [show Int32.ofInt 2 * (nI i + Int32.ofInt 1) = nI (2 * (i + 1)) by simp only [oI, nIm, nI_add]]
            refine p_icmp_ge (off := 95) 180 (by decide +kernel) (by decide) (fun c7 => ?_) (fun c7 => ?_)
            · exact check_end w (by omega) x1 q nn (2 * i) hq hnn (by omega) _ h' _ ⟨rfl, hF⟩
            · refine p_run (pc' := 94) [.iload 4, .iconst 2, .iload 5, .imul] mkX8_check (by decide +kernel) rfl rfl ?_
              rw [show Int32.ofInt 2 * (nI i + Int32.ofInt 1) = nI (2 * (i + 1)) by simp only [oI, nIm, nI_add]]
              refine p_icmp_ne (off := 86) 180 (by decide +kernel) (by decide) (fun c8 => ?_) (fun c8 => ?_)
              · exact check_end w (by omega) x1 q nn (2 * i) hq hnn (by omega) _ h' _ ⟨rfl, hF⟩
              · rw [nI_eq (by omega) (by omega)] at c8
                exact absurd c8 (by omega)
          · rw [nI_eq (by omega) (by omega)] at c6
            exact absurd c6 (by omega)
        · rw [nI_leI (by omega) (by omega)] at c3
          refine p_run (pc' := 115) [.aload_n 0, .getfield 72, .iload 4] mkX8_check (by decide +kernel) rfl rfl ?_
          refine p_iald (2 * i) (by decide +kernel) rfl rfl rfl (by omega) ?_
          refine p_run (pc' := 121) [.aload_n 0, .getfield 9, .iconst 5] mkX8_check (by decide +kernel) rfl rfl ?_
          refine p_iald (5) (by decide +kernel) rfl rfl (by simp only [oI]) (by omega) ?_
          rw [e2, e117]
          refine p_icmp_ne (off := 7) 129 (by decide +kernel) (by decide) (fun c4 => ?_) (fun c4 => ?_)
          · have hno : ¬ ck1 (h 98) (h 117) q i = true := fun z => (fun z => c4 z.2) (ck1_iff.mp z)
            refine p_run (pc' := 133) [.iconst 0, .iadd, .istore 4] mkX8_check (by decide +kernel) rfl rfl ?_
            rw [show nI (2 * i) + Int32.ofInt 0 = nI (2 * i) by rw [oI, nI_add, Nat.add_zero]]
            refine p_run (pc' := 143) [.iload 4, .iload 4, .iconst 2, .iload 5, .imul, .iconst 1, .iadd] mkX8_check (by decide +kernel) rfl rfl ?_
            rw [show Int32.ofInt 2 * nI i + Int32.ofInt 1 = nI (2 * i + 1) by simp only [oI, nIm, nI_add]]
            refine p_icmp_ne (off := 27) 170 (by decide +kernel) (by decide) (fun c6 => ?_) (fun c6 => ?_)
            · refine p_run (pc' := 80) [.iconst 0, .iadd, .istore 4, .iinc 5 1, .goto (-97)] mkX8_check (by decide +kernel) rfl rfl ?_
              rw [show nI (2 * i) + Int32.ofInt 0 = nI (2 * i) by rw [oI, nI_add, Nat.add_zero]]
              rw [ckF, if_neg hno]
              have hF : Ag [99, 107, 108] (up h 96 32 (nI 0)) (wr h' 97 (h' 99)) := fun a ha => by
                by_cases z : a = 97
                · rw [z, wrS, e9', upN (by decide)]
                · rw [wrN z]; exact hA' a (by simp at ha ⊢; omega)
              refine p_run (pc' := 85) [.iconst 2, .iload 5, .imul, .iload_n 3] mkX8_check (by decide +kernel) rfl rfl ?_
              rw [show Int32.ofInt 2 * (nI i + Int32.ofInt 1) = nI (2 * (i + 1)) by simp only [oI, nIm, nI_add]]
              refine p_icmp_ge (off := 95) 180 (by decide +kernel) (by decide) (fun c7 => ?_) (fun c7 => ?_)
              · exact check_end w (by omega) x1 q nn (2 * i) hq hnn (by omega) _ h' _ ⟨rfl, hF⟩
              · refine p_run (pc' := 94) [.iload 4, .iconst 2, .iload 5, .imul] mkX8_check (by decide +kernel) rfl rfl ?_
                rw [show Int32.ofInt 2 * (nI i + Int32.ofInt 1) = nI (2 * (i + 1)) by simp only [oI, nIm, nI_add]]
                refine p_icmp_ne (off := 86) 180 (by decide +kernel) (by decide) (fun c8 => ?_) (fun c8 => ?_)
                · exact check_end w (by omega) x1 q nn (2 * i) hq hnn (by omega) _ h' _ ⟨rfl, hF⟩
                · rw [nI_eq (by omega) (by omega)] at c8
                  exact absurd c8 (by omega)
            · rw [nI_eq (by omega) (by omega)] at c6
              exact absurd c6 (by omega)
          · have ho1 : ck1 (h 98) (h 117) q i = true := ck1_iff.mpr ⟨by omega, c4⟩
            refine p_run (pc' := 133) [.iconst 1, .goto 4, .iadd, .istore 4] mkX8_check (by decide +kernel) rfl rfl ?_
            rw [show nI (2 * i) + Int32.ofInt 1 = nI (2 * i + 1) by rw [oI, nI_add]]
            refine p_run (pc' := 143) [.iload 4, .iload 4, .iconst 2, .iload 5, .imul, .iconst 1, .iadd] mkX8_check (by decide +kernel) rfl rfl ?_
            rw [show Int32.ofInt 2 * nI i + Int32.ofInt 1 = nI (2 * i + 1) by simp only [oI, nIm, nI_add]]
            refine p_icmp_ne (off := 27) 170 (by decide +kernel) (by decide) (fun c6 => ?_) (fun c6 => ?_)
            · exact absurd rfl c6
            · refine p_run (pc' := 149) [.iload 4, .iload_n 2] mkX8_check (by decide +kernel) rfl rfl ?_
              refine p_icmp_ge (off := 21) 170 (by decide +kernel) (by decide) (fun c7 => ?_) (fun c7 => ?_)
              · rw [nI_leI (by omega) (by omega)] at c7
                have hno : ¬ ck2 (h 98) (h 117) q i = true := fun z => (fun z => by omega) (ck2_iff.mp z)
                refine p_run (pc' := 80) [.iconst 0, .iadd, .istore 4, .iinc 5 1, .goto (-97)] mkX8_check (by decide +kernel) rfl rfl ?_
                rw [show nI (2 * i + 1) + Int32.ofInt 0 = nI (2 * i + 1) by rw [oI, nI_add, Nat.add_zero]]
                rw [ckF, if_pos ho1, if_neg hno]
                have hF : Ag [99, 107, 108] (up h 96 32 (nI 0)) (wr h' 97 (h' 99)) := fun a ha => by
                  by_cases z : a = 97
                  · rw [z, wrS, e9', upN (by decide)]
                  · rw [wrN z]; exact hA' a (by simp at ha ⊢; omega)
                refine p_run (pc' := 85) [.iconst 2, .iload 5, .imul, .iload_n 3] mkX8_check (by decide +kernel) rfl rfl ?_
                rw [show Int32.ofInt 2 * (nI i + Int32.ofInt 1) = nI (2 * (i + 1)) by simp only [oI, nIm, nI_add]]
                refine p_icmp_ge (off := 95) 180 (by decide +kernel) (by decide) (fun c9 => ?_) (fun c9 => ?_)
                · exact check_end w (by omega) x1 q nn (2 * i + 1) hq hnn (by omega) _ h' _ ⟨rfl, hF⟩
                · refine p_run (pc' := 94) [.iload 4, .iconst 2, .iload 5, .imul] mkX8_check (by decide +kernel) rfl rfl ?_
                  rw [show Int32.ofInt 2 * (nI i + Int32.ofInt 1) = nI (2 * (i + 1)) by simp only [oI, nIm, nI_add]]
                  refine p_icmp_ne (off := 86) 180 (by decide +kernel) (by decide) (fun c10 => ?_) (fun c10 => ?_)
                  · exact check_end w (by omega) x1 q nn (2 * i + 1) hq hnn (by omega) _ h' _ ⟨rfl, hF⟩
                  · rw [nI_eq (by omega) (by omega)] at c10
                    exact absurd c10 (by omega)
              · rw [nI_leI (by omega) (by omega)] at c7
                refine p_run (pc' := 158) [.aload_n 0, .getfield 72, .iload 4] mkX8_check (by decide +kernel) rfl rfl ?_
                refine p_iald (2 * i + 1) (by decide +kernel) rfl rfl rfl (by omega) ?_
                refine p_run (pc' := 160) [.aload_n 0] mkX8_check (by decide +kernel) rfl rfl ?_
                refine p_callVv (allDug_ok w (k := k - 1) (by omega) h') kvX8_296 (by decide +kernel) (by decide) rfl (by omega) rfl rfl rfl rfl rfl ?_
                rw [e2, e117]
                refine p_icmp_ne (off := 7) 170 (by decide +kernel) (by decide) (fun c8 => ?_) (fun c8 => ?_)
                · have hno : ¬ ck2 (h 98) (h 117) q i = true := fun z => (fun z => c8 z.2) (ck2_iff.mp z)
                  refine p_run (pc' := 80) [.iconst 0, .iadd, .istore 4, .iinc 5 1, .goto (-97)] mkX8_check (by decide +kernel) rfl rfl ?_
                  rw [show nI (2 * i + 1) + Int32.ofInt 0 = nI (2 * i + 1) by rw [oI, nI_add, Nat.add_zero]]
                  rw [ckF, if_pos ho1, if_neg hno]
                  have hF : Ag [99, 107, 108] (up h 96 32 (nI 0)) (wr h' 97 (h' 99)) := fun a ha => by
                    by_cases z : a = 97
                    · rw [z, wrS, e9', upN (by decide)]
                    · rw [wrN z]; exact hA' a (by simp at ha ⊢; omega)
                  refine p_run (pc' := 85) [.iconst 2, .iload 5, .imul, .iload_n 3] mkX8_check (by decide +kernel) rfl rfl ?_
                  rw [show Int32.ofInt 2 * (nI i + Int32.ofInt 1) = nI (2 * (i + 1)) by simp only [oI, nIm, nI_add]]
                  refine p_icmp_ge (off := 95) 180 (by decide +kernel) (by decide) (fun c9 => ?_) (fun c9 => ?_)
                  · exact check_end w (by omega) x1 q nn (2 * i + 1) hq hnn (by omega) _ h' _ ⟨rfl, hF⟩
                  · refine p_run (pc' := 94) [.iload 4, .iconst 2, .iload 5, .imul] mkX8_check (by decide +kernel) rfl rfl ?_
                    rw [show Int32.ofInt 2 * (nI i + Int32.ofInt 1) = nI (2 * (i + 1)) by simp only [oI, nIm, nI_add]]
                    refine p_icmp_ne (off := 86) 180 (by decide +kernel) (by decide) (fun c10 => ?_) (fun c10 => ?_)
                    · exact check_end w (by omega) x1 q nn (2 * i + 1) hq hnn (by omega) _ h' _ ⟨rfl, hF⟩
                    · rw [nI_eq (by omega) (by omega)] at c10
                      exact absurd c10 (by omega)
                · have ho2 : ck2 (h 98) (h 117) q i = true := ck2_iff.mpr ⟨by omega, c8⟩
                  refine p_run (pc' := 80) [.iconst 1, .goto 4, .iadd, .istore 4, .iinc 5 1, .goto (-97)] mkX8_check (by decide +kernel) rfl rfl ?_
                  rw [ckF, if_pos ho1, if_pos ho2]
                  refine Wp.eqL ?_ (ih (i + 1) (by omega) h' e2 e9' hA')
                  rw [show nI (2 * i + 1) + Int32.ofInt 1 = nI (2 * (i + 1)) by rw [oI, nI_add]; rfl]
                  rw [show nI i + Int32.ofInt 1 = nI (i + 1) by simp only [oI, nI_add]]
set_option maxRecDepth 20000 in
set_option maxHeartbeats 4000000 in
theorem r_check_bad (w : Wt) {k : Nat} (hk : 7 ≤ k) (a : Int32) (h : Mm) (hb : ¬ inR a 1 30) : Ok w k MX8_check [.ref 96, .int a] h (Rv BADv (up h 96 32 (nI 0))) := by
  show Wp w k MX8_check _ 0 [some (.ref 96), some (.int a), none, none, none, none] [] h
  refine p_run (pc' := 14) [.aload_n 0, .getfield 289, .istore_n 2, .aload_n 0, .iconst 0, .putfield 289, .iload_n 1, .iconst 1, .bipush 30] mkX8_check (by decide +kernel) rfl rfl ?_
  refine p_callSv (in_ok w (k := k - 1) _ _ _ _) ksX8_75 (by decide +kernel) (by omega) rfl rfl rfl rfl rfl ?_
  refine p_if_ne (off := 6) 23 (by decide +kernel) (by decide) (fun c17 => ?_) (fun c17 => ?_)
  · exact absurd (bI1.mp c17) hb
  · refine p_run (pc' := 22) [.ldc 123] mkX8_check (by decide +kernel) rfl rfl ?_
    refine p_iret rfl rfl (by decide +kernel) ?_
    exact ⟨rfl, by rw [oI]⟩
set_option maxRecDepth 20000 in
set_option maxHeartbeats 4000000 in
theorem r_check_no (w : Wt) {k : Nat} (hk : 7 ≤ k) (n : Nat) (hn : 1 ≤ n ∧ n ≤ 30) (h : Mm) (hno : h 96 3 = 0) : Ok w k MX8_check [.ref 96, .int (nI n)] h (Rv NOv (up h 96 32 (nI 0))) := by
  show Wp w k MX8_check _ 0 [some (.ref 96), some (.int (nI n)), none, none, none, none] [] h
  refine p_run (pc' := 14) [.aload_n 0, .getfield 289, .istore_n 2, .aload_n 0, .iconst 0, .putfield 289, .iload_n 1, .iconst 1, .bipush 30] mkX8_check (by decide +kernel) rfl rfl ?_
  refine p_callSv (in_t w (k := k - 1) _ _ _ _ (in_nI (lo := 1) (hi := 30) hn.1 hn.2 (by omega))) ksX8_75 (by decide +kernel) (by omega) rfl rfl rfl rfl rfl ?_
  refine p_if_ne (off := 6) 23 (by decide +kernel) (by decide) (fun c17 => ?_) (fun c17 => ?_)
  · refine p_run (pc' := 27) [.aload_n 0, .getfield 292] mkX8_check (by decide +kernel) rfl rfl ?_
    refine Wp.eqS (st' := [.int 0]) (by simp only [up]; rw [if_neg (by decide), hno]) ?_
    refine p_if_ne (off := 7) 34 (by decide +kernel) (by decide) (fun c1 => ?_) (fun c1 => ?_)
    · exact absurd rfl c1
    · refine p_run (pc' := 33) [.ldc_w 288] mkX8_check (by decide +kernel) rfl rfl ?_
      refine p_iret rfl rfl (by decide +kernel) ?_
      exact ⟨rfl, by rw [oI]⟩
  · exact False.elim (by revert c17; decide)
set_option maxRecDepth 20000 in
set_option maxHeartbeats 4000000 in
theorem r_check (w : Wt) {k : Nat} (hk : 7 ≤ k) (n : Nat) (hn : 1 ≤ n ∧ n ≤ 30) (h : Mm) (hI : Iv (h 98)) (hT : Tq (h 98)) (hq : In (h 98 2) 9999) (hw : In (h 96 32) 60) (hy : ¬ h 96 3 = 0) : Ok w k MX8_check [.ref 96, .int (nI n)] h (Rs [99, 107, 108] (ckA (h 98) (h 117) (nN (h 96 32)) (min (9999 - nN (h 98 2)) n)) (up h 96 32 (nI 0))) := by
  show Wp w k MX8_check _ 0 [some (.ref 96), some (.int (nI n)), none, none, none, none] [] h
  refine p_run (pc' := 14) [.aload_n 0, .getfield 289, .istore_n 2, .aload_n 0, .iconst 0, .putfield 289, .iload_n 1, .iconst 1, .bipush 30] mkX8_check (by decide +kernel) rfl rfl ?_
  refine p_callSv (in_t w (k := k - 1) _ _ _ _ (in_nI (lo := 1) (hi := 30) hn.1 hn.2 (by omega))) ksX8_75 (by decide +kernel) (by omega) rfl rfl rfl rfl rfl ?_
  refine p_if_ne (off := 6) 23 (by decide +kernel) (by decide) (fun c17 => ?_) (fun c17 => ?_)
  · refine p_run (pc' := 27) [.aload_n 0, .getfield 292] mkX8_check (by decide +kernel) rfl rfl ?_
    refine Wp.eqS (st' := [.int (h 96 3)]) (by simp only [up]; rw [if_neg (by decide)]) ?_
    refine p_if_ne (off := 7) 34 (by decide +kernel) (by decide) (fun c1 => ?_) (fun c1 => ?_)
    · refine p_run (pc' := 42) [.aload_n 0, .getfield 9, .aload_n 0, .getfield 16] mkX8_check (by decide +kernel) rfl rfl ?_
      refine p_callSw (copyAll_ok w (k := k - 1) 97 99 _ (by decide) (by decide) (by decide)) ksX8_185 (by decide +kernel) (by omega) rfl rfl rfl rfl rfl ?_
      refine p_run (pc' := 53) [.aload_n 0, .getfield 13, .aload_n 0, .getfield 9] mkX8_check (by decide +kernel) rfl rfl ?_
      refine p_callSw (copyAll_ok w (k := k - 1) 98 97 _ (by decide) (by decide) (by decide)) ksX8_185 (by decide +kernel) (by omega) rfl rfl rfl rfl rfl ?_
      generalize e5 : wr (wr (up h 96 32 (Int32.ofInt 0)) 99 _) 97 _ = h5
      have e97 : h5 97 = h 98 := by rw [← e5, wrS, wrN (by decide), upN (by decide)]
      have e99 : h5 99 = h 97 := by rw [← e5, wrN (by decide), wrS, upN (by decide)]
      have hA5 : Ag [97, 99, 107, 108] (up h 96 32 (nI 0)) h5 := by rw [← e5]; exact (Ag.wr (by decide)).tr (Ag.wr (by decide))
      refine p_run (pc' := 65) [.iconst 2, .sipush 9999, .aload_n 0, .getfield 9, .iconst 2] mkX8_check (by decide +kernel) rfl rfl ?_
      refine p_iald (2) (by decide +kernel) rfl rfl (by simp only [oI]) (by omega) ?_
      have hq2 := hq.2
      have hw2 := hw.2
      refine Wp.eqS (st' := [.int (nI (nN (h 98 2))), .int (Int32.ofInt 9999), .int (Int32.ofInt 2)]) (by rw [← hq.1, e97]) ?_
      refine p_run (pc' := 69) [.isub, .iconst 0, .iload_n 1] mkX8_check (by decide +kernel) rfl rfl ?_
      refine p_callSv (rwithin_ok w (k := k - 1) _ _ _ _) ksX8_102 (by decide +kernel) (by omega) rfl rfl rfl rfl rfl ?_
      rw [show clF (Int32.ofInt 9999 - nI (nN (h 98 2))) (Int32.ofInt 0) (nI n) = nI (min (9999 - nN (h 98 2)) n) by rw [oI, oI, clF_sub (by omega) (by omega) (by omega)]]
      refine p_run (pc' := 73) [.imul] mkX8_check (by decide +kernel) rfl rfl ?_
      rw [show Int32.ofInt 2 * nI (min (9999 - nN (h 98 2)) n) = nI (2 * min (9999 - nN (h 98 2)) n) by rw [oI, nIm]]
      refine p_run (pc' := 80) [.istore_n 3, .iconst 0, .istore 4, .iconst 0, .istore 5] mkX8_check (by decide +kernel) rfl rfl ?_
      refine Wp.eqL ?_ (check_loop w (by omega) (some (.int (nI n))) (nN (h 96 32)) (min (9999 - nN (h 98 2)) n) hw2 (by omega) h hI hT (min (9999 - nN (h 98 2)) n) 0 (by omega) h5 e97 e99 hA5)
      rw [← hw.1]
      rfl
    · exact absurd c1 hy
  · exact False.elim (by revert c17; decide)
