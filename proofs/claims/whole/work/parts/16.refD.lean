/-! the reference: texts at work, what is dug -/
theorem jrem_nI {a d : Nat} (ha : a < 2 ^ 31) (h0 : 0 < d) (hd : d < 2 ^ 31) : jrem (nI a) (nI d) = nI (a % d) := pk_rem ha h0 hd
theorem nIdec {n : Nat} (h : 1 ≤ n) : nI n + Int32.ofInt (-1) = nI (n - 1) := by
  obtain ⟨m, rfl⟩ : ∃ m, n = m + 1 := ⟨n - 1, by omega⟩
  exact pk_m1 m
theorem nIm1 (x : Int32) : x + Int32.ofInt (-1) = x - nI 1 := by
  rw [Int32.sub_eq_add_neg]
  rfl
theorem nmF_le (x : Nat) : nmF x ≤ 4 := by unfold nmF; split <;> omega
theorem nI_lt0 {n : Nat} (h : n < 2 ^ 31) : ¬ nI n < 0 := nI_pos h
set_option maxRecDepth 20000 in
set_option maxHeartbeats 4000000 in
theorem bits_ok (w : Wt) {k : Nat} (m : Nat) (hm : m < 1024) (h : Mm) : Ok w k MX8_bits [.int (nI m)] h (Rv (nI (pcF m)) h) := by
  show Wp w k MX8_bits _ 0 [some (.int (nI m)), none, none] [] h
  refine p_run (pc' := 4) [.iconst 0, .istore_n 1, .iload_n 0, .istore_n 2] mkX8_bits (by decide +kernel) rfl rfl ?_
  have := bits_loop w (k := k) (some (.int (nI m))) h m hm 0
  rw [Nat.zero_add] at this
  exact this
noncomputable def oT (o : Option Nat) : Int32 := match o with
  | none => Int32.ofInt (-1)
  | some t => nI t
set_option maxRecDepth 20000 in
set_option maxHeartbeats 4000000 in
theorem counts_loop (w : Wt) {k : Nat} (key : Nat) (hkey : key < 1000) (h : Mm) (hT : ∀ t, t < 14 → In (h 97 (70 + 2 * t)) 9999) : ∀ (i : Nat), i ≤ 14 → Wp w k MX8_counts (Rv (oT (lastT (h 97) key i)) h) 10 [some (.ref 96), some (.int (nI key)), some (.int (nI i - nI 1))] [] h := by
  intro i
  induction i with
  | zero =>
    intro _
    refine p_run (pc' := 11) [.iload_n 2] mkX8_counts (by decide +kernel) rfl rfl ?_
    refine p_if_lt (off := 30) 41 (by decide +kernel) (by decide) (fun c => ?_) (fun c => ?_)
    · refine p_run (pc' := 42) [.iconst (-1)] mkX8_counts (by decide +kernel) rfl rfl ?_
      refine p_iret rfl rfl (by decide +kernel) ?_
      exact ⟨rfl, rfl⟩
    · exact absurd c (by decide)
  | succ i ih =>
    intro hi
    obtain ⟨e1, e2⟩ := hT i (by omega)
    rw [nIs (by omega), Nat.add_sub_cancel]
    refine p_run (pc' := 11) [.iload_n 2] mkX8_counts (by decide +kernel) rfl rfl ?_
    refine p_if_lt (off := 30) 41 (by decide +kernel) (by decide) (fun c => ?_) (fun c => ?_)
    · exact absurd c (nI_lt0 (by omega))
    · refine p_run (pc' := 24) [.aload_n 0, .getfield 9, .bipush 70, .iconst 2, .iload_n 2, .imul, .iadd] mkX8_counts (by decide +kernel) rfl rfl ?_
      refine p_iald (70 + 2 * i) (by decide +kernel) rfl rfl (by simp only [oI, nI_add, nIm]) (by omega) ?_
      rw [e1]
      refine p_run (pc' := 28) [.sipush 1000] mkX8_counts (by decide +kernel) rfl rfl ?_
      refine p_idiv (by decide +kernel) (by decide) ?_
      rw [oI, pk_div (by omega) (by omega) (by omega)]
      refine p_run (pc' := 30) [.iload_n 1] mkX8_counts (by decide +kernel) rfl rfl ?_
      refine p_icmp_ne (off := 5) 35 (by decide +kernel) (by decide) (fun c2 => ?_) (fun c2 => ?_)
      · rw [nI_eq (by have := Nat.div_le_self (nN (h 97 (70 + 2 * i))) 1000; omega) (by omega)] at c2
        refine p_run (pc' := 10) [.iinc 2 (-1), .goto (-28)] mkX8_counts (by decide +kernel) rfl rfl ?_
        rw [lastT, if_neg c2]
        refine Wp.eqL ?_ (ih (by omega))
        rw [nIm1]
      · rw [nI_eq (by have := Nat.div_le_self (nN (h 97 (70 + 2 * i))) 1000; omega) (by omega)] at c2
        refine p_run (pc' := 34) [.iload_n 2] mkX8_counts (by decide +kernel) rfl rfl ?_
        refine p_iret rfl rfl (by decide +kernel) ?_
        exact ⟨by rw [lastT, if_pos c2]; rfl, rfl⟩
set_option maxRecDepth 20000 in
set_option maxHeartbeats 4000000 in
theorem counts_ok (w : Wt) {k : Nat} (key : Nat) (hkey : key < 1000) (h : Mm) (h7 : In (h 97 7) 14) (hT : ∀ t, t < 14 → In (h 97 (70 + 2 * t)) 9999) : Ok w k MX8_counts [.ref 96, .int (nI key)] h (Rv (oT (lawT (h 97) key)) h) := by
  show Wp w k MX8_counts _ 0 [some (.ref 96), some (.int (nI key)), none] [] h
  refine p_run (pc' := 6) [.aload_n 0, .getfield 9, .bipush 7] mkX8_counts (by decide +kernel) rfl rfl ?_
  refine p_iald (7) (by decide +kernel) rfl rfl (by simp only [oI]) (by omega) ?_
  rw [h7.1]
  refine p_run (pc' := 10) [.iconst 1, .isub, .istore_n 2] mkX8_counts (by decide +kernel) rfl rfl ?_
  exact counts_loop w key hkey h hT (nN (h 97 7)) h7.2
set_option maxRecDepth 20000 in
set_option maxHeartbeats 4000000 in
theorem works_loop (w : Wt) {k : Nat} (hk : 1 ≤ k) (h0 : Mm) (t n m : Nat) (c : Nat → Int32) (hc : c = fun i => h0 97 (98 + 96 * t + i)) (ht : t < 14) (hwf : wfC m c n) (hm4 : m ≤ 4) : ∀ (d i : Nat), i + d = n → ∀ (h : Mm) (x5 : Option Value), (∀ a, a ≠ 107 → h a = h0 a) → stk (h 107) (runT (h0 108) c i) →
    Wp w k MX8_worksOut (fun r h' => r = some (.int ((runT (h0 108) c n).getLastD 0)) ∧ ∀ a, a ≠ 107 → h' a = h0 a) 21 [some (.ref 96), some (.int (nI t)), some (.int (nI (dep c i))), some (.int (nI n)), some (.int (nI i)), x5] [] h := by
  intro d
  induction d with
  | zero =>
    intro i hi h x5 hh hs
    have hi : i = n := by omega
    subst hi
    refine p_run (pc' := 24) [.iload 4, .iload_n 3] mkX8_worksOut (by decide +kernel) rfl rfl ?_
    refine p_icmp_ge (off := 131) 155 (by decide +kernel) (by decide) (fun c1 => ?_) (fun c1 => ?_)
    · refine p_run (pc' := 160) [.aload_n 0, .getfield 42, .iconst 0] mkX8_worksOut (by decide +kernel) rfl rfl ?_
      refine p_iald (0) (by decide +kernel) rfl rfl (by simp only [oI]) (by omega) ?_
      have hl := runT_len (fc := h0 108) hwf i (Nat.le_refl _)
      rw [hwf.2.1] at hl
      refine p_iret rfl rfl (by decide +kernel) ?_
      refine ⟨?_, hh⟩
      cases hr : runT (h0 108) c i with
      | nil => rw [hr] at hl; simp at hl
      | cons x r =>
        rw [hr] at hl hs
        cases r with
        | nil => rw [show h 107 0 = x from hs.1]; rfl
        | cons y r => simp at hl
    · exact absurd (nI_le (Nat.le_refl _) (by have := hwf.2.2; omega)) c1
  | succ d ih =>
    intro i hi h x5 hh hs
    have hn96 := hwf.2.2
    have hde := dep_le c i
    have hl := runT_len (fc := h0 108) hwf i (by omega)
    refine p_run (pc' := 24) [.iload 4, .iload_n 3] mkX8_worksOut (by decide +kernel) rfl rfl ?_
    refine p_icmp_ge (off := 131) 155 (by decide +kernel) (by decide) (fun c1 => ?_) (fun c1 => ?_)
    · exact absurd c1 (nI_ge (by omega) (by omega))
    · refine p_run (pc' := 41) [.aload_n 0, .getfield 9, .bipush 98, .bipush 96, .iload_n 1, .imul, .iadd, .iload 4, .iadd] mkX8_worksOut (by decide +kernel) rfl rfl ?_
      refine p_iald (98 + 96 * t + i) (by decide +kernel) rfl rfl (by simp only [oI, nI_add, nIm]) (by omega) ?_
      have ec : h 97 (98 + 96 * t + i) = c i := by rw [hh 97 (by decide), hc]
      rw [ec]
      rcases hwf.1 i (by omega) with ⟨s1, s2⟩ | ⟨s1, s2⟩ | ⟨s1, s2, s3⟩
      · have hin : In (c i) (10000 + m) := In_of (by omega) s1 (Int32.le_of_lt s2)
        have hin2 := hin.2
        refine p_run (pc' := 46) [.istore 5, .iload 5] mkX8_worksOut (by decide +kernel) rfl rfl ?_
        refine p_if_lt (off := 39) 85 (by decide +kernel) (by decide) (fun c2 => ?_) (fun c2 => ?_)
        · exact absurd c2 (by rw [← nI_0]; exact Int32.not_lt.mpr s1)
        · refine p_run (pc' := 59) [.aload_n 0, .getfield 42, .iload_n 2, .iload 5, .sipush 10000] mkX8_worksOut (by decide +kernel) rfl rfl ?_
          refine p_icmp_ge (off := 8) 67 (by decide +kernel) (by decide) (fun c3 => ?_) (fun c3 => ?_)
          · have hq : 10000 ≤ nN (c i) := by rw [oI, hin.1] at c3; exact (nI_leI (by omega) (by omega)).mp c3
            have hlt : nN (c i) < 10000 + m := by have := s2; rw [hin.1] at this; exact (nI_ltI (by omega) (by omega)).mp this
            refine p_run (pc' := 77) [.aload_n 0, .getfield 45, .iload 5, .sipush 10000, .isub] mkX8_worksOut (by decide +kernel) rfl rfl ?_
            refine p_iald (nN (c i) - 10000) (by decide +kernel) rfl rfl (by rw [oI]; conv => lhs; rw [hin.1]; rw [nIs hq]) (by omega) ?_
            refine p_iast (dep c i) (by decide +kernel) rfl rfl rfl (by omega)  ?_
            refine p_run (pc' := 21) [.iinc 2 1, .goto 67, .iinc 4 1, .goto (-131)] mkX8_worksOut (by decide +kernel) rfl rfl ?_
            refine Wp.eqL ?_ (ih (i + 1) (by omega) _ (some (.int (c i))) (fun a ha => by rw [upN ha]; exact hh a ha) ?_)
            · rw [dep, if_pos s1]; simp only [oI, nI_add]
            · rw [upS, runT, tokS_n s1]; exact ⟨by rw [hl]; simp only [upd, if_true]; rw [hh 108 (by decide), if_neg (by rw [oI] at c3; exact Int32.not_lt.mpr c3)], stk_upd (by omega) hs⟩
          · refine p_run (pc' := 78) [.iload 5, .goto 14] mkX8_worksOut (by decide +kernel) rfl rfl ?_
            refine p_iast (dep c i) (by decide +kernel) rfl rfl rfl (by omega)  ?_
            refine p_run (pc' := 21) [.iinc 2 1, .goto 67, .iinc 4 1, .goto (-131)] mkX8_worksOut (by decide +kernel) rfl rfl ?_
            refine Wp.eqL ?_ (ih (i + 1) (by omega) _ (some (.int (c i))) (fun a ha => by rw [upN ha]; exact hh a ha) ?_)
            · rw [dep, if_pos s1]; simp only [oI, nI_add]
            · rw [upS, runT, tokS_n s1]; exact ⟨by rw [hl]; simp only [upd, if_true]; rw [if_pos (by rw [oI] at c3; exact Int32.not_le.mp c3)], stk_upd (by omega) hs⟩
      · cases hr : runT (h0 108) c i with
        | nil => rw [hr] at hl; simp at hl; omega
        | cons q r =>
          rw [hr] at hl hs
          have hrl : r.length = dep c i - 1 := by simp at hl; omega
          rw [s1]
          refine p_run (pc' := 46) [.istore 5, .iload 5] mkX8_worksOut (by decide +kernel) rfl rfl ?_
          refine p_if_lt (off := 39) 85 (by decide +kernel) (by decide) (fun c2 => ?_) (fun c2 => ?_)
          · refine p_run (pc' := 89) [.iload 5, .bipush (-10)] mkX8_worksOut (by decide +kernel) rfl rfl ?_
            refine p_icmp_ne (off := 30) 119 (by decide +kernel) (by decide) (fun c3 => ?_) (fun c3 => ?_)
            · exact absurd rfl c3
            · refine p_run (pc' := 106) [.aload_n 0, .getfield 42, .iload_n 2, .iconst 1, .isub, .aload_n 0, .getfield 42, .iload_n 2, .iconst 1, .isub] mkX8_worksOut (by decide +kernel) rfl rfl ?_
              refine p_iald (dep c i - 1) (by decide +kernel) rfl rfl (by rw [oI, nIs (by omega)]) (by omega) ?_
              rw [← hrl, hs.1]
              refine p_if_ne (off := 7) 114 (by decide +kernel) (by decide) (fun c4 => ?_) (fun c4 => ?_)
              · refine p_run (pc' := 115) [.iconst 0] mkX8_worksOut (by decide +kernel) rfl rfl ?_
                refine p_iast (dep c i - 1) (by decide +kernel) rfl rfl (by rw [oI, nIs (by omega)]) (by omega)  ?_
                refine p_run (pc' := 21) [.goto 33, .iinc 4 1, .goto (-131)] mkX8_worksOut (by decide +kernel) rfl rfl ?_
                refine Wp.eqL ?_ (ih (i + 1) (by omega) _ (some (.int (Int32.ofInt (-10)))) (fun a ha => by rw [upN ha]; exact hh a ha) ?_)
                · rw [dep, if_neg (by rw [s1]; decide), if_pos s1]; simp only [oI, nI_add]
                · rw [upS, runT, hr, s1, tokS_not, ← hrl]; exact ⟨by simp only [upd, if_true]; rw [bIf c4]; rfl, stk_upd (Nat.le_refl _) hs.2⟩
              · refine p_run (pc' := 115) [.iconst 1, .goto 4] mkX8_worksOut (by decide +kernel) rfl rfl ?_
                refine p_iast (dep c i - 1) (by decide +kernel) rfl rfl (by rw [oI, nIs (by omega)]) (by omega)  ?_
                refine p_run (pc' := 21) [.goto 33, .iinc 4 1, .goto (-131)] mkX8_worksOut (by decide +kernel) rfl rfl ?_
                refine Wp.eqL ?_ (ih (i + 1) (by omega) _ (some (.int (Int32.ofInt (-10)))) (fun a ha => by rw [upN ha]; exact hh a ha) ?_)
                · rw [dep, if_neg (by rw [s1]; decide), if_pos s1]; simp only [oI, nI_add]
                · rw [upS, runT, hr, s1, tokS_not, ← hrl]; exact ⟨by simp only [upd, if_true]; rw [bIt c4]; rfl, stk_upd (Nat.le_refl _) hs.2⟩
          · exact absurd (by decide) c2
      · have hng : ¬ nI 0 ≤ c i := Int32.not_le.mpr s2
        have hnm : ¬ c i = Int32.ofInt (-10) := by intro e; rw [e] at s1; exact absurd s1 (by decide)
        cases hr : runT (h0 108) c i with
        | nil => rw [hr] at hl; simp at hl; omega
        | cons q r =>
          cases r with
          | nil => rw [hr] at hl; simp at hl; omega
          | cons q2 r =>
            rw [hr] at hl hs
            have hrl : r.length = dep c i - 2 := by simp at hl; omega
            have hrl2 : (q2 :: r).length = dep c i - 1 := by simp at hl ⊢; omega
            obtain ⟨t1, t2, t3⟩ := hs
            rw [hrl2] at t1
            rw [hrl] at t2
            refine p_run (pc' := 46) [.istore 5, .iload 5] mkX8_worksOut (by decide +kernel) rfl rfl ?_
            refine p_if_lt (off := 39) 85 (by decide +kernel) (by decide) (fun c2 => ?_) (fun c2 => ?_)
            · refine p_run (pc' := 89) [.iload 5, .bipush (-10)] mkX8_worksOut (by decide +kernel) rfl rfl ?_
              refine p_icmp_ne (off := 30) 119 (by decide +kernel) (by decide) (fun c3 => ?_) (fun c3 => ?_)
              · refine p_run (pc' := 122) [.iinc 2 (-1)] mkX8_worksOut (by decide +kernel) rfl rfl ?_
                rw [nIdec (by omega)]
                refine p_run (pc' := 138) [.aload_n 0, .getfield 42, .iload_n 2, .iconst 1, .isub, .iload 5, .aload_n 0, .getfield 42, .iload_n 2, .iconst 1, .isub] mkX8_worksOut (by decide +kernel) rfl rfl ?_
                refine p_iald (dep c i - 2) (by decide +kernel) rfl rfl (by rw [oI, nIs (by omega)]; rfl) (by omega) ?_
                refine p_run (pc' := 144) [.aload_n 0, .getfield 42, .iload_n 2] mkX8_worksOut (by decide +kernel) rfl rfl ?_
                refine p_iald (dep c i - 1) (by decide +kernel) rfl rfl rfl (by omega) ?_
                rw [t1, t2]
                refine p_callSv (two_ok w (k := k - 1) _ _ _ _) ksX8_278 (by decide +kernel) (by omega) rfl rfl rfl rfl rfl ?_
                refine p_iast (dep c i - 2) (by decide +kernel) rfl rfl (by rw [oI, nIs (by omega)]; rfl) (by omega)  ?_
                refine p_run (pc' := 21) [.iinc 4 1, .goto (-131)] mkX8_worksOut (by decide +kernel) rfl rfl ?_
                refine Wp.eqL ?_ (ih (i + 1) (by omega) _ (some (.int (c i))) (fun a ha => by rw [upN ha]; exact hh a ha) ?_)
                · rw [dep, if_neg hng, if_neg hnm]; simp only [oI, nI_add]
                · rw [upS, runT, hr, tokS_two hng hnm]; exact ⟨by rw [hrl]; simp only [upd, if_true], stk_upd (by omega) t3⟩
              · exact absurd c3 hnm
            · exact absurd (by rw [← nI_0]; exact s2) c2
set_option maxRecDepth 20000 in
set_option maxHeartbeats 4000000 in
theorem worksOut_ok (w : Wt) {k : Nat} (hk : 1 ≤ k) (t : Nat) (ht : t < 14) (h : Mm) (hX : TX (h 97) t) : Ok w k MX8_worksOut [.ref 96, .int (nI t)] h (fun r h' => r = some (.int (evF (h 97) t (h 108))) ∧ ∀ a, a ≠ 107 → h' a = h a) := by
  show Wp w k MX8_worksOut _ 0 [some (.ref 96), some (.int (nI t)), none, none, none, none] [] h
  refine p_run (pc' := 12) [.iconst 0, .istore_n 2, .aload_n 0, .getfield 9, .bipush 70, .iconst 2, .iload_n 1, .imul, .iadd] mkX8_worksOut (by decide +kernel) rfl rfl ?_
  refine p_iald (70 + 2 * t) (by decide +kernel) rfl rfl (by simp only [oI, nI_add, nIm]) (by omega) ?_
  rw [hX.1.1]
  refine p_run (pc' := 16) [.sipush 1000] mkX8_worksOut (by decide +kernel) rfl rfl ?_
  refine p_irem (by decide +kernel) (by decide) ?_
  have hX2 := hX.1.2
  simp only [oI]
  rw [jrem_nI (by omega) (by omega) (by omega)]
  refine p_run (pc' := 21) [.istore_n 3, .iconst 0, .istore 4] mkX8_worksOut (by decide +kernel) rfl rfl ?_
  exact works_loop w hk h t _ _ _ rfl ht hX.2 (nmF_le _) _ 0 (Nat.zero_add _) h none (fun _ _ => rfl) trivial
