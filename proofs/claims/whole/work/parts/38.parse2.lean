/-! the reference: notsOpen, settle, takesKey, takesPart -/
theorem stk_not {f : Vc} : ∀ {W : List Int32}, stk f W → cntF (fun i => decide (f i = NOTv)) W.length = cnN W
  | [], _ => rfl
  | x :: r, h => by
    rw [List.length_cons, cntF, stk_not h.2, cnN]
    have e : f r.length = x := h.1
    rw [e, Nat.add_comm]
    congr 1
    by_cases hx : x = NOTv
    · rw [if_pos hx, if_pos (decide_eq_true hx)]
    · rw [if_neg hx, if_neg (fun q => hx (of_decide_eq_true q))]
def SS (h : Mm) (W C : List Int32) : Prop := h 96 19 = nI W.length ∧ h 96 16 = nI C.length ∧ stk (h 105) W ∧ stk (h 104) C
def Fa (A S : List Nat) (h hh : Mm) : Prop := Ag A h hh ∧ ∀ j, j ∉ S → hh 96 j = h 96 j
theorem Fa.rf {A S : List Nat} {h : Mm} : Fa A S h h := ⟨Ag.rf, fun _ _ => rfl⟩
theorem Fa.tr {A S : List Nat} {a b c : Mm} (x : Fa A S a b) (y : Fa A S b c) : Fa A S a c := ⟨x.1.tr y.1, fun j hj => (y.2 j hj).trans (x.2 j hj)⟩
theorem Fa.u1 {A S : List Nat} {h : Mm} {k : Nat} {x : Int32} (ha : 96 ∈ A) (hk : k ∈ S) : Fa A S h (up h 96 k x) := ⟨Ag.up ha, fun j hj => by rw [upS]; exact upd_n (fun e => hj (e ▸ hk))⟩
theorem Fa.ar {A S : List Nat} {h : Mm} {a k : Nat} {x : Int32} (ha : a ∈ A) (h96 : a ≠ 96) : Fa A S h (up h a k x) := ⟨Ag.up ha, fun j _ => by rw [upN (Ne.symm h96)]⟩
theorem Fa.mono {A A' S S' : List Nat} {h h' : Mm} (a : Fa A S h h') (ha : ∀ x, x ∈ A → x ∈ A') (hs : ∀ x, x ∈ S → x ∈ S') : Fa A' S' h h' := ⟨a.1.mono ha, fun j hj => a.2 j (fun q => hj (hs j q))⟩
theorem Fr.fa {A S : List Nat} {h h' : Mm} (ha : 96 ∈ A) (a : Fr S h h') : Fa A S h h' := ⟨a.1.mono (fun x hx => by simp at hx; rw [hx]; exact ha), a.2⟩
theorem rk6 (x : Int32) : rkF x ≤ 6 := by unfold rkF; (repeat' split) <;> omega
set_option maxRecDepth 20000 in
set_option maxHeartbeats 4000000 in
theorem notsOpen_ok (w : Wt) {k : Nat} (W : List Int32) (h : Mm) (e19 : h 96 19 = nI W.length) (hW : stk (h 105) W) (hl : W.length ≤ 96) : Ok w k MX8_notsOpen [.ref 96] h (Rv (nI (cnN W)) h) := by
  show Wp w k MX8_notsOpen _ 0 [some (.ref 96), none, none] [] h
  have hc := stk_not hW
  refine p_run (pc' := 4) [.iconst 0, .istore_n 1, .iconst 0, .istore_n 2] mkX8_notsOpen (by decide +kernel) rfl rfl ?_
  refine Wp.for (W.length) (fun i L hh => L = [some (.ref 96), some (.int (nI (cntF (fun i => decide (h 105 i = NOTv)) i))), some (.int (nI i))] ∧ h = hh) ?_ ?_ (0) (by omega) _ _ ?_
  · rintro i L hh hi ⟨rfl, hJ⟩ ih
    subst hJ
    refine p_run (pc' := 9) [.iload_n 2, .aload_n 0, .getfield 244] mkX8_notsOpen (by decide +kernel) rfl rfl ?_
    rw [e19]
    refine p_icmp_ge (off := 28) 37 (by decide +kernel) (by decide) (fun cq1 => ?_) (fun cq1 => ?_)
    · exact absurd cq1 (nI_ge (by omega) (by omega))
    · refine p_run (pc' := 18) [.iload_n 1, .aload_n 0, .getfield 35, .iload_n 2] mkX8_notsOpen (by decide +kernel) rfl rfl ?_
      refine p_iald (i) (by decide +kernel) rfl rfl rfl (by omega) ?_
      refine p_run (pc' := 21) [.bipush (-10)] mkX8_notsOpen (by decide +kernel) rfl rfl ?_
      refine p_icmp_ne (off := 7) 28 (by decide +kernel) (by decide) (fun cq2 => ?_) (fun cq2 => ?_)
      · refine p_run (pc' := 4) [.iconst 0, .iadd, .istore_n 1, .iinc 2 1, .goto (-30)] mkX8_notsOpen (by decide +kernel) rfl rfl ?_
        exact ih _ _ ⟨by rw [show nI i + Int32.ofInt 1 = nI (i + 1) by simp only [oI, nI_add], oI, nI_add, cntF, if_neg (fun q => cq2 (of_decide_eq_true q))], rfl⟩
      · refine p_run (pc' := 4) [.iconst 1, .goto 4, .iadd, .istore_n 1, .iinc 2 1, .goto (-30)] mkX8_notsOpen (by decide +kernel) rfl rfl ?_
        exact ih _ _ ⟨by rw [show nI i + Int32.ofInt 1 = nI (i + 1) by simp only [oI, nI_add], oI, nI_add, cntF, if_pos (decide_eq_true cq2)], rfl⟩
  · rintro L hh ⟨rfl, hJ⟩
    subst hJ
    refine p_run (pc' := 9) [.iload_n 2, .aload_n 0, .getfield 244] mkX8_notsOpen (by decide +kernel) rfl rfl ?_
    rw [e19]
    refine p_icmp_ge (off := 28) 37 (by decide +kernel) (by decide) (fun cq1 => ?_) (fun cq1 => ?_)
    · refine p_run (pc' := 38) [.iload_n 1] mkX8_notsOpen (by decide +kernel) rfl rfl ?_
      refine p_iret rfl rfl (by decide +kernel) ?_
      exact ⟨by rw [hc], rfl⟩
    · exact absurd (nI_le (Nat.le_refl _) (by omega)) cq1
  · exact ⟨rfl, rfl⟩
set_option maxRecDepth 20000 in
set_option maxHeartbeats 4000000 in
theorem settle_loop (w : Wt) {k : Nat} (hk : 1 ≤ k) (m : Nat) (hm : m ≤ 6) : ∀ (W C : List Int32) (h : Mm), W.length + C.length ≤ 96 → SS h W C → Wp w k MX8_settle (fun r h' => r = none ∧ SS h' (stF m W C).1 (stF m W C).2 ∧ Fa [96, 104] [16, 19] h h') 0 [some (.ref 96), some (.int (nI m))] [] h := by
  intro W
  induction W with
  | nil =>
    intro C h hl ⟨e19, e16, hW, hC⟩
    refine p_run (pc' := 4) [.aload_n 0, .getfield 244] mkX8_settle (by decide +kernel) rfl rfl ?_
    rw [e19]
    refine p_if_le (off := 78) 82 (by decide +kernel) (by decide) (fun cq1 => ?_) (fun cq1 => ?_)
    · refine p_vret rfl (by decide +kernel) ?_
      exact ⟨rfl, ⟨e19, e16, hW, hC⟩, Fa.rf⟩
    · exact absurd (show nI 0 ≤ 0 by decide) cq1
  | cons x W ih =>
    intro C h hl ⟨e19, e16, hW, hC⟩
    simp only [List.length_cons] at hl e19
    have ex : h 105 W.length = x := hW.1
    refine p_run (pc' := 4) [.aload_n 0, .getfield 244] mkX8_settle (by decide +kernel) rfl rfl ?_
    refine p_if_le (off := 78) 82 (by decide +kernel) (by decide) (fun cq1 => ?_) (fun cq1 => ?_)
    · exact False.elim (by rw [e19, show (0 : Int32) = nI 0 from rfl, nI_leI (by omega) (by omega)] at cq1; omega)
    · refine p_run (pc' := 17) [.aload_n 0, .getfield 35, .aload_n 0, .getfield 244, .iconst 1, .isub] mkX8_settle (by decide +kernel) rfl rfl ?_
      refine p_iald (W.length) (by decide +kernel) rfl rfl (by rw [e19, oI, nIs (by omega), Nat.add_sub_cancel]) (by omega) ?_
      rw [ex]
      refine p_run (pc' := 20) [.bipush (-11)] mkX8_settle (by decide +kernel) rfl rfl ?_
      refine p_icmp_eq (off := 62) 82 (by decide +kernel) (by decide) (fun cq2 => ?_) (fun cq2 => ?_)
      · refine p_vret rfl (by decide +kernel) ?_
        exact ⟨rfl, by rw [stF, if_neg (fun q => q.1 cq2)]; exact ⟨e19, e16, hW, hC⟩, Fa.rf⟩
      · refine p_run (pc' := 33) [.aload_n 0, .getfield 35, .aload_n 0, .getfield 244, .iconst 1, .isub] mkX8_settle (by decide +kernel) rfl rfl ?_
        refine p_iald (W.length) (by decide +kernel) rfl rfl (by rw [e19, oI, nIs (by omega), Nat.add_sub_cancel]) (by omega) ?_
        rw [ex]
        refine p_callSv (rank_ok w (k := k - 1) x _) ksX8_247 (by decide +kernel) (by omega) rfl rfl rfl rfl rfl ?_
        refine p_run (pc' := 38) [.iload_n 1] mkX8_settle (by decide +kernel) rfl rfl ?_
        refine p_icmp_lt (off := 44) 82 (by decide +kernel) (by decide) (fun cq3 => ?_) (fun cq3 => ?_)
        · rw [nI_ltI (by have := rk6 x; omega) (by omega)] at cq3
          refine p_vret rfl (by decide +kernel) ?_
          exact ⟨rfl, by rw [stF, if_neg (fun q => absurd q.2 (by omega))]; exact ⟨e19, e16, hW, hC⟩, Fa.rf⟩
        · rw [nI_ltI (by have := rk6 x; omega) (by omega)] at cq3
          refine p_run (pc' := 67) [.aload_n 0, .dup, .getfield 244, .iconst 1, .isub, .putfield 244, .aload_n 0, .getfield 32, .aload_n 0, .getfield 250, .aload_n 0, .getfield 35, .aload_n 0, .getfield 244] mkX8_settle (by decide +kernel) rfl rfl ?_
          have e19' : h 96 19 - Int32.ofInt 1 = nI W.length := by rw [e19, oI, nIs (by omega), Nat.add_sub_cancel]
          rw [e19']
          refine p_iald (W.length) (by decide +kernel) rfl rfl (by rw [uF]) (by omega) ?_
          rw [upN (by decide), ex]
          refine p_iast (C.length) (by decide +kernel) rfl rfl (by rw [uN (by decide), e16]) (by omega)  ?_
          refine p_run (pc' := 0) [.aload_n 0, .dup, .getfield 250, .iconst 1, .iadd, .putfield 250, .goto (-79)] mkX8_settle (by decide +kernel) rfl rfl ?_
          rw [stF, if_pos ⟨cq2, by omega⟩]
          refine Wp.imp (fun r h' q => ⟨q.1, q.2.1, Fa.tr ?_ q.2.2⟩) (ih (x :: C) _ (by simp only [List.length_cons]; omega) ⟨?_, ?_, ?_, ?_⟩)
          · exact (Fa.tr (Fa.tr (Fa.u1 (by decide) (by decide)) (Fa.ar (by decide) (by decide))) (Fa.u1 (by decide) (by decide)))
          · rw [uN (by decide), upN (by decide), uF]
          · rw [uF, upN (by decide), uN (by decide), e16, oI, nI_add]; rfl
          · rw [upN (by decide), upN (by decide), upN (by decide)]; exact hW.2
          · rw [upN (by decide), upS, upN (by decide)]; exact ⟨upd_s, stk_upd (Nat.le_refl _) hC⟩
theorem settle_ok (w : Wt) {k : Nat} (hk : 1 ≤ k) (m : Nat) (hm : m ≤ 6) (W C : List Int32) (h : Mm) (hl : W.length + C.length ≤ 96) (hS : SS h W C) : Ok w k MX8_settle [.ref 96, .int (nI m)] h (fun r h' => r = none ∧ SS h' (stF m W C).1 (stF m W C).2 ∧ Fa [96, 104] [16, 19] h h') := settle_loop w hk m hm W C h hl hS
