/-! the law's loop -/
def ML_law : Mt := (30, yL_law, code, 4, ret)
theorem mkL_law : Mk ML_law := fun h => absurd h (by decide)
theorem St.ok {w : Wt} {k : Nat} {Mc Mr : Mt} {as : List Value} {h : Mm} (hs : St w k Mc Mr as h) : Ok w k Mc (.ref 0 :: as) h (fun r h1 => ∃ v, r = some (.int v) ∧ Ok w k Mr (.ref 96 :: as) h1 (fun r2 h2 => r2 = some (.int v) ∧ Rel h2)) := hs
section GL
variable {w : Wt} {k : Nat} {M : Mt} {Q : Option Value → Mm → Prop} {pc : Nat} {L : List (Option Value)} {st : List Value} {h : Mm}
theorem p_slen (hd : decode (m_c M) pc = .ok (.arraylength, 1)) (kk : Wp w k M Q (pc + 1) L (.int (nI (w_L w)) :: st) h) : Wp w k M Q pc L (.ref 1001 :: st) h := by
  intro p e R s m args below meth c cells slots Z X hc hs hZ H locs ls hH hS hL
  exact va_tlen X.1 X.2.1 X.kw.2.1.2.2.2.2.2.1 hS rfl hd (kk p e R s m args below meth c cells slots Z X hc hs hZ H locs ls hH hS hL)
theorem p_sald {i : Int32} (j : Nat) (hd : decode (m_c M) pc = .ok (.iaload, 1)) (hi : i = nI j) (hj : j < w_L w) (hL2 : w_L w ≤ 3072) (kk : Wp w k M Q (pc + 1) L (.int (w_x w j) :: st) h) : Wp w k M Q pc L (.int i :: .ref 1001 :: st) h := by
  intro p e R s m args below meth c cells slots Z X hc hs hZ H locs ls hH hS hL
  subst hi
  exact va_ti X.1 X.2.1 X.kw.2.1.2.2.2.2.2.1 hS (fun q => q.elim (nI_pos (by omega)) (fun q => by rw [nI_clamp (by omega)] at q; omega)) (v := .int (w_x w j)) (by rw [nI_clamp (by omega)]) hd (kk p e R s m args below meth c cells slots Z X hc hs hZ H locs ls hH hS hL)
end GL
theorem x63 (x : Int32) : In (x &&& nI 63) 63 := by
  obtain ⟨m, rfl⟩ : ∃ m, x = nI m := ⟨x.toBitVec.toNat, Int32.toBitVec_inj.mp (by show x.toBitVec = BitVec.ofNat 32 x.toBitVec.toNat; simp)⟩
  rw [and_nI]
  exact In_nI Nat.and_le_right (by omega)
set_option maxRecDepth 20000 in
set_option maxHeartbeats 4000000 in
theorem law_0 (w : Wt) {k : Nat} (hk : 830 ≤ k) (hL : w_L w ≤ 3072) (i : Nat) (hi : i + 6 ≤ w_L w) (h : Mm) (hR : Rel h) (Q : Option Value → Mm → Prop) (hC : ∀ h', Rel h' → Wp w k ML_law Q 1532 [some (.ref 1001), some (.ref 0), some (.ref 96), some (.int (nI i))] [] h') : Wp w k ML_law Q 216 [some (.ref 1001), some (.ref 0), some (.ref 96), some (.int (nI i))] [] h := by
  refine p_run (pc' := 221) [.aload_n 1, .aload_n 0, .iload_n 3, .iconst 1, .iadd] mkL_law (by decide +kernel) rfl rfl ?_
  rw [show nI i + Int32.ofInt 1 = nI (i + 1) from nI_add _ _]
  refine p_sald (i + 1) (by decide +kernel) rfl (by omega) hL ?_
  refine p_run (pc' := 226) [.aload_n 0, .iload_n 3, .iconst 2, .iadd] mkL_law (by decide +kernel) rfl rfl ?_
  rw [show nI i + Int32.ofInt 2 = nI (i + 2) from nI_add _ _]
  refine p_sald (i + 2) (by decide +kernel) rfl (by omega) hL ?_
  refine p_run (pc' := 231) [.aload_n 0, .iload_n 3, .iconst 3, .iadd] mkL_law (by decide +kernel) rfl rfl ?_
  rw [show nI i + Int32.ofInt 3 = nI (i + 3) from nI_add _ _]
  refine p_sald (i + 3) (by decide +kernel) rfl (by omega) hL ?_
  refine p_run (pc' := 236) [.aload_n 0, .iload_n 3, .iconst 4, .iadd] mkL_law (by decide +kernel) rfl rfl ?_
  rw [show nI i + Int32.ofInt 4 = nI (i + 4) from nI_add _ _]
  refine p_sald (i + 4) (by decide +kernel) rfl (by omega) hL ?_
  refine p_callV (st_digger w (k := k - 1) (by omega) (w_x w (i + 1)) (w_x w (i + 2)) (w_x w (i + 3)) (w_x w (i + 4)) h hR).ok kvL_13 (by decide +kernel) (by decide) rfl (by omega) rfl rfl rfl rfl rfl (fun r h' hq => ?_)
  obtain ⟨v, rfl, hO⟩ := hq
  rename Mm => h1
  refine p_run (pc' := 245) [.aload_n 2, .aload_n 0, .iload_n 3, .iconst 1, .iadd] mkL_law (by decide +kernel) rfl rfl ?_
  rw [show nI i + Int32.ofInt 1 = nI (i + 1) from nI_add _ _]
  refine p_sald (i + 1) (by decide +kernel) rfl (by omega) hL ?_
  refine p_run (pc' := 250) [.aload_n 0, .iload_n 3, .iconst 2, .iadd] mkL_law (by decide +kernel) rfl rfl ?_
  rw [show nI i + Int32.ofInt 2 = nI (i + 2) from nI_add _ _]
  refine p_sald (i + 2) (by decide +kernel) rfl (by omega) hL ?_
  refine p_run (pc' := 255) [.aload_n 0, .iload_n 3, .iconst 3, .iadd] mkL_law (by decide +kernel) rfl rfl ?_
  rw [show nI i + Int32.ofInt 3 = nI (i + 3) from nI_add _ _]
  refine p_sald (i + 3) (by decide +kernel) rfl (by omega) hL ?_
  refine p_run (pc' := 260) [.aload_n 0, .iload_n 3, .iconst 4, .iadd] mkL_law (by decide +kernel) rfl rfl ?_
  rw [show nI i + Int32.ofInt 4 = nI (i + 4) from nI_add _ _]
  refine p_sald (i + 4) (by decide +kernel) rfl (by omega) hL ?_
  refine p_callV hO kvL_17 (by decide +kernel) (by decide) rfl (by omega) rfl rfl rfl rfl rfl (fun r h' hq => ?_)
  obtain ⟨rfl, hR2⟩ := hq
  rename Mm => h2
  refine p_icmp_eq (off := 1268) 1532 (by decide +kernel) (by decide) (fun cqe => ?_) (fun cqe => ?_)
  · exact hC h2 hR2
  · exact absurd rfl cqe
set_option maxRecDepth 20000 in
set_option maxHeartbeats 4000000 in
theorem law_1 (w : Wt) {k : Nat} (hk : 830 ≤ k) (hL : w_L w ≤ 3072) (i : Nat) (hi : i + 6 ≤ w_L w) (h : Mm) (hR : Rel h) (Q : Option Value → Mm → Prop) (hC : ∀ h', Rel h' → Wp w k ML_law Q 1532 [some (.ref 1001), some (.ref 0), some (.ref 96), some (.int (nI i))] [] h') : Wp w k ML_law Q 269 [some (.ref 1001), some (.ref 0), some (.ref 96), some (.int (nI i))] [] h := by
  refine p_run (pc' := 274) [.aload_n 1, .aload_n 0, .iload_n 3, .iconst 1, .iadd] mkL_law (by decide +kernel) rfl rfl ?_
  rw [show nI i + Int32.ofInt 1 = nI (i + 1) from nI_add _ _]
  refine p_sald (i + 1) (by decide +kernel) rfl (by omega) hL ?_
  refine p_run (pc' := 279) [.aload_n 0, .iload_n 3, .iconst 2, .iadd] mkL_law (by decide +kernel) rfl rfl ?_
  rw [show nI i + Int32.ofInt 2 = nI (i + 2) from nI_add _ _]
  refine p_sald (i + 2) (by decide +kernel) rfl (by omega) hL ?_
  refine p_callV (st_told w (k := k - 1) (by omega) (w_x w (i + 1)) (w_x w (i + 2)) h hR).ok kvL_18 (by decide +kernel) (by decide) rfl (by omega) rfl rfl rfl rfl rfl (fun r h' hq => ?_)
  obtain ⟨v, rfl, hO⟩ := hq
  rename Mm => h1
  refine p_run (pc' := 288) [.aload_n 2, .aload_n 0, .iload_n 3, .iconst 1, .iadd] mkL_law (by decide +kernel) rfl rfl ?_
  rw [show nI i + Int32.ofInt 1 = nI (i + 1) from nI_add _ _]
  refine p_sald (i + 1) (by decide +kernel) rfl (by omega) hL ?_
  refine p_run (pc' := 293) [.aload_n 0, .iload_n 3, .iconst 2, .iadd] mkL_law (by decide +kernel) rfl rfl ?_
  rw [show nI i + Int32.ofInt 2 = nI (i + 2) from nI_add _ _]
  refine p_sald (i + 2) (by decide +kernel) rfl (by omega) hL ?_
  refine p_callV hO kvL_22 (by decide +kernel) (by decide) rfl (by omega) rfl rfl rfl rfl rfl (fun r h' hq => ?_)
  obtain ⟨rfl, hR2⟩ := hq
  rename Mm => h2
  refine p_icmp_eq (off := 1235) 1532 (by decide +kernel) (by decide) (fun cqe => ?_) (fun cqe => ?_)
  · exact hC h2 hR2
  · exact absurd rfl cqe
set_option maxRecDepth 20000 in
set_option maxHeartbeats 4000000 in
theorem law_2 (w : Wt) {k : Nat} (hk : 830 ≤ k) (hL : w_L w ≤ 3072) (i : Nat) (hi : i + 6 ≤ w_L w) (h : Mm) (hR : Rel h) (Q : Option Value → Mm → Prop) (hC : ∀ h', Rel h' → Wp w k ML_law Q 1532 [some (.ref 1001), some (.ref 0), some (.ref 96), some (.int (nI i))] [] h') : Wp w k ML_law Q 302 [some (.ref 1001), some (.ref 0), some (.ref 96), some (.int (nI i))] [] h := by
  refine p_run (pc' := 307) [.aload_n 1, .aload_n 0, .iload_n 3, .iconst 1, .iadd] mkL_law (by decide +kernel) rfl rfl ?_
  rw [show nI i + Int32.ofInt 1 = nI (i + 1) from nI_add _ _]
  refine p_sald (i + 1) (by decide +kernel) rfl (by omega) hL ?_
  refine p_run (pc' := 312) [.aload_n 0, .iload_n 3, .iconst 2, .iadd] mkL_law (by decide +kernel) rfl rfl ?_
  rw [show nI i + Int32.ofInt 2 = nI (i + 2) from nI_add _ _]
  refine p_sald (i + 2) (by decide +kernel) rfl (by omega) hL ?_
  refine p_callV (st_as w (k := k - 1) (by omega) (w_x w (i + 1)) (w_x w (i + 2)) h hR).ok kvL_23 (by decide +kernel) (by decide) rfl (by omega) rfl rfl rfl rfl rfl (fun r h' hq => ?_)
  obtain ⟨v, rfl, hO⟩ := hq
  rename Mm => h1
  refine p_run (pc' := 321) [.aload_n 2, .aload_n 0, .iload_n 3, .iconst 1, .iadd] mkL_law (by decide +kernel) rfl rfl ?_
  rw [show nI i + Int32.ofInt 1 = nI (i + 1) from nI_add _ _]
  refine p_sald (i + 1) (by decide +kernel) rfl (by omega) hL ?_
  refine p_run (pc' := 326) [.aload_n 0, .iload_n 3, .iconst 2, .iadd] mkL_law (by decide +kernel) rfl rfl ?_
  rw [show nI i + Int32.ofInt 2 = nI (i + 2) from nI_add _ _]
  refine p_sald (i + 2) (by decide +kernel) rfl (by omega) hL ?_
  refine p_callV hO kvL_26 (by decide +kernel) (by decide) rfl (by omega) rfl rfl rfl rfl rfl (fun r h' hq => ?_)
  obtain ⟨rfl, hR2⟩ := hq
  rename Mm => h2
  refine p_icmp_eq (off := 1202) 1532 (by decide +kernel) (by decide) (fun cqe => ?_) (fun cqe => ?_)
  · exact hC h2 hR2
  · exact absurd rfl cqe
set_option maxRecDepth 20000 in
set_option maxHeartbeats 4000000 in
theorem law_3 (w : Wt) {k : Nat} (hk : 830 ≤ k) (hL : w_L w ≤ 3072) (i : Nat) (hi : i + 6 ≤ w_L w) (h : Mm) (hR : Rel h) (Q : Option Value → Mm → Prop) (hC : ∀ h', Rel h' → Wp w k ML_law Q 1532 [some (.ref 1001), some (.ref 0), some (.ref 96), some (.int (nI i))] [] h') : Wp w k ML_law Q 335 [some (.ref 1001), some (.ref 0), some (.ref 96), some (.int (nI i))] [] h := by
  refine p_run (pc' := 340) [.aload_n 1, .aload_n 0, .iload_n 3, .iconst 1, .iadd] mkL_law (by decide +kernel) rfl rfl ?_
  rw [show nI i + Int32.ofInt 1 = nI (i + 1) from nI_add _ _]
  refine p_sald (i + 1) (by decide +kernel) rfl (by omega) hL ?_
  refine p_run (pc' := 345) [.aload_n 0, .iload_n 3, .iconst 2, .iadd] mkL_law (by decide +kernel) rfl rfl ?_
  rw [show nI i + Int32.ofInt 2 = nI (i + 2) from nI_add _ _]
  refine p_sald (i + 2) (by decide +kernel) rfl (by omega) hL ?_
  refine p_callV (st_turns w (k := k - 1) (by omega) (w_x w (i + 1)) (w_x w (i + 2)) h hR).ok kvL_27 (by decide +kernel) (by decide) rfl (by omega) rfl rfl rfl rfl rfl (fun r h' hq => ?_)
  obtain ⟨v, rfl, hO⟩ := hq
  rename Mm => h1
  refine p_run (pc' := 354) [.aload_n 2, .aload_n 0, .iload_n 3, .iconst 1, .iadd] mkL_law (by decide +kernel) rfl rfl ?_
  rw [show nI i + Int32.ofInt 1 = nI (i + 1) from nI_add _ _]
  refine p_sald (i + 1) (by decide +kernel) rfl (by omega) hL ?_
  refine p_run (pc' := 359) [.aload_n 0, .iload_n 3, .iconst 2, .iadd] mkL_law (by decide +kernel) rfl rfl ?_
  rw [show nI i + Int32.ofInt 2 = nI (i + 2) from nI_add _ _]
  refine p_sald (i + 2) (by decide +kernel) rfl (by omega) hL ?_
  refine p_callV hO kvL_30 (by decide +kernel) (by decide) rfl (by omega) rfl rfl rfl rfl rfl (fun r h' hq => ?_)
  obtain ⟨rfl, hR2⟩ := hq
  rename Mm => h2
  refine p_icmp_eq (off := 1169) 1532 (by decide +kernel) (by decide) (fun cqe => ?_) (fun cqe => ?_)
  · exact hC h2 hR2
  · exact absurd rfl cqe
set_option maxRecDepth 20000 in
set_option maxHeartbeats 4000000 in
theorem law_4 (w : Wt) {k : Nat} (hk : 830 ≤ k) (hL : w_L w ≤ 3072) (i : Nat) (hi : i + 6 ≤ w_L w) (h : Mm) (hR : Rel h) (Q : Option Value → Mm → Prop) (hC : ∀ h', Rel h' → Wp w k ML_law Q 1532 [some (.ref 1001), some (.ref 0), some (.ref 96), some (.int (nI i))] [] h') : Wp w k ML_law Q 368 [some (.ref 1001), some (.ref 0), some (.ref 96), some (.int (nI i))] [] h := by
  refine p_run (pc' := 373) [.aload_n 1, .aload_n 0, .iload_n 3, .iconst 1, .iadd] mkL_law (by decide +kernel) rfl rfl ?_
  rw [show nI i + Int32.ofInt 1 = nI (i + 1) from nI_add _ _]
  refine p_sald (i + 1) (by decide +kernel) rfl (by omega) hL ?_
  refine p_run (pc' := 378) [.aload_n 0, .iload_n 3, .iconst 2, .iadd] mkL_law (by decide +kernel) rfl rfl ?_
  rw [show nI i + Int32.ofInt 2 = nI (i + 2) from nI_add _ _]
  refine p_sald (i + 2) (by decide +kernel) rfl (by omega) hL ?_
  refine p_run (pc' := 383) [.aload_n 0, .iload_n 3, .iconst 3, .iadd] mkL_law (by decide +kernel) rfl rfl ?_
  rw [show nI i + Int32.ofInt 3 = nI (i + 3) from nI_add _ _]
  refine p_sald (i + 3) (by decide +kernel) rfl (by omega) hL ?_
  refine p_callV (st_set w (k := k - 1) (by omega) (w_x w (i + 1)) (w_x w (i + 2)) (w_x w (i + 3)) h hR).ok kvL_31 (by decide +kernel) (by decide) rfl (by omega) rfl rfl rfl rfl rfl (fun r h' hq => ?_)
  obtain ⟨v, rfl, hO⟩ := hq
  rename Mm => h1
  refine p_run (pc' := 392) [.aload_n 2, .aload_n 0, .iload_n 3, .iconst 1, .iadd] mkL_law (by decide +kernel) rfl rfl ?_
  rw [show nI i + Int32.ofInt 1 = nI (i + 1) from nI_add _ _]
  refine p_sald (i + 1) (by decide +kernel) rfl (by omega) hL ?_
  refine p_run (pc' := 397) [.aload_n 0, .iload_n 3, .iconst 2, .iadd] mkL_law (by decide +kernel) rfl rfl ?_
  rw [show nI i + Int32.ofInt 2 = nI (i + 2) from nI_add _ _]
  refine p_sald (i + 2) (by decide +kernel) rfl (by omega) hL ?_
  refine p_run (pc' := 402) [.aload_n 0, .iload_n 3, .iconst 3, .iadd] mkL_law (by decide +kernel) rfl rfl ?_
  rw [show nI i + Int32.ofInt 3 = nI (i + 3) from nI_add _ _]
  refine p_sald (i + 3) (by decide +kernel) rfl (by omega) hL ?_
  refine p_callV hO kvL_35 (by decide +kernel) (by decide) rfl (by omega) rfl rfl rfl rfl rfl (fun r h' hq => ?_)
  obtain ⟨rfl, hR2⟩ := hq
  rename Mm => h2
  refine p_icmp_eq (off := 1126) 1532 (by decide +kernel) (by decide) (fun cqe => ?_) (fun cqe => ?_)
  · exact hC h2 hR2
  · exact absurd rfl cqe
set_option maxRecDepth 20000 in
set_option maxHeartbeats 4000000 in
theorem law_5 (w : Wt) {k : Nat} (hk : 830 ≤ k) (hL : w_L w ≤ 3072) (i : Nat) (hi : i + 6 ≤ w_L w) (h : Mm) (hR : Rel h) (Q : Option Value → Mm → Prop) (hC : ∀ h', Rel h' → Wp w k ML_law Q 1532 [some (.ref 1001), some (.ref 0), some (.ref 96), some (.int (nI i))] [] h') : Wp w k ML_law Q 411 [some (.ref 1001), some (.ref 0), some (.ref 96), some (.int (nI i))] [] h := by
  refine p_run (pc' := 416) [.aload_n 1, .aload_n 0, .iload_n 3, .iconst 1, .iadd] mkL_law (by decide +kernel) rfl rfl ?_
  rw [show nI i + Int32.ofInt 1 = nI (i + 1) from nI_add _ _]
  refine p_sald (i + 1) (by decide +kernel) rfl (by omega) hL ?_
  refine p_run (pc' := 421) [.aload_n 0, .iload_n 3, .iconst 2, .iadd] mkL_law (by decide +kernel) rfl rfl ?_
  rw [show nI i + Int32.ofInt 2 = nI (i + 2) from nI_add _ _]
  refine p_sald (i + 2) (by decide +kernel) rfl (by omega) hL ?_
  refine p_callV (st_sends w (k := k - 1) (by omega) (w_x w (i + 1)) (w_x w (i + 2)) h hR).ok kvL_36 (by decide +kernel) (by decide) rfl (by omega) rfl rfl rfl rfl rfl (fun r h' hq => ?_)
  obtain ⟨v, rfl, hO⟩ := hq
  rename Mm => h1
  refine p_run (pc' := 430) [.aload_n 2, .aload_n 0, .iload_n 3, .iconst 1, .iadd] mkL_law (by decide +kernel) rfl rfl ?_
  rw [show nI i + Int32.ofInt 1 = nI (i + 1) from nI_add _ _]
  refine p_sald (i + 1) (by decide +kernel) rfl (by omega) hL ?_
  refine p_run (pc' := 435) [.aload_n 0, .iload_n 3, .iconst 2, .iadd] mkL_law (by decide +kernel) rfl rfl ?_
  rw [show nI i + Int32.ofInt 2 = nI (i + 2) from nI_add _ _]
  refine p_sald (i + 2) (by decide +kernel) rfl (by omega) hL ?_
  refine p_callV hO kvL_39 (by decide +kernel) (by decide) rfl (by omega) rfl rfl rfl rfl rfl (fun r h' hq => ?_)
  obtain ⟨rfl, hR2⟩ := hq
  rename Mm => h2
  refine p_icmp_eq (off := 1093) 1532 (by decide +kernel) (by decide) (fun cqe => ?_) (fun cqe => ?_)
  · exact hC h2 hR2
  · exact absurd rfl cqe
set_option maxRecDepth 20000 in
set_option maxHeartbeats 4000000 in
theorem law_6 (w : Wt) {k : Nat} (hk : 830 ≤ k) (hL : w_L w ≤ 3072) (i : Nat) (hi : i + 6 ≤ w_L w) (h : Mm) (hR : Rel h) (Q : Option Value → Mm → Prop) (hC : ∀ h', Rel h' → Wp w k ML_law Q 1532 [some (.ref 1001), some (.ref 0), some (.ref 96), some (.int (nI i))] [] h') : Wp w k ML_law Q 444 [some (.ref 1001), some (.ref 0), some (.ref 96), some (.int (nI i))] [] h := by
  refine p_run (pc' := 449) [.aload_n 1, .aload_n 0, .iload_n 3, .iconst 1, .iadd] mkL_law (by decide +kernel) rfl rfl ?_
  rw [show nI i + Int32.ofInt 1 = nI (i + 1) from nI_add _ _]
  refine p_sald (i + 1) (by decide +kernel) rfl (by omega) hL ?_
  refine p_run (pc' := 454) [.aload_n 0, .iload_n 3, .iconst 2, .iadd] mkL_law (by decide +kernel) rfl rfl ?_
  rw [show nI i + Int32.ofInt 2 = nI (i + 2) from nI_add _ _]
  refine p_sald (i + 2) (by decide +kernel) rfl (by omega) hL ?_
  refine p_run (pc' := 459) [.aload_n 0, .iload_n 3, .iconst 3, .iadd] mkL_law (by decide +kernel) rfl rfl ?_
  rw [show nI i + Int32.ofInt 3 = nI (i + 3) from nI_add _ _]
  refine p_sald (i + 3) (by decide +kernel) rfl (by omega) hL ?_
  refine p_callV (st_branch w (k := k - 1) (by omega) (w_x w (i + 1)) (w_x w (i + 2)) (w_x w (i + 3)) h hR).ok kvL_40 (by decide +kernel) (by decide) rfl (by omega) rfl rfl rfl rfl rfl (fun r h' hq => ?_)
  obtain ⟨v, rfl, hO⟩ := hq
  rename Mm => h1
  refine p_run (pc' := 468) [.aload_n 2, .aload_n 0, .iload_n 3, .iconst 1, .iadd] mkL_law (by decide +kernel) rfl rfl ?_
  rw [show nI i + Int32.ofInt 1 = nI (i + 1) from nI_add _ _]
  refine p_sald (i + 1) (by decide +kernel) rfl (by omega) hL ?_
  refine p_run (pc' := 473) [.aload_n 0, .iload_n 3, .iconst 2, .iadd] mkL_law (by decide +kernel) rfl rfl ?_
  rw [show nI i + Int32.ofInt 2 = nI (i + 2) from nI_add _ _]
  refine p_sald (i + 2) (by decide +kernel) rfl (by omega) hL ?_
  refine p_run (pc' := 478) [.aload_n 0, .iload_n 3, .iconst 3, .iadd] mkL_law (by decide +kernel) rfl rfl ?_
  rw [show nI i + Int32.ofInt 3 = nI (i + 3) from nI_add _ _]
  refine p_sald (i + 3) (by decide +kernel) rfl (by omega) hL ?_
  refine p_callV hO kvL_43 (by decide +kernel) (by decide) rfl (by omega) rfl rfl rfl rfl rfl (fun r h' hq => ?_)
  obtain ⟨rfl, hR2⟩ := hq
  rename Mm => h2
  refine p_icmp_eq (off := 1050) 1532 (by decide +kernel) (by decide) (fun cqe => ?_) (fun cqe => ?_)
  · exact hC h2 hR2
  · exact absurd rfl cqe
set_option maxRecDepth 20000 in
set_option maxHeartbeats 4000000 in
theorem law_7 (w : Wt) {k : Nat} (hk : 830 ≤ k) (hL : w_L w ≤ 3072) (i : Nat) (hi : i + 6 ≤ w_L w) (h : Mm) (hR : Rel h) (Q : Option Value → Mm → Prop) (hC : ∀ h', Rel h' → Wp w k ML_law Q 1532 [some (.ref 1001), some (.ref 0), some (.ref 96), some (.int (nI i))] [] h') : Wp w k ML_law Q 487 [some (.ref 1001), some (.ref 0), some (.ref 96), some (.int (nI i))] [] h := by
  refine p_run (pc' := 492) [.aload_n 1, .aload_n 0, .iload_n 3, .iconst 1, .iadd] mkL_law (by decide +kernel) rfl rfl ?_
  rw [show nI i + Int32.ofInt 1 = nI (i + 1) from nI_add _ _]
  refine p_sald (i + 1) (by decide +kernel) rfl (by omega) hL ?_
  refine p_run (pc' := 497) [.aload_n 0, .iload_n 3, .iconst 2, .iadd] mkL_law (by decide +kernel) rfl rfl ?_
  rw [show nI i + Int32.ofInt 2 = nI (i + 2) from nI_add _ _]
  refine p_sald (i + 2) (by decide +kernel) rfl (by omega) hL ?_
  refine p_callV (st_branchOf w (k := k - 1) (by omega) (w_x w (i + 1)) (w_x w (i + 2)) h hR).ok kvL_44 (by decide +kernel) (by decide) rfl (by omega) rfl rfl rfl rfl rfl (fun r h' hq => ?_)
  obtain ⟨v, rfl, hO⟩ := hq
  rename Mm => h1
  refine p_run (pc' := 506) [.aload_n 2, .aload_n 0, .iload_n 3, .iconst 1, .iadd] mkL_law (by decide +kernel) rfl rfl ?_
  rw [show nI i + Int32.ofInt 1 = nI (i + 1) from nI_add _ _]
  refine p_sald (i + 1) (by decide +kernel) rfl (by omega) hL ?_
  refine p_run (pc' := 511) [.aload_n 0, .iload_n 3, .iconst 2, .iadd] mkL_law (by decide +kernel) rfl rfl ?_
  rw [show nI i + Int32.ofInt 2 = nI (i + 2) from nI_add _ _]
  refine p_sald (i + 2) (by decide +kernel) rfl (by omega) hL ?_
  refine p_callV hO kvL_47 (by decide +kernel) (by decide) rfl (by omega) rfl rfl rfl rfl rfl (fun r h' hq => ?_)
  obtain ⟨rfl, hR2⟩ := hq
  rename Mm => h2
  refine p_icmp_eq (off := 1017) 1532 (by decide +kernel) (by decide) (fun cqe => ?_) (fun cqe => ?_)
  · exact hC h2 hR2
  · exact absurd rfl cqe
set_option maxRecDepth 20000 in
set_option maxHeartbeats 4000000 in
theorem law_8 (w : Wt) {k : Nat} (hk : 830 ≤ k) (hL : w_L w ≤ 3072) (i : Nat) (hi : i + 6 ≤ w_L w) (h : Mm) (hR : Rel h) (Q : Option Value → Mm → Prop) (hC : ∀ h', Rel h' → Wp w k ML_law Q 1532 [some (.ref 1001), some (.ref 0), some (.ref 96), some (.int (nI i))] [] h') : Wp w k ML_law Q 520 [some (.ref 1001), some (.ref 0), some (.ref 96), some (.int (nI i))] [] h := by
  refine p_run (pc' := 525) [.aload_n 1, .aload_n 0, .iload_n 3, .iconst 1, .iadd] mkL_law (by decide +kernel) rfl rfl ?_
  rw [show nI i + Int32.ofInt 1 = nI (i + 1) from nI_add _ _]
  refine p_sald (i + 1) (by decide +kernel) rfl (by omega) hL ?_
  refine p_run (pc' := 530) [.aload_n 0, .iload_n 3, .iconst 2, .iadd] mkL_law (by decide +kernel) rfl rfl ?_
  rw [show nI i + Int32.ofInt 2 = nI (i + 2) from nI_add _ _]
  refine p_sald (i + 2) (by decide +kernel) rfl (by omega) hL ?_
  refine p_callV (st_rule w (k := k - 1) (by omega) (w_x w (i + 1)) (w_x w (i + 2)) h hR).ok kvL_48 (by decide +kernel) (by decide) rfl (by omega) rfl rfl rfl rfl rfl (fun r h' hq => ?_)
  obtain ⟨v, rfl, hO⟩ := hq
  rename Mm => h1
  refine p_run (pc' := 539) [.aload_n 2, .aload_n 0, .iload_n 3, .iconst 1, .iadd] mkL_law (by decide +kernel) rfl rfl ?_
  rw [show nI i + Int32.ofInt 1 = nI (i + 1) from nI_add _ _]
  refine p_sald (i + 1) (by decide +kernel) rfl (by omega) hL ?_
  refine p_run (pc' := 544) [.aload_n 0, .iload_n 3, .iconst 2, .iadd] mkL_law (by decide +kernel) rfl rfl ?_
  rw [show nI i + Int32.ofInt 2 = nI (i + 2) from nI_add _ _]
  refine p_sald (i + 2) (by decide +kernel) rfl (by omega) hL ?_
  refine p_callV hO kvL_51 (by decide +kernel) (by decide) rfl (by omega) rfl rfl rfl rfl rfl (fun r h' hq => ?_)
  obtain ⟨rfl, hR2⟩ := hq
  rename Mm => h2
  refine p_icmp_eq (off := 984) 1532 (by decide +kernel) (by decide) (fun cqe => ?_) (fun cqe => ?_)
  · exact hC h2 hR2
  · exact absurd rfl cqe
set_option maxRecDepth 20000 in
set_option maxHeartbeats 4000000 in
theorem law_9 (w : Wt) {k : Nat} (hk : 830 ≤ k) (hL : w_L w ≤ 3072) (i : Nat) (hi : i + 6 ≤ w_L w) (h : Mm) (hR : Rel h) (Q : Option Value → Mm → Prop) (hC : ∀ h', Rel h' → Wp w k ML_law Q 1532 [some (.ref 1001), some (.ref 0), some (.ref 96), some (.int (nI i))] [] h') : Wp w k ML_law Q 553 [some (.ref 1001), some (.ref 0), some (.ref 96), some (.int (nI i))] [] h := by
  refine p_run (pc' := 558) [.aload_n 1, .aload_n 0, .iload_n 3, .iconst 1, .iadd] mkL_law (by decide +kernel) rfl rfl ?_
  rw [show nI i + Int32.ofInt 1 = nI (i + 1) from nI_add _ _]
  refine p_sald (i + 1) (by decide +kernel) rfl (by omega) hL ?_
  refine p_callV (st_deal w (k := k - 1) (by omega) (w_x w (i + 1)) h hR).ok kvL_52 (by decide +kernel) (by decide) rfl (by omega) rfl rfl rfl rfl rfl (fun r h' hq => ?_)
  obtain ⟨v, rfl, hO⟩ := hq
  rename Mm => h1
  refine p_run (pc' := 567) [.aload_n 2, .aload_n 0, .iload_n 3, .iconst 1, .iadd] mkL_law (by decide +kernel) rfl rfl ?_
  rw [show nI i + Int32.ofInt 1 = nI (i + 1) from nI_add _ _]
  refine p_sald (i + 1) (by decide +kernel) rfl (by omega) hL ?_
  refine p_callV hO kvL_56 (by decide +kernel) (by decide) rfl (by omega) rfl rfl rfl rfl rfl (fun r h' hq => ?_)
  obtain ⟨rfl, hR2⟩ := hq
  rename Mm => h2
  refine p_icmp_eq (off := 961) 1532 (by decide +kernel) (by decide) (fun cqe => ?_) (fun cqe => ?_)
  · exact hC h2 hR2
  · exact absurd rfl cqe
set_option maxRecDepth 20000 in
set_option maxHeartbeats 4000000 in
theorem law_10 (w : Wt) {k : Nat} (hk : 830 ≤ k) (hL : w_L w ≤ 3072) (i : Nat) (hi : i + 6 ≤ w_L w) (h : Mm) (hR : Rel h) (Q : Option Value → Mm → Prop) (hC : ∀ h', Rel h' → Wp w k ML_law Q 1532 [some (.ref 1001), some (.ref 0), some (.ref 96), some (.int (nI i))] [] h') : Wp w k ML_law Q 576 [some (.ref 1001), some (.ref 0), some (.ref 96), some (.int (nI i))] [] h := by
  refine p_run (pc' := 581) [.aload_n 1, .aload_n 0, .iload_n 3, .iconst 1, .iadd] mkL_law (by decide +kernel) rfl rfl ?_
  rw [show nI i + Int32.ofInt 1 = nI (i + 1) from nI_add _ _]
  refine p_sald (i + 1) (by decide +kernel) rfl (by omega) hL ?_
  refine p_callV (st_seed w (k := k - 1) (by omega) (w_x w (i + 1)) h hR).ok kvL_57 (by decide +kernel) (by decide) rfl (by omega) rfl rfl rfl rfl rfl (fun r h' hq => ?_)
  obtain ⟨v, rfl, hO⟩ := hq
  rename Mm => h1
  refine p_run (pc' := 590) [.aload_n 2, .aload_n 0, .iload_n 3, .iconst 1, .iadd] mkL_law (by decide +kernel) rfl rfl ?_
  rw [show nI i + Int32.ofInt 1 = nI (i + 1) from nI_add _ _]
  refine p_sald (i + 1) (by decide +kernel) rfl (by omega) hL ?_
  refine p_callV hO kvL_60 (by decide +kernel) (by decide) rfl (by omega) rfl rfl rfl rfl rfl (fun r h' hq => ?_)
  obtain ⟨rfl, hR2⟩ := hq
  rename Mm => h2
  refine p_icmp_eq (off := 938) 1532 (by decide +kernel) (by decide) (fun cqe => ?_) (fun cqe => ?_)
  · exact hC h2 hR2
  · exact absurd rfl cqe
set_option maxRecDepth 20000 in
set_option maxHeartbeats 4000000 in
theorem law_11 (w : Wt) {k : Nat} (hk : 830 ≤ k) (hL : w_L w ≤ 3072) (i : Nat) (hi : i + 6 ≤ w_L w) (h : Mm) (hR : Rel h) (Q : Option Value → Mm → Prop) (hC : ∀ h', Rel h' → Wp w k ML_law Q 1532 [some (.ref 1001), some (.ref 0), some (.ref 96), some (.int (nI i))] [] h') : Wp w k ML_law Q 599 [some (.ref 1001), some (.ref 0), some (.ref 96), some (.int (nI i))] [] h := by
  refine p_run (pc' := 604) [.aload_n 1, .aload_n 0, .iload_n 3, .iconst 1, .iadd] mkL_law (by decide +kernel) rfl rfl ?_
  rw [show nI i + Int32.ofInt 1 = nI (i + 1) from nI_add _ _]
  refine p_sald (i + 1) (by decide +kernel) rfl (by omega) hL ?_
  refine p_callV (st_nights w (k := k - 1) (by omega) (w_x w (i + 1)) h hR).ok kvL_61 (by decide +kernel) (by decide) rfl (by omega) rfl rfl rfl rfl rfl (fun r h' hq => ?_)
  obtain ⟨v, rfl, hO⟩ := hq
  rename Mm => h1
  refine p_run (pc' := 613) [.aload_n 2, .aload_n 0, .iload_n 3, .iconst 1, .iadd] mkL_law (by decide +kernel) rfl rfl ?_
  rw [show nI i + Int32.ofInt 1 = nI (i + 1) from nI_add _ _]
  refine p_sald (i + 1) (by decide +kernel) rfl (by omega) hL ?_
  refine p_callV hO kvL_64 (by decide +kernel) (by decide) rfl (by omega) rfl rfl rfl rfl rfl (fun r h' hq => ?_)
  obtain ⟨rfl, hR2⟩ := hq
  rename Mm => h2
  refine p_icmp_eq (off := 915) 1532 (by decide +kernel) (by decide) (fun cqe => ?_) (fun cqe => ?_)
  · exact hC h2 hR2
  · exact absurd rfl cqe
set_option maxRecDepth 20000 in
set_option maxHeartbeats 4000000 in
theorem law_12 (w : Wt) {k : Nat} (hk : 830 ≤ k) (hL : w_L w ≤ 3072) (i : Nat) (hi : i + 6 ≤ w_L w) (h : Mm) (hR : Rel h) (Q : Option Value → Mm → Prop) (hC : ∀ h', Rel h' → Wp w k ML_law Q 1532 [some (.ref 1001), some (.ref 0), some (.ref 96), some (.int (nI i))] [] h') : Wp w k ML_law Q 622 [some (.ref 1001), some (.ref 0), some (.ref 96), some (.int (nI i))] [] h := by
  refine p_run (pc' := 627) [.aload_n 1, .aload_n 0, .iload_n 3, .iconst 1, .iadd] mkL_law (by decide +kernel) rfl rfl ?_
  rw [show nI i + Int32.ofInt 1 = nI (i + 1) from nI_add _ _]
  refine p_sald (i + 1) (by decide +kernel) rfl (by omega) hL ?_
  refine p_callV (st_below w (k := k - 1) (by omega) (w_x w (i + 1)) h hR).ok kvL_65 (by decide +kernel) (by decide) rfl (by omega) rfl rfl rfl rfl rfl (fun r h' hq => ?_)
  obtain ⟨v, rfl, hO⟩ := hq
  rename Mm => h1
  refine p_run (pc' := 636) [.aload_n 2, .aload_n 0, .iload_n 3, .iconst 1, .iadd] mkL_law (by decide +kernel) rfl rfl ?_
  rw [show nI i + Int32.ofInt 1 = nI (i + 1) from nI_add _ _]
  refine p_sald (i + 1) (by decide +kernel) rfl (by omega) hL ?_
  refine p_callV hO kvL_68 (by decide +kernel) (by decide) rfl (by omega) rfl rfl rfl rfl rfl (fun r h' hq => ?_)
  obtain ⟨rfl, hR2⟩ := hq
  rename Mm => h2
  refine p_icmp_eq (off := 892) 1532 (by decide +kernel) (by decide) (fun cqe => ?_) (fun cqe => ?_)
  · exact hC h2 hR2
  · exact absurd rfl cqe
set_option maxRecDepth 20000 in
set_option maxHeartbeats 4000000 in
theorem law_13 (w : Wt) {k : Nat} (hk : 830 ≤ k) (hL : w_L w ≤ 3072) (i : Nat) (hi : i + 6 ≤ w_L w) (h : Mm) (hR : Rel h) (Q : Option Value → Mm → Prop) (hC : ∀ h', Rel h' → Wp w k ML_law Q 1532 [some (.ref 1001), some (.ref 0), some (.ref 96), some (.int (nI i))] [] h') : Wp w k ML_law Q 645 [some (.ref 1001), some (.ref 0), some (.ref 96), some (.int (nI i))] [] h := by
  refine p_run (pc' := 650) [.aload_n 1, .aload_n 0, .iload_n 3, .iconst 1, .iadd] mkL_law (by decide +kernel) rfl rfl ?_
  rw [show nI i + Int32.ofInt 1 = nI (i + 1) from nI_add _ _]
  refine p_sald (i + 1) (by decide +kernel) rfl (by omega) hL ?_
  refine p_run (pc' := 655) [.aload_n 0, .iload_n 3, .iconst 2, .iadd] mkL_law (by decide +kernel) rfl rfl ?_
  rw [show nI i + Int32.ofInt 2 = nI (i + 2) from nI_add _ _]
  refine p_sald (i + 2) (by decide +kernel) rfl (by omega) hL ?_
  refine p_callV (st_behind w (k := k - 1) (by omega) (w_x w (i + 1)) (w_x w (i + 2)) h hR).ok kvL_69 (by decide +kernel) (by decide) rfl (by omega) rfl rfl rfl rfl rfl (fun r h' hq => ?_)
  obtain ⟨v, rfl, hO⟩ := hq
  rename Mm => h1
  refine p_run (pc' := 664) [.aload_n 2, .aload_n 0, .iload_n 3, .iconst 1, .iadd] mkL_law (by decide +kernel) rfl rfl ?_
  rw [show nI i + Int32.ofInt 1 = nI (i + 1) from nI_add _ _]
  refine p_sald (i + 1) (by decide +kernel) rfl (by omega) hL ?_
  refine p_run (pc' := 669) [.aload_n 0, .iload_n 3, .iconst 2, .iadd] mkL_law (by decide +kernel) rfl rfl ?_
  rw [show nI i + Int32.ofInt 2 = nI (i + 2) from nI_add _ _]
  refine p_sald (i + 2) (by decide +kernel) rfl (by omega) hL ?_
  refine p_callV hO kvL_72 (by decide +kernel) (by decide) rfl (by omega) rfl rfl rfl rfl rfl (fun r h' hq => ?_)
  obtain ⟨rfl, hR2⟩ := hq
  rename Mm => h2
  refine p_icmp_eq (off := 859) 1532 (by decide +kernel) (by decide) (fun cqe => ?_) (fun cqe => ?_)
  · exact hC h2 hR2
  · exact absurd rfl cqe
set_option maxRecDepth 20000 in
set_option maxHeartbeats 4000000 in
theorem law_14 (w : Wt) {k : Nat} (hk : 830 ≤ k) (hL : w_L w ≤ 3072) (i : Nat) (hi : i + 6 ≤ w_L w) (h : Mm) (hR : Rel h) (Q : Option Value → Mm → Prop) (hC : ∀ h', Rel h' → Wp w k ML_law Q 1532 [some (.ref 1001), some (.ref 0), some (.ref 96), some (.int (nI i))] [] h') : Wp w k ML_law Q 678 [some (.ref 1001), some (.ref 0), some (.ref 96), some (.int (nI i))] [] h := by
  refine p_run (pc' := 683) [.aload_n 1, .aload_n 0, .iload_n 3, .iconst 1, .iadd] mkL_law (by decide +kernel) rfl rfl ?_
  rw [show nI i + Int32.ofInt 1 = nI (i + 1) from nI_add _ _]
  refine p_sald (i + 1) (by decide +kernel) rfl (by omega) hL ?_
  refine p_run (pc' := 688) [.aload_n 0, .iload_n 3, .iconst 2, .iadd] mkL_law (by decide +kernel) rfl rfl ?_
  rw [show nI i + Int32.ofInt 2 = nI (i + 2) from nI_add _ _]
  refine p_sald (i + 2) (by decide +kernel) rfl (by omega) hL ?_
  refine p_callV (st_reaches w (k := k - 1) (by omega) (w_x w (i + 1)) (w_x w (i + 2)) h hR).ok kvL_73 (by decide +kernel) (by decide) rfl (by omega) rfl rfl rfl rfl rfl (fun r h' hq => ?_)
  obtain ⟨v, rfl, hO⟩ := hq
  rename Mm => h1
  refine p_run (pc' := 697) [.aload_n 2, .aload_n 0, .iload_n 3, .iconst 1, .iadd] mkL_law (by decide +kernel) rfl rfl ?_
  rw [show nI i + Int32.ofInt 1 = nI (i + 1) from nI_add _ _]
  refine p_sald (i + 1) (by decide +kernel) rfl (by omega) hL ?_
  refine p_run (pc' := 702) [.aload_n 0, .iload_n 3, .iconst 2, .iadd] mkL_law (by decide +kernel) rfl rfl ?_
  rw [show nI i + Int32.ofInt 2 = nI (i + 2) from nI_add _ _]
  refine p_sald (i + 2) (by decide +kernel) rfl (by omega) hL ?_
  refine p_callV hO kvL_76 (by decide +kernel) (by decide) rfl (by omega) rfl rfl rfl rfl rfl (fun r h' hq => ?_)
  obtain ⟨rfl, hR2⟩ := hq
  rename Mm => h2
  refine p_icmp_eq (off := 826) 1532 (by decide +kernel) (by decide) (fun cqe => ?_) (fun cqe => ?_)
  · exact hC h2 hR2
  · exact absurd rfl cqe
set_option maxRecDepth 20000 in
set_option maxHeartbeats 4000000 in
theorem law_15 (w : Wt) {k : Nat} (hk : 830 ≤ k) (hL : w_L w ≤ 3072) (i : Nat) (hi : i + 6 ≤ w_L w) (h : Mm) (hR : Rel h) (Q : Option Value → Mm → Prop) (hC : ∀ h', Rel h' → Wp w k ML_law Q 1532 [some (.ref 1001), some (.ref 0), some (.ref 96), some (.int (nI i))] [] h') : Wp w k ML_law Q 711 [some (.ref 1001), some (.ref 0), some (.ref 96), some (.int (nI i))] [] h := by
  refine p_run (pc' := 716) [.aload_n 1, .aload_n 0, .iload_n 3, .iconst 1, .iadd] mkL_law (by decide +kernel) rfl rfl ?_
  rw [show nI i + Int32.ofInt 1 = nI (i + 1) from nI_add _ _]
  refine p_sald (i + 1) (by decide +kernel) rfl (by omega) hL ?_
  refine p_callV (st_leaves w (k := k - 1) (by omega) (w_x w (i + 1)) h hR).ok kvL_77 (by decide +kernel) (by decide) rfl (by omega) rfl rfl rfl rfl rfl (fun r h' hq => ?_)
  obtain ⟨v, rfl, hO⟩ := hq
  rename Mm => h1
  refine p_run (pc' := 725) [.aload_n 2, .aload_n 0, .iload_n 3, .iconst 1, .iadd] mkL_law (by decide +kernel) rfl rfl ?_
  rw [show nI i + Int32.ofInt 1 = nI (i + 1) from nI_add _ _]
  refine p_sald (i + 1) (by decide +kernel) rfl (by omega) hL ?_
  refine p_callV hO kvL_80 (by decide +kernel) (by decide) rfl (by omega) rfl rfl rfl rfl rfl (fun r h' hq => ?_)
  obtain ⟨rfl, hR2⟩ := hq
  rename Mm => h2
  refine p_icmp_eq (off := 803) 1532 (by decide +kernel) (by decide) (fun cqe => ?_) (fun cqe => ?_)
  · exact hC h2 hR2
  · exact absurd rfl cqe
set_option maxRecDepth 20000 in
set_option maxHeartbeats 4000000 in
theorem law_16 (w : Wt) {k : Nat} (hk : 830 ≤ k) (hL : w_L w ≤ 3072) (i : Nat) (hi : i + 6 ≤ w_L w) (h : Mm) (hR : Rel h) (Q : Option Value → Mm → Prop) (hC : ∀ h', Rel h' → Wp w k ML_law Q 1532 [some (.ref 1001), some (.ref 0), some (.ref 96), some (.int (nI i))] [] h') : Wp w k ML_law Q 734 [some (.ref 1001), some (.ref 0), some (.ref 96), some (.int (nI i))] [] h := by
  refine p_run (pc' := 739) [.aload_n 1, .aload_n 0, .iload_n 3, .iconst 1, .iadd] mkL_law (by decide +kernel) rfl rfl ?_
  rw [show nI i + Int32.ofInt 1 = nI (i + 1) from nI_add _ _]
  refine p_sald (i + 1) (by decide +kernel) rfl (by omega) hL ?_
  refine p_run (pc' := 744) [.aload_n 0, .iload_n 3, .iconst 2, .iadd] mkL_law (by decide +kernel) rfl rfl ?_
  rw [show nI i + Int32.ofInt 2 = nI (i + 2) from nI_add _ _]
  refine p_sald (i + 2) (by decide +kernel) rfl (by omega) hL ?_
  refine p_callV (st_light w (k := k - 1) (by omega) (w_x w (i + 1)) (w_x w (i + 2)) h hR).ok kvL_81 (by decide +kernel) (by decide) rfl (by omega) rfl rfl rfl rfl rfl (fun r h' hq => ?_)
  obtain ⟨v, rfl, hO⟩ := hq
  rename Mm => h1
  refine p_run (pc' := 753) [.aload_n 2, .aload_n 0, .iload_n 3, .iconst 1, .iadd] mkL_law (by decide +kernel) rfl rfl ?_
  rw [show nI i + Int32.ofInt 1 = nI (i + 1) from nI_add _ _]
  refine p_sald (i + 1) (by decide +kernel) rfl (by omega) hL ?_
  refine p_run (pc' := 758) [.aload_n 0, .iload_n 3, .iconst 2, .iadd] mkL_law (by decide +kernel) rfl rfl ?_
  rw [show nI i + Int32.ofInt 2 = nI (i + 2) from nI_add _ _]
  refine p_sald (i + 2) (by decide +kernel) rfl (by omega) hL ?_
  refine p_callV hO kvL_84 (by decide +kernel) (by decide) rfl (by omega) rfl rfl rfl rfl rfl (fun r h' hq => ?_)
  obtain ⟨rfl, hR2⟩ := hq
  rename Mm => h2
  refine p_icmp_eq (off := 770) 1532 (by decide +kernel) (by decide) (fun cqe => ?_) (fun cqe => ?_)
  · exact hC h2 hR2
  · exact absurd rfl cqe
set_option maxRecDepth 20000 in
set_option maxHeartbeats 4000000 in
theorem law_17 (w : Wt) {k : Nat} (hk : 830 ≤ k) (hL : w_L w ≤ 3072) (i : Nat) (hi : i + 6 ≤ w_L w) (h : Mm) (hR : Rel h) (Q : Option Value → Mm → Prop) (hC : ∀ h', Rel h' → Wp w k ML_law Q 1532 [some (.ref 1001), some (.ref 0), some (.ref 96), some (.int (nI i))] [] h') : Wp w k ML_law Q 767 [some (.ref 1001), some (.ref 0), some (.ref 96), some (.int (nI i))] [] h := by
  refine p_run (pc' := 772) [.aload_n 1, .aload_n 0, .iload_n 3, .iconst 1, .iadd] mkL_law (by decide +kernel) rfl rfl ?_
  rw [show nI i + Int32.ofInt 1 = nI (i + 1) from nI_add _ _]
  refine p_sald (i + 1) (by decide +kernel) rfl (by omega) hL ?_
  refine p_run (pc' := 777) [.aload_n 0, .iload_n 3, .iconst 2, .iadd] mkL_law (by decide +kernel) rfl rfl ?_
  rw [show nI i + Int32.ofInt 2 = nI (i + 2) from nI_add _ _]
  refine p_sald (i + 2) (by decide +kernel) rfl (by omega) hL ?_
  refine p_run (pc' := 782) [.aload_n 0, .iload_n 3, .iconst 3, .iadd] mkL_law (by decide +kernel) rfl rfl ?_
  rw [show nI i + Int32.ofInt 3 = nI (i + 3) from nI_add _ _]
  refine p_sald (i + 3) (by decide +kernel) rfl (by omega) hL ?_
  refine p_callV (st_wax w (k := k - 1) (by omega) (w_x w (i + 1)) (w_x w (i + 2)) (w_x w (i + 3)) h hR).ok kvL_85 (by decide +kernel) (by decide) rfl (by omega) rfl rfl rfl rfl rfl (fun r h' hq => ?_)
  obtain ⟨v, rfl, hO⟩ := hq
  rename Mm => h1
  refine p_run (pc' := 791) [.aload_n 2, .aload_n 0, .iload_n 3, .iconst 1, .iadd] mkL_law (by decide +kernel) rfl rfl ?_
  rw [show nI i + Int32.ofInt 1 = nI (i + 1) from nI_add _ _]
  refine p_sald (i + 1) (by decide +kernel) rfl (by omega) hL ?_
  refine p_run (pc' := 796) [.aload_n 0, .iload_n 3, .iconst 2, .iadd] mkL_law (by decide +kernel) rfl rfl ?_
  rw [show nI i + Int32.ofInt 2 = nI (i + 2) from nI_add _ _]
  refine p_sald (i + 2) (by decide +kernel) rfl (by omega) hL ?_
  refine p_run (pc' := 801) [.aload_n 0, .iload_n 3, .iconst 3, .iadd] mkL_law (by decide +kernel) rfl rfl ?_
  rw [show nI i + Int32.ofInt 3 = nI (i + 3) from nI_add _ _]
  refine p_sald (i + 3) (by decide +kernel) rfl (by omega) hL ?_
  refine p_callV hO kvL_88 (by decide +kernel) (by decide) rfl (by omega) rfl rfl rfl rfl rfl (fun r h' hq => ?_)
  obtain ⟨rfl, hR2⟩ := hq
  rename Mm => h2
  refine p_icmp_eq (off := 727) 1532 (by decide +kernel) (by decide) (fun cqe => ?_) (fun cqe => ?_)
  · exact hC h2 hR2
  · exact absurd rfl cqe
set_option maxRecDepth 20000 in
set_option maxHeartbeats 4000000 in
theorem law_18 (w : Wt) {k : Nat} (hk : 830 ≤ k) (hL : w_L w ≤ 3072) (i : Nat) (hi : i + 6 ≤ w_L w) (h : Mm) (hR : Rel h) (Q : Option Value → Mm → Prop) (hC : ∀ h', Rel h' → Wp w k ML_law Q 1532 [some (.ref 1001), some (.ref 0), some (.ref 96), some (.int (nI i))] [] h') : Wp w k ML_law Q 810 [some (.ref 1001), some (.ref 0), some (.ref 96), some (.int (nI i))] [] h := by
  refine p_run (pc' := 815) [.aload_n 1, .aload_n 0, .iload_n 3, .iconst 1, .iadd] mkL_law (by decide +kernel) rfl rfl ?_
  rw [show nI i + Int32.ofInt 1 = nI (i + 1) from nI_add _ _]
  refine p_sald (i + 1) (by decide +kernel) rfl (by omega) hL ?_
  refine p_run (pc' := 820) [.aload_n 0, .iload_n 3, .iconst 2, .iadd] mkL_law (by decide +kernel) rfl rfl ?_
  rw [show nI i + Int32.ofInt 2 = nI (i + 2) from nI_add _ _]
  refine p_sald (i + 2) (by decide +kernel) rfl (by omega) hL ?_
  refine p_run (pc' := 825) [.aload_n 0, .iload_n 3, .iconst 3, .iadd] mkL_law (by decide +kernel) rfl rfl ?_
  rw [show nI i + Int32.ofInt 3 = nI (i + 3) from nI_add _ _]
  refine p_sald (i + 3) (by decide +kernel) rfl (by omega) hL ?_
  refine p_callV (st_sent w (k := k - 1) (by omega) (w_x w (i + 1)) (w_x w (i + 2)) (w_x w (i + 3)) h hR).ok kvL_89 (by decide +kernel) (by decide) rfl (by omega) rfl rfl rfl rfl rfl (fun r h' hq => ?_)
  obtain ⟨v, rfl, hO⟩ := hq
  rename Mm => h1
  refine p_run (pc' := 834) [.aload_n 2, .aload_n 0, .iload_n 3, .iconst 1, .iadd] mkL_law (by decide +kernel) rfl rfl ?_
  rw [show nI i + Int32.ofInt 1 = nI (i + 1) from nI_add _ _]
  refine p_sald (i + 1) (by decide +kernel) rfl (by omega) hL ?_
  refine p_run (pc' := 839) [.aload_n 0, .iload_n 3, .iconst 2, .iadd] mkL_law (by decide +kernel) rfl rfl ?_
  rw [show nI i + Int32.ofInt 2 = nI (i + 2) from nI_add _ _]
  refine p_sald (i + 2) (by decide +kernel) rfl (by omega) hL ?_
  refine p_run (pc' := 844) [.aload_n 0, .iload_n 3, .iconst 3, .iadd] mkL_law (by decide +kernel) rfl rfl ?_
  rw [show nI i + Int32.ofInt 3 = nI (i + 3) from nI_add _ _]
  refine p_sald (i + 3) (by decide +kernel) rfl (by omega) hL ?_
  refine p_callV hO kvL_92 (by decide +kernel) (by decide) rfl (by omega) rfl rfl rfl rfl rfl (fun r h' hq => ?_)
  obtain ⟨rfl, hR2⟩ := hq
  rename Mm => h2
  refine p_icmp_eq (off := 684) 1532 (by decide +kernel) (by decide) (fun cqe => ?_) (fun cqe => ?_)
  · exact hC h2 hR2
  · exact absurd rfl cqe
set_option maxRecDepth 20000 in
set_option maxHeartbeats 4000000 in
theorem law_19 (w : Wt) {k : Nat} (hk : 830 ≤ k) (hL : w_L w ≤ 3072) (i : Nat) (hi : i + 6 ≤ w_L w) (h : Mm) (hR : Rel h) (Q : Option Value → Mm → Prop) (hC : ∀ h', Rel h' → Wp w k ML_law Q 1532 [some (.ref 1001), some (.ref 0), some (.ref 96), some (.int (nI i))] [] h') : Wp w k ML_law Q 853 [some (.ref 1001), some (.ref 0), some (.ref 96), some (.int (nI i))] [] h := by
  refine p_run (pc' := 858) [.aload_n 1, .aload_n 0, .iload_n 3, .iconst 1, .iadd] mkL_law (by decide +kernel) rfl rfl ?_
  rw [show nI i + Int32.ofInt 1 = nI (i + 1) from nI_add _ _]
  refine p_sald (i + 1) (by decide +kernel) rfl (by omega) hL ?_
  refine p_run (pc' := 863) [.aload_n 0, .iload_n 3, .iconst 2, .iadd] mkL_law (by decide +kernel) rfl rfl ?_
  rw [show nI i + Int32.ofInt 2 = nI (i + 2) from nI_add _ _]
  refine p_sald (i + 2) (by decide +kernel) rfl (by omega) hL ?_
  refine p_run (pc' := 868) [.aload_n 0, .iload_n 3, .iconst 3, .iadd] mkL_law (by decide +kernel) rfl rfl ?_
  rw [show nI i + Int32.ofInt 3 = nI (i + 3) from nI_add _ _]
  refine p_sald (i + 3) (by decide +kernel) rfl (by omega) hL ?_
  refine p_callV (st_becomes w (k := k - 1) (by omega) (w_x w (i + 1)) (w_x w (i + 2)) (w_x w (i + 3)) h hR).ok kvL_93 (by decide +kernel) (by decide) rfl (by omega) rfl rfl rfl rfl rfl (fun r h' hq => ?_)
  obtain ⟨v, rfl, hO⟩ := hq
  rename Mm => h1
  refine p_run (pc' := 877) [.aload_n 2, .aload_n 0, .iload_n 3, .iconst 1, .iadd] mkL_law (by decide +kernel) rfl rfl ?_
  rw [show nI i + Int32.ofInt 1 = nI (i + 1) from nI_add _ _]
  refine p_sald (i + 1) (by decide +kernel) rfl (by omega) hL ?_
  refine p_run (pc' := 882) [.aload_n 0, .iload_n 3, .iconst 2, .iadd] mkL_law (by decide +kernel) rfl rfl ?_
  rw [show nI i + Int32.ofInt 2 = nI (i + 2) from nI_add _ _]
  refine p_sald (i + 2) (by decide +kernel) rfl (by omega) hL ?_
  refine p_run (pc' := 887) [.aload_n 0, .iload_n 3, .iconst 3, .iadd] mkL_law (by decide +kernel) rfl rfl ?_
  rw [show nI i + Int32.ofInt 3 = nI (i + 3) from nI_add _ _]
  refine p_sald (i + 3) (by decide +kernel) rfl (by omega) hL ?_
  refine p_callV hO kvL_96 (by decide +kernel) (by decide) rfl (by omega) rfl rfl rfl rfl rfl (fun r h' hq => ?_)
  obtain ⟨rfl, hR2⟩ := hq
  rename Mm => h2
  refine p_icmp_eq (off := 641) 1532 (by decide +kernel) (by decide) (fun cqe => ?_) (fun cqe => ?_)
  · exact hC h2 hR2
  · exact absurd rfl cqe
set_option maxRecDepth 20000 in
set_option maxHeartbeats 4000000 in
theorem law_20 (w : Wt) {k : Nat} (hk : 830 ≤ k) (hL : w_L w ≤ 3072) (i : Nat) (hi : i + 6 ≤ w_L w) (h : Mm) (hR : Rel h) (Q : Option Value → Mm → Prop) (hC : ∀ h', Rel h' → Wp w k ML_law Q 1532 [some (.ref 1001), some (.ref 0), some (.ref 96), some (.int (nI i))] [] h') : Wp w k ML_law Q 896 [some (.ref 1001), some (.ref 0), some (.ref 96), some (.int (nI i))] [] h := by
  refine p_run (pc' := 901) [.aload_n 1, .aload_n 0, .iload_n 3, .iconst 1, .iadd] mkL_law (by decide +kernel) rfl rfl ?_
  rw [show nI i + Int32.ofInt 1 = nI (i + 1) from nI_add _ _]
  refine p_sald (i + 1) (by decide +kernel) rfl (by omega) hL ?_
  refine p_run (pc' := 906) [.aload_n 0, .iload_n 3, .iconst 2, .iadd] mkL_law (by decide +kernel) rfl rfl ?_
  rw [show nI i + Int32.ofInt 2 = nI (i + 2) from nI_add _ _]
  refine p_sald (i + 2) (by decide +kernel) rfl (by omega) hL ?_
  refine p_callV (st_like w (k := k - 1) (by omega) (w_x w (i + 1)) (w_x w (i + 2)) h hR).ok kvL_97 (by decide +kernel) (by decide) rfl (by omega) rfl rfl rfl rfl rfl (fun r h' hq => ?_)
  obtain ⟨v, rfl, hO⟩ := hq
  rename Mm => h1
  refine p_run (pc' := 915) [.aload_n 2, .aload_n 0, .iload_n 3, .iconst 1, .iadd] mkL_law (by decide +kernel) rfl rfl ?_
  rw [show nI i + Int32.ofInt 1 = nI (i + 1) from nI_add _ _]
  refine p_sald (i + 1) (by decide +kernel) rfl (by omega) hL ?_
  refine p_run (pc' := 920) [.aload_n 0, .iload_n 3, .iconst 2, .iadd] mkL_law (by decide +kernel) rfl rfl ?_
  rw [show nI i + Int32.ofInt 2 = nI (i + 2) from nI_add _ _]
  refine p_sald (i + 2) (by decide +kernel) rfl (by omega) hL ?_
  refine p_callV hO kvL_100 (by decide +kernel) (by decide) rfl (by omega) rfl rfl rfl rfl rfl (fun r h' hq => ?_)
  obtain ⟨rfl, hR2⟩ := hq
  rename Mm => h2
  refine p_icmp_eq (off := 608) 1532 (by decide +kernel) (by decide) (fun cqe => ?_) (fun cqe => ?_)
  · exact hC h2 hR2
  · exact absurd rfl cqe
set_option maxRecDepth 20000 in
set_option maxHeartbeats 4000000 in
theorem law_21 (w : Wt) {k : Nat} (hk : 830 ≤ k) (hL : w_L w ≤ 3072) (i : Nat) (hi : i + 6 ≤ w_L w) (h : Mm) (hR : Rel h) (Q : Option Value → Mm → Prop) (hC : ∀ h', Rel h' → Wp w k ML_law Q 1532 [some (.ref 1001), some (.ref 0), some (.ref 96), some (.int (nI i))] [] h') : Wp w k ML_law Q 929 [some (.ref 1001), some (.ref 0), some (.ref 96), some (.int (nI i))] [] h := by
  refine p_run (pc' := 930) [.aload_n 1] mkL_law (by decide +kernel) rfl rfl ?_
  refine p_callV (st_fee w (k := k - 1) (by omega)  h hR).ok kvL_101 (by decide +kernel) (by decide) rfl (by omega) rfl rfl rfl rfl rfl (fun r h' hq => ?_)
  obtain ⟨v, rfl, hO⟩ := hq
  rename Mm => h1
  refine p_run (pc' := 934) [.aload_n 2] mkL_law (by decide +kernel) rfl rfl ?_
  refine p_callV hO kvL_105 (by decide +kernel) (by decide) rfl (by omega) rfl rfl rfl rfl rfl (fun r h' hq => ?_)
  obtain ⟨rfl, hR2⟩ := hq
  rename Mm => h2
  refine p_icmp_eq (off := 595) 1532 (by decide +kernel) (by decide) (fun cqe => ?_) (fun cqe => ?_)
  · exact hC h2 hR2
  · exact absurd rfl cqe
set_option maxRecDepth 20000 in
set_option maxHeartbeats 4000000 in
theorem law_22 (w : Wt) {k : Nat} (hk : 830 ≤ k) (hL : w_L w ≤ 3072) (i : Nat) (hi : i + 6 ≤ w_L w) (h : Mm) (hR : Rel h) (Q : Option Value → Mm → Prop) (hC : ∀ h', Rel h' → Wp w k ML_law Q 1532 [some (.ref 1001), some (.ref 0), some (.ref 96), some (.int (nI i))] [] h') : Wp w k ML_law Q 942 [some (.ref 1001), some (.ref 0), some (.ref 96), some (.int (nI i))] [] h := by
  refine p_run (pc' := 947) [.aload_n 1, .aload_n 0, .iload_n 3, .iconst 1, .iadd] mkL_law (by decide +kernel) rfl rfl ?_
  rw [show nI i + Int32.ofInt 1 = nI (i + 1) from nI_add _ _]
  refine p_sald (i + 1) (by decide +kernel) rfl (by omega) hL ?_
  refine p_callV (st_fine w (k := k - 1) (by omega) (w_x w (i + 1)) h hR).ok kvL_106 (by decide +kernel) (by decide) rfl (by omega) rfl rfl rfl rfl rfl (fun r h' hq => ?_)
  obtain ⟨v, rfl, hO⟩ := hq
  rename Mm => h1
  refine p_run (pc' := 956) [.aload_n 2, .aload_n 0, .iload_n 3, .iconst 1, .iadd] mkL_law (by decide +kernel) rfl rfl ?_
  rw [show nI i + Int32.ofInt 1 = nI (i + 1) from nI_add _ _]
  refine p_sald (i + 1) (by decide +kernel) rfl (by omega) hL ?_
  refine p_callV hO kvL_109 (by decide +kernel) (by decide) rfl (by omega) rfl rfl rfl rfl rfl (fun r h' hq => ?_)
  obtain ⟨rfl, hR2⟩ := hq
  rename Mm => h2
  refine p_icmp_eq (off := 572) 1532 (by decide +kernel) (by decide) (fun cqe => ?_) (fun cqe => ?_)
  · exact hC h2 hR2
  · exact absurd rfl cqe
set_option maxRecDepth 20000 in
set_option maxHeartbeats 4000000 in
theorem law_23 (w : Wt) {k : Nat} (hk : 830 ≤ k) (hL : w_L w ≤ 3072) (i : Nat) (hi : i + 6 ≤ w_L w) (h : Mm) (hR : Rel h) (Q : Option Value → Mm → Prop) (hC : ∀ h', Rel h' → Wp w k ML_law Q 1532 [some (.ref 1001), some (.ref 0), some (.ref 96), some (.int (nI i))] [] h') : Wp w k ML_law Q 965 [some (.ref 1001), some (.ref 0), some (.ref 96), some (.int (nI i))] [] h := by
  refine p_run (pc' := 970) [.aload_n 1, .aload_n 0, .iload_n 3, .iconst 1, .iadd] mkL_law (by decide +kernel) rfl rfl ?_
  rw [show nI i + Int32.ofInt 1 = nI (i + 1) from nI_add _ _]
  refine p_sald (i + 1) (by decide +kernel) rfl (by omega) hL ?_
  refine p_run (pc' := 975) [.aload_n 0, .iload_n 3, .iconst 2, .iadd] mkL_law (by decide +kernel) rfl rfl ?_
  rw [show nI i + Int32.ofInt 2 = nI (i + 2) from nI_add _ _]
  refine p_sald (i + 2) (by decide +kernel) rfl (by omega) hL ?_
  refine p_run (pc' := 980) [.aload_n 0, .iload_n 3, .iconst 3, .iadd] mkL_law (by decide +kernel) rfl rfl ?_
  rw [show nI i + Int32.ofInt 3 = nI (i + 3) from nI_add _ _]
  refine p_sald (i + 3) (by decide +kernel) rfl (by omega) hL ?_
  refine p_callV (st_feed w (k := k - 1) (by omega) (w_x w (i + 1)) (w_x w (i + 2)) (w_x w (i + 3)) h hR).ok kvL_110 (by decide +kernel) (by decide) rfl (by omega) rfl rfl rfl rfl rfl (fun r h' hq => ?_)
  obtain ⟨v, rfl, hO⟩ := hq
  rename Mm => h1
  refine p_run (pc' := 989) [.aload_n 2, .aload_n 0, .iload_n 3, .iconst 1, .iadd] mkL_law (by decide +kernel) rfl rfl ?_
  rw [show nI i + Int32.ofInt 1 = nI (i + 1) from nI_add _ _]
  refine p_sald (i + 1) (by decide +kernel) rfl (by omega) hL ?_
  refine p_run (pc' := 994) [.aload_n 0, .iload_n 3, .iconst 2, .iadd] mkL_law (by decide +kernel) rfl rfl ?_
  rw [show nI i + Int32.ofInt 2 = nI (i + 2) from nI_add _ _]
  refine p_sald (i + 2) (by decide +kernel) rfl (by omega) hL ?_
  refine p_run (pc' := 999) [.aload_n 0, .iload_n 3, .iconst 3, .iadd] mkL_law (by decide +kernel) rfl rfl ?_
  rw [show nI i + Int32.ofInt 3 = nI (i + 3) from nI_add _ _]
  refine p_sald (i + 3) (by decide +kernel) rfl (by omega) hL ?_
  refine p_callV hO kvL_113 (by decide +kernel) (by decide) rfl (by omega) rfl rfl rfl rfl rfl (fun r h' hq => ?_)
  obtain ⟨rfl, hR2⟩ := hq
  rename Mm => h2
  refine p_icmp_eq (off := 529) 1532 (by decide +kernel) (by decide) (fun cqe => ?_) (fun cqe => ?_)
  · exact hC h2 hR2
  · exact absurd rfl cqe
set_option maxRecDepth 20000 in
set_option maxHeartbeats 4000000 in
theorem law_24 (w : Wt) {k : Nat} (hk : 830 ≤ k) (hL : w_L w ≤ 3072) (i : Nat) (hi : i + 6 ≤ w_L w) (h : Mm) (hR : Rel h) (Q : Option Value → Mm → Prop) (hC : ∀ h', Rel h' → Wp w k ML_law Q 1532 [some (.ref 1001), some (.ref 0), some (.ref 96), some (.int (nI i))] [] h') : Wp w k ML_law Q 1008 [some (.ref 1001), some (.ref 0), some (.ref 96), some (.int (nI i))] [] h := by
  refine p_run (pc' := 1013) [.aload_n 1, .aload_n 0, .iload_n 3, .iconst 1, .iadd] mkL_law (by decide +kernel) rfl rfl ?_
  rw [show nI i + Int32.ofInt 1 = nI (i + 1) from nI_add _ _]
  refine p_sald (i + 1) (by decide +kernel) rfl (by omega) hL ?_
  refine p_callV (st_trim w (k := k - 1) (by omega) (w_x w (i + 1)) h hR).ok kvL_114 (by decide +kernel) (by decide) rfl (by omega) rfl rfl rfl rfl rfl (fun r h' hq => ?_)
  obtain ⟨v, rfl, hO⟩ := hq
  rename Mm => h1
  refine p_run (pc' := 1022) [.aload_n 2, .aload_n 0, .iload_n 3, .iconst 1, .iadd] mkL_law (by decide +kernel) rfl rfl ?_
  rw [show nI i + Int32.ofInt 1 = nI (i + 1) from nI_add _ _]
  refine p_sald (i + 1) (by decide +kernel) rfl (by omega) hL ?_
  refine p_callV hO kvL_117 (by decide +kernel) (by decide) rfl (by omega) rfl rfl rfl rfl rfl (fun r h' hq => ?_)
  obtain ⟨rfl, hR2⟩ := hq
  rename Mm => h2
  refine p_icmp_eq (off := 506) 1532 (by decide +kernel) (by decide) (fun cqe => ?_) (fun cqe => ?_)
  · exact hC h2 hR2
  · exact absurd rfl cqe
set_option maxRecDepth 20000 in
set_option maxHeartbeats 4000000 in
theorem law_25 (w : Wt) {k : Nat} (hk : 830 ≤ k) (hL : w_L w ≤ 3072) (i : Nat) (hi : i + 6 ≤ w_L w) (h : Mm) (hR : Rel h) (Q : Option Value → Mm → Prop) (hC : ∀ h', Rel h' → Wp w k ML_law Q 1532 [some (.ref 1001), some (.ref 0), some (.ref 96), some (.int (nI i))] [] h') : Wp w k ML_law Q 1031 [some (.ref 1001), some (.ref 0), some (.ref 96), some (.int (nI i))] [] h := by
  refine p_run (pc' := 1032) [.aload_n 1] mkL_law (by decide +kernel) rfl rfl ?_
  refine p_callV (st_text w (k := k - 1) (by omega)  h hR).ok kvL_118 (by decide +kernel) (by decide) rfl (by omega) rfl rfl rfl rfl rfl (fun r h' hq => ?_)
  obtain ⟨v, rfl, hO⟩ := hq
  rename Mm => h1
  refine p_run (pc' := 1036) [.aload_n 2] mkL_law (by decide +kernel) rfl rfl ?_
  refine p_callV hO kvL_121 (by decide +kernel) (by decide) rfl (by omega) rfl rfl rfl rfl rfl (fun r h' hq => ?_)
  obtain ⟨rfl, hR2⟩ := hq
  rename Mm => h2
  refine p_icmp_eq (off := 493) 1532 (by decide +kernel) (by decide) (fun cqe => ?_) (fun cqe => ?_)
  · exact hC h2 hR2
  · exact absurd rfl cqe
set_option maxRecDepth 20000 in
set_option maxHeartbeats 4000000 in
theorem law_26 (w : Wt) {k : Nat} (hk : 830 ≤ k) (hL : w_L w ≤ 3072) (i : Nat) (hi : i + 6 ≤ w_L w) (h : Mm) (hR : Rel h) (Q : Option Value → Mm → Prop) (hC : ∀ h', Rel h' → Wp w k ML_law Q 1532 [some (.ref 1001), some (.ref 0), some (.ref 96), some (.int (nI i))] [] h') : Wp w k ML_law Q 1044 [some (.ref 1001), some (.ref 0), some (.ref 96), some (.int (nI i))] [] h := by
  refine p_run (pc' := 1049) [.aload_n 1, .aload_n 0, .iload_n 3, .iconst 1, .iadd] mkL_law (by decide +kernel) rfl rfl ?_
  rw [show nI i + Int32.ofInt 1 = nI (i + 1) from nI_add _ _]
  refine p_sald (i + 1) (by decide +kernel) rfl (by omega) hL ?_
  refine p_run (pc' := 1054) [.aload_n 0, .iload_n 3, .iconst 2, .iadd] mkL_law (by decide +kernel) rfl rfl ?_
  rw [show nI i + Int32.ofInt 2 = nI (i + 2) from nI_add _ _]
  refine p_sald (i + 2) (by decide +kernel) rfl (by omega) hL ?_
  refine p_callV (st_textTold w (k := k - 1) (by omega) (w_x w (i + 1)) (w_x w (i + 2)) h hR).ok kvL_122 (by decide +kernel) (by decide) rfl (by omega) rfl rfl rfl rfl rfl (fun r h' hq => ?_)
  obtain ⟨v, rfl, hO⟩ := hq
  rename Mm => h1
  refine p_run (pc' := 1063) [.aload_n 2, .aload_n 0, .iload_n 3, .iconst 1, .iadd] mkL_law (by decide +kernel) rfl rfl ?_
  rw [show nI i + Int32.ofInt 1 = nI (i + 1) from nI_add _ _]
  refine p_sald (i + 1) (by decide +kernel) rfl (by omega) hL ?_
  refine p_run (pc' := 1068) [.aload_n 0, .iload_n 3, .iconst 2, .iadd] mkL_law (by decide +kernel) rfl rfl ?_
  rw [show nI i + Int32.ofInt 2 = nI (i + 2) from nI_add _ _]
  refine p_sald (i + 2) (by decide +kernel) rfl (by omega) hL ?_
  refine p_callV hO kvL_125 (by decide +kernel) (by decide) rfl (by omega) rfl rfl rfl rfl rfl (fun r h' hq => ?_)
  obtain ⟨rfl, hR2⟩ := hq
  rename Mm => h2
  refine p_icmp_eq (off := 460) 1532 (by decide +kernel) (by decide) (fun cqe => ?_) (fun cqe => ?_)
  · exact hC h2 hR2
  · exact absurd rfl cqe
set_option maxRecDepth 20000 in
set_option maxHeartbeats 4000000 in
theorem law_27 (w : Wt) {k : Nat} (hk : 830 ≤ k) (hL : w_L w ≤ 3072) (i : Nat) (hi : i + 6 ≤ w_L w) (h : Mm) (hR : Rel h) (Q : Option Value → Mm → Prop) (hC : ∀ h', Rel h' → Wp w k ML_law Q 1532 [some (.ref 1001), some (.ref 0), some (.ref 96), some (.int (nI i))] [] h') : Wp w k ML_law Q 1077 [some (.ref 1001), some (.ref 0), some (.ref 96), some (.int (nI i))] [] h := by
  refine p_run (pc' := 1082) [.aload_n 1, .aload_n 0, .iload_n 3, .iconst 1, .iadd] mkL_law (by decide +kernel) rfl rfl ?_
  rw [show nI i + Int32.ofInt 1 = nI (i + 1) from nI_add _ _]
  refine p_sald (i + 1) (by decide +kernel) rfl (by omega) hL ?_
  refine p_callV (st_why w (k := k - 1) (by omega) (w_x w (i + 1)) h hR).ok kvL_126 (by decide +kernel) (by decide) rfl (by omega) rfl rfl rfl rfl rfl (fun r h' hq => ?_)
  obtain ⟨v, rfl, hO⟩ := hq
  rename Mm => h1
  refine p_run (pc' := 1091) [.aload_n 2, .aload_n 0, .iload_n 3, .iconst 1, .iadd] mkL_law (by decide +kernel) rfl rfl ?_
  rw [show nI i + Int32.ofInt 1 = nI (i + 1) from nI_add _ _]
  refine p_sald (i + 1) (by decide +kernel) rfl (by omega) hL ?_
  refine p_callV hO kvL_129 (by decide +kernel) (by decide) rfl (by omega) rfl rfl rfl rfl rfl (fun r h' hq => ?_)
  obtain ⟨rfl, hR2⟩ := hq
  rename Mm => h2
  refine p_icmp_eq (off := 437) 1532 (by decide +kernel) (by decide) (fun cqe => ?_) (fun cqe => ?_)
  · exact hC h2 hR2
  · exact absurd rfl cqe
set_option maxRecDepth 20000 in
set_option maxHeartbeats 4000000 in
theorem law_28 (w : Wt) {k : Nat} (hk : 830 ≤ k) (hL : w_L w ≤ 3072) (i : Nat) (hi : i + 6 ≤ w_L w) (h : Mm) (hR : Rel h) (Q : Option Value → Mm → Prop) (hC : ∀ h', Rel h' → Wp w k ML_law Q 1532 [some (.ref 1001), some (.ref 0), some (.ref 96), some (.int (nI i))] [] h') : Wp w k ML_law Q 1100 [some (.ref 1001), some (.ref 0), some (.ref 96), some (.int (nI i))] [] h := by
  refine p_run (pc' := 1105) [.aload_n 1, .aload_n 0, .iload_n 3, .iconst 1, .iadd] mkL_law (by decide +kernel) rfl rfl ?_
  rw [show nI i + Int32.ofInt 1 = nI (i + 1) from nI_add _ _]
  refine p_sald (i + 1) (by decide +kernel) rfl (by omega) hL ?_
  refine p_run (pc' := 1110) [.aload_n 0, .iload_n 3, .iconst 2, .iadd] mkL_law (by decide +kernel) rfl rfl ?_
  rw [show nI i + Int32.ofInt 2 = nI (i + 2) from nI_add _ _]
  refine p_sald (i + 2) (by decide +kernel) rfl (by omega) hL ?_
  refine p_run (pc' := 1115) [.aload_n 0, .iload_n 3, .iconst 3, .iadd] mkL_law (by decide +kernel) rfl rfl ?_
  rw [show nI i + Int32.ofInt 3 = nI (i + 3) from nI_add _ _]
  refine p_sald (i + 3) (by decide +kernel) rfl (by omega) hL ?_
  refine p_callV (st_sheet w (k := k - 1) (by omega) (w_x w (i + 1)) (w_x w (i + 2)) (w_x w (i + 3)) h hR).ok kvL_130 (by decide +kernel) (by decide) rfl (by omega) rfl rfl rfl rfl rfl (fun r h' hq => ?_)
  obtain ⟨v, rfl, hO⟩ := hq
  rename Mm => h1
  refine p_run (pc' := 1124) [.aload_n 2, .aload_n 0, .iload_n 3, .iconst 1, .iadd] mkL_law (by decide +kernel) rfl rfl ?_
  rw [show nI i + Int32.ofInt 1 = nI (i + 1) from nI_add _ _]
  refine p_sald (i + 1) (by decide +kernel) rfl (by omega) hL ?_
  refine p_run (pc' := 1129) [.aload_n 0, .iload_n 3, .iconst 2, .iadd] mkL_law (by decide +kernel) rfl rfl ?_
  rw [show nI i + Int32.ofInt 2 = nI (i + 2) from nI_add _ _]
  refine p_sald (i + 2) (by decide +kernel) rfl (by omega) hL ?_
  refine p_run (pc' := 1134) [.aload_n 0, .iload_n 3, .iconst 3, .iadd] mkL_law (by decide +kernel) rfl rfl ?_
  rw [show nI i + Int32.ofInt 3 = nI (i + 3) from nI_add _ _]
  refine p_sald (i + 3) (by decide +kernel) rfl (by omega) hL ?_
  refine p_callV hO kvL_133 (by decide +kernel) (by decide) rfl (by omega) rfl rfl rfl rfl rfl (fun r h' hq => ?_)
  obtain ⟨rfl, hR2⟩ := hq
  rename Mm => h2
  refine p_icmp_eq (off := 394) 1532 (by decide +kernel) (by decide) (fun cqe => ?_) (fun cqe => ?_)
  · exact hC h2 hR2
  · exact absurd rfl cqe
set_option maxRecDepth 20000 in
set_option maxHeartbeats 4000000 in
theorem law_29 (w : Wt) {k : Nat} (hk : 830 ≤ k) (hL : w_L w ≤ 3072) (i : Nat) (hi : i + 6 ≤ w_L w) (h : Mm) (hR : Rel h) (Q : Option Value → Mm → Prop) (hC : ∀ h', Rel h' → Wp w k ML_law Q 1532 [some (.ref 1001), some (.ref 0), some (.ref 96), some (.int (nI i))] [] h') : Wp w k ML_law Q 1143 [some (.ref 1001), some (.ref 0), some (.ref 96), some (.int (nI i))] [] h := by
  refine p_run (pc' := 1148) [.aload_n 1, .aload_n 0, .iload_n 3, .iconst 1, .iadd] mkL_law (by decide +kernel) rfl rfl ?_
  rw [show nI i + Int32.ofInt 1 = nI (i + 1) from nI_add _ _]
  refine p_sald (i + 1) (by decide +kernel) rfl (by omega) hL ?_
  refine p_run (pc' := 1153) [.aload_n 0, .iload_n 3, .iconst 2, .iadd] mkL_law (by decide +kernel) rfl rfl ?_
  rw [show nI i + Int32.ofInt 2 = nI (i + 2) from nI_add _ _]
  refine p_sald (i + 2) (by decide +kernel) rfl (by omega) hL ?_
  refine p_run (pc' := 1158) [.aload_n 0, .iload_n 3, .iconst 3, .iadd] mkL_law (by decide +kernel) rfl rfl ?_
  rw [show nI i + Int32.ofInt 3 = nI (i + 3) from nI_add _ _]
  refine p_sald (i + 3) (by decide +kernel) rfl (by omega) hL ?_
  refine p_callV (st_mark w (k := k - 1) (by omega) (w_x w (i + 1)) (w_x w (i + 2)) (w_x w (i + 3)) h hR).ok kvL_134 (by decide +kernel) (by decide) rfl (by omega) rfl rfl rfl rfl rfl (fun r h' hq => ?_)
  obtain ⟨v, rfl, hO⟩ := hq
  rename Mm => h1
  refine p_run (pc' := 1167) [.aload_n 2, .aload_n 0, .iload_n 3, .iconst 1, .iadd] mkL_law (by decide +kernel) rfl rfl ?_
  rw [show nI i + Int32.ofInt 1 = nI (i + 1) from nI_add _ _]
  refine p_sald (i + 1) (by decide +kernel) rfl (by omega) hL ?_
  refine p_run (pc' := 1172) [.aload_n 0, .iload_n 3, .iconst 2, .iadd] mkL_law (by decide +kernel) rfl rfl ?_
  rw [show nI i + Int32.ofInt 2 = nI (i + 2) from nI_add _ _]
  refine p_sald (i + 2) (by decide +kernel) rfl (by omega) hL ?_
  refine p_run (pc' := 1177) [.aload_n 0, .iload_n 3, .iconst 3, .iadd] mkL_law (by decide +kernel) rfl rfl ?_
  rw [show nI i + Int32.ofInt 3 = nI (i + 3) from nI_add _ _]
  refine p_sald (i + 3) (by decide +kernel) rfl (by omega) hL ?_
  refine p_callV hO kvL_137 (by decide +kernel) (by decide) rfl (by omega) rfl rfl rfl rfl rfl (fun r h' hq => ?_)
  obtain ⟨rfl, hR2⟩ := hq
  rename Mm => h2
  refine p_icmp_eq (off := 351) 1532 (by decide +kernel) (by decide) (fun cqe => ?_) (fun cqe => ?_)
  · exact hC h2 hR2
  · exact absurd rfl cqe
set_option maxRecDepth 20000 in
set_option maxHeartbeats 4000000 in
theorem law_30 (w : Wt) {k : Nat} (hk : 830 ≤ k) (hL : w_L w ≤ 3072) (i : Nat) (hi : i + 6 ≤ w_L w) (h : Mm) (hR : Rel h) (Q : Option Value → Mm → Prop) (hC : ∀ h', Rel h' → Wp w k ML_law Q 1532 [some (.ref 1001), some (.ref 0), some (.ref 96), some (.int (nI i))] [] h') : Wp w k ML_law Q 1186 [some (.ref 1001), some (.ref 0), some (.ref 96), some (.int (nI i))] [] h := by
  refine p_run (pc' := 1191) [.aload_n 1, .aload_n 0, .iload_n 3, .iconst 1, .iadd] mkL_law (by decide +kernel) rfl rfl ?_
  rw [show nI i + Int32.ofInt 1 = nI (i + 1) from nI_add _ _]
  refine p_sald (i + 1) (by decide +kernel) rfl (by omega) hL ?_
  refine p_callV (st_pour w (k := k - 1) (by omega) (w_x w (i + 1)) h hR).ok kvL_138 (by decide +kernel) (by decide) rfl (by omega) rfl rfl rfl rfl rfl (fun r h' hq => ?_)
  obtain ⟨v, rfl, hO⟩ := hq
  rename Mm => h1
  refine p_run (pc' := 1200) [.aload_n 2, .aload_n 0, .iload_n 3, .iconst 1, .iadd] mkL_law (by decide +kernel) rfl rfl ?_
  rw [show nI i + Int32.ofInt 1 = nI (i + 1) from nI_add _ _]
  refine p_sald (i + 1) (by decide +kernel) rfl (by omega) hL ?_
  refine p_callV hO kvL_141 (by decide +kernel) (by decide) rfl (by omega) rfl rfl rfl rfl rfl (fun r h' hq => ?_)
  obtain ⟨rfl, hR2⟩ := hq
  rename Mm => h2
  refine p_icmp_eq (off := 328) 1532 (by decide +kernel) (by decide) (fun cqe => ?_) (fun cqe => ?_)
  · exact hC h2 hR2
  · exact absurd rfl cqe
set_option maxRecDepth 20000 in
set_option maxHeartbeats 4000000 in
theorem law_31 (w : Wt) {k : Nat} (hk : 830 ≤ k) (hL : w_L w ≤ 3072) (i : Nat) (hi : i + 6 ≤ w_L w) (h : Mm) (hR : Rel h) (Q : Option Value → Mm → Prop) (hC : ∀ h', Rel h' → Wp w k ML_law Q 1532 [some (.ref 1001), some (.ref 0), some (.ref 96), some (.int (nI i))] [] h') : Wp w k ML_law Q 1209 [some (.ref 1001), some (.ref 0), some (.ref 96), some (.int (nI i))] [] h := by
  refine p_run (pc' := 1214) [.aload_n 1, .aload_n 0, .iload_n 3, .iconst 1, .iadd] mkL_law (by decide +kernel) rfl rfl ?_
  rw [show nI i + Int32.ofInt 1 = nI (i + 1) from nI_add _ _]
  refine p_sald (i + 1) (by decide +kernel) rfl (by omega) hL ?_
  refine p_callV (st_reads w (k := k - 1) (by omega) (w_x w (i + 1)) h hR).ok kvL_142 (by decide +kernel) (by decide) rfl (by omega) rfl rfl rfl rfl rfl (fun r h' hq => ?_)
  obtain ⟨v, rfl, hO⟩ := hq
  rename Mm => h1
  refine p_run (pc' := 1223) [.aload_n 2, .aload_n 0, .iload_n 3, .iconst 1, .iadd] mkL_law (by decide +kernel) rfl rfl ?_
  rw [show nI i + Int32.ofInt 1 = nI (i + 1) from nI_add _ _]
  refine p_sald (i + 1) (by decide +kernel) rfl (by omega) hL ?_
  refine p_callV hO kvL_145 (by decide +kernel) (by decide) rfl (by omega) rfl rfl rfl rfl rfl (fun r h' hq => ?_)
  obtain ⟨rfl, hR2⟩ := hq
  rename Mm => h2
  refine p_icmp_eq (off := 305) 1532 (by decide +kernel) (by decide) (fun cqe => ?_) (fun cqe => ?_)
  · exact hC h2 hR2
  · exact absurd rfl cqe
set_option maxRecDepth 20000 in
set_option maxHeartbeats 4000000 in
theorem law_32 (w : Wt) {k : Nat} (hk : 830 ≤ k) (hL : w_L w ≤ 3072) (i : Nat) (hi : i + 6 ≤ w_L w) (h : Mm) (hR : Rel h) (Q : Option Value → Mm → Prop) (hC : ∀ h', Rel h' → Wp w k ML_law Q 1532 [some (.ref 1001), some (.ref 0), some (.ref 96), some (.int (nI i))] [] h') : Wp w k ML_law Q 1232 [some (.ref 1001), some (.ref 0), some (.ref 96), some (.int (nI i))] [] h := by
  refine p_run (pc' := 1237) [.aload_n 1, .aload_n 0, .iload_n 3, .iconst 1, .iadd] mkL_law (by decide +kernel) rfl rfl ?_
  rw [show nI i + Int32.ofInt 1 = nI (i + 1) from nI_add _ _]
  refine p_sald (i + 1) (by decide +kernel) rfl (by omega) hL ?_
  refine p_run (pc' := 1242) [.aload_n 0, .iload_n 3, .iconst 2, .iadd] mkL_law (by decide +kernel) rfl rfl ?_
  rw [show nI i + Int32.ofInt 2 = nI (i + 2) from nI_add _ _]
  refine p_sald (i + 2) (by decide +kernel) rfl (by omega) hL ?_
  refine p_run (pc' := 1247) [.aload_n 0, .iload_n 3, .iconst 3, .iadd] mkL_law (by decide +kernel) rfl rfl ?_
  rw [show nI i + Int32.ofInt 3 = nI (i + 3) from nI_add _ _]
  refine p_sald (i + 3) (by decide +kernel) rfl (by omega) hL ?_
  refine p_run (pc' := 1252) [.aload_n 0, .iload_n 3, .iconst 4, .iadd] mkL_law (by decide +kernel) rfl rfl ?_
  rw [show nI i + Int32.ofInt 4 = nI (i + 4) from nI_add _ _]
  refine p_sald (i + 4) (by decide +kernel) rfl (by omega) hL ?_
  refine p_run (pc' := 1257) [.aload_n 0, .iload_n 3, .iconst 5, .iadd] mkL_law (by decide +kernel) rfl rfl ?_
  rw [show nI i + Int32.ofInt 5 = nI (i + 5) from nI_add _ _]
  refine p_sald (i + 5) (by decide +kernel) rfl (by omega) hL ?_
  refine p_callV (st_copy w (k := k - 1) (by omega) (w_x w (i + 1)) (w_x w (i + 2)) (w_x w (i + 3)) (w_x w (i + 4)) (w_x w (i + 5)) h hR).ok kvL_146 (by decide +kernel) (by decide) rfl (by omega) rfl rfl rfl rfl rfl (fun r h' hq => ?_)
  obtain ⟨v, rfl, hO⟩ := hq
  rename Mm => h1
  refine p_run (pc' := 1266) [.aload_n 2, .aload_n 0, .iload_n 3, .iconst 1, .iadd] mkL_law (by decide +kernel) rfl rfl ?_
  rw [show nI i + Int32.ofInt 1 = nI (i + 1) from nI_add _ _]
  refine p_sald (i + 1) (by decide +kernel) rfl (by omega) hL ?_
  refine p_run (pc' := 1271) [.aload_n 0, .iload_n 3, .iconst 2, .iadd] mkL_law (by decide +kernel) rfl rfl ?_
  rw [show nI i + Int32.ofInt 2 = nI (i + 2) from nI_add _ _]
  refine p_sald (i + 2) (by decide +kernel) rfl (by omega) hL ?_
  refine p_run (pc' := 1276) [.aload_n 0, .iload_n 3, .iconst 3, .iadd] mkL_law (by decide +kernel) rfl rfl ?_
  rw [show nI i + Int32.ofInt 3 = nI (i + 3) from nI_add _ _]
  refine p_sald (i + 3) (by decide +kernel) rfl (by omega) hL ?_
  refine p_run (pc' := 1281) [.aload_n 0, .iload_n 3, .iconst 4, .iadd] mkL_law (by decide +kernel) rfl rfl ?_
  rw [show nI i + Int32.ofInt 4 = nI (i + 4) from nI_add _ _]
  refine p_sald (i + 4) (by decide +kernel) rfl (by omega) hL ?_
  refine p_run (pc' := 1286) [.aload_n 0, .iload_n 3, .iconst 5, .iadd] mkL_law (by decide +kernel) rfl rfl ?_
  rw [show nI i + Int32.ofInt 5 = nI (i + 5) from nI_add _ _]
  refine p_sald (i + 5) (by decide +kernel) rfl (by omega) hL ?_
  refine p_callV hO kvL_150 (by decide +kernel) (by decide) rfl (by omega) rfl rfl rfl rfl rfl (fun r h' hq => ?_)
  obtain ⟨rfl, hR2⟩ := hq
  rename Mm => h2
  refine p_icmp_eq (off := 242) 1532 (by decide +kernel) (by decide) (fun cqe => ?_) (fun cqe => ?_)
  · exact hC h2 hR2
  · exact absurd rfl cqe
set_option maxRecDepth 20000 in
set_option maxHeartbeats 4000000 in
theorem law_33 (w : Wt) {k : Nat} (hk : 830 ≤ k) (hL : w_L w ≤ 3072) (i : Nat) (hi : i + 6 ≤ w_L w) (h : Mm) (hR : Rel h) (Q : Option Value → Mm → Prop) (hC : ∀ h', Rel h' → Wp w k ML_law Q 1532 [some (.ref 1001), some (.ref 0), some (.ref 96), some (.int (nI i))] [] h') : Wp w k ML_law Q 1295 [some (.ref 1001), some (.ref 0), some (.ref 96), some (.int (nI i))] [] h := by
  refine p_run (pc' := 1300) [.aload_n 1, .aload_n 0, .iload_n 3, .iconst 1, .iadd] mkL_law (by decide +kernel) rfl rfl ?_
  rw [show nI i + Int32.ofInt 1 = nI (i + 1) from nI_add _ _]
  refine p_sald (i + 1) (by decide +kernel) rfl (by omega) hL ?_
  refine p_run (pc' := 1305) [.aload_n 0, .iload_n 3, .iconst 2, .iadd] mkL_law (by decide +kernel) rfl rfl ?_
  rw [show nI i + Int32.ofInt 2 = nI (i + 2) from nI_add _ _]
  refine p_sald (i + 2) (by decide +kernel) rfl (by omega) hL ?_
  refine p_run (pc' := 1310) [.aload_n 0, .iload_n 3, .iconst 3, .iadd] mkL_law (by decide +kernel) rfl rfl ?_
  rw [show nI i + Int32.ofInt 3 = nI (i + 3) from nI_add _ _]
  refine p_sald (i + 3) (by decide +kernel) rfl (by omega) hL ?_
  refine p_callV (st_lay w (k := k - 1) (by omega) (w_x w (i + 1)) (w_x w (i + 2)) (w_x w (i + 3)) h hR).ok kvL_151 (by decide +kernel) (by decide) rfl (by omega) rfl rfl rfl rfl rfl (fun r h' hq => ?_)
  obtain ⟨v, rfl, hO⟩ := hq
  rename Mm => h1
  refine p_run (pc' := 1319) [.aload_n 2, .aload_n 0, .iload_n 3, .iconst 1, .iadd] mkL_law (by decide +kernel) rfl rfl ?_
  rw [show nI i + Int32.ofInt 1 = nI (i + 1) from nI_add _ _]
  refine p_sald (i + 1) (by decide +kernel) rfl (by omega) hL ?_
  refine p_run (pc' := 1324) [.aload_n 0, .iload_n 3, .iconst 2, .iadd] mkL_law (by decide +kernel) rfl rfl ?_
  rw [show nI i + Int32.ofInt 2 = nI (i + 2) from nI_add _ _]
  refine p_sald (i + 2) (by decide +kernel) rfl (by omega) hL ?_
  refine p_run (pc' := 1329) [.aload_n 0, .iload_n 3, .iconst 3, .iadd] mkL_law (by decide +kernel) rfl rfl ?_
  rw [show nI i + Int32.ofInt 3 = nI (i + 3) from nI_add _ _]
  refine p_sald (i + 3) (by decide +kernel) rfl (by omega) hL ?_
  refine p_callV hO kvL_154 (by decide +kernel) (by decide) rfl (by omega) rfl rfl rfl rfl rfl (fun r h' hq => ?_)
  obtain ⟨rfl, hR2⟩ := hq
  rename Mm => h2
  refine p_icmp_eq (off := 199) 1532 (by decide +kernel) (by decide) (fun cqe => ?_) (fun cqe => ?_)
  · exact hC h2 hR2
  · exact absurd rfl cqe
set_option maxRecDepth 20000 in
set_option maxHeartbeats 4000000 in
theorem law_34 (w : Wt) {k : Nat} (hk : 830 ≤ k) (hL : w_L w ≤ 3072) (i : Nat) (hi : i + 6 ≤ w_L w) (h : Mm) (hR : Rel h) (Q : Option Value → Mm → Prop) (hC : ∀ h', Rel h' → Wp w k ML_law Q 1532 [some (.ref 1001), some (.ref 0), some (.ref 96), some (.int (nI i))] [] h') : Wp w k ML_law Q 1338 [some (.ref 1001), some (.ref 0), some (.ref 96), some (.int (nI i))] [] h := by
  refine p_run (pc' := 1343) [.aload_n 1, .aload_n 0, .iload_n 3, .iconst 1, .iadd] mkL_law (by decide +kernel) rfl rfl ?_
  rw [show nI i + Int32.ofInt 1 = nI (i + 1) from nI_add _ _]
  refine p_sald (i + 1) (by decide +kernel) rfl (by omega) hL ?_
  refine p_run (pc' := 1348) [.aload_n 0, .iload_n 3, .iconst 2, .iadd] mkL_law (by decide +kernel) rfl rfl ?_
  rw [show nI i + Int32.ofInt 2 = nI (i + 2) from nI_add _ _]
  refine p_sald (i + 2) (by decide +kernel) rfl (by omega) hL ?_
  refine p_callV (st_ask w (k := k - 1) (by omega) (w_x w (i + 1)) (w_x w (i + 2)) h hR).ok kvL_155 (by decide +kernel) (by decide) rfl (by omega) rfl rfl rfl rfl rfl (fun r h' hq => ?_)
  obtain ⟨v, rfl, hO⟩ := hq
  rename Mm => h1
  refine p_run (pc' := 1357) [.aload_n 2, .aload_n 0, .iload_n 3, .iconst 1, .iadd] mkL_law (by decide +kernel) rfl rfl ?_
  rw [show nI i + Int32.ofInt 1 = nI (i + 1) from nI_add _ _]
  refine p_sald (i + 1) (by decide +kernel) rfl (by omega) hL ?_
  refine p_run (pc' := 1362) [.aload_n 0, .iload_n 3, .iconst 2, .iadd] mkL_law (by decide +kernel) rfl rfl ?_
  rw [show nI i + Int32.ofInt 2 = nI (i + 2) from nI_add _ _]
  refine p_sald (i + 2) (by decide +kernel) rfl (by omega) hL ?_
  refine p_callV hO kvL_158 (by decide +kernel) (by decide) rfl (by omega) rfl rfl rfl rfl rfl (fun r h' hq => ?_)
  obtain ⟨rfl, hR2⟩ := hq
  rename Mm => h2
  refine p_icmp_eq (off := 166) 1532 (by decide +kernel) (by decide) (fun cqe => ?_) (fun cqe => ?_)
  · exact hC h2 hR2
  · exact absurd rfl cqe
set_option maxRecDepth 20000 in
set_option maxHeartbeats 4000000 in
theorem law_35 (w : Wt) {k : Nat} (hk : 830 ≤ k) (hL : w_L w ≤ 3072) (i : Nat) (hi : i + 6 ≤ w_L w) (h : Mm) (hR : Rel h) (Q : Option Value → Mm → Prop) (hC : ∀ h', Rel h' → Wp w k ML_law Q 1532 [some (.ref 1001), some (.ref 0), some (.ref 96), some (.int (nI i))] [] h') : Wp w k ML_law Q 1371 [some (.ref 1001), some (.ref 0), some (.ref 96), some (.int (nI i))] [] h := by
  refine p_run (pc' := 1376) [.aload_n 1, .aload_n 0, .iload_n 3, .iconst 1, .iadd] mkL_law (by decide +kernel) rfl rfl ?_
  rw [show nI i + Int32.ofInt 1 = nI (i + 1) from nI_add _ _]
  refine p_sald (i + 1) (by decide +kernel) rfl (by omega) hL ?_
  refine p_run (pc' := 1381) [.aload_n 0, .iload_n 3, .iconst 2, .iadd] mkL_law (by decide +kernel) rfl rfl ?_
  rw [show nI i + Int32.ofInt 2 = nI (i + 2) from nI_add _ _]
  refine p_sald (i + 2) (by decide +kernel) rfl (by omega) hL ?_
  refine p_callV (st_item w (k := k - 1) (by omega) (w_x w (i + 1)) (w_x w (i + 2)) h hR).ok kvL_159 (by decide +kernel) (by decide) rfl (by omega) rfl rfl rfl rfl rfl (fun r h' hq => ?_)
  obtain ⟨v, rfl, hO⟩ := hq
  rename Mm => h1
  refine p_run (pc' := 1390) [.aload_n 2, .aload_n 0, .iload_n 3, .iconst 1, .iadd] mkL_law (by decide +kernel) rfl rfl ?_
  rw [show nI i + Int32.ofInt 1 = nI (i + 1) from nI_add _ _]
  refine p_sald (i + 1) (by decide +kernel) rfl (by omega) hL ?_
  refine p_run (pc' := 1395) [.aload_n 0, .iload_n 3, .iconst 2, .iadd] mkL_law (by decide +kernel) rfl rfl ?_
  rw [show nI i + Int32.ofInt 2 = nI (i + 2) from nI_add _ _]
  refine p_sald (i + 2) (by decide +kernel) rfl (by omega) hL ?_
  refine p_callV hO kvL_162 (by decide +kernel) (by decide) rfl (by omega) rfl rfl rfl rfl rfl (fun r h' hq => ?_)
  obtain ⟨rfl, hR2⟩ := hq
  rename Mm => h2
  refine p_icmp_eq (off := 133) 1532 (by decide +kernel) (by decide) (fun cqe => ?_) (fun cqe => ?_)
  · exact hC h2 hR2
  · exact absurd rfl cqe
set_option maxRecDepth 20000 in
set_option maxHeartbeats 4000000 in
theorem law_36 (w : Wt) {k : Nat} (hk : 830 ≤ k) (hL : w_L w ≤ 3072) (i : Nat) (hi : i + 6 ≤ w_L w) (h : Mm) (hR : Rel h) (Q : Option Value → Mm → Prop) (hC : ∀ h', Rel h' → Wp w k ML_law Q 1532 [some (.ref 1001), some (.ref 0), some (.ref 96), some (.int (nI i))] [] h') : Wp w k ML_law Q 1404 [some (.ref 1001), some (.ref 0), some (.ref 96), some (.int (nI i))] [] h := by
  refine p_run (pc' := 1409) [.aload_n 1, .aload_n 0, .iload_n 3, .iconst 1, .iadd] mkL_law (by decide +kernel) rfl rfl ?_
  rw [show nI i + Int32.ofInt 1 = nI (i + 1) from nI_add _ _]
  refine p_sald (i + 1) (by decide +kernel) rfl (by omega) hL ?_
  refine p_run (pc' := 1414) [.aload_n 0, .iload_n 3, .iconst 2, .iadd] mkL_law (by decide +kernel) rfl rfl ?_
  rw [show nI i + Int32.ofInt 2 = nI (i + 2) from nI_add _ _]
  refine p_sald (i + 2) (by decide +kernel) rfl (by omega) hL ?_
  refine p_callV (st_rest w (k := k - 1) (by omega) (w_x w (i + 1)) (w_x w (i + 2)) h hR).ok kvL_163 (by decide +kernel) (by decide) rfl (by omega) rfl rfl rfl rfl rfl (fun r h' hq => ?_)
  obtain ⟨v, rfl, hO⟩ := hq
  rename Mm => h1
  refine p_run (pc' := 1423) [.aload_n 2, .aload_n 0, .iload_n 3, .iconst 1, .iadd] mkL_law (by decide +kernel) rfl rfl ?_
  rw [show nI i + Int32.ofInt 1 = nI (i + 1) from nI_add _ _]
  refine p_sald (i + 1) (by decide +kernel) rfl (by omega) hL ?_
  refine p_run (pc' := 1428) [.aload_n 0, .iload_n 3, .iconst 2, .iadd] mkL_law (by decide +kernel) rfl rfl ?_
  rw [show nI i + Int32.ofInt 2 = nI (i + 2) from nI_add _ _]
  refine p_sald (i + 2) (by decide +kernel) rfl (by omega) hL ?_
  refine p_callV hO kvL_166 (by decide +kernel) (by decide) rfl (by omega) rfl rfl rfl rfl rfl (fun r h' hq => ?_)
  obtain ⟨rfl, hR2⟩ := hq
  rename Mm => h2
  refine p_icmp_eq (off := 100) 1532 (by decide +kernel) (by decide) (fun cqe => ?_) (fun cqe => ?_)
  · exact hC h2 hR2
  · exact absurd rfl cqe
set_option maxRecDepth 20000 in
set_option maxHeartbeats 4000000 in
theorem law_37 (w : Wt) {k : Nat} (hk : 830 ≤ k) (hL : w_L w ≤ 3072) (i : Nat) (hi : i + 6 ≤ w_L w) (h : Mm) (hR : Rel h) (Q : Option Value → Mm → Prop) (hC : ∀ h', Rel h' → Wp w k ML_law Q 1532 [some (.ref 1001), some (.ref 0), some (.ref 96), some (.int (nI i))] [] h') : Wp w k ML_law Q 1437 [some (.ref 1001), some (.ref 0), some (.ref 96), some (.int (nI i))] [] h := by
  refine p_run (pc' := 1442) [.aload_n 1, .aload_n 0, .iload_n 3, .iconst 1, .iadd] mkL_law (by decide +kernel) rfl rfl ?_
  rw [show nI i + Int32.ofInt 1 = nI (i + 1) from nI_add _ _]
  refine p_sald (i + 1) (by decide +kernel) rfl (by omega) hL ?_
  refine p_callV (st_tell w (k := k - 1) (by omega) (w_x w (i + 1)) h hR).ok kvL_167 (by decide +kernel) (by decide) rfl (by omega) rfl rfl rfl rfl rfl (fun r h' hq => ?_)
  obtain ⟨v, rfl, hO⟩ := hq
  rename Mm => h1
  refine p_run (pc' := 1451) [.aload_n 2, .aload_n 0, .iload_n 3, .iconst 1, .iadd] mkL_law (by decide +kernel) rfl rfl ?_
  rw [show nI i + Int32.ofInt 1 = nI (i + 1) from nI_add _ _]
  refine p_sald (i + 1) (by decide +kernel) rfl (by omega) hL ?_
  refine p_callV hO kvL_170 (by decide +kernel) (by decide) rfl (by omega) rfl rfl rfl rfl rfl (fun r h' hq => ?_)
  obtain ⟨rfl, hR2⟩ := hq
  rename Mm => h2
  refine p_icmp_eq (off := 77) 1532 (by decide +kernel) (by decide) (fun cqe => ?_) (fun cqe => ?_)
  · exact hC h2 hR2
  · exact absurd rfl cqe
set_option maxRecDepth 20000 in
set_option maxHeartbeats 4000000 in
theorem law_38 (w : Wt) {k : Nat} (hk : 830 ≤ k) (hL : w_L w ≤ 3072) (i : Nat) (hi : i + 6 ≤ w_L w) (h : Mm) (hR : Rel h) (Q : Option Value → Mm → Prop) (hC : ∀ h', Rel h' → Wp w k ML_law Q 1532 [some (.ref 1001), some (.ref 0), some (.ref 96), some (.int (nI i))] [] h') : Wp w k ML_law Q 1460 [some (.ref 1001), some (.ref 0), some (.ref 96), some (.int (nI i))] [] h := by
  refine p_run (pc' := 1465) [.aload_n 1, .aload_n 0, .iload_n 3, .iconst 1, .iadd] mkL_law (by decide +kernel) rfl rfl ?_
  rw [show nI i + Int32.ofInt 1 = nI (i + 1) from nI_add _ _]
  refine p_sald (i + 1) (by decide +kernel) rfl (by omega) hL ?_
  refine p_callV (st_check w (k := k - 1) (by omega) (w_x w (i + 1)) h hR).ok kvL_171 (by decide +kernel) (by decide) rfl (by omega) rfl rfl rfl rfl rfl (fun r h' hq => ?_)
  obtain ⟨v, rfl, hO⟩ := hq
  rename Mm => h1
  refine p_run (pc' := 1474) [.aload_n 2, .aload_n 0, .iload_n 3, .iconst 1, .iadd] mkL_law (by decide +kernel) rfl rfl ?_
  rw [show nI i + Int32.ofInt 1 = nI (i + 1) from nI_add _ _]
  refine p_sald (i + 1) (by decide +kernel) rfl (by omega) hL ?_
  refine p_callV hO kvL_174 (by decide +kernel) (by decide) rfl (by omega) rfl rfl rfl rfl rfl (fun r h' hq => ?_)
  obtain ⟨rfl, hR2⟩ := hq
  rename Mm => h2
  refine p_icmp_eq (off := 54) 1532 (by decide +kernel) (by decide) (fun cqe => ?_) (fun cqe => ?_)
  · exact hC h2 hR2
  · exact absurd rfl cqe
set_option maxRecDepth 20000 in
set_option maxHeartbeats 4000000 in
theorem law_39 (w : Wt) {k : Nat} (hk : 830 ≤ k) (hL : w_L w ≤ 3072) (i : Nat) (hi : i + 6 ≤ w_L w) (h : Mm) (hR : Rel h) (Q : Option Value → Mm → Prop) (hC : ∀ h', Rel h' → Wp w k ML_law Q 1532 [some (.ref 1001), some (.ref 0), some (.ref 96), some (.int (nI i))] [] h') : Wp w k ML_law Q 1483 [some (.ref 1001), some (.ref 0), some (.ref 96), some (.int (nI i))] [] h := by
  refine p_run (pc' := 1484) [.aload_n 1] mkL_law (by decide +kernel) rfl rfl ?_
  refine p_callV (st_keep w (k := k - 1) (by omega)  h hR).ok kvL_175 (by decide +kernel) (by decide) rfl (by omega) rfl rfl rfl rfl rfl (fun r h' hq => ?_)
  obtain ⟨v, rfl, hO⟩ := hq
  rename Mm => h1
  refine p_run (pc' := 1488) [.aload_n 2] mkL_law (by decide +kernel) rfl rfl ?_
  refine p_callV hO kvL_178 (by decide +kernel) (by decide) rfl (by omega) rfl rfl rfl rfl rfl (fun r h' hq => ?_)
  obtain ⟨rfl, hR2⟩ := hq
  rename Mm => h2
  refine p_icmp_eq (off := 41) 1532 (by decide +kernel) (by decide) (fun cqe => ?_) (fun cqe => ?_)
  · exact hC h2 hR2
  · exact absurd rfl cqe
set_option maxRecDepth 20000 in
set_option maxHeartbeats 4000000 in
theorem law_40 (w : Wt) {k : Nat} (hk : 830 ≤ k) (hL : w_L w ≤ 3072) (i : Nat) (hi : i + 6 ≤ w_L w) (h : Mm) (hR : Rel h) (Q : Option Value → Mm → Prop) (hC : ∀ h', Rel h' → Wp w k ML_law Q 1532 [some (.ref 1001), some (.ref 0), some (.ref 96), some (.int (nI i))] [] h') : Wp w k ML_law Q 1496 [some (.ref 1001), some (.ref 0), some (.ref 96), some (.int (nI i))] [] h := by
  refine p_run (pc' := 1497) [.aload_n 1] mkL_law (by decide +kernel) rfl rfl ?_
  refine p_callV (st_back w (k := k - 1) (by omega)  h hR).ok kvL_179 (by decide +kernel) (by decide) rfl (by omega) rfl rfl rfl rfl rfl (fun r h' hq => ?_)
  obtain ⟨v, rfl, hO⟩ := hq
  rename Mm => h1
  refine p_run (pc' := 1501) [.aload_n 2] mkL_law (by decide +kernel) rfl rfl ?_
  refine p_callV hO kvL_182 (by decide +kernel) (by decide) rfl (by omega) rfl rfl rfl rfl rfl (fun r h' hq => ?_)
  obtain ⟨rfl, hR2⟩ := hq
  rename Mm => h2
  refine p_icmp_eq (off := 28) 1532 (by decide +kernel) (by decide) (fun cqe => ?_) (fun cqe => ?_)
  · exact hC h2 hR2
  · exact absurd rfl cqe
set_option maxRecDepth 20000 in
set_option maxHeartbeats 4000000 in
theorem law_41 (w : Wt) {k : Nat} (hk : 830 ≤ k) (hL : w_L w ≤ 3072) (i : Nat) (hi : i + 6 ≤ w_L w) (h : Mm) (hR : Rel h) (Q : Option Value → Mm → Prop) (hC : ∀ h', Rel h' → Wp w k ML_law Q 1532 [some (.ref 1001), some (.ref 0), some (.ref 96), some (.int (nI i))] [] h') : Wp w k ML_law Q 1509 [some (.ref 1001), some (.ref 0), some (.ref 96), some (.int (nI i))] [] h := by
  refine p_run (pc' := 1514) [.aload_n 1, .aload_n 0, .iload_n 3, .iconst 1, .iadd] mkL_law (by decide +kernel) rfl rfl ?_
  rw [show nI i + Int32.ofInt 1 = nI (i + 1) from nI_add _ _]
  refine p_sald (i + 1) (by decide +kernel) rfl (by omega) hL ?_
  refine p_callV (st_count w (k := k - 1) (by omega) (w_x w (i + 1)) h hR).ok kvL_183 (by decide +kernel) (by decide) rfl (by omega) rfl rfl rfl rfl rfl (fun r h' hq => ?_)
  obtain ⟨v, rfl, hO⟩ := hq
  rename Mm => h1
  refine p_run (pc' := 1523) [.aload_n 2, .aload_n 0, .iload_n 3, .iconst 1, .iadd] mkL_law (by decide +kernel) rfl rfl ?_
  rw [show nI i + Int32.ofInt 1 = nI (i + 1) from nI_add _ _]
  refine p_sald (i + 1) (by decide +kernel) rfl (by omega) hL ?_
  refine p_callV hO kvL_186 (by decide +kernel) (by decide) rfl (by omega) rfl rfl rfl rfl rfl (fun r h' hq => ?_)
  obtain ⟨rfl, hR2⟩ := hq
  rename Mm => h2
  refine p_icmp_eq (off := 5) 1532 (by decide +kernel) (by decide) (fun cqe => ?_) (fun cqe => ?_)
  · exact hC h2 hR2
  · exact absurd rfl cqe
set_option maxRecDepth 20000 in
set_option maxHeartbeats 4000000 in
theorem law_loop (w : Wt) {k : Nat} (hk : 830 ≤ k) (hL : w_L w ≤ 3072) (Q : Option Value → Mm → Prop) (hQ : ∀ h, Rel h → Q (some (.int (Int32.ofInt 1))) h) : ∀ (m i : Nat), w_L w < i + 6 * m + 6 → i ≤ 4000 → ∀ h, Rel h → Wp w k ML_law Q 18 [some (.ref 1001), some (.ref 0), some (.ref 96), some (.int (nI i))] [] h := by
  intro m
  induction m with
  | zero =>
    intro i hm hi2 h hR
    refine p_run (pc' := 20) [.iload_n 3, .aload_n 0] mkL_law (by decide +kernel) rfl rfl ?_
    refine p_slen (by decide +kernel) ?_
    refine p_run (pc' := 24) [.bipush 6, .isub] mkL_law (by decide +kernel) rfl rfl ?_
    have e6 : nI (w_L w) - Int32.ofInt 6 < nI i ↔ ¬ i + 6 ≤ w_L w := by rw [show Int32.ofInt 6 = nI 6 from rfl, Int32.lt_iff_toInt_lt, Int32.toInt_sub, nI_toInt (by omega), nI_toInt (by omega), nI_toInt (by omega), Int.bmod]; split <;> omega
    refine p_icmp_gt (off := 1514) 1538 (by decide +kernel) (by decide) (fun cqh => ?_) (fun cqh => ?_)
    · refine p_run (pc' := 1539) [.iconst 1] mkL_law (by decide +kernel) rfl rfl ?_
      refine p_iret rfl rfl (by decide +kernel) ?_
      exact hQ h hR
    · have hi6 : i + 6 ≤ w_L w := Classical.byContradiction (fun q => cqh (e6.mpr q))
      omega
  | succ m ih =>
    intro i hm hi2 h hR
    refine p_run (pc' := 20) [.iload_n 3, .aload_n 0] mkL_law (by decide +kernel) rfl rfl ?_
    refine p_slen (by decide +kernel) ?_
    refine p_run (pc' := 24) [.bipush 6, .isub] mkL_law (by decide +kernel) rfl rfl ?_
    have e6 : nI (w_L w) - Int32.ofInt 6 < nI i ↔ ¬ i + 6 ≤ w_L w := by rw [show Int32.ofInt 6 = nI 6 from rfl, Int32.lt_iff_toInt_lt, Int32.toInt_sub, nI_toInt (by omega), nI_toInt (by omega), nI_toInt (by omega), Int.bmod]; split <;> omega
    refine p_icmp_gt (off := 1514) 1538 (by decide +kernel) (by decide) (fun cqh => ?_) (fun cqh => ?_)
    · refine p_run (pc' := 1539) [.iconst 1] mkL_law (by decide +kernel) rfl rfl ?_
      refine p_iret rfl rfl (by decide +kernel) ?_
      exact hQ h hR
    · have hi6 : i + 6 ≤ w_L w := Classical.byContradiction (fun q => cqh (e6.mpr q))
      refine p_run (pc' := 29) [.aload_n 0, .iload_n 3] mkL_law (by decide +kernel) rfl rfl ?_
      refine p_sald i (by decide +kernel) rfl (by omega) hL ?_
      refine p_run (pc' := 33) [.bipush 63, .iand] mkL_law (by decide +kernel) rfl rfl ?_
      have hx := x63 (w_x w i)
      rw [show w_x w i &&& Int32.ofInt 63 = nI (nN (w_x w i &&& nI 63)) from hx.1]
      have hx2 := hx.2
      generalize nN (w_x w i &&& nI 63) = u at *
      have hC : ∀ h', Rel h' → Wp w k ML_law Q 1532 [some (.ref 1001), some (.ref 0), some (.ref 96), some (.int (nI i))] [] h' := fun h' hR' => by
        refine p_run (pc' := 18) [.iinc 3 6, .goto (-1517)] mkL_law (by decide +kernel) rfl rfl ?_
        rw [show nI i + Int32.ofInt 6 = nI (i + 6) from nI_add _ _]
        exact ih (i + 6) (by omega) (by omega) h' hR'
      refine p_table (dflt := 1499) (lo := 0) (hi := 41) (offs := #[183, 236, 269, 302, 335, 378, 411, 454, 487, 520, 543, 566, 589, 612, 645, 678, 701, 734, 777, 820, 863, 896, 909, 932, 975, 998, 1011, 1044, 1067, 1110, 1153, 1176, 1199, 1262, 1305, 1338, 1371, 1404, 1427, 1450, 1463, 1476]) (len := 183) (by decide +kernel) (by decide) (fun j hj hx => ?_) (fun hx => ?_)
      · match j, hj, hx with
        | 0, _, hx =>
          have hx : nI u = Int32.ofInt (0) := hx
          refine ⟨183, 216, rfl, rfl, ?_⟩
          exact law_0 w hk hL i hi6 h hR Q hC
        | 1, _, hx =>
          have hx : nI u = Int32.ofInt (1) := hx
          refine ⟨236, 269, rfl, rfl, ?_⟩
          exact law_1 w hk hL i hi6 h hR Q hC
        | 2, _, hx =>
          have hx : nI u = Int32.ofInt (2) := hx
          refine ⟨269, 302, rfl, rfl, ?_⟩
          exact law_2 w hk hL i hi6 h hR Q hC
        | 3, _, hx =>
          have hx : nI u = Int32.ofInt (3) := hx
          refine ⟨302, 335, rfl, rfl, ?_⟩
          exact law_3 w hk hL i hi6 h hR Q hC
        | 4, _, hx =>
          have hx : nI u = Int32.ofInt (4) := hx
          refine ⟨335, 368, rfl, rfl, ?_⟩
          exact law_4 w hk hL i hi6 h hR Q hC
        | 5, _, hx =>
          have hx : nI u = Int32.ofInt (5) := hx
          refine ⟨378, 411, rfl, rfl, ?_⟩
          exact law_5 w hk hL i hi6 h hR Q hC
        | 6, _, hx =>
          have hx : nI u = Int32.ofInt (6) := hx
          refine ⟨411, 444, rfl, rfl, ?_⟩
          exact law_6 w hk hL i hi6 h hR Q hC
        | 7, _, hx =>
          have hx : nI u = Int32.ofInt (7) := hx
          refine ⟨454, 487, rfl, rfl, ?_⟩
          exact law_7 w hk hL i hi6 h hR Q hC
        | 8, _, hx =>
          have hx : nI u = Int32.ofInt (8) := hx
          refine ⟨487, 520, rfl, rfl, ?_⟩
          exact law_8 w hk hL i hi6 h hR Q hC
        | 9, _, hx =>
          have hx : nI u = Int32.ofInt (9) := hx
          refine ⟨520, 553, rfl, rfl, ?_⟩
          exact law_9 w hk hL i hi6 h hR Q hC
        | 10, _, hx =>
          have hx : nI u = Int32.ofInt (10) := hx
          refine ⟨543, 576, rfl, rfl, ?_⟩
          exact law_10 w hk hL i hi6 h hR Q hC
        | 11, _, hx =>
          have hx : nI u = Int32.ofInt (11) := hx
          refine ⟨566, 599, rfl, rfl, ?_⟩
          exact law_11 w hk hL i hi6 h hR Q hC
        | 12, _, hx =>
          have hx : nI u = Int32.ofInt (12) := hx
          refine ⟨589, 622, rfl, rfl, ?_⟩
          exact law_12 w hk hL i hi6 h hR Q hC
        | 13, _, hx =>
          have hx : nI u = Int32.ofInt (13) := hx
          refine ⟨612, 645, rfl, rfl, ?_⟩
          exact law_13 w hk hL i hi6 h hR Q hC
        | 14, _, hx =>
          have hx : nI u = Int32.ofInt (14) := hx
          refine ⟨645, 678, rfl, rfl, ?_⟩
          exact law_14 w hk hL i hi6 h hR Q hC
        | 15, _, hx =>
          have hx : nI u = Int32.ofInt (15) := hx
          refine ⟨678, 711, rfl, rfl, ?_⟩
          exact law_15 w hk hL i hi6 h hR Q hC
        | 16, _, hx =>
          have hx : nI u = Int32.ofInt (16) := hx
          refine ⟨701, 734, rfl, rfl, ?_⟩
          exact law_16 w hk hL i hi6 h hR Q hC
        | 17, _, hx =>
          have hx : nI u = Int32.ofInt (17) := hx
          refine ⟨734, 767, rfl, rfl, ?_⟩
          exact law_17 w hk hL i hi6 h hR Q hC
        | 18, _, hx =>
          have hx : nI u = Int32.ofInt (18) := hx
          refine ⟨777, 810, rfl, rfl, ?_⟩
          exact law_18 w hk hL i hi6 h hR Q hC
        | 19, _, hx =>
          have hx : nI u = Int32.ofInt (19) := hx
          refine ⟨820, 853, rfl, rfl, ?_⟩
          exact law_19 w hk hL i hi6 h hR Q hC
        | 20, _, hx =>
          have hx : nI u = Int32.ofInt (20) := hx
          refine ⟨863, 896, rfl, rfl, ?_⟩
          exact law_20 w hk hL i hi6 h hR Q hC
        | 21, _, hx =>
          have hx : nI u = Int32.ofInt (21) := hx
          refine ⟨896, 929, rfl, rfl, ?_⟩
          exact law_21 w hk hL i hi6 h hR Q hC
        | 22, _, hx =>
          have hx : nI u = Int32.ofInt (22) := hx
          refine ⟨909, 942, rfl, rfl, ?_⟩
          exact law_22 w hk hL i hi6 h hR Q hC
        | 23, _, hx =>
          have hx : nI u = Int32.ofInt (23) := hx
          refine ⟨932, 965, rfl, rfl, ?_⟩
          exact law_23 w hk hL i hi6 h hR Q hC
        | 24, _, hx =>
          have hx : nI u = Int32.ofInt (24) := hx
          refine ⟨975, 1008, rfl, rfl, ?_⟩
          exact law_24 w hk hL i hi6 h hR Q hC
        | 25, _, hx =>
          have hx : nI u = Int32.ofInt (25) := hx
          refine ⟨998, 1031, rfl, rfl, ?_⟩
          exact law_25 w hk hL i hi6 h hR Q hC
        | 26, _, hx =>
          have hx : nI u = Int32.ofInt (26) := hx
          refine ⟨1011, 1044, rfl, rfl, ?_⟩
          exact law_26 w hk hL i hi6 h hR Q hC
        | 27, _, hx =>
          have hx : nI u = Int32.ofInt (27) := hx
          refine ⟨1044, 1077, rfl, rfl, ?_⟩
          exact law_27 w hk hL i hi6 h hR Q hC
        | 28, _, hx =>
          have hx : nI u = Int32.ofInt (28) := hx
          refine ⟨1067, 1100, rfl, rfl, ?_⟩
          exact law_28 w hk hL i hi6 h hR Q hC
        | 29, _, hx =>
          have hx : nI u = Int32.ofInt (29) := hx
          refine ⟨1110, 1143, rfl, rfl, ?_⟩
          exact law_29 w hk hL i hi6 h hR Q hC
        | 30, _, hx =>
          have hx : nI u = Int32.ofInt (30) := hx
          refine ⟨1153, 1186, rfl, rfl, ?_⟩
          exact law_30 w hk hL i hi6 h hR Q hC
        | 31, _, hx =>
          have hx : nI u = Int32.ofInt (31) := hx
          refine ⟨1176, 1209, rfl, rfl, ?_⟩
          exact law_31 w hk hL i hi6 h hR Q hC
        | 32, _, hx =>
          have hx : nI u = Int32.ofInt (32) := hx
          refine ⟨1199, 1232, rfl, rfl, ?_⟩
          exact law_32 w hk hL i hi6 h hR Q hC
        | 33, _, hx =>
          have hx : nI u = Int32.ofInt (33) := hx
          refine ⟨1262, 1295, rfl, rfl, ?_⟩
          exact law_33 w hk hL i hi6 h hR Q hC
        | 34, _, hx =>
          have hx : nI u = Int32.ofInt (34) := hx
          refine ⟨1305, 1338, rfl, rfl, ?_⟩
          exact law_34 w hk hL i hi6 h hR Q hC
        | 35, _, hx =>
          have hx : nI u = Int32.ofInt (35) := hx
          refine ⟨1338, 1371, rfl, rfl, ?_⟩
          exact law_35 w hk hL i hi6 h hR Q hC
        | 36, _, hx =>
          have hx : nI u = Int32.ofInt (36) := hx
          refine ⟨1371, 1404, rfl, rfl, ?_⟩
          exact law_36 w hk hL i hi6 h hR Q hC
        | 37, _, hx =>
          have hx : nI u = Int32.ofInt (37) := hx
          refine ⟨1404, 1437, rfl, rfl, ?_⟩
          exact law_37 w hk hL i hi6 h hR Q hC
        | 38, _, hx =>
          have hx : nI u = Int32.ofInt (38) := hx
          refine ⟨1427, 1460, rfl, rfl, ?_⟩
          exact law_38 w hk hL i hi6 h hR Q hC
        | 39, _, hx =>
          have hx : nI u = Int32.ofInt (39) := hx
          refine ⟨1450, 1483, rfl, rfl, ?_⟩
          exact law_39 w hk hL i hi6 h hR Q hC
        | 40, _, hx =>
          have hx : nI u = Int32.ofInt (40) := hx
          refine ⟨1463, 1496, rfl, rfl, ?_⟩
          exact law_40 w hk hL i hi6 h hR Q hC
        | 41, _, hx =>
          have hx : nI u = Int32.ofInt (41) := hx
          refine ⟨1476, 1509, rfl, rfl, ?_⟩
          exact law_41 w hk hL i hi6 h hR Q hC
        | j + 42, hj, _ => exact absurd hj (by simp)
      · refine ⟨1532, rfl, ?_⟩
        exact hC h hR
