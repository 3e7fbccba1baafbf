/-! feed, trim, tell, keep, back, check -/
theorem RN.of {h h' : Mm} (hR : RN h) (e97 : h' 97 = h 97) (e : ∀ a, 11 ≤ a → a ≤ 28 → h' a = h a) (e5 : ∀ a, 2 ≤ a → a ≤ 5 → h' a = h a) : RN h' := by
  obtain ⟨a, b, c, d, f⟩ := hR
  unfold RN
  rw [e97]
  exact ⟨a.of (fun a h1 h2 => e a h1 (by omega)) b.nd.2, b, c, d.of e5 (fun _ _ => rfl) rfl, f⟩
theorem Rel.rt {h h2 : Mm} (hR : Rel h) (z : ∀ a, (a < 6 ∨ 10 < a) ∧ a ≠ 96 ∧ ¬ (101 ≤ a ∧ a ≤ 108) → h2 a = h a) (e3 : h2 96 3 = h 96 3) (e32 : h2 96 32 = h 96 32) (hT : RT h2) : Rel h2 := by
  obtain ⟨r1, r2, r3, r4, r5, r6⟩ := hR
  have e97 := z 97 (by omega)
  have e0 := z 0 (by omega)
  exact ⟨r1.of e97 (fun a h1 h2 => z a (by omega)) (fun a h1 h2 => z a (by omega)), r2.of (by rw [e0]) e3 (z 98 (by omega)) (fun a h1 h2 => z a (by omega)) (fun a h1 h2 => z a (by omega)) (by rw [e97]; exact Nat.le_refl _), hT, r4.of (fun a h1 h2 => z a (by omega)) (z 109 (by omega)) (z 110 (by omega)) (z 111 (by omega)), r5.of (fun a h1 h2 => z a (by omega)) (z 112 (by omega)) (z 113 (by omega)) (z 114 (by omega)) (z 115 (by omega)), r6.of (by rw [e0]) e32 (z 95 (by omega)) (z 117 (by omega))⟩
theorem Rel.rs {h h2 : Mm} (hR : Rel h) (z : ∀ a, ¬ (66 ≤ a ∧ a ≤ 73) ∧ a ≠ 109 ∧ a ≠ 110 ∧ a ≠ 111 ∧ a ≠ 116 → h2 a = h a) (hS : RS h2) : Rel h2 := by
  obtain ⟨r1, r2, r3, r4, r5, r6⟩ := hR
  have e97 := z 97 (by omega)
  have e0 := z 0 (by omega)
  have e96 := z 96 (by omega)
  exact ⟨r1.of e97 (fun a h1 h2 => z a (by omega)) (fun a h1 h2 => z a (by omega)), r2.of (by rw [e0]) (by rw [e96]) (z 98 (by omega)) (fun a h1 h2 => z a (by omega)) (fun a h1 h2 => z a (by omega)) (by rw [e97]; exact Nat.le_refl _), r3.of (by rw [z 8 (by omega)]) (by rw [e96]) (z 9 (by omega)) (z 101 (by omega)) (z 102 (by omega)) (z 103 (by omega)), hS, r5.of (fun a h1 h2 => z a (by omega)) (z 112 (by omega)) (z 113 (by omega)) (z 114 (by omega)) (z 115 (by omega)), r6.of (by rw [e0]) (by rw [e96]) (z 95 (by omega)) (z 117 (by omega))⟩
theorem Rel.rl {h h2 : Mm} (hR : Rel h) (z : ∀ a, ¬ (75 ≤ a ∧ a ≤ 94) ∧ ¬ (112 ≤ a ∧ a ≤ 115) → h2 a = h a) (hS : RSl h2) : Rel h2 := by
  obtain ⟨r1, r2, r3, r4, r5, r6⟩ := hR
  have e97 := z 97 (by omega)
  have e0 := z 0 (by omega)
  have e96 := z 96 (by omega)
  exact ⟨r1.of e97 (fun a h1 h2 => z a (by omega)) (fun a h1 h2 => z a (by omega)), r2.of (by rw [e0]) (by rw [e96]) (z 98 (by omega)) (fun a h1 h2 => z a (by omega)) (fun a h1 h2 => z a (by omega)) (by rw [e97]; exact Nat.le_refl _), r3.of (by rw [z 8 (by omega)]) (by rw [e96]) (z 9 (by omega)) (z 101 (by omega)) (z 102 (by omega)) (z 103 (by omega)), r4.of (fun a h1 h2 => z a (by omega)) (z 109 (by omega)) (z 110 (by omega)) (z 111 (by omega)), hS, r6.of (by rw [e0]) (by rw [e96]) (z 95 (by omega)) (z 117 (by omega))⟩
theorem Rel.rw {h h2 : Mm} (hR : Rel h) (z : ∀ a, a ≠ 0 ∧ a ≠ 95 ∧ a ≠ 96 ∧ a ≠ 117 ∧ a ≠ 99 ∧ a ≠ 107 ∧ a ≠ 108 ∧ a ≠ 6 ∧ a ≠ 7 ∧ ¬ (47 ≤ a ∧ a ≤ 64) → h2 a = h a) (e9 : h2 0 9 = h 0 9) (e3 : h2 96 3 = h 96 3) (e6 : h2 96 6 = h 96 6) (hW : RW h2) : Rel h2 := by
  obtain ⟨r1, r2, r3, r4, r5, r6⟩ := hR
  have e97 := z 97 (by omega)
  exact ⟨r1.of e97 (fun a h1 h2 => z a (by omega)) (fun a h1 h2 => z a (by omega)), r2.of e9 e3 (z 98 (by omega)) (fun a h1 h2 => z a (by omega)) (fun a h1 h2 => z a (by omega)) (by rw [e97]; exact Nat.le_refl _), r3.of (by rw [z 8 (by omega)]) e6 (z 9 (by omega)) (z 101 (by omega)) (z 102 (by omega)) (z 103 (by omega)), r4.of (fun a h1 h2 => z a (by omega)) (z 109 (by omega)) (z 110 (by omega)) (z 111 (by omega)), r5.of (fun a h1 h2 => z a (by omega)) (z 112 (by omega)) (z 113 (by omega)) (z 114 (by omega)) (z 115 (by omega)), hW⟩
/-- bytes -/
def shF (i : Nat) : Int32 := Int32.ofInt (24 - 8 * (i : Int))
theorem shF_f : ∀ i, i < 4 → ¬ shF i < 0 ∧ shF i + Int32.ofInt (-8) = shF (i + 1) := by decide
def bcF (v : Int32) (i : Nat) : Int32 := (v.toUInt32 >>> (Int32.toUInt32 (shF i) &&& Int32.toUInt32 31)).toInt32 &&& Int32.ofInt 255
theorem m255 : ∀ j, j < 32 → 8 ≤ j → (255#32).getLsbD j = false := by decide
theorem shs (x : BitVec 32) {k : Nat} (hk : k ≤ 24) : (x >>> k) &&& 255#32 = (x.sshiftRight k) &&& 255#32 := by
  apply BitVec.eq_of_getLsbD_eq
  intro j hj
  rw [BitVec.getLsbD_and, BitVec.getLsbD_and]
  by_cases h8 : j < 8
  · rw [BitVec.getLsbD_ushiftRight, BitVec.getLsbD_sshiftRight, if_pos (by omega), decide_eq_false (by omega)]
    rfl
  · rw [m255 j hj (by omega), Bool.and_false, Bool.and_false]
theorem bc_by (v : Int32) : ∀ i, i < 4 → bcF v i = (v >>> (nI (24 - 8 * i) &&& 31)) &&& nI 255 := by
  intro i hi
  match i, hi with
  | 0, _ => exact Int32.toBitVec_inj.mp (shs v.toBitVec (k := 24) (by omega))
  | 1, _ => exact Int32.toBitVec_inj.mp (shs v.toBitVec (k := 16) (by omega))
  | 2, _ => exact Int32.toBitVec_inj.mp (shs v.toBitVec (k := 8) (by omega))
  | 3, _ => exact Int32.toBitVec_inj.mp (shs v.toBitVec (k := 0) (by omega))
theorem and255 (x : Int32) : In (x &&& nI 255) 255 := by
  obtain ⟨m, rfl⟩ : ∃ m, x = nI m := ⟨x.toBitVec.toNat, Int32.toBitVec_inj.mp (by show x.toBitVec = BitVec.ofNat 32 x.toBitVec.toNat; simp)⟩
  rw [and_nI]
  exact In_nI Nat.and_le_right (by omega)
theorem byF_in (a b c : Int32) (i : Nat) : In (byF a b c i) 255 := and255 _
theorem feed_eq {f g : Vc} {t k : Nat} {a b c : Int32} (e : f k = g k) : spl (spl (spl f t 4 (bcF a)) (t + 4) 4 (bcF b)) (t + 4 + 4) 4 (bcF c) k = spl g t 12 (byF a b c) k := by
  unfold spl
  by_cases h1 : t + 4 + 4 ≤ k ∧ k < t + 4 + 4 + 4
  · rw [if_pos h1, if_pos (by omega), bc_by c _ (by omega)]
    unfold byF
    rw [if_neg (by omega), if_neg (by omega), show (k - t) % 4 = k - (t + 4 + 4) by omega]
  · rw [if_neg h1]
    by_cases h2 : t + 4 ≤ k ∧ k < t + 4 + 4
    · rw [if_pos h2, if_pos (by omega), bc_by b _ (by omega)]
      unfold byF
      rw [if_neg (by omega), if_pos (by omega), show (k - t) % 4 = k - (t + 4) by omega]
    · rw [if_neg h2]
      by_cases h3 : t ≤ k ∧ k < t + 4
      · rw [if_pos h3, if_pos (by omega), bc_by a _ (by omega)]
        unfold byF
        rw [if_pos (by omega), show (k - t) % 4 = k - t by omega]
      · rw [if_neg h3, if_neg (by omega), e]
set_option maxRecDepth 20000 in
set_option maxHeartbeats 4000000 in
theorem c_addB (w : Wt) {k : Nat} (t : Nat) (ht : t + 4 ≤ 96) (v : Int32) (h : Mm) (e : h 8 1 = nI t) : Ok w k MX3_addBytes [.ref 8, .int v] h (fun r h' => r = none ∧ h' 9 = spl (h 9) t 4 (bcF v) ∧ h' 8 1 = nI (t + 4) ∧ (∀ j, j ≠ 1 → h' 8 j = h 8 j) ∧ ∀ a, a ≠ 8 → a ≠ 9 → h' a = h a) := by
  show Wp w k MX3_addBytes _ 0 [some (.ref 8), some (.int v), none] [] h
  refine p_run (pc' := 3) [.bipush 24, .istore_n 2] mkX3_addBytes (by decide +kernel) rfl rfl ?_
  refine Wp.for (4) (fun i L hh => L = [some (.ref 8), some (.int v), some (.int (shF i))] ∧ (hh 9 = spl (h 9) t i (bcF v) ∧ hh 8 1 = nI (t + i) ∧ (∀ j, j ≠ 1 → hh 8 j = h 8 j) ∧ ∀ a, a ≠ 8 → a ≠ 9 → hh a = h a)) ?_ ?_ (0) (by omega) _ _ ?_
  · rintro i L hh hi ⟨rfl, hJ⟩ ih
    obtain ⟨e9, e8, f8, fa⟩ := hJ
    refine p_run (pc' := 4) [.iload_n 2] mkX3_addBytes (by decide +kernel) rfl rfl ?_
    refine p_if_lt (off := 44) 48 (by decide +kernel) (by decide) (fun cq1 => ?_) (fun cq1 => ?_)
    · exact absurd cq1 (shF_f i hi).1
    · refine p_run (pc' := 13) [.aload_n 0, .getfield 18, .bipush 96] mkX3_addBytes (by decide +kernel) rfl rfl ?_
      rw [e8]
      refine p_icmp_ge (off := 35) 48 (by decide +kernel) (by decide) (fun cq2 => ?_) (fun cq2 => ?_)
      · exact absurd (show nI 96 ≤ nI (t + i) from cq2) (nI_ge (by omega) (by omega))
      · refine p_run (pc' := 31) [.aload_n 0, .getfield 9, .aload_n 0, .getfield 18, .iload_n 1, .iload_n 2, .iushr, .sipush 255, .iand] mkX3_addBytes (by decide +kernel) rfl rfl ?_
        rw [e8]
        refine p_iast (t + i) (by decide +kernel) rfl rfl rfl (by omega)  ?_
        refine p_run (pc' := 3) [.aload_n 0, .dup, .getfield 18, .iconst 1, .iadd, .putfield 18, .iinc 2 (-8), .goto (-42)] mkX3_addBytes (by decide +kernel) rfl rfl ?_
        exact ih _ _ ⟨by rw [(shF_f i hi).2], by rw [upN (by decide), upS, e9]; exact splS, by rw [upS, upd_s, upN (by decide), e8]; exact nI_add _ _, fun j hj => by rw [upS, upd_n hj, upN (by decide)]; exact f8 j hj, fun a h8 h9 => by rw [upN h8, upN h9]; exact fa a h8 h9⟩
  · rintro L hh ⟨rfl, hJ⟩
    obtain ⟨e9, e8, f8, fa⟩ := hJ
    refine p_run (pc' := 4) [.iload_n 2] mkX3_addBytes (by decide +kernel) rfl rfl ?_
    refine p_if_lt (off := 44) 48 (by decide +kernel) (by decide) (fun cq1 => ?_) (fun cq1 => ?_)
    · refine p_vret rfl (by decide +kernel) ?_
      exact ⟨rfl, e9, e8, f8, fa⟩
    · exact False.elim (cq1 (by decide))
  · exact ⟨rfl, spl0.symm, e, fun _ _ => rfl, fun _ _ _ => rfl⟩
set_option maxRecDepth 20000 in
set_option maxHeartbeats 4000000 in
theorem c_feed_full (w : Wt) {k : Nat} (hk : 200 ≤ k) (t : Nat) (ht : ¬ t + 12 ≤ 96) (ht2 : t ≤ 96) (a b c : Int32) (h : Mm) (e : h 8 1 = nI t) : Ok w k MX7_feed [.ref 0, .int a, .int b, .int c] h (Rv FULLv h) := by
  show Wp w k MX7_feed _ 0 [some (.ref 0), some (.int a), some (.int b), some (.int c)] [] h
  refine p_run (pc' := 12) [.aload_n 0, .getfield 19, .getfield 228, .bipush 12, .iadd, .bipush 96] mkX7_feed (by decide +kernel) rfl rfl ?_
  rw [e]
  refine p_icmp_le (off := 6) 18 (by decide +kernel) (by decide) (fun cq1 => ?_) (fun cq1 => ?_)
  · exact absurd (show nI (t + 12) ≤ nI 96 from by rw [← nI_add]; exact cq1) (fun q => by rw [nI_leI (by omega) (by omega)] at q; omega)
  · refine p_run (pc' := 17) [.ldc 83] mkX7_feed (by decide +kernel) rfl rfl ?_
    refine p_iret rfl rfl (by decide +kernel) ?_
    exact ⟨rfl, rfl⟩
set_option maxRecDepth 20000 in
set_option maxHeartbeats 4000000 in
theorem c_feed (w : Wt) {k : Nat} (hk : 200 ≤ k) (t : Nat) (ht : t + 12 ≤ 96) (a b c : Int32) (h : Mm) (e : h 8 1 = nI t) : Ok w k MX7_feed [.ref 0, .int a, .int b, .int c] h (fun r h' => r = some (.int (nI (t + 12))) ∧ h' 9 = spl (spl (spl (h 9) t 4 (bcF a)) (t + 4) 4 (bcF b)) (t + 4 + 4) 4 (bcF c) ∧ h' 8 1 = nI (t + 12) ∧ ∀ a, a ≠ 8 → a ≠ 9 → h' a = h a) := by
  show Wp w k MX7_feed _ 0 [some (.ref 0), some (.int a), some (.int b), some (.int c)] [] h
  refine p_run (pc' := 12) [.aload_n 0, .getfield 19, .getfield 228, .bipush 12, .iadd, .bipush 96] mkX7_feed (by decide +kernel) rfl rfl ?_
  rw [e]
  refine p_icmp_le (off := 6) 18 (by decide +kernel) (by decide) (fun cq1 => ?_) (fun cq1 => ?_)
  · refine p_run (pc' := 23) [.aload_n 0, .getfield 19, .iload_n 1] mkX7_feed (by decide +kernel) rfl rfl ?_
    refine p_callVo (c_addB w (k := k - 1) t (by omega) a h e) (fun _ _ q => q.1) kvX7_231 (by decide +kernel) (by decide) rfl (by omega) rfl rfl rfl rfl rfl (fun h' hq => ?_)
    obtain ⟨-, a9, a8, af, aa⟩ := hq
    rename Mm => h1
    refine p_run (pc' := 31) [.aload_n 0, .getfield 19, .iload_n 2] mkX7_feed (by decide +kernel) rfl rfl ?_
    refine p_callVo (c_addB w (k := k - 1) (t + 4) (by omega) b h1 a8) (fun _ _ q => q.1) kvX7_231 (by decide +kernel) (by decide) rfl (by omega) rfl rfl rfl rfl rfl (fun h' hq => ?_)
    obtain ⟨-, b9, b8, bf, ba⟩ := hq
    rename Mm => h2
    refine p_run (pc' := 39) [.aload_n 0, .getfield 19, .iload_n 3] mkX7_feed (by decide +kernel) rfl rfl ?_
    refine p_callVo (c_addB w (k := k - 1) (t + 4 + 4) (by omega) c h2 b8) (fun _ _ q => q.1) kvX7_231 (by decide +kernel) (by decide) rfl (by omega) rfl rfl rfl rfl rfl (fun h' hq => ?_)
    obtain ⟨-, c9, c8, cf, ca⟩ := hq
    rename Mm => h3
    refine p_run (pc' := 49) [.aload_n 0, .getfield 19, .getfield 228] mkX7_feed (by decide +kernel) rfl rfl ?_
    refine p_iret rfl rfl (by decide +kernel) ?_
    exact ⟨by rw [c8], by rw [c9, b9, a9], by rw [c8], fun a h8 h9 => by rw [ca a h8 h9, ba a h8 h9, aa a h8 h9]⟩
  · exact absurd (show nI t + nI 12 ≤ nI 96 from by rw [nI_add]; exact nI_le (by omega) (by omega)) cq1
theorem st_feed (w : Wt) {k : Nat} (hk : 200 ≤ k) (a b c : Int32) (h : Mm) (hR : Rel h) : St w k MX7_feed MX8_feed [.int a, .int b, .int c] h := by
  obtain ⟨⟨hP, hI, hQ, hT, hq⟩, -⟩ := id hR
  obtain ⟨t1, t2, t3, t4⟩ := hR.2.2.1
  have e6 := t2.1
  have hb := t2.2
  by_cases ht : nN (h 96 6) + 12 ≤ 96
  · refine St.mk (c_feed w hk (nN (h 96 6)) ht a b c h (t1.trans e6)) (fun r h1 q => ?_)
    obtain ⟨q1, q2, q3, q4⟩ := q
    refine ⟨_, q1, (r_feed w (nN (h 96 6)) ht a b c h1 (by rw [q4 96 (by omega) (by omega)]; exact e6)).imp (fun r2 h2 z => ⟨z.1, ?_⟩)⟩
    rw [z.2]
    refine hR.rt (fun a ha => by rw [upN (by omega), wrN (by omega)]; exact q4 a (by omega) (by omega)) (by rw [upS, upd_n (by decide), wrN (by decide), q4 96 (by omega) (by omega)]) (by rw [upS, upd_n (by decide), wrN (by decide), q4 96 (by omega) (by omega)]) ⟨?_, ?_, ?_, ?_⟩
    · rw [upN (by decide), wrN (by decide), upS, upd_s, q3]
    · rw [upS, upd_s]; exact In_nI (by omega) (by omega)
    · intro k hk2
      rw [upN (by decide), wrN (by decide), upN (by decide), wrS, q2, q4 101 (by omega) (by omega), feed_eq (g := h 101) (t3 k hk2).1]
      refine ⟨rfl, ?_⟩
      unfold spl
      split
      · exact byF_in _ _ _ _
      · exact (t3 k hk2).2
    · unfold KR
      rw [upN (by decide), wrN (by decide), upN (by decide), wrN (by decide), q4 102 (by omega) (by omega), q4 103 (by omega) (by omega)]
      exact t4
  · exact St.word hR (c_feed_full w hk (nN (h 96 6)) ht hb a b c h (t1.trans e6)) (r_feed_full w (nN (h 96 6)) ht hb a b c h e6)
set_option maxRecDepth 20000 in
set_option maxHeartbeats 4000000 in
theorem c_trim (w : Wt) {k : Nat} (hk : 200 ≤ k) (a : Int32) (h : Mm) (e : h 8 1 = h 96 6) : Ok w k MX7_trim [.ref 0, .int a] h (if nI 0 ≤ a ∧ a ≤ h 96 6 then Rv a (up h 8 1 a) else Rv BADv h) := by
  show Wp w k MX7_trim _ 0 [some (.ref 0), some (.int a)] [] h
  refine p_run (pc' := 9) [.iload_n 1, .iconst 0, .aload_n 0, .getfield 19, .getfield 228] mkX7_trim (by decide +kernel) rfl rfl ?_
  refine p_callSv (cwithin_ok w (k := k - 1) _ _ _ _) ksX7_68 (by decide +kernel) (by omega) rfl rfl rfl rfl rfl ?_
  refine p_if_ne (off := 6) 18 (by decide +kernel) (by decide) (fun cq12 => ?_) (fun cq12 => ?_)
  · have cq12 := bI1.mp cq12
    refine p_run (pc' := 27) [.aload_n 0, .getfield 19, .iload_n 1, .putfield 228, .iload_n 1] mkX7_trim (by decide +kernel) rfl rfl ?_
    refine p_iret rfl rfl (by decide +kernel) ?_
    exact iT (by rw [← e]; exact cq12) ⟨rfl, rfl⟩
  · have cq12 := bI0.mp cq12
    refine p_run (pc' := 17) [.ldc 75] mkX7_trim (by decide +kernel) rfl rfl ?_
    refine p_iret rfl rfl (by decide +kernel) ?_
    exact iF (fun q => cq12 (by rw [e]; exact q)) ⟨rfl, rfl⟩
theorem st_trim (w : Wt) {k : Nat} (hk : 200 ≤ k) (a : Int32) (h : Mm) (hR : Rel h) : St w k MX7_trim MX8_trim [.int a] h := by
  obtain ⟨⟨hP, hI, hQ, hT, hq⟩, -⟩ := id hR
  obtain ⟨t1, t2, t3, t4⟩ := hR.2.2.1
  have hc := c_trim w hk a h t1
  by_cases hg : nI 0 ≤ a ∧ a ≤ h 96 6
  · rw [if_pos hg] at hc
    refine St.mk hc (fun r h1 q => ⟨a, q.1, ?_⟩)
    rw [q.2]
    have hr := r_trim w (k := k) (by omega) a (up h 8 1 a)
    rw [upN (by decide), if_pos hg] at hr
    refine hr.imp (fun r2 h2 z => ⟨z.1, ?_⟩)
    rw [z.2]
    have ha : In a 96 := In_of (by omega) hg.1 (Int32.le_trans hg.2 (In_le (by omega) t2).2)
    refine hR.rt (fun b hb => by rw [upN (by omega), upN (by omega)]) (by rw [upS, upd_n (by decide), upN (by decide)]) (by rw [upS, upd_n (by decide), upN (by decide)]) ⟨?_, ?_, ?_, ?_⟩
    · rw [upN (by decide), upS, upd_s, upS, upd_s]
    · rw [upS, upd_s]; exact ha
    · rw [upN (by decide), upN (by decide), upN (by decide), upN (by decide)]; exact t3
    · unfold KR
      rw [upN (by decide), upN (by decide), upN (by decide), upN (by decide)]; exact t4
  · rw [if_neg hg] at hc
    have hr := r_trim w (k := k) (by omega) a h
    rw [if_neg hg] at hr
    exact St.word hR hc hr
set_option maxRecDepth 20000 in
set_option maxHeartbeats 4000000 in
theorem c_tell_full (w : Wt) {k : Nat} (hk : 200 ≤ k) (n : Nat) (hn : n = 60) (a : Int32) (h : Mm) (e : h 0 8 = nI n) : Ok w k MX7_tell [.ref 0, .int a] h (Rv FULLv h) := by
  show Wp w k MX7_tell _ 0 [some (.ref 0), some (.int a)] [] h
  refine p_run (pc' := 6) [.aload_n 0, .getfield 56, .bipush 60] mkX7_tell (by decide +kernel) rfl rfl ?_
  rw [e]
  refine p_icmp_lt (off := 6) 12 (by decide +kernel) (by decide) (fun cq1 => ?_) (fun cq1 => ?_)
  · exact absurd (show nI 60 ≤ nI n from nI_le (by omega) (by omega)) (Int32.not_le.mpr cq1)
  · refine p_run (pc' := 11) [.ldc 83] mkX7_tell (by decide +kernel) rfl rfl ?_
    refine p_iret rfl rfl (by decide +kernel) ?_
    exact ⟨rfl, rfl⟩
set_option maxRecDepth 20000 in
set_option maxHeartbeats 4000000 in
theorem c_tell (w : Wt) {k : Nat} (hk : 200 ≤ k) (n : Nat) (hn : n < 60) (a : Int32) (h : Mm) (e : h 0 8 = nI n) : Ok w k MX7_tell [.ref 0, .int a] h (Rv (nI (n + 1)) (up (up h 95 n a) 0 8 (nI (n + 1)))) := by
  show Wp w k MX7_tell _ 0 [some (.ref 0), some (.int a)] [] h
  refine p_run (pc' := 6) [.aload_n 0, .getfield 56, .bipush 60] mkX7_tell (by decide +kernel) rfl rfl ?_
  rw [e]
  refine p_icmp_lt (off := 6) 12 (by decide +kernel) (by decide) (fun cq1 => ?_) (fun cq1 => ?_)
  · refine p_run (pc' := 21) [.aload_n 0, .getfield 52, .aload_n 0, .getfield 56, .iload_n 1] mkX7_tell (by decide +kernel) rfl rfl ?_
    rw [e]
    refine p_iast (n) (by decide +kernel) rfl rfl rfl (by omega)  ?_
    refine p_run (pc' := 36) [.aload_n 0, .dup, .getfield 56, .iconst 1, .iadd, .putfield 56, .aload_n 0, .getfield 56] mkX7_tell (by decide +kernel) rfl rfl ?_
    have e1 : up h 95 n a 0 8 = nI n := by rw [upN (by decide)]; exact e
    rw [e1, oI, nI_add, show up (up h 95 n a) 0 8 (nI (n + 1)) 0 8 = nI (n + 1) by rw [upS, upd_s]]
    refine p_iret rfl rfl (by decide +kernel) ?_
    exact ⟨rfl, rfl⟩
  · exact absurd (show nI n < nI 60 from nI_lt (by omega) (by omega)) cq1
theorem st_tell (w : Wt) {k : Nat} (hk : 200 ≤ k) (a : Int32) (h : Mm) (hR : Rel h) : St w k MX7_tell MX8_tell [.int a] h := by
  obtain ⟨⟨hP, hI, hQ, hT, hq⟩, -⟩ := id hR
  obtain ⟨w1, w2, w3⟩ := hR.2.2.2.2.2
  have e := w2.1
  have hb := w2.2
  by_cases hn : nN (h 96 32) = 60
  · exact St.word hR (c_tell_full w hk _ hn a h (w1.trans e)) (r_tell_full w a h w2 hn)
  · refine St.mk (c_tell w hk (nN (h 96 32)) (by omega) a h (w1.trans e)) (fun r h1 q => ⟨_, q.1, ?_⟩)
    rw [q.2]
    have e2 : up (up h 95 (nN (h 96 32)) a) 0 8 (nI (nN (h 96 32) + 1)) 96 = h 96 := by rw [upN (by decide), upN (by decide)]
    refine (r_tell w a _ (by rw [e2]; exact w2) (by rw [e2]; omega)).imp (fun r2 h2 z => ⟨by rw [z.1, e2], ?_⟩)
    rw [z.2, e2]
    refine hR.rw (fun b hb => by rw [upN (by omega), upN (by omega), upN (by omega), upN (by omega)]) (by rw [upN (by decide), upN (by decide), upS, upd_n (by decide), upN (by decide)]) (by rw [upS, upd_n (by decide), upN (by decide), e2]) (by rw [upS, upd_n (by decide), upN (by decide), e2]) ⟨?_, ?_, ?_⟩
    · rw [upN (by decide), upN (by decide), upS, upd_s, upS, upd_s]
    · rw [upS, upd_s]; exact In_nI (by omega) (by omega)
    · intro k hk2
      rw [upN (by decide), upN (by decide), upN (by decide), upS, upN (by decide), upS, upN (by decide), upN (by decide)]
      by_cases ek : k = nN (h 96 32)
      · rw [ek, upd_s, upd_s]
      · rw [upd_n ek, upd_n ek]; exact w3 k hk2
