/-! the JDK: bitCount, strings, arraycopy -/
theorem bitc : ∀ m, m < 1024 → (fun (x : Int32) => let a := x - ((x.toUInt32 >>> (Int32.toUInt32 (Int32.ofInt 1) &&& Int32.toUInt32 31)).toInt32 &&& Int32.ofInt 1431655765); let b := (a &&& Int32.ofInt 858993459) + ((a.toUInt32 >>> (Int32.toUInt32 (Int32.ofInt 2) &&& Int32.toUInt32 31)).toInt32 &&& Int32.ofInt 858993459); let c := (b + (b.toUInt32 >>> (Int32.toUInt32 (Int32.ofInt 4) &&& Int32.toUInt32 31)).toInt32) &&& Int32.ofInt 252645135; let d := c + (c.toUInt32 >>> (Int32.toUInt32 (Int32.ofInt 8) &&& Int32.toUInt32 31)).toInt32; let e := d + (d.toUInt32 >>> (Int32.toUInt32 (Int32.ofInt 16) &&& Int32.toUInt32 31)).toInt32; e &&& Int32.ofInt 63) (nI m) = nI (pcF m) := by decide +kernel
set_option maxRecDepth 20000 in
set_option maxHeartbeats 4000000 in
theorem bitCount_ok (w : Wt) {k : Nat} (m : Nat) (hm : m < 1024) (h : Mm) : Ok w k MJ6_bitCount_0f7a4 [.int (nI m)] h (Rv (nI (pcF m)) h) := by
  show Wp w k MJ6_bitCount_0f7a4 _ 0 [some (.int (nI m))] [] h
  refine p_run (pc' := 52) [.iload_n 0, .iload_n 0, .iconst 1, .iushr, .ldc_w 265, .iand, .isub, .istore_n 0, .iload_n 0, .ldc_w 266, .iand, .iload_n 0, .iconst 2, .iushr, .ldc_w 266, .iand, .iadd, .istore_n 0, .iload_n 0, .iload_n 0, .iconst 4, .iushr, .iadd, .ldc_w 267, .iand, .istore_n 0, .iload_n 0, .iload_n 0, .bipush 8, .iushr, .iadd, .istore_n 0, .iload_n 0, .iload_n 0, .bipush 16, .iushr, .iadd, .istore_n 0, .iload_n 0, .bipush 63, .iand] mkJ6_bitCount_0f7a4 (by decide +kernel) rfl rfl ?_
  refine p_iret rfl rfl (by decide +kernel) ?_
  exact ⟨congrArg (fun x => some (Value.int x)) (bitc m hm), rfl⟩
set_option maxRecDepth 20000 in
set_option maxHeartbeats 4000000 in
theorem isLatin1_ok (w : Wt) {k : Nat} (i : Nat) (hi : i < 11) (h : Mm) : Ok w k MJ0_isLatin1_aae02 [.ref (1010 + i)] h (Rv 1 h) := by
  show Wp w k MJ0_isLatin1_aae02 _ 0 [some (.ref (1010 + i))] [] h
  refine p_getsC rfl (by decide +kernel) ?_
  refine p_if_eq (off := 14) 17 (by decide +kernel) (by decide) (fun cq1 => ?_) (fun cq1 => ?_)
  · exact False.elim (by revert cq1; decide)
  · refine p_run (pc' := 7) [.aload_n 0] mkJ0_isLatin1_aae02 (by decide +kernel) rfl rfl ?_
    refine p_getCod i hi rfl (by decide +kernel) ?_
    refine p_if_ne (off := 7) 17 (by decide +kernel) (by decide) (fun cq2 => ?_) (fun cq2 => ?_)
    · exact absurd rfl cq2
    · refine p_run (pc' := 18) [.iconst 1, .goto 4] mkJ0_isLatin1_aae02 (by decide +kernel) rfl rfl ?_
      refine p_iret rfl rfl (by decide +kernel) ?_
      exact ⟨rfl, rfl⟩
set_option maxRecDepth 20000 in
set_option maxHeartbeats 4000000 in
theorem coder_ok (w : Wt) {k : Nat} (i : Nat) (hi : i < 11) (h : Mm) : Ok w k MJ0_coder_7d493 [.ref (1010 + i)] h (Rv 0 h) := by
  show Wp w k MJ0_coder_7d493 _ 0 [some (.ref (1010 + i))] [] h
  refine p_getsC rfl (by decide +kernel) ?_
  refine p_if_eq (off := 10) 13 (by decide +kernel) (by decide) (fun cq1 => ?_) (fun cq1 => ?_)
  · exact False.elim (by revert cq1; decide)
  · refine p_run (pc' := 7) [.aload_n 0] mkJ0_coder_7d493 (by decide +kernel) rfl rfl ?_
    refine p_getCod i hi rfl (by decide +kernel) ?_
    refine p_run (pc' := 14) [.goto 4] mkJ0_coder_7d493 (by decide +kernel) rfl rfl ?_
    refine p_iret rfl rfl (by decide +kernel) ?_
    exact ⟨rfl, rfl⟩
theorem lens : ∀ i, i < 11 → nI (cLen.getD i 0) >>> ((0 : Int32) &&& 31) = nI (cLen.getD i 0) := by decide +kernel
set_option maxRecDepth 20000 in
set_option maxHeartbeats 4000000 in
theorem length_ok (w : Wt) {k : Nat} (hk : 1 ≤ k) (i : Nat) (hi : i < 11) (h : Mm) : Ok w k MJ0_length_8abf5 [.ref (1010 + i)] h (Rv (nI (cLen.getD i 0)) h) := by
  show Wp w k MJ0_length_8abf5 _ 0 [some (.ref (1010 + i))] [] h
  refine p_run (pc' := 1) [.aload_n 0] mkJ0_length_8abf5 (by decide +kernel) rfl rfl ?_
  refine p_getVal i hi rfl (by decide +kernel) ?_
  refine p_alenS i hi (by decide +kernel) ?_
  refine p_run (pc' := 6) [.aload_n 0] mkJ0_length_8abf5 (by decide +kernel) rfl rfl ?_
  refine p_callC hi (coder_ok w (k := k - 1) i hi h) kcJ0_335 (by decide +kernel) (by omega) rfl rfl rfl rfl rfl ?_
  refine p_run (pc' := 10) [.ishr] mkJ0_length_8abf5 (by decide +kernel) rfl rfl ?_
  refine p_iret rfl rfl (by decide +kernel) ?_
  exact ⟨congrArg (fun x => some (Value.int x)) (lens i hi), rfl⟩
set_option maxRecDepth 20000 in
set_option maxHeartbeats 4000000 in
theorem chk_ok (w : Wt) {k : Nat} (j n : Nat) (hj : j < n) (hn : n < 2 ^ 31) (v : Value) (h : Mm) : Ok w k MJ3_checkIndex_8e157 [.int (nI j), .int (nI n), v] h (Rv (nI j) h) := by
  show Wp w k MJ3_checkIndex_8e157 _ 0 [some (.int (nI j)), some (.int (nI n)), some (v)] [] h
  refine p_run (pc' := 1) [.iload_n 0] mkJ3_checkIndex_8e157 (by decide +kernel) rfl rfl ?_
  refine p_if_lt (off := 8) 9 (by decide +kernel) (by decide) (fun cq1 => ?_) (fun cq1 => ?_)
  · exact absurd cq1 (nI_lt0 (by omega))
  · refine p_run (pc' := 6) [.iload_n 0, .iload_n 1] mkJ3_checkIndex_8e157 (by decide +kernel) rfl rfl ?_
    refine p_icmp_lt (off := 10) 16 (by decide +kernel) (by decide) (fun cq2 => ?_) (fun cq2 => ?_)
    · refine p_run (pc' := 17) [.iload_n 0] mkJ3_checkIndex_8e157 (by decide +kernel) rfl rfl ?_
      refine p_iret rfl rfl (by decide +kernel) ?_
      exact ⟨rfl, rfl⟩
    · exact absurd ((nI_ltI (by omega) (by omega)).mpr hj) cq2
set_option maxRecDepth 20000 in
set_option maxHeartbeats 4000000 in
theorem chk2_ok (w : Wt) {k : Nat} (hk : 1 ≤ k) (j n : Nat) (hj : j < n) (hn : n < 2 ^ 31) (h : Mm) : Ok w k MJ0_checkIndex_df160 [.int (nI j), .int (nI n)] h (Rw h) := by
  show Wp w k MJ0_checkIndex_df160 _ 0 [some (.int (nI j)), some (.int (nI n))] [] h
  refine p_run (pc' := 2) [.iload_n 0, .iload_n 1] mkJ0_checkIndex_df160 (by decide +kernel) rfl rfl ?_
  refine p_getsF rfl (by decide +kernel) (fun v hv => ?_)
  have hcv : ([Value.int (nI j), Value.int (nI n), v].all (fun v => Nat.beq v.category 1)) = true := by rcases hv with rfl | rfl <;> rfl
  refine p_callSv (as := [.int (nI j), .int (nI n), v]) (chk_ok w (k := k - 1) j n hj hn v h) ksJ0_1059 (by decide +kernel) (by omega) rfl rfl hcv rfl rfl ?_
  refine p_run (pc' := 9) [.pop] mkJ0_checkIndex_df160 (by decide +kernel) rfl rfl ?_
  refine p_vret rfl (by decide +kernel) ?_
  exact ⟨rfl, rfl⟩
def chF (i j : Nat) : Int32 := (cByt.getD i []).getD j 0
theorem chA0 : ∀ i, i < 11 → ∀ j, j < 5 → ((((cByt.getD i []).getD j 0) &&& Int32.ofInt 255).toUInt32 % 65536).toInt32 = chF i j := by decide +kernel
theorem chAn0 : ∀ i, i < 11 → ∀ j, j < 5 → (chF i j).toUInt32 % 65536 = (chF i j).toUInt32 := by decide +kernel
theorem chA (i : Nat) (hi : i < 11) (j : Nat) (hj : j < cLen.getD i 0) : ((((cByt.getD i []).getD j 0) &&& Int32.ofInt 255).toUInt32 % 65536).toInt32 = chF i j := chA0 i hi j (by have := cLen_lt i hi; omega)
theorem chAn (i : Nat) (hi : i < 11) (j : Nat) (hj : j < cLen.getD i 0) : narrow .char (.int (chF i j)) = .int (chF i j) := by
  have h := chAn0 i hi j (by have := cLen_lt i hi; omega)
  show Value.int ((chF i j).toUInt32 % 65536).toInt32 = _
  rw [h]; simp
set_option maxRecDepth 20000 in
set_option maxHeartbeats 4000000 in
theorem chL_ok (w : Wt) {k : Nat} (hk : 2 ≤ k) (i j : Nat) (hi : i < 11) (hj : j < cLen.getD i 0) (h : Mm) : Ok w k MJ1_charAt_3b067 [.ref (1030 + i), .int (nI j)] h (Rv (chF i j) h) := by
  show Wp w k MJ1_charAt_3b067 _ 0 [some (.ref (1030 + i)), some (.int (nI j))] [] h
  refine p_run (pc' := 2) [.iload_n 1, .aload_n 0] mkJ1_charAt_3b067 (by decide +kernel) rfl rfl ?_
  refine p_alenS i hi (by decide +kernel) ?_
  have hl5 := cLen_lt i hi
  refine p_callSw (chk2_ok w (k := k - 1) (by omega) j (cLen.getD i 0) hj (by omega) h) ksJ1_9 (by decide +kernel) (by omega) rfl rfl rfl rfl rfl ?_
  refine p_run (pc' := 8) [.aload_n 0, .iload_n 1] mkJ1_charAt_3b067 (by decide +kernel) rfl rfl ?_
  refine p_baldS i j hi (by decide +kernel) rfl hj ?_
  refine p_run (pc' := 14) [.sipush 255, .iand, .i2c] mkJ1_charAt_3b067 (by decide +kernel) rfl rfl ?_
  refine Wp.eqS (st' := [.int (chF i j)]) (congrArg (fun x => [Value.int x]) (chA i hi j hj)) ?_
  refine p_iret rfl (chAn i hi j hj) (by decide +kernel) ?_
  exact ⟨rfl, rfl⟩
set_option maxRecDepth 20000 in
set_option maxHeartbeats 4000000 in
theorem charAt_ok (w : Wt) {k : Nat} (hk : 4 ≤ k) (i j : Nat) (hi : i < 11) (hj : j < cLen.getD i 0) (h : Mm) : Ok w k MJ0_charAt_5068e [.ref (1010 + i), .int (nI j)] h (Rv (chF i j) h) := by
  show Wp w k MJ0_charAt_5068e _ 0 [some (.ref (1010 + i)), some (.int (nI j))] [] h
  refine p_run (pc' := 1) [.aload_n 0] mkJ0_charAt_5068e (by decide +kernel) rfl rfl ?_
  refine p_callC hi (isLatin1_ok w (k := k - 1) i hi h) kcJ0_492 (by decide +kernel) (by omega) rfl rfl rfl rfl rfl ?_
  refine p_if_eq (off := 12) 16 (by decide +kernel) (by decide) (fun cq1 => ?_) (fun cq1 => ?_)
  · exact False.elim (by revert cq1; decide)
  · refine p_run (pc' := 8) [.aload_n 0] mkJ0_charAt_5068e (by decide +kernel) rfl rfl ?_
    refine p_getVal i hi rfl (by decide +kernel) ?_
    refine p_run (pc' := 12) [.iload_n 1] mkJ0_charAt_5068e (by decide +kernel) rfl rfl ?_
    refine p_callSv (chL_ok w (k := k - 1) (by omega) i j hi hj h) ksJ0_495 (by decide +kernel) (by omega) rfl rfl rfl rfl rfl ?_
    refine p_iret rfl (chAn i hi j hj) (by decide +kernel) ?_
    exact ⟨rfl, rfl⟩
set_option maxRecDepth 20000 in
set_option maxHeartbeats 4000000 in
theorem canEnc_ok (w : Wt) {k : Nat} (n : Nat) (hn : n ≤ 255) (h : Mm) : Ok w k MJ1_canEncode_9a6ad [.int (nI n)] h (Rv (nI 1) h) := by
  show Wp w k MJ1_canEncode_9a6ad _ 0 [some (.int (nI n))] [] h
  refine p_run (pc' := 1) [.iload_n 0] mkJ1_canEncode_9a6ad (by decide +kernel) rfl rfl ?_
  refine p_if_lt (off := 14) 15 (by decide +kernel) (by decide) (fun cq1 => ?_) (fun cq1 => ?_)
  · exact absurd cq1 (nI_lt0 (by omega))
  · refine p_run (pc' := 8) [.iload_n 0, .sipush 255] mkJ1_canEncode_9a6ad (by decide +kernel) rfl rfl ?_
    refine p_icmp_gt (off := 7) 15 (by decide +kernel) (by decide) (fun cq2 => ?_) (fun cq2 => ?_)
    · exact False.elim (by rw [oI, nI_ltI (by omega) (by omega)] at cq2; omega)
    · refine p_run (pc' := 16) [.iconst 1, .goto 4] mkJ1_canEncode_9a6ad (by decide +kernel) rfl rfl ?_
      refine p_iret rfl rfl (by decide +kernel) ?_
      exact ⟨rfl, rfl⟩
noncomputable def sxF (i n : Nat) : Int32 := match fstF (fun j => decide (chF i j = nI n)) 0 (cLen.getD i 0) with
  | none => Int32.ofInt (-1)
  | some j => nI j
theorem b8a : ∀ n, n < 256 → ∀ i, i < 11 → ∀ j, j < 5 → ((cByt.getD i []).getD j 0 = (nI n).toInt8.toInt32 ↔ chF i j = nI n) := by decide +kernel
set_option maxRecDepth 20000 in
set_option maxHeartbeats 4000000 in
theorem ixC_ok (w : Wt) {k : Nat} (i n : Nat) (hi : i < 11) (hn : n ≤ 255) (h : Mm) : Ok w k MJ1_indexOfChar_4cfef [.ref (1030 + i), .int (nI n), .int (nI 0), .int (nI (cLen.getD i 0))] h (Rv (sxF i n) h) := by
  show Wp w k MJ1_indexOfChar_4cfef _ 0 [some (.ref (1030 + i)), some (.int (nI n)), some (.int (nI 0)), some (.int (nI (cLen.getD i 0))), none, none] [] h
  refine p_run (pc' := 7) [.iload_n 1, .i2b, .istore 4, .iload_n 2, .istore 5] mkJ1_indexOfChar_4cfef (by decide +kernel) rfl rfl ?_
  have hl5 := cLen_lt i hi
  refine Wp.for (cLen.getD i 0) (fun j L hh => L = [some (.ref (1030 + i)), some (.int (nI n)), some (.int (nI 0)), some (.int (nI (cLen.getD i 0))), some (.int ((nI n).toInt8.toInt32)), some (.int (nI j))] ∧ hh = h ∧ fstF (fun j => decide (chF i j = nI n)) j (cLen.getD i 0 - j) = fstF (fun j => decide (chF i j = nI n)) 0 (cLen.getD i 0)) ?_ ?_ 0 (by omega) _ _ ⟨rfl, rfl, rfl⟩
  · rintro j L hh hj ⟨rfl, hJ⟩ ih
    obtain ⟨rfl, hq⟩ := hJ
    refine p_run (pc' := 10) [.iload 5, .iload_n 3] mkJ1_indexOfChar_4cfef (by decide +kernel) rfl rfl ?_
    refine p_icmp_ge (off := 21) 31 (by decide +kernel) (by decide) (fun cq1 => ?_) (fun cq1 => ?_)
    · exact absurd cq1 (nI_ge (by omega) (by omega))
    · obtain ⟨q, hqq⟩ : ∃ q, cLen.getD i 0 - j = q + 1 := ⟨cLen.getD i 0 - j - 1, by omega⟩
      refine p_run (pc' := 16) [.aload_n 0, .iload 5] mkJ1_indexOfChar_4cfef (by decide +kernel) rfl rfl ?_
      refine p_baldS i j hi (by decide +kernel) rfl (by omega) ?_
      refine p_run (pc' := 19) [.iload 4] mkJ1_indexOfChar_4cfef (by decide +kernel) rfl rfl ?_
      refine p_icmp_ne (off := 6) 25 (by decide +kernel) (by decide) (fun cq2 => ?_) (fun cq2 => ?_)
      · refine p_run (pc' := 7) [.iinc 5 1, .goto (-21)] mkJ1_indexOfChar_4cfef (by decide +kernel) rfl rfl ?_
        exact ih _ _ ⟨by rw [show nI j + Int32.ofInt 1 = nI (j + 1) by simp only [oI, nI_add]], rfl, by rw [← hq, hqq, fstF, if_neg (fun z => cq2 ((b8a n (by omega) i hi j (by omega)).mpr (of_decide_eq_true z))), show cLen.getD i 0 - (j + 1) = q by omega]⟩
      · refine p_run (pc' := 24) [.iload 5] mkJ1_indexOfChar_4cfef (by decide +kernel) rfl rfl ?_
        refine p_iret rfl rfl (by decide +kernel) ?_
        exact ⟨by unfold sxF; rw [← hq, hqq, fstF, if_pos (decide_eq_true ((b8a n (by omega) i hi j (by omega)).mp cq2))], rfl⟩
  · rintro L hh ⟨rfl, hJ⟩
    obtain ⟨rfl, hq⟩ := hJ
    refine p_run (pc' := 10) [.iload 5, .iload_n 3] mkJ1_indexOfChar_4cfef (by decide +kernel) rfl rfl ?_
    refine p_icmp_ge (off := 21) 31 (by decide +kernel) (by decide) (fun cq1 => ?_) (fun cq1 => ?_)
    · refine p_run (pc' := 32) [.iconst (-1)] mkJ1_indexOfChar_4cfef (by decide +kernel) rfl rfl ?_
      refine p_iret rfl rfl (by decide +kernel) ?_
      exact ⟨by unfold sxF; rw [← hq, Nat.sub_self]; rfl, rfl⟩
    · exact absurd (nI_le (Nat.le_refl _) (by omega)) cq1
theorem cLen_pos : ∀ i, i < 11 → 0 < cLen.getD i 0 := by decide
set_option maxRecDepth 20000 in
set_option maxHeartbeats 4000000 in
theorem ixL_ok (w : Wt) {k : Nat} (hk : 2 ≤ k) (i n : Nat) (hi : i < 11) (hn : n ≤ 255) (h : Mm) : Ok w k MJ1_indexOf_4cfef [.ref (1030 + i), .int (nI n), .int (nI 0), .int (nI (cLen.getD i 0))] h (Rv (sxF i n) h) := by
  show Wp w k MJ1_indexOf_4cfef _ 0 [some (.ref (1030 + i)), some (.int (nI n)), some (.int (nI 0)), some (.int (nI (cLen.getD i 0)))] [] h
  have hl5 := cLen_lt i hi
  have hl0 := cLen_pos i hi
  refine p_run (pc' := 1) [.iload_n 1] mkJ1_indexOf_4cfef (by decide +kernel) rfl rfl ?_
  refine p_callSv (canEnc_ok w (k := k - 1) n hn h) ksJ1_88 (by decide +kernel) (by omega) rfl rfl rfl rfl rfl ?_
  refine p_if_ne (off := 5) 9 (by decide +kernel) (by decide) (fun cq1 => ?_) (fun cq1 => ?_)
  · refine p_run (pc' := 11) [.iload_n 2, .iconst 0] mkJ1_indexOf_4cfef (by decide +kernel) rfl rfl ?_
    refine p_mmax jlJ1_92 (by decide +kernel) (by omega) rfl ?_
    refine p_run (pc' := 17) [.istore_n 2, .iload_n 3, .aload_n 0] mkJ1_indexOf_4cfef (by decide +kernel) rfl rfl ?_
    refine p_alenS i hi (by decide +kernel) ?_
    refine p_mmin jlJ1_38 (by decide +kernel) (by omega) rfl ?_
    refine Wp.eqS (st' := [.int (nI (cLen.getD i 0))]) (by rw [ite_self]) ?_
    refine p_run (pc' := 24) [.istore_n 3, .iload_n 2, .iload_n 3] mkJ1_indexOf_4cfef (by decide +kernel) rfl rfl ?_
    refine p_icmp_lt (off := 5) 29 (by decide +kernel) (by decide) (fun cq2 => ?_) (fun cq2 => ?_)
    · refine p_run (pc' := 33) [.aload_n 0, .iload_n 1, .iload_n 2, .iload_n 3] mkJ1_indexOf_4cfef (by decide +kernel) rfl rfl ?_
      refine p_callSv (ixC_ok w (k := k - 1) i n hi hn h) ksJ1_95 (by decide +kernel) (by omega) rfl rfl rfl rfl rfl ?_
      refine p_iret rfl rfl (by decide +kernel) ?_
      exact ⟨rfl, rfl⟩
    · exact absurd ((nI_ltI (a := 0) (b := cLen.getD i 0) (by omega) (by omega)).mpr hl0) cq2
  · exact False.elim (by revert cq1; decide)
set_option maxRecDepth 20000 in
set_option maxHeartbeats 4000000 in
theorem ix2_ok (w : Wt) {k : Nat} (hk : 4 ≤ k) (i n : Nat) (hi : i < 11) (hn : n ≤ 255) (h : Mm) : Ok w k MJ0_indexOf_7cf53 [.ref (1010 + i), .int (nI n), .int (nI 0)] h (Rv (sxF i n) h) := by
  show Wp w k MJ0_indexOf_7cf53 _ 0 [some (.ref (1010 + i)), some (.int (nI n)), some (.int (nI 0))] [] h
  refine p_run (pc' := 1) [.aload_n 0] mkJ0_indexOf_7cf53 (by decide +kernel) rfl rfl ?_
  refine p_callC hi (isLatin1_ok w (k := k - 1) i hi h) kcJ0_492 (by decide +kernel) (by omega) rfl rfl rfl rfl rfl ?_
  refine p_if_eq (off := 19) 23 (by decide +kernel) (by decide) (fun cq1 => ?_) (fun cq1 => ?_)
  · exact False.elim (by revert cq1; decide)
  · refine p_run (pc' := 8) [.aload_n 0] mkJ0_indexOf_7cf53 (by decide +kernel) rfl rfl ?_
    refine p_getVal i hi rfl (by decide +kernel) ?_
    refine p_run (pc' := 14) [.iload_n 1, .iload_n 2, .aload_n 0] mkJ0_indexOf_7cf53 (by decide +kernel) rfl rfl ?_
    refine p_callC hi (length_ok w (k := k - 1) (by omega) i hi h) kcJ0_505 (by decide +kernel) (by omega) rfl rfl rfl rfl rfl ?_
    refine p_callSv (ixL_ok w (k := k - 1) (by omega) i n hi hn h) ksJ0_637 (by decide +kernel) (by omega) rfl rfl rfl rfl rfl ?_
    refine p_run (pc' := 36) [.goto 16] mkJ0_indexOf_7cf53 (by decide +kernel) rfl rfl ?_
    refine p_iret rfl rfl (by decide +kernel) ?_
    exact ⟨rfl, rfl⟩
set_option maxRecDepth 20000 in
set_option maxHeartbeats 4000000 in
theorem indexOf_ok (w : Wt) {k : Nat} (hk : 5 ≤ k) (i n : Nat) (hi : i < 11) (hn : n ≤ 255) (h : Mm) : Ok w k MJ0_indexOf_0f7a4 [.ref (1010 + i), .int (nI n)] h (Rv (sxF i n) h) := by
  show Wp w k MJ0_indexOf_0f7a4 _ 0 [some (.ref (1010 + i)), some (.int (nI n))] [] h
  refine p_run (pc' := 3) [.aload_n 0, .iload_n 1, .iconst 0] mkJ0_indexOf_0f7a4 (by decide +kernel) rfl rfl ?_
  refine p_callC hi (ix2_ok w (k := k - 1) (by omega) i n hi hn h) kcJ0_633 (by decide +kernel) (by omega) rfl rfl rfl rfl rfl ?_
  refine p_iret rfl rfl (by decide +kernel) ?_
  exact ⟨rfl, rfl⟩
