/-! a night, as a function of rows -/
noncomputable def dsF (N : Vc) (d : Nat) : Vc :=
  upd (upd (upd N (20 + 5 * d + 4) (clF (dK N d 4 + clF (N (8 + 3 * brF N d) + dgF N d) (nI 0) (nI 999) - N (8 + 3 * brF N d)) (nI 0) (nI 9999))) (20 + 5 * d + 2) (clF (dK N d 2 - buF N d) (nI 0) (nI 99))) (8 + 3 * brF N d) (clF (N (8 + 3 * brF N d) + dgF N d) (nI 0) (nI 999))
noncomputable def daF (N : Vc) : Nat → Vc
  | 0 => N
  | i + 1 => if 0 < dK (daF N i) i 2 then dsF (daF N i) i else daF N i
def flF (N : Vc) (b : Nat) : Nat → Vc
  | 0 => N
  | i + 1 => if inB N b i then upd (flF N b i) (20 + 5 * i + 3) (nI ((b + 1) % 4)) else flF N b i
def wgF (N : Vc) (b : Nat) : Vc := upd N (8 + 3 * b + 2) (clF (bK N b 2 + N 3) (nI 0) (bK N b 0))
def waF (N : Vc) (b : Nat) : Vc := if 0 < ahF (wgF N b) b ∨ setF (inB (wgF N b) b) (nd (wgF N b)) = 0 then wgF N b else flF (upd (wgF N b) 5 (wgF N b 5 + nI 1)) b (nd (wgF N b))
def dvN (z : Int32) : Nat := z.toUInt32.toNat / 256
def zF (z : Int32) : Int32 := z * Int32.ofInt 1103515245 + Int32.ofInt 12345
def drF (N : Vc) : Vc := upd N 0 (zF (N 0))
def faF (N : Vc) : Vc :=
  if nI (dvN (zF (N 0)) % 100) < N 4 then upd (upd (drF (drF (drF N))) (8 + 3 * (dvN (zF (zF (N 0))) % 4) + 1) (nI (dvN (zF (zF (zF (N 0)))) % 100))) 6 (N 6 + nI 1) else drF N
noncomputable def niF (N : Vc) : Vc := upd (faF (waF (waF (waF (waF (daF N (nd N)) 0) 1) 2) 3)) 2 (faF (waF (waF (waF (waF (daF N (nd N)) 0) 1) 2) 3) 2 + nI 1)
noncomputable def nsF (N : Vc) : Nat → Vc
  | 0 => N
  | n + 1 => niF (nsF N n)
theorem dvN_lt (z : Int32) : dvN z < 2 ^ 24 := by
  have := z.toUInt32.toNat_lt
  unfold dvN
  omega
theorem ushr8 (z : Int32) : (z.toUInt32 >>> (Int32.toUInt32 (Int32.ofInt 8) &&& Int32.toUInt32 31)).toInt32 = nI (dvN z) := by
  have e : Int32.toUInt32 (Int32.ofInt 8) &&& Int32.toUInt32 31 = 8 := by decide
  rw [e]
  have h1 : (z.toUInt32 >>> 8).toNat = dvN z := by
    rw [UInt32.toNat_shiftRight]
    simp [Nat.shiftRight_eq_div_pow, dvN]
  have h2 : z.toUInt32 >>> 8 = UInt32.ofNat (dvN z) := by
    rw [← h1, UInt32.ofNat_toNat]
  rw [h2]
  rfl
theorem upd_s {f : Vc} {k : Nat} {x : Int32} : upd f k x k = x := if_pos rfl
theorem upd_n {f : Vc} {k j : Nat} {x : Int32} (h : j ≠ k) : upd f k x j = f j := if_neg h
theorem upd_self {f : Vc} {k : Nat} : upd f k (f k) = f := by
  funext j
  by_cases h : j = k
  · rw [h, upd_s]
  · rw [upd_n h]
/-- what a clamp gives -/
theorem clF_in {v : Int32} {n : Nat} (hn : n < 2 ^ 31) : In (clF v (nI 0) (nI n)) n := by
  unfold clF
  split
  · exact In_nI (Nat.zero_le _) hn
  · split
    · exact In_nI (Nat.le_refl _) hn
    · exact In_of hn (Int32.not_lt.mp (by assumption)) (Int32.not_lt.mp (by assumption))
/-- which places of a row a night changes -/
theorem dsF_out {N : Vc} {d j : Nat} (h1 : j ≠ 20 + 5 * d + 4) (h2 : j ≠ 20 + 5 * d + 2) (h3 : j ≠ 8 + 3 * brF N d) : dsF N d j = N j := by
  unfold dsF
  rw [upd_n h3, upd_n h2, upd_n h1]
/-- a row is good where its texts, its numbers and its diggers are -/
theorem Iv.of {N N' : Vc} (h : Iv N) (h1 : N' 1 = N 1) (h3 : N' 3 = N 3) (h4 : N' 4 = N 4) (h7 : N' 7 = N 7) (hx : ∀ j, 70 ≤ j → N' j = N j)
    (hb : ∀ b, b < 4 → In (bK N' b 0) 999 ∧ In (bK N' b 1) 99 ∧ In (bK N' b 2) (nN (bK N' b 0))) (hd : ∀ d, d < 10 → In (dK N' d 0) 5 ∧ In (dK N' d 1) 99 ∧ In (dK N' d 2) 99 ∧ In (dK N' d 3) 3 ∧ In (dK N' d 4) 9999) : Iv N' := by
  obtain ⟨a1, a2, a3, a4, -, -, a7⟩ := h
  refine ⟨by rw [h1]; exact a1, by rw [h3]; exact a2, by rw [h4]; exact a3, by rw [h7]; exact a4, hb, hd, fun t ht => ?_⟩
  rw [h7] at ht
  obtain ⟨t1, t2⟩ := a7 t ht
  have e1 : N' (70 + 2 * t) = N (70 + 2 * t) := hx _ (by omega)
  have e2 : (fun i => N' (98 + 96 * t + i)) = fun i => N (98 + 96 * t + i) := by funext i; exact hx _ (by omega)
  unfold TX
  rw [e1, e2]
  exact ⟨t1, t2⟩
