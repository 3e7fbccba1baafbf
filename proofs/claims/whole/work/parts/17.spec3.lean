/-! what is kept outside of some cells; bits; runs of texts look only at their names -/
def Ag (S : List Nat) (h h' : Mm) : Prop := ∀ a, a ∉ S → h' a = h a
theorem Ag.rf {S : List Nat} {h : Mm} : Ag S h h := fun _ _ => rfl
theorem Ag.tr {S : List Nat} {h1 h2 h3 : Mm} (a : Ag S h1 h2) (b : Ag S h2 h3) : Ag S h1 h3 := fun x hx => (b x hx).trans (a x hx)
theorem Ag.mono {S S' : List Nat} {h h' : Mm} (a : Ag S h h') (hs : ∀ x, x ∈ S → x ∈ S') : Ag S' h h' := fun x hx => a x (fun q => hx (hs x q))
theorem Ag.up {S : List Nat} {h : Mm} {a k : Nat} {x : Int32} (ha : a ∈ S) : Ag S h (up h a k x) := fun b hb => upN (fun e => hb (e ▸ ha))
def Rs (S : List Nat) (v : Int32) (h : Mm) : Option Value → Mm → Prop := fun r h' => r = some (.int v) ∧ Ag S h h'
theorem runT_congr {fc fc' c : Nat → Int32} {m n : Nat} (h : wfC m c n) (hm : m ≤ 1000) (hf : ∀ i, i < m → fc i = fc' i) : ∀ i, i ≤ n → runT fc c i = runT fc' c i
  | 0, _ => rfl
  | i + 1, hi => by
    rw [runT, runT, runT_congr h hm hf i (by omega)]
    rcases h.1 i (by omega) with ⟨h1, h2⟩ | ⟨h1, h2⟩ | ⟨h1, h2, h3⟩
    · rw [tokS_n h1, tokS_n h1]
      congr 1
      split
      · rfl
      · rename_i hn
        have hin : In (c i) (10000 + m) := In_of (by omega) h1 (Int32.le_of_lt h2)
        have e := hin.1
        have hb := hin.2
        have h3 : nN (c i) < 10000 + m := by
          rw [e] at h2
          exact (nI_ltI (by omega) (by omega)).mp h2
        have h4 : 10000 ≤ nN (c i) := by
          rw [e] at hn
          exact Nat.not_lt.mp (fun q => hn (nI_lt q (by omega)))
        exact hf _ (by omega)
    · have hn : ¬ nI 0 ≤ c i := by rw [h1]; decide
      unfold tokS
      rw [if_neg hn, if_neg hn]
    · have hn : ¬ nI 0 ≤ c i := Int32.not_le.mpr h2
      unfold tokS
      rw [if_neg hn, if_neg hn]
theorem evF_congr {N : Vc} {t : Nat} {fc fc' : Nat → Int32} (h : TX N t) (hf : ∀ i, i < nmF (nN (N (70 + 2 * t)) / 1000) → fc i = fc' i) : evF N t fc = evF N t fc' := by
  unfold evF
  rw [runT_congr h.2 (by unfold nmF; split <;> omega) hf _ (Nat.le_refl _)]
theorem setF_div (p : Nat → Bool) (k : Nat) : ∀ n, setF p n / 2 ^ k % 2 = if k < n ∧ p k = true then 1 else 0
  | 0 => by simp [setF]
  | n + 1 => by
    have ih := setF_div p k n
    have hl := setF_lt p n
    rw [setF]
    by_cases hkn : k < n
    · have e : 2 ^ n = 2 ^ k * (2 * 2 ^ (n - k - 1)) := by
        rw [← Nat.pow_succ', ← Nat.pow_add]
        congr 1
        omega
      by_cases hp : p n = true
      · rw [if_pos hp, e, Nat.add_mul_div_left _ _ (Nat.two_pow_pos k), Nat.add_mul_mod_self_left, ih]
        simp [hkn, Nat.lt_succ_of_lt hkn]
      · rw [if_neg hp, Nat.add_zero, ih]
        simp [hkn, Nat.lt_succ_of_lt hkn]
    · have hle : 2 ^ n ≤ 2 ^ k := Nat.pow_le_pow_right (by omega) (by omega)
      by_cases hk : k = n
      · subst hk
        by_cases hp : p k = true
        · rw [if_pos hp, Nat.add_div_right _ (Nat.two_pow_pos k), Nat.div_eq_of_lt hl]
          simp [hp]
        · rw [if_neg hp, Nat.add_zero, Nat.div_eq_of_lt hl]
          simp [hp]
      · have h2 : 2 ^ (n + 1) ≤ 2 ^ k := Nat.pow_le_pow_right (by omega) (by omega)
        have h3 : setF p n + (if p n = true then 2 ^ n else 0) < 2 ^ k := by
          have := Nat.pow_succ (n := 2) (m := n)
          split <;> omega
        rw [Nat.div_eq_of_lt h3, if_neg (by omega)]
theorem shr_bit : ∀ k, k < 10 → ∀ m, m < 1024 → (nI m >>> (nI k &&& 31)) &&& nI 1 = nI (m / 2 ^ k % 2) := by decide +kernel
theorem clr_bit : ∀ d, d < 10 → ∀ m, m < 1024 → nI m &&& ((nI 1 <<< (nI d &&& 31)) ^^^ Int32.ofInt (-1)) = nI (m - m / 2 ^ d % 2 * 2 ^ d) := by decide +kernel
theorem setF_clr (p : Nat → Bool) (d : Nat) : ∀ n, setF p n - setF p n / 2 ^ d % 2 * 2 ^ d = setF (fun i => p i && decide (i ≠ d)) n
  | 0 => by simp [setF]
  | n + 1 => by
    have ih := setF_clr p d n
    have hl := setF_lt p n
    rw [setF_div] at ih ⊢
    rw [setF, setF]
    rcases Nat.lt_trichotomy d n with h | h | h
    · have hb : (if d < n ∧ p d = true then 1 else 0) * 2 ^ d ≤ setF p n := by
        have := setF_div p d n
        rw [← this]
        have h1 := Nat.div_mul_le_self (setF p n) (2 ^ d)
        have h2 := Nat.mod_le (setF p n / 2 ^ d) 2
        exact Nat.le_trans (Nat.mul_le_mul_right _ h2) h1
      rw [← ih]
      have e1 : (d < n + 1 ∧ p d = true) = (d < n ∧ p d = true) := by simp [h, Nat.lt_succ_of_lt h]
      simp only [e1, show n ≠ d by omega, ne_eq, not_false_eq_true, decide_true, Bool.and_true]
      omega
    · subst h
      rw [if_neg (by omega)] at ih
      simp only [Nat.zero_mul, Nat.sub_zero] at ih
      rw [← ih]
      by_cases hp : p d = true <;> simp [hp]
    · have e1 : (if d < n + 1 ∧ p d = true then 1 else 0) = 0 := if_neg (by omega)
      have e2 : (if d < n ∧ p d = true then 1 else 0) = 0 := if_neg (by omega)
      rw [e2, Nat.zero_mul, Nat.sub_zero] at ih
      rw [e1, Nat.zero_mul, Nat.sub_zero, ← ih]
      simp [show n ≠ d by omega]
theorem setF_1024 (p : Nat → Bool) {n : Nat} (h : n ≤ 10) : setF p n < 1024 := Nat.lt_of_lt_of_le (setF_lt p n) (Nat.pow_le_pow_right (n := 2) (by omega) h)
theorem Iv.nd {N : Vc} (h : Iv N) : N 1 = nI (nd N) ∧ nd N ≤ 10 := h.1
theorem Iv.br {N : Vc} (h : Iv N) {d : Nat} (hd : d < 10) : N (20 + 5 * d + 3) = nI (brF N d) ∧ brF N d < 4 := ⟨(h.2.2.2.2.2.1 d hd).2.2.2.1.1, Nat.lt_succ_of_le (h.2.2.2.2.2.1 d hd).2.2.2.1.2⟩
