/-! texts, and what holds of a row -/
def pcF (m : Nat) : Nat := cntF (fun i => m.testBit i) 10
theorem pcF_step : ∀ m, m < 1024 → m ≠ 0 → (m &&& (m - 1)) < m ∧ pcF m = pcF (m &&& (m - 1)) + 1 := by decide +kernel
theorem pcF_0 : pcF 0 = 0 := by decide +kernel
theorem and_nI (a b : Nat) : nI a &&& nI b = nI (a &&& b) := by
  unfold nI
  apply Int32.toBitVec_inj.mp
  simp [BitVec.ofNat_and]
theorem nI_eq0 {n : Nat} (h : n < 2 ^ 31) : nI n = 0 ↔ n = 0 := by rw [← nI_0]; exact nI_eq h (by omega)
theorem pcF_pow : ∀ n, n < 10 → ∀ m, m < 2 ^ n → pcF (m + 2 ^ n) = pcF m + 1 := by decide +kernel
theorem pcF_set (p : Nat → Bool) : ∀ n, n ≤ 10 → pcF (setF p n) = cntF p n
  | 0, _ => pcF_0
  | n + 1, h => by
    have ih := pcF_set p n (by omega)
    rw [setF, cntF]
    split
    · rw [pcF_pow n (by omega) _ (setF_lt p n), ih]
    · rw [Nat.add_zero, Nat.add_zero, ih]
/-- a stack in a row: the top of the list lies highest -/
def stk (f : Vc) : List Int32 → Prop
  | [] => True
  | x :: r => f r.length = x ∧ stk f r
theorem stk_upd {f : Vc} {j : Nat} {x : Int32} : ∀ {l : List Int32}, l.length ≤ j → stk f l → stk (upd f j x) l
  | [], _, _ => trivial
  | y :: r, hl, h => ⟨by
      have : r.length ≠ j := by simp at hl; omega
      simp only [upd, this, if_false]
      exact h.1, stk_upd (by simp at hl; omega) h.2⟩
def nmF (key : Nat) : Nat := if key = 0 then 4 else 2
def TX (N : Vc) (t : Nat) : Prop := In (N (70 + 2 * t)) 2999 ∧ wfC (nmF (nN (N (70 + 2 * t)) / 1000)) (fun i => N (98 + 96 * t + i)) (nN (N (70 + 2 * t)) % 1000)
def Iv (N : Vc) : Prop := In (N 1) 10 ∧ In (N 3) 99 ∧ In (N 4) 100 ∧ In (N 7) 14 ∧ (∀ b, b < 4 → In (bK N b 0) 999 ∧ In (bK N b 1) 99 ∧ In (bK N b 2) (nN (bK N b 0))) ∧ (∀ d, d < 10 → In (dK N d 0) 5 ∧ In (dK N d 1) 99 ∧ In (dK N d 2) 99 ∧ In (dK N d 3) 3 ∧ In (dK N d 4) 9999) ∧ ∀ t, t < nN (N 7) → TX N t
theorem tokS_n {fc : Nat → Int32} {s : Int32} {k : List Int32} (h : nI 0 ≤ s) : tokS fc s k = (if s < nI 10000 then s else fc (nN s - 10000)) :: k := by
  unfold tokS
  rw [if_pos h]
theorem tokS_not {fc : Nat → Int32} {a : Int32} {k : List Int32} : tokS fc (Int32.ofInt (-10)) (a :: k) = bI (a = 0) :: k := by
  unfold tokS
  rw [if_neg (by decide), if_pos rfl]
theorem tokS_two {fc : Nat → Int32} {s a b : Int32} {k : List Int32} (h : ¬ nI 0 ≤ s) (hm : ¬ s = Int32.ofInt (-10)) : tokS fc s (b :: a :: k) = two s a b :: k := by
  unfold tokS
  rw [if_neg h, if_neg hm]
theorem runT_len {fc c : Nat → Int32} {m n : Nat} (h : wfC m c n) : ∀ i, i ≤ n → (runT fc c i).length = dep c i
  | 0, _ => rfl
  | i + 1, hi => by
    have ih := runT_len (fc := fc) h i (by omega)
    rw [runT, dep]
    rcases h.1 i (by omega) with ⟨h1, -⟩ | ⟨h1, h2⟩ | ⟨h1, h2, h3⟩
    · rw [if_pos h1, tokS_n h1, List.length_cons, ih]
    · have hn : ¬ nI 0 ≤ c i := by rw [h1]; decide
      rw [if_neg hn, if_pos h1]
      cases hr : runT fc c i with
      | nil => rw [hr] at ih; simp at ih; omega
      | cons a r => rw [h1, tokS_not]; rw [hr] at ih; simpa using ih
    · have hn : ¬ nI 0 ≤ c i := by rw [nI_0] at h2 ⊢; exact Int32.not_le.mpr h2
      have hm : ¬ c i = Int32.ofInt (-10) := by intro e; rw [e] at h1; exact absurd h1 (by decide)
      rw [if_neg hn, if_neg hm]
      cases hr : runT fc c i with
      | nil => rw [hr] at ih; simp at ih; omega
      | cons a r =>
        cases r with
        | nil => rw [hr] at ih; simp at ih; omega
        | cons b r => rw [tokS_two hn hm]; rw [hr] at ih; simp at ih; simp; omega
theorem dep_le (c : Nat → Int32) : ∀ i, dep c i ≤ i
  | 0 => Nat.le_refl _
  | i + 1 => by
    have := dep_le c i
    rw [dep]
    split
    · omega
    · split <;> omega
theorem eq_of_toInt {x : Int32} {v : Int} (h : x.toInt = v) : x = Int32.ofInt v := by rw [← h, Int32.ofInt_toInt]
theorem ne_toInt {x : Int32} {v : Int} (h : ¬ x = Int32.ofInt v) : x.toInt ≠ v := fun e => h (eq_of_toInt e)
/-- a table of ways -/
theorem p_table {w : Wt} {k : Nat} {M : Mt} {Q : Option Value → Mm → Prop} {pc : Nat} {L : List (Option Value)} {st : List Value} {h : Mm} {dflt lo hi : Int} {offs : Array Int} {len : Nat} {x : Int32} (hd : decode (m_c M) pc = .ok (.tableswitch dflt lo hi offs, len)) (hz : hi = lo + offs.size - 1)
    (hin : ∀ j : Nat, j < offs.size → x = Int32.ofInt (lo + j) → ∃ (off : Int) (tgt : Nat), offs[j]? = some off ∧ (pc : Int) + off = (tgt : Int) ∧ Wp w k M Q tgt L st h)
    (hout : (x.toInt < lo ∨ hi < x.toInt) → ∃ tgt : Nat, (pc : Int) + dflt = (tgt : Int) ∧ Wp w k M Q tgt L st h) : Wp w k M Q pc L (.int x :: st) h := by
  by_cases h1 : x.toInt < lo
  · obtain ⟨tgt, e, kk⟩ := hout (Or.inl h1)
    exact p_tableOut tgt hd (Or.inl h1) e kk
  · by_cases h2 : hi < x.toInt
    · obtain ⟨tgt, e, kk⟩ := hout (Or.inr h2)
      exact p_tableOut tgt hd (Or.inr h2) e kk
    · obtain ⟨off, tgt, e1, e2, kk⟩ := hin (x.toInt - lo).toNat (by omega) (eq_of_toInt (by omega))
      exact p_tableIn tgt hd h1 h2 e1 e2 kk
