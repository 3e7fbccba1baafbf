/-! THE PICTURE: a row of numbers as the reference keeps it (a passage), and what is thought of it -/
abbrev Vc : Type := Nat → Int32
abbrev BADv : Int32 := Int32.ofInt (-1000000001)
abbrev NOv : Int32 := Int32.ofInt (-1000000002)
abbrev FULLv : Int32 := Int32.ofInt (-1000000003)
abbrev NONEv : Int32 := Int32.ofInt (-1000000005)
abbrev NOTHINGv : Int32 := Int32.ofInt (-1000000011)
abbrev KINDv : Int32 := Int32.ofInt (-1000000012)
abbrev INDEXv : Int32 := Int32.ofInt (-1000000013)
abbrev SIZEv : Int32 := Int32.ofInt (-1000000014)
theorem Wp.eqL {w : Wt} {k : Nat} {M : Mt} {Q : Option Value → Mm → Prop} {pc : Nat} {L L' : List (Option Value)} {st : List Value} {h : Mm} (e : L = L') (hh : Wp w k M Q pc L' st h) : Wp w k M Q pc L st h := by rw [e]; exact hh
theorem Wp.eqS {w : Wt} {k : Nat} {M : Mt} {Q : Option Value → Mm → Prop} {pc : Nat} {L : List (Option Value)} {st st' : List Value} {h : Mm} (e : st = st') (hh : Wp w k M Q pc L st' h) : Wp w k M Q pc L st h := by rw [e]; exact hh
theorem Wp.eqH {w : Wt} {k : Nat} {M : Mt} {Q : Option Value → Mm → Prop} {pc : Nat} {L : List (Option Value)} {st : List Value} {h h' : Mm} (e : h = h') (hh : Wp w k M Q pc L st h') : Wp w k M Q pc L st h := by rw [e]; exact hh
/-- a number from 0 to n -/
def nN (x : Int32) : Nat := x.toNatClampNeg
def In (x : Int32) (n : Nat) : Prop := x = nI (nN x) ∧ nN x ≤ n
theorem nN_nI {n : Nat} (h : n < 2 ^ 31) : nN (nI n) = n := nI_clamp h
theorem In_nI {j n : Nat} (h : j ≤ n) (hn : n < 2 ^ 31) : In (nI j) n := by
  unfold In
  rw [nN_nI (by omega)]
  exact ⟨rfl, h⟩
theorem In_mono {x : Int32} {m n : Nat} (h : In x m) (hm : m ≤ n) : In x n := ⟨h.1, Nat.le_trans h.2 hm⟩
theorem In_of {x : Int32} {n : Nat} (hn : n < 2 ^ 31) (h0 : nI 0 ≤ x) (h1 : x ≤ nI n) : In x n := by
  obtain ⟨j, hj, rfl⟩ := nI_of2 (M := nI n) (n := n) (nI_toInt hn) (by rw [← nI_0]; exact Int32.not_lt.mpr h0) h1
  exact In_nI hj hn
theorem In_le {x : Int32} {n : Nat} (hn : n < 2 ^ 31) (h : In x n) : nI 0 ≤ x ∧ x ≤ nI n := by
  rw [h.1]
  have := h.2
  exact ⟨nI_le (Nat.zero_le _) (by omega), nI_le this hn⟩
/-- sets and counts -/
def setF (p : Nat → Bool) : Nat → Nat
  | 0 => 0
  | n + 1 => setF p n + (if p n then 2 ^ n else 0)
def cntF (p : Nat → Bool) : Nat → Nat
  | 0 => 0
  | n + 1 => cntF p n + (if p n then 1 else 0)
theorem setF_lt (p : Nat → Bool) : ∀ n, setF p n < 2 ^ n
  | 0 => by simp [setF]
  | n + 1 => by
    have := setF_lt p n
    rw [setF, Nat.pow_succ]
    split <;> omega
theorem cntF_le (p : Nat → Bool) : ∀ n, cntF p n ≤ n
  | 0 => by simp [cntF]
  | n + 1 => by
    have := cntF_le p n
    rw [cntF]
    split <;> omega
theorem setF_congr {p q : Nat → Bool} : ∀ {n : Nat}, (∀ i, i < n → p i = q i) → setF p n = setF q n
  | 0, _ => rfl
  | n + 1, h => by rw [setF, setF, setF_congr (fun i hi => h i (by omega)), h n (by omega)]
theorem cntF_congr {p q : Nat → Bool} : ∀ {n : Nat}, (∀ i, i < n → p i = q i) → cntF p n = cntF q n
  | 0, _ => rfl
  | n + 1, h => by rw [cntF, cntF, cntF_congr (fun i hi => h i (by omega)), h n (by omega)]
theorem shl1 : ∀ i, i < 20 → nI 1 <<< (nI i &&& 31) = nI (2 ^ i) := by decide +kernel
theorem or_pow {m i : Nat} (hm : m < 2 ^ i) : nI m ||| nI (2 ^ i) = nI (m + 2 ^ i) := by
  have h : nI m ||| nI (2 ^ i) = nI (m ||| 2 ^ i) := by
    unfold nI
    apply Int32.toBitVec_inj.mp
    simp [BitVec.ofNat_or]
  rw [h]
  congr 1
  have := Nat.two_pow_add_eq_or_of_lt hm 1
  rw [Nat.mul_one] at this
  rw [Nat.or_comm, ← this, Nat.add_comm]
theorem or_0 (m : Nat) : nI m ||| nI 0 = nI m := by
  unfold nI
  apply Int32.toBitVec_inj.mp
  simp
/-- diggers, branches -/
def dK (N : Vc) (d j : Nat) : Int32 := N (20 + 5 * d + j)
def bK (N : Vc) (b j : Nat) : Int32 := N (8 + 3 * b + j)
def nd (N : Vc) : Nat := nN (N 1)
def inB (N : Vc) (b : Nat) (d : Nat) : Bool := decide (dK N d 3 = nI b)
def litB (N : Vc) (b : Nat) (d : Nat) : Bool := decide (dK N d 3 = nI b ∧ 0 < dK N d 2)
def ahF (N : Vc) (b : Nat) : Int32 := bK N b 0 - bK N b 2
def clF (v lo hi : Int32) : Int32 := if v < lo then lo else if hi < v then hi else v
/-- texts: the reference's code, run on a list -/
noncomputable def two (s a b : Int32) : Int32 :=
  if s = Int32.ofInt (-1) then bI (a ≠ 0 ∨ b ≠ 0) else if s = Int32.ofInt (-2) then bI (a ≠ 0 ∧ b ≠ 0) else if s = Int32.ofInt (-3) then bI (a < b) else if s = Int32.ofInt (-4) then bI (a = b) else if s = Int32.ofInt (-5) then bI (b < a)
  else if s = Int32.ofInt (-6) then a + b else if s = Int32.ofInt (-7) then a - b else if s = Int32.ofInt (-8) then a * b else if b = 0 then 0 else a / b
noncomputable def tokS (fc : Nat → Int32) (s : Int32) (k : List Int32) : List Int32 :=
  if nI 0 ≤ s then (if s < nI 10000 then s else fc (nN s - 10000)) :: k
  else if s = Int32.ofInt (-10) then (match k with
    | a :: r => bI (a = 0) :: r
    | [] => [])
  else (match k with
    | b :: a :: r => two s a b :: r
    | _ => [])
noncomputable def runT (fc : Nat → Int32) (c : Nat → Int32) : Nat → List Int32
  | 0 => []
  | n + 1 => tokS fc (c n) (runT fc c n)
/-- how many lie on the stack behind n signs -/
def dep (c : Nat → Int32) : Nat → Nat
  | 0 => 0
  | n + 1 => if nI 0 ≤ c n then dep c n + 1 else if c n = Int32.ofInt (-10) then dep c n else dep c n - 1
/-- a code that can be run: each sign finds what it needs; one number is left -/
def wfC (m : Nat) (c : Nat → Int32) (n : Nat) : Prop := (∀ i, i < n → (nI 0 ≤ c i ∧ c i < nI (10000 + m)) ∨ (c i = Int32.ofInt (-10) ∧ 1 ≤ dep c i) ∨ (Int32.ofInt (-9) ≤ c i ∧ c i < nI 0 ∧ 2 ≤ dep c i)) ∧ dep c n = 1 ∧ n ≤ 96
noncomputable def evF (N : Vc) (t : Nat) (fc : Nat → Int32) : Int32 := (runT fc (fun i => N (98 + 96 * t + i)) (nN (N (70 + 2 * t)) % 1000)).getLastD 0
def lastT (N : Vc) (key : Nat) : Nat → Option Nat
  | 0 => none
  | t + 1 => if nN (N (70 + 2 * t)) / 1000 = key then some t else lastT N key t
def lawT (N : Vc) (key : Nat) : Option Nat := lastT N key (nN (N 7))
def fc4 (a b c d : Int32) : Nat → Int32 := fun i => if i = 0 then a else if i = 1 then b else if i = 2 then c else d
def brF (N : Vc) (d : Nat) : Nat := nN (dK N d 3)
noncomputable def plF (N : Vc) (d : Nat) : Int32 := clF (match lawT N 0 with
  | none => dK N d 1 - bK N (brF N d) 1
  | some t => evF N t (fc4 (dK N d 1) (bK N (brF N d) 1) (ahF N (brF N d)) (nI (cntF (litB N (brF N d)) (nd N))))) (nI 0) (nI 99)
def feB (N : Vc) (d : Nat) (i : Nat) : Bool := decide ((dK N i 0 = nI 2 ∨ dK N i 0 = nI 4) ∧ i ≠ d) && litB N (brF N d) i
def farF (N : Vc) (d : Nat) : Prop := nI 40 < ahF N (brF N d)
