/-! the constructors -/
theorem uE_s {V : Nat → Nat → Value} {a k : Nat} {v : Value} : uE V a k v a k = v := if_pos ⟨rfl, rfl⟩
theorem uE_nk {V : Nat → Nat → Value} {a k b j : Nat} {v : Value} (h : ¬ (b = a ∧ j = k)) : uE V a k v b j = V b j := if_neg h
theorem uE_ne {V : Nat → Nat → Value} {a k b : Nat} {v : Value} (h : b ≠ a) : uE V a k v b = V b := funext (fun _ => if_neg (fun q => h q.1))
theorem uV_s {V : Nat → Nat → Value} {a : Nat} {f : Nat → Value} : uV V a f a = f := if_pos rfl
theorem uV_n {V : Nat → Nat → Value} {a b : Nat} {f : Nat → Value} (h : b ≠ a) : uV V a f b = V b := if_neg h
def h97 (k : Nat) : Int32 := if k = 18 then Int32.ofInt 10 else if k = 15 then Int32.ofInt 10 else if k = 12 then Int32.ofInt 10 else if k = 9 then Int32.ofInt 10 else if k = 3 then Int32.ofInt 3 else if k = 0 then Int32.ofInt 1 else 0
def h103 (k : Nat) : Int32 := if k = 0 then Int32.ofInt 0 else if k = 1 then Int32.ofInt 3 else if k = 2 then Int32.ofInt 6 else Int32.ofInt 10
/-- what all numbers are at the start -/
def hI (a k : Nat) : Int32 := if a = 97 then h97 k else if a = 102 then Int32.ofInt (kyC k) else if a = 103 then h103 k else if a = 109 then Int32.ofInt (-1) else if a = 28 ∨ a = 46 ∨ a = 64 then Int32.ofInt (-1000000005) else if (kd0 a).1 = 0 then (if k = 1 then Int32.ofInt 10 else 0) else if (kd0 a).1 = 2 then (if k = 6 then Int32.ofInt 3 else if k = 11 then Int32.ofInt 1 else 0) else if (kd0 a).1 = 4 then (if k = 1 then Int32.ofInt (-1) else 0) else 0
theorem ao_of {w : Wt} {s : State} (h : Kw w s) : va_AO RX0 s ∧ va_AO RX1 s ∧ va_AO RX4 s ∧ va_AO RX5 s := h.2.1.2.2.2.2.2.2
set_option maxRecDepth 20000 in
set_option maxHeartbeats 4000000 in
theorem i_X1 (w : Wt) {k : Nat} (hk : 1 ≤ k) (a n : Nat) (V : Nat → Nat → Value) : Gp w k 0 0 MX1_init (fun r u => r = none ∧ u = Mv n V) 0 [some (.ref a)] [] (Mv (n) V) := by
  refine g_aload_n (i := 0) (by decide +kernel) rfl ?_
  refine g_objI (idx := 3) (by decide +kernel) (tbG_of 188 (by decide +kernel) (by decide +kernel)) (Nat.le_of_ble_eq_true rfl) (by omega) ?_
  refine g_vret rfl (by decide +kernel) ?_
  exact ⟨rfl, rfl⟩
set_option maxRecDepth 20000 in
set_option maxHeartbeats 4000000 in
theorem i_X0 (w : Wt) {k : Nat} (hk : 1 ≤ k) (a n : Nat) (ha : a < n) (hka : (kd0 a).1 = 0) (V : Nat → Nat → Value) : Gp w k 0 0 MX0_init (fun r u => r = none ∧ u = Mv n (uE (V) (a) 1 (.int (Int32.ofInt 10)))) 0 [some (.ref a)] [] (Mv (n) V) := by
  refine g_aload_n (i := 0) (by decide +kernel) rfl ?_
  refine g_objI (idx := 1) (by decide +kernel) (tbG_of 165 (by decide +kernel) (by decide +kernel)) (Nat.le_of_ble_eq_true rfl) (by omega) ?_
  refine g_aload_n (i := 0) (by decide +kernel) rfl ?_
  refine g_bipush (n := 10) (by decide +kernel) (by decide) ?_
  refine v_put (idx := 7) (ty := .int) (by decide +kernel) ⟨fo0_7, fun C T N h => by cases h; exact ⟨(by decide +kernel), (by decide +kernel)⟩⟩ (by omega) hka rfl rfl ?_
  refine g_vret rfl (by decide +kernel) ?_
  exact ⟨rfl, rfl⟩
set_option maxRecDepth 20000 in
set_option maxHeartbeats 4000000 in
theorem i_X4 (w : Wt) {k : Nat} (hk : 1 ≤ k) (a n : Nat) (ha : a < n) (hu : n < 900) (hka : (kd0 a).1 = 4) (hk0 : kd0 n = (10, 24)) (V : Nat → Nat → Value) : Gp w k 1 24 MX4_init (fun r u => r = none ∧ u = Mv (n + 1) (uE (uE (uV (V) (n) (fun _ => .int 0)) (a) 0 (.ref (n))) (a) 1 (.int (Int32.ofInt (-1))))) 0 [some (.ref a)] [] (Mv (n) V) := by
  refine g_aload_n (i := 0) (by decide +kernel) rfl ?_
  refine g_objI (idx := 3) (by decide +kernel) (tbG_of 270 (by decide +kernel) (by decide +kernel)) (Nat.le_of_ble_eq_true rfl) (by omega) ?_
  refine g_aload_n (i := 0) (by decide +kernel) rfl ?_
  refine g_bipush (n := 24) (by decide +kernel) (by decide) ?_
  refine v_newa (atype := .int) (bc := 0) (bs := 0) 0 10 24 (by decide +kernel) hk0 rfl (by decide) (tbG_of 103 (by decide +kernel) (by decide +kernel)) (by decide) (by decide) (by decide) rfl (by omega) ?_
  refine v_putF (idx := 9) (ty := .array .int) (by decide +kernel) ⟨fo4_9, fun C T N h => by cases h; exact ⟨(by decide +kernel), (by decide +kernel), rfl⟩⟩ rfl (by omega) hka rfl rfl ?_
  refine g_aload_n (i := 0) (by decide +kernel) rfl ?_
  refine g_iconst (n := -1) (by decide +kernel) ?_
  refine v_put (idx := 15) (ty := .int) (by decide +kernel) ⟨fo4_15, fun C T N h => by cases h; exact ⟨(by decide +kernel), (by decide +kernel)⟩⟩ (by omega) hka rfl rfl ?_
  refine g_vret rfl (by decide +kernel) ?_
  exact ⟨rfl, rfl⟩
set_option maxRecDepth 20000 in
set_option maxHeartbeats 4000000 in
theorem i_X5 (w : Wt) {k : Nat} (hk : 3 ≤ k) (a n : Nat) (ha : a < n) (hu : n < 800) (hka : (kd0 a).1 = 5) (hk0 : kd0 n = (1, 5)) (hk1 : kd0 (n + 1) = (4, 3)) (hk2 : kd0 (n + 2) = (10, 24)) (V : Nat → Nat → Value) : Gp w k 3 32 MX5_init (fun r u => r = none ∧ u = Mv (n + 3) (uE (uE (uE (uV (uV (uE (uV (V) (n) (df 1)) (a) 2 (.ref (n))) (n + 1) (df 4)) (n + 2) (fun _ => .int 0)) (n + 1) 0 (.ref (n + 2))) (n + 1) 1 (.int (Int32.ofInt (-1)))) (a) 3 (.ref (n + 1)))) 0 [some (.ref a)] [] (Mv (n) V) := by
  refine g_aload_n (i := 0) (by decide +kernel) rfl ?_
  refine g_objI (idx := 1) (by decide +kernel) (tbG_of 290 (by decide +kernel) (by decide +kernel)) (Nat.le_of_ble_eq_true rfl) (by omega) ?_
  refine g_aload_n (i := 0) (by decide +kernel) rfl ?_
  refine v_new (bc := 2) (bs := 27) 1 5 7 (by decide +kernel) hk0 (by decide) rfl (tbG_of 291 (by decide +kernel) (by decide +kernel)) (tbG_of 184 (by decide +kernel) (by decide +kernel)) (tbG_of 56 (by decide +kernel) (by decide +kernel)) dft1 (by omega) ?_
  refine g_dup (by decide +kernel) rfl ?_
  refine g_callI (idx := 9) (bc' := 0) (bs' := 0) (bc2 := 2) (bs2 := 27) [] (by decide +kernel) kiX5_9 rfl rfl rfl (fun v h => absurd h List.not_mem_nil) (by decide) rfl (Nat.le_of_ble_eq_true rfl) (by omega) (i_X1 w (k := k - 1) (by omega) (n) (n + 1) _) (fun r u' hq => ?_)
  obtain ⟨rfl, rfl⟩ := hq
  refine v_putF (idx := 10) (ty := .object "SpoonPassage$Digger") (by decide +kernel) ⟨fo5_10, fun C T N h => by cases h; exact ⟨(by decide +kernel), (by decide +kernel), rfl⟩⟩ rfl (by omega) hka rfl rfl ?_
  refine g_aload_n (i := 0) (by decide +kernel) rfl ?_
  refine v_new (bc := 1) (bs := 24) 4 3 16 (by decide +kernel) hk1 (by decide) rfl (tbG_of 293 (by decide +kernel) (by decide +kernel)) (tbG_of 266 (by decide +kernel) (by decide +kernel)) (tbG_of 57 (by decide +kernel) (by decide +kernel)) dft4 (by omega) ?_
  refine g_dup (by decide +kernel) rfl ?_
  refine g_callI (idx := 18) (bc' := 1) (bs' := 24) (bc2 := 0) (bs2 := 0) [] (by decide +kernel) kiX5_18 rfl rfl rfl (fun v h => absurd h List.not_mem_nil) (by decide) rfl (Nat.le_of_ble_eq_true rfl) (by omega) (i_X4 w (k := k - 1) (by omega) (n + 1) (n + 2) (by omega) (by omega) (by rw [hk1]) hk2 _) (fun r u' hq => ?_)
  obtain ⟨rfl, rfl⟩ := hq
  refine v_putF (idx := 19) (ty := .object "SpoonPassage$Sheet") (by decide +kernel) ⟨fo5_19, fun C T N h => by cases h; exact ⟨(by decide +kernel), (by decide +kernel), rfl⟩⟩ rfl (by omega) hka rfl rfl ?_
  refine g_vret rfl (by decide +kernel) ?_
  exact ⟨rfl, rfl⟩
set_option maxRecDepth 20000 in
set_option maxHeartbeats 4000000 in
theorem dn_X6 (V : Nat → Nat → Value)  : ∀ a, 1 ≤ a → a < 8 → ∀ k, k < (kd0 a).2 → (uE (uV (uE (uV (uE (uV (uE (uV (uE (uV (uE (uV (V) (2) (fun _ => .int 0)) (1) 0 (.ref (2))) (3) (fun _ => .int 0)) (1) 1 (.ref (3))) (4) (fun _ => .int 0)) (1) 2 (.ref (4))) (5) (fun _ => .int 0)) (1) 3 (.ref (5))) (6) (fun _ => .int 0)) (1) 4 (.ref (6))) (7) (fun _ => .int 0)) (1) 5 (.ref (7))) a k = vl hI a k := by
  intro a h1 h2 k hk
  rcases (show a = 1 ∨ a = 2 ∨ a = 3 ∨ a = 4 ∨ a = 5 ∨ a = 6 ∨ a = 7 by omega) with e | e | e | e | e | e | e
  · subst e; rw [show (kd0 1).2 = 6 from (by decide +kernel)] at hk
    rcases (show k = 0 ∨ k = 1 ∨ k = 2 ∨ k = 3 ∨ k = 4 ∨ k = 5 by omega) with q | q | q | q | q | q <;> subst q <;> rfl
  · subst e; rfl
  · subst e; rfl
  · subst e; rfl
  · subst e; rfl
  · subst e; rfl
  · subst e; rfl
set_option maxRecDepth 20000 in
set_option maxHeartbeats 4000000 in
theorem i_X6 (w : Wt) {k : Nat} (hk : 1 ≤ k)  (V : Nat → Nat → Value) : Gp w k 6 1486 MX6_init (fun r u => r = none ∧ ∃ V', u = Mv 8 V' ∧ (∀ b, b < 1 → V' b = V b) ∧ ∀ a, 1 ≤ a → a < 8 → ∀ k, k < (kd0 a).2 → V' a k = vl hI a k) 0 [some (.ref 1)] [] (Mv (2) V) := by
  refine g_aload_n (i := 0) (by decide +kernel) rfl ?_
  refine g_objI (idx := 3) (by decide +kernel) (tbG_of 81 (by decide +kernel) (by decide +kernel)) (Nat.le_of_ble_eq_true rfl) (by omega) ?_
  refine g_aload_n (i := 0) (by decide +kernel) rfl ?_
  refine g_bipush (n := 14) (by decide +kernel) (by decide) ?_
  refine v_newa (atype := .int) (bc := 5) (bs := 1472) 0 10 14 (by decide +kernel) (by decide +kernel) rfl (by decide) (tbG_of 103 (by decide +kernel) (by decide +kernel)) (by decide) (by decide) (by decide) rfl (by omega) ?_
  refine v_putF (idx := 9) (ty := .array .int) (by decide +kernel) ⟨fo6_9, fun C T N h => by cases h; exact ⟨(by decide +kernel), (by decide +kernel), rfl⟩⟩ rfl (by omega) rfl rfl rfl ?_
  refine g_aload_n (i := 0) (by decide +kernel) rfl ?_
  refine g_bipush (n := 14) (by decide +kernel) (by decide) ?_
  refine v_newa (atype := .int) (bc := 4) (bs := 1458) 0 10 14 (by decide +kernel) (by decide +kernel) rfl (by decide) (tbG_of 103 (by decide +kernel) (by decide +kernel)) (by decide) (by decide) (by decide) rfl (by omega) ?_
  refine v_putF (idx := 15) (ty := .array .int) (by decide +kernel) ⟨fo6_15, fun C T N h => by cases h; exact ⟨(by decide +kernel), (by decide +kernel), rfl⟩⟩ rfl (by omega) rfl rfl rfl ?_
  refine g_aload_n (i := 0) (by decide +kernel) rfl ?_
  refine g_bipush (n := 14) (by decide +kernel) (by decide) ?_
  refine v_newa (atype := .int) (bc := 3) (bs := 1444) 0 10 14 (by decide +kernel) (by decide +kernel) rfl (by decide) (tbG_of 103 (by decide +kernel) (by decide +kernel)) (by decide) (by decide) (by decide) rfl (by omega) ?_
  refine v_putF (idx := 18) (ty := .array .int) (by decide +kernel) ⟨fo6_18, fun C T N h => by cases h; exact ⟨(by decide +kernel), (by decide +kernel), rfl⟩⟩ rfl (by omega) rfl rfl rfl ?_
  refine g_aload_n (i := 0) (by decide +kernel) rfl ?_
  refine g_sipush (n := 1344) (by decide +kernel) (by decide) ?_
  refine v_newa (atype := .int) (bc := 2) (bs := 100) 0 10 1344 (by decide +kernel) (by decide +kernel) rfl (by decide) (tbG_of 103 (by decide +kernel) (by decide +kernel)) (by decide) (by decide) (by decide) rfl (by omega) ?_
  refine v_putF (idx := 21) (ty := .array .int) (by decide +kernel) ⟨fo6_21, fun C T N h => by cases h; exact ⟨(by decide +kernel), (by decide +kernel), rfl⟩⟩ rfl (by omega) rfl rfl rfl ?_
  refine g_aload_n (i := 0) (by decide +kernel) rfl ?_
  refine g_iconst (n := 4) (by decide +kernel) ?_
  refine v_newa (atype := .int) (bc := 1) (bs := 96) 0 10 4 (by decide +kernel) (by decide +kernel) rfl (by decide) (tbG_of 103 (by decide +kernel) (by decide +kernel)) (by decide) (by decide) (by decide) rfl (by omega) ?_
  refine v_putF (idx := 24) (ty := .array .int) (by decide +kernel) ⟨fo6_24, fun C T N h => by cases h; exact ⟨(by decide +kernel), (by decide +kernel), rfl⟩⟩ rfl (by omega) rfl rfl rfl ?_
  refine g_aload_n (i := 0) (by decide +kernel) rfl ?_
  refine g_bipush (n := 96) (by decide +kernel) (by decide) ?_
  refine v_newa (atype := .int) (bc := 0) (bs := 0) 0 10 96 (by decide +kernel) (by decide +kernel) rfl (by decide) (tbG_of 103 (by decide +kernel) (by decide +kernel)) (by decide) (by decide) (by decide) rfl (by omega) ?_
  refine v_putF (idx := 27) (ty := .array .int) (by decide +kernel) ⟨fo6_27, fun C T N h => by cases h; exact ⟨(by decide +kernel), (by decide +kernel), rfl⟩⟩ rfl (by omega) rfl rfl rfl ?_
  refine g_vret rfl (by decide +kernel) ?_
  exact ⟨rfl, _, rfl, fun b hb => by repeat (first | rw [uE_ne (by omega)] | rw [uV_n (by omega)]), dn_X6 V⟩
set_option maxRecDepth 20000 in
set_option maxHeartbeats 4000000 in
theorem dn_X3 (V : Nat → Nat → Value)  : ∀ a, 8 ≤ a → a < 11 → ∀ k, k < (kd0 a).2 → (uE (uV (uE (uV (uV V 8 (df 3)) (9) (fun _ => .int 0)) (8) 0 (.ref (9))) (10) (fun _ => .int 0)) (8) 10 (.ref (10))) a k = vl hI a k := by
  intro a h1 h2 k hk
  rcases (show a = 8 ∨ a = 9 ∨ a = 10 by omega) with e | e | e
  · subst e; rw [show (kd0 8).2 = 12 from (by decide +kernel)] at hk
    rcases (show k = 0 ∨ k = 1 ∨ k = 2 ∨ k = 3 ∨ k = 4 ∨ k = 5 ∨ k = 6 ∨ k = 7 ∨ k = 8 ∨ k = 9 ∨ k = 10 ∨ k = 11 by omega) with q | q | q | q | q | q | q | q | q | q | q | q <;> subst q <;> rfl
  · subst e; rfl
  · subst e; rfl
set_option maxRecDepth 20000 in
set_option maxHeartbeats 4000000 in
theorem i_X3 (w : Wt) {k : Nat} (hk : 1 ≤ k)  (V : Nat → Nat → Value) : Gp w k 2 192 MX3_init (fun r u => r = none ∧ ∃ V', u = Mv 11 V' ∧ (∀ b, b < 8 → V' b = V b) ∧ ∀ a, 8 ≤ a → a < 11 → ∀ k, k < (kd0 a).2 → V' a k = vl hI a k) 0 [some (.ref 8)] [] (Mv (9) (uV V 8 (df 3))) := by
  refine g_aload_n (i := 0) (by decide +kernel) rfl ?_
  refine g_objI (idx := 3) (by decide +kernel) (tbG_of 109 (by decide +kernel) (by decide +kernel)) (Nat.le_of_ble_eq_true rfl) (by omega) ?_
  refine g_aload_n (i := 0) (by decide +kernel) rfl ?_
  refine g_bipush (n := 96) (by decide +kernel) (by decide) ?_
  refine v_newa (atype := .int) (bc := 1) (bs := 96) 0 10 96 (by decide +kernel) (by decide +kernel) rfl (by decide) (tbG_of 103 (by decide +kernel) (by decide +kernel)) (by decide) (by decide) (by decide) rfl (by omega) ?_
  refine v_putF (idx := 9) (ty := .array .int) (by decide +kernel) ⟨fo3_9, fun C T N h => by cases h; exact ⟨(by decide +kernel), (by decide +kernel), rfl⟩⟩ rfl (by omega) rfl rfl rfl ?_
  refine g_aload_n (i := 0) (by decide +kernel) rfl ?_
  refine g_bipush (n := 96) (by decide +kernel) (by decide) ?_
  refine v_newa (atype := .int) (bc := 0) (bs := 0) 0 10 96 (by decide +kernel) (by decide +kernel) rfl (by decide) (tbG_of 103 (by decide +kernel) (by decide +kernel)) (by decide) (by decide) (by decide) rfl (by omega) ?_
  refine v_putF (idx := 15) (ty := .array .int) (by decide +kernel) ⟨fo3_15, fun C T N h => by cases h; exact ⟨(by decide +kernel), (by decide +kernel), rfl⟩⟩ rfl (by omega) rfl rfl rfl ?_
  refine g_vret rfl (by decide +kernel) ?_
  exact ⟨rfl, _, rfl, fun b hb => by repeat (first | rw [uE_ne (by omega)] | rw [uV_n (by omega)]), dn_X3 V⟩
set_option maxRecDepth 20000 in
set_option maxHeartbeats 4000000 in
theorem dn_P11 (V : Nat → Nat → Value)  : ∀ a, 11 ≤ a → a < 29 → ∀ k, k < (kd0 a).2 → (uE (uE (uE (uE (uE (uE (uV (uE (uV (uE (uV (uE (uV (uE (uV (uE (uV (uE (uV (uE (uV (uE (uV (uE (uV (uE (uV (uE (uV (uE (uE (uV (uE (uE (uV (uE (uE (uV (uE (uE (uV (uE (uV (uE (uV V 11 (df 2)) (11) 3 (.ref (1))) (12) (fun _ => .null)) (11) 0 (.ref (12))) (13) (df 0)) (13) 1 (.int (Int32.ofInt 10))) (12) 0 (.ref (13))) (14) (df 0)) (14) 1 (.int (Int32.ofInt 10))) (12) 1 (.ref (14))) (15) (df 0)) (15) 1 (.int (Int32.ofInt 10))) (12) 2 (.ref (15))) (16) (df 0)) (16) 1 (.int (Int32.ofInt 10))) (12) 3 (.ref (16))) (17) (fun _ => .null)) (11) 1 (.ref (17))) (18) (df 1)) (17) 0 (.ref (18))) (19) (df 1)) (17) 1 (.ref (19))) (20) (df 1)) (17) 2 (.ref (20))) (21) (df 1)) (17) 3 (.ref (21))) (22) (df 1)) (17) 4 (.ref (22))) (23) (df 1)) (17) 5 (.ref (23))) (24) (df 1)) (17) 6 (.ref (24))) (25) (df 1)) (17) 7 (.ref (25))) (26) (df 1)) (17) 8 (.ref (26))) (27) (df 1)) (17) 9 (.ref (27))) (28) (fun _ => .int 0)) (11) 2 (.ref (28))) (28) 0 (.int (Int32.ofInt (-1000000005)))) (28) 1 (.int (Int32.ofInt (-1000000005)))) (28) 2 (.int (Int32.ofInt (-1000000005)))) (11) 6 (.int (Int32.ofInt 3))) (11) 11 (.int (Int32.ofInt 1))) a k = vl hI a k := by
  intro a h1 h2 k hk
  rcases (show a = 11 ∨ a = 12 ∨ a = 13 ∨ a = 14 ∨ a = 15 ∨ a = 16 ∨ a = 17 ∨ a = 18 ∨ a = 19 ∨ a = 20 ∨ a = 21 ∨ a = 22 ∨ a = 23 ∨ a = 24 ∨ a = 25 ∨ a = 26 ∨ a = 27 ∨ a = 28 by omega) with e | e | e | e | e | e | e | e | e | e | e | e | e | e | e | e | e | e
  · subst e; rw [show (kd0 11).2 = 12 from (by decide +kernel)] at hk
    rcases (show k = 0 ∨ k = 1 ∨ k = 2 ∨ k = 3 ∨ k = 4 ∨ k = 5 ∨ k = 6 ∨ k = 7 ∨ k = 8 ∨ k = 9 ∨ k = 10 ∨ k = 11 by omega) with q | q | q | q | q | q | q | q | q | q | q | q <;> subst q <;> rfl
  · subst e; rw [show (kd0 12).2 = 4 from (by decide +kernel)] at hk
    rcases (show k = 0 ∨ k = 1 ∨ k = 2 ∨ k = 3 by omega) with q | q | q | q <;> subst q <;> rfl
  · subst e; rw [show (kd0 13).2 = 3 from (by decide +kernel)] at hk
    rcases (show k = 0 ∨ k = 1 ∨ k = 2 by omega) with q | q | q <;> subst q <;> rfl
  · subst e; rw [show (kd0 14).2 = 3 from (by decide +kernel)] at hk
    rcases (show k = 0 ∨ k = 1 ∨ k = 2 by omega) with q | q | q <;> subst q <;> rfl
  · subst e; rw [show (kd0 15).2 = 3 from (by decide +kernel)] at hk
    rcases (show k = 0 ∨ k = 1 ∨ k = 2 by omega) with q | q | q <;> subst q <;> rfl
  · subst e; rw [show (kd0 16).2 = 3 from (by decide +kernel)] at hk
    rcases (show k = 0 ∨ k = 1 ∨ k = 2 by omega) with q | q | q <;> subst q <;> rfl
  · subst e; rw [show (kd0 17).2 = 10 from (by decide +kernel)] at hk
    rcases (show k = 0 ∨ k = 1 ∨ k = 2 ∨ k = 3 ∨ k = 4 ∨ k = 5 ∨ k = 6 ∨ k = 7 ∨ k = 8 ∨ k = 9 by omega) with q | q | q | q | q | q | q | q | q | q <;> subst q <;> rfl
  · subst e; rw [show (kd0 18).2 = 5 from (by decide +kernel)] at hk
    rcases (show k = 0 ∨ k = 1 ∨ k = 2 ∨ k = 3 ∨ k = 4 by omega) with q | q | q | q | q <;> subst q <;> rfl
  · subst e; rw [show (kd0 19).2 = 5 from (by decide +kernel)] at hk
    rcases (show k = 0 ∨ k = 1 ∨ k = 2 ∨ k = 3 ∨ k = 4 by omega) with q | q | q | q | q <;> subst q <;> rfl
  · subst e; rw [show (kd0 20).2 = 5 from (by decide +kernel)] at hk
    rcases (show k = 0 ∨ k = 1 ∨ k = 2 ∨ k = 3 ∨ k = 4 by omega) with q | q | q | q | q <;> subst q <;> rfl
  · subst e; rw [show (kd0 21).2 = 5 from (by decide +kernel)] at hk
    rcases (show k = 0 ∨ k = 1 ∨ k = 2 ∨ k = 3 ∨ k = 4 by omega) with q | q | q | q | q <;> subst q <;> rfl
  · subst e; rw [show (kd0 22).2 = 5 from (by decide +kernel)] at hk
    rcases (show k = 0 ∨ k = 1 ∨ k = 2 ∨ k = 3 ∨ k = 4 by omega) with q | q | q | q | q <;> subst q <;> rfl
  · subst e; rw [show (kd0 23).2 = 5 from (by decide +kernel)] at hk
    rcases (show k = 0 ∨ k = 1 ∨ k = 2 ∨ k = 3 ∨ k = 4 by omega) with q | q | q | q | q <;> subst q <;> rfl
  · subst e; rw [show (kd0 24).2 = 5 from (by decide +kernel)] at hk
    rcases (show k = 0 ∨ k = 1 ∨ k = 2 ∨ k = 3 ∨ k = 4 by omega) with q | q | q | q | q <;> subst q <;> rfl
  · subst e; rw [show (kd0 25).2 = 5 from (by decide +kernel)] at hk
    rcases (show k = 0 ∨ k = 1 ∨ k = 2 ∨ k = 3 ∨ k = 4 by omega) with q | q | q | q | q <;> subst q <;> rfl
  · subst e; rw [show (kd0 26).2 = 5 from (by decide +kernel)] at hk
    rcases (show k = 0 ∨ k = 1 ∨ k = 2 ∨ k = 3 ∨ k = 4 by omega) with q | q | q | q | q <;> subst q <;> rfl
  · subst e; rw [show (kd0 27).2 = 5 from (by decide +kernel)] at hk
    rcases (show k = 0 ∨ k = 1 ∨ k = 2 ∨ k = 3 ∨ k = 4 by omega) with q | q | q | q | q <;> subst q <;> rfl
  · subst e; rw [show (kd0 28).2 = 3 from (by decide +kernel)] at hk
    rcases (show k = 0 ∨ k = 1 ∨ k = 2 by omega) with q | q | q <;> subst q <;> rfl
set_option maxRecDepth 20000 in
set_option maxHeartbeats 4000000 in
theorem i_P11 (w : Wt) {k : Nat} (hk : 3 ≤ k)  (V : Nat → Nat → Value) : Gp w k 17 79 MX2_init (fun r u => r = none ∧ ∃ V', u = Mv 29 V' ∧ (∀ b, b < 11 → V' b = V b) ∧ ∀ a, 11 ≤ a → a < 29 → ∀ k, k < (kd0 a).2 → V' a k = vl hI a k) 0 [some (.ref 11), some (.ref 1), none] [] (Mv (12) (uV V 11 (df 2))) := by
  refine g_aload_n (i := 0) (by decide +kernel) rfl ?_
  refine g_objI (idx := 3) (by decide +kernel) (tbG_of 158 (by decide +kernel) (by decide +kernel)) (Nat.le_of_ble_eq_true rfl) (by omega) ?_
  refine g_aload_n (i := 0) (by decide +kernel) rfl ?_
  refine g_aload_n (i := 1) (by decide +kernel) rfl ?_
  refine v_putF (idx := 9) (ty := .object "SpoonPassage$Texts") (by decide +kernel) ⟨fo2_9, fun C T N h => by cases h; exact ⟨(by decide +kernel), (by decide +kernel), rfl⟩⟩ rfl (by omega) rfl rfl rfl ?_
  refine g_aload_n (i := 0) (by decide +kernel) rfl ?_
  refine g_iconst (n := 4) (by decide +kernel) ?_
  refine v_newq (bc := 16) (bs := 75) 3 14 4 15 (by decide +kernel) (by decide +kernel) rfl (by decide) (tbG_of 159 (by decide +kernel) (by decide +kernel)) (fun s h => (ao_of h).1) (by decide) (by decide) (by decide) (by omega) ?_
  refine v_putF (idx := 17) (ty := .array (.object "SpoonPassage$Branch")) (by decide +kernel) ⟨fo2_17, fun C T N h => by cases h; exact ⟨(by decide +kernel), (by decide +kernel), rfl⟩⟩ rfl (by omega) rfl rfl rfl ?_
  refine g_iconst (n := 0) (by decide +kernel) ?_
  refine g_istore_n (i := 2) (by decide +kernel) (by decide) ?_
  refine g_iload_n (i := 2) (by decide +kernel) rfl ?_
  refine g_iconst (n := 4) (by decide +kernel) ?_
  refine g_icmp_ge (off := 22) (tgt := 43) (by decide +kernel) (by decide) (fun q => absurd q (by decide)) (fun _ => ?_)
  refine g_aload_n (i := 0) (by decide +kernel) rfl ?_
  refine v_get (idx := 17) (r := .ref (12)) rfl (by decide +kernel) fo2_17 (by omega) rfl ?_
  refine g_iload_n (i := 2) (by decide +kernel) rfl ?_
  refine v_new (bc := 15) (bs := 72) 0 3 15 (by decide +kernel) (by decide +kernel) (by decide) rfl (tbG_of 159 (by decide +kernel) (by decide +kernel)) (tbG_of 161 (by decide +kernel) (by decide +kernel)) (tbG_of 55 (by decide +kernel) (by decide +kernel)) dft0 (by omega) ?_
  refine g_dup (by decide +kernel) rfl ?_
  refine g_callI (idx := 21) (bc' := 0) (bs' := 0) (bc2 := 15) (bs2 := 72) [] (by decide +kernel) kiX2_21 rfl rfl rfl (fun v h => absurd h List.not_mem_nil) (by decide) rfl (Nat.le_of_ble_eq_true rfl) (by omega) (i_X0 w (k := k - 1) (by omega) (13) (14) (by omega) rfl _) (fun r u' hq => ?_)
  obtain ⟨rfl, rfl⟩ := hq
  refine v_aast 3 0 14 0 4 3 (by decide +kernel) (by decide) (by decide) rfl (by omega) (by decide +kernel) (by decide) (by decide) rfl (by omega) (by decide +kernel) (by decide) ?_
  refine g_iinc (i := 2) (n := 1) (by decide +kernel) (by decide) rfl ?_
  refine g_goto (off := -21) (tgt := 19) (by decide +kernel) (by decide) ?_
  refine g_iload_n (i := 2) (by decide +kernel) rfl ?_
  refine g_iconst (n := 4) (by decide +kernel) ?_
  refine g_icmp_ge (off := 22) (tgt := 43) (by decide +kernel) (by decide) (fun q => absurd q (by decide)) (fun _ => ?_)
  refine g_aload_n (i := 0) (by decide +kernel) rfl ?_
  refine v_get (idx := 17) (r := .ref (12)) rfl (by decide +kernel) fo2_17 (by omega) rfl ?_
  refine g_iload_n (i := 2) (by decide +kernel) rfl ?_
  refine v_new (bc := 14) (bs := 69) 0 3 15 (by decide +kernel) (by decide +kernel) (by decide) rfl (tbG_of 159 (by decide +kernel) (by decide +kernel)) (tbG_of 161 (by decide +kernel) (by decide +kernel)) (tbG_of 55 (by decide +kernel) (by decide +kernel)) dft0 (by omega) ?_
  refine g_dup (by decide +kernel) rfl ?_
  refine g_callI (idx := 21) (bc' := 0) (bs' := 0) (bc2 := 14) (bs2 := 69) [] (by decide +kernel) kiX2_21 rfl rfl rfl (fun v h => absurd h List.not_mem_nil) (by decide) rfl (Nat.le_of_ble_eq_true rfl) (by omega) (i_X0 w (k := k - 1) (by omega) (14) (15) (by omega) rfl _) (fun r u' hq => ?_)
  obtain ⟨rfl, rfl⟩ := hq
  refine v_aast 3 1 14 0 4 3 (by decide +kernel) (by decide) (by decide) rfl (by omega) (by decide +kernel) (by decide) (by decide) rfl (by omega) (by decide +kernel) (by decide) ?_
  refine g_iinc (i := 2) (n := 1) (by decide +kernel) (by decide) rfl ?_
  refine g_goto (off := -21) (tgt := 19) (by decide +kernel) (by decide) ?_
  refine g_iload_n (i := 2) (by decide +kernel) rfl ?_
  refine g_iconst (n := 4) (by decide +kernel) ?_
  refine g_icmp_ge (off := 22) (tgt := 43) (by decide +kernel) (by decide) (fun q => absurd q (by decide)) (fun _ => ?_)
  refine g_aload_n (i := 0) (by decide +kernel) rfl ?_
  refine v_get (idx := 17) (r := .ref (12)) rfl (by decide +kernel) fo2_17 (by omega) rfl ?_
  refine g_iload_n (i := 2) (by decide +kernel) rfl ?_
  refine v_new (bc := 13) (bs := 66) 0 3 15 (by decide +kernel) (by decide +kernel) (by decide) rfl (tbG_of 159 (by decide +kernel) (by decide +kernel)) (tbG_of 161 (by decide +kernel) (by decide +kernel)) (tbG_of 55 (by decide +kernel) (by decide +kernel)) dft0 (by omega) ?_
  refine g_dup (by decide +kernel) rfl ?_
  refine g_callI (idx := 21) (bc' := 0) (bs' := 0) (bc2 := 13) (bs2 := 66) [] (by decide +kernel) kiX2_21 rfl rfl rfl (fun v h => absurd h List.not_mem_nil) (by decide) rfl (Nat.le_of_ble_eq_true rfl) (by omega) (i_X0 w (k := k - 1) (by omega) (15) (16) (by omega) rfl _) (fun r u' hq => ?_)
  obtain ⟨rfl, rfl⟩ := hq
  refine v_aast 3 2 14 0 4 3 (by decide +kernel) (by decide) (by decide) rfl (by omega) (by decide +kernel) (by decide) (by decide) rfl (by omega) (by decide +kernel) (by decide) ?_
  refine g_iinc (i := 2) (n := 1) (by decide +kernel) (by decide) rfl ?_
  refine g_goto (off := -21) (tgt := 19) (by decide +kernel) (by decide) ?_
  refine g_iload_n (i := 2) (by decide +kernel) rfl ?_
  refine g_iconst (n := 4) (by decide +kernel) ?_
  refine g_icmp_ge (off := 22) (tgt := 43) (by decide +kernel) (by decide) (fun q => absurd q (by decide)) (fun _ => ?_)
  refine g_aload_n (i := 0) (by decide +kernel) rfl ?_
  refine v_get (idx := 17) (r := .ref (12)) rfl (by decide +kernel) fo2_17 (by omega) rfl ?_
  refine g_iload_n (i := 2) (by decide +kernel) rfl ?_
  refine v_new (bc := 12) (bs := 63) 0 3 15 (by decide +kernel) (by decide +kernel) (by decide) rfl (tbG_of 159 (by decide +kernel) (by decide +kernel)) (tbG_of 161 (by decide +kernel) (by decide +kernel)) (tbG_of 55 (by decide +kernel) (by decide +kernel)) dft0 (by omega) ?_
  refine g_dup (by decide +kernel) rfl ?_
  refine g_callI (idx := 21) (bc' := 0) (bs' := 0) (bc2 := 12) (bs2 := 63) [] (by decide +kernel) kiX2_21 rfl rfl rfl (fun v h => absurd h List.not_mem_nil) (by decide) rfl (Nat.le_of_ble_eq_true rfl) (by omega) (i_X0 w (k := k - 1) (by omega) (16) (17) (by omega) rfl _) (fun r u' hq => ?_)
  obtain ⟨rfl, rfl⟩ := hq
  refine v_aast 3 3 14 0 4 3 (by decide +kernel) (by decide) (by decide) rfl (by omega) (by decide +kernel) (by decide) (by decide) rfl (by omega) (by decide +kernel) (by decide) ?_
  refine g_iinc (i := 2) (n := 1) (by decide +kernel) (by decide) rfl ?_
  refine g_goto (off := -21) (tgt := 19) (by decide +kernel) (by decide) ?_
  refine g_iload_n (i := 2) (by decide +kernel) rfl ?_
  refine g_iconst (n := 4) (by decide +kernel) ?_
  refine g_icmp_ge (off := 22) (tgt := 43) (by decide +kernel) (by decide) (fun _ => ?_) (fun q => absurd (by decide) q)
  refine g_aload_n (i := 0) (by decide +kernel) rfl ?_
  refine g_bipush (n := 10) (by decide +kernel) (by decide) ?_
  refine v_newq (bc := 11) (bs := 53) 4 15 10 22 (by decide +kernel) (by decide +kernel) rfl (by decide) (tbG_of 182 (by decide +kernel) (by decide +kernel)) (fun s h => (ao_of h).2.1) (by decide) (by decide) (by decide) (by omega) ?_
  refine v_putF (idx := 24) (ty := .array (.object "SpoonPassage$Digger")) (by decide +kernel) ⟨fo2_24, fun C T N h => by cases h; exact ⟨(by decide +kernel), (by decide +kernel), rfl⟩⟩ rfl (by omega) rfl rfl rfl ?_
  refine g_iconst (n := 0) (by decide +kernel) ?_
  refine g_istore_n (i := 2) (by decide +kernel) (by decide) ?_
  refine g_iload_n (i := 2) (by decide +kernel) rfl ?_
  refine g_bipush (n := 10) (by decide +kernel) (by decide) ?_
  refine g_icmp_ge (off := 22) (tgt := 79) (by decide +kernel) (by decide) (fun q => absurd q (by decide)) (fun _ => ?_)
  refine g_aload_n (i := 0) (by decide +kernel) rfl ?_
  refine v_get (idx := 24) (r := .ref (17)) rfl (by decide +kernel) fo2_24 (by omega) rfl ?_
  refine g_iload_n (i := 2) (by decide +kernel) rfl ?_
  refine v_new (bc := 10) (bs := 48) 1 5 22 (by decide +kernel) (by decide +kernel) (by decide) rfl (tbG_of 182 (by decide +kernel) (by decide +kernel)) (tbG_of 184 (by decide +kernel) (by decide +kernel)) (tbG_of 56 (by decide +kernel) (by decide +kernel)) dft1 (by omega) ?_
  refine g_dup (by decide +kernel) rfl ?_
  refine g_callI (idx := 28) (bc' := 0) (bs' := 0) (bc2 := 10) (bs2 := 48) [] (by decide +kernel) kiX2_28 rfl rfl rfl (fun v h => absurd h List.not_mem_nil) (by decide) rfl (Nat.le_of_ble_eq_true rfl) (by omega) (i_X1 w (k := k - 1) (by omega) (18) (19) _) (fun r u' hq => ?_)
  obtain ⟨rfl, rfl⟩ := hq
  refine v_aast 4 0 15 1 10 5 (by decide +kernel) (by decide) (by decide) rfl (by omega) (by decide +kernel) (by decide) (by decide) rfl (by omega) (by decide +kernel) (by decide) ?_
  refine g_iinc (i := 2) (n := 1) (by decide +kernel) (by decide) rfl ?_
  refine g_goto (off := -22) (tgt := 54) (by decide +kernel) (by decide) ?_
  refine g_iload_n (i := 2) (by decide +kernel) rfl ?_
  refine g_bipush (n := 10) (by decide +kernel) (by decide) ?_
  refine g_icmp_ge (off := 22) (tgt := 79) (by decide +kernel) (by decide) (fun q => absurd q (by decide)) (fun _ => ?_)
  refine g_aload_n (i := 0) (by decide +kernel) rfl ?_
  refine v_get (idx := 24) (r := .ref (17)) rfl (by decide +kernel) fo2_24 (by omega) rfl ?_
  refine g_iload_n (i := 2) (by decide +kernel) rfl ?_
  refine v_new (bc := 9) (bs := 43) 1 5 22 (by decide +kernel) (by decide +kernel) (by decide) rfl (tbG_of 182 (by decide +kernel) (by decide +kernel)) (tbG_of 184 (by decide +kernel) (by decide +kernel)) (tbG_of 56 (by decide +kernel) (by decide +kernel)) dft1 (by omega) ?_
  refine g_dup (by decide +kernel) rfl ?_
  refine g_callI (idx := 28) (bc' := 0) (bs' := 0) (bc2 := 9) (bs2 := 43) [] (by decide +kernel) kiX2_28 rfl rfl rfl (fun v h => absurd h List.not_mem_nil) (by decide) rfl (Nat.le_of_ble_eq_true rfl) (by omega) (i_X1 w (k := k - 1) (by omega) (19) (20) _) (fun r u' hq => ?_)
  obtain ⟨rfl, rfl⟩ := hq
  refine v_aast 4 1 15 1 10 5 (by decide +kernel) (by decide) (by decide) rfl (by omega) (by decide +kernel) (by decide) (by decide) rfl (by omega) (by decide +kernel) (by decide) ?_
  refine g_iinc (i := 2) (n := 1) (by decide +kernel) (by decide) rfl ?_
  refine g_goto (off := -22) (tgt := 54) (by decide +kernel) (by decide) ?_
  refine g_iload_n (i := 2) (by decide +kernel) rfl ?_
  refine g_bipush (n := 10) (by decide +kernel) (by decide) ?_
  refine g_icmp_ge (off := 22) (tgt := 79) (by decide +kernel) (by decide) (fun q => absurd q (by decide)) (fun _ => ?_)
  refine g_aload_n (i := 0) (by decide +kernel) rfl ?_
  refine v_get (idx := 24) (r := .ref (17)) rfl (by decide +kernel) fo2_24 (by omega) rfl ?_
  refine g_iload_n (i := 2) (by decide +kernel) rfl ?_
  refine v_new (bc := 8) (bs := 38) 1 5 22 (by decide +kernel) (by decide +kernel) (by decide) rfl (tbG_of 182 (by decide +kernel) (by decide +kernel)) (tbG_of 184 (by decide +kernel) (by decide +kernel)) (tbG_of 56 (by decide +kernel) (by decide +kernel)) dft1 (by omega) ?_
  refine g_dup (by decide +kernel) rfl ?_
  refine g_callI (idx := 28) (bc' := 0) (bs' := 0) (bc2 := 8) (bs2 := 38) [] (by decide +kernel) kiX2_28 rfl rfl rfl (fun v h => absurd h List.not_mem_nil) (by decide) rfl (Nat.le_of_ble_eq_true rfl) (by omega) (i_X1 w (k := k - 1) (by omega) (20) (21) _) (fun r u' hq => ?_)
  obtain ⟨rfl, rfl⟩ := hq
  refine v_aast 4 2 15 1 10 5 (by decide +kernel) (by decide) (by decide) rfl (by omega) (by decide +kernel) (by decide) (by decide) rfl (by omega) (by decide +kernel) (by decide) ?_
  refine g_iinc (i := 2) (n := 1) (by decide +kernel) (by decide) rfl ?_
  refine g_goto (off := -22) (tgt := 54) (by decide +kernel) (by decide) ?_
  refine g_iload_n (i := 2) (by decide +kernel) rfl ?_
  refine g_bipush (n := 10) (by decide +kernel) (by decide) ?_
  refine g_icmp_ge (off := 22) (tgt := 79) (by decide +kernel) (by decide) (fun q => absurd q (by decide)) (fun _ => ?_)
  refine g_aload_n (i := 0) (by decide +kernel) rfl ?_
  refine v_get (idx := 24) (r := .ref (17)) rfl (by decide +kernel) fo2_24 (by omega) rfl ?_
  refine g_iload_n (i := 2) (by decide +kernel) rfl ?_
  refine v_new (bc := 7) (bs := 33) 1 5 22 (by decide +kernel) (by decide +kernel) (by decide) rfl (tbG_of 182 (by decide +kernel) (by decide +kernel)) (tbG_of 184 (by decide +kernel) (by decide +kernel)) (tbG_of 56 (by decide +kernel) (by decide +kernel)) dft1 (by omega) ?_
  refine g_dup (by decide +kernel) rfl ?_
  refine g_callI (idx := 28) (bc' := 0) (bs' := 0) (bc2 := 7) (bs2 := 33) [] (by decide +kernel) kiX2_28 rfl rfl rfl (fun v h => absurd h List.not_mem_nil) (by decide) rfl (Nat.le_of_ble_eq_true rfl) (by omega) (i_X1 w (k := k - 1) (by omega) (21) (22) _) (fun r u' hq => ?_)
  obtain ⟨rfl, rfl⟩ := hq
  refine v_aast 4 3 15 1 10 5 (by decide +kernel) (by decide) (by decide) rfl (by omega) (by decide +kernel) (by decide) (by decide) rfl (by omega) (by decide +kernel) (by decide) ?_
  refine g_iinc (i := 2) (n := 1) (by decide +kernel) (by decide) rfl ?_
  refine g_goto (off := -22) (tgt := 54) (by decide +kernel) (by decide) ?_
  refine g_iload_n (i := 2) (by decide +kernel) rfl ?_
  refine g_bipush (n := 10) (by decide +kernel) (by decide) ?_
  refine g_icmp_ge (off := 22) (tgt := 79) (by decide +kernel) (by decide) (fun q => absurd q (by decide)) (fun _ => ?_)
  refine g_aload_n (i := 0) (by decide +kernel) rfl ?_
  refine v_get (idx := 24) (r := .ref (17)) rfl (by decide +kernel) fo2_24 (by omega) rfl ?_
  refine g_iload_n (i := 2) (by decide +kernel) rfl ?_
  refine v_new (bc := 6) (bs := 28) 1 5 22 (by decide +kernel) (by decide +kernel) (by decide) rfl (tbG_of 182 (by decide +kernel) (by decide +kernel)) (tbG_of 184 (by decide +kernel) (by decide +kernel)) (tbG_of 56 (by decide +kernel) (by decide +kernel)) dft1 (by omega) ?_
  refine g_dup (by decide +kernel) rfl ?_
  refine g_callI (idx := 28) (bc' := 0) (bs' := 0) (bc2 := 6) (bs2 := 28) [] (by decide +kernel) kiX2_28 rfl rfl rfl (fun v h => absurd h List.not_mem_nil) (by decide) rfl (Nat.le_of_ble_eq_true rfl) (by omega) (i_X1 w (k := k - 1) (by omega) (22) (23) _) (fun r u' hq => ?_)
  obtain ⟨rfl, rfl⟩ := hq
  refine v_aast 4 4 15 1 10 5 (by decide +kernel) (by decide) (by decide) rfl (by omega) (by decide +kernel) (by decide) (by decide) rfl (by omega) (by decide +kernel) (by decide) ?_
  refine g_iinc (i := 2) (n := 1) (by decide +kernel) (by decide) rfl ?_
  refine g_goto (off := -22) (tgt := 54) (by decide +kernel) (by decide) ?_
  refine g_iload_n (i := 2) (by decide +kernel) rfl ?_
  refine g_bipush (n := 10) (by decide +kernel) (by decide) ?_
  refine g_icmp_ge (off := 22) (tgt := 79) (by decide +kernel) (by decide) (fun q => absurd q (by decide)) (fun _ => ?_)
  refine g_aload_n (i := 0) (by decide +kernel) rfl ?_
  refine v_get (idx := 24) (r := .ref (17)) rfl (by decide +kernel) fo2_24 (by omega) rfl ?_
  refine g_iload_n (i := 2) (by decide +kernel) rfl ?_
  refine v_new (bc := 5) (bs := 23) 1 5 22 (by decide +kernel) (by decide +kernel) (by decide) rfl (tbG_of 182 (by decide +kernel) (by decide +kernel)) (tbG_of 184 (by decide +kernel) (by decide +kernel)) (tbG_of 56 (by decide +kernel) (by decide +kernel)) dft1 (by omega) ?_
  refine g_dup (by decide +kernel) rfl ?_
  refine g_callI (idx := 28) (bc' := 0) (bs' := 0) (bc2 := 5) (bs2 := 23) [] (by decide +kernel) kiX2_28 rfl rfl rfl (fun v h => absurd h List.not_mem_nil) (by decide) rfl (Nat.le_of_ble_eq_true rfl) (by omega) (i_X1 w (k := k - 1) (by omega) (23) (24) _) (fun r u' hq => ?_)
  obtain ⟨rfl, rfl⟩ := hq
  refine v_aast 4 5 15 1 10 5 (by decide +kernel) (by decide) (by decide) rfl (by omega) (by decide +kernel) (by decide) (by decide) rfl (by omega) (by decide +kernel) (by decide) ?_
  refine g_iinc (i := 2) (n := 1) (by decide +kernel) (by decide) rfl ?_
  refine g_goto (off := -22) (tgt := 54) (by decide +kernel) (by decide) ?_
  refine g_iload_n (i := 2) (by decide +kernel) rfl ?_
  refine g_bipush (n := 10) (by decide +kernel) (by decide) ?_
  refine g_icmp_ge (off := 22) (tgt := 79) (by decide +kernel) (by decide) (fun q => absurd q (by decide)) (fun _ => ?_)
  refine g_aload_n (i := 0) (by decide +kernel) rfl ?_
  refine v_get (idx := 24) (r := .ref (17)) rfl (by decide +kernel) fo2_24 (by omega) rfl ?_
  refine g_iload_n (i := 2) (by decide +kernel) rfl ?_
  refine v_new (bc := 4) (bs := 18) 1 5 22 (by decide +kernel) (by decide +kernel) (by decide) rfl (tbG_of 182 (by decide +kernel) (by decide +kernel)) (tbG_of 184 (by decide +kernel) (by decide +kernel)) (tbG_of 56 (by decide +kernel) (by decide +kernel)) dft1 (by omega) ?_
  refine g_dup (by decide +kernel) rfl ?_
  refine g_callI (idx := 28) (bc' := 0) (bs' := 0) (bc2 := 4) (bs2 := 18) [] (by decide +kernel) kiX2_28 rfl rfl rfl (fun v h => absurd h List.not_mem_nil) (by decide) rfl (Nat.le_of_ble_eq_true rfl) (by omega) (i_X1 w (k := k - 1) (by omega) (24) (25) _) (fun r u' hq => ?_)
  obtain ⟨rfl, rfl⟩ := hq
  refine v_aast 4 6 15 1 10 5 (by decide +kernel) (by decide) (by decide) rfl (by omega) (by decide +kernel) (by decide) (by decide) rfl (by omega) (by decide +kernel) (by decide) ?_
  refine g_iinc (i := 2) (n := 1) (by decide +kernel) (by decide) rfl ?_
  refine g_goto (off := -22) (tgt := 54) (by decide +kernel) (by decide) ?_
  refine g_iload_n (i := 2) (by decide +kernel) rfl ?_
  refine g_bipush (n := 10) (by decide +kernel) (by decide) ?_
  refine g_icmp_ge (off := 22) (tgt := 79) (by decide +kernel) (by decide) (fun q => absurd q (by decide)) (fun _ => ?_)
  refine g_aload_n (i := 0) (by decide +kernel) rfl ?_
  refine v_get (idx := 24) (r := .ref (17)) rfl (by decide +kernel) fo2_24 (by omega) rfl ?_
  refine g_iload_n (i := 2) (by decide +kernel) rfl ?_
  refine v_new (bc := 3) (bs := 13) 1 5 22 (by decide +kernel) (by decide +kernel) (by decide) rfl (tbG_of 182 (by decide +kernel) (by decide +kernel)) (tbG_of 184 (by decide +kernel) (by decide +kernel)) (tbG_of 56 (by decide +kernel) (by decide +kernel)) dft1 (by omega) ?_
  refine g_dup (by decide +kernel) rfl ?_
  refine g_callI (idx := 28) (bc' := 0) (bs' := 0) (bc2 := 3) (bs2 := 13) [] (by decide +kernel) kiX2_28 rfl rfl rfl (fun v h => absurd h List.not_mem_nil) (by decide) rfl (Nat.le_of_ble_eq_true rfl) (by omega) (i_X1 w (k := k - 1) (by omega) (25) (26) _) (fun r u' hq => ?_)
  obtain ⟨rfl, rfl⟩ := hq
  refine v_aast 4 7 15 1 10 5 (by decide +kernel) (by decide) (by decide) rfl (by omega) (by decide +kernel) (by decide) (by decide) rfl (by omega) (by decide +kernel) (by decide) ?_
  refine g_iinc (i := 2) (n := 1) (by decide +kernel) (by decide) rfl ?_
  refine g_goto (off := -22) (tgt := 54) (by decide +kernel) (by decide) ?_
  refine g_iload_n (i := 2) (by decide +kernel) rfl ?_
  refine g_bipush (n := 10) (by decide +kernel) (by decide) ?_
  refine g_icmp_ge (off := 22) (tgt := 79) (by decide +kernel) (by decide) (fun q => absurd q (by decide)) (fun _ => ?_)
  refine g_aload_n (i := 0) (by decide +kernel) rfl ?_
  refine v_get (idx := 24) (r := .ref (17)) rfl (by decide +kernel) fo2_24 (by omega) rfl ?_
  refine g_iload_n (i := 2) (by decide +kernel) rfl ?_
  refine v_new (bc := 2) (bs := 8) 1 5 22 (by decide +kernel) (by decide +kernel) (by decide) rfl (tbG_of 182 (by decide +kernel) (by decide +kernel)) (tbG_of 184 (by decide +kernel) (by decide +kernel)) (tbG_of 56 (by decide +kernel) (by decide +kernel)) dft1 (by omega) ?_
  refine g_dup (by decide +kernel) rfl ?_
  refine g_callI (idx := 28) (bc' := 0) (bs' := 0) (bc2 := 2) (bs2 := 8) [] (by decide +kernel) kiX2_28 rfl rfl rfl (fun v h => absurd h List.not_mem_nil) (by decide) rfl (Nat.le_of_ble_eq_true rfl) (by omega) (i_X1 w (k := k - 1) (by omega) (26) (27) _) (fun r u' hq => ?_)
  obtain ⟨rfl, rfl⟩ := hq
  refine v_aast 4 8 15 1 10 5 (by decide +kernel) (by decide) (by decide) rfl (by omega) (by decide +kernel) (by decide) (by decide) rfl (by omega) (by decide +kernel) (by decide) ?_
  refine g_iinc (i := 2) (n := 1) (by decide +kernel) (by decide) rfl ?_
  refine g_goto (off := -22) (tgt := 54) (by decide +kernel) (by decide) ?_
  refine g_iload_n (i := 2) (by decide +kernel) rfl ?_
  refine g_bipush (n := 10) (by decide +kernel) (by decide) ?_
  refine g_icmp_ge (off := 22) (tgt := 79) (by decide +kernel) (by decide) (fun q => absurd q (by decide)) (fun _ => ?_)
  refine g_aload_n (i := 0) (by decide +kernel) rfl ?_
  refine v_get (idx := 24) (r := .ref (17)) rfl (by decide +kernel) fo2_24 (by omega) rfl ?_
  refine g_iload_n (i := 2) (by decide +kernel) rfl ?_
  refine v_new (bc := 1) (bs := 3) 1 5 22 (by decide +kernel) (by decide +kernel) (by decide) rfl (tbG_of 182 (by decide +kernel) (by decide +kernel)) (tbG_of 184 (by decide +kernel) (by decide +kernel)) (tbG_of 56 (by decide +kernel) (by decide +kernel)) dft1 (by omega) ?_
  refine g_dup (by decide +kernel) rfl ?_
  refine g_callI (idx := 28) (bc' := 0) (bs' := 0) (bc2 := 1) (bs2 := 3) [] (by decide +kernel) kiX2_28 rfl rfl rfl (fun v h => absurd h List.not_mem_nil) (by decide) rfl (Nat.le_of_ble_eq_true rfl) (by omega) (i_X1 w (k := k - 1) (by omega) (27) (28) _) (fun r u' hq => ?_)
  obtain ⟨rfl, rfl⟩ := hq
  refine v_aast 4 9 15 1 10 5 (by decide +kernel) (by decide) (by decide) rfl (by omega) (by decide +kernel) (by decide) (by decide) rfl (by omega) (by decide +kernel) (by decide) ?_
  refine g_iinc (i := 2) (n := 1) (by decide +kernel) (by decide) rfl ?_
  refine g_goto (off := -22) (tgt := 54) (by decide +kernel) (by decide) ?_
  refine g_iload_n (i := 2) (by decide +kernel) rfl ?_
  refine g_bipush (n := 10) (by decide +kernel) (by decide) ?_
  refine g_icmp_ge (off := 22) (tgt := 79) (by decide +kernel) (by decide) (fun _ => ?_) (fun q => absurd (by decide) q)
  refine g_aload_n (i := 0) (by decide +kernel) rfl ?_
  refine g_iconst (n := 3) (by decide +kernel) ?_
  refine v_newa (atype := .int) (bc := 0) (bs := 0) 0 10 3 (by decide +kernel) (by decide +kernel) rfl (by decide) (tbG_of 103 (by decide +kernel) (by decide +kernel)) (by decide) (by decide) (by decide) rfl (by omega) ?_
  refine v_putF (idx := 29) (ty := .array .int) (by decide +kernel) ⟨fo2_29, fun C T N h => by cases h; exact ⟨(by decide +kernel), (by decide +kernel), rfl⟩⟩ rfl (by omega) rfl rfl rfl ?_
  refine g_iconst (n := 0) (by decide +kernel) ?_
  refine g_istore_n (i := 2) (by decide +kernel) (by decide) ?_
  refine g_iload_n (i := 2) (by decide +kernel) rfl ?_
  refine g_iconst (n := 3) (by decide +kernel) ?_
  refine g_icmp_ge (off := 17) (tgt := 107) (by decide +kernel) (by decide) (fun q => absurd q (by decide)) (fun _ => ?_)
  refine g_aload_n (i := 0) (by decide +kernel) rfl ?_
  refine v_get (idx := 29) (r := .ref (28)) rfl (by decide +kernel) fo2_29 (by omega) rfl ?_
  refine g_iload_n (i := 2) (by decide +kernel) rfl ?_
  refine g_ldc (i := 33) (v := Int32.ofInt (-1000000005)) (by decide +kernel) (tbG_of 215 (by decide +kernel) (by decide +kernel)) ?_
  refine v_iast 0 3 (by decide +kernel) (by decide) (by decide) (by omega) (by decide +kernel) (by decide) ?_
  refine g_iinc (i := 2) (n := 1) (by decide +kernel) (by decide) rfl ?_
  refine g_goto (off := -16) (tgt := 88) (by decide +kernel) (by decide) ?_
  refine g_iload_n (i := 2) (by decide +kernel) rfl ?_
  refine g_iconst (n := 3) (by decide +kernel) ?_
  refine g_icmp_ge (off := 17) (tgt := 107) (by decide +kernel) (by decide) (fun q => absurd q (by decide)) (fun _ => ?_)
  refine g_aload_n (i := 0) (by decide +kernel) rfl ?_
  refine v_get (idx := 29) (r := .ref (28)) rfl (by decide +kernel) fo2_29 (by omega) rfl ?_
  refine g_iload_n (i := 2) (by decide +kernel) rfl ?_
  refine g_ldc (i := 33) (v := Int32.ofInt (-1000000005)) (by decide +kernel) (tbG_of 215 (by decide +kernel) (by decide +kernel)) ?_
  refine v_iast 1 3 (by decide +kernel) (by decide) (by decide) (by omega) (by decide +kernel) (by decide) ?_
  refine g_iinc (i := 2) (n := 1) (by decide +kernel) (by decide) rfl ?_
  refine g_goto (off := -16) (tgt := 88) (by decide +kernel) (by decide) ?_
  refine g_iload_n (i := 2) (by decide +kernel) rfl ?_
  refine g_iconst (n := 3) (by decide +kernel) ?_
  refine g_icmp_ge (off := 17) (tgt := 107) (by decide +kernel) (by decide) (fun q => absurd q (by decide)) (fun _ => ?_)
  refine g_aload_n (i := 0) (by decide +kernel) rfl ?_
  refine v_get (idx := 29) (r := .ref (28)) rfl (by decide +kernel) fo2_29 (by omega) rfl ?_
  refine g_iload_n (i := 2) (by decide +kernel) rfl ?_
  refine g_ldc (i := 33) (v := Int32.ofInt (-1000000005)) (by decide +kernel) (tbG_of 215 (by decide +kernel) (by decide +kernel)) ?_
  refine v_iast 2 3 (by decide +kernel) (by decide) (by decide) (by omega) (by decide +kernel) (by decide) ?_
  refine g_iinc (i := 2) (n := 1) (by decide +kernel) (by decide) rfl ?_
  refine g_goto (off := -16) (tgt := 88) (by decide +kernel) (by decide) ?_
  refine g_iload_n (i := 2) (by decide +kernel) rfl ?_
  refine g_iconst (n := 3) (by decide +kernel) ?_
  refine g_icmp_ge (off := 17) (tgt := 107) (by decide +kernel) (by decide) (fun _ => ?_) (fun q => absurd (by decide) q)
  refine g_aload_n (i := 0) (by decide +kernel) rfl ?_
  refine g_iconst (n := 3) (by decide +kernel) ?_
  refine v_put (idx := 34) (ty := .int) (by decide +kernel) ⟨fo2_34, fun C T N h => by cases h; exact ⟨(by decide +kernel), (by decide +kernel)⟩⟩ (by omega) rfl rfl rfl ?_
  refine g_aload_n (i := 0) (by decide +kernel) rfl ?_
  refine g_iconst (n := 1) (by decide +kernel) ?_
  refine v_put (idx := 38) (ty := .int) (by decide +kernel) ⟨fo2_38, fun C T N h => by cases h; exact ⟨(by decide +kernel), (by decide +kernel)⟩⟩ (by omega) rfl rfl rfl ?_
  refine g_vret rfl (by decide +kernel) ?_
  exact ⟨rfl, _, rfl, fun b hb => by repeat (first | rw [uE_ne (by omega)] | rw [uV_n (by omega)]), dn_P11 V⟩
set_option maxRecDepth 20000 in
set_option maxHeartbeats 4000000 in
theorem dn_P29 (V : Nat → Nat → Value)  : ∀ a, 29 ≤ a → a < 47 → ∀ k, k < (kd0 a).2 → (uE (uE (uE (uE (uE (uE (uV (uE (uV (uE (uV (uE (uV (uE (uV (uE (uV (uE (uV (uE (uV (uE (uV (uE (uV (uE (uV (uE (uV (uE (uE (uV (uE (uE (uV (uE (uE (uV (uE (uE (uV (uE (uV (uE (uV V 29 (df 2)) (29) 3 (.ref (1))) (30) (fun _ => .null)) (29) 0 (.ref (30))) (31) (df 0)) (31) 1 (.int (Int32.ofInt 10))) (30) 0 (.ref (31))) (32) (df 0)) (32) 1 (.int (Int32.ofInt 10))) (30) 1 (.ref (32))) (33) (df 0)) (33) 1 (.int (Int32.ofInt 10))) (30) 2 (.ref (33))) (34) (df 0)) (34) 1 (.int (Int32.ofInt 10))) (30) 3 (.ref (34))) (35) (fun _ => .null)) (29) 1 (.ref (35))) (36) (df 1)) (35) 0 (.ref (36))) (37) (df 1)) (35) 1 (.ref (37))) (38) (df 1)) (35) 2 (.ref (38))) (39) (df 1)) (35) 3 (.ref (39))) (40) (df 1)) (35) 4 (.ref (40))) (41) (df 1)) (35) 5 (.ref (41))) (42) (df 1)) (35) 6 (.ref (42))) (43) (df 1)) (35) 7 (.ref (43))) (44) (df 1)) (35) 8 (.ref (44))) (45) (df 1)) (35) 9 (.ref (45))) (46) (fun _ => .int 0)) (29) 2 (.ref (46))) (46) 0 (.int (Int32.ofInt (-1000000005)))) (46) 1 (.int (Int32.ofInt (-1000000005)))) (46) 2 (.int (Int32.ofInt (-1000000005)))) (29) 6 (.int (Int32.ofInt 3))) (29) 11 (.int (Int32.ofInt 1))) a k = vl hI a k := by
  intro a h1 h2 k hk
  rcases (show a = 29 ∨ a = 30 ∨ a = 31 ∨ a = 32 ∨ a = 33 ∨ a = 34 ∨ a = 35 ∨ a = 36 ∨ a = 37 ∨ a = 38 ∨ a = 39 ∨ a = 40 ∨ a = 41 ∨ a = 42 ∨ a = 43 ∨ a = 44 ∨ a = 45 ∨ a = 46 by omega) with e | e | e | e | e | e | e | e | e | e | e | e | e | e | e | e | e | e
  · subst e; rw [show (kd0 29).2 = 12 from (by decide +kernel)] at hk
    rcases (show k = 0 ∨ k = 1 ∨ k = 2 ∨ k = 3 ∨ k = 4 ∨ k = 5 ∨ k = 6 ∨ k = 7 ∨ k = 8 ∨ k = 9 ∨ k = 10 ∨ k = 11 by omega) with q | q | q | q | q | q | q | q | q | q | q | q <;> subst q <;> rfl
  · subst e; rw [show (kd0 30).2 = 4 from (by decide +kernel)] at hk
    rcases (show k = 0 ∨ k = 1 ∨ k = 2 ∨ k = 3 by omega) with q | q | q | q <;> subst q <;> rfl
  · subst e; rw [show (kd0 31).2 = 3 from (by decide +kernel)] at hk
    rcases (show k = 0 ∨ k = 1 ∨ k = 2 by omega) with q | q | q <;> subst q <;> rfl
  · subst e; rw [show (kd0 32).2 = 3 from (by decide +kernel)] at hk
    rcases (show k = 0 ∨ k = 1 ∨ k = 2 by omega) with q | q | q <;> subst q <;> rfl
  · subst e; rw [show (kd0 33).2 = 3 from (by decide +kernel)] at hk
    rcases (show k = 0 ∨ k = 1 ∨ k = 2 by omega) with q | q | q <;> subst q <;> rfl
  · subst e; rw [show (kd0 34).2 = 3 from (by decide +kernel)] at hk
    rcases (show k = 0 ∨ k = 1 ∨ k = 2 by omega) with q | q | q <;> subst q <;> rfl
  · subst e; rw [show (kd0 35).2 = 10 from (by decide +kernel)] at hk
    rcases (show k = 0 ∨ k = 1 ∨ k = 2 ∨ k = 3 ∨ k = 4 ∨ k = 5 ∨ k = 6 ∨ k = 7 ∨ k = 8 ∨ k = 9 by omega) with q | q | q | q | q | q | q | q | q | q <;> subst q <;> rfl
  · subst e; rw [show (kd0 36).2 = 5 from (by decide +kernel)] at hk
    rcases (show k = 0 ∨ k = 1 ∨ k = 2 ∨ k = 3 ∨ k = 4 by omega) with q | q | q | q | q <;> subst q <;> rfl
  · subst e; rw [show (kd0 37).2 = 5 from (by decide +kernel)] at hk
    rcases (show k = 0 ∨ k = 1 ∨ k = 2 ∨ k = 3 ∨ k = 4 by omega) with q | q | q | q | q <;> subst q <;> rfl
  · subst e; rw [show (kd0 38).2 = 5 from (by decide +kernel)] at hk
    rcases (show k = 0 ∨ k = 1 ∨ k = 2 ∨ k = 3 ∨ k = 4 by omega) with q | q | q | q | q <;> subst q <;> rfl
  · subst e; rw [show (kd0 39).2 = 5 from (by decide +kernel)] at hk
    rcases (show k = 0 ∨ k = 1 ∨ k = 2 ∨ k = 3 ∨ k = 4 by omega) with q | q | q | q | q <;> subst q <;> rfl
  · subst e; rw [show (kd0 40).2 = 5 from (by decide +kernel)] at hk
    rcases (show k = 0 ∨ k = 1 ∨ k = 2 ∨ k = 3 ∨ k = 4 by omega) with q | q | q | q | q <;> subst q <;> rfl
  · subst e; rw [show (kd0 41).2 = 5 from (by decide +kernel)] at hk
    rcases (show k = 0 ∨ k = 1 ∨ k = 2 ∨ k = 3 ∨ k = 4 by omega) with q | q | q | q | q <;> subst q <;> rfl
  · subst e; rw [show (kd0 42).2 = 5 from (by decide +kernel)] at hk
    rcases (show k = 0 ∨ k = 1 ∨ k = 2 ∨ k = 3 ∨ k = 4 by omega) with q | q | q | q | q <;> subst q <;> rfl
  · subst e; rw [show (kd0 43).2 = 5 from (by decide +kernel)] at hk
    rcases (show k = 0 ∨ k = 1 ∨ k = 2 ∨ k = 3 ∨ k = 4 by omega) with q | q | q | q | q <;> subst q <;> rfl
  · subst e; rw [show (kd0 44).2 = 5 from (by decide +kernel)] at hk
    rcases (show k = 0 ∨ k = 1 ∨ k = 2 ∨ k = 3 ∨ k = 4 by omega) with q | q | q | q | q <;> subst q <;> rfl
  · subst e; rw [show (kd0 45).2 = 5 from (by decide +kernel)] at hk
    rcases (show k = 0 ∨ k = 1 ∨ k = 2 ∨ k = 3 ∨ k = 4 by omega) with q | q | q | q | q <;> subst q <;> rfl
  · subst e; rw [show (kd0 46).2 = 3 from (by decide +kernel)] at hk
    rcases (show k = 0 ∨ k = 1 ∨ k = 2 by omega) with q | q | q <;> subst q <;> rfl
set_option maxRecDepth 20000 in
set_option maxHeartbeats 4000000 in
theorem i_P29 (w : Wt) {k : Nat} (hk : 3 ≤ k)  (V : Nat → Nat → Value) : Gp w k 17 79 MX2_init (fun r u => r = none ∧ ∃ V', u = Mv 47 V' ∧ (∀ b, b < 29 → V' b = V b) ∧ ∀ a, 29 ≤ a → a < 47 → ∀ k, k < (kd0 a).2 → V' a k = vl hI a k) 0 [some (.ref 29), some (.ref 1), none] [] (Mv (30) (uV V 29 (df 2))) := by
  refine g_aload_n (i := 0) (by decide +kernel) rfl ?_
  refine g_objI (idx := 3) (by decide +kernel) (tbG_of 158 (by decide +kernel) (by decide +kernel)) (Nat.le_of_ble_eq_true rfl) (by omega) ?_
  refine g_aload_n (i := 0) (by decide +kernel) rfl ?_
  refine g_aload_n (i := 1) (by decide +kernel) rfl ?_
  refine v_putF (idx := 9) (ty := .object "SpoonPassage$Texts") (by decide +kernel) ⟨fo2_9, fun C T N h => by cases h; exact ⟨(by decide +kernel), (by decide +kernel), rfl⟩⟩ rfl (by omega) rfl rfl rfl ?_
  refine g_aload_n (i := 0) (by decide +kernel) rfl ?_
  refine g_iconst (n := 4) (by decide +kernel) ?_
  refine v_newq (bc := 16) (bs := 75) 3 14 4 15 (by decide +kernel) (by decide +kernel) rfl (by decide) (tbG_of 159 (by decide +kernel) (by decide +kernel)) (fun s h => (ao_of h).1) (by decide) (by decide) (by decide) (by omega) ?_
  refine v_putF (idx := 17) (ty := .array (.object "SpoonPassage$Branch")) (by decide +kernel) ⟨fo2_17, fun C T N h => by cases h; exact ⟨(by decide +kernel), (by decide +kernel), rfl⟩⟩ rfl (by omega) rfl rfl rfl ?_
  refine g_iconst (n := 0) (by decide +kernel) ?_
  refine g_istore_n (i := 2) (by decide +kernel) (by decide) ?_
  refine g_iload_n (i := 2) (by decide +kernel) rfl ?_
  refine g_iconst (n := 4) (by decide +kernel) ?_
  refine g_icmp_ge (off := 22) (tgt := 43) (by decide +kernel) (by decide) (fun q => absurd q (by decide)) (fun _ => ?_)
  refine g_aload_n (i := 0) (by decide +kernel) rfl ?_
  refine v_get (idx := 17) (r := .ref (30)) rfl (by decide +kernel) fo2_17 (by omega) rfl ?_
  refine g_iload_n (i := 2) (by decide +kernel) rfl ?_
  refine v_new (bc := 15) (bs := 72) 0 3 15 (by decide +kernel) (by decide +kernel) (by decide) rfl (tbG_of 159 (by decide +kernel) (by decide +kernel)) (tbG_of 161 (by decide +kernel) (by decide +kernel)) (tbG_of 55 (by decide +kernel) (by decide +kernel)) dft0 (by omega) ?_
  refine g_dup (by decide +kernel) rfl ?_
  refine g_callI (idx := 21) (bc' := 0) (bs' := 0) (bc2 := 15) (bs2 := 72) [] (by decide +kernel) kiX2_21 rfl rfl rfl (fun v h => absurd h List.not_mem_nil) (by decide) rfl (Nat.le_of_ble_eq_true rfl) (by omega) (i_X0 w (k := k - 1) (by omega) (31) (32) (by omega) rfl _) (fun r u' hq => ?_)
  obtain ⟨rfl, rfl⟩ := hq
  refine v_aast 3 0 14 0 4 3 (by decide +kernel) (by decide) (by decide) rfl (by omega) (by decide +kernel) (by decide) (by decide) rfl (by omega) (by decide +kernel) (by decide) ?_
  refine g_iinc (i := 2) (n := 1) (by decide +kernel) (by decide) rfl ?_
  refine g_goto (off := -21) (tgt := 19) (by decide +kernel) (by decide) ?_
  refine g_iload_n (i := 2) (by decide +kernel) rfl ?_
  refine g_iconst (n := 4) (by decide +kernel) ?_
  refine g_icmp_ge (off := 22) (tgt := 43) (by decide +kernel) (by decide) (fun q => absurd q (by decide)) (fun _ => ?_)
  refine g_aload_n (i := 0) (by decide +kernel) rfl ?_
  refine v_get (idx := 17) (r := .ref (30)) rfl (by decide +kernel) fo2_17 (by omega) rfl ?_
  refine g_iload_n (i := 2) (by decide +kernel) rfl ?_
  refine v_new (bc := 14) (bs := 69) 0 3 15 (by decide +kernel) (by decide +kernel) (by decide) rfl (tbG_of 159 (by decide +kernel) (by decide +kernel)) (tbG_of 161 (by decide +kernel) (by decide +kernel)) (tbG_of 55 (by decide +kernel) (by decide +kernel)) dft0 (by omega) ?_
  refine g_dup (by decide +kernel) rfl ?_
  refine g_callI (idx := 21) (bc' := 0) (bs' := 0) (bc2 := 14) (bs2 := 69) [] (by decide +kernel) kiX2_21 rfl rfl rfl (fun v h => absurd h List.not_mem_nil) (by decide) rfl (Nat.le_of_ble_eq_true rfl) (by omega) (i_X0 w (k := k - 1) (by omega) (32) (33) (by omega) rfl _) (fun r u' hq => ?_)
  obtain ⟨rfl, rfl⟩ := hq
  refine v_aast 3 1 14 0 4 3 (by decide +kernel) (by decide) (by decide) rfl (by omega) (by decide +kernel) (by decide) (by decide) rfl (by omega) (by decide +kernel) (by decide) ?_
  refine g_iinc (i := 2) (n := 1) (by decide +kernel) (by decide) rfl ?_
  refine g_goto (off := -21) (tgt := 19) (by decide +kernel) (by decide) ?_
  refine g_iload_n (i := 2) (by decide +kernel) rfl ?_
  refine g_iconst (n := 4) (by decide +kernel) ?_
  refine g_icmp_ge (off := 22) (tgt := 43) (by decide +kernel) (by decide) (fun q => absurd q (by decide)) (fun _ => ?_)
  refine g_aload_n (i := 0) (by decide +kernel) rfl ?_
  refine v_get (idx := 17) (r := .ref (30)) rfl (by decide +kernel) fo2_17 (by omega) rfl ?_
  refine g_iload_n (i := 2) (by decide +kernel) rfl ?_
  refine v_new (bc := 13) (bs := 66) 0 3 15 (by decide +kernel) (by decide +kernel) (by decide) rfl (tbG_of 159 (by decide +kernel) (by decide +kernel)) (tbG_of 161 (by decide +kernel) (by decide +kernel)) (tbG_of 55 (by decide +kernel) (by decide +kernel)) dft0 (by omega) ?_
  refine g_dup (by decide +kernel) rfl ?_
  refine g_callI (idx := 21) (bc' := 0) (bs' := 0) (bc2 := 13) (bs2 := 66) [] (by decide +kernel) kiX2_21 rfl rfl rfl (fun v h => absurd h List.not_mem_nil) (by decide) rfl (Nat.le_of_ble_eq_true rfl) (by omega) (i_X0 w (k := k - 1) (by omega) (33) (34) (by omega) rfl _) (fun r u' hq => ?_)
  obtain ⟨rfl, rfl⟩ := hq
  refine v_aast 3 2 14 0 4 3 (by decide +kernel) (by decide) (by decide) rfl (by omega) (by decide +kernel) (by decide) (by decide) rfl (by omega) (by decide +kernel) (by decide) ?_
  refine g_iinc (i := 2) (n := 1) (by decide +kernel) (by decide) rfl ?_
  refine g_goto (off := -21) (tgt := 19) (by decide +kernel) (by decide) ?_
  refine g_iload_n (i := 2) (by decide +kernel) rfl ?_
  refine g_iconst (n := 4) (by decide +kernel) ?_
  refine g_icmp_ge (off := 22) (tgt := 43) (by decide +kernel) (by decide) (fun q => absurd q (by decide)) (fun _ => ?_)
  refine g_aload_n (i := 0) (by decide +kernel) rfl ?_
  refine v_get (idx := 17) (r := .ref (30)) rfl (by decide +kernel) fo2_17 (by omega) rfl ?_
  refine g_iload_n (i := 2) (by decide +kernel) rfl ?_
  refine v_new (bc := 12) (bs := 63) 0 3 15 (by decide +kernel) (by decide +kernel) (by decide) rfl (tbG_of 159 (by decide +kernel) (by decide +kernel)) (tbG_of 161 (by decide +kernel) (by decide +kernel)) (tbG_of 55 (by decide +kernel) (by decide +kernel)) dft0 (by omega) ?_
  refine g_dup (by decide +kernel) rfl ?_
  refine g_callI (idx := 21) (bc' := 0) (bs' := 0) (bc2 := 12) (bs2 := 63) [] (by decide +kernel) kiX2_21 rfl rfl rfl (fun v h => absurd h List.not_mem_nil) (by decide) rfl (Nat.le_of_ble_eq_true rfl) (by omega) (i_X0 w (k := k - 1) (by omega) (34) (35) (by omega) rfl _) (fun r u' hq => ?_)
  obtain ⟨rfl, rfl⟩ := hq
  refine v_aast 3 3 14 0 4 3 (by decide +kernel) (by decide) (by decide) rfl (by omega) (by decide +kernel) (by decide) (by decide) rfl (by omega) (by decide +kernel) (by decide) ?_
  refine g_iinc (i := 2) (n := 1) (by decide +kernel) (by decide) rfl ?_
  refine g_goto (off := -21) (tgt := 19) (by decide +kernel) (by decide) ?_
  refine g_iload_n (i := 2) (by decide +kernel) rfl ?_
  refine g_iconst (n := 4) (by decide +kernel) ?_
  refine g_icmp_ge (off := 22) (tgt := 43) (by decide +kernel) (by decide) (fun _ => ?_) (fun q => absurd (by decide) q)
  refine g_aload_n (i := 0) (by decide +kernel) rfl ?_
  refine g_bipush (n := 10) (by decide +kernel) (by decide) ?_
  refine v_newq (bc := 11) (bs := 53) 4 15 10 22 (by decide +kernel) (by decide +kernel) rfl (by decide) (tbG_of 182 (by decide +kernel) (by decide +kernel)) (fun s h => (ao_of h).2.1) (by decide) (by decide) (by decide) (by omega) ?_
  refine v_putF (idx := 24) (ty := .array (.object "SpoonPassage$Digger")) (by decide +kernel) ⟨fo2_24, fun C T N h => by cases h; exact ⟨(by decide +kernel), (by decide +kernel), rfl⟩⟩ rfl (by omega) rfl rfl rfl ?_
  refine g_iconst (n := 0) (by decide +kernel) ?_
  refine g_istore_n (i := 2) (by decide +kernel) (by decide) ?_
  refine g_iload_n (i := 2) (by decide +kernel) rfl ?_
  refine g_bipush (n := 10) (by decide +kernel) (by decide) ?_
  refine g_icmp_ge (off := 22) (tgt := 79) (by decide +kernel) (by decide) (fun q => absurd q (by decide)) (fun _ => ?_)
  refine g_aload_n (i := 0) (by decide +kernel) rfl ?_
  refine v_get (idx := 24) (r := .ref (35)) rfl (by decide +kernel) fo2_24 (by omega) rfl ?_
  refine g_iload_n (i := 2) (by decide +kernel) rfl ?_
  refine v_new (bc := 10) (bs := 48) 1 5 22 (by decide +kernel) (by decide +kernel) (by decide) rfl (tbG_of 182 (by decide +kernel) (by decide +kernel)) (tbG_of 184 (by decide +kernel) (by decide +kernel)) (tbG_of 56 (by decide +kernel) (by decide +kernel)) dft1 (by omega) ?_
  refine g_dup (by decide +kernel) rfl ?_
  refine g_callI (idx := 28) (bc' := 0) (bs' := 0) (bc2 := 10) (bs2 := 48) [] (by decide +kernel) kiX2_28 rfl rfl rfl (fun v h => absurd h List.not_mem_nil) (by decide) rfl (Nat.le_of_ble_eq_true rfl) (by omega) (i_X1 w (k := k - 1) (by omega) (36) (37) _) (fun r u' hq => ?_)
  obtain ⟨rfl, rfl⟩ := hq
  refine v_aast 4 0 15 1 10 5 (by decide +kernel) (by decide) (by decide) rfl (by omega) (by decide +kernel) (by decide) (by decide) rfl (by omega) (by decide +kernel) (by decide) ?_
  refine g_iinc (i := 2) (n := 1) (by decide +kernel) (by decide) rfl ?_
  refine g_goto (off := -22) (tgt := 54) (by decide +kernel) (by decide) ?_
  refine g_iload_n (i := 2) (by decide +kernel) rfl ?_
  refine g_bipush (n := 10) (by decide +kernel) (by decide) ?_
  refine g_icmp_ge (off := 22) (tgt := 79) (by decide +kernel) (by decide) (fun q => absurd q (by decide)) (fun _ => ?_)
  refine g_aload_n (i := 0) (by decide +kernel) rfl ?_
  refine v_get (idx := 24) (r := .ref (35)) rfl (by decide +kernel) fo2_24 (by omega) rfl ?_
  refine g_iload_n (i := 2) (by decide +kernel) rfl ?_
  refine v_new (bc := 9) (bs := 43) 1 5 22 (by decide +kernel) (by decide +kernel) (by decide) rfl (tbG_of 182 (by decide +kernel) (by decide +kernel)) (tbG_of 184 (by decide +kernel) (by decide +kernel)) (tbG_of 56 (by decide +kernel) (by decide +kernel)) dft1 (by omega) ?_
  refine g_dup (by decide +kernel) rfl ?_
  refine g_callI (idx := 28) (bc' := 0) (bs' := 0) (bc2 := 9) (bs2 := 43) [] (by decide +kernel) kiX2_28 rfl rfl rfl (fun v h => absurd h List.not_mem_nil) (by decide) rfl (Nat.le_of_ble_eq_true rfl) (by omega) (i_X1 w (k := k - 1) (by omega) (37) (38) _) (fun r u' hq => ?_)
  obtain ⟨rfl, rfl⟩ := hq
  refine v_aast 4 1 15 1 10 5 (by decide +kernel) (by decide) (by decide) rfl (by omega) (by decide +kernel) (by decide) (by decide) rfl (by omega) (by decide +kernel) (by decide) ?_
  refine g_iinc (i := 2) (n := 1) (by decide +kernel) (by decide) rfl ?_
  refine g_goto (off := -22) (tgt := 54) (by decide +kernel) (by decide) ?_
  refine g_iload_n (i := 2) (by decide +kernel) rfl ?_
  refine g_bipush (n := 10) (by decide +kernel) (by decide) ?_
  refine g_icmp_ge (off := 22) (tgt := 79) (by decide +kernel) (by decide) (fun q => absurd q (by decide)) (fun _ => ?_)
  refine g_aload_n (i := 0) (by decide +kernel) rfl ?_
  refine v_get (idx := 24) (r := .ref (35)) rfl (by decide +kernel) fo2_24 (by omega) rfl ?_
  refine g_iload_n (i := 2) (by decide +kernel) rfl ?_
  refine v_new (bc := 8) (bs := 38) 1 5 22 (by decide +kernel) (by decide +kernel) (by decide) rfl (tbG_of 182 (by decide +kernel) (by decide +kernel)) (tbG_of 184 (by decide +kernel) (by decide +kernel)) (tbG_of 56 (by decide +kernel) (by decide +kernel)) dft1 (by omega) ?_
  refine g_dup (by decide +kernel) rfl ?_
  refine g_callI (idx := 28) (bc' := 0) (bs' := 0) (bc2 := 8) (bs2 := 38) [] (by decide +kernel) kiX2_28 rfl rfl rfl (fun v h => absurd h List.not_mem_nil) (by decide) rfl (Nat.le_of_ble_eq_true rfl) (by omega) (i_X1 w (k := k - 1) (by omega) (38) (39) _) (fun r u' hq => ?_)
  obtain ⟨rfl, rfl⟩ := hq
  refine v_aast 4 2 15 1 10 5 (by decide +kernel) (by decide) (by decide) rfl (by omega) (by decide +kernel) (by decide) (by decide) rfl (by omega) (by decide +kernel) (by decide) ?_
  refine g_iinc (i := 2) (n := 1) (by decide +kernel) (by decide) rfl ?_
  refine g_goto (off := -22) (tgt := 54) (by decide +kernel) (by decide) ?_
  refine g_iload_n (i := 2) (by decide +kernel) rfl ?_
  refine g_bipush (n := 10) (by decide +kernel) (by decide) ?_
  refine g_icmp_ge (off := 22) (tgt := 79) (by decide +kernel) (by decide) (fun q => absurd q (by decide)) (fun _ => ?_)
  refine g_aload_n (i := 0) (by decide +kernel) rfl ?_
  refine v_get (idx := 24) (r := .ref (35)) rfl (by decide +kernel) fo2_24 (by omega) rfl ?_
  refine g_iload_n (i := 2) (by decide +kernel) rfl ?_
  refine v_new (bc := 7) (bs := 33) 1 5 22 (by decide +kernel) (by decide +kernel) (by decide) rfl (tbG_of 182 (by decide +kernel) (by decide +kernel)) (tbG_of 184 (by decide +kernel) (by decide +kernel)) (tbG_of 56 (by decide +kernel) (by decide +kernel)) dft1 (by omega) ?_
  refine g_dup (by decide +kernel) rfl ?_
  refine g_callI (idx := 28) (bc' := 0) (bs' := 0) (bc2 := 7) (bs2 := 33) [] (by decide +kernel) kiX2_28 rfl rfl rfl (fun v h => absurd h List.not_mem_nil) (by decide) rfl (Nat.le_of_ble_eq_true rfl) (by omega) (i_X1 w (k := k - 1) (by omega) (39) (40) _) (fun r u' hq => ?_)
  obtain ⟨rfl, rfl⟩ := hq
  refine v_aast 4 3 15 1 10 5 (by decide +kernel) (by decide) (by decide) rfl (by omega) (by decide +kernel) (by decide) (by decide) rfl (by omega) (by decide +kernel) (by decide) ?_
  refine g_iinc (i := 2) (n := 1) (by decide +kernel) (by decide) rfl ?_
  refine g_goto (off := -22) (tgt := 54) (by decide +kernel) (by decide) ?_
  refine g_iload_n (i := 2) (by decide +kernel) rfl ?_
  refine g_bipush (n := 10) (by decide +kernel) (by decide) ?_
  refine g_icmp_ge (off := 22) (tgt := 79) (by decide +kernel) (by decide) (fun q => absurd q (by decide)) (fun _ => ?_)
  refine g_aload_n (i := 0) (by decide +kernel) rfl ?_
  refine v_get (idx := 24) (r := .ref (35)) rfl (by decide +kernel) fo2_24 (by omega) rfl ?_
  refine g_iload_n (i := 2) (by decide +kernel) rfl ?_
  refine v_new (bc := 6) (bs := 28) 1 5 22 (by decide +kernel) (by decide +kernel) (by decide) rfl (tbG_of 182 (by decide +kernel) (by decide +kernel)) (tbG_of 184 (by decide +kernel) (by decide +kernel)) (tbG_of 56 (by decide +kernel) (by decide +kernel)) dft1 (by omega) ?_
  refine g_dup (by decide +kernel) rfl ?_
  refine g_callI (idx := 28) (bc' := 0) (bs' := 0) (bc2 := 6) (bs2 := 28) [] (by decide +kernel) kiX2_28 rfl rfl rfl (fun v h => absurd h List.not_mem_nil) (by decide) rfl (Nat.le_of_ble_eq_true rfl) (by omega) (i_X1 w (k := k - 1) (by omega) (40) (41) _) (fun r u' hq => ?_)
  obtain ⟨rfl, rfl⟩ := hq
  refine v_aast 4 4 15 1 10 5 (by decide +kernel) (by decide) (by decide) rfl (by omega) (by decide +kernel) (by decide) (by decide) rfl (by omega) (by decide +kernel) (by decide) ?_
  refine g_iinc (i := 2) (n := 1) (by decide +kernel) (by decide) rfl ?_
  refine g_goto (off := -22) (tgt := 54) (by decide +kernel) (by decide) ?_
  refine g_iload_n (i := 2) (by decide +kernel) rfl ?_
  refine g_bipush (n := 10) (by decide +kernel) (by decide) ?_
  refine g_icmp_ge (off := 22) (tgt := 79) (by decide +kernel) (by decide) (fun q => absurd q (by decide)) (fun _ => ?_)
  refine g_aload_n (i := 0) (by decide +kernel) rfl ?_
  refine v_get (idx := 24) (r := .ref (35)) rfl (by decide +kernel) fo2_24 (by omega) rfl ?_
  refine g_iload_n (i := 2) (by decide +kernel) rfl ?_
  refine v_new (bc := 5) (bs := 23) 1 5 22 (by decide +kernel) (by decide +kernel) (by decide) rfl (tbG_of 182 (by decide +kernel) (by decide +kernel)) (tbG_of 184 (by decide +kernel) (by decide +kernel)) (tbG_of 56 (by decide +kernel) (by decide +kernel)) dft1 (by omega) ?_
  refine g_dup (by decide +kernel) rfl ?_
  refine g_callI (idx := 28) (bc' := 0) (bs' := 0) (bc2 := 5) (bs2 := 23) [] (by decide +kernel) kiX2_28 rfl rfl rfl (fun v h => absurd h List.not_mem_nil) (by decide) rfl (Nat.le_of_ble_eq_true rfl) (by omega) (i_X1 w (k := k - 1) (by omega) (41) (42) _) (fun r u' hq => ?_)
  obtain ⟨rfl, rfl⟩ := hq
  refine v_aast 4 5 15 1 10 5 (by decide +kernel) (by decide) (by decide) rfl (by omega) (by decide +kernel) (by decide) (by decide) rfl (by omega) (by decide +kernel) (by decide) ?_
  refine g_iinc (i := 2) (n := 1) (by decide +kernel) (by decide) rfl ?_
  refine g_goto (off := -22) (tgt := 54) (by decide +kernel) (by decide) ?_
  refine g_iload_n (i := 2) (by decide +kernel) rfl ?_
  refine g_bipush (n := 10) (by decide +kernel) (by decide) ?_
  refine g_icmp_ge (off := 22) (tgt := 79) (by decide +kernel) (by decide) (fun q => absurd q (by decide)) (fun _ => ?_)
  refine g_aload_n (i := 0) (by decide +kernel) rfl ?_
  refine v_get (idx := 24) (r := .ref (35)) rfl (by decide +kernel) fo2_24 (by omega) rfl ?_
  refine g_iload_n (i := 2) (by decide +kernel) rfl ?_
  refine v_new (bc := 4) (bs := 18) 1 5 22 (by decide +kernel) (by decide +kernel) (by decide) rfl (tbG_of 182 (by decide +kernel) (by decide +kernel)) (tbG_of 184 (by decide +kernel) (by decide +kernel)) (tbG_of 56 (by decide +kernel) (by decide +kernel)) dft1 (by omega) ?_
  refine g_dup (by decide +kernel) rfl ?_
  refine g_callI (idx := 28) (bc' := 0) (bs' := 0) (bc2 := 4) (bs2 := 18) [] (by decide +kernel) kiX2_28 rfl rfl rfl (fun v h => absurd h List.not_mem_nil) (by decide) rfl (Nat.le_of_ble_eq_true rfl) (by omega) (i_X1 w (k := k - 1) (by omega) (42) (43) _) (fun r u' hq => ?_)
  obtain ⟨rfl, rfl⟩ := hq
  refine v_aast 4 6 15 1 10 5 (by decide +kernel) (by decide) (by decide) rfl (by omega) (by decide +kernel) (by decide) (by decide) rfl (by omega) (by decide +kernel) (by decide) ?_
  refine g_iinc (i := 2) (n := 1) (by decide +kernel) (by decide) rfl ?_
  refine g_goto (off := -22) (tgt := 54) (by decide +kernel) (by decide) ?_
  refine g_iload_n (i := 2) (by decide +kernel) rfl ?_
  refine g_bipush (n := 10) (by decide +kernel) (by decide) ?_
  refine g_icmp_ge (off := 22) (tgt := 79) (by decide +kernel) (by decide) (fun q => absurd q (by decide)) (fun _ => ?_)
  refine g_aload_n (i := 0) (by decide +kernel) rfl ?_
  refine v_get (idx := 24) (r := .ref (35)) rfl (by decide +kernel) fo2_24 (by omega) rfl ?_
  refine g_iload_n (i := 2) (by decide +kernel) rfl ?_
  refine v_new (bc := 3) (bs := 13) 1 5 22 (by decide +kernel) (by decide +kernel) (by decide) rfl (tbG_of 182 (by decide +kernel) (by decide +kernel)) (tbG_of 184 (by decide +kernel) (by decide +kernel)) (tbG_of 56 (by decide +kernel) (by decide +kernel)) dft1 (by omega) ?_
  refine g_dup (by decide +kernel) rfl ?_
  refine g_callI (idx := 28) (bc' := 0) (bs' := 0) (bc2 := 3) (bs2 := 13) [] (by decide +kernel) kiX2_28 rfl rfl rfl (fun v h => absurd h List.not_mem_nil) (by decide) rfl (Nat.le_of_ble_eq_true rfl) (by omega) (i_X1 w (k := k - 1) (by omega) (43) (44) _) (fun r u' hq => ?_)
  obtain ⟨rfl, rfl⟩ := hq
  refine v_aast 4 7 15 1 10 5 (by decide +kernel) (by decide) (by decide) rfl (by omega) (by decide +kernel) (by decide) (by decide) rfl (by omega) (by decide +kernel) (by decide) ?_
  refine g_iinc (i := 2) (n := 1) (by decide +kernel) (by decide) rfl ?_
  refine g_goto (off := -22) (tgt := 54) (by decide +kernel) (by decide) ?_
  refine g_iload_n (i := 2) (by decide +kernel) rfl ?_
  refine g_bipush (n := 10) (by decide +kernel) (by decide) ?_
  refine g_icmp_ge (off := 22) (tgt := 79) (by decide +kernel) (by decide) (fun q => absurd q (by decide)) (fun _ => ?_)
  refine g_aload_n (i := 0) (by decide +kernel) rfl ?_
  refine v_get (idx := 24) (r := .ref (35)) rfl (by decide +kernel) fo2_24 (by omega) rfl ?_
  refine g_iload_n (i := 2) (by decide +kernel) rfl ?_
  refine v_new (bc := 2) (bs := 8) 1 5 22 (by decide +kernel) (by decide +kernel) (by decide) rfl (tbG_of 182 (by decide +kernel) (by decide +kernel)) (tbG_of 184 (by decide +kernel) (by decide +kernel)) (tbG_of 56 (by decide +kernel) (by decide +kernel)) dft1 (by omega) ?_
  refine g_dup (by decide +kernel) rfl ?_
  refine g_callI (idx := 28) (bc' := 0) (bs' := 0) (bc2 := 2) (bs2 := 8) [] (by decide +kernel) kiX2_28 rfl rfl rfl (fun v h => absurd h List.not_mem_nil) (by decide) rfl (Nat.le_of_ble_eq_true rfl) (by omega) (i_X1 w (k := k - 1) (by omega) (44) (45) _) (fun r u' hq => ?_)
  obtain ⟨rfl, rfl⟩ := hq
  refine v_aast 4 8 15 1 10 5 (by decide +kernel) (by decide) (by decide) rfl (by omega) (by decide +kernel) (by decide) (by decide) rfl (by omega) (by decide +kernel) (by decide) ?_
  refine g_iinc (i := 2) (n := 1) (by decide +kernel) (by decide) rfl ?_
  refine g_goto (off := -22) (tgt := 54) (by decide +kernel) (by decide) ?_
  refine g_iload_n (i := 2) (by decide +kernel) rfl ?_
  refine g_bipush (n := 10) (by decide +kernel) (by decide) ?_
  refine g_icmp_ge (off := 22) (tgt := 79) (by decide +kernel) (by decide) (fun q => absurd q (by decide)) (fun _ => ?_)
  refine g_aload_n (i := 0) (by decide +kernel) rfl ?_
  refine v_get (idx := 24) (r := .ref (35)) rfl (by decide +kernel) fo2_24 (by omega) rfl ?_
  refine g_iload_n (i := 2) (by decide +kernel) rfl ?_
  refine v_new (bc := 1) (bs := 3) 1 5 22 (by decide +kernel) (by decide +kernel) (by decide) rfl (tbG_of 182 (by decide +kernel) (by decide +kernel)) (tbG_of 184 (by decide +kernel) (by decide +kernel)) (tbG_of 56 (by decide +kernel) (by decide +kernel)) dft1 (by omega) ?_
  refine g_dup (by decide +kernel) rfl ?_
  refine g_callI (idx := 28) (bc' := 0) (bs' := 0) (bc2 := 1) (bs2 := 3) [] (by decide +kernel) kiX2_28 rfl rfl rfl (fun v h => absurd h List.not_mem_nil) (by decide) rfl (Nat.le_of_ble_eq_true rfl) (by omega) (i_X1 w (k := k - 1) (by omega) (45) (46) _) (fun r u' hq => ?_)
  obtain ⟨rfl, rfl⟩ := hq
  refine v_aast 4 9 15 1 10 5 (by decide +kernel) (by decide) (by decide) rfl (by omega) (by decide +kernel) (by decide) (by decide) rfl (by omega) (by decide +kernel) (by decide) ?_
  refine g_iinc (i := 2) (n := 1) (by decide +kernel) (by decide) rfl ?_
  refine g_goto (off := -22) (tgt := 54) (by decide +kernel) (by decide) ?_
  refine g_iload_n (i := 2) (by decide +kernel) rfl ?_
  refine g_bipush (n := 10) (by decide +kernel) (by decide) ?_
  refine g_icmp_ge (off := 22) (tgt := 79) (by decide +kernel) (by decide) (fun _ => ?_) (fun q => absurd (by decide) q)
  refine g_aload_n (i := 0) (by decide +kernel) rfl ?_
  refine g_iconst (n := 3) (by decide +kernel) ?_
  refine v_newa (atype := .int) (bc := 0) (bs := 0) 0 10 3 (by decide +kernel) (by decide +kernel) rfl (by decide) (tbG_of 103 (by decide +kernel) (by decide +kernel)) (by decide) (by decide) (by decide) rfl (by omega) ?_
  refine v_putF (idx := 29) (ty := .array .int) (by decide +kernel) ⟨fo2_29, fun C T N h => by cases h; exact ⟨(by decide +kernel), (by decide +kernel), rfl⟩⟩ rfl (by omega) rfl rfl rfl ?_
  refine g_iconst (n := 0) (by decide +kernel) ?_
  refine g_istore_n (i := 2) (by decide +kernel) (by decide) ?_
  refine g_iload_n (i := 2) (by decide +kernel) rfl ?_
  refine g_iconst (n := 3) (by decide +kernel) ?_
  refine g_icmp_ge (off := 17) (tgt := 107) (by decide +kernel) (by decide) (fun q => absurd q (by decide)) (fun _ => ?_)
  refine g_aload_n (i := 0) (by decide +kernel) rfl ?_
  refine v_get (idx := 29) (r := .ref (46)) rfl (by decide +kernel) fo2_29 (by omega) rfl ?_
  refine g_iload_n (i := 2) (by decide +kernel) rfl ?_
  refine g_ldc (i := 33) (v := Int32.ofInt (-1000000005)) (by decide +kernel) (tbG_of 215 (by decide +kernel) (by decide +kernel)) ?_
  refine v_iast 0 3 (by decide +kernel) (by decide) (by decide) (by omega) (by decide +kernel) (by decide) ?_
  refine g_iinc (i := 2) (n := 1) (by decide +kernel) (by decide) rfl ?_
  refine g_goto (off := -16) (tgt := 88) (by decide +kernel) (by decide) ?_
  refine g_iload_n (i := 2) (by decide +kernel) rfl ?_
  refine g_iconst (n := 3) (by decide +kernel) ?_
  refine g_icmp_ge (off := 17) (tgt := 107) (by decide +kernel) (by decide) (fun q => absurd q (by decide)) (fun _ => ?_)
  refine g_aload_n (i := 0) (by decide +kernel) rfl ?_
  refine v_get (idx := 29) (r := .ref (46)) rfl (by decide +kernel) fo2_29 (by omega) rfl ?_
  refine g_iload_n (i := 2) (by decide +kernel) rfl ?_
  refine g_ldc (i := 33) (v := Int32.ofInt (-1000000005)) (by decide +kernel) (tbG_of 215 (by decide +kernel) (by decide +kernel)) ?_
  refine v_iast 1 3 (by decide +kernel) (by decide) (by decide) (by omega) (by decide +kernel) (by decide) ?_
  refine g_iinc (i := 2) (n := 1) (by decide +kernel) (by decide) rfl ?_
  refine g_goto (off := -16) (tgt := 88) (by decide +kernel) (by decide) ?_
  refine g_iload_n (i := 2) (by decide +kernel) rfl ?_
  refine g_iconst (n := 3) (by decide +kernel) ?_
  refine g_icmp_ge (off := 17) (tgt := 107) (by decide +kernel) (by decide) (fun q => absurd q (by decide)) (fun _ => ?_)
  refine g_aload_n (i := 0) (by decide +kernel) rfl ?_
  refine v_get (idx := 29) (r := .ref (46)) rfl (by decide +kernel) fo2_29 (by omega) rfl ?_
  refine g_iload_n (i := 2) (by decide +kernel) rfl ?_
  refine g_ldc (i := 33) (v := Int32.ofInt (-1000000005)) (by decide +kernel) (tbG_of 215 (by decide +kernel) (by decide +kernel)) ?_
  refine v_iast 2 3 (by decide +kernel) (by decide) (by decide) (by omega) (by decide +kernel) (by decide) ?_
  refine g_iinc (i := 2) (n := 1) (by decide +kernel) (by decide) rfl ?_
  refine g_goto (off := -16) (tgt := 88) (by decide +kernel) (by decide) ?_
  refine g_iload_n (i := 2) (by decide +kernel) rfl ?_
  refine g_iconst (n := 3) (by decide +kernel) ?_
  refine g_icmp_ge (off := 17) (tgt := 107) (by decide +kernel) (by decide) (fun _ => ?_) (fun q => absurd (by decide) q)
  refine g_aload_n (i := 0) (by decide +kernel) rfl ?_
  refine g_iconst (n := 3) (by decide +kernel) ?_
  refine v_put (idx := 34) (ty := .int) (by decide +kernel) ⟨fo2_34, fun C T N h => by cases h; exact ⟨(by decide +kernel), (by decide +kernel)⟩⟩ (by omega) rfl rfl rfl ?_
  refine g_aload_n (i := 0) (by decide +kernel) rfl ?_
  refine g_iconst (n := 1) (by decide +kernel) ?_
  refine v_put (idx := 38) (ty := .int) (by decide +kernel) ⟨fo2_38, fun C T N h => by cases h; exact ⟨(by decide +kernel), (by decide +kernel)⟩⟩ (by omega) rfl rfl rfl ?_
  refine g_vret rfl (by decide +kernel) ?_
  exact ⟨rfl, _, rfl, fun b hb => by repeat (first | rw [uE_ne (by omega)] | rw [uV_n (by omega)]), dn_P29 V⟩
set_option maxRecDepth 20000 in
set_option maxHeartbeats 4000000 in
theorem dn_P47 (V : Nat → Nat → Value)  : ∀ a, 47 ≤ a → a < 65 → ∀ k, k < (kd0 a).2 → (uE (uE (uE (uE (uE (uE (uV (uE (uV (uE (uV (uE (uV (uE (uV (uE (uV (uE (uV (uE (uV (uE (uV (uE (uV (uE (uV (uE (uV (uE (uE (uV (uE (uE (uV (uE (uE (uV (uE (uE (uV (uE (uV (uE (uV V 47 (df 2)) (47) 3 (.ref (1))) (48) (fun _ => .null)) (47) 0 (.ref (48))) (49) (df 0)) (49) 1 (.int (Int32.ofInt 10))) (48) 0 (.ref (49))) (50) (df 0)) (50) 1 (.int (Int32.ofInt 10))) (48) 1 (.ref (50))) (51) (df 0)) (51) 1 (.int (Int32.ofInt 10))) (48) 2 (.ref (51))) (52) (df 0)) (52) 1 (.int (Int32.ofInt 10))) (48) 3 (.ref (52))) (53) (fun _ => .null)) (47) 1 (.ref (53))) (54) (df 1)) (53) 0 (.ref (54))) (55) (df 1)) (53) 1 (.ref (55))) (56) (df 1)) (53) 2 (.ref (56))) (57) (df 1)) (53) 3 (.ref (57))) (58) (df 1)) (53) 4 (.ref (58))) (59) (df 1)) (53) 5 (.ref (59))) (60) (df 1)) (53) 6 (.ref (60))) (61) (df 1)) (53) 7 (.ref (61))) (62) (df 1)) (53) 8 (.ref (62))) (63) (df 1)) (53) 9 (.ref (63))) (64) (fun _ => .int 0)) (47) 2 (.ref (64))) (64) 0 (.int (Int32.ofInt (-1000000005)))) (64) 1 (.int (Int32.ofInt (-1000000005)))) (64) 2 (.int (Int32.ofInt (-1000000005)))) (47) 6 (.int (Int32.ofInt 3))) (47) 11 (.int (Int32.ofInt 1))) a k = vl hI a k := by
  intro a h1 h2 k hk
  rcases (show a = 47 ∨ a = 48 ∨ a = 49 ∨ a = 50 ∨ a = 51 ∨ a = 52 ∨ a = 53 ∨ a = 54 ∨ a = 55 ∨ a = 56 ∨ a = 57 ∨ a = 58 ∨ a = 59 ∨ a = 60 ∨ a = 61 ∨ a = 62 ∨ a = 63 ∨ a = 64 by omega) with e | e | e | e | e | e | e | e | e | e | e | e | e | e | e | e | e | e
  · subst e; rw [show (kd0 47).2 = 12 from (by decide +kernel)] at hk
    rcases (show k = 0 ∨ k = 1 ∨ k = 2 ∨ k = 3 ∨ k = 4 ∨ k = 5 ∨ k = 6 ∨ k = 7 ∨ k = 8 ∨ k = 9 ∨ k = 10 ∨ k = 11 by omega) with q | q | q | q | q | q | q | q | q | q | q | q <;> subst q <;> rfl
  · subst e; rw [show (kd0 48).2 = 4 from (by decide +kernel)] at hk
    rcases (show k = 0 ∨ k = 1 ∨ k = 2 ∨ k = 3 by omega) with q | q | q | q <;> subst q <;> rfl
  · subst e; rw [show (kd0 49).2 = 3 from (by decide +kernel)] at hk
    rcases (show k = 0 ∨ k = 1 ∨ k = 2 by omega) with q | q | q <;> subst q <;> rfl
  · subst e; rw [show (kd0 50).2 = 3 from (by decide +kernel)] at hk
    rcases (show k = 0 ∨ k = 1 ∨ k = 2 by omega) with q | q | q <;> subst q <;> rfl
  · subst e; rw [show (kd0 51).2 = 3 from (by decide +kernel)] at hk
    rcases (show k = 0 ∨ k = 1 ∨ k = 2 by omega) with q | q | q <;> subst q <;> rfl
  · subst e; rw [show (kd0 52).2 = 3 from (by decide +kernel)] at hk
    rcases (show k = 0 ∨ k = 1 ∨ k = 2 by omega) with q | q | q <;> subst q <;> rfl
  · subst e; rw [show (kd0 53).2 = 10 from (by decide +kernel)] at hk
    rcases (show k = 0 ∨ k = 1 ∨ k = 2 ∨ k = 3 ∨ k = 4 ∨ k = 5 ∨ k = 6 ∨ k = 7 ∨ k = 8 ∨ k = 9 by omega) with q | q | q | q | q | q | q | q | q | q <;> subst q <;> rfl
  · subst e; rw [show (kd0 54).2 = 5 from (by decide +kernel)] at hk
    rcases (show k = 0 ∨ k = 1 ∨ k = 2 ∨ k = 3 ∨ k = 4 by omega) with q | q | q | q | q <;> subst q <;> rfl
  · subst e; rw [show (kd0 55).2 = 5 from (by decide +kernel)] at hk
    rcases (show k = 0 ∨ k = 1 ∨ k = 2 ∨ k = 3 ∨ k = 4 by omega) with q | q | q | q | q <;> subst q <;> rfl
  · subst e; rw [show (kd0 56).2 = 5 from (by decide +kernel)] at hk
    rcases (show k = 0 ∨ k = 1 ∨ k = 2 ∨ k = 3 ∨ k = 4 by omega) with q | q | q | q | q <;> subst q <;> rfl
  · subst e; rw [show (kd0 57).2 = 5 from (by decide +kernel)] at hk
    rcases (show k = 0 ∨ k = 1 ∨ k = 2 ∨ k = 3 ∨ k = 4 by omega) with q | q | q | q | q <;> subst q <;> rfl
  · subst e; rw [show (kd0 58).2 = 5 from (by decide +kernel)] at hk
    rcases (show k = 0 ∨ k = 1 ∨ k = 2 ∨ k = 3 ∨ k = 4 by omega) with q | q | q | q | q <;> subst q <;> rfl
  · subst e; rw [show (kd0 59).2 = 5 from (by decide +kernel)] at hk
    rcases (show k = 0 ∨ k = 1 ∨ k = 2 ∨ k = 3 ∨ k = 4 by omega) with q | q | q | q | q <;> subst q <;> rfl
  · subst e; rw [show (kd0 60).2 = 5 from (by decide +kernel)] at hk
    rcases (show k = 0 ∨ k = 1 ∨ k = 2 ∨ k = 3 ∨ k = 4 by omega) with q | q | q | q | q <;> subst q <;> rfl
  · subst e; rw [show (kd0 61).2 = 5 from (by decide +kernel)] at hk
    rcases (show k = 0 ∨ k = 1 ∨ k = 2 ∨ k = 3 ∨ k = 4 by omega) with q | q | q | q | q <;> subst q <;> rfl
  · subst e; rw [show (kd0 62).2 = 5 from (by decide +kernel)] at hk
    rcases (show k = 0 ∨ k = 1 ∨ k = 2 ∨ k = 3 ∨ k = 4 by omega) with q | q | q | q | q <;> subst q <;> rfl
  · subst e; rw [show (kd0 63).2 = 5 from (by decide +kernel)] at hk
    rcases (show k = 0 ∨ k = 1 ∨ k = 2 ∨ k = 3 ∨ k = 4 by omega) with q | q | q | q | q <;> subst q <;> rfl
  · subst e; rw [show (kd0 64).2 = 3 from (by decide +kernel)] at hk
    rcases (show k = 0 ∨ k = 1 ∨ k = 2 by omega) with q | q | q <;> subst q <;> rfl
set_option maxRecDepth 20000 in
set_option maxHeartbeats 4000000 in
theorem i_P47 (w : Wt) {k : Nat} (hk : 3 ≤ k)  (V : Nat → Nat → Value) : Gp w k 17 79 MX2_init (fun r u => r = none ∧ ∃ V', u = Mv 65 V' ∧ (∀ b, b < 47 → V' b = V b) ∧ ∀ a, 47 ≤ a → a < 65 → ∀ k, k < (kd0 a).2 → V' a k = vl hI a k) 0 [some (.ref 47), some (.ref 1), none] [] (Mv (48) (uV V 47 (df 2))) := by
  refine g_aload_n (i := 0) (by decide +kernel) rfl ?_
  refine g_objI (idx := 3) (by decide +kernel) (tbG_of 158 (by decide +kernel) (by decide +kernel)) (Nat.le_of_ble_eq_true rfl) (by omega) ?_
  refine g_aload_n (i := 0) (by decide +kernel) rfl ?_
  refine g_aload_n (i := 1) (by decide +kernel) rfl ?_
  refine v_putF (idx := 9) (ty := .object "SpoonPassage$Texts") (by decide +kernel) ⟨fo2_9, fun C T N h => by cases h; exact ⟨(by decide +kernel), (by decide +kernel), rfl⟩⟩ rfl (by omega) rfl rfl rfl ?_
  refine g_aload_n (i := 0) (by decide +kernel) rfl ?_
  refine g_iconst (n := 4) (by decide +kernel) ?_
  refine v_newq (bc := 16) (bs := 75) 3 14 4 15 (by decide +kernel) (by decide +kernel) rfl (by decide) (tbG_of 159 (by decide +kernel) (by decide +kernel)) (fun s h => (ao_of h).1) (by decide) (by decide) (by decide) (by omega) ?_
  refine v_putF (idx := 17) (ty := .array (.object "SpoonPassage$Branch")) (by decide +kernel) ⟨fo2_17, fun C T N h => by cases h; exact ⟨(by decide +kernel), (by decide +kernel), rfl⟩⟩ rfl (by omega) rfl rfl rfl ?_
  refine g_iconst (n := 0) (by decide +kernel) ?_
  refine g_istore_n (i := 2) (by decide +kernel) (by decide) ?_
  refine g_iload_n (i := 2) (by decide +kernel) rfl ?_
  refine g_iconst (n := 4) (by decide +kernel) ?_
  refine g_icmp_ge (off := 22) (tgt := 43) (by decide +kernel) (by decide) (fun q => absurd q (by decide)) (fun _ => ?_)
  refine g_aload_n (i := 0) (by decide +kernel) rfl ?_
  refine v_get (idx := 17) (r := .ref (48)) rfl (by decide +kernel) fo2_17 (by omega) rfl ?_
  refine g_iload_n (i := 2) (by decide +kernel) rfl ?_
  refine v_new (bc := 15) (bs := 72) 0 3 15 (by decide +kernel) (by decide +kernel) (by decide) rfl (tbG_of 159 (by decide +kernel) (by decide +kernel)) (tbG_of 161 (by decide +kernel) (by decide +kernel)) (tbG_of 55 (by decide +kernel) (by decide +kernel)) dft0 (by omega) ?_
  refine g_dup (by decide +kernel) rfl ?_
  refine g_callI (idx := 21) (bc' := 0) (bs' := 0) (bc2 := 15) (bs2 := 72) [] (by decide +kernel) kiX2_21 rfl rfl rfl (fun v h => absurd h List.not_mem_nil) (by decide) rfl (Nat.le_of_ble_eq_true rfl) (by omega) (i_X0 w (k := k - 1) (by omega) (49) (50) (by omega) rfl _) (fun r u' hq => ?_)
  obtain ⟨rfl, rfl⟩ := hq
  refine v_aast 3 0 14 0 4 3 (by decide +kernel) (by decide) (by decide) rfl (by omega) (by decide +kernel) (by decide) (by decide) rfl (by omega) (by decide +kernel) (by decide) ?_
  refine g_iinc (i := 2) (n := 1) (by decide +kernel) (by decide) rfl ?_
  refine g_goto (off := -21) (tgt := 19) (by decide +kernel) (by decide) ?_
  refine g_iload_n (i := 2) (by decide +kernel) rfl ?_
  refine g_iconst (n := 4) (by decide +kernel) ?_
  refine g_icmp_ge (off := 22) (tgt := 43) (by decide +kernel) (by decide) (fun q => absurd q (by decide)) (fun _ => ?_)
  refine g_aload_n (i := 0) (by decide +kernel) rfl ?_
  refine v_get (idx := 17) (r := .ref (48)) rfl (by decide +kernel) fo2_17 (by omega) rfl ?_
  refine g_iload_n (i := 2) (by decide +kernel) rfl ?_
  refine v_new (bc := 14) (bs := 69) 0 3 15 (by decide +kernel) (by decide +kernel) (by decide) rfl (tbG_of 159 (by decide +kernel) (by decide +kernel)) (tbG_of 161 (by decide +kernel) (by decide +kernel)) (tbG_of 55 (by decide +kernel) (by decide +kernel)) dft0 (by omega) ?_
  refine g_dup (by decide +kernel) rfl ?_
  refine g_callI (idx := 21) (bc' := 0) (bs' := 0) (bc2 := 14) (bs2 := 69) [] (by decide +kernel) kiX2_21 rfl rfl rfl (fun v h => absurd h List.not_mem_nil) (by decide) rfl (Nat.le_of_ble_eq_true rfl) (by omega) (i_X0 w (k := k - 1) (by omega) (50) (51) (by omega) rfl _) (fun r u' hq => ?_)
  obtain ⟨rfl, rfl⟩ := hq
  refine v_aast 3 1 14 0 4 3 (by decide +kernel) (by decide) (by decide) rfl (by omega) (by decide +kernel) (by decide) (by decide) rfl (by omega) (by decide +kernel) (by decide) ?_
  refine g_iinc (i := 2) (n := 1) (by decide +kernel) (by decide) rfl ?_
  refine g_goto (off := -21) (tgt := 19) (by decide +kernel) (by decide) ?_
  refine g_iload_n (i := 2) (by decide +kernel) rfl ?_
  refine g_iconst (n := 4) (by decide +kernel) ?_
  refine g_icmp_ge (off := 22) (tgt := 43) (by decide +kernel) (by decide) (fun q => absurd q (by decide)) (fun _ => ?_)
  refine g_aload_n (i := 0) (by decide +kernel) rfl ?_
  refine v_get (idx := 17) (r := .ref (48)) rfl (by decide +kernel) fo2_17 (by omega) rfl ?_
  refine g_iload_n (i := 2) (by decide +kernel) rfl ?_
  refine v_new (bc := 13) (bs := 66) 0 3 15 (by decide +kernel) (by decide +kernel) (by decide) rfl (tbG_of 159 (by decide +kernel) (by decide +kernel)) (tbG_of 161 (by decide +kernel) (by decide +kernel)) (tbG_of 55 (by decide +kernel) (by decide +kernel)) dft0 (by omega) ?_
  refine g_dup (by decide +kernel) rfl ?_
  refine g_callI (idx := 21) (bc' := 0) (bs' := 0) (bc2 := 13) (bs2 := 66) [] (by decide +kernel) kiX2_21 rfl rfl rfl (fun v h => absurd h List.not_mem_nil) (by decide) rfl (Nat.le_of_ble_eq_true rfl) (by omega) (i_X0 w (k := k - 1) (by omega) (51) (52) (by omega) rfl _) (fun r u' hq => ?_)
  obtain ⟨rfl, rfl⟩ := hq
  refine v_aast 3 2 14 0 4 3 (by decide +kernel) (by decide) (by decide) rfl (by omega) (by decide +kernel) (by decide) (by decide) rfl (by omega) (by decide +kernel) (by decide) ?_
  refine g_iinc (i := 2) (n := 1) (by decide +kernel) (by decide) rfl ?_
  refine g_goto (off := -21) (tgt := 19) (by decide +kernel) (by decide) ?_
  refine g_iload_n (i := 2) (by decide +kernel) rfl ?_
  refine g_iconst (n := 4) (by decide +kernel) ?_
  refine g_icmp_ge (off := 22) (tgt := 43) (by decide +kernel) (by decide) (fun q => absurd q (by decide)) (fun _ => ?_)
  refine g_aload_n (i := 0) (by decide +kernel) rfl ?_
  refine v_get (idx := 17) (r := .ref (48)) rfl (by decide +kernel) fo2_17 (by omega) rfl ?_
  refine g_iload_n (i := 2) (by decide +kernel) rfl ?_
  refine v_new (bc := 12) (bs := 63) 0 3 15 (by decide +kernel) (by decide +kernel) (by decide) rfl (tbG_of 159 (by decide +kernel) (by decide +kernel)) (tbG_of 161 (by decide +kernel) (by decide +kernel)) (tbG_of 55 (by decide +kernel) (by decide +kernel)) dft0 (by omega) ?_
  refine g_dup (by decide +kernel) rfl ?_
  refine g_callI (idx := 21) (bc' := 0) (bs' := 0) (bc2 := 12) (bs2 := 63) [] (by decide +kernel) kiX2_21 rfl rfl rfl (fun v h => absurd h List.not_mem_nil) (by decide) rfl (Nat.le_of_ble_eq_true rfl) (by omega) (i_X0 w (k := k - 1) (by omega) (52) (53) (by omega) rfl _) (fun r u' hq => ?_)
  obtain ⟨rfl, rfl⟩ := hq
  refine v_aast 3 3 14 0 4 3 (by decide +kernel) (by decide) (by decide) rfl (by omega) (by decide +kernel) (by decide) (by decide) rfl (by omega) (by decide +kernel) (by decide) ?_
  refine g_iinc (i := 2) (n := 1) (by decide +kernel) (by decide) rfl ?_
  refine g_goto (off := -21) (tgt := 19) (by decide +kernel) (by decide) ?_
  refine g_iload_n (i := 2) (by decide +kernel) rfl ?_
  refine g_iconst (n := 4) (by decide +kernel) ?_
  refine g_icmp_ge (off := 22) (tgt := 43) (by decide +kernel) (by decide) (fun _ => ?_) (fun q => absurd (by decide) q)
  refine g_aload_n (i := 0) (by decide +kernel) rfl ?_
  refine g_bipush (n := 10) (by decide +kernel) (by decide) ?_
  refine v_newq (bc := 11) (bs := 53) 4 15 10 22 (by decide +kernel) (by decide +kernel) rfl (by decide) (tbG_of 182 (by decide +kernel) (by decide +kernel)) (fun s h => (ao_of h).2.1) (by decide) (by decide) (by decide) (by omega) ?_
  refine v_putF (idx := 24) (ty := .array (.object "SpoonPassage$Digger")) (by decide +kernel) ⟨fo2_24, fun C T N h => by cases h; exact ⟨(by decide +kernel), (by decide +kernel), rfl⟩⟩ rfl (by omega) rfl rfl rfl ?_
  refine g_iconst (n := 0) (by decide +kernel) ?_
  refine g_istore_n (i := 2) (by decide +kernel) (by decide) ?_
  refine g_iload_n (i := 2) (by decide +kernel) rfl ?_
  refine g_bipush (n := 10) (by decide +kernel) (by decide) ?_
  refine g_icmp_ge (off := 22) (tgt := 79) (by decide +kernel) (by decide) (fun q => absurd q (by decide)) (fun _ => ?_)
  refine g_aload_n (i := 0) (by decide +kernel) rfl ?_
  refine v_get (idx := 24) (r := .ref (53)) rfl (by decide +kernel) fo2_24 (by omega) rfl ?_
  refine g_iload_n (i := 2) (by decide +kernel) rfl ?_
  refine v_new (bc := 10) (bs := 48) 1 5 22 (by decide +kernel) (by decide +kernel) (by decide) rfl (tbG_of 182 (by decide +kernel) (by decide +kernel)) (tbG_of 184 (by decide +kernel) (by decide +kernel)) (tbG_of 56 (by decide +kernel) (by decide +kernel)) dft1 (by omega) ?_
  refine g_dup (by decide +kernel) rfl ?_
  refine g_callI (idx := 28) (bc' := 0) (bs' := 0) (bc2 := 10) (bs2 := 48) [] (by decide +kernel) kiX2_28 rfl rfl rfl (fun v h => absurd h List.not_mem_nil) (by decide) rfl (Nat.le_of_ble_eq_true rfl) (by omega) (i_X1 w (k := k - 1) (by omega) (54) (55) _) (fun r u' hq => ?_)
  obtain ⟨rfl, rfl⟩ := hq
  refine v_aast 4 0 15 1 10 5 (by decide +kernel) (by decide) (by decide) rfl (by omega) (by decide +kernel) (by decide) (by decide) rfl (by omega) (by decide +kernel) (by decide) ?_
  refine g_iinc (i := 2) (n := 1) (by decide +kernel) (by decide) rfl ?_
  refine g_goto (off := -22) (tgt := 54) (by decide +kernel) (by decide) ?_
  refine g_iload_n (i := 2) (by decide +kernel) rfl ?_
  refine g_bipush (n := 10) (by decide +kernel) (by decide) ?_
  refine g_icmp_ge (off := 22) (tgt := 79) (by decide +kernel) (by decide) (fun q => absurd q (by decide)) (fun _ => ?_)
  refine g_aload_n (i := 0) (by decide +kernel) rfl ?_
  refine v_get (idx := 24) (r := .ref (53)) rfl (by decide +kernel) fo2_24 (by omega) rfl ?_
  refine g_iload_n (i := 2) (by decide +kernel) rfl ?_
  refine v_new (bc := 9) (bs := 43) 1 5 22 (by decide +kernel) (by decide +kernel) (by decide) rfl (tbG_of 182 (by decide +kernel) (by decide +kernel)) (tbG_of 184 (by decide +kernel) (by decide +kernel)) (tbG_of 56 (by decide +kernel) (by decide +kernel)) dft1 (by omega) ?_
  refine g_dup (by decide +kernel) rfl ?_
  refine g_callI (idx := 28) (bc' := 0) (bs' := 0) (bc2 := 9) (bs2 := 43) [] (by decide +kernel) kiX2_28 rfl rfl rfl (fun v h => absurd h List.not_mem_nil) (by decide) rfl (Nat.le_of_ble_eq_true rfl) (by omega) (i_X1 w (k := k - 1) (by omega) (55) (56) _) (fun r u' hq => ?_)
  obtain ⟨rfl, rfl⟩ := hq
  refine v_aast 4 1 15 1 10 5 (by decide +kernel) (by decide) (by decide) rfl (by omega) (by decide +kernel) (by decide) (by decide) rfl (by omega) (by decide +kernel) (by decide) ?_
  refine g_iinc (i := 2) (n := 1) (by decide +kernel) (by decide) rfl ?_
  refine g_goto (off := -22) (tgt := 54) (by decide +kernel) (by decide) ?_
  refine g_iload_n (i := 2) (by decide +kernel) rfl ?_
  refine g_bipush (n := 10) (by decide +kernel) (by decide) ?_
  refine g_icmp_ge (off := 22) (tgt := 79) (by decide +kernel) (by decide) (fun q => absurd q (by decide)) (fun _ => ?_)
  refine g_aload_n (i := 0) (by decide +kernel) rfl ?_
  refine v_get (idx := 24) (r := .ref (53)) rfl (by decide +kernel) fo2_24 (by omega) rfl ?_
  refine g_iload_n (i := 2) (by decide +kernel) rfl ?_
  refine v_new (bc := 8) (bs := 38) 1 5 22 (by decide +kernel) (by decide +kernel) (by decide) rfl (tbG_of 182 (by decide +kernel) (by decide +kernel)) (tbG_of 184 (by decide +kernel) (by decide +kernel)) (tbG_of 56 (by decide +kernel) (by decide +kernel)) dft1 (by omega) ?_
  refine g_dup (by decide +kernel) rfl ?_
  refine g_callI (idx := 28) (bc' := 0) (bs' := 0) (bc2 := 8) (bs2 := 38) [] (by decide +kernel) kiX2_28 rfl rfl rfl (fun v h => absurd h List.not_mem_nil) (by decide) rfl (Nat.le_of_ble_eq_true rfl) (by omega) (i_X1 w (k := k - 1) (by omega) (56) (57) _) (fun r u' hq => ?_)
  obtain ⟨rfl, rfl⟩ := hq
  refine v_aast 4 2 15 1 10 5 (by decide +kernel) (by decide) (by decide) rfl (by omega) (by decide +kernel) (by decide) (by decide) rfl (by omega) (by decide +kernel) (by decide) ?_
  refine g_iinc (i := 2) (n := 1) (by decide +kernel) (by decide) rfl ?_
  refine g_goto (off := -22) (tgt := 54) (by decide +kernel) (by decide) ?_
  refine g_iload_n (i := 2) (by decide +kernel) rfl ?_
  refine g_bipush (n := 10) (by decide +kernel) (by decide) ?_
  refine g_icmp_ge (off := 22) (tgt := 79) (by decide +kernel) (by decide) (fun q => absurd q (by decide)) (fun _ => ?_)
  refine g_aload_n (i := 0) (by decide +kernel) rfl ?_
  refine v_get (idx := 24) (r := .ref (53)) rfl (by decide +kernel) fo2_24 (by omega) rfl ?_
  refine g_iload_n (i := 2) (by decide +kernel) rfl ?_
  refine v_new (bc := 7) (bs := 33) 1 5 22 (by decide +kernel) (by decide +kernel) (by decide) rfl (tbG_of 182 (by decide +kernel) (by decide +kernel)) (tbG_of 184 (by decide +kernel) (by decide +kernel)) (tbG_of 56 (by decide +kernel) (by decide +kernel)) dft1 (by omega) ?_
  refine g_dup (by decide +kernel) rfl ?_
  refine g_callI (idx := 28) (bc' := 0) (bs' := 0) (bc2 := 7) (bs2 := 33) [] (by decide +kernel) kiX2_28 rfl rfl rfl (fun v h => absurd h List.not_mem_nil) (by decide) rfl (Nat.le_of_ble_eq_true rfl) (by omega) (i_X1 w (k := k - 1) (by omega) (57) (58) _) (fun r u' hq => ?_)
  obtain ⟨rfl, rfl⟩ := hq
  refine v_aast 4 3 15 1 10 5 (by decide +kernel) (by decide) (by decide) rfl (by omega) (by decide +kernel) (by decide) (by decide) rfl (by omega) (by decide +kernel) (by decide) ?_
  refine g_iinc (i := 2) (n := 1) (by decide +kernel) (by decide) rfl ?_
  refine g_goto (off := -22) (tgt := 54) (by decide +kernel) (by decide) ?_
  refine g_iload_n (i := 2) (by decide +kernel) rfl ?_
  refine g_bipush (n := 10) (by decide +kernel) (by decide) ?_
  refine g_icmp_ge (off := 22) (tgt := 79) (by decide +kernel) (by decide) (fun q => absurd q (by decide)) (fun _ => ?_)
  refine g_aload_n (i := 0) (by decide +kernel) rfl ?_
  refine v_get (idx := 24) (r := .ref (53)) rfl (by decide +kernel) fo2_24 (by omega) rfl ?_
  refine g_iload_n (i := 2) (by decide +kernel) rfl ?_
  refine v_new (bc := 6) (bs := 28) 1 5 22 (by decide +kernel) (by decide +kernel) (by decide) rfl (tbG_of 182 (by decide +kernel) (by decide +kernel)) (tbG_of 184 (by decide +kernel) (by decide +kernel)) (tbG_of 56 (by decide +kernel) (by decide +kernel)) dft1 (by omega) ?_
  refine g_dup (by decide +kernel) rfl ?_
  refine g_callI (idx := 28) (bc' := 0) (bs' := 0) (bc2 := 6) (bs2 := 28) [] (by decide +kernel) kiX2_28 rfl rfl rfl (fun v h => absurd h List.not_mem_nil) (by decide) rfl (Nat.le_of_ble_eq_true rfl) (by omega) (i_X1 w (k := k - 1) (by omega) (58) (59) _) (fun r u' hq => ?_)
  obtain ⟨rfl, rfl⟩ := hq
  refine v_aast 4 4 15 1 10 5 (by decide +kernel) (by decide) (by decide) rfl (by omega) (by decide +kernel) (by decide) (by decide) rfl (by omega) (by decide +kernel) (by decide) ?_
  refine g_iinc (i := 2) (n := 1) (by decide +kernel) (by decide) rfl ?_
  refine g_goto (off := -22) (tgt := 54) (by decide +kernel) (by decide) ?_
  refine g_iload_n (i := 2) (by decide +kernel) rfl ?_
  refine g_bipush (n := 10) (by decide +kernel) (by decide) ?_
  refine g_icmp_ge (off := 22) (tgt := 79) (by decide +kernel) (by decide) (fun q => absurd q (by decide)) (fun _ => ?_)
  refine g_aload_n (i := 0) (by decide +kernel) rfl ?_
  refine v_get (idx := 24) (r := .ref (53)) rfl (by decide +kernel) fo2_24 (by omega) rfl ?_
  refine g_iload_n (i := 2) (by decide +kernel) rfl ?_
  refine v_new (bc := 5) (bs := 23) 1 5 22 (by decide +kernel) (by decide +kernel) (by decide) rfl (tbG_of 182 (by decide +kernel) (by decide +kernel)) (tbG_of 184 (by decide +kernel) (by decide +kernel)) (tbG_of 56 (by decide +kernel) (by decide +kernel)) dft1 (by omega) ?_
  refine g_dup (by decide +kernel) rfl ?_
  refine g_callI (idx := 28) (bc' := 0) (bs' := 0) (bc2 := 5) (bs2 := 23) [] (by decide +kernel) kiX2_28 rfl rfl rfl (fun v h => absurd h List.not_mem_nil) (by decide) rfl (Nat.le_of_ble_eq_true rfl) (by omega) (i_X1 w (k := k - 1) (by omega) (59) (60) _) (fun r u' hq => ?_)
  obtain ⟨rfl, rfl⟩ := hq
  refine v_aast 4 5 15 1 10 5 (by decide +kernel) (by decide) (by decide) rfl (by omega) (by decide +kernel) (by decide) (by decide) rfl (by omega) (by decide +kernel) (by decide) ?_
  refine g_iinc (i := 2) (n := 1) (by decide +kernel) (by decide) rfl ?_
  refine g_goto (off := -22) (tgt := 54) (by decide +kernel) (by decide) ?_
  refine g_iload_n (i := 2) (by decide +kernel) rfl ?_
  refine g_bipush (n := 10) (by decide +kernel) (by decide) ?_
  refine g_icmp_ge (off := 22) (tgt := 79) (by decide +kernel) (by decide) (fun q => absurd q (by decide)) (fun _ => ?_)
  refine g_aload_n (i := 0) (by decide +kernel) rfl ?_
  refine v_get (idx := 24) (r := .ref (53)) rfl (by decide +kernel) fo2_24 (by omega) rfl ?_
  refine g_iload_n (i := 2) (by decide +kernel) rfl ?_
  refine v_new (bc := 4) (bs := 18) 1 5 22 (by decide +kernel) (by decide +kernel) (by decide) rfl (tbG_of 182 (by decide +kernel) (by decide +kernel)) (tbG_of 184 (by decide +kernel) (by decide +kernel)) (tbG_of 56 (by decide +kernel) (by decide +kernel)) dft1 (by omega) ?_
  refine g_dup (by decide +kernel) rfl ?_
  refine g_callI (idx := 28) (bc' := 0) (bs' := 0) (bc2 := 4) (bs2 := 18) [] (by decide +kernel) kiX2_28 rfl rfl rfl (fun v h => absurd h List.not_mem_nil) (by decide) rfl (Nat.le_of_ble_eq_true rfl) (by omega) (i_X1 w (k := k - 1) (by omega) (60) (61) _) (fun r u' hq => ?_)
  obtain ⟨rfl, rfl⟩ := hq
  refine v_aast 4 6 15 1 10 5 (by decide +kernel) (by decide) (by decide) rfl (by omega) (by decide +kernel) (by decide) (by decide) rfl (by omega) (by decide +kernel) (by decide) ?_
  refine g_iinc (i := 2) (n := 1) (by decide +kernel) (by decide) rfl ?_
  refine g_goto (off := -22) (tgt := 54) (by decide +kernel) (by decide) ?_
  refine g_iload_n (i := 2) (by decide +kernel) rfl ?_
  refine g_bipush (n := 10) (by decide +kernel) (by decide) ?_
  refine g_icmp_ge (off := 22) (tgt := 79) (by decide +kernel) (by decide) (fun q => absurd q (by decide)) (fun _ => ?_)
  refine g_aload_n (i := 0) (by decide +kernel) rfl ?_
  refine v_get (idx := 24) (r := .ref (53)) rfl (by decide +kernel) fo2_24 (by omega) rfl ?_
  refine g_iload_n (i := 2) (by decide +kernel) rfl ?_
  refine v_new (bc := 3) (bs := 13) 1 5 22 (by decide +kernel) (by decide +kernel) (by decide) rfl (tbG_of 182 (by decide +kernel) (by decide +kernel)) (tbG_of 184 (by decide +kernel) (by decide +kernel)) (tbG_of 56 (by decide +kernel) (by decide +kernel)) dft1 (by omega) ?_
  refine g_dup (by decide +kernel) rfl ?_
  refine g_callI (idx := 28) (bc' := 0) (bs' := 0) (bc2 := 3) (bs2 := 13) [] (by decide +kernel) kiX2_28 rfl rfl rfl (fun v h => absurd h List.not_mem_nil) (by decide) rfl (Nat.le_of_ble_eq_true rfl) (by omega) (i_X1 w (k := k - 1) (by omega) (61) (62) _) (fun r u' hq => ?_)
  obtain ⟨rfl, rfl⟩ := hq
  refine v_aast 4 7 15 1 10 5 (by decide +kernel) (by decide) (by decide) rfl (by omega) (by decide +kernel) (by decide) (by decide) rfl (by omega) (by decide +kernel) (by decide) ?_
  refine g_iinc (i := 2) (n := 1) (by decide +kernel) (by decide) rfl ?_
  refine g_goto (off := -22) (tgt := 54) (by decide +kernel) (by decide) ?_
  refine g_iload_n (i := 2) (by decide +kernel) rfl ?_
  refine g_bipush (n := 10) (by decide +kernel) (by decide) ?_
  refine g_icmp_ge (off := 22) (tgt := 79) (by decide +kernel) (by decide) (fun q => absurd q (by decide)) (fun _ => ?_)
  refine g_aload_n (i := 0) (by decide +kernel) rfl ?_
  refine v_get (idx := 24) (r := .ref (53)) rfl (by decide +kernel) fo2_24 (by omega) rfl ?_
  refine g_iload_n (i := 2) (by decide +kernel) rfl ?_
  refine v_new (bc := 2) (bs := 8) 1 5 22 (by decide +kernel) (by decide +kernel) (by decide) rfl (tbG_of 182 (by decide +kernel) (by decide +kernel)) (tbG_of 184 (by decide +kernel) (by decide +kernel)) (tbG_of 56 (by decide +kernel) (by decide +kernel)) dft1 (by omega) ?_
  refine g_dup (by decide +kernel) rfl ?_
  refine g_callI (idx := 28) (bc' := 0) (bs' := 0) (bc2 := 2) (bs2 := 8) [] (by decide +kernel) kiX2_28 rfl rfl rfl (fun v h => absurd h List.not_mem_nil) (by decide) rfl (Nat.le_of_ble_eq_true rfl) (by omega) (i_X1 w (k := k - 1) (by omega) (62) (63) _) (fun r u' hq => ?_)
  obtain ⟨rfl, rfl⟩ := hq
  refine v_aast 4 8 15 1 10 5 (by decide +kernel) (by decide) (by decide) rfl (by omega) (by decide +kernel) (by decide) (by decide) rfl (by omega) (by decide +kernel) (by decide) ?_
  refine g_iinc (i := 2) (n := 1) (by decide +kernel) (by decide) rfl ?_
  refine g_goto (off := -22) (tgt := 54) (by decide +kernel) (by decide) ?_
  refine g_iload_n (i := 2) (by decide +kernel) rfl ?_
  refine g_bipush (n := 10) (by decide +kernel) (by decide) ?_
  refine g_icmp_ge (off := 22) (tgt := 79) (by decide +kernel) (by decide) (fun q => absurd q (by decide)) (fun _ => ?_)
  refine g_aload_n (i := 0) (by decide +kernel) rfl ?_
  refine v_get (idx := 24) (r := .ref (53)) rfl (by decide +kernel) fo2_24 (by omega) rfl ?_
  refine g_iload_n (i := 2) (by decide +kernel) rfl ?_
  refine v_new (bc := 1) (bs := 3) 1 5 22 (by decide +kernel) (by decide +kernel) (by decide) rfl (tbG_of 182 (by decide +kernel) (by decide +kernel)) (tbG_of 184 (by decide +kernel) (by decide +kernel)) (tbG_of 56 (by decide +kernel) (by decide +kernel)) dft1 (by omega) ?_
  refine g_dup (by decide +kernel) rfl ?_
  refine g_callI (idx := 28) (bc' := 0) (bs' := 0) (bc2 := 1) (bs2 := 3) [] (by decide +kernel) kiX2_28 rfl rfl rfl (fun v h => absurd h List.not_mem_nil) (by decide) rfl (Nat.le_of_ble_eq_true rfl) (by omega) (i_X1 w (k := k - 1) (by omega) (63) (64) _) (fun r u' hq => ?_)
  obtain ⟨rfl, rfl⟩ := hq
  refine v_aast 4 9 15 1 10 5 (by decide +kernel) (by decide) (by decide) rfl (by omega) (by decide +kernel) (by decide) (by decide) rfl (by omega) (by decide +kernel) (by decide) ?_
  refine g_iinc (i := 2) (n := 1) (by decide +kernel) (by decide) rfl ?_
  refine g_goto (off := -22) (tgt := 54) (by decide +kernel) (by decide) ?_
  refine g_iload_n (i := 2) (by decide +kernel) rfl ?_
  refine g_bipush (n := 10) (by decide +kernel) (by decide) ?_
  refine g_icmp_ge (off := 22) (tgt := 79) (by decide +kernel) (by decide) (fun _ => ?_) (fun q => absurd (by decide) q)
  refine g_aload_n (i := 0) (by decide +kernel) rfl ?_
  refine g_iconst (n := 3) (by decide +kernel) ?_
  refine v_newa (atype := .int) (bc := 0) (bs := 0) 0 10 3 (by decide +kernel) (by decide +kernel) rfl (by decide) (tbG_of 103 (by decide +kernel) (by decide +kernel)) (by decide) (by decide) (by decide) rfl (by omega) ?_
  refine v_putF (idx := 29) (ty := .array .int) (by decide +kernel) ⟨fo2_29, fun C T N h => by cases h; exact ⟨(by decide +kernel), (by decide +kernel), rfl⟩⟩ rfl (by omega) rfl rfl rfl ?_
  refine g_iconst (n := 0) (by decide +kernel) ?_
  refine g_istore_n (i := 2) (by decide +kernel) (by decide) ?_
  refine g_iload_n (i := 2) (by decide +kernel) rfl ?_
  refine g_iconst (n := 3) (by decide +kernel) ?_
  refine g_icmp_ge (off := 17) (tgt := 107) (by decide +kernel) (by decide) (fun q => absurd q (by decide)) (fun _ => ?_)
  refine g_aload_n (i := 0) (by decide +kernel) rfl ?_
  refine v_get (idx := 29) (r := .ref (64)) rfl (by decide +kernel) fo2_29 (by omega) rfl ?_
  refine g_iload_n (i := 2) (by decide +kernel) rfl ?_
  refine g_ldc (i := 33) (v := Int32.ofInt (-1000000005)) (by decide +kernel) (tbG_of 215 (by decide +kernel) (by decide +kernel)) ?_
  refine v_iast 0 3 (by decide +kernel) (by decide) (by decide) (by omega) (by decide +kernel) (by decide) ?_
  refine g_iinc (i := 2) (n := 1) (by decide +kernel) (by decide) rfl ?_
  refine g_goto (off := -16) (tgt := 88) (by decide +kernel) (by decide) ?_
  refine g_iload_n (i := 2) (by decide +kernel) rfl ?_
  refine g_iconst (n := 3) (by decide +kernel) ?_
  refine g_icmp_ge (off := 17) (tgt := 107) (by decide +kernel) (by decide) (fun q => absurd q (by decide)) (fun _ => ?_)
  refine g_aload_n (i := 0) (by decide +kernel) rfl ?_
  refine v_get (idx := 29) (r := .ref (64)) rfl (by decide +kernel) fo2_29 (by omega) rfl ?_
  refine g_iload_n (i := 2) (by decide +kernel) rfl ?_
  refine g_ldc (i := 33) (v := Int32.ofInt (-1000000005)) (by decide +kernel) (tbG_of 215 (by decide +kernel) (by decide +kernel)) ?_
  refine v_iast 1 3 (by decide +kernel) (by decide) (by decide) (by omega) (by decide +kernel) (by decide) ?_
  refine g_iinc (i := 2) (n := 1) (by decide +kernel) (by decide) rfl ?_
  refine g_goto (off := -16) (tgt := 88) (by decide +kernel) (by decide) ?_
  refine g_iload_n (i := 2) (by decide +kernel) rfl ?_
  refine g_iconst (n := 3) (by decide +kernel) ?_
  refine g_icmp_ge (off := 17) (tgt := 107) (by decide +kernel) (by decide) (fun q => absurd q (by decide)) (fun _ => ?_)
  refine g_aload_n (i := 0) (by decide +kernel) rfl ?_
  refine v_get (idx := 29) (r := .ref (64)) rfl (by decide +kernel) fo2_29 (by omega) rfl ?_
  refine g_iload_n (i := 2) (by decide +kernel) rfl ?_
  refine g_ldc (i := 33) (v := Int32.ofInt (-1000000005)) (by decide +kernel) (tbG_of 215 (by decide +kernel) (by decide +kernel)) ?_
  refine v_iast 2 3 (by decide +kernel) (by decide) (by decide) (by omega) (by decide +kernel) (by decide) ?_
  refine g_iinc (i := 2) (n := 1) (by decide +kernel) (by decide) rfl ?_
  refine g_goto (off := -16) (tgt := 88) (by decide +kernel) (by decide) ?_
  refine g_iload_n (i := 2) (by decide +kernel) rfl ?_
  refine g_iconst (n := 3) (by decide +kernel) ?_
  refine g_icmp_ge (off := 17) (tgt := 107) (by decide +kernel) (by decide) (fun _ => ?_) (fun q => absurd (by decide) q)
  refine g_aload_n (i := 0) (by decide +kernel) rfl ?_
  refine g_iconst (n := 3) (by decide +kernel) ?_
  refine v_put (idx := 34) (ty := .int) (by decide +kernel) ⟨fo2_34, fun C T N h => by cases h; exact ⟨(by decide +kernel), (by decide +kernel)⟩⟩ (by omega) rfl rfl rfl ?_
  refine g_aload_n (i := 0) (by decide +kernel) rfl ?_
  refine g_iconst (n := 1) (by decide +kernel) ?_
  refine v_put (idx := 38) (ty := .int) (by decide +kernel) ⟨fo2_38, fun C T N h => by cases h; exact ⟨(by decide +kernel), (by decide +kernel)⟩⟩ (by omega) rfl rfl rfl ?_
  refine g_vret rfl (by decide +kernel) ?_
  exact ⟨rfl, _, rfl, fun b hb => by repeat (first | rw [uE_ne (by omega)] | rw [uV_n (by omega)]), dn_P47 V⟩
