/-! stretches: what straight instructions do, as a function; rows of the main phase -/
def ln (i : Instr) : Nat := match i with
  | .bipush _ => 2
  | .iload _ => 2
  | .aload _ => 2
  | .istore _ => 2
  | .astore _ => 2
  | .ldc _ => 2
  | .sipush _ => 3
  | .iinc _ _ => 3
  | .getfield _ => 3
  | .putfield _ => 3
  | .goto _ => 3
  | .ldc_w _ => 3
  | _ => 1
def nx (pc : Nat) (i : Instr) : Nat := match i with
  | .goto off => ((pc : Int) + off).toNat
  | .bipush _ => pc + 2
  | .iload _ => pc + 2
  | .aload _ => pc + 2
  | .istore _ => pc + 2
  | .astore _ => pc + 2
  | .ldc _ => pc + 2
  | .sipush _ => pc + 3
  | .iinc _ _ => pc + 3
  | .getfield _ => pc + 3
  | .putfield _ => pc + 3
  | .ldc_w _ => pc + 3
  | _ => pc + 1
def inr (n : Int) (b : Nat) : Bool := match n with
  | .ofNat k => Nat.blt k b
  | .negSucc k => Nat.blt k b
def gL (L : List (Option Value)) (i : Nat) : Option Value := nth L i none
def sL : List (Option Value) → Nat → Value → Option (List (Option Value))
  | [], _, _ => none
  | _ :: t, 0, v => some (some v :: t)
  | x :: t, n + 1, v => match sL t n v with
    | some t' => some (x :: t')
    | none => none
theorem gL_at : ∀ {L : List (Option Value)} {i : Nat} {v : Value}, gL L i = some v → L[i]? = some (some v)
  | [], i, v, h => by simp [gL, nth] at h
  | x :: t, 0, v, h => by simpa [gL, nth] using h
  | x :: t, i + 1, v, h => by
    have h1 : gL t i = some v := by simpa [gL, nth] using h
    simpa using gL_at h1
theorem sL_set : ∀ {L L' : List (Option Value)} {i : Nat} {v : Value}, sL L i v = some L' → L' = L.set i (some v) ∧ i < L.length
  | [], L', i, v, h => by simp [sL] at h
  | x :: t, L', 0, v, h => by
    have h1 : some v :: t = L' := by simpa [sL] using h
    subst h1
    simp
  | x :: t, L', i + 1, v, h => by
    unfold sL at h
    cases hs : sL t i v with
    | none => rw [hs] at h; cases h
    | some t' =>
      rw [hs] at h
      have h1 : x :: t' = L' := by simpa using h
      obtain ⟨h2, h3⟩ := sL_set hs
      subst h1
      subst h2
      exact ⟨rfl, by simp; omega⟩
def stp (o nL pc : Nat) (h : Mm) (i : Instr) (L : List (Option Value)) (st : List Value) : Option (List (Option Value) × List Value × Mm) := match i with
  | .iadd => (match st with
    | .int y :: .int x :: r => some (L, .int (x + y) :: r, h)
    | _ => none)
  | .isub => (match st with
    | .int y :: .int x :: r => some (L, .int (x - y) :: r, h)
    | _ => none)
  | .imul => (match st with
    | .int y :: .int x :: r => some (L, .int (x * y) :: r, h)
    | _ => none)
  | .iand => (match st with
    | .int y :: .int x :: r => some (L, .int (x &&& y) :: r, h)
    | _ => none)
  | .ior => (match st with
    | .int y :: .int x :: r => some (L, .int (x ||| y) :: r, h)
    | _ => none)
  | .ixor => (match st with
    | .int y :: .int x :: r => some (L, .int (x ^^^ y) :: r, h)
    | _ => none)
  | .ishl => (match st with
    | .int y :: .int x :: r => some (L, .int (x <<< (y &&& 31)) :: r, h)
    | _ => none)
  | .ishr => (match st with
    | .int y :: .int x :: r => some (L, .int (x >>> (y &&& 31)) :: r, h)
    | _ => none)
  | .iushr => (match st with
    | .int y :: .int x :: r => some (L, .int ((x.toUInt32 >>> (y.toUInt32 &&& Int32.toUInt32 31)).toInt32) :: r, h)
    | _ => none)
  | .ineg => (match st with
    | .int x :: r => some (L, .int (-x) :: r, h)
    | _ => none)
  | .i2s => (match st with
    | .int x :: r => some (L, .int (x.toInt16.toInt32) :: r, h)
    | _ => none)
  | .i2c => (match st with
    | .int x :: r => some (L, .int ((x.toUInt32 % 65536).toInt32) :: r, h)
    | _ => none)
  | .i2b => (match st with
    | .int x :: r => some (L, .int (x.toInt8.toInt32) :: r, h)
    | _ => none)
  | .iconst n => some (L, .int (Int32.ofInt n) :: st, h)
  | .bipush n => (match inr n 128 with
    | true => some (L, .int (Int32.ofInt n) :: st, h)
    | false => none)
  | .sipush n => (match inr n 32768 with
    | true => some (L, .int (Int32.ofInt n) :: st, h)
    | false => none)
  | .ldc i => (match kon o i with
    | some v => some (L, .int (Int32.ofInt v) :: st, h)
    | none => none)
  | .ldc_w i => (match kon o i with
    | some v => some (L, .int (Int32.ofInt v) :: st, h)
    | none => none)
  | .iload i => (match gL L i with
    | some (.int x) => some (L, .int x :: st, h)
    | _ => none)
  | .iload_n i => (match gL L i.val with
    | some (.int x) => some (L, .int x :: st, h)
    | _ => none)
  | .aload i => (match gL L i with
    | some (.ref x) => some (L, .ref x :: st, h)
    | _ => none)
  | .aload_n i => (match gL L i.val with
    | some (.ref x) => some (L, .ref x :: st, h)
    | _ => none)
  | .istore i => (match st with
    | .int x :: r => (match sL L i (.int x) with
      | some L' => some (L', r, h)
      | none => none)
    | _ => none)
  | .istore_n i => (match st with
    | .int x :: r => (match sL L i.val (.int x) with
      | some L' => some (L', r, h)
      | none => none)
    | _ => none)
  | .astore i => (match st with
    | .ref x :: r => (match sL L i (.ref x) with
      | some L' => some (L', r, h)
      | none => none)
    | _ => none)
  | .astore_n i => (match st with
    | .ref x :: r => (match sL L i.val (.ref x) with
      | some L' => some (L', r, h)
      | none => none)
    | _ => none)
  | .iinc i n => (match gL L i with
    | some (.int x) => (match sL L i (.int (x + Int32.ofInt n)) with
      | some L' => some (L', st, h)
      | none => none)
    | _ => none)
  | .dup => (match st with
    | .int x :: r => some (L, .int x :: .int x :: r, h)
    | .ref x :: r => some (L, .ref x :: .ref x :: r, h)
    | _ => none)
  | .dup2 => (match st with
    | .int x :: .ref y :: r => some (L, .int x :: .ref y :: .int x :: .ref y :: r, h)
    | .int x :: .int y :: r => some (L, .int x :: .int y :: .int x :: .int y :: r, h)
    | _ => none)
  | .pop => (match st with
    | .int x :: r => some (L, r, h)
    | .ref x :: r => some (L, r, h)
    | _ => none)
  | .goto off => (match ((pc : Int) + off) with
    | .ofNat _ => some (L, st, h)
    | .negSucc _ => none)
  | .getfield idx => (match st with
    | .ref a :: r => (match fl o idx with
      | some (t, kf) => (match Nat.beq (kd0 a).1 t && Nat.blt a 118 with
        | true => (match rf0 a kf with
          | some q => some (L, .ref q :: r, h)
          | none => some (L, .int (h a kf) :: r, h))
        | false => none)
      | none => none)
    | _ => none)
  | .putfield idx => (match st with
    | .int x :: .ref a :: r => (match fl o idx with
      | some (t, kf) => (match (Nat.beq (kd0 a).1 t && Nat.blt a 118) && fI t kf with
        | true => (match rf0 a kf with
          | some _ => none
          | none => some (L, r, up h a kf x))
        | false => none)
      | none => none)
    | _ => none)
  | _ => none
def rn (o nL : Nat) : List Instr → Nat → List (Option Value) → List Value → Mm → Option (Nat × List (Option Value) × List Value × Mm)
  | [], pc, L, st, h => some (pc, L, st, h)
  | i :: t, pc, L, st, h => match stp o nL pc h i L st with
    | some (L', st', h') => rn o nL t (nx pc i) L' st' h'
    | none => none
def dcs (cc : ByteArray) : Nat → List Instr → Bool
  | _, [] => true
  | pc, i :: t => decide (decode cc pc = .ok (i, ln i)) && dcs cc (nx pc i) t
theorem inr8 {n : Int} (h : inr n 128 = true) : (Int8.ofInt n).toInt32 = Int32.ofInt n := by
  have : -128 ≤ n ∧ n < 128 := by
    cases n with
    | ofNat k => have := Nat.le_of_ble_eq_true h; constructor <;> simp only [Int.ofNat_eq_natCast] <;> omega
    | negSucc k => have := Nat.le_of_ble_eq_true h; constructor <;> omega
  apply Int32.toInt.inj
  rw [Int8.toInt_toInt32, Int8.toInt_ofInt, Int32.toInt_ofInt]
  rw [Int.bmod_eq_of_le, Int.bmod_eq_of_le] <;> simp only [Int32.size, Int8.size, Int16.size] <;> omega
theorem inr16 {n : Int} (h : inr n 32768 = true) : (Int16.ofInt n).toInt32 = Int32.ofInt n := by
  have : -32768 ≤ n ∧ n < 32768 := by
    cases n with
    | ofNat k => have := Nat.le_of_ble_eq_true h; constructor <;> simp only [Int.ofNat_eq_natCast] <;> omega
    | negSucc k => have := Nat.le_of_ble_eq_true h; constructor <;> omega
  apply Int32.toInt.inj
  rw [Int16.toInt_toInt32, Int16.toInt_ofInt, Int32.toInt_ofInt]
  rw [Int.bmod_eq_of_le, Int.bmod_eq_of_le] <;> simp only [Int32.size, Int8.size, Int16.size] <;> omega
section G5
variable {w : Wt} {k : Nat} {M : Mt} {Q : Option Value → Mm → Prop} {pc : Nat} {L : List (Option Value)} {st : List Value} {h : Mm}
theorem p_getR {idx a t kf r : Nat} (hd : decode (m_c M) pc = .ok (.getfield idx, 3)) (hf : FO (m_y M).cls idx t kf) (ha : a < 118) (hkd : (kd0 a).1 = t) (hr : rf0 a kf = some r) (kk : Wp w k M Q (pc + 3) L (.ref r :: st) h) : Wp w k M Q pc L (.ref a :: st) h := by
  refine g_get hd hf ha hkd ?_
  show Gp w k 0 0 M _ (pc + 3) L (vl h a kf :: st) (mu h)
  rw [show vl h a kf = .ref r by simp [vl, hr]]
  exact kk
theorem p_getI {idx a t kf : Nat} (hd : decode (m_c M) pc = .ok (.getfield idx, 3)) (hf : FO (m_y M).cls idx t kf) (ha : a < 118) (hkd : (kd0 a).1 = t) (hr : rf0 a kf = none) (kk : Wp w k M Q (pc + 3) L (.int (h a kf) :: st) h) : Wp w k M Q pc L (.ref a :: st) h := by
  refine g_get hd hf ha hkd ?_
  show Gp w k 0 0 M _ (pc + 3) L (vl h a kf :: st) (mu h)
  rw [show vl h a kf = .int (h a kf) by simp [vl, hr]]
  exact kk
theorem p_put {idx a t kf : Nat} {x : Int32} (hd : decode (m_c M) pc = .ok (.putfield idx, 3)) (hf : FO (m_y M).cls idx t kf) (ha : a < 118) (hkd : (kd0 a).1 = t) (hI : fI t kf = true) (hr : rf0 a kf = none) (kk : Wp w k M Q (pc + 3) L st (up h a kf x)) : Wp w k M Q pc L (.int x :: .ref a :: st) h := by
  refine g_put (ty := .int) hd ⟨hf, fun C T N hc => fI_ok hf.1 hI hc (hf.2 C T N hc).1⟩ ha hkd rfl rfl ?_
  rw [mu_up hr]
  exact kk
theorem stp_ok {i : Instr} {L' : List (Option Value)} {st' : List Value} {h' : Mm} (hM : Mk M) (hLn : L.length ≤ m_n M) (hd : decode (m_c M) pc = .ok (i, ln i)) (hs : stp (m_o M) (m_n M) pc h i L st = some (L', st', h')) (kk : Wp w k M Q (nx pc i) L' st' h') : Wp w k M Q pc L st h := by
  cases i with
  | iadd =>
    simp only [stp] at hs
    split at hs
    · cases hs
      exact g_iadd hd kk
    · cases hs
  | isub =>
    simp only [stp] at hs
    split at hs
    · cases hs
      exact g_isub hd kk
    · cases hs
  | imul =>
    simp only [stp] at hs
    split at hs
    · cases hs
      exact g_imul hd kk
    · cases hs
  | iand =>
    simp only [stp] at hs
    split at hs
    · cases hs
      exact g_iand hd kk
    · cases hs
  | ior =>
    simp only [stp] at hs
    split at hs
    · cases hs
      exact g_ior hd kk
    · cases hs
  | ixor =>
    simp only [stp] at hs
    split at hs
    · cases hs
      exact g_ixor hd kk
    · cases hs
  | ishl =>
    simp only [stp] at hs
    split at hs
    · cases hs
      exact g_ishl hd kk
    · cases hs
  | ishr =>
    simp only [stp] at hs
    split at hs
    · cases hs
      exact g_ishr hd kk
    · cases hs
  | iushr =>
    simp only [stp] at hs
    split at hs
    · cases hs
      exact g_iushr hd kk
    · cases hs
  | ineg =>
    simp only [stp] at hs
    split at hs
    · cases hs
      exact g_ineg hd kk
    · cases hs
  | i2s =>
    simp only [stp] at hs
    split at hs
    · cases hs
      exact g_i2s hd kk
    · cases hs
  | i2c =>
    simp only [stp] at hs
    split at hs
    · cases hs
      exact g_i2c hd kk
    · cases hs
  | i2b =>
    simp only [stp] at hs
    split at hs
    · cases hs
      exact g_i2b hd kk
    · cases hs
  | iconst n =>
    simp only [stp] at hs
    cases hs
    exact g_iconst hd kk
  | bipush n =>
    simp only [stp] at hs
    split at hs
    · rename_i hb
      cases hs
      exact g_bipush hd (inr8 hb) kk
    · cases hs
  | sipush n =>
    simp only [stp] at hs
    split at hs
    · rename_i hb
      cases hs
      exact g_sipush hd (inr16 hb) kk
    · cases hs
  | ldc j =>
    simp only [stp] at hs
    split at hs
    · rename_i v hb
      cases hs
      exact g_ldc hd (by rw [hM (kon_lt hb)]; exact kon_ok (kon_lt hb) hb) kk
    · cases hs
  | ldc_w j =>
    simp only [stp] at hs
    split at hs
    · rename_i v hb
      cases hs
      exact g_ldcw hd (by rw [hM (kon_lt hb)]; exact kon_ok (kon_lt hb) hb) kk
    · cases hs
  | iload j =>
    simp only [stp] at hs
    split at hs
    · rename_i x hb
      cases hs
      exact g_iload hd (gL_at hb) kk
    · cases hs
  | iload_n j =>
    simp only [stp] at hs
    split at hs
    · rename_i x hb
      cases hs
      exact g_iload_n hd (gL_at hb) kk
    · cases hs
  | aload j =>
    simp only [stp] at hs
    split at hs
    · rename_i x hb
      cases hs
      exact g_aload hd (gL_at hb) kk
    · cases hs
  | aload_n j =>
    simp only [stp] at hs
    split at hs
    · rename_i x hb
      cases hs
      exact g_aload_n hd (gL_at hb) kk
    · cases hs
  | istore j =>
    simp only [stp] at hs
    split at hs
    · split at hs
      · rename_i L2 hb
        cases hs
        obtain ⟨e1, e2⟩ := sL_set hb
        rw [e1] at kk
        exact g_istore hd (by omega) kk
      · cases hs
    · cases hs
  | istore_n j =>
    simp only [stp] at hs
    split at hs
    · split at hs
      · rename_i L2 hb
        cases hs
        obtain ⟨e1, e2⟩ := sL_set hb
        rw [e1] at kk
        exact g_istore_n hd (by omega) kk
      · cases hs
    · cases hs
  | astore j =>
    simp only [stp] at hs
    split at hs
    · split at hs
      · rename_i L2 hb
        cases hs
        obtain ⟨e1, e2⟩ := sL_set hb
        rw [e1] at kk
        exact g_astore hd (by omega) kk
      · cases hs
    · cases hs
  | astore_n j =>
    simp only [stp] at hs
    split at hs
    · split at hs
      · rename_i L2 hb
        cases hs
        obtain ⟨e1, e2⟩ := sL_set hb
        rw [e1] at kk
        exact g_astore_n hd (by omega) kk
      · cases hs
    · cases hs
  | iinc j n =>
    simp only [stp] at hs
    split at hs
    · rename_i x hg
      split at hs
      · rename_i L2 hb
        cases hs
        obtain ⟨e1, e2⟩ := sL_set hb
        rw [e1] at kk
        exact g_iinc hd (by omega) (gL_at hg) kk
      · cases hs
    · cases hs
  | dup =>
    simp only [stp] at hs
    split at hs
    · cases hs
      exact g_dup hd rfl kk
    · cases hs
      exact g_dup hd rfl kk
    · cases hs
  | dup2 =>
    simp only [stp] at hs
    split at hs
    · cases hs
      exact g_dup2 hd rfl rfl kk
    · cases hs
      exact g_dup2 hd rfl rfl kk
    · cases hs
  | pop =>
    simp only [stp] at hs
    split at hs
    · cases hs
      exact g_pop hd rfl kk
    · cases hs
      exact g_pop hd rfl kk
    · cases hs
  | goto off =>
    simp only [stp] at hs
    split at hs
    · rename_i n hb
      cases hs
      refine g_goto (tgt := nx pc (.goto off)) hd ?_ kk
      show (pc : Int) + off = ((((pc : Int) + off).toNat : Nat) : Int)
      rw [hb]
      rfl
    · cases hs
  | getfield idx =>
    simp only [stp] at hs
    split at hs
    · split at hs
      · rename_i t kf hb
        split at hs
        · rename_i hc
          rw [Bool.and_eq_true] at hc
          have ha := Nat.le_of_ble_eq_true hc.2
          have ht := Nat.eq_of_beq_eq_true hc.1
          have hf : FO (m_y M).cls idx t kf := by rw [hM (Nat.lt_succ_of_lt (fl_lt hb))]; exact fl_ok (fl_lt hb) hb
          split at hs
          · rename_i q hr
            cases hs
            exact p_getR hd hf ha ht hr kk
          · rename_i hr
            cases hs
            exact p_getI hd hf ha ht hr kk
        · cases hs
      · cases hs
    · cases hs
  | putfield idx =>
    simp only [stp] at hs
    split at hs
    · split at hs
      · rename_i t kf hb
        split at hs
        · rename_i hc
          rw [Bool.and_eq_true, Bool.and_eq_true] at hc
          have ha := Nat.le_of_ble_eq_true hc.1.2
          have ht := Nat.eq_of_beq_eq_true hc.1.1
          have hf : FO (m_y M).cls idx t kf := by rw [hM (Nat.lt_succ_of_lt (fl_lt hb))]; exact fl_ok (fl_lt hb) hb
          split at hs
          · cases hs
          · rename_i hr
            cases hs
            exact p_put hd hf ha ht hc.2 hr kk
        · cases hs
      · cases hs
    · cases hs
  | _ => cases hs
end G5
