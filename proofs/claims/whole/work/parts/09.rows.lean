/-! rows of the main phase -/
theorem rfk : ∀ a, a < 118 → (10 ≤ (kd0 a).1 ∧ (kd0 a).1 < 13) → nth (nth rfL (a / 16) []) (a % 16) [] = [] := by decide +kernel
theorem rf_row {a : Nat} (ha : a < 118) (h : 10 ≤ (kd0 a).1 ∧ (kd0 a).1 < 13) (j : Nat) : rf0 a j = none := by
  unfold rf0
  rw [rfk a ha h]
  rfl
theorem kd_small : ∀ a, a < 118 → (kd0 a).2 < 2 ^ 31 := by decide +kernel
section G6
variable {w : Wt} {k : Nat} {M : Mt} {Q : Option Value → Mm → Prop} {pc : Nat} {L : List (Option Value)} {st : List Value} {h : Mm}
theorem rn_ok (hM : Mk M) : ∀ (is : List Instr) {pc pc' : Nat} {L L' : List (Option Value)} {st st' : List Value} {h h' : Mm}, L.length ≤ m_n M → dcs (m_c M) pc is = true → rn (m_o M) (m_n M) is pc L st h = some (pc', L', st', h') → Wp w k M Q pc' L' st' h' → Wp w k M Q pc L st h := by
  intro is
  induction is with
  | nil => intro pc pc' L L' st st' h h' _ _ hr kk; simp only [rn] at hr; cases hr; exact kk
  | cons i t ih =>
    intro pc pc' L L' st st' h h' hL hd hr kk
    simp only [dcs, Bool.and_eq_true, decide_eq_true_eq] at hd
    simp only [rn] at hr
    split at hr
    · rename_i L2 st2 h2 hs
      refine stp_ok hM hL hd.1 hs (ih ?_ hd.2 hr kk)
      have key : L2.length = L.length := by
        cases i <;> simp only [stp] at hs <;> first
          | (cases hs; done)
          | (cases hs; rfl; done)
          | (split at hs <;> first | (cases hs; rfl; done) | (cases hs; done) | (split at hs <;> first | (cases hs; rfl; done) | (cases hs; done) | (rename_i hb; cases hs; rw [(sL_set hb).1, List.length_set]; done) | (split at hs <;> first | (cases hs; rfl; done) | (cases hs; done) | (split at hs <;> first | (cases hs; rfl; done) | (cases hs; done)))))
      omega
    · cases hr
theorem p_run (is : List Instr) {pc' : Nat} {L' : List (Option Value)} {st' : List Value} {h' : Mm} (hM : Mk M) (hd : dcs (m_c M) pc is = true) (hl : Nat.ble L.length (m_n M) = true) (hr : rn (m_o M) (m_n M) is pc L st h = some (pc', L', st', h')) (kk : Wp w k M Q pc' L' st' h') : Wp w k M Q pc L st h := rn_ok hM is (Nat.le_of_ble_eq_true hl) hd hr kk
theorem p_idiv {x y : Int32} (hd : decode (m_c M) pc = .ok (.idiv, 1)) (hy : ¬ y = 0) (kk : Wp w k M Q (pc + 1) L (.int (x / y) :: st) h) : Wp w k M Q pc L (.int y :: .int x :: st) h := g_idiv hd hy kk
def jrem (x y : Int32) : Int32 := x - x / y * y
theorem p_irem {x y : Int32} (hd : decode (m_c M) pc = .ok (.irem, 1)) (hy : ¬ y = 0) (kk : Wp w k M Q (pc + 1) L (.int (jrem x y) :: st) h) : Wp w k M Q pc L (.int y :: .int x :: st) h := g_irem hd hy kk
theorem p_if_eq {x : Int32} {off : Int} (tgt : Nat) (hd : decode (m_c M) pc = .ok (.ifCond .eq off, 3)) (ht : (pc : Int) + off = (tgt : Int)) (kt : x = 0 → Wp w k M Q tgt L st h) (kf : ¬ x = 0 → Wp w k M Q (pc + 3) L st h) : Wp w k M Q pc L (.int x :: st) h := g_if_eq hd ht kt kf
theorem p_icmp_eq {x y : Int32} {off : Int} (tgt : Nat) (hd : decode (m_c M) pc = .ok (.if_icmp .eq off, 3)) (ht : (pc : Int) + off = (tgt : Int)) (kt : x = y → Wp w k M Q tgt L st h) (kf : ¬ x = y → Wp w k M Q (pc + 3) L st h) : Wp w k M Q pc L (.int y :: .int x :: st) h := g_icmp_eq hd ht kt kf
theorem p_if_ne {x : Int32} {off : Int} (tgt : Nat) (hd : decode (m_c M) pc = .ok (.ifCond .ne off, 3)) (ht : (pc : Int) + off = (tgt : Int)) (kt : ¬ x = 0 → Wp w k M Q tgt L st h) (kf : x = 0 → Wp w k M Q (pc + 3) L st h) : Wp w k M Q pc L (.int x :: st) h := g_if_ne hd ht kt kf
theorem p_icmp_ne {x y : Int32} {off : Int} (tgt : Nat) (hd : decode (m_c M) pc = .ok (.if_icmp .ne off, 3)) (ht : (pc : Int) + off = (tgt : Int)) (kt : ¬ x = y → Wp w k M Q tgt L st h) (kf : x = y → Wp w k M Q (pc + 3) L st h) : Wp w k M Q pc L (.int y :: .int x :: st) h := g_icmp_ne hd ht kt kf
theorem p_if_lt {x : Int32} {off : Int} (tgt : Nat) (hd : decode (m_c M) pc = .ok (.ifCond .lt off, 3)) (ht : (pc : Int) + off = (tgt : Int)) (kt : x < 0 → Wp w k M Q tgt L st h) (kf : ¬ x < 0 → Wp w k M Q (pc + 3) L st h) : Wp w k M Q pc L (.int x :: st) h := g_if_lt hd ht kt kf
theorem p_icmp_lt {x y : Int32} {off : Int} (tgt : Nat) (hd : decode (m_c M) pc = .ok (.if_icmp .lt off, 3)) (ht : (pc : Int) + off = (tgt : Int)) (kt : x < y → Wp w k M Q tgt L st h) (kf : ¬ x < y → Wp w k M Q (pc + 3) L st h) : Wp w k M Q pc L (.int y :: .int x :: st) h := g_icmp_lt hd ht kt kf
theorem p_if_ge {x : Int32} {off : Int} (tgt : Nat) (hd : decode (m_c M) pc = .ok (.ifCond .ge off, 3)) (ht : (pc : Int) + off = (tgt : Int)) (kt : 0 ≤ x → Wp w k M Q tgt L st h) (kf : ¬ 0 ≤ x → Wp w k M Q (pc + 3) L st h) : Wp w k M Q pc L (.int x :: st) h := g_if_ge hd ht kt kf
theorem p_icmp_ge {x y : Int32} {off : Int} (tgt : Nat) (hd : decode (m_c M) pc = .ok (.if_icmp .ge off, 3)) (ht : (pc : Int) + off = (tgt : Int)) (kt : y ≤ x → Wp w k M Q tgt L st h) (kf : ¬ y ≤ x → Wp w k M Q (pc + 3) L st h) : Wp w k M Q pc L (.int y :: .int x :: st) h := g_icmp_ge hd ht kt kf
theorem p_if_gt {x : Int32} {off : Int} (tgt : Nat) (hd : decode (m_c M) pc = .ok (.ifCond .gt off, 3)) (ht : (pc : Int) + off = (tgt : Int)) (kt : 0 < x → Wp w k M Q tgt L st h) (kf : ¬ 0 < x → Wp w k M Q (pc + 3) L st h) : Wp w k M Q pc L (.int x :: st) h := g_if_gt hd ht kt kf
theorem p_icmp_gt {x y : Int32} {off : Int} (tgt : Nat) (hd : decode (m_c M) pc = .ok (.if_icmp .gt off, 3)) (ht : (pc : Int) + off = (tgt : Int)) (kt : y < x → Wp w k M Q tgt L st h) (kf : ¬ y < x → Wp w k M Q (pc + 3) L st h) : Wp w k M Q pc L (.int y :: .int x :: st) h := g_icmp_gt hd ht kt kf
theorem p_if_le {x : Int32} {off : Int} (tgt : Nat) (hd : decode (m_c M) pc = .ok (.ifCond .le off, 3)) (ht : (pc : Int) + off = (tgt : Int)) (kt : x ≤ 0 → Wp w k M Q tgt L st h) (kf : ¬ x ≤ 0 → Wp w k M Q (pc + 3) L st h) : Wp w k M Q pc L (.int x :: st) h := g_if_le hd ht kt kf
theorem p_icmp_le {x y : Int32} {off : Int} (tgt : Nat) (hd : decode (m_c M) pc = .ok (.if_icmp .le off, 3)) (ht : (pc : Int) + off = (tgt : Int)) (kt : x ≤ y → Wp w k M Q tgt L st h) (kf : ¬ x ≤ y → Wp w k M Q (pc + 3) L st h) : Wp w k M Q pc L (.int y :: .int x :: st) h := g_icmp_le hd ht kt kf
theorem p_tableIn {dflt lo hi : Int} {offs : Array Int} {len : Nat} {x : Int32} {off : Int} (tgt : Nat) (hd : decode (m_c M) pc = .ok (.tableswitch dflt lo hi offs, len)) (h1 : ¬ x.toInt < lo) (h2 : ¬ hi < x.toInt) (ho : offs[(x.toInt - lo).toNat]? = some off) (ht : (pc : Int) + off = (tgt : Int)) (kk : Wp w k M Q tgt L st h) : Wp w k M Q pc L (.int x :: st) h := g_tableIn hd h1 h2 ho ht kk
theorem p_tableOut {dflt lo hi : Int} {offs : Array Int} {len : Nat} {x : Int32} (tgt : Nat) (hd : decode (m_c M) pc = .ok (.tableswitch dflt lo hi offs, len)) (h1 : x.toInt < lo ∨ hi < x.toInt) (ht : (pc : Int) + dflt = (tgt : Int)) (kk : Wp w k M Q tgt L st h) : Wp w k M Q pc L (.int x :: st) h := g_tableOut hd h1 ht kk
theorem p_lookup {dflt : Int} {ps : Array (Int × Int)} {len : Nat} {x : Int32} {off : Int} (tgt : Nat) (hd : decode (m_c M) pc = .ok (.lookupswitch dflt ps, len)) (hp : (ps.toList.zip (ps.toList.drop 1)).all (fun (a, next) => a.1 < next.1) = true) (ho : Op.lookupswitch.offset ps.toList dflt x.toInt = off) (ht : (pc : Int) + off = (tgt : Int)) (kk : Wp w k M Q tgt L st h) : Wp w k M Q pc L (.int x :: st) h := g_lookup hd hp ho ht kk
theorem p_iret {x : Int32} {ty : FieldType} (hr : m_r M = some ty) (hn : narrow ty (.int x) = .int x) (hd : decode (m_c M) pc = .ok (.ireturn, 1)) (hq : Q (some (.int x)) h) : Wp w k M Q pc L [.int x] h := g_iret hr hn hd ⟨h, rfl, hq⟩
theorem p_aret {x : Nat} {ty : FieldType} (hr : m_r M = some ty) (hn : (∃ n, ty = .object n) ∨ ∃ t, ty = .array t) (hd : decode (m_c M) pc = .ok (.areturn, 1)) (hq : Q (some (.ref x)) h) : Wp w k M Q pc L [.ref x] h := g_aret hr hn hd ⟨h, rfl, hq⟩
theorem p_vret (hr : m_r M = none) (hd : decode (m_c M) pc = .ok (.return_, 1)) (hq : Q none h) : Wp w k M Q pc L [] h := g_vret hr hd ⟨h, rfl, hq⟩
theorem Wp.mono {k' : Nat} (hk : k' ≤ k) (hh : Wp w k' M Q pc L st h) : Wp w k M Q pc L st h := Gp.mono hk hh
theorem Wp.imp {Q' : Option Value → Mm → Prop} (hq : ∀ r h', Q' r h' → Q r h') (hh : Wp w k M Q' pc L st h) : Wp w k M Q pc L st h := Gp.imp (fun r v ⟨h', e, q⟩ => ⟨h', e, hq r h' q⟩) hh
theorem vl_row {a : Nat} (ha : a < 118) (ht : 10 ≤ (kd0 a).1 ∧ (kd0 a).1 < 13) (j : Nat) : vl h a j = .int (h a j) := by simp [vl, rf_row ha ht j]
theorem p_iald {a n : Nat} {i : Int32} (j : Nat) (hd : decode (m_c M) pc = .ok (.iaload, 1)) (ha : Nat.blt a 118 = true) (hkd : kd0 a = (10, n)) (hi : i = nI j) (hj : j < n) (kk : Wp w k M Q (pc + 1) L (.int (h a j) :: st) h) : Wp w k M Q pc L (.int i :: .ref a :: st) h := by
  have ha' := Nat.le_of_ble_eq_true ha
  have hn : n < 2 ^ 31 := by have := kd_small a ha'; rw [hkd] at this; exact this
  subst hi
  refine g_iald hd ha' hkd (vp_in_nI hj hn) ?_
  rw [nI_clamp (by omega)]
  show Gp w k 0 0 M _ (pc + 1) L (vl h a j :: st) (mu h)
  rw [vl_row ha' (by rw [hkd]; exact ⟨Nat.le_refl _, by omega⟩) j]
  exact kk
theorem p_cald {a n : Nat} {i : Int32} (j : Nat) (hd : decode (m_c M) pc = .ok (.caload, 1)) (ha : Nat.blt a 118 = true) (hkd : kd0 a = (11, n)) (hi : i = nI j) (hj : j < n) (kk : Wp w k M Q (pc + 1) L (.int (h a j) :: st) h) : Wp w k M Q pc L (.int i :: .ref a :: st) h := by
  have ha' := Nat.le_of_ble_eq_true ha
  have hn : n < 2 ^ 31 := by have := kd_small a ha'; rw [hkd] at this; exact this
  subst hi
  refine g_cald hd ha' hkd (vp_in_nI hj hn) ?_
  rw [nI_clamp (by omega)]
  show Gp w k 0 0 M _ (pc + 1) L (vl h a j :: st) (mu h)
  rw [vl_row ha' (by rw [hkd]; exact ⟨by omega, by omega⟩) j]
  exact kk
theorem p_zald {a n : Nat} {i : Int32} (j : Nat) (hd : decode (m_c M) pc = .ok (.baload, 1)) (ha : Nat.blt a 118 = true) (hkd : kd0 a = (12, n)) (hi : i = nI j) (hj : j < n) (kk : Wp w k M Q (pc + 1) L (.int (h a j) :: st) h) : Wp w k M Q pc L (.int i :: .ref a :: st) h := by
  have ha' := Nat.le_of_ble_eq_true ha
  have hn : n < 2 ^ 31 := by have := kd_small a ha'; rw [hkd] at this; exact this
  subst hi
  refine g_zald hd ha' hkd (vp_in_nI hj hn) ?_
  rw [nI_clamp (by omega)]
  show Gp w k 0 0 M _ (pc + 1) L (vl h a j :: st) (mu h)
  rw [vl_row ha' (by rw [hkd]; exact ⟨by omega, by omega⟩) j]
  exact kk
theorem p_iast {a n : Nat} {i x : Int32} (j : Nat) (hd : decode (m_c M) pc = .ok (.iastore, 1)) (ha : Nat.blt a 118 = true) (hkd : kd0 a = (10, n)) (hi : i = nI j) (hj : j < n) (kk : Wp w k M Q (pc + 1) L st (up h a j x)) : Wp w k M Q pc L (.int x :: .int i :: .ref a :: st) h := by
  have ha' := Nat.le_of_ble_eq_true ha
  have hn : n < 2 ^ 31 := by have := kd_small a ha'; rw [hkd] at this; exact this
  subst hi
  refine g_iast hd ha' hkd (vp_in_nI hj hn) ?_
  rw [nI_clamp (by omega), mu_up (rf_row ha' (by rw [hkd]; exact ⟨Nat.le_refl _, by omega⟩) j)]
  exact kk
theorem p_zast {a n : Nat} {i x : Int32} (j : Nat) (hd : decode (m_c M) pc = .ok (.bastore, 1)) (ha : Nat.blt a 118 = true) (hkd : kd0 a = (12, n)) (hi : i = nI j) (hj : j < n) (hx : x = 0 ∨ x = 1) (kk : Wp w k M Q (pc + 1) L st (up h a j x)) : Wp w k M Q pc L (.int x :: .int i :: .ref a :: st) h := by
  have ha' := Nat.le_of_ble_eq_true ha
  have hn : n < 2 ^ 31 := by have := kd_small a ha'; rw [hkd] at this; exact this
  subst hi
  refine g_zast hd ha' hkd (vp_in_nI hj hn) (by rcases hx with rfl | rfl <;> rfl) ?_
  rw [nI_clamp (by omega), mu_up (rf_row ha' (by rw [hkd]; exact ⟨by omega, by omega⟩) j)]
  exact kk
theorem p_aald {a t n r : Nat} {i : Int32} (j : Nat) (hd : decode (m_c M) pc = .ok (.aaload, 1)) (ha : a < 118) (hkd : kd0 a = (t, n)) (ht : 14 ≤ t ∧ t < 18) (hi : i = nI j) (hj : j < n) (hr : rf0 a j = some r) (kk : Wp w k M Q (pc + 1) L (.ref r :: st) h) : Wp w k M Q pc L (.int i :: .ref a :: st) h := by
  have hn : n < 2 ^ 31 := by have := kd_small a ha; rw [hkd] at this; exact this
  subst hi
  refine g_aald hd ha ht hkd (vp_in_nI hj hn) ?_
  rw [nI_clamp (by omega)]
  show Gp w k 0 0 M _ (pc + 1) L (vl h a j :: st) (mu h)
  rw [show vl h a j = .ref r by simp [vl, hr]]
  exact kk
/-- a field of truth -/
theorem p_putZ {idx a t kf : Nat} {x : Int32} (hd : decode (m_c M) pc = .ok (.putfield idx, 3)) (hf : FO (m_y M).cls idx t kf) (ha : a < 118) (hkd : (kd0 a).1 = t) (hZ : ∀ C T N, vwCl[t]? = some (C, T, N) → (T kf).2.2.2 = false ∧ parseFieldDescriptor (T kf).2.2.1 = some .boolean) (hr : rf0 a kf = none) (hx : x = 0 ∨ x = 1) (kk : Wp w k M Q (pc + 3) L st (up h a kf x)) : Wp w k M Q pc L (.int x :: .ref a :: st) h := by
  refine g_put (ty := .boolean) hd ⟨hf, hZ⟩ ha hkd (by rcases hx with rfl | rfl <;> rfl) (by rcases hx with rfl | rfl <;> rfl) ?_
  rw [mu_up hr]
  exact kk
def Ok (w : Wt) (k : Nat) (M : Mt) (as : List Value) (h : Mm) (Q : Option Value → Mm → Prop) : Prop := Wp w k M Q 0 (eL (m_n M) as) [] h
theorem Ok.imp {as : List Value} {Q' : Option Value → Mm → Prop} (hh : Ok w k M as h Q') (hq : ∀ r h', Q' r h' → Q r h') : Ok w k M as h Q := Wp.imp hq hh
theorem cat_of {as : List Value} (h : as.all (fun v => Nat.beq v.category 1) = true) : ∀ v ∈ as, v.category = 1 := fun v hv => Nat.eq_of_beq_eq_true (List.all_eq_true.mp h v hv)
theorem p_callS {M' : Mt} {k' np idx : Nat} {as rest : List Value} {Q' : Option Value → Mm → Prop} (hO : Ok w k' M' as h Q') (hw : KS (m_y M).cls idx M' np) (hd : decode (m_c M) pc = .ok (.invokestatic idx, 3)) (hk : k' + 1 ≤ k) (hst : st = as.reverse ++ rest) (hn : as.length = np) (hcat : as.all (fun v => Nat.beq v.category 1) = true) (hnl : Nat.ble np (m_n M') = true) (hrest : Nat.ble (rest.map fun v => v.category).sum 8 = true) (hC : ∀ r h', Q' r h' → Wp w k M Q (pc + 3) L (r.toList ++ rest) h') : Wp w k M Q pc L st h :=
  g_callS (bc' := 0) (bs' := 0) (bc2 := 0) (bs2 := 0) as hd hw rfl rfl hn (cat_of hcat) (Nat.le_of_ble_eq_true hnl) hst (Nat.le_of_ble_eq_true hrest) hk hO (fun r u' ⟨h', e, q⟩ => by rw [e]; exact hC r h' q)
theorem p_callV {M' : Mt} {k' np idx a t : Nat} {as rest : List Value} {Q' : Option Value → Mm → Prop} (hO : Ok w k' M' (.ref a :: as) h Q') (hw : KV (m_y M).cls idx M' t np) (hd : decode (m_c M) pc = .ok (.invokevirtual idx, 3)) (ha : a < 118) (hkd : (kd0 a).1 = t) (hk : k' + 1 ≤ k) (hst : st = as.reverse ++ .ref a :: rest) (hn : as.length = np) (hcat : as.all (fun v => Nat.beq v.category 1) = true) (hnl : Nat.ble (np + 1) (m_n M') = true) (hrest : Nat.ble (rest.map fun v => v.category).sum 8 = true) (hC : ∀ r h', Q' r h' → Wp w k M Q (pc + 3) L (r.toList ++ rest) h') : Wp w k M Q pc L st h :=
  g_callV (bc' := 0) (bs' := 0) (bc2 := 0) (bs2 := 0) as hd hw ha hkd rfl rfl hn (cat_of hcat) (Nat.le_of_ble_eq_true hnl) hst (Nat.le_of_ble_eq_true hrest) hk hO (fun r u' ⟨h', e, q⟩ => by rw [e]; exact hC r h' q)
/-- what a method that only answers, or only changes, says -/
def Rv (v : Int32) (h1 : Mm) : Option Value → Mm → Prop := fun r h' => r = some (.int v) ∧ h' = h1
def Rw (h1 : Mm) : Option Value → Mm → Prop := fun r h' => r = none ∧ h' = h1
theorem p_callSv {M' : Mt} {k' np idx : Nat} {as rest : List Value} {v : Int32} {h1 : Mm} (hO : Ok w k' M' as h (Rv v h1)) (hw : KS (m_y M).cls idx M' np) (hd : decode (m_c M) pc = .ok (.invokestatic idx, 3)) (hk : k' + 1 ≤ k) (hst : st = as.reverse ++ rest) (hn : as.length = np) (hcat : as.all (fun v => Nat.beq v.category 1) = true) (hnl : Nat.ble np (m_n M') = true) (hrest : Nat.ble (rest.map fun v => v.category).sum 8 = true) (kk : Wp w k M Q (pc + 3) L (.int v :: rest) h1) : Wp w k M Q pc L st h :=
  p_callS hO hw hd hk hst hn hcat hnl hrest (fun r h' ⟨e1, e2⟩ => by rw [e1, e2]; exact kk)
theorem p_callSw {M' : Mt} {k' np idx : Nat} {as rest : List Value} {h1 : Mm} (hO : Ok w k' M' as h (Rw h1)) (hw : KS (m_y M).cls idx M' np) (hd : decode (m_c M) pc = .ok (.invokestatic idx, 3)) (hk : k' + 1 ≤ k) (hst : st = as.reverse ++ rest) (hn : as.length = np) (hcat : as.all (fun v => Nat.beq v.category 1) = true) (hnl : Nat.ble np (m_n M') = true) (hrest : Nat.ble (rest.map fun v => v.category).sum 8 = true) (kk : Wp w k M Q (pc + 3) L rest h1) : Wp w k M Q pc L st h :=
  p_callS hO hw hd hk hst hn hcat hnl hrest (fun r h' ⟨e1, e2⟩ => by rw [e1, e2]; exact kk)
theorem p_callVv {M' : Mt} {k' np idx a t : Nat} {as rest : List Value} {v : Int32} {h1 : Mm} (hO : Ok w k' M' (.ref a :: as) h (Rv v h1)) (hw : KV (m_y M).cls idx M' t np) (hd : decode (m_c M) pc = .ok (.invokevirtual idx, 3)) (ha : a < 118) (hkd : (kd0 a).1 = t) (hk : k' + 1 ≤ k) (hst : st = as.reverse ++ .ref a :: rest) (hn : as.length = np) (hcat : as.all (fun v => Nat.beq v.category 1) = true) (hnl : Nat.ble (np + 1) (m_n M') = true) (hrest : Nat.ble (rest.map fun v => v.category).sum 8 = true) (kk : Wp w k M Q (pc + 3) L (.int v :: rest) h1) : Wp w k M Q pc L st h :=
  p_callV hO hw hd ha hkd hk hst hn hcat hnl hrest (fun r h' ⟨e1, e2⟩ => by rw [e1, e2]; exact kk)
theorem p_callVw {M' : Mt} {k' np idx a t : Nat} {as rest : List Value} {h1 : Mm} (hO : Ok w k' M' (.ref a :: as) h (Rw h1)) (hw : KV (m_y M).cls idx M' t np) (hd : decode (m_c M) pc = .ok (.invokevirtual idx, 3)) (ha : a < 118) (hkd : (kd0 a).1 = t) (hk : k' + 1 ≤ k) (hst : st = as.reverse ++ .ref a :: rest) (hn : as.length = np) (hcat : as.all (fun v => Nat.beq v.category 1) = true) (hnl : Nat.ble (np + 1) (m_n M') = true) (hrest : Nat.ble (rest.map fun v => v.category).sum 8 = true) (kk : Wp w k M Q (pc + 3) L rest h1) : Wp w k M Q pc L st h :=
  p_callV hO hw hd ha hkd hk hst hn hcat hnl hrest (fun r h' ⟨e1, e2⟩ => by rw [e1, e2]; exact kk)
end G6
