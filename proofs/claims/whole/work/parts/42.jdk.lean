/-! the JDK: Math, constants, strings' fields, calls on constants, arraycopy -/
theorem j_min_s : Cond.static Lib.Math.min.name ∈ tbG := tbG_of 381 (by decide +kernel) (by decide +kernel)
theorem j_max_s : Cond.static Lib.Math.max.name ∈ tbG := tbG_of 384 (by decide +kernel) (by decide +kernel)
theorem j_abs_s : Cond.static Lib.Math.abs.name ∈ tbG := tbG_of 626 (by decide +kernel) (by decide +kernel)
theorem j_math : Cond.initialized "java/lang/Math" ∈ tbG := tbG_of 60 (by decide +kernel) (by decide +kernel)
theorem j_min_c : Cond.code Lib.Math.min.name Lib.Math.min.code 2 (some .int) ∈ tbG := tbG_of 382 (by decide +kernel) (by decide +kernel)
theorem j_max_c : Cond.code Lib.Math.max.name Lib.Math.max.code 2 (some .int) ∈ tbG := tbG_of 385 (by decide +kernel) (by decide +kernel)
theorem j_abs_c : Cond.code Lib.Math.abs.name Lib.Math.abs.code 1 (some .int) ∈ tbG := tbG_of 627 (by decide +kernel) (by decide +kernel)
theorem j_ac_n : Cond.native arraycopyName ∈ tbG := tbG_of 902 (by decide +kernel) (by decide +kernel)
theorem j_ac_s : Cond.static arraycopyName ∈ tbG := tbG_of 901 (by decide +kernel) (by decide +kernel)
theorem j_sys : Cond.initialized "java/lang/System" ∈ tbG := tbG_of 67 (by decide +kernel) (by decide +kernel)
theorem jlX7_153 : Cond.methodLink RX7 153 Lib.Math.min.name ∈ tbG := tbG_of 380 (by decide +kernel) (by decide +kernel)
theorem jlX7_316 : Cond.methodLink RX7 316 Lib.Math.max.name ∈ tbG := tbG_of 383 (by decide +kernel) (by decide +kernel)
theorem jlX2_130 : Cond.methodLink RX2 130 Lib.Math.min.name ∈ tbG := tbG_of 506 (by decide +kernel) (by decide +kernel)
theorem jlX2_136 : Cond.methodLink RX2 136 Lib.Math.max.name ∈ tbG := tbG_of 507 (by decide +kernel) (by decide +kernel)
theorem jlX7_319 : Cond.methodLink RX7 319 Lib.Math.abs.name ∈ tbG := tbG_of 625 (by decide +kernel) (by decide +kernel)
theorem jlJ1_92 : Cond.methodLink RJ1 92 Lib.Math.max.name ∈ tbG := tbG_of 784 (by decide +kernel) (by decide +kernel)
theorem jlJ1_38 : Cond.methodLink RJ1 38 Lib.Math.min.name ∈ tbG := tbG_of 785 (by decide +kernel) (by decide +kernel)
theorem jlX7_280 : Cond.methodLink RX7 280 arraycopyName ∈ tbG := tbG_of 900 (by decide +kernel) (by decide +kernel)
theorem jlX4_22 : Cond.methodLink RX4 22 arraycopyName ∈ tbG := tbG_of 915 (by decide +kernel) (by decide +kernel)
section G8
variable {w : Wt} {k : Nat} {M : Mt} {Q : Option Value → Mm → Prop} {pc : Nat} {L : List (Option Value)} {st : List Value} {h : Mm}
theorem p_mmin {idx : Nat} {x y : Int32} (hl : Cond.methodLink (m_y M).cls idx Lib.Math.min.name ∈ tbG) (hd : decode (m_c M) pc = .ok (.invokestatic idx, 3)) (hk : 1 ≤ k) (hrest : Nat.ble (st.map fun v => v.category).sum 8 = true) (kk : Wp w k M Q (pc + 3) L (.int (if y < x then y else x) :: st) h) : Wp w k M Q pc L (.int y :: .int x :: st) h := by
  intro p e R s m args below meth c cells slots Z X hc hs hZ H locs ls hH hS hL
  have hfr := X.2.2.2.2.2.2.2.2.2
  have hcs := cat_sum (w := w) (Nat.le_of_ble_eq_true hrest)
  exact va_mmin X.1 X.2.1 (by rw [X.2.2.1, hL.sz]) X.own (X.ts _ hl) (X.ts _ j_min_s) (X.ts _ j_math) (X.ts _ j_min_c) (by omega) (by omega) (by omega) (by omega) hd (kk p e R s m args below meth c cells slots Z X hc hs hZ H locs ls hH hS hL)
theorem p_mmax {idx : Nat} {x y : Int32} (hl : Cond.methodLink (m_y M).cls idx Lib.Math.max.name ∈ tbG) (hd : decode (m_c M) pc = .ok (.invokestatic idx, 3)) (hk : 1 ≤ k) (hrest : Nat.ble (st.map fun v => v.category).sum 8 = true) (kk : Wp w k M Q (pc + 3) L (.int (if x < y then y else x) :: st) h) : Wp w k M Q pc L (.int y :: .int x :: st) h := by
  intro p e R s m args below meth c cells slots Z X hc hs hZ H locs ls hH hS hL
  have hfr := X.2.2.2.2.2.2.2.2.2
  have hcs := cat_sum (w := w) (Nat.le_of_ble_eq_true hrest)
  exact va_mmax X.1 X.2.1 (by rw [X.2.2.1, hL.sz]) X.own (X.ts _ hl) (X.ts _ j_max_s) (X.ts _ j_math) (X.ts _ j_max_c) (by omega) (by omega) (by omega) (by omega) hd (kk p e R s m args below meth c cells slots Z X hc hs hZ H locs ls hH hS hL)
theorem p_mabs {idx : Nat} {x : Int32} (hl : Cond.methodLink (m_y M).cls idx Lib.Math.abs.name ∈ tbG) (hd : decode (m_c M) pc = .ok (.invokestatic idx, 3)) (hk : 1 ≤ k) (hrest : Nat.ble (st.map fun v => v.category).sum 8 = true) (kk : Wp w k M Q (pc + 3) L (.int (if 0 ≤ x then x else 0 - x) :: st) h) : Wp w k M Q pc L (.int x :: st) h := by
  intro p e R s m args below meth c cells slots Z X hc hs hZ H locs ls hH hS hL
  have hfr := X.2.2.2.2.2.2.2.2.2
  have hcs := cat_sum (w := w) (Nat.le_of_ble_eq_true hrest)
  exact va_mabs X.1 X.2.1 (by rw [X.2.2.1, hL.sz]) X.own (X.ts _ hl) (X.ts _ j_abs_s) (X.ts _ j_math) (X.ts _ j_abs_c) (by omega) (by omega) (by omega) (by omega) hd (kk p e R s m args below meth c cells slots Z X hc hs hZ H locs ls hH hS hL)
theorem p_getsA (hM : (m_y M).cls = RX1) (hd : decode (m_c M) pc = .ok (.getstatic 27, 3)) (kk : Wp w k M Q (pc + 3) L (.ref 1000 :: st) h) : Wp w k M Q pc L st h := by
  intro p e R s m args below meth c cells slots Z X hc hs hZ H locs ls hH hS hL
  have ho := X.own
  rw [hM] at ho
  exact va_getsN X.1 X.2.1 X.kw.2.1.1 hS ho (X.kw.2.2.2.2.2.2.2.use rfl) (fun x h => h) hd (kk p e R s m args below meth c cells slots Z X hc hs hZ H locs ls hH hS hL)
theorem p_alenA (hd : decode (m_c M) pc = .ok (.arraylength, 1)) (kk : Wp w k M Q (pc + 1) L (.int (nI 6) :: st) h) : Wp w k M Q pc L (.ref 1000 :: st) h := by
  intro p e R s m args below meth c cells slots Z X hc hs hZ H locs ls hH hS hL
  exact va_tlen X.1 X.2.1 X.kw.2.1.2.1 hS rfl hd (kk p e R s m args below meth c cells slots Z X hc hs hZ H locs ls hH hS hL)
theorem p_ialdA {i : Int32} (j : Nat) (hd : decode (m_c M) pc = .ok (.iaload, 1)) (hi : i = nI j) (hj : j < 6) (kk : Wp w k M Q (pc + 1) L (.int (cAb j) :: st) h) : Wp w k M Q pc L (.int i :: .ref 1000 :: st) h := by
  intro p e R s m args below meth c cells slots Z X hc hs hZ H locs ls hH hS hL
  subst hi
  exact va_ti X.1 X.2.1 X.kw.2.1.2.1 hS (fun q => q.elim (nI_pos (by omega)) (fun q => by rw [nI_clamp (by omega)] at q; omega)) (v := .int (cAb j)) (by rw [nI_clamp (by omega)]) hd (kk p e R s m args below meth c cells slots Z X hc hs hZ H locs ls hH hS hL)
theorem p_ldcS (i ix : Nat) (tx : String) (hm : (i, ix, tx) ∈ cStr) (hM : (m_y M).cls = RX3) (hd : decode (m_c M) pc = .ok (.ldc ix, 2)) (kk : Wp w k M Q (pc + 2) L (.ref (1010 + i) :: st) h) : Wp w k M Q pc L st h := by
  intro p e R s m args below meth c cells slots Z X hc hs hZ H locs ls hH hS hL
  have ho := X.own
  rw [hM] at ho
  exact va_ldcS X.1 X.2.1 ho (X.kw.2.2.1 i ix tx hm) hd (kk p e R s m args below meth c cells slots Z X hc hs hZ H locs ls hH hS hL)
theorem p_getVal (i : Nat) (hi : i < 11) (hM : (m_y M).cls = "java/lang/String") (hd : decode (m_c M) pc = .ok (.getfield 9, 3)) (kk : Wp w k M Q (pc + 3) L (.ref (1030 + i) :: st) h) : Wp w k M Q pc L (.ref (1010 + i) :: st) h := by
  intro p e R s m args below meth c cells slots Z X hc hs hZ H locs ls hH hS hL
  have ho := X.own
  rw [hM] at ho
  exact vk_getf X.1 X.2.1 (X.kw.2.1.2.2.2.1.1 i hi).2.2.1 hS ho (X.ts _ (tbG_of 1446 (by decide +kernel) (by decide +kernel) : Cond.fieldLink "java/lang/String" 9 "java/lang/String" "value" "[B" ∈ tbG)) (fun x h => h) hd (kk p e R s m args below meth c cells slots Z X hc hs hZ H locs ls hH hS hL)
theorem p_getCod (i : Nat) (hi : i < 11) (hM : (m_y M).cls = "java/lang/String") (hd : decode (m_c M) pc = .ok (.getfield 15, 3)) (kk : Wp w k M Q (pc + 3) L (.int 0 :: st) h) : Wp w k M Q pc L (.ref (1010 + i) :: st) h := by
  intro p e R s m args below meth c cells slots Z X hc hs hZ H locs ls hH hS hL
  have ho := X.own
  rw [hM] at ho
  exact vk_getf X.1 X.2.1 (X.kw.2.1.2.2.2.1.1 i hi).2.1 hS ho (X.ts _ (tbG_of 1447 (by decide +kernel) (by decide +kernel) : Cond.fieldLink "java/lang/String" 15 "java/lang/String" "coder" "B" ∈ tbG)) (fun x h => h) hd (kk p e R s m args below meth c cells slots Z X hc hs hZ H locs ls hH hS hL)
theorem p_getsC (hM : (m_y M).cls = "java/lang/String") (hd : decode (m_c M) pc = .ok (.getstatic 38, 3)) (kk : Wp w k M Q (pc + 3) L (.int 1 :: st) h) : Wp w k M Q pc L st h := by
  intro p e R s m args below meth c cells slots Z X hc hs hZ H locs ls hH hS hL
  have ho := X.own
  rw [hM] at ho
  exact va_gets X.1 X.2.1 X.kw.2.1.2.2.1 hS ho (X.ts _ (tbG_of 701 (by decide +kernel) (by decide +kernel) : Cond.fieldLink "java/lang/String" 38 "java/lang/String" "COMPACT_STRINGS" "Z" ∈ tbG)) (fun x h => h) hd (kk p e R s m args below meth c cells slots Z X hc hs hZ H locs ls hH hS hL)
theorem p_getsF (hM : (m_y M).cls = "java/lang/String") (hd : decode (m_c M) pc = .ok (.getstatic 1053, 3)) (kk : ∀ v, (v = .null ∨ v = .ref 1002) → Wp w k M Q (pc + 3) L (v :: st) h) : Wp w k M Q pc L st h := by
  intro p e R s m args below meth c cells slots Z X hc hs hZ H locs ls hH hS hL
  have ho := X.own
  rw [hM] at ho
  rcases X.kw.2.1.2.2.2.2.1 with q | q
  · exact va_gets X.1 X.2.1 q hS ho (X.ts _ (tbG_of 717 (by decide +kernel) (by decide +kernel) : Cond.fieldLink "java/lang/String" 1053 "jdk/internal/util/Preconditions" "SIOOBE_FORMATTER" "Ljava/util/function/BiFunction;" ∈ tbG)) (fun x h => h) hd (kk _ (Or.inl rfl) p e R s m args below meth c cells slots Z X hc hs hZ H locs ls hH hS hL)
  · exact va_gets X.1 X.2.1 q hS ho (X.ts _ (tbG_of 717 (by decide +kernel) (by decide +kernel) : Cond.fieldLink "java/lang/String" 1053 "jdk/internal/util/Preconditions" "SIOOBE_FORMATTER" "Ljava/util/function/BiFunction;" ∈ tbG)) (fun x h => h) hd (kk _ (Or.inr rfl) p e R s m args below meth c cells slots Z X hc hs hZ H locs ls hH hS hL)
theorem p_alenS (i : Nat) (hi : i < 11) (hd : decode (m_c M) pc = .ok (.arraylength, 1)) (kk : Wp w k M Q (pc + 1) L (.int (nI (cLen.getD i 0)) :: st) h) : Wp w k M Q pc L (.ref (1030 + i) :: st) h := by
  intro p e R s m args below meth c cells slots Z X hc hs hZ H locs ls hH hS hL
  exact va_tlen X.1 X.2.1 (X.kw.2.1.2.2.2.1.1 i hi).2.2.2 hS rfl hd (kk p e R s m args below meth c cells slots Z X hc hs hZ H locs ls hH hS hL)
theorem cLen_lt : ∀ i, i < 11 → cLen.getD i 0 < 5 := by decide
theorem p_baldS {x : Int32} (i j : Nat) (hi : i < 11) (hd : decode (m_c M) pc = .ok (.baload, 1)) (hx : x = nI j) (hj : j < cLen.getD i 0) (kk : Wp w k M Q (pc + 1) L (.int ((cByt.getD i []).getD j 0) :: st) h) : Wp w k M Q pc L (.int x :: .ref (1030 + i) :: st) h := by
  intro p e R s m args below meth c cells slots Z X hc hs hZ H locs ls hH hS hL
  subst hx
  have h5 := cLen_lt i hi
  exact va_tb X.1 X.2.1 (X.kw.2.1.2.2.2.1.1 i hi).2.2.2 hS (fun q => q.elim (nI_pos (by omega)) (fun q => by rw [nI_clamp (by omega)] at q; omega)) (v := .int ((cByt.getD i []).getD j 0)) (by rw [nI_clamp (by omega)]) hd (kk p e R s m args below meth c cells slots Z X hc hs hZ H locs ls hH hS hL)
def KC (own : String) (idx : Nat) (M' : Mt) (np : Nat) : Prop := MW M' np ∧ Cond.instanceMethod (m_y M') ∈ tbG ∧ Cond.selects (m_y M').cls (m_y M') (m_y M') ∈ tbG ∧ Cond.methodLink own idx (m_y M') ∈ tbG ∧ (m_y M').cls = "java/lang/String"
set_option maxHeartbeats 4000000 in
theorem p_callC {M' : Mt} {k' np idx i : Nat} {as rest : List Value} {v : Int32} {h1 : Mm} (hi : i < 11) (hO : Ok w k' M' (.ref (1010 + i) :: as) h (Rv v h1)) (hw : KC (m_y M).cls idx M' np) (hd : decode (m_c M) pc = .ok (.invokevirtual idx, 3)) (hk : k' + 1 ≤ k) (hst : st = as.reverse ++ .ref (1010 + i) :: rest) (hn : as.length = np) (hcat : as.all (fun v => Nat.beq v.category 1) = true) (hnl : Nat.ble (np + 1) (m_n M') = true) (hrest : Nat.ble (rest.map fun v => v.category).sum 8 = true) (kk : Wp w k M Q (pc + 3) L (.int v :: rest) h1) : Wp w k M Q pc L st h := by
  refine g_core (bc := 0) (bs := 0) (bc' := 0) (bs' := 0) (bc2 := 0) (bs2 := 0) (rest := rest) (Q' := fun r u => ∃ h', u = mu h' ∧ Rv v h1 r h') rfl rfl (fun p e R s m args below meth c cells slots X h1 h2 H locs ls hH hS hL => ?_) (fun r u' ⟨h', e, q1, q2⟩ => by rw [e, q1, q2]; exact kk)
  obtain ⟨hM, hins, hsel, hl, hcl⟩ := hw
  have hcat0 := cat_of hcat
  have hcat' : ∀ v ∈ Value.ref (1010 + i) :: as, v.category = 1 := fun v hv => (List.mem_cons.mp hv).elim (fun e => by rw [e]; rfl) (hcat0 v)
  have hnl' := Nat.le_of_ble_eq_true hnl
  have hmet := met_of (bc := 0) (bs := 0) hM hcat' (by rw [List.length_cons]; omega) hO
  have hfr := X.2.2.2.2.2.2.2.2.2
  have hR : (rmk k' 0 0).frames + 1 ≤ R.frames ∧ 8 + (m_n M' + 11) + (rmk k' 0 0).locals ≤ R.locals := ⟨by show k' + 1 ≤ _; omega, by show 8 + (m_n M' + 11) + 64 * k' ≤ _; have := hM.2.2.2.2; omega⟩
  have hG : GoodIn tbG (Cond.code (m_y M') (m_c M') (m_n M') (m_r M') :: tbG) := fun x hx => (List.mem_cons.mp hx).elim (fun e => by rw [e]; exact tbG_good _ hM.1) (tbG_good x)
  subst hst
  have hp := pre_of (as := .ref (1010 + i) :: as) X.kw hS hH
  have hrv := vk_recv X.kw.2.1.2.2.2.1 hi hS
  rw [← hcl] at hrv
  have ead : ad w (1010 + i) = w_a w (1010 + i) := by unfold ad; rw [if_neg (by omega)]
  exact va_runV (b := ad w (1010 + i)) (C := (m_y M').cls) (As := as.map (cv w)) (rest := rest.map (cv w)) ⟨X.1, X.2.1, X.2.2.1, X.own, X.ts⟩ hmet ⟨callB_of np X.ts hG rfl rfl rfl (X.ts _ hM.2.1) (X.ts _ hl) hM.2.2.2.1 hR, X.ts _ hins, X.ts _ hsel⟩ ⟨hp.1, hrv, hp.2⟩ rfl (by simp [hn]) hL.sz (by simp [F0, cv]) (lv_room (cat_sum (Nat.le_of_ble_eq_true hrest))) hd ⟨h1, h2⟩
theorem kcX3_84 : KC RX3 84 MJ0_length_8abf5 0 := ⟨mwJ0_length_8abf5, tbG_of 694 (by decide +kernel) (by decide +kernel), tbG_of 695 (by decide +kernel) (by decide +kernel), tbG_of 693 (by decide +kernel) (by decide +kernel), rfl⟩
theorem kcJ0_335 : KC RJ0 335 MJ0_coder_7d493 0 := ⟨mwJ0_coder_7d493, tbG_of 698 (by decide +kernel) (by decide +kernel), tbG_of 699 (by decide +kernel) (by decide +kernel), tbG_of 697 (by decide +kernel) (by decide +kernel), rfl⟩
theorem kcX3_88 : KC RX3 88 MJ0_charAt_5068e 1 := ⟨mwJ0_charAt_5068e, tbG_of 704 (by decide +kernel) (by decide +kernel), tbG_of 705 (by decide +kernel) (by decide +kernel), tbG_of 703 (by decide +kernel) (by decide +kernel), rfl⟩
theorem kcJ0_492 : KC RJ0 492 MJ0_isLatin1_aae02 0 := ⟨mwJ0_isLatin1_aae02, tbG_of 708 (by decide +kernel) (by decide +kernel), tbG_of 709 (by decide +kernel) (by decide +kernel), tbG_of 707 (by decide +kernel) (by decide +kernel), rfl⟩
theorem kcX3_116 : KC RX3 116 MJ0_indexOf_0f7a4 1 := ⟨mwJ0_indexOf_0f7a4, tbG_of 770 (by decide +kernel) (by decide +kernel), tbG_of 771 (by decide +kernel) (by decide +kernel), tbG_of 769 (by decide +kernel) (by decide +kernel), rfl⟩
theorem kcJ0_633 : KC RJ0 633 MJ0_indexOf_7cf53 2 := ⟨mwJ0_indexOf_7cf53, tbG_of 774 (by decide +kernel) (by decide +kernel), tbG_of 775 (by decide +kernel) (by decide +kernel), tbG_of 773 (by decide +kernel) (by decide +kernel), rfl⟩
theorem kcJ0_505 : KC RJ0 505 MJ0_length_8abf5 0 := ⟨mwJ0_length_8abf5, tbG_of 694 (by decide +kernel) (by decide +kernel), tbG_of 695 (by decide +kernel) (by decide +kernel), tbG_of 777 (by decide +kernel) (by decide +kernel), rfl⟩
end G8
