section G1
variable {w : Wt} {k bc bs : Nat} {M : Mt} {Q : Option Value → Mu → Prop} {pc : Nat} {L : List (Option Value)} {st : List Value} {u : Mu}
theorem g_iadd {x y : Int32} (hd : decode (m_c M) pc = .ok (.iadd, 1)) (h : Gp w k bc bs M Q (pc + 1) L (.int (x + y) :: st) u) : Gp w k bc bs M Q pc L (.int y :: .int x :: st) u := by
  intro p e R s m args below meth c cells slots Z C hc hs hZ H locs ls hH hS hL
  exact lv_iadd C.1 C.2.1 hd (h p e R s m args below meth c cells slots Z C hc hs hZ H locs ls hH hS hL)
theorem g_isub {x y : Int32} (hd : decode (m_c M) pc = .ok (.isub, 1)) (h : Gp w k bc bs M Q (pc + 1) L (.int (x - y) :: st) u) : Gp w k bc bs M Q pc L (.int y :: .int x :: st) u := by
  intro p e R s m args below meth c cells slots Z C hc hs hZ H locs ls hH hS hL
  exact lv_isub C.1 C.2.1 hd (h p e R s m args below meth c cells slots Z C hc hs hZ H locs ls hH hS hL)
theorem g_imul {x y : Int32} (hd : decode (m_c M) pc = .ok (.imul, 1)) (h : Gp w k bc bs M Q (pc + 1) L (.int (x * y) :: st) u) : Gp w k bc bs M Q pc L (.int y :: .int x :: st) u := by
  intro p e R s m args below meth c cells slots Z C hc hs hZ H locs ls hH hS hL
  exact lv_imul C.1 C.2.1 hd (h p e R s m args below meth c cells slots Z C hc hs hZ H locs ls hH hS hL)
theorem g_iand {x y : Int32} (hd : decode (m_c M) pc = .ok (.iand, 1)) (h : Gp w k bc bs M Q (pc + 1) L (.int (x &&& y) :: st) u) : Gp w k bc bs M Q pc L (.int y :: .int x :: st) u := by
  intro p e R s m args below meth c cells slots Z C hc hs hZ H locs ls hH hS hL
  exact lv_iand C.1 C.2.1 hd (h p e R s m args below meth c cells slots Z C hc hs hZ H locs ls hH hS hL)
theorem g_ior {x y : Int32} (hd : decode (m_c M) pc = .ok (.ior, 1)) (h : Gp w k bc bs M Q (pc + 1) L (.int (x ||| y) :: st) u) : Gp w k bc bs M Q pc L (.int y :: .int x :: st) u := by
  intro p e R s m args below meth c cells slots Z C hc hs hZ H locs ls hH hS hL
  exact lv_ior C.1 C.2.1 hd (h p e R s m args below meth c cells slots Z C hc hs hZ H locs ls hH hS hL)
theorem g_ixor {x y : Int32} (hd : decode (m_c M) pc = .ok (.ixor, 1)) (h : Gp w k bc bs M Q (pc + 1) L (.int (x ^^^ y) :: st) u) : Gp w k bc bs M Q pc L (.int y :: .int x :: st) u := by
  intro p e R s m args below meth c cells slots Z C hc hs hZ H locs ls hH hS hL
  exact lv_ixor C.1 C.2.1 hd (h p e R s m args below meth c cells slots Z C hc hs hZ H locs ls hH hS hL)
theorem g_ishl {x y : Int32} (hd : decode (m_c M) pc = .ok (.ishl, 1)) (h : Gp w k bc bs M Q (pc + 1) L (.int (x <<< (y &&& 31)) :: st) u) : Gp w k bc bs M Q pc L (.int y :: .int x :: st) u := by
  intro p e R s m args below meth c cells slots Z C hc hs hZ H locs ls hH hS hL
  exact lv_ishl C.1 C.2.1 hd (h p e R s m args below meth c cells slots Z C hc hs hZ H locs ls hH hS hL)
theorem g_ishr {x y : Int32} (hd : decode (m_c M) pc = .ok (.ishr, 1)) (h : Gp w k bc bs M Q (pc + 1) L (.int (x >>> (y &&& 31)) :: st) u) : Gp w k bc bs M Q pc L (.int y :: .int x :: st) u := by
  intro p e R s m args below meth c cells slots Z C hc hs hZ H locs ls hH hS hL
  exact lv_ishr C.1 C.2.1 hd (h p e R s m args below meth c cells slots Z C hc hs hZ H locs ls hH hS hL)
theorem g_idiv {x y : Int32} (hd : decode (m_c M) pc = .ok (.idiv, 1)) (hy : ¬ y = 0) (h : Gp w k bc bs M Q (pc + 1) L (.int (x / y) :: st) u) : Gp w k bc bs M Q pc L (.int y :: .int x :: st) u := by
  intro p e R s m args below meth c cells slots Z C hc hs hZ H locs ls hH hS hL
  exact lv_idiv C.1 C.2.1 hd hy (h p e R s m args below meth c cells slots Z C hc hs hZ H locs ls hH hS hL)
theorem g_irem {x y : Int32} (hd : decode (m_c M) pc = .ok (.irem, 1)) (hy : ¬ y = 0) (h : Gp w k bc bs M Q (pc + 1) L (.int (x - x / y * y) :: st) u) : Gp w k bc bs M Q pc L (.int y :: .int x :: st) u := by
  intro p e R s m args below meth c cells slots Z C hc hs hZ H locs ls hH hS hL
  exact lv_irem C.1 C.2.1 hd hy (h p e R s m args below meth c cells slots Z C hc hs hZ H locs ls hH hS hL)
theorem g_iushr {x y : Int32} (hd : decode (m_c M) pc = .ok (.iushr, 1)) (h : Gp w k bc bs M Q (pc + 1) L (.int (x.toUInt32 >>> (y.toUInt32 &&& Int32.toUInt32 31)).toInt32 :: st) u) : Gp w k bc bs M Q pc L (.int y :: .int x :: st) u := by
  intro p e R s m args below meth c cells slots Z C hc hs hZ H locs ls hH hS hL
  exact lv_iushr C.1 C.2.1 hd rfl (h p e R s m args below meth c cells slots Z C hc hs hZ H locs ls hH hS hL)
theorem g_ineg {x : Int32} (hd : decode (m_c M) pc = .ok (.ineg, 1)) (h : Gp w k bc bs M Q (pc + 1) L (.int (-x) :: st) u) : Gp w k bc bs M Q pc L (.int x :: st) u := by
  intro p e R s m args below meth c cells slots Z C hc hs hZ H locs ls hH hS hL
  exact lv_ineg C.1 C.2.1 hd (h p e R s m args below meth c cells slots Z C hc hs hZ H locs ls hH hS hL)
theorem g_i2s {x : Int32} (hd : decode (m_c M) pc = .ok (.i2s, 1)) (h : Gp w k bc bs M Q (pc + 1) L (.int (x.toInt16.toInt32) :: st) u) : Gp w k bc bs M Q pc L (.int x :: st) u := by
  intro p e R s m args below meth c cells slots Z C hc hs hZ H locs ls hH hS hL
  exact lv_i2s C.1 C.2.1 hd rfl (h p e R s m args below meth c cells slots Z C hc hs hZ H locs ls hH hS hL)
theorem g_i2c {x : Int32} (hd : decode (m_c M) pc = .ok (.i2c, 1)) (h : Gp w k bc bs M Q (pc + 1) L (.int ((x.toUInt32 % 65536).toInt32) :: st) u) : Gp w k bc bs M Q pc L (.int x :: st) u := by
  intro p e R s m args below meth c cells slots Z C hc hs hZ H locs ls hH hS hL
  exact lv_i2c C.1 C.2.1 hd rfl (h p e R s m args below meth c cells slots Z C hc hs hZ H locs ls hH hS hL)
theorem g_i2b {x : Int32} (hd : decode (m_c M) pc = .ok (.i2b, 1)) (h : Gp w k bc bs M Q (pc + 1) L (.int (x.toInt8.toInt32) :: st) u) : Gp w k bc bs M Q pc L (.int x :: st) u := by
  intro p e R s m args below meth c cells slots Z C hc hs hZ H locs ls hH hS hL
  exact lv_i2b C.1 C.2.1 hd rfl (h p e R s m args below meth c cells slots Z C hc hs hZ H locs ls hH hS hL)
theorem g_iconst {n : Int} (hd : decode (m_c M) pc = .ok (.iconst n, 1)) (h : Gp w k bc bs M Q (pc + 1) L (.int (Int32.ofInt n) :: st) u) : Gp w k bc bs M Q pc L (st) u := by
  intro p e R s m args below meth c cells slots Z C hc hs hZ H locs ls hH hS hL
  exact lv_iconst C.1 C.2.1 hd rfl (h p e R s m args below meth c cells slots Z C hc hs hZ H locs ls hH hS hL)
theorem g_bipush {n : Int} (hd : decode (m_c M) pc = .ok (.bipush n, 2)) (hv : (Int8.ofInt n).toInt32 = Int32.ofInt n) (h : Gp w k bc bs M Q (pc + 2) L (.int (Int32.ofInt n) :: st) u) : Gp w k bc bs M Q pc L (st) u := by
  intro p e R s m args below meth c cells slots Z C hc hs hZ H locs ls hH hS hL
  exact lv_bipush C.1 C.2.1 hd hv (h p e R s m args below meth c cells slots Z C hc hs hZ H locs ls hH hS hL)
theorem g_sipush {n : Int} (hd : decode (m_c M) pc = .ok (.sipush n, 3)) (hv : (Int16.ofInt n).toInt32 = Int32.ofInt n) (h : Gp w k bc bs M Q (pc + 3) L (.int (Int32.ofInt n) :: st) u) : Gp w k bc bs M Q pc L (st) u := by
  intro p e R s m args below meth c cells slots Z C hc hs hZ H locs ls hH hS hL
  exact lv_sipush C.1 C.2.1 hd hv (h p e R s m args below meth c cells slots Z C hc hs hZ H locs ls hH hS hL)
theorem g_ldc {i : Nat} {v : Int32} (hd : decode (m_c M) pc = .ok (.ldc i, 2)) (hw : Cond.constant (m_y M).cls i v ∈ tbG) (h : Gp w k bc bs M Q (pc + 2) L (.int v :: st) u) : Gp w k bc bs M Q pc L (st) u := by
  intro p e R s m args below meth c cells slots Z C hc hs hZ H locs ls hH hS hL
  exact lv_ldc C.1 C.2.1 C.own (C.ts _ hw) hd (h p e R s m args below meth c cells slots Z C hc hs hZ H locs ls hH hS hL)
theorem g_ldcw {i : Nat} {v : Int32} (hd : decode (m_c M) pc = .ok (.ldc_w i, 3)) (hw : Cond.constant (m_y M).cls i v ∈ tbG) (h : Gp w k bc bs M Q (pc + 3) L (.int v :: st) u) : Gp w k bc bs M Q pc L (st) u := by
  intro p e R s m args below meth c cells slots Z C hc hs hZ H locs ls hH hS hL
  exact lv_ldcw C.1 C.2.1 C.own (C.ts _ hw) hd (h p e R s m args below meth c cells slots Z C hc hs hZ H locs ls hH hS hL)
theorem g_iload {i : Nat} {x : Int32} (hd : decode (m_c M) pc = .ok (.iload i, 2)) (hi : L[i]? = some (some (.int x))) (h : Gp w k bc bs M Q (pc + 2) L (.int x :: st) u) : Gp w k bc bs M Q pc L (st) u := by
  intro p e R s m args below meth c cells slots Z C hc hs hZ H locs ls hH hS hL
  exact lv_iload C.1 C.2.1 hd (hL.at hi) (h p e R s m args below meth c cells slots Z C hc hs hZ H locs ls hH hS hL)
theorem g_iload_n {i : Fin 4} {x : Int32} (hd : decode (m_c M) pc = .ok (.iload_n i, 1)) (hi : L[i.val]? = some (some (.int x))) (h : Gp w k bc bs M Q (pc + 1) L (.int x :: st) u) : Gp w k bc bs M Q pc L (st) u := by
  intro p e R s m args below meth c cells slots Z C hc hs hZ H locs ls hH hS hL
  exact lv_iload_n C.1 C.2.1 hd rfl (hL.at hi) (h p e R s m args below meth c cells slots Z C hc hs hZ H locs ls hH hS hL)
theorem g_aload {i : Nat} {x : Nat} (hd : decode (m_c M) pc = .ok (.aload i, 2)) (hi : L[i]? = some (some (.ref x))) (h : Gp w k bc bs M Q (pc + 2) L (.ref x :: st) u) : Gp w k bc bs M Q pc L (st) u := by
  intro p e R s m args below meth c cells slots Z C hc hs hZ H locs ls hH hS hL
  exact lv_aload C.1 C.2.1 hd (hL.at hi) (h p e R s m args below meth c cells slots Z C hc hs hZ H locs ls hH hS hL)
theorem g_aload_n {i : Fin 4} {x : Nat} (hd : decode (m_c M) pc = .ok (.aload_n i, 1)) (hi : L[i.val]? = some (some (.ref x))) (h : Gp w k bc bs M Q (pc + 1) L (.ref x :: st) u) : Gp w k bc bs M Q pc L (st) u := by
  intro p e R s m args below meth c cells slots Z C hc hs hZ H locs ls hH hS hL
  exact lv_aload_n C.1 C.2.1 hd rfl (hL.at hi) (h p e R s m args below meth c cells slots Z C hc hs hZ H locs ls hH hS hL)
theorem g_istore {i : Nat} {x : Int32} (hd : decode (m_c M) pc = .ok (.istore i, 2)) (hi : i < m_n M) (h : Gp w k bc bs M Q (pc + 2) (L.set i (some (.int x))) st u) : Gp w k bc bs M Q pc L (.int x :: st) u := by
  intro p e R s m args below meth c cells slots Z C hc hs hZ H locs ls hH hS hL
  obtain ⟨ls', e1, hL'⟩ := hL.set (v := .int x) hi rfl
  have K := h p e R s m args below meth c cells slots Z C hc hs hZ H locs ls' hH hS hL'
  intro T hT X
  obtain ⟨t, a, b⟩ := K T hT X
  refine ⟨t, ?_, b⟩
  jvm_step X.here [X.here.top, C.1, C.2.1, hd, cv]
  exact ⟨ls', e1, a⟩
theorem g_istore_n {i : Fin 4} {x : Int32} (hd : decode (m_c M) pc = .ok (.istore_n i, 1)) (hi : i.val < m_n M) (h : Gp w k bc bs M Q (pc + 1) (L.set i.val (some (.int x))) st u) : Gp w k bc bs M Q pc L (.int x :: st) u := by
  intro p e R s m args below meth c cells slots Z C hc hs hZ H locs ls hH hS hL
  obtain ⟨ls', e1, hL'⟩ := hL.set (v := .int x) hi rfl
  have K := h p e R s m args below meth c cells slots Z C hc hs hZ H locs ls' hH hS hL'
  intro T hT X
  obtain ⟨t, a, b⟩ := K T hT X
  refine ⟨t, ?_, b⟩
  jvm_step X.here [X.here.top, C.1, C.2.1, hd, cv]
  exact ⟨ls', e1, a⟩
theorem g_astore {i : Nat} {x : Nat} (hd : decode (m_c M) pc = .ok (.astore i, 2)) (hi : i < m_n M) (h : Gp w k bc bs M Q (pc + 2) (L.set i (some (.ref x))) st u) : Gp w k bc bs M Q pc L (.ref x :: st) u := by
  intro p e R s m args below meth c cells slots Z C hc hs hZ H locs ls hH hS hL
  obtain ⟨ls', e1, hL'⟩ := hL.set (v := .ref x) hi rfl
  have K := h p e R s m args below meth c cells slots Z C hc hs hZ H locs ls' hH hS hL'
  intro T hT X
  obtain ⟨t, a, b⟩ := K T hT X
  refine ⟨t, ?_, b⟩
  jvm_step X.here [X.here.top, C.1, C.2.1, hd, cv]
  exact ⟨rfl, ls', e1, a⟩
theorem g_astore_n {i : Fin 4} {x : Nat} (hd : decode (m_c M) pc = .ok (.astore_n i, 1)) (hi : i.val < m_n M) (h : Gp w k bc bs M Q (pc + 1) (L.set i.val (some (.ref x))) st u) : Gp w k bc bs M Q pc L (.ref x :: st) u := by
  intro p e R s m args below meth c cells slots Z C hc hs hZ H locs ls hH hS hL
  obtain ⟨ls', e1, hL'⟩ := hL.set (v := .ref x) hi rfl
  have K := h p e R s m args below meth c cells slots Z C hc hs hZ H locs ls' hH hS hL'
  intro T hT X
  obtain ⟨t, a, b⟩ := K T hT X
  refine ⟨t, ?_, b⟩
  jvm_step X.here [X.here.top, C.1, C.2.1, hd, cv]
  exact ⟨rfl, ls', e1, a⟩
theorem g_iinc {i : Nat} {n : Int} {x : Int32} (hd : decode (m_c M) pc = .ok (.iinc i n, 3)) (hn : i < m_n M) (hi : L[i]? = some (some (.int x))) (h : Gp w k bc bs M Q (pc + 3) (L.set i (some (.int (x + Int32.ofInt n)))) st u) : Gp w k bc bs M Q pc L st u := by
  intro p e R s m args below meth c cells slots Z C hc hs hZ H locs ls hH hS hL
  obtain ⟨ls', e1, hL'⟩ := hL.set (v := .int (x + Int32.ofInt n)) hn rfl
  have K := h p e R s m args below meth c cells slots Z C hc hs hZ H locs ls' hH hS hL'
  have hx := hL.at hi
  intro T hT X
  obtain ⟨t, a, b⟩ := K T hT X
  refine ⟨t, ?_, b⟩
  jvm_step X.here [X.here.top, C.1, C.2.1, hd, hx, cv]
  exact ⟨ls', e1, a⟩
theorem g_dup {v : Value} (hd : decode (m_c M) pc = .ok (.dup, 1)) (hv : v.category = 1) (h : Gp w k bc bs M Q (pc + 1) L (v :: v :: st) u) : Gp w k bc bs M Q pc L (v :: st) u := by
  intro p e R s m args below meth c cells slots Z C hc hs hZ H locs ls hH hS hL
  exact lv_dup C.1 C.2.1 hd (by rw [cv_cat]; exact hv) (h p e R s m args below meth c cells slots Z C hc hs hZ H locs ls hH hS hL)
theorem g_dup2 {a b : Value} (hd : decode (m_c M) pc = .ok (.dup2, 1)) (ha : a.category = 1) (hb : b.category = 1) (h : Gp w k bc bs M Q (pc + 1) L (a :: b :: a :: b :: st) u) : Gp w k bc bs M Q pc L (a :: b :: st) u := by
  intro p e R s m args below meth c cells slots Z C hc hs hZ H locs ls hH hS hL
  exact lv_dup2_11 C.1 C.2.1 hd (by rw [cv_cat]; exact ha) (by rw [cv_cat]; exact hb) (h p e R s m args below meth c cells slots Z C hc hs hZ H locs ls hH hS hL)
theorem g_pop {v : Value} (hd : decode (m_c M) pc = .ok (.pop, 1)) (hv : v.category = 1) (h : Gp w k bc bs M Q (pc + 1) L (st) u) : Gp w k bc bs M Q pc L (v :: st) u := by
  intro p e R s m args below meth c cells slots Z C hc hs hZ H locs ls hH hS hL
  exact lv_pop C.1 C.2.1 hd (by rw [cv_cat]; exact hv) (h p e R s m args below meth c cells slots Z C hc hs hZ H locs ls hH hS hL)
theorem g_goto {off : Int} {tgt : Nat} (hd : decode (m_c M) pc = .ok (.goto off, 3)) (ht : (pc : Int) + off = (tgt : Int)) (h : Gp w k bc bs M Q (tgt) L (st) u) : Gp w k bc bs M Q pc L (st) u := by
  intro p e R s m args below meth c cells slots Z C hc hs hZ H locs ls hH hS hL
  exact lv_goto C.1 C.2.1 hd ht (h p e R s m args below meth c cells slots Z C hc hs hZ H locs ls hH hS hL)
theorem g_if_eq {x : Int32} {off : Int} {tgt : Nat} (hd : decode (m_c M) pc = .ok (.ifCond .eq off, 3)) (ht : (pc : Int) + off = (tgt : Int)) (kt : x = 0 → Gp w k bc bs M Q tgt L st u) (kf : ¬ x = 0 → Gp w k bc bs M Q (pc + 3) L st u) : Gp w k bc bs M Q pc L (.int x :: st) u := by
  intro p e R s m args below meth c cells slots Z C hc hs hZ H locs ls hH hS hL
  exact lv_if_eq C.1 C.2.1 hd ht (fun a => kt a p e R s m args below meth c cells slots Z C hc hs hZ H locs ls hH hS hL) (fun a => kf a p e R s m args below meth c cells slots Z C hc hs hZ H locs ls hH hS hL)
theorem g_icmp_eq {x y : Int32} {off : Int} {tgt : Nat} (hd : decode (m_c M) pc = .ok (.if_icmp .eq off, 3)) (ht : (pc : Int) + off = (tgt : Int)) (kt : x = y → Gp w k bc bs M Q tgt L st u) (kf : ¬ x = y → Gp w k bc bs M Q (pc + 3) L st u) : Gp w k bc bs M Q pc L (.int y :: .int x :: st) u := by
  intro p e R s m args below meth c cells slots Z C hc hs hZ H locs ls hH hS hL
  exact lv_icmp_eq C.1 C.2.1 hd ht (fun a => kt a p e R s m args below meth c cells slots Z C hc hs hZ H locs ls hH hS hL) (fun a => kf a p e R s m args below meth c cells slots Z C hc hs hZ H locs ls hH hS hL)
theorem g_if_ne {x : Int32} {off : Int} {tgt : Nat} (hd : decode (m_c M) pc = .ok (.ifCond .ne off, 3)) (ht : (pc : Int) + off = (tgt : Int)) (kt : ¬ x = 0 → Gp w k bc bs M Q tgt L st u) (kf : x = 0 → Gp w k bc bs M Q (pc + 3) L st u) : Gp w k bc bs M Q pc L (.int x :: st) u := by
  intro p e R s m args below meth c cells slots Z C hc hs hZ H locs ls hH hS hL
  exact lv_if_ne C.1 C.2.1 hd ht (fun a => kt a p e R s m args below meth c cells slots Z C hc hs hZ H locs ls hH hS hL) (fun a => kf a p e R s m args below meth c cells slots Z C hc hs hZ H locs ls hH hS hL)
theorem g_icmp_ne {x y : Int32} {off : Int} {tgt : Nat} (hd : decode (m_c M) pc = .ok (.if_icmp .ne off, 3)) (ht : (pc : Int) + off = (tgt : Int)) (kt : ¬ x = y → Gp w k bc bs M Q tgt L st u) (kf : x = y → Gp w k bc bs M Q (pc + 3) L st u) : Gp w k bc bs M Q pc L (.int y :: .int x :: st) u := by
  intro p e R s m args below meth c cells slots Z C hc hs hZ H locs ls hH hS hL
  exact lv_icmp_ne C.1 C.2.1 hd ht (fun a => kt a p e R s m args below meth c cells slots Z C hc hs hZ H locs ls hH hS hL) (fun a => kf a p e R s m args below meth c cells slots Z C hc hs hZ H locs ls hH hS hL)
theorem g_if_lt {x : Int32} {off : Int} {tgt : Nat} (hd : decode (m_c M) pc = .ok (.ifCond .lt off, 3)) (ht : (pc : Int) + off = (tgt : Int)) (kt : x < 0 → Gp w k bc bs M Q tgt L st u) (kf : ¬ x < 0 → Gp w k bc bs M Q (pc + 3) L st u) : Gp w k bc bs M Q pc L (.int x :: st) u := by
  intro p e R s m args below meth c cells slots Z C hc hs hZ H locs ls hH hS hL
  exact lv_if_lt C.1 C.2.1 hd ht (fun a => kt a p e R s m args below meth c cells slots Z C hc hs hZ H locs ls hH hS hL) (fun a => kf a p e R s m args below meth c cells slots Z C hc hs hZ H locs ls hH hS hL)
theorem g_icmp_lt {x y : Int32} {off : Int} {tgt : Nat} (hd : decode (m_c M) pc = .ok (.if_icmp .lt off, 3)) (ht : (pc : Int) + off = (tgt : Int)) (kt : x < y → Gp w k bc bs M Q tgt L st u) (kf : ¬ x < y → Gp w k bc bs M Q (pc + 3) L st u) : Gp w k bc bs M Q pc L (.int y :: .int x :: st) u := by
  intro p e R s m args below meth c cells slots Z C hc hs hZ H locs ls hH hS hL
  exact lv_icmp_lt C.1 C.2.1 hd ht (fun a => kt a p e R s m args below meth c cells slots Z C hc hs hZ H locs ls hH hS hL) (fun a => kf a p e R s m args below meth c cells slots Z C hc hs hZ H locs ls hH hS hL)
theorem g_if_ge {x : Int32} {off : Int} {tgt : Nat} (hd : decode (m_c M) pc = .ok (.ifCond .ge off, 3)) (ht : (pc : Int) + off = (tgt : Int)) (kt : 0 ≤ x → Gp w k bc bs M Q tgt L st u) (kf : ¬ 0 ≤ x → Gp w k bc bs M Q (pc + 3) L st u) : Gp w k bc bs M Q pc L (.int x :: st) u := by
  intro p e R s m args below meth c cells slots Z C hc hs hZ H locs ls hH hS hL
  exact lv_if_ge C.1 C.2.1 hd ht (fun a => kt a p e R s m args below meth c cells slots Z C hc hs hZ H locs ls hH hS hL) (fun a => kf a p e R s m args below meth c cells slots Z C hc hs hZ H locs ls hH hS hL)
theorem g_icmp_ge {x y : Int32} {off : Int} {tgt : Nat} (hd : decode (m_c M) pc = .ok (.if_icmp .ge off, 3)) (ht : (pc : Int) + off = (tgt : Int)) (kt : y ≤ x → Gp w k bc bs M Q tgt L st u) (kf : ¬ y ≤ x → Gp w k bc bs M Q (pc + 3) L st u) : Gp w k bc bs M Q pc L (.int y :: .int x :: st) u := by
  intro p e R s m args below meth c cells slots Z C hc hs hZ H locs ls hH hS hL
  exact lv_icmp_ge C.1 C.2.1 hd ht (fun a => kt a p e R s m args below meth c cells slots Z C hc hs hZ H locs ls hH hS hL) (fun a => kf a p e R s m args below meth c cells slots Z C hc hs hZ H locs ls hH hS hL)
theorem g_if_gt {x : Int32} {off : Int} {tgt : Nat} (hd : decode (m_c M) pc = .ok (.ifCond .gt off, 3)) (ht : (pc : Int) + off = (tgt : Int)) (kt : 0 < x → Gp w k bc bs M Q tgt L st u) (kf : ¬ 0 < x → Gp w k bc bs M Q (pc + 3) L st u) : Gp w k bc bs M Q pc L (.int x :: st) u := by
  intro p e R s m args below meth c cells slots Z C hc hs hZ H locs ls hH hS hL
  exact lv_if_gt C.1 C.2.1 hd ht (fun a => kt a p e R s m args below meth c cells slots Z C hc hs hZ H locs ls hH hS hL) (fun a => kf a p e R s m args below meth c cells slots Z C hc hs hZ H locs ls hH hS hL)
theorem g_icmp_gt {x y : Int32} {off : Int} {tgt : Nat} (hd : decode (m_c M) pc = .ok (.if_icmp .gt off, 3)) (ht : (pc : Int) + off = (tgt : Int)) (kt : y < x → Gp w k bc bs M Q tgt L st u) (kf : ¬ y < x → Gp w k bc bs M Q (pc + 3) L st u) : Gp w k bc bs M Q pc L (.int y :: .int x :: st) u := by
  intro p e R s m args below meth c cells slots Z C hc hs hZ H locs ls hH hS hL
  exact lv_icmp_gt C.1 C.2.1 hd ht (fun a => kt a p e R s m args below meth c cells slots Z C hc hs hZ H locs ls hH hS hL) (fun a => kf a p e R s m args below meth c cells slots Z C hc hs hZ H locs ls hH hS hL)
theorem g_if_le {x : Int32} {off : Int} {tgt : Nat} (hd : decode (m_c M) pc = .ok (.ifCond .le off, 3)) (ht : (pc : Int) + off = (tgt : Int)) (kt : x ≤ 0 → Gp w k bc bs M Q tgt L st u) (kf : ¬ x ≤ 0 → Gp w k bc bs M Q (pc + 3) L st u) : Gp w k bc bs M Q pc L (.int x :: st) u := by
  intro p e R s m args below meth c cells slots Z C hc hs hZ H locs ls hH hS hL
  exact lv_if_le C.1 C.2.1 hd ht (fun a => kt a p e R s m args below meth c cells slots Z C hc hs hZ H locs ls hH hS hL) (fun a => kf a p e R s m args below meth c cells slots Z C hc hs hZ H locs ls hH hS hL)
theorem g_icmp_le {x y : Int32} {off : Int} {tgt : Nat} (hd : decode (m_c M) pc = .ok (.if_icmp .le off, 3)) (ht : (pc : Int) + off = (tgt : Int)) (kt : x ≤ y → Gp w k bc bs M Q tgt L st u) (kf : ¬ x ≤ y → Gp w k bc bs M Q (pc + 3) L st u) : Gp w k bc bs M Q pc L (.int y :: .int x :: st) u := by
  intro p e R s m args below meth c cells slots Z C hc hs hZ H locs ls hH hS hL
  exact lv_icmp_le C.1 C.2.1 hd ht (fun a => kt a p e R s m args below meth c cells slots Z C hc hs hZ H locs ls hH hS hL) (fun a => kf a p e R s m args below meth c cells slots Z C hc hs hZ H locs ls hH hS hL)
theorem g_tableIn {dflt lo hi : Int} {offs : Array Int} {len : Nat} {x : Int32} {off : Int} {tgt : Nat} (hd : decode (m_c M) pc = .ok (.tableswitch dflt lo hi offs, len)) (h1 : ¬ x.toInt < lo) (h2 : ¬ hi < x.toInt) (ho : offs[(x.toInt - lo).toNat]? = some off) (ht : (pc : Int) + off = (tgt : Int)) (h : Gp w k bc bs M Q (tgt) L (st) u) : Gp w k bc bs M Q pc L (.int x :: st) u := by
  intro p e R s m args below meth c cells slots Z C hc hs hZ H locs ls hH hS hL
  exact lv_tableIn C.1 C.2.1 hd h1 h2 ho ht (h p e R s m args below meth c cells slots Z C hc hs hZ H locs ls hH hS hL)
theorem g_tableOut {dflt lo hi : Int} {offs : Array Int} {len : Nat} {x : Int32} {tgt : Nat} (hd : decode (m_c M) pc = .ok (.tableswitch dflt lo hi offs, len)) (h1 : x.toInt < lo ∨ hi < x.toInt) (ht : (pc : Int) + dflt = (tgt : Int)) (h : Gp w k bc bs M Q (tgt) L (st) u) : Gp w k bc bs M Q pc L (.int x :: st) u := by
  intro p e R s m args below meth c cells slots Z C hc hs hZ H locs ls hH hS hL
  exact lv_tableOut C.1 C.2.1 hd h1 ht (h p e R s m args below meth c cells slots Z C hc hs hZ H locs ls hH hS hL)
theorem g_lookup {dflt : Int} {ps : Array (Int × Int)} {len : Nat} {x : Int32} {off : Int} {tgt : Nat} (hd : decode (m_c M) pc = .ok (.lookupswitch dflt ps, len)) (hp : (ps.toList.zip (ps.toList.drop 1)).all (fun (a, next) => a.1 < next.1) = true) (ho : Op.lookupswitch.offset ps.toList dflt x.toInt = off) (ht : (pc : Int) + off = (tgt : Int)) (h : Gp w k bc bs M Q (tgt) L (st) u) : Gp w k bc bs M Q pc L (.int x :: st) u := by
  intro p e R s m args below meth c cells slots Z C hc hs hZ H locs ls hH hS hL
  exact lv_lookup C.1 C.2.1 hd hp ho ht (h p e R s m args below meth c cells slots Z C hc hs hZ H locs ls hH hS hL)
theorem g_iret {x : Int32} {ty : FieldType} (hr : m_r M = some ty) (hn : narrow ty (.int x) = .int x) (hd : decode (m_c M) pc = .ok (.ireturn, 1)) (h : Q (some (.int x)) u) : Gp w k 0 0 M Q pc L [.int x] u := by
  intro p e R s m args below meth c cells slots Z C hc hs hZ H locs ls hH hS hL
  exact hZ (some (.int x)) u H locs pc ls .ireturn (Or.inr (Or.inl ⟨x, ty, rfl, hr, hn, rfl⟩)) hd h hH hS
theorem g_aret {x : Nat} {ty : FieldType} (hr : m_r M = some ty) (hn : (∃ n, ty = .object n) ∨ ∃ t, ty = .array t) (hd : decode (m_c M) pc = .ok (.areturn, 1)) (h : Q (some (.ref x)) u) : Gp w k 0 0 M Q pc L [.ref x] u := by
  intro p e R s m args below meth c cells slots Z C hc hs hZ H locs ls hH hS hL
  exact hZ (some (.ref x)) u H locs pc ls .areturn (Or.inr (Or.inr ⟨x, ty, rfl, hr, hn, rfl⟩)) hd h hH hS
theorem g_vret (hr : m_r M = none) (hd : decode (m_c M) pc = .ok (.return_, 1)) (h : Q none u) : Gp w k 0 0 M Q pc L [] u := by
  intro p e R s m args below meth c cells slots Z C hc hs hZ H locs ls hH hS hL
  exact hZ none u H locs pc ls .return_ (Or.inl ⟨rfl, hr, rfl⟩) hd h hH hS
theorem Gp.mono {k' : Nat} (hk : k' ≤ k) (h : Gp w k' bc bs M Q pc L st u) : Gp w k bc bs M Q pc L st u := by
  intro p e R s m args below meth c cells slots Z C hc hs hZ H locs ls hH hS hL
  obtain ⟨c1, c2, c3, c4, c5, c6, c7, c8, c9, c10, c11⟩ := C
  exact h p e R s m args below meth c cells slots Z ⟨c1, c2, c3, c4, c5, c6, c7, c8, c9, by omega, by omega⟩ hc hs hZ H locs ls hH hS hL
theorem Gp.imp {Q' : Option Value → Mu → Prop} (hq : ∀ r v, Q' r v → Q r v) (h : Gp w k bc bs M Q' pc L st u) : Gp w k bc bs M Q pc L st u := by
  intro p e R s m args below meth c cells slots Z C hc hs hZ H locs ls hH hS hL
  exact h p e R s m args below meth c cells slots Z C hc hs (fun r u' H' locs' pc' ls' i a1 a2 a3 a4 a5 => hZ r u' H' locs' pc' ls' i a1 a2 (hq r u' a3) a4 a5) H locs ls hH hS hL
theorem Gp.more {bc' bs' : Nat} (h1 : bc' ≤ bc) (h2 : bs' ≤ bs) (h : Gp w k bc' bs' M Q pc L st u) : Gp w k bc bs M Q pc L st u := by
  intro p e R s m args below meth c cells slots Z C hc hs hZ H locs ls hH hS hL
  exact h p e R s m args below meth c cells slots Z C (by omega) (by omega) (fun r u' H' locs' pc' ls' i a1 a2 a3 a4 a5 => W.widen (by omega) (by omega) (hZ r u' H' locs' pc' ls' i a1 a2 a3 a4 a5)) H locs ls hH hS hL
end G1
