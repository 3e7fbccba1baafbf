/-! the class's reader: keys, names, numbers, what is put -/
theorem klc : ∀ u, u < 3 → cLen.getD u 0 = kln u := by decide
theorem chk3 : ∀ u, u < 3 → ∀ i, i < 5 → i < kln u → chF u i = nI (kyC (3 * u + i)) := by decide
theorem kln4 (u : Nat) : kln u ≤ 4 ∧ 0 < kln u := by unfold kln; split <;> omega
theorem i2cb : ∀ b, b < 256 → ((nI b).toUInt32 % 65536).toInt32 = nI b := by decide +kernel
theorem sg_ix : ∀ b, b < 256 → ∀ lv, lv < 5 → (¬ sxF (3 + lv) b < 0 ↔ (¬ sgV (nI b) = 0 ∧ rkF (sgV (nI b)) = lv + 1)) := by decide +kernel
theorem nm_ix : ∀ b, b < 256 → ∀ key, key < 3 → sxF (8 + key) b = nmI key (nI b) := by decide +kernel
theorem nm_in : ∀ b, b < 256 → ∀ key, key < 3 → nI 0 ≤ nmI key (nI b) → nI 10000 + nmI key (nI b) < nI (10000 + nmF key) ∧ nI 0 ≤ nI 10000 + nmI key (nI b) := by decide +kernel
theorem sg_in : ∀ b, b < 256 → ¬ sgV (nI b) = 0 → Int32.ofInt (-9) ≤ sgV (nI b) ∧ sgV (nI b) < 0 ∧ 1 ≤ rkF (sgV (nI b)) ∧ rkF (sgV (nI b)) ≤ 5 ∧ enC (sgV (nI b)) = nI 20000 + nI b := by decide +kernel
noncomputable def kvF (T : Vc) (l : Lx) : Int32 := match keF T l with
  | none => Int32.ofInt (-1)
  | some v => nI v
theorem kv0 {T : Vc} {l : Lx} (h : keF T l = none) : kvF T l = Int32.ofInt (-1) := by unfold kvF; rw [h]
theorem kv1 {T : Vc} {l : Lx} {v : Nat} (h : keF T l = some v) : kvF T l = nI v := by unfold kvF; rw [h]
def CC (h : Mm) (C : List Int32) : Prop := h 8 11 = nI C.length ∧ ∀ k, k < C.length → h 10 k = enC (gC C k)
def Fq (h h' : Mm) : Prop := (∀ a, a ≠ 8 → a ≠ 10 → h' a = h a) ∧ ∀ j, j ∉ [2, 3, 4, 5, 6, 7, 9, 11] → h' 8 j = h 8 j
theorem Fq.rf {h : Mm} : Fq h h := ⟨fun _ _ _ => rfl, fun _ _ => rfl⟩
theorem Fq.tr {a b c : Mm} (x : Fq a b) (y : Fq b c) : Fq a c := ⟨fun q h1 h2 => (y.1 q h1 h2).trans (x.1 q h1 h2), fun j hj => (y.2 j hj).trans (x.2 j hj)⟩
theorem Fq.u8 {h : Mm} {k : Nat} {x : Int32} (hk : k ∈ [2, 3, 4, 5, 6, 7, 9, 11]) : Fq h (up h 8 k x) := ⟨fun a h1 _ => upN h1, fun j hj => uN (fun e => hj (e ▸ hk))⟩
theorem Fq.f8 {h h' : Mm} (x : F8 [2, 3, 4, 5] h h') : Fq h h' := ⟨fun a h1 _ => x.1 a h1, fun j hj => x.2 j (fun q => hj (by simp at q ⊢; omega))⟩
def Cs (n : Nat) (T : Vc) (key : Nat) (h : Mm) (l : Lx) (a : Nat) (C : List Int32) : Prop := h 9 = T ∧ h 8 1 = nI n ∧ h 8 8 = nI key ∧ Cl h l ∧ h 8 9 = nI a ∧ CC h C
theorem CC.of {h h' : Mm} {C : List Int32} (hC : CC h C) (e : h' 8 11 = h 8 11) (e10 : h' 10 = h 10) : CC h' C := ⟨by rw [e]; exact hC.1, by rw [e10]; exact hC.2⟩
theorem Cs.nx {n key a : Nat} {T : Vc} {h h' : Mm} {l l' : Lx} {C : List Int32} (hC : Cs n T key h l a C) (hF : F8 [2, 3, 4, 5] h h') (hl : Cl h' l') : Cs n T key h' l' a C := by
  obtain ⟨a1, a2, a3, a4, a5, a6⟩ := hC
  exact ⟨by rw [hF.1 9 (by decide)]; exact a1, by rw [hF.2 1 (by decide)]; exact a2, by rw [hF.2 8 (by decide)]; exact a3, hl, by rw [hF.2 9 (by decide)]; exact a5, a6.of (hF.2 11 (by decide)) (hF.1 10 (by decide))⟩
theorem Cs.u {n key a j : Nat} {x : Int32} {T : Vc} {h : Mm} {l : Lx} {C : List Int32} (hC : Cs n T key h l a C) (hj : j = 6 ∨ j = 7) : Cs n T key (up h 8 j x) l a C := by
  obtain ⟨a1, a2, a3, ⟨b1, b2, b3, b4⟩, a5, a6⟩ := hC
  exact ⟨by rw [upN (by decide)]; exact a1, by rw [uN (by omega)]; exact a2, by rw [uN (by omega)]; exact a3, ⟨by rw [uN (by omega)]; exact b1, by rw [uN (by omega)]; exact b2, by rw [uN (by omega)]; exact b3, by rw [uN (by omega)]; exact b4⟩, by rw [uN (by omega)]; exact a5, a6.of (uN (by omega)) (upN (by decide))⟩
/-- bytes, and a word's bytes -/
def Bt (n : Nat) (T : Vc) : Prop := ∀ j, j < n → In (T j) 255
def Lz (n : Nat) (T : Vc) (l : Lx) : Prop := ∃ l0 : Lx, l0.e ≤ n ∧ l = lxN n T l0
theorem Lz.lg {n : Nat} {T : Vc} {l : Lx} (h : Lz n T l) : Lg n l := by obtain ⟨l0, h1, rfl⟩ := h; exact (lxN_Lg h1).1
theorem Lz.fig {n : Nat} {T : Vc} {l : Lx} (h : Lz n T l) (h2 : l.k = 2) {j : Nat} (h3 : l.s ≤ j) (h4 : j < l.e) : nI 48 ≤ T j ∧ T j ≤ nI 57 := by
  obtain ⟨l0, h1, rfl⟩ := h
  unfold lxN at *
  generalize skF n T l0.e = s at *
  have h2 : srt n T s = 2 := h2
  have h4 : j < enF n T s := h4
  have h3 : s ≤ j := h3
  unfold enF at h4
  rw [h2] at h4
  exact (fgB_iff.mp (fw_in _ _ _ h3 h4)).2
theorem Lz.sgn {n : Nat} {T : Vc} {l : Lx} (h : Lz n T l) : (l.k = 3 → ¬ (nI 97 ≤ T l.s ∧ T l.s ≤ nI 122)) := by
  obtain ⟨l0, h1, rfl⟩ := h
  unfold lxN
  generalize skF n T l0.e = s at *
  intro h3 q
  have h3 : srt n T s = 3 := h3
  by_cases hs : s < n
  · rw [srt_lt (ltB_iff.mpr ⟨hs, q⟩)] at h3; omega
  · rw [srt_le (by omega)] at h3; omega
theorem nuF_in {T : Vc} {s : Nat} : ∀ m, m ≤ 4 → (∀ j, j < m → nI 48 ≤ T (s + j) ∧ T (s + j) ≤ nI 57) → ∃ v, v < 10 ^ m ∧ nuF T s m = nI v
  | 0, _, _ => ⟨0, by decide, rfl⟩
  | m + 1, hm, h => by
    obtain ⟨v, hv, e⟩ := nuF_in m (by omega) (fun j hj => h j (by omega))
    obtain ⟨h1, h2⟩ := h m (by omega)
    have hi : In (T (s + m)) 57 := In_of (by omega) (Int32.le_trans (show nI 0 ≤ nI 48 by decide) h1) h2
    rw [hi.1, nI_leI (by omega) (by have := hi.2; omega)] at h1
    have hp : 10 ^ m ≤ 10 ^ 3 := Nat.pow_le_pow_right (by omega) (by omega)
    refine ⟨10 * v + (nN (T (s + m)) - 48), ?_, ?_⟩
    · rw [Nat.pow_succ]; have := hi.2; omega
    · rw [nuF, e, mulI, hi.1, nN_nI (by have := hi.2; omega), nI_add, nIs (by omega)]
      congr 1
      omega
theorem lf_in {n key : Nat} {T : Vc} {l : Lx} {x : Int32} (hz : Lz n T l) (hB : Bt n T) (hkey : key < 3) (h : lfF T key l = some x) : nI 0 ≤ x ∧ x < nI (10000 + nmF key) := by
  have hg := hz.lg
  unfold lfF at h
  by_cases h2 : tkF l = 2
  · rw [if_pos h2] at h
    cases h
    have hk := tk2 h2
    unfold vaF
    rw [if_pos hk]
    obtain ⟨v, hv, e⟩ := nuF_in (T := T) (s := l.s) (min (l.e - l.s) 4) (by omega) (fun j hj => hz.fig hk (by omega) (by omega))
    have hp : 10 ^ (min (l.e - l.s) 4) ≤ 10 ^ 4 := Nat.pow_le_pow_right (by omega) (by omega)
    rw [e, nI_leI (by omega) (by omega), nI_ltI (by omega) (by unfold nmF; split <;> omega)]
    omega
  · rw [if_neg h2] at h
    split at h
    · rename_i hc
      cases h
      have hk := tk1 hc.1
      have hb := hB l.s (by have := hg.2.2.1; omega)
      have q := nm_in (nN (T l.s)) (by have := hb.2; omega) key hkey (by rw [← hb.1]; exact hc.2.2)
      rw [← hb.1] at q
      exact ⟨q.2, q.1⟩
    · cases h
set_option maxRecDepth 20000 in
set_option maxHeartbeats 4000000 in
theorem isHere_ok (w : Wt) {k : Nat} (hk : 8 ≤ k) (n : Nat) (hn : n ≤ 96) (l : Lx) (hg : Lg n l) (h : Mm) (e1 : h 8 1 = nI n) (hl : Cl h l) (u : Nat) (hu : u < 3) : Ok w k MX3_isHere [.ref 8, .ref (1010 + u)] h (Rv (bI (kmP (h 9) l u)) h) := by
  show Wp w k MX3_isHere _ 0 [some (.ref 8), some (.ref (1010 + u)), none] [] h
  obtain ⟨g1, g2, g3, g4, g5, g6⟩ := hg
  have k4 := kln4 u
  refine p_run (pc' := 10) [.aload_n 0, .getfield 45, .aload_n 0, .getfield 32, .isub, .aload_n 1] mkX3_isHere (by decide +kernel) rfl rfl ?_
  rw [hl.2.2.1, hl.2.1, nIs g2]
  refine p_callC (i := u) (by omega) (length_ok w (k := k - 1) (by omega) u (by omega) h) kcX3_84 (by decide +kernel) (by omega) rfl rfl rfl rfl rfl ?_
  rw [klc u hu]
  refine p_icmp_eq (off := 5) 18 (by decide +kernel) (by decide) (fun cq1 => ?_) (fun cq1 => ?_)
  · rw [nI_eq (by omega) (by omega)] at cq1
    refine p_run (pc' := 20) [.iconst 0, .istore_n 2] mkX3_isHere (by decide +kernel) rfl rfl ?_
    refine Wp.for (kln u) (fun i L hh => L = [some (.ref 8), some (.ref (1010 + u)), some (.int (nI i))] ∧ (h = hh ∧ ∀ j, j < i → h 9 (l.s + j) = nI (kyC (3 * u + j)))) ?_ ?_ (0) (by omega) _ _ ?_
    · rintro i L hh hi ⟨rfl, hJ⟩ ih
      obtain ⟨rfl, hJ1⟩ := hJ
      refine p_run (pc' := 22) [.iload_n 2, .aload_n 1] mkX3_isHere (by decide +kernel) rfl rfl ?_
      refine p_callC (i := u) (by omega) (length_ok w (k := k - 1) (by omega) u (by omega) h) kcX3_84 (by decide +kernel) (by omega) rfl rfl rfl rfl rfl ?_
      rw [klc u hu]
      refine p_icmp_ge (off := 29) 54 (by decide +kernel) (by decide) (fun cqh => ?_) (fun cqh => ?_)
      · exact absurd cqh (nI_ge (by omega) (by omega))
      · refine p_run (pc' := 35) [.aload_n 0, .aload_n 0, .getfield 32, .iload_n 2, .iadd] mkX3_isHere (by decide +kernel) rfl rfl ?_
        rw [hl.2.1, nI_add]
        refine p_callVv (byteAt_ok w (k := k - 1) n (l.s + i) hn (by omega) h e1) kvX3_60 (by decide +kernel) (by decide) rfl (by omega) rfl rfl rfl rfl rfl ?_
        rw [show byA n (h 9) (l.s + i) = h 9 (l.s + i) from if_pos (by omega)]
        refine p_run (pc' := 40) [.aload_n 1, .iload_n 2] mkX3_isHere (by decide +kernel) rfl rfl ?_
        refine p_callC (i := u) (by omega) (charAt_ok w (k := k - 1) (by omega) u i (by omega) (by rw [klc u hu]; exact hi) h) kcX3_88 (by decide +kernel) (by omega) rfl rfl rfl rfl rfl ?_
        rw [chk3 u hu i (by omega) hi]
        refine p_icmp_eq (off := 5) 48 (by decide +kernel) (by decide) (fun cq3 => ?_) (fun cq3 => ?_)
        · refine p_run (pc' := 20) [.iinc 2 1, .goto (-31)] mkX3_isHere (by decide +kernel) rfl rfl ?_
          exact ih _ _ ⟨by rw [show nI i + Int32.ofInt 1 = nI (i + 1) by simp only [oI, nI_add]], rfl, fun j hj => (Classical.em (j = i)).elim (fun e => by rw [e]; exact cq3) (fun e => hJ1 j (by omega))⟩
        · refine p_run (pc' := 47) [.iconst 0] mkX3_isHere (by decide +kernel) rfl rfl ?_
          refine p_iret rfl rfl (by decide +kernel) ?_
          exact ⟨by rw [bIf (fun q => cq3 (q.2 i hi))]; rfl, rfl⟩
    · rintro L hh ⟨rfl, hJ⟩
      obtain ⟨rfl, hJ1⟩ := hJ
      refine p_run (pc' := 22) [.iload_n 2, .aload_n 1] mkX3_isHere (by decide +kernel) rfl rfl ?_
      refine p_callC (i := u) (by omega) (length_ok w (k := k - 1) (by omega) u (by omega) h) kcX3_84 (by decide +kernel) (by omega) rfl rfl rfl rfl rfl ?_
      rw [klc u hu]
      refine p_icmp_ge (off := 29) 54 (by decide +kernel) (by decide) (fun cqh => ?_) (fun cqh => ?_)
      · refine p_run (pc' := 55) [.iconst 1] mkX3_isHere (by decide +kernel) rfl rfl ?_
        refine p_iret rfl rfl (by decide +kernel) ?_
        exact ⟨by rw [bIt ⟨cq1, hJ1⟩]; rfl, rfl⟩
      · exact absurd (nI_le (Nat.le_refl _) (by omega)) cqh
    · exact ⟨rfl, rfl, fun j hj => by omega⟩
  · rw [nI_eq (by omega) (by omega)] at cq1
    refine p_run (pc' := 17) [.iconst 0] mkX3_isHere (by decide +kernel) rfl rfl ?_
    refine p_iret rfl rfl (by decide +kernel) ?_
    exact ⟨by rw [bIf (fun q => cq1 q.1)]; rfl, rfl⟩
set_option maxRecDepth 20000 in
set_option maxHeartbeats 4000000 in
theorem keyHere_ok (w : Wt) {k : Nat} (hk : 9 ≤ k) (n : Nat) (hn : n ≤ 96) (l : Lx) (hg : Lg n l) (h : Mm) (e1 : h 8 1 = nI n) (hl : Cl h l) (tk : l.k = 1 → tkF l = 1) : Ok w k MX3_keyHere [.ref 8] h (Rv (kvF (h 9) l) h) := by
  show Wp w k MX3_keyHere _ 0 [some (.ref 8)] [] h
  refine p_run (pc' := 5) [.aload_n 0, .getfield 42, .iconst 1] mkX3_keyHere (by decide +kernel) rfl rfl ?_
  rw [hl.1]
  refine p_icmp_eq (off := 5) 10 (by decide +kernel) (by decide) (fun cq1 => ?_) (fun cq1 => ?_)
  · have h1 : l.k = 1 := (nI_eq (by have := hg.2.2.2.2.2; omega) (by omega)).mp cq1
    refine p_run (pc' := 11) [.aload_n 0] mkX3_keyHere (by decide +kernel) rfl rfl ?_
    refine p_ldcS 0 74 "dig" (by decide) rfl (by decide +kernel) ?_
    refine p_callVv (isHere_ok w (k := k - 1) (by omega) n hn l hg h e1 hl 0 (by omega)) kvX3_76 (by decide +kernel) (by decide) rfl (by omega) rfl rfl rfl rfl rfl ?_
    refine p_if_eq (off := 5) 21 (by decide +kernel) (by decide) (fun cqk0 => ?_) (fun cqk0 => ?_)
    · refine p_run (pc' := 22) [.aload_n 0] mkX3_keyHere (by decide +kernel) rfl rfl ?_
      refine p_ldcS 1 80 "fee" (by decide) rfl (by decide +kernel) ?_
      refine p_callVv (isHere_ok w (k := k - 1) (by omega) n hn l hg h e1 hl 1 (by omega)) kvX3_76 (by decide +kernel) (by decide) rfl (by omega) rfl rfl rfl rfl rfl ?_
      refine p_if_eq (off := 5) 32 (by decide +kernel) (by decide) (fun cqk1 => ?_) (fun cqk1 => ?_)
      · refine p_run (pc' := 33) [.aload_n 0] mkX3_keyHere (by decide +kernel) rfl rfl ?_
        refine p_ldcS 2 82 "fine" (by decide) rfl (by decide +kernel) ?_
        refine p_callVv (isHere_ok w (k := k - 1) (by omega) n hn l hg h e1 hl 2 (by omega)) kvX3_76 (by decide +kernel) (by decide) rfl (by omega) rfl rfl rfl rfl rfl ?_
        refine p_if_eq (off := 7) 45 (by decide +kernel) (by decide) (fun cqk2 => ?_) (fun cqk2 => ?_)
        · refine p_run (pc' := 46) [.iconst (-1)] mkX3_keyHere (by decide +kernel) rfl rfl ?_
          refine p_iret rfl rfl (by decide +kernel) ?_
          exact ⟨by rw [kv0 (ke4 (tk h1) (bI0.mp cqk0) (bI0.mp cqk1) (bI0.mp cqk2))], rfl⟩
        · refine p_run (pc' := 46) [.iconst 2, .goto 4] mkX3_keyHere (by decide +kernel) rfl rfl ?_
          refine p_iret rfl rfl (by decide +kernel) ?_
          exact ⟨by rw [kv1 (ke3 (tk h1) (bI0.mp cqk0) (bI0.mp cqk1) (bI1.mp cqk2))]; rfl, rfl⟩
      · refine p_run (pc' := 31) [.iconst 1] mkX3_keyHere (by decide +kernel) rfl rfl ?_
        refine p_iret rfl rfl (by decide +kernel) ?_
        exact ⟨by rw [kv1 (ke2 (tk h1) (bI0.mp cqk0) (bI1.mp cqk1))]; rfl, rfl⟩
    · refine p_run (pc' := 20) [.iconst 0] mkX3_keyHere (by decide +kernel) rfl rfl ?_
      refine p_iret rfl rfl (by decide +kernel) ?_
      exact ⟨by rw [kv1 (ke1 (tk h1)  (bI1.mp cqk0))]; rfl, rfl⟩
  · refine p_run (pc' := 9) [.iconst (-1)] mkX3_keyHere (by decide +kernel) rfl rfl ?_
    refine p_iret rfl rfl (by decide +kernel) ?_
    exact ⟨by rw [kv0 (ke0 (fun q => cq1 (by rw [tk1 q]; rfl)))], rfl⟩
set_option maxRecDepth 20000 in
set_option maxHeartbeats 4000000 in
theorem number_ok (w : Wt) {k : Nat} (hk : 1 ≤ k) (n : Nat) (hn : n ≤ 96) (l : Lx) (hg : Lg n l) (h : Mm) (e1 : h 8 1 = nI n) (hl : Cl h l) : Ok w k MX3_number [.ref 8] h (Rv (if 4 < l.e - l.s then Int32.ofInt (-1) else nuF (h 9) l.s (l.e - l.s)) h) := by
  show Wp w k MX3_number _ 0 [some (.ref 8), none, none] [] h
  obtain ⟨g1, g2, g3, g4, g5, g6⟩ := hg
  refine p_run (pc' := 10) [.aload_n 0, .getfield 45, .aload_n 0, .getfield 32, .isub, .iconst 4] mkX3_number (by decide +kernel) rfl rfl ?_
  rw [hl.2.2.1, hl.2.1, nIs g2]
  refine p_icmp_le (off := 5) 15 (by decide +kernel) (by decide) (fun cq1 => ?_) (fun cq1 => ?_)
  · rw [oI, nI_leI (by omega) (by omega)] at cq1
    refine p_run (pc' := 22) [.iconst 0, .istore_n 1, .aload_n 0, .getfield 32, .istore_n 2] mkX3_number (by decide +kernel) rfl rfl ?_
    rw [hl.2.1]
    refine Wp.for (l.e - l.s) (fun i L hh => L = [some (.ref 8), some (.int (nuF (h 9) l.s i)), some (.int (nI (l.s + i)))] ∧ h = hh) ?_ ?_ (0) (by omega) _ _ ?_
    · rintro i L hh hi ⟨rfl, hJ⟩ ih
      subst hJ
      refine p_run (pc' := 27) [.iload_n 2, .aload_n 0, .getfield 45] mkX3_number (by decide +kernel) rfl rfl ?_
      rw [hl.2.2.1]
      refine p_icmp_ge (off := 23) 50 (by decide +kernel) (by decide) (fun cqh => ?_) (fun cqh => ?_)
      · exact absurd cqh (nI_ge (by omega) (by omega))
      · refine p_run (pc' := 36) [.iload_n 1, .bipush 10, .imul, .aload_n 0, .iload_n 2] mkX3_number (by decide +kernel) rfl rfl ?_
        refine p_callVv (byteAt_ok w (k := k - 1) n (l.s + i) hn (by omega) h e1) kvX3_60 (by decide +kernel) (by decide) rfl (by omega) rfl rfl rfl rfl rfl ?_
        rw [show byA n (h 9) (l.s + i) = h 9 (l.s + i) from if_pos (by omega)]
        refine p_run (pc' := 22) [.iadd, .bipush 48, .isub, .istore_n 1, .iinc 2 1, .goto (-25)] mkX3_number (by decide +kernel) rfl rfl ?_
        exact ih _ _ ⟨by rw [show nI (l.s + i) + Int32.ofInt 1 = nI (l.s + (i + 1)) from nI_add _ _, nuF, Int32.mul_comm]; rfl, rfl⟩
    · rintro L hh ⟨rfl, hJ⟩
      subst hJ
      refine p_run (pc' := 27) [.iload_n 2, .aload_n 0, .getfield 45] mkX3_number (by decide +kernel) rfl rfl ?_
      rw [hl.2.2.1]
      refine p_icmp_ge (off := 23) 50 (by decide +kernel) (by decide) (fun cqh => ?_) (fun cqh => ?_)
      · refine p_run (pc' := 51) [.iload_n 1] mkX3_number (by decide +kernel) rfl rfl ?_
        refine p_iret rfl rfl (by decide +kernel) ?_
        exact ⟨by rw [if_neg (by omega)], rfl⟩
      · exact absurd (nI_le (by omega) (by omega)) cqh
    · exact ⟨rfl, rfl⟩
  · rw [oI, nI_leI (by omega) (by omega)] at cq1
    refine p_run (pc' := 14) [.iconst (-1)] mkX3_number (by decide +kernel) rfl rfl ?_
    refine p_iret rfl rfl (by decide +kernel) ?_
    exact ⟨by rw [if_pos (by omega)], rfl⟩
set_option maxRecDepth 20000 in
set_option maxHeartbeats 4000000 in
theorem namesOf_ok (w : Wt) {k : Nat} (key : Nat) (hkey : key < 3) (h : Mm) : Ok w k MX3_namesOf [.int (nI key)] h (fun r h' => r = some (.ref (1010 + (8 + key))) ∧ h' = h) := by
  show Wp w k MX3_namesOf _ 0 [some (.int (nI key))] [] h
  refine p_run (pc' := 1) [.iload_n 0] mkX3_namesOf (by decide +kernel) rfl rfl ?_
  by_cases zq0 : nI key = Int32.ofInt (0)
  · refine p_lookup (dflt := 33) (ps := #[(0, 27), (1, 30)]) (len := 27) (off := 27) 28 (by decide +kernel) (by decide) (by rw [zq0]; rfl) (by decide) ?_
    have ek : key = 0 := nI_case (by omega) (by omega) zq0
    subst ek
    refine p_ldcS 8 138 "fran" (by decide) rfl (by decide +kernel) ?_
    refine p_aret rfl (Or.inl ⟨_, rfl⟩) (by decide +kernel) ?_
    exact ⟨rfl, rfl⟩
  · by_cases zq1 : nI key = Int32.ofInt (1)
    · refine p_lookup (dflt := 33) (ps := #[(0, 27), (1, 30)]) (len := 27) (off := 30) 31 (by decide +kernel) (by decide) (by rw [zq1]; rfl) (by decide) ?_
      have ek : key = 1 := nI_case (by omega) (by omega) zq1
      subst ek
      refine p_ldcS 9 140 "mh" (by decide) rfl (by decide +kernel) ?_
      refine p_aret rfl (Or.inl ⟨_, rfl⟩) (by decide +kernel) ?_
      exact ⟨rfl, rfl⟩
    · refine p_lookup (dflt := 33) (ps := #[(0, 27), (1, 30)]) (len := 27) (off := 33) 34 (by decide +kernel) (by decide) (by show Op.lookupswitch.offset [(0, 27), (1, 30)] _ _ = _; rw [Op.lookupswitch.offset_cons, if_neg (tI_ne rfl zq0), Op.lookupswitch.offset_cons, if_neg (tI_ne rfl zq1), Op.lookupswitch.offset_nil]) (by decide) ?_
      have ek : key = 2 := by have h0 : ¬ key = 0 := fun q => zq0 (by rw [q]; rfl); have h1 : ¬ key = 1 := fun q => zq1 (by rw [q]; rfl); omega
      subst ek
      refine p_ldcS 10 142 "fc" (by decide) rfl (by decide +kernel) ?_
      refine p_aret rfl (Or.inl ⟨_, rfl⟩) (by decide +kernel) ?_
      exact ⟨rfl, rfl⟩
set_option maxRecDepth 20000 in
set_option maxHeartbeats 4000000 in
theorem signsOf_ok (w : Wt) {k : Nat} (lv : Nat) (hlv : lv < 5) (h : Mm) : Ok w k MX3_signsOf [.int (nI lv)] h (fun r h' => r = some (.ref (1010 + (3 + lv))) ∧ h' = h) := by
  show Wp w k MX3_signsOf _ 0 [some (.int (nI lv))] [] h
  refine p_run (pc' := 1) [.iload_n 0] mkX3_signsOf (by decide +kernel) rfl rfl ?_
  refine p_table (dflt := 43) (lo := 0) (hi := 3) (offs := #[31, 34, 37, 40]) (len := 31) (by decide +kernel) (by decide) (fun j hj hx => ?_) (fun hx => ?_)
  · match j, hj, hx with
    | 0, _, hx =>
      have hx : nI lv = Int32.ofInt (0) := hx
      refine ⟨31, 32, rfl, rfl, ?_⟩
      have ek : lv = 0 := nI_case (by omega) (by omega) hx
      subst ek
      refine p_ldcS 3 119 "|" (by decide) rfl (by decide +kernel) ?_
      refine p_aret rfl (Or.inl ⟨_, rfl⟩) (by decide +kernel) ?_
      exact ⟨rfl, rfl⟩
    | 1, _, hx =>
      have hx : nI lv = Int32.ofInt (1) := hx
      refine ⟨34, 35, rfl, rfl, ?_⟩
      have ek : lv = 1 := nI_case (by omega) (by omega) hx
      subst ek
      refine p_ldcS 4 121 "&" (by decide) rfl (by decide +kernel) ?_
      refine p_aret rfl (Or.inl ⟨_, rfl⟩) (by decide +kernel) ?_
      exact ⟨rfl, rfl⟩
    | 2, _, hx =>
      have hx : nI lv = Int32.ofInt (2) := hx
      refine ⟨37, 38, rfl, rfl, ?_⟩
      have ek : lv = 2 := nI_case (by omega) (by omega) hx
      subst ek
      refine p_ldcS 5 123 "<=>" (by decide) rfl (by decide +kernel) ?_
      refine p_aret rfl (Or.inl ⟨_, rfl⟩) (by decide +kernel) ?_
      exact ⟨rfl, rfl⟩
    | 3, _, hx =>
      have hx : nI lv = Int32.ofInt (3) := hx
      refine ⟨40, 41, rfl, rfl, ?_⟩
      have ek : lv = 3 := nI_case (by omega) (by omega) hx
      subst ek
      refine p_ldcS 6 125 "+-" (by decide) rfl (by decide +kernel) ?_
      refine p_aret rfl (Or.inl ⟨_, rfl⟩) (by decide +kernel) ?_
      exact ⟨rfl, rfl⟩
    | j + 4, hj, _ => exact absurd hj (by simp)
  · refine ⟨44, rfl, ?_⟩
    rw [nI_toInt (by omega)] at hx
    have ek : lv = 4 := by omega
    subst ek
    refine p_ldcS 7 127 "*/" (by decide) rfl (by decide +kernel) ?_
    refine p_aret rfl (Or.inl ⟨_, rfl⟩) (by decide +kernel) ?_
    exact ⟨rfl, rfl⟩
set_option maxRecDepth 20000 in
set_option maxHeartbeats 4000000 in
theorem name_ok (w : Wt) {k : Nat} (hk : 8 ≤ k) (n : Nat) (hn : n ≤ 96) (l : Lx) (hg : Lg n l) (h : Mm) (e1 : h 8 1 = nI n) (hl : Cl h l) (key : Nat) (hkey : key < 3) (e8 : h 8 8 = nI key) (hB : Bt n (h 9)) : Ok w k MX3_name [.ref 8] h (Rv (if l.e - l.s = 1 ∧ nI 0 ≤ nmI key (h 9 l.s) then nI 10000 + nmI key (h 9 l.s) else Int32.ofInt (-1)) h) := by
  show Wp w k MX3_name _ 0 [some (.ref 8), none] [] h
  obtain ⟨g1, g2, g3, g4, g5, g6⟩ := hg
  refine p_run (pc' := 10) [.aload_n 0, .getfield 45, .aload_n 0, .getfield 32, .isub, .iconst 1] mkX3_name (by decide +kernel) rfl rfl ?_
  rw [hl.2.2.1, hl.2.1, nIs g2]
  refine p_icmp_ne (off := 25) 35 (by decide +kernel) (by decide) (fun cq1 => ?_) (fun cq1 => ?_)
  · have c1 : ¬ l.e - l.s = 1 := fun q => cq1 (by rw [q]; rfl)
    refine p_run (pc' := 38) [.iconst (-1), .istore_n 1, .iload_n 1] mkX3_name (by decide +kernel) rfl rfl ?_
    refine p_if_ge (off := 7) 45 (by decide +kernel) (by decide) (fun cq38 => ?_) (fun cq38 => ?_)
    · exact False.elim (by revert cq38; decide)
    · refine p_run (pc' := 50) [.iconst (-1), .goto 8] mkX3_name (by decide +kernel) rfl rfl ?_
      refine p_iret rfl rfl (by decide +kernel) ?_
      exact ⟨by rw [if_neg (fun q => c1 q.1)], rfl⟩
  · have c1 : l.e - l.s = 1 := (nI_eq (by omega) (by omega)).mp cq1
    have hb := hB l.s (by omega)
    have hb2 := hb.2
    refine p_run (pc' := 17) [.aload_n 0, .getfield 29] mkX3_name (by decide +kernel) rfl rfl ?_
    rw [e8]
    refine p_callS (namesOf_ok w (k := k - 1) key hkey h) ksX3_135 (by decide +kernel) (by omega) rfl rfl rfl rfl rfl (fun r h' hq => ?_)
    obtain ⟨rfl, e'⟩ := hq
    rw [e']
    refine p_run (pc' := 25) [.aload_n 0, .aload_n 0, .getfield 32] mkX3_name (by decide +kernel) rfl rfl ?_
    rw [hl.2.1]
    refine p_callVv (byteAt_ok w (k := k - 1) n l.s hn (by omega) _ e1) kvX3_60 (by decide +kernel) (by decide) rfl (by omega) rfl rfl rfl rfl rfl ?_
    rw [show byA n (h 9) l.s = nI (nN (h 9 l.s)) from (if_pos (by omega)).trans hb.1]
    refine p_run (pc' := 29) [.i2c] mkX3_name (by decide +kernel) rfl rfl ?_
    rw [i2cb _ (by omega)]
    refine p_callC (i := 8 + key) (by omega) (indexOf_ok w (k := k - 1) (by omega) (8 + key) (nN (h 9 l.s)) (by omega) (by omega) _) kcX3_116 (by decide +kernel) (by omega) rfl rfl rfl rfl rfl ?_
    rw [nm_ix _ (by omega) key hkey, ← hb.1]
    refine p_run (pc' := 38) [.goto 4, .istore_n 1, .iload_n 1] mkX3_name (by decide +kernel) rfl rfl ?_
    refine p_if_ge (off := 7) 45 (by decide +kernel) (by decide) (fun cq2 => ?_) (fun cq2 => ?_)
    · refine p_run (pc' := 50) [.sipush 10000, .iload_n 1, .iadd] mkX3_name (by decide +kernel) rfl rfl ?_
      refine p_iret rfl rfl (by decide +kernel) ?_
      exact ⟨by rw [if_pos ⟨c1, cq2⟩]; rfl, rfl⟩
    · refine p_run (pc' := 50) [.iconst (-1), .goto 8] mkX3_name (by decide +kernel) rfl rfl ?_
      refine p_iret rfl rfl (by decide +kernel) ?_
      exact ⟨by rw [if_neg (fun q => cq2 q.2)], rfl⟩
set_option maxRecDepth 20000 in
set_option maxHeartbeats 4000000 in
theorem isSignOf_ok (w : Wt) {k : Nat} (hk : 8 ≤ k) (n : Nat) (hn : n ≤ 96) (l : Lx) (hg : Lg n l) (h : Mm) (e1 : h 8 1 = nI n) (hl : Cl h l) (lv : Nat) (hlv : lv < 5) (hB : Bt n (h 9)) : Ok w k MX3_isSignOf [.ref 8, .int (nI lv)] h (Rv (bI (¬ sgF (h 9) l = 0 ∧ rkF (sgF (h 9) l) = lv + 1)) h) := by
  show Wp w k MX3_isSignOf _ 0 [some (.ref 8), some (.int (nI lv))] [] h
  obtain ⟨g1, g2, g3, g4, g5, g6⟩ := id hg
  refine p_run (pc' := 5) [.aload_n 0, .getfield 42, .iconst 3] mkX3_isSignOf (by decide +kernel) rfl rfl ?_
  rw [hl.1]
  refine p_icmp_ne (off := 26) 31 (by decide +kernel) (by decide) (fun cq1 => ?_) (fun cq1 => ?_)
  · refine p_run (pc' := 32) [.iconst 0] mkX3_isSignOf (by decide +kernel) rfl rfl ?_
    refine p_iret rfl rfl (by decide +kernel) ?_
    exact ⟨by rw [bIf (fun q => q.1 (by unfold sgF; rw [if_neg (fun z => cq1 (by have := tk3 z; rw [show l.k = 3 by omega]; rfl))]; rfl))]; rfl, rfl⟩
  · have k3 : l.k = 3 := (nI_eq (by omega) (by omega)).mp cq1
    have t3 : tkF l = 3 := by unfold tkF; rw [k3]; rfl
    have hsg : sgF (h 9) l = sgV (h 9 l.s) := if_pos t3
    have g7 : l.s < l.e := g5 (by omega)
    have hb := hB l.s (by omega)
    have hb2 := hb.2
    refine p_run (pc' := 9) [.iload_n 1] mkX3_isSignOf (by decide +kernel) rfl rfl ?_
    refine p_callS (signsOf_ok w (k := k - 1) lv hlv h) ksX3_112 (by decide +kernel) (by omega) rfl rfl rfl rfl rfl (fun r h' hq => ?_)
    obtain ⟨rfl, e'⟩ := hq
    rw [e']
    refine p_run (pc' := 17) [.aload_n 0, .aload_n 0, .getfield 32] mkX3_isSignOf (by decide +kernel) rfl rfl ?_
    rw [hl.2.1]
    refine p_callVv (byteAt_ok w (k := k - 1) n l.s hn (by omega) _ e1) kvX3_60 (by decide +kernel) (by decide) rfl (by omega) rfl rfl rfl rfl rfl ?_
    rw [show byA n (h 9) l.s = nI (nN (h 9 l.s)) from (if_pos (by omega)).trans hb.1]
    refine p_run (pc' := 21) [.i2c] mkX3_isSignOf (by decide +kernel) rfl rfl ?_
    rw [i2cb _ (by omega)]
    refine p_callC (i := 3 + lv) (by omega) (indexOf_ok w (k := k - 1) (by omega) (3 + lv) (nN (h 9 l.s)) (by omega) (by omega) _) kcX3_116 (by decide +kernel) (by omega) rfl rfl rfl rfl rfl ?_
    have hix := sg_ix (nN (h 9 l.s)) (by omega) lv hlv
    rw [← hb.1, ← hsg] at hix
    refine p_if_lt (off := 7) 31 (by decide +kernel) (by decide) (fun cq2 => ?_) (fun cq2 => ?_)
    · refine p_run (pc' := 32) [.iconst 0] mkX3_isSignOf (by decide +kernel) rfl rfl ?_
      refine p_iret rfl rfl (by decide +kernel) ?_
      exact ⟨by rw [bIf (fun q => hix.mpr q cq2)]; rfl, rfl⟩
    · refine p_run (pc' := 32) [.iconst 1, .goto 4] mkX3_isSignOf (by decide +kernel) rfl rfl ?_
      refine p_iret rfl rfl (by decide +kernel) ?_
      exact ⟨by rw [bIt (hix.mp cq2)]; rfl, rfl⟩
set_option maxRecDepth 20000 in
set_option maxHeartbeats 4000000 in
theorem cput_ok (w : Wt) {k : Nat} (C : List Int32) (x v : Int32) (hv : v = enC x) (h : Mm) (hC : CC h C) (hlen : C.length < 96) : Ok w k MX3_put [.ref 8, .int v] h (fun r h' => r = none ∧ CC h' (x :: C) ∧ (∀ a, a ≠ 8 → a ≠ 10 → h' a = h a) ∧ ∀ j, j ≠ 11 → h' 8 j = h 8 j) := by
  show Wp w k MX3_put _ 0 [some (.ref 8), some (.int v)] [] h
  subst hv
  refine p_run (pc' := 6) [.aload_n 0, .getfield 57, .bipush 96] mkX3_put (by decide +kernel) rfl rfl ?_
  rw [hC.1]
  refine p_icmp_ge (off := 23) 29 (by decide +kernel) (by decide) (fun cq1 => ?_) (fun cq1 => ?_)
  · exact absurd (show nI 96 ≤ nI C.length from cq1) (nI_ge (by omega) (by omega))
  · refine p_run (pc' := 18) [.aload_n 0, .getfield 15, .aload_n 0, .getfield 57, .iload_n 1] mkX3_put (by decide +kernel) rfl rfl ?_
    rw [hC.1]
    refine p_iast (C.length) (by decide +kernel) rfl rfl rfl (by omega)  ?_
    refine p_run (pc' := 29) [.aload_n 0, .dup, .getfield 57, .iconst 1, .iadd, .putfield 57] mkX3_put (by decide +kernel) rfl rfl ?_
    rw [show up h 10 C.length (enC x) 8 11 = nI C.length from (congrFun (upN (by decide)) 11).trans hC.1]
    refine p_vret rfl (by decide +kernel) ?_
    refine ⟨rfl, ⟨by rw [uF, List.length_cons]; exact nI_add _ _, fun k hk2 => ?_⟩, fun a h1 h2 => by rw [upN h1, upN h2], fun j hj => by rw [uN hj, upN (by decide)]⟩
    rw [upN (by decide), upS]
    show _ = enC (if k = C.length then x else gC C k)
    by_cases e : k = C.length
    · rw [e, upd_s, if_pos rfl]
    · rw [upd_n e, if_neg e]; exact hC.2 k (by rw [List.length_cons] at hk2; omega)
