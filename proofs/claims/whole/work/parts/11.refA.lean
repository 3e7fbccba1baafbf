/-! the reference: small methods -/
theorem oI (n : Nat) : Int32.ofInt (no_index (OfNat.ofNat n : Int)) = nI (OfNat.ofNat n : Nat) := rfl
theorem nIm (a b : Nat) : nI a * nI b = nI (a * b) := (Int32.ofNat_mul a b).symm
theorem nIs {a b : Nat} (h : b ≤ a) : nI a - nI b = nI (a - b) := by
  have : nI a = nI (a - b) + nI b := by rw [nI_add]; congr 1; omega
  rw [this, Int32.add_sub_cancel]
theorem upS (h : Mm) (a k : Nat) (x : Int32) : up h a k x a = upd (h a) k x := by
  funext j
  simp [up, upd]
theorem upN {h : Mm} {a b k : Nat} {x : Int32} (hb : b ≠ a) : up h a k x b = h b := by
  funext j
  simp [up, hb]
noncomputable def bI (p : Prop) : Int32 := @ite _ p (Classical.propDecidable p) 1 0
theorem bIt {p : Prop} (h : p) : bI p = 1 := if_pos h
theorem bIf {p : Prop} (h : ¬ p) : bI p = 0 := if_neg h
theorem bI0 {p : Prop} : bI p = 0 ↔ ¬ p := ⟨fun e hp => by rw [bIt hp] at e; exact absurd e (by decide), bIf⟩
theorem bI1 {p : Prop} : ¬ bI p = 0 ↔ p := by rw [bI0]; exact Classical.not_not
theorem bIn {p : Prop} : narrow .boolean (.int (bI p)) = .int (bI p) := by
  rcases Classical.em p with h | h
  · rw [bIt h]; rfl
  · rw [bIf h]; rfl
set_option maxRecDepth 20000 in
set_option maxHeartbeats 4000000 in
theorem in_ok (w : Wt) {k : Nat} (v lo hi : Int32) (h : Mm) : Ok w k MX8_in [.int v, .int lo, .int hi] h (Rv (bI (lo ≤ v ∧ v ≤ hi)) h) := by
  show Wp w k MX8_in _ 0 [some (.int v), some (.int lo), some (.int hi)] [] h
  refine p_run (pc' := 2) [.iload_n 0, .iload_n 1] mkX8_in (by decide +kernel) rfl rfl ?_
  refine p_icmp_lt (off := 12) 14 (by decide +kernel) (by decide) (fun c2 => ?_) (fun c2 => ?_)
  · refine p_run (pc' := 15) [.iconst 0] mkX8_in (by decide +kernel) rfl rfl ?_
    refine p_iret rfl rfl (by decide +kernel) ?_
    exact ⟨by rw [bIf (fun h => absurd c2 (Int32.not_lt.mpr h.1))]; rfl, rfl⟩
  · refine p_run (pc' := 7) [.iload_n 0, .iload_n 2] mkX8_in (by decide +kernel) rfl rfl ?_
    refine p_icmp_gt (off := 7) 14 (by decide +kernel) (by decide) (fun c7 => ?_) (fun c7 => ?_)
    · refine p_run (pc' := 15) [.iconst 0] mkX8_in (by decide +kernel) rfl rfl ?_
      refine p_iret rfl rfl (by decide +kernel) ?_
      exact ⟨by rw [bIf (fun h => absurd c7 (Int32.not_lt.mpr h.2))]; rfl, rfl⟩
    · refine p_run (pc' := 15) [.iconst 1, .goto 4] mkX8_in (by decide +kernel) rfl rfl ?_
      refine p_iret rfl rfl (by decide +kernel) ?_
      exact ⟨by rw [bIt ⟨Int32.not_lt.mp c2, Int32.not_lt.mp c7⟩]; rfl, rfl⟩
set_option maxRecDepth 20000 in
set_option maxHeartbeats 4000000 in
theorem of_ok (w : Wt) {k : Nat} (d j : Nat) (h : Mm) (hb : 20 + 5 * d + j < 1442) : Ok w k MX8_of [.ref 96, .int (nI d), .int (nI j)] h (Rv (h 97 (20 + 5 * d + j)) h) := by
  show Wp w k MX8_of _ 0 [some (.ref 96), some (.int (nI d)), some (.int (nI j))] [] h
  refine p_run (pc' := 12) [.aload_n 0, .getfield 9, .bipush 20, .iconst 5, .iload_n 1, .imul, .iadd, .iload_n 2, .iadd] mkX8_of (by decide +kernel) rfl rfl ?_
  refine p_iald (20 + 5 * d + j) (by decide +kernel) rfl rfl (by simp only [oI, nI_add, nIm]) hb ?_
  refine p_iret rfl rfl (by decide +kernel) ?_
  exact ⟨rfl, rfl⟩
set_option maxRecDepth 20000 in
set_option maxHeartbeats 4000000 in
theorem put_ok (w : Wt) {k : Nat} (d j : Nat) (x : Int32) (h : Mm) (hb : 20 + 5 * d + j < 1442) : Ok w k MX8_put [.ref 96, .int (nI d), .int (nI j), .int x] h (Rw (up h 97 (20 + 5 * d + j) x)) := by
  show Wp w k MX8_put _ 0 [some (.ref 96), some (.int (nI d)), some (.int (nI j)), some (.int x)] [] h
  refine p_run (pc' := 13) [.aload_n 0, .getfield 9, .bipush 20, .iconst 5, .iload_n 1, .imul, .iadd, .iload_n 2, .iadd, .iload_n 3] mkX8_put (by decide +kernel) rfl rfl ?_
  refine p_iast (20 + 5 * d + j) (by decide +kernel) rfl rfl (by simp only [oI, nI_add, nIm]) hb  ?_
  refine p_vret rfl (by decide +kernel) ?_
  exact ⟨rfl, rfl⟩
set_option maxRecDepth 20000 in
set_option maxHeartbeats 4000000 in
theorem at_ok (w : Wt) {k : Nat} (b j : Nat) (h : Mm) (hb : 8 + 3 * b + j < 1442) : Ok w k MX8_at [.ref 96, .int (nI b), .int (nI j)] h (Rv (h 97 (8 + 3 * b + j)) h) := by
  show Wp w k MX8_at _ 0 [some (.ref 96), some (.int (nI b)), some (.int (nI j))] [] h
  refine p_run (pc' := 12) [.aload_n 0, .getfield 9, .bipush 8, .iconst 3, .iload_n 1, .imul, .iadd, .iload_n 2, .iadd] mkX8_at (by decide +kernel) rfl rfl ?_
  refine p_iald (8 + 3 * b + j) (by decide +kernel) rfl rfl (by simp only [oI, nI_add, nIm]) hb ?_
  refine p_iret rfl rfl (by decide +kernel) ?_
  exact ⟨rfl, rfl⟩
