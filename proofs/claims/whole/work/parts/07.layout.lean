/-! the layout of the cells when both objects are made: 0 .. 95 the class's, 96 .. 117 the reference's -/
def kdL : List (List (Nat × Nat)) := [[(7, 10), (6, 6), (10, 14), (10, 14), (10, 14), (10, 1344), (10, 4), (10, 96), (3, 12), (10, 96), (10, 96), (2, 12), (14, 4), (0, 3), (0, 3), (0, 3)], [(0, 3), (15, 10), (1, 5), (1, 5), (1, 5), (1, 5), (1, 5), (1, 5), (1, 5), (1, 5), (1, 5), (1, 5), (10, 3), (2, 12), (14, 4), (0, 3)], [(0, 3), (0, 3), (0, 3), (15, 10), (1, 5), (1, 5), (1, 5), (1, 5), (1, 5), (1, 5), (1, 5), (1, 5), (1, 5), (1, 5), (10, 3), (2, 12)], [(14, 4), (0, 3), (0, 3), (0, 3), (0, 3), (15, 10), (1, 5), (1, 5), (1, 5), (1, 5), (1, 5), (1, 5), (1, 5), (1, 5), (1, 5), (1, 5)], [(10, 3), (16, 4), (4, 3), (10, 24), (4, 3), (10, 24), (4, 3), (10, 24), (4, 3), (10, 24), (17, 5), (5, 4), (1, 5), (4, 3), (10, 24), (5, 4)], [(1, 5), (4, 3), (10, 24), (5, 4), (1, 5), (4, 3), (10, 24), (5, 4), (1, 5), (4, 3), (10, 24), (5, 4), (1, 5), (4, 3), (10, 24), (10, 60)], [(8, 33), (10, 1442), (10, 1442), (10, 1442), (10, 4), (10, 96), (11, 10), (10, 4), (10, 96), (10, 96), (12, 10), (10, 96), (10, 4), (10, 4), (10, 4), (10, 96)], [(10, 5), (10, 5), (10, 5), (10, 120), (10, 24), (10, 60)]]
def kd0 (a : Nat) : Nat × Nat := nth (nth kdL (a / 16) []) (a % 16) (0, 0)
def rfL : List (List (List (Option Nat))) := [[[some 1, some 8, some 11, some 29, some 47, some 65, some 74, some 95, none, none], [some 2, some 3, some 4, some 5, some 6, some 7], [], [], [], [], [], [], [some 9, none, none, none, none, none, none, none, none, none, some 10, none], [], [], [some 12, some 17, some 28, some 1, none, none, none, none, none, none, none, none], [some 13, some 14, some 15, some 16], [], [], []],
  [[], [some 18, some 19, some 20, some 21, some 22, some 23, some 24, some 25, some 26, some 27], [], [], [], [], [], [], [], [], [], [], [], [some 30, some 35, some 46, some 1, none, none, none, none, none, none, none, none], [some 31, some 32, some 33, some 34], []],
  [[], [], [], [some 36, some 37, some 38, some 39, some 40, some 41, some 42, some 43, some 44, some 45], [], [], [], [], [], [], [], [], [], [], [], [some 48, some 53, some 64, some 1, none, none, none, none, none, none, none, none]],
  [[some 49, some 50, some 51, some 52], [], [], [], [], [some 54, some 55, some 56, some 57, some 58, some 59, some 60, some 61, some 62, some 63], [], [], [], [], [], [], [], [], [], []],
  [[], [some 66, some 68, some 70, some 72], [some 67, none, none], [], [some 69, none, none], [], [some 71, none, none], [], [some 73, none, none], [], [some 75, some 79, some 83, some 87, some 91], [none, none, some 76, some 77], [], [some 78, none, none], [], [none, none, some 80, some 81]],
  [[], [some 82, none, none], [], [none, none, some 84, some 85], [], [some 86, none, none], [], [none, none, some 88, some 89], [], [some 90, none, none], [], [none, none, some 92, some 93], [], [some 94, none, none], [], []],
  [[some 97, some 98, some 99, none, some 100, some 101, none, none, none, none, none, none, none, some 102, some 103, some 104, none, none, some 105, none, some 106, some 107, some 108, some 109, some 110, some 111, some 112, some 113, some 114, some 115, some 116, some 117, none], [], [], [], [], [], [], [], [], [], [], [], [], [], [], []],
  [[], [], [], [], [], []]]
def rf0 (a k : Nat) : Option Nat := nth (nth (nth rfL (a / 16) []) (a % 16) []) k none
abbrev Mm : Type := Nat → Nat → Int32
def vl (h : Mm) (a k : Nat) : Value := match rf0 a k with
  | some r => .ref r
  | none => .int (h a k)
def mu (h : Mm) : Mu := (118, kd0, vl h)
def up (h : Mm) (a k : Nat) (x : Int32) : Mm := fun b j => if b = a ∧ j = k then x else h b j
theorem mu_up {h : Mm} {a k : Nat} {x : Int32} (hr : rf0 a k = none) : Um (mu h) a k (.int x) = mu (up h a k x) := by
  unfold Um mu
  refine congrArg (fun f => (118, kd0, f)) ?_
  funext b j
  show (if b = a ∧ j = k then Value.int x else vl h b j) = vl (up h a k x) b j
  by_cases e : b = a ∧ j = k
  · obtain ⟨rfl, rfl⟩ := e
    simp [vl, hr, up]
  · rw [if_neg e]
    unfold vl
    cases hrf : rf0 b j with
    | some r => rfl
    | none => simp [up, e]
def Wp (w : Wt) (k : Nat) (M : Mt) (Q : Option Value → Mm → Prop) (pc : Nat) (L : List (Option Value)) (st : List Value) (h : Mm) : Prop := Gp w k 0 0 M (fun r u => ∃ h', u = mu h' ∧ Q r h') pc L st (mu h)

theorem fo0_13 : FO RX0 13 0 0 := ⟨by decide, fun C T N h => by cases h; exact ⟨by decide, tbG_of 166 (by decide +kernel) (by decide +kernel)⟩⟩
theorem fo0_7 : FO RX0 7 0 1 := ⟨by decide, fun C T N h => by cases h; exact ⟨by decide, tbG_of 169 (by decide +kernel) (by decide +kernel)⟩⟩
theorem fo0_16 : FO RX0 16 0 2 := ⟨by decide, fun C T N h => by cases h; exact ⟨by decide, tbG_of 172 (by decide +kernel) (by decide +kernel)⟩⟩
theorem fo1_9 : FO RX1 9 1 0 := ⟨by decide, fun C T N h => by cases h; exact ⟨by decide, tbG_of 189 (by decide +kernel) (by decide +kernel)⟩⟩
theorem fo1_15 : FO RX1 15 1 1 := ⟨by decide, fun C T N h => by cases h; exact ⟨by decide, tbG_of 192 (by decide +kernel) (by decide +kernel)⟩⟩
theorem fo1_18 : FO RX1 18 1 2 := ⟨by decide, fun C T N h => by cases h; exact ⟨by decide, tbG_of 195 (by decide +kernel) (by decide +kernel)⟩⟩
theorem fo1_21 : FO RX1 21 1 3 := ⟨by decide, fun C T N h => by cases h; exact ⟨by decide, tbG_of 198 (by decide +kernel) (by decide +kernel)⟩⟩
theorem fo1_24 : FO RX1 24 1 4 := ⟨by decide, fun C T N h => by cases h; exact ⟨by decide, tbG_of 201 (by decide +kernel) (by decide +kernel)⟩⟩
theorem fo2_97 : FO RX2 97 3 8 := ⟨by decide, fun C T N h => by cases h; exact ⟨by decide, tbG_of 121 (by decide +kernel) (by decide +kernel)⟩⟩
theorem fo2_127 : FO RX2 127 0 0 := ⟨by decide, fun C T N h => by cases h; exact ⟨by decide, tbG_of 167 (by decide +kernel) (by decide +kernel)⟩⟩
theorem fo2_148 : FO RX2 148 0 1 := ⟨by decide, fun C T N h => by cases h; exact ⟨by decide, tbG_of 171 (by decide +kernel) (by decide +kernel)⟩⟩
theorem fo2_139 : FO RX2 139 0 2 := ⟨by decide, fun C T N h => by cases h; exact ⟨by decide, tbG_of 174 (by decide +kernel) (by decide +kernel)⟩⟩
theorem fo2_67 : FO RX2 67 1 0 := ⟨by decide, fun C T N h => by cases h; exact ⟨by decide, tbG_of 190 (by decide +kernel) (by decide +kernel)⟩⟩
theorem fo2_70 : FO RX2 70 1 1 := ⟨by decide, fun C T N h => by cases h; exact ⟨by decide, tbG_of 193 (by decide +kernel) (by decide +kernel)⟩⟩
theorem fo2_73 : FO RX2 73 1 2 := ⟨by decide, fun C T N h => by cases h; exact ⟨by decide, tbG_of 196 (by decide +kernel) (by decide +kernel)⟩⟩
theorem fo2_76 : FO RX2 76 1 3 := ⟨by decide, fun C T N h => by cases h; exact ⟨by decide, tbG_of 199 (by decide +kernel) (by decide +kernel)⟩⟩
theorem fo2_79 : FO RX2 79 1 4 := ⟨by decide, fun C T N h => by cases h; exact ⟨by decide, tbG_of 202 (by decide +kernel) (by decide +kernel)⟩⟩
theorem fo2_17 : FO RX2 17 2 0 := ⟨by decide, fun C T N h => by cases h; exact ⟨by decide, tbG_of 216 (by decide +kernel) (by decide +kernel)⟩⟩
theorem fo2_24 : FO RX2 24 2 1 := ⟨by decide, fun C T N h => by cases h; exact ⟨by decide, tbG_of 218 (by decide +kernel) (by decide +kernel)⟩⟩
theorem fo2_29 : FO RX2 29 2 2 := ⟨by decide, fun C T N h => by cases h; exact ⟨by decide, tbG_of 220 (by decide +kernel) (by decide +kernel)⟩⟩
theorem fo2_9 : FO RX2 9 2 3 := ⟨by decide, fun C T N h => by cases h; exact ⟨by decide, tbG_of 222 (by decide +kernel) (by decide +kernel)⟩⟩
theorem fo2_45 : FO RX2 45 2 4 := ⟨by decide, fun C T N h => by cases h; exact ⟨by decide, tbG_of 223 (by decide +kernel) (by decide +kernel)⟩⟩
theorem fo2_51 : FO RX2 51 2 5 := ⟨by decide, fun C T N h => by cases h; exact ⟨by decide, tbG_of 225 (by decide +kernel) (by decide +kernel)⟩⟩
theorem fo2_34 : FO RX2 34 2 6 := ⟨by decide, fun C T N h => by cases h; exact ⟨by decide, tbG_of 227 (by decide +kernel) (by decide +kernel)⟩⟩
theorem fo2_54 : FO RX2 54 2 7 := ⟨by decide, fun C T N h => by cases h; exact ⟨by decide, tbG_of 229 (by decide +kernel) (by decide +kernel)⟩⟩
theorem fo2_57 : FO RX2 57 2 8 := ⟨by decide, fun C T N h => by cases h; exact ⟨by decide, tbG_of 231 (by decide +kernel) (by decide +kernel)⟩⟩
theorem fo2_60 : FO RX2 60 2 9 := ⟨by decide, fun C T N h => by cases h; exact ⟨by decide, tbG_of 233 (by decide +kernel) (by decide +kernel)⟩⟩
theorem fo2_63 : FO RX2 63 2 10 := ⟨by decide, fun C T N h => by cases h; exact ⟨by decide, tbG_of 235 (by decide +kernel) (by decide +kernel)⟩⟩
theorem fo2_38 : FO RX2 38 2 11 := ⟨by decide, fun C T N h => by cases h; exact ⟨by decide, tbG_of 237 (by decide +kernel) (by decide +kernel)⟩⟩
theorem fo3_9 : FO RX3 9 3 0 := ⟨by decide, fun C T N h => by cases h; exact ⟨by decide, tbG_of 110 (by decide +kernel) (by decide +kernel)⟩⟩
theorem fo3_18 : FO RX3 18 3 1 := ⟨by decide, fun C T N h => by cases h; exact ⟨by decide, tbG_of 111 (by decide +kernel) (by decide +kernel)⟩⟩
theorem fo3_42 : FO RX3 42 3 2 := ⟨by decide, fun C T N h => by cases h; exact ⟨by decide, tbG_of 113 (by decide +kernel) (by decide +kernel)⟩⟩
theorem fo3_32 : FO RX3 32 3 3 := ⟨by decide, fun C T N h => by cases h; exact ⟨by decide, tbG_of 114 (by decide +kernel) (by decide +kernel)⟩⟩
theorem fo3_45 : FO RX3 45 3 4 := ⟨by decide, fun C T N h => by cases h; exact ⟨by decide, tbG_of 115 (by decide +kernel) (by decide +kernel)⟩⟩
theorem fo3_70 : FO RX3 70 3 5 := ⟨by decide, fun C T N h => by cases h; exact ⟨by decide, tbG_of 116 (by decide +kernel) (by decide +kernel)⟩⟩
theorem fo3_48 : FO RX3 48 3 6 := ⟨by decide, fun C T N h => by cases h; exact ⟨by decide, tbG_of 117 (by decide +kernel) (by decide +kernel)⟩⟩
theorem fo3_51 : FO RX3 51 3 7 := ⟨by decide, fun C T N h => by cases h; exact ⟨by decide, tbG_of 118 (by decide +kernel) (by decide +kernel)⟩⟩
theorem fo3_29 : FO RX3 29 3 8 := ⟨by decide, fun C T N h => by cases h; exact ⟨by decide, tbG_of 120 (by decide +kernel) (by decide +kernel)⟩⟩
theorem fo3_54 : FO RX3 54 3 9 := ⟨by decide, fun C T N h => by cases h; exact ⟨by decide, tbG_of 123 (by decide +kernel) (by decide +kernel)⟩⟩
theorem fo3_15 : FO RX3 15 3 10 := ⟨by decide, fun C T N h => by cases h; exact ⟨by decide, tbG_of 124 (by decide +kernel) (by decide +kernel)⟩⟩
theorem fo3_57 : FO RX3 57 3 11 := ⟨by decide, fun C T N h => by cases h; exact ⟨by decide, tbG_of 127 (by decide +kernel) (by decide +kernel)⟩⟩
theorem fo4_9 : FO RX4 9 4 0 := ⟨by decide, fun C T N h => by cases h; exact ⟨by decide, tbG_of 271 (by decide +kernel) (by decide +kernel)⟩⟩
theorem fo4_15 : FO RX4 15 4 1 := ⟨by decide, fun C T N h => by cases h; exact ⟨by decide, tbG_of 273 (by decide +kernel) (by decide +kernel)⟩⟩
theorem fo4_19 : FO RX4 19 4 2 := ⟨by decide, fun C T N h => by cases h; exact ⟨by decide, tbG_of 275 (by decide +kernel) (by decide +kernel)⟩⟩
theorem fo5_10 : FO RX5 10 5 2 := ⟨by decide, fun C T N h => by cases h; exact ⟨by decide, tbG_of 297 (by decide +kernel) (by decide +kernel)⟩⟩
theorem fo5_19 : FO RX5 19 5 3 := ⟨by decide, fun C T N h => by cases h; exact ⟨by decide, tbG_of 299 (by decide +kernel) (by decide +kernel)⟩⟩
theorem fo6_9 : FO RX6 9 6 0 := ⟨by decide, fun C T N h => by cases h; exact ⟨by decide, tbG_of 82 (by decide +kernel) (by decide +kernel)⟩⟩
theorem fo6_15 : FO RX6 15 6 1 := ⟨by decide, fun C T N h => by cases h; exact ⟨by decide, tbG_of 84 (by decide +kernel) (by decide +kernel)⟩⟩
theorem fo6_18 : FO RX6 18 6 2 := ⟨by decide, fun C T N h => by cases h; exact ⟨by decide, tbG_of 86 (by decide +kernel) (by decide +kernel)⟩⟩
theorem fo6_21 : FO RX6 21 6 3 := ⟨by decide, fun C T N h => by cases h; exact ⟨by decide, tbG_of 87 (by decide +kernel) (by decide +kernel)⟩⟩
theorem fo6_24 : FO RX6 24 6 4 := ⟨by decide, fun C T N h => by cases h; exact ⟨by decide, tbG_of 88 (by decide +kernel) (by decide +kernel)⟩⟩
theorem fo6_27 : FO RX6 27 6 5 := ⟨by decide, fun C T N h => by cases h; exact ⟨by decide, tbG_of 89 (by decide +kernel) (by decide +kernel)⟩⟩
theorem fo6_30 : FO RX6 30 3 8 := ⟨by decide, fun C T N h => by cases h; exact ⟨by decide, tbG_of 119 (by decide +kernel) (by decide +kernel)⟩⟩
theorem fo6_36 : FO RX6 36 3 9 := ⟨by decide, fun C T N h => by cases h; exact ⟨by decide, tbG_of 122 (by decide +kernel) (by decide +kernel)⟩⟩
theorem fo6_42 : FO RX6 42 3 10 := ⟨by decide, fun C T N h => by cases h; exact ⟨by decide, tbG_of 125 (by decide +kernel) (by decide +kernel)⟩⟩
theorem fo6_39 : FO RX6 39 3 11 := ⟨by decide, fun C T N h => by cases h; exact ⟨by decide, tbG_of 126 (by decide +kernel) (by decide +kernel)⟩⟩
theorem fo7_243 : FO RX7 243 6 0 := ⟨by decide, fun C T N h => by cases h; exact ⟨by decide, tbG_of 83 (by decide +kernel) (by decide +kernel)⟩⟩
theorem fo7_246 : FO RX7 246 6 1 := ⟨by decide, fun C T N h => by cases h; exact ⟨by decide, tbG_of 85 (by decide +kernel) (by decide +kernel)⟩⟩
theorem fo7_228 : FO RX7 228 3 1 := ⟨by decide, fun C T N h => by cases h; exact ⟨by decide, tbG_of 112 (by decide +kernel) (by decide +kernel)⟩⟩
theorem fo7_132 : FO RX7 132 0 0 := ⟨by decide, fun C T N h => by cases h; exact ⟨by decide, tbG_of 168 (by decide +kernel) (by decide +kernel)⟩⟩
theorem fo7_135 : FO RX7 135 0 1 := ⟨by decide, fun C T N h => by cases h; exact ⟨by decide, tbG_of 170 (by decide +kernel) (by decide +kernel)⟩⟩
theorem fo7_127 : FO RX7 127 0 2 := ⟨by decide, fun C T N h => by cases h; exact ⟨by decide, tbG_of 173 (by decide +kernel) (by decide +kernel)⟩⟩
theorem fo7_91 : FO RX7 91 1 0 := ⟨by decide, fun C T N h => by cases h; exact ⟨by decide, tbG_of 191 (by decide +kernel) (by decide +kernel)⟩⟩
theorem fo7_96 : FO RX7 96 1 1 := ⟨by decide, fun C T N h => by cases h; exact ⟨by decide, tbG_of 194 (by decide +kernel) (by decide +kernel)⟩⟩
theorem fo7_99 : FO RX7 99 1 2 := ⟨by decide, fun C T N h => by cases h; exact ⟨by decide, tbG_of 197 (by decide +kernel) (by decide +kernel)⟩⟩
theorem fo7_102 : FO RX7 102 1 3 := ⟨by decide, fun C T N h => by cases h; exact ⟨by decide, tbG_of 200 (by decide +kernel) (by decide +kernel)⟩⟩
theorem fo7_105 : FO RX7 105 1 4 := ⟨by decide, fun C T N h => by cases h; exact ⟨by decide, tbG_of 203 (by decide +kernel) (by decide +kernel)⟩⟩
theorem fo7_123 : FO RX7 123 2 0 := ⟨by decide, fun C T N h => by cases h; exact ⟨by decide, tbG_of 217 (by decide +kernel) (by decide +kernel)⟩⟩
theorem fo7_87 : FO RX7 87 2 1 := ⟨by decide, fun C T N h => by cases h; exact ⟨by decide, tbG_of 219 (by decide +kernel) (by decide +kernel)⟩⟩
theorem fo7_249 : FO RX7 249 2 2 := ⟨by decide, fun C T N h => by cases h; exact ⟨by decide, tbG_of 221 (by decide +kernel) (by decide +kernel)⟩⟩
theorem fo7_76 : FO RX7 76 2 4 := ⟨by decide, fun C T N h => by cases h; exact ⟨by decide, tbG_of 224 (by decide +kernel) (by decide +kernel)⟩⟩
theorem fo7_237 : FO RX7 237 2 5 := ⟨by decide, fun C T N h => by cases h; exact ⟨by decide, tbG_of 226 (by decide +kernel) (by decide +kernel)⟩⟩
theorem fo7_147 : FO RX7 147 2 6 := ⟨by decide, fun C T N h => by cases h; exact ⟨by decide, tbG_of 228 (by decide +kernel) (by decide +kernel)⟩⟩
theorem fo7_150 : FO RX7 150 2 7 := ⟨by decide, fun C T N h => by cases h; exact ⟨by decide, tbG_of 230 (by decide +kernel) (by decide +kernel)⟩⟩
theorem fo7_175 : FO RX7 175 2 8 := ⟨by decide, fun C T N h => by cases h; exact ⟨by decide, tbG_of 232 (by decide +kernel) (by decide +kernel)⟩⟩
theorem fo7_178 : FO RX7 178 2 9 := ⟨by decide, fun C T N h => by cases h; exact ⟨by decide, tbG_of 234 (by decide +kernel) (by decide +kernel)⟩⟩
theorem fo7_168 : FO RX7 168 2 10 := ⟨by decide, fun C T N h => by cases h; exact ⟨by decide, tbG_of 236 (by decide +kernel) (by decide +kernel)⟩⟩
theorem fo7_162 : FO RX7 162 2 11 := ⟨by decide, fun C T N h => by cases h; exact ⟨by decide, tbG_of 238 (by decide +kernel) (by decide +kernel)⟩⟩
theorem fo7_264 : FO RX7 264 4 0 := ⟨by decide, fun C T N h => by cases h; exact ⟨by decide, tbG_of 272 (by decide +kernel) (by decide +kernel)⟩⟩
theorem fo7_261 : FO RX7 261 4 1 := ⟨by decide, fun C T N h => by cases h; exact ⟨by decide, tbG_of 274 (by decide +kernel) (by decide +kernel)⟩⟩
theorem fo7_269 : FO RX7 269 4 2 := ⟨by decide, fun C T N h => by cases h; exact ⟨by decide, tbG_of 276 (by decide +kernel) (by decide +kernel)⟩⟩
theorem fo7_289 : FO RX7 289 5 0 := ⟨by decide, fun C T N h => by cases h; exact ⟨by decide, tbG_of 295 (by decide +kernel) (by decide +kernel)⟩⟩
theorem fo7_306 : FO RX7 306 5 1 := ⟨by decide, fun C T N h => by cases h; exact ⟨by decide, tbG_of 296 (by decide +kernel) (by decide +kernel)⟩⟩
theorem fo7_292 : FO RX7 292 5 2 := ⟨by decide, fun C T N h => by cases h; exact ⟨by decide, tbG_of 298 (by decide +kernel) (by decide +kernel)⟩⟩
theorem fo7_299 : FO RX7 299 5 3 := ⟨by decide, fun C T N h => by cases h; exact ⟨by decide, tbG_of 300 (by decide +kernel) (by decide +kernel)⟩⟩
theorem fo7_10 : FO RX7 10 7 0 := ⟨by decide, fun C T N h => by cases h; exact ⟨by decide, tbG_of 310 (by decide +kernel) (by decide +kernel)⟩⟩
theorem fo7_19 : FO RX7 19 7 1 := ⟨by decide, fun C T N h => by cases h; exact ⟨by decide, tbG_of 311 (by decide +kernel) (by decide +kernel)⟩⟩
theorem fo7_28 : FO RX7 28 7 2 := ⟨by decide, fun C T N h => by cases h; exact ⟨by decide, tbG_of 312 (by decide +kernel) (by decide +kernel)⟩⟩
theorem fo7_32 : FO RX7 32 7 3 := ⟨by decide, fun C T N h => by cases h; exact ⟨by decide, tbG_of 313 (by decide +kernel) (by decide +kernel)⟩⟩
theorem fo7_35 : FO RX7 35 7 4 := ⟨by decide, fun C T N h => by cases h; exact ⟨by decide, tbG_of 314 (by decide +kernel) (by decide +kernel)⟩⟩
theorem fo7_40 : FO RX7 40 7 5 := ⟨by decide, fun C T N h => by cases h; exact ⟨by decide, tbG_of 315 (by decide +kernel) (by decide +kernel)⟩⟩
theorem fo7_47 : FO RX7 47 7 6 := ⟨by decide, fun C T N h => by cases h; exact ⟨by decide, tbG_of 316 (by decide +kernel) (by decide +kernel)⟩⟩
theorem fo7_52 : FO RX7 52 7 7 := ⟨by decide, fun C T N h => by cases h; exact ⟨by decide, tbG_of 317 (by decide +kernel) (by decide +kernel)⟩⟩
theorem fo7_56 : FO RX7 56 7 8 := ⟨by decide, fun C T N h => by cases h; exact ⟨by decide, tbG_of 318 (by decide +kernel) (by decide +kernel)⟩⟩
theorem fo7_60 : FO RX7 60 7 9 := ⟨by decide, fun C T N h => by cases h; exact ⟨by decide, tbG_of 319 (by decide +kernel) (by decide +kernel)⟩⟩
theorem fo8_9 : FO RX8 9 8 0 := ⟨by decide, fun C T N h => by cases h; exact ⟨by decide, tbG_of 960 (by decide +kernel) (by decide +kernel)⟩⟩
theorem fo8_13 : FO RX8 13 8 1 := ⟨by decide, fun C T N h => by cases h; exact ⟨by decide, tbG_of 961 (by decide +kernel) (by decide +kernel)⟩⟩
theorem fo8_16 : FO RX8 16 8 2 := ⟨by decide, fun C T N h => by cases h; exact ⟨by decide, tbG_of 962 (by decide +kernel) (by decide +kernel)⟩⟩
theorem fo8_292 : FO RX8 292 8 3 := ⟨by decide, fun C T N h => by cases h; exact ⟨by decide, tbG_of 963 (by decide +kernel) (by decide +kernel)⟩⟩
theorem fo8_19 : FO RX8 19 8 4 := ⟨by decide, fun C T N h => by cases h; exact ⟨by decide, tbG_of 964 (by decide +kernel) (by decide +kernel)⟩⟩
theorem fo8_22 : FO RX8 22 8 5 := ⟨by decide, fun C T N h => by cases h; exact ⟨by decide, tbG_of 965 (by decide +kernel) (by decide +kernel)⟩⟩
theorem fo8_213 : FO RX8 213 8 6 := ⟨by decide, fun C T N h => by cases h; exact ⟨by decide, tbG_of 966 (by decide +kernel) (by decide +kernel)⟩⟩
theorem fo8_217 : FO RX8 217 8 7 := ⟨by decide, fun C T N h => by cases h; exact ⟨by decide, tbG_of 967 (by decide +kernel) (by decide +kernel)⟩⟩
theorem fo8_220 : FO RX8 220 8 8 := ⟨by decide, fun C T N h => by cases h; exact ⟨by decide, tbG_of 968 (by decide +kernel) (by decide +kernel)⟩⟩
theorem fo8_226 : FO RX8 226 8 9 := ⟨by decide, fun C T N h => by cases h; exact ⟨by decide, tbG_of 969 (by decide +kernel) (by decide +kernel)⟩⟩
theorem fo8_232 : FO RX8 232 8 10 := ⟨by decide, fun C T N h => by cases h; exact ⟨by decide, tbG_of 970 (by decide +kernel) (by decide +kernel)⟩⟩
theorem fo8_223 : FO RX8 223 8 11 := ⟨by decide, fun C T N h => by cases h; exact ⟨by decide, tbG_of 971 (by decide +kernel) (by decide +kernel)⟩⟩
theorem fo8_238 : FO RX8 238 8 12 := ⟨by decide, fun C T N h => by cases h; exact ⟨by decide, tbG_of 972 (by decide +kernel) (by decide +kernel)⟩⟩
theorem fo8_25 : FO RX8 25 8 13 := ⟨by decide, fun C T N h => by cases h; exact ⟨by decide, tbG_of 973 (by decide +kernel) (by decide +kernel)⟩⟩
theorem fo8_29 : FO RX8 29 8 14 := ⟨by decide, fun C T N h => by cases h; exact ⟨by decide, tbG_of 974 (by decide +kernel) (by decide +kernel)⟩⟩
theorem fo8_32 : FO RX8 32 8 15 := ⟨by decide, fun C T N h => by cases h; exact ⟨by decide, tbG_of 975 (by decide +kernel) (by decide +kernel)⟩⟩
theorem fo8_250 : FO RX8 250 8 16 := ⟨by decide, fun C T N h => by cases h; exact ⟨by decide, tbG_of 976 (by decide +kernel) (by decide +kernel)⟩⟩
theorem fo8_256 : FO RX8 256 8 17 := ⟨by decide, fun C T N h => by cases h; exact ⟨by decide, tbG_of 977 (by decide +kernel) (by decide +kernel)⟩⟩
theorem fo8_35 : FO RX8 35 8 18 := ⟨by decide, fun C T N h => by cases h; exact ⟨by decide, tbG_of 978 (by decide +kernel) (by decide +kernel)⟩⟩
theorem fo8_244 : FO RX8 244 8 19 := ⟨by decide, fun C T N h => by cases h; exact ⟨by decide, tbG_of 979 (by decide +kernel) (by decide +kernel)⟩⟩
theorem fo8_38 : FO RX8 38 8 20 := ⟨by decide, fun C T N h => by cases h; exact ⟨by decide, tbG_of 980 (by decide +kernel) (by decide +kernel)⟩⟩
theorem fo8_42 : FO RX8 42 8 21 := ⟨by decide, fun C T N h => by cases h; exact ⟨by decide, tbG_of 981 (by decide +kernel) (by decide +kernel)⟩⟩
theorem fo8_45 : FO RX8 45 8 22 := ⟨by decide, fun C T N h => by cases h; exact ⟨by decide, tbG_of 982 (by decide +kernel) (by decide +kernel)⟩⟩
theorem fo8_48 : FO RX8 48 8 23 := ⟨by decide, fun C T N h => by cases h; exact ⟨by decide, tbG_of 983 (by decide +kernel) (by decide +kernel)⟩⟩
theorem fo8_51 : FO RX8 51 8 24 := ⟨by decide, fun C T N h => by cases h; exact ⟨by decide, tbG_of 984 (by decide +kernel) (by decide +kernel)⟩⟩
theorem fo8_54 : FO RX8 54 8 25 := ⟨by decide, fun C T N h => by cases h; exact ⟨by decide, tbG_of 985 (by decide +kernel) (by decide +kernel)⟩⟩
theorem fo8_57 : FO RX8 57 8 26 := ⟨by decide, fun C T N h => by cases h; exact ⟨by decide, tbG_of 986 (by decide +kernel) (by decide +kernel)⟩⟩
theorem fo8_60 : FO RX8 60 8 27 := ⟨by decide, fun C T N h => by cases h; exact ⟨by decide, tbG_of 987 (by decide +kernel) (by decide +kernel)⟩⟩
theorem fo8_63 : FO RX8 63 8 28 := ⟨by decide, fun C T N h => by cases h; exact ⟨by decide, tbG_of 988 (by decide +kernel) (by decide +kernel)⟩⟩
theorem fo8_66 : FO RX8 66 8 29 := ⟨by decide, fun C T N h => by cases h; exact ⟨by decide, tbG_of 989 (by decide +kernel) (by decide +kernel)⟩⟩
theorem fo8_69 : FO RX8 69 8 30 := ⟨by decide, fun C T N h => by cases h; exact ⟨by decide, tbG_of 990 (by decide +kernel) (by decide +kernel)⟩⟩
theorem fo8_72 : FO RX8 72 8 31 := ⟨by decide, fun C T N h => by cases h; exact ⟨by decide, tbG_of 991 (by decide +kernel) (by decide +kernel)⟩⟩
theorem fo8_289 : FO RX8 289 8 32 := ⟨by decide, fun C T N h => by cases h; exact ⟨by decide, tbG_of 992 (by decide +kernel) (by decide +kernel)⟩⟩
def fl0 : List (Nat × Nat × Nat) := [(13, 0, 0), (7, 0, 1), (16, 0, 2)]
theorem fl0_ok : ∀ e ∈ fl0, FO RX0 e.1 e.2.1 e.2.2 := List.forall_mem_cons.mpr ⟨fo0_13, List.forall_mem_cons.mpr ⟨fo0_7, List.forall_mem_cons.mpr ⟨fo0_16, fun _ h => absurd h List.not_mem_nil⟩⟩⟩
def fl1 : List (Nat × Nat × Nat) := [(9, 1, 0), (15, 1, 1), (18, 1, 2), (21, 1, 3), (24, 1, 4)]
theorem fl1_ok : ∀ e ∈ fl1, FO RX1 e.1 e.2.1 e.2.2 := List.forall_mem_cons.mpr ⟨fo1_9, List.forall_mem_cons.mpr ⟨fo1_15, List.forall_mem_cons.mpr ⟨fo1_18, List.forall_mem_cons.mpr ⟨fo1_21, List.forall_mem_cons.mpr ⟨fo1_24, fun _ h => absurd h List.not_mem_nil⟩⟩⟩⟩⟩
def fl2 : List (Nat × Nat × Nat) := [(97, 3, 8), (127, 0, 0), (148, 0, 1), (139, 0, 2), (67, 1, 0), (70, 1, 1), (73, 1, 2), (76, 1, 3), (79, 1, 4), (17, 2, 0), (24, 2, 1), (29, 2, 2), (9, 2, 3), (45, 2, 4), (51, 2, 5), (34, 2, 6), (54, 2, 7), (57, 2, 8), (60, 2, 9), (63, 2, 10), (38, 2, 11)]
theorem fl2_ok : ∀ e ∈ fl2, FO RX2 e.1 e.2.1 e.2.2 := List.forall_mem_cons.mpr ⟨fo2_97, List.forall_mem_cons.mpr ⟨fo2_127, List.forall_mem_cons.mpr ⟨fo2_148, List.forall_mem_cons.mpr ⟨fo2_139, List.forall_mem_cons.mpr ⟨fo2_67, List.forall_mem_cons.mpr ⟨fo2_70, List.forall_mem_cons.mpr ⟨fo2_73, List.forall_mem_cons.mpr ⟨fo2_76, List.forall_mem_cons.mpr ⟨fo2_79, List.forall_mem_cons.mpr ⟨fo2_17, List.forall_mem_cons.mpr ⟨fo2_24, List.forall_mem_cons.mpr ⟨fo2_29, List.forall_mem_cons.mpr ⟨fo2_9, List.forall_mem_cons.mpr ⟨fo2_45, List.forall_mem_cons.mpr ⟨fo2_51, List.forall_mem_cons.mpr ⟨fo2_34, List.forall_mem_cons.mpr ⟨fo2_54, List.forall_mem_cons.mpr ⟨fo2_57, List.forall_mem_cons.mpr ⟨fo2_60, List.forall_mem_cons.mpr ⟨fo2_63, List.forall_mem_cons.mpr ⟨fo2_38, fun _ h => absurd h List.not_mem_nil⟩⟩⟩⟩⟩⟩⟩⟩⟩⟩⟩⟩⟩⟩⟩⟩⟩⟩⟩⟩⟩
def fl3 : List (Nat × Nat × Nat) := [(9, 3, 0), (18, 3, 1), (42, 3, 2), (32, 3, 3), (45, 3, 4), (70, 3, 5), (48, 3, 6), (51, 3, 7), (29, 3, 8), (54, 3, 9), (15, 3, 10), (57, 3, 11)]
theorem fl3_ok : ∀ e ∈ fl3, FO RX3 e.1 e.2.1 e.2.2 := List.forall_mem_cons.mpr ⟨fo3_9, List.forall_mem_cons.mpr ⟨fo3_18, List.forall_mem_cons.mpr ⟨fo3_42, List.forall_mem_cons.mpr ⟨fo3_32, List.forall_mem_cons.mpr ⟨fo3_45, List.forall_mem_cons.mpr ⟨fo3_70, List.forall_mem_cons.mpr ⟨fo3_48, List.forall_mem_cons.mpr ⟨fo3_51, List.forall_mem_cons.mpr ⟨fo3_29, List.forall_mem_cons.mpr ⟨fo3_54, List.forall_mem_cons.mpr ⟨fo3_15, List.forall_mem_cons.mpr ⟨fo3_57, fun _ h => absurd h List.not_mem_nil⟩⟩⟩⟩⟩⟩⟩⟩⟩⟩⟩⟩
def fl4 : List (Nat × Nat × Nat) := [(9, 4, 0), (15, 4, 1), (19, 4, 2)]
theorem fl4_ok : ∀ e ∈ fl4, FO RX4 e.1 e.2.1 e.2.2 := List.forall_mem_cons.mpr ⟨fo4_9, List.forall_mem_cons.mpr ⟨fo4_15, List.forall_mem_cons.mpr ⟨fo4_19, fun _ h => absurd h List.not_mem_nil⟩⟩⟩
def fl5 : List (Nat × Nat × Nat) := [(10, 5, 2), (19, 5, 3)]
theorem fl5_ok : ∀ e ∈ fl5, FO RX5 e.1 e.2.1 e.2.2 := List.forall_mem_cons.mpr ⟨fo5_10, List.forall_mem_cons.mpr ⟨fo5_19, fun _ h => absurd h List.not_mem_nil⟩⟩
def fl6 : List (Nat × Nat × Nat) := [(9, 6, 0), (15, 6, 1), (18, 6, 2), (21, 6, 3), (24, 6, 4), (27, 6, 5), (30, 3, 8), (36, 3, 9), (42, 3, 10), (39, 3, 11)]
theorem fl6_ok : ∀ e ∈ fl6, FO RX6 e.1 e.2.1 e.2.2 := List.forall_mem_cons.mpr ⟨fo6_9, List.forall_mem_cons.mpr ⟨fo6_15, List.forall_mem_cons.mpr ⟨fo6_18, List.forall_mem_cons.mpr ⟨fo6_21, List.forall_mem_cons.mpr ⟨fo6_24, List.forall_mem_cons.mpr ⟨fo6_27, List.forall_mem_cons.mpr ⟨fo6_30, List.forall_mem_cons.mpr ⟨fo6_36, List.forall_mem_cons.mpr ⟨fo6_42, List.forall_mem_cons.mpr ⟨fo6_39, fun _ h => absurd h List.not_mem_nil⟩⟩⟩⟩⟩⟩⟩⟩⟩⟩
def fl7 : List (Nat × Nat × Nat) := [(243, 6, 0), (246, 6, 1), (228, 3, 1), (132, 0, 0), (135, 0, 1), (127, 0, 2), (91, 1, 0), (96, 1, 1), (99, 1, 2), (102, 1, 3), (105, 1, 4), (123, 2, 0), (87, 2, 1), (249, 2, 2), (76, 2, 4), (237, 2, 5), (147, 2, 6), (150, 2, 7), (175, 2, 8), (178, 2, 9), (168, 2, 10), (162, 2, 11), (264, 4, 0), (261, 4, 1), (269, 4, 2), (289, 5, 0), (306, 5, 1), (292, 5, 2), (299, 5, 3), (10, 7, 0), (19, 7, 1), (28, 7, 2), (32, 7, 3), (35, 7, 4), (40, 7, 5), (47, 7, 6), (52, 7, 7), (56, 7, 8), (60, 7, 9)]
theorem fl7_ok : ∀ e ∈ fl7, FO RX7 e.1 e.2.1 e.2.2 := List.forall_mem_cons.mpr ⟨fo7_243, List.forall_mem_cons.mpr ⟨fo7_246, List.forall_mem_cons.mpr ⟨fo7_228, List.forall_mem_cons.mpr ⟨fo7_132, List.forall_mem_cons.mpr ⟨fo7_135, List.forall_mem_cons.mpr ⟨fo7_127, List.forall_mem_cons.mpr ⟨fo7_91, List.forall_mem_cons.mpr ⟨fo7_96, List.forall_mem_cons.mpr ⟨fo7_99, List.forall_mem_cons.mpr ⟨fo7_102, List.forall_mem_cons.mpr ⟨fo7_105, List.forall_mem_cons.mpr ⟨fo7_123, List.forall_mem_cons.mpr ⟨fo7_87, List.forall_mem_cons.mpr ⟨fo7_249, List.forall_mem_cons.mpr ⟨fo7_76, List.forall_mem_cons.mpr ⟨fo7_237, List.forall_mem_cons.mpr ⟨fo7_147, List.forall_mem_cons.mpr ⟨fo7_150, List.forall_mem_cons.mpr ⟨fo7_175, List.forall_mem_cons.mpr ⟨fo7_178, List.forall_mem_cons.mpr ⟨fo7_168, List.forall_mem_cons.mpr ⟨fo7_162, List.forall_mem_cons.mpr ⟨fo7_264, List.forall_mem_cons.mpr ⟨fo7_261, List.forall_mem_cons.mpr ⟨fo7_269, List.forall_mem_cons.mpr ⟨fo7_289, List.forall_mem_cons.mpr ⟨fo7_306, List.forall_mem_cons.mpr ⟨fo7_292, List.forall_mem_cons.mpr ⟨fo7_299, List.forall_mem_cons.mpr ⟨fo7_10, List.forall_mem_cons.mpr ⟨fo7_19, List.forall_mem_cons.mpr ⟨fo7_28, List.forall_mem_cons.mpr ⟨fo7_32, List.forall_mem_cons.mpr ⟨fo7_35, List.forall_mem_cons.mpr ⟨fo7_40, List.forall_mem_cons.mpr ⟨fo7_47, List.forall_mem_cons.mpr ⟨fo7_52, List.forall_mem_cons.mpr ⟨fo7_56, List.forall_mem_cons.mpr ⟨fo7_60, fun _ h => absurd h List.not_mem_nil⟩⟩⟩⟩⟩⟩⟩⟩⟩⟩⟩⟩⟩⟩⟩⟩⟩⟩⟩⟩⟩⟩⟩⟩⟩⟩⟩⟩⟩⟩⟩⟩⟩⟩⟩⟩⟩⟩⟩
def fl8 : List (Nat × Nat × Nat) := [(9, 8, 0), (13, 8, 1), (16, 8, 2), (292, 8, 3), (19, 8, 4), (22, 8, 5), (213, 8, 6), (217, 8, 7), (220, 8, 8), (226, 8, 9), (232, 8, 10), (223, 8, 11), (238, 8, 12), (25, 8, 13), (29, 8, 14), (32, 8, 15), (250, 8, 16), (256, 8, 17), (35, 8, 18), (244, 8, 19), (38, 8, 20), (42, 8, 21), (45, 8, 22), (48, 8, 23), (51, 8, 24), (54, 8, 25), (57, 8, 26), (60, 8, 27), (63, 8, 28), (66, 8, 29), (69, 8, 30), (72, 8, 31), (289, 8, 32)]
theorem fl8_ok : ∀ e ∈ fl8, FO RX8 e.1 e.2.1 e.2.2 := List.forall_mem_cons.mpr ⟨fo8_9, List.forall_mem_cons.mpr ⟨fo8_13, List.forall_mem_cons.mpr ⟨fo8_16, List.forall_mem_cons.mpr ⟨fo8_292, List.forall_mem_cons.mpr ⟨fo8_19, List.forall_mem_cons.mpr ⟨fo8_22, List.forall_mem_cons.mpr ⟨fo8_213, List.forall_mem_cons.mpr ⟨fo8_217, List.forall_mem_cons.mpr ⟨fo8_220, List.forall_mem_cons.mpr ⟨fo8_226, List.forall_mem_cons.mpr ⟨fo8_232, List.forall_mem_cons.mpr ⟨fo8_223, List.forall_mem_cons.mpr ⟨fo8_238, List.forall_mem_cons.mpr ⟨fo8_25, List.forall_mem_cons.mpr ⟨fo8_29, List.forall_mem_cons.mpr ⟨fo8_32, List.forall_mem_cons.mpr ⟨fo8_250, List.forall_mem_cons.mpr ⟨fo8_256, List.forall_mem_cons.mpr ⟨fo8_35, List.forall_mem_cons.mpr ⟨fo8_244, List.forall_mem_cons.mpr ⟨fo8_38, List.forall_mem_cons.mpr ⟨fo8_42, List.forall_mem_cons.mpr ⟨fo8_45, List.forall_mem_cons.mpr ⟨fo8_48, List.forall_mem_cons.mpr ⟨fo8_51, List.forall_mem_cons.mpr ⟨fo8_54, List.forall_mem_cons.mpr ⟨fo8_57, List.forall_mem_cons.mpr ⟨fo8_60, List.forall_mem_cons.mpr ⟨fo8_63, List.forall_mem_cons.mpr ⟨fo8_66, List.forall_mem_cons.mpr ⟨fo8_69, List.forall_mem_cons.mpr ⟨fo8_72, List.forall_mem_cons.mpr ⟨fo8_289, fun _ h => absurd h List.not_mem_nil⟩⟩⟩⟩⟩⟩⟩⟩⟩⟩⟩⟩⟩⟩⟩⟩⟩⟩⟩⟩⟩⟩⟩⟩⟩⟩⟩⟩⟩⟩⟩⟩⟩
def flA : List (List (Nat × Nat × Nat)) := [fl0, fl1, fl2, fl3, fl4, fl5, fl6, fl7, fl8]
def lk : List (Nat × Nat × Nat) → Nat → Option (Nat × Nat)
  | [], _ => none
  | e :: t, i => match Nat.beq e.1 i with
    | true => some e.2
    | false => lk t i
def fl (o idx : Nat) : Option (Nat × Nat) := lk (nth flA o []) idx
theorem lk_mem : ∀ {l : List (Nat × Nat × Nat)} {i : Nat} {q : Nat × Nat}, lk l i = some q → (i, q) ∈ l
  | [], _, _, h => by simp [lk] at h
  | e :: t, i, q, h => by
    unfold lk at h
    cases hb : Nat.beq e.1 i with
    | true =>
      rw [hb] at h
      have h1 : e.1 = i := Nat.eq_of_beq_eq_true hb
      have h2 : e.2 = q := Option.some.inj h
      rw [← h1, ← h2]
      exact List.mem_cons_self
    | false =>
      rw [hb] at h
      exact List.mem_cons_of_mem _ (lk_mem h)
theorem fl_ok {o idx t kf : Nat} (ho : o < 9) (h : fl o idx = some (t, kf)) : FO (cnm o) idx t kf := by
  unfold fl at h
  have hm := lk_mem h
  match o, ho, hm with
  | 0, _, hm => exact fl0_ok _ hm
  | 1, _, hm => exact fl1_ok _ hm
  | 2, _, hm => exact fl2_ok _ hm
  | 3, _, hm => exact fl3_ok _ hm
  | 4, _, hm => exact fl4_ok _ hm
  | 5, _, hm => exact fl5_ok _ hm
  | 6, _, hm => exact fl6_ok _ hm
  | 7, _, hm => exact fl7_ok _ hm
  | 8, _, hm => exact fl8_ok _ hm
  | o + 9, ho, _ => exact absurd ho (by omega)
/-- the fields of ints that aren't final, by classes -/
def fiL : List (List Bool) := [[true, true, true], [true, true, true, true, true], [false, false, false, false, true, true, true, true, true, true, true, true], [false, true, true, true, true, false, true, true, true, true, false, true], [false, true, true], [true, true, false, false], [false, false, false, false, false, false], [false, false, false, false, false, false, false, false, true, false], [false, false, false, false, false, false, true, true, true, true, true, true, true, false, false, false, true, true, false, true, false, false, false, false, false, false, false, false, false, false, false, false, true]]
def fI (t kf : Nat) : Bool := nth (nth fiL t []) kf false
theorem fi0 : ∀ kf, kf < 3 → nth (nth fiL 0 []) kf false = true → (TX0 kf).2.2.2 = false ∧ parseFieldDescriptor (TX0 kf).2.2.1 = some .int := by decide +kernel
theorem fi1 : ∀ kf, kf < 5 → nth (nth fiL 1 []) kf false = true → (TX1 kf).2.2.2 = false ∧ parseFieldDescriptor (TX1 kf).2.2.1 = some .int := by decide +kernel
theorem fi2 : ∀ kf, kf < 12 → nth (nth fiL 2 []) kf false = true → (TX2 kf).2.2.2 = false ∧ parseFieldDescriptor (TX2 kf).2.2.1 = some .int := by decide +kernel
theorem fi3 : ∀ kf, kf < 12 → nth (nth fiL 3 []) kf false = true → (TX3 kf).2.2.2 = false ∧ parseFieldDescriptor (TX3 kf).2.2.1 = some .int := by decide +kernel
theorem fi4 : ∀ kf, kf < 3 → nth (nth fiL 4 []) kf false = true → (TX4 kf).2.2.2 = false ∧ parseFieldDescriptor (TX4 kf).2.2.1 = some .int := by decide +kernel
theorem fi5 : ∀ kf, kf < 4 → nth (nth fiL 5 []) kf false = true → (TX5 kf).2.2.2 = false ∧ parseFieldDescriptor (TX5 kf).2.2.1 = some .int := by decide +kernel
theorem fi6 : ∀ kf, kf < 6 → nth (nth fiL 6 []) kf false = true → (TX6 kf).2.2.2 = false ∧ parseFieldDescriptor (TX6 kf).2.2.1 = some .int := by decide +kernel
theorem fi7 : ∀ kf, kf < 10 → nth (nth fiL 7 []) kf false = true → (TX7 kf).2.2.2 = false ∧ parseFieldDescriptor (TX7 kf).2.2.1 = some .int := by decide +kernel
theorem fi8 : ∀ kf, kf < 33 → nth (nth fiL 8 []) kf false = true → (TX8 kf).2.2.2 = false ∧ parseFieldDescriptor (TX8 kf).2.2.1 = some .int := by decide +kernel
theorem fI_ok {t kf : Nat} (ht : t < 9) (h : fI t kf = true) {C : String} {T : u_T} {N : Nat} (hc : vwCl[t]? = some (C, T, N)) (hk : kf < N) : (T kf).2.2.2 = false ∧ parseFieldDescriptor (T kf).2.2.1 = some .int := by
  match t, ht, hc, h with
  | 0, _, hc, h => cases hc; exact fi0 kf hk h
  | 1, _, hc, h => cases hc; exact fi1 kf hk h
  | 2, _, hc, h => cases hc; exact fi2 kf hk h
  | 3, _, hc, h => cases hc; exact fi3 kf hk h
  | 4, _, hc, h => cases hc; exact fi4 kf hk h
  | 5, _, hc, h => cases hc; exact fi5 kf hk h
  | 6, _, hc, h => cases hc; exact fi6 kf hk h
  | 7, _, hc, h => cases hc; exact fi7 kf hk h
  | 8, _, hc, h => cases hc; exact fi8 kf hk h
  | t + 9, ht, _, _ => exact absurd ht (by omega)
/-- the pools' ints -/
def ko0 : List (Nat × Int) := []
theorem ko0_ok : ∀ e ∈ ko0, Cond.constant (cnm 0) e.1 (Int32.ofInt e.2) ∈ tbG := fun _ h => absurd h List.not_mem_nil
def ko1 : List (Nat × Int) := []
theorem ko1_ok : ∀ e ∈ ko1, Cond.constant (cnm 1) e.1 (Int32.ofInt e.2) ∈ tbG := fun _ h => absurd h List.not_mem_nil
def ko2 : List (Nat × Int) := [(33, -1000000005), (66, -1000000003), (90, 1103515245)]
theorem ko2_ok : ∀ e ∈ ko2, Cond.constant (cnm 2) e.1 (Int32.ofInt e.2) ∈ tbG := List.forall_mem_cons.mpr ⟨tbG_of 215 (by decide +kernel) (by decide +kernel), List.forall_mem_cons.mpr ⟨tbG_of 359 (by decide +kernel) (by decide +kernel), List.forall_mem_cons.mpr ⟨tbG_of 483 (by decide +kernel) (by decide +kernel), fun _ h => absurd h List.not_mem_nil⟩⟩⟩
def ko3 : List (Nat × Int) := []
theorem ko3_ok : ∀ e ∈ ko3, Cond.constant (cnm 3) e.1 (Int32.ofInt e.2) ∈ tbG := fun _ h => absurd h List.not_mem_nil
def ko4 : List (Nat × Int) := [(32, -1000000005)]
theorem ko4_ok : ∀ e ∈ ko4, Cond.constant (cnm 4) e.1 (Int32.ofInt e.2) ∈ tbG := List.forall_mem_cons.mpr ⟨tbG_of 624 (by decide +kernel) (by decide +kernel), fun _ h => absurd h List.not_mem_nil⟩
def ko5 : List (Nat × Int) := []
theorem ko5_ok : ∀ e ∈ ko5, Cond.constant (cnm 5) e.1 (Int32.ofInt e.2) ∈ tbG := fun _ h => absurd h List.not_mem_nil
def ko6 : List (Nat × Int) := []
theorem ko6_ok : ∀ e ∈ ko6, Cond.constant (cnm 6) e.1 (Int32.ofInt e.2) ∈ tbG := fun _ h => absurd h List.not_mem_nil
def ko7 : List (Nat × Int) := [(75, -1000000001), (83, -1000000003), (122, -1000000012), (194, -1000000005), (216, -1000000011), (256, -1000000014), (260, -1000000013), (267, -99999), (268, 99999), (309, -1000000002)]
theorem ko7_ok : ∀ e ∈ ko7, Cond.constant (cnm 7) e.1 (Int32.ofInt e.2) ∈ tbG := List.forall_mem_cons.mpr ⟨tbG_of 354 (by decide +kernel) (by decide +kernel), List.forall_mem_cons.mpr ⟨tbG_of 360 (by decide +kernel) (by decide +kernel), List.forall_mem_cons.mpr ⟨tbG_of 436 (by decide +kernel) (by decide +kernel), List.forall_mem_cons.mpr ⟨tbG_of 557 (by decide +kernel) (by decide +kernel), List.forall_mem_cons.mpr ⟨tbG_of 611 (by decide +kernel) (by decide +kernel), List.forall_mem_cons.mpr ⟨tbG_of 874 (by decide +kernel) (by decide +kernel), List.forall_mem_cons.mpr ⟨tbG_of 880 (by decide +kernel) (by decide +kernel), List.forall_mem_cons.mpr ⟨tbG_of 881 (by decide +kernel) (by decide +kernel), List.forall_mem_cons.mpr ⟨tbG_of 882 (by decide +kernel) (by decide +kernel), List.forall_mem_cons.mpr ⟨tbG_of 928 (by decide +kernel) (by decide +kernel), fun _ h => absurd h List.not_mem_nil⟩⟩⟩⟩⟩⟩⟩⟩⟩⟩
def ko8 : List (Nat × Int) := [(123, -1000000001), (124, -1000000003), (145, -1000000012), (158, 1103515245), (195, -1000000005), (209, -1000000011), (281, -1000000014), (282, -1000000013), (283, -99999), (284, 99999), (288, -1000000002)]
theorem ko8_ok : ∀ e ∈ ko8, Cond.constant (cnm 8) e.1 (Int32.ofInt e.2) ∈ tbG := List.forall_mem_cons.mpr ⟨tbG_of 1072 (by decide +kernel) (by decide +kernel), List.forall_mem_cons.mpr ⟨tbG_of 1073 (by decide +kernel) (by decide +kernel), List.forall_mem_cons.mpr ⟨tbG_of 1154 (by decide +kernel) (by decide +kernel), List.forall_mem_cons.mpr ⟨tbG_of 1203 (by decide +kernel) (by decide +kernel), List.forall_mem_cons.mpr ⟨tbG_of 1263 (by decide +kernel) (by decide +kernel), List.forall_mem_cons.mpr ⟨tbG_of 1303 (by decide +kernel) (by decide +kernel), List.forall_mem_cons.mpr ⟨tbG_of 1382 (by decide +kernel) (by decide +kernel), List.forall_mem_cons.mpr ⟨tbG_of 1387 (by decide +kernel) (by decide +kernel), List.forall_mem_cons.mpr ⟨tbG_of 1388 (by decide +kernel) (by decide +kernel), List.forall_mem_cons.mpr ⟨tbG_of 1389 (by decide +kernel) (by decide +kernel), List.forall_mem_cons.mpr ⟨tbG_of 1421 (by decide +kernel) (by decide +kernel), fun _ h => absurd h List.not_mem_nil⟩⟩⟩⟩⟩⟩⟩⟩⟩⟩⟩
def ko9 : List (Nat × Int) := [(265, 1431655765), (266, 858993459), (267, 252645135)]
theorem ko9_ok : ∀ e ∈ ko9, Cond.constant (cnm 9) e.1 (Int32.ofInt e.2) ∈ tbG := List.forall_mem_cons.mpr ⟨tbG_of 581 (by decide +kernel) (by decide +kernel), List.forall_mem_cons.mpr ⟨tbG_of 582 (by decide +kernel) (by decide +kernel), List.forall_mem_cons.mpr ⟨tbG_of 583 (by decide +kernel) (by decide +kernel), fun _ h => absurd h List.not_mem_nil⟩⟩⟩
def koA : List (List (Nat × Int)) := [ko0, ko1, ko2, ko3, ko4, ko5, ko6, ko7, ko8, ko9]
def lkI : List (Nat × Int) → Nat → Option Int
  | [], _ => none
  | e :: t, i => match Nat.beq e.1 i with
    | true => some e.2
    | false => lkI t i
def kon (o idx : Nat) : Option Int := lkI (nth koA o []) idx
theorem lkI_mem : ∀ {l : List (Nat × Int)} {i : Nat} {q : Int}, lkI l i = some q → (i, q) ∈ l
  | [], _, _, h => by simp [lkI] at h
  | e :: t, i, q, h => by
    unfold lkI at h
    cases hb : Nat.beq e.1 i with
    | true =>
      rw [hb] at h
      have h1 : e.1 = i := Nat.eq_of_beq_eq_true hb
      have h2 : e.2 = q := Option.some.inj h
      rw [← h1, ← h2]
      exact List.mem_cons_self
    | false =>
      rw [hb] at h
      exact List.mem_cons_of_mem _ (lkI_mem h)
theorem nth_out {α : Type} {d : α} : ∀ {l : List α} {n : Nat}, l.length ≤ n → nth l n d = d
  | [], n, _ => by simp [nth]
  | x :: t, 0, h => by simp at h
  | x :: t, n + 1, h => by rw [nth]; exact nth_out (by simpa using h)
theorem fl_lt {o idx : Nat} {q : Nat × Nat} (h : fl o idx = some q) : o < 9 := by
  rcases Nat.lt_or_ge o 9 with h1 | h1
  · exact h1
  · unfold fl at h
    rw [nth_out (by exact h1)] at h
    simp [lk] at h
theorem kon_lt {o idx : Nat} {q : Int} (h : kon o idx = some q) : o < 10 := by
  rcases Nat.lt_or_ge o 10 with h1 | h1
  · exact h1
  · unfold kon at h
    rw [nth_out (by exact h1)] at h
    simp [lkI] at h
theorem kon_ok {o idx : Nat} {v : Int} (ho : o < 10) (h : kon o idx = some v) : Cond.constant (cnm o) idx (Int32.ofInt v) ∈ tbG := by
  unfold kon at h
  have hm := lkI_mem h
  match o, ho, hm with
  | 0, _, hm => exact ko0_ok _ hm
  | 1, _, hm => exact ko1_ok _ hm
  | 2, _, hm => exact ko2_ok _ hm
  | 3, _, hm => exact ko3_ok _ hm
  | 4, _, hm => exact ko4_ok _ hm
  | 5, _, hm => exact ko5_ok _ hm
  | 6, _, hm => exact ko6_ok _ hm
  | 7, _, hm => exact ko7_ok _ hm
  | 8, _, hm => exact ko8_ok _ hm
  | 9, _, hm => exact ko9_ok _ hm
  | o + 10, ho, _ => exact absurd ho (by omega)
