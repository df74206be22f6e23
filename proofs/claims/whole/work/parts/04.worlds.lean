/-! THE WORLDS. The component: 139 cells, laid out object by object; the reference: its object (0) and the array of slot k (k + 1). -/
def kdC : List Nat := [6, 5, 8, 0, 2, 8, 8, 2, 8, 8, 2, 8, 8, 2, 8, 8, 8, 0, 2, 8, 8, 2, 8, 8, 2, 8, 8, 2, 8, 8, 8, 4, 2, 8, 8, 8, 4, 2, 8, 8, 8, 10, 1, 8, 8, 8, 8, 8, 8, 8, 1, 8, 8, 8, 8, 8, 8, 8, 1, 8, 8, 8, 8, 8, 8, 8, 1, 8, 8, 8, 8, 8, 8, 8, 1, 8, 8, 8, 8, 8, 8, 8, 3, 11, 4, 2, 8, 8, 8, 4, 2, 8, 8, 8, 4, 2, 8, 8, 8, 4, 2, 8, 8, 8, 4, 2, 8, 8, 8, 4, 2, 8, 8, 8, 4, 2, 8, 8, 8, 4, 2, 8, 8, 8, 3, 11, 4, 2, 8, 8, 8, 4, 2, 8, 8, 8, 2, 8, 8]
def lnC (j : Nat) : Nat := ([0, 0, 200, 0, 0, 8, 8, 0, 8, 8, 0, 8, 8, 0, 8, 8, 4, 0, 0, 8, 8, 0, 8, 8, 0, 8, 8, 0, 8, 8, 4, 0, 0, 8, 8, 6, 0, 0, 8, 8, 6, 4, 0, 360, 6, 6, 6, 6, 8, 8, 0, 360, 6, 6, 6, 6, 8, 8, 0, 360, 6, 6, 6, 6, 8, 8, 0, 360, 6, 6, 6, 6, 8, 8, 0, 360, 6, 6, 6, 6, 8, 8, 0, 8, 0, 0, 8, 8, 6, 0, 0, 8, 8, 6, 0, 0, 8, 8, 6, 0, 0, 8, 8, 6, 0, 0, 8, 8, 6, 0, 0, 8, 8, 6, 0, 0, 8, 8, 6, 0, 0, 8, 8, 6, 0, 2, 0, 0, 8, 8, 6, 0, 0, 8, 8, 6, 0, 8, 8] : List Nat).getD j 0
def hst (h : Nat) : Nat := if h = 74 then 36 else 31
abbrev bookL : List Nat := [3, 17]
abbrev hourL : List Nat := [42, 50, 58, 66, 74]
abbrev pairsL : List Nat := [4, 7, 10, 13, 18, 21, 24, 27, 32, 37, 85, 90, 95, 100, 105, 110, 115, 120, 127, 132, 136]
abbrev pileL : List Nat := [82, 124]
abbrev standL : List Nat := [31, 36, 84, 89, 94, 99, 104, 109, 114, 119, 126, 131]
abbrev textL : List Nat := [1]
abbrev gatesL : List Nat := [0]
def EC : EV := fun w j s => match kdC.getD j 99 with
  | 0 => .inr (0, [.ref (w.2.2 (j + 1)), .ref (w.2.2 (j + 4)), .ref (w.2.2 (j + 7)), .ref (w.2.2 (j + 10)), .ref (w.2.2 (j + 13)), .int (s 5), .int (s 6), .int (s 7), .int (s 8)])
  | 1 => .inr (1, [.ref (w.2.2 (3)), .ref (w.2.2 (hst j)), .ref (w.2.2 (j + 1)), .ref (w.2.2 (j + 2)), .ref (w.2.2 (j + 3)), .ref (w.2.2 (j + 4)), .ref (w.2.2 (j + 5)), .ref (w.2.2 (j + 6)), .ref (w.2.2 (j + 7)), .int (s 9), .int (s 10), .int (s 11), .int (s 12), .int (s 13), .int (s 14), .int (s 15), .int (s 16), .int (s 17), .int (s 18)])
  | 2 => .inr (2, [.ref (w.2.2 (j + 1)), .ref (w.2.2 (j + 2)), .int (s 2), .int (s 3)])
  | 3 => .inr (3, [.ref (w.2.2 (j + 1)), .int (s 1)])
  | 4 => .inr (4, [.ref (w.2.2 (j + 1)), .ref (w.2.2 (j + 4))])
  | 5 => .inr (5, [.ref (w.2.2 (j + 1)), .int (s 1), .int (s 2)])
  | 6 => .inr (6, [.ref (w.2.2 (1)), .ref (w.2.2 (3)), .ref (w.2.2 (17)), .ref (w.2.2 (31)), .ref (w.2.2 (36)), .ref (w.2.2 (41)), .ref (w.2.2 (74)), .ref (w.2.2 (82)), .ref (w.2.2 (124)), .ref (w.2.2 (136)), .int (s 10), .int (s 11), .int (s 12)])
  | 10 => .inl (w.2.1 2, 4, .inr (.inr (.inr (.inr (fun i => some (w.2.2 (42 + 8 * i)))))))
  | 11 => .inl (w.2.1 3, lnC j, .inr (.inr (.inr (.inr (fun i => some (w.2.2 ((s i).toNatClampNeg)))))))
  | _ => .inl (w.2.1 0, lnC j, .inl s)
abbrev LC : List Nat := List.range 139
def lnM (j : Nat) : Nat := ([0, 0, 200, 2, 12, 12, 2, 16, 16, 8, 8, 2, 12, 12, 2, 10, 10, 19, 152, 0, 38, 0, 0, 8, 8, 0, 2, 360, 6, 6, 8, 8, 8, 0, 0, 0, 0, 0, 6] : List Nat).getD j 0
abbrev LM : List Nat := [0, 2, 3, 4, 5, 6, 7, 8, 9, 10, 11, 12, 13, 14, 15, 16, 17, 18, 20, 23, 24, 26, 27, 28, 29, 30, 31, 32, 38]
def EM : EV := fun w j s => match j with
  | 0 => .inr (7, [.int (s 0), .ref (w.2.2 (2)), .ref (w.2.2 (3)), .ref (w.2.2 (4)), .ref (w.2.2 (5)), .ref (w.2.2 (6)), .ref (w.2.2 (7)), .ref (w.2.2 (8)), .ref (w.2.2 (9)), .ref (w.2.2 (10)), .ref (w.2.2 (11)), .ref (w.2.2 (12)), .ref (w.2.2 (13)), .ref (w.2.2 (14)), .ref (w.2.2 (15)), .ref (w.2.2 (16)), .ref (w.2.2 (17)), .ref (w.2.2 (18)), .int (s 18), .ref (w.2.2 (20)), .int (s 20), .int (s 21), .ref (w.2.2 (23)), .ref (w.2.2 (24)), .int (s 24), .ref (w.2.2 (26)), .ref (w.2.2 (27)), .ref (w.2.2 (28)), .ref (w.2.2 (29)), .ref (w.2.2 (30)), .ref (w.2.2 (31)), .ref (w.2.2 (32)), .int (s 32), .int (s 33), .int (s 34), .int (s 35), .int (s 36), .ref (w.2.2 (38))])
  | 32 => .inl (w.2.1 1, lnM 32, .inl s)
  | j => .inl (w.2.1 0, lnM j, .inl s)
set_option maxRecDepth 20000 in
theorem ok_0 : ∀ h, h ∈ bookL → h ∈ LC := by
  intro h hh
  simp only [bookL, List.mem_cons, List.not_mem_nil, or_false] at hh
  rcases hh with rfl | rfl <;> first | decide | (intros; rfl)
set_option maxRecDepth 20000 in
theorem eC_0 : ∀ h, h ∈ bookL → ∀ (w : WV) (s : Nat → Int32), EC w h s = .inr (0, [.ref (w.2.2 (h + 1)), .ref (w.2.2 (h + 4)), .ref (w.2.2 (h + 7)), .ref (w.2.2 (h + 10)), .ref (w.2.2 (h + 13)), .int (s 5), .int (s 6), .int (s 7), .int (s 8)]) := by
  intro h hh
  simp only [bookL, List.mem_cons, List.not_mem_nil, or_false] at hh
  rcases hh with rfl | rfl <;> first | decide | (intros; rfl)
set_option maxRecDepth 20000 in
theorem in_0_0 : ∀ h, h ∈ bookL → h + 1 ∈ pairsL := by
  intro h hh
  simp only [bookL, List.mem_cons, List.not_mem_nil, or_false] at hh
  rcases hh with rfl | rfl <;> first | decide | (intros; rfl)
set_option maxRecDepth 20000 in
theorem in_0_1 : ∀ h, h ∈ bookL → h + 4 ∈ pairsL := by
  intro h hh
  simp only [bookL, List.mem_cons, List.not_mem_nil, or_false] at hh
  rcases hh with rfl | rfl <;> first | decide | (intros; rfl)
set_option maxRecDepth 20000 in
theorem in_0_2 : ∀ h, h ∈ bookL → h + 7 ∈ pairsL := by
  intro h hh
  simp only [bookL, List.mem_cons, List.not_mem_nil, or_false] at hh
  rcases hh with rfl | rfl <;> first | decide | (intros; rfl)
set_option maxRecDepth 20000 in
theorem in_0_3 : ∀ h, h ∈ bookL → h + 10 ∈ pairsL := by
  intro h hh
  simp only [bookL, List.mem_cons, List.not_mem_nil, or_false] at hh
  rcases hh with rfl | rfl <;> first | decide | (intros; rfl)
set_option maxRecDepth 20000 in
theorem oa_0_4 : ∀ h, h ∈ bookL → h + 13 ∈ LC := by
  intro h hh
  simp only [bookL, List.mem_cons, List.not_mem_nil, or_false] at hh
  rcases hh with rfl | rfl <;> first | decide | (intros; rfl)
set_option maxRecDepth 20000 in
theorem ea_0_4 : ∀ h, h ∈ bookL → ∀ (w : WV) (s : Nat → Int32), EC w (h + 13) s = .inl (w.2.1 0, 4, .inl s) := by
  intro h hh
  simp only [bookL, List.mem_cons, List.not_mem_nil, or_false] at hh
  rcases hh with rfl | rfl <;> first | decide | (intros; rfl)
set_option maxRecDepth 20000 in
theorem ok_1 : ∀ h, h ∈ hourL → h ∈ LC := by
  intro h hh
  simp only [hourL, List.mem_cons, List.not_mem_nil, or_false] at hh
  rcases hh with rfl | rfl | rfl | rfl | rfl <;> first | decide | (intros; rfl)
set_option maxRecDepth 20000 in
theorem eC_1 : ∀ h, h ∈ hourL → ∀ (w : WV) (s : Nat → Int32), EC w h s = .inr (1, [.ref (w.2.2 (3)), .ref (w.2.2 (hst h)), .ref (w.2.2 (h + 1)), .ref (w.2.2 (h + 2)), .ref (w.2.2 (h + 3)), .ref (w.2.2 (h + 4)), .ref (w.2.2 (h + 5)), .ref (w.2.2 (h + 6)), .ref (w.2.2 (h + 7)), .int (s 9), .int (s 10), .int (s 11), .int (s 12), .int (s 13), .int (s 14), .int (s 15), .int (s 16), .int (s 17), .int (s 18)]) := by
  intro h hh
  simp only [hourL, List.mem_cons, List.not_mem_nil, or_false] at hh
  rcases hh with rfl | rfl | rfl | rfl | rfl <;> first | decide | (intros; rfl)
set_option maxRecDepth 20000 in
theorem in_1_0 : ∀ h, h ∈ hourL → 3 ∈ bookL := by
  intro h hh
  simp only [hourL, List.mem_cons, List.not_mem_nil, or_false] at hh
  rcases hh with rfl | rfl | rfl | rfl | rfl <;> first | decide | (intros; rfl)
set_option maxRecDepth 20000 in
theorem in_1_1 : ∀ h, h ∈ hourL → hst h ∈ standL := by
  intro h hh
  simp only [hourL, List.mem_cons, List.not_mem_nil, or_false] at hh
  rcases hh with rfl | rfl | rfl | rfl | rfl <;> first | decide | (intros; rfl)
set_option maxRecDepth 20000 in
theorem oa_1_2 : ∀ h, h ∈ hourL → h + 1 ∈ LC := by
  intro h hh
  simp only [hourL, List.mem_cons, List.not_mem_nil, or_false] at hh
  rcases hh with rfl | rfl | rfl | rfl | rfl <;> first | decide | (intros; rfl)
set_option maxRecDepth 20000 in
theorem ea_1_2 : ∀ h, h ∈ hourL → ∀ (w : WV) (s : Nat → Int32), EC w (h + 1) s = .inl (w.2.1 0, 360, .inl s) := by
  intro h hh
  simp only [hourL, List.mem_cons, List.not_mem_nil, or_false] at hh
  rcases hh with rfl | rfl | rfl | rfl | rfl <;> first | decide | (intros; rfl)
set_option maxRecDepth 20000 in
theorem oa_1_3 : ∀ h, h ∈ hourL → h + 2 ∈ LC := by
  intro h hh
  simp only [hourL, List.mem_cons, List.not_mem_nil, or_false] at hh
  rcases hh with rfl | rfl | rfl | rfl | rfl <;> first | decide | (intros; rfl)
set_option maxRecDepth 20000 in
theorem ea_1_3 : ∀ h, h ∈ hourL → ∀ (w : WV) (s : Nat → Int32), EC w (h + 2) s = .inl (w.2.1 0, 6, .inl s) := by
  intro h hh
  simp only [hourL, List.mem_cons, List.not_mem_nil, or_false] at hh
  rcases hh with rfl | rfl | rfl | rfl | rfl <;> first | decide | (intros; rfl)
set_option maxRecDepth 20000 in
theorem oa_1_4 : ∀ h, h ∈ hourL → h + 3 ∈ LC := by
  intro h hh
  simp only [hourL, List.mem_cons, List.not_mem_nil, or_false] at hh
  rcases hh with rfl | rfl | rfl | rfl | rfl <;> first | decide | (intros; rfl)
set_option maxRecDepth 20000 in
theorem ea_1_4 : ∀ h, h ∈ hourL → ∀ (w : WV) (s : Nat → Int32), EC w (h + 3) s = .inl (w.2.1 0, 6, .inl s) := by
  intro h hh
  simp only [hourL, List.mem_cons, List.not_mem_nil, or_false] at hh
  rcases hh with rfl | rfl | rfl | rfl | rfl <;> first | decide | (intros; rfl)
set_option maxRecDepth 20000 in
theorem oa_1_5 : ∀ h, h ∈ hourL → h + 4 ∈ LC := by
  intro h hh
  simp only [hourL, List.mem_cons, List.not_mem_nil, or_false] at hh
  rcases hh with rfl | rfl | rfl | rfl | rfl <;> first | decide | (intros; rfl)
set_option maxRecDepth 20000 in
theorem ea_1_5 : ∀ h, h ∈ hourL → ∀ (w : WV) (s : Nat → Int32), EC w (h + 4) s = .inl (w.2.1 0, 6, .inl s) := by
  intro h hh
  simp only [hourL, List.mem_cons, List.not_mem_nil, or_false] at hh
  rcases hh with rfl | rfl | rfl | rfl | rfl <;> first | decide | (intros; rfl)
set_option maxRecDepth 20000 in
theorem oa_1_6 : ∀ h, h ∈ hourL → h + 5 ∈ LC := by
  intro h hh
  simp only [hourL, List.mem_cons, List.not_mem_nil, or_false] at hh
  rcases hh with rfl | rfl | rfl | rfl | rfl <;> first | decide | (intros; rfl)
set_option maxRecDepth 20000 in
theorem ea_1_6 : ∀ h, h ∈ hourL → ∀ (w : WV) (s : Nat → Int32), EC w (h + 5) s = .inl (w.2.1 0, 6, .inl s) := by
  intro h hh
  simp only [hourL, List.mem_cons, List.not_mem_nil, or_false] at hh
  rcases hh with rfl | rfl | rfl | rfl | rfl <;> first | decide | (intros; rfl)
set_option maxRecDepth 20000 in
theorem oa_1_7 : ∀ h, h ∈ hourL → h + 6 ∈ LC := by
  intro h hh
  simp only [hourL, List.mem_cons, List.not_mem_nil, or_false] at hh
  rcases hh with rfl | rfl | rfl | rfl | rfl <;> first | decide | (intros; rfl)
set_option maxRecDepth 20000 in
theorem ea_1_7 : ∀ h, h ∈ hourL → ∀ (w : WV) (s : Nat → Int32), EC w (h + 6) s = .inl (w.2.1 0, 8, .inl s) := by
  intro h hh
  simp only [hourL, List.mem_cons, List.not_mem_nil, or_false] at hh
  rcases hh with rfl | rfl | rfl | rfl | rfl <;> first | decide | (intros; rfl)
set_option maxRecDepth 20000 in
theorem oa_1_8 : ∀ h, h ∈ hourL → h + 7 ∈ LC := by
  intro h hh
  simp only [hourL, List.mem_cons, List.not_mem_nil, or_false] at hh
  rcases hh with rfl | rfl | rfl | rfl | rfl <;> first | decide | (intros; rfl)
set_option maxRecDepth 20000 in
theorem ea_1_8 : ∀ h, h ∈ hourL → ∀ (w : WV) (s : Nat → Int32), EC w (h + 7) s = .inl (w.2.1 0, 8, .inl s) := by
  intro h hh
  simp only [hourL, List.mem_cons, List.not_mem_nil, or_false] at hh
  rcases hh with rfl | rfl | rfl | rfl | rfl <;> first | decide | (intros; rfl)
set_option maxRecDepth 20000 in
theorem ok_2 : ∀ h, h ∈ pairsL → h ∈ LC := by
  intro h hh
  simp only [pairsL, List.mem_cons, List.not_mem_nil, or_false] at hh
  rcases hh with rfl | rfl | rfl | rfl | rfl | rfl | rfl | rfl | rfl | rfl | rfl | rfl | rfl | rfl | rfl | rfl | rfl | rfl | rfl | rfl | rfl <;> first | decide | (intros; rfl)
set_option maxRecDepth 20000 in
theorem eC_2 : ∀ h, h ∈ pairsL → ∀ (w : WV) (s : Nat → Int32), EC w h s = .inr (2, [.ref (w.2.2 (h + 1)), .ref (w.2.2 (h + 2)), .int (s 2), .int (s 3)]) := by
  intro h hh
  simp only [pairsL, List.mem_cons, List.not_mem_nil, or_false] at hh
  rcases hh with rfl | rfl | rfl | rfl | rfl | rfl | rfl | rfl | rfl | rfl | rfl | rfl | rfl | rfl | rfl | rfl | rfl | rfl | rfl | rfl | rfl <;> first | decide | (intros; rfl)
set_option maxRecDepth 20000 in
theorem oa_2_0 : ∀ h, h ∈ pairsL → h + 1 ∈ LC := by
  intro h hh
  simp only [pairsL, List.mem_cons, List.not_mem_nil, or_false] at hh
  rcases hh with rfl | rfl | rfl | rfl | rfl | rfl | rfl | rfl | rfl | rfl | rfl | rfl | rfl | rfl | rfl | rfl | rfl | rfl | rfl | rfl | rfl <;> first | decide | (intros; rfl)
set_option maxRecDepth 20000 in
theorem ea_2_0 : ∀ h, h ∈ pairsL → ∀ (w : WV) (s : Nat → Int32), EC w (h + 1) s = .inl (w.2.1 0, 8, .inl s) := by
  intro h hh
  simp only [pairsL, List.mem_cons, List.not_mem_nil, or_false] at hh
  rcases hh with rfl | rfl | rfl | rfl | rfl | rfl | rfl | rfl | rfl | rfl | rfl | rfl | rfl | rfl | rfl | rfl | rfl | rfl | rfl | rfl | rfl <;> first | decide | (intros; rfl)
set_option maxRecDepth 20000 in
theorem oa_2_1 : ∀ h, h ∈ pairsL → h + 2 ∈ LC := by
  intro h hh
  simp only [pairsL, List.mem_cons, List.not_mem_nil, or_false] at hh
  rcases hh with rfl | rfl | rfl | rfl | rfl | rfl | rfl | rfl | rfl | rfl | rfl | rfl | rfl | rfl | rfl | rfl | rfl | rfl | rfl | rfl | rfl <;> first | decide | (intros; rfl)
set_option maxRecDepth 20000 in
theorem ea_2_1 : ∀ h, h ∈ pairsL → ∀ (w : WV) (s : Nat → Int32), EC w (h + 2) s = .inl (w.2.1 0, 8, .inl s) := by
  intro h hh
  simp only [pairsL, List.mem_cons, List.not_mem_nil, or_false] at hh
  rcases hh with rfl | rfl | rfl | rfl | rfl | rfl | rfl | rfl | rfl | rfl | rfl | rfl | rfl | rfl | rfl | rfl | rfl | rfl | rfl | rfl | rfl <;> first | decide | (intros; rfl)
set_option maxRecDepth 20000 in
theorem ok_3 : ∀ h, h ∈ pileL → h ∈ LC := by
  intro h hh
  simp only [pileL, List.mem_cons, List.not_mem_nil, or_false] at hh
  rcases hh with rfl | rfl <;> first | decide | (intros; rfl)
set_option maxRecDepth 20000 in
theorem eC_3 : ∀ h, h ∈ pileL → ∀ (w : WV) (s : Nat → Int32), EC w h s = .inr (3, [.ref (w.2.2 (h + 1)), .int (s 1)]) := by
  intro h hh
  simp only [pileL, List.mem_cons, List.not_mem_nil, or_false] at hh
  rcases hh with rfl | rfl <;> first | decide | (intros; rfl)
set_option maxRecDepth 20000 in
theorem oa_3_0 : ∀ h, h ∈ pileL → h + 1 ∈ LC := by
  intro h hh
  simp only [pileL, List.mem_cons, List.not_mem_nil, or_false] at hh
  rcases hh with rfl | rfl <;> first | decide | (intros; rfl)
set_option maxRecDepth 20000 in
theorem ea_3_0 : ∀ h, h ∈ pileL → ∀ (w : WV) (s : Nat → Int32), EC w (h + 1) s = .inl (w.2.1 3, lnC (h + 1), .inr (.inr (.inr (.inr (fun i => some (w.2.2 ((s i).toNatClampNeg))))))) := by
  intro h hh
  simp only [pileL, List.mem_cons, List.not_mem_nil, or_false] at hh
  rcases hh with rfl | rfl <;> first | decide | (intros; rfl)
set_option maxRecDepth 20000 in
theorem ok_4 : ∀ h, h ∈ standL → h ∈ LC := by
  intro h hh
  simp only [standL, List.mem_cons, List.not_mem_nil, or_false] at hh
  rcases hh with rfl | rfl | rfl | rfl | rfl | rfl | rfl | rfl | rfl | rfl | rfl | rfl <;> first | decide | (intros; rfl)
set_option maxRecDepth 20000 in
theorem eC_4 : ∀ h, h ∈ standL → ∀ (w : WV) (s : Nat → Int32), EC w h s = .inr (4, [.ref (w.2.2 (h + 1)), .ref (w.2.2 (h + 4))]) := by
  intro h hh
  simp only [standL, List.mem_cons, List.not_mem_nil, or_false] at hh
  rcases hh with rfl | rfl | rfl | rfl | rfl | rfl | rfl | rfl | rfl | rfl | rfl | rfl <;> first | decide | (intros; rfl)
set_option maxRecDepth 20000 in
theorem in_4_0 : ∀ h, h ∈ standL → h + 1 ∈ pairsL := by
  intro h hh
  simp only [standL, List.mem_cons, List.not_mem_nil, or_false] at hh
  rcases hh with rfl | rfl | rfl | rfl | rfl | rfl | rfl | rfl | rfl | rfl | rfl | rfl <;> first | decide | (intros; rfl)
set_option maxRecDepth 20000 in
theorem oa_4_1 : ∀ h, h ∈ standL → h + 4 ∈ LC := by
  intro h hh
  simp only [standL, List.mem_cons, List.not_mem_nil, or_false] at hh
  rcases hh with rfl | rfl | rfl | rfl | rfl | rfl | rfl | rfl | rfl | rfl | rfl | rfl <;> first | decide | (intros; rfl)
set_option maxRecDepth 20000 in
theorem ea_4_1 : ∀ h, h ∈ standL → ∀ (w : WV) (s : Nat → Int32), EC w (h + 4) s = .inl (w.2.1 0, 6, .inl s) := by
  intro h hh
  simp only [standL, List.mem_cons, List.not_mem_nil, or_false] at hh
  rcases hh with rfl | rfl | rfl | rfl | rfl | rfl | rfl | rfl | rfl | rfl | rfl | rfl <;> first | decide | (intros; rfl)
set_option maxRecDepth 20000 in
theorem ok_5 : ∀ h, h ∈ textL → h ∈ LC := by
  intro h hh
  simp only [textL, List.mem_cons, List.not_mem_nil, or_false] at hh
  subst hh; first | decide | (intros; rfl)
set_option maxRecDepth 20000 in
theorem eC_5 : ∀ h, h ∈ textL → ∀ (w : WV) (s : Nat → Int32), EC w h s = .inr (5, [.ref (w.2.2 (h + 1)), .int (s 1), .int (s 2)]) := by
  intro h hh
  simp only [textL, List.mem_cons, List.not_mem_nil, or_false] at hh
  subst hh; first | decide | (intros; rfl)
set_option maxRecDepth 20000 in
theorem oa_5_0 : ∀ h, h ∈ textL → h + 1 ∈ LC := by
  intro h hh
  simp only [textL, List.mem_cons, List.not_mem_nil, or_false] at hh
  subst hh; first | decide | (intros; rfl)
set_option maxRecDepth 20000 in
theorem ea_5_0 : ∀ h, h ∈ textL → ∀ (w : WV) (s : Nat → Int32), EC w (h + 1) s = .inl (w.2.1 0, 200, .inl s) := by
  intro h hh
  simp only [textL, List.mem_cons, List.not_mem_nil, or_false] at hh
  subst hh; first | decide | (intros; rfl)
theorem eC_6 : ∀ (w : WV) (s : Nat → Int32), EC w 0 s = .inr (6, [.ref (w.2.2 (1)), .ref (w.2.2 (3)), .ref (w.2.2 (17)), .ref (w.2.2 (31)), .ref (w.2.2 (36)), .ref (w.2.2 (41)), .ref (w.2.2 (74)), .ref (w.2.2 (82)), .ref (w.2.2 (124)), .ref (w.2.2 (136)), .int (s 10), .int (s 11), .int (s 12)]) := fun _ _ => rfl
theorem ea_6_5 : ∀ (w : WV) (s : Nat → Int32), EC w 41 s = .inl (w.2.1 2, 4, .inr (.inr (.inr (.inr (fun i => some (w.2.2 (42 + 8 * i))))))) := fun _ _ => rfl
theorem in_hours {i : Int32} (h : ¬ (i < 0 ∨ 4 ≤ i.toNatClampNeg)) : 42 + 8 * i.toNatClampNeg ∈ hourL := by
  have h4 : i.toNatClampNeg < 4 := Nat.not_le.mp fun q => h (Or.inr q)
  generalize i.toNatClampNeg = k at h4
  match k, h4 with
  | 0, _ => decide
  | 1, _ => decide
  | 2, _ => decide
  | 3, _ => decide
theorem eM_7 : ∀ (w : WV) (s : Nat → Int32), EM w 0 s = .inr (7, [.int (s 0), .ref (w.2.2 (2)), .ref (w.2.2 (3)), .ref (w.2.2 (4)), .ref (w.2.2 (5)), .ref (w.2.2 (6)), .ref (w.2.2 (7)), .ref (w.2.2 (8)), .ref (w.2.2 (9)), .ref (w.2.2 (10)), .ref (w.2.2 (11)), .ref (w.2.2 (12)), .ref (w.2.2 (13)), .ref (w.2.2 (14)), .ref (w.2.2 (15)), .ref (w.2.2 (16)), .ref (w.2.2 (17)), .ref (w.2.2 (18)), .int (s 18), .ref (w.2.2 (20)), .int (s 20), .int (s 21), .ref (w.2.2 (23)), .ref (w.2.2 (24)), .int (s 24), .ref (w.2.2 (26)), .ref (w.2.2 (27)), .ref (w.2.2 (28)), .ref (w.2.2 (29)), .ref (w.2.2 (30)), .ref (w.2.2 (31)), .ref (w.2.2 (32)), .int (s 32), .int (s 33), .int (s 34), .int (s 35), .int (s 36), .ref (w.2.2 (38))]) := fun _ _ => rfl
theorem eM_101 : ∀ (w : WV) (s : Nat → Int32), EM w 2 s = .inl (w.2.1 0, 200, .inl s) := fun _ _ => rfl
theorem eM_102 : ∀ (w : WV) (s : Nat → Int32), EM w 3 s = .inl (w.2.1 0, 2, .inl s) := fun _ _ => rfl
theorem eM_103 : ∀ (w : WV) (s : Nat → Int32), EM w 4 s = .inl (w.2.1 0, 12, .inl s) := fun _ _ => rfl
theorem eM_104 : ∀ (w : WV) (s : Nat → Int32), EM w 5 s = .inl (w.2.1 0, 12, .inl s) := fun _ _ => rfl
theorem eM_105 : ∀ (w : WV) (s : Nat → Int32), EM w 6 s = .inl (w.2.1 0, 2, .inl s) := fun _ _ => rfl
theorem eM_106 : ∀ (w : WV) (s : Nat → Int32), EM w 7 s = .inl (w.2.1 0, 16, .inl s) := fun _ _ => rfl
theorem eM_107 : ∀ (w : WV) (s : Nat → Int32), EM w 8 s = .inl (w.2.1 0, 16, .inl s) := fun _ _ => rfl
theorem eM_108 : ∀ (w : WV) (s : Nat → Int32), EM w 9 s = .inl (w.2.1 0, 8, .inl s) := fun _ _ => rfl
theorem eM_109 : ∀ (w : WV) (s : Nat → Int32), EM w 10 s = .inl (w.2.1 0, 8, .inl s) := fun _ _ => rfl
theorem eM_110 : ∀ (w : WV) (s : Nat → Int32), EM w 11 s = .inl (w.2.1 0, 2, .inl s) := fun _ _ => rfl
theorem eM_111 : ∀ (w : WV) (s : Nat → Int32), EM w 12 s = .inl (w.2.1 0, 12, .inl s) := fun _ _ => rfl
theorem eM_112 : ∀ (w : WV) (s : Nat → Int32), EM w 13 s = .inl (w.2.1 0, 12, .inl s) := fun _ _ => rfl
theorem eM_113 : ∀ (w : WV) (s : Nat → Int32), EM w 14 s = .inl (w.2.1 0, 2, .inl s) := fun _ _ => rfl
theorem eM_114 : ∀ (w : WV) (s : Nat → Int32), EM w 15 s = .inl (w.2.1 0, 10, .inl s) := fun _ _ => rfl
theorem eM_115 : ∀ (w : WV) (s : Nat → Int32), EM w 16 s = .inl (w.2.1 0, 10, .inl s) := fun _ _ => rfl
theorem eM_116 : ∀ (w : WV) (s : Nat → Int32), EM w 17 s = .inl (w.2.1 0, 19, .inl s) := fun _ _ => rfl
theorem eM_117 : ∀ (w : WV) (s : Nat → Int32), EM w 18 s = .inl (w.2.1 0, 152, .inl s) := fun _ _ => rfl
theorem eM_119 : ∀ (w : WV) (s : Nat → Int32), EM w 20 s = .inl (w.2.1 0, 38, .inl s) := fun _ _ => rfl
theorem eM_122 : ∀ (w : WV) (s : Nat → Int32), EM w 23 s = .inl (w.2.1 0, 8, .inl s) := fun _ _ => rfl
theorem eM_123 : ∀ (w : WV) (s : Nat → Int32), EM w 24 s = .inl (w.2.1 0, 8, .inl s) := fun _ _ => rfl
theorem eM_125 : ∀ (w : WV) (s : Nat → Int32), EM w 26 s = .inl (w.2.1 0, 2, .inl s) := fun _ _ => rfl
theorem eM_126 : ∀ (w : WV) (s : Nat → Int32), EM w 27 s = .inl (w.2.1 0, 360, .inl s) := fun _ _ => rfl
theorem eM_127 : ∀ (w : WV) (s : Nat → Int32), EM w 28 s = .inl (w.2.1 0, 6, .inl s) := fun _ _ => rfl
theorem eM_128 : ∀ (w : WV) (s : Nat → Int32), EM w 29 s = .inl (w.2.1 0, 6, .inl s) := fun _ _ => rfl
theorem eM_129 : ∀ (w : WV) (s : Nat → Int32), EM w 30 s = .inl (w.2.1 0, 8, .inl s) := fun _ _ => rfl
theorem eM_130 : ∀ (w : WV) (s : Nat → Int32), EM w 31 s = .inl (w.2.1 0, 8, .inl s) := fun _ _ => rfl
theorem eM_131 : ∀ (w : WV) (s : Nat → Int32), EM w 32 s = .inl (w.2.1 1, 8, .inl s) := fun _ _ => rfl
theorem eM_137 : ∀ (w : WV) (s : Nat → Int32), EM w 38 s = .inl (w.2.1 0, 6, .inl s) := fun _ _ => rfl
/-- a write, named -/
def bm {β : Type} (x : Mem) (f : Mem → Option β) : Option β := f x
theorem og_m {β : Type} {x : Mem} {f : Mem → Option β} {y : β} (h : bm x f = some y) : ∃ a, a = x ∧ f a = some y := ⟨x, rfl, h⟩
def ob {α β : Type} (x : Option (Mem × α)) (f : Mem → α → Option β) : Option β := match x with
  | none => none
  | some q => f q.1 q.2
theorem og_o {α β : Type} {x : Option (Mem × α)} {f : Mem → α → Option β} {y : β} (h : ob x f = some y) : ∃ a b, x = some (a, b) ∧ f a b = some y := by
  cases x with
  | none => cases h
  | some q => exact ⟨q.1, q.2, rfl, h⟩
theorem ne_toInt {x v : Int32} {n : Int} (h : ¬ x = v) (hv : v.toInt = n) : x.toInt ≠ n := fun e => h (Int32.toInt_inj.mp (e.trans hv.symm))
section Rows2
variable {p : Program} {l : Launch} {e : Env} {R : Room} {s : State} {m : MethodId} {args : Array Value} {below : List Frame} {meth : Method} {c : Code} {H : Heap} {locs : List Loc} {cells slots : Nat} {Q : State → Prop}
variable {cc : ByteArray} {pc nL : Nat} {ls : Array Slot} {rest : List Value} {E : EV} {L : List Nat} {w : WV} {σ σ' : Mem} {own : String} {v r : Int32}
theorem q_iret (S : CallFix p m c cc nL s args gtbl own) (hr : meth.sig.returnType = some .int) (hlk : meth.locks = false) (hR : Rp E L w σ H) (hS : va_S (AW L w) s.heap H locs) (h0 : some (σ, v) = some (σ', r)) (hdg : decode cc pc = .ok (.ireturn, 1)) : W p l e R s m args below meth c H locs cells slots (MQ below (Qw E L w σ' (some (.int r))) args s cells slots (AW L w)) (F0 m pc ls [.int v]) := by
  cases h0
  exact W.iret S.1 S.2.1 hr (fun t ht hW => ⟨rfl, by rw [ht]; exact hR, hS.F ht⟩) hS.2.2 hdg hlk
theorem q_zret (S : CallFix p m c cc nL s args gtbl own) (hr : meth.sig.returnType = some .boolean) (hlk : meth.locks = false) (hR : Rp E L w σ H) (hS : va_S (AW L w) s.heap H locs) (hb : v = 0 ∨ v = 1) (h0 : some (σ, v) = some (σ', r)) (hdg : decode cc pc = .ok (.ireturn, 1)) : W p l e R s m args below meth c H locs cells slots (MQ below (Qw E L w σ' (some (.int r))) args s cells slots (AW L w)) (F0 m pc ls [.int v]) := by
  cases h0
  exact W.zret S.1 S.2.1 hr (nb_n hb) (fun t ht hW => ⟨rfl, by rw [ht]; exact hR, hS.F ht⟩) hS.2.2 hdg hlk
theorem q_vret (S : CallFix p m c cc nL s args gtbl own) (hr : meth.sig.returnType = none) (hlk : meth.locks = false) (hR : Rp E L w σ H) (hS : va_S (AW L w) s.heap H locs) (h0 : some σ = some σ') (hdg : decode cc pc = .ok (.return_, 1)) : W p l e R s m args below meth c H locs cells slots (MQ below (Qw E L w σ' none) args s cells slots (AW L w)) (F0 m pc ls []) := by
  cases h0
  exact W.vret S.1 S.2.1 hr (fun t ht hW => ⟨rfl, by rw [ht]; exact hR, hS.F ht⟩) hS.2.2 hdg hlk
theorem q_aret (S : CallFix p m c cc nL s args gtbl own) {C : String} (hr : meth.sig.returnType = some (.object C)) (hlk : meth.locks = false) (hR : Rp E L w σ H) (hS : va_S (AW L w) s.heap H locs) {q q' : Nat} (h0 : some (σ, q) = some (σ', q')) (hdg : decode cc pc = .ok (.areturn, 1)) : W p l e R s m args below meth c H locs cells slots (MQ below (Qw E L w σ' (some (.ref (w.2.2 q')))) args s cells slots (AW L w)) (F0 m pc ls [.ref (w.2.2 q)]) := by
  cases h0
  exact W.aret S.1 S.2.1 hr (Or.inl ⟨_, rfl⟩) (Or.inr ⟨_, rfl⟩) (fun t ht hW => ⟨rfl, by rw [ht]; exact hR, hS.F ht⟩) hS.2.2 hdg hlk
theorem q_ipure (S : CallFix p m c cc nL s args gtbl own) (hr : meth.sig.returnType = some .int) (hlk : meth.locks = false) (h0 : some v = some r) (hdg : decode cc pc = .ok (.ireturn, 1)) : W p l e R s m args below meth c s.heap [] cells slots (MQ below (Qp (.int r)) args s cells slots (fun _ => False)) (F0 m pc ls [.int v]) := by
  cases h0
  exact W.iret S.1 S.2.1 hr (fun t ht hW => ⟨rfl, ht⟩) (fun q hq => by cases hq) hdg hlk
theorem q_zpure (S : CallFix p m c cc nL s args gtbl own) (hr : meth.sig.returnType = some .boolean) (hlk : meth.locks = false) (hb : v = 0 ∨ v = 1) (h0 : some v = some r) (hdg : decode cc pc = .ok (.ireturn, 1)) : W p l e R s m args below meth c s.heap [] cells slots (MQ below (Qp (.int r)) args s cells slots (fun _ => False)) (F0 m pc ls [.int v]) := by
  cases h0
  exact W.zret S.1 S.2.1 hr (nb_n hb) (fun t ht hW => ⟨rfl, ht⟩) (fun q hq => by cases hq) hdg hlk
theorem q_tabI (S : CallFix p m c cc nL s args gtbl own) {dflt lo hi : Int} {offs : Array Int} {len : Nat} {x v : Int32} {off : Int} {tgt : Nat} (hdg : decode cc pc = .ok (.tableswitch dflt lo hi offs, len)) (hx : x = v) (h1 : ¬ v.toInt < lo) (h2 : ¬ hi < v.toInt) (ho : offs[(v.toInt - lo).toNat]? = some off) (ht : (pc : Int) + off = (tgt : Int)) (k : W p l e R s m args below meth c H locs cells slots Q (F0 m tgt ls rest)) : W p l e R s m args below meth c H locs cells slots Q (F0 m pc ls (.int x :: rest)) := by
  subst hx
  exact lv_tableIn S.1 S.2.1 hdg h1 h2 ho ht k
theorem q_tabD (S : CallFix p m c cc nL s args gtbl own) {dflt lo hi : Int} {offs : Array Int} {len : Nat} {x : Int32} {tgt : Nat} (hdg : decode cc pc = .ok (.tableswitch dflt lo hi offs, len)) (vs : List Int) (hsz : hi - lo < (offs.size : Int)) (hall : ∀ i, i < offs.size → offs[i]? = some dflt ∨ (lo + (i : Int)) ∈ vs) (hne : ∀ v ∈ vs, x.toInt ≠ v) (ht : (pc : Int) + dflt = (tgt : Int)) (k : W p l e R s m args below meth c H locs cells slots Q (F0 m tgt ls rest)) : W p l e R s m args below meth c H locs cells slots Q (F0 m pc ls (.int x :: rest)) := by
  by_cases h1 : x.toInt < lo
  · exact lv_tableOut S.1 S.2.1 hdg (Or.inl h1) ht k
  · by_cases h2 : hi < x.toInt
    · exact lv_tableOut S.1 S.2.1 hdg (Or.inr h2) ht k
    · have hi1 : (x.toInt - lo).toNat < offs.size := by omega
      rcases hall _ hi1 with h3 | h3
      · exact lv_tableIn S.1 S.2.1 hdg h1 h2 h3 ht k
      · exact absurd (show x.toInt = lo + ((x.toInt - lo).toNat : Int) by omega) (hne _ h3)
theorem q_lokI (S : CallFix p m c cc nL s args gtbl own) {dflt : Int} {ps : Array (Int × Int)} {len : Nat} {x v : Int32} {off : Int} {tgt : Nat} (hdg : decode cc pc = .ok (.lookupswitch dflt ps, len)) (hx : x = v) (hp : (ps.toList.zip (ps.toList.drop 1)).all (fun (a, next) => a.1 < next.1) = true) (ho : Op.lookupswitch.offset ps.toList dflt v.toInt = off) (ht : (pc : Int) + off = (tgt : Int)) (k : W p l e R s m args below meth c H locs cells slots Q (F0 m tgt ls rest)) : W p l e R s m args below meth c H locs cells slots Q (F0 m pc ls (.int x :: rest)) := by
  subst hx
  exact lv_lookup S.1 S.2.1 hdg hp ho ht k
theorem q_lokD2 (S : CallFix p m c cc nL s args gtbl own) {dflt k1 o1 k2 o2 : Int} {len : Nat} {x : Int32} {tgt : Nat} (hdg : decode cc pc = .ok (.lookupswitch dflt #[(k1, o1), (k2, o2)], len)) (hp : k1 < k2) (h1 : x.toInt ≠ k1) (h2 : x.toInt ≠ k2) (ht : (pc : Int) + dflt = (tgt : Int)) (k : W p l e R s m args below meth c H locs cells slots Q (F0 m tgt ls rest)) : W p l e R s m args below meth c H locs cells slots Q (F0 m pc ls (.int x :: rest)) := by
  refine lv_lookup S.1 S.2.1 hdg (by simp [hp]) ?_ ht k
  simp [Op.lookupswitch.offset, h1, h2, Ne.symm h1, Ne.symm h2]
theorem q_ld (S : CallFix p m c cc nL s args gtbl own) {j k : Nat} (hK : KS L w s) (hR : Rp E L w σ H) (hj : j ∈ L) {n : Nat} (he : E w j (σ j) = .inl (w.2.1 0, n, .inl (σ j))) {i : Int32} (hin : vp_in i n) (hk : i.toNatClampNeg = k) (hdg : decode cc pc = .ok (.iaload, 1))
    (kk : W p l e R s m args below meth c H locs cells slots Q (F0 m (pc + 1) ls (.int (σ j k) :: rest))) : W p l e R s m args below meth c H locs cells slots Q (F0 m pc ls (.int i :: .ref (w.2.2 j) :: rest)) := by
  subst hk
  exact r_ild S hK hR hj he hin hdg kk
theorem q_st (S : CallFix p m c cc nL s args gtbl own) {j k : Nat} (hK : KS L w s) (hR : Rp E L w σ H) (hS : va_S (AW L w) s.heap H locs) (hj : j ∈ L) {n : Nat} (he : ∀ f : Nat → Int32, E w j f = .inl (w.2.1 0, n, .inl f)) {i x : Int32} (hin : vp_in i n) (hk : i.toNatClampNeg = k) (hm : σ' = mu σ j k x) (hdg : decode cc pc = .ok (.iastore, 1))
    (kk : ∀ (H1 : Heap) (locs1 : List Loc), Rp E L w σ' H1 → va_S (AW L w) s.heap H1 locs1 → W p l e R s m args below meth c H1 locs1 cells slots Q (F0 m (pc + 1) ls rest)) : W p l e R s m args below meth c H locs cells slots Q (F0 m pc ls (.int x :: .int i :: .ref (w.2.2 j) :: rest)) := by
  subst hk
  subst hm
  exact r_ist S hK hR hS hj he hin hdg kk
theorem q_zst (S : CallFix p m c cc nL s args gtbl own) {j k : Nat} (hK : KS L w s) (hR : Rp E L w σ H) (hS : va_S (AW L w) s.heap H locs) (hj : j ∈ L) {n : Nat} (he : ∀ f : Nat → Int32, E w j f = .inl (w.2.1 1, n, .inl f)) {i x : Int32} (hb : x = 0 ∨ x = 1) (hin : vp_in i n) (hk : i.toNatClampNeg = k) (hm : σ' = mu σ j k x) (hdg : decode cc pc = .ok (.bastore, 1))
    (kk : ∀ (H1 : Heap) (locs1 : List Loc), Rp E L w σ' H1 → va_S (AW L w) s.heap H1 locs1 → W p l e R s m args below meth c H1 locs1 cells slots Q (F0 m (pc + 1) ls rest)) : W p l e R s m args below meth c H locs cells slots Q (F0 m pc ls (.int x :: .int i :: .ref (w.2.2 j) :: rest)) := by
  subst hk
  subst hm
  exact r_zst S hK hR hS hj he hb hin hdg kk
end Rows2
