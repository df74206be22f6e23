/-! NUMBERS: io z, the int of z; reading a written memory; loops as folds -/
def io (z : Int) : Int32 := Int32.ofInt z
/-- an equation that simp must not take for a definition's -/
theorem nrf {α : Type} {a b : α} (h : a = b) : a = b := h
theorem io_add (a b : Int) : io a + io b = io (a + b) := (Int32.ofInt_add a b).symm
theorem io_mul (a b : Int) : io a * io b = io (a * b) := (Int32.ofInt_mul a b).symm
theorem io_sub (a b : Int) : io a - io b = io (a - b) := (Int32.ofInt_sub a b).symm
theorem io_toInt {a : Int} (h1 : -2147483648 ≤ a) (h2 : a < 2147483648) : (io a).toInt = a := by
  unfold io
  rw [Int32.toInt_ofInt]
  have e : (Int32.size : Int) = 4294967296 := rfl
  exact Int.bmod_eq_of_le (by rw [e]; omega) (by rw [e]; omega)
theorem io_of (x : Int32) : x = io x.toInt := by
  unfold io
  simp
theorem io_lt {a b : Int} (a1 : -2147483648 ≤ a) (a2 : a < 2147483648) (b1 : -2147483648 ≤ b) (b2 : b < 2147483648) : io a < io b ↔ a < b := by
  rw [Int32.lt_iff_toInt_lt, io_toInt a1 a2, io_toInt b1 b2]
theorem io_le {a b : Int} (a1 : -2147483648 ≤ a) (a2 : a < 2147483648) (b1 : -2147483648 ≤ b) (b2 : b < 2147483648) : io a ≤ io b ↔ a ≤ b := by
  rw [Int32.le_iff_toInt_le, io_toInt a1 a2, io_toInt b1 b2]
theorem io_eq {a b : Int} (a1 : -2147483648 ≤ a) (a2 : a < 2147483648) (b1 : -2147483648 ≤ b) (b2 : b < 2147483648) : io a = io b ↔ a = b := by
  constructor
  · intro h
    have := congrArg Int32.toInt h
    rw [io_toInt a1 a2, io_toInt b1 b2] at this
    exact this
  · intro h; rw [h]
theorem io_nat {a : Int} (a1 : 0 ≤ a) (a2 : a < 2147483648) : (io a).toNatClampNeg = a.toNat := by
  show (io a).toInt.toNat = a.toNat
  rw [io_toInt (by omega) a2]
theorem io_ix {k : Nat} (h : k < 2147483648) : (io (k : Int)).toNatClampNeg = k := by
  rw [io_nat (by omega) (by omega)]
  simp
theorem nI_io (n : Nat) : nI n = io (n : Int) := rfl
/-- a guard of an index, for an int and for a place -/
theorem io_in {a : Int} {n : Nat} (a1 : -2147483648 ≤ a) (a2 : a < 2147483648) (hn : n < 2147483648) : ¬ (io a < 0 ∨ n ≤ (io a).toNatClampNeg) ↔ 0 ≤ a ∧ a < (n : Int) := by
  rw [show (0 : Int32) = io 0 from rfl, io_lt a1 a2 (by decide) (by decide)]
  by_cases h0 : 0 ≤ a
  · rw [io_nat h0 a2]; omega
  · omega
theorem mu_s (σ : Mem) (j k : Nat) (x : Int32) : mu σ j k x j k = x := by simp [mu, upd]
theorem mu_k (σ : Mem) {j k k' : Nat} (x : Int32) (h : k' ≠ k) : mu σ j k x j k' = σ j k' := by simp [mu, upd, h]
theorem mu_j (σ : Mem) {j j' : Nat} (k : Nat) (x : Int32) (h : j' ≠ j) : mu σ j k x j' = σ j' := by simp [mu, h]
theorem mu_r (σ : Mem) (j k : Nat) (x : Int32) (j' k' : Nat) : mu σ j k x j' k' = if j' = j ∧ k' = k then x else σ j' k' := by
  by_cases h1 : j' = j
  · subst h1
    by_cases h2 : k' = k
    · subst h2; simp [mu, upd]
    · simp [mu, upd, h2]
  · simp [mu, h1]
/-- a boolean answer -/
def BR (x : Option Int32) (P : Prop) : Prop := ∃ r : Int32, x = some r ∧ ((r = 1 ∧ P) ∨ (r = 0 ∧ ¬ P))
theorem BR.t {P : Prop} (h : P) : BR (some 1) P := ⟨1, rfl, Or.inl ⟨rfl, h⟩⟩
theorem BR.f {P : Prop} (h : ¬ P) : BR (some 0) P := ⟨0, rfl, Or.inr ⟨rfl, h⟩⟩
theorem BR.iff {x : Option Int32} {P Q : Prop} (h : BR x P) (e : P ↔ Q) : BR x Q := by
  obtain ⟨r, h1, h2⟩ := h
  exact ⟨r, h1, by rcases h2 with ⟨h, p⟩ | ⟨h, p⟩; exact Or.inl ⟨h, e.mp p⟩; exact Or.inr ⟨h, fun q => p (e.mpr q)⟩⟩
def anyN : Nat → (Nat → Bool) → Bool
  | 0, _ => false
  | n + 1, p => anyN n p || p n
theorem anyN_iff {n : Nat} {p : Nat → Bool} : anyN n p = true ↔ ∃ i, i < n ∧ p i = true := by
  induction n with
  | zero => simp [anyN]
  | succ n ih =>
    rw [anyN, Bool.or_eq_true, ih]
    constructor
    · rintro (⟨i, h1, h2⟩ | h)
      · exact ⟨i, by omega, h2⟩
      · exact ⟨n, by omega, h⟩
    · rintro ⟨i, h1, h2⟩
      by_cases he : i = n
      · subst he; exact Or.inr h2
      · exact Or.inl ⟨i, by omega, h2⟩
def foldN {α : Type} : Nat → (Nat → α → α) → α → α
  | 0, _, a => a
  | n + 1, f, a => f n (foldN n f a)
def bi (b : Bool) : Int32 := if b then 1 else 0
theorem n0 : (0 : Int32) = io 0 := nrf rfl
theorem n1 : (1 : Int32) = io 1 := nrf rfl
theorem n2 : (2 : Int32) = io 2 := nrf rfl
theorem n3 : (3 : Int32) = io 3 := nrf rfl
theorem n4 : (4 : Int32) = io 4 := nrf rfl
theorem n5 : (5 : Int32) = io 5 := nrf rfl
theorem n6 : (6 : Int32) = io 6 := nrf rfl
theorem n7 : (7 : Int32) = io 7 := nrf rfl
theorem n8 : (8 : Int32) = io 8 := nrf rfl
theorem n9 : (9 : Int32) = io 9 := nrf rfl
theorem n10 : (10 : Int32) = io 10 := nrf rfl
theorem n11 : (11 : Int32) = io 11 := nrf rfl
theorem n12 : (12 : Int32) = io 12 := nrf rfl
theorem n13 : (13 : Int32) = io 13 := nrf rfl
theorem n14 : (14 : Int32) = io 14 := nrf rfl
theorem n15 : (15 : Int32) = io 15 := nrf rfl
theorem n16 : (16 : Int32) = io 16 := nrf rfl
theorem n17 : (17 : Int32) = io 17 := nrf rfl
theorem n18 : (18 : Int32) = io 18 := nrf rfl
theorem n19 : (19 : Int32) = io 19 := nrf rfl
theorem n20 : (20 : Int32) = io 20 := nrf rfl
theorem n21 : (21 : Int32) = io 21 := nrf rfl
theorem n22 : (22 : Int32) = io 22 := nrf rfl
theorem n23 : (23 : Int32) = io 23 := nrf rfl
theorem n24 : (24 : Int32) = io 24 := nrf rfl
theorem n25 : (25 : Int32) = io 25 := nrf rfl
theorem n26 : (26 : Int32) = io 26 := nrf rfl
theorem n27 : (27 : Int32) = io 27 := nrf rfl
theorem n28 : (28 : Int32) = io 28 := nrf rfl
theorem n29 : (29 : Int32) = io 29 := nrf rfl
theorem n30 : (30 : Int32) = io 30 := nrf rfl
theorem n31 : (31 : Int32) = io 31 := nrf rfl
theorem n32 : (32 : Int32) = io 32 := nrf rfl
theorem n33 : (33 : Int32) = io 33 := nrf rfl
theorem n34 : (34 : Int32) = io 34 := nrf rfl
theorem n35 : (35 : Int32) = io 35 := nrf rfl
theorem n36 : (36 : Int32) = io 36 := nrf rfl
theorem n37 : (37 : Int32) = io 37 := nrf rfl
theorem n38 : (38 : Int32) = io 38 := nrf rfl
theorem n39 : (39 : Int32) = io 39 := nrf rfl
theorem n40 : (40 : Int32) = io 40 := nrf rfl
theorem n41 : (41 : Int32) = io 41 := nrf rfl
theorem n42 : (42 : Int32) = io 42 := nrf rfl
theorem n43 : (43 : Int32) = io 43 := nrf rfl
theorem n44 : (44 : Int32) = io 44 := nrf rfl
theorem n45 : (45 : Int32) = io 45 := nrf rfl
theorem n46 : (46 : Int32) = io 46 := nrf rfl
theorem n47 : (47 : Int32) = io 47 := nrf rfl
theorem n48 : (48 : Int32) = io 48 := nrf rfl
theorem n49 : (49 : Int32) = io 49 := nrf rfl
theorem n50 : (50 : Int32) = io 50 := nrf rfl
theorem n51 : (51 : Int32) = io 51 := nrf rfl
theorem n52 : (52 : Int32) = io 52 := nrf rfl
theorem n53 : (53 : Int32) = io 53 := nrf rfl
theorem n54 : (54 : Int32) = io 54 := nrf rfl
theorem n55 : (55 : Int32) = io 55 := nrf rfl
theorem n56 : (56 : Int32) = io 56 := nrf rfl
theorem n57 : (57 : Int32) = io 57 := nrf rfl
theorem n58 : (58 : Int32) = io 58 := nrf rfl
theorem n59 : (59 : Int32) = io 59 := nrf rfl
theorem n60 : (60 : Int32) = io 60 := nrf rfl
theorem n61 : (61 : Int32) = io 61 := nrf rfl
theorem n62 : (62 : Int32) = io 62 := nrf rfl
theorem n63 : (63 : Int32) = io 63 := nrf rfl
theorem n64 : (64 : Int32) = io 64 := nrf rfl
theorem n65 : (65 : Int32) = io 65 := nrf rfl
theorem n66 : (66 : Int32) = io 66 := nrf rfl
theorem n97 : (97 : Int32) = io 97 := nrf rfl
theorem n99 : (99 : Int32) = io 99 := nrf rfl
theorem n100 : (100 : Int32) = io 100 := nrf rfl
theorem n103 : (103 : Int32) = io 103 := nrf rfl
theorem n107 : (107 : Int32) = io 107 := nrf rfl
theorem n111 : (111 : Int32) = io 111 := nrf rfl
theorem n116 : (116 : Int32) = io 116 := nrf rfl
theorem n117 : (117 : Int32) = io 117 := nrf rfl
theorem n119 : (119 : Int32) = io 119 := nrf rfl
theorem n126 : (126 : Int32) = io 126 := nrf rfl
theorem n200 : (200 : Int32) = io 200 := nrf rfl
theorem n359 : (359 : Int32) = io 359 := nrf rfl
theorem n360 : (360 : Int32) = io 360 := nrf rfl
theorem n999 : (999 : Int32) = io 999 := nrf rfl
theorem n1000 : (1000 : Int32) = io 1000 := nrf rfl
theorem n9999 : (9999 : Int32) = io 9999 := nrf rfl
theorem n65521 : (65521 : Int32) = io 65521 := nrf rfl
theorem n99999 : (99999 : Int32) = io 99999 := nrf rfl
theorem n1000000 : (1000000 : Int32) = io 1000000 := nrf rfl
theorem nm1 : (-1 : Int32) = io (-1) := nrf rfl
theorem nm2 : (-2 : Int32) = io (-2) := nrf rfl
theorem nm3 : (-3 : Int32) = io (-3) := nrf rfl
theorem nm4 : (-4 : Int32) = io (-4) := nrf rfl
