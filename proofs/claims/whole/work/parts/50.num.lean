/-! NUMBERS: io z, the int of z; reading a written memory; loops as folds -/
def io (z : Int) : Int32 := Int32.ofInt z
theorem io_add (a b : Int) : io a + io b = io (a + b) := (Int32.ofInt_add a b).symm
theorem io_mul (a b : Int) : io a * io b = io (a * b) := (Int32.ofInt_mul a b).symm
theorem io_sub (a b : Int) : io a - io b = io (a - b) := (Int32.ofInt_sub a b).symm
theorem io_toInt {a : Int} (h1 : -2147483648 ≤ a) (h2 : a < 2147483648) : (io a).toInt = a := by
  unfold io
  rw [Int32.toInt_ofInt]
  have e : (Int32.size : Int) = 4294967296 := rfl
  exact Int.bmod_eq_of_le (by rw [e]; omega) (by rw [e]; omega)
theorem io_of (x : Int32) : x = io x.toInt := by
  unfold io
  simp
theorem io_lt {a b : Int} (a1 : -2147483648 ≤ a) (a2 : a < 2147483648) (b1 : -2147483648 ≤ b) (b2 : b < 2147483648) : io a < io b ↔ a < b := by
  rw [Int32.lt_iff_toInt_lt, io_toInt a1 a2, io_toInt b1 b2]
theorem io_le {a b : Int} (a1 : -2147483648 ≤ a) (a2 : a < 2147483648) (b1 : -2147483648 ≤ b) (b2 : b < 2147483648) : io a ≤ io b ↔ a ≤ b := by
  rw [Int32.le_iff_toInt_le, io_toInt a1 a2, io_toInt b1 b2]
theorem io_eq {a b : Int} (a1 : -2147483648 ≤ a) (a2 : a < 2147483648) (b1 : -2147483648 ≤ b) (b2 : b < 2147483648) : io a = io b ↔ a = b := by
  constructor
  · intro h
    have := congrArg Int32.toInt h
    rw [io_toInt a1 a2, io_toInt b1 b2] at this
    exact this
  · intro h; rw [h]
theorem io_nat {a : Int} (a1 : 0 ≤ a) (a2 : a < 2147483648) : (io a).toNatClampNeg = a.toNat := by
  show (io a).toInt.toNat = a.toNat
  rw [io_toInt (by omega) a2]
theorem io_ix {k : Nat} (h : k < 2147483648) : (io (k : Int)).toNatClampNeg = k := by
  rw [io_nat (by omega) (by omega)]
  simp
theorem nI_io (n : Nat) : nI n = io (n : Int) := rfl
/-- a guard of an index, for an int and for a place -/
theorem io_in {a : Int} {n : Nat} (a1 : -2147483648 ≤ a) (a2 : a < 2147483648) (hn : n < 2147483648) : ¬ (io a < 0 ∨ n ≤ (io a).toNatClampNeg) ↔ 0 ≤ a ∧ a < (n : Int) := by
  rw [show (0 : Int32) = io 0 from rfl, io_lt a1 a2 (by decide) (by decide)]
  by_cases h0 : 0 ≤ a
  · rw [io_nat h0 a2]; omega
  · omega
theorem mu_s (σ : Mem) (j k : Nat) (x : Int32) : mu σ j k x j k = x := by simp [mu, upd]
theorem mu_k (σ : Mem) {j k k' : Nat} (x : Int32) (h : k' ≠ k) : mu σ j k x j k' = σ j k' := by simp [mu, upd, h]
theorem mu_j (σ : Mem) {j j' : Nat} (k : Nat) (x : Int32) (h : j' ≠ j) : mu σ j k x j' = σ j' := by simp [mu, h]
theorem mu_r (σ : Mem) (j k : Nat) (x : Int32) (j' k' : Nat) : mu σ j k x j' k' = if j' = j ∧ k' = k then x else σ j' k' := by
  by_cases h1 : j' = j
  · subst h1
    by_cases h2 : k' = k
    · subst h2; simp [mu, upd]
    · simp [mu, upd, h2]
  · simp [mu, h1]
/-- a boolean answer -/
def BR (x : Option Int32) (P : Prop) : Prop := ∃ r : Int32, x = some r ∧ ((r = 1 ∧ P) ∨ (r = 0 ∧ ¬ P))
theorem BR.t {P : Prop} (h : P) : BR (some 1) P := ⟨1, rfl, Or.inl ⟨rfl, h⟩⟩
theorem BR.f {P : Prop} (h : ¬ P) : BR (some 0) P := ⟨0, rfl, Or.inr ⟨rfl, h⟩⟩
theorem BR.iff {x : Option Int32} {P Q : Prop} (h : BR x P) (e : P ↔ Q) : BR x Q := by
  obtain ⟨r, h1, h2⟩ := h
  exact ⟨r, h1, by rcases h2 with ⟨h, p⟩ | ⟨h, p⟩; exact Or.inl ⟨h, e.mp p⟩; exact Or.inr ⟨h, fun q => p (e.mpr q)⟩⟩
def anyN : Nat → (Nat → Bool) → Bool
  | 0, _ => false
  | n + 1, p => anyN n p || p n
theorem anyN_iff {n : Nat} {p : Nat → Bool} : anyN n p = true ↔ ∃ i, i < n ∧ p i = true := by
  induction n with
  | zero => simp [anyN]
  | succ n ih =>
    rw [anyN, Bool.or_eq_true, ih]
    constructor
    · rintro (⟨i, h1, h2⟩ | h)
      · exact ⟨i, by omega, h2⟩
      · exact ⟨n, by omega, h⟩
    · rintro ⟨i, h1, h2⟩
      by_cases he : i = n
      · subst he; exact Or.inr h2
      · exact Or.inl ⟨i, by omega, h2⟩
def foldN {α : Type} : Nat → (Nat → α → α) → α → α
  | 0, _, a => a
  | n + 1, f, a => f n (foldN n f a)
def bi (b : Bool) : Int32 := if b then 1 else 0
