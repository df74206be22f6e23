/-! NORMAL FORMS: binds, guards, booleans -/
theorem obs {α β : Type} (a : α) (f : α → Option β) : Option.bind (some a) f = f a := nrf rfl
theorem obm {β : Type} (x : Mem) (f : Mem → Option β) : bm x f = f x := nrf rfl
theorem oob {α β : Type} (x : Mem) (a : α) (f : Mem → α → Option β) : ob (some (x, a)) f = f x a := nrf rfl
theorem ifg {α : Type} {a : Int} {n m : Nat} {x y : Option α} (h0 : 0 ≤ a) (h1 : m < n) : (if ¬ (a < 0 ∨ n ≤ m) then x else y) = x := if_pos (by omega)
theorem bi0 (x : Bool) : (bi x = io 0) = (x = false) := by
  cases x
  · exact eq_true rfl |>.trans (eq_true rfl).symm
  · exact (eq_false (by decide)).trans (eq_false (by decide)).symm
theorem bi1 (x : Bool) : (bi x = io 1) = (x = true) := by
  cases x
  · exact (eq_false (by decide)).trans (eq_false (by decide)).symm
  · exact eq_true rfl |>.trans (eq_true rfl).symm
theorem bi01 (x : Bool) : (x = false ∨ x = true) = True := by cases x <;> simp
theorem io_neg (a : Int) : - io a = io (-a) := (Int32.ofInt_neg a).symm
theorem toNat_c1 (i : Nat) : ((i : Int) + 1).toNat = i + 1 := by omega
theorem foldN_ext {α : Type} {n N : Nat} (h : n ≤ N) (f : Nat → α → α) (a : α) : foldN N (fun i a => if i < n then f i a else a) a = foldN n f a := by
  have key : ∀ m, m ≤ n → foldN m (fun i a => if i < n then f i a else a) a = foldN m f a := by
    intro m
    induction m with
    | zero => intro _; rfl
    | succ m ih =>
      intro hm
      show (if m < n then f m _ else _) = f m _
      rw [if_pos (by omega), ih (by omega)]
  have key2 : ∀ k, foldN (n + k) (fun i a => if i < n then f i a else a) a = foldN n f a := by
    intro k
    induction k with
    | zero => exact key n (Nat.le_refl _)
    | succ k ih =>
      show (if n + k < n then _ else _) = _
      rw [if_neg (by omega)]
      exact ih
  obtain ⟨k, rfl⟩ : ∃ k, N = n + k := ⟨N - n, by omega⟩
  exact key2 k
def sumN : Nat → (Nat → Int) → Int
  | 0, _ => 0
  | n + 1, g => sumN n g + g n
theorem foldN_sum (n : Nat) (g : Nat → Int) (a : Int) : foldN n (fun i a => a + g i) a = a + sumN n g := by
  induction n with
  | zero => simp [foldN, sumN]
  | succ n ih =>
    show foldN n _ a + g n = _
    rw [ih, sumN]
    omega
theorem sumN_congr {n : Nat} {f g : Nat → Int} (h : ∀ i, i < n → f i = g i) : sumN n f = sumN n g := by
  induction n with
  | zero => rfl
  | succ n ih => rw [sumN, sumN, ih (fun i hi => h i (by omega)), h n (by omega)]
theorem sumN_upd {n k : Nat} {f g : Nat → Int} (hk : k < n) (h : ∀ i, i < n → i ≠ k → f i = g i) : sumN n g = sumN n f + (g k - f k) := by
  induction n with
  | zero => omega
  | succ n ih =>
    rw [sumN, sumN]
    by_cases e : k = n
    · subst e
      rw [sumN_congr (fun i hi => h i (by omega) (by omega))]
      omega
    · rw [ih (by omega) (fun i hi he => h i (by omega) he), h n (by omega) (fun z => e z.symm)]
      omega
theorem sumN_le {n : Nat} {f g : Nat → Int} (h : ∀ i, i < n → f i ≤ g i) : sumN n f ≤ sumN n g := by
  induction n with
  | zero => exact Int.le_refl _
  | succ n ih =>
    rw [sumN, sumN]
    have := ih (fun i hi => h i (by omega))
    have := h n (by omega)
    omega
theorem sumN_const (n : Nat) (c : Int) : sumN n (fun _ => c) = n * c := by
  induction n with
  | zero => simp [sumN]
  | succ n ih => rw [sumN, ih, Int.natCast_succ, Int.add_mul, Int.one_mul]
