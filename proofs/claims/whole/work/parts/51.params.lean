/-! THE HOUR'S NUMBERS: P 0 0 trains, P 0 1 users, P 0 2 closings, P 0 3 beats of the gates, P 0 4 a stop's cost, P 0 5 patience, P 0 6 going round; P 1 dues, P 2 kinds, P 3 comings, P 4 sorts, P 5 lates, P 6 froms, P 7 tos, P 8 worths -/
abbrev PS : Type := Nat → Nat → Nat
def PB (P : PS) : Prop := 1 ≤ P 0 0 ∧ P 0 0 ≤ 6 ∧ P 0 1 ≤ 8 ∧ P 0 2 ≤ 6 ∧ 1 ≤ P 0 3 ∧ P 0 3 ≤ 9 ∧ P 0 4 ≤ 99 ∧ 1 ≤ P 0 5 ∧ P 0 5 ≤ 99 ∧ P 0 6 ≤ 99 ∧ ∀ i, P 1 i ≤ 59 ∧ P 2 i ≤ 2 ∧ P 3 i ≤ 59 ∧ P 4 i ≤ 3 ∧ P 5 i ≤ 30 ∧ P 6 i ≤ 60 ∧ P 7 i ≤ 60 ∧ P 8 i ≤ 9
/-- the reference holds P -/
def PM (σ : Mem) (P : PS) : Prop := (σ 3 0 = io (P 0 0) ∧ σ 6 0 = io (P 0 1) ∧ σ 17 6 = io (P 0 2) ∧ σ 9 0 = io (P 0 3) ∧ σ 9 1 = io (P 0 4) ∧ σ 9 2 = io (P 0 5) ∧ σ 9 3 = io (P 0 6)) ∧ (∀ i, i < P 0 0 → σ 4 i = io (P 1 i) ∧ σ 5 i = io (P 2 i)) ∧ (∀ i, i < P 0 1 → σ 7 i = io (P 3 i) ∧ σ 8 i = io (P 4 i)) ∧ (∀ i, i < 6 → σ 17 i = io (P 5 i)) ∧ (∀ k, k < P 0 2 → σ 17 (7 + k) = io (P 6 k) ∧ σ 17 (13 + k) = io (P 7 k)) ∧ (∀ k, k < 4 → σ 10 k = io (P 8 k))
def come (P : PS) (i : Nat) : Int := 6 * ((P 1 i : Int) + P 5 i)
def bellB (P : PS) (i : Nat) : Int := if P 2 i = 2 then 360 else if come P i - (if P 2 i = 0 then 66 else 36) < 0 then 0 else come P i - (if P 2 i = 0 then 66 else 36)
theorem in_ix {i n : Nat} (h : i < n) (hn : n < 2147483648) : ¬ (io (i : Int) < 0 ∨ n ≤ (io (i : Int)).toNatClampNeg) := (io_in (by omega) (by omega) hn).mpr ⟨by omega, by omega⟩
section RefPure
variable {σ : Mem} {P : PS}
theorem m_comesAt (hB : PB P) (hP : PM σ P) {i : Nat} (hi : i < P 0 0) : f7_comesAt σ (io i) = some (io (come P i)) := by
  have h6 := hB.2.1
  unfold f7_comesAt
  rw [if_pos (in_ix (n := 12) (by omega) (by decide)), if_pos (in_ix (n := 19) (by omega) (by decide)), io_ix (by omega), (hP.2.1 i hi).1, hP.2.2.2.1 i (by omega), io_add, show (6 : Int32) = io 6 from rfl, io_mul]
  rfl
theorem m_bellOf (hB : PB P) (hP : PM σ P) {i : Nat} (hi : i < P 0 0) : f7_bellOf σ (io i) = some (io (bellB P i)) := by
  have h6 := hB.2.1
  have hr := hB.2.2.2.2.2.2.2.2.2.2 i
  have key : ∀ z : Int, (z = 66 ∨ z = 36) → f7_bellOf_b16 σ (io i) (io z) = some (io (if P 2 i = 2 then 360 else if come P i - z < 0 then 0 else come P i - z)) := by
    intro z hz
    unfold f7_bellOf_b16
    rw [m_comesAt hB hP hi]
    show (if _ then _ else _) = _
    rw [if_pos (in_ix (n := 12) (by omega) (by decide)), io_ix (by omega), (hP.2.1 i hi).2, show (2 : Int32) = io 2 from rfl]
    have hc : come P i = 6 * ((P 1 i : Int) + P 5 i) := rfl
    by_cases h2 : P 2 i = 2
    · rw [if_pos (by rw [h2]; rfl), if_pos h2]; rfl
    · rw [if_neg (by rw [io_eq (by omega) (by omega) (by omega) (by omega)]; omega), if_neg h2, io_sub, show (0 : Int32) = io 0 from rfl]
      by_cases h3 : come P i - z < 0
      · rw [if_neg (by rw [io_le (by omega) (by omega) (by omega) (by omega)]; omega), if_pos h3]
      · rw [if_pos (by rw [io_le (by omega) (by omega) (by omega) (by omega)]; omega), if_neg h3]
  unfold f7_bellOf
  rw [if_pos (in_ix (n := 12) (by omega) (by decide)), io_ix (by omega), (hP.2.1 i hi).2]
  unfold bellB
  by_cases h0 : P 2 i = 0
  · rw [if_pos (by rw [h0]; rfl), show (66 : Int32) = io 66 from rfl, key 66 (Or.inl rfl), if_pos h0]
  · rw [if_neg (by rw [show (0 : Int32) = io 0 from rfl, io_eq (by omega) (by omega) (by omega) (by omega)]; omega), show (36 : Int32) = io 36 from rfl, key 36 (Or.inr rfl), if_neg h0]
end RefPure
