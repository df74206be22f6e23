/-! THE HOUR'S STATE S: S 0 0 gates, S 0 1 moved, S 0 2 closing, S 0 3 stopped, S 0 4 road free from; S 1 began, S 2 stops, S 3 crosses, S 4 waits, S 5 round, S 6 gates at the end of each beat -/
abbrev SS : Type := Nat → Nat → Int
/-- bounds of what trains are -/
def BG (S : SS) : Prop := ∀ i, i < 6 → -4 ≤ S 1 i ∧ S 1 i ≤ 359
def passedB (S : SS) (i : Nat) (b : Int) : Bool := decide (0 ≤ S 1 i ∧ S 1 i + 2 < b)
def passing (P : PS) (S : SS) (b : Int) : Bool := anyN (P 0 0) (fun i => decide (0 ≤ S 1 i ∧ b ≤ S 1 i + 2))
def planB (P : PS) (b : Int) : Bool := anyN (P 0 2) (fun k => decide (6 * (P 6 k : Int) ≤ b ∧ b < 6 * (P 7 k : Int)))
def inBellB (P : PS) (S : SS) (b : Int) : Bool := anyN (P 0 0) (fun i => decide (bellB P i ≤ b) && !passedB S i b)
def sightB (P : PS) (S : SS) (b : Int) : Bool := passing P S b || decide (S 0 3 = 1)
def waitB (P : PS) (S : SS) (b : Int) : Bool := anyN (P 0 0) (fun i => decide (P 2 i ≠ 2) && !passedB S i b && decide (b ≤ 6 * (P 1 i : Int) ∧ 6 * (P 1 i : Int) ≤ b + 24))
def leadB (P : PS) (S : SS) (b n : Int) : Bool := anyN (P 0 0) (fun i => decide (come P i - n ≤ b) && !passedB S i b)
def wantsB (P : PS) (S : SS) (rule n b : Int) : Bool := if rule = 0 then planB P b else if rule = 1 then inBellB P S b else if rule = 2 then sightB P S b else if rule = 3 then inBellB P S b || sightB P S b || waitB P S b else leadB P S b n
theorem bi_01 (a : Bool) : bi a = 0 ∨ bi a = 1 := by cases a <;> simp [bi]
theorem bi_t : bi true = 1 := rfl
theorem bi_f : bi false = 0 := rfl
theorem any_loop (F : Nat → Int32 → Int32 → Option Int32) (N : Nat) (p : Nat → Bool) (hend : ∀ n a, F (n + 1) (bi a) (io N) = some (bi a)) (hstep : ∀ n i a, i < N → F (n + 1) (bi a) (io i) = F n (bi (a || p i)) (io ((i : Int) + 1))) : ∀ n, N < n → F n 0 0 = some (bi (anyN N p)) := by
  have key : ∀ k i n, i + k = N → k < n → F n (bi (anyN i p)) (io i) = some (bi (anyN N p)) := by
    intro k
    induction k with
    | zero =>
      intro i n h1 h2
      obtain ⟨n, rfl⟩ : ∃ m, n = m + 1 := ⟨n - 1, by omega⟩
      have : i = N := by omega
      subst this
      exact hend n _
    | succ k ih =>
      intro i n h1 h2
      obtain ⟨n, rfl⟩ : ∃ m, n = m + 1 := ⟨n - 1, by omega⟩
      rw [hstep n i _ (by omega)]
      exact ih (i + 1) n (by omega) (by omega)
  intro n hn
  exact key N 0 n (by omega) hn
section RefQ
variable {σ : Mem} {P : PS} {S : SS}
theorem m_hasPassed (hS : ∀ i, i < 6 → σ 28 i = io (S 1 i)) (hG : BG S) {i : Nat} (hi : i < 6) {b : Int} (b0 : 0 ≤ b) (b1 : b < 400) : f7_hasPassed σ (io i) (io b) = some (bi (passedB S i b)) := by
  have hg := hG i hi
  unfold f7_hasPassed passedB
  rw [if_pos (in_ix hi (by decide)), if_pos (in_ix hi (by decide)), io_ix (by omega), hS i hi]
  simp (disch := omega) only [n0, n2, io_add, io_lt, io_le]
  by_cases h1 : S 1 i < 0
  · rw [if_pos h1, decide_eq_false (by omega)]; rfl
  · rw [if_neg h1]
    by_cases h2 : b ≤ S 1 i + 2
    · rw [if_pos h2, decide_eq_false (by omega)]; rfl
    · rw [if_neg h2, decide_eq_true (by omega)]; rfl
theorem m_isPassing (hB : PB P) (hP : PM σ P) (hS : ∀ i, i < 6 → σ 28 i = io (S 1 i)) (hG : BG S) {b : Int} (b0 : 0 ≤ b) (b1 : b < 400) : f7_isPassing σ (io b) = some (bi (passing P S b)) := by
  have h6 := hB.2.1
  unfold f7_isPassing passing
  refine any_loop (fun n a i => f7_isPassing_b4 σ n (io b) a i) (P 0 0) _ (fun n a => ?_) (fun n i a hi => ?_) 1000 (by omega)
  · show f7_isPassing_b4 σ (n + 1) _ _ _ = _
    rw [f7_isPassing_b4, hP.1.1, if_pos (Int32.le_refl _), if_pos (bi_01 a)]
  · show f7_isPassing_b4 σ (n + 1) _ _ _ = f7_isPassing_b4 σ n _ _ _
    have hg := hG i (by omega)
    rw [f7_isPassing_b4, hP.1.1]
    have e1 : io (i : Int) + 1 = io ((i : Int) + 1) := io_add _ 1
    have g6 := in_ix (i := i) (n := 6) (by omega) (by decide)
    rw [if_neg (by rw [io_le (by omega) (by omega) (by omega) (by omega)]; omega), e1]
    cases a with
    | true => rw [if_neg (by decide)]; rfl
    | false =>
      rw [if_pos (by decide), if_pos g6, if_pos g6, io_ix (by omega), hS i (by omega)]
      simp (disch := omega) only [n0, n2, io_add, io_lt]
      by_cases h1 : S 1 i < 0
      · rw [if_pos h1, Bool.false_or, decide_eq_false (by omega)]; rfl
      · rw [if_neg h1]
        by_cases h2 : S 1 i + 2 < b
        · rw [if_pos h2, Bool.false_or, decide_eq_false (by omega)]; rfl
        · rw [if_neg h2, Bool.false_or, decide_eq_true (by omega)]; rfl
end RefQ
