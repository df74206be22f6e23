/-! THE REFERENCE'S RULES -/
theorem i64_toInt (x : Int32) : x.toInt64.toInt = x.toInt := Int32.toInt_toInt64 x
theorem mg_lt (x y : Int64) : lg_cmp x y < 0 ↔ x.toInt < y.toInt := by
  unfold lg_cmp
  by_cases h1 : x > y
  · rw [if_pos h1]
    have := Int64.lt_iff_toInt_lt.mp h1
    constructor
    · intro h; exact absurd h (by decide)
    · intro h; omega
  · rw [if_neg h1]
    have h1' : ¬ y.toInt < x.toInt := fun h => h1 (Int64.lt_iff_toInt_lt.mpr h)
    by_cases h2 : x = y
    · rw [if_pos h2, h2]
      constructor
      · intro h; exact absurd h (by decide)
      · intro h; omega
    · rw [if_neg h2]
      have h2' : x.toInt ≠ y.toInt := fun h => h2 (Int64.toInt_inj.mp h)
      constructor
      · intro _; omega
      · intro _; decide
theorem mg_gt (x y : Int64) : 0 < lg_cmp x y ↔ y.toInt < x.toInt := by
  unfold lg_cmp
  by_cases h1 : x > y
  · rw [if_pos h1]
    have := Int64.lt_iff_toInt_lt.mp h1
    constructor
    · intro _; exact this
    · intro _; decide
  · rw [if_neg h1]
    have h1' : ¬ y.toInt < x.toInt := fun h => h1 (Int64.lt_iff_toInt_lt.mpr h)
    by_cases h2 : x = y
    · rw [if_pos h2]
      constructor
      · intro h; exact absurd h (by decide)
      · intro h; exact absurd h h1'
    · rw [if_neg h2]
      constructor
      · intro h; exact absurd h (by decide)
      · intro h; exact absurd h h1'
/-- in(v, low, high) -/
theorem m_in (x y z : Int64) : f7_in x y z = some (bi (decide (y.toInt ≤ x.toInt ∧ x.toInt ≤ z.toInt))) := by
  unfold f7_in
  by_cases h1 : x.toInt < y.toInt
  · rw [if_pos ((mg_lt x y).mpr h1), decide_eq_false (by omega)]; rfl
  · rw [if_neg (fun h => h1 ((mg_lt x y).mp h))]
    by_cases h2 : z.toInt < x.toInt
    · rw [if_pos ((mg_gt x z).mpr h2), decide_eq_false (by omega)]; rfl
    · rw [if_neg (fun h => h2 ((mg_gt x z).mp h)), decide_eq_true (by omega)]; rfl
section RefW
variable {σ : Mem} {P : PS} {S : SS}
theorem m_inPlan (hB : PB P) (hP : PM σ P) {b : Int} (b0 : 0 ≤ b) (b1 : b < 400) : f7_inPlan σ (io b) = some (bi (planB P b)) := by
  have h6 := hB.2.2.2.1
  unfold f7_inPlan planB
  refine any_loop (fun n a i => f7_inPlan_b4 σ n (io b) a i) (P 0 2) _ (fun n a => ?_) (fun n i a hi => ?_) 1000 (by omega)
  · show f7_inPlan_b4 σ (n + 1) _ _ _ = _
    rw [f7_inPlan_b4, hP.1.2.2.1, if_pos (Int32.le_refl _), if_pos (bi_01 a)]
  · show f7_inPlan_b4 σ (n + 1) _ _ _ = f7_inPlan_b4 σ n _ _ _
    have hr := hB.2.2.2.2.2.2.2.2.2.2 i
    rw [f7_inPlan_b4, hP.1.2.2.1]
    have e1 : io (i : Int) + 1 = io ((i : Int) + 1) := io_add _ 1
    have e7 : 7 + io (i : Int) = io ((7 + i : Nat) : Int) := by rw [n7, io_add]; congr 1
    have e13 : 13 + io (i : Int) = io ((13 + i : Nat) : Int) := by rw [n13, io_add]; congr 1
    rw [if_neg (by rw [io_le (by omega) (by omega) (by omega) (by omega)]; omega), e1]
    cases a with
    | true => rw [if_neg (by decide)]; rfl
    | false =>
      rw [if_pos (by decide), e7, e13, if_pos (in_ix (n := 19) (by omega) (by decide)), if_pos (in_ix (n := 19) (by omega) (by decide)), io_ix (by omega), io_ix (by omega), (hP.2.2.2.2.1 i hi).1, (hP.2.2.2.2.1 i hi).2]
      simp (disch := omega) only [n0, n6, io_mul, io_lt, io_le]
      by_cases h1 : b < 6 * (P 6 i : Int)
      · rw [if_pos h1, Bool.false_or, decide_eq_false (by omega)]; rfl
      · rw [if_neg h1]
        by_cases h2 : 6 * (P 7 i : Int) ≤ b
        · rw [if_pos h2, Bool.false_or, decide_eq_false (by omega)]; rfl
        · rw [if_neg h2, Bool.false_or, decide_eq_true (by omega)]; rfl
theorem come_lt (hB : PB P) (i : Nat) : 0 ≤ come P i ∧ come P i ≤ 534 := by
  have hr := hB.2.2.2.2.2.2.2.2.2.2 i
  unfold come
  omega
theorem bell_lt (hB : PB P) (i : Nat) : 0 ≤ bellB P i ∧ bellB P i ≤ 534 := by
  have := come_lt hB i
  unfold bellB
  repeat' (first | omega | split)
theorem m_inBell (hB : PB P) (hP : PM σ P) (hS : ∀ i, i < 6 → σ 28 i = io (S 1 i)) (hG : BG S) {b : Int} (b0 : 0 ≤ b) (b1 : b < 400) : f7_inBell σ (io b) = some (bi (inBellB P S b)) := by
  have h6 := hB.2.1
  unfold f7_inBell inBellB
  refine any_loop (fun n a i => f7_inBell_b4 σ n (io b) a i) (P 0 0) _ (fun n a => ?_) (fun n i a hi => ?_) 1000 (by omega)
  · show f7_inBell_b4 σ (n + 1) _ _ _ = _
    rw [f7_inBell_b4, hP.1.1, if_pos (Int32.le_refl _), if_pos (bi_01 a)]
  · show f7_inBell_b4 σ (n + 1) _ _ _ = f7_inBell_b4 σ n _ _ _
    have hb := bell_lt hB i
    rw [f7_inBell_b4, hP.1.1]
    have e1 : io (i : Int) + 1 = io ((i : Int) + 1) := io_add _ 1
    rw [if_neg (by rw [io_le (by omega) (by omega) (by omega) (by omega)]; omega), e1]
    cases a with
    | true => rw [if_neg (by decide)]; rfl
    | false =>
      rw [if_pos (by decide), m_bellOf hB hP hi, m_hasPassed hS hG (by omega) b0 b1]
      show (if io b < io (bellB P i) then _ else if bi (passedB S i b) = 0 then _ else _) = _
      simp (disch := omega) only [io_lt]
      by_cases h1 : b < bellB P i
      · rw [if_pos h1, decide_eq_false (by omega)]; rfl
      · rw [if_neg h1, decide_eq_true (by omega)]
        cases passedB S i b <;> rfl
theorem m_inLead (hB : PB P) (hP : PM σ P) (hS : ∀ i, i < 6 → σ 28 i = io (S 1 i)) (hG : BG S) {b n : Int} (b0 : 0 ≤ b) (b1 : b < 400) (n0' : 0 ≤ n) (n1' : n < 400) : f7_inLead σ (io b) (io n) = some (bi (leadB P S b n)) := by
  have h6 := hB.2.1
  unfold f7_inLead leadB
  refine any_loop (fun m a i => f7_inLead_b5 σ m (io b) (io n) a i) (P 0 0) _ (fun m a => ?_) (fun m i a hi => ?_) 1000 (by omega)
  · show f7_inLead_b5 σ (m + 1) _ _ _ _ = _
    rw [f7_inLead_b5, hP.1.1, if_pos (Int32.le_refl _), if_pos (bi_01 a)]
  · show f7_inLead_b5 σ (m + 1) _ _ _ _ = f7_inLead_b5 σ m _ _ _ _
    have hb := come_lt hB i
    rw [f7_inLead_b5, hP.1.1]
    have e1 : io (i : Int) + 1 = io ((i : Int) + 1) := io_add _ 1
    rw [if_neg (by rw [io_le (by omega) (by omega) (by omega) (by omega)]; omega), e1]
    cases a with
    | true => rw [if_neg (by decide)]; rfl
    | false =>
      rw [if_pos (by decide), m_comesAt hB hP hi, m_hasPassed hS hG (by omega) b0 b1]
      show (if io b < io (come P i) - io n then _ else if bi (passedB S i b) = 0 then _ else _) = _
      simp (disch := omega) only [io_sub, io_lt]
      by_cases h1 : b < come P i - n
      · rw [if_pos h1, decide_eq_false (by omega)]; rfl
      · rw [if_neg h1, decide_eq_true (by omega)]
        cases passedB S i b <;> rfl
theorem m_inWait (hB : PB P) (hP : PM σ P) (hS : ∀ i, i < 6 → σ 28 i = io (S 1 i)) (hG : BG S) {b : Int} (b0 : 0 ≤ b) (b1 : b < 400) : f7_inWait σ (io b) = some (bi (waitB P S b)) := by
  have h6 := hB.2.1
  unfold f7_inWait waitB
  refine any_loop (fun n a i => f7_inWait_b4 σ n (io b) a i) (P 0 0) _ (fun n a => ?_) (fun n i a hi => ?_) 1000 (by omega)
  · show f7_inWait_b4 σ (n + 1) _ _ _ = _
    rw [f7_inWait_b4, hP.1.1, if_pos (Int32.le_refl _), if_pos (bi_01 a)]
  · show f7_inWait_b4 σ (n + 1) _ _ _ = f7_inWait_b4 σ n _ _ _
    have hr := hB.2.2.2.2.2.2.2.2.2.2 i
    rw [f7_inWait_b4, hP.1.1]
    have e1 : io (i : Int) + 1 = io ((i : Int) + 1) := io_add _ 1
    rw [if_neg (by rw [io_le (by omega) (by omega) (by omega) (by omega)]; omega), e1]
    cases a with
    | true => rw [if_neg (by decide)]; rfl
    | false =>
      rw [if_pos (by decide), if_pos (in_ix (n := 12) (by omega) (by decide)), if_pos (in_ix (n := 12) (by omega) (by decide)), io_ix (by omega), (hP.2.1 i hi).1, (hP.2.1 i hi).2, m_hasPassed hS hG (by omega) b0 b1, m_in, i64_toInt, i64_toInt, i64_toInt, n6, io_mul, n24, io_add, io_toInt (by omega) (by omega), io_toInt (by omega) (by omega), io_toInt (by omega) (by omega)]
      show (if io (P 2 i) = 2 then _ else if bi (passedB S i b) = 0 then (if bi (decide _) = 0 then _ else _) else _) = _
      simp (disch := omega) only [n2, io_eq]
      by_cases h1 : P 2 i = 2
      · rw [if_pos (by omega), decide_eq_false (by omega)]; rfl
      · rw [if_neg (by omega), decide_eq_true h1]
        cases passedB S i b with
        | true => rfl
        | false =>
          by_cases h2 : b ≤ 6 * (P 1 i : Int) ∧ 6 * (P 1 i : Int) ≤ b + 24
          · rw [decide_eq_true h2]; rfl
          · rw [decide_eq_false h2]; rfl
theorem m_inSight (hB : PB P) (hP : PM σ P) (hS : ∀ i, i < 6 → σ 28 i = io (S 1 i)) (hG : BG S) (h3 : σ 0 35 = io (S 0 3)) (h31 : S 0 3 = 0 ∨ S 0 3 = 1) {b : Int} (b0 : 0 ≤ b) (b1 : b < 400) : f7_inSight σ (io b) = some (bi (sightB P S b)) := by
  unfold f7_inSight sightB
  rw [m_isPassing hB hP hS hG b0 b1, h3]
  show (if bi (passing P S b) = 0 then _ else _) = _
  cases passing P S b with
  | true => rfl
  | false => rcases h31 with h | h <;> rw [h] <;> rfl
theorem m_wantsShut (hB : PB P) (hP : PM σ P) (hS : ∀ i, i < 6 → σ 28 i = io (S 1 i)) (hG : BG S) (h3 : σ 0 35 = io (S 0 3)) (h31 : S 0 3 = 0 ∨ S 0 3 = 1) {b rule n : Int} (b0 : 0 ≤ b) (b1 : b < 400) (n0' : 0 ≤ n) (n1' : n < 400) (r0 : 0 ≤ rule) (r1 : rule ≤ 4) : f7_wantsShut σ (io rule) (io n) (io b) = some (bi (wantsB P S rule n b)) := by
  unfold f7_wantsShut wantsB
  rw [m_inPlan hB hP b0 b1, m_inBell hB hP hS hG b0 b1, m_inSight hB hP hS hG h3 h31 b0 b1, m_inWait hB hP hS hG b0 b1, m_inLead hB hP hS hG b0 b1 n0' n1']
  simp (disch := omega) only [n0, n1, n2, n3, io_eq]
  by_cases e0 : rule = 0
  · rw [if_pos e0, if_pos e0]; exact if_pos (bi_01 _)
  · rw [if_neg e0, if_neg e0]
    by_cases e1 : rule = 1
    · rw [if_pos e1, if_pos e1]; exact if_pos (bi_01 _)
    · rw [if_neg e1, if_neg e1]
      by_cases e2 : rule = 2
      · rw [if_pos e2, if_pos e2]; exact if_pos (bi_01 _)
      · rw [if_neg e2, if_neg e2]
        by_cases e3 : rule = 3
        · rw [if_pos e3, if_pos e3]
          cases inBellB P S b <;> cases sightB P S b <;> cases waitB P S b <;> rfl
        · rw [if_neg e3, if_neg e3]; exact if_pos (bi_01 _)
end RefW
