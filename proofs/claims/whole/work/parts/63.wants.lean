/-! AN HOUR OF THE COMPONENT (T) BESIDE ONE OF THE REFERENCE (S) -/
def LA (P : PS) (rule n : Int) (t2 t3 : Nat → Int) : Prop := ∀ i, i < 6 → t2 i = (if i < P 0 0 then come P i else 1000000) ∧ (-1000 ≤ t3 i ∧ t3 i ≤ 1000000) ∧ ∀ b, 0 ≤ b → b < 360 → (t3 i ≤ b ↔ i < P 0 0 ∧ (if rule = 4 then come P i - n ≤ b else bellB P i ≤ b))
def LG (g m c tg tm tt : Int) : Prop := tg = g ∧ (g = 1 → tm = m ∧ tt = (if c = 0 then 0 else 2))
def pasR (P : PS) (s1 : Nat → Int) (b : Int) : Bool := anyN (P 0 0) (fun i => decide (0 ≤ s1 i ∧ b ≤ s1 i + 2))
def LR (P : PS) (s1 : Nat → Int) (rf b : Int) : Prop := 0 ≤ rf ∧ rf ≤ 400 ∧ ∀ b', b ≤ b' → (pasR P s1 b' = true ↔ b' < rf)
def LT (s1 s2 t4 t5 : Nat → Int) (b : Int) : Prop := ∀ i, i < 6 → t5 i = s2 i ∧ t4 i = (if s1 i < 0 then 1000000 else s1 i) ∧ -4 ≤ s1 i ∧ s1 i ≤ b
def LU (s3 s4 t6 t7 : Nat → Int) : Prop := ∀ i, i < 8 → t6 i = s3 i ∧ t7 i = s4 i
def wtR (P : PS) (s3 s5 : Nat → Int) (b : Int) (i : Nat) : Bool := decide (6 * (P 3 i : Int) ≤ b ∧ s3 i < 0 ∧ s5 i = 0)
def LW (P : PS) (s3 s5 : Nat → Int) (w c : Int) : Prop := ∃ v : Nat, v < 256 ∧ w = v ∧ ∀ i, i < 8 → v.testBit i = (decide (i < P 0 1) && wtR P s3 s5 c i)
def LB (P : PS) (s3 s4 s5 : Nat → Int) (b : Int) : Prop := ∀ i, i < 8 → 0 ≤ s4 i ∧ s4 i ≤ P 0 5 ∧ (s5 i = 0 → s4 i < P 0 5) ∧ (s5 i = 0 ∨ s5 i = 1) ∧ (b ≤ 6 * (P 3 i : Int) → s3 i < 0 ∧ s5 i = 0)
def costR (P : PS) (s2 s4 s5 : Nat → Int) : Int := sumN (P 0 0) (fun i => (P 0 4 : Int) * s2 i) + sumN (P 0 1) (fun i => (P 8 (P 4 i) : Int) * s4 i + (if s5 i = 0 then 0 else (P 0 6 : Int)))
theorem costS_R (P : PS) (S : SS) : costS P S = costR P (S 2) (S 4) (S 5) := rfl
theorem pas_R (P : PS) (S : SS) (b : Int) : passing P S b = pasR P (S 1) b := rfl
theorem wt_R (P : PS) (S : SS) (b : Int) (i : Nat) : wtB P S b i = wtR P (S 3) (S 5) b i := rfl
/-- a reference's memory that holds P -/
def mP (P : PS) : Mem := fun j k => if j = 3 then io (P 0 0) else if j = 6 then io (P 0 1) else if j = 17 then (if k < 6 then io (P 5 k) else if k = 6 then io (P 0 2) else if k < 13 then io (P 6 (k - 7)) else io (P 7 (k - 13))) else if j = 9 then (if k = 0 then io (P 0 3) else if k = 1 then io (P 0 4) else if k = 2 then io (P 0 5) else io (P 0 6)) else if j = 4 then io (P 1 k) else if j = 5 then io (P 2 k) else if j = 7 then io (P 3 k) else if j = 8 then io (P 4 k) else io (P 8 k)
theorem PM_mP {P : PS} (hB : PB P) : PM (mP P) P := by
  have h2 := hB.2.2.2.1
  refine ⟨⟨rfl, rfl, rfl, rfl, rfl, rfl, rfl⟩, fun i hi => ⟨rfl, rfl⟩, fun i hi => ⟨rfl, rfl⟩, fun i hi => ?_, fun i hi => ⟨?_, ?_⟩, fun i hi => rfl⟩
  · unfold mP; rw [if_neg (by decide), if_neg (by decide), if_pos rfl, if_pos hi]
  · unfold mP; rw [if_neg (by decide), if_neg (by decide), if_pos rfl, if_neg (by omega), if_neg (by omega), if_pos (by omega), show 7 + i - 7 = i by omega]
  · unfold mP; rw [if_neg (by decide), if_neg (by decide), if_pos rfl, if_neg (by omega), if_neg (by omega), if_neg (by omega), show 13 + i - 13 = i by omega]
section Wants
variable {σ : Mem} {P : PS} {S T : SS} {t : Int} {h st : Nat} {rule n b : Int}
theorem c_plan (hB : PB P) (hP : PC σ st P) (b0 : 0 ≤ b) (b1 : b < 360) : f4_isPlannedShut σ st (io b) = some (bi (planB P b)) := by
  have h2 := hB.2.2.2.1
  unfold f4_isPlannedShut planB
  rw [n0]
  refine any_loop2 (fun m i => f4_isPlannedShut_b2 σ st m (io b) i) (P 0 2) _ (fun m => ?_) (fun m i hi => ?_) 1000 (by omega)
  · show f4_isPlannedShut_b2 σ st (m + 1) _ _ = _
    rw [f4_isPlannedShut_b2, f2_size, obs, hP.1.2.2.1, if_pos (Int32.le_refl _), n0]
  · show f4_isPlannedShut_b2 σ st (m + 1) _ _ = _
    have hr := hB.2.2.2.2.2.2.2.2.2.2 i
    rw [f4_isPlannedShut_b2, f2_size, obs, hP.1.2.2.1, p_first hP.1.2.2.1 (by omega) hi, p_second hP.1.2.2.1 (by omega) hi, (hP.2.2.2.2.1 i hi).1, (hP.2.2.2.2.1 i hi).2]
    simp (disch := omega) only [n0, n1, n2, n3, n4, n5, n6, n7, n8, n9, n10, n11, n12, n13, n14, n15, n16, n17, n18, n19, n20, n21, n22, n23, n24, n25, n26, n27, n28, n29, n30, n31, n32, n33, n34, n35, n36, n37, n38, n39, n40, n41, n42, n43, n44, n45, n46, n47, n48, n49, n50, n51, n52, n53, n54, n55, n56, n57, n58, n59, n60, n61, n62, n63, n64, n65, n66, n97, n99, n100, n103, n107, n111, n116, n117, n119, n126, n200, n359, n360, n999, n1000, n9999, n65521, n99999, n1000000, io_neg, io_add, io_sub, io_mul, io_lt, io_le, io_eq, io_nat, Int.toNat_natCast, toNat_c1, ifg, obs, obm, oob, bi0, bi1, bi01, decide_eq_true_eq]
    repeat' split
    all_goals first | rfl | omega
theorem c_passed (hT : LT (S 1) (S 2) (T 4) (T 5) b) (b0 : 0 ≤ b) (b1 : b < 360) {i : Nat} (hi : i < 6) : f1_hasPassed (ovh σ h T) h (io i) (io b) = some (bi (passedB S i b)) := by
  obtain ⟨-, ht, hs, hs2⟩ := hT i hi
  have hT4 : 0 ≤ T 4 i ∧ T 4 i ≤ 1000000 := by rw [ht]; split <;> omega
  unfold f1_hasPassed passedB
  simp (disch := omega) only [n0, n1, n2, n3, n4, n5, n6, n7, n8, n9, n10, n11, n12, n13, n14, n15, n16, n17, n18, n19, n20, n21, n22, n23, n24, n25, n26, n27, n28, n29, n30, n31, n32, n33, n34, n35, n36, n37, n38, n39, n40, n41, n42, n43, n44, n45, n46, n47, n48, n49, n50, n51, n52, n53, n54, n55, n56, n57, n58, n59, n60, n61, n62, n63, n64, n65, n66, n97, n99, n100, n103, n107, n111, n116, n117, n119, n126, n200, n359, n360, n999, n1000, n9999, n65521, n99999, n1000000, io_neg, io_add, io_sub, io_mul, io_lt, io_le, io_eq, io_nat, Int.toNat_natCast, toNat_c1, ifg, obs, obm, oob, bi0, bi1, bi01, rh0, rh1, rh2, rh3, rh4, rh5, rh6, rh7, wh0, wh1, wh2, wh3, wh4, wh5, wh6, wh7]
  rw [if_neg (by omega), if_neg (by omega)]
  by_cases c : 0 ≤ S 1 i ∧ S 1 i + 2 < b
  · rw [decide_eq_true c, if_neg (by rw [ht, if_neg (by omega)]; omega)]; rfl
  · rw [decide_eq_false c, if_pos (by rw [ht]; split <;> omega)]; rfl
theorem c_awaited (hB : PB P) (hA : LA P rule n (T 2) (T 3)) (hT : LT (S 1) (S 2) (T 4) (T 5) b) (b0 : 0 ≤ b) (b1 : b < 360) : f1_isTrainAwaited (ovh σ h T) h (io b) = some (bi (if rule = 4 then leadB P S b n else inBellB P S b)) := by
  have h6 := hB.2.1
  have key : f1_isTrainAwaited (ovh σ h T) h (io b) = some (bi (anyN 6 (fun i => decide (T 3 i ≤ b) && !passedB S i b))) := by
    unfold f1_isTrainAwaited
    rw [n0]
    refine any_loop2 (fun m i => f1_isTrainAwaited_b2 (ovh σ h T) h m (io b) i) 6 _ (fun m => ?_) (fun m i hi => ?_) 1000 (by omega)
    · show f1_isTrainAwaited_b2 _ h (m + 1) _ _ = _
      rw [f1_isTrainAwaited_b2, if_pos (by decide), n0]
    · show f1_isTrainAwaited_b2 _ h (m + 1) _ _ = _
      obtain ⟨-, ha, -⟩ := hA i hi
      rw [f1_isTrainAwaited_b2, c_passed hT b0 b1 hi]
      simp (disch := omega) only [n0, n1, n2, n3, n4, n5, n6, n7, n8, n9, n10, n11, n12, n13, n14, n15, n16, n17, n18, n19, n20, n21, n22, n23, n24, n25, n26, n27, n28, n29, n30, n31, n32, n33, n34, n35, n36, n37, n38, n39, n40, n41, n42, n43, n44, n45, n46, n47, n48, n49, n50, n51, n52, n53, n54, n55, n56, n57, n58, n59, n60, n61, n62, n63, n64, n65, n66, n97, n99, n100, n103, n107, n111, n116, n117, n119, n126, n200, n359, n360, n999, n1000, n9999, n65521, n99999, n1000000, io_neg, io_add, io_sub, io_mul, io_lt, io_le, io_eq, io_nat, Int.toNat_natCast, toNat_c1, ifg, obs, obm, oob, bi0, bi1, bi01, rh0, rh1, rh2, rh3, rh4, rh5, rh6, rh7, wh0, wh1, wh2, wh3, wh4, wh5, wh6, wh7, Bool.and_eq_true, decide_eq_true_eq, Bool.not_eq_true']
      rw [if_neg (by omega)]
      by_cases c1 : b < T 3 i
      · rw [if_pos c1, if_neg (by omega)]
      · rw [if_neg c1]
        by_cases c2 : passedB S i b = false
        · rw [if_pos c2, if_pos ⟨by omega, c2⟩]
        · rw [if_neg c2, if_neg (fun z => c2 z.2)]
  rw [key]
  congr 2
  rw [Bool.eq_iff_iff, anyN_iff]
  by_cases c4 : rule = 4
  · rw [if_pos c4]
    unfold leadB
    rw [anyN_iff]
    constructor
    · rintro ⟨i, hi, hp⟩
      obtain ⟨-, -, ha⟩ := hA i hi
      have ha := ha b b0 b1
      rw [if_pos c4] at ha
      simp only [Bool.and_eq_true, decide_eq_true_eq] at hp ⊢
      exact ⟨i, (ha.mp hp.1).1, (ha.mp hp.1).2, hp.2⟩
    · rintro ⟨i, hi, hp⟩
      obtain ⟨-, -, ha⟩ := hA i (by omega)
      have ha := ha b b0 b1
      rw [if_pos c4] at ha
      simp only [Bool.and_eq_true, decide_eq_true_eq] at hp ⊢
      exact ⟨i, by omega, ha.mpr ⟨hi, hp.1⟩, hp.2⟩
  · rw [if_neg c4]
    unfold inBellB
    rw [anyN_iff]
    constructor
    · rintro ⟨i, hi, hp⟩
      obtain ⟨-, -, ha⟩ := hA i hi
      have ha := ha b b0 b1
      rw [if_neg c4] at ha
      simp only [Bool.and_eq_true, decide_eq_true_eq] at hp ⊢
      exact ⟨i, (ha.mp hp.1).1, (ha.mp hp.1).2, hp.2⟩
    · rintro ⟨i, hi, hp⟩
      obtain ⟨-, -, ha⟩ := hA i (by omega)
      have ha := ha b b0 b1
      rw [if_neg c4] at ha
      simp only [Bool.and_eq_true, decide_eq_true_eq] at hp ⊢
      exact ⟨i, by omega, ha.mpr ⟨hi, hp.1⟩, hp.2⟩
theorem c_sight (hR : LR P (S 1) (T 0 17) b) (h3 : S 0 3 = 0 ∨ S 0 3 = 1) (h18 : T 0 18 = S 0 3) (b0 : 0 ≤ b) (b1 : b < 360) : f1_isTrainInSight (ovh σ h T) h (io b) = some (bi (sightB P S b)) := by
  obtain ⟨r0, r1, r2⟩ := hR
  have r2 := r2 b (Int.le_refl _)
  unfold f1_isTrainInSight sightB
  rw [pas_R]
  simp (disch := omega) only [n0, n1, n2, n3, n4, n5, n6, n7, n8, n9, n10, n11, n12, n13, n14, n15, n16, n17, n18, n19, n20, n21, n22, n23, n24, n25, n26, n27, n28, n29, n30, n31, n32, n33, n34, n35, n36, n37, n38, n39, n40, n41, n42, n43, n44, n45, n46, n47, n48, n49, n50, n51, n52, n53, n54, n55, n56, n57, n58, n59, n60, n61, n62, n63, n64, n65, n66, n97, n99, n100, n103, n107, n111, n116, n117, n119, n126, n200, n359, n360, n999, n1000, n9999, n65521, n99999, n1000000, io_neg, io_add, io_sub, io_mul, io_lt, io_le, io_eq, io_nat, Int.toNat_natCast, toNat_c1, ifg, obs, obm, oob, bi0, bi1, bi01, rh0, rh1, rh2, rh3, rh4, rh5, rh6, rh7, wh0, wh1, wh2, wh3, wh4, wh5, wh6, wh7]
  by_cases c : b < T 0 17
  · rw [if_pos c, r2.mpr c]; rfl
  · have : pasR P (S 1) b = false := by simpa using fun z => c (r2.mp z)
    rw [if_neg c, this, h18]
    rcases h3 with h3 | h3 <;> rw [h3] <;> rfl
theorem c_due (hB : PB P) (hP : PC σ st P) (h42 : 42 ≤ h) (hst36 : st ≤ 36) (hT : LT (S 1) (S 2) (T 4) (T 5) b) (b0 : 0 ≤ b) (b1 : b < 360) : f1_isTrainDueByBook (ovh σ h T) h (io b) = some (bi (waitB P S b)) := by
  have h6 := hB.2.1
  have hP := PC_ovh (T := T) h42 hst36 hP
  unfold f1_isTrainDueByBook waitB
  rw [n0]
  refine any_loop2 (fun m i => f1_isTrainDueByBook_b2 (ovh σ h T) h m (io b) i) (P 0 0) _ (fun m => ?_) (fun m i hi => ?_) 1000 (by omega)
  · show f1_isTrainDueByBook_b2 _ h (m + 1) _ _ = _
    rw [f1_isTrainDueByBook_b2, f2_size, obs, hP.1.1, if_pos (Int32.le_refl _), n0]
  · show f1_isTrainDueByBook_b2 _ h (m + 1) _ _ = _
    have hr := hB.2.2.2.2.2.2.2.2.2.2 i
    rw [f1_isTrainDueByBook_b2, f2_size, obs, hP.1.1, p_first hP.1.1 (by omega) hi, p_second hP.1.1 (by omega) hi, (hP.2.1 i hi).1, (hP.2.1 i hi).2, c_passed hT b0 b1 (by omega)]
    simp (disch := omega) only [n0, n1, n2, n3, n4, n5, n6, n7, n8, n9, n10, n11, n12, n13, n14, n15, n16, n17, n18, n19, n20, n21, n22, n23, n24, n25, n26, n27, n28, n29, n30, n31, n32, n33, n34, n35, n36, n37, n38, n39, n40, n41, n42, n43, n44, n45, n46, n47, n48, n49, n50, n51, n52, n53, n54, n55, n56, n57, n58, n59, n60, n61, n62, n63, n64, n65, n66, n97, n99, n100, n103, n107, n111, n116, n117, n119, n126, n200, n359, n360, n999, n1000, n9999, n65521, n99999, n1000000, io_neg, io_add, io_sub, io_mul, io_lt, io_le, io_eq, io_nat, Int.toNat_natCast, toNat_c1, ifg, obs, obm, oob, bi0, bi1, bi01, p_between, Bool.and_eq_true, decide_eq_true_eq, Bool.not_eq_true', decide_eq_false_iff_not]
    rw [if_neg (by omega)]
    by_cases c1 : P 2 i = 2
    · rw [if_pos (by omega), if_neg (by omega)]
    · rw [if_neg (by omega)]
      by_cases c2 : b ≤ (P 1 i : Int) * 6 ∧ (P 1 i : Int) * 6 ≤ b + 24
      · rw [if_neg (fun z => z c2)]
        by_cases c3 : passedB S i b = false
        · rw [if_pos c3, if_pos ⟨⟨c1, c3⟩, by omega⟩]
        · rw [if_neg c3, if_neg (fun z => c3 z.1.2)]
      · rw [if_pos c2, if_neg (fun z => c2 (by omega))]
theorem c_wants (hB : PB P) (hP : PC σ st P) (h42 : 42 ≤ h) (hst36 : st ≤ 36) (hh : hst h = st) (hA : LA P rule n (T 2) (T 3)) (hR : LR P (S 1) (T 0 17) b) (hT : LT (S 1) (S 2) (T 4) (T 5) b) (h3 : S 0 3 = 0 ∨ S 0 3 = 1) (h18 : T 0 18 = S 0 3) (h11 : T 0 11 = rule) (r0 : 0 ≤ rule) (r1 : rule ≤ 4) (b0 : 0 ≤ b) (b1 : b < 360) : f1_wantsShut (ovh σ h T) h (io b) = some (bi (wantsB P S rule n b)) := by
  unfold f1_wantsShut wantsB
  rw [hh, c_plan hB (PC_ovh (T := T) h42 hst36 hP) b0 b1, c_awaited hB hA hT b0 b1, c_sight hR h3 h18 b0 b1, c_due hB hP h42 hst36 hT b0 b1]
  simp (disch := omega) only [n0, n1, n2, n3, n4, n5, n6, n7, n8, n9, n10, n11, n12, n13, n14, n15, n16, n17, n18, n19, n20, n21, n22, n23, n24, n25, n26, n27, n28, n29, n30, n31, n32, n33, n34, n35, n36, n37, n38, n39, n40, n41, n42, n43, n44, n45, n46, n47, n48, n49, n50, n51, n52, n53, n54, n55, n56, n57, n58, n59, n60, n61, n62, n63, n64, n65, n66, n97, n99, n100, n103, n107, n111, n116, n117, n119, n126, n200, n359, n360, n999, n1000, n9999, n65521, n99999, n1000000, io_neg, io_add, io_sub, io_mul, io_lt, io_le, io_eq, io_nat, Int.toNat_natCast, toNat_c1, ifg, obs, obm, oob, bi0, bi1, bi01, rh0, rh1, rh2, rh3, rh4, rh5, rh6, rh7, wh0, wh1, wh2, wh3, wh4, wh5, wh6, wh7, h11]
  by_cases e0 : rule = 0
  · subst e0; rfl
  · rw [if_neg e0, if_neg e0]
    by_cases e2 : rule = 2
    · subst e2; rfl
    · rw [if_neg e2]
      by_cases e3 : rule = 3
      · subst e3
        rw [if_pos rfl]
        show _ = some (bi (inBellB P S b || sightB P S b || waitB P S b))
        rw [show (if (3 : Int) = 4 then leadB P S b n else inBellB P S b) = inBellB P S b from if_neg (by decide)]
        cases inBellB P S b <;> cases sightB P S b <;> cases waitB P S b <;> rfl
      · rw [if_neg e3]
        by_cases e1 : rule = 1
        · subst e1; rfl
        · have e4 : rule = 4 := by omega
          subst e4; rfl
end Wants
