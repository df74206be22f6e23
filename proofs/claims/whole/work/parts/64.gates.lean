/-! THE TWO HOURS SIDE BY SIDE: gates -/
def LH (P : PS) (rule n : Int) (S T : SS) (b c d : Int) : Prop := LA P rule n (T 2) (T 3) ∧ LG (S 0 0) (S 0 1) (S 0 2) (T 0 13) (T 0 15) (T 0 14) ∧ LR P (S 1) (T 0 17) b ∧ LT (S 1) (S 2) (T 4) (T 5) b ∧ LU (S 3) (S 4) (T 6) (T 7) ∧ LW P (S 3) (S 5) (T 0 9) c ∧ LB P (S 3) (S 4) (S 5) d ∧ T 0 12 = costR P (S 2) (S 4) (S 5) ∧ T 0 16 = S 0 4 ∧ T 0 18 = S 0 3 ∧ T 0 11 = rule ∧ (∀ k : Nat, (k : Int) < b → T 1 k = S 6 k)
def FT (T T' : SS) : Prop := ∀ j k, ¬ (j = 0 ∧ 13 ≤ k ∧ k ≤ 15) → T' j k = T j k
section Gates
variable {σ : Mem} {P : PS} {S T : SS} {t : Int} {h st : Nat} {rule n b : Int}
theorem c_move1 (hB : PB P) (hP : PC σ st P) (h42 : 42 ≤ h) (hst36 : st ≤ 36) (hS : BS S t) (ht : t ≤ 100000) (hG : LG (S 0 0) (S 0 1) (S 0 2) (T 0 13) (T 0 15) (T 0 14)) : ∃ T', f1_moveGates (ovh σ h T) h = some (ovh σ h T') ∧ LG (cmove1 P S 0 0) (cmove1 P S 0 1) (cmove1 P S 0 2) (T' 0 13) (T' 0 15) (T' 0 14) ∧ FT T T' := by
  have h35 : ∀ T, ovh σ h T 3 5 = io (P 0 3) := fun T => (PC_ovh (T := T) h42 hst36 hP).1.2.2.2.1
  have hg1 := hB.2.2.2.2.1
  have hg2 := hB.2.2.2.2.2.1
  obtain ⟨h0, h1, h2, h3, h4, -, -⟩ := hS
  obtain ⟨h13, hm⟩ := hG
  unfold f1_moveGates f0_gateBeats cmove1
  by_cases e : S 0 0 = 1
  · obtain ⟨e15, e14⟩ := hm e
    simp (disch := omega) only [n0, n1, n2, n3, n4, n5, n6, n7, n8, n9, n10, n11, n12, n13, n14, n15, n16, n17, n18, n19, n20, n21, n22, n23, n24, n25, n26, n27, n28, n29, n30, n31, n32, n33, n34, n35, n36, n37, n38, n39, n40, n41, n42, n43, n44, n45, n46, n47, n48, n49, n50, n51, n52, n53, n54, n55, n56, n57, n58, n59, n60, n61, n62, n63, n64, n65, n66, n97, n99, n100, n103, n107, n111, n116, n117, n119, n126, n200, n359, n360, n999, n1000, n9999, n65521, n99999, n1000000, io_neg, io_add, io_sub, io_mul, io_lt, io_le, io_eq, io_nat, Int.toNat_natCast, toNat_c1, ifg, obs, obm, oob, bi0, bi1, bi01, rh0, rh1, rh2, rh3, rh4, rh5, rh6, rh7, wh0, wh1, wh2, wh3, wh4, wh5, wh6, wh7, h35, su_row, su_self, ru_s, ru_n]
    rw [if_pos (by omega)]
    by_cases c : (P 0 3 : Int) ≤ S 0 1 + 1
    · rw [if_neg (by omega)]
      refine ⟨_, rfl, ?_, fun j k hjk => ?_⟩
      · simp (disch := omega) only [su_row, su_self, ru_s, ru_n]
        rw [if_pos e]
        simp (disch := omega) only [su_row, su_self, ru_s, ru_n]
        rw [if_pos c]
        refine ⟨e14, fun z => ?_⟩
        split at z <;> omega
      · rw [su_n _ _ (by omega), su_n _ _ (by omega)]
    · rw [if_pos (by omega)]
      refine ⟨_, rfl, ?_, fun j k hjk => ?_⟩
      · simp (disch := omega) only [su_row, su_self, ru_s, ru_n]
        rw [if_pos e]
        simp (disch := omega) only [su_row, su_self, ru_s, ru_n]
        rw [if_neg c]
        exact ⟨by omega, fun _ => ⟨by omega, e14⟩⟩
      · rw [su_n _ _ (by omega)]
  · refine ⟨T, ?_, ?_, fun _ _ _ => rfl⟩
    · simp (disch := omega) only [n0, n1, n2, n3, n4, n5, n6, n7, n8, n9, n10, n11, n12, n13, n14, n15, n16, n17, n18, n19, n20, n21, n22, n23, n24, n25, n26, n27, n28, n29, n30, n31, n32, n33, n34, n35, n36, n37, n38, n39, n40, n41, n42, n43, n44, n45, n46, n47, n48, n49, n50, n51, n52, n53, n54, n55, n56, n57, n58, n59, n60, n61, n62, n63, n64, n65, n66, n97, n99, n100, n103, n107, n111, n116, n117, n119, n126, n200, n359, n360, n999, n1000, n9999, n65521, n99999, n1000000, io_neg, io_add, io_sub, io_mul, io_lt, io_le, io_eq, io_nat, Int.toNat_natCast, toNat_c1, ifg, obs, obm, oob, bi0, bi1, bi01, rh0, rh1, rh2, rh3, rh4, rh5, rh6, rh7, wh0, wh1, wh2, wh3, wh4, wh5, wh6, wh7]
      rw [if_neg (by omega)]
    · rw [if_neg e]; exact ⟨h13, hm⟩
theorem LG_mv (T S : SS) {v c : Int} (hv : v = if c = 0 then 0 else 2) : LG (su (su (su S 0 0 1) 0 1 0) 0 2 c 0 0) (su (su (su S 0 0 1) 0 1 0) 0 2 c 0 1) (su (su (su S 0 0 1) 0 1 0) 0 2 c 0 2) (su (su (su T 0 13 1) 0 14 v) 0 15 0 0 13) (su (su (su T 0 13 1) 0 14 v) 0 15 0 0 15) (su (su (su T 0 13 1) 0 14 v) 0 15 0 0 14) := by
  simp (disch := omega) only [su_row, su_self, ru_s, ru_n]
  exact ⟨rfl, fun _ => ⟨rfl, hv⟩⟩
theorem FT_mv (T : SS) (v : Int) : FT T (su (su (su T 0 13 1) 0 14 v) 0 15 0) := by
  intro j k hjk
  rw [su_n _ _ (by omega), su_n _ _ (by omega), su_n _ _ (by omega)]
theorem c_turn (hB : PB P) (hP : PC σ st P) (h42 : 42 ≤ h) (hst36 : st ≤ 36) (hh : hst h = st) (hS : BS S t) (ht : t ≤ 100000) (hG : LG (S 0 0) (S 0 1) (S 0 2) (T 0 13) (T 0 15) (T 0 14)) (hA : LA P rule n (T 2) (T 3)) (hR : LR P (S 1) (T 0 17) b) (hT : LT (S 1) (S 2) (T 4) (T 5) b) (h16 : T 0 16 = S 0 4) (h18 : T 0 18 = S 0 3) (h11 : T 0 11 = rule) (r0 : 0 ≤ rule) (r1 : rule ≤ 4) (b0 : 0 ≤ b) (b1 : b < 360) : ∃ T', f1_turnGates (ovh σ h T) h (io b) = some (ovh σ h T') ∧ LG (cmove2 P S rule n b 0 0) (cmove2 P S rule n b 0 1) (cmove2 P S rule n b 0 2) (T' 0 13) (T' 0 15) (T' 0 14) ∧ FT T T' := by
  obtain ⟨h0, h1, h2, h3, h4, -, -⟩ := hS
  have hw := c_wants hB hP h42 hst36 hh hA hR hT h3 h18 h11 r0 r1 b0 b1
  have hs := c_sight (σ := σ) (h := h) hR h3 h18 b0 b1
  have mv : ∀ v : Int, f1_startMoving (ovh σ h T) h (io v) = some (ovh σ h (su (su (su T 0 13 1) 0 14 v) 0 15 0)) := by
    intro v
    unfold f1_startMoving
    simp (disch := omega) only [n0, n1, n2, n3, n4, n5, n6, n7, n8, n9, n10, n11, n12, n13, n14, n15, n16, n17, n18, n19, n20, n21, n22, n23, n24, n25, n26, n27, n28, n29, n30, n31, n32, n33, n34, n35, n36, n37, n38, n39, n40, n41, n42, n43, n44, n45, n46, n47, n48, n49, n50, n51, n52, n53, n54, n55, n56, n57, n58, n59, n60, n61, n62, n63, n64, n65, n66, n97, n99, n100, n103, n107, n111, n116, n117, n119, n126, n200, n359, n360, n999, n1000, n9999, n65521, n99999, n1000000, io_neg, io_add, io_sub, io_mul, io_lt, io_le, io_eq, io_nat, Int.toNat_natCast, toNat_c1, ifg, obs, obm, oob, bi0, bi1, bi01, rh0, rh1, rh2, rh3, rh4, rh5, rh6, rh7, wh0, wh1, wh2, wh3, wh4, wh5, wh6, wh7]
  obtain ⟨h13, hm⟩ := hG
  have same : cmove2 P S rule n b = S → ∃ T', (some (ovh σ h T) : Option Mem) = some (ovh σ h T') ∧ LG (cmove2 P S rule n b 0 0) (cmove2 P S rule n b 0 1) (cmove2 P S rule n b 0 2) (T' 0 13) (T' 0 15) (T' 0 14) ∧ FT T T' := fun z => ⟨T, rfl, by rw [z]; exact ⟨h13, hm⟩, fun _ _ _ => rfl⟩
  have moves : ∀ v c : Int, (v = if c = 0 then 0 else 2) → cmove2 P S rule n b = su (su (su S 0 0 1) 0 1 0) 0 2 c → ∃ T', (some (ovh σ h (su (su (su T 0 13 1) 0 14 v) 0 15 0)) : Option Mem) = some (ovh σ h T') ∧ LG (cmove2 P S rule n b 0 0) (cmove2 P S rule n b 0 1) (cmove2 P S rule n b 0 2) (T' 0 13) (T' 0 15) (T' 0 14) ∧ FT T T' := fun v c hv z => ⟨_, rfl, by rw [z]; exact LG_mv T S hv, FT_mv T v⟩
  unfold f1_turnGates f1_turnGates_b31
  simp (disch := omega) only [n0, n1, n2, n3, n4, n5, n6, n7, n8, n9, n10, n11, n12, n13, n14, n15, n16, n17, n18, n19, n20, n21, n22, n23, n24, n25, n26, n27, n28, n29, n30, n31, n32, n33, n34, n35, n36, n37, n38, n39, n40, n41, n42, n43, n44, n45, n46, n47, n48, n49, n50, n51, n52, n53, n54, n55, n56, n57, n58, n59, n60, n61, n62, n63, n64, n65, n66, n97, n99, n100, n103, n107, n111, n116, n117, n119, n126, n200, n359, n360, n999, n1000, n9999, n65521, n99999, n1000000, io_neg, io_add, io_sub, io_mul, io_lt, io_le, io_eq, io_nat, Int.toNat_natCast, toNat_c1, ifg, obs, obm, oob, bi0, bi1, bi01, rh0, rh1, rh2, rh3, rh4, rh5, rh6, rh7, wh0, wh1, wh2, wh3, wh4, wh5, wh6, wh7, hw, hs, mv]
  rw [h13, h16]
  unfold sightB
  rcases h0 with e | e | e
  · rw [if_pos e, if_neg (show ¬ S 0 0 = 2 by omega)]
    by_cases c4 : b < S 0 4
    · rw [if_pos c4]
      exact same (by unfold cmove2 closesB opensB; simp [e, show ¬ S 0 4 ≤ b by omega])
    · rw [if_neg c4]
      cases hq : wantsB P S rule n b with
      | false => exact same (by unfold cmove2 closesB opensB; simp [e, hq])
      | true => exact moves 2 1 rfl (by unfold cmove2 closesB opensB; simp [e, hq, show S 0 4 ≤ b by omega])
  · rw [if_neg (show ¬ S 0 0 = 0 by omega), if_neg (show ¬ S 0 0 = 2 by omega)]
    exact same (by unfold cmove2 closesB opensB; simp [e])
  · rw [if_neg (show ¬ S 0 0 = 0 by omega), if_pos e]
    cases hp : passing P S b with
    | true => exact same (by unfold cmove2 closesB opensB; simp [e, hp])
    | false =>
      rcases h3 with g | g
      · cases hq : wantsB P S rule n b with
        | true => simp only [g]; exact same (by unfold cmove2 closesB opensB; simp [e, hq])
        | false => simp only [g]; exact moves 0 0 rfl (by unfold cmove2 closesB opensB; simp [e, hq, hp, g])
      · simp only [g]; exact same (by unfold cmove2 closesB opensB; simp [e, g])
theorem cmove_row {j : Nat} (hj : j ≠ 0) : cmove P S rule n b j = S j := by
  unfold cmove cmove2 cmove1
  repeat' split
  all_goals simp (disch := omega) only [su_row, su_self, ru_s, ru_n]
theorem cmove_0 {k : Nat} (hk : 3 ≤ k) : cmove P S rule n b 0 k = S 0 k := by
  unfold cmove cmove2 cmove1
  repeat' split
  all_goals simp (disch := omega) only [su_row, su_self, ru_s, ru_n]
theorem cmove1_row {j : Nat} (hj : j ≠ 0) : cmove1 P S j = S j := by
  unfold cmove1
  split
  all_goals simp (disch := omega) only [su_row, su_self, ru_s, ru_n]
theorem cmove1_0 {k : Nat} (hk : 3 ≤ k) : cmove1 P S 0 k = S 0 k := by
  unfold cmove1
  split
  all_goals simp (disch := omega) only [su_row, su_self, ru_s, ru_n]
theorem FT.row {T T' : SS} (h : FT T T') {j : Nat} (hj : j ≠ 0) : T' j = T j := funext fun k => h j k (by omega)
theorem c_gates (hB : PB P) (hP : PC σ st P) (h42 : 42 ≤ h) (hst36 : st ≤ 36) (hh : hst h = st) (hS : BS S t) (ht : t < 100000) (r0 : 0 ≤ rule) (r1 : rule ≤ 4) (b0 : 0 ≤ b) (b1 : b < 360) {c d : Int} (hL : LH P rule n S T b c d) : ∃ T1 T2, f1_moveGates (ovh σ h T) h = some (ovh σ h T1) ∧ f1_turnGates (ovh σ h T1) h (io b) = some (ovh σ h T2) ∧ LH P rule n (cmove P S rule n b) T2 b c d := by
  obtain ⟨lA, lG, lR, lT, lU, lW, lB, lC, l16, l18, l11, l1⟩ := hL
  obtain ⟨T1, e1, g1, f1⟩ := c_move1 hB hP h42 hst36 hS (by omega) lG
  have hS1 := BS_move1 hB hS
  obtain ⟨T2, e2, g2, f2⟩ := c_turn (S := cmove1 P S) (T := T1) (rule := rule) (n := n) (b := b) hB hP h42 hst36 hh hS1 (by omega) g1 (by rw [f1.row (by omega), f1.row (by omega)]; exact lA) (by rw [cmove1_row (by omega), f1 0 17 (by omega)]; exact lR) (by rw [cmove1_row (by omega), cmove1_row (by omega), f1.row (by omega), f1.row (by omega)]; exact lT) (by rw [f1 0 16 (by omega), cmove1_0 (by omega)]; exact l16) (by rw [f1 0 18 (by omega), cmove1_0 (by omega)]; exact l18) (by rw [f1 0 11 (by omega)]; exact l11) r0 r1 b0 b1
  refine ⟨T1, T2, e1, e2, ?_⟩
  have k : ∀ j k, ¬ (j = 0 ∧ 13 ≤ k ∧ k ≤ 15) → T2 j k = T j k := fun j k z => (f2 j k z).trans (f1 j k z)
  have kr : ∀ j, j ≠ 0 → T2 j = T j := fun j hj => funext fun q => k j q (by omega)
  unfold LH
  rw [cmove_row (j := 1) (by omega), cmove_row (j := 2) (by omega), cmove_row (j := 3) (by omega), cmove_row (j := 4) (by omega), cmove_row (j := 5) (by omega), cmove_row (j := 6) (by omega), cmove_0 (k := 3) (by omega), cmove_0 (k := 4) (by omega), kr 1 (by omega), kr 2 (by omega), kr 3 (by omega), kr 4 (by omega), kr 5 (by omega), kr 6 (by omega), kr 7 (by omega), k 0 9 (by omega), k 0 11 (by omega), k 0 12 (by omega), k 0 16 (by omega), k 0 17 (by omega), k 0 18 (by omega)]
  exact ⟨lA, g2, lR, lT, lU, lW, lB, lC, l16, l18, l11, l1⟩
end Gates
