/-! CALLS: train, user, which, byNow -/
theorem io_div {a b : Int} (a0 : 0 ≤ a) (a1 : a < 2147483648) (b0 : -2147483648 ≤ b) (b1 : b < 2147483648) : io a / io b = io (a / b) := by
  unfold io
  rw [← Int32.ofInt_tdiv (show Int32.minValue.toInt ≤ a from Int.le_trans (by decide) a0) (Int.le_of_lt_add_one a1) (show Int32.minValue.toInt ≤ b from b0) (Int.le_of_lt_add_one b1), Int.tdiv_eq_ediv_of_nonneg a0]
def belR (P : PS) (i : Nat) : Int := if 360 ≤ bellB P i then -4 else bellB P i
section Calls2
variable {σ σ' σc σm : Mem} {B P : PS} {D : Nat → Nat} {l l' : Nat} {X X' : Nat → Nat} {m : Nat} {U : PS} {m2 : Nat} {V : PS} {q q' : Nat} {Z Y Z' Y' : Nat → Nat}
theorem c_isTrain (h : σ 4 3 = io (B 0 0)) (hB : BB B) {x : Int} (x0 : -2147483648 ≤ x) (x1 : x < 2147483648) : f6_isTrain σ (io x) = some (bi (decide (0 ≤ x ∧ x ≤ (B 0 0 : Int) - 1))) := by
  have := hB.1
  unfold f6_isTrain f2_size
  show Option.bind (some (σ 4 3)) (fun r1 => Option.bind (f6_between (io x) (io 0) (r1 - io 1)) _) = _
  rw [obs, h, io_sub, p_between x0 x1 (by omega) (by omega) (by omega) (by omega), obs, bi_ret]
theorem c_isUser (h : σ 7 3 = io (B 0 1)) (hB : BB B) {x : Int} (x0 : -2147483648 ≤ x) (x1 : x < 2147483648) : f6_isUser σ (io x) = some (bi (decide (0 ≤ x ∧ x ≤ (B 0 1 : Int) - 1))) := by
  have := hB.1
  unfold f6_isUser f2_size
  show Option.bind (some (σ 7 3)) (fun r1 => Option.bind (f6_between (io x) (io 0) (r1 - io 1)) _) = _
  rw [obs, h, io_sub, p_between x0 x1 (by omega) (by omega) (by omega) (by omega), obs, bi_ret]
theorem m_isTrain (h : σ 3 0 = io (B 0 0)) (hB : BB B) {x : Int} (x0 : -2147483648 ≤ x) (x1 : x < 2147483648) : f7_isTrain σ (io x) = some (bi (decide (0 ≤ x ∧ x ≤ (B 0 0 : Int) - 1))) := by
  have := hB.1
  unfold f7_isTrain
  rw [h, m_in, i64_toInt, i64_toInt, io_toInt x0 x1, j0, show (1 : Int32) = io 1 from rfl, io_sub, io_toInt (by omega) (by omega), obs]
  exact bi_ret _
theorem m_isUser (h : σ 6 0 = io (B 0 1)) (hB : BB B) {x : Int} (x0 : -2147483648 ≤ x) (x1 : x < 2147483648) : f7_isUser σ (io x) = some (bi (decide (0 ≤ x ∧ x ≤ (B 0 1 : Int) - 1))) := by
  have := hB.1
  unfold f7_isUser
  rw [h, m_in, i64_toInt, i64_toInt, io_toInt x0 x1, j0, show (1 : Int32) = io 1 from rfl, io_sub, io_toInt (by omega) (by omega), obs]
  exact bi_ret _
theorem c_bellOf (hB : PB P) (hP : PC σ 31 P) {i : Nat} (hi : i < P 0 0) : f6_bellOf σ (io i) = some (io (belR P i)) := by
  have h6 := hB.2.1
  have hr := hB.2.2.2.2.2.2.2.2.2.2 i
  have hc := come_lt hB i
  have hbc : 0 ≤ bellC (P 2 i) (come P i) ∧ bellC (P 2 i) (come P i) ≤ 1000000 := by
    unfold bellC
    repeat' split
    all_goals omega
  unfold f6_bellOf
  rw [p_second hP.1.1 (by omega) hi, obs, (hP.2.1 i hi).2, p_comingOf hB hP hi, obs, c_bellBeat (by omega) (by omega) (by omega), obs]
  simp (disch := omega) only [n0, n1, n2, n3, n4, n5, n6, n7, n8, n9, n10, n11, n12, n13, n14, n15, n16, n17, n18, n19, n20, n21, n22, n23, n24, n25, n26, n27, n28, n29, n30, n31, n32, n33, n34, n35, n36, n37, n38, n39, n40, n41, n42, n43, n44, n45, n46, n47, n48, n49, n50, n51, n52, n53, n54, n55, n56, n57, n58, n59, n60, n61, n62, n63, n64, n65, n66, n97, n99, n100, n103, n107, n111, n116, n117, n119, n126, n200, n359, n360, n999, n1000, n9999, n65521, n99999, n1000000, io_neg, io_add, io_sub, io_mul, io_lt, io_le, io_eq, io_nat, Int.toNat_natCast, toNat_c1, ifg, obs, obm, oob, bi0, bi1, bi01, ob_ite, bind_ite, ↓reduceIte, eq_self]
  unfold belR
  have : (360 ≤ bellC (P 2 i) (come P i) ↔ 360 ≤ bellB P i) ∧ (bellB P i < 360 → bellC (P 2 i) (come P i) = bellB P i) := by
    unfold bellC bellB
    repeat' split
    all_goals omega
  by_cases c : 360 ≤ bellB P i
  · rw [if_pos c, if_pos (this.1.mpr c)]
  · rw [if_neg c, if_neg (fun z => c (this.1.mp z)), this.2 (by omega)]
theorem s_train (hI : Inv σc σm) (a b : Int32) : Same (f6_train σc a b) (f7_train σm a b) := by
  obtain ⟨B, D, l, X, m, U, m2, V, q, Z, Y, ⟨a1, a2, -⟩, ⟨h1, h2, h3, h4, -⟩, ⟨k1, k2, k3, -⟩⟩ := hI
  obtain ⟨x, rfl, x0, x1⟩ := arg a
  obtain ⟨y, rfl, y0, y1⟩ := arg b
  have hPB := PB_pm a1 a2
  have hPC := PC_of a1 h2 h4
  have hPM := PM_of k2 k3
  unfold f6_train f7_train
  simp (disch := omega) only [n0, n1, n2, n3, n4, n5, n6, n7, n8, n9, n10, n11, n12, n13, n14, n15, n16, n17, n18, n19, n20, n21, n22, n23, n24, n25, n26, n27, n28, n29, n30, n31, n32, n33, n34, n35, n36, n37, n38, n39, n40, n41, n42, n43, n44, n45, n46, n47, n48, n49, n50, n51, n52, n53, n54, n55, n56, n57, n58, n59, n60, n61, n62, n63, n64, n65, n66, n97, n99, n100, n103, n107, n111, n116, n117, n119, n126, n200, n359, n360, n999, n1000, n9999, n65521, n99999, n1000000, io_neg, io_add, io_sub, io_mul, io_lt, io_le, io_eq, io_nat, Int.toNat_natCast, toNat_c1, ifg, obs, obm, oob, bi0, bi1, bi01, ob_ite, bind_ite, ↓reduceIte, eq_self, m_in, i64_toInt, io_toInt, j0, j1, j2, j3, j9, j30, j32, j48, j57, j59, j60, j99, j126, j359, j9999, c_isTrain h2.1.1 a1, m_isTrain k2.1.1 a1, p_between, decide_eq_false_iff_not, decide_eq_true_eq]
  by_cases c : 0 ≤ x ∧ x ≤ (B 0 0 : Int) - 1
  · have c' := not_not_intro c
    rw [if_neg c', if_neg c']
    obtain ⟨i, rfl⟩ : ∃ i : Nat, x = (i : Int) := ⟨x.toNat, by omega⟩
    have hi : i < B 0 0 := by omega
    have hi' : i < pm B D 0 0 := hi
    have h6 := hPB.2.1
    have hbl := bell_lt hPB i
    by_cases c1 : 0 ≤ y ∧ y ≤ 3
    · have c1' := not_not_intro c1
      rw [if_neg c1', if_neg c1']
      simp (disch := omega) only [n0, n1, n2, n3, n4, n5, n6, n7, n8, n9, n10, n11, n12, n13, n14, n15, n16, n17, n18, n19, n20, n21, n22, n23, n24, n25, n26, n27, n28, n29, n30, n31, n32, n33, n34, n35, n36, n37, n38, n39, n40, n41, n42, n43, n44, n45, n46, n47, n48, n49, n50, n51, n52, n53, n54, n55, n56, n57, n58, n59, n60, n61, n62, n63, n64, n65, n66, n97, n99, n100, n103, n107, n111, n116, n117, n119, n126, n200, n359, n360, n999, n1000, n9999, n65521, n99999, n1000000, io_neg, io_add, io_sub, io_mul, io_lt, io_le, io_eq, io_nat, Int.toNat_natCast, toNat_c1, ifg, obs, obm, oob, bi0, bi1, bi01, ob_ite, bind_ite, ↓reduceIte, eq_self, m_bellOf hPB hPM hi', c_bellOf hPB hPC hi', p_first h2.1.1 (show B 0 0 ≤ 8 by have := a1.1; omega) hi, p_second h2.1.1 (show B 0 0 ≤ 8 by have := a1.1; omega) hi, p_lateOf (show i < 6 by have := a1.1; omega), h4.2.1 i (by have := a1.1; omega), h2.2.1 i hi, k2.2.1 i hi, show σm 17 i = io (D i) from by have := k3.1 i (by have := a1.1; omega); rwa [Nat.zero_add] at this, show (31 + 4 : Nat) = 35 from rfl]
      unfold belR
      repeat' split
      all_goals exact ⟨_, rfl, rfl⟩
    · rw [if_pos c1, if_pos c1]
      exact ⟨_, rfl, rfl⟩
  · rw [if_pos c, if_pos c]
    exact ⟨_, rfl, rfl⟩
theorem s_user (hI : Inv σc σm) (a b : Int32) : Same (f6_user σc a b) (f7_user σm a b) := by
  obtain ⟨B, D, l, X, m, U, m2, V, q, Z, Y, ⟨a1, a2, -⟩, ⟨h1, h2, h3, h4, -⟩, ⟨k1, k2, k3, -⟩⟩ := hI
  obtain ⟨x, rfl, x0, x1⟩ := arg a
  obtain ⟨y, rfl, y0, y1⟩ := arg b
  have hb := a1.1
  unfold f6_user f7_user
  simp (disch := omega) only [n0, n1, n2, n3, n4, n5, n6, n7, n8, n9, n10, n11, n12, n13, n14, n15, n16, n17, n18, n19, n20, n21, n22, n23, n24, n25, n26, n27, n28, n29, n30, n31, n32, n33, n34, n35, n36, n37, n38, n39, n40, n41, n42, n43, n44, n45, n46, n47, n48, n49, n50, n51, n52, n53, n54, n55, n56, n57, n58, n59, n60, n61, n62, n63, n64, n65, n66, n97, n99, n100, n103, n107, n111, n116, n117, n119, n126, n200, n359, n360, n999, n1000, n9999, n65521, n99999, n1000000, io_neg, io_add, io_sub, io_mul, io_lt, io_le, io_eq, io_nat, Int.toNat_natCast, toNat_c1, ifg, obs, obm, oob, bi0, bi1, bi01, ob_ite, bind_ite, ↓reduceIte, eq_self, m_in, i64_toInt, io_toInt, j0, j1, j2, j3, j9, j30, j32, j48, j57, j59, j60, j99, j126, j359, j9999, c_isUser h2.1.2.1 a1, m_isUser k2.1.2.1 a1, p_between, decide_eq_false_iff_not, decide_eq_true_eq]
  by_cases c : 0 ≤ x ∧ x ≤ (B 0 1 : Int) - 1
  · have c' := not_not_intro c
    rw [if_neg c', if_neg c']
    obtain ⟨i, rfl⟩ : ∃ i : Nat, x = (i : Int) := ⟨x.toNat, by omega⟩
    have hi : i < B 0 1 := by omega
    simp (disch := omega) only [n0, n1, n2, n3, n4, n5, n6, n7, n8, n9, n10, n11, n12, n13, n14, n15, n16, n17, n18, n19, n20, n21, n22, n23, n24, n25, n26, n27, n28, n29, n30, n31, n32, n33, n34, n35, n36, n37, n38, n39, n40, n41, n42, n43, n44, n45, n46, n47, n48, n49, n50, n51, n52, n53, n54, n55, n56, n57, n58, n59, n60, n61, n62, n63, n64, n65, n66, n97, n99, n100, n103, n107, n111, n116, n117, n119, n126, n200, n359, n360, n999, n1000, n9999, n65521, n99999, n1000000, io_neg, io_add, io_sub, io_mul, io_lt, io_le, io_eq, io_nat, Int.toNat_natCast, toNat_c1, ifg, obs, obm, oob, bi0, bi1, bi01, ob_ite, bind_ite, ↓reduceIte, eq_self, p_first h2.1.2.1 (show B 0 1 ≤ 8 by omega) hi, p_second h2.1.2.1 (show B 0 1 ≤ 8 by omega) hi, h2.2.2.1 i hi, k2.2.2.1 i hi]
    repeat' split
    all_goals exact ⟨_, rfl, rfl⟩
  · rw [if_pos c, if_pos c]
    exact ⟨_, rfl, rfl⟩
theorem s_which (hI : Inv σc σm) (a : Int32) : Same (f6_which σc a) (f7_which σm a) := by
  obtain ⟨B, D, l, X, m, U, m2, V, q, Z, Y, ⟨a1, a2, -⟩, ⟨h1, h2, h3, h4, -⟩, ⟨k1, k2, k3, -⟩⟩ := hI
  obtain ⟨x, rfl, x0, x1⟩ := arg a
  have hPB := PB_pm a1 a2
  have hPC := PC_of a1 h2 h4
  have hPM := PM_of k2 k3
  have h6 := hPB.2.1
  unfold f6_which f7_which
  rw [c_isMinute x0 x1, obs, m_in, obs]
  simp (disch := omega) only [m_in, i64_toInt, io_toInt, j0, j1, j2, j3, j9, j30, j32, j48, j57, j59, j60, j99, j126, j359, j9999]
  by_cases c : 0 ≤ x ∧ x ≤ 59
  · rw [decide_eq_true c, bi_t, if_neg (by decide), if_neg (by decide)]
    have e1 := (fold_loop (fun n a i => f6_which_b13 σc n (io x) a i) (fun a => some a) (B 0 0) (fun i a => if bellB (pm B D) i < 360 ∧ bellB (pm B D) i / 6 = x then a ||| (io 1 <<< (io (i : Int) &&& io 31)) else a) (fun _ _ => True) (a0 := 0) trivial (fun _ _ _ _ => trivial) (fun n a _ => ?_) (fun n i a hi _ => ?_) 1000 (by have := a1.1; omega)).1
    have e2 := (fold_loop (fun n a i => f7_which_b18 σm n (io x) a i) (fun a => some a) (B 0 0) (fun i a => if bellB (pm B D) i < 360 ∧ bellB (pm B D) i / 6 = x then a ||| (io 1 <<< (io (i : Int) &&& io 31)) else a) (fun _ _ => True) (a0 := 0) trivial (fun _ _ _ _ => trivial) (fun n a _ => ?_) (fun n i a hi _ => ?_) 1000 (by have := a1.1; omega)).1
    · exact ⟨_, e1, e2⟩
    · show f7_which_b18 _ (n + 1) _ _ _ = _
      rw [f7_which_b18, k2.1.1, if_pos (Int32.le_refl _)]
    · show f7_which_b18 _ (n + 1) _ _ _ = f7_which_b18 _ n _ _ _
      have hb := a1.1
      have hbl := bell_lt hPB i
      rw [f7_which_b18, k2.1.1, if_neg (by simp (disch := omega) only [n0, n1, n2, n3, n4, n5, n6, n7, n8, n9, n10, n11, n12, n13, n14, n15, n16, n17, n18, n19, n20, n21, n22, n23, n24, n25, n26, n27, n28, n29, n30, n31, n32, n33, n34, n35, n36, n37, n38, n39, n40, n41, n42, n43, n44, n45, n46, n47, n48, n49, n50, n51, n52, n53, n54, n55, n56, n57, n58, n59, n60, n61, n62, n63, n64, n65, n66, n97, n99, n100, n103, n107, n111, n116, n117, n119, n126, n200, n359, n360, n999, n1000, n9999, n65521, n99999, n1000000, io_neg, io_add, io_sub, io_mul, io_lt, io_le, io_eq, io_nat, Int.toNat_natCast, toNat_c1, ifg, obs, obm, oob, bi0, bi1, bi01]; omega), m_bellOf hPB hPM hi]
      simp (disch := omega) only [n0, n1, n2, n3, n4, n5, n6, n7, n8, n9, n10, n11, n12, n13, n14, n15, n16, n17, n18, n19, n20, n21, n22, n23, n24, n25, n26, n27, n28, n29, n30, n31, n32, n33, n34, n35, n36, n37, n38, n39, n40, n41, n42, n43, n44, n45, n46, n47, n48, n49, n50, n51, n52, n53, n54, n55, n56, n57, n58, n59, n60, n61, n62, n63, n64, n65, n66, n97, n99, n100, n103, n107, n111, n116, n117, n119, n126, n200, n359, n360, n999, n1000, n9999, n65521, n99999, n1000000, io_neg, io_add, io_sub, io_mul, io_lt, io_le, io_eq, io_nat, Int.toNat_natCast, toNat_c1, ifg, obs, obm, oob, bi0, bi1, bi01, ob_ite, bind_ite, ↓reduceIte, eq_self, io_div]
      by_cases c1 : bellB (pm B D) i / 6 = x
      · rw [if_pos c1, if_pos (by omega)]
      · rw [if_neg c1, if_neg (by omega), ← n0, Int32.or_zero]
    · show f6_which_b13 _ (n + 1) _ _ _ = _
      rw [f6_which_b13, f2_size, obs, h2.1.1, if_pos (Int32.le_refl _)]
    · show f6_which_b13 _ (n + 1) _ _ _ = f6_which_b13 _ n _ _ _
      have hb := a1.1
      have hbl := bell_lt hPB i
      rw [f6_which_b13, f2_size, obs, h2.1.1, if_neg (by simp (disch := omega) only [n0, n1, n2, n3, n4, n5, n6, n7, n8, n9, n10, n11, n12, n13, n14, n15, n16, n17, n18, n19, n20, n21, n22, n23, n24, n25, n26, n27, n28, n29, n30, n31, n32, n33, n34, n35, n36, n37, n38, n39, n40, n41, n42, n43, n44, n45, n46, n47, n48, n49, n50, n51, n52, n53, n54, n55, n56, n57, n58, n59, n60, n61, n62, n63, n64, n65, n66, n97, n99, n100, n103, n107, n111, n116, n117, n119, n126, n200, n359, n360, n999, n1000, n9999, n65521, n99999, n1000000, io_neg, io_add, io_sub, io_mul, io_lt, io_le, io_eq, io_nat, Int.toNat_natCast, toNat_c1, ifg, obs, obm, oob, bi0, bi1, bi01]; omega), c_bellOf hPB hPC hi, obs]
      unfold belR
      by_cases c0 : 360 ≤ bellB (pm B D) i
      · rw [if_pos c0, if_pos (show io (-4) = -4 from rfl), if_neg (show ¬ (bellB (pm B D) i < 360 ∧ bellB (pm B D) i / 6 = x) by omega), n1, io_add]
      · rw [if_neg c0]
        simp (disch := omega) only [n0, n1, n2, n3, n4, n5, n6, n7, n8, n9, n10, n11, n12, n13, n14, n15, n16, n17, n18, n19, n20, n21, n22, n23, n24, n25, n26, n27, n28, n29, n30, n31, n32, n33, n34, n35, n36, n37, n38, n39, n40, n41, n42, n43, n44, n45, n46, n47, n48, n49, n50, n51, n52, n53, n54, n55, n56, n57, n58, n59, n60, n61, n62, n63, n64, n65, n66, n97, n99, n100, n103, n107, n111, n116, n117, n119, n126, n200, n359, n360, n999, n1000, n9999, n65521, n99999, n1000000, io_neg, io_add, io_sub, io_mul, io_lt, io_le, io_eq, io_nat, Int.toNat_natCast, toNat_c1, ifg, obs, obm, oob, bi0, bi1, bi01, ob_ite, bind_ite, ↓reduceIte, eq_self, io_div]
        rw [if_neg (show ¬ bellB (pm B D) i = -4 by omega)]
        by_cases c1 : bellB (pm B D) i / 6 = x
        · rw [if_pos c1, if_pos (by omega)]
        · rw [if_neg c1, if_neg (by omega)]
  · rw [decide_eq_false c, bi_f, if_pos rfl, if_pos rfl]
    exact ⟨_, rfl, rfl⟩
set_option maxRecDepth 100000 in
theorem prF : ∀ v u : Fin 11, ∀ w : Fin 2, v.val ≠ 0 → f6_partOf (io (u.val : Nat)) (io (v.val : Nat)) (io (w.val : Nat)) = Option.bind (f7_common (io (u.val : Nat)) (io (v.val : Nat))) (fun r3 => if io (w.val : Nat) = 0 then (if ¬ r3 = 0 then some (io (u.val : Nat) / r3) else none) else if ¬ r3 = 0 then some (io (v.val : Nat) / r3) else none) ∧ (f6_partOf (io (u.val : Nat)) (io (v.val : Nat)) (io (w.val : Nat))).isSome = true := by decide +kernel
theorem pr_eq {u v w : Int} (u0 : 0 ≤ u) (u1 : u ≤ 10) (v0 : 0 < v) (v1 : v ≤ 10) (w0 : 0 ≤ w) (w1 : w ≤ 1) : ∃ r, f6_partOf (io u) (io v) (io w) = some r ∧ Option.bind (f7_common (io u) (io v)) (fun r3 => if io w = 0 then (if ¬ r3 = 0 then some (io u / r3) else none) else if ¬ r3 = 0 then some (io v / r3) else none) = some r := by
  have := prF ⟨v.toNat, by omega⟩ ⟨u.toNat, by omega⟩ ⟨w.toNat, by omega⟩ (by show v.toNat ≠ 0; omega)
  simp only at this
  rw [show ((u.toNat : Nat) : Int) = u by omega, show ((v.toNat : Nat) : Int) = v by omega, show ((w.toNat : Nat) : Int) = w by omega] at this
  obtain ⟨e1, e2⟩ := this
  obtain ⟨r, hr⟩ := Option.isSome_iff_exists.mp e2
  exact ⟨r, hr, e1.symm.trans hr⟩
theorem s_byNow (hI : Inv σc σm) (a b c : Int32) : Same (f6_byNow σc a b c) (f7_byNow σm a b c) := by
  obtain ⟨B, D, l, X, m, U, m2, V, q, Z, Y, ⟨a1, a2, -⟩, ⟨h1, h2, h3, h4, -⟩, ⟨k1, k2, k3, -⟩⟩ := hI
  obtain ⟨x, rfl, x0, x1⟩ := arg a
  obtain ⟨y, rfl, y0, y1⟩ := arg b
  obtain ⟨w, rfl, w0, w1⟩ := arg c
  have hb := a1.1
  unfold f6_byNow f7_byNow
  simp (disch := omega) only [n0, n1, n2, n3, n4, n5, n6, n7, n8, n9, n10, n11, n12, n13, n14, n15, n16, n17, n18, n19, n20, n21, n22, n23, n24, n25, n26, n27, n28, n29, n30, n31, n32, n33, n34, n35, n36, n37, n38, n39, n40, n41, n42, n43, n44, n45, n46, n47, n48, n49, n50, n51, n52, n53, n54, n55, n56, n57, n58, n59, n60, n61, n62, n63, n64, n65, n66, n97, n99, n100, n103, n107, n111, n116, n117, n119, n126, n200, n359, n360, n999, n1000, n9999, n65521, n99999, n1000000, io_neg, io_add, io_sub, io_mul, io_lt, io_le, io_eq, io_nat, Int.toNat_natCast, toNat_c1, ifg, obs, obm, oob, bi0, bi1, bi01, ob_ite, bind_ite, ↓reduceIte, eq_self, m_in, i64_toInt, io_toInt, j0, j1, j2, j3, j9, j30, j32, j48, j57, j59, j60, j99, j126, j359, j9999, c_isTold, p_between, decide_eq_false_iff_not, decide_eq_true_eq]
  by_cases c1 : 0 ≤ x ∧ x ≤ 9
  · have c1' := not_not_intro c1
    rw [if_neg c1', if_neg c1']
    by_cases c2 : 0 ≤ y ∧ y ≤ 9
    · have c2' := not_not_intro c2
      rw [if_neg c2', if_neg c2']
      by_cases c3 : 0 ≤ w ∧ w ≤ 1
      · have c3' := not_not_intro c3
        rw [if_neg c3', if_neg c3']
        have e1 := fold_loop (fun n (a : Int × Int) i => f6_byNow_b34 σc n (io x) (io y) (io w) (io a.2) (io a.1) i) (fun a => if a.2 = 0 then some (io (-4)) else f6_partOf (io a.1) (io a.2) (io w)) (B 0 7) (fun k a => if (B 9 k : Int) ≤ x then a else (a.1 + (if (B 9 k : Int) = y then (B 10 k : Int) else 0), a.2 + (B 10 k : Int))) (fun i a => 0 ≤ a.1 ∧ a.1 ≤ a.2 ∧ a.2 ≤ sumN i (fun k => (B 10 k : Int))) (a0 := (0, 0)) ⟨by simp, by simp, by simp [sumN]⟩ (fun i a hi hI => ?_) (fun n a hI => ?_) (fun n i a hi hI => ?_) 1000 (by omega)
        have e2 := fold_loop (fun n (a : Int × Int) i => f7_byNow_b45 σm n (io x) (io y) (io w) (io a.1) (io a.2) i) (fun a => if a.2 = 0 then some (io (-4)) else Option.bind (f7_common (io a.1) (io a.2)) (fun r3 => if io w = 0 then (if ¬ r3 = 0 then some (io a.1 / r3) else none) else if ¬ r3 = 0 then some (io a.2 / r3) else none)) (B 0 7) (fun k a => if (B 9 k : Int) ≤ x then a else (a.1 + (if (B 9 k : Int) = y then (B 10 k : Int) else 0), a.2 + (B 10 k : Int))) (fun i a => 0 ≤ a.1 ∧ a.1 ≤ a.2 ∧ a.2 ≤ sumN i (fun k => (B 10 k : Int))) (a0 := (0, 0)) ⟨by simp, by simp, by simp [sumN]⟩ (fun i a hi hI => ?_) (fun n a hI => ?_) (fun n i a hi hI => ?_) 1000 (by omega)
        · obtain ⟨e1, hI⟩ := e1
          obtain ⟨e2, -⟩ := e2
          generalize foldN (B 0 7) (fun k (a : Int × Int) => if (B 9 k : Int) ≤ x then a else (a.1 + (if (B 9 k : Int) = y then (B 10 k : Int) else 0), a.2 + (B 10 k : Int))) (0, 0) = z at e1 e2 hI
          have hz : z.2 ≤ 10 := by
            by_cases c0 : 0 < B 0 7
            · rw [a1.2.2 c0] at hI; omega
            · rw [show B 0 7 = 0 by omega] at hI
              have := hI.2.2
              simp only [sumN] at this
              omega
          by_cases c0 : z.2 = 0
          · simp only [c0, ↓reduceIte] at e1 e2
            rw [c0] at hI
            refine ⟨_, e1, e2⟩
          · obtain ⟨r, p1, p2⟩ := pr_eq (u := z.1) (v := z.2) (w := w) hI.1 (by omega) (by omega) hz c3.1 c3.2
            simp only [c0, ↓reduceIte] at e1 e2
            exact ⟨r, e1.trans p1, e2.trans p2⟩
        · split
          · have : sumN (i + 1) (fun k => (B 10 k : Int)) = sumN i (fun k => (B 10 k : Int)) + B 10 i := rfl
            exact ⟨hI.1, hI.2.1, by omega⟩
          · have : sumN (i + 1) (fun k => (B 10 k : Int)) = sumN i (fun k => (B 10 k : Int)) + B 10 i := rfl
            simp only
            split <;> omega
        · show f7_byNow_b45 _ (n + 1) _ _ _ _ _ _ = _
          have hz : a.2 ≤ 10 := by
            by_cases c0 : 0 < B 0 7
            · rw [a1.2.2 c0] at hI; omega
            · rw [show B 0 7 = 0 by omega] at hI
              have := hI.2.2
              simp only [sumN] at this
              omega
          rw [f7_byNow_b45, k2.1.2.2.2.2.2.2, if_pos (Int32.le_refl _)]
          by_cases c0 : a.2 = 0
          · rw [if_pos (by rw [c0]; rfl), if_pos c0, nm4]
          · rw [if_neg (by simp (disch := omega) only [n0, n1, n2, n3, n4, n5, n6, n7, n8, n9, n10, n11, n12, n13, n14, n15, n16, n17, n18, n19, n20, n21, n22, n23, n24, n25, n26, n27, n28, n29, n30, n31, n32, n33, n34, n35, n36, n37, n38, n39, n40, n41, n42, n43, n44, n45, n46, n47, n48, n49, n50, n51, n52, n53, n54, n55, n56, n57, n58, n59, n60, n61, n62, n63, n64, n65, n66, n97, n99, n100, n103, n107, n111, n116, n117, n119, n126, n200, n359, n360, n999, n1000, n9999, n65521, n99999, n1000000, io_neg, io_add, io_sub, io_mul, io_lt, io_le, io_eq, io_nat, Int.toNat_natCast, toNat_c1, ifg, obs, obm, oob, bi0, bi1, bi01]; exact c0), if_neg c0]
        · show f7_byNow_b45 _ (n + 1) _ _ _ _ _ _ = f7_byNow_b45 _ n _ _ _ _ _ _
          have hr := a1.2.1 i
          rw [f7_byNow_b45, k2.1.2.2.2.2.2.2]
          unfold f7_byNow_b78
          simp (disch := omega) only [n0, n1, n2, n3, n4, n5, n6, n7, n8, n9, n10, n11, n12, n13, n14, n15, n16, n17, n18, n19, n20, n21, n22, n23, n24, n25, n26, n27, n28, n29, n30, n31, n32, n33, n34, n35, n36, n37, n38, n39, n40, n41, n42, n43, n44, n45, n46, n47, n48, n49, n50, n51, n52, n53, n54, n55, n56, n57, n58, n59, n60, n61, n62, n63, n64, n65, n66, n97, n99, n100, n103, n107, n111, n116, n117, n119, n126, n200, n359, n360, n999, n1000, n9999, n65521, n99999, n1000000, io_neg, io_add, io_sub, io_mul, io_lt, io_le, io_eq, io_nat, Int.toNat_natCast, toNat_c1, ifg, obs, obm, oob, bi0, bi1, bi01, ob_ite, bind_ite, ↓reduceIte, eq_self, k2.2.2.2.2 i hi, Int.add_zero]
          rw [if_neg (show ¬ (B 0 7 : Int) ≤ i by omega)]
          by_cases d1 : (B 9 i : Int) ≤ x
          · rw [if_pos d1, if_pos d1, ite_self]
          · rw [if_neg d1, if_neg d1]
            by_cases d2 : (B 9 i : Int) = y
            · rw [if_pos d2, if_pos d2]
            · rw [if_neg d2, if_neg d2, Int.add_zero]
        · split
          · have : sumN (i + 1) (fun k => (B 10 k : Int)) = sumN i (fun k => (B 10 k : Int)) + B 10 i := rfl
            exact ⟨hI.1, hI.2.1, by omega⟩
          · have : sumN (i + 1) (fun k => (B 10 k : Int)) = sumN i (fun k => (B 10 k : Int)) + B 10 i := rfl
            simp only
            split <;> omega
        · show f6_byNow_b34 _ (n + 1) _ _ _ _ _ _ = _
          have hz : a.2 ≤ 10 := by
            by_cases c0 : 0 < B 0 7
            · rw [a1.2.2 c0] at hI; omega
            · rw [show B 0 7 = 0 by omega] at hI
              have := hI.2.2
              simp only [sumN] at this
              omega
          rw [f6_byNow_b34, f2_size, obs, h2.1.2.2.2.2.2.2, if_pos (Int32.le_refl _)]
          by_cases c0 : a.2 = 0
          · rw [if_pos (by rw [c0]; rfl), if_pos c0, nm4]
          · rw [if_neg (by simp (disch := omega) only [n0, n1, n2, n3, n4, n5, n6, n7, n8, n9, n10, n11, n12, n13, n14, n15, n16, n17, n18, n19, n20, n21, n22, n23, n24, n25, n26, n27, n28, n29, n30, n31, n32, n33, n34, n35, n36, n37, n38, n39, n40, n41, n42, n43, n44, n45, n46, n47, n48, n49, n50, n51, n52, n53, n54, n55, n56, n57, n58, n59, n60, n61, n62, n63, n64, n65, n66, n97, n99, n100, n103, n107, n111, n116, n117, n119, n126, n200, n359, n360, n999, n1000, n9999, n65521, n99999, n1000000, io_neg, io_add, io_sub, io_mul, io_lt, io_le, io_eq, io_nat, Int.toNat_natCast, toNat_c1, ifg, obs, obm, oob, bi0, bi1, bi01]; exact c0), if_neg c0]
            cases f6_partOf (io a.1) (io a.2) (io w) <;> rfl
        · show f6_byNow_b34 _ (n + 1) _ _ _ _ _ _ = f6_byNow_b34 _ n _ _ _ _ _ _
          have hr := a1.2.1 i
          rw [f6_byNow_b34, f2_size, obs, h2.1.2.2.2.2.2.2, p_first h2.1.2.2.2.2.2.2 (by omega) hi, p_second h2.1.2.2.2.2.2.2 (by omega) hi]
          simp (disch := omega) only [n0, n1, n2, n3, n4, n5, n6, n7, n8, n9, n10, n11, n12, n13, n14, n15, n16, n17, n18, n19, n20, n21, n22, n23, n24, n25, n26, n27, n28, n29, n30, n31, n32, n33, n34, n35, n36, n37, n38, n39, n40, n41, n42, n43, n44, n45, n46, n47, n48, n49, n50, n51, n52, n53, n54, n55, n56, n57, n58, n59, n60, n61, n62, n63, n64, n65, n66, n97, n99, n100, n103, n107, n111, n116, n117, n119, n126, n200, n359, n360, n999, n1000, n9999, n65521, n99999, n1000000, io_neg, io_add, io_sub, io_mul, io_lt, io_le, io_eq, io_nat, Int.toNat_natCast, toNat_c1, ifg, obs, obm, oob, bi0, bi1, bi01, ob_ite, bind_ite, ↓reduceIte, eq_self, h2.2.2.2.2.1 i hi, Nat.reduceAdd]
          rw [if_neg (show ¬ (B 0 7 : Int) ≤ i by omega)]
          by_cases d1 : (B 9 i : Int) ≤ x
          · rw [if_pos d1, if_pos d1]
          · rw [if_neg d1, if_neg d1]
            by_cases d2 : (B 9 i : Int) = y
            · rw [if_pos d2, if_pos d2]
            · rw [if_neg d2, if_neg d2]
      · rw [if_pos c3, if_pos c3]
        exact ⟨_, rfl, rfl⟩
    · rw [if_pos c2, if_pos c2]
      exact ⟨_, rfl, rfl⟩
  · rw [if_pos c1, if_pos c1]
    exact ⟨_, rfl, rfl⟩
end Calls2
