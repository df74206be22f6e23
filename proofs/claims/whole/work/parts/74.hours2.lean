/-! CALLS ON HOURS: cheapest, bridge, dinner, fits -/
def chB (P : PS) : Nat → Nat
  | 0 => 0
  | k + 1 => if cst P ((k + 1 : Nat) : Int) 0 < cst P (chB P k : Nat) 0 then k + 1 else chB P k
theorem chB_le (P : PS) (k : Nat) : chB P k ≤ k := by
  induction k with
  | zero => exact Nat.le_refl _
  | succ k ih =>
    rw [chB]
    split <;> omega
/-- how the gates are by a rule, whatever the hour began from -/
def gts (P : PS) (rule : Int) (k : Nat) : Int32 := io (chour P rule 0 (fun _ _ => 0) 6 k)
section Hours2
variable {σ σ' σc σm : Mem} {B P : PS} {D : Nat → Nat} {l l' : Nat} {X X' : Nat → Nat} {m : Nat} {U : PS} {m2 : Nat} {V : PS} {q q' : Nat} {Z Y Z' Y' : Nat → Nat}
theorem gts_eq (hB : PB P) {rule : Int} (r0 : 0 ≤ rule) (r1 : rule ≤ 4) {k : Nat} (hk : k < 360) {S0 : SS} (hs : ok2 S0) : io (chour P rule 0 S0 6 k) = gts P rule k := by
  obtain ⟨σ', -, -, -, -, hok⟩ := c_run2 (σ := mC P) (h := 42) (st := 31) (n := 0) (e := 1000000) hB (PC_mC P) (by omega) (by omega) rfl r0 r1 (by omega) (by omega) (by omega) (by omega)
  have hlt := (cst_eq (n := 0) hB r0 r1 (by omega) (by omega)).1
  have hok := hok (by omega)
  rw [← (hok S0 hs).2.1 k hk, (hok _ ok2_0).2.1 k hk]
  rfl
theorem c_cheap (hA : AB B D l X m U m2 V q Z Y) {w : Int} (w0 : 0 ≤ w) (w1 : w ≤ 1) : ∀ k i n σ, i + k = 3 → k < n → IC σ B D l X m U m2 V q Z Y → ∃ σ', f6_cheapest_b15 n σ (io w) (io (chB (pm B D) i : Nat)) (io ((i + 1 : Nat) : Int)) = some (σ', if w = 0 then io (chB (pm B D) 3 : Nat) else io (cst (pm B D) (chB (pm B D) 3 : Nat) 0)) ∧ IC σ' B D l X m U m2 V q Z Y := by
  have hPB := PB_pm hA.1 hA.2.1
  have hcs : ∀ r : Nat, r < 4 → 0 ≤ cst (pm B D) r 0 ∧ cst (pm B D) r 0 ≤ 300000 := fun r hr => (cst_eq hPB (by omega) (by omega) (by omega) (by omega)).1
  intro k
  induction k with
  | zero =>
    intro i n σ hi hn hC
    obtain ⟨n, rfl⟩ : ∃ t, n = t + 1 := ⟨n - 1, by omega⟩
    have : i = 3 := by omega
    subst this
    have hb := chB_le (pm B D) 3
    rw [f6_cheapest_b15, if_pos (by decide)]
    by_cases c : w = 0
    · rw [if_pos c, if_pos (by rw [c]; rfl)]
      exact ⟨σ, rfl, hC⟩
    · rw [if_neg c, if_neg (by simp (disch := omega) only [n0, n1, n2, n3, n4, n5, n6, n7, n8, n9, n10, n11, n12, n13, n14, n15, n16, n17, n18, n19, n20, n21, n22, n23, n24, n25, n26, n27, n28, n29, n30, n31, n32, n33, n34, n35, n36, n37, n38, n39, n40, n41, n42, n43, n44, n45, n46, n47, n48, n49, n50, n51, n52, n53, n54, n55, n56, n57, n58, n59, n60, n61, n62, n63, n64, n65, n66, n97, n99, n100, n103, n107, n111, n116, n117, n119, n126, n200, n359, n360, n999, n1000, n9999, n65521, n99999, n1000000, io_neg, io_add, io_sub, io_mul, io_lt, io_le, io_eq, io_nat, Int.toNat_natCast, toNat_c1, ifg, obs, obm, oob, bi0, bi1, bi01]; exact c)]
      obtain ⟨σ', e1, hC', hok⟩ := c_hourBy hA hC (r := chB (pm B D) 3) (by omega)
      rw [e1, oob, if_pos (hl (by omega)), c_total hA (by omega) hok, obs]
      exact ⟨σ', rfl, hC'⟩
  | succ k ih =>
    intro i n σ hi hn hC
    obtain ⟨n, rfl⟩ : ∃ t, n = t + 1 := ⟨n - 1, by omega⟩
    have hb := chB_le (pm B D) i
    have c1 := hcs (i + 1) (by omega)
    have c2 := hcs (chB (pm B D) i) (by omega)
    obtain ⟨σ1, e1, hC1, hok1⟩ := c_hourBy hA hC (r := i + 1) (by omega)
    obtain ⟨σ2, e2, hC2, hok2⟩ := c_hourBy hA hC1 (r := chB (pm B D) i) (by omega)
    rw [f6_cheapest_b15, if_neg (by simp (disch := omega) only [n0, n1, n2, n3, n4, n5, n6, n7, n8, n9, n10, n11, n12, n13, n14, n15, n16, n17, n18, n19, n20, n21, n22, n23, n24, n25, n26, n27, n28, n29, n30, n31, n32, n33, n34, n35, n36, n37, n38, n39, n40, n41, n42, n43, n44, n45, n46, n47, n48, n49, n50, n51, n52, n53, n54, n55, n56, n57, n58, n59, n60, n61, n62, n63, n64, n65, n66, n97, n99, n100, n103, n107, n111, n116, n117, n119, n126, n200, n359, n360, n999, n1000, n9999, n65521, n99999, n1000000, io_neg, io_add, io_sub, io_mul, io_lt, io_le, io_eq, io_nat, Int.toNat_natCast, toNat_c1, ifg, obs, obm, oob, bi0, bi1, bi01]; omega), e1, oob, if_pos (hl (by omega)), c_total hA (by omega) hok1, obs, e2, oob, if_pos (hl (by omega)), c_total hA (by omega) hok2, obs]
    have e3 : io ((i + 1 : Nat) : Int) + 1 = io ((i + 1 + 1 : Nat) : Int) := by rw [n1, io_add]; congr 1
    rw [e3]
    have := ih (i + 1) n σ2 (by omega) (by omega) hC2
    rw [chB] at this
    by_cases c : cst (pm B D) ((i + 1 : Nat) : Int) 0 < cst (pm B D) (chB (pm B D) i : Nat) 0
    · rw [if_pos c] at this
      rw [if_neg (by simp (disch := omega) only [n0, n1, n2, n3, n4, n5, n6, n7, n8, n9, n10, n11, n12, n13, n14, n15, n16, n17, n18, n19, n20, n21, n22, n23, n24, n25, n26, n27, n28, n29, n30, n31, n32, n33, n34, n35, n36, n37, n38, n39, n40, n41, n42, n43, n44, n45, n46, n47, n48, n49, n50, n51, n52, n53, n54, n55, n56, n57, n58, n59, n60, n61, n62, n63, n64, n65, n66, n97, n99, n100, n103, n107, n111, n116, n117, n119, n126, n200, n359, n360, n999, n1000, n9999, n65521, n99999, n1000000, io_neg, io_add, io_sub, io_mul, io_lt, io_le, io_eq, io_nat, Int.toNat_natCast, toNat_c1, ifg, obs, obm, oob, bi0, bi1, bi01]; omega)]
      exact this
    · rw [if_neg c] at this
      rw [if_pos (by simp (disch := omega) only [n0, n1, n2, n3, n4, n5, n6, n7, n8, n9, n10, n11, n12, n13, n14, n15, n16, n17, n18, n19, n20, n21, n22, n23, n24, n25, n26, n27, n28, n29, n30, n31, n32, n33, n34, n35, n36, n37, n38, n39, n40, n41, n42, n43, n44, n45, n46, n47, n48, n49, n50, n51, n52, n53, n54, n55, n56, n57, n58, n59, n60, n61, n62, n63, n64, n65, n66, n97, n99, n100, n103, n107, n111, n116, n117, n119, n126, n200, n359, n360, n999, n1000, n9999, n65521, n99999, n1000000, io_neg, io_add, io_sub, io_mul, io_lt, io_le, io_eq, io_nat, Int.toNat_natCast, toNat_c1, ifg, obs, obm, oob, bi0, bi1, bi01]; omega)]
      exact this
theorem m_cheap (hA : AB B D l X m U m2 V q Z Y) {w : Int} (w0 : 0 ≤ w) (w1 : w ≤ 1) : ∀ k i n σ, i + k = 3 → k < n → IM σ B D l X m U m2 V q Z Y → ∃ σ', f7_cheapest_b24 n σ (io w) (io (chB (pm B D) i : Nat)) (io (cst (pm B D) (chB (pm B D) i : Nat) 0)) (io ((i + 1 : Nat) : Int)) = some (σ', if w = 0 then io (chB (pm B D) 3 : Nat) else io (cst (pm B D) (chB (pm B D) 3 : Nat) 0)) ∧ IM σ' B D l X m U m2 V q Z Y := by
  have hPB := PB_pm hA.1 hA.2.1
  have hcs : ∀ r : Nat, r < 4 → 0 ≤ cst (pm B D) r 0 ∧ cst (pm B D) r 0 ≤ 300000 := fun r hr => (cst_eq hPB (by omega) (by omega) (by omega) (by omega)).1
  intro k
  induction k with
  | zero =>
    intro i n σ hi hn hC
    obtain ⟨n, rfl⟩ : ∃ t, n = t + 1 := ⟨n - 1, by omega⟩
    have : i = 3 := by omega
    subst this
    rw [f7_cheapest_b24, if_pos (by decide)]
    by_cases c : w = 0
    · rw [if_pos c, if_pos (by rw [c]; rfl)]
      exact ⟨σ, rfl, hC⟩
    · rw [if_neg c, if_neg (by simp (disch := omega) only [n0, n1, n2, n3, n4, n5, n6, n7, n8, n9, n10, n11, n12, n13, n14, n15, n16, n17, n18, n19, n20, n21, n22, n23, n24, n25, n26, n27, n28, n29, n30, n31, n32, n33, n34, n35, n36, n37, n38, n39, n40, n41, n42, n43, n44, n45, n46, n47, n48, n49, n50, n51, n52, n53, n54, n55, n56, n57, n58, n59, n60, n61, n62, n63, n64, n65, n66, n97, n99, n100, n103, n107, n111, n116, n117, n119, n126, n200, n359, n360, n999, n1000, n9999, n65521, n99999, n1000000, io_neg, io_add, io_sub, io_mul, io_lt, io_le, io_eq, io_nat, Int.toNat_natCast, toNat_c1, ifg, obs, obm, oob, bi0, bi1, bi01]; exact c)]
      exact ⟨σ, rfl, hC⟩
  | succ k ih =>
    intro i n σ hi hn hC
    obtain ⟨n, rfl⟩ : ∃ t, n = t + 1 := ⟨n - 1, by omega⟩
    have hb := chB_le (pm B D) i
    have c1 := hcs (i + 1) (by omega)
    have c2 := hcs (chB (pm B D) i) (by omega)
    obtain ⟨-, -, g3, hM'⟩ := m_hour hA hC (rule := ((i + 1 : Nat) : Int)) (n := 0) (by omega) (by omega) (by omega) (by omega)
    rw [f7_cheapest_b24, if_neg (by simp (disch := omega) only [n0, n1, n2, n3, n4, n5, n6, n7, n8, n9, n10, n11, n12, n13, n14, n15, n16, n17, n18, n19, n20, n21, n22, n23, n24, n25, n26, n27, n28, n29, n30, n31, n32, n33, n34, n35, n36, n37, n38, n39, n40, n41, n42, n43, n44, n45, n46, n47, n48, n49, n50, n51, n52, n53, n54, n55, n56, n57, n58, n59, n60, n61, n62, n63, n64, n65, n66, n97, n99, n100, n103, n107, n111, n116, n117, n119, n126, n200, n359, n360, n999, n1000, n9999, n65521, n99999, n1000000, io_neg, io_add, io_sub, io_mul, io_lt, io_le, io_eq, io_nat, Int.toNat_natCast, toNat_c1, ifg, obs, obm, oob, bi0, bi1, bi01]; omega), n0, g3, oob]
    unfold f7_cheapest_b51
    have e3 : io ((i + 1 : Nat) : Int) + 1 = io ((i + 1 + 1 : Nat) : Int) := by rw [n1, io_add]; congr 1
    rw [e3]
    have := ih (i + 1) n _ (by omega) (by omega) hM'
    rw [chB] at this
    by_cases c : cst (pm B D) ((i + 1 : Nat) : Int) 0 < cst (pm B D) (chB (pm B D) i : Nat) 0
    · rw [if_pos c] at this
      have c' : ¬ io (cst (pm B D) (chB (pm B D) i : Nat) 0) ≤ io (cst (pm B D) ((i + 1 : Nat) : Int) 0) := by simp (disch := omega) only [n0, n1, n2, n3, n4, n5, n6, n7, n8, n9, n10, n11, n12, n13, n14, n15, n16, n17, n18, n19, n20, n21, n22, n23, n24, n25, n26, n27, n28, n29, n30, n31, n32, n33, n34, n35, n36, n37, n38, n39, n40, n41, n42, n43, n44, n45, n46, n47, n48, n49, n50, n51, n52, n53, n54, n55, n56, n57, n58, n59, n60, n61, n62, n63, n64, n65, n66, n97, n99, n100, n103, n107, n111, n116, n117, n119, n126, n200, n359, n360, n999, n1000, n9999, n65521, n99999, n1000000, io_neg, io_add, io_sub, io_mul, io_lt, io_le, io_eq, io_nat, Int.toNat_natCast, toNat_c1, ifg, obs, obm, oob, bi0, bi1, bi01]; omega
      rw [if_neg c', if_neg c']
      exact this
    · rw [if_neg c] at this
      have c' : io (cst (pm B D) (chB (pm B D) i : Nat) 0) ≤ io (cst (pm B D) ((i + 1 : Nat) : Int) 0) := by simp (disch := omega) only [n0, n1, n2, n3, n4, n5, n6, n7, n8, n9, n10, n11, n12, n13, n14, n15, n16, n17, n18, n19, n20, n21, n22, n23, n24, n25, n26, n27, n28, n29, n30, n31, n32, n33, n34, n35, n36, n37, n38, n39, n40, n41, n42, n43, n44, n45, n46, n47, n48, n49, n50, n51, n52, n53, n54, n55, n56, n57, n58, n59, n60, n61, n62, n63, n64, n65, n66, n97, n99, n100, n103, n107, n111, n116, n117, n119, n126, n200, n359, n360, n999, n1000, n9999, n65521, n99999, n1000000, io_neg, io_add, io_sub, io_mul, io_lt, io_le, io_eq, io_nat, Int.toNat_natCast, toNat_c1, ifg, obs, obm, oob, bi0, bi1, bi01]; omega
      rw [if_pos c', if_pos c']
      exact this
theorem s_cheapest (hI : Inv σc σm) (a : Int32) : Step (f6_cheapest σc a) (f7_cheapest σm a) := by
  have hI' := hI
  obtain ⟨B, D, l, X, m, U, m2, V, q, Z, Y, hA, hC, hM⟩ := hI'
  obtain ⟨x, rfl, x0, x1⟩ := arg a
  unfold f6_cheapest f7_cheapest
  simp (disch := omega) only [n0, n1, n2, n3, n4, n5, n6, n7, n8, n9, n10, n11, n12, n13, n14, n15, n16, n17, n18, n19, n20, n21, n22, n23, n24, n25, n26, n27, n28, n29, n30, n31, n32, n33, n34, n35, n36, n37, n38, n39, n40, n41, n42, n43, n44, n45, n46, n47, n48, n49, n50, n51, n52, n53, n54, n55, n56, n57, n58, n59, n60, n61, n62, n63, n64, n65, n66, n97, n99, n100, n103, n107, n111, n116, n117, n119, n126, n200, n359, n360, n999, n1000, n9999, n65521, n99999, n1000000, io_neg, io_add, io_sub, io_mul, io_lt, io_le, io_eq, io_nat, Int.toNat_natCast, toNat_c1, ifg, obs, obm, oob, bi0, bi1, bi01, ob_ite, bind_ite, ↓reduceIte, eq_self, c_isRule, c_isBeat, c_isMinute, c_isTold, m_isRule, m_in, i64_toInt, io_toInt, j0, j1, j2, j3, j9, j30, j32, j48, j57, j59, j60, j99, j126, j359, j9999, decide_eq_false_iff_not, decide_eq_true_eq, p_between]
  by_cases c : 0 ≤ x ∧ x ≤ 1
  · have c' := not_not_intro c
    rw [if_neg c', if_neg c']
    obtain ⟨-, -, g3, hM'⟩ := m_hour hA hM (rule := 0) (n := 0) (by omega) (by omega) (by omega) (by omega)
    rw [g3, oob]
    obtain ⟨σ1, e1, hC1⟩ := c_cheap hA c.1 c.2 3 0 1000 σc rfl (by omega) hC
    obtain ⟨σ2, e2, hM2⟩ := m_cheap hA c.1 c.2 3 0 1000 _ rfl (by omega) hM'
    exact ⟨_, _, _, e1, e2, B, D, l, X, m, U, m2, V, q, Z, Y, hA, hC1, hM2⟩
  · rw [if_pos c, if_pos c]
    exact Step.same hI rfl rfl
theorem s_bridge (hI : Inv σc σm) (a b : Int32) : Step (f6_bridge σc a b) (f7_bridge σm a b) := by
  have hI' := hI
  obtain ⟨B, D, l, X, m, U, m2, V, q, Z, Y, hA, hC, hM⟩ := hI'
  obtain ⟨x, rfl, x0, x1⟩ := arg a
  obtain ⟨y, rfl, y0, y1⟩ := arg b
  have hPB := PB_pm hA.1 hA.2.1
  unfold f6_bridge f7_bridge f7_bridge_b48
  simp (disch := omega) only [n0, n1, n2, n3, n4, n5, n6, n7, n8, n9, n10, n11, n12, n13, n14, n15, n16, n17, n18, n19, n20, n21, n22, n23, n24, n25, n26, n27, n28, n29, n30, n31, n32, n33, n34, n35, n36, n37, n38, n39, n40, n41, n42, n43, n44, n45, n46, n47, n48, n49, n50, n51, n52, n53, n54, n55, n56, n57, n58, n59, n60, n61, n62, n63, n64, n65, n66, n97, n99, n100, n103, n107, n111, n116, n117, n119, n126, n200, n359, n360, n999, n1000, n9999, n65521, n99999, n1000000, io_neg, io_add, io_sub, io_mul, io_lt, io_le, io_eq, io_nat, Int.toNat_natCast, toNat_c1, ifg, obs, obm, oob, bi0, bi1, bi01, ob_ite, bind_ite, ↓reduceIte, eq_self, c_isRule, c_isBeat, c_isMinute, c_isTold, m_isRule, m_in, i64_toInt, io_toInt, j0, j1, j2, j3, j9, j30, j32, j48, j57, j59, j60, j99, j126, j359, j9999, decide_eq_false_iff_not, decide_eq_true_eq, p_between]
  by_cases c : 0 ≤ x ∧ x ≤ 3
  · have c' := not_not_intro c
    rw [if_neg c', if_neg c']
    by_cases c1 : 1 ≤ y ∧ y ≤ 99
    · have c1' := not_not_intro c1
      rw [if_neg c1', if_neg c1']
      obtain ⟨r, rfl⟩ : ∃ r : Nat, x = (r : Int) := ⟨x.toNat, by omega⟩
      obtain ⟨σ', e1, hC', hok⟩ := c_hourBy hA hC (r := r) (by omega)
      obtain ⟨g1, g2, g3, hM'⟩ := m_hour hA hM (rule := (r : Int)) (n := 0) (by omega) (by omega) (by omega) (by omega)
      have hc := (cst_eq (P := pm B D) (rule := (r : Int)) (n := 0) hPB (by omega) (by omega) (by omega) (by omega)).1
      have hq : 0 ≤ (100 * y + cst (pm B D) r 0 - 1) / cst (pm B D) r 0 ∧ (100 * y + cst (pm B D) r 0 - 1) / cst (pm B D) r 0 ≤ 400000 := by
        refine ⟨Int.ediv_nonneg (by omega) hc.1, ?_⟩
        by_cases c0 : cst (pm B D) r 0 = 0
        · rw [c0, Int.ediv_zero]; omega
        · exact Int.le_trans (Int.ediv_le_self _ (by omega)) (by omega)
      simp (disch := omega) only [n0, n1, n2, n3, n4, n5, n6, n7, n8, n9, n10, n11, n12, n13, n14, n15, n16, n17, n18, n19, n20, n21, n22, n23, n24, n25, n26, n27, n28, n29, n30, n31, n32, n33, n34, n35, n36, n37, n38, n39, n40, n41, n42, n43, n44, n45, n46, n47, n48, n49, n50, n51, n52, n53, n54, n55, n56, n57, n58, n59, n60, n61, n62, n63, n64, n65, n66, n97, n99, n100, n103, n107, n111, n116, n117, n119, n126, n200, n359, n360, n999, n1000, n9999, n65521, n99999, n1000000, io_neg, io_add, io_sub, io_mul, io_lt, io_le, io_eq, io_nat, Int.toNat_natCast, toNat_c1, ifg, obs, obm, oob, bi0, bi1, bi01, ob_ite, bind_ite, ↓reduceIte, eq_self, e1, g3, hl, c_total hA (show r < 4 by omega) hok, io_div]
      by_cases c0 : cst (pm B D) r 0 = 0
      · rw [if_neg (show ¬ 0 < cst (pm B D) r 0 by omega), if_pos c0]
        exact ⟨_, _, _, rfl, rfl, B, D, l, X, m, U, m2, V, q, Z, Y, hA, hC', hM'⟩
      · rw [if_pos (show 0 < cst (pm B D) r 0 by omega), if_neg c0, if_pos c0, if_pos c0]
        by_cases c9 : 999 < (100 * y + cst (pm B D) r 0 - 1) / cst (pm B D) r 0
        · rw [if_pos c9, if_neg (show ¬ (100 * y + cst (pm B D) r 0 - 1) / cst (pm B D) r 0 ≤ 999 by omega)]
          exact ⟨_, _, _, rfl, rfl, B, D, l, X, m, U, m2, V, q, Z, Y, hA, hC', hM'⟩
        · rw [if_neg c9, if_pos (show (100 * y + cst (pm B D) r 0 - 1) / cst (pm B D) r 0 ≤ 999 by omega)]
          exact ⟨_, _, _, rfl, rfl, B, D, l, X, m, U, m2, V, q, Z, Y, hA, hC', hM'⟩
    · rw [if_pos c1, if_pos c1]
      exact Step.same hI rfl rfl
  · rw [if_pos c, if_pos c]
    exact Step.same hI rfl rfl
/-- dinner: the longest row, its first beat, the row now -/
def dnr (P : PS) (rule : Int) (b : Nat) (z : Int × Int × Int) : Int × Int × Int := if gts P rule b = io 0 then (if z.2.2 + 1 ≤ z.1 then (z.1, z.2.1, z.2.2 + 1) else (z.2.2 + 1, b - (z.2.2 + 1) + 1, z.2.2 + 1)) else (if 0 ≤ z.1 then (z.1, z.2.1, 0) else (0, (b : Int) - 0 + 1, 0))
def dnI (b : Nat) (z : Int × Int × Int) : Prop := 0 ≤ z.1 ∧ z.1 ≤ b ∧ 0 ≤ z.2.2 ∧ z.2.2 ≤ b ∧ (z.1 = 0 → z.2.1 = -4) ∧ -4 ≤ z.2.1 ∧ z.2.1 ≤ 400
theorem dn_I {rule : Int} {b : Nat} {z : Int × Int × Int} (hb : b < 360) (h : dnI b z) : dnI (b + 1) (dnr P rule b z) := by
  obtain ⟨h1, h2, h3, h4, h5, h6, h7⟩ := h
  unfold dnr dnI
  split
  · split
    · exact ⟨h1, by omega, by simp only; omega, by simp only; omega, h5, h6, h7⟩
    · exact ⟨by simp only; omega, by simp only; omega, by simp only; omega, by simp only; omega, fun w => by simp only at w; omega, by simp only; omega, by simp only; omega⟩
  · exact ⟨h1, by simp only; omega, by simp only; omega, by simp only; omega, h5, h6, h7⟩
theorem s_dinner (hI : Inv σc σm) (a b : Int32) : Step (f6_dinner σc a b) (f7_dinner σm a b) := by
  have hI' := hI
  obtain ⟨B, D, l, X, m, U, m2, V, q, Z, Y, hA, hC, hM⟩ := hI'
  obtain ⟨x, rfl, x0, x1⟩ := arg a
  obtain ⟨y, rfl, y0, y1⟩ := arg b
  have hPB := PB_pm hA.1 hA.2.1
  unfold f6_dinner f7_dinner
  simp (disch := omega) only [n0, n1, n2, n3, n4, n5, n6, n7, n8, n9, n10, n11, n12, n13, n14, n15, n16, n17, n18, n19, n20, n21, n22, n23, n24, n25, n26, n27, n28, n29, n30, n31, n32, n33, n34, n35, n36, n37, n38, n39, n40, n41, n42, n43, n44, n45, n46, n47, n48, n49, n50, n51, n52, n53, n54, n55, n56, n57, n58, n59, n60, n61, n62, n63, n64, n65, n66, n97, n99, n100, n103, n107, n111, n116, n117, n119, n126, n200, n359, n360, n999, n1000, n9999, n65521, n99999, n1000000, io_neg, io_add, io_sub, io_mul, io_lt, io_le, io_eq, io_nat, Int.toNat_natCast, toNat_c1, ifg, obs, obm, oob, bi0, bi1, bi01, ob_ite, bind_ite, ↓reduceIte, eq_self, c_isRule, c_isBeat, c_isMinute, c_isTold, m_isRule, m_in, i64_toInt, io_toInt, j0, j1, j2, j3, j9, j30, j32, j48, j57, j59, j60, j99, j126, j359, j9999, decide_eq_false_iff_not, decide_eq_true_eq, p_between]
  by_cases c : 0 ≤ x ∧ x ≤ 3
  · have c' := not_not_intro c
    rw [if_neg c', if_neg c']
    by_cases c1 : 0 ≤ y ∧ y ≤ 1
    · have c1' := not_not_intro c1
      rw [if_neg c1', if_neg c1']
      obtain ⟨r, rfl⟩ : ∃ r : Nat, x = (r : Int) := ⟨x.toNat, by omega⟩
      obtain ⟨σ', e1, hC', hok⟩ := c_hourBy hA hC (r := r) (by omega)
      obtain ⟨g1, g2, g3, hM'⟩ := m_hour hA hM (rule := (r : Int)) (n := 0) (by omega) (by omega) (by omega) (by omega)
      obtain ⟨k1, k2, k3, k4⟩ := hok _ (ok2_vw σm)
      have hg : ∀ k, k < 360 → io (chour (pm B D) r 0 (vw σm) 6 k) = gts (pm B D) r k := fun k hk => gts_eq hPB (by omega) (by omega) hk (ok2_vw σm)
      rw [e1, oob, if_pos (hl (by omega)), g1, obs]
      have f1 := fold_loop (fun n (z : Int × Int × Int) i => f6_dinner_b37 n σ' (io y) (42 + 8 * r) (io z.1) (io z.2.1) (io z.2.2) i) (fun z => if z.1 = 0 then some (σ', io (-4)) else if y = 0 then some (σ', io z.1) else some (σ', io z.2.1)) 360 (dnr (pm B D) r) dnI (a0 := (0, -4, 0)) ⟨by simp, by simp, by simp, by simp, fun _ => rfl, by simp, by simp⟩ (fun i z hi h => dn_I hi h) (fun n z h => ?_) (fun n i z hi h => ?_) 1000 (by omega)
      have f2 := fold_loop (fun n (z : Int × Int × Int) i => f7_dinner_b37 n (ov σm (chour (pm B D) r 0 (vw σm))) (io y) (io z.1) (io z.2.1) (io z.2.2) i) (fun z => if z.1 = 0 then some (ov σm (chour (pm B D) r 0 (vw σm)), io z.2.1) else if y = 1 then some (ov σm (chour (pm B D) r 0 (vw σm)), io z.2.1) else some (ov σm (chour (pm B D) r 0 (vw σm)), io z.1)) 360 (dnr (pm B D) r) dnI (a0 := (0, -4, 0)) ⟨by simp, by simp, by simp, by simp, fun _ => rfl, by simp, by simp⟩ (fun i z hi h => dn_I hi h) (fun n z h => ?_) (fun n i z hi h => ?_) 1000 (by omega)
      · obtain ⟨f1, hz⟩ := f1
        obtain ⟨f2, -⟩ := f2
        generalize foldN 360 (dnr (pm B D) r) (0, -4, 0) = z at f1 f2 hz
        obtain ⟨h1, h2, h3, h4, h5, h6, h7⟩ := hz
        have fin : ∀ w, (if z.1 = 0 then some (σ', io (-4)) else if y = 0 then some (σ', io z.1) else some (σ', io z.2.1)) = some (σ', w) → (if z.1 = 0 then some (ov σm (chour (pm B D) r 0 (vw σm)), io z.2.1) else if y = 1 then some (ov σm (chour (pm B D) r 0 (vw σm)), io z.2.1) else some (ov σm (chour (pm B D) r 0 (vw σm)), io z.1)) = some (ov σm (chour (pm B D) r 0 (vw σm)), w) → Step (f6_dinner_b37 1000 σ' (io y) (42 + 8 * r) (io 0) (io (-4)) (io 0) (io 0)) (f7_dinner_b37 1000 (ov σm (chour (pm B D) r 0 (vw σm))) (io y) (io 0) (io (-4)) (io 0) (io 0)) := fun w q1 q2 => ⟨_, _, w, f1.trans q1, f2.trans q2, B, D, l, X, m, U, m2, V, q, Z, Y, hA, hC', hM'⟩
        by_cases d : z.1 = 0
        · exact fin (io (-4)) (by rw [if_pos d]) (by rw [if_pos d, h5 d])
        · by_cases d0 : y = 0
          · exact fin (io z.1) (by rw [if_neg d, if_pos d0]) (by rw [if_neg d, if_neg (show ¬ y = 1 by omega)])
          · exact fin (io z.2.1) (by rw [if_neg d, if_neg d0]) (by rw [if_neg d, if_pos (show y = 1 by omega)])
      · show f7_dinner_b37 (n + 1) _ _ _ _ _ _ = _
        obtain ⟨h1, h2, h3, h4, h5, h6, h7⟩ := h
        rw [f7_dinner_b37, if_pos (by decide)]
        simp (disch := omega) only [n0, n1, n2, n3, n4, n5, n6, n7, n8, n9, n10, n11, n12, n13, n14, n15, n16, n17, n18, n19, n20, n21, n22, n23, n24, n25, n26, n27, n28, n29, n30, n31, n32, n33, n34, n35, n36, n37, n38, n39, n40, n41, n42, n43, n44, n45, n46, n47, n48, n49, n50, n51, n52, n53, n54, n55, n56, n57, n58, n59, n60, n61, n62, n63, n64, n65, n66, n97, n99, n100, n103, n107, n111, n116, n117, n119, n126, n200, n359, n360, n999, n1000, n9999, n65521, n99999, n1000000, io_neg, io_add, io_sub, io_mul, io_lt, io_le, io_eq, io_nat, Int.toNat_natCast, toNat_c1, ifg, obs, obm, oob, bi0, bi1, bi01, ob_ite, bind_ite, ↓reduceIte, eq_self]
      · show f7_dinner_b37 (n + 1) _ _ _ _ _ _ = f7_dinner_b37 n _ _ _ _ _ _
        obtain ⟨h1, h2, h3, h4, h5, h6, h7⟩ := h
        rw [f7_dinner_b37, if_neg (by simp (disch := omega) only [n0, n1, n2, n3, n4, n5, n6, n7, n8, n9, n10, n11, n12, n13, n14, n15, n16, n17, n18, n19, n20, n21, n22, n23, n24, n25, n26, n27, n28, n29, n30, n31, n32, n33, n34, n35, n36, n37, n38, n39, n40, n41, n42, n43, n44, n45, n46, n47, n48, n49, n50, n51, n52, n53, n54, n55, n56, n57, n58, n59, n60, n61, n62, n63, n64, n65, n66, n97, n99, n100, n103, n107, n111, n116, n117, n119, n126, n200, n359, n360, n999, n1000, n9999, n65521, n99999, n1000000, io_neg, io_add, io_sub, io_mul, io_lt, io_le, io_eq, io_nat, Int.toNat_natCast, toNat_c1, ifg, obs, obm, oob, bi0, bi1, bi01]; omega)]
        unfold f7_dinner_b63 dnr
        simp (disch := omega) only [n0, n1, n2, n3, n4, n5, n6, n7, n8, n9, n10, n11, n12, n13, n14, n15, n16, n17, n18, n19, n20, n21, n22, n23, n24, n25, n26, n27, n28, n29, n30, n31, n32, n33, n34, n35, n36, n37, n38, n39, n40, n41, n42, n43, n44, n45, n46, n47, n48, n49, n50, n51, n52, n53, n54, n55, n56, n57, n58, n59, n60, n61, n62, n63, n64, n65, n66, n97, n99, n100, n103, n107, n111, n116, n117, n119, n126, n200, n359, n360, n999, n1000, n9999, n65521, n99999, n1000000, io_neg, io_add, io_sub, io_mul, io_lt, io_le, io_eq, io_nat, Int.toNat_natCast, toNat_c1, ifg, obs, obm, oob, bi0, bi1, bi01, ob_ite, bind_ite, ↓reduceIte, eq_self, ov_g, hg i hi]
        by_cases d : gts (pm B D) r i = io 0
        · rw [if_pos d, if_pos d]
          by_cases d1 : z.2.2 + 1 ≤ z.1
          · rw [if_pos d1, if_pos d1]
          · rw [if_neg d1, if_neg d1]
        · rw [if_neg d, if_neg d]
          rw [if_pos h1, if_pos h1]
      · show f6_dinner_b37 (n + 1) _ _ _ _ _ _ _ = _
        obtain ⟨h1, h2, h3, h4, h5, h6, h7⟩ := h
        rw [f6_dinner_b37, if_pos (by decide)]
        simp (disch := omega) only [n0, n1, n2, n3, n4, n5, n6, n7, n8, n9, n10, n11, n12, n13, n14, n15, n16, n17, n18, n19, n20, n21, n22, n23, n24, n25, n26, n27, n28, n29, n30, n31, n32, n33, n34, n35, n36, n37, n38, n39, n40, n41, n42, n43, n44, n45, n46, n47, n48, n49, n50, n51, n52, n53, n54, n55, n56, n57, n58, n59, n60, n61, n62, n63, n64, n65, n66, n97, n99, n100, n103, n107, n111, n116, n117, n119, n126, n200, n359, n360, n999, n1000, n9999, n65521, n99999, n1000000, io_neg, io_add, io_sub, io_mul, io_lt, io_le, io_eq, io_nat, Int.toNat_natCast, toNat_c1, ifg, obs, obm, oob, bi0, bi1, bi01, ob_ite, bind_ite, ↓reduceIte, eq_self]
      · show f6_dinner_b37 (n + 1) _ _ _ _ _ _ _ = f6_dinner_b37 n _ _ _ _ _ _ _
        obtain ⟨h1, h2, h3, h4, h5, h6, h7⟩ := h
        rw [f6_dinner_b37, if_neg (by simp (disch := omega) only [n0, n1, n2, n3, n4, n5, n6, n7, n8, n9, n10, n11, n12, n13, n14, n15, n16, n17, n18, n19, n20, n21, n22, n23, n24, n25, n26, n27, n28, n29, n30, n31, n32, n33, n34, n35, n36, n37, n38, n39, n40, n41, n42, n43, n44, n45, n46, n47, n48, n49, n50, n51, n52, n53, n54, n55, n56, n57, n58, n59, n60, n61, n62, n63, n64, n65, n66, n97, n99, n100, n103, n107, n111, n116, n117, n119, n126, n200, n359, n360, n999, n1000, n9999, n65521, n99999, n1000000, io_neg, io_add, io_sub, io_mul, io_lt, io_le, io_eq, io_nat, Int.toNat_natCast, toNat_c1, ifg, obs, obm, oob, bi0, bi1, bi01]; omega)]
        unfold f6_dinner_b62 dnr f1_gatesAt
        simp (disch := omega) only [n0, n1, n2, n3, n4, n5, n6, n7, n8, n9, n10, n11, n12, n13, n14, n15, n16, n17, n18, n19, n20, n21, n22, n23, n24, n25, n26, n27, n28, n29, n30, n31, n32, n33, n34, n35, n36, n37, n38, n39, n40, n41, n42, n43, n44, n45, n46, n47, n48, n49, n50, n51, n52, n53, n54, n55, n56, n57, n58, n59, n60, n61, n62, n63, n64, n65, n66, n97, n99, n100, n103, n107, n111, n116, n117, n119, n126, n200, n359, n360, n999, n1000, n9999, n65521, n99999, n1000000, io_neg, io_add, io_sub, io_mul, io_lt, io_le, io_eq, io_nat, Int.toNat_natCast, toNat_c1, ifg, obs, obm, oob, bi0, bi1, bi01, ob_ite, bind_ite, ↓reduceIte, eq_self, k2, hg i hi]
        rw [if_neg (show ¬ (i : Int) < 0 by omega), if_neg (show ¬ 360 ≤ (i : Int) by omega)]
        by_cases d : gts (pm B D) r i = io 0
        · rw [if_pos d, if_pos d]
          by_cases d1 : z.2.2 + 1 ≤ z.1
          · rw [if_pos d1, if_pos d1]
          · rw [if_neg d1, if_neg d1]
        · rw [if_neg d, if_neg d]
          rw [if_pos h1, if_pos h1]
    · rw [if_pos c1, if_pos c1]
      exact Step.same hI rfl rfl
  · rw [if_pos c, if_pos c]
    exact Step.same hI rfl rfl
end Hours2
