/-! CALLS ON HOURS: hourBy, gates, passed, stopped, crossed, waited, cost -/
theorem mx {r : Nat} (hr : r < 4) : (if (0 : Int32) < (if 3 < io (r : Int) then 3 else io (r : Int)) then (if 3 < io (r : Int) then 3 else io (r : Int)) else (0 : Int32)) = io (r : Int) := by
  obtain rfl | rfl | rfl | rfl : r = 0 ∨ r = 1 ∨ r = 2 ∨ r = 3 := by omega
  · rfl
  · rfl
  · rfl
  · rfl
theorem hl {r : Nat} (hr : r < 4) : 42 + 8 * r ∈ hourL := by
  obtain rfl | rfl | rfl | rfl : r = 0 ∨ r = 1 ∨ r = 2 ∨ r = 3 := by omega
  all_goals decide
theorem ok2_vw (σ : Mem) : ok2 (vw σ) := ⟨Int32.le_toInt _, Int32.toInt_lt _⟩
theorem ok2_0 : ok2 (fun _ _ => 0) := ⟨by decide, by decide⟩
section Hours
variable {σ σ' σc σm : Mem} {B P : PS} {D : Nat → Nat} {l l' : Nat} {X X' : Nat → Nat} {m : Nat} {U : PS} {m2 : Nat} {V : PS} {q q' : Nat} {Z Y Z' Y' : Nat → Nat}
/-- hours run: only the hours' cells change -/
theorem IC_hours (hm : m ≤ 8) (hm2 : m2 ≤ 2) (H : IC σ B D l X m U m2 V q Z Y) (fr : ∀ j, (j < 42 ∨ 81 < j) → σ' j = σ j) (h : CH σ' (pm B D)) : IC σ' B D l X m U m2 V q Z Y := by
  obtain ⟨h1, h2, h3, h4, h5, h6, h7, h8, h9, h10⟩ := H
  exact ⟨CT_fr (by rw [fr 1 (by omega)]) (fr 2 (by omega)) h1, CB_fr (fun j _ _ => fr j (by omega)) h2, CD_fr (fun j _ _ => fr j (by omega)) h3, SD_fr (fun j _ _ => fr j (by omega)) h4, by rw [fr 37 (by omega)]; exact h5, h, CP_fr rfl (fun j _ _ => fr j (by omega)) hm h7, CP_fr rfl (fun j _ _ => fr j (by omega)) hm2 h8, CS_fr (fun j _ _ => fr j (by omega)) h9, CL_fr (by rw [fr 0 (by omega)]) (by rw [fr 0 (by omega)]) (by rw [fr 0 (by omega)]) h10⟩
theorem c_hourBy (hA : AB B D l X m U m2 V q Z Y) (H : IC σ B D l X m U m2 V q Z Y) {r : Nat} (hr : r < 4) : ∃ σ', f6_hourBy σ (io r) = some (σ', 42 + 8 * r) ∧ IC σ' B D l X m U m2 V q Z Y ∧ HourOK σ' (42 + 8 * r) (pm B D) r 0 := by
  have hPB := PB_pm hA.1 hA.2.1
  have hPC := PC_of hA.1 H.2.1 H.2.2.2.1
  have hCH := H.2.2.2.2.2.1
  unfold f6_hourBy
  rw [mx hr]
  simp (disch := omega) only [n0, n1, n2, n3, n4, n5, n6, n7, n8, n9, n10, n11, n12, n13, n14, n15, n16, n17, n18, n19, n20, n21, n22, n23, n24, n25, n26, n27, n28, n29, n30, n31, n32, n33, n34, n35, n36, n37, n38, n39, n40, n41, n42, n43, n44, n45, n46, n47, n48, n49, n50, n51, n52, n53, n54, n55, n56, n57, n58, n59, n60, n61, n62, n63, n64, n65, n66, n97, n99, n100, n103, n107, n111, n116, n117, n119, n126, n200, n359, n360, n999, n1000, n9999, n65521, n99999, n1000000, io_neg, io_add, io_sub, io_mul, io_lt, io_le, io_eq, io_nat, Int.toNat_natCast, toNat_c1, ifg, obs, obm, oob, bi0, bi1, bi01, ob_ite, bind_ite, ↓reduceIte, eq_self]
  unfold f1_isUpToDate
  rcases hCH r hr with h0 | h0
  · have hlt := (cst_eq (rule := (r : Int)) (n := 0) hPB (by omega) (by omega) (by omega) (by omega)).1
    obtain ⟨σ', x, fr, t10, -, hok⟩ := c_run2 (h := 42 + 8 * r) (rule := (r : Int)) (n := 0) (e := 1000000) hPB hPC (by omega) (by omega) (by unfold hst; rw [if_neg (by omega)]) (by omega) (by omega) (by omega) (by omega) (by omega) (by omega)
    rw [h0]
    simp (disch := omega) only [n0, n1, n2, n3, n4, n5, n6, n7, n8, n9, n10, n11, n12, n13, n14, n15, n16, n17, n18, n19, n20, n21, n22, n23, n24, n25, n26, n27, n28, n29, n30, n31, n32, n33, n34, n35, n36, n37, n38, n39, n40, n41, n42, n43, n44, n45, n46, n47, n48, n49, n50, n51, n52, n53, n54, n55, n56, n57, n58, n59, n60, n61, n62, n63, n64, n65, n66, n97, n99, n100, n103, n107, n111, n116, n117, n119, n126, n200, n359, n360, n999, n1000, n9999, n65521, n99999, n1000000, io_neg, io_add, io_sub, io_mul, io_lt, io_le, io_eq, io_nat, Int.toNat_natCast, toNat_c1, ifg, obs, obm, oob, bi0, bi1, bi01, ob_ite, bind_ite, ↓reduceIte, eq_self, x, true_or]
    refine ⟨σ', rfl, IC_hours hA.2.2.2.1.1 hA.2.2.2.2.1.1 H (fun j hj => fr j (by omega)) (fun r' hr' => ?_), hok (by omega)⟩
    by_cases e : r' = r
    · subst e
      exact Or.inr ⟨t10, hok (by omega)⟩
    · rw [fr (42 + 8 * r') (by omega)]
      rcases hCH r' hr' with h | h
      · exact Or.inl h
      · exact Or.inr ⟨h.1, HourOK_fr (fun j z1 z2 => fr j (by omega)) h.2⟩
  · rw [h0.1]
    simp (disch := omega) only [n0, n1, n2, n3, n4, n5, n6, n7, n8, n9, n10, n11, n12, n13, n14, n15, n16, n17, n18, n19, n20, n21, n22, n23, n24, n25, n26, n27, n28, n29, n30, n31, n32, n33, n34, n35, n36, n37, n38, n39, n40, n41, n42, n43, n44, n45, n46, n47, n48, n49, n50, n51, n52, n53, n54, n55, n56, n57, n58, n59, n60, n61, n62, n63, n64, n65, n66, n97, n99, n100, n103, n107, n111, n116, n117, n119, n126, n200, n359, n360, n999, n1000, n9999, n65521, n99999, n1000000, io_neg, io_add, io_sub, io_mul, io_lt, io_le, io_eq, io_nat, Int.toNat_natCast, toNat_c1, ifg, obs, obm, oob, bi0, bi1, bi01, ob_ite, bind_ite, ↓reduceIte, eq_self, or_true]
    exact ⟨σ, rfl, H, h0.2⟩
theorem m_hour (hA : AB B D l X m U m2 V q Z Y) (H : IM σ B D l X m U m2 V q Z Y) {rule n : Int} (n0' : 0 ≤ n) (n1' : n < 400) (r0 : 0 ≤ rule) (r1 : rule ≤ 4) : f7_goHour σ (io rule) (io n) = some (ov σ (chour (pm B D) rule n (vw σ))) ∧ BS (chour (pm B D) rule n (vw σ)) 5400 ∧ f7_costBy σ (io rule) (io n) = some (ov σ (chour (pm B D) rule n (vw σ)), io (cst (pm B D) rule n)) ∧ IM (ov σ (chour (pm B D) rule n (vw σ))) B D l X m U m2 V q Z Y := by
  have hPB := PB_pm hA.1 hA.2.1
  have hPM := PM_of H.2.1 H.2.2.1
  have e1 := m_goHour (S := vw σ) hPB hPM (ok2_vw σ) n0' n1' r0 r1
  have e2 := m_costBy (S := vw σ) hPB hPM (ok2_vw σ) n0' n1' r0 r1
  rw [ov_vw] at e1 e2
  rw [(cst_eq hPB r0 r1 n0' n1').2 _ (ok2_vw σ)] at e2
  exact ⟨e1.1, e1.2, e2, IM_ov H⟩
theorem began_4 {rule n : Int} {S0 : SS} {i : Nat} (hi : i < 6) : chour P rule n S0 1 i = -4 ∨ 0 ≤ chour P rule n S0 1 i := by
  unfold chour
  refine foldN_inv (I := fun _ (a : SS) => a 1 i = -4 ∨ 0 ≤ a 1 i) ?_ _ (fun b a hb hI => ?_)
  · left; rw [cbegin_v]; simp [hi]
  · unfold cbeat
    simp (disch := omega) only [su_row, su_self, ru_s, ru_n]
    rw [cusers_row (by omega) (by omega) (by omega) (by omega)]
    unfold ctrains
    refine foldN_inv (I := fun _ (a : SS) => a 1 i = -4 ∨ 0 ≤ a 1 i) ?_ _ (fun k a' hk hI' => ?_)
    · simp (disch := omega) only [su_row, su_self, ru_s, ru_n]
      rw [cmove_row (by omega)]
      exact hI
    · unfold ctr
      split
      · split
        · simp (disch := omega) only [su_row, su_self, ru_s, ru_n]
          by_cases e : i = k
          · subst e; rw [ru_s]; right; omega
          · rw [ru_n _ _ e]; exact hI'
        · simp (disch := omega) only [su_row, su_self, ru_s, ru_n]; exact hI'
      · exact hI'
theorem s_gates (hI : Inv σc σm) (a b : Int32) : Step (f6_gates σc a b) (f7_gates σm a b) := by
  have hI' := hI
  obtain ⟨B, D, l, X, m, U, m2, V, q, Z, Y, hA, hC, hM⟩ := hI'
  obtain ⟨x, rfl, x0, x1⟩ := arg a
  obtain ⟨y, rfl, y0, y1⟩ := arg b
  unfold f6_gates f7_gates
  simp (disch := omega) only [n0, n1, n2, n3, n4, n5, n6, n7, n8, n9, n10, n11, n12, n13, n14, n15, n16, n17, n18, n19, n20, n21, n22, n23, n24, n25, n26, n27, n28, n29, n30, n31, n32, n33, n34, n35, n36, n37, n38, n39, n40, n41, n42, n43, n44, n45, n46, n47, n48, n49, n50, n51, n52, n53, n54, n55, n56, n57, n58, n59, n60, n61, n62, n63, n64, n65, n66, n97, n99, n100, n103, n107, n111, n116, n117, n119, n126, n200, n359, n360, n999, n1000, n9999, n65521, n99999, n1000000, io_neg, io_add, io_sub, io_mul, io_lt, io_le, io_eq, io_nat, Int.toNat_natCast, toNat_c1, ifg, obs, obm, oob, bi0, bi1, bi01, ob_ite, bind_ite, ↓reduceIte, eq_self, c_isRule, c_isBeat, c_isMinute, c_isTold, m_isRule, m_in, i64_toInt, io_toInt, j0, j1, j2, j3, j9, j30, j32, j48, j57, j59, j60, j99, j126, j359, j9999, decide_eq_false_iff_not, decide_eq_true_eq]
  by_cases c : 0 ≤ x ∧ x ≤ 3
  · have c' := not_not_intro c
    rw [if_neg c', if_neg c']
    by_cases c1 : 0 ≤ y ∧ y ≤ 359
    · have c1' := not_not_intro c1
      rw [if_neg c1', if_neg c1']
      obtain ⟨r, rfl⟩ : ∃ r : Nat, x = (r : Int) := ⟨x.toNat, by omega⟩
      obtain ⟨k, rfl⟩ : ∃ k : Nat, y = (k : Int) := ⟨y.toNat, by omega⟩
      obtain ⟨σ', e1, hC', hok⟩ := c_hourBy hA hC (r := r) (by omega)
      obtain ⟨g1, g2, g3, hM'⟩ := m_hour hA hM (rule := (r : Int)) (n := 0) (by omega) (by omega) (by omega) (by omega)
      obtain ⟨k1, k2, k3, k4⟩ := hok _ (ok2_vw σm)
      unfold f1_gatesAt
      simp (disch := omega) only [n0, n1, n2, n3, n4, n5, n6, n7, n8, n9, n10, n11, n12, n13, n14, n15, n16, n17, n18, n19, n20, n21, n22, n23, n24, n25, n26, n27, n28, n29, n30, n31, n32, n33, n34, n35, n36, n37, n38, n39, n40, n41, n42, n43, n44, n45, n46, n47, n48, n49, n50, n51, n52, n53, n54, n55, n56, n57, n58, n59, n60, n61, n62, n63, n64, n65, n66, n97, n99, n100, n103, n107, n111, n116, n117, n119, n126, n200, n359, n360, n999, n1000, n9999, n65521, n99999, n1000000, io_neg, io_add, io_sub, io_mul, io_lt, io_le, io_eq, io_nat, Int.toNat_natCast, toNat_c1, ifg, obs, obm, oob, bi0, bi1, bi01, ob_ite, bind_ite, ↓reduceIte, eq_self, e1, g1, hl, k2, ov_g]
      rw [if_neg (show ¬ (k : Int) < 0 by omega), if_neg (show ¬ 360 ≤ (k : Int) by omega)]
      exact ⟨_, _, _, rfl, rfl, B, D, l, X, m, U, m2, V, q, Z, Y, hA, hC', hM'⟩
    · rw [if_pos c1, if_pos c1]
      exact Step.same hI rfl rfl
  · rw [if_pos c, if_pos c]
    exact Step.same hI rfl rfl
theorem s_passed (hI : Inv σc σm) (a b : Int32) : Step (f6_passed σc a b) (f7_passed σm a b) := by
  have hI' := hI
  obtain ⟨B, D, l, X, m, U, m2, V, q, Z, Y, hA, hC, hM⟩ := hI'
  obtain ⟨x, rfl, x0, x1⟩ := arg a
  obtain ⟨y, rfl, y0, y1⟩ := arg b
  have hb := hA.1.1
  unfold f6_passed f7_passed
  simp (disch := omega) only [n0, n1, n2, n3, n4, n5, n6, n7, n8, n9, n10, n11, n12, n13, n14, n15, n16, n17, n18, n19, n20, n21, n22, n23, n24, n25, n26, n27, n28, n29, n30, n31, n32, n33, n34, n35, n36, n37, n38, n39, n40, n41, n42, n43, n44, n45, n46, n47, n48, n49, n50, n51, n52, n53, n54, n55, n56, n57, n58, n59, n60, n61, n62, n63, n64, n65, n66, n97, n99, n100, n103, n107, n111, n116, n117, n119, n126, n200, n359, n360, n999, n1000, n9999, n65521, n99999, n1000000, io_neg, io_add, io_sub, io_mul, io_lt, io_le, io_eq, io_nat, Int.toNat_natCast, toNat_c1, ifg, obs, obm, oob, bi0, bi1, bi01, ob_ite, bind_ite, ↓reduceIte, eq_self, c_isRule, c_isBeat, c_isMinute, c_isTold, m_isRule, m_in, i64_toInt, io_toInt, j0, j1, j2, j3, j9, j30, j32, j48, j57, j59, j60, j99, j126, j359, j9999, decide_eq_false_iff_not, decide_eq_true_eq, c_isTrain hC.2.1.1.1 hA.1, m_isTrain hM.2.1.1.1 hA.1]
  by_cases c : 0 ≤ x ∧ x ≤ 3
  · have c' := not_not_intro c
    rw [if_neg c', if_neg c']
    by_cases c1 : 0 ≤ y ∧ y ≤ (B 0 0 : Int) - 1
    · have c1' := not_not_intro c1
      rw [if_neg c1', if_neg c1']
      obtain ⟨r, rfl⟩ : ∃ r : Nat, x = (r : Int) := ⟨x.toNat, by omega⟩
      obtain ⟨k, rfl⟩ : ∃ k : Nat, y = (k : Int) := ⟨y.toNat, by omega⟩
      obtain ⟨σ', e1, hC', hok⟩ := c_hourBy hA hC (r := r) (by omega)
      obtain ⟨g1, g2, g3, hM'⟩ := m_hour hA hM (rule := (r : Int)) (n := 0) (by omega) (by omega) (by omega) (by omega)
      obtain ⟨k1, k2, k3, k4⟩ := hok _ (ok2_vw σm)
      have hb4 := began_4 (P := pm B D) (rule := (r : Int)) (n := 0) (S0 := vw σm) (i := k) (by omega)
      have k3 := k3 k (by omega)
      have hbs := g2.2.2.2.2.2.1 k (by omega)
      unfold f1_beginOf
      simp (disch := omega) only [n0, n1, n2, n3, n4, n5, n6, n7, n8, n9, n10, n11, n12, n13, n14, n15, n16, n17, n18, n19, n20, n21, n22, n23, n24, n25, n26, n27, n28, n29, n30, n31, n32, n33, n34, n35, n36, n37, n38, n39, n40, n41, n42, n43, n44, n45, n46, n47, n48, n49, n50, n51, n52, n53, n54, n55, n56, n57, n58, n59, n60, n61, n62, n63, n64, n65, n66, n97, n99, n100, n103, n107, n111, n116, n117, n119, n126, n200, n359, n360, n999, n1000, n9999, n65521, n99999, n1000000, io_neg, io_add, io_sub, io_mul, io_lt, io_le, io_eq, io_nat, Int.toNat_natCast, toNat_c1, ifg, obs, obm, oob, bi0, bi1, bi01, ob_ite, bind_ite, ↓reduceIte, eq_self, e1, g1, hl, k3, ov28]
      rw [if_neg (show ¬ (k : Int) < 0 by omega), if_neg (show ¬ 6 ≤ (k : Int) by omega)]
      refine ⟨_, _, _, ?_, rfl, B, D, l, X, m, U, m2, V, q, Z, Y, hA, hC', hM'⟩
      generalize chour (pm B D) (r : Int) 0 (vw σm) 1 k = w at *
      by_cases d : w < 0
      · rw [if_pos d, if_pos (by decide), show w = -4 by omega]
      · rw [if_neg d, if_neg (by omega)]
    · rw [if_pos c1, if_pos c1]
      exact Step.same hI rfl rfl
  · rw [if_pos c, if_pos c]
    exact Step.same hI rfl rfl
theorem s_stopped (hI : Inv σc σm) (a b : Int32) : Step (f6_stopped σc a b) (f7_stopped σm a b) := by
  have hI' := hI
  obtain ⟨B, D, l, X, m, U, m2, V, q, Z, Y, hA, hC, hM⟩ := hI'
  obtain ⟨x, rfl, x0, x1⟩ := arg a
  obtain ⟨y, rfl, y0, y1⟩ := arg b
  have hb := hA.1.1
  unfold f6_stopped f7_stopped
  simp (disch := omega) only [n0, n1, n2, n3, n4, n5, n6, n7, n8, n9, n10, n11, n12, n13, n14, n15, n16, n17, n18, n19, n20, n21, n22, n23, n24, n25, n26, n27, n28, n29, n30, n31, n32, n33, n34, n35, n36, n37, n38, n39, n40, n41, n42, n43, n44, n45, n46, n47, n48, n49, n50, n51, n52, n53, n54, n55, n56, n57, n58, n59, n60, n61, n62, n63, n64, n65, n66, n97, n99, n100, n103, n107, n111, n116, n117, n119, n126, n200, n359, n360, n999, n1000, n9999, n65521, n99999, n1000000, io_neg, io_add, io_sub, io_mul, io_lt, io_le, io_eq, io_nat, Int.toNat_natCast, toNat_c1, ifg, obs, obm, oob, bi0, bi1, bi01, ob_ite, bind_ite, ↓reduceIte, eq_self, c_isRule, c_isBeat, c_isMinute, c_isTold, m_isRule, m_in, i64_toInt, io_toInt, j0, j1, j2, j3, j9, j30, j32, j48, j57, j59, j60, j99, j126, j359, j9999, decide_eq_false_iff_not, decide_eq_true_eq, c_isTrain hC.2.1.1.1 hA.1, m_isTrain hM.2.1.1.1 hA.1]
  by_cases c : 0 ≤ x ∧ x ≤ 3
  · have c' := not_not_intro c
    rw [if_neg c', if_neg c']
    by_cases c1 : 0 ≤ y ∧ y ≤ (B 0 0 : Int) - 1
    · have c1' := not_not_intro c1
      rw [if_neg c1', if_neg c1']
      obtain ⟨r, rfl⟩ : ∃ r : Nat, x = (r : Int) := ⟨x.toNat, by omega⟩
      obtain ⟨k, rfl⟩ : ∃ k : Nat, y = (k : Int) := ⟨y.toNat, by omega⟩
      obtain ⟨σ', e1, hC', hok⟩ := c_hourBy hA hC (r := r) (by omega)
      obtain ⟨g1, g2, g3, hM'⟩ := m_hour hA hM (rule := (r : Int)) (n := 0) (by omega) (by omega) (by omega) (by omega)
      obtain ⟨k1, k2, k3, k4⟩ := hok _ (ok2_vw σm)
      have k3 := k3 k (by omega)
      unfold f1_stopsOf
      simp (disch := omega) only [n0, n1, n2, n3, n4, n5, n6, n7, n8, n9, n10, n11, n12, n13, n14, n15, n16, n17, n18, n19, n20, n21, n22, n23, n24, n25, n26, n27, n28, n29, n30, n31, n32, n33, n34, n35, n36, n37, n38, n39, n40, n41, n42, n43, n44, n45, n46, n47, n48, n49, n50, n51, n52, n53, n54, n55, n56, n57, n58, n59, n60, n61, n62, n63, n64, n65, n66, n97, n99, n100, n103, n107, n111, n116, n117, n119, n126, n200, n359, n360, n999, n1000, n9999, n65521, n99999, n1000000, io_neg, io_add, io_sub, io_mul, io_lt, io_le, io_eq, io_nat, Int.toNat_natCast, toNat_c1, ifg, obs, obm, oob, bi0, bi1, bi01, ob_ite, bind_ite, ↓reduceIte, eq_self, e1, g1, hl, k3, ov29]
      rw [if_neg (show ¬ (k : Int) < 0 by omega), if_neg (show ¬ 6 ≤ (k : Int) by omega)]
      exact ⟨_, _, _, rfl, rfl, B, D, l, X, m, U, m2, V, q, Z, Y, hA, hC', hM'⟩
    · rw [if_pos c1, if_pos c1]
      exact Step.same hI rfl rfl
  · rw [if_pos c, if_pos c]
    exact Step.same hI rfl rfl
theorem s_crossed (hI : Inv σc σm) (a b : Int32) : Step (f6_crossed σc a b) (f7_crossed σm a b) := by
  have hI' := hI
  obtain ⟨B, D, l, X, m, U, m2, V, q, Z, Y, hA, hC, hM⟩ := hI'
  obtain ⟨x, rfl, x0, x1⟩ := arg a
  obtain ⟨y, rfl, y0, y1⟩ := arg b
  have hb := hA.1.1
  unfold f6_crossed f7_crossed
  simp (disch := omega) only [n0, n1, n2, n3, n4, n5, n6, n7, n8, n9, n10, n11, n12, n13, n14, n15, n16, n17, n18, n19, n20, n21, n22, n23, n24, n25, n26, n27, n28, n29, n30, n31, n32, n33, n34, n35, n36, n37, n38, n39, n40, n41, n42, n43, n44, n45, n46, n47, n48, n49, n50, n51, n52, n53, n54, n55, n56, n57, n58, n59, n60, n61, n62, n63, n64, n65, n66, n97, n99, n100, n103, n107, n111, n116, n117, n119, n126, n200, n359, n360, n999, n1000, n9999, n65521, n99999, n1000000, io_neg, io_add, io_sub, io_mul, io_lt, io_le, io_eq, io_nat, Int.toNat_natCast, toNat_c1, ifg, obs, obm, oob, bi0, bi1, bi01, ob_ite, bind_ite, ↓reduceIte, eq_self, c_isRule, c_isBeat, c_isMinute, c_isTold, m_isRule, m_in, i64_toInt, io_toInt, j0, j1, j2, j3, j9, j30, j32, j48, j57, j59, j60, j99, j126, j359, j9999, decide_eq_false_iff_not, decide_eq_true_eq, c_isUser hC.2.1.1.2.1 hA.1, m_isUser hM.2.1.1.2.1 hA.1]
  by_cases c : 0 ≤ x ∧ x ≤ 3
  · have c' := not_not_intro c
    rw [if_neg c', if_neg c']
    by_cases c1 : 0 ≤ y ∧ y ≤ (B 0 1 : Int) - 1
    · have c1' := not_not_intro c1
      rw [if_neg c1', if_neg c1']
      obtain ⟨r, rfl⟩ : ∃ r : Nat, x = (r : Int) := ⟨x.toNat, by omega⟩
      obtain ⟨k, rfl⟩ : ∃ k : Nat, y = (k : Int) := ⟨y.toNat, by omega⟩
      obtain ⟨σ', e1, hC', hok⟩ := c_hourBy hA hC (r := r) (by omega)
      obtain ⟨g1, g2, g3, hM'⟩ := m_hour hA hM (rule := (r : Int)) (n := 0) (by omega) (by omega) (by omega) (by omega)
      obtain ⟨k1, k2, k3, k4⟩ := hok _ (ok2_vw σm)
      have k4 := k4 k (by omega)
      unfold f1_crossingOf
      simp (disch := omega) only [n0, n1, n2, n3, n4, n5, n6, n7, n8, n9, n10, n11, n12, n13, n14, n15, n16, n17, n18, n19, n20, n21, n22, n23, n24, n25, n26, n27, n28, n29, n30, n31, n32, n33, n34, n35, n36, n37, n38, n39, n40, n41, n42, n43, n44, n45, n46, n47, n48, n49, n50, n51, n52, n53, n54, n55, n56, n57, n58, n59, n60, n61, n62, n63, n64, n65, n66, n97, n99, n100, n103, n107, n111, n116, n117, n119, n126, n200, n359, n360, n999, n1000, n9999, n65521, n99999, n1000000, io_neg, io_add, io_sub, io_mul, io_lt, io_le, io_eq, io_nat, Int.toNat_natCast, toNat_c1, ifg, obs, obm, oob, bi0, bi1, bi01, ob_ite, bind_ite, ↓reduceIte, eq_self, e1, g1, hl, k4, ov30]
      rw [if_neg (show ¬ (k : Int) < 0 by omega), if_neg (show ¬ 8 ≤ (k : Int) by omega)]
      exact ⟨_, _, _, rfl, rfl, B, D, l, X, m, U, m2, V, q, Z, Y, hA, hC', hM'⟩
    · rw [if_pos c1, if_pos c1]
      exact Step.same hI rfl rfl
  · rw [if_pos c, if_pos c]
    exact Step.same hI rfl rfl
theorem s_waited (hI : Inv σc σm) (a b : Int32) : Step (f6_waited σc a b) (f7_waited σm a b) := by
  have hI' := hI
  obtain ⟨B, D, l, X, m, U, m2, V, q, Z, Y, hA, hC, hM⟩ := hI'
  obtain ⟨x, rfl, x0, x1⟩ := arg a
  obtain ⟨y, rfl, y0, y1⟩ := arg b
  have hb := hA.1.1
  unfold f6_waited f7_waited
  simp (disch := omega) only [n0, n1, n2, n3, n4, n5, n6, n7, n8, n9, n10, n11, n12, n13, n14, n15, n16, n17, n18, n19, n20, n21, n22, n23, n24, n25, n26, n27, n28, n29, n30, n31, n32, n33, n34, n35, n36, n37, n38, n39, n40, n41, n42, n43, n44, n45, n46, n47, n48, n49, n50, n51, n52, n53, n54, n55, n56, n57, n58, n59, n60, n61, n62, n63, n64, n65, n66, n97, n99, n100, n103, n107, n111, n116, n117, n119, n126, n200, n359, n360, n999, n1000, n9999, n65521, n99999, n1000000, io_neg, io_add, io_sub, io_mul, io_lt, io_le, io_eq, io_nat, Int.toNat_natCast, toNat_c1, ifg, obs, obm, oob, bi0, bi1, bi01, ob_ite, bind_ite, ↓reduceIte, eq_self, c_isRule, c_isBeat, c_isMinute, c_isTold, m_isRule, m_in, i64_toInt, io_toInt, j0, j1, j2, j3, j9, j30, j32, j48, j57, j59, j60, j99, j126, j359, j9999, decide_eq_false_iff_not, decide_eq_true_eq, c_isUser hC.2.1.1.2.1 hA.1, m_isUser hM.2.1.1.2.1 hA.1]
  by_cases c : 0 ≤ x ∧ x ≤ 3
  · have c' := not_not_intro c
    rw [if_neg c', if_neg c']
    by_cases c1 : 0 ≤ y ∧ y ≤ (B 0 1 : Int) - 1
    · have c1' := not_not_intro c1
      rw [if_neg c1', if_neg c1']
      obtain ⟨r, rfl⟩ : ∃ r : Nat, x = (r : Int) := ⟨x.toNat, by omega⟩
      obtain ⟨k, rfl⟩ : ∃ k : Nat, y = (k : Int) := ⟨y.toNat, by omega⟩
      obtain ⟨σ', e1, hC', hok⟩ := c_hourBy hA hC (r := r) (by omega)
      obtain ⟨g1, g2, g3, hM'⟩ := m_hour hA hM (rule := (r : Int)) (n := 0) (by omega) (by omega) (by omega) (by omega)
      obtain ⟨k1, k2, k3, k4⟩ := hok _ (ok2_vw σm)
      have k4 := k4 k (by omega)
      unfold f1_waitOf
      simp (disch := omega) only [n0, n1, n2, n3, n4, n5, n6, n7, n8, n9, n10, n11, n12, n13, n14, n15, n16, n17, n18, n19, n20, n21, n22, n23, n24, n25, n26, n27, n28, n29, n30, n31, n32, n33, n34, n35, n36, n37, n38, n39, n40, n41, n42, n43, n44, n45, n46, n47, n48, n49, n50, n51, n52, n53, n54, n55, n56, n57, n58, n59, n60, n61, n62, n63, n64, n65, n66, n97, n99, n100, n103, n107, n111, n116, n117, n119, n126, n200, n359, n360, n999, n1000, n9999, n65521, n99999, n1000000, io_neg, io_add, io_sub, io_mul, io_lt, io_le, io_eq, io_nat, Int.toNat_natCast, toNat_c1, ifg, obs, obm, oob, bi0, bi1, bi01, ob_ite, bind_ite, ↓reduceIte, eq_self, e1, g1, hl, k4, ov31]
      rw [if_neg (show ¬ (k : Int) < 0 by omega), if_neg (show ¬ 8 ≤ (k : Int) by omega)]
      exact ⟨_, _, _, rfl, rfl, B, D, l, X, m, U, m2, V, q, Z, Y, hA, hC', hM'⟩
    · rw [if_pos c1, if_pos c1]
      exact Step.same hI rfl rfl
  · rw [if_pos c, if_pos c]
    exact Step.same hI rfl rfl
/-- the total of an hour by a rule -/
theorem c_total (hA : AB B D l X m U m2 V q Z Y) {r : Nat} (hr : r < 4) (hok : HourOK σ (42 + 8 * r) (pm B D) r 0) : f1_total σ (42 + 8 * r) = some (io (cst (pm B D) r 0)) := by
  have hPB := PB_pm hA.1 hA.2.1
  unfold f1_total
  rw [(hok _ ok2_0).1, (cst_eq hPB (by omega) (by omega) (by omega) (by omega)).2 _ ok2_0]
theorem s_cost (hI : Inv σc σm) (a : Int32) : Step (f6_cost σc a) (f7_cost σm a) := by
  have hI' := hI
  obtain ⟨B, D, l, X, m, U, m2, V, q, Z, Y, hA, hC, hM⟩ := hI'
  obtain ⟨x, rfl, x0, x1⟩ := arg a
  unfold f6_cost f7_cost
  simp (disch := omega) only [n0, n1, n2, n3, n4, n5, n6, n7, n8, n9, n10, n11, n12, n13, n14, n15, n16, n17, n18, n19, n20, n21, n22, n23, n24, n25, n26, n27, n28, n29, n30, n31, n32, n33, n34, n35, n36, n37, n38, n39, n40, n41, n42, n43, n44, n45, n46, n47, n48, n49, n50, n51, n52, n53, n54, n55, n56, n57, n58, n59, n60, n61, n62, n63, n64, n65, n66, n97, n99, n100, n103, n107, n111, n116, n117, n119, n126, n200, n359, n360, n999, n1000, n9999, n65521, n99999, n1000000, io_neg, io_add, io_sub, io_mul, io_lt, io_le, io_eq, io_nat, Int.toNat_natCast, toNat_c1, ifg, obs, obm, oob, bi0, bi1, bi01, ob_ite, bind_ite, ↓reduceIte, eq_self, c_isRule, c_isBeat, c_isMinute, c_isTold, m_isRule, m_in, i64_toInt, io_toInt, j0, j1, j2, j3, j9, j30, j32, j48, j57, j59, j60, j99, j126, j359, j9999, decide_eq_false_iff_not, decide_eq_true_eq]
  by_cases c : 0 ≤ x ∧ x ≤ 3
  · have c' := not_not_intro c
    rw [if_neg c', if_neg c']
    obtain ⟨r, rfl⟩ : ∃ r : Nat, x = (r : Int) := ⟨x.toNat, by omega⟩
    obtain ⟨σ', e1, hC', hok⟩ := c_hourBy hA hC (r := r) (by omega)
    obtain ⟨g1, g2, g3, hM'⟩ := m_hour hA hM (rule := (r : Int)) (n := 0) (by omega) (by omega) (by omega) (by omega)
    simp (disch := omega) only [n0, n1, n2, n3, n4, n5, n6, n7, n8, n9, n10, n11, n12, n13, n14, n15, n16, n17, n18, n19, n20, n21, n22, n23, n24, n25, n26, n27, n28, n29, n30, n31, n32, n33, n34, n35, n36, n37, n38, n39, n40, n41, n42, n43, n44, n45, n46, n47, n48, n49, n50, n51, n52, n53, n54, n55, n56, n57, n58, n59, n60, n61, n62, n63, n64, n65, n66, n97, n99, n100, n103, n107, n111, n116, n117, n119, n126, n200, n359, n360, n999, n1000, n9999, n65521, n99999, n1000000, io_neg, io_add, io_sub, io_mul, io_lt, io_le, io_eq, io_nat, Int.toNat_natCast, toNat_c1, ifg, obs, obm, oob, bi0, bi1, bi01, ob_ite, bind_ite, ↓reduceIte, eq_self, e1, g3, hl, c_total hA (show r < 4 by omega) hok]
    exact ⟨_, _, _, rfl, rfl, B, D, l, X, m, U, m2, V, q, Z, Y, hA, hC', hM'⟩
  · rw [if_pos c, if_pos c]
    exact Step.same hI rfl rfl
end Hours
