/-! CALLS: write, wipe, count, seen, forget -/
theorem j0 : (0 : Int64).toInt = 0 := nrf rfl
theorem j1 : (1 : Int64).toInt = 1 := nrf rfl
theorem j2 : (2 : Int64).toInt = 2 := nrf rfl
theorem j3 : (3 : Int64).toInt = 3 := nrf rfl
theorem j9 : (9 : Int64).toInt = 9 := nrf rfl
theorem j30 : (30 : Int64).toInt = 30 := nrf rfl
theorem j32 : (32 : Int64).toInt = 32 := nrf rfl
theorem j48 : (48 : Int64).toInt = 48 := nrf rfl
theorem j57 : (57 : Int64).toInt = 57 := nrf rfl
theorem j59 : (59 : Int64).toInt = 59 := nrf rfl
theorem j60 : (60 : Int64).toInt = 60 := nrf rfl
theorem j99 : (99 : Int64).toInt = 99 := nrf rfl
theorem j126 : (126 : Int64).toInt = 126 := nrf rfl
theorem j359 : (359 : Int64).toInt = 359 := nrf rfl
theorem j9999 : (9999 : Int64).toInt = 9999 := nrf rfl
theorem arg (a : Int32) : ∃ x : Int, a = io x ∧ -2147483648 ≤ x ∧ x < 2147483648 := ⟨a.toInt, io_of a, Int32.le_toInt a, Int32.toInt_lt a⟩
theorem ob_ite {α β : Type} (c : Prop) [Decidable c] (a b : Option (Mem × α)) (f : Mem → α → Option β) : ob (if c then a else b) f = if c then ob a f else ob b f := by split <;> rfl
theorem bind_ite {α β : Type} (c : Prop) [Decidable c] (a b : Option α) (f : α → Option β) : Option.bind (if c then a else b) f = if c then Option.bind a f else Option.bind b f := by split <;> rfl
theorem bi_ret (x : Bool) : (if bi x = 0 ∨ bi x = 1 then some (bi x) else none) = some (bi x) := if_pos (bi_01 x)
theorem c_isRule {x : Int} (x0 : -2147483648 ≤ x) (x1 : x < 2147483648) : f6_isRule (io x) = some (bi (decide (0 ≤ x ∧ x ≤ 3))) := by
  unfold f6_isRule
  show Option.bind (f6_between (io x) (io 0) (io 3)) _ = _
  rw [p_between x0 x1 (by omega) (by omega) (by omega) (by omega), obs, bi_ret]
theorem c_isBeat {x : Int} (x0 : -2147483648 ≤ x) (x1 : x < 2147483648) : f6_isBeat (io x) = some (bi (decide (0 ≤ x ∧ x ≤ 359))) := by
  unfold f6_isBeat
  show Option.bind (f6_between (io x) (io 0) (io 359)) _ = _
  rw [p_between x0 x1 (by omega) (by omega) (by omega) (by omega), obs, bi_ret]
theorem c_isMinute {x : Int} (x0 : -2147483648 ≤ x) (x1 : x < 2147483648) : f6_isMinute (io x) = some (bi (decide (0 ≤ x ∧ x ≤ 59))) := by
  unfold f6_isMinute
  show Option.bind (f6_between (io x) (io 0) (io 59)) _ = _
  rw [p_between x0 x1 (by omega) (by omega) (by omega) (by omega), obs, bi_ret]
theorem c_isTold {x : Int} (x0 : -2147483648 ≤ x) (x1 : x < 2147483648) : f6_isToldLateness (io x) = some (bi (decide (0 ≤ x ∧ x ≤ 9))) := by
  unfold f6_isToldLateness
  show Option.bind (f6_between (io x) (io 0) (io 9)) _ = _
  rw [p_between x0 x1 (by omega) (by omega) (by omega) (by omega), obs, bi_ret]
theorem m_isRule {x : Int} (x0 : -2147483648 ≤ x) (x1 : x < 2147483648) : f7_isRule (io x) = some (bi (decide (0 ≤ x ∧ x ≤ 3))) := by
  unfold f7_isRule
  rw [m_in, i64_toInt, io_toInt x0 x1, j0, j3, obs, bi_ret]
section Calls1
variable {σ σ' σc σm : Mem} {B P : PS} {D : Nat → Nat} {l l' : Nat} {X X' : Nat → Nat} {m : Nat} {U : PS} {m2 : Nat} {V : PS} {q q' : Nat} {Z Y Z' Y' : Nat → Nat}
theorem Step.same {r : Int32} {x y : Option (Mem × Int32)} (h : Inv σc σm) (hx : x = some (σc, r)) (hy : y = some (σm, r)) : Step x y := ⟨σc, σm, r, hx, hy, h⟩
theorem IC_text (hm : m ≤ 8) (hm2 : m2 ≤ 2) (H : IC σ B D l X m U m2 V q Z Y) (fr : ∀ j, j ≠ 1 → j ≠ 2 → σ' j = σ j) (h : CT σ' l' X') : IC σ' B D l' X' m U m2 V q Z Y := by
  obtain ⟨h1, h2, h3, h4, h5, h6, h7, h8, h9, h10⟩ := H
  exact ⟨h, CB_fr (fun j _ _ => fr j (by omega) (by omega)) h2, CD_fr (fun j _ _ => fr j (by omega) (by omega)) h3, SD_fr (fun j _ _ => fr j (by omega) (by omega)) h4, by rw [fr 37 (by omega) (by omega)]; exact h5, CH_fr (fun j _ _ => fr j (by omega) (by omega)) h6, CP_fr rfl (fun j _ _ => fr j (by omega) (by omega)) hm h7, CP_fr rfl (fun j _ _ => fr j (by omega) (by omega)) hm2 h8, CS_fr (fun j _ _ => fr j (by omega) (by omega)) h9, CL_fr (by rw [fr 0 (by omega) (by omega)]) (by rw [fr 0 (by omega) (by omega)]) (by rw [fr 0 (by omega) (by omega)]) h10⟩
theorem IC_seen (hm : m ≤ 8) (hm2 : m2 ≤ 2) (H : IC σ B D l X m U m2 V q Z Y) (fr : ∀ j, j < 136 → σ' j = σ j) (h : CS σ' q' Z' Y') : IC σ' B D l X m U m2 V q' Z' Y' := by
  obtain ⟨h1, h2, h3, h4, h5, h6, h7, h8, h9, h10⟩ := H
  exact ⟨CT_fr (by rw [fr 1 (by omega)]) (fr 2 (by omega)) h1, CB_fr (fun j _ _ => fr j (by omega)) h2, CD_fr (fun j _ _ => fr j (by omega)) h3, SD_fr (fun j _ _ => fr j (by omega)) h4, by rw [fr 37 (by omega)]; exact h5, CH_fr (fun j _ _ => fr j (by omega)) h6, CP_fr rfl (fun j _ _ => fr j (by omega)) hm h7, CP_fr rfl (fun j _ _ => fr j (by omega)) hm2 h8, h, CL_fr (by rw [fr 0 (by omega)]) (by rw [fr 0 (by omega)]) (by rw [fr 0 (by omega)]) h10⟩
theorem IM_text (H : IM σ B D l X m U m2 V q Z Y) (fr : ∀ j, j ≠ 0 → j ≠ 2 → σ' j = σ j) (f0 : ∀ k, k ≠ 0 → σ' 0 k = σ 0 k) (h : MT σ' l' X') : IM σ' B D l' X' m U m2 V q Z Y := by
  obtain ⟨h1, h2, h3, h4, h5, h6⟩ := H
  exact ⟨h, MB_fr (fun j _ _ => fr j (by omega) (by omega)) h2, RD_fr (fr 17 (by omega) (by omega)) h3, MU_fr (f0 18 (by omega)) (fr 18 (by omega) (by omega)) h4, MK_fr (f0 20 (by omega)) (fr 20 (by omega) (by omega)) h5, MS_fr (f0 21 (by omega)) (fr 23 (by omega) (by omega)) (fr 24 (by omega) (by omega)) h6⟩
theorem IM_seen (H : IM σ B D l X m U m2 V q Z Y) (fr : ∀ j, j ≠ 0 → j ≠ 23 → j ≠ 24 → σ' j = σ j) (f0 : ∀ k, k ≠ 21 → σ' 0 k = σ 0 k) (h : MS σ' q' Z' Y') : IM σ' B D l X m U m2 V q' Z' Y' := by
  obtain ⟨h1, h2, h3, h4, h5, h6⟩ := H
  exact ⟨MT_fr (f0 0 (by omega)) (fr 2 (by omega) (by omega) (by omega)) h1, MB_fr (fun j _ _ => fr j (by omega) (by omega) (by omega)) h2, RD_fr (fr 17 (by omega) (by omega) (by omega)) h3, MU_fr (f0 18 (by omega)) (fr 18 (by omega) (by omega) (by omega)) h4, MK_fr (f0 20 (by omega)) (fr 20 (by omega) (by omega) (by omega)) h5, h⟩
theorem s_write (hI : Inv σc σm) (a : Int32) : Step (f6_write σc a) (f7_write σm a) := by
  have hI' := hI
  obtain ⟨B, D, l, X, m, U, m2, V, q, Z, Y, ⟨a1, a2, ⟨a3, a3'⟩, a4, a5, a6⟩, hC, hM⟩ := hI'
  obtain ⟨x, rfl, x0, x1⟩ := arg a
  have hc := hC.1
  have hm := hM.1
  unfold f6_write f7_write f5_add f5_size
  simp (disch := omega) only [n0, n1, n2, n3, n4, n5, n6, n7, n8, n9, n10, n11, n12, n13, n14, n15, n16, n17, n18, n19, n20, n21, n22, n23, n24, n25, n26, n27, n28, n29, n30, n31, n32, n33, n34, n35, n36, n37, n38, n39, n40, n41, n42, n43, n44, n45, n46, n47, n48, n49, n50, n51, n52, n53, n54, n55, n56, n57, n58, n59, n60, n61, n62, n63, n64, n65, n66, n97, n99, n100, n103, n107, n111, n116, n117, n119, n126, n200, n359, n360, n999, n1000, n9999, n65521, n99999, n1000000, io_neg, io_add, io_sub, io_mul, io_lt, io_le, io_eq, io_nat, Int.toNat_natCast, toNat_c1, ifg, obs, obm, oob, bi0, bi1, bi01, ob_ite, bind_ite, ↓reduceIte, eq_self, m_in, i64_toInt, io_toInt, j0, j1, j2, j3, j9, j30, j32, j48, j57, j59, j60, j99, j126, j359, j9999, p_between, hc.1, hm.1, decide_eq_false_iff_not, decide_eq_true_eq, mu_s, mu_k, mu_j]
  by_cases c : 32 ≤ x ∧ x ≤ 126
  · have c' := not_not_intro c
    rw [if_neg c', if_neg c']
    by_cases c2 : l = 200
    · rw [if_neg (show ¬ (l : Int) < 200 by omega), if_pos (show (l : Int) = 200 by omega)]
      exact Step.same hI rfl rfl
    · rw [if_pos (show (l : Int) < 200 by omega), if_neg (show ¬ (l : Int) = 200 by omega)]
      refine ⟨_, _, _, rfl, rfl, B, D, l + 1, fun k => if k = l then x.toNat else X k, m, U, m2, V, q, Z, Y, ⟨a1, a2, ⟨by omega, fun k hk => ?_⟩, a4, a5, a6⟩, IC_text a4.1 a5.1 hC (fun j _ _ => by simp (disch := omega) only [mu_s, mu_k, mu_j]) ⟨?_, fun k hk => ?_⟩, IM_text hM (fun j _ _ => by simp (disch := omega) only [mu_s, mu_k, mu_j]) (fun k _ => by simp (disch := omega) only [mu_s, mu_k, mu_j]) ⟨?_, fun k hk => ?_⟩⟩
      · show 32 ≤ (if k = l then x.toNat else X k) ∧ (if k = l then x.toNat else X k) ≤ 126
        split
        · omega
        · exact a3' k (by omega)
      · simp (disch := omega) only [mu_s, mu_k, mu_j]; rfl
      · simp (disch := omega) only [mu_s, mu_k, mu_j]
        by_cases e : k = l
        · subst e
          rw [if_pos rfl, mu_s]
          congr 1
          omega
        · rw [if_neg e, mu_k _ _ e]
          exact hc.2 k (by omega)
      · simp (disch := omega) only [mu_s, mu_k, mu_j]; rfl
      · simp (disch := omega) only [mu_s, mu_k, mu_j]
        by_cases e : k = l
        · subst e
          rw [if_pos rfl, mu_s]
          congr 1
          omega
        · rw [if_neg e, mu_k _ _ e]
          exact hm.2 k (by omega)
  · rw [if_pos c, if_pos c]
    exact Step.same hI rfl rfl
theorem s_wipe (hI : Inv σc σm) : Step (f6_wipe σc) (f7_wipe σm) := by
  obtain ⟨B, D, l, X, m, U, m2, V, q, Z, Y, ⟨a1, a2, ⟨a3, a3'⟩, a4, a5, a6⟩, hC, hM⟩ := hI
  have hc := hC.1
  have hm := hM.1
  unfold f6_wipe f7_wipe f5_empty
  simp (disch := omega) only [n0, n1, n2, n3, n4, n5, n6, n7, n8, n9, n10, n11, n12, n13, n14, n15, n16, n17, n18, n19, n20, n21, n22, n23, n24, n25, n26, n27, n28, n29, n30, n31, n32, n33, n34, n35, n36, n37, n38, n39, n40, n41, n42, n43, n44, n45, n46, n47, n48, n49, n50, n51, n52, n53, n54, n55, n56, n57, n58, n59, n60, n61, n62, n63, n64, n65, n66, n97, n99, n100, n103, n107, n111, n116, n117, n119, n126, n200, n359, n360, n999, n1000, n9999, n65521, n99999, n1000000, io_neg, io_add, io_sub, io_mul, io_lt, io_le, io_eq, io_nat, Int.toNat_natCast, toNat_c1, ifg, obs, obm, oob, bi0, bi1, bi01, hc.1, hm.1]
  refine ⟨_, _, _, rfl, rfl, B, D, 0, X, m, U, m2, V, q, Z, Y, ⟨a1, a2, ⟨by omega, fun k hk => by omega⟩, a4, a5, a6⟩, IC_text a4.1 a5.1 hC (fun j _ _ => by simp (disch := omega) only [mu_s, mu_k, mu_j]) ⟨?_, fun k hk => by omega⟩, IM_text hM (fun j _ _ => by simp (disch := omega) only [mu_s, mu_k, mu_j]) (fun k _ => by simp (disch := omega) only [mu_s, mu_k, mu_j]) ⟨?_, fun k hk => by omega⟩⟩
  · simp (disch := omega) only [mu_s, mu_k, mu_j]; rfl
  · simp (disch := omega) only [mu_s, mu_k, mu_j]; rfl
theorem s_forget (hI : Inv σc σm) : Step (f6_forget σc) (f7_forget σm) := by
  obtain ⟨B, D, l, X, m, U, m2, V, q, Z, Y, ⟨a1, a2, a3, a4, a5, a6⟩, hC, hM⟩ := hI
  have hc := hC.2.2.2.2.2.2.2.2.1
  have hm := hM.2.2.2.2.2
  unfold f6_forget f7_forget f2_empty
  simp (disch := omega) only [n0, n1, n2, n3, n4, n5, n6, n7, n8, n9, n10, n11, n12, n13, n14, n15, n16, n17, n18, n19, n20, n21, n22, n23, n24, n25, n26, n27, n28, n29, n30, n31, n32, n33, n34, n35, n36, n37, n38, n39, n40, n41, n42, n43, n44, n45, n46, n47, n48, n49, n50, n51, n52, n53, n54, n55, n56, n57, n58, n59, n60, n61, n62, n63, n64, n65, n66, n97, n99, n100, n103, n107, n111, n116, n117, n119, n126, n200, n359, n360, n999, n1000, n9999, n65521, n99999, n1000000, io_neg, io_add, io_sub, io_mul, io_lt, io_le, io_eq, io_nat, Int.toNat_natCast, toNat_c1, ifg, obs, obm, oob, bi0, bi1, bi01, hc.1.2, hm.1]
  refine ⟨_, _, _, rfl, rfl, B, D, l, X, m, U, m2, V, 0, Z, Y, ⟨a1, a2, a3, a4, a5, ⟨by omega, fun k hk => by omega⟩⟩, IC_seen a4.1 a5.1 hC (fun j _ => by simp (disch := omega) only [mu_s, mu_k, mu_j]) ⟨⟨?_, ?_⟩, fun k hk => by omega⟩, IM_seen hM (fun j _ _ _ => by simp (disch := omega) only [mu_s, mu_k, mu_j]) (fun k _ => by simp (disch := omega) only [mu_s, mu_k, mu_j]) ⟨?_, fun k hk => by omega⟩⟩
  · simp (disch := omega) only [mu_s, mu_k, mu_j]; exact hc.1.1
  · simp (disch := omega) only [mu_s, mu_k, mu_j]; rfl
  · simp (disch := omega) only [mu_s, mu_k, mu_j]; rfl
theorem s_seen (hI : Inv σc σm) (a b : Int32) : Step (f6_seen σc a b) (f7_seen σm a b) := by
  have hI' := hI
  obtain ⟨B, D, l, X, m, U, m2, V, q, Z, Y, ⟨a1, a2, a3, a4, a5, ⟨a6, a6'⟩⟩, hC, hM⟩ := hI'
  obtain ⟨x, rfl, x0, x1⟩ := arg a
  obtain ⟨y, rfl, y0, y1⟩ := arg b
  have hc := hC.2.2.2.2.2.2.2.2.1
  have hm := hM.2.2.2.2.2
  unfold f6_seen f7_seen f2_add f2_isFull f2_size
  simp (disch := omega) only [n0, n1, n2, n3, n4, n5, n6, n7, n8, n9, n10, n11, n12, n13, n14, n15, n16, n17, n18, n19, n20, n21, n22, n23, n24, n25, n26, n27, n28, n29, n30, n31, n32, n33, n34, n35, n36, n37, n38, n39, n40, n41, n42, n43, n44, n45, n46, n47, n48, n49, n50, n51, n52, n53, n54, n55, n56, n57, n58, n59, n60, n61, n62, n63, n64, n65, n66, n97, n99, n100, n103, n107, n111, n116, n117, n119, n126, n200, n359, n360, n999, n1000, n9999, n65521, n99999, n1000000, io_neg, io_add, io_sub, io_mul, io_lt, io_le, io_eq, io_nat, Int.toNat_natCast, toNat_c1, ifg, obs, obm, oob, bi0, bi1, bi01, ob_ite, bind_ite, ↓reduceIte, eq_self, c_isRule, c_isBeat, c_isMinute, c_isTold, m_isRule, m_in, i64_toInt, io_toInt, j0, j1, j2, j3, j9, j30, j32, j48, j57, j59, j60, j99, j126, j359, j9999, p_between, hc.1.1, hc.1.2, hm.1, decide_eq_false_iff_not, decide_eq_true_eq, mu_s, mu_k, mu_j]
  by_cases c : 0 ≤ x ∧ x ≤ 359
  · have c' := not_not_intro c
    rw [if_neg c', if_neg c']
    by_cases c1 : 0 ≤ y ∧ y ≤ 2
    · have c1' := not_not_intro c1
      rw [if_neg c1', if_neg c1']
      by_cases c2 : q = 8
      · rw [if_neg (show ¬ (q : Int) < 8 by omega), if_pos (show (q : Int) = 8 by omega)]
        exact Step.same hI rfl rfl
      · rw [if_pos (show (q : Int) < 8 by omega), if_neg (show ¬ (q : Int) = 8 by omega)]
        refine ⟨_, _, _, rfl, rfl, B, D, l, X, m, U, m2, V, q + 1, fun k => if k = q then x.toNat else Z k, fun k => if k = q then y.toNat else Y k, ⟨a1, a2, a3, a4, a5, ⟨by omega, fun k hk => ?_⟩⟩, IC_seen a4.1 a5.1 hC (fun j _ => by simp (disch := omega) only [mu_s, mu_k, mu_j]) ⟨⟨?_, ?_⟩, fun k hk => ?_⟩, IM_seen hM (fun j _ _ _ => by simp (disch := omega) only [mu_s, mu_k, mu_j]) (fun k _ => by simp (disch := omega) only [mu_s, mu_k, mu_j]) ⟨?_, fun k hk => ?_⟩⟩
        · show (if k = q then x.toNat else Z k) < 360 ∧ (if k = q then y.toNat else Y k) ≤ 2
          split
          · omega
          · exact a6' k (by omega)
        · simp (disch := omega) only [mu_s, mu_k, mu_j]; exact hc.1.1
        · simp (disch := omega) only [mu_s, mu_k, mu_j]; rfl
        · simp (disch := omega) only [mu_s, mu_k, mu_j]
          by_cases e : k = q
          · subst e
            rw [if_pos rfl, if_pos rfl, mu_s, mu_s]
            exact ⟨by congr 1; omega, by congr 1; omega⟩
          · rw [if_neg e, if_neg e, mu_k _ _ e, mu_k _ _ e]
            exact hc.2 k (by omega)
        · simp (disch := omega) only [mu_s, mu_k, mu_j]; rfl
        · simp (disch := omega) only [mu_s, mu_k, mu_j]
          by_cases e : k = q
          · subst e
            rw [if_pos rfl, if_pos rfl, mu_s, mu_s]
            exact ⟨by congr 1; omega, by congr 1; omega⟩
          · rw [if_neg e, if_neg e, mu_k _ _ e, mu_k _ _ e]
            exact hm.2 k (by omega)
    · rw [if_pos c1, if_pos c1]
      exact Step.same hI rfl rfl
  · rw [if_pos c, if_pos c]
    exact Step.same hI rfl rfl
theorem s_count (hI : Inv σc σm) (a : Int32) : Same (f6_count σc a) (f7_count σm a) := by
  obtain ⟨B, D, l, X, m, U, m2, V, q, Z, Y, hA, ⟨h1, h2, h3, h4, h5, h6, ⟨p, h7, -⟩, ⟨p2, h8, -⟩, h9, h10⟩, ⟨k1, k2, k3, k4, k5, k6⟩⟩ := hI
  have e7 : σm 17 6 = io (D 6) := k3.2.1
  unfold f6_count f7_count f2_size f3_size f5_size
  simp only [obs, h2.1.1, h2.1.2.1, h4.1.2, h9.1.2, h7, h8, h1.1, k2.1.1, k2.1.2.1, e7, k6.1, k4.1, k5.1, k1.1]
  repeat' split
  all_goals exact ⟨_, rfl, rfl⟩
end Calls1
