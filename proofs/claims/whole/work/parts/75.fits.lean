/-! CALLS: fits -/
def fitG (P : PS) (Z Y : Nat → Nat) (r : Int) (k : Nat) (is : Bool) : Bool := is && decide (gts P r (Z k) = io (Y k))
def fitB (P : PS) (q : Nat) (Z Y : Nat → Nat) (r : Int) : Bool := foldN q (fitG P Z Y r) true
theorem fit_false {P : PS} {Z Y : Nat → Nat} {r : Int} {i : Nat} (h : foldN i (fitG P Z Y r) true = false) : ∀ k, foldN (i + k) (fitG P Z Y r) true = false := by
  intro k
  induction k with
  | zero => exact h
  | succ k ih =>
    show fitG P Z Y r (i + k) (foldN (i + k) (fitG P Z Y r) true) = false
    rw [ih]
    rfl
section Fits
variable {σ σ' σc σm : Mem} {B P : PS} {D : Nat → Nat} {l l' : Nat} {X X' : Nat → Nat} {m : Nat} {U : PS} {m2 : Nat} {V : PS} {q q' : Nat} {Z Y Z' Y' : Nat → Nat}
theorem c_asSeen (hA : AB B D l X m U m2 V q Z Y) (hC : IC σ B D l X m U m2 V q Z Y) {r : Nat} (hr : r < 4) (hok : HourOK σ (42 + 8 * r) (pm B D) r 0) : f6_isAsSeen σ (42 + 8 * r) = some (bi (fitB (pm B D) q Z Y r)) := by
  have hPB := PB_pm hA.1 hA.2.1
  have hs := hC.2.2.2.2.2.2.2.2.1
  obtain ⟨hq, hzy⟩ := hA.2.2.2.2.2
  have key : ∀ k i n, i + k = q → k < n → foldN i (fitG (pm B D) Z Y r) true = true → f6_isAsSeen_b2 σ (42 + 8 * r) n (io i) = some (bi (fitB (pm B D) q Z Y r)) := by
    intro k
    induction k with
    | zero =>
      intro i n hi hn hf
      obtain ⟨n, rfl⟩ : ∃ t, n = t + 1 := ⟨n - 1, by omega⟩
      have : i = q := by omega
      subst this
      rw [f6_isAsSeen_b2, f2_size, obs, hs.1.2, if_pos (Int32.le_refl _)]
      unfold fitB
      rw [hf]
      rfl
    | succ k ih =>
      intro i n hi hn hf
      obtain ⟨n, rfl⟩ : ∃ t, n = t + 1 := ⟨n - 1, by omega⟩
      have hz := hzy i (by omega)
      have hsi := hs.2 i (by omega)
      have hx : foldN (i + 1) (fitG (pm B D) Z Y r) true = decide (gts (pm B D) r (Z i) = io (Y i)) := by
        show fitG (pm B D) Z Y r i (foldN i _ true) = _
        rw [hf]
        rfl
      rw [f6_isAsSeen_b2, f2_size, obs, hs.1.2, p_first hs.1.2 hq (by omega), p_second hs.1.2 hq (by omega)]
      unfold f1_gatesAt
      simp (disch := omega) only [n0, n1, n2, n3, n4, n5, n6, n7, n8, n9, n10, n11, n12, n13, n14, n15, n16, n17, n18, n19, n20, n21, n22, n23, n24, n25, n26, n27, n28, n29, n30, n31, n32, n33, n34, n35, n36, n37, n38, n39, n40, n41, n42, n43, n44, n45, n46, n47, n48, n49, n50, n51, n52, n53, n54, n55, n56, n57, n58, n59, n60, n61, n62, n63, n64, n65, n66, n97, n99, n100, n103, n107, n111, n116, n117, n119, n126, n200, n359, n360, n999, n1000, n9999, n65521, n99999, n1000000, io_neg, io_add, io_sub, io_mul, io_lt, io_le, io_eq, io_nat, Int.toNat_natCast, toNat_c1, ifg, obs, obm, oob, bi0, bi1, bi01, ob_ite, bind_ite, ↓reduceIte, eq_self, hsi, Nat.reduceAdd, (hok _ ok2_0).2.1 (Z i) hz.1]
      rw [if_neg (show ¬ (q : Int) ≤ i by omega), if_neg (show ¬ (Z i : Int) < 0 by omega), if_neg (show ¬ 360 ≤ (Z i : Int) by omega)]
      by_cases c : gts (pm B D) r (Z i) = io (Y i)
      · rw [decide_eq_true c] at hx
        have := ih (i + 1) n (by omega) (by omega) hx
        show (if gts (pm B D) r (Z i) = io (Y i) then _ else _) = _
        rw [if_pos c]
        exact this
      · rw [decide_eq_false c] at hx
        show (if gts (pm B D) r (Z i) = io (Y i) then _ else _) = _
        rw [if_neg c]
        have := fit_false hx (q - (i + 1))
        rw [show i + 1 + (q - (i + 1)) = q by omega] at this
        unfold fitB
        rw [this]
        rfl
  unfold f6_isAsSeen
  rw [n0]
  exact key q 0 1000 (by omega) (by omega) rfl
def fitA (P : PS) (q : Nat) (Z Y : Nat → Nat) (r : Nat) (a : Int32) : Int32 := if fitB P q Z Y r = true then a ||| (io 1 <<< (io (r : Int) &&& io 31)) else a
theorem c_fits (hA : AB B D l X m U m2 V q Z Y) (hC : IC σ B D l X m U m2 V q Z Y) : ∃ σ', f6_fits σ = some (σ', foldN 4 (fitA (pm B D) q Z Y) 0) ∧ IC σ' B D l X m U m2 V q Z Y := by
  have key := lock_loop (fun n (t : Mem × Int32) i => f6_fits_b4 n t.1 t.2 i) (fun t => some (t.1, t.2)) 4 (fitA (pm B D) q Z Y) (fun _ a t => t.2 = a ∧ IC t.1 B D l X m U m2 V q Z Y) (a0 := 0) (t0 := (σ, 0)) ⟨rfl, hC⟩ (fun n a t _ => ?_) (fun n i a t hi hI => ?_) 1000 (by omega)
  · obtain ⟨⟨σ', a⟩, e, h1, h2⟩ := key
    simp only at h1 h2 e
    rw [h1] at e
    exact ⟨σ', e, h2⟩
  · show f6_fits_b4 (n + 1) _ _ _ = _
    rw [f6_fits_b4, if_pos (by decide)]
  · show ∃ t', f6_fits_b4 (n + 1) _ _ _ = f6_fits_b4 n _ _ _ ∧ _
    obtain ⟨h1, h2⟩ := hI
    obtain ⟨σ1, e1, hC1, hok1⟩ := c_hourBy hA h2 (r := i) hi
    rw [f6_fits_b4, if_neg (by simp (disch := omega) only [n0, n1, n2, n3, n4, n5, n6, n7, n8, n9, n10, n11, n12, n13, n14, n15, n16, n17, n18, n19, n20, n21, n22, n23, n24, n25, n26, n27, n28, n29, n30, n31, n32, n33, n34, n35, n36, n37, n38, n39, n40, n41, n42, n43, n44, n45, n46, n47, n48, n49, n50, n51, n52, n53, n54, n55, n56, n57, n58, n59, n60, n61, n62, n63, n64, n65, n66, n97, n99, n100, n103, n107, n111, n116, n117, n119, n126, n200, n359, n360, n999, n1000, n9999, n65521, n99999, n1000000, io_neg, io_add, io_sub, io_mul, io_lt, io_le, io_eq, io_nat, Int.toNat_natCast, toNat_c1, ifg, obs, obm, oob, bi0, bi1, bi01]; omega), e1, oob, if_pos (hl hi), c_asSeen hA hC1 hi hok1, obs]
    refine ⟨(σ1, fitA (pm B D) q Z Y i a), ?_, rfl, hC1⟩
    unfold fitA
    rw [h1]
    simp (disch := omega) only [n0, n1, n2, n3, n4, n5, n6, n7, n8, n9, n10, n11, n12, n13, n14, n15, n16, n17, n18, n19, n20, n21, n22, n23, n24, n25, n26, n27, n28, n29, n30, n31, n32, n33, n34, n35, n36, n37, n38, n39, n40, n41, n42, n43, n44, n45, n46, n47, n48, n49, n50, n51, n52, n53, n54, n55, n56, n57, n58, n59, n60, n61, n62, n63, n64, n65, n66, n97, n99, n100, n103, n107, n111, n116, n117, n119, n126, n200, n359, n360, n999, n1000, n9999, n65521, n99999, n1000000, io_neg, io_add, io_sub, io_mul, io_lt, io_le, io_eq, io_nat, Int.toNat_natCast, toNat_c1, ifg, obs, obm, oob, bi0, bi1, bi01, ob_ite, bind_ite, ↓reduceIte, eq_self]
    cases fitB (pm B D) q Z Y i <;> rfl
theorem m_fits (hA : AB B D l X m U m2 V q Z Y) (hM : IM σ B D l X m U m2 V q Z Y) : ∃ σ', f7_fits σ = some (σ', foldN 4 (fitA (pm B D) q Z Y) 0) ∧ IM σ' B D l X m U m2 V q Z Y := by
  have hPB := PB_pm hA.1 hA.2.1
  obtain ⟨hq, hzy⟩ := hA.2.2.2.2.2
  have key := lock_loop (fun n (t : Mem × Int32) i => f7_fits_b4 n t.1 t.2 i) (fun t => some (t.1, t.2)) 4 (fitA (pm B D) q Z Y) (fun _ a t => t.2 = a ∧ IM t.1 B D l X m U m2 V q Z Y) (a0 := 0) (t0 := (σ, 0)) ⟨rfl, hM⟩ (fun n a t _ => ?_) (fun n i a t hi hI => ?_) 1000 (by omega)
  · obtain ⟨⟨σ', a⟩, e, h1, h2⟩ := key
    simp only at h1 h2 e
    rw [h1] at e
    exact ⟨σ', e, h2⟩
  · show f7_fits_b4 (n + 1) _ _ _ = _
    rw [f7_fits_b4, if_pos (by decide)]
  · show ∃ t', f7_fits_b4 (n + 1) _ _ _ = f7_fits_b4 n _ _ _ ∧ _
    obtain ⟨h1, h2⟩ := hI
    obtain ⟨g1, -, -, hM1⟩ := m_hour hA h2 (rule := (i : Int)) (n := 0) (by omega) (by omega) (by omega) (by omega)
    have hs := hM1.2.2.2.2.2
    rw [f7_fits_b4, if_neg (by simp (disch := omega) only [n0, n1, n2, n3, n4, n5, n6, n7, n8, n9, n10, n11, n12, n13, n14, n15, n16, n17, n18, n19, n20, n21, n22, n23, n24, n25, n26, n27, n28, n29, n30, n31, n32, n33, n34, n35, n36, n37, n38, n39, n40, n41, n42, n43, n44, n45, n46, n47, n48, n49, n50, n51, n52, n53, n54, n55, n56, n57, n58, n59, n60, n61, n62, n63, n64, n65, n66, n97, n99, n100, n103, n107, n111, n116, n117, n119, n126, n200, n359, n360, n999, n1000, n9999, n65521, n99999, n1000000, io_neg, io_add, io_sub, io_mul, io_lt, io_le, io_eq, io_nat, Int.toNat_natCast, toNat_c1, ifg, obs, obm, oob, bi0, bi1, bi01]; omega), n0, g1, obs]
    refine ⟨(ov t.1 (chour (pm B D) i 0 (vw t.1)), fitA (pm B D) q Z Y i a), ?_, rfl, hM1⟩
    have k2 := (fold_loop (fun n' (is : Bool) x4 => f7_fits_b20 (f7_fits_b4 n) n' (ov t.1 (chour (pm B D) i 0 (vw t.1))) t.2 (io i) (bi is) x4) (fun is => f7_fits_b4 n (ov t.1 (chour (pm B D) i 0 (vw t.1))) (if is = true then t.2 ||| (io 1 <<< (io (i : Int) &&& io 31)) else t.2) (io ((i : Int) + 1))) q (fitG (pm B D) Z Y i) (fun _ _ => True) (a0 := true) trivial (fun _ _ _ _ => trivial) (fun n' is _ => ?_) (fun n' k is hk _ => ?_) 1000 (by omega)).1
    · refine Eq.trans k2 ?_
      unfold fitA
      rw [h1]
      rfl
    · show f7_fits_b20 _ (n' + 1) _ _ _ _ _ = _
      rw [f7_fits_b20, hs.1, if_pos (Int32.le_refl _)]
      simp (disch := omega) only [n0, n1, n2, n3, n4, n5, n6, n7, n8, n9, n10, n11, n12, n13, n14, n15, n16, n17, n18, n19, n20, n21, n22, n23, n24, n25, n26, n27, n28, n29, n30, n31, n32, n33, n34, n35, n36, n37, n38, n39, n40, n41, n42, n43, n44, n45, n46, n47, n48, n49, n50, n51, n52, n53, n54, n55, n56, n57, n58, n59, n60, n61, n62, n63, n64, n65, n66, n97, n99, n100, n103, n107, n111, n116, n117, n119, n126, n200, n359, n360, n999, n1000, n9999, n65521, n99999, n1000000, io_neg, io_add, io_sub, io_mul, io_lt, io_le, io_eq, io_nat, Int.toNat_natCast, toNat_c1, ifg, obs, obm, oob, bi0, bi1, bi01, ob_ite, bind_ite, ↓reduceIte, eq_self]
      cases is
      · simp only [↓reduceIte, ← n0, Int32.or_zero]
        rfl
      · rfl
    · show f7_fits_b20 _ (n' + 1) _ _ _ _ _ = f7_fits_b20 _ n' _ _ _ _ _
      have hz := hzy k hk
      rw [f7_fits_b20, hs.1]
      simp (disch := omega) only [n0, n1, n2, n3, n4, n5, n6, n7, n8, n9, n10, n11, n12, n13, n14, n15, n16, n17, n18, n19, n20, n21, n22, n23, n24, n25, n26, n27, n28, n29, n30, n31, n32, n33, n34, n35, n36, n37, n38, n39, n40, n41, n42, n43, n44, n45, n46, n47, n48, n49, n50, n51, n52, n53, n54, n55, n56, n57, n58, n59, n60, n61, n62, n63, n64, n65, n66, n97, n99, n100, n103, n107, n111, n116, n117, n119, n126, n200, n359, n360, n999, n1000, n9999, n65521, n99999, n1000000, io_neg, io_add, io_sub, io_mul, io_lt, io_le, io_eq, io_nat, Int.toNat_natCast, toNat_c1, ifg, obs, obm, oob, bi0, bi1, bi01, ob_ite, bind_ite, ↓reduceIte, eq_self, hs.2 k hk, ov_g, gts_eq (P := pm B D) (rule := (i : Int)) (k := Z k) hPB (show (0 : Int) ≤ i by omega) (show (i : Int) ≤ 4 by omega) hz.1 (ok2_vw t.1)]
      rw [if_neg (show ¬ (q : Int) ≤ k by omega)]
      unfold fitG
      cases is with
      | false => rfl
      | true =>
        rw [if_neg (by decide)]
        by_cases c : gts (pm B D) i (Z k) = io (Y k)
        · rw [if_pos c, decide_eq_true c]; rfl
        · rw [if_neg c, decide_eq_false c]; rfl
theorem s_fits (hI : Inv σc σm) : Step (f6_fits σc) (f7_fits σm) := by
  obtain ⟨B, D, l, X, m, U, m2, V, q, Z, Y, hA, hC, hM⟩ := hI
  obtain ⟨σ1, e1, h1⟩ := c_fits hA hC
  obtain ⟨σ2, e2, h2⟩ := m_fits hA hM
  exact ⟨_, _, _, e1, e2, B, D, l, X, m, U, m2, V, q, Z, Y, hA, h1, h2⟩
end Fits
