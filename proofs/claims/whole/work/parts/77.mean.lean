/-! CALLS: mean -/
def ptG (s : Int) (j : Nat) (c : Int) : Int := if s % ((j : Int) + 2) = 0 ∧ (10 : Int) % ((j : Int) + 2) = 0 then (j : Int) + 2 else c
def gcd10 (s : Int) : Int := if s % 10 = 0 then 10 else if s % 5 = 0 then 5 else if s % 2 = 0 then 2 else 1
theorem emod_sub {s d : Int} : (s - s / d * d = 0) ↔ s % d = 0 := by
  rw [Int.emod_def, Int.mul_comm]
theorem ptG_9 (s : Int) : foldN 9 (ptG s) 1 = gcd10 s := by
  simp only [foldN, ptG, gcd10]
  have h10 : s % 10 = 0 ∨ s % 10 = 1 ∨ s % 10 = 2 ∨ s % 10 = 3 ∨ s % 10 = 4 ∨ s % 10 = 5 ∨ s % 10 = 6 ∨ s % 10 = 7 ∨ s % 10 = 8 ∨ s % 10 = 9 := by omega
  have e8 : (((8 : Nat) : Int) + 2) = 10 := rfl
  have e7 : (((7 : Nat) : Int) + 2) = 9 := rfl
  have e6 : (((6 : Nat) : Int) + 2) = 8 := rfl
  have e5 : (((5 : Nat) : Int) + 2) = 7 := rfl
  have e4 : (((4 : Nat) : Int) + 2) = 6 := rfl
  have e3 : (((3 : Nat) : Int) + 2) = 5 := rfl
  have e2 : (((2 : Nat) : Int) + 2) = 4 := rfl
  have e1 : (((1 : Nat) : Int) + 2) = 3 := rfl
  have e0 : (((0 : Nat) : Int) + 2) = 2 := rfl
  rw [e8, e7, e6, e5, e4, e3, e2, e1, e0]
  rw [if_neg (show ¬ (s % 9 = 0 ∧ (10 : Int) % 9 = 0) from fun z => absurd z.2 (by decide)), if_neg (show ¬ (s % 8 = 0 ∧ (10 : Int) % 8 = 0) from fun z => absurd z.2 (by decide)), if_neg (show ¬ (s % 7 = 0 ∧ (10 : Int) % 7 = 0) from fun z => absurd z.2 (by decide)), if_neg (show ¬ (s % 6 = 0 ∧ (10 : Int) % 6 = 0) from fun z => absurd z.2 (by decide)), if_neg (show ¬ (s % 4 = 0 ∧ (10 : Int) % 4 = 0) from fun z => absurd z.2 (by decide)), if_neg (show ¬ (s % 3 = 0 ∧ (10 : Int) % 3 = 0) from fun z => absurd z.2 (by decide))]
  have a10 : (s % 10 = 0 ∧ (10 : Int) % 10 = 0) ↔ s % 10 = 0 := ⟨fun z => z.1, fun z => ⟨z, by decide⟩⟩
  have a5 : (s % 5 = 0 ∧ (10 : Int) % 5 = 0) ↔ s % 5 = 0 := ⟨fun z => z.1, fun z => ⟨z, by decide⟩⟩
  have a2 : (s % 2 = 0 ∧ (10 : Int) % 2 = 0) ↔ s % 2 = 0 := ⟨fun z => z.1, fun z => ⟨z, by decide⟩⟩
  simp only [a10, a5, a2]
theorem g10_r (s : Int) : 1 ≤ gcd10 s ∧ gcd10 s ≤ 10 := by
  unfold gcd10
  repeat' split
  all_goals omega
theorem part10 {s w : Int} (s0 : 0 ≤ s) (s1 : s ≤ 4000000) (w0 : 0 ≤ w) (w1 : w ≤ 1) : f6_partOf (io s) (io 10) (io w) = some (if w = 0 then io (s / gcd10 s) else io (10 / gcd10 s)) := by
  unfold f6_partOf
  have hg := g10_r s
  have key := (fold_loop (fun n c i => f6_partOf_b5 n (io s) (io 10) (io w) (io c) (i + io 2)) (fun c => if io w = 0 then (if ¬ io c = 0 then some (io s / io c) else none) else if ¬ io c = 0 then some (io 10 / io c) else none) 9 (ptG s) (fun _ _ => True) (a0 := 1) trivial (fun _ _ _ _ => trivial) (fun n c _ => ?_) (fun n i c hi _ => ?_) 1000 (by omega)).1
  · rw [ptG_9] at key
    refine Eq.trans key ?_
    simp (disch := omega) only [n0, n1, n2, n3, n4, n5, n6, n7, n8, n9, n10, n11, n12, n13, n14, n15, n16, n17, n18, n19, n20, n21, n22, n23, n24, n25, n26, n27, n28, n29, n30, n31, n32, n33, n34, n35, n36, n37, n38, n39, n40, n41, n42, n43, n44, n45, n46, n47, n48, n49, n50, n51, n52, n53, n54, n55, n56, n57, n58, n59, n60, n61, n62, n63, n64, n65, n66, n97, n99, n100, n103, n107, n111, n116, n117, n119, n126, n200, n359, n360, n999, n1000, n9999, n65521, n99999, n1000000, io_neg, io_add, io_sub, io_mul, io_lt, io_le, io_eq, io_nat, Int.toNat_natCast, toNat_c1, ifg, obs, obm, oob, bi0, bi1, bi01, ob_ite, bind_ite, ↓reduceIte, eq_self, io_div]
    by_cases c : w = 0
    · rw [if_pos c, if_pos c, if_pos (show ¬ gcd10 s = 0 by omega)]
    · rw [if_neg c, if_neg c, if_pos (show ¬ gcd10 s = 0 by omega)]
  · show f6_partOf_b5 (n + 1) _ _ _ _ _ = _
    rw [f6_partOf_b5, if_pos (by decide)]
  · show f6_partOf_b5 (n + 1) _ _ _ _ _ = f6_partOf_b5 n _ _ _ _ _
    have q1 : 0 ≤ s / ((i : Int) + 2) := Int.ediv_nonneg s0 (by omega)
    have q2 : s / ((i : Int) + 2) ≤ s := Int.ediv_le_self _ s0
    have q3 : s / ((i : Int) + 2) * ((i : Int) + 2) ≤ s := Int.ediv_mul_le s (by omega)
    have q4 : 0 ≤ s / ((i : Int) + 2) * ((i : Int) + 2) := Int.mul_nonneg q1 (by omega)
    have r1 : 0 ≤ (10 : Int) / ((i : Int) + 2) := Int.ediv_nonneg (by omega) (by omega)
    have r3 : (10 : Int) / ((i : Int) + 2) * ((i : Int) + 2) ≤ 10 := Int.ediv_mul_le 10 (by omega)
    have r4 : 0 ≤ (10 : Int) / ((i : Int) + 2) * ((i : Int) + 2) := Int.mul_nonneg r1 (by omega)
    rw [f6_partOf_b5]
    simp (disch := omega) only [n0, n1, n2, n3, n4, n5, n6, n7, n8, n9, n10, n11, n12, n13, n14, n15, n16, n17, n18, n19, n20, n21, n22, n23, n24, n25, n26, n27, n28, n29, n30, n31, n32, n33, n34, n35, n36, n37, n38, n39, n40, n41, n42, n43, n44, n45, n46, n47, n48, n49, n50, n51, n52, n53, n54, n55, n56, n57, n58, n59, n60, n61, n62, n63, n64, n65, n66, n97, n99, n100, n103, n107, n111, n116, n117, n119, n126, n200, n359, n360, n999, n1000, n9999, n65521, n99999, n1000000, io_neg, io_add, io_sub, io_mul, io_lt, io_le, io_eq, io_nat, Int.toNat_natCast, toNat_c1, ifg, obs, obm, oob, bi0, bi1, bi01, ob_ite, bind_ite, ↓reduceIte, eq_self, io_div]
    rw [if_neg (show ¬ (10 : Int) < (i : Int) + 2 by omega), if_pos (show ¬ (i : Int) + 2 = 0 by omega), if_pos (show ¬ (i : Int) + 2 = 0 by omega)]
    simp only [emod_sub]
    unfold ptG
    rw [show (i : Int) + 2 + 1 = (i : Int) + 1 + 2 by omega]
    by_cases c1 : s % ((i : Int) + 2) = 0
    · rw [if_pos c1]
      by_cases c2 : (10 : Int) % ((i : Int) + 2) = 0
      · rw [if_pos c2, if_pos ⟨c1, c2⟩]
      · rw [if_neg c2, if_neg (fun z => c2 z.2)]
    · rw [if_neg c1, if_neg (fun z => c1 z.1)]
set_option maxRecDepth 100000 in
theorem cmF : ∀ t : Fin 10, f7_common_b4 999 (io 10) (io (t.val : Nat)) = some (io (gcd10 (t.val : Nat))) := by decide +kernel
theorem common10 {s : Int} (s0 : 0 ≤ s) (s1 : s ≤ 4000000) : f7_common (io s) (io 10) = some (io (gcd10 s)) := by
  unfold f7_common
  show f7_common_b4 (999 + 1) _ _ = _
  rw [f7_common_b4, if_neg (by decide), if_pos (by decide)]
  simp (disch := omega) only [n0, n1, n2, n3, n4, n5, n6, n7, n8, n9, n10, n11, n12, n13, n14, n15, n16, n17, n18, n19, n20, n21, n22, n23, n24, n25, n26, n27, n28, n29, n30, n31, n32, n33, n34, n35, n36, n37, n38, n39, n40, n41, n42, n43, n44, n45, n46, n47, n48, n49, n50, n51, n52, n53, n54, n55, n56, n57, n58, n59, n60, n61, n62, n63, n64, n65, n66, n97, n99, n100, n103, n107, n111, n116, n117, n119, n126, n200, n359, n360, n999, n1000, n9999, n65521, n99999, n1000000, io_neg, io_add, io_sub, io_mul, io_lt, io_le, io_eq, io_nat, Int.toNat_natCast, toNat_c1, ifg, obs, obm, oob, bi0, bi1, bi01, ob_ite, bind_ite, ↓reduceIte, eq_self, io_div]
  have := cmF ⟨(s % 10).toNat, by omega⟩
  simp only at this
  rw [show (((s % 10).toNat : Nat) : Int) = s % 10 by omega] at this
  rw [show s - s / 10 * 10 = s % 10 by omega, this]
  congr 2
  unfold gcd10
  rw [show s % 10 % 10 = s % 10 by omega, show s % 10 % 5 = s % 5 by omega, show s % 10 % 2 = s % 2 by omega]
theorem du_dv (D : Nat → Nat) (i u v : Nat) : du (du D i u) i v = du D i v := by
  funext k
  unfold du
  split <;> rfl
section Mean
variable {σ σ' σc σm : Mem} {B P : PS} {D : Nat → Nat} {l l' : Nat} {X X' : Nat → Nat} {m : Nat} {U : PS} {m2 : Nat} {V : PS} {q q' : Nat} {Z Y Z' Y' : Nat → Nat}
def mnG (B : PS) (D : Nat → Nat) (r i k : Nat) (a : Int) : Int := a + (B 10 k : Int) * cst (pm B (du D i (B 9 k))) r 0
theorem mn_b (hB : BB B) (hD : DB D) {r i k : Nat} (hr : r < 4) (hi : i < 6) {a : Int} (h : 0 ≤ a ∧ a ≤ 300000 * sumN k (fun k => (B 10 k : Int))) : 0 ≤ mnG B D r i k a ∧ mnG B D r i k a ≤ 300000 * sumN (k + 1) (fun k => (B 10 k : Int)) := by
  have hk := hB.2.1 k
  have hc := (cst_eq (rule := (r : Int)) (n := 0) (PB_pm hB (DB_du hD (i := i) (v := B 9 k) hi (by omega))) (by omega) (by omega) (by omega) (by omega)).1
  have e : sumN (k + 1) (fun k => (B 10 k : Int)) = sumN k (fun k => (B 10 k : Int)) + B 10 k := rfl
  rw [e]
  unfold mnG
  have m1 := Int.mul_nonneg (show (0 : Int) ≤ B 10 k by omega) hc.1
  have m2 := Int.mul_le_mul_of_nonneg_left hc.2 (show (0 : Int) ≤ B 10 k by omega)
  omega
theorem c_mean (hA : AB B D l X m U m2 V q Z Y) (H : IC σ B D l X m U m2 V q Z Y) {r i : Nat} (hr : r < 4) (hi : i < 6) (h0 : 0 < B 0 7) {w : Int} (w0 : 0 ≤ w) (w1 : w ≤ 1) : ∃ σ', f6_mean_b48 1000 σ (io r) (io i) (io w) (io 0) (io 0) = some (σ', if w = 0 then io (foldN (B 0 7) (mnG B D r i) 0 / gcd10 (foldN (B 0 7) (mnG B D r i) 0)) else io (10 / gcd10 (foldN (B 0 7) (mnG B D r i) 0))) ∧ IC σ' B D l X m U m2 V q Z Y := by
  have hb := hA.1.1
  have key := lock_loop (fun n (t : Mem × Int) k => f6_mean_b48 n t.1 (io r) (io i) (io w) (io t.2) k) (fun t => Option.bind (f6_partOf (io t.2) (io 10) (io w)) fun r3 => some (t.1, r3)) (B 0 7) (mnG B D r i) (fun k a t => t.2 = a ∧ IC t.1 B D l X m U m2 V q Z Y ∧ 0 ≤ a ∧ a ≤ 300000 * sumN k (fun k => (B 10 k : Int))) (a0 := 0) (t0 := (σ, 0)) ⟨rfl, H, by simp, by simp [sumN]⟩ (fun n a t hI => ?_) (fun n k a t hk hI => ?_) 1000 (by omega)
  · obtain ⟨t, e, h1, h2, h3, h4⟩ := key
    rw [hA.1.2.2 h0] at h4
    rw [h1, part10 h3 (by omega) w0 w1, obs] at e
    exact ⟨t.1, e, h2⟩
  · show f6_mean_b48 (n + 1) _ _ _ _ _ _ = _
    have h2 := hI.2.1.2.1
    rw [f6_mean_b48, f2_size, obs, h2.1.2.2.2.2.2.2, if_pos (Int32.le_refl _), n10]
  · show ∃ t', f6_mean_b48 (n + 1) _ _ _ _ _ _ = f6_mean_b48 n _ _ _ _ _ _ ∧ _
    obtain ⟨h1, h2, h3⟩ := hI
    have hcb := h2.2.1
    have hbk := hA.1.2.1 k
    have hbd := mn_b hA.1 hA.2.1 hr hi h3
    rw [f6_mean_b48, f2_size, obs, hcb.1.2.2.2.2.2.2, if_neg (by simp (disch := omega) only [n0, n1, n2, n3, n4, n5, n6, n7, n8, n9, n10, n11, n12, n13, n14, n15, n16, n17, n18, n19, n20, n21, n22, n23, n24, n25, n26, n27, n28, n29, n30, n31, n32, n33, n34, n35, n36, n37, n38, n39, n40, n41, n42, n43, n44, n45, n46, n47, n48, n49, n50, n51, n52, n53, n54, n55, n56, n57, n58, n59, n60, n61, n62, n63, n64, n65, n66, n97, n99, n100, n103, n107, n111, n116, n117, n119, n126, n200, n359, n360, n999, n1000, n9999, n65521, n99999, n1000000, io_neg, io_add, io_sub, io_mul, io_lt, io_le, io_eq, io_nat, Int.toNat_natCast, toNat_c1, ifg, obs, obm, oob, bi0, bi1, bi01]; omega), p_second hcb.1.2.2.2.2.2.2 (by omega) hk, p_first hcb.1.2.2.2.2.2.2 (by omega) hk]
    show ∃ t', (Option.bind (some (t.1 15 k)) fun r3 => if r3 ≤ 0 then _ else Option.bind (some (t.1 14 k)) _) = _ ∧ _
    rw [obs, obs, (hcb.2.2.2.2.1 k hk).1, (hcb.2.2.2.2.1 k hk).2]
    by_cases c : B 10 k = 0
    · rw [if_pos (by rw [c]; decide), n1, io_add]
      refine ⟨t, rfl, ?_, h2, hbd⟩
      unfold mnG
      rw [c, h1]
      simp
    · rw [if_neg (by simp (disch := omega) only [n0, n1, n2, n3, n4, n5, n6, n7, n8, n9, n10, n11, n12, n13, n14, n15, n16, n17, n18, n19, n20, n21, n22, n23, n24, n25, n26, n27, n28, n29, n30, n31, n32, n33, n34, n35, n36, n37, n38, n39, n40, n41, n42, n43, n44, n45, n46, n47, n48, n49, n50, n51, n52, n53, n54, n55, n56, n57, n58, n59, n60, n61, n62, n63, n64, n65, n66, n97, n99, n100, n103, n107, n111, n116, n117, n119, n126, n200, n359, n360, n999, n1000, n9999, n65521, n99999, n1000000, io_neg, io_add, io_sub, io_mul, io_lt, io_le, io_eq, io_nat, Int.toNat_natCast, toNat_c1, ifg, obs, obm, oob, bi0, bi1, bi01]; omega)]
      obtain ⟨σ1, e1, hC1⟩ := c_costIf hA h2 (r := r) (i := i) (v := B 9 k) hr hi (by omega)
      rw [e1, oob, io_mul, io_add, n1, io_add]
      refine ⟨(σ1, t.2 + (B 10 k : Int) * cst (pm B (du D i (B 9 k))) r 0), rfl, ?_, hC1, hbd⟩
      unfold mnG
      rw [← h1]
theorem m_mean (hA : AB B D l X m U m2 V q Z Y) (H : IM σ B D l X m U m2 V q Z Y) {r i : Nat} (hr : r < 4) (hi : i < 6) (h0 : 0 < B 0 7) {w : Int} (w0 : 0 ≤ w) (w1 : w ≤ 1) : ∃ σ', f7_mean_b53 1000 σ (io r) (io i) (io w) (io (D i)) (io 0) (io 0) = some (σ', if w = 0 then io (foldN (B 0 7) (mnG B D r i) 0 / gcd10 (foldN (B 0 7) (mnG B D r i) 0)) else io (10 / gcd10 (foldN (B 0 7) (mnG B D r i) 0))) ∧ IM σ' B D l X m U m2 V q Z Y := by
  have hb := hA.1.1
  have hdi := hA.2.1.1 i hi
  have key := lock_loop (fun n (t : Mem × Int) k => f7_mean_b53 n t.1 (io r) (io i) (io w) (io (D i)) (io t.2) k) (fun t => bm (mu t.1 17 i (io (D i))) fun σ3 => Option.bind (f7_common (io t.2) (io 10)) fun r4 => if io w = 0 then (if ¬ r4 = 0 then some (σ3, io t.2 / r4) else none) else if ¬ r4 = 0 then some (σ3, io 10 / r4) else none) (B 0 7) (mnG B D r i) (fun k a t => t.2 = a ∧ (∃ v, v ≤ 30 ∧ IM t.1 B (du D i v) l X m U m2 V q Z Y) ∧ 0 ≤ a ∧ a ≤ 300000 * sumN k (fun k => (B 10 k : Int))) (a0 := 0) (t0 := (σ, 0)) ⟨rfl, ⟨D i, hdi, by rw [show du D i (D i) = D from by funext k; unfold du; split; rename_i z; rw [z]; rfl]; exact H⟩, by simp, by simp [sumN]⟩ (fun n a t hI => ?_) (fun n k a t hk hI => ?_) 1000 (by omega)
  · obtain ⟨t, e, h1, ⟨v, hv, h2⟩, h3, h4⟩ := key
    rw [hA.1.2.2 h0] at h4
    have h5 := IM_late (v := D i) hi h2
    rw [du_du] at h5
    generalize hs : foldN (B 0 7) (mnG B D r i) 0 = s at *
    have hg := g10_r s
    rw [h1, common10 h3 (by omega), obm, obs] at e
    refine ⟨_, e.trans ?_, h5⟩
    simp (disch := omega) only [n0, n1, n2, n3, n4, n5, n6, n7, n8, n9, n10, n11, n12, n13, n14, n15, n16, n17, n18, n19, n20, n21, n22, n23, n24, n25, n26, n27, n28, n29, n30, n31, n32, n33, n34, n35, n36, n37, n38, n39, n40, n41, n42, n43, n44, n45, n46, n47, n48, n49, n50, n51, n52, n53, n54, n55, n56, n57, n58, n59, n60, n61, n62, n63, n64, n65, n66, n97, n99, n100, n103, n107, n111, n116, n117, n119, n126, n200, n359, n360, n999, n1000, n9999, n65521, n99999, n1000000, io_neg, io_add, io_sub, io_mul, io_lt, io_le, io_eq, io_nat, Int.toNat_natCast, toNat_c1, ifg, obs, obm, oob, bi0, bi1, bi01, ob_ite, bind_ite, ↓reduceIte, eq_self, io_div]
    rw [if_pos (show ¬ gcd10 s = 0 by omega), if_pos (show ¬ gcd10 s = 0 by omega)]
    by_cases c : w = 0
    · rw [if_pos c, if_pos c]
    · rw [if_neg c, if_neg c]
  · show f7_mean_b53 (n + 1) _ _ _ _ _ _ _ = _
    obtain ⟨h1, ⟨v, hv, h2⟩, h3⟩ := hI
    rw [f7_mean_b53, h2.2.1.1.2.2.2.2.2.2, if_pos (Int32.le_refl _), if_pos (in_ix (n := 19) (by omega) (by decide)), io_ix (by omega), n10]
  · show ∃ t', f7_mean_b53 (n + 1) _ _ _ _ _ _ _ = f7_mean_b53 n _ _ _ _ _ _ _ ∧ _
    obtain ⟨h1, ⟨v, hv, h2⟩, h3⟩ := hI
    have hbk := hA.1.2.1 k
    have hbd := mn_b hA.1 hA.2.1 hr hi h3
    have hmb := h2.2.1
    have hM4 := IM_late (v := B 9 k) hi h2
    rw [du_dv] at hM4
    have hA' : AB B (du D i (B 9 k)) l X m U m2 V q Z Y := ⟨hA.1, DB_du hA.2.1 hi (by omega), hA.2.2⟩
    obtain ⟨-, -, g5, hM5⟩ := m_hour hA' hM4 (rule := (r : Int)) (n := 0) (by omega) (by omega) (by omega) (by omega)
    rw [f7_mean_b53, hmb.1.2.2.2.2.2.2, if_neg (by simp (disch := omega) only [n0, n1, n2, n3, n4, n5, n6, n7, n8, n9, n10, n11, n12, n13, n14, n15, n16, n17, n18, n19, n20, n21, n22, n23, n24, n25, n26, n27, n28, n29, n30, n31, n32, n33, n34, n35, n36, n37, n38, n39, n40, n41, n42, n43, n44, n45, n46, n47, n48, n49, n50, n51, n52, n53, n54, n55, n56, n57, n58, n59, n60, n61, n62, n63, n64, n65, n66, n97, n99, n100, n103, n107, n111, n116, n117, n119, n126, n200, n359, n360, n999, n1000, n9999, n65521, n99999, n1000000, io_neg, io_add, io_sub, io_mul, io_lt, io_le, io_eq, io_nat, Int.toNat_natCast, toNat_c1, ifg, obs, obm, oob, bi0, bi1, bi01]; omega)]
    simp (disch := omega) only [n0, n1, n2, n3, n4, n5, n6, n7, n8, n9, n10, n11, n12, n13, n14, n15, n16, n17, n18, n19, n20, n21, n22, n23, n24, n25, n26, n27, n28, n29, n30, n31, n32, n33, n34, n35, n36, n37, n38, n39, n40, n41, n42, n43, n44, n45, n46, n47, n48, n49, n50, n51, n52, n53, n54, n55, n56, n57, n58, n59, n60, n61, n62, n63, n64, n65, n66, n97, n99, n100, n103, n107, n111, n116, n117, n119, n126, n200, n359, n360, n999, n1000, n9999, n65521, n99999, n1000000, io_neg, io_add, io_sub, io_mul, io_lt, io_le, io_eq, io_nat, Int.toNat_natCast, toNat_c1, ifg, obs, obm, oob, bi0, bi1, bi01, ob_ite, bind_ite, ↓reduceIte, eq_self, (hmb.2.2.2.2 k hk).1, g5, mu_s, mu_k, mu_j, (hmb.2.2.2.2 k hk).2]
    refine ⟨(_, t.2 + (B 10 k : Int) * cst (pm B (du D i (B 9 k))) r 0), rfl, ?_, ⟨B 9 k, by omega, hM5⟩, hbd⟩
    unfold mnG
    rw [← h1]
theorem s_mean (hI : Inv σc σm) (a b c : Int32) : Step (f6_mean σc a b c) (f7_mean σm a b c) := by
  have hI' := hI
  obtain ⟨B, D, l, X, m, U, m2, V, q, Z, Y, hA, hC, hM⟩ := hI'
  obtain ⟨x, rfl, x0, x1⟩ := arg a
  obtain ⟨y, rfl, y0, y1⟩ := arg b
  obtain ⟨w, rfl, w0, w1⟩ := arg c
  have hb := hA.1.1
  unfold f6_mean f7_mean f2_size
  simp (disch := omega) only [n0, n1, n2, n3, n4, n5, n6, n7, n8, n9, n10, n11, n12, n13, n14, n15, n16, n17, n18, n19, n20, n21, n22, n23, n24, n25, n26, n27, n28, n29, n30, n31, n32, n33, n34, n35, n36, n37, n38, n39, n40, n41, n42, n43, n44, n45, n46, n47, n48, n49, n50, n51, n52, n53, n54, n55, n56, n57, n58, n59, n60, n61, n62, n63, n64, n65, n66, n97, n99, n100, n103, n107, n111, n116, n117, n119, n126, n200, n359, n360, n999, n1000, n9999, n65521, n99999, n1000000, io_neg, io_add, io_sub, io_mul, io_lt, io_le, io_eq, io_nat, Int.toNat_natCast, toNat_c1, ifg, obs, obm, oob, bi0, bi1, bi01, ob_ite, bind_ite, ↓reduceIte, eq_self, c_isRule, c_isBeat, c_isMinute, c_isTold, m_isRule, m_in, i64_toInt, io_toInt, j0, j1, j2, j3, j9, j30, j32, j48, j57, j59, j60, j99, j126, j359, j9999, decide_eq_false_iff_not, decide_eq_true_eq, p_between, c_isTrain hC.2.1.1.1 hA.1, m_isTrain hM.2.1.1.1 hA.1, hC.2.1.1.2.2.2.2.2.2, hM.2.1.1.2.2.2.2.2.2]
  by_cases c : 0 ≤ x ∧ x ≤ 3
  · have c' := not_not_intro c
    rw [if_neg c', if_neg c']
    by_cases c1 : 0 ≤ y ∧ y ≤ (B 0 0 : Int) - 1
    · have c1' := not_not_intro c1
      rw [if_neg c1', if_neg c1']
      by_cases c2 : 0 ≤ w ∧ w ≤ 1
      · have c2' := not_not_intro c2
        rw [if_neg c2', if_neg c2']
        by_cases c3 : (B 0 7 : Int) = 0
        · rw [if_pos c3, if_pos c3]
          exact Step.same hI rfl rfl
        · rw [if_neg c3, if_neg c3]
          obtain ⟨r, rfl⟩ : ∃ r : Nat, x = (r : Int) := ⟨x.toNat, by omega⟩
          obtain ⟨i, rfl⟩ : ∃ i : Nat, y = (i : Int) := ⟨y.toNat, by omega⟩
          simp (disch := omega) only [n0, n1, n2, n3, n4, n5, n6, n7, n8, n9, n10, n11, n12, n13, n14, n15, n16, n17, n18, n19, n20, n21, n22, n23, n24, n25, n26, n27, n28, n29, n30, n31, n32, n33, n34, n35, n36, n37, n38, n39, n40, n41, n42, n43, n44, n45, n46, n47, n48, n49, n50, n51, n52, n53, n54, n55, n56, n57, n58, n59, n60, n61, n62, n63, n64, n65, n66, n97, n99, n100, n103, n107, n111, n116, n117, n119, n126, n200, n359, n360, n999, n1000, n9999, n65521, n99999, n1000000, io_neg, io_add, io_sub, io_mul, io_lt, io_le, io_eq, io_nat, Int.toNat_natCast, toNat_c1, ifg, obs, obm, oob, bi0, bi1, bi01, ob_ite, bind_ite, ↓reduceIte, eq_self, IM_n (show i < 6 by omega) hM]
          obtain ⟨σ1, e1, h1⟩ := c_mean hA hC (r := r) (i := i) (by omega) (by omega) (by omega) c2.1 c2.2
          obtain ⟨σ2, e2, h2⟩ := m_mean hA hM (r := r) (i := i) (by omega) (by omega) (by omega) c2.1 c2.2
          exact ⟨_, _, _, e1, e2, B, D, l, X, m, U, m2, V, q, Z, Y, hA, h1, h2⟩
      · rw [if_pos c2, if_pos c2]
        exact Step.same hI rfl rfl
    · rw [if_pos c1, if_pos c1]
      exact Step.same hI rfl rfl
  · rw [if_pos c, if_pos c]
    exact Step.same hI rfl rfl
end Mean
