/-! STANDS ARE COPIED; what an hour would cost; more -/
def du (D : Nat → Nat) (i v : Nat) : Nat → Nat := fun k => if k = i then v else D k
theorem du_s (D : Nat → Nat) (i v : Nat) : du D i v i = v := by simp [du]
theorem du_n (D : Nat → Nat) {i k : Nat} (v : Nat) (h : k ≠ i) : du D i v k = D k := by simp [du, h]
theorem du_du (D : Nat → Nat) (i v : Nat) : du (du D i v) i (D i) = D := by
  funext k
  unfold du
  split
  · rename_i h; rw [h]
  · rfl
theorem DB_du {D : Nat → Nat} (h : DB D) {i v : Nat} (hi : i < 6) (hv : v ≤ 30) : DB (du D i v) := by
  obtain ⟨h1, h2, h3⟩ := h
  refine ⟨fun k hk => ?_, ?_, ?_⟩
  · by_cases e : k = i
    · subst e; rw [du_s]; exact hv
    · rw [du_n _ _ e]; exact h1 k hk
  · rw [du_n _ _ (by omega)]; exact h2
  · rw [du_n _ _ (by omega)]
    intro k hk
    rw [du_n _ _ (by omega), du_n _ _ (by omega)]
    exact h3 k hk
section Trial
variable {σ σ' σc σm : Mem} {B P : PS} {D : Nat → Nat} {l l' : Nat} {X X' : Nat → Nat} {m : Nat} {U : PS} {m2 : Nat} {V : PS} {q q' : Nat} {Z Y Z' Y' : Nat → Nat}
theorem c_add {h i lim : Nat} {a b : Int32} (h3 : σ h 3 = io i) (h2 : σ h 2 = io lim) (hi : i < lim) (h8 : lim ≤ 8) : f2_add σ h a b = some (mu (mu (mu σ (h + 1) i a) (h + 2) i b) h 3 (io ((i : Int) + 1)), io 1) := by
  unfold f2_add f2_isFull
  simp (disch := omega) only [n0, n1, n2, n3, n4, n5, n6, n7, n8, n9, n10, n11, n12, n13, n14, n15, n16, n17, n18, n19, n20, n21, n22, n23, n24, n25, n26, n27, n28, n29, n30, n31, n32, n33, n34, n35, n36, n37, n38, n39, n40, n41, n42, n43, n44, n45, n46, n47, n48, n49, n50, n51, n52, n53, n54, n55, n56, n57, n58, n59, n60, n61, n62, n63, n64, n65, n66, n97, n99, n100, n103, n107, n111, n116, n117, n119, n126, n200, n359, n360, n999, n1000, n9999, n65521, n99999, n1000000, io_neg, io_add, io_sub, io_mul, io_lt, io_le, io_eq, io_nat, Int.toNat_natCast, toNat_c1, ifg, obs, obm, oob, bi0, bi1, bi01, ob_ite, bind_ite, ↓reduceIte, eq_self, mu_s, mu_k, mu_j, h3, h2]
  rw [if_pos (show (i : Int) < lim by omega)]
theorem c_add_full {h i lim : Nat} {a b : Int32} (h3 : σ h 3 = io i) (h2 : σ h 2 = io lim) (hi : ¬ i < lim) (h8 : i ≤ 8) : f2_add σ h a b = some (σ, io 0) := by
  unfold f2_add f2_isFull
  simp (disch := omega) only [n0, n1, n2, n3, n4, n5, n6, n7, n8, n9, n10, n11, n12, n13, n14, n15, n16, n17, n18, n19, n20, n21, n22, n23, n24, n25, n26, n27, n28, n29, n30, n31, n32, n33, n34, n35, n36, n37, n38, n39, n40, n41, n42, n43, n44, n45, n46, n47, n48, n49, n50, n51, n52, n53, n54, n55, n56, n57, n58, n59, n60, n61, n62, n63, n64, n65, n66, n97, n99, n100, n103, n107, n111, n116, n117, n119, n126, n200, n359, n360, n999, n1000, n9999, n65521, n99999, n1000000, io_neg, io_add, io_sub, io_mul, io_lt, io_le, io_eq, io_nat, Int.toNat_natCast, toNat_c1, ifg, obs, obm, oob, bi0, bi1, bi01, ob_ite, bind_ite, ↓reduceIte, eq_self, mu_s, mu_k, mu_j, h3, h2]
  rw [if_neg (show ¬ (i : Int) < lim by omega)]
  exact if_neg (by decide)
theorem c_pcopy {h o n lim : Nat} (ho : σ o 3 = io n) (hl : σ h 2 = io lim) (hn : n ≤ lim) (h8 : lim ≤ 8) (hd : h + 2 < o ∨ o + 2 < h) : ∃ σ', f2_copy σ h o = some σ' ∧ σ' h 3 = io n ∧ σ' h 2 = io lim ∧ (∀ k, k < n → σ' (h + 1) k = σ (o + 1) k ∧ σ' (h + 2) k = σ (o + 2) k) ∧ ∀ j, (j < h ∨ h + 2 < j) → σ' j = σ j := by
  unfold f2_copy f2_empty
  simp (disch := omega) only [n0, n1, n2, n3, n4, n5, n6, n7, n8, n9, n10, n11, n12, n13, n14, n15, n16, n17, n18, n19, n20, n21, n22, n23, n24, n25, n26, n27, n28, n29, n30, n31, n32, n33, n34, n35, n36, n37, n38, n39, n40, n41, n42, n43, n44, n45, n46, n47, n48, n49, n50, n51, n52, n53, n54, n55, n56, n57, n58, n59, n60, n61, n62, n63, n64, n65, n66, n97, n99, n100, n103, n107, n111, n116, n117, n119, n126, n200, n359, n360, n999, n1000, n9999, n65521, n99999, n1000000, io_neg, io_add, io_sub, io_mul, io_lt, io_le, io_eq, io_nat, Int.toNat_natCast, toNat_c1, ifg, obs, obm, oob, bi0, bi1, bi01, ob_ite, bind_ite, ↓reduceIte, eq_self]
  have key := lock_loop (fun r (t : Mem) i => f2_copy_b7 h o r t i) (fun t => some t) n (fun _ (a : Unit) => a) (fun i _ t => t h 3 = io i ∧ t h 2 = io lim ∧ (∀ k, k < i → t (h + 1) k = σ (o + 1) k ∧ t (h + 2) k = σ (o + 2) k) ∧ ∀ j, (j < h ∨ h + 2 < j) → t j = σ j) (a0 := ()) (t0 := mu σ h 3 (io 0)) ⟨by simp (disch := omega) only [mu_s, mu_k, mu_j]; rfl, by simp (disch := omega) only [mu_s, mu_k, mu_j]; exact hl, fun k hk => by omega, fun j hj => by simp (disch := omega) only [mu_s, mu_k, mu_j]⟩ (fun r a t hI => ?_) (fun r i a t hi hI => ?_) 1000 (by omega)
  · obtain ⟨t, e, k1, k2, k3, k4⟩ := key
    exact ⟨t, e, k1, k2, k3, k4⟩
  · show f2_copy_b7 h o (r + 1) _ _ = _
    rw [f2_copy_b7, f2_size, obs, hI.2.2.2 o (by omega), ho, if_pos (Int32.le_refl _)]
  · show ∃ t', f2_copy_b7 h o (r + 1) _ _ = f2_copy_b7 h o r _ _ ∧ _
    obtain ⟨k1, k2, k3, k4⟩ := hI
    have ho' : t o 3 = io n := by rw [k4 o (by omega)]; exact ho
    rw [f2_copy_b7, f2_size, obs, ho', if_neg (by simp (disch := omega) only [n0, n1, n2, n3, n4, n5, n6, n7, n8, n9, n10, n11, n12, n13, n14, n15, n16, n17, n18, n19, n20, n21, n22, n23, n24, n25, n26, n27, n28, n29, n30, n31, n32, n33, n34, n35, n36, n37, n38, n39, n40, n41, n42, n43, n44, n45, n46, n47, n48, n49, n50, n51, n52, n53, n54, n55, n56, n57, n58, n59, n60, n61, n62, n63, n64, n65, n66, n97, n99, n100, n103, n107, n111, n116, n117, n119, n126, n200, n359, n360, n999, n1000, n9999, n65521, n99999, n1000000, io_neg, io_add, io_sub, io_mul, io_lt, io_le, io_eq, io_nat, Int.toNat_natCast, toNat_c1, ifg, obs, obm, oob, bi0, bi1, bi01]; omega), p_first ho' (by omega) hi, obs, p_second ho' (by omega) hi, obs, c_add k1 k2 (by omega) h8, oob, n1, io_add]
    refine ⟨_, rfl, ?_, ?_, fun k hk => ?_, fun j hj => ?_⟩
    · simp (disch := omega) only [mu_s, mu_k, mu_j]; rfl
    · simp (disch := omega) only [mu_s, mu_k, mu_j]; exact k2
    · simp (disch := omega) only [mu_s, mu_k, mu_j]
      by_cases e : k = i
      · subst e
        rw [mu_s, mu_s, k4 (o + 1) (by omega), k4 (o + 2) (by omega)]
        exact ⟨rfl, rfl⟩
      · simp (disch := omega) only [mu_s, mu_k, mu_j]
        exact k3 k (by omega)
    · simp (disch := omega) only [mu_s, mu_k, mu_j]
      exact k4 j hj
theorem c_copy {h o : Nat} (hD : D 6 ≤ 6) (ho : SD σ o D) (hl : σ (h + 1) 2 = io 6) (hd : h + 4 < o ∨ o + 4 < h) : ∃ σ', f4_copy σ h o = some σ' ∧ SD σ' h D ∧ ∀ j, (j ≤ h ∨ h + 4 < j) → σ' j = σ j := by
  obtain ⟨⟨o1, o2⟩, o3, o4⟩ := ho
  obtain ⟨σ1, e1, k1, k2, k3, k4⟩ := c_pcopy (h := h + 1) (o := o + 1) (lim := 6) o2 hl hD (by omega) (by omega)
  unfold f4_copy
  rw [e1, obs, n0]
  have key := lock_loop (fun r (t : Mem) i => f4_copy_b13 h o r t i) (fun t => some t) 6 (fun _ (a : Unit) => a) (fun i _ t => (∀ k, k < i → t (h + 4) k = io (D k)) ∧ ∀ j, j ≠ h + 4 → t j = σ1 j) (a0 := ()) (t0 := σ1) ⟨fun k hk => by omega, fun _ _ => rfl⟩ (fun r a t hI => ?_) (fun r i a t hi hI => ?_) 1000 (by omega)
  · obtain ⟨t, e, l1, l2⟩ := key
    refine ⟨t, e, ⟨⟨?_, ?_⟩, l1, fun k hk => ?_⟩, fun j hj => ?_⟩
    · rw [l2 _ (by omega)]; exact k2
    · rw [l2 _ (by omega)]; exact k1
    · rw [l2 _ (by omega), l2 _ (by omega)]
      have := k3 k hk
      rw [show h + 1 + 1 = h + 2 by omega, show h + 1 + 2 = h + 3 by omega, show o + 1 + 1 = o + 2 by omega, show o + 1 + 2 = o + 3 by omega] at this
      rw [this.1, this.2]
      exact o4 k hk
    · rw [l2 j (by omega), k4 j (by omega)]
  · show f4_copy_b13 h o (r + 1) _ _ = _
    rw [f4_copy_b13, if_pos (by decide)]
  · show ∃ t', f4_copy_b13 h o (r + 1) _ _ = f4_copy_b13 h o r _ _ ∧ _
    obtain ⟨l1, l2⟩ := hI
    rw [f4_copy_b13, if_neg (by simp (disch := omega) only [n0, n1, n2, n3, n4, n5, n6, n7, n8, n9, n10, n11, n12, n13, n14, n15, n16, n17, n18, n19, n20, n21, n22, n23, n24, n25, n26, n27, n28, n29, n30, n31, n32, n33, n34, n35, n36, n37, n38, n39, n40, n41, n42, n43, n44, n45, n46, n47, n48, n49, n50, n51, n52, n53, n54, n55, n56, n57, n58, n59, n60, n61, n62, n63, n64, n65, n66, n97, n99, n100, n103, n107, n111, n116, n117, n119, n126, n200, n359, n360, n999, n1000, n9999, n65521, n99999, n1000000, io_neg, io_add, io_sub, io_mul, io_lt, io_le, io_eq, io_nat, Int.toNat_natCast, toNat_c1, ifg, obs, obm, oob, bi0, bi1, bi01]; omega), p_lateOf hi, obs, l2 (o + 4) (by omega), k4 (o + 4) (by omega), o3 i hi]
    simp (disch := omega) only [n0, n1, n2, n3, n4, n5, n6, n7, n8, n9, n10, n11, n12, n13, n14, n15, n16, n17, n18, n19, n20, n21, n22, n23, n24, n25, n26, n27, n28, n29, n30, n31, n32, n33, n34, n35, n36, n37, n38, n39, n40, n41, n42, n43, n44, n45, n46, n47, n48, n49, n50, n51, n52, n53, n54, n55, n56, n57, n58, n59, n60, n61, n62, n63, n64, n65, n66, n97, n99, n100, n103, n107, n111, n116, n117, n119, n126, n200, n359, n360, n999, n1000, n9999, n65521, n99999, n1000000, io_neg, io_add, io_sub, io_mul, io_lt, io_le, io_eq, io_nat, Int.toNat_natCast, toNat_c1, ifg, obs, obm, oob, bi0, bi1, bi01, ob_ite, bind_ite, ↓reduceIte, eq_self]
    refine ⟨_, rfl, fun k hk => ?_, fun j hj => ?_⟩
    · by_cases e : k = i
      · subst e; rw [mu_s]
      · rw [mu_k _ _ e]; exact l1 k (by omega)
    · rw [mu_j _ _ _ hj]; exact l2 j hj
theorem c_makeLate {h i : Nat} {x : Int32} (hi : i < 6) : f4_makeLate σ h (io i) x = some (mu σ (h + 4) i x) := by
  unfold f4_makeLate
  simp (disch := omega) only [n0, n1, n2, n3, n4, n5, n6, n7, n8, n9, n10, n11, n12, n13, n14, n15, n16, n17, n18, n19, n20, n21, n22, n23, n24, n25, n26, n27, n28, n29, n30, n31, n32, n33, n34, n35, n36, n37, n38, n39, n40, n41, n42, n43, n44, n45, n46, n47, n48, n49, n50, n51, n52, n53, n54, n55, n56, n57, n58, n59, n60, n61, n62, n63, n64, n65, n66, n97, n99, n100, n103, n107, n111, n116, n117, n119, n126, n200, n359, n360, n999, n1000, n9999, n65521, n99999, n1000000, io_neg, io_add, io_sub, io_mul, io_lt, io_le, io_eq, io_nat, Int.toNat_natCast, toNat_c1, ifg, obs, obm, oob, bi0, bi1, bi01, ob_ite, bind_ite, ↓reduceIte, eq_self, p_between, decide_eq_false_iff_not, decide_eq_true_eq]
  rw [if_neg (show ¬ ¬ (0 ≤ (i : Int) ∧ (i : Int) ≤ 5) by omega)]
theorem SD_late {h i v : Nat} (hi : i < 6) (H : SD σ h D) : SD (mu σ (h + 4) i (io v)) h (du D i v) := by
  obtain ⟨⟨o1, o2⟩, o3, o4⟩ := H
  refine ⟨⟨?_, ?_⟩, fun k hk => ?_, ?_⟩
  · simp (disch := omega) only [mu_s, mu_k, mu_j]; exact o1
  · simp (disch := omega) only [mu_s, mu_k, mu_j]; rw [du_n _ _ (by omega)]; exact o2
  · by_cases e : k = i
    · subst e; rw [mu_s, du_s]
    · rw [mu_k _ _ e, du_n _ _ e]; exact o3 k hk
  · rw [du_n _ _ (by omega)]
    intro k hk
    rw [du_n _ _ (by omega), du_n _ _ (by omega)]
    simp (disch := omega) only [mu_s, mu_k, mu_j]
    exact o4 k hk
/-- trials: only the trial's stand and hour change -/
theorem IC_trial (hm : m ≤ 8) (hm2 : m2 ≤ 2) (H : IC σ B D l X m U m2 V q Z Y) (fr : ∀ j, ¬ (37 ≤ j ∧ j ≤ 40) → ¬ (74 ≤ j ∧ j ≤ 81) → σ' j = σ j) (h : σ' 37 2 = io 6) : IC σ' B D l X m U m2 V q Z Y := by
  obtain ⟨h1, h2, h3, h4, h5, h6, h7, h8, h9, h10⟩ := H
  exact ⟨CT_fr (by rw [fr 1 (by omega) (by omega)]) (fr 2 (by omega) (by omega)) h1, CB_fr (fun j _ _ => fr j (by omega) (by omega)) h2, CD_fr (fun j _ _ => fr j (by omega) (by omega)) h3, SD_fr (fun j _ _ => fr j (by omega) (by omega)) h4, h, CH_fr (fun j _ _ => fr j (by omega) (by omega)) h6, CP_fr rfl (fun j _ _ => fr j (by omega) (by omega)) hm h7, CP_fr rfl (fun j _ _ => fr j (by omega) (by omega)) hm2 h8, CS_fr (fun j _ _ => fr j (by omega) (by omega)) h9, CL_fr (by rw [fr 0 (by omega) (by omega)]) (by rw [fr 0 (by omega) (by omega)]) (by rw [fr 0 (by omega) (by omega)]) h10⟩
/-- a run on the trial's stand -/
theorem c_trial {D' : Nat → Nat} (hB : BB B) (hD : DB D') (hb : CB σ B) (hs : SD σ 36 D') {rule n : Int} (r0 : 0 ≤ rule) (r1 : rule ≤ 4) (n0' : 0 ≤ n) (n1' : n < 400) : ∃ σ', f1_run σ 74 (io rule) (io n) (io 1000000) = some σ' ∧ (∀ j, (j < 74 ∨ 81 < j) → σ' j = σ j) ∧ f1_total σ' 74 = some (io (cst (pm B D') rule n)) ∧ HourOK σ' 74 (pm B D') rule n := by
  have hPB := PB_pm hB hD
  have hlt := (cst_eq (rule := rule) (n := n) hPB r0 r1 n0' n1').1
  obtain ⟨σ', x, fr, t10, ⟨z, hz, -, -, h1, -⟩, hok⟩ := c_run2 (h := 74) (st := 36) (rule := rule) (n := n) (e := 1000000) hPB (PC_of hB hb hs) (by omega) (by omega) rfl r0 r1 n0' n1' (by omega) (by omega)
  refine ⟨σ', x, fun j hj => fr j (by omega), ?_, hok (by omega)⟩
  unfold f1_total
  rw [hz, h1 (by omega)]
theorem c_costIf (hA : AB B D l X m U m2 V q Z Y) (H : IC σ B D l X m U m2 V q Z Y) {r i v : Nat} (hr : r < 4) (hi : i < 6) (hv : v ≤ 30) : ∃ σ', f6_costIfLate σ (io r) (io i) (io v) = some (σ', io (cst (pm B (du D i v)) r 0)) ∧ IC σ' B D l X m U m2 V q Z Y := by
  obtain ⟨σ1, e1, s1, fr1⟩ := c_copy (h := 36) (o := 31) hA.2.1.2.1 H.2.2.2.1 H.2.2.2.2.1 (by omega)
  have s2 := SD_late (v := v) hi s1
  have hb : CB (mu σ1 40 i (io v)) B := CB_fr (fun j z1 z2 => by rw [mu_j _ _ _ (by omega), fr1 j (by omega)]) H.2.1
  obtain ⟨σ3, e3, fr3, t3, -⟩ := c_trial (rule := (r : Int)) (n := 0) hA.1 (DB_du hA.2.1 hi hv) hb s2 (by omega) (by omega) (by omega) (by omega)
  refine ⟨σ3, ?_, IC_trial hA.2.2.2.1.1 hA.2.2.2.2.1.1 H (fun j z1 z2 => ?_) ?_⟩
  · unfold f6_costIfLate
    rw [e1, obs, c_makeLate hi, obs, n0, n1000000]
    show Option.bind (f1_run (mu σ1 40 i (io v)) 74 (io r) (io 0) (io 1000000)) _ = _
    rw [e3, obs, t3, obs]
  · rw [fr3 j (by omega), mu_j _ _ _ (by omega), fr1 j (by omega)]
  · rw [fr3 37 (by omega), mu_j _ _ _ (by omega)]
    exact s1.1.1
theorem RD_late {j i v : Nat} (hi : i < 6) (H : RD σ j 0 D) : RD (mu σ j i (io v)) j 0 (du D i v) := by
  obtain ⟨o1, o2, o3⟩ := H
  refine ⟨fun k hk => ?_, ?_, ?_⟩
  · rw [Nat.zero_add]
    by_cases e : k = i
    · subst e; rw [mu_s, du_s]
    · rw [mu_k _ _ e, du_n _ _ e]
      have := o1 k hk
      rwa [Nat.zero_add] at this
  · rw [mu_k _ _ (by omega), du_n _ _ (by omega)]; exact o2
  · rw [du_n _ _ (by omega)]
    intro k hk
    rw [du_n _ _ (by omega), du_n _ _ (by omega), mu_k _ _ (by omega), mu_k _ _ (by omega)]
    exact o3 k hk
theorem IM_17 {D' : Nat → Nat} (H : IM σ B D l X m U m2 V q Z Y) (fr : ∀ j, j ≠ 17 → σ' j = σ j) (h : RD σ' 17 0 D') : IM σ' B D' l X m U m2 V q Z Y := by
  obtain ⟨h1, h2, h3, h4, h5, h6⟩ := H
  exact ⟨MT_fr (by rw [fr 0 (by omega)]) (fr 2 (by omega)) h1, MB_fr (fun j _ _ => fr j (by omega)) h2, h, MU_fr (by rw [fr 0 (by omega)]) (fr 18 (by omega)) h4, MK_fr (by rw [fr 0 (by omega)]) (fr 20 (by omega)) h5, MS_fr (by rw [fr 0 (by omega)]) (fr 23 (by omega)) (fr 24 (by omega)) h6⟩
theorem IM_late {i v : Nat} (hi : i < 6) (H : IM σ B D l X m U m2 V q Z Y) : IM (mu σ 17 i (io v)) B (du D i v) l X m U m2 V q Z Y := IM_17 H (fun j hj => mu_j _ _ _ hj) (RD_late hi H.2.2.1)
theorem IM_n {i : Nat} (hi : i < 6) (H : IM σ B D l X m U m2 V q Z Y) : σ 17 i = io (D i) := by
  have := H.2.2.1.1 i hi
  rwa [Nat.zero_add] at this
theorem s_more (hI : Inv σc σm) (a b c : Int32) : Step (f6_more σc a b c) (f7_more σm a b c) := by
  have hI' := hI
  obtain ⟨B, D, l, X, m, U, m2, V, q, Z, Y, hA, hC, hM⟩ := hI'
  obtain ⟨x, rfl, x0, x1⟩ := arg a
  obtain ⟨y, rfl, y0, y1⟩ := arg b
  obtain ⟨w, rfl, w0, w1⟩ := arg c
  have hb := hA.1.1
  unfold f6_more f7_more
  simp (disch := omega) only [n0, n1, n2, n3, n4, n5, n6, n7, n8, n9, n10, n11, n12, n13, n14, n15, n16, n17, n18, n19, n20, n21, n22, n23, n24, n25, n26, n27, n28, n29, n30, n31, n32, n33, n34, n35, n36, n37, n38, n39, n40, n41, n42, n43, n44, n45, n46, n47, n48, n49, n50, n51, n52, n53, n54, n55, n56, n57, n58, n59, n60, n61, n62, n63, n64, n65, n66, n97, n99, n100, n103, n107, n111, n116, n117, n119, n126, n200, n359, n360, n999, n1000, n9999, n65521, n99999, n1000000, io_neg, io_add, io_sub, io_mul, io_lt, io_le, io_eq, io_nat, Int.toNat_natCast, toNat_c1, ifg, obs, obm, oob, bi0, bi1, bi01, ob_ite, bind_ite, ↓reduceIte, eq_self, c_isRule, c_isBeat, c_isMinute, c_isTold, m_isRule, m_in, i64_toInt, io_toInt, j0, j1, j2, j3, j9, j30, j32, j48, j57, j59, j60, j99, j126, j359, j9999, decide_eq_false_iff_not, decide_eq_true_eq, p_between, c_isTrain hC.2.1.1.1 hA.1, m_isTrain hM.2.1.1.1 hA.1]
  by_cases c : 0 ≤ x ∧ x ≤ 3
  · have c' := not_not_intro c
    rw [if_neg c', if_neg c']
    by_cases c1 : 0 ≤ y ∧ y ≤ (B 0 0 : Int) - 1
    · have c1' := not_not_intro c1
      rw [if_neg c1', if_neg c1']
      by_cases c2 : 1 ≤ w ∧ w ≤ 9
      · have c2' := not_not_intro c2
        rw [if_neg c2', if_neg c2']
        obtain ⟨r, rfl⟩ : ∃ r : Nat, x = (r : Int) := ⟨x.toNat, by omega⟩
        obtain ⟨i, rfl⟩ : ∃ i : Nat, y = (i : Int) := ⟨y.toNat, by omega⟩
        obtain ⟨d, rfl⟩ : ∃ d : Nat, w = (d : Int) := ⟨w.toNat, by omega⟩
        have hi : i < 6 := by omega
        have hd := hA.2.1.1 i hi
        have hm1 := IM_n hi hM
        simp (disch := omega) only [n0, n1, n2, n3, n4, n5, n6, n7, n8, n9, n10, n11, n12, n13, n14, n15, n16, n17, n18, n19, n20, n21, n22, n23, n24, n25, n26, n27, n28, n29, n30, n31, n32, n33, n34, n35, n36, n37, n38, n39, n40, n41, n42, n43, n44, n45, n46, n47, n48, n49, n50, n51, n52, n53, n54, n55, n56, n57, n58, n59, n60, n61, n62, n63, n64, n65, n66, n97, n99, n100, n103, n107, n111, n116, n117, n119, n126, n200, n359, n360, n999, n1000, n9999, n65521, n99999, n1000000, io_neg, io_add, io_sub, io_mul, io_lt, io_le, io_eq, io_nat, Int.toNat_natCast, toNat_c1, ifg, obs, obm, oob, bi0, bi1, bi01, ob_ite, bind_ite, ↓reduceIte, eq_self, p_lateOf, hC.2.2.2.1.2.1 i hi, hm1]
        by_cases c3 : (D i : Int) + d ≤ 30
        · rw [if_pos c3, if_pos c3]
          obtain ⟨σ1, e1, hC1⟩ := c_costIf hA hC (r := r) (i := i) (v := D i + d) (by omega) hi (by omega)
          obtain ⟨σ2, e2, hC2, hok⟩ := c_hourBy hA hC1 (r := r) (by omega)
          obtain ⟨-, -, g3, hM3⟩ := m_hour hA hM (rule := (r : Int)) (n := 0) (by omega) (by omega) (by omega) (by omega)
          have hm3 := IM_n hi hM3
          have hM4 := IM_late (v := D i + d) hi hM3
          have hA' : AB B (du D i (D i + d)) l X m U m2 V q Z Y := ⟨hA.1, DB_du hA.2.1 hi (by omega), hA.2.2⟩
          obtain ⟨-, -, g5, hM5⟩ := m_hour hA' hM4 (rule := (r : Int)) (n := 0) (by omega) (by omega) (by omega) (by omega)
          have hm5 := IM_n hi hM5
          rw [du_s] at hm5
          have hM6 := IM_late (v := D i) hi hM5
          rw [du_du] at hM6
          rw [show ((D i : Int) + d) = ((D i + d : Nat) : Int) by omega]
          simp (disch := omega) only [n0, n1, n2, n3, n4, n5, n6, n7, n8, n9, n10, n11, n12, n13, n14, n15, n16, n17, n18, n19, n20, n21, n22, n23, n24, n25, n26, n27, n28, n29, n30, n31, n32, n33, n34, n35, n36, n37, n38, n39, n40, n41, n42, n43, n44, n45, n46, n47, n48, n49, n50, n51, n52, n53, n54, n55, n56, n57, n58, n59, n60, n61, n62, n63, n64, n65, n66, n97, n99, n100, n103, n107, n111, n116, n117, n119, n126, n200, n359, n360, n999, n1000, n9999, n65521, n99999, n1000000, io_neg, io_add, io_sub, io_mul, io_lt, io_le, io_eq, io_nat, Int.toNat_natCast, toNat_c1, ifg, obs, obm, oob, bi0, bi1, bi01, ob_ite, bind_ite, ↓reduceIte, eq_self, e1, e2, hl, c_total hA (show r < 4 by omega) hok, g3, hm3]
          rw [show ((D i : Int) + d) = ((D i + d : Nat) : Int) by omega, g5, oob, hm5]
          simp (disch := omega) only [n0, n1, n2, n3, n4, n5, n6, n7, n8, n9, n10, n11, n12, n13, n14, n15, n16, n17, n18, n19, n20, n21, n22, n23, n24, n25, n26, n27, n28, n29, n30, n31, n32, n33, n34, n35, n36, n37, n38, n39, n40, n41, n42, n43, n44, n45, n46, n47, n48, n49, n50, n51, n52, n53, n54, n55, n56, n57, n58, n59, n60, n61, n62, n63, n64, n65, n66, n97, n99, n100, n103, n107, n111, n116, n117, n119, n126, n200, n359, n360, n999, n1000, n9999, n65521, n99999, n1000000, io_neg, io_add, io_sub, io_mul, io_lt, io_le, io_eq, io_nat, Int.toNat_natCast, toNat_c1, ifg, obs, obm, oob, bi0, bi1, bi01, ob_ite, bind_ite, ↓reduceIte, eq_self]
          rw [show ((D i + d : Nat) : Int) - d = (D i : Int) by omega]
          exact ⟨_, _, _, rfl, rfl, B, D, l, X, m, U, m2, V, q, Z, Y, hA, hC2, hM6⟩
        · rw [if_neg c3, if_neg c3]
          exact Step.same hI rfl rfl
      · rw [if_pos c2, if_pos c2]
        exact Step.same hI rfl rfl
    · rw [if_pos c1, if_pos c1]
      exact Step.same hI rfl rfl
  · rw [if_pos c, if_pos c]
    exact Step.same hI rfl rfl
end Trial
