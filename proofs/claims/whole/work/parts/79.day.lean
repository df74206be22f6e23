/-! CALLS: day -/
def dv (z i : Int) : Int := (7919 * z + 6151 * i + 1) * (7919 * z + 6151 * i + 1) % 65521 % 6
def drq (x0 x1 : Int32) : Int64 := (((7919 : Int64) * x0.toInt64) + ((6151 : Int64) * x1.toInt64)) + (1 : Int64)
def drm (w : Int64) : Int64 := w - w / (65521 : Int64) * (65521 : Int64)
def drf (w : Int64) : Int32 := (w - w / (6 : Int64) * (6 : Int64)).toInt32
theorem k64 {a : Int} (h1 : -2147483648 ≤ a) (h2 : a < 2147483648) : (io a).toInt64 = Int64.ofInt a := by
  rw [← Int64.ofInt_int32ToInt, io_toInt h1 h2]
theorem dm64 {a b : Int} (a0 : 0 ≤ a) (a1 : a ≤ 9000000000000000000) (b0 : 0 < b) (b1 : b ≤ 1000000) : Int64.ofInt a - Int64.ofInt a / Int64.ofInt b * Int64.ofInt b = Int64.ofInt (a % b) := by
  rw [← Int64.ofInt_tdiv (show Int64.minValue.toInt ≤ a from Int.le_trans (by decide) a0) (Int.le_trans a1 (by decide)) (show Int64.minValue.toInt ≤ b from Int.le_trans (by decide) (Int.le_of_lt b0)) (Int.le_trans b1 (by decide)), Int.tdiv_eq_ediv_of_nonneg a0, ← Int64.ofInt_mul, ← Int64.ofInt_sub, Int.emod_def, Int.mul_comm]
theorem dr_val {z i : Int} (z0 : 0 ≤ z) (z1 : z ≤ 9999) (i0 : 0 ≤ i) (i1 : i < 6) : drf (drm (drq (io z) (io i) * drq (io z) (io i))) = io (dv z i) := by
  have hq : drq (io z) (io i) = Int64.ofInt (7919 * z + 6151 * i + 1) := by
    unfold drq
    rw [k64 (by omega) (by omega), k64 (by omega) (by omega), show (7919 : Int64) = Int64.ofInt 7919 from rfl, show (6151 : Int64) = Int64.ofInt 6151 from rfl, show (1 : Int64) = Int64.ofInt 1 from rfl, ← Int64.ofInt_mul, ← Int64.ofInt_mul, ← Int64.ofInt_add, ← Int64.ofInt_add]
  have hb : 0 ≤ 7919 * z + 6151 * i + 1 ∧ 7919 * z + 6151 * i + 1 ≤ 80000000 := by omega
  unfold dv
  rw [hq, ← Int64.ofInt_mul]
  generalize 7919 * z + 6151 * i + 1 = Q at hb
  have hQ : 0 ≤ Q * Q ∧ Q * Q ≤ 9000000000000000000 := ⟨Int.mul_nonneg hb.1 hb.1, Int.le_trans (Int.mul_le_mul hb.2 hb.2 hb.1 (by decide)) (by decide)⟩
  unfold drf drm
  rw [show (65521 : Int64) = Int64.ofInt 65521 from rfl, show (6 : Int64) = Int64.ofInt 6 from rfl, dm64 hQ.1 hQ.2 (by decide) (by decide), dm64 (Int.emod_nonneg _ (by decide)) (by have := Int.emod_lt_of_pos (Q * Q) (show (0 : Int) < 65521 by decide); omega) (by decide) (by decide), Int64.toInt32_ofInt]
  rfl
theorem dr_eq {z i : Int} (z0 : 0 ≤ z) (z1 : z ≤ 9999) (i0 : 0 ≤ i) (i1 : i < 6) : (((((((7919 : Int64) * (io z).toInt64) + ((6151 : Int64) * (io i).toInt64)) + (1 : Int64)) * ((((7919 : Int64) * (io z).toInt64) + ((6151 : Int64) * (io i).toInt64)) + (1 : Int64))) - (((((7919 : Int64) * (io z).toInt64) + ((6151 : Int64) * (io i).toInt64)) + (1 : Int64)) * ((((7919 : Int64) * (io z).toInt64) + ((6151 : Int64) * (io i).toInt64)) + (1 : Int64))) / (65521 : Int64) * (65521 : Int64)) - ((((((7919 : Int64) * (io z).toInt64) + ((6151 : Int64) * (io i).toInt64)) + (1 : Int64)) * ((((7919 : Int64) * (io z).toInt64) + ((6151 : Int64) * (io i).toInt64)) + (1 : Int64))) - (((((7919 : Int64) * (io z).toInt64) + ((6151 : Int64) * (io i).toInt64)) + (1 : Int64)) * ((((7919 : Int64) * (io z).toInt64) + ((6151 : Int64) * (io i).toInt64)) + (1 : Int64))) / (65521 : Int64) * (65521 : Int64)) / (6 : Int64) * (6 : Int64)).toInt32 = io (dv z i) := dr_val z0 z1 i0 i1
theorem dv_b (z i : Int) : 0 ≤ dv z i ∧ dv z i ≤ 5 := by
  unfold dv
  omega
def dvN (z : Int) (i : Nat) : Nat := (dv z i).toNat
theorem dvN_e (z : Int) (i : Nat) : ((dvN z i : Nat) : Int) = dv z i := by
  have := dv_b z i
  unfold dvN
  omega
/-- the stand with the first k trains as drawn -/
def dk (z : Int) (D : Nat → Nat) (k : Nat) : Nat → Nat := fun j => if j < k then dvN z j else D j
theorem dk_0 (z : Int) (D : Nat → Nat) : dk z D 0 = D := by funext j; simp [dk]
theorem dk_s (z : Int) (D : Nat → Nat) (k : Nat) : du (dk z D k) k (dvN z k) = dk z D (k + 1) := by
  funext j
  unfold du dk
  by_cases e : j = k
  · subst e; rw [if_pos rfl, if_pos (by omega)]
  · rw [if_neg e]
    by_cases c : j < k
    · rw [if_pos c, if_pos (by omega)]
    · rw [if_neg c, if_neg (by omega)]
/-- and the first k of them as they were again -/
def ek (z : Int) (D : Nat → Nat) (k : Nat) : Nat → Nat := fun j => if j < k then D j else dk z D 6 j
theorem ek_0 (z : Int) (D : Nat → Nat) : ek z D 0 = dk z D 6 := by funext j; simp [ek]
theorem ek_6 (z : Int) (D : Nat → Nat) : ek z D 6 = D := by
  funext j
  unfold ek dk
  split
  · rfl
  · rfl
theorem ek_s (z : Int) (D : Nat → Nat) (k : Nat) : du (ek z D k) k (D k) = ek z D (k + 1) := by
  funext j
  unfold du ek
  by_cases e : j = k
  · subst e; rw [if_pos rfl, if_pos (by omega)]
  · rw [if_neg e]
    by_cases c : j < k
    · rw [if_pos c, if_pos (by omega)]
    · rw [if_neg c, if_neg (by omega)]
section Day
variable {σ σ' σc σm : Mem} {B P : PS} {D D' : Nat → Nat} {l l' : Nat} {X X' : Nat → Nat} {m : Nat} {U : PS} {m2 : Nat} {V : PS} {q q' : Nat} {Z Y Z' Y' : Nat → Nat}
theorem DB_dk (h : DB D) (z : Int) : DB (dk z D 6) := by
  obtain ⟨h1, h2, h3⟩ := h
  refine ⟨fun i hi => ?_, ?_, ?_⟩
  · unfold dk
    rw [if_pos hi]
    have := dv_b z i
    unfold dvN
    omega
  · exact h2
  · intro k hk
    have e1 : dk z D 6 (7 + k) = D (7 + k) := by unfold dk; rw [if_neg (by omega)]
    have e2 : dk z D 6 (13 + k) = D (13 + k) := by unfold dk; rw [if_neg (by omega)]
    rw [e1, e2]
    exact h3 k hk
theorem PC_of2 {st : Nat} (hB : BB B) (hM : CB σ B) (hD : SD σ st D) (h1 : ∀ i, i < B 0 0 → D' i = D i) (h2 : ∀ k, 6 ≤ k → D' k = D k) : PC σ st (pm B D') := by
  have h6 := hB.1.2.1
  obtain ⟨⟨a1, a2, a3, a4, a5, a6, a7⟩, b, c, d, e, -⟩ := hM
  obtain ⟨d0, d1, d3⟩ := hD
  refine ⟨⟨a1, a2, ?_, a3, a4, a5, a6⟩, b, c, fun i hi => ?_, fun k hk => ?_, d⟩
  · show _ = io ((D' 6 : Nat) : Int)
    rw [h2 6 (by omega)]; exact d0.2
  · have hi0 : i < B 0 0 := hi
    have hi : i < 6 := Nat.lt_of_lt_of_le hi h6
    rw [d1 i hi]
    show _ = io ((if i < 6 then D' i else 0 : Nat) : Int)
    rw [if_pos hi, h1 i hi0]
  · have hk : k < D' 6 := hk
    show _ = io ((if k < D' 6 then D' (7 + k) else 0 : Nat) : Int) ∧ _ = io ((if k < D' 6 then D' (13 + k) else 0 : Nat) : Int)
    rw [if_pos hk, if_pos hk, h2 (7 + k) (by omega), h2 (13 + k) (by omega)]
    rw [h2 6 (by omega)] at hk
    exact d3 k hk
theorem c_allStops {h : Nat} {S : SS} (hs : ∀ i, i < 6 → σ (h + 5) i = io (S 2 i)) : f1_allStops σ h = some (io (sumN 6 (fun i => S 2 i))) := by
  unfold f1_allStops
  have key := (fold_loop (fun n a i => f1_allStops_b4 σ h n (io a) i) (fun a => some (io a)) 6 (fun i a => a + S 2 i) (fun _ _ => True) (a0 := 0) trivial (fun _ _ _ _ => trivial) (fun n a _ => ?_) (fun n i a hi _ => ?_) 1000 (by omega)).1
  · refine Eq.trans key ?_
    rw [foldN_sum, Int.zero_add]
  · show f1_allStops_b4 σ h (n + 1) _ _ = _
    rw [f1_allStops_b4, if_pos (by decide)]
  · show f1_allStops_b4 σ h (n + 1) _ _ = f1_allStops_b4 σ h n _ _
    rw [f1_allStops_b4, if_neg (by simp (disch := omega) only [n0, n1, n2, n3, n4, n5, n6, n7, n8, n9, n10, n11, n12, n13, n14, n15, n16, n17, n18, n19, n20, n21, n22, n23, n24, n25, n26, n27, n28, n29, n30, n31, n32, n33, n34, n35, n36, n37, n38, n39, n40, n41, n42, n43, n44, n45, n46, n47, n48, n49, n50, n51, n52, n53, n54, n55, n56, n57, n58, n59, n60, n61, n62, n63, n64, n65, n66, n97, n99, n100, n103, n107, n111, n116, n117, n119, n126, n200, n359, n360, n999, n1000, n9999, n65521, n99999, n1000000, io_neg, io_add, io_sub, io_mul, io_lt, io_le, io_eq, io_nat, Int.toNat_natCast, toNat_c1, ifg, obs, obm, oob, bi0, bi1, bi01]; omega)]
    simp (disch := omega) only [n0, n1, n2, n3, n4, n5, n6, n7, n8, n9, n10, n11, n12, n13, n14, n15, n16, n17, n18, n19, n20, n21, n22, n23, n24, n25, n26, n27, n28, n29, n30, n31, n32, n33, n34, n35, n36, n37, n38, n39, n40, n41, n42, n43, n44, n45, n46, n47, n48, n49, n50, n51, n52, n53, n54, n55, n56, n57, n58, n59, n60, n61, n62, n63, n64, n65, n66, n97, n99, n100, n103, n107, n111, n116, n117, n119, n126, n200, n359, n360, n999, n1000, n9999, n65521, n99999, n1000000, io_neg, io_add, io_sub, io_mul, io_lt, io_le, io_eq, io_nat, Int.toNat_natCast, toNat_c1, ifg, obs, obm, oob, bi0, bi1, bi01, ob_ite, bind_ite, ↓reduceIte, eq_self, hs i hi]
theorem c_day (hA : AB B D l X m U m2 V q Z Y) (H : IC σ B D l X m U m2 V q Z Y) {r : Nat} (hr : r < 4) {z w : Int} (z0 : 0 ≤ z) (z1 : z ≤ 9999) (w0 : 0 ≤ w) (w1 : w ≤ 1) : ∃ σ1 σ', f4_copy σ 36 31 = some σ1 ∧ IC σ' B D l X m U m2 V q Z Y ∧ ∀ S0, ok2 S0 → f6_day_b43 1000 σ1 (io r) (io z) (io w) (io 0) = some (σ', if w = 0 then io (cst (pm B (dk z D 6)) r 0) else io (sumN 6 (fun i => chour (pm B (dk z D 6)) r 0 S0 2 i))) := by
  have hb := hA.1.1
  have hPB := PB_pm hA.1 (DB_dk hA.2.1 z)
  obtain ⟨σ1, e1, s1, fr1⟩ := c_copy (h := 36) (o := 31) hA.2.1.2.1 H.2.2.2.1 H.2.2.2.2.1 (by omega)
  have hcb : ∀ t : Mem, (∀ j, j ≠ 40 → t j = σ1 j) → CB t B := fun t ht => CB_fr (fun j q1 q2 => by rw [ht j (by omega), fr1 j (by omega)]) H.2.1
  have key := lock_loop (fun n (t : Mem) i => f6_day_b43 n t (io r) (io z) (io w) i) (fun t => Option.bind (f1_run t 74 (io r) (io 0) (io 1000000)) fun σ3 => if io w = 0 then Option.bind (f1_total σ3 74) fun r5 => some (σ3, r5) else Option.bind (f1_allStops σ3 74) fun r5 => some (σ3, r5)) (B 0 0) (fun _ (a : Unit) => a) (fun k _ t => SD t 36 (dk z D k) ∧ ∀ j, j ≠ 40 → t j = σ1 j) (a0 := ()) (t0 := σ1) ⟨by rw [dk_0]; exact s1, fun _ _ => rfl⟩ (fun n a t hI => ?_) (fun n i a t hi hI => ?_) 1000 (by omega)
  · obtain ⟨t, e, k1, k2⟩ := key
    have hpc := PC_of2 (D' := dk z D 6) hA.1 (hcb t k2) k1 (fun i hi => by unfold dk; rw [if_pos (by omega), if_pos hi]) (fun k hk => by unfold dk; rw [if_neg (by omega), if_neg (by omega)])
    have hlt := (cst_eq (rule := (r : Int)) (n := 0) hPB (by omega) (by omega) (by omega) (by omega)).1
    obtain ⟨σ3, x, fr, t10, ⟨y, hy, -, -, g1, -⟩, hok⟩ := c_run2 (h := 74) (st := 36) (rule := (r : Int)) (n := 0) (e := 1000000) hPB hpc (by omega) (by omega) rfl (by omega) (by omega) (by omega) (by omega) (by omega) (by omega)
    refine ⟨σ1, σ3, e1, IC_trial hA.2.2.2.1.1 hA.2.2.2.2.1.1 H (fun j q1 q2 => ?_) ?_, fun S0 hs => ?_⟩
    · rw [fr j (by omega), k2 j (by omega), fr1 j (by omega)]
    · rw [fr 37 (by omega), k2 37 (by omega)]
      exact s1.1.1
    · refine e.trans ?_
      rw [x, obs]
      unfold f1_total
      rw [hy, g1 (by omega), c_allStops (S := chour (pm B (dk z D 6)) r 0 S0) (fun i hi => ((hok (by omega) S0 hs).2.2.1 i hi).1), obs, obs]
      simp (disch := omega) only [n0, n1, n2, n3, n4, n5, n6, n7, n8, n9, n10, n11, n12, n13, n14, n15, n16, n17, n18, n19, n20, n21, n22, n23, n24, n25, n26, n27, n28, n29, n30, n31, n32, n33, n34, n35, n36, n37, n38, n39, n40, n41, n42, n43, n44, n45, n46, n47, n48, n49, n50, n51, n52, n53, n54, n55, n56, n57, n58, n59, n60, n61, n62, n63, n64, n65, n66, n97, n99, n100, n103, n107, n111, n116, n117, n119, n126, n200, n359, n360, n999, n1000, n9999, n65521, n99999, n1000000, io_neg, io_add, io_sub, io_mul, io_lt, io_le, io_eq, io_nat, Int.toNat_natCast, toNat_c1, ifg, obs, obm, oob, bi0, bi1, bi01, ob_ite, bind_ite, ↓reduceIte, eq_self]
      by_cases c : w = 0
      · rw [if_pos c, if_pos c]
      · rw [if_neg c, if_neg c]
  · show f6_day_b43 (n + 1) _ _ _ _ _ = _
    rw [f6_day_b43, f2_size, obs, (hcb t hI.2).1.1, if_pos (Int32.le_refl _), n1000000]
    rfl
  · show ∃ t', f6_day_b43 (n + 1) _ _ _ _ _ = f6_day_b43 n _ _ _ _ _ ∧ _
    obtain ⟨k1, k2⟩ := hI
    rw [f6_day_b43, f2_size, obs, (hcb t k2).1.1, if_neg (by simp (disch := omega) only [n0, n1, n2, n3, n4, n5, n6, n7, n8, n9, n10, n11, n12, n13, n14, n15, n16, n17, n18, n19, n20, n21, n22, n23, n24, n25, n26, n27, n28, n29, n30, n31, n32, n33, n34, n35, n36, n37, n38, n39, n40, n41, n42, n43, n44, n45, n46, n47, n48, n49, n50, n51, n52, n53, n54, n55, n56, n57, n58, n59, n60, n61, n62, n63, n64, n65, n66, n97, n99, n100, n103, n107, n111, n116, n117, n119, n126, n200, n359, n360, n999, n1000, n9999, n65521, n99999, n1000000, io_neg, io_add, io_sub, io_mul, io_lt, io_le, io_eq, io_nat, Int.toNat_natCast, toNat_c1, ifg, obs, obm, oob, bi0, bi1, bi01]; omega)]
    unfold f6_drawnLateness
    rw [dr_eq z0 z1 (by omega) (by omega), obs, c_makeLate (by omega), obs, n1, io_add, ← dvN_e]
    refine ⟨_, rfl, ?_, fun j hj => ?_⟩
    · rw [← dk_s]
      exact SD_late (by omega) k1
    · rw [mu_j _ _ _ hj]; exact k2 j hj
theorem IM_17b (H : IM σ B D l X m U m2 V q Z Y) (fr : ∀ j, j ≠ 17 → j < 27 → σ' j = σ j) (h : RD σ' 17 0 D') : IM σ' B D' l X m U m2 V q Z Y := by
  obtain ⟨h1, h2, h3, h4, h5, h6⟩ := H
  exact ⟨MT_fr (by rw [fr 0 (by omega) (by omega)]) (fr 2 (by omega) (by omega)) h1, MB_fr (fun j _ _ => fr j (by omega) (by omega)) h2, h, MU_fr (by rw [fr 0 (by omega) (by omega)]) (fr 18 (by omega) (by omega)) h4, MK_fr (by rw [fr 0 (by omega) (by omega)]) (fr 20 (by omega) (by omega)) h5, MS_fr (by rw [fr 0 (by omega) (by omega)]) (fr 23 (by omega) (by omega)) (fr 24 (by omega) (by omega)) h6⟩
theorem m_day (hA : AB B D l X m U m2 V q Z Y) (H : IM σ B D l X m U m2 V q Z Y) {r : Nat} (hr : r < 4) {z w : Int} (z0 : 0 ≤ z) (z1 : z ≤ 9999) (w0 : 0 ≤ w) (w1 : w ≤ 1) : ∃ σ' S0, ok2 S0 ∧ IM σ' B D l X m U m2 V q Z Y ∧ f7_day_b34 1000 σ (io r) (io z) (io w) (io 0) = some (σ', if w = 0 then io (cst (pm B (dk z D 6)) r 0) else io (sumN 6 (fun i => chour (pm B (dk z D 6)) r 0 S0 2 i))) := by
  have hb := hA.1.1
  have key := lock_loop (fun n (t : Mem) i => f7_day_b34 n t (io r) (io z) (io w) i) (fun t => ob (f7_costBy t (io r) (io 0)) fun σ2 r2 => f7_day_b114 1000 σ2 (io w) r2 (io 0) (io 0)) 6 (fun _ (a : Unit) => a) (fun k _ t => RD t 17 0 (dk z D k) ∧ (∀ j, j < k → t 38 j = io (D j)) ∧ ∀ j, j ≠ 17 → j ≠ 38 → t j = σ j) (a0 := ()) (t0 := σ) ⟨by rw [dk_0]; exact H.2.2.1, fun j hj => by omega, fun _ _ _ => rfl⟩ (fun n a t hI => ?_) (fun n i a t hi hI => ?_) 1000 (by omega)
  · obtain ⟨t, e, k1, k2, k3⟩ := key
    have hM1 : IM t B (dk z D 6) l X m U m2 V q Z Y := IM_17b H (fun j q1 q2 => k3 j q1 (by omega)) k1
    have hA' : AB B (dk z D 6) l X m U m2 V q Z Y := ⟨hA.1, DB_dk hA.2.1 z, hA.2.2⟩
    obtain ⟨-, -, g3, hM2⟩ := m_hour hA' hM1 (rule := (r : Int)) (n := 0) (by omega) (by omega) (by omega) (by omega)
    have h38 : ∀ j, j < 6 → ov t (chour (pm B (dk z D 6)) r 0 (vw t)) 38 j = io (D j) := fun j hj => by rw [ov_o _ _ (by omega) (by omega)]; exact k2 j hj
    have key2 := lock_loop (fun n (p : Mem × Int) i => f7_day_b114 n p.1 (io w) (io (cst (pm B (dk z D 6)) r 0)) (io p.2) i) (fun p => if w = 0 then some (p.1, io (cst (pm B (dk z D 6)) r 0)) else some (p.1, io p.2)) 6 (fun i a => a + chour (pm B (dk z D 6)) r 0 (vw t) 2 i) (fun k a p => p.2 = a ∧ RD p.1 17 0 (ek z D k) ∧ ∀ j, j ≠ 17 → p.1 j = ov t (chour (pm B (dk z D 6)) r 0 (vw t)) j) (a0 := 0) (t0 := (ov t (chour (pm B (dk z D 6)) r 0 (vw t)), 0)) ⟨rfl, by rw [ek_0]; exact hM2.2.2.1, fun _ _ => rfl⟩ (fun n a p hI => ?_) (fun n i a p hi hI => ?_) 1000 (by omega)
    · obtain ⟨p, f, l1, l2, l3⟩ := key2
      rw [ek_6] at l2
      refine ⟨p.1, vw t, ok2_vw t, IM_17b hM2 (fun j q1 q2 => l3 j q1) l2, e.trans ?_⟩
      rw [g3, oob]
      refine Eq.trans f ?_
      rw [l1, foldN_sum, Int.zero_add]
      by_cases c : w = 0
      · rw [if_pos c, if_pos c]
      · rw [if_neg c, if_neg c]
    · show f7_day_b114 (n + 1) _ _ _ _ _ = _
      rw [f7_day_b114, if_pos (by decide)]
      simp (disch := omega) only [n0, n1, n2, n3, n4, n5, n6, n7, n8, n9, n10, n11, n12, n13, n14, n15, n16, n17, n18, n19, n20, n21, n22, n23, n24, n25, n26, n27, n28, n29, n30, n31, n32, n33, n34, n35, n36, n37, n38, n39, n40, n41, n42, n43, n44, n45, n46, n47, n48, n49, n50, n51, n52, n53, n54, n55, n56, n57, n58, n59, n60, n61, n62, n63, n64, n65, n66, n97, n99, n100, n103, n107, n111, n116, n117, n119, n126, n200, n359, n360, n999, n1000, n9999, n65521, n99999, n1000000, io_neg, io_add, io_sub, io_mul, io_lt, io_le, io_eq, io_nat, Int.toNat_natCast, toNat_c1, ifg, obs, obm, oob, bi0, bi1, bi01, ob_ite, bind_ite, ↓reduceIte, eq_self]
    · show ∃ p', f7_day_b114 (n + 1) _ _ _ _ _ = f7_day_b114 n _ _ _ _ _ ∧ _
      obtain ⟨l1, l2, l3⟩ := hI
      rw [f7_day_b114, if_neg (by simp (disch := omega) only [n0, n1, n2, n3, n4, n5, n6, n7, n8, n9, n10, n11, n12, n13, n14, n15, n16, n17, n18, n19, n20, n21, n22, n23, n24, n25, n26, n27, n28, n29, n30, n31, n32, n33, n34, n35, n36, n37, n38, n39, n40, n41, n42, n43, n44, n45, n46, n47, n48, n49, n50, n51, n52, n53, n54, n55, n56, n57, n58, n59, n60, n61, n62, n63, n64, n65, n66, n97, n99, n100, n103, n107, n111, n116, n117, n119, n126, n200, n359, n360, n999, n1000, n9999, n65521, n99999, n1000000, io_neg, io_add, io_sub, io_mul, io_lt, io_le, io_eq, io_nat, Int.toNat_natCast, toNat_c1, ifg, obs, obm, oob, bi0, bi1, bi01]; omega)]
      simp (disch := omega) only [n0, n1, n2, n3, n4, n5, n6, n7, n8, n9, n10, n11, n12, n13, n14, n15, n16, n17, n18, n19, n20, n21, n22, n23, n24, n25, n26, n27, n28, n29, n30, n31, n32, n33, n34, n35, n36, n37, n38, n39, n40, n41, n42, n43, n44, n45, n46, n47, n48, n49, n50, n51, n52, n53, n54, n55, n56, n57, n58, n59, n60, n61, n62, n63, n64, n65, n66, n97, n99, n100, n103, n107, n111, n116, n117, n119, n126, n200, n359, n360, n999, n1000, n9999, n65521, n99999, n1000000, io_neg, io_add, io_sub, io_mul, io_lt, io_le, io_eq, io_nat, Int.toNat_natCast, toNat_c1, ifg, obs, obm, oob, bi0, bi1, bi01, ob_ite, bind_ite, ↓reduceIte, eq_self, mu_s, mu_k, mu_j, l3, h38, ov29]
      refine ⟨(mu p.1 17 i (io (D i)), p.2 + chour (pm B (dk z D 6)) r 0 (vw t) 2 i), rfl, by rw [l1], ?_, fun j hj => ?_⟩
      · rw [← ek_s]
        exact RD_late hi l2
      · show mu p.1 17 i (io (D i)) j = _
        rw [mu_j _ _ _ hj]; exact l3 j hj
  · show f7_day_b34 (n + 1) _ _ _ _ _ = _
    rw [f7_day_b34, if_pos (by decide)]
    rfl
  · show ∃ t', f7_day_b34 (n + 1) _ _ _ _ _ = f7_day_b34 n _ _ _ _ _ ∧ _
    obtain ⟨k1, k2, k3⟩ := hI
    have h17 : t 17 i = io (D i) := by
      have := k1.1 i hi
      rw [Nat.zero_add] at this
      rw [this]
      unfold dk
      rw [if_neg (by omega)]
    rw [f7_day_b34, if_neg (by simp (disch := omega) only [n0, n1, n2, n3, n4, n5, n6, n7, n8, n9, n10, n11, n12, n13, n14, n15, n16, n17, n18, n19, n20, n21, n22, n23, n24, n25, n26, n27, n28, n29, n30, n31, n32, n33, n34, n35, n36, n37, n38, n39, n40, n41, n42, n43, n44, n45, n46, n47, n48, n49, n50, n51, n52, n53, n54, n55, n56, n57, n58, n59, n60, n61, n62, n63, n64, n65, n66, n97, n99, n100, n103, n107, n111, n116, n117, n119, n126, n200, n359, n360, n999, n1000, n9999, n65521, n99999, n1000000, io_neg, io_add, io_sub, io_mul, io_lt, io_le, io_eq, io_nat, Int.toNat_natCast, toNat_c1, ifg, obs, obm, oob, bi0, bi1, bi01]; omega), dr_eq z0 z1 (by omega) (by omega)]
    simp (disch := omega) only [n0, n1, n2, n3, n4, n5, n6, n7, n8, n9, n10, n11, n12, n13, n14, n15, n16, n17, n18, n19, n20, n21, n22, n23, n24, n25, n26, n27, n28, n29, n30, n31, n32, n33, n34, n35, n36, n37, n38, n39, n40, n41, n42, n43, n44, n45, n46, n47, n48, n49, n50, n51, n52, n53, n54, n55, n56, n57, n58, n59, n60, n61, n62, n63, n64, n65, n66, n97, n99, n100, n103, n107, n111, n116, n117, n119, n126, n200, n359, n360, n999, n1000, n9999, n65521, n99999, n1000000, io_neg, io_add, io_sub, io_mul, io_lt, io_le, io_eq, io_nat, Int.toNat_natCast, toNat_c1, ifg, obs, obm, oob, bi0, bi1, bi01, ob_ite, bind_ite, ↓reduceIte, eq_self, h17]
    rw [← dvN_e]
    refine ⟨_, rfl, ?_, fun j hj => ?_, fun j q1 q2 => ?_⟩
    · rw [← dk_s]
      exact RD_late hi (RD_fr (by rw [mu_j _ _ _ (by omega)]) k1)
    · rw [mu_j _ _ _ (by omega)]
      by_cases e : j = i
      · subst e; rw [mu_s]
      · rw [mu_k _ _ e]; exact k2 j (by omega)
    · rw [mu_j _ _ _ q1, mu_j _ _ _ q2]; exact k3 j q1 q2
theorem s_day (hI : Inv σc σm) (a b c : Int32) : Step (f6_day σc a b c) (f7_day σm a b c) := by
  have hI' := hI
  obtain ⟨B, D, l, X, m, U, m2, V, q, Z, Y, hA, hC, hM⟩ := hI'
  obtain ⟨x, rfl, x0, x1⟩ := arg a
  obtain ⟨y, rfl, y0, y1⟩ := arg b
  obtain ⟨w, rfl, w0, w1⟩ := arg c
  unfold f6_day f7_day
  simp (disch := omega) only [n0, n1, n2, n3, n4, n5, n6, n7, n8, n9, n10, n11, n12, n13, n14, n15, n16, n17, n18, n19, n20, n21, n22, n23, n24, n25, n26, n27, n28, n29, n30, n31, n32, n33, n34, n35, n36, n37, n38, n39, n40, n41, n42, n43, n44, n45, n46, n47, n48, n49, n50, n51, n52, n53, n54, n55, n56, n57, n58, n59, n60, n61, n62, n63, n64, n65, n66, n97, n99, n100, n103, n107, n111, n116, n117, n119, n126, n200, n359, n360, n999, n1000, n9999, n65521, n99999, n1000000, io_neg, io_add, io_sub, io_mul, io_lt, io_le, io_eq, io_nat, Int.toNat_natCast, toNat_c1, ifg, obs, obm, oob, bi0, bi1, bi01, ob_ite, bind_ite, ↓reduceIte, eq_self, c_isRule, c_isBeat, c_isMinute, c_isTold, m_isRule, m_in, i64_toInt, io_toInt, j0, j1, j2, j3, j9, j30, j32, j48, j57, j59, j60, j99, j126, j359, j9999, decide_eq_false_iff_not, decide_eq_true_eq, p_between]
  by_cases c : 0 ≤ x ∧ x ≤ 3
  · have c' := not_not_intro c
    rw [if_neg c', if_neg c']
    by_cases c1 : 0 ≤ y ∧ y ≤ 9999
    · have c1' := not_not_intro c1
      rw [if_neg c1', if_neg c1']
      by_cases c2 : 0 ≤ w ∧ w ≤ 1
      · have c2' := not_not_intro c2
        rw [if_neg c2', if_neg c2']
        obtain ⟨r, rfl⟩ : ∃ r : Nat, x = (r : Int) := ⟨x.toNat, by omega⟩
        obtain ⟨σ1, σ2, e1, h1, e2⟩ := c_day hA hC (r := r) (by omega) c1.1 c1.2 c2.1 c2.2
        obtain ⟨σ3, S0, hs, h3, e3⟩ := m_day hA hM (r := r) (by omega) c1.1 c1.2 c2.1 c2.2
        rw [e1, obs]
        exact ⟨_, _, _, e2 S0 hs, e3, B, D, l, X, m, U, m2, V, q, Z, Y, hA, h1, h3⟩
      · rw [if_pos c2, if_pos c2]
        exact Step.same hI rfl rfl
    · rw [if_pos c1, if_pos c1]
      exact Step.same hI rfl rfl
  · rw [if_pos c, if_pos c]
    exact Step.same hI rfl rfl
end Day
