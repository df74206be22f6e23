/-! CALLS: lead -/
def lcL (P : PS) : Nat → Int
  | 0 => 1000000
  | k + 1 => if cst P 4 (k : Int) < lcL P k then cst P 4 (k : Int) else lcL P k
def lcN (P : PS) : Nat → Int
  | 0 => 0
  | k + 1 => if cst P 4 (k : Int) < lcL P k then (k : Int) else lcN P k
section Lead
variable {σ σ' σc σm : Mem} {B P : PS} {D : Nat → Nat} {l l' : Nat} {X X' : Nat → Nat} {m : Nat} {U : PS} {m2 : Nat} {V : PS} {q q' : Nat} {Z Y Z' Y' : Nat → Nat}
theorem lc_ld (hB : PB P) (k : Nat) : lcL P (k + 1) = ldL P k ∧ lcN P (k + 1) = ldN P k := by
  induction k with
  | zero =>
    have h0 := (cst_eq (rule := 4) (n := 0) hB (by omega) (by omega) (by omega) (by omega)).1
    have hlt : cst P 4 ((0 : Nat) : Int) < 1000000 := by
      show cst P 4 0 < 1000000
      omega
    constructor
    · show (if cst P 4 ((0 : Nat) : Int) < 1000000 then _ else _) = _
      rw [if_pos hlt]
      rfl
    · show (if cst P 4 ((0 : Nat) : Int) < 1000000 then _ else _) = _
      rw [if_pos hlt]
      rfl
  | succ k ih =>
    constructor
    · rw [lcL, ih.1, ldL]
    · rw [lcN, ih.1, ih.2, ldN]
theorem lcL_b (hB : PB P) {k : Nat} (hk : k ≤ 100) : 0 ≤ lcL P k ∧ lcL P k ≤ 1000000 := by
  induction k with
  | zero => exact ⟨show (0 : Int) ≤ 1000000 by decide, show (1000000 : Int) ≤ 1000000 by decide⟩
  | succ k ih =>
    have := ih (by omega)
    have h0 := (cst_eq (rule := 4) (n := (k : Int)) hB (by omega) (by omega) (by omega) (by omega)).1
    rw [lcL]
    split <;> omega
theorem lcN_b {k : Nat} : 0 ≤ lcN P k ∧ lcN P k ≤ k := by
  induction k with
  | zero => exact ⟨show (0 : Int) ≤ 0 by decide, show (0 : Int) ≤ ((0 : Nat) : Int) by decide⟩
  | succ k ih =>
    rw [lcN]
    split <;> omega
theorem IC_lead (hm : m ≤ 8) (hm2 : m2 ≤ 2) (H : IC σ B D l X m U m2 V q Z Y) (fr : ∀ j, j ≠ 0 → ¬ (37 ≤ j ∧ j ≤ 40) → ¬ (74 ≤ j ∧ j ≤ 81) → σ' j = σ j) (h : σ' 37 2 = io 6) (hL : CL σ' (pm B D)) : IC σ' B D l X m U m2 V q Z Y := by
  obtain ⟨h1, h2, h3, h4, h5, h6, h7, h8, h9, h10⟩ := H
  exact ⟨CT_fr (by rw [fr 1 (by omega) (by omega) (by omega)]) (fr 2 (by omega) (by omega) (by omega)) h1, CB_fr (fun j _ _ => fr j (by omega) (by omega) (by omega)) h2, CD_fr (fun j _ _ => fr j (by omega) (by omega) (by omega)) h3, SD_fr (fun j _ _ => fr j (by omega) (by omega) (by omega)) h4, h, CH_fr (fun j _ _ => fr j (by omega) (by omega) (by omega)) h6, CP_fr rfl (fun j _ _ => fr j (by omega) (by omega) (by omega)) hm h7, CP_fr rfl (fun j _ _ => fr j (by omega) (by omega) (by omega)) hm2 h8, CS_fr (fun j _ _ => fr j (by omega) (by omega) (by omega)) h9, hL⟩
theorem c_findLead (hA : AB B D l X m U m2 V q Z Y) (H : IC σ B D l X m U m2 V q Z Y) : ∃ σ', f6_findLead σ = some σ' ∧ IC σ' B D l X m U m2 V q Z Y ∧ σ' 0 11 = io (ldN (pm B D) 99) ∧ σ' 0 12 = io (ldL (pm B D) 99) := by
  have hPB := PB_pm hA.1 hA.2.1
  obtain ⟨σ1, e1, s1, fr1⟩ := c_copy (h := 36) (o := 31) hA.2.1.2.1 H.2.2.2.1 H.2.2.2.2.1 (by omega)
  unfold f6_findLead
  rw [e1, obs, obm, obm, n0, n1000000]
  have key := lock_loop (fun n (t : Mem) i => f6_findLead_b24 n t i) (fun t => some (mu t 0 10 (io 1))) 100 (fun _ (a : Unit) => a) (fun k _ t => t 0 11 = io (lcN (pm B D) k) ∧ t 0 12 = io (lcL (pm B D) k) ∧ (∀ j, j ≠ 0 → ¬ (74 ≤ j ∧ j ≤ 81) → t j = σ1 j)) (a0 := ()) (t0 := mu (mu σ1 0 11 (io 0)) 0 12 (io 1000000)) ⟨by simp (disch := omega) only [mu_s, mu_k, mu_j]; rfl, by simp (disch := omega) only [mu_s, mu_k, mu_j]; rfl, fun j hj _ => by simp (disch := omega) only [mu_s, mu_k, mu_j]⟩ (fun n a t hI => ?_) (fun n i a t hi hI => ?_) 1000 (by omega)
  · obtain ⟨t, e, k1, k2, k3⟩ := key
    have hld := lc_ld hPB 99
    rw [hld.2] at k1
    rw [hld.1] at k2
    refine ⟨_, e, IC_lead hA.2.2.2.1.1 hA.2.2.2.2.1.1 H (fun j z0 z1 z2 => ?_) ?_ (Or.inr ⟨?_, ?_, ?_⟩), ?_, ?_⟩
    · rw [mu_j _ _ _ z0, k3 j z0 z2, fr1 j (by omega)]
    · rw [mu_j _ _ _ (by omega), k3 37 (by omega) (by omega)]
      exact s1.1.1
    · rw [mu_s]
    · rw [mu_k _ _ (by omega)]; exact k1
    · rw [mu_k _ _ (by omega)]; exact k2
    · rw [mu_k _ _ (by omega)]; exact k1
    · rw [mu_k _ _ (by omega)]; exact k2
  · show f6_findLead_b24 (n + 1) _ _ = _
    rw [f6_findLead_b24, if_pos (by decide), obm, n1]
  · show ∃ t', f6_findLead_b24 (n + 1) _ _ = f6_findLead_b24 n _ _ ∧ _
    obtain ⟨k1, k2, k3⟩ := hI
    have hlb := lcL_b hPB (k := i) (by omega)
    have hb : CB t B := CB_fr (fun j z1 z2 => by rw [k3 j (by omega) (by omega), fr1 j (by omega)]) H.2.1
    have hs : SD t 36 D := SD_fr (fun j z1 z2 => k3 j (by omega) (by omega)) s1
    obtain ⟨σ2, x, fr, t10, ⟨z, hz, z0, z1, g1, g2⟩, -⟩ := c_run2 (h := 74) (st := 36) (rule := 4) (n := (i : Int)) (e := lcL (pm B D) i) hPB (PC_of hA.1 hb hs) (by omega) (by omega) rfl (by omega) (by omega) (by omega) (by omega) hlb.1 hlb.2
    rw [f6_findLead_b24, if_neg (by simp (disch := omega) only [n0, n1, n2, n3, n4, n5, n6, n7, n8, n9, n10, n11, n12, n13, n14, n15, n16, n17, n18, n19, n20, n21, n22, n23, n24, n25, n26, n27, n28, n29, n30, n31, n32, n33, n34, n35, n36, n37, n38, n39, n40, n41, n42, n43, n44, n45, n46, n47, n48, n49, n50, n51, n52, n53, n54, n55, n56, n57, n58, n59, n60, n61, n62, n63, n64, n65, n66, n97, n99, n100, n103, n107, n111, n116, n117, n119, n126, n200, n359, n360, n999, n1000, n9999, n65521, n99999, n1000000, io_neg, io_add, io_sub, io_mul, io_lt, io_le, io_eq, io_nat, Int.toNat_natCast, toNat_c1, ifg, obs, obm, oob, bi0, bi1, bi01]; omega), k2, n4, x, obs]
    unfold f1_total
    rw [hz, obs, obs, fr 0 (by omega), k2, n1, io_add]
    by_cases c : cst (pm B D) 4 (i : Int) < lcL (pm B D) i
    · have hzc := g1 c
      rw [if_neg (by simp (disch := omega) only [n0, n1, n2, n3, n4, n5, n6, n7, n8, n9, n10, n11, n12, n13, n14, n15, n16, n17, n18, n19, n20, n21, n22, n23, n24, n25, n26, n27, n28, n29, n30, n31, n32, n33, n34, n35, n36, n37, n38, n39, n40, n41, n42, n43, n44, n45, n46, n47, n48, n49, n50, n51, n52, n53, n54, n55, n56, n57, n58, n59, n60, n61, n62, n63, n64, n65, n66, n97, n99, n100, n103, n107, n111, n116, n117, n119, n126, n200, n359, n360, n999, n1000, n9999, n65521, n99999, n1000000, io_neg, io_add, io_sub, io_mul, io_lt, io_le, io_eq, io_nat, Int.toNat_natCast, toNat_c1, ifg, obs, obm, oob, bi0, bi1, bi01]; omega), obm, obm]
      refine ⟨_, rfl, ?_, ?_, fun j z0 z1 => ?_⟩
      · rw [mu_s, lcN, if_pos c]
      · rw [mu_k _ _ (by omega), mu_s, lcL, if_pos c, hzc]
      · rw [mu_j _ _ _ z0, mu_j _ _ _ z0, fr j (by omega), k3 j z0 z1]
    · have hzc := g2 (by omega)
      rw [if_pos (by simp (disch := omega) only [n0, n1, n2, n3, n4, n5, n6, n7, n8, n9, n10, n11, n12, n13, n14, n15, n16, n17, n18, n19, n20, n21, n22, n23, n24, n25, n26, n27, n28, n29, n30, n31, n32, n33, n34, n35, n36, n37, n38, n39, n40, n41, n42, n43, n44, n45, n46, n47, n48, n49, n50, n51, n52, n53, n54, n55, n56, n57, n58, n59, n60, n61, n62, n63, n64, n65, n66, n97, n99, n100, n103, n107, n111, n116, n117, n119, n126, n200, n359, n360, n999, n1000, n9999, n65521, n99999, n1000000, io_neg, io_add, io_sub, io_mul, io_lt, io_le, io_eq, io_nat, Int.toNat_natCast, toNat_c1, ifg, obs, obm, oob, bi0, bi1, bi01]; omega)]
      refine ⟨σ2, rfl, ?_, ?_, fun j z0 z1 => ?_⟩
      · rw [fr 0 (by omega), lcN, if_neg c]; exact k1
      · rw [fr 0 (by omega), lcL, if_neg c]; exact k2
      · rw [fr j (by omega), k3 j z0 z1]
theorem m_lead (hA : AB B D l X m U m2 V q Z Y) {w : Int} (w0 : 0 ≤ w) (w1 : w ≤ 1) : ∀ k i n σ, i + k = 99 → k < n → IM σ B D l X m U m2 V q Z Y → ∃ σ', f7_lead_b24 n σ (io w) (io (ldN (pm B D) i)) (io (ldL (pm B D) i)) (io ((i + 1 : Nat) : Int)) = some (σ', if w = 0 then io (ldN (pm B D) 99) else io (ldL (pm B D) 99)) ∧ IM σ' B D l X m U m2 V q Z Y := by
  have hPB := PB_pm hA.1 hA.2.1
  intro k
  induction k with
  | zero =>
    intro i n σ hi hn hC
    obtain ⟨n, rfl⟩ : ∃ t, n = t + 1 := ⟨n - 1, by omega⟩
    have : i = 99 := by omega
    subst this
    rw [f7_lead_b24, if_pos (by decide)]
    by_cases c : w = 0
    · rw [if_pos c, if_pos (by rw [c]; rfl)]
      exact ⟨σ, rfl, hC⟩
    · rw [if_neg c, if_neg (by simp (disch := omega) only [n0, n1, n2, n3, n4, n5, n6, n7, n8, n9, n10, n11, n12, n13, n14, n15, n16, n17, n18, n19, n20, n21, n22, n23, n24, n25, n26, n27, n28, n29, n30, n31, n32, n33, n34, n35, n36, n37, n38, n39, n40, n41, n42, n43, n44, n45, n46, n47, n48, n49, n50, n51, n52, n53, n54, n55, n56, n57, n58, n59, n60, n61, n62, n63, n64, n65, n66, n97, n99, n100, n103, n107, n111, n116, n117, n119, n126, n200, n359, n360, n999, n1000, n9999, n65521, n99999, n1000000, io_neg, io_add, io_sub, io_mul, io_lt, io_le, io_eq, io_nat, Int.toNat_natCast, toNat_c1, ifg, obs, obm, oob, bi0, bi1, bi01]; exact c)]
      exact ⟨σ, rfl, hC⟩
  | succ k ih =>
    intro i n σ hi hn hC
    obtain ⟨n, rfl⟩ : ∃ t, n = t + 1 := ⟨n - 1, by omega⟩
    have c1 := (cst_eq (rule := 4) (n := ((i + 1 : Nat) : Int)) hPB (by omega) (by omega) (by omega) (by omega)).1
    have c2 := lcL_b hPB (k := i + 1) (by omega)
    rw [(lc_ld hPB i).1] at c2
    obtain ⟨-, -, g3, hM'⟩ := m_hour hA hC (rule := 4) (n := ((i + 1 : Nat) : Int)) (by omega) (by omega) (by omega) (by omega)
    rw [f7_lead_b24, if_neg (by simp (disch := omega) only [n0, n1, n2, n3, n4, n5, n6, n7, n8, n9, n10, n11, n12, n13, n14, n15, n16, n17, n18, n19, n20, n21, n22, n23, n24, n25, n26, n27, n28, n29, n30, n31, n32, n33, n34, n35, n36, n37, n38, n39, n40, n41, n42, n43, n44, n45, n46, n47, n48, n49, n50, n51, n52, n53, n54, n55, n56, n57, n58, n59, n60, n61, n62, n63, n64, n65, n66, n97, n99, n100, n103, n107, n111, n116, n117, n119, n126, n200, n359, n360, n999, n1000, n9999, n65521, n99999, n1000000, io_neg, io_add, io_sub, io_mul, io_lt, io_le, io_eq, io_nat, Int.toNat_natCast, toNat_c1, ifg, obs, obm, oob, bi0, bi1, bi01]; omega), n4, g3, oob]
    unfold f7_lead_b52
    have e3 : io ((i + 1 : Nat) : Int) + 1 = io ((i + 1 + 1 : Nat) : Int) := by rw [n1, io_add]; congr 1
    rw [e3]
    have := ih (i + 1) n _ (by omega) (by omega) hM'
    rw [ldL, ldN] at this
    by_cases c : cst (pm B D) 4 ((i + 1 : Nat) : Int) < ldL (pm B D) i
    · rw [if_pos c, if_pos c] at this
      have c' : ¬ io (ldL (pm B D) i) ≤ io (cst (pm B D) 4 ((i + 1 : Nat) : Int)) := by simp (disch := omega) only [n0, n1, n2, n3, n4, n5, n6, n7, n8, n9, n10, n11, n12, n13, n14, n15, n16, n17, n18, n19, n20, n21, n22, n23, n24, n25, n26, n27, n28, n29, n30, n31, n32, n33, n34, n35, n36, n37, n38, n39, n40, n41, n42, n43, n44, n45, n46, n47, n48, n49, n50, n51, n52, n53, n54, n55, n56, n57, n58, n59, n60, n61, n62, n63, n64, n65, n66, n97, n99, n100, n103, n107, n111, n116, n117, n119, n126, n200, n359, n360, n999, n1000, n9999, n65521, n99999, n1000000, io_neg, io_add, io_sub, io_mul, io_lt, io_le, io_eq, io_nat, Int.toNat_natCast, toNat_c1, ifg, obs, obm, oob, bi0, bi1, bi01]; omega
      rw [if_neg c', if_neg c']
      exact this
    · rw [if_neg c, if_neg c] at this
      have c' : io (ldL (pm B D) i) ≤ io (cst (pm B D) 4 ((i + 1 : Nat) : Int)) := by simp (disch := omega) only [n0, n1, n2, n3, n4, n5, n6, n7, n8, n9, n10, n11, n12, n13, n14, n15, n16, n17, n18, n19, n20, n21, n22, n23, n24, n25, n26, n27, n28, n29, n30, n31, n32, n33, n34, n35, n36, n37, n38, n39, n40, n41, n42, n43, n44, n45, n46, n47, n48, n49, n50, n51, n52, n53, n54, n55, n56, n57, n58, n59, n60, n61, n62, n63, n64, n65, n66, n97, n99, n100, n103, n107, n111, n116, n117, n119, n126, n200, n359, n360, n999, n1000, n9999, n65521, n99999, n1000000, io_neg, io_add, io_sub, io_mul, io_lt, io_le, io_eq, io_nat, Int.toNat_natCast, toNat_c1, ifg, obs, obm, oob, bi0, bi1, bi01]; omega
      rw [if_pos c', if_pos c']
      exact this
theorem s_lead (hI : Inv σc σm) (a : Int32) : Step (f6_lead σc a) (f7_lead σm a) := by
  have hI' := hI
  obtain ⟨B, D, l, X, m, U, m2, V, q, Z, Y, hA, hC, hM⟩ := hI'
  obtain ⟨x, rfl, x0, x1⟩ := arg a
  unfold f6_lead f7_lead f6_lead_b22
  simp (disch := omega) only [n0, n1, n2, n3, n4, n5, n6, n7, n8, n9, n10, n11, n12, n13, n14, n15, n16, n17, n18, n19, n20, n21, n22, n23, n24, n25, n26, n27, n28, n29, n30, n31, n32, n33, n34, n35, n36, n37, n38, n39, n40, n41, n42, n43, n44, n45, n46, n47, n48, n49, n50, n51, n52, n53, n54, n55, n56, n57, n58, n59, n60, n61, n62, n63, n64, n65, n66, n97, n99, n100, n103, n107, n111, n116, n117, n119, n126, n200, n359, n360, n999, n1000, n9999, n65521, n99999, n1000000, io_neg, io_add, io_sub, io_mul, io_lt, io_le, io_eq, io_nat, Int.toNat_natCast, toNat_c1, ifg, obs, obm, oob, bi0, bi1, bi01, ob_ite, bind_ite, ↓reduceIte, eq_self, c_isRule, c_isBeat, c_isMinute, c_isTold, m_isRule, m_in, i64_toInt, io_toInt, j0, j1, j2, j3, j9, j30, j32, j48, j57, j59, j60, j99, j126, j359, j9999, decide_eq_false_iff_not, decide_eq_true_eq, p_between]
  by_cases c : 0 ≤ x ∧ x ≤ 1
  · have c' := not_not_intro c
    rw [if_neg c', if_neg c']
    obtain ⟨-, -, g3, hM'⟩ := m_hour hA hM (rule := 4) (n := 0) (by omega) (by omega) (by omega) (by omega)
    rw [g3, oob]
    obtain ⟨σ2, e2, hM2⟩ := m_lead hA c.1 c.2 99 0 1000 _ rfl (by omega) hM'
    have fin : ∀ σ1, IC σ1 B D l X m U m2 V q Z Y → σ1 0 11 = io (ldN (pm B D) 99) → σ1 0 12 = io (ldL (pm B D) 99) → Step (if x = 0 then some (σ1, σ1 0 11) else some (σ1, σ1 0 12)) (f7_lead_b24 1000 (ov σm (chour (pm B D) 4 0 (vw σm))) (io x) (io 0) (io (cst (pm B D) 4 0)) (io 1)) := fun σ1 hC1 q1 q2 => by
      refine ⟨σ1, _, _, ?_, e2, B, D, l, X, m, U, m2, V, q, Z, Y, hA, hC1, hM2⟩
      rw [q1, q2]
      by_cases d : x = 0
      · rw [if_pos d, if_pos d]
      · rw [if_neg d, if_neg d]
    rcases hC.2.2.2.2.2.2.2.2.2 with h | h
    · rw [if_pos (show σc 0 10 = io 0 from h)]
      obtain ⟨σ1, e1, hC1, q1, q2⟩ := c_findLead hA hC
      rw [e1, obs]
      exact fin σ1 hC1 q1 q2
    · rw [if_neg (show ¬ σc 0 10 = io 0 by rw [h.1]; decide)]
      exact fin σc hC h.2.1 h.2.2
  · rw [if_pos c, if_pos c]
    exact Step.same hI rfl rfl
end Lead
