/-! CALLS: shut, leave -/
def shD (D : Nat → Nat) (a b : Nat) : Nat → Nat := fun j => if j = 6 then D 6 + 1 else if j = 7 + D 6 then a else if j = 13 + D 6 then b else D j
def lvD (D : Nat → Nat) (k : Nat) : Nat → Nat := fun j => if j = 6 then D 6 - 1 else if (7 + k ≤ j ∧ j < 6 + D 6) ∨ (13 + k ≤ j ∧ j < 12 + D 6) then D (j + 1) else D j
section Shut
variable {σ σ' σc σm : Mem} {B P : PS} {D D' : Nat → Nat} {l l' : Nat} {X X' : Nat → Nat} {m m' : Nat} {U U' : PS} {m2 : Nat} {V : PS} {q q' : Nat} {Z Y Z' Y' : Nat → Nat}
theorem DB_sh (h : DB D) (hn : D 6 < 6) {a b : Nat} (ha : a ≤ 60) (hb : b ≤ 60) : DB (shD D a b) := by
  obtain ⟨h1, h2, h3⟩ := h
  have e6 : shD D a b 6 = D 6 + 1 := rfl
  refine ⟨fun i hi => ?_, by rw [e6]; omega, fun k hk => ?_⟩
  · unfold shD
    rw [if_neg (by omega), if_neg (by omega), if_neg (by omega)]
    exact h1 i hi
  · rw [e6] at hk
    unfold shD
    by_cases e : k = D 6
    · subst e
      rw [if_neg (by omega), if_pos rfl, if_neg (by omega), if_neg (by omega), if_pos rfl]
      exact ⟨ha, hb⟩
    · rw [if_neg (by omega), if_neg (by omega), if_neg (by omega), if_neg (by omega), if_neg (by omega), if_neg (by omega)]
      exact h3 k (by omega)
theorem SD_sh (hn : D 6 < 6) (H : SD σ 31 D) (a b : Nat) : SD (mu (mu (mu σ 33 (D 6) (io a)) 34 (D 6) (io b)) 32 3 (io ((D 6 : Int) + 1))) 31 (shD D a b) := by
  obtain ⟨⟨o1, o2⟩, o3, o4⟩ := H
  have e6 : shD D a b 6 = D 6 + 1 := rfl
  refine ⟨⟨?_, ?_⟩, fun k hk => ?_, ?_⟩
  · simp (disch := omega) only [mu_s, mu_k, mu_j]; exact o1
  · rw [e6]
    show mu _ 32 3 _ 32 3 = _
    rw [mu_s]; rfl
  · have : shD D a b k = D k := by unfold shD; rw [if_neg (by omega), if_neg (by omega), if_neg (by omega)]
    rw [this]
    simp (disch := omega) only [mu_s, mu_k, mu_j]
    exact o3 k hk
  · rw [e6]
    intro k hk
    show mu _ 32 3 _ 33 k = _ ∧ mu _ 32 3 _ 34 k = _
    by_cases e : k = D 6
    · subst e
      simp (disch := omega) only [mu_s, mu_k, mu_j]
      unfold shD
      rw [if_neg (by omega), if_pos rfl, if_neg (by omega), if_neg (by omega), if_pos rfl]
      exact ⟨rfl, rfl⟩
    · simp (disch := omega) only [mu_s, mu_k, mu_j]
      unfold shD
      rw [if_neg (by omega), if_neg (by omega), if_neg (by omega), if_neg (by omega), if_neg (by omega), if_neg (by omega)]
      exact o4 k (by omega)
theorem RD_sh (hn : D 6 < 6) (H : RD σ 17 0 D) (a b : Nat) : RD (mu (mu (mu σ 17 (7 + D 6) (io a)) 17 (13 + D 6) (io b)) 17 6 (io ((D 6 : Int) + 1))) 17 0 (shD D a b) := by
  obtain ⟨o1, o2, o3⟩ := H
  have e6 : shD D a b 6 = D 6 + 1 := rfl
  have rest : ∀ j, j ≠ 6 → j ≠ 7 + D 6 → j ≠ 13 + D 6 → mu (mu (mu σ 17 (7 + D 6) (io a)) 17 (13 + D 6) (io b)) 17 6 (io ((D 6 : Int) + 1)) 17 j = σ 17 j ∧ shD D a b j = D j := fun j z1 z2 z3 => ⟨by rw [mu_k _ _ z1, mu_k _ _ z3, mu_k _ _ z2], by unfold shD; rw [if_neg z1, if_neg z2, if_neg z3]⟩
  refine ⟨fun i hi => ?_, ?_, ?_⟩
  · rw [Nat.zero_add, (rest i (by omega) (by omega) (by omega)).1, (rest i (by omega) (by omega) (by omega)).2]
    have := o1 i hi
    rwa [Nat.zero_add] at this
  · rw [e6]
    show mu _ 17 6 _ 17 6 = _
    rw [mu_s]; rfl
  · rw [e6]
    intro k hk
    rw [Nat.zero_add, Nat.zero_add]
    by_cases e : k = D 6
    · subst e
      rw [mu_k _ _ (by omega), mu_k _ _ (by omega), mu_s, mu_k _ _ (by omega), mu_s]
      unfold shD
      rw [if_neg (by omega), if_pos rfl, if_neg (by omega), if_neg (by omega), if_pos rfl]
      exact ⟨rfl, rfl⟩
    · rw [(rest (7 + k) (by omega) (by omega) (by omega)).1, (rest (7 + k) (by omega) (by omega) (by omega)).2, (rest (13 + k) (by omega) (by omega) (by omega)).1, (rest (13 + k) (by omega) (by omega) (by omega)).2]
      have := o3 k (by omega)
      rwa [Nat.zero_add, Nat.zero_add] at this
theorem c_isClosing {x y : Int} (x0 : -2147483648 ≤ x) (x1 : x < 2147483648) (y0 : -2147483648 ≤ y) (y1 : y < 2147483648) : f6_isClosing (io x) (io y) = some (bi (decide (0 ≤ x ∧ x ≤ 59 ∧ x + 1 ≤ y ∧ y ≤ 60))) := by
  unfold f6_isClosing
  simp (disch := omega) only [n0, n1, n2, n3, n4, n5, n6, n7, n8, n9, n10, n11, n12, n13, n14, n15, n16, n17, n18, n19, n20, n21, n22, n23, n24, n25, n26, n27, n28, n29, n30, n31, n32, n33, n34, n35, n36, n37, n38, n39, n40, n41, n42, n43, n44, n45, n46, n47, n48, n49, n50, n51, n52, n53, n54, n55, n56, n57, n58, n59, n60, n61, n62, n63, n64, n65, n66, n97, n99, n100, n103, n107, n111, n116, n117, n119, n126, n200, n359, n360, n999, n1000, n9999, n65521, n99999, n1000000, io_neg, io_add, io_sub, io_mul, io_lt, io_le, io_eq, io_nat, Int.toNat_natCast, toNat_c1, ifg, obs, obm, oob, bi0, bi1, bi01, ob_ite, bind_ite, ↓reduceIte, eq_self, p_between, decide_eq_false_iff_not, decide_eq_true_eq]
  by_cases c : 0 ≤ x ∧ x ≤ 59 ∧ x + 1 ≤ y ∧ y ≤ 60
  · rw [decide_eq_true c, if_neg (not_not_intro (show 0 ≤ x ∧ x ≤ 60 by omega)), if_neg (not_not_intro (show 0 ≤ y ∧ y ≤ 60 by omega)), if_neg (by omega)]
    rfl
  · rw [decide_eq_false c]
    by_cases c1 : 0 ≤ x ∧ x ≤ 60
    · rw [if_neg (not_not_intro c1)]
      by_cases c2 : 0 ≤ y ∧ y ≤ 60
      · rw [if_neg (not_not_intro c2), if_pos (by omega)]; rfl
      · rw [if_pos c2]; rfl
    · rw [if_pos c1]; rfl
theorem c_full (hd6 : D 6 ≤ 6) (hs : SD σ 31 D) : f2_isFull σ 32 = some (bi (decide (D 6 = 6))) := by
  unfold f2_isFull
  rw [show σ 32 3 = io (D 6) from hs.1.2, show σ 32 2 = io 6 from hs.1.1]
  by_cases c : D 6 = 6
  · rw [decide_eq_true c, c]; rfl
  · rw [decide_eq_false c, if_pos (by rw [io_lt (by omega) (by omega) (by omega) (by omega)]; omega)]; rfl
theorem m_in2 {x a b : Int} {y z : Int64} (hy : y.toInt = a) (hz : z.toInt = b) (x0 : -2147483648 ≤ x) (x1 : x < 2147483648) : f7_in (io x).toInt64 y z = some (bi (decide (a ≤ x ∧ x ≤ b))) := by
  rw [m_in, i64_toInt, io_toInt x0 x1, hy, hz]
theorem s_shut (hI : Inv σc σm) (a b : Int32) : Step (f6_shut σc a b) (f7_shut σm a b) := by
  have hI' := hI
  obtain ⟨B, D, l, X, m, U, m2, V, q, Z, Y, hA, hC, hM⟩ := hI'
  obtain ⟨x, rfl, x0, x1⟩ := arg a
  obtain ⟨y, rfl, y0, y1⟩ := arg b
  have hd6 := hA.2.1.2.1
  have h17 : σm 17 6 = io (D 6) := hM.2.2.1.2.1
  unfold f6_shut f7_shut
  rw [c_isClosing x0 x1 y0 y1, obs, c_full hd6 hC.2.2.2.1, obs, m_in2 j0 j59 x0 x1, obs]
  by_cases c1 : 0 ≤ x ∧ x ≤ 59
  · have e1 : io x + 1 = io (x + 1) := io_add x 1
    rw [decide_eq_true c1, bi_t, if_neg (show ¬ (1 : Int32) = 0 by decide), e1, m_in2 (a := x + 1) (by rw [i64_toInt, io_toInt (by omega) (by omega)]) j60 y0 y1, obs]
    by_cases c2 : x + 1 ≤ y ∧ y ≤ 60
    · rw [decide_eq_true c2, decide_eq_true (show 0 ≤ x ∧ x ≤ 59 ∧ x + 1 ≤ y ∧ y ≤ 60 by omega), bi_t, if_neg (show ¬ (1 : Int32) = 0 by decide), if_neg (show ¬ (1 : Int32) = 0 by decide), h17]
      by_cases c6 : D 6 = 6
      · rw [decide_eq_true c6, bi_t, if_neg (show ¬ (1 : Int32) = 0 by decide), if_pos (show io (D 6) = 6 by rw [c6]; rfl)]
        exact Step.same hI rfl rfl
      · obtain ⟨a, rfl⟩ : ∃ a : Nat, x = (a : Int) := ⟨x.toNat, by omega⟩
        obtain ⟨b, rfl⟩ : ∃ b : Nat, y = (b : Int) := ⟨y.toNat, by omega⟩
        obtain ⟨σ1, f1, hC1, g1, g2⟩ := c_beginChange hA hC
        obtain ⟨σ2, f2, hM2⟩ := m_note hA hM
        have hU' := UB_up hA.2.2.2.1 hA.2.1
        have hs1 := hC1.2.2.2.1
        have h17' : σ2 17 6 = io (D 6) := hM2.2.2.1.2.1
        have e7 : 7 + io (D 6 : Int) = io ((7 + D 6 : Nat) : Int) := by rw [n7, io_add]; congr 1
        have e13 : 13 + io (D 6 : Int) = io ((13 + D 6 : Nat) : Int) := by rw [n13, io_add]; congr 1
        have e9 : io (D 6 : Int) + 1 = io ((D 6 : Int) + 1) := io_add _ 1
        have hca : f2_add σ1 32 (io a) (io b) = some (mu (mu (mu σ1 33 (D 6) (io a)) 34 (D 6) (io b)) 32 3 (io ((D 6 : Int) + 1)), io 1) := c_add (σ := σ1) (h := 32) (i := D 6) (lim := 6) hs1.1.2 hs1.1.1 (by omega) (by omega)
        have hc : (Option.bind (f6_beginChange σc) fun σ5 => ob (f2_add σ5 32 (io a) (io b)) fun σ6 r6 => Option.bind (f2_size σ6 32) fun r7 => some (σ6, r7)) = some (mu (mu (mu σ1 33 (D 6) (io a)) 34 (D 6) (io b)) 32 3 (io ((D 6 : Int) + 1)), io ((D 6 : Int) + 1)) := by
          rw [f1, obs, hca, oob, f2_size, obs, mu_s]
        rw [decide_eq_false c6, bi_f, if_pos rfl, hc, if_neg (show ¬ io (D 6) = 6 by rw [n6, io_eq (by omega) (by omega) (by omega) (by omega)]; omega), f2, obs, h17', e7, if_pos (in_ix (n := 19) (by omega) (by decide)), io_ix (by omega), obm, mu_k _ _ (by omega), h17', e13, if_pos (in_ix (n := 19) (by omega) (by decide)), io_ix (by omega), obm, mu_k _ _ (by omega), mu_k _ _ (by omega), h17', e9, obm, mu_s]
        refine ⟨_, _, _, rfl, rfl, B, shD D a b, l, X, _, _, m2, V, q, Z, Y, ⟨hA.1, DB_sh hA.2.1 (by omega) (by omega) (by omega), hA.2.2.1, hU', hA.2.2.2.2⟩, IC_change (D := D) hA.2.2.2.2.1.1 hC1 (fun j z1 z2 z3 z4 => ?_) (SD_sh (by omega) hs1 a b) ?_ (fun r hr => ?_) ?_, IM_17 hM2 (fun j hj => ?_) (RD_sh (by omega) hM2.2.2.1 a b)⟩
        · rw [mu_j _ _ _ (by omega), mu_j _ _ _ (by omega), mu_j _ _ _ (by omega)]
        · exact CP_fr rfl (fun j z1 z2 => by rw [mu_j _ _ _ (by omega), mu_j _ _ _ (by omega), mu_j _ _ _ (by omega)]) hU'.1 hC1.2.2.2.2.2.2.1
        · rw [mu_j _ _ _ (by omega), mu_j _ _ _ (by omega), mu_j _ _ _ (by omega)]; exact g1 r hr
        · rw [mu_j _ _ _ (by omega), mu_j _ _ _ (by omega), mu_j _ _ _ (by omega)]; exact g2
        · rw [mu_j _ _ _ hj, mu_j _ _ _ hj, mu_j _ _ _ hj]
    · rw [decide_eq_false c2, decide_eq_false (show ¬ (0 ≤ x ∧ x ≤ 59 ∧ x + 1 ≤ y ∧ y ≤ 60) by omega), bi_f, if_pos rfl, if_pos rfl]
      exact Step.same hI rfl rfl
  · rw [decide_eq_false c1, decide_eq_false (show ¬ (0 ≤ x ∧ x ≤ 59 ∧ x + 1 ≤ y ∧ y ≤ 60) by omega), bi_f, if_pos rfl, if_pos rfl]
    exact Step.same hI rfl rfl
theorem DB_lv (h : DB D) {k : Nat} (hk : k < D 6) : DB (lvD D k) := by
  obtain ⟨h1, h2, h3⟩ := h
  have e6 : lvD D k 6 = D 6 - 1 := rfl
  refine ⟨fun i hi => ?_, by rw [e6]; omega, fun j hj => ?_⟩
  · unfold lvD
    rw [if_neg (by omega), if_neg (by omega)]
    exact h1 i hi
  · rw [e6] at hj
    unfold lvD
    rw [if_neg (show ¬ 7 + j = 6 by omega), if_neg (show ¬ 13 + j = 6 by omega)]
    have a1 := h3 j (by omega)
    have a2 := h3 (j + 1) (by omega)
    rw [show 7 + (j + 1) = 7 + j + 1 by omega, show 13 + (j + 1) = 13 + j + 1 by omega] at a2
    constructor
    · split
      · exact a2.1
      · exact a1.1
    · split
      · exact a2.2
      · exact a1.2
theorem c_remove {k : Nat} (hd6 : D 6 ≤ 6) (hk : k < D 6) (hs : SD σ 31 D) : ∃ σ', f2_remove σ 32 (io k) = some σ' ∧ SD σ' 31 (lvD D k) ∧ ∀ j, ¬ (32 ≤ j ∧ j ≤ 34) → σ' j = σ j := by
  obtain ⟨⟨o1, o2⟩, o3, o4⟩ := hs
  have o2 : σ 32 3 = io (D 6) := o2
  have e6 : lvD D k 6 = D 6 - 1 := rfl
  unfold f2_remove
  rw [o2, n1, io_sub, n0, p_between (by omega) (by omega) (by omega) (by omega) (by omega) (by omega), obs, decide_eq_true (show (0 : Int) ≤ k ∧ (k : Int) ≤ (D 6 : Int) - 1 by omega), bi_t, if_neg (by decide)]
  have key := lock_loop (fun r (t : Mem) i => f2_remove_b17 32 r t (i + io k)) (fun t => some (mu t 32 3 (io ((D 6 - 1 : Nat) : Int)))) (D 6 - 1 - k) (fun _ (a : Unit) => a) (fun i _ t => (∀ a, t 33 a = if k ≤ a ∧ a < k + i then σ 33 (a + 1) else σ 33 a) ∧ (∀ a, t 34 a = if k ≤ a ∧ a < k + i then σ 34 (a + 1) else σ 34 a) ∧ ∀ j, j ≠ 33 → j ≠ 34 → t j = σ j) (a0 := ()) (t0 := σ) ⟨fun a => by rw [if_neg (by omega)], fun a => by rw [if_neg (by omega)], fun _ _ _ => rfl⟩ (fun r a t hI => ?_) (fun r i a t hi hI => ?_) 1000 (by omega)
  · obtain ⟨t, e, k1, k2, k3⟩ := key
    rw [io_add, Int.zero_add] at e
    refine ⟨_, e, ⟨⟨?_, ?_⟩, fun i hi => ?_, ?_⟩, fun j hj => ?_⟩
    · rw [mu_k _ _ (by omega), k3 _ (by omega) (by omega)]; exact o1
    · rw [e6]
      show mu _ 32 3 _ 32 3 = _
      rw [mu_s]
    · have : lvD D k i = D i := by unfold lvD; rw [if_neg (by omega), if_neg (by omega)]
      rw [this, mu_j _ _ _ (by omega), k3 _ (by omega) (by omega)]
      exact o3 i hi
    · rw [e6]
      intro j hj
      have a1 := o4 j (by omega)
      have a2 := o4 (j + 1) (by omega)
      rw [show 7 + (j + 1) = 7 + j + 1 by omega, show 13 + (j + 1) = 13 + j + 1 by omega] at a2
      show mu _ 32 3 _ 33 j = _ ∧ mu _ 32 3 _ 34 j = _
      rw [mu_j _ _ _ (show 33 ≠ 32 by omega), mu_j _ _ _ (show 34 ≠ 32 by omega), k1 j, k2 j]
      unfold lvD
      rw [if_neg (show ¬ 7 + j = 6 by omega), if_neg (show ¬ 13 + j = 6 by omega)]
      by_cases c : k ≤ j
      · rw [if_pos (show k ≤ j ∧ j < k + (D 6 - 1 - k) by omega), if_pos (show k ≤ j ∧ j < k + (D 6 - 1 - k) by omega), if_pos (by omega), if_pos (by omega)]
        exact a2
      · rw [if_neg (show ¬ (k ≤ j ∧ j < k + (D 6 - 1 - k)) by omega), if_neg (show ¬ (k ≤ j ∧ j < k + (D 6 - 1 - k)) by omega), if_neg (by omega), if_neg (by omega)]
        exact a1
    · rw [mu_j _ _ _ (by omega), k3 j (by omega) (by omega)]
  · show f2_remove_b17 32 (r + 1) _ _ = _
    obtain ⟨k1, k2, k3⟩ := hI
    rw [f2_remove_b17, k3 32 (by omega) (by omega), o2, io_add, n1, io_add, if_pos (by rw [io_le (by omega) (by omega) (by omega) (by omega)]; omega), io_sub, obm, show (D 6 : Int) - 1 = ((D 6 - 1 : Nat) : Int) by omega]
  · show ∃ t', f2_remove_b17 32 (r + 1) _ _ = f2_remove_b17 32 r _ _ ∧ _
    obtain ⟨k1, k2, k3⟩ := hI
    have x1 : io (i : Int) + io (k : Int) = io ((i + k : Nat) : Int) := by rw [io_add]; congr 1
    have x2 : io ((i + k : Nat) : Int) + 1 = io ((i + k + 1 : Nat) : Int) := by rw [n1, io_add]; congr 1
    have x3 : io ((i : Int) + 1) + io (k : Int) = io ((i + k + 1 : Nat) : Int) := by rw [io_add]; congr 1; omega
    rw [f2_remove_b17, k3 32 (by omega) (by omega), o2, x1, x2, x3, if_neg (by rw [io_le (by omega) (by omega) (by omega) (by omega)]; omega), if_pos (in_ix (n := 8) (by omega) (by decide)), if_pos (in_ix (n := 8) (by omega) (by decide)), obm, if_pos (in_ix (n := 8) (by omega) (by decide)), if_pos (in_ix (n := 8) (by omega) (by decide)), obm, io_ix (by omega), io_ix (by omega)]
    show ∃ t', f2_remove_b17 32 r (mu (mu t 33 (i + k) (t 33 (i + k + 1))) 34 (i + k) (mu t 33 (i + k) (t 33 (i + k + 1)) 34 (i + k + 1))) _ = _ ∧ _
    rw [mu_j _ _ _ (show 34 ≠ 33 by omega), k1 (i + k + 1), k2 (i + k + 1), if_neg (by omega), if_neg (by omega)]
    refine ⟨_, rfl, fun a => ?_, fun a => ?_, fun j z1 z2 => ?_⟩
    · rw [mu_j _ _ _ (by omega)]
      by_cases e : a = i + k
      · subst e; rw [mu_s, if_pos (by omega)]
      · rw [mu_k _ _ e, k1 a]
        by_cases c : k ≤ a ∧ a < k + i
        · rw [if_pos c, if_pos (by omega)]
        · rw [if_neg c, if_neg (by omega)]
    · by_cases e : a = i + k
      · subst e; rw [mu_s, if_pos (by omega)]
      · rw [mu_k _ _ e, mu_j _ _ _ (by omega), k2 a]
        by_cases c : k ≤ a ∧ a < k + i
        · rw [if_pos c, if_pos (by omega)]
        · rw [if_neg c, if_neg (by omega)]
    · rw [mu_j _ _ _ z2, mu_j _ _ _ z1, k3 j z1 z2]
theorem m_leave38 {k : Nat} (hd6 : D 6 ≤ 6) (hk : k < D 6) (hs : RD σ 17 0 D) : ∃ σ', f7_leave_b38 1000 (mu σ 17 6 (io ((D 6 - 1 : Nat) : Int))) (io k) = some (σ', io ((D 6 - 1 : Nat) : Int)) ∧ RD σ' 17 0 (lvD D k) ∧ ∀ j, j ≠ 17 → σ' j = σ j := by
  obtain ⟨o1, o2, o3⟩ := hs
  have e6 : lvD D k 6 = D 6 - 1 := rfl
  have key := lock_loop (fun r (t : Mem) i => f7_leave_b38 r t (i + io k)) (fun t => some (t, io ((D 6 - 1 : Nat) : Int))) (D 6 - 1 - k) (fun _ (a : Unit) => a) (fun i _ t => t 17 6 = io ((D 6 - 1 : Nat) : Int) ∧ (∀ a, a ≠ 6 → t 17 a = if (7 + k ≤ a ∧ a < 7 + k + i) ∨ (13 + k ≤ a ∧ a < 13 + k + i) then σ 17 (a + 1) else σ 17 a) ∧ ∀ j, j ≠ 17 → t j = σ j) (a0 := ()) (t0 := mu σ 17 6 (io ((D 6 - 1 : Nat) : Int))) ⟨by rw [mu_s], fun a ha => by rw [mu_k _ _ ha, if_neg (by omega)], fun j hj => mu_j _ _ _ hj⟩ (fun r a t hI => ?_) (fun r i a t hi hI => ?_) 1000 (by omega)
  · obtain ⟨t, e, k1, k2, k3⟩ := key
    rw [io_add, Int.zero_add] at e
    refine ⟨_, e, ⟨fun i hi => ?_, ?_, ?_⟩, k3⟩
    · have : lvD D k i = D i := by unfold lvD; rw [if_neg (by omega), if_neg (by omega)]
      rw [this, Nat.zero_add, k2 i (by omega), if_neg (by omega)]
      have := o1 i hi
      rwa [Nat.zero_add] at this
    · rw [e6]; exact k1
    · rw [e6]
      intro j hj
      have a1 := o3 j (by omega)
      have a2 := o3 (j + 1) (by omega)
      rw [Nat.zero_add, Nat.zero_add] at a1 a2
      rw [show 7 + (j + 1) = 7 + j + 1 by omega, show 13 + (j + 1) = 13 + j + 1 by omega] at a2
      rw [Nat.zero_add, Nat.zero_add, k2 (7 + j) (by omega), k2 (13 + j) (by omega)]
      unfold lvD
      rw [if_neg (show ¬ 7 + j = 6 by omega), if_neg (show ¬ 13 + j = 6 by omega)]
      by_cases c : k ≤ j
      · rw [if_pos (show (7 + k ≤ 7 + j ∧ 7 + j < 7 + k + (D 6 - 1 - k)) ∨ (13 + k ≤ 7 + j ∧ 7 + j < 13 + k + (D 6 - 1 - k)) by omega), if_pos (show (7 + k ≤ 13 + j ∧ 13 + j < 7 + k + (D 6 - 1 - k)) ∨ (13 + k ≤ 13 + j ∧ 13 + j < 13 + k + (D 6 - 1 - k)) by omega), if_pos (by omega), if_pos (by omega)]
        exact a2
      · rw [if_neg (show ¬ ((7 + k ≤ 7 + j ∧ 7 + j < 7 + k + (D 6 - 1 - k)) ∨ (13 + k ≤ 7 + j ∧ 7 + j < 13 + k + (D 6 - 1 - k))) by omega), if_neg (show ¬ ((7 + k ≤ 13 + j ∧ 13 + j < 7 + k + (D 6 - 1 - k)) ∨ (13 + k ≤ 13 + j ∧ 13 + j < 13 + k + (D 6 - 1 - k))) by omega), if_neg (by omega), if_neg (by omega)]
        exact a1
  · show f7_leave_b38 (r + 1) _ _ = _
    obtain ⟨k1, k2, k3⟩ := hI
    rw [f7_leave_b38, k1, io_add, if_pos (by rw [io_le (by omega) (by omega) (by omega) (by omega)]; omega)]
  · show ∃ t', f7_leave_b38 (r + 1) _ _ = f7_leave_b38 r _ _ ∧ _
    obtain ⟨k1, k2, k3⟩ := hI
    have x1 : io (i : Int) + io (k : Int) = io ((i + k : Nat) : Int) := by rw [io_add]; congr 1
    have x2 : io ((i + k : Nat) : Int) + 1 = io ((i + k + 1 : Nat) : Int) := by rw [n1, io_add]; congr 1
    have x3 : io ((i : Int) + 1) + io (k : Int) = io ((i + k + 1 : Nat) : Int) := by rw [io_add]; congr 1; omega
    have x7 : 7 + io ((i + k : Nat) : Int) = io ((7 + k + i : Nat) : Int) := by rw [n7, io_add]; congr 1; omega
    have x8 : 8 + io ((i + k : Nat) : Int) = io ((7 + k + i + 1 : Nat) : Int) := by rw [n8, io_add]; congr 1; omega
    have x13 : 13 + io ((i + k : Nat) : Int) = io ((13 + k + i : Nat) : Int) := by rw [n13, io_add]; congr 1; omega
    have x14 : 14 + io ((i + k : Nat) : Int) = io ((13 + k + i + 1 : Nat) : Int) := by rw [n14, io_add]; congr 1; omega
    rw [f7_leave_b38, k1, x1, x2, x3, x7, x8, x13, x14, if_neg (by rw [io_le (by omega) (by omega) (by omega) (by omega)]; omega), if_pos (in_ix (n := 19) (by omega) (by decide)), if_pos (in_ix (n := 19) (by omega) (by decide)), io_ix (by omega), io_ix (by omega), obm, if_pos (in_ix (n := 19) (by omega) (by decide)), if_pos (in_ix (n := 19) (by omega) (by decide)), io_ix (by omega), io_ix (by omega), obm, mu_k _ _ (show 13 + k + i + 1 ≠ 7 + k + i by omega), k2 (7 + k + i + 1) (by omega), k2 (13 + k + i + 1) (by omega), if_neg (by omega), if_neg (by omega)]
    refine ⟨_, rfl, ?_, fun a ha => ?_, fun j hj => ?_⟩
    · rw [mu_k _ _ (by omega), mu_k _ _ (by omega)]; exact k1
    · by_cases e : a = 13 + k + i
      · subst e; rw [mu_s, if_pos (by omega)]
      · rw [mu_k _ _ e]
        by_cases e2 : a = 7 + k + i
        · subst e2; rw [mu_s, if_pos (by omega)]
        · rw [mu_k _ _ e2, k2 a ha]
          by_cases c : (7 + k ≤ a ∧ a < 7 + k + i) ∨ (13 + k ≤ a ∧ a < 13 + k + i)
          · rw [if_pos c, if_pos (by omega)]
          · rw [if_neg c, if_neg (by omega)]
    · rw [mu_j _ _ _ hj, mu_j _ _ _ hj]; exact k3 j hj
theorem s_leave (hI : Inv σc σm) (a : Int32) : Step (f6_leave σc a) (f7_leave σm a) := by
  have hI' := hI
  obtain ⟨B, D, l, X, m, U, m2, V, q, Z, Y, hA, hC, hM⟩ := hI'
  obtain ⟨x, rfl, x0, x1⟩ := arg a
  have hd6 := hA.2.1.2.1
  have h17 : σm 17 6 = io (D 6) := hM.2.2.1.2.1
  have h32 : σc 32 3 = io (D 6) := hC.2.2.2.1.1.2
  have e1 : io (D 6 : Int) - 1 = io ((D 6 : Int) - 1) := io_sub _ 1
  unfold f6_leave f7_leave f2_size
  rw [obs, h32, e1, show (0 : Int32) = io 0 from rfl, p_between x0 x1 (by omega) (by omega) (by omega) (by omega), obs, h17, e1, m_in2 j0 (b := (D 6 : Int) - 1) (by rw [i64_toInt, io_toInt (by omega) (by omega)]) x0 x1, obs]
  by_cases c : 0 ≤ x ∧ x ≤ (D 6 : Int) - 1
  · obtain ⟨k, rfl⟩ : ∃ k : Nat, x = (k : Int) := ⟨x.toNat, by omega⟩
    rw [decide_eq_true c, bi_t, if_neg (show ¬ (1 : Int32) = io 0 by decide), if_neg (show ¬ (1 : Int32) = io 0 by decide)]
    obtain ⟨σ1, f1, hC1, g1, g2⟩ := c_beginChange hA hC
    obtain ⟨σ2, f2, hM2⟩ := m_note hA hM
    have hU' := UB_up hA.2.2.2.1 hA.2.1
    have h17' : σ2 17 6 = io (D 6) := hM2.2.2.1.2.1
    obtain ⟨σ3, f3, s3, fr3⟩ := c_remove (k := k) hd6 (by omega) hC1.2.2.2.1
    obtain ⟨σ4, f4, s4, fr4⟩ := m_leave38 (k := k) hd6 (by omega) hM2.2.2.1
    have h323 : σ3 32 3 = io ((D 6 - 1 : Nat) : Int) := s3.1.2
    rw [f1, obs, f3, obs, obs, h323, f2, obs, h17', e1, show (D 6 : Int) - 1 = ((D 6 - 1 : Nat) : Int) by omega, obm, f4]
    refine ⟨_, _, _, rfl, rfl, B, lvD D k, l, X, _, _, m2, V, q, Z, Y, ⟨hA.1, DB_lv hA.2.1 (by omega), hA.2.2.1, hU', hA.2.2.2.2⟩, IC_change (D := D) hA.2.2.2.2.1.1 hC1 (fun j z1 z2 z3 z4 => fr3 j (by omega)) s3 ?_ (fun r hr => ?_) ?_, IM_17 hM2 fr4 s4⟩
    · exact CP_fr rfl (fun j z1 z2 => fr3 j (by omega)) hU'.1 hC1.2.2.2.2.2.2.1
    · rw [fr3 _ (by omega)]; exact g1 r hr
    · rw [fr3 0 (by omega)]; exact g2
  · rw [decide_eq_false c, bi_f, if_pos (show (0 : Int32) = io 0 from rfl), if_pos (show (0 : Int32) = io 0 from rfl)]
    exact Step.same hI rfl rfl
end Shut
