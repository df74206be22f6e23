/-! THE COMPONENT READS AN ITEM -/
def PR (σ : Mem) (h lim n : Nat) (f g : Nat → Nat) : Prop := (σ h 3 = io n ∧ σ h 2 = io lim) ∧ ∀ i, i < n → σ (h + 1) i = io (f i) ∧ σ (h + 2) i = io (g i)
def CE (σ : Mem) (E : PS) : Prop := PR σ 18 6 (E 0 0) (E 1) (E 2) ∧ PR σ 21 8 (E 0 1) (E 3) (E 4) ∧ PR σ 24 6 (E 0 2) (E 6) (E 7) ∧ PR σ 27 5 (E 0 7) (E 9) (E 10) ∧ (∀ k, k < 4 → σ 30 k = io (E 8 k)) ∧ σ 17 5 = io (E 0 3) ∧ σ 17 6 = io (E 0 4) ∧ σ 17 7 = io (E 0 5) ∧ σ 17 8 = io (E 0 6)
def FC (σ σ' : Mem) : Prop := (∀ k, k ≠ 2 → σ' 1 k = σ 1 k) ∧ ∀ j, j ≠ 1 → (j < 17 ∨ 30 < j) → σ' j = σ j
section ItemC
variable {σ σ' σ1 : Mem} {l : Nat} {X : Nat → Nat} {E : PS}
theorem FC.refl : FC σ σ := ⟨fun _ _ => rfl, fun _ _ _ => rfl⟩
theorem FC.trans (h1 : FC σ σ1) (h2 : FC σ1 σ') : FC σ σ' := ⟨fun k hk => (h2.1 k hk).trans (h1.1 k hk), fun j z1 z2 => (h2.2 j z1 z2).trans (h1.2 j z1 z2)⟩
theorem FC.ct (h : FC σ σ') (hT : CT σ l X) : CT σ' l X := CT_fr (h.1 1 (by omega)) (h.2 2 (by omega) (by omega)) hT
theorem PR_fr {h lim n : Nat} {f g : Nat → Nat} (hf : ∀ j, h ≤ j → j ≤ h + 2 → σ' j = σ j) (H : PR σ h lim n f g) : PR σ' h lim n f g := by
  unfold PR at *
  rw [hf h (by omega) (by omega), hf (h + 1) (by omega) (by omega), hf (h + 2) (by omega) (by omega)]
  exact H
theorem CE_fr (hf : ∀ j, 17 ≤ j → j ≤ 30 → σ' j = σ j) (H : CE σ E) : CE σ' E := by
  obtain ⟨h1, h2, h3, h4, h5, h6⟩ := H
  refine ⟨PR_fr (fun j _ _ => hf j (by omega) (by omega)) h1, PR_fr (fun j _ _ => hf j (by omega) (by omega)) h2, PR_fr (fun j _ _ => hf j (by omega) (by omega)) h3, PR_fr (fun j _ _ => hf j (by omega) (by omega)) h4, ?_, ?_⟩
  · rw [hf 30 (by omega) (by omega)]; exact h5
  · rw [hf 17 (by omega) (by omega)]; exact h6
theorem PR_add {h lim n v w : Nat} {f g : Nat → Nat} (H : PR σ h lim n f g) : PR (mu (mu (mu σ (h + 1) n (io v)) (h + 2) n (io w)) h 3 (io ((n : Int) + 1))) h lim (n + 1) (du f n v) (du g n w) := by
  obtain ⟨⟨h1, h2⟩, h3⟩ := H
  refine ⟨⟨?_, ?_⟩, fun i hi => ?_⟩
  · rw [mu_s]; rfl
  · simp (disch := omega) only [mu_s, mu_k, mu_j]; exact h2
  · by_cases e : i = n
    · subst e
      simp (disch := omega) only [mu_s, mu_k, mu_j, du_s]
      exact ⟨trivial, trivial⟩
    · simp (disch := omega) only [mu_s, mu_k, mu_j, du_n]
      exact h3 i (by omega)
theorem ob_ret (σ : Mem) (x : Bool) : (ob (some (σ, bi x)) fun σ2 r2 => if r2 = 0 ∨ r2 = 1 then some (σ2, r2) else none) = some (σ, bi x) := by
  rw [oob, if_pos (bi_01 x)]
theorem lit_ne {L k : Nat} (hL : L ≤ 126) (hk : k ≤ 200) (h : L ≠ k) : ¬ io (L : Int) = io (k : Int) := by
  rw [io_eq (by omega) (by omega) (by omega) (by omega)]
  omega
theorem c_take (hE : EB E) (H : CE σ E) {L v w : Nat} (hL : L ≤ 126) (hv : v ≤ 99) (hw : w ≤ 99) : (∃ E' σ', tk E L v w = some E' ∧ f0_take σ 17 (io L) (io v) (io w) = some (σ', io 1) ∧ CE σ' E' ∧ ∀ j, (j < 17 ∨ 30 < j) → σ' j = σ j) ∨ (tk E L v w = none ∧ f0_take σ 17 (io L) (io v) (io w) = some (σ, io 0)) := by
  obtain ⟨h1, h2, h3, h4, h5, h6, h7, h8, h9⟩ := H
  have hb := hE.1
  have k10 : ¬ (1 : Int32) = 0 := by decide
  by_cases c97 : L = 97
  · subst c97
    have ht : f0_take σ 17 (io (97 : Nat)) (io v) (io w) = if 1 ≤ v ∧ v ≤ 99 ∧ w ≤ 99 then some (mu (mu σ 17 7 (io v)) 17 8 (io w), io 1) else some (σ, io 0) := by
      unfold f0_take f0_takePatience
      rw [if_pos (by rfl)]
      simp (disch := omega) only [n0, n1, n2, n3, n4, n5, n6, n7, n8, n9, n10, n11, n12, n13, n14, n15, n16, n17, n18, n19, n20, n21, n22, n23, n24, n25, n26, n27, n28, n29, n30, n31, n32, n33, n34, n35, n36, n37, n38, n39, n40, n41, n42, n43, n44, n45, n46, n47, n48, n49, n50, n51, n52, n53, n54, n55, n56, n57, n58, n59, n60, n61, n62, n63, n64, n65, n66, n97, n99, n100, n103, n107, n111, n116, n117, n119, n126, n200, n359, n360, n999, n1000, n9999, n65521, n99999, n1000000, io_neg, io_add, io_sub, io_mul, io_lt, io_le, io_eq, io_nat, Int.toNat_natCast, toNat_c1, ifg, obs, obm, oob, bi0, bi1, bi01, ob_ite, bind_ite, ↓reduceIte, eq_self, p_between, decide_eq_false_iff_not, decide_eq_true_eq]
      by_cases c : 1 ≤ v ∧ v ≤ 99 ∧ w ≤ 99
      · rw [if_pos c, if_neg (not_not_intro (show 1 ≤ (v : Int) ∧ (v : Int) ≤ 99 by omega)), if_neg (not_not_intro (show 0 ≤ (w : Int) ∧ (w : Int) ≤ 99 by omega))]
        rfl
      · rw [if_neg c, if_pos (show ¬ (1 ≤ (v : Int) ∧ (v : Int) ≤ 99) by omega)]
        rfl
    rw [ht]
    unfold tk
    rw [if_pos rfl]
    by_cases c : 1 ≤ v ∧ v ≤ 99 ∧ w ≤ 99
    · rw [if_pos c, if_pos c]
      refine Or.inl ⟨_, _, rfl, rfl, ?_, fun j hj => by simp (disch := omega) only [mu_s, mu_k, mu_j]⟩
      unfold CE
      simp (disch := omega) only [eu_row, eu_self, du_s, du_n, mu_s, mu_k, mu_j]
      exact ⟨PR_fr (fun j _ _ => by simp (disch := omega) only [mu_s, mu_k, mu_j]) h1, PR_fr (fun j _ _ => by simp (disch := omega) only [mu_s, mu_k, mu_j]) h2, PR_fr (fun j _ _ => by simp (disch := omega) only [mu_s, mu_k, mu_j]) h3, PR_fr (fun j _ _ => by simp (disch := omega) only [mu_s, mu_k, mu_j]) h4, h5, h6, h7, trivial, trivial⟩
    · rw [if_neg c, if_neg c]
      exact Or.inr ⟨rfl, rfl⟩
  by_cases c99 : L = 99
  · subst c99
    have ht : f0_take σ 17 (io (99 : Nat)) (io v) (io w) = some (mu σ 17 6 (io v), io 1) := by
      unfold f0_take f0_takeStopCost
      rw [if_neg (by decide), if_pos (by rfl)]
      simp (disch := omega) only [n0, n1, n2, n3, n4, n5, n6, n7, n8, n9, n10, n11, n12, n13, n14, n15, n16, n17, n18, n19, n20, n21, n22, n23, n24, n25, n26, n27, n28, n29, n30, n31, n32, n33, n34, n35, n36, n37, n38, n39, n40, n41, n42, n43, n44, n45, n46, n47, n48, n49, n50, n51, n52, n53, n54, n55, n56, n57, n58, n59, n60, n61, n62, n63, n64, n65, n66, n97, n99, n100, n103, n107, n111, n116, n117, n119, n126, n200, n359, n360, n999, n1000, n9999, n65521, n99999, n1000000, io_neg, io_add, io_sub, io_mul, io_lt, io_le, io_eq, io_nat, Int.toNat_natCast, toNat_c1, ifg, obs, obm, oob, bi0, bi1, bi01, ob_ite, bind_ite, ↓reduceIte, eq_self, p_between, decide_eq_false_iff_not, decide_eq_true_eq]
      rw [if_neg (not_not_intro (show 0 ≤ (v : Int) ∧ (v : Int) ≤ 99 by omega))]
      rfl
    rw [ht]
    unfold tk
    rw [if_neg (by decide), if_pos rfl, if_pos hv]
    refine Or.inl ⟨_, _, rfl, rfl, ?_, fun j hj => by simp (disch := omega) only [mu_s, mu_k, mu_j]⟩
    unfold CE
    simp (disch := omega) only [eu_row, eu_self, du_s, du_n, mu_s, mu_k, mu_j]
    exact ⟨PR_fr (fun j _ _ => by simp (disch := omega) only [mu_s, mu_k, mu_j]) h1, PR_fr (fun j _ _ => by simp (disch := omega) only [mu_s, mu_k, mu_j]) h2, PR_fr (fun j _ _ => by simp (disch := omega) only [mu_s, mu_k, mu_j]) h3, PR_fr (fun j _ _ => by simp (disch := omega) only [mu_s, mu_k, mu_j]) h4, h5, h6, trivial, h8, h9⟩
  by_cases c103 : L = 103
  · subst c103
    have ht : f0_take σ 17 (io (103 : Nat)) (io v) (io w) = if 1 ≤ v ∧ v ≤ 9 then some (mu σ 17 5 (io v), io 1) else some (σ, io 0) := by
      unfold f0_take f0_takeGates
      rw [if_neg (by decide), if_neg (by decide), if_pos (by rfl)]
      simp (disch := omega) only [n0, n1, n2, n3, n4, n5, n6, n7, n8, n9, n10, n11, n12, n13, n14, n15, n16, n17, n18, n19, n20, n21, n22, n23, n24, n25, n26, n27, n28, n29, n30, n31, n32, n33, n34, n35, n36, n37, n38, n39, n40, n41, n42, n43, n44, n45, n46, n47, n48, n49, n50, n51, n52, n53, n54, n55, n56, n57, n58, n59, n60, n61, n62, n63, n64, n65, n66, n97, n99, n100, n103, n107, n111, n116, n117, n119, n126, n200, n359, n360, n999, n1000, n9999, n65521, n99999, n1000000, io_neg, io_add, io_sub, io_mul, io_lt, io_le, io_eq, io_nat, Int.toNat_natCast, toNat_c1, ifg, obs, obm, oob, bi0, bi1, bi01, ob_ite, bind_ite, ↓reduceIte, eq_self, p_between, decide_eq_false_iff_not, decide_eq_true_eq]
      by_cases c : 1 ≤ v ∧ v ≤ 9
      · rw [if_pos c, if_neg (not_not_intro (show 1 ≤ (v : Int) ∧ (v : Int) ≤ 9 by omega))]
        rfl
      · rw [if_neg c, if_pos (show ¬ (1 ≤ (v : Int) ∧ (v : Int) ≤ 9) by omega)]
        rfl
    rw [ht]
    unfold tk
    rw [if_neg (by decide), if_neg (by decide), if_pos rfl]
    by_cases c : 1 ≤ v ∧ v ≤ 9
    · rw [if_pos c, if_pos c]
      refine Or.inl ⟨_, _, rfl, rfl, ?_, fun j hj => by simp (disch := omega) only [mu_s, mu_k, mu_j]⟩
      unfold CE
      simp (disch := omega) only [eu_row, eu_self, du_s, du_n, mu_s, mu_k, mu_j]
      exact ⟨PR_fr (fun j _ _ => by simp (disch := omega) only [mu_s, mu_k, mu_j]) h1, PR_fr (fun j _ _ => by simp (disch := omega) only [mu_s, mu_k, mu_j]) h2, PR_fr (fun j _ _ => by simp (disch := omega) only [mu_s, mu_k, mu_j]) h3, PR_fr (fun j _ _ => by simp (disch := omega) only [mu_s, mu_k, mu_j]) h4, h5, trivial, h7, h8, h9⟩
    · rw [if_neg c, if_neg c]
      exact Or.inr ⟨rfl, rfl⟩
  by_cases c107 : L = 107
  · subst c107
    have ht : f0_take σ 17 (io (107 : Nat)) (io v) (io w) = if v < w ∧ w ≤ 60 ∧ E 0 2 < 6 then some (mu (mu (mu σ 25 (E 0 2) (io v)) 26 (E 0 2) (io w)) 24 3 (io ((E 0 2 : Int) + 1)), io 1) else some (σ, io 0) := by
      unfold f0_take
      rw [if_neg (by decide), if_neg (by decide), if_neg (by decide), if_pos (by rfl), c_isClosing (by omega) (by omega) (by omega) (by omega), obs]
      by_cases c : v < w ∧ w ≤ 60
      · rw [decide_eq_true (show 0 ≤ (v : Int) ∧ (v : Int) ≤ 59 ∧ (v : Int) + 1 ≤ w ∧ (w : Int) ≤ 60 by omega), bi_t, if_neg k10]
        by_cases c2 : E 0 2 < 6
        · rw [show f2_add σ (17 + 7) (io v) (io w) = _ from c_add (h := 24) (lim := 6) h3.1.1 h3.1.2 c2 (by omega), oob, if_neg (by decide), if_pos ⟨c.1, c.2, c2⟩]
          rfl
        · rw [show f2_add σ (17 + 7) (io v) (io w) = _ from c_add_full (h := 24) (lim := 6) h3.1.1 h3.1.2 c2 (by omega), oob, if_pos (by rfl), if_neg (fun z => c2 z.2.2)]
          rfl
      · rw [decide_eq_false (show ¬ (0 ≤ (v : Int) ∧ (v : Int) ≤ 59 ∧ (v : Int) + 1 ≤ w ∧ (w : Int) ≤ 60) by omega), bi_f, if_pos rfl, if_neg (fun z => c ⟨z.1, z.2.1⟩)]
        rfl
    rw [ht]
    unfold tk
    rw [if_neg (by decide), if_neg (by decide), if_neg (by decide), if_pos rfl]
    by_cases c : v < w ∧ w ≤ 60 ∧ E 0 2 < 6
    · rw [if_pos c, if_pos c]
      refine Or.inl ⟨_, _, rfl, rfl, ?_, fun j hj => by simp (disch := omega) only [mu_s, mu_k, mu_j]⟩
      unfold CE
      simp (disch := omega) only [eu_row, eu_self, du_s, du_n, mu_s, mu_k, mu_j]
      exact ⟨PR_fr (fun j _ _ => by simp (disch := omega) only [mu_s, mu_k, mu_j]) h1, PR_fr (fun j _ _ => by simp (disch := omega) only [mu_s, mu_k, mu_j]) h2, PR_add h3, PR_fr (fun j _ _ => by simp (disch := omega) only [mu_s, mu_k, mu_j]) h4, h5, h6, h7, h8, h9⟩
    · rw [if_neg c, if_neg c]
      exact Or.inr ⟨rfl, rfl⟩
  by_cases c111 : L = 111
  · subst c111
    have ht : f0_take σ 17 (io (111 : Nat)) (io v) (io w) = if v ≤ 9 ∧ w ≤ 10 ∧ E 0 7 < 5 then some (mu (mu (mu σ 28 (E 0 7) (io v)) 29 (E 0 7) (io w)) 27 3 (io ((E 0 7 : Int) + 1)), io 1) else some (σ, io 0) := by
      unfold f0_take
      rw [if_neg (by decide), if_neg (by decide), if_neg (by decide), if_neg (by decide), if_pos (by rfl), c_isTold (by omega) (by omega), obs]
      by_cases c : v ≤ 9
      · rw [decide_eq_true (show 0 ≤ (v : Int) ∧ (v : Int) ≤ 9 by omega), bi_t, if_neg k10, show f6_between (io w) 0 10 = _ from p_between (l := 0) (m := 10) (by omega) (by omega) (by omega) (by omega) (by omega) (by omega), obs]
        by_cases c1 : w ≤ 10
        · rw [decide_eq_true (show 0 ≤ (w : Int) ∧ (w : Int) ≤ 10 by omega), bi_t, if_neg k10]
          by_cases c2 : E 0 7 < 5
          · rw [show f2_add σ (17 + 10) (io v) (io w) = _ from c_add (h := 27) (lim := 5) h4.1.1 h4.1.2 c2 (by omega), oob, if_neg (by decide), if_pos ⟨c, c1, c2⟩]
            rfl
          · rw [show f2_add σ (17 + 10) (io v) (io w) = _ from c_add_full (h := 27) (lim := 5) h4.1.1 h4.1.2 c2 (by omega), oob, if_pos (by rfl), if_neg (fun z => c2 z.2.2)]
            rfl
        · rw [decide_eq_false (show ¬ (0 ≤ (w : Int) ∧ (w : Int) ≤ 10) by omega), bi_f, if_pos rfl, if_neg (fun z => c1 z.2.1)]
          rfl
      · rw [decide_eq_false (show ¬ (0 ≤ (v : Int) ∧ (v : Int) ≤ 9) by omega), bi_f, if_pos rfl, if_neg (fun z => c z.1)]
        rfl
    rw [ht]
    unfold tk
    rw [if_neg (by decide), if_neg (by decide), if_neg (by decide), if_neg (by decide), if_pos rfl]
    by_cases c : v ≤ 9 ∧ w ≤ 10 ∧ E 0 7 < 5
    · rw [if_pos c, if_pos c]
      refine Or.inl ⟨_, _, rfl, rfl, ?_, fun j hj => by simp (disch := omega) only [mu_s, mu_k, mu_j]⟩
      unfold CE
      simp (disch := omega) only [eu_row, eu_self, du_s, du_n, mu_s, mu_k, mu_j]
      exact ⟨PR_fr (fun j _ _ => by simp (disch := omega) only [mu_s, mu_k, mu_j]) h1, PR_fr (fun j _ _ => by simp (disch := omega) only [mu_s, mu_k, mu_j]) h2, PR_fr (fun j _ _ => by simp (disch := omega) only [mu_s, mu_k, mu_j]) h3, PR_add h4, h5, h6, h7, h8, h9⟩
    · rw [if_neg c, if_neg c]
      exact Or.inr ⟨rfl, rfl⟩
  by_cases c116 : L = 116
  · subst c116
    have ht : f0_take σ 17 (io (116 : Nat)) (io v) (io w) = if v ≤ 59 ∧ w ≤ 2 ∧ E 0 0 < 6 then some (mu (mu (mu σ 19 (E 0 0) (io v)) 20 (E 0 0) (io w)) 18 3 (io ((E 0 0 : Int) + 1)), io 1) else some (σ, io 0) := by
      unfold f0_take
      rw [if_neg (by decide), if_neg (by decide), if_neg (by decide), if_neg (by decide), if_neg (by decide), if_pos (by rfl), c_isMinute (by omega) (by omega), obs]
      by_cases c : v ≤ 59
      · rw [decide_eq_true (show 0 ≤ (v : Int) ∧ (v : Int) ≤ 59 by omega), bi_t, if_neg k10, show f6_between (io w) 0 2 = _ from p_between (l := 0) (m := 2) (by omega) (by omega) (by omega) (by omega) (by omega) (by omega), obs]
        by_cases c1 : w ≤ 2
        · rw [decide_eq_true (show 0 ≤ (w : Int) ∧ (w : Int) ≤ 2 by omega), bi_t, if_neg k10]
          by_cases c2 : E 0 0 < 6
          · rw [show f2_add σ (17 + 1) (io v) (io w) = _ from c_add (h := 18) (lim := 6) h1.1.1 h1.1.2 c2 (by omega), oob, if_neg (by decide), if_pos ⟨c, c1, c2⟩]
            rfl
          · rw [show f2_add σ (17 + 1) (io v) (io w) = _ from c_add_full (h := 18) (lim := 6) h1.1.1 h1.1.2 c2 (by omega), oob, if_pos (by rfl), if_neg (fun z => c2 z.2.2)]
            rfl
        · rw [decide_eq_false (show ¬ (0 ≤ (w : Int) ∧ (w : Int) ≤ 2) by omega), bi_f, if_pos rfl, if_neg (fun z => c1 z.2.1)]
          rfl
      · rw [decide_eq_false (show ¬ (0 ≤ (v : Int) ∧ (v : Int) ≤ 59) by omega), bi_f, if_pos rfl, if_neg (fun z => c z.1)]
        rfl
    rw [ht]
    unfold tk
    rw [if_neg (by decide), if_neg (by decide), if_neg (by decide), if_neg (by decide), if_neg (by decide), if_pos rfl]
    by_cases c : v ≤ 59 ∧ w ≤ 2 ∧ E 0 0 < 6
    · rw [if_pos c, if_pos c]
      refine Or.inl ⟨_, _, rfl, rfl, ?_, fun j hj => by simp (disch := omega) only [mu_s, mu_k, mu_j]⟩
      unfold CE
      simp (disch := omega) only [eu_row, eu_self, du_s, du_n, mu_s, mu_k, mu_j]
      exact ⟨PR_add h1, PR_fr (fun j _ _ => by simp (disch := omega) only [mu_s, mu_k, mu_j]) h2, PR_fr (fun j _ _ => by simp (disch := omega) only [mu_s, mu_k, mu_j]) h3, PR_fr (fun j _ _ => by simp (disch := omega) only [mu_s, mu_k, mu_j]) h4, h5, h6, h7, h8, h9⟩
    · rw [if_neg c, if_neg c]
      exact Or.inr ⟨rfl, rfl⟩
  by_cases c117 : L = 117
  · subst c117
    have ht : f0_take σ 17 (io (117 : Nat)) (io v) (io w) = if v ≤ 59 ∧ w ≤ 3 ∧ E 0 1 < 8 then some (mu (mu (mu σ 22 (E 0 1) (io v)) 23 (E 0 1) (io w)) 21 3 (io ((E 0 1 : Int) + 1)), io 1) else some (σ, io 0) := by
      unfold f0_take
      rw [if_neg (by decide), if_neg (by decide), if_neg (by decide), if_neg (by decide), if_neg (by decide), if_neg (by decide), if_pos (by rfl), c_isMinute (by omega) (by omega), obs]
      by_cases c : v ≤ 59
      · rw [decide_eq_true (show 0 ≤ (v : Int) ∧ (v : Int) ≤ 59 by omega), bi_t, if_neg k10, show f6_between (io w) 0 3 = _ from p_between (l := 0) (m := 3) (by omega) (by omega) (by omega) (by omega) (by omega) (by omega), obs]
        by_cases c1 : w ≤ 3
        · rw [decide_eq_true (show 0 ≤ (w : Int) ∧ (w : Int) ≤ 3 by omega), bi_t, if_neg k10]
          by_cases c2 : E 0 1 < 8
          · rw [show f2_add σ (17 + 4) (io v) (io w) = _ from c_add (h := 21) (lim := 8) h2.1.1 h2.1.2 c2 (by omega), oob, if_neg (by decide), if_pos ⟨c, c1, c2⟩]
            rfl
          · rw [show f2_add σ (17 + 4) (io v) (io w) = _ from c_add_full (h := 21) (lim := 8) h2.1.1 h2.1.2 c2 (by omega), oob, if_pos (by rfl), if_neg (fun z => c2 z.2.2)]
            rfl
        · rw [decide_eq_false (show ¬ (0 ≤ (w : Int) ∧ (w : Int) ≤ 3) by omega), bi_f, if_pos rfl, if_neg (fun z => c1 z.2.1)]
          rfl
      · rw [decide_eq_false (show ¬ (0 ≤ (v : Int) ∧ (v : Int) ≤ 59) by omega), bi_f, if_pos rfl, if_neg (fun z => c z.1)]
        rfl
    rw [ht]
    unfold tk
    rw [if_neg (by decide), if_neg (by decide), if_neg (by decide), if_neg (by decide), if_neg (by decide), if_neg (by decide), if_pos rfl]
    by_cases c : v ≤ 59 ∧ w ≤ 3 ∧ E 0 1 < 8
    · rw [if_pos c, if_pos c]
      refine Or.inl ⟨_, _, rfl, rfl, ?_, fun j hj => by simp (disch := omega) only [mu_s, mu_k, mu_j]⟩
      unfold CE
      simp (disch := omega) only [eu_row, eu_self, du_s, du_n, mu_s, mu_k, mu_j]
      exact ⟨PR_fr (fun j _ _ => by simp (disch := omega) only [mu_s, mu_k, mu_j]) h1, PR_add h2, PR_fr (fun j _ _ => by simp (disch := omega) only [mu_s, mu_k, mu_j]) h3, PR_fr (fun j _ _ => by simp (disch := omega) only [mu_s, mu_k, mu_j]) h4, h5, h6, h7, h8, h9⟩
    · rw [if_neg c, if_neg c]
      exact Or.inr ⟨rfl, rfl⟩
  by_cases c119 : L = 119
  · subst c119
    have ht : f0_take σ 17 (io (119 : Nat)) (io v) (io w) = if v ≤ 3 ∧ w ≤ 9 then some (mu σ 30 v (io w), io 1) else some (σ, io 0) := by
      unfold f0_take f0_takeWaitCost
      rw [if_neg (by decide), if_neg (by decide), if_neg (by decide), if_neg (by decide), if_neg (by decide), if_neg (by decide), if_neg (by decide), if_pos (by rfl)]
      show (ob (Option.bind (f6_between (io v) (io 0) (io 3)) fun r1 => if r1 = 0 then some (σ, 0) else Option.bind (f6_between (io w) (io 0) (io 9)) fun r3 => if r3 = 0 then some (σ, 0) else if ¬ (io (v : Int) < 0 ∨ 4 ≤ (io (v : Int)).toNatClampNeg) then (bm (mu σ 30 (io (v : Int)).toNatClampNeg (io w)) fun σ6 => some (σ6, 1)) else none) _) = _
      rw [p_between (by omega) (by omega) (by omega) (by omega) (by omega) (by omega), obs, p_between (by omega) (by omega) (by omega) (by omega) (by omega) (by omega), obs]
      by_cases c : v ≤ 3
      · rw [decide_eq_true (show 0 ≤ (v : Int) ∧ (v : Int) ≤ 3 by omega), bi_t, if_neg k10]
        by_cases c1 : w ≤ 9
        · rw [decide_eq_true (show 0 ≤ (w : Int) ∧ (w : Int) ≤ 9 by omega), bi_t, if_neg k10, if_pos (in_ix (n := 4) (by omega) (by decide)), io_ix (by omega), obm, oob, if_pos (show v ≤ 3 ∧ w ≤ 9 from ⟨c, c1⟩)]
          rfl
        · rw [decide_eq_false (show ¬ (0 ≤ (w : Int) ∧ (w : Int) ≤ 9) by omega), bi_f, if_pos rfl, oob, if_neg (show ¬ (v ≤ 3 ∧ w ≤ 9) from fun z => c1 z.2)]
          rfl
      · rw [decide_eq_false (show ¬ (0 ≤ (v : Int) ∧ (v : Int) ≤ 3) by omega), bi_f, if_pos rfl, oob, if_neg (show ¬ (v ≤ 3 ∧ w ≤ 9) from fun z => c z.1)]
        rfl
    rw [ht]
    unfold tk
    rw [if_neg (by decide), if_neg (by decide), if_neg (by decide), if_neg (by decide), if_neg (by decide), if_neg (by decide), if_neg (by decide), if_pos rfl]
    by_cases c : v ≤ 3 ∧ w ≤ 9
    · rw [if_pos c, if_pos c]
      refine Or.inl ⟨_, _, rfl, rfl, ?_, fun j hj => by simp (disch := omega) only [mu_s, mu_k, mu_j]⟩
      unfold CE
      simp (disch := omega) only [eu_row, eu_self, du_s, du_n, mu_s, mu_k, mu_j]
      refine ⟨PR_fr (fun j _ _ => by simp (disch := omega) only [mu_s, mu_k, mu_j]) h1, PR_fr (fun j _ _ => by simp (disch := omega) only [mu_s, mu_k, mu_j]) h2, PR_fr (fun j _ _ => by simp (disch := omega) only [mu_s, mu_k, mu_j]) h3, PR_fr (fun j _ _ => by simp (disch := omega) only [mu_s, mu_k, mu_j]) h4, fun k hk => ?_, h6, h7, h8, h9⟩
      by_cases e : k = v
      · subst e; rw [mu_s, du_s]
      · rw [mu_k _ _ e, du_n _ _ e]; exact h5 k hk
    · rw [if_neg c, if_neg c]
      exact Or.inr ⟨rfl, rfl⟩
  · refine Or.inr ⟨?_, ?_⟩
    · unfold tk
      rw [if_neg c97, if_neg c99, if_neg c103, if_neg c107, if_neg c111, if_neg c116, if_neg c117, if_neg c119]
    · unfold f0_take
      rw [if_neg (show ¬ io (L : Int) = 97 from lit_ne (k := 97) hL (by omega) c97), if_neg (show ¬ io (L : Int) = 99 from lit_ne (k := 99) hL (by omega) c99), if_neg (show ¬ io (L : Int) = 103 from lit_ne (k := 103) hL (by omega) c103), if_neg (show ¬ io (L : Int) = 107 from lit_ne (k := 107) hL (by omega) c107), if_neg (show ¬ io (L : Int) = 111 from lit_ne (k := 111) hL (by omega) c111), if_neg (show ¬ io (L : Int) = 116 from lit_ne (k := 116) hL (by omega) c116), if_neg (show ¬ io (L : Int) = 117 from lit_ne (k := 117) hL (by omega) c117), if_neg (show ¬ io (L : Int) = 119 from lit_ne (k := 119) hL (by omega) c119)]
      rfl
end ItemC
