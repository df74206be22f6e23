/-! THE START: both objects as they begin -/
section Init
variable {σ σ' σc σm : Mem} {l : Nat} {X : Nat → Nat} {E E' : PS}
theorem rdP_b8 (hX : XB l X) : ∀ n p x3 nc E E' σ, rdP l X n E p = some E' → n ≤ nc → x3 ≤ p → p ≤ l → CT σ l X → CE σ E → EB E → ∃ σ', f5_readInto_b8 1 17 nc σ (io (p : Nat)) (io (x3 : Nat)) = some (σ', io (-4)) ∧ CE σ' E' ∧ EB E' ∧ FC σ σ' := by
  have hl := hX.1
  intro n
  induction n with
  | zero => intro p x3 nc E E' σ h; cases (show none = some E' from h)
  | succ n ih =>
    intro p x3 nc E E' σ h hn h3 hp hT hC hE
    obtain ⟨nc, rfl⟩ : ∃ t, nc = t + 1 := ⟨nc - 1, by omega⟩
    rw [rdP] at h
    rw [f5_readInto_b8, hT.1]
    by_cases c : l ≤ p
    · rw [if_pos c] at h
      have h := Option.some.inj h
      subst h
      refine ⟨σ, ?_, hC, hE, FC.refl⟩
      by_cases c2 : 200 ≤ x3
      · rw [if_pos (by simp (disch := omega) only [n0, n1, n2, n3, n4, n5, n6, n7, n8, n9, n10, n11, n12, n13, n14, n15, n16, n17, n18, n19, n20, n21, n22, n23, n24, n25, n26, n27, n28, n29, n30, n31, n32, n33, n34, n35, n36, n37, n38, n39, n40, n41, n42, n43, n44, n45, n46, n47, n48, n49, n50, n51, n52, n53, n54, n55, n56, n57, n58, n59, n60, n61, n62, n63, n64, n65, n66, n97, n99, n100, n103, n107, n111, n116, n117, n119, n126, n200, n359, n360, n999, n1000, n9999, n65521, n99999, n1000000, io_neg, io_add, io_sub, io_mul, io_lt, io_le, io_eq, io_nat, Int.toNat_natCast, toNat_c1, ifg, obs, obm, oob, bi0, bi1, bi01]; omega)]; rfl
      · rw [if_neg (by simp (disch := omega) only [n0, n1, n2, n3, n4, n5, n6, n7, n8, n9, n10, n11, n12, n13, n14, n15, n16, n17, n18, n19, n20, n21, n22, n23, n24, n25, n26, n27, n28, n29, n30, n31, n32, n33, n34, n35, n36, n37, n38, n39, n40, n41, n42, n43, n44, n45, n46, n47, n48, n49, n50, n51, n52, n53, n54, n55, n56, n57, n58, n59, n60, n61, n62, n63, n64, n65, n66, n97, n99, n100, n103, n107, n111, n116, n117, n119, n126, n200, n359, n360, n999, n1000, n9999, n65521, n99999, n1000000, io_neg, io_add, io_sub, io_mul, io_lt, io_le, io_eq, io_nat, Int.toNat_natCast, toNat_c1, ifg, obs, obm, oob, bi0, bi1, bi01]; omega), if_pos (by simp (disch := omega) only [n0, n1, n2, n3, n4, n5, n6, n7, n8, n9, n10, n11, n12, n13, n14, n15, n16, n17, n18, n19, n20, n21, n22, n23, n24, n25, n26, n27, n28, n29, n30, n31, n32, n33, n34, n35, n36, n37, n38, n39, n40, n41, n42, n43, n44, n45, n46, n47, n48, n49, n50, n51, n52, n53, n54, n55, n56, n57, n58, n59, n60, n61, n62, n63, n64, n65, n66, n97, n99, n100, n103, n107, n111, n116, n117, n119, n126, n200, n359, n360, n999, n1000, n9999, n65521, n99999, n1000000, io_neg, io_add, io_sub, io_mul, io_lt, io_le, io_eq, io_nat, Int.toNat_natCast, toNat_c1, ifg, obs, obm, oob, bi0, bi1, bi01]; omega)]; rfl
    · rw [if_neg c] at h
      rw [if_neg (by simp (disch := omega) only [n0, n1, n2, n3, n4, n5, n6, n7, n8, n9, n10, n11, n12, n13, n14, n15, n16, n17, n18, n19, n20, n21, n22, n23, n24, n25, n26, n27, n28, n29, n30, n31, n32, n33, n34, n35, n36, n37, n38, n39, n40, n41, n42, n43, n44, n45, n46, n47, n48, n49, n50, n51, n52, n53, n54, n55, n56, n57, n58, n59, n60, n61, n62, n63, n64, n65, n66, n97, n99, n100, n103, n107, n111, n116, n117, n119, n126, n200, n359, n360, n999, n1000, n9999, n65521, n99999, n1000000, io_neg, io_add, io_sub, io_mul, io_lt, io_le, io_eq, io_nat, Int.toNat_natCast, toNat_c1, ifg, obs, obm, oob, bi0, bi1, bi01]; omega), if_neg (by simp (disch := omega) only [n0, n1, n2, n3, n4, n5, n6, n7, n8, n9, n10, n11, n12, n13, n14, n15, n16, n17, n18, n19, n20, n21, n22, n23, n24, n25, n26, n27, n28, n29, n30, n31, n32, n33, n34, n35, n36, n37, n38, n39, n40, n41, n42, n43, n44, n45, n46, n47, n48, n49, n50, n51, n52, n53, n54, n55, n56, n57, n58, n59, n60, n61, n62, n63, n64, n65, n66, n97, n99, n100, n103, n107, n111, n116, n117, n119, n126, n200, n359, n360, n999, n1000, n9999, n65521, n99999, n1000000, io_neg, io_add, io_sub, io_mul, io_lt, io_le, io_eq, io_nat, Int.toNat_natCast, toNat_c1, ifg, obs, obm, oob, bi0, bi1, bi01]; omega)]
      have q1 := c_item hX hE hT hC (p := p) (by omega)
      cases hi : itm l X E p with
      | none => rw [hi] at h; cases h
      | some w =>
        obtain ⟨E2, e⟩ := w
        rw [hi] at h q1
        obtain ⟨σ1, e1, f1, g1⟩ := q1
        have hb := itm_b hE hi
        simp only at e1 f1 h
        have ex : io (x3 : Int) + 1 = io ((x3 + 1 : Nat) : Int) := by rw [n1, io_add]; congr 1
        rw [e1, oob, if_neg (show ¬ io (e : Int) = -4 by rw [nm4, io_eq (by omega) (by omega) (by omega) (by omega)]; omega), ex]
        obtain ⟨σ2, e2, f2, f3, g2⟩ := ih e (x3 + 1) nc E2 E' σ1 h (by omega) (by omega) hb.2.2.2 (g1.ct hT) f1 hb.1
        exact ⟨σ2, e2, f2, f3, g1.trans g2⟩
theorem IC_s0 : IC s0C (fun _ _ => 0) (fun _ => 0) 0 XT 0 (fun _ _ => 0) 0 (fun _ _ => 0) 0 (fun _ => 0) (fun _ => 0) := by
  refine ⟨⟨by decide, fun k hk => by omega⟩, ⟨⟨by decide, by decide, by decide, by decide, by decide, by decide, by decide⟩, fun i hi => absurd hi (Nat.not_lt_zero _), fun i hi => absurd hi (Nat.not_lt_zero _), fun k hk => ?_, fun i hi => absurd hi (Nat.not_lt_zero _), ⟨by decide, by decide, by decide, by decide⟩⟩, ⟨by decide, by decide, by decide, by decide⟩, ⟨⟨by decide, by decide⟩, fun i hi => ?_, fun k hk => absurd hk (Nat.not_lt_zero _)⟩, by decide, fun r hr => Or.inl ?_, ⟨id, by decide, fun i hi => ⟨hi, ?_⟩, fun i j _ _ h => h, fun i hi => ?_, fun i hi => by omega⟩, ⟨id, by decide, fun i hi => ⟨hi, ?_⟩, fun i j _ _ h => h, fun i hi => ?_, fun i hi => by omega⟩, ⟨⟨by decide, by decide⟩, fun k hk => by omega⟩, Or.inl (by decide)⟩
  · obtain rfl | rfl | rfl | rfl : k = 0 ∨ k = 1 ∨ k = 2 ∨ k = 3 := by omega
    all_goals decide
  · obtain rfl | rfl | rfl | rfl | rfl | rfl : i = 0 ∨ i = 1 ∨ i = 2 ∨ i = 3 ∨ i = 4 ∨ i = 5 := by omega
    all_goals decide
  · obtain rfl | rfl | rfl | rfl : r = 0 ∨ r = 1 ∨ r = 2 ∨ r = 3 := by omega
    all_goals decide
  · obtain rfl | rfl | rfl | rfl | rfl | rfl | rfl | rfl : i = 0 ∨ i = 1 ∨ i = 2 ∨ i = 3 ∨ i = 4 ∨ i = 5 ∨ i = 6 ∨ i = 7 := by omega
    all_goals decide
  · obtain rfl | rfl | rfl | rfl | rfl | rfl | rfl | rfl : i = 0 ∨ i = 1 ∨ i = 2 ∨ i = 3 ∨ i = 4 ∨ i = 5 ∨ i = 6 ∨ i = 7 := by omega
    all_goals decide
  · obtain rfl | rfl : i = 0 ∨ i = 1 := by omega
    all_goals decide
  · obtain rfl | rfl : i = 0 ∨ i = 1 := by omega
    all_goals decide
theorem c_text : ∀ d k n σ, k + d = 107 → d < n → IC σ (fun _ _ => 0) (fun _ => 0) k XT 0 (fun _ _ => 0) 0 (fun _ _ => 0) 0 (fun _ => 0) (fun _ => 0) → ∃ σ', f6_init n σ k = (ob (f6_layText σ') fun σ1 _ => ob (f5_empty σ1 1) fun σ2 _ => some σ2) ∧ IC σ' (fun _ _ => 0) (fun _ => 0) 107 XT 0 (fun _ _ => 0) 0 (fun _ _ => 0) 0 (fun _ => 0) (fun _ => 0) := by
  intro d
  induction d with
  | zero =>
    intro k n σ hk hn H
    obtain ⟨n, rfl⟩ : ∃ t, n = t + 1 := ⟨n - 1, by omega⟩
    have : k = 107 := by omega
    subst this
    exact ⟨σ, by rw [f6_init, if_neg (by omega)], H⟩
  | succ d ih =>
    intro k n σ hk hn H
    obtain ⟨n, rfl⟩ : ∃ t, n = t + 1 := ⟨n - 1, by omega⟩
    have hx := at_x (k := k) (by omega)
    have hT := H.1
    have ha : f5_add σ 1 (io (XT k)) = some (mu (mu σ 2 k (io (XT k))) 1 1 (io ((k + 1 : Nat) : Int)), io 1) := by
      unfold f5_add
      rw [hT.1]
      simp (disch := omega) only [n0, n1, n2, n3, n4, n5, n6, n7, n8, n9, n10, n11, n12, n13, n14, n15, n16, n17, n18, n19, n20, n21, n22, n23, n24, n25, n26, n27, n28, n29, n30, n31, n32, n33, n34, n35, n36, n37, n38, n39, n40, n41, n42, n43, n44, n45, n46, n47, n48, n49, n50, n51, n52, n53, n54, n55, n56, n57, n58, n59, n60, n61, n62, n63, n64, n65, n66, n97, n99, n100, n103, n107, n111, n116, n117, n119, n126, n200, n359, n360, n999, n1000, n9999, n65521, n99999, n1000000, io_neg, io_add, io_sub, io_mul, io_lt, io_le, io_eq, io_nat, Int.toNat_natCast, toNat_c1, ifg, obs, obm, oob, bi0, bi1, bi01, ob_ite, bind_ite, ↓reduceIte, eq_self, mu_s, mu_k, mu_j, hT.1, Nat.reduceAdd]
      rw [if_pos (show (k : Int) < 200 by omega)]
      rfl
    rw [f6_init, if_pos (by omega), hx.1, ha, oob]
    refine ih (k + 1) n _ (by omega) (by omega) (IC_text (by omega) (by omega) H (fun j z1 z2 => by rw [mu_j _ _ _ z1, mu_j _ _ _ z2]) ⟨by rw [mu_s], fun i hi => ?_⟩)
    rw [mu_j _ _ _ (by omega)]
    by_cases e : i = k
    · subst e; rw [mu_s]
    · rw [mu_k _ _ e]; exact hT.2 i (by omega)
theorem init_c : ∃ σ E, f6_init 1000 s0C 0 = some σ ∧ EB E ∧ layB E ∧ (∀ t, t ∈ EL → E t.1 t.2.1 = t.2.2) ∧ IC σ E (dN E) 0 XT 0 (fun _ _ => 0) 0 (fun _ _ => 0) 0 (fun _ => 0) (fun _ => 0) := by
  obtain ⟨σ1, e1, H1⟩ := c_text 107 0 1000 s0C rfl (by omega) IC_s0
  have hX : XB 107 XT := XB_T (Nat.le_refl _)
  obtain ⟨E, hE, hEL⟩ := (Option.any_eq_true _ _).mp rdF
  have hEL : ∀ t, t ∈ EL → E t.1 t.2.1 = t.2.2 := fun t ht => of_decide_eq_true (List.all_eq_true.mp hEL t ht)
  obtain ⟨σ2, e2, f2, g2⟩ := c_begin H1.2.2.1
  have hf2 : FC σ1 σ2 := ⟨fun k _ => by rw [g2 1 (by omega)], fun j _ z => g2 j z⟩
  obtain ⟨σ3, e3, f3, hEB, g3⟩ := rdP_b8 hX 100 0 0 1000 E0 E σ2 hE (by omega) (by omega) (by omega) (hf2.ct H1.1) f2 EB_E0
  have H3 := IC_read (by omega) (by omega) H1 (hf2.trans g3) f3
  have hlay : layB E := by
    have a0 : E 0 0 = 4 := hEL (0, 0, 4) (by decide)
    have a7 : E 0 7 = 3 := hEL (0, 7, 3) (by decide)
    have b0 : E 10 0 = 5 := hEL (10, 0, 5) (by decide)
    have b1 : E 10 1 = 3 := hEL (10, 1, 3) (by decide)
    have b2 : E 10 2 = 2 := hEL (10, 2, 2) (by decide)
    refine ⟨by omega, Or.inr ?_⟩
    rw [a7]
    simp only [sumN, b0, b1, b2]
    rfl
  obtain ⟨σ4, e4, H4⟩ := c_layIt H3 hEB f3
  have hr : f5_readInto σ1 1 17 = some (σ3, io (-4)) := by
    unfold f5_readInto
    rw [e2, obs]
    exact e3
  have hl : f6_layText σ1 = some (σ4, (1 : Int32)) := by
    unfold f6_layText
    rw [hr, oob, if_pos (show io (-4) = -4 from rfl), c_canLay hEB f3, obs, decide_eq_true hlay, bi_t, if_neg (by decide)]
    exact e4
  refine ⟨mu σ4 1 1 (io 0), E, ?_, hEB, hlay, hEL, IC_text (by omega) (by omega) H4 (fun j z1 z2 => by rw [mu_j _ _ _ z1]) ⟨by rw [mu_s]; rfl, fun k hk => by omega⟩⟩
  rw [e1, hl, oob]
  unfold f5_empty
  rw [obm, oob]
  rfl
theorem init_m (hEB : EB E) (hEL : ∀ t, t ∈ EL → E t.1 t.2.1 = t.2.2) : ∃ σ, f7_init (fun _ _ => 0) = some σ ∧ IM σ E (dN E) 0 XT 0 (fun _ _ => 0) 0 (fun _ _ => 0) 0 (fun _ => 0) (fun _ => 0) := by
  obtain ⟨σ, hσ, hML⟩ := (Option.any_eq_true _ _).mp mdF
  have M : ∀ j k v, (j, k, v) ∈ ML → σ j k = io (v : Nat) := fun j k v ht => of_decide_eq_true (List.all_eq_true.mp hML (j, k, v) ht)
  have EE : ∀ j k v, (j, k, v) ∈ EL → E j k = v := fun j k v ht => hEL (j, k, v) ht
  have a0 := EE 0 0 4 (by decide)
  have a1 := EE 0 1 6 (by decide)
  have a2 := EE 0 2 3 (by decide)
  have a7 := EE 0 7 3 (by decide)
  refine ⟨σ, hσ, ⟨M 0 0 0 (by decide), fun k hk => by omega⟩, ⟨⟨?_, ?_, ?_, ?_, ?_, ?_, ?_⟩, fun i hi => ?_, fun i hi => ?_, fun k hk => ?_, fun k hk => ?_⟩, ⟨fun i hi => ?_, ?_, fun k hk => ?_⟩, ⟨M 0 18 0 (by decide), fun i hi => by omega⟩, ⟨M 0 20 0 (by decide), fun i hi => by omega⟩, ⟨M 0 21 0 (by decide), fun i hi => by omega⟩⟩
  · rw [a0]; exact M 3 0 4 (by decide)
  · rw [a1]; exact M 6 0 6 (by decide)
  · rw [EE 0 3 4 (by decide)]; exact M 9 0 4 (by decide)
  · rw [EE 0 4 20 (by decide)]; exact M 9 1 20 (by decide)
  · rw [EE 0 5 60 (by decide)]; exact M 9 2 60 (by decide)
  · rw [EE 0 6 30 (by decide)]; exact M 9 3 30 (by decide)
  · rw [a7]; exact M 14 0 3 (by decide)
  · obtain rfl | rfl | rfl | rfl : i = 0 ∨ i = 1 ∨ i = 2 ∨ i = 3 := by omega
    · rw [EE 1 0 10 (by decide), EE 2 0 0 (by decide)]; exact ⟨M 4 0 10 (by decide), M 5 0 0 (by decide)⟩
    · rw [EE 1 1 13 (by decide), EE 2 1 1 (by decide)]; exact ⟨M 4 1 13 (by decide), M 5 1 1 (by decide)⟩
    · rw [EE 1 2 30 (by decide), EE 2 2 2 (by decide)]; exact ⟨M 4 2 30 (by decide), M 5 2 2 (by decide)⟩
    · rw [EE 1 3 41 (by decide), EE 2 3 0 (by decide)]; exact ⟨M 4 3 41 (by decide), M 5 3 0 (by decide)⟩
  · obtain rfl | rfl | rfl | rfl | rfl | rfl : i = 0 ∨ i = 1 ∨ i = 2 ∨ i = 3 ∨ i = 4 ∨ i = 5 := by omega
    · rw [EE 3 0 8 (by decide), EE 4 0 0 (by decide)]; exact ⟨M 7 0 8 (by decide), M 8 0 0 (by decide)⟩
    · rw [EE 3 1 9 (by decide), EE 4 1 1 (by decide)]; exact ⟨M 7 1 9 (by decide), M 8 1 1 (by decide)⟩
    · rw [EE 3 2 12 (by decide), EE 4 2 2 (by decide)]; exact ⟨M 7 2 12 (by decide), M 8 2 2 (by decide)⟩
    · rw [EE 3 3 29 (by decide), EE 4 3 3 (by decide)]; exact ⟨M 7 3 29 (by decide), M 8 3 3 (by decide)⟩
    · rw [EE 3 4 31 (by decide), EE 4 4 0 (by decide)]; exact ⟨M 7 4 31 (by decide), M 8 4 0 (by decide)⟩
    · rw [EE 3 5 40 (by decide), EE 4 5 0 (by decide)]; exact ⟨M 7 5 40 (by decide), M 8 5 0 (by decide)⟩
  · obtain rfl | rfl | rfl | rfl : k = 0 ∨ k = 1 ∨ k = 2 ∨ k = 3 := by omega
    · rw [EE 8 0 1 (by decide)]; exact M 10 0 1 (by decide)
    · rw [EE 8 1 1 (by decide)]; exact M 10 1 1 (by decide)
    · rw [EE 8 2 5 (by decide)]; exact M 10 2 5 (by decide)
    · rw [EE 8 3 1 (by decide)]; exact M 10 3 1 (by decide)
  · obtain rfl | rfl | rfl : k = 0 ∨ k = 1 ∨ k = 2 := by omega
    · rw [EE 9 0 0 (by decide), EE 10 0 5 (by decide)]; exact ⟨M 15 0 0 (by decide), M 16 0 5 (by decide)⟩
    · rw [EE 9 1 2 (by decide), EE 10 1 3 (by decide)]; exact ⟨M 15 1 2 (by decide), M 16 1 3 (by decide)⟩
    · rw [EE 9 2 5 (by decide), EE 10 2 2 (by decide)]; exact ⟨M 15 2 5 (by decide), M 16 2 2 (by decide)⟩
  · have : dN E i = 0 := by unfold dN; rw [if_pos hi]
    rw [this]
    obtain rfl | rfl | rfl | rfl | rfl | rfl : i = 0 ∨ i = 1 ∨ i = 2 ∨ i = 3 ∨ i = 4 ∨ i = 5 := by omega
    · exact M 17 0 0 (by decide)
    · exact M 17 1 0 (by decide)
    · exact M 17 2 0 (by decide)
    · exact M 17 3 0 (by decide)
    · exact M 17 4 0 (by decide)
    · exact M 17 5 0 (by decide)
  · rw [dN_6, a2]; exact M 17 6 3 (by decide)
  · rw [dN_6, a2] at hk
    rw [dN_7 (by omega), dN_13]
    obtain rfl | rfl | rfl : k = 0 ∨ k = 1 ∨ k = 2 := by omega
    · rw [EE 6 0 6 (by decide), EE 7 0 14 (by decide)]; exact ⟨M 17 7 6 (by decide), M 17 13 14 (by decide)⟩
    · rw [EE 6 1 29 (by decide), EE 7 1 32 (by decide)]; exact ⟨M 17 8 29 (by decide), M 17 14 32 (by decide)⟩
    · rw [EE 6 2 38 (by decide), EE 7 2 43 (by decide)]; exact ⟨M 17 9 38 (by decide), M 17 15 43 (by decide)⟩
theorem maths : ∃ σc σm : Mem, f6_init 1000 s0C 0 = some σc ∧ f7_init (fun _ _ => 0) = some σm ∧ ∀ (xs : Nat → Int32) (L : Nat), L ≤ 2048 → lawG xs L (L + 1) 0 σc σm = some () := by
  obtain ⟨σc, E, e1, hEB, hlay, hEL, hC⟩ := init_c
  obtain ⟨σm, e2, hM⟩ := init_m hEB hEL
  refine ⟨σc, σm, e1, e2, fun xs L _ => law_ok xs L (L + 1) 0 σc σm ⟨E, dN E, 0, XT, 0, fun _ _ => 0, 0, fun _ _ => 0, 0, fun _ => 0, fun _ => 0, ⟨BB_E hEB hlay, DB_dN hEB, ⟨by omega, fun k hk => by omega⟩, ⟨by omega, fun k hk => by omega⟩, ⟨by omega, fun k hk => by omega⟩, ⟨by omega, fun k hk => by omega⟩⟩, hC, hM⟩ (by omega) (by omega)⟩
end Init
