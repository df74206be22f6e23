/-! THE REFERENCE LAYS A TEXT; lay -/
theorem tn4 (i : Nat) : (4 + (i : Int)).toNat = 4 + i := by omega
theorem tn5 (i : Nat) : (5 + (i : Int)).toNat = 5 + i := by omega
theorem tn6 (i : Nat) : (6 + (i : Int)).toNat = 6 + i := by omega
theorem tn7 (i : Nat) : (7 + (i : Int)).toNat = 7 + i := by omega
theorem tn8 (i : Nat) : (8 + (i : Int)).toNat = 8 + i := by omega
theorem tn13 (i : Nat) : (13 + (i : Int)).toNat = 13 + i := by omega
theorem mu_row (σ : Mem) (j k : Nat) (x : Int32) : mu σ j k x j = upd (σ j) k x := by simp [mu]
/-- the first i of a row are those from o on -/
def Cp (t s : Mem) (j o i : Nat) : Prop := (∀ k, k < i → t j k = s j (o + k)) ∧ ∀ k, o ≤ k → t j k = s j k
section LayM
variable {σ σ' σ1 s t σc σm : Mem} {l : Nat} {X : Nat → Nat} {E : PS} {p : Nat} {B P : PS} {D : Nat → Nat} {m : Nat} {U : PS} {m2 : Nat} {V : PS} {q : Nat} {Z Y : Nat → Nat}
theorem Cp_0 (s : Mem) (j o : Nat) : Cp s s j o 0 := ⟨fun k hk => by omega, fun _ _ => rfl⟩
theorem Cp_s {j o i : Nat} (hi : i < o) (h : Cp t s j o i) : Cp (mu t j i (t j (o + i))) s j o (i + 1) := by
  obtain ⟨h1, h2⟩ := h
  refine ⟨fun k hk => ?_, fun k hk => ?_⟩
  · by_cases e : k = i
    · subst e; rw [mu_s, h2 _ (by omega)]
    · rw [mu_k _ _ e]; exact h1 k (by omega)
  · rw [mu_k _ _ (by omega)]; exact h2 k hk
theorem Cp_f {j o i : Nat} {t' : Mem} (hf : t' j = t j) (h : Cp t s j o i) : Cp t' s j o i := by
  unfold Cp at *
  rw [hf]
  exact h
theorem m_lay90 (s : Mem) : ∃ t, f7_lay_b90 1000 s (io 0) = f7_lay_b164 1000 t (io 0) ∧ Cp t s 4 6 6 ∧ Cp t s 5 6 6 ∧ Cp t s 12 6 6 ∧ Cp t s 13 6 6 ∧ ∀ j, j ≠ 4 → j ≠ 5 → j ≠ 12 → j ≠ 13 → t j = s j := by
  have key := lock_loop (fun r (t : Mem) i => f7_lay_b90 r t i) (fun t => f7_lay_b164 1000 t (io 0)) 6 (fun _ (a : Unit) => a) (fun i _ t => Cp t s 4 6 i ∧ Cp t s 5 6 i ∧ Cp t s 12 6 i ∧ Cp t s 13 6 i ∧ ∀ j, j ≠ 4 → j ≠ 5 → j ≠ 12 → j ≠ 13 → t j = s j) (a0 := ()) (t0 := s) ⟨Cp_0 s 4 6, Cp_0 s 5 6, Cp_0 s 12 6, Cp_0 s 13 6, fun _ _ _ _ _ => rfl⟩ (fun r a t hI => ?_) (fun r i a t hi hI => ?_) 1000 (by omega)
  · exact key
  · show f7_lay_b90 (r + 1) _ _ = _
    rw [f7_lay_b90, if_pos (by decide), n0]
  · show ∃ t', f7_lay_b90 (r + 1) _ _ = f7_lay_b90 r _ _ ∧ _
    obtain ⟨k1, k2, k3, k4, k5⟩ := hI
    rw [f7_lay_b90, if_neg (by simp (disch := omega) only [n0, n1, n2, n3, n4, n5, n6, n7, n8, n9, n10, n11, n12, n13, n14, n15, n16, n17, n18, n19, n20, n21, n22, n23, n24, n25, n26, n27, n28, n29, n30, n31, n32, n33, n34, n35, n36, n37, n38, n39, n40, n41, n42, n43, n44, n45, n46, n47, n48, n49, n50, n51, n52, n53, n54, n55, n56, n57, n58, n59, n60, n61, n62, n63, n64, n65, n66, n97, n99, n100, n103, n107, n111, n116, n117, n119, n126, n200, n359, n360, n999, n1000, n9999, n65521, n99999, n1000000, io_neg, io_add, io_sub, io_mul, io_lt, io_le, io_eq, io_nat, Int.toNat_natCast, toNat_c1, ifg, obs, obm, oob, bi0, bi1, bi01]; omega)]
    simp (disch := omega) only [n0, n1, n2, n3, n4, n5, n6, n7, n8, n9, n10, n11, n12, n13, n14, n15, n16, n17, n18, n19, n20, n21, n22, n23, n24, n25, n26, n27, n28, n29, n30, n31, n32, n33, n34, n35, n36, n37, n38, n39, n40, n41, n42, n43, n44, n45, n46, n47, n48, n49, n50, n51, n52, n53, n54, n55, n56, n57, n58, n59, n60, n61, n62, n63, n64, n65, n66, n97, n99, n100, n103, n107, n111, n116, n117, n119, n126, n200, n359, n360, n999, n1000, n9999, n65521, n99999, n1000000, io_neg, io_add, io_sub, io_mul, io_lt, io_le, io_eq, io_nat, Int.toNat_natCast, toNat_c1, ifg, obs, obm, oob, bi0, bi1, bi01, ob_ite, bind_ite, ↓reduceIte, eq_self, mu_s, mu_k, mu_j, tn4, tn5, tn6, tn7, tn8, tn13]
    refine ⟨_, rfl, Cp_f (by simp (disch := omega) only [mu_row, mu_j]) (Cp_s hi k1), ?_, ?_, ?_, fun j z1 z2 z3 z4 => ?_⟩
    · exact Cp_f (by simp (disch := omega) only [mu_row, mu_j]) (Cp_s hi k2)
    · exact Cp_f (by simp (disch := omega) only [mu_row, mu_j]) (Cp_s hi k3)
    · exact Cp_f (by simp (disch := omega) only [mu_row, mu_j]) (Cp_s hi k4)
    · simp (disch := omega) only [mu_s, mu_k, mu_j]; exact k5 j z1 z2 z3 z4
theorem m_lay164 (s : Mem) : ∃ t, f7_lay_b164 1000 s (io 0) = f7_lay_b208 1000 t (io 0) ∧ Cp t s 7 8 8 ∧ Cp t s 8 8 8 ∧ ∀ j, j ≠ 7 → j ≠ 8 → t j = s j := by
  have key := lock_loop (fun r (t : Mem) i => f7_lay_b164 r t i) (fun t => f7_lay_b208 1000 t (io 0)) 8 (fun _ (a : Unit) => a) (fun i _ t => Cp t s 7 8 i ∧ Cp t s 8 8 i ∧ ∀ j, j ≠ 7 → j ≠ 8 → t j = s j) (a0 := ()) (t0 := s) ⟨Cp_0 s 7 8, Cp_0 s 8 8, fun _ _ _ => rfl⟩ (fun r a t hI => ?_) (fun r i a t hi hI => ?_) 1000 (by omega)
  · exact key
  · show f7_lay_b164 (r + 1) _ _ = _
    rw [f7_lay_b164, if_pos (by decide), n0]
  · show ∃ t', f7_lay_b164 (r + 1) _ _ = f7_lay_b164 r _ _ ∧ _
    obtain ⟨k1, k2, k5⟩ := hI
    rw [f7_lay_b164, if_neg (by simp (disch := omega) only [n0, n1, n2, n3, n4, n5, n6, n7, n8, n9, n10, n11, n12, n13, n14, n15, n16, n17, n18, n19, n20, n21, n22, n23, n24, n25, n26, n27, n28, n29, n30, n31, n32, n33, n34, n35, n36, n37, n38, n39, n40, n41, n42, n43, n44, n45, n46, n47, n48, n49, n50, n51, n52, n53, n54, n55, n56, n57, n58, n59, n60, n61, n62, n63, n64, n65, n66, n97, n99, n100, n103, n107, n111, n116, n117, n119, n126, n200, n359, n360, n999, n1000, n9999, n65521, n99999, n1000000, io_neg, io_add, io_sub, io_mul, io_lt, io_le, io_eq, io_nat, Int.toNat_natCast, toNat_c1, ifg, obs, obm, oob, bi0, bi1, bi01]; omega)]
    simp (disch := omega) only [n0, n1, n2, n3, n4, n5, n6, n7, n8, n9, n10, n11, n12, n13, n14, n15, n16, n17, n18, n19, n20, n21, n22, n23, n24, n25, n26, n27, n28, n29, n30, n31, n32, n33, n34, n35, n36, n37, n38, n39, n40, n41, n42, n43, n44, n45, n46, n47, n48, n49, n50, n51, n52, n53, n54, n55, n56, n57, n58, n59, n60, n61, n62, n63, n64, n65, n66, n97, n99, n100, n103, n107, n111, n116, n117, n119, n126, n200, n359, n360, n999, n1000, n9999, n65521, n99999, n1000000, io_neg, io_add, io_sub, io_mul, io_lt, io_le, io_eq, io_nat, Int.toNat_natCast, toNat_c1, ifg, obs, obm, oob, bi0, bi1, bi01, ob_ite, bind_ite, ↓reduceIte, eq_self, mu_s, mu_k, mu_j, tn4, tn5, tn6, tn7, tn8, tn13]
    refine ⟨_, rfl, Cp_f (by simp (disch := omega) only [mu_row, mu_j]) (Cp_s hi k1), ?_, fun j z1 z2 => ?_⟩
    · exact Cp_f (by simp (disch := omega) only [mu_row, mu_j]) (Cp_s hi k2)
    · simp (disch := omega) only [mu_s, mu_k, mu_j]; exact k5 j z1 z2
theorem m_lay208 (s : Mem) : ∃ t, f7_lay_b208 1000 s (io 0) = f7_lay_b249 1000 t (io 0) ∧ Cp t s 9 4 4 ∧ Cp t s 10 4 4 ∧ ∀ j, j ≠ 9 → j ≠ 10 → t j = s j := by
  have key := lock_loop (fun r (t : Mem) i => f7_lay_b208 r t i) (fun t => f7_lay_b249 1000 t (io 0)) 4 (fun _ (a : Unit) => a) (fun i _ t => Cp t s 9 4 i ∧ Cp t s 10 4 i ∧ ∀ j, j ≠ 9 → j ≠ 10 → t j = s j) (a0 := ()) (t0 := s) ⟨Cp_0 s 9 4, Cp_0 s 10 4, fun _ _ _ => rfl⟩ (fun r a t hI => ?_) (fun r i a t hi hI => ?_) 1000 (by omega)
  · exact key
  · show f7_lay_b208 (r + 1) _ _ = _
    rw [f7_lay_b208, if_pos (by decide), n0]
  · show ∃ t', f7_lay_b208 (r + 1) _ _ = f7_lay_b208 r _ _ ∧ _
    obtain ⟨k1, k2, k5⟩ := hI
    rw [f7_lay_b208, if_neg (by simp (disch := omega) only [n0, n1, n2, n3, n4, n5, n6, n7, n8, n9, n10, n11, n12, n13, n14, n15, n16, n17, n18, n19, n20, n21, n22, n23, n24, n25, n26, n27, n28, n29, n30, n31, n32, n33, n34, n35, n36, n37, n38, n39, n40, n41, n42, n43, n44, n45, n46, n47, n48, n49, n50, n51, n52, n53, n54, n55, n56, n57, n58, n59, n60, n61, n62, n63, n64, n65, n66, n97, n99, n100, n103, n107, n111, n116, n117, n119, n126, n200, n359, n360, n999, n1000, n9999, n65521, n99999, n1000000, io_neg, io_add, io_sub, io_mul, io_lt, io_le, io_eq, io_nat, Int.toNat_natCast, toNat_c1, ifg, obs, obm, oob, bi0, bi1, bi01]; omega)]
    simp (disch := omega) only [n0, n1, n2, n3, n4, n5, n6, n7, n8, n9, n10, n11, n12, n13, n14, n15, n16, n17, n18, n19, n20, n21, n22, n23, n24, n25, n26, n27, n28, n29, n30, n31, n32, n33, n34, n35, n36, n37, n38, n39, n40, n41, n42, n43, n44, n45, n46, n47, n48, n49, n50, n51, n52, n53, n54, n55, n56, n57, n58, n59, n60, n61, n62, n63, n64, n65, n66, n97, n99, n100, n103, n107, n111, n116, n117, n119, n126, n200, n359, n360, n999, n1000, n9999, n65521, n99999, n1000000, io_neg, io_add, io_sub, io_mul, io_lt, io_le, io_eq, io_nat, Int.toNat_natCast, toNat_c1, ifg, obs, obm, oob, bi0, bi1, bi01, ob_ite, bind_ite, ↓reduceIte, eq_self, mu_s, mu_k, mu_j, tn4, tn5, tn6, tn7, tn8, tn13]
    refine ⟨_, rfl, Cp_f (by simp (disch := omega) only [mu_row, mu_j]) (Cp_s hi k1), ?_, fun j z1 z2 => ?_⟩
    · exact Cp_f (by simp (disch := omega) only [mu_row, mu_j]) (Cp_s hi k2)
    · simp (disch := omega) only [mu_s, mu_k, mu_j]; exact k5 j z1 z2
theorem m_lay249 (s : Mem) : ∃ t, f7_lay_b249 1000 s (io 0) = (Option.bind (f7_begin t) fun σ2 => some (σ2, σ2 3 0)) ∧ Cp t s 15 5 5 ∧ Cp t s 16 5 5 ∧ ∀ j, j ≠ 15 → j ≠ 16 → t j = s j := by
  have key := lock_loop (fun r (t : Mem) i => f7_lay_b249 r t i) (fun t => Option.bind (f7_begin t) fun σ2 => some (σ2, σ2 3 0)) 5 (fun _ (a : Unit) => a) (fun i _ t => Cp t s 15 5 i ∧ Cp t s 16 5 i ∧ ∀ j, j ≠ 15 → j ≠ 16 → t j = s j) (a0 := ()) (t0 := s) ⟨Cp_0 s 15 5, Cp_0 s 16 5, fun _ _ _ => rfl⟩ (fun r a t hI => ?_) (fun r i a t hi hI => ?_) 1000 (by omega)
  · exact key
  · show f7_lay_b249 (r + 1) _ _ = _
    rw [f7_lay_b249, if_pos (by decide)]
  · show ∃ t', f7_lay_b249 (r + 1) _ _ = f7_lay_b249 r _ _ ∧ _
    obtain ⟨k1, k2, k5⟩ := hI
    rw [f7_lay_b249, if_neg (by simp (disch := omega) only [n0, n1, n2, n3, n4, n5, n6, n7, n8, n9, n10, n11, n12, n13, n14, n15, n16, n17, n18, n19, n20, n21, n22, n23, n24, n25, n26, n27, n28, n29, n30, n31, n32, n33, n34, n35, n36, n37, n38, n39, n40, n41, n42, n43, n44, n45, n46, n47, n48, n49, n50, n51, n52, n53, n54, n55, n56, n57, n58, n59, n60, n61, n62, n63, n64, n65, n66, n97, n99, n100, n103, n107, n111, n116, n117, n119, n126, n200, n359, n360, n999, n1000, n9999, n65521, n99999, n1000000, io_neg, io_add, io_sub, io_mul, io_lt, io_le, io_eq, io_nat, Int.toNat_natCast, toNat_c1, ifg, obs, obm, oob, bi0, bi1, bi01]; omega)]
    simp (disch := omega) only [n0, n1, n2, n3, n4, n5, n6, n7, n8, n9, n10, n11, n12, n13, n14, n15, n16, n17, n18, n19, n20, n21, n22, n23, n24, n25, n26, n27, n28, n29, n30, n31, n32, n33, n34, n35, n36, n37, n38, n39, n40, n41, n42, n43, n44, n45, n46, n47, n48, n49, n50, n51, n52, n53, n54, n55, n56, n57, n58, n59, n60, n61, n62, n63, n64, n65, n66, n97, n99, n100, n103, n107, n111, n116, n117, n119, n126, n200, n359, n360, n999, n1000, n9999, n65521, n99999, n1000000, io_neg, io_add, io_sub, io_mul, io_lt, io_le, io_eq, io_nat, Int.toNat_natCast, toNat_c1, ifg, obs, obm, oob, bi0, bi1, bi01, ob_ite, bind_ite, ↓reduceIte, eq_self, mu_s, mu_k, mu_j, tn4, tn5, tn6, tn7, tn8, tn13]
    refine ⟨_, rfl, Cp_f (by simp (disch := omega) only [mu_row, mu_j]) (Cp_s hi k1), ?_, fun j z1 z2 => ?_⟩
    · exact Cp_f (by simp (disch := omega) only [mu_row, mu_j]) (Cp_s hi k2)
    · simp (disch := omega) only [mu_s, mu_k, mu_j]; exact k5 j z1 z2
theorem m_begin (hE : EB E) (h11 : s 11 0 = io (E 0 2)) (h12 : ∀ k, k < E 0 2 → s 12 k = io (E 6 k) ∧ s 13 k = io (E 7 k)) : ∃ σ', f7_begin s = some σ' ∧ RD σ' 17 0 (dN E) ∧ σ' 0 18 = io 0 ∧ σ' 0 20 = io 0 ∧ σ' 0 21 = io 0 ∧ (∀ k, k ≠ 18 → k ≠ 20 → k ≠ 21 → σ' 0 k = s 0 k) ∧ ∀ j, j ≠ 0 → j ≠ 17 → σ' j = s j := by
  have hb := hE.1
  unfold f7_begin
  rw [n0]
  have key := lock_loop (fun r (t : Mem) i => f7_begin_b2 r t i) (fun t => some (mu (mu (mu (mu t 17 6 (io (E 0 2))) 0 18 (io 0)) 0 20 (io 0)) 0 21 (io 0))) 6 (fun _ (a : Unit) => a) (fun i _ t => (∀ k, k < i → t 17 k = io 0 ∧ t 17 (7 + k) = s 12 k ∧ t 17 (13 + k) = s 13 k) ∧ ∀ j, j ≠ 17 → t j = s j) (a0 := ()) (t0 := s) ⟨fun k hk => by omega, fun _ _ => rfl⟩ (fun r a t hI => ?_) (fun r i a t hi hI => ?_) 1000 (by omega)
  · obtain ⟨t, e, k1, k2⟩ := key
    have g : ∀ k, k ≠ 6 → mu (mu (mu (mu t 17 6 (io (E 0 2))) 0 18 (io 0)) 0 20 (io 0)) 0 21 (io 0) 17 k = t 17 k := fun k hk => by simp (disch := omega) only [mu_s, mu_k, mu_j]
    refine ⟨_, e, ⟨fun i hi => ?_, ?_, fun k hk => ?_⟩, ?_, ?_, ?_, fun k z1 z2 z3 => ?_, fun j z1 z2 => ?_⟩
    · rw [Nat.zero_add, g i (by omega), (k1 i hi).1]
      unfold dN
      rw [if_pos hi]
      rfl
    · rw [dN_6]
      simp (disch := omega) only [mu_s, mu_k, mu_j, Nat.reduceAdd]
    · rw [dN_6] at hk
      rw [Nat.zero_add, Nat.zero_add, dN_7 (by omega), dN_13, g _ (by omega), g _ (by omega), (k1 k (by omega)).2.1, (k1 k (by omega)).2.2]
      exact h12 k hk
    · simp (disch := omega) only [mu_s, mu_k, mu_j]
    · simp (disch := omega) only [mu_s, mu_k, mu_j]
    · simp (disch := omega) only [mu_s, mu_k, mu_j]
    · simp (disch := omega) only [mu_s, mu_k, mu_j]; rw [k2 0 (by omega)]
    · simp (disch := omega) only [mu_s, mu_k, mu_j]; exact k2 j z2
  · show f7_begin_b2 (r + 1) _ _ = _
    rw [f7_begin_b2, if_pos (by decide)]
    simp (disch := omega) only [n0, n1, n2, n3, n4, n5, n6, n7, n8, n9, n10, n11, n12, n13, n14, n15, n16, n17, n18, n19, n20, n21, n22, n23, n24, n25, n26, n27, n28, n29, n30, n31, n32, n33, n34, n35, n36, n37, n38, n39, n40, n41, n42, n43, n44, n45, n46, n47, n48, n49, n50, n51, n52, n53, n54, n55, n56, n57, n58, n59, n60, n61, n62, n63, n64, n65, n66, n97, n99, n100, n103, n107, n111, n116, n117, n119, n126, n200, n359, n360, n999, n1000, n9999, n65521, n99999, n1000000, io_neg, io_add, io_sub, io_mul, io_lt, io_le, io_eq, io_nat, Int.toNat_natCast, toNat_c1, ifg, obs, obm, oob, bi0, bi1, bi01, ob_ite, bind_ite, ↓reduceIte, eq_self, mu_s, mu_k, mu_j]
    rw [hI.2 11 (by omega), h11]
  · show ∃ t', f7_begin_b2 (r + 1) _ _ = f7_begin_b2 r _ _ ∧ _
    obtain ⟨k1, k2⟩ := hI
    rw [f7_begin_b2, if_neg (by simp (disch := omega) only [n0, n1, n2, n3, n4, n5, n6, n7, n8, n9, n10, n11, n12, n13, n14, n15, n16, n17, n18, n19, n20, n21, n22, n23, n24, n25, n26, n27, n28, n29, n30, n31, n32, n33, n34, n35, n36, n37, n38, n39, n40, n41, n42, n43, n44, n45, n46, n47, n48, n49, n50, n51, n52, n53, n54, n55, n56, n57, n58, n59, n60, n61, n62, n63, n64, n65, n66, n97, n99, n100, n103, n107, n111, n116, n117, n119, n126, n200, n359, n360, n999, n1000, n9999, n65521, n99999, n1000000, io_neg, io_add, io_sub, io_mul, io_lt, io_le, io_eq, io_nat, Int.toNat_natCast, toNat_c1, ifg, obs, obm, oob, bi0, bi1, bi01]; omega)]
    simp (disch := omega) only [n0, n1, n2, n3, n4, n5, n6, n7, n8, n9, n10, n11, n12, n13, n14, n15, n16, n17, n18, n19, n20, n21, n22, n23, n24, n25, n26, n27, n28, n29, n30, n31, n32, n33, n34, n35, n36, n37, n38, n39, n40, n41, n42, n43, n44, n45, n46, n47, n48, n49, n50, n51, n52, n53, n54, n55, n56, n57, n58, n59, n60, n61, n62, n63, n64, n65, n66, n97, n99, n100, n103, n107, n111, n116, n117, n119, n126, n200, n359, n360, n999, n1000, n9999, n65521, n99999, n1000000, io_neg, io_add, io_sub, io_mul, io_lt, io_le, io_eq, io_nat, Int.toNat_natCast, toNat_c1, ifg, obs, obm, oob, bi0, bi1, bi01, ob_ite, bind_ite, ↓reduceIte, eq_self, mu_s, mu_k, mu_j, tn4, tn5, tn6, tn7, tn8, tn13]
    rw [k2 12 (by omega), k2 13 (by omega)]
    refine ⟨_, rfl, fun k hk => ?_, fun j hj => ?_⟩
    · by_cases e : k = i
      · subst e
        simp (disch := omega) only [mu_s, mu_k, mu_j]
        exact ⟨trivial, trivial, trivial⟩
      · simp (disch := omega) only [mu_s, mu_k, mu_j]
        exact k1 k (by omega)
    · simp (disch := omega) only [mu_s, mu_k, mu_j]; exact k2 j hj
theorem m_layIt (hE : EB E) (H : IM σ B D l X m U m2 V q Z Y) (hME : ME σ E) : ∃ σ', f7_lay_b40 σ = some (σ', io (E 0 0)) ∧ IM σ' E (dN E) l X 0 U 0 V 0 Z Y := by
  have hb := hE.1
  obtain ⟨h1, h2, h3, h4, h5, h6, h7, h8, h9⟩ := hME
  obtain ⟨g1, g2, g3, g4, g5, g6⟩ := H
  have e0 : f7_lay_b40 σ = f7_lay_b90 1000 (mu (mu (mu (mu σ 3 0 (io (E 0 0))) 6 0 (io (E 0 1))) 11 0 (io (E 0 2))) 14 0 (io (E 0 7))) (io 0) := by
    unfold f7_lay_b40
    simp (disch := omega) only [n0, n1, n2, n3, n4, n5, n6, n7, n8, n9, n10, n11, n12, n13, n14, n15, n16, n17, n18, n19, n20, n21, n22, n23, n24, n25, n26, n27, n28, n29, n30, n31, n32, n33, n34, n35, n36, n37, n38, n39, n40, n41, n42, n43, n44, n45, n46, n47, n48, n49, n50, n51, n52, n53, n54, n55, n56, n57, n58, n59, n60, n61, n62, n63, n64, n65, n66, n97, n99, n100, n103, n107, n111, n116, n117, n119, n126, n200, n359, n360, n999, n1000, n9999, n65521, n99999, n1000000, io_neg, io_add, io_sub, io_mul, io_lt, io_le, io_eq, io_nat, Int.toNat_natCast, toNat_c1, ifg, obs, obm, oob, bi0, bi1, bi01, ob_ite, bind_ite, ↓reduceIte, eq_self, mu_s, mu_k, mu_j]
    rw [h1.1, h2.1, h3.1, h4.1]
  generalize hs : mu (mu (mu (mu σ 3 0 (io (E 0 0))) 6 0 (io (E 0 1))) 11 0 (io (E 0 2))) 14 0 (io (E 0 7)) = s at e0
  have fs : ∀ j, j ≠ 3 → j ≠ 6 → j ≠ 11 → j ≠ 14 → s j = σ j := fun j z1 z2 z3 z4 => by rw [← hs]; simp (disch := omega) only [mu_s, mu_k, mu_j]
  obtain ⟨t1, e1, a1, a2, a3, a4, f1⟩ := m_lay90 s
  obtain ⟨t2, e2, b1, b2, f2⟩ := m_lay164 t1
  obtain ⟨t3, e3, c1, c2, f3⟩ := m_lay208 t2
  obtain ⟨t4, e4, d1, d2, f4⟩ := m_lay249 t3
  have q11 : t4 11 0 = io (E 0 2) := by rw [f4 11 (by omega) (by omega), f3 11 (by omega) (by omega), f2 11 (by omega) (by omega), f1 11 (by omega) (by omega) (by omega) (by omega), ← hs]; simp (disch := omega) only [mu_s, mu_k, mu_j]
  have q12 : ∀ k, k < E 0 2 → t4 12 k = io (E 6 k) ∧ t4 13 k = io (E 7 k) := fun k hk => by
    rw [f4 12 (by omega) (by omega), f3 12 (by omega) (by omega), f2 12 (by omega) (by omega), a3.1 k (by omega), fs 12 (by omega) (by omega) (by omega) (by omega), f4 13 (by omega) (by omega), f3 13 (by omega) (by omega), f2 13 (by omega) (by omega), a4.1 k (by omega), fs 13 (by omega) (by omega) (by omega) (by omega)]
    exact h3.2 k hk
  obtain ⟨σ5, e5, r5, u1, u2, u3, u4, f5⟩ := m_begin hE q11 q12
  have q3 : σ5 3 0 = io (E 0 0) := by rw [f5 3 (by omega) (by omega), f4 3 (by omega) (by omega), f3 3 (by omega) (by omega), f2 3 (by omega) (by omega), f1 3 (by omega) (by omega) (by omega) (by omega), ← hs]; simp (disch := omega) only [mu_s, mu_k, mu_j]
  refine ⟨σ5, ?_, ⟨?_, ⟨⟨q3, ?_, ?_, ?_, ?_, ?_, ?_⟩, fun i hi => ?_, fun i hi => ?_, fun k hk => ?_, fun k hk => ?_⟩, r5, ⟨u1, fun i hi => by omega⟩, ⟨u2, fun i hi => by omega⟩, ⟨u3, fun i hi => by omega⟩⟩⟩
  · rw [e0, e1, e2, e3, e4, e5, obs, q3]
  · refine MT_fr ?_ ?_ g1
    · rw [u4 0 (by omega) (by omega) (by omega), f4 0 (by omega) (by omega), f3 0 (by omega) (by omega), f2 0 (by omega) (by omega), f1 0 (by omega) (by omega) (by omega) (by omega), fs 0 (by omega) (by omega) (by omega) (by omega)]
    · rw [f5 2 (by omega) (by omega), f4 2 (by omega) (by omega), f3 2 (by omega) (by omega), f2 2 (by omega) (by omega), f1 2 (by omega) (by omega) (by omega) (by omega), fs 2 (by omega) (by omega) (by omega) (by omega)]
  · rw [f5 6 (by omega) (by omega), f4 6 (by omega) (by omega), f3 6 (by omega) (by omega), f2 6 (by omega) (by omega), f1 6 (by omega) (by omega) (by omega) (by omega), ← hs]; simp (disch := omega) only [mu_s, mu_k, mu_j]
  · rw [f5 9 (by omega) (by omega), f4 9 (by omega) (by omega), c1.1 0 (by omega), f2 9 (by omega) (by omega), f1 9 (by omega) (by omega) (by omega) (by omega), fs 9 (by omega) (by omega) (by omega) (by omega)]; exact h6
  · rw [f5 9 (by omega) (by omega), f4 9 (by omega) (by omega), c1.1 1 (by omega), f2 9 (by omega) (by omega), f1 9 (by omega) (by omega) (by omega) (by omega), fs 9 (by omega) (by omega) (by omega) (by omega)]; exact h7
  · rw [f5 9 (by omega) (by omega), f4 9 (by omega) (by omega), c1.1 2 (by omega), f2 9 (by omega) (by omega), f1 9 (by omega) (by omega) (by omega) (by omega), fs 9 (by omega) (by omega) (by omega) (by omega)]; exact h8
  · rw [f5 9 (by omega) (by omega), f4 9 (by omega) (by omega), c1.1 3 (by omega), f2 9 (by omega) (by omega), f1 9 (by omega) (by omega) (by omega) (by omega), fs 9 (by omega) (by omega) (by omega) (by omega)]; exact h9
  · rw [f5 14 (by omega) (by omega), f4 14 (by omega) (by omega), f3 14 (by omega) (by omega), f2 14 (by omega) (by omega), f1 14 (by omega) (by omega) (by omega) (by omega), ← hs]; simp (disch := omega) only [mu_s, mu_k, mu_j]
  · rw [f5 4 (by omega) (by omega), f4 4 (by omega) (by omega), f3 4 (by omega) (by omega), f2 4 (by omega) (by omega), a1.1 i (by omega), fs 4 (by omega) (by omega) (by omega) (by omega), f5 5 (by omega) (by omega), f4 5 (by omega) (by omega), f3 5 (by omega) (by omega), f2 5 (by omega) (by omega), a2.1 i (by omega), fs 5 (by omega) (by omega) (by omega) (by omega)]
    exact h1.2 i hi
  · rw [f5 7 (by omega) (by omega), f4 7 (by omega) (by omega), f3 7 (by omega) (by omega), b1.1 i (by omega), f1 7 (by omega) (by omega) (by omega) (by omega), fs 7 (by omega) (by omega) (by omega) (by omega), f5 8 (by omega) (by omega), f4 8 (by omega) (by omega), f3 8 (by omega) (by omega), b2.1 i (by omega), f1 8 (by omega) (by omega) (by omega) (by omega), fs 8 (by omega) (by omega) (by omega) (by omega)]
    exact h2.2 i hi
  · rw [f5 10 (by omega) (by omega), f4 10 (by omega) (by omega), c2.1 k (by omega), f2 10 (by omega) (by omega), f1 10 (by omega) (by omega) (by omega) (by omega), fs 10 (by omega) (by omega) (by omega) (by omega)]
    exact h5 k hk
  · rw [f5 15 (by omega) (by omega), d1.1 k (by omega), f3 15 (by omega) (by omega), f2 15 (by omega) (by omega), f1 15 (by omega) (by omega) (by omega) (by omega), fs 15 (by omega) (by omega) (by omega) (by omega), f5 16 (by omega) (by omega), d2.1 k (by omega), f3 16 (by omega) (by omega), f2 16 (by omega) (by omega), f1 16 (by omega) (by omega) (by omega) (by omega), fs 16 (by omega) (by omega) (by omega) (by omega)]
    exact h4.2 k hk
theorem m_allOdds (hE : EB E) (hME : ME σ E) : f7_allOdds σ 1 = some (io (sumN (E 0 7) (fun k => (E 10 k : Int)))) := by
  have hb := hE.1
  obtain ⟨h1, h2, h3, h4, h5, h6, h7, h8, h9⟩ := hME
  unfold f7_allOdds
  have key := (fold_loop (fun n a i => f7_allOdds_b4 σ n 1 (io a) i) (fun a => some (io a)) (E 0 7) (fun i a => a + (E 10 i : Int)) (fun _ _ => True) (a0 := 0) trivial (fun _ _ _ _ => trivial) (fun n a _ => ?_) (fun n i a hi _ => ?_) 1000 (by omega)).1
  · refine Eq.trans key ?_
    rw [foldN_sum, Int.zero_add]
  · show f7_allOdds_b4 σ (n + 1) _ _ _ = _
    rw [f7_allOdds_b4, if_pos (by decide)]
    show (if σ 14 1 ≤ io (E 0 7) then _ else _) = _
    rw [h4.1, if_pos (Int32.le_refl _)]
  · show f7_allOdds_b4 σ (n + 1) _ _ _ = f7_allOdds_b4 σ n _ _ _
    have hx : (5 * (1 : Int32)) + io (i : Int) = io ((5 + i : Nat) : Int) := by rw [n5, n1, io_mul, io_add]; congr 1
    rw [f7_allOdds_b4, if_pos (by decide), hx]
    show (if σ 14 1 ≤ io (i : Int) then _ else _) = _
    rw [h4.1, if_neg (by simp (disch := omega) only [n0, n1, n2, n3, n4, n5, n6, n7, n8, n9, n10, n11, n12, n13, n14, n15, n16, n17, n18, n19, n20, n21, n22, n23, n24, n25, n26, n27, n28, n29, n30, n31, n32, n33, n34, n35, n36, n37, n38, n39, n40, n41, n42, n43, n44, n45, n46, n47, n48, n49, n50, n51, n52, n53, n54, n55, n56, n57, n58, n59, n60, n61, n62, n63, n64, n65, n66, n97, n99, n100, n103, n107, n111, n116, n117, n119, n126, n200, n359, n360, n999, n1000, n9999, n65521, n99999, n1000000, io_neg, io_add, io_sub, io_mul, io_lt, io_le, io_eq, io_nat, Int.toNat_natCast, toNat_c1, ifg, obs, obm, oob, bi0, bi1, bi01]; omega), if_pos (in_ix (n := 10) (by omega) (by decide)), io_ix (by omega), (h4.2 i hi).2, io_add]
    have e1 : io (i : Int) + 1 = io ((i : Int) + 1) := io_add _ 1
    rw [e1]
theorem s_lay (hI : Inv σc σm) : Step (f6_lay σc) (f7_lay σm) := by
  obtain ⟨B, D, l, X, m, U, m2, V, q, Z, Y, hA, hC, hM⟩ := hI
  unfold f6_lay f7_lay f6_layText
  rcases rd_all hA.2.2.1 hC.1 hC.2.2.1 hM.1 with ⟨σ1, σ2, E, e1, e2, a3, a4, a5, a6, a7⟩ | ⟨σ1, σ2, E, r, e1, e2, a3, a4, a5, a6⟩
  · have hC1 := IC_read hA.2.2.2.1.1 hA.2.2.2.2.1.1 hC a6 a3
    have hM1 := IM_read hA.1 hM a7
    have hb := a5.1
    have hsum := sum10_b a5 (n := E 0 7) (by omega)
    rw [e1, e2, oob, oob, if_pos (show io (-4) = -4 from rfl), if_pos (show io (-4) = -4 from rfl), c_canLay a5 a3, obs, m_allOdds a5 a4, obs, a4.1.1, a4.2.2.2.1.1]
    have bad : Step (ob (some (σ1, (0 : Int32))) fun σ1 r1 => if r1 = 0 then some (σ1, (-2 : Int32)) else Option.bind (f2_size σ1 4) fun r3 => some (σ1, r3)) (some (σ2, (-2 : Int32))) := by
      rw [oob, if_pos rfl]
      exact ⟨_, _, _, rfl, rfl, B, D, l, X, m, U, m2, V, q, Z, Y, hA, hC1, hM1⟩
    by_cases c : layB E
    · rw [decide_eq_true c, bi_t, if_neg (show ¬ (1 : Int32) = 0 by decide)]
      obtain ⟨σ3, e3, hC3⟩ := c_layIt hC1 a5 a3
      obtain ⟨σ4, e4, hM4⟩ := m_layIt a5 hM1 a4
      have h4 : σ3 4 3 = io (E 0 0) := hC3.2.1.1.1
      have good : Step (ob (some (σ3, (1 : Int32))) fun σ1 r1 => if r1 = 0 then some (σ1, (-2 : Int32)) else Option.bind (f2_size σ1 4) fun r3 => some (σ1, r3)) (f7_lay_b40 σ2) := by
        rw [oob, if_neg (by decide), f2_size, obs, h4, e4]
        exact ⟨_, _, _, rfl, rfl, E, dN E, l, X, 0, U, 0, V, 0, Z, Y, ⟨BB_E a5 c, DB_dN a5, hA.2.2.1, ⟨by omega, fun i hi => by omega⟩, ⟨by omega, fun i hi => by omega⟩, ⟨by omega, fun i hi => by omega⟩⟩, hC3, hM4⟩
      rw [e3, if_neg (show ¬ io ((E 0 0 : Nat) : Int) = 0 from lit_ne (k := 0) (by omega) (by omega) (by have := c.1; omega))]
      by_cases d : E 0 7 = 0
      · rw [if_pos (show io ((E 0 7 : Nat) : Int) ≤ 0 by rw [d]; decide)]
        exact good
      · rw [if_neg (show ¬ io ((E 0 7 : Nat) : Int) ≤ 0 by rw [n0, io_le (by omega) (by omega) (by omega) (by omega)]; omega), c.2.resolve_left d, if_pos (show io 10 = 10 from rfl)]
        exact good
    · rw [decide_eq_false c, bi_f, if_pos (show (0 : Int32) = 0 from rfl)]
      by_cases d0 : E 0 0 = 0
      · rw [if_pos (show io ((E 0 0 : Nat) : Int) = 0 by rw [d0]; rfl)]
        exact bad
      · rw [if_neg (show ¬ io ((E 0 0 : Nat) : Int) = 0 from lit_ne (k := 0) (by omega) (by omega) d0)]
        have d : E 0 7 ≠ 0 := fun z => c ⟨by omega, Or.inl z⟩
        have d2 : sumN (E 0 7) (fun k => (E 10 k : Int)) ≠ 10 := fun z => c ⟨by omega, Or.inr z⟩
        rw [if_neg (show ¬ io ((E 0 7 : Nat) : Int) ≤ 0 by rw [n0, io_le (by omega) (by omega) (by omega) (by omega)]; omega), if_neg (show ¬ io (sumN (E 0 7) (fun k => (E 10 k : Int))) = 10 by rw [n10, io_eq (by omega) (by omega) (by omega) (by omega)]; exact d2)]
        exact bad
  · have hC1 := IC_read hA.2.2.2.1.1 hA.2.2.2.2.1.1 hC a5 a4
    have hM1 := IM_read hA.1 hM a6
    have hr : ¬ io (r : Int) = -4 := by rw [nm4, io_eq (by omega) (by omega) (by omega) (by omega)]; omega
    rw [e1, e2, oob, oob, if_neg hr, if_neg hr, oob, if_pos rfl]
    exact ⟨_, _, _, rfl, rfl, B, D, l, X, m, U, m2, V, q, Z, Y, hA, hC1, hM1⟩
end LayM
