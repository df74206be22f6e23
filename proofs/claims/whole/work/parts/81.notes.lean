/-! THE REFERENCE'S ROWS: note, undo, keep, back -/
section Notes
variable {σ σ' σc σm : Mem} {B P : PS} {D D' : Nat → Nat} {l l' : Nat} {X X' : Nat → Nat} {m m' : Nat} {U U' : PS} {m2 : Nat} {V : PS} {q q' : Nat} {Z Y Z' Y' : Nat → Nat}
theorem RD_row {j j' o o' : Nat} (hD : D 6 ≤ 6) (h : ∀ k, k < 19 → σ' j' (o' + k) = σ j (o + k)) (H : RD σ j o D) : RD σ' j' o' D := by
  obtain ⟨h1, h2, h3⟩ := H
  refine ⟨fun i hi => ?_, ?_, fun k hk => ?_⟩
  · rw [h i (by omega)]; exact h1 i hi
  · rw [h 6 (by omega)]; exact h2
  · rw [h (7 + k) (by omega), h (13 + k) (by omega)]; exact h3 k hk
theorem m_row51 {u : Nat} (hu : u < 8) (h0 : σ 0 18 = io u) : ∃ σ', f7_note_b51 1000 σ 0 = some σ' ∧ σ' 0 18 = io ((u + 1 : Nat) : Int) ∧ (∀ k, k < 19 → σ' 18 (19 * u + k) = σ 17 k) ∧ (∀ k, k < 19 * u → σ' 18 k = σ 18 k) ∧ (∀ j, j ≠ 0 → j ≠ 18 → σ' j = σ j) ∧ ∀ k, k ≠ 18 → σ' 0 k = σ 0 k := by
  have key := lock_loop (fun r (t : Mem) i => f7_note_b51 r t i) (fun t => some (mu t 0 18 (io ((u + 1 : Nat) : Int)))) 19 (fun _ (a : Unit) => a) (fun i _ t => (∀ k, k < i → t 18 (19 * u + k) = σ 17 k) ∧ (∀ k, k < 19 * u → t 18 k = σ 18 k) ∧ ∀ j, j ≠ 18 → t j = σ j) (a0 := ()) (t0 := σ) ⟨fun k hk => by omega, fun _ _ => rfl, fun _ _ => rfl⟩ (fun r a t hI => ?_) (fun r i a t hi hI => ?_) 1000 (by omega)
  · obtain ⟨t, e, k1, k2, k3⟩ := key
    refine ⟨_, e, by rw [mu_s], fun k hk => ?_, fun k hk => ?_, fun j z1 z2 => ?_, fun k hk => ?_⟩
    · rw [mu_j _ _ _ (by omega)]; exact k1 k hk
    · rw [mu_j _ _ _ (by omega)]; exact k2 k hk
    · rw [mu_j _ _ _ z1]; exact k3 j z2
    · rw [mu_k _ _ hk, k3 0 (by omega)]
  · show f7_note_b51 (r + 1) _ _ = _
    rw [f7_note_b51, if_pos (by decide), obm, hI.2.2 0 (by omega), h0, n1, io_add]
    rfl
  · show ∃ t', f7_note_b51 (r + 1) _ _ = f7_note_b51 r _ _ ∧ _
    obtain ⟨k1, k2, k3⟩ := hI
    have hx : 19 * io (u : Int) + io (i : Int) = io ((19 * u + i : Nat) : Int) := by rw [n19, io_mul, io_add]; congr 1
    rw [f7_note_b51, if_neg (by simp (disch := omega) only [n0, n1, n2, n3, n4, n5, n6, n7, n8, n9, n10, n11, n12, n13, n14, n15, n16, n17, n18, n19, n20, n21, n22, n23, n24, n25, n26, n27, n28, n29, n30, n31, n32, n33, n34, n35, n36, n37, n38, n39, n40, n41, n42, n43, n44, n45, n46, n47, n48, n49, n50, n51, n52, n53, n54, n55, n56, n57, n58, n59, n60, n61, n62, n63, n64, n65, n66, n97, n99, n100, n103, n107, n111, n116, n117, n119, n126, n200, n359, n360, n999, n1000, n9999, n65521, n99999, n1000000, io_neg, io_add, io_sub, io_mul, io_lt, io_le, io_eq, io_nat, Int.toNat_natCast, toNat_c1, ifg, obs, obm, oob, bi0, bi1, bi01]; omega), k3 0 (by omega), h0, hx, if_pos (in_ix (n := 19) hi (by decide)), if_pos (in_ix (n := 152) (by omega) (by decide)), io_ix (by omega), io_ix (by omega), obm, k3 17 (by omega), n1, io_add]
    refine ⟨_, rfl, fun k hk => ?_, fun k hk => ?_, fun j hj => ?_⟩
    · by_cases e : k = i
      · subst e; rw [mu_s]
      · rw [mu_k _ _ (by omega)]; exact k1 k (by omega)
    · rw [mu_k _ _ (by omega)]; exact k2 k hk
    · rw [mu_j _ _ _ hj]; exact k3 j hj
theorem m_shift (h0 : σ 0 18 = io 8) : ∃ σ', f7_note_b11 1000 σ 0 = f7_note_b51 1000 σ' 0 ∧ σ' 0 18 = io ((7 : Nat) : Int) ∧ (∀ k, k < 133 → σ' 18 k = σ 18 (19 + k)) ∧ (∀ j, j ≠ 0 → j ≠ 18 → σ' j = σ j) ∧ ∀ k, k ≠ 18 → σ' 0 k = σ 0 k := by
  have key := lock_loop (fun r (t : Mem) i => f7_note_b11 r t i) (fun t => f7_note_b51 1000 (mu t 0 18 (io ((7 : Nat) : Int))) 0) 133 (fun _ (a : Unit) => a) (fun i _ t => (∀ k, k < i → t 18 k = σ 18 (19 + k)) ∧ (∀ k, i ≤ k → t 18 k = σ 18 k) ∧ ∀ j, j ≠ 18 → t j = σ j) (a0 := ()) (t0 := σ) ⟨fun k hk => by omega, fun _ _ => rfl, fun _ _ => rfl⟩ (fun r a t hI => ?_) (fun r i a t hi hI => ?_) 1000 (by omega)
  · obtain ⟨t, e, k1, k2, k3⟩ := key
    refine ⟨_, e, by rw [mu_s], fun k hk => ?_, fun j z1 z2 => ?_, fun k hk => ?_⟩
    · rw [mu_j _ _ _ (by omega)]; exact k1 k hk
    · rw [mu_j _ _ _ z1]; exact k3 j z2
    · rw [mu_k _ _ hk, k3 0 (by omega)]
  · show f7_note_b11 (r + 1) _ _ = _
    rw [f7_note_b11, if_pos (by decide), obm, hI.2.2 0 (by omega), h0]
    rfl
  · show ∃ t', f7_note_b11 (r + 1) _ _ = f7_note_b11 r _ _ ∧ _
    obtain ⟨k1, k2, k3⟩ := hI
    have hx : 19 + io (i : Int) = io ((19 + i : Nat) : Int) := by rw [n19, io_add]; congr 1
    rw [f7_note_b11, if_neg (by rw [show (133 : Int32) = io 133 from rfl, io_le (by omega) (by omega) (by omega) (by omega)]; omega), hx, if_pos (in_ix (n := 152) (by omega) (by decide)), if_pos (in_ix (n := 152) (by omega) (by decide)), io_ix (by omega), io_ix (by omega), obm, k2 (19 + i) (by omega), n1, io_add]
    refine ⟨_, rfl, fun k hk => ?_, fun k hk => ?_, fun j hj => ?_⟩
    · by_cases e : k = i
      · subst e; rw [mu_s]
      · rw [mu_k _ _ (by omega)]; exact k1 k (by omega)
    · rw [mu_k _ _ (by omega)]; exact k2 k (by omega)
    · rw [mu_j _ _ _ hj]; exact k3 j hj
theorem IM_undo (H : IM σ B D l X m U m2 V q Z Y) (fr : ∀ j, j ≠ 0 → j ≠ 18 → σ' j = σ j) (f0 : ∀ k, k ≠ 18 → σ' 0 k = σ 0 k) (h : MU σ' m' U') : IM σ' B D l X m' U' m2 V q Z Y := by
  obtain ⟨h1, h2, h3, h4, h5, h6⟩ := H
  exact ⟨MT_fr (f0 0 (by omega)) (fr 2 (by omega) (by omega)) h1, MB_fr (fun j _ _ => fr j (by omega) (by omega)) h2, RD_fr (fr 17 (by omega) (by omega)) h3, h, MK_fr (f0 20 (by omega)) (fr 20 (by omega) (by omega)) h5, MS_fr (f0 21 (by omega)) (fr 23 (by omega) (by omega)) (fr 24 (by omega) (by omega)) h6⟩
theorem m_note (hA : AB B D l X m U m2 V q Z Y) (H : IM σ B D l X m U m2 V q Z Y) : ∃ σ', f7_note σ = some σ' ∧ IM σ' B D l X (upN m) (upU m U D) m2 V q Z Y := by
  obtain ⟨hm, hU⟩ := hA.2.2.2.1
  have hD := hA.2.1.2.1
  obtain ⟨h18, hr⟩ := H.2.2.2.1
  unfold f7_note upN upU
  rw [h18]
  by_cases c : m = 8
  · subst c
    rw [if_pos (by rfl), if_pos rfl, if_pos rfl]
    obtain ⟨σ1, e1, a1, a2, a3, a4⟩ := m_shift h18
    obtain ⟨σ2, e2, b1, b2, b3, b4, b5⟩ := m_row51 (u := 7) (by omega) a1
    refine ⟨σ2, e1.trans e2, IM_undo H (fun j z1 z2 => by rw [b4 j z1 z2, a3 j z1 z2]) (fun k hk => by rw [b5 k hk, a4 k hk]) ⟨b1, fun i hi => ?_⟩⟩
    show RD σ2 18 (19 * i) (if i = 7 then D else U (i + 1))
    by_cases e : i = 7
    · subst e
      rw [if_pos rfl]
      exact RD_row (j := 17) (o := 0) hD (fun k hk => by rw [b2 k hk, a3 17 (by omega) (by omega), Nat.zero_add]) H.2.2.1
    · rw [if_neg e]
      exact RD_row (j := 18) (o := 19 * (i + 1)) (hU (i + 1) (by omega)).2.1 (fun k hk => by rw [b3 _ (by omega), a2 _ (by omega), show 19 + (19 * i + k) = 19 * (i + 1) + k by omega]) (hr (i + 1) (by omega))
  · rw [if_neg (by rw [show (8 : Int32) = io 8 from rfl, io_eq (by omega) (by omega) (by omega) (by omega)]; omega), if_neg c, if_neg c]
    obtain ⟨σ2, e2, b1, b2, b3, b4, b5⟩ := m_row51 (u := m) (by omega) h18
    refine ⟨σ2, e2, IM_undo H b4 b5 ⟨b1, fun i hi => ?_⟩⟩
    show RD σ2 18 (19 * i) (if i = m then D else U i)
    by_cases e : i = m
    · subst e
      rw [if_pos rfl]
      exact RD_row (j := 17) (o := 0) hD (fun k hk => by rw [b2 k hk, Nat.zero_add]) H.2.2.1
    · rw [if_neg e]
      exact RD_row (j := 18) (o := 19 * i) (hU i (by omega)).2.1 (fun k hk => b3 _ (by omega)) (hr i (by omega))
theorem m_undo22 {u : Nat} (hu : u < 8) (h0 : σ 0 18 = io u) : ∃ σ', f7_undo_b22 1000 σ 0 = some (σ', io u) ∧ (∀ k, k < 19 → σ' 17 k = σ 18 (19 * u + k)) ∧ ∀ j, j ≠ 17 → σ' j = σ j := by
  have key := lock_loop (fun r (t : Mem) i => f7_undo_b22 r t i) (fun t => some (t, io u)) 19 (fun _ (a : Unit) => a) (fun i _ t => (∀ k, k < i → t 17 k = σ 18 (19 * u + k)) ∧ ∀ j, j ≠ 17 → t j = σ j) (a0 := ()) (t0 := σ) ⟨fun k hk => by omega, fun _ _ => rfl⟩ (fun r a t hI => ?_) (fun r i a t hi hI => ?_) 1000 (by omega)
  · obtain ⟨t, e, k1, k2⟩ := key
    exact ⟨t, e, k1, k2⟩
  · show f7_undo_b22 (r + 1) _ _ = _
    rw [f7_undo_b22, if_pos (by decide), hI.2 0 (by omega), h0]
  · show ∃ t', f7_undo_b22 (r + 1) _ _ = f7_undo_b22 r _ _ ∧ _
    obtain ⟨k1, k2⟩ := hI
    have hx : 19 * io (u : Int) + io (i : Int) = io ((19 * u + i : Nat) : Int) := by rw [n19, io_mul, io_add]; congr 1
    rw [f7_undo_b22, if_neg (by simp (disch := omega) only [n0, n1, n2, n3, n4, n5, n6, n7, n8, n9, n10, n11, n12, n13, n14, n15, n16, n17, n18, n19, n20, n21, n22, n23, n24, n25, n26, n27, n28, n29, n30, n31, n32, n33, n34, n35, n36, n37, n38, n39, n40, n41, n42, n43, n44, n45, n46, n47, n48, n49, n50, n51, n52, n53, n54, n55, n56, n57, n58, n59, n60, n61, n62, n63, n64, n65, n66, n97, n99, n100, n103, n107, n111, n116, n117, n119, n126, n200, n359, n360, n999, n1000, n9999, n65521, n99999, n1000000, io_neg, io_add, io_sub, io_mul, io_lt, io_le, io_eq, io_nat, Int.toNat_natCast, toNat_c1, ifg, obs, obm, oob, bi0, bi1, bi01]; omega), k2 0 (by omega), h0, hx, if_pos (in_ix (n := 152) (by omega) (by decide)), if_pos (in_ix (n := 19) hi (by decide)), io_ix (by omega), io_ix (by omega), obm, k2 18 (by omega), n1, io_add]
    refine ⟨_, rfl, fun k hk => ?_, fun j hj => ?_⟩
    · by_cases e : k = i
      · subst e; rw [mu_s]
      · rw [mu_k _ _ e]; exact k1 k (by omega)
    · rw [mu_j _ _ _ hj]; exact k2 j hj
theorem m_back22 {u : Nat} (hu : u < 2) (h0 : σ 0 20 = io u) : ∃ σ', f7_back_b22 1000 σ 0 = some (σ', io u) ∧ (∀ k, k < 19 → σ' 17 k = σ 20 (19 * u + k)) ∧ σ' 0 18 = io 0 ∧ (∀ k, k ≠ 18 → σ' 0 k = σ 0 k) ∧ ∀ j, j ≠ 0 → j ≠ 17 → σ' j = σ j := by
  have key := lock_loop (fun r (t : Mem) i => f7_back_b22 r t i) (fun t => some (mu t 0 18 (io 0), io u)) 19 (fun _ (a : Unit) => a) (fun i _ t => (∀ k, k < i → t 17 k = σ 20 (19 * u + k)) ∧ ∀ j, j ≠ 17 → t j = σ j) (a0 := ()) (t0 := σ) ⟨fun k hk => by omega, fun _ _ => rfl⟩ (fun r a t hI => ?_) (fun r i a t hi hI => ?_) 1000 (by omega)
  · obtain ⟨t, e, k1, k2⟩ := key
    refine ⟨_, e, fun k hk => ?_, by rw [mu_s], fun k hk => ?_, fun j z1 z2 => ?_⟩
    · rw [mu_j _ _ _ (by omega)]; exact k1 k hk
    · rw [mu_k _ _ hk, k2 0 (by omega)]
    · rw [mu_j _ _ _ z1]; exact k2 j z2
  · show f7_back_b22 (r + 1) _ _ = _
    rw [f7_back_b22, if_pos (by decide), obm, mu_k _ _ (by omega), hI.2 0 (by omega), h0, n0]
  · show ∃ t', f7_back_b22 (r + 1) _ _ = f7_back_b22 r _ _ ∧ _
    obtain ⟨k1, k2⟩ := hI
    have hx : 19 * io (u : Int) + io (i : Int) = io ((19 * u + i : Nat) : Int) := by rw [n19, io_mul, io_add]; congr 1
    rw [f7_back_b22, if_neg (by simp (disch := omega) only [n0, n1, n2, n3, n4, n5, n6, n7, n8, n9, n10, n11, n12, n13, n14, n15, n16, n17, n18, n19, n20, n21, n22, n23, n24, n25, n26, n27, n28, n29, n30, n31, n32, n33, n34, n35, n36, n37, n38, n39, n40, n41, n42, n43, n44, n45, n46, n47, n48, n49, n50, n51, n52, n53, n54, n55, n56, n57, n58, n59, n60, n61, n62, n63, n64, n65, n66, n97, n99, n100, n103, n107, n111, n116, n117, n119, n126, n200, n359, n360, n999, n1000, n9999, n65521, n99999, n1000000, io_neg, io_add, io_sub, io_mul, io_lt, io_le, io_eq, io_nat, Int.toNat_natCast, toNat_c1, ifg, obs, obm, oob, bi0, bi1, bi01]; omega), k2 0 (by omega), h0, hx, if_pos (in_ix (n := 38) (by omega) (by decide)), if_pos (in_ix (n := 19) hi (by decide)), io_ix (by omega), io_ix (by omega), obm, k2 20 (by omega), n1, io_add]
    refine ⟨_, rfl, fun k hk => ?_, fun j hj => ?_⟩
    · by_cases e : k = i
      · subst e; rw [mu_s]
      · rw [mu_k _ _ e]; exact k1 k (by omega)
    · rw [mu_j _ _ _ hj]; exact k2 j hj
theorem m_keep13 {u : Nat} (hu : u < 2) (h0 : σ 0 20 = io u) : ∃ σ', f7_keep_b13 1000 σ 0 = some (σ', io ((u + 1 : Nat) : Int)) ∧ σ' 0 20 = io ((u + 1 : Nat) : Int) ∧ (∀ k, k < 19 → σ' 20 (19 * u + k) = σ 17 k) ∧ (∀ k, k < 19 * u → σ' 20 k = σ 20 k) ∧ (∀ j, j ≠ 0 → j ≠ 20 → σ' j = σ j) ∧ ∀ k, k ≠ 20 → σ' 0 k = σ 0 k := by
  have key := lock_loop (fun r (t : Mem) i => f7_keep_b13 r t i) (fun t => some (mu t 0 20 (io ((u + 1 : Nat) : Int)), io ((u + 1 : Nat) : Int))) 19 (fun _ (a : Unit) => a) (fun i _ t => (∀ k, k < i → t 20 (19 * u + k) = σ 17 k) ∧ (∀ k, k < 19 * u → t 20 k = σ 20 k) ∧ ∀ j, j ≠ 20 → t j = σ j) (a0 := ()) (t0 := σ) ⟨fun k hk => by omega, fun _ _ => rfl, fun _ _ => rfl⟩ (fun r a t hI => ?_) (fun r i a t hi hI => ?_) 1000 (by omega)
  · obtain ⟨t, e, k1, k2, k3⟩ := key
    refine ⟨_, e, by rw [mu_s], fun k hk => ?_, fun k hk => ?_, fun j z1 z2 => ?_, fun k hk => ?_⟩
    · rw [mu_j _ _ _ (by omega)]; exact k1 k hk
    · rw [mu_j _ _ _ (by omega)]; exact k2 k hk
    · rw [mu_j _ _ _ z1]; exact k3 j z2
    · rw [mu_k _ _ hk, k3 0 (by omega)]
  · show f7_keep_b13 (r + 1) _ _ = _
    rw [f7_keep_b13, if_pos (by decide), obm, mu_s, hI.2.2 0 (by omega), h0, n1, io_add]
    rfl
  · show ∃ t', f7_keep_b13 (r + 1) _ _ = f7_keep_b13 r _ _ ∧ _
    obtain ⟨k1, k2, k3⟩ := hI
    have hx : 19 * io (u : Int) + io (i : Int) = io ((19 * u + i : Nat) : Int) := by rw [n19, io_mul, io_add]; congr 1
    rw [f7_keep_b13, if_neg (by simp (disch := omega) only [n0, n1, n2, n3, n4, n5, n6, n7, n8, n9, n10, n11, n12, n13, n14, n15, n16, n17, n18, n19, n20, n21, n22, n23, n24, n25, n26, n27, n28, n29, n30, n31, n32, n33, n34, n35, n36, n37, n38, n39, n40, n41, n42, n43, n44, n45, n46, n47, n48, n49, n50, n51, n52, n53, n54, n55, n56, n57, n58, n59, n60, n61, n62, n63, n64, n65, n66, n97, n99, n100, n103, n107, n111, n116, n117, n119, n126, n200, n359, n360, n999, n1000, n9999, n65521, n99999, n1000000, io_neg, io_add, io_sub, io_mul, io_lt, io_le, io_eq, io_nat, Int.toNat_natCast, toNat_c1, ifg, obs, obm, oob, bi0, bi1, bi01]; omega), k3 0 (by omega), h0, hx, if_pos (in_ix (n := 19) hi (by decide)), if_pos (in_ix (n := 38) (by omega) (by decide)), io_ix (by omega), io_ix (by omega), obm, k3 17 (by omega), n1, io_add]
    refine ⟨_, rfl, fun k hk => ?_, fun k hk => ?_, fun j hj => ?_⟩
    · by_cases e : k = i
      · subst e; rw [mu_s]
      · rw [mu_k _ _ (by omega)]; exact k1 k (by omega)
    · rw [mu_k _ _ (by omega)]; exact k2 k hk
    · rw [mu_j _ _ _ hj]; exact k3 j hj
theorem s_late (hI : Inv σc σm) (a b : Int32) : Step (f6_late σc a b) (f7_late σm a b) := by
  have hI' := hI
  obtain ⟨B, D, l, X, m, U, m2, V, q, Z, Y, hA, hC, hM⟩ := hI'
  obtain ⟨x, rfl, x0, x1⟩ := arg a
  obtain ⟨y, rfl, y0, y1⟩ := arg b
  have hb := hA.1.1
  unfold f6_late f7_late
  simp (disch := omega) only [n0, n1, n2, n3, n4, n5, n6, n7, n8, n9, n10, n11, n12, n13, n14, n15, n16, n17, n18, n19, n20, n21, n22, n23, n24, n25, n26, n27, n28, n29, n30, n31, n32, n33, n34, n35, n36, n37, n38, n39, n40, n41, n42, n43, n44, n45, n46, n47, n48, n49, n50, n51, n52, n53, n54, n55, n56, n57, n58, n59, n60, n61, n62, n63, n64, n65, n66, n97, n99, n100, n103, n107, n111, n116, n117, n119, n126, n200, n359, n360, n999, n1000, n9999, n65521, n99999, n1000000, io_neg, io_add, io_sub, io_mul, io_lt, io_le, io_eq, io_nat, Int.toNat_natCast, toNat_c1, ifg, obs, obm, oob, bi0, bi1, bi01, ob_ite, bind_ite, ↓reduceIte, eq_self, c_isRule, c_isBeat, c_isMinute, c_isTold, m_isRule, m_in, i64_toInt, io_toInt, j0, j1, j2, j3, j9, j30, j32, j48, j57, j59, j60, j99, j126, j359, j9999, decide_eq_false_iff_not, decide_eq_true_eq, p_between, c_isTrain hC.2.1.1.1 hA.1, m_isTrain hM.2.1.1.1 hA.1]
  by_cases c : 0 ≤ x ∧ x ≤ (B 0 0 : Int) - 1
  · have c' := not_not_intro c
    rw [if_neg c', if_neg c']
    by_cases c1 : 0 ≤ y ∧ y ≤ 30
    · have c1' := not_not_intro c1
      rw [if_neg c1', if_neg c1']
      obtain ⟨i, rfl⟩ : ∃ i : Nat, x = (i : Int) := ⟨x.toNat, by omega⟩
      obtain ⟨v, rfl⟩ : ∃ v : Nat, y = (v : Int) := ⟨y.toNat, by omega⟩
      have hi : i < 6 := by omega
      obtain ⟨σ1, e1, hC1, g1, g2⟩ := c_beginChange hA hC
      obtain ⟨σ2, e2, hM2⟩ := m_note hA hM
      have hm2 := IM_n hi hM2
      have hU' := UB_up hA.2.2.2.1 hA.2.1
      simp (disch := omega) only [n0, n1, n2, n3, n4, n5, n6, n7, n8, n9, n10, n11, n12, n13, n14, n15, n16, n17, n18, n19, n20, n21, n22, n23, n24, n25, n26, n27, n28, n29, n30, n31, n32, n33, n34, n35, n36, n37, n38, n39, n40, n41, n42, n43, n44, n45, n46, n47, n48, n49, n50, n51, n52, n53, n54, n55, n56, n57, n58, n59, n60, n61, n62, n63, n64, n65, n66, n97, n99, n100, n103, n107, n111, n116, n117, n119, n126, n200, n359, n360, n999, n1000, n9999, n65521, n99999, n1000000, io_neg, io_add, io_sub, io_mul, io_lt, io_le, io_eq, io_nat, Int.toNat_natCast, toNat_c1, ifg, obs, obm, oob, bi0, bi1, bi01, ob_ite, bind_ite, ↓reduceIte, eq_self, p_lateOf, hC.2.2.2.1.2.1 i hi, e1, e2, hm2, c_makeLate]
      refine ⟨_, _, _, rfl, rfl, B, du D i v, l, X, _, _, m2, V, q, Z, Y, ⟨hA.1, DB_du hA.2.1 hi (by omega), hA.2.2.1, hU', hA.2.2.2.2⟩, IC_change (D := D) hA.2.2.2.2.1.1 hC1 (fun j z1 z2 z3 z4 => ?_) (SD_late hi hC1.2.2.2.1) ?_ (fun r hr => ?_) ?_, IM_late hi hM2⟩
      · rw [mu_j _ _ _ (by omega)]
      · exact CP_fr rfl (fun j z1 z2 => by rw [mu_j _ _ _ (by omega)]) hU'.1 hC1.2.2.2.2.2.2.1
      · rw [mu_j _ _ _ (by omega)]; exact g1 r hr
      · rw [mu_j _ _ _ (by omega)]; exact g2
    · rw [if_pos c1, if_pos c1]
      exact Step.same hI rfl rfl
  · rw [if_pos c, if_pos c]
    exact Step.same hI rfl rfl
theorem s_undo (hI : Inv σc σm) : Step (f6_undo σc) (f7_undo σm) := by
  have hI' := hI
  obtain ⟨B, D, l, X, m, U, m2, V, q, Z, Y, hA, hC, hM⟩ := hI'
  obtain ⟨hm8, hU⟩ := hA.2.2.2.1
  obtain ⟨h18, hr⟩ := hM.2.2.2.1
  unfold f6_undo f7_undo f3_size
  rw [h18]
  cases m with
  | zero =>
    rw [c_pop0 hC.2.2.2.2.2.2.1, oob, if_pos (by rfl), if_pos (by rfl)]
    exact Step.same hI rfl rfl
  | succ m =>
    obtain ⟨σ1, e1, c1, s1, fr1⟩ := c_pop (h := 82) (b := 84) (N := 8) rfl (by omega) rfl (fun p hp => sl82 hp) (by omega) ⟨hm8, hU⟩ hC.2.2.2.2.2.2.1 hC.2.2.2.1 (by omega)
    obtain ⟨σ2, e2, g1, g2, fr2⟩ := c_outdate (σ := σ1)
    have c2 : CP σ2 82 84 8 m U := CP_fr rfl (fun j z1 z2 => fr2 j (by omega) (by omega)) (by omega) c1
    have h82 : σ2 82 1 = io m := by obtain ⟨p, h, -⟩ := c2; exact h
    obtain ⟨σ3, e3, d1, d2⟩ := m_undo22 (σ := mu σm 0 18 (io m)) (u := m) (by omega) (by rw [mu_s])
    rw [e1, oob, if_neg (by decide), e2, obs, h82, obs, if_neg (by rw [n0, io_eq (by omega) (by omega) (by omega) (by omega)]; omega), n1, io_sub, show ((m + 1 : Nat) : Int) - 1 = (m : Int) by omega, obm, e3]
    refine ⟨_, _, _, rfl, rfl, B, U m, l, X, m, U, m2, V, q, Z, Y, ⟨hA.1, hU m (by omega), hA.2.2.1, ⟨by omega, fun i hi => hU i (by omega)⟩, hA.2.2.2.2⟩, IC_change (D := D) hA.2.2.2.2.1.1 hC (fun j z1 z2 z3 z4 => ?_) ?_ c2 g1 g2, ?_⟩
    · rw [fr2 j z1 (by omega), fr1 j z2 (by omega)]
    · exact SD_fr (fun j z1 z2 => fr2 j (by omega) (by omega)) s1
    · have hM1 : IM (mu σm 0 18 (io m)) B D l X m U m2 V q Z Y := IM_undo hM (fun j z1 z2 => mu_j _ _ _ z1) (fun k hk => mu_k _ _ hk) ⟨by rw [mu_s], fun i hi => RD_fr (mu_j _ _ _ (by omega)) (hr i (by omega))⟩
      exact IM_17 hM1 d2 (RD_row (j := 18) (o := 19 * m) (hU m (by omega)).2.1 (fun k hk => by rw [Nat.zero_add]; exact d1 k hk) (hM1.2.2.2.1.2 m |> fun _ => RD_fr (mu_j _ _ _ (by omega)) (hr m (by omega))))
theorem IM_kept {m3 : Nat} {V' : PS} (H : IM σ B D l X m U m2 V q Z Y) (fr : ∀ j, j ≠ 0 → j ≠ 20 → σ' j = σ j) (f0 : ∀ k, k ≠ 20 → σ' 0 k = σ 0 k) (h : MK σ' m3 V') : IM σ' B D l X m U m3 V' q Z Y := by
  obtain ⟨h1, h2, h3, h4, h5, h6⟩ := H
  exact ⟨MT_fr (f0 0 (by omega)) (fr 2 (by omega) (by omega)) h1, MB_fr (fun j _ _ => fr j (by omega) (by omega)) h2, RD_fr (fr 17 (by omega) (by omega)) h3, MU_fr (f0 18 (by omega)) (fr 18 (by omega) (by omega)) h4, h, MS_fr (f0 21 (by omega)) (fr 23 (by omega) (by omega)) (fr 24 (by omega) (by omega)) h6⟩
theorem IC_kept {m3 : Nat} {V' : PS} (hm : m ≤ 8) (H : IC σ B D l X m U m2 V q Z Y) (fr : ∀ j, (j < 124 ∨ 135 < j) → σ' j = σ j) (h : CP σ' 124 126 2 m3 V') : IC σ' B D l X m U m3 V' q Z Y := by
  obtain ⟨h1, h2, h3, h4, h5, h6, h7, h8, h9, h10⟩ := H
  exact ⟨CT_fr (by rw [fr 1 (by omega)]) (fr 2 (by omega)) h1, CB_fr (fun j _ _ => fr j (by omega)) h2, CD_fr (fun j _ _ => fr j (by omega)) h3, SD_fr (fun j _ _ => fr j (by omega)) h4, by rw [fr 37 (by omega)]; exact h5, CH_fr (fun j _ _ => fr j (by omega)) h6, CP_fr rfl (fun j _ _ => fr j (by omega)) hm h7, h, CS_fr (fun j _ _ => fr j (by omega)) h9, CL_fr (by rw [fr 0 (by omega)]) (by rw [fr 0 (by omega)]) (by rw [fr 0 (by omega)]) h10⟩
theorem s_keep (hI : Inv σc σm) : Step (f6_keep σc) (f7_keep σm) := by
  have hI' := hI
  obtain ⟨B, D, l, X, m, U, m2, V, q, Z, Y, hA, hC, hM⟩ := hI'
  obtain ⟨hm2, hV⟩ := hA.2.2.2.2.1
  obtain ⟨h20, hr⟩ := hM.2.2.2.2.1
  have hcp := hC.2.2.2.2.2.2.2.1
  have h124 : σc 124 1 = io m2 := by obtain ⟨p, h, -⟩ := hcp; exact h
  have hfull : f3_isFull σc 124 = if io m2 < io 2 then some 0 else some 1 := by
    unfold f3_isFull
    rw [h124]
    rfl
  unfold f6_keep f7_keep f3_push f3_size
  rw [hfull, h20]
  by_cases c : m2 = 2
  · subst c
    rw [if_neg (by decide), obs, if_neg (by decide), if_pos (by rfl)]
    exact Step.same hI rfl rfl
  · obtain ⟨σ1, e1, c1, fr1⟩ := c_push11 (h := 124) (b := 126) (N := 2) (m := m2) (D := D) rfl (by omega) rfl (fun p hp => sl124 hp) (by omega) (by omega) hA.2.1 hcp hC.2.2.2.1 (by omega)
    have h125 : σ1 124 1 = io ((m2 + 1 : Nat) : Int) := by obtain ⟨p, h, -⟩ := c1; exact h
    obtain ⟨σ2, e2, b1, b2, b3, b4, b5⟩ := m_keep13 (u := m2) (by omega) h20
    rw [if_pos (by rw [io_lt (by omega) (by omega) (by omega) (by omega)]; omega), obs, if_pos rfl, obs, if_pos rfl, e1, obs, h125, obs, if_neg (by rw [n2, io_eq (by omega) (by omega) (by omega) (by omega)]; omega), e2]
    refine ⟨_, _, _, rfl, rfl, B, D, l, X, m, U, m2 + 1, fun i => if i = m2 then D else V i, q, Z, Y, ⟨hA.1, hA.2.1, hA.2.2.1, hA.2.2.2.1, ⟨by omega, fun i hi => ?_⟩, hA.2.2.2.2.2⟩, IC_kept hA.2.2.2.1.1 hC (fun j hj => fr1 j (by omega)) c1, IM_kept hM b4 b5 ⟨b1, fun i hi => ?_⟩⟩
    · show DB (if i = m2 then D else V i)
      split
      · exact hA.2.1
      · exact hV i (by omega)
    · show RD σ2 20 (19 * i) (if i = m2 then D else V i)
      by_cases e : i = m2
      · subst e
        rw [if_pos rfl]
        exact RD_row (j := 17) (o := 0) hA.2.1.2.1 (fun k hk => by rw [b2 k hk, Nat.zero_add]) hM.2.2.1
      · rw [if_neg e]
        exact RD_row (j := 20) (o := 19 * i) (hV i (by omega)).2.1 (fun k hk => b3 _ (by omega)) (hr i (by omega))
theorem CP_0 (H : CP σ 82 84 8 m U) (fr : ∀ j, 83 ≤ j → j ≤ 123 → σ' j = σ j) (h : σ' 82 1 = io 0) : CP σ' 82 84 8 0 U := by
  obtain ⟨p, h1, h2, h3, h4, h5⟩ := H
  refine ⟨p, h, fun i hi => ?_, h3, fun i hi => ?_, fun i hi => by omega⟩
  · rw [fr 83 (by omega) (by omega)]; exact h2 i hi
  · rw [fr _ (by omega) (by omega)]; exact h4 i hi
theorem s_back (hI : Inv σc σm) : Step (f6_back σc) (f7_back σm) := by
  have hI' := hI
  obtain ⟨B, D, l, X, m, U, m2, V, q, Z, Y, hA, hC, hM⟩ := hI'
  obtain ⟨hm2, hV⟩ := hA.2.2.2.2.1
  obtain ⟨h20, hr⟩ := hM.2.2.2.2.1
  unfold f6_back f7_back f3_size f3_empty
  rw [h20]
  cases m2 with
  | zero =>
    rw [c_pop0 hC.2.2.2.2.2.2.2.1, oob, if_pos (by rfl), if_pos (by rfl)]
    exact Step.same hI rfl rfl
  | succ m2 =>
    obtain ⟨σ1, e1, c1, s1, fr1⟩ := c_pop (h := 124) (b := 126) (N := 2) rfl (by omega) rfl (fun p hp => sl124 hp) (by omega) ⟨hm2, hV⟩ hC.2.2.2.2.2.2.2.1 hC.2.2.2.1 (by omega)
    obtain ⟨σ2, e2, g1, g2, fr2⟩ := c_outdate (σ := mu σ1 82 1 0)
    have fr : ∀ j, j ≠ 0 → (j < 42 ∨ 73 < j) → j ≠ 82 → σ2 j = σ1 j := fun j z1 z2 z3 => by rw [fr2 j z1 z2, mu_j _ _ _ z3]
    have c2 : CP σ2 124 126 2 m2 V := CP_fr rfl (fun j z1 z2 => fr j (by omega) (by omega) (by omega)) (by omega) c1
    have h124 : σ2 124 1 = io m2 := by obtain ⟨p, h, -⟩ := c2; exact h
    obtain ⟨σ3, e3, d1, d2, d3, d4⟩ := m_back22 (σ := mu σm 0 20 (io m2)) (u := m2) (by omega) (by rw [mu_s])
    rw [e1, oob, if_neg (by decide), obm, obs, e2, obs, h124, obs, if_neg (by rw [n0, io_eq (by omega) (by omega) (by omega) (by omega)]; omega), n1, io_sub, show ((m2 + 1 : Nat) : Int) - 1 = (m2 : Int) by omega, obm, e3]
    have hC' := hC
    obtain ⟨h1, h2, h3, h4, h5, h6, h7, h8, h9, h10⟩ := hC'
    refine ⟨_, _, _, rfl, rfl, B, V m2, l, X, 0, U, m2, V, q, Z, Y, ⟨hA.1, hV m2 (by omega), hA.2.2.1, ⟨by omega, fun i hi => by omega⟩, ⟨by omega, fun i hi => hV i (by omega)⟩, hA.2.2.2.2.2⟩, ⟨?_, ?_, ?_, ?_, ?_, fun r hr => Or.inl (g1 r hr), ?_, c2, ?_, Or.inl g2⟩, ?_⟩
    · exact CT_fr (by rw [fr 1 (by omega) (by omega) (by omega), fr1 1 (by omega) (by omega)]) (by rw [fr 2 (by omega) (by omega) (by omega), fr1 2 (by omega) (by omega)]) h1
    · exact CB_fr (fun j z1 z2 => by rw [fr j (by omega) (by omega) (by omega), fr1 j (by omega) (by omega)]) h2
    · exact CD_fr (fun j z1 z2 => by rw [fr j (by omega) (by omega) (by omega), fr1 j (by omega) (by omega)]) h3
    · exact SD_fr (fun j z1 z2 => fr j (by omega) (by omega) (by omega)) s1
    · rw [fr 37 (by omega) (by omega) (by omega), fr1 37 (by omega) (by omega)]; exact h5
    · exact CP_0 h7 (fun j z1 z2 => by rw [fr j (by omega) (by omega) (by omega), fr1 j (by omega) (by omega)]) (by rw [fr2 82 (by omega) (by omega), mu_s]; rfl)
    · exact CS_fr (fun j z1 z2 => by rw [fr j (by omega) (by omega) (by omega), fr1 j (by omega) (by omega)]) h9
    · obtain ⟨k1, k2, k3, k4, k5, k6⟩ := hM
      have f : ∀ j, j ≠ 0 → j ≠ 17 → σ3 j = σm j := fun j z1 z2 => by rw [d4 j z1 z2, mu_j _ _ _ z1]
      have f0 : ∀ k, k ≠ 18 → k ≠ 20 → σ3 0 k = σm 0 k := fun k z1 z2 => by rw [d3 k z1, mu_k _ _ z2]
      refine ⟨MT_fr (f0 0 (by omega) (by omega)) (f 2 (by omega) (by omega)) k1, MB_fr (fun j _ _ => f j (by omega) (by omega)) k2, ?_, ⟨d2, fun i hi => by omega⟩, ⟨?_, fun i hi => ?_⟩, MS_fr (f0 21 (by omega) (by omega)) (f 23 (by omega) (by omega)) (f 24 (by omega) (by omega)) k6⟩
      · exact RD_row (j := 20) (o := 19 * m2) (hV m2 (by omega)).2.1 (fun k hk => by rw [Nat.zero_add, d1 k hk, mu_j _ _ _ (by omega)]) (hr m2 (by omega))
      · rw [d3 20 (by omega), mu_s]
      · exact RD_fr (f 20 (by omega) (by omega)) (hr i (by omega))
end Notes
