/-! PILES OF THE COMPONENT, hours outdated -/
theorem sl82 {p : Nat} (h : p < 8) : 84 + 5 * p ∈ standL := by
  obtain rfl | rfl | rfl | rfl | rfl | rfl | rfl | rfl : p = 0 ∨ p = 1 ∨ p = 2 ∨ p = 3 ∨ p = 4 ∨ p = 5 ∨ p = 6 ∨ p = 7 := by omega
  all_goals decide
theorem sl124 {p : Nat} (h : p < 2) : 126 + 5 * p ∈ standL := by
  obtain rfl | rfl : p = 0 ∨ p = 1 := by omega
  all_goals decide
section Piles
variable {σ σ' σc σm : Mem} {B P : PS} {D D' : Nat → Nat} {l l' : Nat} {X X' : Nat → Nat} {m m' : Nat} {U U' : PS} {m2 : Nat} {V : PS} {q q' : Nat} {Z Y Z' Y' : Nat → Nat}
theorem c_push11 {h b N : Nat} (hb : b = h + 2) (hN : N ≤ 8) (hln : lnC (h + 1) = N) (hsl : ∀ p, p < N → b + 5 * p ∈ standL) (h82 : 82 ≤ h) (hmN : m < N) (hD : DB D) (H : CP σ h b N m U) (hs : SD σ 31 D) (hb200 : b < 200) : ∃ σ', f3_push_b11 h 31 σ = some σ' ∧ CP σ' h b N (m + 1) (fun i => if i = m then D else U i) ∧ ∀ j, (j < h ∨ h + 1 + 5 * N < j) → σ' j = σ j := by
  obtain ⟨p, h1, h2, h3, h4, h5⟩ := H
  have hp := h2 m hmN
  obtain ⟨σ1, e1, s1, fr1⟩ := c_copy (h := b + 5 * p m) (o := 31) hD.2.1 hs (h4 (p m) hp.1) (by omega)
  unfold f3_push_b11
  rw [hln, h1]
  simp (disch := omega) only [n0, n1, n2, n3, n4, n5, n6, n7, n8, n9, n10, n11, n12, n13, n14, n15, n16, n17, n18, n19, n20, n21, n22, n23, n24, n25, n26, n27, n28, n29, n30, n31, n32, n33, n34, n35, n36, n37, n38, n39, n40, n41, n42, n43, n44, n45, n46, n47, n48, n49, n50, n51, n52, n53, n54, n55, n56, n57, n58, n59, n60, n61, n62, n63, n64, n65, n66, n97, n99, n100, n103, n107, n111, n116, n117, n119, n126, n200, n359, n360, n999, n1000, n9999, n65521, n99999, n1000000, io_neg, io_add, io_sub, io_mul, io_lt, io_le, io_eq, io_nat, Int.toNat_natCast, toNat_c1, ifg, obs, obm, oob, bi0, bi1, bi01, ob_ite, bind_ite, ↓reduceIte, eq_self, hp.2]
  rw [if_pos (hsl _ hp.1), e1, obs, fr1 h (by omega), h1, io_add]
  refine ⟨_, rfl, ⟨p, ?_, fun i hi => ?_, h3, fun i hi => ?_, fun i hi => ?_⟩, fun j hj => ?_⟩
  · rw [mu_s]; rfl
  · rw [mu_j _ _ _ (by omega), fr1 (h + 1) (by omega)]
    exact h2 i hi
  · rw [mu_j _ _ _ (by omega)]
    by_cases e : i = p m
    · rw [e]; exact s1.1.1
    · rw [fr1 (b + 5 * i + 1) (by omega)]; exact h4 i hi
  · refine SD_fr (fun j z1 z2 => by rw [mu_j _ _ _ (by omega)]) (σ := σ1) ?_
    show SD σ1 (b + 5 * p i) (if i = m then D else U i)
    by_cases e : i = m
    · subst e
      rw [if_pos rfl]
      exact s1
    · rw [if_neg e]
      have hpi := h2 i (by omega)
      have hne : p i ≠ p m := fun z => e (h3 i m (by omega) hmN z)
      exact SD_fr (fun j z1 z2 => fr1 j (by omega)) (h5 i (by omega))
  · rw [mu_j _ _ _ (by omega), fr1 j (by omega)]
theorem c_drop (H : CP σ 82 84 8 8 U) : ∃ σ', f3_dropLowest σ 82 = some σ' ∧ CP σ' 82 84 8 7 (fun i => U (i + 1)) ∧ ∀ j, j ≠ 82 → j ≠ 83 → σ' j = σ j := by
  obtain ⟨p, h1, h2, h3, h4, h5⟩ := H
  have hp0 := h2 0 (by omega)
  unfold f3_dropLowest
  have key := lock_loop (fun r (t : Mem) i => f3_dropLowest_b9 82 r t (σ 83 0) i) (fun t => some (mu (mu t 83 7 (σ 83 0)) 82 1 (io 7))) 7 (fun _ (a : Unit) => a) (fun k _ t => (∀ i, i < k → t 83 i = σ 83 (i + 1)) ∧ (∀ i, k ≤ i → t 83 i = σ 83 i) ∧ ∀ j, j ≠ 83 → t j = σ j) (a0 := ()) (t0 := σ) ⟨fun i hi => by omega, fun _ _ => rfl, fun _ _ => rfl⟩ (fun r a t hI => ?_) (fun r i a t hi hI => ?_) 1000 (by omega)
  · obtain ⟨t, e, k1, k2, k3⟩ := key
    refine ⟨mu (mu t 83 7 (σ 83 0)) 82 1 (io 7), ?_, ⟨fun i => if i < 7 then p (i + 1) else p 0, ?_, fun i hi => ?_, fun i j hi hj z => ?_, fun i hi => ?_, fun i hi => ?_⟩, fun j z1 z2 => ?_⟩
    · show (if ¬ ((0 : Int32) < 0 ∨ 8 ≤ (0 : Int32).toNatClampNeg) then if (σ 83 0).toNatClampNeg ∈ standL then f3_dropLowest_b9 82 1000 σ (σ 83 0) 0 else none else none) = _
      rw [if_pos (by decide), if_pos (by rw [hp0.2, io_ix (by omega)]; exact sl82 hp0.1)]
      exact e
    · rw [mu_s]; rfl
    · rw [mu_j _ _ _ (by omega)]
      show (if i < 7 then p (i + 1) else p 0) < 8 ∧ mu t 83 7 (σ 83 0) 83 i = io ((84 + 5 * (if i < 7 then p (i + 1) else p 0) : Nat) : Int)
      by_cases c : i = 7
      · subst c
        rw [if_neg (by omega), mu_s]
        exact hp0
      · rw [if_pos (by omega), mu_k _ _ c, k1 i (by omega)]
        exact h2 (i + 1) (by omega)
    · have z : (if i < 7 then p (i + 1) else p 0) = (if j < 7 then p (j + 1) else p 0) := z
      by_cases c1 : i < 7
      · by_cases c2 : j < 7
        · rw [if_pos c1, if_pos c2] at z
          have := h3 _ _ (by omega) (by omega) z
          omega
        · rw [if_pos c1, if_neg c2] at z
          have := h3 _ _ (by omega) (by omega) z
          omega
      · by_cases c2 : j < 7
        · rw [if_neg c1, if_pos c2] at z
          have := h3 _ _ (by omega) (by omega) z
          omega
        · omega
    · rw [mu_j _ _ _ (by omega), mu_j _ _ _ (by omega), k3 _ (by omega)]
      exact h4 i hi
    · show SD _ (84 + 5 * (if i < 7 then p (i + 1) else p 0)) (U (i + 1))
      rw [if_pos hi]
      exact SD_fr (fun j q1 q2 => by rw [mu_j _ _ _ (by omega), mu_j _ _ _ (by omega), k3 _ (by omega)]) (h5 (i + 1) (by omega))
    · rw [mu_j _ _ _ z1, mu_j _ _ _ z2, k3 j z2]
  · show f3_dropLowest_b9 82 (r + 1) _ _ _ = _
    obtain ⟨k1, k2, k3⟩ := hI
    rw [f3_dropLowest_b9]
    show (if (Int32.ofNat 8) ≤ io 7 + 1 then (if ¬ ((Int32.ofNat 8) - 1 < 0 ∨ 8 ≤ ((Int32.ofNat 8) - 1).toNatClampNeg) then (bm (mu t 83 (((Int32.ofNat 8) - 1).toNatClampNeg) (σ 83 0)) fun σ3 => bm (mu σ3 82 1 ((σ3 82 1) - 1)) fun σ4 => some σ4) else none) else _) = _
    rw [if_pos (by decide), if_pos (by decide), obm, obm, mu_j _ _ _ (by omega), k3 82 (by omega), h1]
    rfl
  · show ∃ t', f3_dropLowest_b9 82 (r + 1) _ _ _ = f3_dropLowest_b9 82 r _ _ _ ∧ _
    obtain ⟨k1, k2, k3⟩ := hI
    have hpi := h2 (i + 1) (by omega)
    have e1 : t 83 (i + 1) = io ((84 + 5 * p (i + 1) : Nat) : Int) := by rw [k2 (i + 1) (by omega)]; exact hpi.2
    rw [f3_dropLowest_b9]
    show ∃ t', (if (Int32.ofNat 8) ≤ io (i : Int) + 1 then _ else if ¬ (io (i : Int) + 1 < 0 ∨ 8 ≤ (io (i : Int) + 1).toNatClampNeg) then if (t 83 ((io (i : Int) + 1).toNatClampNeg)).toNatClampNeg ∈ standL then if ¬ (io (i : Int) < 0 ∨ 8 ≤ (io (i : Int)).toNatClampNeg) then (bm (mu t 83 (io (i : Int)).toNatClampNeg (t 83 ((io (i : Int) + 1).toNatClampNeg))) fun σ5 => f3_dropLowest_b9 82 r σ5 (σ 83 0) (io (i : Int) + 1)) else none else none else none) = _ ∧ _
    rw [if_neg (show ¬ (Int32.ofNat 8) ≤ io (i : Int) + 1 by rw [show Int32.ofNat 8 = io 8 from rfl, n1, io_add, io_le (by omega) (by omega) (by omega) (by omega)]; omega)]
    simp (disch := omega) only [n0, n1, n2, n3, n4, n5, n6, n7, n8, n9, n10, n11, n12, n13, n14, n15, n16, n17, n18, n19, n20, n21, n22, n23, n24, n25, n26, n27, n28, n29, n30, n31, n32, n33, n34, n35, n36, n37, n38, n39, n40, n41, n42, n43, n44, n45, n46, n47, n48, n49, n50, n51, n52, n53, n54, n55, n56, n57, n58, n59, n60, n61, n62, n63, n64, n65, n66, n97, n99, n100, n103, n107, n111, n116, n117, n119, n126, n200, n359, n360, n999, n1000, n9999, n65521, n99999, n1000000, io_neg, io_add, io_sub, io_mul, io_lt, io_le, io_eq, io_nat, Int.toNat_natCast, toNat_c1, ifg, obs, obm, oob, bi0, bi1, bi01, ob_ite, bind_ite, ↓reduceIte, eq_self, e1]
    rw [if_pos (sl82 hpi.1)]
    refine ⟨_, rfl, fun k hk => ?_, fun k hk => ?_, fun j hj => ?_⟩
    · by_cases e : k = i
      · subst e; rw [mu_s, hpi.2]
      · rw [mu_k _ _ e]; exact k1 k (by omega)
    · rw [mu_k _ _ (by omega)]; exact k2 k (by omega)
    · rw [mu_j _ _ _ hj]; exact k3 j hj
/-- what becomes of what can be undone -/
def upN (m : Nat) : Nat := if m = 8 then 8 else m + 1
def upU (m : Nat) (U : PS) (D : Nat → Nat) : PS := if m = 8 then (fun i => if i = 7 then D else U (i + 1)) else (fun i => if i = m then D else U i)
theorem UB_up (hU : UB 8 m U) (hD : DB D) : UB 8 (upN m) (upU m U D) := by
  obtain ⟨h1, h2⟩ := hU
  unfold upN upU
  by_cases c : m = 8
  · rw [if_pos c, if_pos c]
    refine ⟨by omega, fun i hi => ?_⟩
    show DB (if i = 7 then D else U (i + 1))
    split
    · exact hD
    · exact h2 (i + 1) (by omega)
  · rw [if_neg c, if_neg c]
    refine ⟨by omega, fun i hi => ?_⟩
    show DB (if i = m then D else U i)
    split
    · exact hD
    · exact h2 i (by omega)
theorem c_push82 (hU : UB 8 m U) (hD : DB D) (H : CP σ 82 84 8 m U) (hs : SD σ 31 D) : ∃ σ', f3_push σ 82 31 = some σ' ∧ CP σ' 82 84 8 (upN m) (upU m U D) ∧ ∀ j, (j < 82 ∨ 123 < j) → σ' j = σ j := by
  have hm := hU.1
  have h1 : σ 82 1 = io m := by obtain ⟨p, h1, -⟩ := H; exact h1
  unfold f3_push f3_isFull upN upU
  show ∃ σ', Option.bind (if σ 82 1 < io 8 then some 0 else some 1) _ = _ ∧ _
  rw [h1]
  by_cases c : m = 8
  · subst c
    rw [if_neg (by decide), obs, if_neg (by decide)]
    obtain ⟨σ1, e1, c1, fr1⟩ := c_drop H
    obtain ⟨σ2, e2, c2, fr2⟩ := c_push11 (h := 82) (b := 84) (N := 8) (m := 7) (D := D) rfl (by omega) rfl (fun p hp => sl82 hp) (by omega) (by omega) hD c1 (SD_fr (fun j _ _ => fr1 j (by omega) (by omega)) hs) (by omega)
    rw [e1, obs, e2]
    exact ⟨σ2, rfl, c2, fun j hj => by rw [fr2 j (by omega), fr1 j (by omega) (by omega)]⟩
  · rw [if_pos (by rw [io_lt (by omega) (by omega) (by omega) (by omega)]; omega), obs, if_pos rfl, if_neg c, if_neg c]
    obtain ⟨σ2, e2, c2, fr2⟩ := c_push11 (h := 82) (b := 84) (N := 8) (m := m) (D := D) rfl (by omega) rfl (fun p hp => sl82 hp) (by omega) (by omega) hD H hs (by omega)
    rw [e2]
    exact ⟨σ2, rfl, c2, fun j hj => fr2 j (by omega)⟩
theorem c_pop {h b N : Nat} (hb : b = h + 2) (hN : N ≤ 8) (hln : lnC (h + 1) = N) (hsl : ∀ p, p < N → b + 5 * p ∈ standL) (h82 : 82 ≤ h) (hU : UB N (m + 1) U) (H : CP σ h b N (m + 1) U) (hs : SD σ 31 D) (hb200 : b < 200) : ∃ σ', f3_pop σ h 31 = some (σ', io 1) ∧ CP σ' h b N m U ∧ SD σ' 31 (U m) ∧ ∀ j, ¬ (32 ≤ j ∧ j ≤ 35) → j ≠ h → σ' j = σ j := by
  obtain ⟨p, h1, h2, h3, h4, h5⟩ := H
  have hm := hU.1
  have hp := h2 m (by omega)
  have hs5 : SD (mu σ h 1 (io m)) (b + 5 * p m) (U m) := SD_fr (fun j z1 z2 => by rw [mu_j _ _ _ (by omega)]) (h5 m (by omega))
  obtain ⟨σ1, e1, s1, fr1⟩ := c_copy (σ := mu σ h 1 (io m)) (h := 31) (o := b + 5 * p m) (hU.2 m (by omega)).2.1 hs5 (by rw [mu_j _ _ _ (by omega)]; exact hs.1.1) (by omega)
  unfold f3_pop
  rw [hln, h1]
  rw [if_pos (show (0 : Int32) < io ((m + 1 : Nat) : Int) by rw [n0, io_lt (by omega) (by omega) (by omega) (by omega)]; omega), n1, io_sub, show ((m + 1 : Nat) : Int) - 1 = (m : Int) by omega, obm, mu_s, if_pos (in_ix (by omega) (by omega)), io_ix (by omega), mu_j _ _ _ (show h + 1 ≠ h by omega), hp.2, io_ix (by omega), if_pos (hsl _ hp.1), e1, obs]
  refine ⟨σ1, rfl, ⟨p, ?_, fun i hi => ?_, h3, fun i hi => ?_, fun i hi => ?_⟩, s1, fun j z1 z2 => ?_⟩
  · rw [fr1 h (by omega), mu_s]
  · rw [fr1 (h + 1) (by omega), mu_j _ _ _ (by omega)]; exact h2 i hi
  · rw [fr1 _ (by omega), mu_j _ _ _ (by omega)]; exact h4 i hi
  · exact SD_fr (fun j z1 z2 => by rw [fr1 j (by omega), mu_j _ _ _ (by omega)]) (h5 i (by omega))
  · rw [fr1 j (by omega), mu_j _ _ _ z2]
theorem c_pop0 {h b N : Nat} (H : CP σ h b N 0 U) : f3_pop σ h 31 = some (σ, io 0) := by
  obtain ⟨p, h1, -⟩ := H
  unfold f3_pop
  rw [h1, if_neg (by decide), n0]
theorem c_outdate : ∃ σ', f6_outdateHours σ = some σ' ∧ (∀ r, r < 4 → σ' (42 + 8 * r) 10 = io 0) ∧ σ' 0 10 = io 0 ∧ ∀ j, j ≠ 0 → (j < 42 ∨ 73 < j) → σ' j = σ j := by
  unfold f6_outdateHours
  have key := lock_loop (fun r (t : Mem) i => f6_outdateHours_b2 r t i) (fun t => some (mu t 0 10 (io 0))) 4 (fun _ (a : Unit) => a) (fun k _ t => (∀ r, r < k → t (42 + 8 * r) 10 = io 0) ∧ ∀ j, (j < 42 ∨ 73 < j) → t j = σ j) (a0 := ()) (t0 := σ) ⟨fun i hi => by omega, fun _ _ => rfl⟩ (fun r a t hI => ?_) (fun r i a t hi hI => ?_) 1000 (by omega)
  · obtain ⟨t, e, k1, k2⟩ := key
    refine ⟨_, e, fun r hr => ?_, ?_, fun j z1 z2 => ?_⟩
    · rw [mu_j _ _ _ (by omega)]; exact k1 r hr
    · rw [mu_s]
    · rw [mu_j _ _ _ z1]; exact k2 j z2
  · show f6_outdateHours_b2 (r + 1) _ _ = _
    rw [f6_outdateHours_b2, if_pos (by decide), obm, n0]
  · show ∃ t', f6_outdateHours_b2 (r + 1) _ _ = f6_outdateHours_b2 r _ _ ∧ _
    obtain ⟨k1, k2⟩ := hI
    rw [f6_outdateHours_b2, if_neg (by simp (disch := omega) only [n0, n1, n2, n3, n4, n5, n6, n7, n8, n9, n10, n11, n12, n13, n14, n15, n16, n17, n18, n19, n20, n21, n22, n23, n24, n25, n26, n27, n28, n29, n30, n31, n32, n33, n34, n35, n36, n37, n38, n39, n40, n41, n42, n43, n44, n45, n46, n47, n48, n49, n50, n51, n52, n53, n54, n55, n56, n57, n58, n59, n60, n61, n62, n63, n64, n65, n66, n97, n99, n100, n103, n107, n111, n116, n117, n119, n126, n200, n359, n360, n999, n1000, n9999, n65521, n99999, n1000000, io_neg, io_add, io_sub, io_mul, io_lt, io_le, io_eq, io_nat, Int.toNat_natCast, toNat_c1, ifg, obs, obm, oob, bi0, bi1, bi01]; omega)]
    unfold f1_outdate
    simp (disch := omega) only [n0, n1, n2, n3, n4, n5, n6, n7, n8, n9, n10, n11, n12, n13, n14, n15, n16, n17, n18, n19, n20, n21, n22, n23, n24, n25, n26, n27, n28, n29, n30, n31, n32, n33, n34, n35, n36, n37, n38, n39, n40, n41, n42, n43, n44, n45, n46, n47, n48, n49, n50, n51, n52, n53, n54, n55, n56, n57, n58, n59, n60, n61, n62, n63, n64, n65, n66, n97, n99, n100, n103, n107, n111, n116, n117, n119, n126, n200, n359, n360, n999, n1000, n9999, n65521, n99999, n1000000, io_neg, io_add, io_sub, io_mul, io_lt, io_le, io_eq, io_nat, Int.toNat_natCast, toNat_c1, ifg, obs, obm, oob, bi0, bi1, bi01, ob_ite, bind_ite, ↓reduceIte, eq_self]
    refine ⟨_, rfl, fun k hk => ?_, fun j hj => ?_⟩
    · by_cases e : k = i
      · subst e; rw [mu_s]
      · rw [mu_j _ _ _ (by omega)]; exact k1 k (by omega)
    · rw [mu_j _ _ _ (by omega)]; exact k2 j hj
/-- the stand changes: what can be undone, hours and lead with it -/
theorem IC_change (hm2 : m2 ≤ 2) (H : IC σ B D l X m U m2 V q Z Y) (fr : ∀ j, j ≠ 0 → ¬ (32 ≤ j ∧ j ≤ 35) → ¬ (42 ≤ j ∧ j ≤ 73) → ¬ (82 ≤ j ∧ j ≤ 123) → σ' j = σ j) (hs : SD σ' 31 D') (hp : CP σ' 82 84 8 m' U') (hh : ∀ r, r < 4 → σ' (42 + 8 * r) 10 = io 0) (hL : σ' 0 10 = io 0) : IC σ' B D' l X m' U' m2 V q Z Y := by
  obtain ⟨h1, h2, h3, h4, h5, h6, h7, h8, h9, h10⟩ := H
  exact ⟨CT_fr (by rw [fr 1 (by omega) (by omega) (by omega) (by omega)]) (fr 2 (by omega) (by omega) (by omega) (by omega)) h1, CB_fr (fun j _ _ => fr j (by omega) (by omega) (by omega) (by omega)) h2, CD_fr (fun j _ _ => fr j (by omega) (by omega) (by omega) (by omega)) h3, hs, by rw [fr 37 (by omega) (by omega) (by omega) (by omega)]; exact h5, fun r hr => Or.inl (hh r hr), hp, CP_fr rfl (fun j _ _ => fr j (by omega) (by omega) (by omega) (by omega)) hm2 h8, CS_fr (fun j _ _ => fr j (by omega) (by omega) (by omega) (by omega)) h9, Or.inl hL⟩
theorem c_beginChange (hA : AB B D l X m U m2 V q Z Y) (H : IC σ B D l X m U m2 V q Z Y) : ∃ σ', f6_beginChange σ = some σ' ∧ IC σ' B D l X (upN m) (upU m U D) m2 V q Z Y ∧ (∀ r, r < 4 → σ' (42 + 8 * r) 10 = io 0) ∧ σ' 0 10 = io 0 := by
  obtain ⟨σ1, e1, c1, fr1⟩ := c_push82 hA.2.2.2.1 hA.2.1 H.2.2.2.2.2.2.1 H.2.2.2.1
  obtain ⟨σ2, e2, g1, g2, fr2⟩ := c_outdate (σ := σ1)
  unfold f6_beginChange
  rw [e1, obs, e2, obs]
  have hup : upN m ≤ 8 := by
    have := hA.2.2.2.1.1
    unfold upN
    split <;> omega
  refine ⟨σ2, rfl, IC_change hA.2.2.2.2.1.1 H (fun j q1 q2 q3 q4 => ?_) ?_ ?_ g1 g2, g1, g2⟩
  · rw [fr2 j q1 (by omega), fr1 j (by omega)]
  · exact SD_fr (fun j q1 q2 => by rw [fr2 j (by omega) (by omega), fr1 j (by omega)]) H.2.2.2.1
  · exact CP_fr rfl (fun j q1 q2 => fr2 j (by omega) (by omega)) hup c1
end Piles
