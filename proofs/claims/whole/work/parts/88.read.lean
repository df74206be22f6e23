/-! THE TEXT IS READ; fault -/
def E0 : PS := fun j k => if j = 0 then (if k = 3 then 4 else if k = 4 then 20 else if k = 5 then 60 else if k = 6 then 30 else 0) else if j = 8 then (if k = 2 then 5 else 1) else 0
theorem EB_E0 : EB E0 := by
  refine ⟨⟨by decide, by decide, by decide, by decide, by decide, by decide, by decide, by decide, by decide, by decide⟩, fun i => ⟨Nat.zero_le _, Nat.zero_le _, Nat.zero_le _, Nat.zero_le _, Nat.zero_le _, Nat.zero_le _, ?_, Nat.zero_le _, Nat.zero_le _⟩⟩
  show (if i = 2 then 5 else 1) ≤ 9
  split <;> omega
section Read
variable {σ σ' σ1 σc σm : Mem} {l : Nat} {X : Nat → Nat} {E : PS} {p : Nat} {B P : PS} {D : Nat → Nat} {m : Nat} {U : PS} {m2 : Nat} {V : PS} {q : Nat} {Z Y : Nat → Nat}
theorem m_noHour : ∃ σ', f7_noHour σ 1 = some σ' ∧ ME σ' E0 ∧ FM σ σ' := by
  have h0 : f7_noHour σ 1 = f7_noHour_b75 1000 (mu (mu (mu (mu (mu (mu (mu (mu σ 3 1 (io 0)) 6 1 (io 0)) 11 1 (io 0)) 14 1 (io 0)) 9 4 (io 4)) 9 5 (io 20)) 9 6 (io 60)) 9 7 (io 30)) (io 1) (io 0) := by
    unfold f7_noHour
    rw [if_pos (by decide), obm, if_pos (by decide), obm, if_pos (by decide), obm, if_pos (by decide), obm, if_pos (by decide), obm, if_pos (by decide), obm, if_pos (by decide), obm, if_pos (by decide), obm]
    rfl
  rw [h0]
  have F0 : FM σ (mu (mu (mu (mu (mu (mu (mu (mu σ 3 1 (io 0)) 6 1 (io 0)) 11 1 (io 0)) 14 1 (io 0)) 9 4 (io 4)) 9 5 (io 20)) 9 6 (io 60)) 9 7 (io 30)) := (((((((FM_mu (by omega) (by omega) (by decide) _).trans (FM_mu (by omega) (by omega) (by decide) _)).trans (FM_mu (by omega) (by omega) (by decide) _)).trans (FM_mu (by omega) (by omega) (by decide) _)).trans (FM_mu (by omega) (by omega) (by decide) _)).trans (FM_mu (by omega) (by omega) (by decide) _)).trans (FM_mu (by omega) (by omega) (by decide) _)).trans (FM_mu (by omega) (by omega) (by decide) _)
  generalize hs : mu (mu (mu (mu (mu (mu (mu (mu σ 3 1 (io 0)) 6 1 (io 0)) 11 1 (io 0)) 14 1 (io 0)) 9 4 (io 4)) 9 5 (io 20)) 9 6 (io 60)) 9 7 (io 30) = σ0 at F0
  have key := lock_loop (fun r (t : Mem) i => f7_noHour_b75 r t (io 1) i) (fun t => some t) 4 (fun _ (a : Unit) => a) (fun i _ t => (∀ k, k < i → t 10 (4 + k) = io ((if k = 2 then 5 else 1 : Nat) : Int)) ∧ FM σ0 t ∧ ∀ j, j ≠ 10 → t j = σ0 j) (a0 := ()) (t0 := σ0) ⟨fun k hk => by omega, FM.refl, fun _ _ => rfl⟩ (fun r a t hI => ?_) (fun r i a t hi hI => ?_) 1000 (by omega)
  · obtain ⟨t, e, k1, k2, k3⟩ := key
    refine ⟨t, e, ?_, F0.trans k2⟩
    refine ⟨⟨?_, fun i hi => absurd hi (Nat.not_lt_zero _)⟩, ⟨?_, fun i hi => absurd hi (Nat.not_lt_zero _)⟩, ⟨?_, fun i hi => absurd hi (Nat.not_lt_zero _)⟩, ⟨?_, fun i hi => absurd hi (Nat.not_lt_zero _)⟩, fun k hk => k1 k hk, ?_, ?_, ?_, ?_⟩
    · rw [k3 3 (by omega), ← hs]; simp (disch := omega) only [mu_s, mu_k, mu_j]; rfl
    · rw [k3 6 (by omega), ← hs]; simp (disch := omega) only [mu_s, mu_k, mu_j]; rfl
    · rw [k3 11 (by omega), ← hs]; simp (disch := omega) only [mu_s, mu_k, mu_j]; rfl
    · rw [k3 14 (by omega), ← hs]; simp (disch := omega) only [mu_s, mu_k, mu_j]; rfl
    · rw [k3 9 (by omega), ← hs]; simp (disch := omega) only [mu_s, mu_k, mu_j]; rfl
    · rw [k3 9 (by omega), ← hs]; simp (disch := omega) only [mu_s, mu_k, mu_j]; rfl
    · rw [k3 9 (by omega), ← hs]; simp (disch := omega) only [mu_s, mu_k, mu_j]; rfl
    · rw [k3 9 (by omega), ← hs]; simp (disch := omega) only [mu_s, mu_k, mu_j]; rfl
  · show f7_noHour_b75 (r + 1) _ _ _ = _
    rw [f7_noHour_b75, if_pos (by decide)]
  · show ∃ t', f7_noHour_b75 (r + 1) _ _ _ = f7_noHour_b75 r _ _ _ ∧ _
    obtain ⟨k1, k2, k3⟩ := hI
    have hx : 4 * io 1 + io (i : Int) = io ((4 + i : Nat) : Int) := by rw [n4, io_mul, io_add]; congr 1
    rw [f7_noHour_b75, if_neg (by simp (disch := omega) only [n0, n1, n2, n3, n4, n5, n6, n7, n8, n9, n10, n11, n12, n13, n14, n15, n16, n17, n18, n19, n20, n21, n22, n23, n24, n25, n26, n27, n28, n29, n30, n31, n32, n33, n34, n35, n36, n37, n38, n39, n40, n41, n42, n43, n44, n45, n46, n47, n48, n49, n50, n51, n52, n53, n54, n55, n56, n57, n58, n59, n60, n61, n62, n63, n64, n65, n66, n97, n99, n100, n103, n107, n111, n116, n117, n119, n126, n200, n359, n360, n999, n1000, n9999, n65521, n99999, n1000000, io_neg, io_add, io_sub, io_mul, io_lt, io_le, io_eq, io_nat, Int.toNat_natCast, toNat_c1, ifg, obs, obm, oob, bi0, bi1, bi01]; omega), hx]
    unfold f7_noHour_b99
    rw [if_pos (in_ix (n := 8) (by omega) (by decide)), obm, if_pos (in_ix (n := 8) (by omega) (by decide)), obm, io_ix (by omega), n1, io_add]
    refine ⟨mu t 10 (4 + i) (io ((if i = 2 then 5 else 1 : Nat) : Int)), ?_, fun k hk => ?_, k2.trans (FM_mu (by omega) (by omega) (show 4 ≤ 4 + i by omega) _), fun j hj => ?_⟩
    · by_cases c : i = 2
      · rw [if_pos (show io (i : Int) = 2 by rw [c]; rfl), if_pos c]; rfl
      · rw [if_neg (show ¬ io (i : Int) = 2 from lit_ne (k := 2) (by omega) (by omega) c), if_neg c]; rfl
    · by_cases e : k = i
      · subst e; rw [mu_s]
      · rw [mu_k _ _ (by omega)]; exact k1 k (by omega)
    · rw [mu_j _ _ _ hj]; exact k3 j hj
theorem rd (hX : XB l X) : ∀ d p x3 nc nr σc σm E, l - p ≤ d → d < nc → d < nr → x3 ≤ p → p ≤ l → CT σc l X → CE σc E → MT σm l X → ME σm E → σm 0 24 = io (p : Nat) → EB E → (∃ σc' σm' E', f5_readInto_b8 1 17 nc σc (io (p : Nat)) (io (x3 : Nat)) = some (σc', io (-4)) ∧ f7_readAll_b10 nr σm = some (σm', io (-4)) ∧ CE σc' E' ∧ ME σm' E' ∧ EB E' ∧ FC σc σc' ∧ FM σm σm') ∨ (∃ σc' σm' E', ∃ r : Nat, f5_readInto_b8 1 17 nc σc (io (p : Nat)) (io (x3 : Nat)) = some (σc', io r) ∧ f7_readAll_b10 nr σm = some (σm', io r) ∧ r ≤ 200 ∧ CE σc' E' ∧ FC σc σc' ∧ FM σm σm') := by
  have hl := hX.1
  have fin : ∀ {p x3 nc nr σc σm E}, l ≤ p → 0 < nc → 0 < nr → x3 ≤ p → p ≤ l → CT σc l X → CE σc E → MT σm l X → ME σm E → σm 0 24 = io (p : Nat) → EB E → (∃ σc' σm' E', f5_readInto_b8 1 17 nc σc (io (p : Nat)) (io (x3 : Nat)) = some (σc', io (-4)) ∧ f7_readAll_b10 nr σm = some (σm', io (-4)) ∧ CE σc' E' ∧ ME σm' E' ∧ EB E' ∧ FC σc σc' ∧ FM σm σm') := by
    intro p x3 nc nr σc σm E hp hnc hnr h3 hpl hT hC hTm hM hs hE
    obtain ⟨nc, rfl⟩ : ∃ t, nc = t + 1 := ⟨nc - 1, by omega⟩
    obtain ⟨nr, rfl⟩ : ∃ t, nr = t + 1 := ⟨nr - 1, by omega⟩
    refine ⟨σc, σm, E, ?_, ?_, hC, hM, hE, FC.refl, FM.refl⟩
    · rw [f5_readInto_b8, hT.1]
      by_cases c : 200 ≤ x3
      · rw [if_pos (by simp (disch := omega) only [n0, n1, n2, n3, n4, n5, n6, n7, n8, n9, n10, n11, n12, n13, n14, n15, n16, n17, n18, n19, n20, n21, n22, n23, n24, n25, n26, n27, n28, n29, n30, n31, n32, n33, n34, n35, n36, n37, n38, n39, n40, n41, n42, n43, n44, n45, n46, n47, n48, n49, n50, n51, n52, n53, n54, n55, n56, n57, n58, n59, n60, n61, n62, n63, n64, n65, n66, n97, n99, n100, n103, n107, n111, n116, n117, n119, n126, n200, n359, n360, n999, n1000, n9999, n65521, n99999, n1000000, io_neg, io_add, io_sub, io_mul, io_lt, io_le, io_eq, io_nat, Int.toNat_natCast, toNat_c1, ifg, obs, obm, oob, bi0, bi1, bi01]; omega)]; rfl
      · rw [if_neg (by simp (disch := omega) only [n0, n1, n2, n3, n4, n5, n6, n7, n8, n9, n10, n11, n12, n13, n14, n15, n16, n17, n18, n19, n20, n21, n22, n23, n24, n25, n26, n27, n28, n29, n30, n31, n32, n33, n34, n35, n36, n37, n38, n39, n40, n41, n42, n43, n44, n45, n46, n47, n48, n49, n50, n51, n52, n53, n54, n55, n56, n57, n58, n59, n60, n61, n62, n63, n64, n65, n66, n97, n99, n100, n103, n107, n111, n116, n117, n119, n126, n200, n359, n360, n999, n1000, n9999, n65521, n99999, n1000000, io_neg, io_add, io_sub, io_mul, io_lt, io_le, io_eq, io_nat, Int.toNat_natCast, toNat_c1, ifg, obs, obm, oob, bi0, bi1, bi01]; omega), if_pos (by simp (disch := omega) only [n0, n1, n2, n3, n4, n5, n6, n7, n8, n9, n10, n11, n12, n13, n14, n15, n16, n17, n18, n19, n20, n21, n22, n23, n24, n25, n26, n27, n28, n29, n30, n31, n32, n33, n34, n35, n36, n37, n38, n39, n40, n41, n42, n43, n44, n45, n46, n47, n48, n49, n50, n51, n52, n53, n54, n55, n56, n57, n58, n59, n60, n61, n62, n63, n64, n65, n66, n97, n99, n100, n103, n107, n111, n116, n117, n119, n126, n200, n359, n360, n999, n1000, n9999, n65521, n99999, n1000000, io_neg, io_add, io_sub, io_mul, io_lt, io_le, io_eq, io_nat, Int.toNat_natCast, toNat_c1, ifg, obs, obm, oob, bi0, bi1, bi01]; omega)]; rfl
    · rw [f7_readAll_b10, hTm.1, hs, if_pos (by simp (disch := omega) only [n0, n1, n2, n3, n4, n5, n6, n7, n8, n9, n10, n11, n12, n13, n14, n15, n16, n17, n18, n19, n20, n21, n22, n23, n24, n25, n26, n27, n28, n29, n30, n31, n32, n33, n34, n35, n36, n37, n38, n39, n40, n41, n42, n43, n44, n45, n46, n47, n48, n49, n50, n51, n52, n53, n54, n55, n56, n57, n58, n59, n60, n61, n62, n63, n64, n65, n66, n97, n99, n100, n103, n107, n111, n116, n117, n119, n126, n200, n359, n360, n999, n1000, n9999, n65521, n99999, n1000000, io_neg, io_add, io_sub, io_mul, io_lt, io_le, io_eq, io_nat, Int.toNat_natCast, toNat_c1, ifg, obs, obm, oob, bi0, bi1, bi01]; omega)]; rfl
  intro d
  induction d with
  | zero =>
    intro p x3 nc nr σc σm E hd hnc hnr h3 hpl hT hC hTm hM hs hE
    exact Or.inl (fin (by omega) (by omega) (by omega) h3 hpl hT hC hTm hM hs hE)
  | succ d ih =>
    intro p x3 nc nr σc σm E hd hnc hnr h3 hpl hT hC hTm hM hs hE
    by_cases c : l ≤ p
    · exact Or.inl (fin c (by omega) (by omega) h3 hpl hT hC hTm hM hs hE)
    · obtain ⟨nc, rfl⟩ : ∃ t, nc = t + 1 := ⟨nc - 1, by omega⟩
      obtain ⟨nr, rfl⟩ : ∃ t, nr = t + 1 := ⟨nr - 1, by omega⟩
      have q1 := c_item hX hE hT hC (p := p) (by omega)
      have q2 := m_item hX hE hTm hM hs (by omega)
      rw [f5_readInto_b8, hT.1, if_neg (by simp (disch := omega) only [n0, n1, n2, n3, n4, n5, n6, n7, n8, n9, n10, n11, n12, n13, n14, n15, n16, n17, n18, n19, n20, n21, n22, n23, n24, n25, n26, n27, n28, n29, n30, n31, n32, n33, n34, n35, n36, n37, n38, n39, n40, n41, n42, n43, n44, n45, n46, n47, n48, n49, n50, n51, n52, n53, n54, n55, n56, n57, n58, n59, n60, n61, n62, n63, n64, n65, n66, n97, n99, n100, n103, n107, n111, n116, n117, n119, n126, n200, n359, n360, n999, n1000, n9999, n65521, n99999, n1000000, io_neg, io_add, io_sub, io_mul, io_lt, io_le, io_eq, io_nat, Int.toNat_natCast, toNat_c1, ifg, obs, obm, oob, bi0, bi1, bi01]; omega), if_neg (by simp (disch := omega) only [n0, n1, n2, n3, n4, n5, n6, n7, n8, n9, n10, n11, n12, n13, n14, n15, n16, n17, n18, n19, n20, n21, n22, n23, n24, n25, n26, n27, n28, n29, n30, n31, n32, n33, n34, n35, n36, n37, n38, n39, n40, n41, n42, n43, n44, n45, n46, n47, n48, n49, n50, n51, n52, n53, n54, n55, n56, n57, n58, n59, n60, n61, n62, n63, n64, n65, n66, n97, n99, n100, n103, n107, n111, n116, n117, n119, n126, n200, n359, n360, n999, n1000, n9999, n65521, n99999, n1000000, io_neg, io_add, io_sub, io_mul, io_lt, io_le, io_eq, io_nat, Int.toNat_natCast, toNat_c1, ifg, obs, obm, oob, bi0, bi1, bi01]; omega), f7_readAll_b10, hTm.1, hs, if_neg (by simp (disch := omega) only [n0, n1, n2, n3, n4, n5, n6, n7, n8, n9, n10, n11, n12, n13, n14, n15, n16, n17, n18, n19, n20, n21, n22, n23, n24, n25, n26, n27, n28, n29, n30, n31, n32, n33, n34, n35, n36, n37, n38, n39, n40, n41, n42, n43, n44, n45, n46, n47, n48, n49, n50, n51, n52, n53, n54, n55, n56, n57, n58, n59, n60, n61, n62, n63, n64, n65, n66, n97, n99, n100, n103, n107, n111, n116, n117, n119, n126, n200, n359, n360, n999, n1000, n9999, n65521, n99999, n1000000, io_neg, io_add, io_sub, io_mul, io_lt, io_le, io_eq, io_nat, Int.toNat_natCast, toNat_c1, ifg, obs, obm, oob, bi0, bi1, bi01]; omega)]
      cases hi : itm l X E p with
      | none =>
        rw [hi] at q1 q2
        obtain ⟨σ1, e1, f1, g1⟩ := q1
        obtain ⟨σ2, e2, g2⟩ := q2
        rw [e1, e2, oob, oob, if_pos (by rfl), if_pos (by rfl)]
        exact Or.inr ⟨σ1, σ2, E, p, rfl, rfl, by omega, f1, g1, g2⟩
      | some w =>
        obtain ⟨E', e⟩ := w
        rw [hi] at q1 q2
        obtain ⟨σ1, e1, f1, g1⟩ := q1
        obtain ⟨σ2, e2, f2, s2, g2⟩ := q2
        have hb := itm_b hE hi
        simp only at e1 f1 f2 s2
        have ex : io (x3 : Int) + 1 = io ((x3 + 1 : Nat) : Int) := by rw [n1, io_add]; congr 1
        rw [e1, e2, oob, oob, if_neg (show ¬ io (e : Int) = -4 by rw [nm4, io_eq (by omega) (by omega) (by omega) (by omega)]; omega), if_neg (by decide), ex]
        rcases ih e (x3 + 1) nc nr σ1 σ2 E' (by omega) (by omega) (by omega) (by omega) hb.2.2.2 (g1.ct hT) f1 (g2.mt hTm) f2 s2 hb.1 with ⟨σ3, σ4, E'', a1, a2, a3, a4, a5, a6, a7⟩ | ⟨σ3, σ4, E'', r, a1, a2, a3, a4, a5, a6⟩
        · exact Or.inl ⟨σ3, σ4, E'', a1, a2, a3, a4, a5, g1.trans a6, g2.trans a7⟩
        · exact Or.inr ⟨σ3, σ4, E'', r, a1, a2, a3, a4, g1.trans a5, g2.trans a6⟩
theorem rd_all (hX : XB l X) (hT : CT σc l X) (hD : CD σc) (hTm : MT σm l X) : (∃ σc' σm' E', f5_readInto σc 1 17 = some (σc', io (-4)) ∧ f7_readAll σm = some (σm', io (-4)) ∧ CE σc' E' ∧ ME σm' E' ∧ EB E' ∧ FC σc σc' ∧ FM σm σm') ∨ (∃ σc' σm' E', ∃ r : Nat, f5_readInto σc 1 17 = some (σc', io r) ∧ f7_readAll σm = some (σm', io r) ∧ r ≤ 200 ∧ CE σc' E' ∧ FC σc σc' ∧ FM σm σm') := by
  have hl := hX.1
  obtain ⟨σ1, e1, f1, g1⟩ := c_begin hD
  have hf1 : FC σc σ1 := ⟨fun k _ => by rw [g1 1 (by omega)], fun j _ z => g1 j z⟩
  obtain ⟨σ2, e2, f2, g2⟩ := m_noHour (σ := σm)
  have hf2 : FN σ2 (mu σ2 0 24 (io 0)) := FN_24 _
  unfold f5_readInto f7_readAll
  rw [e1, obs, e2, obs, obm, n0]
  have := rd hX l 0 0 1000 1000 σ1 (mu σ2 0 24 (io 0)) E0 (by omega) (by omega) (by omega) (by omega) (by omega) (hf1.ct hT) f1 (hf2.mt (g2.mt hTm)) (ME_fn hf2 f2) (by rw [mu_s]; rfl) EB_E0
  rcases this with ⟨σ3, σ4, E', a1, a2, a3, a4, a5, a6, a7⟩ | ⟨σ3, σ4, E', r, a1, a2, a3, a4, a5, a6⟩
  · exact Or.inl ⟨σ3, σ4, E', a1, a2, a3, a4, a5, hf1.trans a6, (g2.trans hf2.fm).trans a7⟩
  · exact Or.inr ⟨σ3, σ4, E', r, a1, a2, a3, a4, hf1.trans a5, (g2.trans hf2.fm).trans a6⟩
theorem IC_read (hm : m ≤ 8) (hm2 : m2 ≤ 2) (H : IC σ B D l X m U m2 V q Z Y) (fr : FC σ σ') (hE : CE σ' E) : IC σ' B D l X m U m2 V q Z Y := by
  have f : ∀ j, j ≠ 1 → (j < 17 ∨ 30 < j) → σ' j = σ j := fr.2
  obtain ⟨h1, h2, h3, h4, h5, h6, h7, h8, h9, h10⟩ := H
  exact ⟨fr.ct h1, CB_fr (fun j _ _ => f j (by omega) (by omega)) h2, ⟨hE.1.1.2, hE.2.1.1.2, hE.2.2.1.1.2, hE.2.2.2.1.1.2⟩, SD_fr (fun j _ _ => f j (by omega) (by omega)) h4, by rw [f 37 (by omega) (by omega)]; exact h5, CH_fr (fun j _ _ => f j (by omega) (by omega)) h6, CP_fr rfl (fun j _ _ => f j (by omega) (by omega)) hm h7, CP_fr rfl (fun j _ _ => f j (by omega) (by omega)) hm2 h8, CS_fr (fun j _ _ => f j (by omega) (by omega)) h9, CL_fr (by rw [f 0 (by omega) (by omega)]) (by rw [f 0 (by omega) (by omega)]) (by rw [f 0 (by omega) (by omega)]) h10⟩
theorem IM_read (hB : BB B) (H : IM σ B D l X m U m2 V q Z Y) (fr : FM σ σ') : IM σ' B D l X m U m2 V q Z Y := by
  have hb := hB.1
  obtain ⟨f0, f1, f2⟩ := fr
  obtain ⟨h1, ⟨⟨a1, a2, a3, a4, a5, a6, a7⟩, b, c, d, e⟩, h3, h4, h5, h6⟩ := H
  refine ⟨MT_fr (f0 0 (by omega)) (f1 2 (by omega) (by omega) (by omega)) h1, ⟨⟨?_, ?_, ?_, ?_, ?_, ?_, ?_⟩, fun i hi => ?_, fun i hi => ?_, fun k hk => ?_, fun k hk => ?_⟩, RD_fr (f1 17 (by omega) (by omega) (by omega)) h3, MU_fr (f0 18 (by omega)) (f1 18 (by omega) (by omega) (by omega)) h4, MK_fr (f0 20 (by omega)) (f1 20 (by omega) (by omega) (by omega)) h5, MS_fr (f0 21 (by omega)) (f1 23 (by omega) (by omega) (by omega)) (f1 24 (by omega) (by omega) (by omega)) h6⟩
  · rw [f2 3 0 (by omega) (by omega) (by decide)]; exact a1
  · rw [f2 6 0 (by omega) (by omega) (by decide)]; exact a2
  · rw [f2 9 0 (by omega) (by omega) (by decide)]; exact a3
  · rw [f2 9 1 (by omega) (by omega) (by decide)]; exact a4
  · rw [f2 9 2 (by omega) (by omega) (by decide)]; exact a5
  · rw [f2 9 3 (by omega) (by omega) (by decide)]; exact a6
  · rw [f2 14 0 (by omega) (by omega) (by decide)]; exact a7
  · rw [f2 4 i (by omega) (by omega) (show i < 6 by omega), f2 5 i (by omega) (by omega) (show i < 6 by omega)]; exact b i hi
  · rw [f2 7 i (by omega) (by omega) (show i < 8 by omega), f2 8 i (by omega) (by omega) (show i < 8 by omega)]; exact c i hi
  · rw [f2 10 k (by omega) (by omega) (show k < 4 by omega)]; exact d k hk
  · rw [f2 15 k (by omega) (by omega) (show k < 5 by omega), f2 16 k (by omega) (by omega) (show k < 5 by omega)]; exact e k hk
theorem s_fault (hI : Inv σc σm) : Step (f6_fault σc) (f7_fault σm) := by
  obtain ⟨B, D, l, X, m, U, m2, V, q, Z, Y, hA, hC, hM⟩ := hI
  unfold f6_fault f7_fault
  rcases rd_all hA.2.2.1 hC.1 hC.2.2.1 hM.1 with ⟨σ1, σ2, E, e1, e2, a3, a4, a5, a6, a7⟩ | ⟨σ1, σ2, E, r, e1, e2, a3, a4, a5, a6⟩
  · rw [e1, e2, oob, oob]
    exact ⟨_, _, _, rfl, rfl, B, D, l, X, m, U, m2, V, q, Z, Y, hA, IC_read hA.2.2.2.1.1 hA.2.2.2.2.1.1 hC a6 a3, IM_read hA.1 hM a7⟩
  · rw [e1, e2, oob, oob]
    exact ⟨_, _, _, rfl, rfl, B, D, l, X, m, U, m2, V, q, Z, Y, hA, IC_read hA.2.2.2.1.1 hA.2.2.2.2.1.1 hC a5 a4, IM_read hA.1 hM a6⟩
end Read
