/-! THE COMPONENT LAYS A TEXT -/
def dN (E : PS) : Nat → Nat := fun j => if j < 6 then 0 else if j = 6 then E 0 2 else if j < 13 then E 6 (j - 7) else E 7 (j - 13)
abbrev layB (E : PS) : Prop := 0 < E 0 0 ∧ (E 0 7 = 0 ∨ sumN (E 0 7) (fun k => (E 10 k : Int)) = 10)
section LayC
variable {σ σ' σ1 σc σm : Mem} {l : Nat} {X : Nat → Nat} {E : PS} {p : Nat} {B P : PS} {D : Nat → Nat} {m : Nat} {U : PS} {m2 : Nat} {V : PS} {q : Nat} {Z Y : Nat → Nat}
theorem BB_E (hE : EB E) (h : layB E) : BB E := by
  have hb := hE.1
  refine ⟨⟨h.1, by omega, by omega, by omega, by omega, by omega, by omega, by omega, by omega, by omega⟩, fun i => ?_, fun z => ?_⟩
  · have := hE.2 i
    omega
  · rcases h.2 with y | y
    · omega
    · exact y
theorem dN_6 : dN E 6 = E 0 2 := rfl
theorem dN_7 {k : Nat} (hk : k < 6) : dN E (7 + k) = E 6 k := by
  unfold dN
  rw [if_neg (by omega), if_neg (by omega), if_pos (by omega), show 7 + k - 7 = k by omega]
theorem dN_13 (k : Nat) : dN E (13 + k) = E 7 k := by
  unfold dN
  rw [if_neg (by omega), if_neg (by omega), if_neg (by omega), show 13 + k - 13 = k by omega]
theorem DB_dN (hE : EB E) : DB (dN E) := by
  have hb := hE.1
  refine ⟨fun i hi => ?_, by rw [dN_6]; omega, fun k hk => ?_⟩
  · unfold dN; rw [if_pos hi]; omega
  · rw [dN_6] at hk
    have := hE.2 k
    rw [dN_7 (by omega), dN_13]
    omega
theorem sum10_b (hE : EB E) {n : Nat} (hn : n ≤ 5) : 0 ≤ sumN n (fun k => (E 10 k : Int)) ∧ sumN n (fun k => (E 10 k : Int)) ≤ 10 * n := by
  induction n with
  | zero => exact ⟨Int.le_refl _, Int.le_refl _⟩
  | succ n ih =>
    have := ih (by omega)
    have h := hE.2 n
    rw [sumN]
    omega
theorem c_canLay (hE : EB E) (H : CE σ E) : f0_canBeLaid σ 17 = some (bi (decide (layB E))) := by
  have hb := hE.1
  have h1 : σ 18 3 = io (E 0 0) := H.1.1.1
  have h4 : σ 27 3 = io (E 0 7) := H.2.2.2.1.1.1
  have hs := sum10_b hE (n := E 0 7) (by omega)
  unfold f0_canBeLaid
  have key := (fold_loop (fun n a i => f0_canBeLaid_b4 σ 17 n (io a) i) (fun a => if E 0 0 = 0 then some (io 0) else if E 0 7 = 0 then some (io 1) else if io a = 10 then some (io 1) else some (io 0)) (E 0 7) (fun i a => a + (E 10 i : Int)) (fun _ _ => True) (a0 := 0) trivial (fun _ _ _ _ => trivial) (fun n a _ => ?_) (fun n i a hi _ => ?_) 1000 (by omega)).1
  · refine Eq.trans key ?_
    rw [foldN_sum, Int.zero_add]
    by_cases c : layB E
    · rw [decide_eq_true c, bi_t, if_neg (by have := c.1; omega)]
      rcases c.2 with d | d
      · rw [if_pos d]; rfl
      · rw [d]
        by_cases d2 : E 0 7 = 0
        · rw [if_pos d2]; rfl
        · rw [if_neg d2, if_pos (by rfl)]; rfl
    · rw [decide_eq_false c, bi_f]
      by_cases d : E 0 0 = 0
      · rw [if_pos d]; rfl
      · rw [if_neg d, if_neg (fun z => c ⟨by omega, Or.inl z⟩), if_neg]
        · rfl
        · rw [n10, io_eq (by omega) (by omega) (by omega) (by omega)]
          exact fun z => c ⟨by omega, Or.inr z⟩
  · show f0_canBeLaid_b4 σ 17 (n + 1) _ _ = _
    rw [f0_canBeLaid_b4, f2_size, obs]
    show (if σ 27 3 ≤ io (E 0 7) then Option.bind (some (σ 18 3)) (fun r3 => if r3 ≤ 0 then some 0 else Option.bind (some (σ 27 3)) fun r5 => if r5 = 0 then some 1 else if io a = 10 then some 1 else some 0) else _) = _
    rw [h4, if_pos (Int32.le_refl _), obs, obs, h1]
    by_cases d : E 0 0 = 0
    · rw [if_pos d, if_pos (by rw [d]; decide)]; rfl
    · rw [if_neg d, if_neg (by rw [n0, io_le (by omega) (by omega) (by omega) (by omega)]; omega)]
      by_cases d2 : E 0 7 = 0
      · rw [if_pos d2, if_pos (by rw [d2]; rfl)]; rfl
      · rw [if_neg d2, if_neg (show ¬ io ((E 0 7 : Nat) : Int) = 0 from lit_ne (k := 0) (by omega) (by omega) d2)]; rfl
  · show f0_canBeLaid_b4 σ 17 (n + 1) _ _ = f0_canBeLaid_b4 σ 17 n _ _
    have h27 : f2_second σ 27 (io i) = some (io (E 10 i)) := by rw [p_second h4 (by omega) hi]; exact congrArg some (H.2.2.2.1.2 i hi).2
    rw [f0_canBeLaid_b4, f2_size, obs]
    show (if σ 27 3 ≤ io (i : Int) then _ else Option.bind (f2_second σ 27 (io i)) fun r3 => f0_canBeLaid_b4 σ 17 n (io a + r3) (io i + 1)) = _
    rw [h4, if_neg (by simp (disch := omega) only [n0, n1, n2, n3, n4, n5, n6, n7, n8, n9, n10, n11, n12, n13, n14, n15, n16, n17, n18, n19, n20, n21, n22, n23, n24, n25, n26, n27, n28, n29, n30, n31, n32, n33, n34, n35, n36, n37, n38, n39, n40, n41, n42, n43, n44, n45, n46, n47, n48, n49, n50, n51, n52, n53, n54, n55, n56, n57, n58, n59, n60, n61, n62, n63, n64, n65, n66, n97, n99, n100, n103, n107, n111, n116, n117, n119, n126, n200, n359, n360, n999, n1000, n9999, n65521, n99999, n1000000, io_neg, io_add, io_sub, io_mul, io_lt, io_le, io_eq, io_nat, Int.toNat_natCast, toNat_c1, ifg, obs, obm, oob, bi0, bi1, bi01]; omega), h27, obs, io_add, n1, io_add]
theorem PR_copy {h o lim lim' n : Nat} {f g : Nat → Nat} (H : PR σ o lim' n f g) (hl : σ h 2 = io lim) (hn : n ≤ lim) (h8 : lim ≤ 8) (hd : h + 2 < o ∨ o + 2 < h) : ∃ σ', f2_copy σ h o = some σ' ∧ PR σ' h lim n f g ∧ ∀ j, (j < h ∨ h + 2 < j) → σ' j = σ j := by
  obtain ⟨σ', e, k1, k2, k3, k4⟩ := c_pcopy H.1.1 hl hn h8 hd
  refine ⟨σ', e, ⟨⟨k1, k2⟩, fun i hi => ?_⟩, k4⟩
  rw [(k3 i hi).1, (k3 i hi).2]
  exact H.2 i hi
theorem c_wait17 {k : Nat} (hk : k < 4) : f0_waitCost σ 17 (io k) = some (σ 30 k) := by
  unfold f0_waitCost
  rw [n0, n3, p_between (by omega) (by omega) (by omega) (by omega) (by omega) (by omega), obs, decide_eq_true (by omega)]
  simp (disch := omega) only [n0, n1, n2, n3, n4, n5, n6, n7, n8, n9, n10, n11, n12, n13, n14, n15, n16, n17, n18, n19, n20, n21, n22, n23, n24, n25, n26, n27, n28, n29, n30, n31, n32, n33, n34, n35, n36, n37, n38, n39, n40, n41, n42, n43, n44, n45, n46, n47, n48, n49, n50, n51, n52, n53, n54, n55, n56, n57, n58, n59, n60, n61, n62, n63, n64, n65, n66, n97, n99, n100, n103, n107, n111, n116, n117, n119, n126, n200, n359, n360, n999, n1000, n9999, n65521, n99999, n1000000, io_neg, io_add, io_sub, io_mul, io_lt, io_le, io_eq, io_nat, Int.toNat_natCast, toNat_c1, ifg, obs, obm, oob, bi0, bi1, bi01]
  rw [if_neg (by decide)]
theorem c_bookCopy (hE : EB E) (H : CE σ E) (hB : CB σ B) : ∃ σ', f0_copy σ 3 17 = some σ' ∧ CB σ' E ∧ PR σ' 10 6 (E 0 2) (E 6) (E 7) ∧ ∀ j, (j < 3 ∨ 16 < j) → σ' j = σ j := by
  have hb := hE.1
  obtain ⟨h1, h2, h3, h4, h5, h6, h7, h8, h9⟩ := H
  obtain ⟨l1, l2, l3, l4⟩ := hB.2.2.2.2.2
  obtain ⟨σ1, e1, p1, f1⟩ := PR_copy (h := 4) (lim := 6) h1 l1 (by omega) (by omega) (by omega)
  obtain ⟨σ2, e2, p2, f2⟩ := PR_copy (σ := σ1) (h := 7) (lim := 8) (PR_fr (fun j _ _ => f1 j (by omega)) h2) (by rw [f1 7 (by omega)]; exact l2) (by omega) (by omega) (by omega)
  obtain ⟨σ3, e3, p3, f3⟩ := PR_copy (σ := σ2) (h := 10) (lim := 6) (PR_fr (fun j _ _ => by rw [f2 j (by omega), f1 j (by omega)]) h3) (by rw [f2 10 (by omega), f1 10 (by omega)]; exact l3) (by omega) (by omega) (by omega)
  obtain ⟨σ4, e4, p4, f4⟩ := PR_copy (σ := σ3) (h := 13) (lim := 5) (PR_fr (fun j _ _ => by rw [f3 j (by omega), f2 j (by omega), f1 j (by omega)]) h4) (by rw [f3 13 (by omega), f2 13 (by omega), f1 13 (by omega)]; exact l4) (by omega) (by omega) (by omega)
  have f14 : ∀ j, (j < 4 ∨ 15 < j) → σ4 j = σ j := fun j hj => by rw [f4 j (by omega), f3 j (by omega), f2 j (by omega), f1 j (by omega)]
  unfold f0_copy
  rw [e1, obs]
  show ∃ σ', (Option.bind (f2_copy σ1 7 21) fun σ2 => Option.bind (f2_copy σ2 10 24) fun σ3 => Option.bind (f2_copy σ3 13 27) fun σ4 => f0_copy_b46 3 17 1000 σ4 0) = some σ' ∧ _
  rw [e2, obs, e3, obs, e4, obs, n0]
  have key := lock_loop (fun r (t : Mem) i => f0_copy_b46 3 17 r t i) (fun t => some (mu (mu (mu (mu t 3 5 (io (E 0 3))) 3 6 (io (E 0 4))) 3 7 (io (E 0 5))) 3 8 (io (E 0 6)))) 4 (fun _ (a : Unit) => a) (fun i _ t => (∀ k, k < i → t 16 k = io (E 8 k)) ∧ ∀ j, j ≠ 16 → t j = σ4 j) (a0 := ()) (t0 := σ4) ⟨fun k hk => by omega, fun _ _ => rfl⟩ (fun r a t hI => ?_) (fun r i a t hi hI => ?_) 1000 (by omega)
  · obtain ⟨t, e, k1, k2⟩ := key
    have g : ∀ j, j ≠ 3 → mu (mu (mu (mu t 3 5 (io (E 0 3))) 3 6 (io (E 0 4))) 3 7 (io (E 0 5))) 3 8 (io (E 0 6)) j = t j := fun j hj => by simp (disch := omega) only [mu_s, mu_k, mu_j]
    have g2 : ∀ j, j ≠ 3 → j ≠ 16 → mu (mu (mu (mu t 3 5 (io (E 0 3))) 3 6 (io (E 0 4))) 3 7 (io (E 0 5))) 3 8 (io (E 0 6)) j = σ4 j := fun j z1 z2 => by rw [g j z1, k2 j z2]
    have P1 : PR (mu (mu (mu (mu t 3 5 (io (E 0 3))) 3 6 (io (E 0 4))) 3 7 (io (E 0 5))) 3 8 (io (E 0 6))) 4 6 (E 0 0) (E 1) (E 2) := PR_fr (fun j _ _ => by rw [g2 j (by omega) (by omega), f4 j (by omega), f3 j (by omega), f2 j (by omega)]) p1
    have P2 : PR (mu (mu (mu (mu t 3 5 (io (E 0 3))) 3 6 (io (E 0 4))) 3 7 (io (E 0 5))) 3 8 (io (E 0 6))) 7 8 (E 0 1) (E 3) (E 4) := PR_fr (fun j _ _ => by rw [g2 j (by omega) (by omega), f4 j (by omega), f3 j (by omega)]) p2
    have P3 : PR (mu (mu (mu (mu t 3 5 (io (E 0 3))) 3 6 (io (E 0 4))) 3 7 (io (E 0 5))) 3 8 (io (E 0 6))) 10 6 (E 0 2) (E 6) (E 7) := PR_fr (fun j _ _ => by rw [g2 j (by omega) (by omega), f4 j (by omega)]) p3
    have P4 : PR (mu (mu (mu (mu t 3 5 (io (E 0 3))) 3 6 (io (E 0 4))) 3 7 (io (E 0 5))) 3 8 (io (E 0 6))) 13 5 (E 0 7) (E 9) (E 10) := PR_fr (fun j _ _ => by rw [g2 j (by omega) (by omega)]) p4
    refine ⟨_, e, ⟨⟨P1.1.1, P2.1.1, ?_, ?_, ?_, ?_, P4.1.1⟩, P1.2, P2.2, fun k hk => ?_, P4.2, ⟨P1.1.2, P2.1.2, P3.1.2, P4.1.2⟩⟩, P3, fun j hj => ?_⟩
    · simp (disch := omega) only [mu_s, mu_k, mu_j]
    · simp (disch := omega) only [mu_s, mu_k, mu_j]
    · simp (disch := omega) only [mu_s, mu_k, mu_j]
    · simp (disch := omega) only [mu_s, mu_k, mu_j]
    · rw [g 16 (by omega)]; exact k1 k hk
    · rw [g2 j (by omega) (by omega), f14 j (by omega)]
  · show f0_copy_b46 3 17 (r + 1) _ _ = _
    have h17 : t 17 = σ 17 := by rw [hI.2 17 (by omega), f14 17 (by omega)]
    rw [f0_copy_b46, if_pos (by decide)]
    unfold f0_gateBeats f0_stopCost f0_patience f0_roundCost
    simp (disch := omega) only [n0, n1, n2, n3, n4, n5, n6, n7, n8, n9, n10, n11, n12, n13, n14, n15, n16, n17, n18, n19, n20, n21, n22, n23, n24, n25, n26, n27, n28, n29, n30, n31, n32, n33, n34, n35, n36, n37, n38, n39, n40, n41, n42, n43, n44, n45, n46, n47, n48, n49, n50, n51, n52, n53, n54, n55, n56, n57, n58, n59, n60, n61, n62, n63, n64, n65, n66, n97, n99, n100, n103, n107, n111, n116, n117, n119, n126, n200, n359, n360, n999, n1000, n9999, n65521, n99999, n1000000, io_neg, io_add, io_sub, io_mul, io_lt, io_le, io_eq, io_nat, Int.toNat_natCast, toNat_c1, ifg, obs, obm, oob, bi0, bi1, bi01, ob_ite, bind_ite, ↓reduceIte, eq_self, mu_s, mu_k, mu_j, h17, h6, h7, h8, h9]
  · show ∃ t', f0_copy_b46 3 17 (r + 1) _ _ = f0_copy_b46 3 17 r _ _ ∧ _
    obtain ⟨k1, k2⟩ := hI
    rw [f0_copy_b46, if_neg (by simp (disch := omega) only [n0, n1, n2, n3, n4, n5, n6, n7, n8, n9, n10, n11, n12, n13, n14, n15, n16, n17, n18, n19, n20, n21, n22, n23, n24, n25, n26, n27, n28, n29, n30, n31, n32, n33, n34, n35, n36, n37, n38, n39, n40, n41, n42, n43, n44, n45, n46, n47, n48, n49, n50, n51, n52, n53, n54, n55, n56, n57, n58, n59, n60, n61, n62, n63, n64, n65, n66, n97, n99, n100, n103, n107, n111, n116, n117, n119, n126, n200, n359, n360, n999, n1000, n9999, n65521, n99999, n1000000, io_neg, io_add, io_sub, io_mul, io_lt, io_le, io_eq, io_nat, Int.toNat_natCast, toNat_c1, ifg, obs, obm, oob, bi0, bi1, bi01]; omega), c_wait17 hi, obs, k2 30 (by omega), f14 30 (by omega), h5 i hi, if_pos (in_ix (n := 4) hi (by decide)), io_ix (by omega), obm, n1, io_add]
    refine ⟨_, rfl, fun k hk => ?_, fun j hj => ?_⟩
    · by_cases e : k = i
      · subst e; rw [mu_s]
      · rw [mu_k _ _ e]; exact k1 k (by omega)
    · rw [mu_j _ _ _ hj]; exact k2 j hj
theorem c_standBegin (hE : EB E) (H : PR σ 10 6 (E 0 2) (E 6) (E 7)) (hl : σ 32 2 = io 6) : ∃ σ', f4_begin σ 31 10 = some σ' ∧ SD σ' 31 (dN E) ∧ ∀ j, (j < 32 ∨ 35 < j) → σ' j = σ j := by
  have hb := hE.1
  obtain ⟨σ1, e1, p1, f1⟩ := PR_copy (h := 32) (lim := 6) H hl (by omega) (by omega) (by omega)
  unfold f4_begin
  show ∃ σ', (Option.bind (f2_copy σ 32 10) fun σ1 => f4_begin_b10 31 10 1000 σ1 0) = some σ' ∧ _
  rw [e1, obs, n0]
  have key := lock_loop (fun r (t : Mem) i => f4_begin_b10 31 10 r t i) (fun t => some t) 6 (fun _ (a : Unit) => a) (fun i _ t => (∀ k, k < i → t 35 k = io 0) ∧ ∀ j, j ≠ 35 → t j = σ1 j) (a0 := ()) (t0 := σ1) ⟨fun k hk => by omega, fun _ _ => rfl⟩ (fun r a t hI => ?_) (fun r i a t hi hI => ?_) 1000 (by omega)
  · obtain ⟨t, e, k1, k2⟩ := key
    refine ⟨t, e, ⟨⟨?_, ?_⟩, fun i hi => ?_, fun k hk => ?_⟩, fun j hj => by rw [k2 j (by omega), f1 j (by omega)]⟩
    · rw [k2 _ (by omega)]; exact p1.1.2
    · rw [k2 _ (by omega), dN_6]; exact p1.1.1
    · show t 35 i = _
      rw [k1 i hi]
      unfold dN
      rw [if_pos hi]
      rfl
    · rw [dN_6] at hk
      rw [dN_7 (by omega), dN_13, k2 _ (by omega), k2 _ (by omega)]
      exact p1.2 k hk
  · show f4_begin_b10 31 10 (r + 1) _ _ = _
    rw [f4_begin_b10, if_pos (by decide)]
  · show ∃ t', f4_begin_b10 31 10 (r + 1) _ _ = f4_begin_b10 31 10 r _ _ ∧ _
    obtain ⟨k1, k2⟩ := hI
    rw [f4_begin_b10, if_neg (by simp (disch := omega) only [n0, n1, n2, n3, n4, n5, n6, n7, n8, n9, n10, n11, n12, n13, n14, n15, n16, n17, n18, n19, n20, n21, n22, n23, n24, n25, n26, n27, n28, n29, n30, n31, n32, n33, n34, n35, n36, n37, n38, n39, n40, n41, n42, n43, n44, n45, n46, n47, n48, n49, n50, n51, n52, n53, n54, n55, n56, n57, n58, n59, n60, n61, n62, n63, n64, n65, n66, n97, n99, n100, n103, n107, n111, n116, n117, n119, n126, n200, n359, n360, n999, n1000, n9999, n65521, n99999, n1000000, io_neg, io_add, io_sub, io_mul, io_lt, io_le, io_eq, io_nat, Int.toNat_natCast, toNat_c1, ifg, obs, obm, oob, bi0, bi1, bi01]; omega), if_pos (in_ix (n := 6) hi (by decide)), io_ix (by omega), obm, n1, io_add, n0]
    refine ⟨_, rfl, fun k hk => ?_, fun j hj => ?_⟩
    · by_cases e : k = i
      · subst e; rw [mu_s]
      · rw [mu_k _ _ e]; exact k1 k (by omega)
    · rw [mu_j _ _ _ hj]; exact k2 j hj
theorem CP_z {h b N : Nat} (hb : b = h + 2) (H : CP σ h b N m U) (fr : ∀ j, h + 1 ≤ j → j ≤ h + 1 + 5 * N → σ' j = σ j) (h0 : σ' h 1 = io 0) : CP σ' h b N 0 U := by
  obtain ⟨p, h1, h2, h3, h4, h5⟩ := H
  refine ⟨p, h0, fun i hi => ?_, h3, fun i hi => ?_, fun i hi => by omega⟩
  · rw [fr (h + 1) (by omega) (by omega)]; exact h2 i hi
  · rw [fr _ (by omega) (by omega)]; exact h4 i hi
theorem c_layIt (H : IC σ B D l X m U m2 V q Z Y) (hE : EB E) (hCE : CE σ E) : ∃ σ', (Option.bind (f0_copy σ 3 17) fun σ5 => Option.bind (f4_begin σ5 31 10) fun σ6 => ob (f2_empty σ6 136) fun σ7 r7 => Option.bind (f3_empty σ7 82) fun σ8 => Option.bind (f3_empty σ8 124) fun σ9 => Option.bind (f6_outdateHours σ9) fun σ10 => some (σ10, (1 : Int32))) = some (σ', (1 : Int32)) ∧ IC σ' E (dN E) l X 0 U 0 V 0 Z Y := by
  obtain ⟨h1, h2, h3, h4, h5, h6, h7, h8, h9, h10⟩ := H
  obtain ⟨σ5, e5, b5, p5, f5⟩ := c_bookCopy hE hCE h2
  obtain ⟨σ6, e6, s6, f6⟩ := c_standBegin (σ := σ5) hE p5 (by rw [f5 32 (by omega)]; exact h4.1.1)
  obtain ⟨σ7, e7, g1, g2, f7⟩ := c_outdate (σ := mu (mu (mu σ6 136 3 (io 0)) 82 1 (io 0)) 124 1 (io 0))
  have e8 : (Option.bind (f0_copy σ 3 17) fun σ5 => Option.bind (f4_begin σ5 31 10) fun σ6 => ob (f2_empty σ6 136) fun σ7 r7 => Option.bind (f3_empty σ7 82) fun σ8 => Option.bind (f3_empty σ8 124) fun σ9 => Option.bind (f6_outdateHours σ9) fun σ10 => some (σ10, (1 : Int32))) = some (σ7, (1 : Int32)) := by
    rw [e5, obs, e6, obs]
    unfold f2_empty f3_empty
    rw [obm, oob, obm, obs, obm, obs, show (0 : Int32) = io 0 from rfl, e7, obs]
  have fr : ∀ j, j ≠ 0 → (j < 42 ∨ 73 < j) → j ≠ 82 → j ≠ 124 → j ≠ 136 → σ7 j = σ6 j := fun j z1 z2 z3 z4 z5 => by rw [f7 j z1 z2, mu_j _ _ _ z4, mu_j _ _ _ z3, mu_j _ _ _ z5]
  have fr2 : ∀ j, j ≠ 0 → (j < 42 ∨ 73 < j) → j ≠ 82 → j ≠ 124 → j ≠ 136 → ¬ (3 ≤ j ∧ j ≤ 16) → ¬ (32 ≤ j ∧ j ≤ 35) → σ7 j = σ j := fun j z1 z2 z3 z4 z5 z6 z7 => by rw [fr j z1 z2 z3 z4 z5, f6 j (by omega), f5 j (by omega)]
  refine ⟨σ7, e8, ⟨?_, ?_, ?_, ?_, ?_, fun r hr => Or.inl (g1 r hr), ?_, ?_, ?_, Or.inl g2⟩⟩
  · exact CT_fr (by rw [fr2 1 (by omega) (by omega) (by omega) (by omega) (by omega) (by omega) (by omega)]) (fr2 2 (by omega) (by omega) (by omega) (by omega) (by omega) (by omega) (by omega)) h1
  · exact CB_fr (fun j z1 z2 => by rw [fr j (by omega) (by omega) (by omega) (by omega) (by omega), f6 j (by omega)]) b5
  · exact CD_fr (fun j z1 z2 => fr2 j (by omega) (by omega) (by omega) (by omega) (by omega) (by omega) (by omega)) h3
  · exact SD_fr (fun j z1 z2 => fr j (by omega) (by omega) (by omega) (by omega) (by omega)) s6
  · rw [fr2 37 (by omega) (by omega) (by omega) (by omega) (by omega) (by omega) (by omega)]; exact h5
  · exact CP_z rfl h7 (fun j z1 z2 => fr2 j (by omega) (by omega) (by omega) (by omega) (by omega) (by omega) (by omega)) (by rw [f7 82 (by omega) (by omega), mu_j _ _ _ (by omega), mu_s])
  · exact CP_z rfl h8 (fun j z1 z2 => fr2 j (by omega) (by omega) (by omega) (by omega) (by omega) (by omega) (by omega)) (by rw [f7 124 (by omega) (by omega), mu_s])
  · refine ⟨⟨?_, ?_⟩, fun k hk => by omega⟩
    · rw [f7 136 (by omega) (by omega), mu_j _ _ _ (by omega), mu_j _ _ _ (by omega), mu_k _ _ (by omega), f6 136 (by omega), f5 136 (by omega)]
      exact h9.1.1
    · rw [f7 136 (by omega) (by omega), mu_j _ _ _ (by omega), mu_j _ _ _ (by omega), mu_s]
      rfl
end LayC
