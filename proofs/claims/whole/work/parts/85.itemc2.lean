/-! THE COMPONENT READS AN ITEM -/
def q87 (l : Nat) (X : Nat → Nat) (E : PS) (L e v w : Nat) : Option (PS × Nat) := if lt l X e = 59 then (match tk E L v w with
  | some E' => some (E', e + 1)
  | none => none) else none
def OC (σ : Mem) (E : PS) (x : Option (Mem × Int32)) : Option (PS × Nat) → Prop
  | some q => ∃ σ', x = some (σ', io q.2) ∧ CE σ' q.1 ∧ FC σ σ'
  | none => ∃ σ', x = some (σ', io (-4)) ∧ CE σ' E ∧ FC σ σ'
theorem itm_1 {l : Nat} {X : Nat → Nat} {E : PS} {p : Nat} (c : lt l X p = 99 ∨ lt l X p = 103) : itm l X E p = (match nm l X (p + 1) with
  | some (v, e) => q87 l X E (lt l X p) e v 0
  | none => none) := by
  unfold itm it1
  rw [if_pos c]
  cases h1 : nm l X (p + 1) with
  | none => rfl
  | some q =>
    obtain ⟨v, e⟩ := q
    simp only
    unfold q87
    by_cases c1 : lt l X e = 59
    · rw [if_pos c1, if_pos c1]; rfl
    · rw [if_neg c1, if_neg c1]
theorem itm_2 {l : Nat} {X : Nat → Nat} {E : PS} {p : Nat} (c : ¬ (lt l X p = 99 ∨ lt l X p = 103)) : itm l X E p = (match nm l X (p + 1) with
  | some (v, e) => if lt l X e = 44 then (match nm l X (e + 1) with
    | some (w, f) => q87 l X E (lt l X p) f v w
    | none => none) else none
  | none => none) := by
  unfold itm it2 it1
  rw [if_neg c]
  cases h1 : nm l X (p + 1) with
  | none => rfl
  | some q =>
    obtain ⟨v, e⟩ := q
    simp only
    by_cases c1 : lt l X e = 44
    · rw [if_pos c1, if_pos c1]
      cases h2 : nm l X (e + 1) with
      | none => rfl
      | some r =>
        obtain ⟨w, f⟩ := r
        simp only
        unfold q87
        by_cases c2 : lt l X f = 59
        · rw [if_pos c2, if_pos c2]; rfl
        · rw [if_neg c2, if_neg c2]
    · rw [if_neg c1, if_neg c1]
section ItemC2
variable {σ σ' σ1 : Mem} {l : Nat} {X : Nat → Nat} {E : PS}
theorem OC.pre {x : Option (Mem × Int32)} {res : Option (PS × Nat)} (h : FC σ σ1) (H : OC σ1 E x res) : OC σ E x res := by
  cases res with
  | none =>
    obtain ⟨σ', e, h1, h2⟩ := H
    exact ⟨σ', e, h1, h.trans h2⟩
  | some q =>
    obtain ⟨σ', e, h1, h2⟩ := H
    exact ⟨σ', e, h1, h.trans h2⟩
theorem c_b87 (hX : XB l X) (hE : EB E) (hT : CT σ l X) (H : CE σ E) {L e v w : Nat} (hL : L ≤ 126) (hv : v ≤ 99) (hw : w ≤ 99) (he : e ≤ 900) : OC σ E (f5_readItem_b87 1 17 σ (io L) (io e) (io v) (io w)) (q87 l X E L e v w) := by
  have hb := lt_b hX e
  unfold f5_readItem_b87 q87
  rw [if_neg (show ¬ io (e : Int) = -4 by rw [nm4, io_eq (by omega) (by omega) (by omega) (by omega)]; omega), c_letterAt hX hT (by omega), obs]
  by_cases c : lt l X e = 59
  · rw [if_pos c, if_pos (show io ((lt l X e : Nat) : Int) = 59 by rw [c]; rfl)]
    rcases c_take hE H hL hv hw with ⟨E', σ', t1, t2, t3, t4⟩ | ⟨t1, t2⟩
    · rw [t1, t2, oob, if_neg (by decide), n1, io_add]
      exact ⟨σ', rfl, t3, fun k hk => by rw [t4 1 (by omega)], fun j z1 z2 => t4 j z2⟩
    · rw [t1, t2, oob, if_pos (by rfl)]
      exact ⟨σ, rfl, H, FC.refl⟩
  · rw [if_neg c, if_neg (show ¬ io ((lt l X e : Nat) : Int) = 59 from lit_ne (k := 59) hb (by omega) c)]
    exact ⟨σ, rfl, H, FC.refl⟩
theorem c_item (hX : XB l X) (hE : EB E) (hT : CT σ l X) (H : CE σ E) {p : Nat} (hp : p < l) : OC σ E (f5_readItem σ 1 17 (io p)) (itm l X E p) := by
  have hl := hX.1
  have hb := lt_b hX p
  have e1 : io (p : Int) + 1 = io ((p + 1 : Nat) : Int) := by rw [n1, io_add]; congr 1
  have num : ∀ {s : Mem} {v : Int32}, (∀ k, k ≠ 2 → s 1 k = σ 1 k) → (∀ j, j ≠ 1 → s j = σ j) → FC σ s := fun h1 h2 => ⟨h1, fun j z _ => h2 j z⟩
  unfold f5_readItem
  rw [c_letterAt hX hT (by omega), obs]
  by_cases c : lt l X p = 99 ∨ lt l X p = 103
  · have hbr : (if io ((lt l X p : Nat) : Int) = 103 then f5_readItem_b18 1 17 σ (io p) (io ((lt l X p : Nat) : Int)) else if io ((lt l X p : Nat) : Int) = 99 then f5_readItem_b18 1 17 σ (io p) (io ((lt l X p : Nat) : Int)) else f5_readItem_b23 1 17 σ (io p) (io ((lt l X p : Nat) : Int)) 0) = f5_readItem_b23 1 17 σ (io p) (io ((lt l X p : Nat) : Int)) 1 := by
      by_cases d : lt l X p = 103
      · rw [if_pos (by rw [d]; rfl)]; rfl
      · rw [if_neg (show ¬ io ((lt l X p : Nat) : Int) = 103 from lit_ne (k := 103) hb (by omega) d), if_pos (show io ((lt l X p : Nat) : Int) = 99 by rw [show lt l X p = 99 by omega]; rfl)]; rfl
    rw [hbr, itm_1 c]
    unfold f5_readItem_b23
    rw [e1]
    rcases c_readNumber hX hT (p := p + 1) (by omega) with ⟨t1, t2⟩ | ⟨v, e, t1, σ2, t2, t3, t4, t5⟩
    · rw [t1, t2, oob, if_neg (by decide)]
      unfold f5_readItem_b87
      rw [if_pos (by rfl)]
      exact ⟨σ, rfl, H, FC.refl⟩
    · have hnb := nm_b t1
      have hfc : FC σ σ2 := ⟨t4, fun j z _ => t5 j z⟩
      rw [t1, t2, oob, if_neg (by decide), t3]
      exact OC.pre hfc (c_b87 (w := 0) hX hE (hfc.ct hT) (CE_fr (fun j z1 z2 => t5 j (by omega)) H) hb (by omega) (by omega) (by omega))
  · rw [if_neg (show ¬ io ((lt l X p : Nat) : Int) = 103 from lit_ne (k := 103) hb (by omega) (fun z => c (Or.inr z))), if_neg (show ¬ io ((lt l X p : Nat) : Int) = 99 from lit_ne (k := 99) hb (by omega) (fun z => c (Or.inl z))), itm_2 c]
    unfold f5_readItem_b23
    rw [e1]
    rcases c_readNumber hX hT (p := p + 1) (by omega) with ⟨t1, t2⟩ | ⟨v, e, t1, σ2, t2, t3, t4, t5⟩
    · rw [t1, t2, oob, if_pos rfl, if_pos (by rfl)]
      unfold f5_readItem_b87
      rw [if_pos (by rfl)]
      exact ⟨σ, rfl, H, FC.refl⟩
    · have hnb := nm_b t1
      have hle := lt_b hX e
      have hfc : FC σ σ2 := ⟨t4, fun j z _ => t5 j z⟩
      have hT2 := hfc.ct hT
      have H2 : CE σ2 E := CE_fr (fun j z1 z2 => t5 j (by omega)) H
      have e2 : io (e : Int) + 1 = io ((e + 1 : Nat) : Int) := by rw [n1, io_add]; congr 1
      rw [t1, t2, oob, if_pos rfl, if_neg (show ¬ io (e : Int) = -4 by rw [nm4, io_eq (by omega) (by omega) (by omega) (by omega)]; omega), c_letterAt hX hT2 (by omega), obs, e2, t3]
      unfold f5_readItem_b79
      refine OC.pre hfc ?_
      simp only
      by_cases c1 : lt l X e = 44
      · rw [if_pos (show io ((lt l X e : Nat) : Int) = 44 by rw [c1]; rfl), if_pos c1]
        rcases c_readNumber hX hT2 (p := e + 1) (by omega) with ⟨s1, s2⟩ | ⟨w, f, s1, σ3, s2, s3, s4, s5⟩
        · rw [s1, s2, oob]
          unfold f5_readItem_b87
          rw [if_pos (by rfl)]
          exact ⟨σ2, rfl, H2, FC.refl⟩
        · have hnf := nm_b s1
          have hfc3 : FC σ2 σ3 := ⟨s4, fun j z _ => s5 j z⟩
          rw [s1, s2, oob, s3]
          exact OC.pre hfc3 (c_b87 hX hE (hfc3.ct hT2) (CE_fr (fun j z1 z2 => s5 j (by omega)) H2) hb (by omega) (by omega) (by omega))
      · rw [if_neg (show ¬ io ((lt l X e : Nat) : Int) = 44 from lit_ne (k := 44) hle (by omega) c1), if_neg c1]
        unfold f5_readItem_b87
        rw [if_pos (by rfl)]
        exact ⟨σ2, rfl, H2, FC.refl⟩
theorem c_begin (hD : CD σ) : ∃ σ', f0_begin σ 17 = some σ' ∧ CE σ' (fun j k => if j = 0 then (if k = 3 then 4 else if k = 4 then 20 else if k = 5 then 60 else if k = 6 then 30 else 0) else if j = 8 then (if k = 2 then 5 else 1) else 0) ∧ ∀ j, (j < 17 ∨ 30 < j) → σ' j = σ j := by
  obtain ⟨d1, d2, d3, d4⟩ := hD
  unfold f0_begin f2_empty
  simp (disch := omega) only [n0, n1, n2, n3, n4, n5, n6, n7, n8, n9, n10, n11, n12, n13, n14, n15, n16, n17, n18, n19, n20, n21, n22, n23, n24, n25, n26, n27, n28, n29, n30, n31, n32, n33, n34, n35, n36, n37, n38, n39, n40, n41, n42, n43, n44, n45, n46, n47, n48, n49, n50, n51, n52, n53, n54, n55, n56, n57, n58, n59, n60, n61, n62, n63, n64, n65, n66, n97, n99, n100, n103, n107, n111, n116, n117, n119, n126, n200, n359, n360, n999, n1000, n9999, n65521, n99999, n1000000, io_neg, io_add, io_sub, io_mul, io_lt, io_le, io_eq, io_nat, Int.toNat_natCast, toNat_c1, ifg, obs, obm, oob, bi0, bi1, bi01, ob_ite, bind_ite, ↓reduceIte, eq_self, Nat.reduceAdd]
  have key := lock_loop (fun r (t : Mem) i => f0_begin_b34 17 r t i) (fun t => some (mu (mu (mu (mu t 17 5 (io 4)) 17 6 (io 20)) 17 7 (io 60)) 17 8 (io 30))) 4 (fun _ (a : Unit) => a) (fun i _ t => (∀ k, k < i → t 30 k = io ((if k = 2 then 5 else 1 : Nat) : Int)) ∧ ∀ j, j ≠ 30 → t j = mu (mu (mu (mu σ 18 3 (io 0)) 21 3 (io 0)) 24 3 (io 0)) 27 3 (io 0) j) (a0 := ()) (t0 := mu (mu (mu (mu σ 18 3 (io 0)) 21 3 (io 0)) 24 3 (io 0)) 27 3 (io 0)) ⟨fun k hk => by omega, fun _ _ => rfl⟩ (fun r a t hI => ?_) (fun r i a t hi hI => ?_) 1000 (by omega)
  · obtain ⟨t, e, k1, k2⟩ := key
    refine ⟨_, e, ?_, fun j hj => ?_⟩
    · refine ⟨⟨⟨?_, ?_⟩, fun i hi => ?_⟩, ⟨⟨?_, ?_⟩, fun i hi => ?_⟩, ⟨⟨?_, ?_⟩, fun i hi => ?_⟩, ⟨⟨?_, ?_⟩, fun i hi => ?_⟩, fun k hk => ?_, ?_, ?_, ?_, ?_⟩
      · simp (disch := omega) only [mu_s, mu_k, mu_j, k2]; rfl
      · simp (disch := omega) only [mu_s, mu_k, mu_j, k2]; exact d1
      · exact absurd hi (Nat.not_lt_zero _)
      · simp (disch := omega) only [mu_s, mu_k, mu_j, k2]; rfl
      · simp (disch := omega) only [mu_s, mu_k, mu_j, k2]; exact d2
      · exact absurd hi (Nat.not_lt_zero _)
      · simp (disch := omega) only [mu_s, mu_k, mu_j, k2]; rfl
      · simp (disch := omega) only [mu_s, mu_k, mu_j, k2]; exact d3
      · exact absurd hi (Nat.not_lt_zero _)
      · simp (disch := omega) only [mu_s, mu_k, mu_j, k2]; rfl
      · simp (disch := omega) only [mu_s, mu_k, mu_j, k2]; exact d4
      · exact absurd hi (Nat.not_lt_zero _)
      · simp (disch := omega) only [mu_s, mu_k, mu_j]; exact k1 k hk
      · simp (disch := omega) only [mu_s, mu_k, mu_j]; rfl
      · simp (disch := omega) only [mu_s, mu_k, mu_j]; rfl
      · simp (disch := omega) only [mu_s, mu_k, mu_j]; rfl
      · simp (disch := omega) only [mu_s, mu_k, mu_j]; rfl
    · simp (disch := omega) only [mu_s, mu_k, mu_j, k2]
  · show f0_begin_b34 17 (r + 1) _ _ = _
    rw [f0_begin_b34, if_pos (by decide)]
    simp (disch := omega) only [n0, n1, n2, n3, n4, n5, n6, n7, n8, n9, n10, n11, n12, n13, n14, n15, n16, n17, n18, n19, n20, n21, n22, n23, n24, n25, n26, n27, n28, n29, n30, n31, n32, n33, n34, n35, n36, n37, n38, n39, n40, n41, n42, n43, n44, n45, n46, n47, n48, n49, n50, n51, n52, n53, n54, n55, n56, n57, n58, n59, n60, n61, n62, n63, n64, n65, n66, n97, n99, n100, n103, n107, n111, n116, n117, n119, n126, n200, n359, n360, n999, n1000, n9999, n65521, n99999, n1000000, io_neg, io_add, io_sub, io_mul, io_lt, io_le, io_eq, io_nat, Int.toNat_natCast, toNat_c1, ifg, obs, obm, oob, bi0, bi1, bi01, ob_ite, bind_ite, ↓reduceIte, eq_self]
  · show ∃ t', f0_begin_b34 17 (r + 1) _ _ = f0_begin_b34 17 r _ _ ∧ _
    obtain ⟨k1, k2⟩ := hI
    rw [f0_begin_b34, if_neg (by simp (disch := omega) only [n0, n1, n2, n3, n4, n5, n6, n7, n8, n9, n10, n11, n12, n13, n14, n15, n16, n17, n18, n19, n20, n21, n22, n23, n24, n25, n26, n27, n28, n29, n30, n31, n32, n33, n34, n35, n36, n37, n38, n39, n40, n41, n42, n43, n44, n45, n46, n47, n48, n49, n50, n51, n52, n53, n54, n55, n56, n57, n58, n59, n60, n61, n62, n63, n64, n65, n66, n97, n99, n100, n103, n107, n111, n116, n117, n119, n126, n200, n359, n360, n999, n1000, n9999, n65521, n99999, n1000000, io_neg, io_add, io_sub, io_mul, io_lt, io_le, io_eq, io_nat, Int.toNat_natCast, toNat_c1, ifg, obs, obm, oob, bi0, bi1, bi01]; omega)]
    unfold f0_begin_b54
    simp (disch := omega) only [n0, n1, n2, n3, n4, n5, n6, n7, n8, n9, n10, n11, n12, n13, n14, n15, n16, n17, n18, n19, n20, n21, n22, n23, n24, n25, n26, n27, n28, n29, n30, n31, n32, n33, n34, n35, n36, n37, n38, n39, n40, n41, n42, n43, n44, n45, n46, n47, n48, n49, n50, n51, n52, n53, n54, n55, n56, n57, n58, n59, n60, n61, n62, n63, n64, n65, n66, n97, n99, n100, n103, n107, n111, n116, n117, n119, n126, n200, n359, n360, n999, n1000, n9999, n65521, n99999, n1000000, io_neg, io_add, io_sub, io_mul, io_lt, io_le, io_eq, io_nat, Int.toNat_natCast, toNat_c1, ifg, obs, obm, oob, bi0, bi1, bi01, ob_ite, bind_ite, ↓reduceIte, eq_self, Nat.reduceAdd]
    refine ⟨mu t 30 i (io ((if i = 2 then 5 else 1 : Nat) : Int)), ?_, fun k hk => ?_, fun j hj => ?_⟩
    · by_cases c : i = 2
      · rw [if_pos (show (i : Int) = 2 by omega), if_pos c]; rfl
      · rw [if_neg (show ¬ (i : Int) = 2 by omega), if_neg c]; rfl
    · by_cases e : k = i
      · subst e; rw [mu_s]
      · rw [mu_k _ _ e]; exact k1 k (by omega)
    · rw [mu_j _ _ _ hj]; exact k2 j hj
end ItemC2
