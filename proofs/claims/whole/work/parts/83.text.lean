/-! THE TEXT: letters, numbers, items -/
def lt (l : Nat) (X : Nat → Nat) (p : Nat) : Nat := if p < l then X p else 0
def dg (l : Nat) (X : Nat → Nat) (p : Nat) : Bool := decide (48 ≤ lt l X p ∧ lt l X p ≤ 57)
/-- a number of one or two figures: it, and the place behind it -/
def nm (l : Nat) (X : Nat → Nat) (p : Nat) : Option (Nat × Nat) := if dg l X p = true then (if dg l X (p + 1) = true then some ((lt l X p - 48) * 10 + lt l X (p + 1) - 48, p + 2) else some (lt l X p - 48, p + 1)) else none
theorem lt_b {l : Nat} {X : Nat → Nat} (h : XB l X) (p : Nat) : lt l X p ≤ 126 := by
  unfold lt
  split
  · rename_i z; exact (h.2 p z).2
  · omega
theorem dg_i {l : Nat} {X : Nat → Nat} {p : Nat} : dg l X p = true ↔ 48 ≤ lt l X p ∧ lt l X p ≤ 57 := by
  unfold dg
  exact decide_eq_true_iff
theorem dg_l {l : Nat} {X : Nat → Nat} {p : Nat} (h : dg l X p = true) : p < l := by
  have := dg_i.mp h
  unfold lt at this
  apply Classical.byContradiction
  intro z
  rw [if_neg z] at this
  omega
theorem nm_b {l : Nat} {X : Nat → Nat} {p v e : Nat} (h : nm l X p = some (v, e)) : v ≤ 99 ∧ p < e ∧ e ≤ p + 2 ∧ e ≤ l := by
  unfold nm at h
  by_cases c : dg l X p = true
  · rw [if_pos c] at h
    have := dg_i.mp c
    have hl := dg_l c
    by_cases c1 : dg l X (p + 1) = true
    · rw [if_pos c1] at h
      have h1 := dg_i.mp c1
      have hl1 := dg_l c1
      have h := Option.some.inj h
      have e1 := congrArg Prod.fst h
      have e2 := congrArg Prod.snd h
      simp only at e1 e2
      omega
    · rw [if_neg c1] at h
      have h := Option.some.inj h
      have e1 := congrArg Prod.fst h
      have e2 := congrArg Prod.snd h
      simp only at e1 e2
      omega
  · rw [if_neg c] at h; cases h
section TextC
variable {σ σ' : Mem} {l : Nat} {X : Nat → Nat}
theorem c_letterAt (hX : XB l X) (hT : CT σ l X) {p : Nat} (hp : p ≤ 1000) : f5_letterAt σ 1 (io p) = some (io (lt l X p)) := by
  have := hX.1
  unfold f5_letterAt lt
  rw [hT.1]
  by_cases c : p < l
  · rw [if_neg (by simp (disch := omega) only [n0, n1, n2, n3, n4, n5, n6, n7, n8, n9, n10, n11, n12, n13, n14, n15, n16, n17, n18, n19, n20, n21, n22, n23, n24, n25, n26, n27, n28, n29, n30, n31, n32, n33, n34, n35, n36, n37, n38, n39, n40, n41, n42, n43, n44, n45, n46, n47, n48, n49, n50, n51, n52, n53, n54, n55, n56, n57, n58, n59, n60, n61, n62, n63, n64, n65, n66, n97, n99, n100, n103, n107, n111, n116, n117, n119, n126, n200, n359, n360, n999, n1000, n9999, n65521, n99999, n1000000, io_neg, io_add, io_sub, io_mul, io_lt, io_le, io_eq, io_nat, Int.toNat_natCast, toNat_c1, ifg, obs, obm, oob, bi0, bi1, bi01]; omega), if_neg (by simp (disch := omega) only [n0, n1, n2, n3, n4, n5, n6, n7, n8, n9, n10, n11, n12, n13, n14, n15, n16, n17, n18, n19, n20, n21, n22, n23, n24, n25, n26, n27, n28, n29, n30, n31, n32, n33, n34, n35, n36, n37, n38, n39, n40, n41, n42, n43, n44, n45, n46, n47, n48, n49, n50, n51, n52, n53, n54, n55, n56, n57, n58, n59, n60, n61, n62, n63, n64, n65, n66, n97, n99, n100, n103, n107, n111, n116, n117, n119, n126, n200, n359, n360, n999, n1000, n9999, n65521, n99999, n1000000, io_neg, io_add, io_sub, io_mul, io_lt, io_le, io_eq, io_nat, Int.toNat_natCast, toNat_c1, ifg, obs, obm, oob, bi0, bi1, bi01]; omega), if_pos (in_ix (n := 200) (by omega) (by decide)), io_ix (by omega), if_pos c]
    show some (σ 2 p) = _
    rw [hT.2 p c]
  · rw [if_neg (by simp (disch := omega) only [n0, n1, n2, n3, n4, n5, n6, n7, n8, n9, n10, n11, n12, n13, n14, n15, n16, n17, n18, n19, n20, n21, n22, n23, n24, n25, n26, n27, n28, n29, n30, n31, n32, n33, n34, n35, n36, n37, n38, n39, n40, n41, n42, n43, n44, n45, n46, n47, n48, n49, n50, n51, n52, n53, n54, n55, n56, n57, n58, n59, n60, n61, n62, n63, n64, n65, n66, n97, n99, n100, n103, n107, n111, n116, n117, n119, n126, n200, n359, n360, n999, n1000, n9999, n65521, n99999, n1000000, io_neg, io_add, io_sub, io_mul, io_lt, io_le, io_eq, io_nat, Int.toNat_natCast, toNat_c1, ifg, obs, obm, oob, bi0, bi1, bi01]; omega), if_pos (by simp (disch := omega) only [n0, n1, n2, n3, n4, n5, n6, n7, n8, n9, n10, n11, n12, n13, n14, n15, n16, n17, n18, n19, n20, n21, n22, n23, n24, n25, n26, n27, n28, n29, n30, n31, n32, n33, n34, n35, n36, n37, n38, n39, n40, n41, n42, n43, n44, n45, n46, n47, n48, n49, n50, n51, n52, n53, n54, n55, n56, n57, n58, n59, n60, n61, n62, n63, n64, n65, n66, n97, n99, n100, n103, n107, n111, n116, n117, n119, n126, n200, n359, n360, n999, n1000, n9999, n65521, n99999, n1000000, io_neg, io_add, io_sub, io_mul, io_lt, io_le, io_eq, io_nat, Int.toNat_natCast, toNat_c1, ifg, obs, obm, oob, bi0, bi1, bi01]; omega), if_neg c]
    rfl
theorem c_isFigure (hX : XB l X) (hT : CT σ l X) {p : Nat} (hp : p ≤ 1000) : f5_isFigure σ 1 (io p) = some (bi (dg l X p)) := by
  have := lt_b hX p
  unfold f5_isFigure dg
  rw [c_letterAt hX hT hp, obs]
  show Option.bind (f6_between (io (lt l X p : Nat)) (io 48) (io 57)) _ = _
  rw [p_between (by omega) (by omega) (by omega) (by omega) (by omega) (by omega), obs, bi_ret]
  congr 2
  rw [decide_eq_decide]
  omega
theorem CT_2 {x : Int32} (hT : CT σ l X) : CT (mu σ 1 2 x) l X := ⟨by rw [mu_k _ _ (by omega)]; exact hT.1, fun k hk => by rw [mu_j _ _ _ (by omega)]; exact hT.2 k hk⟩
theorem c_readNumber (hX : XB l X) (hT : CT σ l X) {p : Nat} (hp : p ≤ 900) : (nm l X p = none ∧ f5_readNumber σ 1 (io p) = some (σ, io (-4))) ∨ (∃ v e, nm l X p = some (v, e) ∧ ∃ σ', f5_readNumber σ 1 (io p) = some (σ', io e) ∧ σ' 1 2 = io v ∧ (∀ k, k ≠ 2 → σ' 1 k = σ 1 k) ∧ ∀ j, j ≠ 1 → σ' j = σ j) := by
  have hl := lt_b hX p
  have hl1 := lt_b hX (p + 1)
  have e1 : io (p : Int) + 1 = io ((p + 1 : Nat) : Int) := by rw [n1, io_add]; congr 1
  have e2 : io (p : Int) + 2 = io ((p + 2 : Nat) : Int) := by rw [n2, io_add]; congr 1
  have h10 : ¬ (1 : Int32) = 0 := by decide
  by_cases c : dg l X p = true
  · have hd := dg_i.mp c
    by_cases c1 : dg l X (p + 1) = true
    · have hd1 := dg_i.mp c1
      have hn : nm l X p = some ((lt l X p - 48) * 10 + lt l X (p + 1) - 48, p + 2) := by unfold nm; rw [if_pos c, if_pos c1]
      refine Or.inr ⟨_, _, hn, mu (mu σ 1 2 (io ((lt l X p : Int) - 48))) 1 2 (io (((lt l X p : Int) - 48) * 10 + (lt l X (p + 1) : Int) - 48)), ?_, ?_, fun k hk => ?_, fun j hj => ?_⟩
      · unfold f5_readNumber
        rw [c_isFigure hX hT (by omega), obs, c, bi_t, if_neg h10, c_letterAt hX hT (by omega), obs, obm, show (48 : Int32) = io 48 from rfl, io_sub, e1, c_isFigure hX (CT_2 hT) (by omega), obs, c1, bi_t, if_neg h10, c_letterAt hX (CT_2 hT) (by omega), obs, obm, mu_s, show (10 : Int32) = io 10 from rfl, io_mul, io_add, io_sub, e2]
      · rw [mu_s]; congr 1; omega
      · rw [mu_k _ _ hk, mu_k _ _ hk]
      · rw [mu_j _ _ _ hj, mu_j _ _ _ hj]
    · have hn : nm l X p = some (lt l X p - 48, p + 1) := by unfold nm; rw [if_pos c, if_neg c1]
      refine Or.inr ⟨_, _, hn, mu σ 1 2 (io ((lt l X p : Int) - 48)), ?_, ?_, fun k hk => ?_, fun j hj => ?_⟩
      · unfold f5_readNumber
        rw [c_isFigure hX hT (by omega), obs, c, bi_t, if_neg h10, c_letterAt hX hT (by omega), obs, obm, show (48 : Int32) = io 48 from rfl, io_sub, e1, c_isFigure hX (CT_2 hT) (by omega), obs, show dg l X (p + 1) = false by simpa using c1, bi_f, if_pos rfl]
      · rw [mu_s]; congr 1; omega
      · rw [mu_k _ _ hk]
      · rw [mu_j _ _ _ hj]
  · have hn : nm l X p = none := by unfold nm; rw [if_neg c]
    refine Or.inl ⟨hn, ?_⟩
    unfold f5_readNumber
    rw [c_isFigure hX hT (by omega), obs, show dg l X p = false by simpa using c, bi_f, if_pos rfl]
    rfl
end TextC
/-- an item's numbers: one, or two parted by a comma; the place behind the semicolon -/
def it1 (l : Nat) (X : Nat → Nat) (p : Nat) : Option (Nat × Nat) := match nm l X p with
  | some (v, e) => if lt l X e = 59 then some (v, e + 1) else none
  | none => none
def it2 (l : Nat) (X : Nat → Nat) (p : Nat) : Option (Nat × Nat × Nat) := match nm l X p with
  | some (v, e) => if lt l X e = 44 then (match it1 l X (e + 1) with
    | some (w, f) => some (v, w, f)
    | none => none) else none
  | none => none
theorem it1_b {l : Nat} {X : Nat → Nat} {p v e : Nat} (h : it1 l X p = some (v, e)) : v ≤ 99 ∧ p < e ∧ e ≤ p + 3 ∧ e ≤ l := by
  unfold it1 at h
  cases hn : nm l X p with
  | none => rw [hn] at h; cases h
  | some w =>
    obtain ⟨v', e'⟩ := w
    rw [hn] at h
    have hb := nm_b hn
    simp only at h
    by_cases c : lt l X e' = 59
    · rw [if_pos c] at h
      have h := Option.some.inj h
      have e1 := congrArg Prod.fst h
      have e2 := congrArg Prod.snd h
      simp only at e1 e2
      have : e' < l := by
        apply Classical.byContradiction
        intro z
        unfold lt at c
        rw [if_neg z] at c
        omega
      omega
    · rw [if_neg c] at h; cases h
theorem it2_b {l : Nat} {X : Nat → Nat} {p v w e : Nat} (h : it2 l X p = some (v, w, e)) : v ≤ 99 ∧ w ≤ 99 ∧ p < e ∧ e ≤ p + 6 ∧ e ≤ l := by
  unfold it2 at h
  cases hn : nm l X p with
  | none => rw [hn] at h; cases h
  | some q =>
    obtain ⟨v', e'⟩ := q
    rw [hn] at h
    have hb := nm_b hn
    simp only at h
    by_cases c : lt l X e' = 44
    · rw [if_pos c] at h
      cases h1 : it1 l X (e' + 1) with
      | none => rw [h1] at h; cases h
      | some r =>
        obtain ⟨w', f'⟩ := r
        rw [h1] at h
        have hb1 := it1_b h1
        have h := Option.some.inj h
        have e1 := congrArg Prod.fst h
        have e2 := congrArg (fun z => z.2.1) h
        have e3 := congrArg (fun z => z.2.2) h
        simp only at e1 e2 e3
        omega
    · rw [if_neg c] at h; cases h
def eu (E : PS) (j k v : Nat) : PS := fun j' k' => if j' = j ∧ k' = k then v else E j' k'
theorem eu_self (E : PS) (j k v : Nat) : eu E j k v j = du (E j) k v := by funext k'; simp [eu, du]
theorem eu_row (E : PS) {j j' : Nat} (k v : Nat) (h : j' ≠ j) : eu E j k v j' = E j' := by funext k'; simp [eu, h]
theorem eu_s (E : PS) (j k v : Nat) : eu E j k v j k = v := by simp [eu]
theorem eu_n (E : PS) {j k j' k' : Nat} (v : Nat) (h : ¬ (j' = j ∧ k' = k)) : eu E j k v j' k' = E j' k' := by simp only [eu, if_neg h]
/-- what an item tells: E 0 0 trains, E 0 1 users, E 0 2 closings, E 0 7 odds; E 1, E 2; E 3, E 4; E 6, E 7; E 9, E 10 their numbers; E 8 worths -/
def tk (E : PS) (L v w : Nat) : Option PS :=
  if L = 97 then (if 1 ≤ v ∧ v ≤ 99 ∧ w ≤ 99 then some (eu (eu E 0 5 v) 0 6 w) else none)
  else if L = 99 then (if v ≤ 99 then some (eu E 0 4 v) else none)
  else if L = 103 then (if 1 ≤ v ∧ v ≤ 9 then some (eu E 0 3 v) else none)
  else if L = 107 then (if v < w ∧ w ≤ 60 ∧ E 0 2 < 6 then some (eu (eu (eu E 6 (E 0 2) v) 7 (E 0 2) w) 0 2 (E 0 2 + 1)) else none)
  else if L = 111 then (if v ≤ 9 ∧ w ≤ 10 ∧ E 0 7 < 5 then some (eu (eu (eu E 9 (E 0 7) v) 10 (E 0 7) w) 0 7 (E 0 7 + 1)) else none)
  else if L = 116 then (if v ≤ 59 ∧ w ≤ 2 ∧ E 0 0 < 6 then some (eu (eu (eu E 1 (E 0 0) v) 2 (E 0 0) w) 0 0 (E 0 0 + 1)) else none)
  else if L = 117 then (if v ≤ 59 ∧ w ≤ 3 ∧ E 0 1 < 8 then some (eu (eu (eu E 3 (E 0 1) v) 4 (E 0 1) w) 0 1 (E 0 1 + 1)) else none)
  else if L = 119 then (if v ≤ 3 ∧ w ≤ 9 then some (eu E 8 v w) else none)
  else none
def itm (l : Nat) (X : Nat → Nat) (E : PS) (p : Nat) : Option (PS × Nat) :=
  if lt l X p = 99 ∨ lt l X p = 103 then (match it1 l X (p + 1) with
    | some (v, e) => (match tk E (lt l X p) v 0 with
      | some E' => some (E', e)
      | none => none)
    | none => none)
  else (match it2 l X (p + 1) with
    | some (v, w, e) => (match tk E (lt l X p) v w with
      | some E' => some (E', e)
      | none => none)
    | none => none)
def EB (E : PS) : Prop := (E 0 0 ≤ 6 ∧ E 0 1 ≤ 8 ∧ E 0 2 ≤ 6 ∧ E 0 7 ≤ 5 ∧ 1 ≤ E 0 3 ∧ E 0 3 ≤ 9 ∧ E 0 4 ≤ 99 ∧ 1 ≤ E 0 5 ∧ E 0 5 ≤ 99 ∧ E 0 6 ≤ 99) ∧ ∀ i, E 1 i ≤ 59 ∧ E 2 i ≤ 2 ∧ E 3 i ≤ 59 ∧ E 4 i ≤ 3 ∧ E 6 i ≤ 60 ∧ E 7 i ≤ 60 ∧ E 8 i ≤ 9 ∧ E 9 i ≤ 9 ∧ E 10 i ≤ 10
theorem EB_0 {E : PS} (h : EB E) {k v : Nat} (hv : (k = 0 ∧ v ≤ 6) ∨ (k = 1 ∧ v ≤ 8) ∨ (k = 2 ∧ v ≤ 6) ∨ (k = 7 ∧ v ≤ 5) ∨ (k = 3 ∧ 1 ≤ v ∧ v ≤ 9) ∨ (k = 4 ∧ v ≤ 99) ∨ (k = 5 ∧ 1 ≤ v ∧ v ≤ 99) ∨ (k = 6 ∧ v ≤ 99)) : EB (eu E 0 k v) := by
  obtain ⟨h1, h2⟩ := h
  refine ⟨?_, fun i => ?_⟩
  · rw [eu_self]
    unfold du
    repeat' split
    all_goals omega
  · rw [eu_row _ _ _ (by omega), eu_row _ _ _ (by omega), eu_row _ _ _ (by omega), eu_row _ _ _ (by omega), eu_row _ _ _ (by omega), eu_row _ _ _ (by omega), eu_row _ _ _ (by omega), eu_row _ _ _ (by omega), eu_row _ _ _ (by omega)]
    exact h2 i
theorem EB_r {E : PS} (h : EB E) {j k v : Nat} (hv : (j = 1 ∧ v ≤ 59) ∨ (j = 2 ∧ v ≤ 2) ∨ (j = 3 ∧ v ≤ 59) ∨ (j = 4 ∧ v ≤ 3) ∨ (j = 6 ∧ v ≤ 60) ∨ (j = 7 ∧ v ≤ 60) ∨ (j = 8 ∧ v ≤ 9) ∨ (j = 9 ∧ v ≤ 9) ∨ (j = 10 ∧ v ≤ 10)) : EB (eu E j k v) := by
  obtain ⟨h1, h2⟩ := h
  refine ⟨?_, fun i => ?_⟩
  · rw [eu_row _ _ _ (by omega)]; exact h1
  · have := h2 i
    unfold eu
    refine ⟨?_, ?_, ?_, ?_, ?_, ?_, ?_, ?_, ?_⟩
    all_goals split
    all_goals omega
theorem EB_tk {E E' : PS} {L v w : Nat} (h : EB E) (ht : tk E L v w = some E') : EB E' := by
  have hb := h.1
  unfold tk at ht
  repeat' split at ht
  all_goals first | (cases ht; done) | skip
  all_goals (have ht := Option.some.inj ht; subst ht)
  · exact EB_0 (EB_0 h (by omega)) (by omega)
  · exact EB_0 h (by omega)
  · exact EB_0 h (by omega)
  · exact EB_0 (EB_r (EB_r h (by omega)) (by omega)) (by omega)
  · exact EB_0 (EB_r (EB_r h (by omega)) (by omega)) (by omega)
  · exact EB_0 (EB_r (EB_r h (by omega)) (by omega)) (by omega)
  · exact EB_0 (EB_r (EB_r h (by omega)) (by omega)) (by omega)
  · exact EB_r h (by omega)
theorem itm_b {l : Nat} {X : Nat → Nat} {E E' : PS} {p e : Nat} (h : EB E) (ht : itm l X E p = some (E', e)) : EB E' ∧ p + 1 < e ∧ e ≤ p + 7 ∧ e ≤ l := by
  unfold itm at ht
  by_cases c : lt l X p = 99 ∨ lt l X p = 103
  · rw [if_pos c] at ht
    cases h1 : it1 l X (p + 1) with
    | none => rw [h1] at ht; cases ht
    | some q =>
      obtain ⟨v, e'⟩ := q
      rw [h1] at ht
      simp only at ht
      cases h2 : tk E (lt l X p) v 0 with
      | none => rw [h2] at ht; cases ht
      | some E2 =>
        rw [h2] at ht
        have ht := Option.some.inj ht
        have q1 := congrArg Prod.fst ht
        have q2 := congrArg Prod.snd ht
        simp only at q1 q2
        subst q1
        have := it1_b h1
        exact ⟨EB_tk h h2, by omega, by omega, by omega⟩
  · rw [if_neg c] at ht
    cases h1 : it2 l X (p + 1) with
    | none => rw [h1] at ht; cases ht
    | some q =>
      obtain ⟨v, w, e'⟩ := q
      rw [h1] at ht
      simp only at ht
      cases h2 : tk E (lt l X p) v w with
      | none => rw [h2] at ht; cases ht
      | some E2 =>
        rw [h2] at ht
        have ht := Option.some.inj ht
        have q1 := congrArg Prod.fst ht
        have q2 := congrArg Prod.snd ht
        simp only at q1 q2
        subst q1
        have := it2_b h1
        exact ⟨EB_tk h h2, by omega, by omega, by omega⟩
