/-! THE COMPONENT'S MEMORY WITH AN HOUR LAID OVER IT: T 0 the object's slots, T 1 gates at the end, T 2 comings, T 3 wanted from, T 4 begins, T 5 stops, T 6 crossings, T 7 waits -/
def ovh (σ : Mem) (h : Nat) (T : SS) : Mem := fun j k => if h ≤ j ∧ j ≤ h + 7 then io (T (j - h) k) else σ j k
theorem rhc (σ : Mem) (h : Nat) (T : SS) {c : Nat} (hc : c ≤ 7) (k : Nat) : ovh σ h T (h + c) k = io (T c k) := by
  unfold ovh
  rw [if_pos (by omega), show h + c - h = c by omega]
theorem rho (σ : Mem) {h : Nat} (T : SS) {j : Nat} (hj : j < h ∨ h + 7 < j) (k : Nat) : ovh σ h T j k = σ j k := by
  unfold ovh
  rw [if_neg (by omega)]
theorem whc (σ : Mem) (h : Nat) (T : SS) {c : Nat} (hc : c ≤ 7) (k : Nat) (v : Int) : mu (ovh σ h T) (h + c) k (io v) = ovh σ h (su T c k v) := by
  refine mem_ext fun j' k' => ?_
  rw [mu_r]
  by_cases e : j' = h + c ∧ k' = k
  · obtain ⟨rfl, rfl⟩ := e
    rw [if_pos ⟨rfl, rfl⟩, rhc _ _ _ hc, su_s]
  · rw [if_neg e]
    unfold ovh
    by_cases g : h ≤ j' ∧ j' ≤ h + 7
    · rw [if_pos g, if_pos g, su_n _ _ (by omega)]
    · rw [if_neg g, if_neg g]
section OvH
variable {σ : Mem} {h : Nat} {T : SS} {P : PS}
theorem rh0 (k : Nat) : ovh σ h T h k = io (T 0 k) := rhc σ h T (c := 0) (by decide) k
theorem rh1 (k : Nat) : ovh σ h T (h + 1) k = io (T 1 k) := rhc σ h T (by decide) k
theorem rh2 (k : Nat) : ovh σ h T (h + 2) k = io (T 2 k) := rhc σ h T (by decide) k
theorem rh3 (k : Nat) : ovh σ h T (h + 3) k = io (T 3 k) := rhc σ h T (by decide) k
theorem rh4 (k : Nat) : ovh σ h T (h + 4) k = io (T 4 k) := rhc σ h T (by decide) k
theorem rh5 (k : Nat) : ovh σ h T (h + 5) k = io (T 5 k) := rhc σ h T (by decide) k
theorem rh6 (k : Nat) : ovh σ h T (h + 6) k = io (T 6 k) := rhc σ h T (by decide) k
theorem rh7 (k : Nat) : ovh σ h T (h + 7) k = io (T 7 k) := rhc σ h T (by decide) k
theorem wh0 (k : Nat) (v : Int) : mu (ovh σ h T) h k (io v) = ovh σ h (su T 0 k v) := whc σ h T (c := 0) (by decide) k v
theorem wh1 (k : Nat) (v : Int) : mu (ovh σ h T) (h + 1) k (io v) = ovh σ h (su T 1 k v) := whc σ h T (by decide) k v
theorem wh2 (k : Nat) (v : Int) : mu (ovh σ h T) (h + 2) k (io v) = ovh σ h (su T 2 k v) := whc σ h T (by decide) k v
theorem wh3 (k : Nat) (v : Int) : mu (ovh σ h T) (h + 3) k (io v) = ovh σ h (su T 3 k v) := whc σ h T (by decide) k v
theorem wh4 (k : Nat) (v : Int) : mu (ovh σ h T) (h + 4) k (io v) = ovh σ h (su T 4 k v) := whc σ h T (by decide) k v
theorem wh5 (k : Nat) (v : Int) : mu (ovh σ h T) (h + 5) k (io v) = ovh σ h (su T 5 k v) := whc σ h T (by decide) k v
theorem wh6 (k : Nat) (v : Int) : mu (ovh σ h T) (h + 6) k (io v) = ovh σ h (su T 6 k v) := whc σ h T (by decide) k v
theorem wh7 (k : Nat) (v : Int) : mu (ovh σ h T) (h + 7) k (io v) = ovh σ h (su T 7 k v) := whc σ h T (by decide) k v
def vwh (σ : Mem) (h : Nat) : SS := fun j k => (σ (h + j) k).toInt
theorem ovh_vw (σ : Mem) (h : Nat) : ovh σ h (vwh σ h) = σ := by
  refine mem_ext fun j k => ?_
  unfold ovh vwh
  by_cases g : h ≤ j ∧ j ≤ h + 7
  · rw [if_pos g, ← io_of, show h + (j - h) = j by omega]
  · rw [if_neg g]
def ru (s : Nat → Int) (k : Nat) (v : Int) : Nat → Int := fun k' => if k' = k then v else s k'
theorem ru_s (s : Nat → Int) (k : Nat) (v : Int) : ru s k v k = v := by simp [ru]
theorem ru_n (s : Nat → Int) {k k' : Nat} (v : Int) (h : k' ≠ k) : ru s k v k' = s k' := by simp [ru, h]
theorem su_self (S : SS) (j k : Nat) (v : Int) : su S j k v j = ru (S j) k v := by funext k'; simp [su, ru]
theorem su_row (S : SS) {j j' : Nat} (k : Nat) (v : Int) (h : j' ≠ j) : su S j k v j' = S j' := by funext k'; simp [su, h]
/-- the component's book and the stand st hold P -/
def PC (σ : Mem) (st : Nat) (P : PS) : Prop := (σ 4 3 = io (P 0 0) ∧ σ 7 3 = io (P 0 1) ∧ σ (st + 1) 3 = io (P 0 2) ∧ σ 3 5 = io (P 0 3) ∧ σ 3 6 = io (P 0 4) ∧ σ 3 7 = io (P 0 5) ∧ σ 3 8 = io (P 0 6)) ∧ (∀ i, i < P 0 0 → σ 5 i = io (P 1 i) ∧ σ 6 i = io (P 2 i)) ∧ (∀ i, i < P 0 1 → σ 8 i = io (P 3 i) ∧ σ 9 i = io (P 4 i)) ∧ (∀ i, i < P 0 0 → σ (st + 4) i = io (P 5 i)) ∧ (∀ k, k < P 0 2 → σ (st + 2) k = io (P 6 k) ∧ σ (st + 3) k = io (P 7 k)) ∧ (∀ k, k < 4 → σ 16 k = io (P 8 k))
theorem PC_ovh {st : Nat} (h42 : 42 ≤ h) (hst : st ≤ 36) (hp : PC σ st P) : PC (ovh σ h T) st P := by
  obtain ⟨⟨a1, a2, a3, a4, a5, a6, a7⟩, b, c, d, e, f⟩ := hp
  refine ⟨⟨?_, ?_, ?_, ?_, ?_, ?_, ?_⟩, fun i hi => ?_, fun i hi => ?_, fun i hi => ?_, fun i hi => ?_, fun i hi => ?_⟩
  · rw [rho _ _ (by omega)]; exact a1
  · rw [rho _ _ (by omega)]; exact a2
  · rw [rho _ _ (by omega)]; exact a3
  · rw [rho _ _ (by omega)]; exact a4
  · rw [rho _ _ (by omega)]; exact a5
  · rw [rho _ _ (by omega)]; exact a6
  · rw [rho _ _ (by omega)]; exact a7
  · rw [rho _ _ (by omega), rho _ _ (by omega)]; exact b i hi
  · rw [rho _ _ (by omega), rho _ _ (by omega)]; exact c i hi
  · rw [rho _ _ (by omega)]; exact d i hi
  · rw [rho _ _ (by omega), rho _ _ (by omega)]; exact e i hi
  · rw [rho _ _ (by omega)]; exact f i hi
/-- a row of pairs at h: its first and second numbers -/
theorem p_first {h n : Nat} (hn : σ h 3 = io n) (h8 : n ≤ 8) {i : Nat} (hi : i < n) : f2_first σ h (io i) = some (σ (h + 1) i) := by
  unfold f2_first
  simp (disch := omega) only [n0, n1, n2, n3, n4, n5, n6, n7, n8, n9, n10, n11, n12, n13, n14, n15, n16, n17, n18, n19, n20, n21, n22, n23, n24, n25, n26, n27, n28, n29, n30, n31, n32, n33, n34, n35, n36, n37, n38, n39, n40, n41, n42, n43, n44, n45, n46, n47, n48, n49, n50, n51, n52, n53, n54, n55, n56, n57, n58, n59, n60, n61, n62, n63, n64, n65, n66, n97, n99, n100, n103, n107, n111, n116, n117, n119, n126, n200, n359, n360, n999, n1000, n9999, n65521, n99999, n1000000, io_neg, io_add, io_sub, io_mul, io_lt, io_le, io_eq, io_nat, Int.toNat_natCast, toNat_c1, ifg, obs, obm, oob, bi0, bi1, bi01, hn]
  rw [if_neg (by omega), if_neg (by omega)]
theorem p_second {h n : Nat} (hn : σ h 3 = io n) (h8 : n ≤ 8) {i : Nat} (hi : i < n) : f2_second σ h (io i) = some (σ (h + 2) i) := by
  unfold f2_second
  simp (disch := omega) only [n0, n1, n2, n3, n4, n5, n6, n7, n8, n9, n10, n11, n12, n13, n14, n15, n16, n17, n18, n19, n20, n21, n22, n23, n24, n25, n26, n27, n28, n29, n30, n31, n32, n33, n34, n35, n36, n37, n38, n39, n40, n41, n42, n43, n44, n45, n46, n47, n48, n49, n50, n51, n52, n53, n54, n55, n56, n57, n58, n59, n60, n61, n62, n63, n64, n65, n66, n97, n99, n100, n103, n107, n111, n116, n117, n119, n126, n200, n359, n360, n999, n1000, n9999, n65521, n99999, n1000000, io_neg, io_add, io_sub, io_mul, io_lt, io_le, io_eq, io_nat, Int.toNat_natCast, toNat_c1, ifg, obs, obm, oob, bi0, bi1, bi01, hn]
  rw [if_neg (by omega), if_neg (by omega)]
theorem p_first_o {h n : Nat} (hn : σ h 3 = io n) (h8 : n ≤ 8) {a : Int} (a0 : -2147483648 ≤ a) (a1 : a < 2147483648) (ha : a < 0 ∨ n ≤ a) : f2_first σ h (io a) = some (io 0) := by
  unfold f2_first
  simp (disch := omega) only [n0, n1, n2, n3, n4, n5, n6, n7, n8, n9, n10, n11, n12, n13, n14, n15, n16, n17, n18, n19, n20, n21, n22, n23, n24, n25, n26, n27, n28, n29, n30, n31, n32, n33, n34, n35, n36, n37, n38, n39, n40, n41, n42, n43, n44, n45, n46, n47, n48, n49, n50, n51, n52, n53, n54, n55, n56, n57, n58, n59, n60, n61, n62, n63, n64, n65, n66, n97, n99, n100, n103, n107, n111, n116, n117, n119, n126, n200, n359, n360, n999, n1000, n9999, n65521, n99999, n1000000, io_neg, io_add, io_sub, io_mul, io_lt, io_le, io_eq, io_nat, Int.toNat_natCast, toNat_c1, ifg, obs, obm, oob, bi0, bi1, bi01, hn]
  by_cases c : a < 0
  · rw [if_pos c]
  · rw [if_neg c, if_pos (by omega)]
theorem p_second_o {h n : Nat} (hn : σ h 3 = io n) (h8 : n ≤ 8) {a : Int} (a0 : -2147483648 ≤ a) (a1 : a < 2147483648) (ha : a < 0 ∨ n ≤ a) : f2_second σ h (io a) = some (io 0) := by
  unfold f2_second
  simp (disch := omega) only [n0, n1, n2, n3, n4, n5, n6, n7, n8, n9, n10, n11, n12, n13, n14, n15, n16, n17, n18, n19, n20, n21, n22, n23, n24, n25, n26, n27, n28, n29, n30, n31, n32, n33, n34, n35, n36, n37, n38, n39, n40, n41, n42, n43, n44, n45, n46, n47, n48, n49, n50, n51, n52, n53, n54, n55, n56, n57, n58, n59, n60, n61, n62, n63, n64, n65, n66, n97, n99, n100, n103, n107, n111, n116, n117, n119, n126, n200, n359, n360, n999, n1000, n9999, n65521, n99999, n1000000, io_neg, io_add, io_sub, io_mul, io_lt, io_le, io_eq, io_nat, Int.toNat_natCast, toNat_c1, ifg, obs, obm, oob, bi0, bi1, bi01, hn]
  by_cases c : a < 0
  · rw [if_pos c]
  · rw [if_neg c, if_pos (by omega)]
theorem p_between {a l m : Int} (a0 : -2147483648 ≤ a) (a1 : a < 2147483648) (l0 : -2147483648 ≤ l) (l1 : l < 2147483648) (m0 : -2147483648 ≤ m) (m1 : m < 2147483648) : f6_between (io a) (io l) (io m) = some (bi (decide (l ≤ a ∧ a ≤ m))) := by
  unfold f6_between
  simp (disch := omega) only [n0, n1, n2, n3, n4, n5, n6, n7, n8, n9, n10, n11, n12, n13, n14, n15, n16, n17, n18, n19, n20, n21, n22, n23, n24, n25, n26, n27, n28, n29, n30, n31, n32, n33, n34, n35, n36, n37, n38, n39, n40, n41, n42, n43, n44, n45, n46, n47, n48, n49, n50, n51, n52, n53, n54, n55, n56, n57, n58, n59, n60, n61, n62, n63, n64, n65, n66, n97, n99, n100, n103, n107, n111, n116, n117, n119, n126, n200, n359, n360, n999, n1000, n9999, n65521, n99999, n1000000, io_neg, io_add, io_sub, io_mul, io_lt, io_le, io_eq, io_nat, Int.toNat_natCast, toNat_c1, ifg, obs, obm, oob, bi0, bi1, bi01]
  by_cases c : a < l
  · rw [if_pos c, decide_eq_false (by omega)]; rfl
  · rw [if_neg c]
    by_cases c2 : m < a
    · rw [if_pos c2, decide_eq_false (by omega)]; rfl
    · rw [if_neg c2, decide_eq_true (by omega)]; rfl
theorem p_lateOf {st : Nat} {i : Nat} (hi : i < 6) : f4_lateOf σ st (io i) = some (σ (st + 4) i) := by
  unfold f4_lateOf
  rw [n0, n5, p_between (by omega) (by omega) (by omega) (by omega) (by omega) (by omega), obs, decide_eq_true (by omega)]
  simp (disch := omega) only [n0, n1, n2, n3, n4, n5, n6, n7, n8, n9, n10, n11, n12, n13, n14, n15, n16, n17, n18, n19, n20, n21, n22, n23, n24, n25, n26, n27, n28, n29, n30, n31, n32, n33, n34, n35, n36, n37, n38, n39, n40, n41, n42, n43, n44, n45, n46, n47, n48, n49, n50, n51, n52, n53, n54, n55, n56, n57, n58, n59, n60, n61, n62, n63, n64, n65, n66, n97, n99, n100, n103, n107, n111, n116, n117, n119, n126, n200, n359, n360, n999, n1000, n9999, n65521, n99999, n1000000, io_neg, io_add, io_sub, io_mul, io_lt, io_le, io_eq, io_nat, Int.toNat_natCast, toNat_c1, ifg, obs, obm, oob, bi0, bi1, bi01]
  rfl
theorem p_comingOf {st : Nat} (hB : PB P) (hP : PC σ st P) {i : Nat} (hi : i < P 0 0) : f4_comingOf σ st 4 (io i) = some (io (come P i)) := by
  have h6 := hB.2.1
  unfold f4_comingOf come
  rw [p_first hP.1.1 (by omega) hi, obs, p_lateOf (by omega), obs, (hP.2.1 i hi).1, hP.2.2.2.1 i hi, n6, io_add, io_mul, Int.mul_comm]
theorem any_loop2 (F : Nat → Int32 → Option Int32) (N : Nat) (p : Nat → Bool) (hend : ∀ n, F (n + 1) (io N) = some (io 0)) (hstep : ∀ n i, i < N → F (n + 1) (io i) = if p i = true then some (io 1) else F n (io ((i : Int) + 1))) : ∀ n, N < n → F n (io 0) = some (bi (anyN N p)) := by
  have key : ∀ k i n, i + k = N → k < n → (∀ j, j < i → p j = false) → F n (io i) = some (bi (anyN N p)) := by
    intro k
    induction k with
    | zero =>
      intro i n h1 h2 h3
      obtain ⟨n, rfl⟩ : ∃ m, n = m + 1 := ⟨n - 1, by omega⟩
      have : i = N := by omega
      subst this
      rw [hend n]
      have : anyN i p = false := by
        rw [← Bool.not_eq_true, anyN_iff]
        rintro ⟨j, hj, hp⟩
        rw [h3 j hj] at hp
        cases hp
      rw [this]
      rfl
    | succ k ih =>
      intro i n h1 h2 h3
      obtain ⟨n, rfl⟩ : ∃ m, n = m + 1 := ⟨n - 1, by omega⟩
      rw [hstep n i (by omega)]
      by_cases c : p i = true
      · rw [if_pos c, anyN_iff.mpr ⟨i, by omega, c⟩]
        rfl
      · rw [if_neg c]
        refine ih (i + 1) n (by omega) (by omega) (fun j hj => ?_)
        by_cases e : j = i
        · subst e; simpa using c
        · exact h3 j (by omega)
  intro n hn
  exact key N 0 n (by omega) hn (fun j hj => by omega)
theorem lock_loop {α τ β : Type} (F : Nat → τ → Int32 → Option β) (fin : τ → Option β) (N : Nat) (f : Nat → α → α) (I : Nat → α → τ → Prop) {a0 : α} {t0 : τ} (h0 : I 0 a0 t0) (hend : ∀ n a t, I N a t → F (n + 1) t (io N) = fin t) (hstep : ∀ n i a t, i < N → I i a t → ∃ t', F (n + 1) t (io i) = F n t' (io ((i : Int) + 1)) ∧ I (i + 1) (f i a) t') : ∀ n, N < n → ∃ t', F n t0 (io 0) = fin t' ∧ I N (foldN N f a0) t' := by
  have key : ∀ k i n t, i + k = N → k < n → I i (foldN i f a0) t → ∃ t', F n t (io i) = fin t' ∧ I N (foldN N f a0) t' := by
    intro k
    induction k with
    | zero =>
      intro i n t h1 h2 h3
      obtain ⟨n, rfl⟩ : ∃ m, n = m + 1 := ⟨n - 1, by omega⟩
      have : i = N := by omega
      subst this
      exact ⟨t, hend n _ t h3, h3⟩
    | succ k ih =>
      intro i n t h1 h2 h3
      obtain ⟨n, rfl⟩ : ∃ m, n = m + 1 := ⟨n - 1, by omega⟩
      obtain ⟨t', e, h4⟩ := hstep n i _ t (by omega) h3
      rw [e]
      exact ih (i + 1) n t' (by omega) (by omega) h4
  intro n hn
  exact key N 0 n t0 (by omega) hn h0
end OvH
