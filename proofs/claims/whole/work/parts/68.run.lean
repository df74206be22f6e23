/-! THE TWO HOURS SIDE BY SIDE: a beat, the hour -/
theorem foldN_inv {α : Type} {f : Nat → α → α} {I : Nat → α → Prop} {a : α} (h0 : I 0 a) : ∀ N, (∀ i a, i < N → I i a → I (i + 1) (f i a)) → I N (foldN N f a) := by
  intro N
  induction N with
  | zero => intro _; exact h0
  | succ N ih => intro h; exact h N _ (by omega) (ih (fun i a hi => h i a (by omega)))
section Run
variable {σ : Mem} {P : PS} {S T : SS} {t : Int} {h st : Nat} {rule n : Int} {b : Nat}
theorem cwt_row {j : Nat} (h4 : j ≠ 4) (h5 : j ≠ 5) (m : Nat) {c : Int} : foldN m (cwt P c) S j = S j := by
  refine foldN_inv (I := fun _ (a : SS) => a j = S j) rfl m (fun i a _ hI => ?_)
  unfold cwt
  split
  · simp (disch := omega) only [su_row, su_self, ru_s, ru_n]; exact hI
  · exact hI
theorem cgo_row {j : Nat} (h0 : j ≠ 0) (h3 : j ≠ 3) {c f : Int} : cgo P c S f j = S j := by
  unfold cgo
  split
  · rfl
  · simp (disch := omega) only [su_row, su_self, ru_s, ru_n]
theorem cgo_00 {c f : Int} : cgo P c S f 0 0 = S 0 0 := by
  unfold cgo
  split
  · rfl
  · simp (disch := omega) only [su_row, su_self, ru_s, ru_n]
theorem cusers_row {j : Nat} (h0 : j ≠ 0) (h3 : j ≠ 3) (h4 : j ≠ 4) (h5 : j ≠ 5) {c : Int} : cusers P c S j = S j := by
  unfold cusers
  rw [cwt_row h4 h5, cgo_row h0 h3]
theorem cusers_00 {c : Int} : cusers P c S 0 0 = S 0 0 := by
  unfold cusers
  rw [cwt_row (by omega) (by omega), cgo_00]
theorem ctr_row {j : Nat} (h0 : j ≠ 0) (h1 : j ≠ 1) (h2 : j ≠ 2) {c : Int} : ctrains P c S j = S j := by
  unfold ctrains
  refine foldN_inv (I := fun _ (a : SS) => a j = S j) (by simp (disch := omega) only [su_row, su_self, ru_s, ru_n]) _ (fun i a _ hI => ?_)
  unfold ctr
  repeat' split
  all_goals first | exact hI | (simp (disch := omega) only [su_row, su_self, ru_s, ru_n]; exact hI)
theorem ctr_2 {c : Int} (i : Nat) : S 2 i ≤ ctrains P c S 2 i ∧ ctrains P c S 2 i ≤ S 2 i + 1 := by
  unfold ctrains
  have := foldN_inv (f := ctr P c) (I := fun m (a : SS) => S 2 i ≤ a 2 i ∧ a 2 i ≤ S 2 i + 1 ∧ (m ≤ i → a 2 i = S 2 i)) (a := su S 0 3 0) ⟨by simp [su], by simp [su]; omega, fun _ => by simp [su]⟩ (P 0 0) (fun m a _ hI => ?_)
  · exact ⟨this.1, this.2.1⟩
  · obtain ⟨k1, k2, k3⟩ := hI
    unfold ctr
    split
    · split
      · simp (disch := omega) only [su_row, su_self, ru_s, ru_n]
        exact ⟨k1, k2, fun z => k3 (by omega)⟩
      · simp (disch := omega) only [su_row, su_self, ru_s, ru_n]
        by_cases e : i = m
        · subst e
          have := k3 (Nat.le_refl _)
          rw [ru_s]
          exact ⟨by omega, by omega, fun z => by omega⟩
        · rw [ru_n _ _ e]
          exact ⟨k1, k2, fun z => k3 (by omega)⟩
    · exact ⟨k1, k2, fun z => k3 (by omega)⟩
theorem cusers_45 {c : Int} (i : Nat) : S 4 i ≤ cusers P c S 4 i ∧ (S 5 i ≠ 0 → cusers P c S 5 i ≠ 0) := by
  unfold cusers
  refine foldN_inv (I := fun _ (a : SS) => S 4 i ≤ a 4 i ∧ (S 5 i ≠ 0 → a 5 i ≠ 0)) ?_ _ (fun m a _ hI => ?_)
  · rw [cgo_row (by omega) (by omega), cgo_row (by omega) (by omega)]
    exact ⟨Int.le_refl _, id⟩
  · obtain ⟨k1, k2⟩ := hI
    unfold cwt
    split
    · rename_i z
      have z := of_decide_eq_true z
      simp (disch := omega) only [su_row, su_self, ru_s, ru_n]
      by_cases e : i = m
      · subst e
        rw [ru_s, ru_s]
        exact ⟨by omega, fun y => absurd z.2.2 (k2 y)⟩
      · rw [ru_n _ _ e, ru_n _ _ e]
        exact ⟨k1, k2⟩
    · exact ⟨k1, k2⟩
theorem costR_mono (s2 s4 s5 r2 r4 r5 : Nat → Int) (h2 : ∀ i, s2 i ≤ r2 i) (h4 : ∀ i, s4 i ≤ r4 i ∧ (s5 i ≠ 0 → r5 i ≠ 0)) : costR P s2 s4 s5 ≤ costR P r2 r4 r5 := by
  unfold costR
  have a1 := sumN_le (n := P 0 0) (f := fun i => (P 0 4 : Int) * s2 i) (g := fun i => (P 0 4 : Int) * r2 i) (fun i _ => Int.mul_le_mul_of_nonneg_left (h2 i) (by omega))
  have a2 := sumN_le (n := P 0 1) (f := fun i => (P 8 (P 4 i) : Int) * s4 i + (if s5 i = 0 then 0 else (P 0 6 : Int))) (g := fun i => (P 8 (P 4 i) : Int) * r4 i + (if r5 i = 0 then 0 else (P 0 6 : Int))) (fun i _ => by
    have k1 := Int.mul_le_mul_of_nonneg_left (h4 i).1 (show (0 : Int) ≤ (P 8 (P 4 i) : Int) by omega)
    have k2 := (h4 i).2
    show (P 8 (P 4 i) : Int) * s4 i + _ ≤ (P 8 (P 4 i) : Int) * r4 i + _
    by_cases c : s5 i = 0
    · rw [if_pos c]
      split <;> omega
    · rw [if_neg c, if_neg (k2 c)]
      omega)
  omega
theorem costR_lt (hB : PB P) {s2 s4 s5 : Nat → Int} (h2 : ∀ i, i < 6 → 0 ≤ s2 i ∧ s2 i ≤ 360) (h4 : ∀ i, i < 8 → 0 ≤ s4 i ∧ s4 i ≤ 99) : 0 ≤ costR P s2 s4 s5 ∧ costR P s2 s4 s5 ≤ 300000 := by
  have h6 := hB.2.1
  have h8 := hB.2.2.1
  have hp4 := hB.2.2.2.2.2.2.1
  have hp6 := hB.2.2.2.2.2.2.2.2.2.1
  unfold costR
  have a1 := sumN_le (n := P 0 0) (f := fun i => (P 0 4 : Int) * s2 i) (g := fun i => 35640) (fun i hi => by
    have := h2 i (by omega)
    exact Int.le_trans (Int.mul_le_mul (show (P 0 4 : Int) ≤ 99 by omega) this.2 this.1 (by omega)) (by decide))
  have a2 := sumN_le (n := P 0 0) (f := fun i => 0) (g := fun i => (P 0 4 : Int) * s2 i) (fun i hi => Int.mul_nonneg (by omega) (h2 i (by omega)).1)
  have a3 := sumN_le (n := P 0 1) (f := fun i => (P 8 (P 4 i) : Int) * s4 i + (if s5 i = 0 then 0 else (P 0 6 : Int))) (g := fun i => 990) (fun i hi => by
    have := h4 i (by omega)
    have hr := hB.2.2.2.2.2.2.2.2.2.2 (P 4 i)
    have k : (P 8 (P 4 i) : Int) * s4 i ≤ 9 * 99 := Int.mul_le_mul (show (P 8 (P 4 i) : Int) ≤ 9 by omega) this.2 this.1 (by omega)
    show (P 8 (P 4 i) : Int) * s4 i + _ ≤ 990
    split <;> omega)
  have a4 := sumN_le (n := P 0 1) (f := fun i => 0) (g := fun i => (P 8 (P 4 i) : Int) * s4 i + (if s5 i = 0 then 0 else (P 0 6 : Int))) (fun i hi => by
    have k := Int.mul_nonneg (show (0 : Int) ≤ (P 8 (P 4 i) : Int) by omega) (h4 i (by omega)).1
    show 0 ≤ (P 8 (P 4 i) : Int) * s4 i + _
    split <;> omega)
  rw [sumN_const] at a1 a2 a3 a4
  omega
theorem beat_mono (b : Nat) : costS P S ≤ costS P (cbeat P rule n b S) := by
  rw [costS_R, costS_R]
  unfold cbeat
  simp (disch := omega) only [su_row, su_self, ru_s, ru_n]
  refine costR_mono _ _ _ _ _ _ (fun i => ?_) (fun i => ?_)
  · rw [cusers_row (by omega) (by omega) (by omega) (by omega)]
    have := (ctr_2 (P := P) (c := b) (S := cmove P S rule n b) i).1
    rwa [cmove_row (by omega)] at this
  · have := cusers_45 (P := P) (c := b) (S := ctrains P b (cmove P S rule n b)) i
    rwa [ctr_row (by omega) (by omega) (by omega), ctr_row (by omega) (by omega) (by omega), cmove_row (by omega), cmove_row (by omega)] at this
theorem hour_mono {S0 : SS} : ∀ k b, b + k = 360 → costS P (foldN b (cbeat P rule n) S0) ≤ costS P (foldN 360 (cbeat P rule n) S0) := by
  intro k
  induction k with
  | zero => intro b hb; rw [show b = 360 by omega]; exact Int.le_refl _
  | succ k ih =>
    intro b hb
    refine Int.le_trans ?_ (ih (b + 1) (by omega))
    exact beat_mono b
def NB (S : SS) (b : Int) : Prop := ∀ i, i < 6 → 0 ≤ S 2 i ∧ S 2 i ≤ b
theorem NB_beat (hN : NB S b) : NB (cbeat P rule n b S) (b + 1) := by
  intro i hi
  unfold cbeat
  simp (disch := omega) only [su_row, su_self, ru_s, ru_n]
  rw [cusers_row (by omega) (by omega) (by omega) (by omega)]
  have := ctr_2 (P := P) (c := b) (S := cmove P S rule n b) i
  rw [cmove_row (by omega)] at this
  have := hN i hi
  omega
theorem c_beat (hB : PB P) (hP : PC σ st P) (h42 : 42 ≤ h) (hst36 : st ≤ 36) (hh : hst h = st) (r0 : 0 ≤ rule) (r1 : rule ≤ 4) (n0' : 0 ≤ n) (n1' : n < 400) (b1 : b < 360) (hS : BS S (15 * b)) (hL : LH P rule n S T b (b - 1) b) (hN : NB S b) (m : Nat) {e : Int} (e0 : 0 ≤ e) (e1 : e ≤ 1000000) (hlt : T 0 12 < e) : ∃ T', f1_run_b21 h (m + 1) (ovh σ h T) (io e) (io b) = f1_run_b21 h m (ovh σ h T') (io e) (io ((b : Int) + 1)) ∧ LH P rule n (cbeat P rule n b S) T' (b + 1) b (b + 1) := by
  have h8 := hB.2.2.1
  have h6 := hB.2.1
  have hpt := hB.2.2.2.2.2.2.2.2.1
  have hcost : 0 ≤ T 0 12 ∧ T 0 12 ≤ 300000 := by
    rw [hL.2.2.2.2.2.2.2.1]
    refine costR_lt hB (fun i hi => ?_) (fun i hi => ?_)
    · have := hN i hi; omega
    · have := hL.2.2.2.2.2.2.1 i hi; omega
  obtain ⟨T1, T2, x1, x2, hL2⟩ := c_gates (t := 15 * b) hB hP h42 hst36 hh hS (by omega) r0 r1 (by omega) (by omega) hL
  have a2 : BS (cmove P S rule n b) (15 * b + 1) := BS_move2 (BS_move1 hB hS) (by omega)
  obtain ⟨T3, x3, hL3⟩ := c_trains (S := cmove P S rule n b) hB hP h42 hst36 ⟨a2.1, a2.2.2.2.2.1.1, a2.2.2.2.2.1.2⟩ (by omega) (by omega) hL2
  have a3 := (m_goTrains hB (PM_mP hB) a2 (by omega) (b := b) (by omega) (by omega)).2
  obtain ⟨T4, x4, hL4⟩ := c_users (S := ctrains P b (cmove P S rule n b)) hB hP h42 hst36 b1 ⟨a3.1, a3.2.2.2.2.1.1, a3.2.2.2.2.1.2⟩ hL3
  refine ⟨su T4 1 b (T4 0 13), ?_, ?_⟩
  · rw [f1_run_b21, if_neg (by simp (disch := omega) only [n0, n1, n2, n3, n4, n5, n6, n7, n8, n9, n10, n11, n12, n13, n14, n15, n16, n17, n18, n19, n20, n21, n22, n23, n24, n25, n26, n27, n28, n29, n30, n31, n32, n33, n34, n35, n36, n37, n38, n39, n40, n41, n42, n43, n44, n45, n46, n47, n48, n49, n50, n51, n52, n53, n54, n55, n56, n57, n58, n59, n60, n61, n62, n63, n64, n65, n66, n97, n99, n100, n103, n107, n111, n116, n117, n119, n126, n200, n359, n360, n999, n1000, n9999, n65521, n99999, n1000000, io_neg, io_add, io_sub, io_mul, io_lt, io_le, io_eq, io_nat, Int.toNat_natCast, toNat_c1, ifg, obs, obm, oob, bi0, bi1, bi01]; omega), if_neg (by rw [rh0, io_le (by omega) (by omega) (by omega) (by omega)]; omega), x1, obs, x2, obs, x3, obs, x4, obs]
    simp (disch := omega) only [n0, n1, n2, n3, n4, n5, n6, n7, n8, n9, n10, n11, n12, n13, n14, n15, n16, n17, n18, n19, n20, n21, n22, n23, n24, n25, n26, n27, n28, n29, n30, n31, n32, n33, n34, n35, n36, n37, n38, n39, n40, n41, n42, n43, n44, n45, n46, n47, n48, n49, n50, n51, n52, n53, n54, n55, n56, n57, n58, n59, n60, n61, n62, n63, n64, n65, n66, n97, n99, n100, n103, n107, n111, n116, n117, n119, n126, n200, n359, n360, n999, n1000, n9999, n65521, n99999, n1000000, io_neg, io_add, io_sub, io_mul, io_lt, io_le, io_eq, io_nat, Int.toNat_natCast, toNat_c1, ifg, obs, obm, oob, bi0, bi1, bi01, rh0, rh1, rh2, rh3, rh4, rh5, rh6, rh7, wh0, wh1, wh2, wh3, wh4, wh5, wh6, wh7]
  · obtain ⟨lA, lG, lR, lT, lU, lW, lB, lC, l16, l18, l11, l1⟩ := hL4
    unfold LH cbeat
    simp (disch := omega) only [su_row, su_self, ru_s, ru_n]
    refine ⟨lA, lG, ⟨lR.1, lR.2.1, fun b' hb' => lR.2.2 b' (by omega)⟩, fun i hi => ?_, lU, lW, lB, lC, l16, l18, l11, fun k hk => ?_⟩
    · obtain ⟨q1, q2, q3, q4⟩ := lT i hi
      exact ⟨q1, q2, q3, by omega⟩
    · by_cases e : k = b
      · subst e
        rw [ru_s, ru_s, lG.1]
      · rw [ru_n _ _ e, ru_n _ _ e]
        exact l1 k (by omega)
def Fin' (P : PS) (S T : SS) : Prop := T 0 12 = costS P S ∧ (∀ k : Nat, k < 360 → T 1 k = S 6 k) ∧ (∀ i, i < 6 → T 5 i = S 2 i ∧ T 4 i = (if S 1 i < 0 then 1000000 else S 1 i) ∧ -4 ≤ S 1 i ∧ S 1 i ≤ 360) ∧ (∀ i, i < 8 → T 6 i = S 3 i ∧ T 7 i = S 4 i)
theorem run76 : f1_run_b76 h (ovh σ h T) = some (ovh σ h (su T 0 10 1)) := by
  unfold f1_run_b76
  rw [n1, wh0, obm]
theorem c_loop (hB : PB P) (hP : PC σ st P) (h42 : 42 ≤ h) (hst36 : st ≤ 36) (hh : hst h = st) (r0 : 0 ≤ rule) (r1 : rule ≤ 4) (n0' : 0 ≤ n) (n1' : n < 400) {e : Int} (e0 : 0 ≤ e) (e1 : e ≤ 1000000) {S0 : SS} : ∀ k (b : Nat) (m : Nat) (T : SS), b + k = 360 → k < m → BS (foldN b (cbeat P rule n) S0) (15 * b) → NB (foldN b (cbeat P rule n) S0) b → LH P rule n (foldN b (cbeat P rule n) S0) T b (b - 1) b → ∃ T', f1_run_b21 h m (ovh σ h T) (io e) (io b) = some (ovh σ h T') ∧ T' 0 10 = 1 ∧ (costS P (foldN 360 (cbeat P rule n) S0) < e → Fin' P (foldN 360 (cbeat P rule n) S0) T') ∧ (e ≤ costS P (foldN 360 (cbeat P rule n) S0) → e ≤ T' 0 12) ∧ 0 ≤ T' 0 12 ∧ T' 0 12 ≤ 300000 := by
  have hpt := hB.2.2.2.2.2.2.2.2.1
  intro k
  induction k with
  | zero =>
    intro b m T hb hm hS hN hL
    obtain ⟨m, rfl⟩ : ∃ q, m = q + 1 := ⟨m - 1, by omega⟩
    have : b = 360 := by omega
    subst this
    have hc : T 0 12 = costS P (foldN 360 (cbeat P rule n) S0) := hL.2.2.2.2.2.2.2.1
    have hcost : 0 ≤ T 0 12 ∧ T 0 12 ≤ 300000 := by
      rw [hL.2.2.2.2.2.2.2.1]
      refine costR_lt hB (fun i hi => ?_) (fun i hi => ?_)
      · have := hN i hi; omega
      · have := hL.2.2.2.2.2.2.1 i hi; omega
    refine ⟨su T 0 10 1, ?_, ?_, fun _ => ?_, fun z => ?_, ?_⟩
    · rw [f1_run_b21, if_pos (by decide), run76]
    · simp (disch := omega) only [su_row, su_self, ru_s, ru_n]
    · unfold Fin'
      simp (disch := omega) only [su_row, su_self, ru_s, ru_n]
      refine ⟨hc, fun k hk => hL.2.2.2.2.2.2.2.2.2.2.2 k (by omega), fun i hi => ?_, hL.2.2.2.2.1⟩
      obtain ⟨q1, q2, q3, q4⟩ := hL.2.2.2.1 i hi
      exact ⟨q1, q2, q3, by omega⟩
    · simp (disch := omega) only [su_row, su_self, ru_s, ru_n]; omega
    · simp (disch := omega) only [su_row, su_self, ru_s, ru_n]; exact hcost
  | succ k ih =>
    intro b m T hb hm hS hN hL
    obtain ⟨m, rfl⟩ : ∃ q, m = q + 1 := ⟨m - 1, by omega⟩
    have hc : T 0 12 = costS P (foldN b (cbeat P rule n) S0) := hL.2.2.2.2.2.2.2.1
    have hmono := hour_mono (P := P) (rule := rule) (n := n) (S0 := S0) (k + 1) b hb
    have hcost : 0 ≤ T 0 12 ∧ T 0 12 ≤ 300000 := by
      rw [hL.2.2.2.2.2.2.2.1]
      refine costR_lt hB (fun i hi => ?_) (fun i hi => ?_)
      · have := hN i hi; omega
      · have := hL.2.2.2.2.2.2.1 i hi; omega
    by_cases c : e ≤ T 0 12
    · refine ⟨su T 0 10 1, ?_, ?_, fun z => ?_, fun z => ?_, ?_⟩
      · rw [f1_run_b21, if_neg (by simp (disch := omega) only [n0, n1, n2, n3, n4, n5, n6, n7, n8, n9, n10, n11, n12, n13, n14, n15, n16, n17, n18, n19, n20, n21, n22, n23, n24, n25, n26, n27, n28, n29, n30, n31, n32, n33, n34, n35, n36, n37, n38, n39, n40, n41, n42, n43, n44, n45, n46, n47, n48, n49, n50, n51, n52, n53, n54, n55, n56, n57, n58, n59, n60, n61, n62, n63, n64, n65, n66, n97, n99, n100, n103, n107, n111, n116, n117, n119, n126, n200, n359, n360, n999, n1000, n9999, n65521, n99999, n1000000, io_neg, io_add, io_sub, io_mul, io_lt, io_le, io_eq, io_nat, Int.toNat_natCast, toNat_c1, ifg, obs, obm, oob, bi0, bi1, bi01]; omega), if_pos (by rw [rh0, io_le (by omega) (by omega) (by omega) (by omega)]; omega), run76]
      · simp (disch := omega) only [su_row, su_self, ru_s, ru_n]
      · omega
      · simp (disch := omega) only [su_row, su_self, ru_s, ru_n]; omega
      · simp (disch := omega) only [su_row, su_self, ru_s, ru_n]; exact hcost
    · obtain ⟨T1, x1, hL1⟩ := c_beat hB hP h42 hst36 hh r0 r1 n0' n1' (by omega) hS hL hN m e0 e1 (by omega)
      rw [x1]
      have hS1 := (m_beat hB (PM_mP hB) (show b < 360 by omega) hS n0' n1' r0 r1).2.2.2
      refine ih (b + 1) m T1 (by omega) (by omega) hS1 (NB_beat hN) ?_
      rw [show ((b + 1 : Nat) : Int) - 1 = b by omega]
      exact hL1
end Run
