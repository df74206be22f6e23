/-! THE TWO HOURS SIDE BY SIDE: users come, cross, wait -/
section Users2
variable {σ : Mem} {P : PS} {S T : SS} {t : Int} {h st : Nat} {rule n : Int} {b : Nat}
theorem c_meet (hB : PB P) (hP : PC σ st P) (h42 : 42 ≤ h) (hst36 : st ≤ 36) {m : Nat} (hm : m < 60) {v0 : Nat} (hv0 : v0 < 256) : ∃ v : Nat, v < 256 ∧ f1_meetUsers (ovh σ h (su T 0 9 v0)) h (io m) = some (ovh σ h (su T 0 9 v)) ∧ ∀ j, j < 8 → v.testBit j = (v0.testBit j || decide (j < P 0 1 ∧ P 3 j = m)) := by
  have h8 := hB.2.2.1
  unfold f1_meetUsers
  rw [n0]
  have key := lock_loop (fun q (v : Nat) i => f1_meetUsers_b2 h q (ovh σ h (su T 0 9 v)) (io m) i) (fun v => some (ovh σ h (su T 0 9 v))) (P 0 1) (fun _ (a : Unit) => a) (fun i _ v => v < 256 ∧ ∀ j, j < 8 → v.testBit j = (v0.testBit j || decide (j < i ∧ P 3 j = m))) (a0 := ()) (t0 := v0) ⟨hv0, fun j hj => by simp⟩ (fun q a v _ => ?_) (fun q i a v hi hI => ?_) 1000 (by omega)
  · obtain ⟨v, e, h1, h2⟩ := key
    exact ⟨v, h1, e, h2⟩
  · show f1_meetUsers_b2 h (q + 1) _ _ _ = _
    rw [f1_meetUsers_b2, f2_size, obs, (PC_ovh (T := su T 0 9 v) h42 hst36 hP).1.2.1, if_pos (Int32.le_refl _)]
  · show ∃ v' : Nat, f1_meetUsers_b2 h (q + 1) _ _ _ = f1_meetUsers_b2 h q _ _ _ ∧ _
    obtain ⟨hv, hI⟩ := hI
    have hP := PC_ovh (T := su T 0 9 v) h42 hst36 hP
    have hr := hB.2.2.2.2.2.2.2.2.2.2 i
    rw [f1_meetUsers_b2, f2_size, obs, hP.1.2.1, p_first hP.1.2.1 h8 hi, obs, (hP.2.2.1 i hi).1]
    simp (disch := omega) only [n0, n1, n2, n3, n4, n5, n6, n7, n8, n9, n10, n11, n12, n13, n14, n15, n16, n17, n18, n19, n20, n21, n22, n23, n24, n25, n26, n27, n28, n29, n30, n31, n32, n33, n34, n35, n36, n37, n38, n39, n40, n41, n42, n43, n44, n45, n46, n47, n48, n49, n50, n51, n52, n53, n54, n55, n56, n57, n58, n59, n60, n61, n62, n63, n64, n65, n66, n97, n99, n100, n103, n107, n111, n116, n117, n119, n126, n200, n359, n360, n999, n1000, n9999, n65521, n99999, n1000000, io_neg, io_add, io_sub, io_mul, io_lt, io_le, io_eq, io_nat, Int.toNat_natCast, toNat_c1, ifg, obs, obm, oob, bi0, bi1, bi01, rh0, rh1, rh2, rh3, rh4, rh5, rh6, rh7, wh0, wh1, wh2, wh3, wh4, wh5, wh6, wh7, su_row, su_self, ru_s, ru_n, bw_o, su_su]
    rw [if_neg (by omega)]
    by_cases c : P 3 i = m
    · rw [if_pos (by omega)]
      refine ⟨v ||| 2 ^ i, rfl, or_lt hv (by omega), fun j hj => ?_⟩
      rw [tb_o, hI j hj, Bool.or_assoc]
      congr 1
      rw [Bool.eq_iff_iff]
      simp only [Bool.or_eq_true, decide_eq_true_eq]
      constructor
      · rintro (⟨z1, z2⟩ | z)
        · exact ⟨by omega, z2⟩
        · subst z; exact ⟨by omega, c⟩
      · rintro ⟨z1, z2⟩
        by_cases e : i = j
        · exact Or.inr e
        · exact Or.inl ⟨by omega, z2⟩
    · rw [if_neg (by omega)]
      refine ⟨v, rfl, hv, fun j hj => ?_⟩
      rw [hI j hj]
      congr 1
      rw [Bool.eq_iff_iff]
      simp only [decide_eq_true_eq]
      constructor
      · rintro ⟨z1, z2⟩
        exact ⟨by omega, z2⟩
      · rintro ⟨z1, z2⟩
        by_cases e : i = j
        · subst e; exact absurd z2 c
        · exact ⟨by omega, z2⟩
theorem LH_9 {c d : Int} {v : Nat} (hv : v < 256) {b : Int} (hL : LH P rule n S T b c d) {c' d' : Int} (hd : d ≤ d') (hw : ∀ i, i < 8 → v.testBit i = (decide (i < P 0 1) && wtR P (S 3) (S 5) c' i)) : LH P rule n S (su T 0 9 v) b c' d' := by
  obtain ⟨lA, lG, lR, lT, lU, lW, lB, lC, l16, l18, l11, l1⟩ := hL
  unfold LH
  simp (disch := omega) only [su_row, su_self, ru_s, ru_n]
  refine ⟨lA, lG, lR, lT, lU, ⟨v, hv, rfl, hw⟩, fun i hi => ?_, lC, l16, l18, l11, l1⟩
  obtain ⟨k1, k2, k3, k4, k5⟩ := lB i hi
  exact ⟨k1, k2, k3, k4, fun z => k5 (by omega)⟩
theorem c_come (hB : PB P) (hP : PC σ st P) (h42 : 42 ≤ h) (hst36 : st ≤ 36) (b1 : b < 360) (hL : LH P rule n S T b (b - 1) b) : ∃ T1, f1_runUsers (ovh σ h T) h (io b) = f1_runUsers_b15 h (ovh σ h T1) (io b) ∧ LH P rule n S T1 b b (b + 1) := by
  have hL' := hL
  obtain ⟨lA, lG, lR, lT, lU, ⟨v0, hv0, h9, hw⟩, lB, lC, l16, l18, l11, l1⟩ := hL'
  unfold f1_runUsers
  rw [n6, dv6 b1]
  simp (disch := omega) only [n0, n1, n2, n3, n4, n5, n6, n7, n8, n9, n10, n11, n12, n13, n14, n15, n16, n17, n18, n19, n20, n21, n22, n23, n24, n25, n26, n27, n28, n29, n30, n31, n32, n33, n34, n35, n36, n37, n38, n39, n40, n41, n42, n43, n44, n45, n46, n47, n48, n49, n50, n51, n52, n53, n54, n55, n56, n57, n58, n59, n60, n61, n62, n63, n64, n65, n66, n97, n99, n100, n103, n107, n111, n116, n117, n119, n126, n200, n359, n360, n999, n1000, n9999, n65521, n99999, n1000000, io_neg, io_add, io_sub, io_mul, io_lt, io_le, io_eq, io_nat, Int.toNat_natCast, toNat_c1, ifg, obs, obm, oob, bi0, bi1, bi01]
  by_cases c : (b : Int) - ((b / 6 : Nat) : Int) * 6 = 0
  · rw [if_pos c]
    obtain ⟨v, hv, e, hm⟩ := c_meet (T := T) hB hP h42 hst36 (m := b / 6) (by omega) hv0
    rw [su_eta T h9] at e
    rw [e, obs]
    refine ⟨su T 0 9 v, rfl, LH_9 hv hL (by omega) (fun j hj => ?_)⟩
    have k := (lB j hj).2.2.2.2
    rw [hm j hj, hw j hj]
    unfold wtR
    rw [Bool.eq_iff_iff]
    simp only [Bool.or_eq_true, Bool.and_eq_true, decide_eq_true_eq]
    constructor
    · rintro (z | z)
      · exact ⟨z.1, by omega⟩
      · have := k (by omega)
        exact ⟨z.1, by omega⟩
    · rintro ⟨z1, z2, z3⟩
      by_cases y : 6 * (P 3 j : Int) ≤ b - 1
      · exact Or.inl ⟨z1, y, z3⟩
      · exact Or.inr ⟨z1, by omega⟩
  · rw [if_neg c]
    refine ⟨T, rfl, ?_⟩
    have := LH_9 (v := v0) (c' := b) (d' := b + 1) hv0 hL (by omega) (fun j hj => ?_)
    · rwa [su_eta T h9] at this
    · rw [hw j hj]
      unfold wtR
      rw [Bool.eq_iff_iff]
      simp only [Bool.and_eq_true, decide_eq_true_eq]
      constructor
      · rintro ⟨z1, z2⟩; exact ⟨z1, by omega⟩
      · rintro ⟨z1, z2⟩; exact ⟨z1, by omega⟩
theorem c_waitCost {s : Nat} (hs : s ≤ 3) (h16 : σ 16 s = io (P 8 s)) : f0_waitCost σ 3 (io s) = some (io (P 8 s)) := by
  unfold f0_waitCost
  rw [n0, n3, p_between (by omega) (by omega) (by omega) (by omega) (by omega) (by omega), obs, decide_eq_true (by omega)]
  simp (disch := omega) only [n0, n1, n2, n3, n4, n5, n6, n7, n8, n9, n10, n11, n12, n13, n14, n15, n16, n17, n18, n19, n20, n21, n22, n23, n24, n25, n26, n27, n28, n29, n30, n31, n32, n33, n34, n35, n36, n37, n38, n39, n40, n41, n42, n43, n44, n45, n46, n47, n48, n49, n50, n51, n52, n53, n54, n55, n56, n57, n58, n59, n60, n61, n62, n63, n64, n65, n66, n97, n99, n100, n103, n107, n111, n116, n117, n119, n126, n200, n359, n360, n999, n1000, n9999, n65521, n99999, n1000000, io_neg, io_add, io_sub, io_mul, io_lt, io_le, io_eq, io_nat, Int.toNat_natCast, toNat_c1, ifg, obs, obm, oob, bi0, bi1, bi01]
  rw [if_neg (by decide)]
  show some (σ 16 s) = _
  rw [h16]
theorem c_pay (hB : PB P) (hP : PC σ st P) (h42 : 42 ≤ h) (hst36 : st ≤ 36) {i : Nat} (hi : i < P 0 1) {v : Nat} (hv : v < 256) (h9 : T 0 9 = v) {w : Int} (w0 : 0 ≤ w) (w1 : w < 100000) : f1_payForWait (ovh σ h T) h (io i) (io w) = some (ovh σ h (if w < P 0 5 then su T 0 12 (T 0 12 + P 8 (P 4 i)) else su (su (su T 0 12 (T 0 12 + P 8 (P 4 i))) 0 9 (clr v i)) 0 12 (T 0 12 + P 8 (P 4 i) + P 0 6))) := by
  have h8 := hB.2.2.1
  have hr := hB.2.2.2.2.2.2.2.2.2.2 i
  have hpt := hB.2.2.2.2.2.2.2.2.1
  have h37 : ∀ T, ovh σ h T 3 7 = io (P 0 5) := fun T => (PC_ovh (T := T) h42 hst36 hP).1.2.2.2.2.2.1
  have h38 : ∀ T, ovh σ h T 3 8 = io (P 0 6) := fun T => (PC_ovh (T := T) h42 hst36 hP).1.2.2.2.2.2.2
  have hP := PC_ovh (T := T) h42 hst36 hP
  unfold f1_payForWait f0_patience f0_roundCost
  rw [p_second hP.1.2.1 h8 hi, obs, (hP.2.2.1 i hi).2, c_waitCost (by omega) (hP.2.2.2.2.2 (P 4 i) (by omega)), obs]
  simp (disch := omega) only [n0, n1, n2, n3, n4, n5, n6, n7, n8, n9, n10, n11, n12, n13, n14, n15, n16, n17, n18, n19, n20, n21, n22, n23, n24, n25, n26, n27, n28, n29, n30, n31, n32, n33, n34, n35, n36, n37, n38, n39, n40, n41, n42, n43, n44, n45, n46, n47, n48, n49, n50, n51, n52, n53, n54, n55, n56, n57, n58, n59, n60, n61, n62, n63, n64, n65, n66, n97, n99, n100, n103, n107, n111, n116, n117, n119, n126, n200, n359, n360, n999, n1000, n9999, n65521, n99999, n1000000, io_neg, io_add, io_sub, io_mul, io_lt, io_le, io_eq, io_nat, Int.toNat_natCast, toNat_c1, ifg, obs, obm, oob, bi0, bi1, bi01, rh0, rh1, rh2, rh3, rh4, rh5, rh6, rh7, wh0, wh1, wh2, wh3, wh4, wh5, wh6, wh7, h37, h38, su_row, su_self, ru_s, ru_n, h9, bw_c]
  by_cases c : w < P 0 5
  · rw [if_pos c, if_pos c]
  · rw [if_neg c, if_neg c]
theorem costR_45 {s2 s4 s5 : Nat → Int} {i : Nat} {r : Int} (hi : i < P 0 1) (h5 : s5 i = 0) : costR P s2 (ru s4 i (s4 i + 1)) (ru s5 i r) = costR P s2 s4 s5 + P 8 (P 4 i) + (if r = 0 then 0 else (P 0 6 : Int)) := by
  unfold costR
  rw [sumN_upd (n := P 0 1) (k := i) (f := fun i => (P 8 (P 4 i) : Int) * s4 i + (if s5 i = 0 then 0 else (P 0 6 : Int))) (g := fun j => (P 8 (P 4 j) : Int) * ru s4 i (s4 i + 1) j + (if ru s5 i r j = 0 then 0 else (P 0 6 : Int))) hi (fun j _ hj => by show _ = (P 8 (P 4 j) : Int) * ru s4 i (s4 i + 1) j + (if ru s5 i r j = 0 then 0 else (P 0 6 : Int)); rw [ru_n _ _ hj, ru_n _ _ hj])]
  show _ + (_ + ((P 8 (P 4 i) : Int) * ru s4 i (s4 i + 1) i + (if ru s5 i r i = 0 then 0 else (P 0 6 : Int)) - ((P 8 (P 4 i) : Int) * s4 i + (if s5 i = 0 then 0 else (P 0 6 : Int))))) = _
  rw [ru_s, ru_s, Int.mul_add, if_pos h5]
  omega
theorem LH_wait (hL : LH P rule n S T b b (b + 1)) {i : Nat} (hi : i < 8) (hq : i < P 0 1) (h3 : 6 * (P 3 i : Int) ≤ b) (h5 : S 5 i = 0) {r : Int} (hr : r = if S 4 i + 1 = P 0 5 then 1 else 0) {v w : Nat} (hv : v < 256) (h9 : T 0 9 = v) (hwv : w = if r = 0 then v else clr v i) {T' : SS} (k1 : T' 1 = T 1) (k2 : T' 2 = T 2) (k3 : T' 3 = T 3) (k4 : T' 4 = T 4) (k5 : T' 5 = T 5) (k6 : T' 6 = T 6) (k7 : T' 7 = ru (T 7) i (T 7 i + 1)) (k9 : T' 0 9 = w) (k11 : T' 0 11 = T 0 11) (k12 : T' 0 12 = T 0 12 + P 8 (P 4 i) + (if r = 0 then 0 else (P 0 6 : Int))) (k13 : T' 0 13 = T 0 13) (k14 : T' 0 14 = T 0 14) (k15 : T' 0 15 = T 0 15) (k16 : T' 0 16 = T 0 16) (k17 : T' 0 17 = T 0 17) (k18 : T' 0 18 = T 0 18) : LH P rule n (su (su S 4 i (S 4 i + 1)) 5 i r) T' b b (b + 1) := by
  obtain ⟨lA, lG, lR, lT, lU, ⟨v', hv', h9', hw⟩, lB, lC, l16, l18, l11, l1⟩ := hL
  have : v' = v := by omega
  subst this
  unfold LH
  rw [k1, k2, k3, k4, k5, k6, k7, k9, k11, k12, k13, k14, k15, k16, k17, k18]
  simp (disch := omega) only [su_row, su_self, ru_s, ru_n]
  have hB := lB i hi
  refine ⟨lA, lG, lR, lT, fun j hj => ?_, ⟨w, ?_, rfl, fun j hj => ?_⟩, fun j hj => ?_, ?_, l16, l18, l11, l1⟩
  · by_cases e : j = i
    · subst e
      rw [ru_s, ru_s, (lU j hj).2]
      exact ⟨(lU j hj).1, rfl⟩
    · rw [ru_n _ _ e, ru_n _ _ e]
      exact lU j hj
  · rw [hwv]
    split
    · exact hv'
    · exact clr_lt hv'
  · rw [hwv]
    by_cases c : S 4 i + 1 = P 0 5
    · rw [if_pos c] at hr
      rw [if_neg (by omega), tb_c hv' hi hj, hw j hj]
      unfold wtR
      by_cases e : j = i
      · subst e
        rw [ru_s, hr]
        simp
      · rw [ru_n _ _ e, decide_eq_true e, Bool.and_true]
    · rw [if_neg c] at hr
      rw [if_pos hr, hw j hj]
      unfold wtR
      by_cases e : j = i
      · subst e
        rw [ru_s, hr, h5]
      · rw [ru_n _ _ e]
  · obtain ⟨m1, m2, m3, m4, m5⟩ := lB j hj
    by_cases e : j = i
    · subst e
      rw [ru_s, ru_s]
      have := m3 h5
      refine ⟨by omega, by omega, fun z => ?_, ?_, fun z => by omega⟩
      · by_cases c : S 4 j + 1 = P 0 5
        · rw [if_pos c] at hr; omega
        · omega
      · rw [hr]; split <;> omega
    · rw [ru_n _ _ e, ru_n _ _ e]
      exact ⟨m1, m2, m3, m4, m5⟩
  · rw [costR_45 hq h5, lC]
theorem c_wait50 (hB : PB P) (hP : PC σ st P) (h42 : 42 ≤ h) (hst36 : st ≤ 36) (hL : LH P rule n S T b b (b + 1)) : ∃ T', f1_runUsers_b50 h 1000 (ovh σ h T) (io 0) = some (ovh σ h T') ∧ LH P rule n (foldN (P 0 1) (cwt P b) S) T' b b (b + 1) := by
  have h8 := hB.2.2.1
  have hpt := hB.2.2.2.2.2.2.2.2.1
  rw [← foldN_ext h8]
  have key := lock_loop (fun m T i => f1_runUsers_b50 h m (ovh σ h T) i) (fun T => some (ovh σ h T)) 8 (fun i a => if i < P 0 1 then cwt P b i a else a) (fun _ S T => LH P rule n S T b b (b + 1)) (a0 := S) (t0 := T) hL (fun m S T _ => ?_) (fun m i S T hi hL => ?_) 1000 (by omega)
  · exact key
  · show f1_runUsers_b50 h (m + 1) _ _ = _
    rw [f1_runUsers_b50, if_pos (by decide)]
  · show ∃ T', f1_runUsers_b50 h (m + 1) _ _ = f1_runUsers_b50 h m _ _ ∧ _
    have hL' := hL
    obtain ⟨lA, lG, lR, lT, lU, ⟨v, hv, h9, hw⟩, lB, lC, l16, l18, l11, l1⟩ := hL'
    have hwi := hw i hi
    have hbi := lB i hi
    rw [f1_runUsers_b50, c_waiting hv h9 hi]
    simp (disch := omega) only [n0, n1, n2, n3, n4, n5, n6, n7, n8, n9, n10, n11, n12, n13, n14, n15, n16, n17, n18, n19, n20, n21, n22, n23, n24, n25, n26, n27, n28, n29, n30, n31, n32, n33, n34, n35, n36, n37, n38, n39, n40, n41, n42, n43, n44, n45, n46, n47, n48, n49, n50, n51, n52, n53, n54, n55, n56, n57, n58, n59, n60, n61, n62, n63, n64, n65, n66, n97, n99, n100, n103, n107, n111, n116, n117, n119, n126, n200, n359, n360, n999, n1000, n9999, n65521, n99999, n1000000, io_neg, io_add, io_sub, io_mul, io_lt, io_le, io_eq, io_nat, Int.toNat_natCast, toNat_c1, ifg, obs, obm, oob, bi0, bi1, bi01, rh0, rh1, rh2, rh3, rh4, rh5, rh6, rh7, wh0, wh1, wh2, wh3, wh4, wh5, wh6, wh7, su_row, su_self, ru_s, ru_n]
    rw [if_neg (by omega)]
    cases hb : v.testBit i with
    | false =>
      rw [if_pos rfl]
      refine ⟨T, rfl, ?_⟩
      split
      · rename_i hq
        rw [hb, decide_eq_true hq, Bool.true_and] at hwi
        unfold cwt
        rw [wt_R, ← hwi, if_neg (by simp)]
        exact hL
      · exact hL
    | true =>
      rw [hb] at hwi
      have hwi := hwi.symm
      rw [Bool.and_eq_true, decide_eq_true_eq] at hwi
      obtain ⟨hq, hwt⟩ := hwi
      have hwt2 := of_decide_eq_true hwt
      have h7 := (lU i hi).2
      have hlt := hbi.2.2.1 hwt2.2.2
      rw [if_neg (by decide), c_pay hB hP h42 hst36 hq hv (by simp (disch := omega) only [su_row, su_self, ru_s, ru_n]; exact h9) (by omega) (by omega), obs]
      refine ⟨_, rfl, ?_⟩
      rw [if_pos hq]
      unfold cwt
      rw [wt_R, hwt, if_pos rfl]
      by_cases c : S 4 i + 1 = P 0 5
      · rw [if_pos c, if_neg (by omega)]
        refine LH_wait (r := 1) (v := v) (w := clr v i) hL hi hq hwt2.1 hwt2.2.2 (by rw [if_pos c]) hv h9 (by simp) ?_ ?_ ?_ ?_ ?_ ?_ ?_ ?_ ?_ ?_ ?_ ?_ ?_ ?_ ?_ ?_
        all_goals simp (disch := omega) only [su_row, su_self, ru_s, ru_n]
        simp
      · rw [if_neg c, if_pos (by omega)]
        refine LH_wait (r := 0) (v := v) (w := v) hL hi hq hwt2.1 hwt2.2.2 (by rw [if_neg c]) hv h9 (by simp) ?_ ?_ ?_ ?_ ?_ ?_ ?_ ?_ ?_ ?_ ?_ ?_ ?_ ?_ ?_ ?_
        all_goals simp (disch := omega) only [su_row, su_self, ru_s, ru_n]
        · exact h9
        · simp
theorem c_cross (hB : PB P) (hP : PC σ st P) (h42 : 42 ≤ h) (hst36 : st ≤ 36) (b1 : b < 360) (hL : LH P rule n S T b b (b + 1)) {f : Int} (hf : f = -4 ∨ (0 ≤ f ∧ f.toNat < P 0 1 ∧ wtB P S b f.toNat = true)) : ∃ T', f1_letCross (ovh σ h T) h (io f) (io b) = some (ovh σ h T') ∧ LH P rule n (cgo P b S f) T' b b (b + 1) := by
  have h8 := hB.2.2.1
  have hL' := hL
  obtain ⟨lA, lG, lR, lT, lU, ⟨v, hv, h9, hw⟩, lB, lC, l16, l18, l11, l1⟩ := hL'
  unfold f1_letCross cgo
  rcases hf with rfl | ⟨f0, f1, f2⟩
  · rw [if_pos (by decide), if_pos (by decide)]
    exact ⟨T, rfl, hL⟩
  · obtain ⟨k, rfl⟩ : ∃ k : Nat, f = (k : Int) := ⟨f.toNat, by omega⟩
    rw [Int.toNat_natCast] at f1 f2
    have hr := hB.2.2.2.2.2.2.2.2.2.2 k
    have hwt := of_decide_eq_true f2
    have h2 : ∀ T, f2_second (ovh σ h T) 7 (io k) = some (io (P 4 k : Nat)) := fun T => by
      have hP := PC_ovh (T := T) h42 hst36 hP
      rw [p_second hP.1.2.1 h8 f1, (hP.2.2.1 k f1).2]
    have hd : f1_beatsOnRoad (io (P 4 k : Nat)) = some (io (durB (P 4 k))) := by
      unfold f1_beatsOnRoad durB
      simp (disch := omega) only [n0, n1, n2, n3, n4, n5, n6, n7, n8, n9, n10, n11, n12, n13, n14, n15, n16, n17, n18, n19, n20, n21, n22, n23, n24, n25, n26, n27, n28, n29, n30, n31, n32, n33, n34, n35, n36, n37, n38, n39, n40, n41, n42, n43, n44, n45, n46, n47, n48, n49, n50, n51, n52, n53, n54, n55, n56, n57, n58, n59, n60, n61, n62, n63, n64, n65, n66, n97, n99, n100, n103, n107, n111, n116, n117, n119, n126, n200, n359, n360, n999, n1000, n9999, n65521, n99999, n1000000, io_neg, io_add, io_sub, io_mul, io_lt, io_le, io_eq, io_nat, Int.toNat_natCast, toNat_c1, ifg, obs, obm, oob, bi0, bi1, bi01]
      by_cases c0 : P 4 k = 0
      · rw [if_pos (by omega), if_pos c0]
      · rw [if_neg (by omega), if_neg c0]
        by_cases c1 : P 4 k = 1
        · rw [if_pos (by omega), if_pos c1]
        · rw [if_neg (by omega), if_neg c1]
    simp (disch := omega) only [n0, n1, n2, n3, n4, n5, n6, n7, n8, n9, n10, n11, n12, n13, n14, n15, n16, n17, n18, n19, n20, n21, n22, n23, n24, n25, n26, n27, n28, n29, n30, n31, n32, n33, n34, n35, n36, n37, n38, n39, n40, n41, n42, n43, n44, n45, n46, n47, n48, n49, n50, n51, n52, n53, n54, n55, n56, n57, n58, n59, n60, n61, n62, n63, n64, n65, n66, n97, n99, n100, n103, n107, n111, n116, n117, n119, n126, n200, n359, n360, n999, n1000, n9999, n65521, n99999, n1000000, io_neg, io_add, io_sub, io_mul, io_lt, io_le, io_eq, io_nat, Int.toNat_natCast, toNat_c1, ifg, obs, obm, oob, bi0, bi1, bi01, rh0, rh1, rh2, rh3, rh4, rh5, rh6, rh7, wh0, wh1, wh2, wh3, wh4, wh5, wh6, wh7, su_row, su_self, ru_s, ru_n, h9, bw_c, h2, hd]
    rw [if_neg (by omega), if_pos (by omega), if_neg (by omega)]
    refine ⟨_, rfl, ?_⟩
    unfold LH
    simp (disch := omega) only [su_row, su_self, ru_s, ru_n]
    refine ⟨lA, lG, lR, lT, fun j hj => ?_, ⟨clr v k, clr_lt hv, rfl, fun j hj => ?_⟩, fun j hj => ?_, lC, trivial, l18, l11, l1⟩
    · by_cases e : j = k
      · subst e
        rw [ru_s, ru_s]
        exact ⟨rfl, (lU j hj).2⟩
      · rw [ru_n _ _ e, ru_n _ _ e]
        exact lU j hj
    · rw [tb_c hv (by omega) hj, hw j hj]
      unfold wtR
      by_cases e : j = k
      · subst e
        rw [ru_s, decide_eq_false (show ¬ j ≠ j from fun z => z rfl), decide_eq_false (show ¬ (6 * (P 3 j : Int) ≤ b ∧ (b : Int) < 0 ∧ S 5 j = 0) by omega), Bool.and_false, Bool.and_false]
      · rw [ru_n _ _ e, decide_eq_true e, Bool.and_true]
    · obtain ⟨m1, m2, m3, m4, m5⟩ := lB j hj
      by_cases e : j = k
      · subst e
        exact ⟨m1, m2, m3, m4, fun z => by omega⟩
      · rw [ru_n _ _ e]
        exact ⟨m1, m2, m3, m4, m5⟩
theorem no_wait (hw : ∀ i, i < P 0 1 → wtB P S b i = false) : cusers P b S = S := by
  have h1 : cnext P S b = -4 := by
    have : ∀ m, m ≤ P 0 1 → foldN m (cnx P S b) (-4) = -4 := by
      intro m
      induction m with
      | zero => intro _; rfl
      | succ m ih =>
        intro hm
        show cnx P S b m _ = _
        rw [ih (by omega)]
        unfold cnx
        rw [hw m (by omega), if_neg (by simp)]
    exact this _ (Nat.le_refl _)
  have h2 : ∀ m, m ≤ P 0 1 → foldN m (cwt P b) S = S := by
    intro m
    induction m with
    | zero => intro _; rfl
    | succ m ih =>
      intro hm
      show cwt P b m _ = _
      rw [ih (by omega)]
      unfold cwt
      rw [hw m (by omega), if_neg (by simp)]
  unfold cusers
  rw [h1, show cgo P b S (if S 0 4 ≤ (b : Int) ∧ passing P S b = false then -4 else -4) = S by rw [ite_self]; exact if_pos (by decide)]
  exact h2 _ (Nat.le_refl _)
theorem c_users (hB : PB P) (hP : PC σ st P) (h42 : 42 ≤ h) (hst36 : st ≤ 36) (b1 : b < 360) (hS : G0 S) (hL : LH P rule n S T b (b - 1) b) : ∃ T', f1_runUsers (ovh σ h T) h (io b) = some (ovh σ h T') ∧ LH P rule n (cusers P b S) T' b b (b + 1) := by
  have h8 := hB.2.2.1
  obtain ⟨T1, e1, hL1⟩ := c_come hB hP h42 hst36 b1 hL
  rw [e1]
  clear e1 hL
  have hL' := hL1
  obtain ⟨lA, lG, lR, lT, lU, ⟨v, hv, h9, hw⟩, lB, lC, l16, l18, l11, l1⟩ := hL'
  obtain ⟨g0, g4, g5⟩ := hS
  obtain ⟨r0, r1, r2⟩ := lR
  have r2 := r2 b (Int.le_refl _)
  have hf := c_first hB hP h42 hst36 (b := b) g0 lG.1 hv h9 hw
  unfold f1_runUsers_b15
  rw [hf, obs]
  simp (disch := omega) only [n0, n1, n2, n3, n4, n5, n6, n7, n8, n9, n10, n11, n12, n13, n14, n15, n16, n17, n18, n19, n20, n21, n22, n23, n24, n25, n26, n27, n28, n29, n30, n31, n32, n33, n34, n35, n36, n37, n38, n39, n40, n41, n42, n43, n44, n45, n46, n47, n48, n49, n50, n51, n52, n53, n54, n55, n56, n57, n58, n59, n60, n61, n62, n63, n64, n65, n66, n97, n99, n100, n103, n107, n111, n116, n117, n119, n126, n200, n359, n360, n999, n1000, n9999, n65521, n99999, n1000000, io_neg, io_add, io_sub, io_mul, io_lt, io_le, io_eq, io_nat, Int.toNat_natCast, toNat_c1, ifg, obs, obm, oob, bi0, bi1, bi01, rh0, rh1, rh2, rh3, rh4, rh5, rh6, rh7, wh0, wh1, wh2, wh3, wh4, wh5, wh6, wh7, h9, l16]
  by_cases c0 : (v : Int) = 0
  · rw [if_pos c0]
    refine ⟨T1, rfl, ?_⟩
    rw [no_wait]
    · exact hL1
    · intro i hi
      have := hw i (by omega)
      rw [show v = 0 by omega, Nat.zero_testBit, decide_eq_true hi, Bool.true_and] at this
      exact this.symm
  · rw [if_neg c0]
    unfold cusers
    by_cases c1 : (b : Int) < S 0 4
    · rw [if_pos c1, if_neg (by omega)]
      have := c_wait50 hB hP h42 hst36 hL1
      rwa [show cgo P b S (-4) = S from if_pos (by decide)]
    · rw [if_neg c1]
      by_cases c2 : (b : Int) < T1 0 17
      · rw [if_pos c2, if_neg (by rw [pas_R, r2.mpr c2]; simp)]
        have := c_wait50 hB hP h42 hst36 hL1
        rwa [show cgo P b S (-4) = S from if_pos (by decide)]
      · rw [if_neg c2, if_pos ⟨by omega, by rw [pas_R]; simpa using fun z => c2 (r2.mp z)⟩]
        obtain ⟨T2, e2, hL2⟩ := c_cross (f := cnext P S b) hB hP h42 hst36 b1 hL1 (by
          rcases cnx_rng (S := S) (b := b) hB with z | z
          · exact Or.inl z
          · have := cnext_wt z.1
            exact Or.inr ⟨z.1, this.2, this.1⟩)
        rw [e2, obs]
        exact c_wait50 hB hP h42 hst36 hL2
end Users2
