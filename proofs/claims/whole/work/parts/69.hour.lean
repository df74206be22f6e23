/-! AN HOUR OF THE COMPONENT FROM ITS BEGINNING -/
def bellC (κ : Nat) (c : Int) : Int := if κ = 0 then (if 0 < c - 66 then c - 66 else 0) else if κ = 1 then (if 0 < c - 36 then c - 36 else 0) else 1000000
def LAj (P : PS) (rule n : Int) (t2 t3 : Nat → Int) (i : Nat) : Prop := t2 i = (if i < P 0 0 then come P i else 1000000) ∧ (-1000 ≤ t3 i ∧ t3 i ≤ 1000000) ∧ ∀ b, 0 ≤ b → b < 360 → (t3 i ≤ b ↔ i < P 0 0 ∧ (if rule = 4 then come P i - n ≤ b else bellB P i ≤ b))
section HourB
variable {σ : Mem} {P : PS} {S T : SS} {t : Int} {h st : Nat} {rule n : Int}
theorem c_bellBeat {κ : Nat} (hκ : κ ≤ 2) {c : Int} (c0 : 0 ≤ c) (c1 : c ≤ 1000000) : f6_bellBeat (io κ) (io c) = some (io (bellC κ c)) := by
  unfold f6_bellBeat bellC
  simp (disch := omega) only [n0, n1, n2, n3, n4, n5, n6, n7, n8, n9, n10, n11, n12, n13, n14, n15, n16, n17, n18, n19, n20, n21, n22, n23, n24, n25, n26, n27, n28, n29, n30, n31, n32, n33, n34, n35, n36, n37, n38, n39, n40, n41, n42, n43, n44, n45, n46, n47, n48, n49, n50, n51, n52, n53, n54, n55, n56, n57, n58, n59, n60, n61, n62, n63, n64, n65, n66, n97, n99, n100, n103, n107, n111, n116, n117, n119, n126, n200, n359, n360, n999, n1000, n9999, n65521, n99999, n1000000, io_neg, io_add, io_sub, io_mul, io_lt, io_le, io_eq, io_nat, Int.toNat_natCast, toNat_c1, ifg, obs, obm, oob, bi0, bi1, bi01]
  repeat' split
  all_goals first | rfl | omega
theorem c_begin47 (k : Mem → Int32 → Int32 → Option Mem) (h11 : T 0 11 = rule) (r0 : 0 ≤ rule) (r1 : rule ≤ 4) (n0' : 0 ≤ n) (n1' : n < 400) {i κ : Nat} (hi : i < 6) (hκ : κ ≤ 2) (h2 : ∀ T, f2_second (ovh σ h T) 4 (io i) = some (io κ)) {c : Int} (c0 : 0 ≤ c) (c1 : c ≤ 1000000) : f1_beginTrains_b47 h k (ovh σ h T) (io n) (io i) (io i) (io c) = k (ovh σ h (su (su (su (su T 2 i c) 3 i (if rule = 4 then c - n else bellC κ c)) 4 i 1000000) 5 i 0)) (io n) (io ((i : Int) + 1)) := by
  unfold f1_beginTrains_b47 f1_beginTrains_b92
  simp (disch := omega) only [n0, n1, n2, n3, n4, n5, n6, n7, n8, n9, n10, n11, n12, n13, n14, n15, n16, n17, n18, n19, n20, n21, n22, n23, n24, n25, n26, n27, n28, n29, n30, n31, n32, n33, n34, n35, n36, n37, n38, n39, n40, n41, n42, n43, n44, n45, n46, n47, n48, n49, n50, n51, n52, n53, n54, n55, n56, n57, n58, n59, n60, n61, n62, n63, n64, n65, n66, n97, n99, n100, n103, n107, n111, n116, n117, n119, n126, n200, n359, n360, n999, n1000, n9999, n65521, n99999, n1000000, io_neg, io_add, io_sub, io_mul, io_lt, io_le, io_eq, io_nat, Int.toNat_natCast, toNat_c1, ifg, obs, obm, oob, bi0, bi1, bi01, rh0, rh1, rh2, rh3, rh4, rh5, rh6, rh7, wh0, wh1, wh2, wh3, wh4, wh5, wh6, wh7, su_row, su_self, ru_s, ru_n, h2, c_bellBeat, h11]
  by_cases e : rule = 4
  · rw [if_pos e, if_pos e]
  · rw [if_neg e, if_neg e]
theorem c_beginTrains (hB : PB P) (hP : PC σ st P) (h42 : 42 ≤ h) (hst36 : st ≤ 36) (hh : hst h = st) (r0 : 0 ≤ rule) (r1 : rule ≤ 4) (n0' : 0 ≤ n) (n1' : n < 400) (h11 : T 0 11 = rule) : ∃ T', f1_beginTrains (ovh σ h T) h (io n) = some (ovh σ h T') ∧ LA P rule n (T' 2) (T' 3) ∧ T' 0 11 = rule ∧ T' 0 17 = 0 ∧ T' 0 18 = 0 ∧ ∀ j, j < 6 → T' 4 j = 1000000 ∧ T' 5 j = 0 := by
  have h6 := hB.2.1
  unfold f1_beginTrains
  rw [n0]
  have key := lock_loop (fun m T i => f1_beginTrains_b2 h m (ovh σ h T) (io n) i) (fun T => some (ovh σ h (su (su T 0 17 0) 0 18 0))) 6 (fun _ (a : Unit) => a) (fun i _ T => T 0 11 = rule ∧ ∀ j, j < i → LAj P rule n (T 2) (T 3) j ∧ T 4 j = 1000000 ∧ T 5 j = 0) (a0 := ()) (t0 := T) ⟨h11, fun j hj => by omega⟩ (fun m a T _ => ?_) (fun m i a T hi hI => ?_) 1000 (by omega)
  · obtain ⟨T', e, k1, k2⟩ := key
    refine ⟨_, e, ?_, ?_, ?_, ?_, ?_⟩
    · simp (disch := omega) only [su_row, su_self, ru_s, ru_n]
      exact fun i hi => (k2 i hi).1
    · simp (disch := omega) only [su_row, su_self, ru_s, ru_n]; exact k1
    · simp (disch := omega) only [su_row, su_self, ru_s, ru_n]
    · simp (disch := omega) only [su_row, su_self, ru_s, ru_n]
    · simp (disch := omega) only [su_row, su_self, ru_s, ru_n]
      exact fun i hi => (k2 i hi).2
  · show f1_beginTrains_b2 h (m + 1) _ _ _ = _
    rw [f1_beginTrains_b2, if_pos (by decide)]
    simp (disch := omega) only [n0, n1, n2, n3, n4, n5, n6, n7, n8, n9, n10, n11, n12, n13, n14, n15, n16, n17, n18, n19, n20, n21, n22, n23, n24, n25, n26, n27, n28, n29, n30, n31, n32, n33, n34, n35, n36, n37, n38, n39, n40, n41, n42, n43, n44, n45, n46, n47, n48, n49, n50, n51, n52, n53, n54, n55, n56, n57, n58, n59, n60, n61, n62, n63, n64, n65, n66, n97, n99, n100, n103, n107, n111, n116, n117, n119, n126, n200, n359, n360, n999, n1000, n9999, n65521, n99999, n1000000, io_neg, io_add, io_sub, io_mul, io_lt, io_le, io_eq, io_nat, Int.toNat_natCast, toNat_c1, ifg, obs, obm, oob, bi0, bi1, bi01, rh0, rh1, rh2, rh3, rh4, rh5, rh6, rh7, wh0, wh1, wh2, wh3, wh4, wh5, wh6, wh7]
  · show ∃ T', f1_beginTrains_b2 h (m + 1) _ _ _ = f1_beginTrains_b2 h m _ _ _ ∧ _
    obtain ⟨h11, hI⟩ := hI
    have hP0 := PC_ovh (T := T) h42 hst36 hP
    have hr := hB.2.2.2.2.2.2.2.2.2.2 i
    have hc := come_lt hB i
    rw [f1_beginTrains_b2, if_neg (by simp (disch := omega) only [n0, n1, n2, n3, n4, n5, n6, n7, n8, n9, n10, n11, n12, n13, n14, n15, n16, n17, n18, n19, n20, n21, n22, n23, n24, n25, n26, n27, n28, n29, n30, n31, n32, n33, n34, n35, n36, n37, n38, n39, n40, n41, n42, n43, n44, n45, n46, n47, n48, n49, n50, n51, n52, n53, n54, n55, n56, n57, n58, n59, n60, n61, n62, n63, n64, n65, n66, n97, n99, n100, n103, n107, n111, n116, n117, n119, n126, n200, n359, n360, n999, n1000, n9999, n65521, n99999, n1000000, io_neg, io_add, io_sub, io_mul, io_lt, io_le, io_eq, io_nat, Int.toNat_natCast, toNat_c1, ifg, obs, obm, oob, bi0, bi1, bi01]; omega), f2_size, obs, hP0.1.1, hh]
    have step : ∀ {c w : Int}, LAj P rule n (ru (T 2) i c) (ru (T 3) i w) i → (su (su (su (su T 2 i c) 3 i w) 4 i 1000000) 5 i 0) 0 11 = rule ∧ ∀ j, j < i + 1 → LAj P rule n ((su (su (su (su T 2 i c) 3 i w) 4 i 1000000) 5 i 0) 2) ((su (su (su (su T 2 i c) 3 i w) 4 i 1000000) 5 i 0) 3) j ∧ (su (su (su (su T 2 i c) 3 i w) 4 i 1000000) 5 i 0) 4 j = 1000000 ∧ (su (su (su (su T 2 i c) 3 i w) 4 i 1000000) 5 i 0) 5 j = 0 := by
      intro c w hl
      simp (disch := omega) only [su_row, su_self, ru_s, ru_n]
      refine ⟨h11, fun j hj => ?_⟩
      by_cases e : j = i
      · subst e
        rw [ru_s, ru_s]
        exact ⟨hl, rfl, rfl⟩
      · rw [ru_n _ _ e, ru_n _ _ e]
        have := hI j (by omega)
        refine ⟨?_, this.2⟩
        unfold LAj
        rw [ru_n _ _ e, ru_n _ _ e]
        exact this.1
    by_cases c : i < P 0 0
    · rw [if_neg (by simp (disch := omega) only [n0, n1, n2, n3, n4, n5, n6, n7, n8, n9, n10, n11, n12, n13, n14, n15, n16, n17, n18, n19, n20, n21, n22, n23, n24, n25, n26, n27, n28, n29, n30, n31, n32, n33, n34, n35, n36, n37, n38, n39, n40, n41, n42, n43, n44, n45, n46, n47, n48, n49, n50, n51, n52, n53, n54, n55, n56, n57, n58, n59, n60, n61, n62, n63, n64, n65, n66, n97, n99, n100, n103, n107, n111, n116, n117, n119, n126, n200, n359, n360, n999, n1000, n9999, n65521, n99999, n1000000, io_neg, io_add, io_sub, io_mul, io_lt, io_le, io_eq, io_nat, Int.toNat_natCast, toNat_c1, ifg, obs, obm, oob, bi0, bi1, bi01]; omega), p_comingOf hB hP0 c, obs, c_begin47 (κ := P 2 i) _ h11 r0 r1 n0' n1' hi (by omega) (fun T => by have hP := PC_ovh (T := T) h42 hst36 hP; rw [p_second hP.1.1 (by omega) c, (hP.2.1 i c).2]) (by omega) (by omega)]
      refine ⟨_, rfl, step ⟨?_, ?_, fun b b0 b1 => ?_⟩⟩
      · rw [ru_s, if_pos c]
      · rw [ru_s]
        unfold bellC
        repeat' split
        all_goals omega
      · rw [ru_s]
        by_cases e : rule = 4
        · rw [if_pos e, if_pos e]
          exact ⟨fun z => ⟨c, z⟩, fun z => z.2⟩
        · rw [if_neg e, if_neg e]
          unfold bellC bellB
          constructor
          · intro z
            refine ⟨c, ?_⟩
            revert z
            repeat' split
            all_goals omega
          · rintro ⟨-, z⟩
            revert z
            repeat' split
            all_goals omega
    · rw [if_pos (by simp (disch := omega) only [n0, n1, n2, n3, n4, n5, n6, n7, n8, n9, n10, n11, n12, n13, n14, n15, n16, n17, n18, n19, n20, n21, n22, n23, n24, n25, n26, n27, n28, n29, n30, n31, n32, n33, n34, n35, n36, n37, n38, n39, n40, n41, n42, n43, n44, n45, n46, n47, n48, n49, n50, n51, n52, n53, n54, n55, n56, n57, n58, n59, n60, n61, n62, n63, n64, n65, n66, n97, n99, n100, n103, n107, n111, n116, n117, n119, n126, n200, n359, n360, n999, n1000, n9999, n65521, n99999, n1000000, io_neg, io_add, io_sub, io_mul, io_lt, io_le, io_eq, io_nat, Int.toNat_natCast, toNat_c1, ifg, obs, obm, oob, bi0, bi1, bi01]; omega), n1000000, c_begin47 (κ := 0) _ h11 r0 r1 n0' n1' hi (by omega) (fun T => by have hP := PC_ovh (T := T) h42 hst36 hP; exact p_second_o hP.1.1 (by omega) (by omega) (by omega) (by omega)) (by omega) (by omega)]
      refine ⟨_, rfl, step ⟨?_, ?_, fun b b0 b1 => ?_⟩⟩
      · rw [ru_s, if_neg c]
      · rw [ru_s]
        unfold bellC
        repeat' split
        all_goals omega
      · rw [ru_s]
        constructor
        · intro z
          exfalso
          revert z
          unfold bellC
          repeat' split
          all_goals omega
        · rintro ⟨z, -⟩
          exact absurd z c
theorem c_beginUsers : ∃ T', f1_beginUsers (ovh σ h T) h = some (ovh σ h T') ∧ (∀ j, j < 8 → T' 6 j = -4 ∧ T' 7 j = 0) ∧ T' 0 9 = 0 ∧ T' 0 16 = 0 ∧ T' 0 12 = 0 ∧ (∀ j, 1 ≤ j → j ≤ 5 → T' j = T j) ∧ (∀ k, k ≠ 9 → k ≠ 16 → k ≠ 12 → T' 0 k = T 0 k) := by
  unfold f1_beginUsers
  rw [n0]
  have key := lock_loop (fun m T i => f1_beginUsers_b2 h m (ovh σ h T) i) (fun T => some (ovh σ h (su (su (su T 0 9 0) 0 16 0) 0 12 0))) 8 (fun _ (a : Unit) => a) (fun i _ T' => (∀ j, j < i → T' 6 j = -4 ∧ T' 7 j = 0) ∧ (∀ j, j ≤ 5 → T' j = T j)) (a0 := ()) (t0 := T) ⟨fun j hj => by omega, fun _ _ => rfl⟩ (fun m a T' _ => ?_) (fun m i a T' hi hI => ?_) 1000 (by omega)
  · obtain ⟨T', e, k1, k2⟩ := key
    refine ⟨_, e, ?_, ?_, ?_, ?_, fun j h1 h5 => ?_, fun k z1 z2 z3 => ?_⟩
    · simp (disch := omega) only [su_row, su_self, ru_s, ru_n]; exact k1
    · simp (disch := omega) only [su_row, su_self, ru_s, ru_n]
    · simp (disch := omega) only [su_row, su_self, ru_s, ru_n]
    · simp (disch := omega) only [su_row, su_self, ru_s, ru_n]
    · simp (disch := omega) only [su_row, su_self, ru_s, ru_n]; exact k2 j h5
    · simp (disch := omega) only [su_row, su_self, ru_s, ru_n]; rw [k2 0 (by omega)]
  · show f1_beginUsers_b2 h (m + 1) _ _ = _
    rw [f1_beginUsers_b2, if_pos (by decide)]
    simp (disch := omega) only [n0, n1, n2, n3, n4, n5, n6, n7, n8, n9, n10, n11, n12, n13, n14, n15, n16, n17, n18, n19, n20, n21, n22, n23, n24, n25, n26, n27, n28, n29, n30, n31, n32, n33, n34, n35, n36, n37, n38, n39, n40, n41, n42, n43, n44, n45, n46, n47, n48, n49, n50, n51, n52, n53, n54, n55, n56, n57, n58, n59, n60, n61, n62, n63, n64, n65, n66, n97, n99, n100, n103, n107, n111, n116, n117, n119, n126, n200, n359, n360, n999, n1000, n9999, n65521, n99999, n1000000, io_neg, io_add, io_sub, io_mul, io_lt, io_le, io_eq, io_nat, Int.toNat_natCast, toNat_c1, ifg, obs, obm, oob, bi0, bi1, bi01, rh0, rh1, rh2, rh3, rh4, rh5, rh6, rh7, wh0, wh1, wh2, wh3, wh4, wh5, wh6, wh7]
  · show ∃ T'', f1_beginUsers_b2 h (m + 1) _ _ = f1_beginUsers_b2 h m _ _ ∧ _
    obtain ⟨k1, k2⟩ := hI
    rw [f1_beginUsers_b2, if_neg (by simp (disch := omega) only [n0, n1, n2, n3, n4, n5, n6, n7, n8, n9, n10, n11, n12, n13, n14, n15, n16, n17, n18, n19, n20, n21, n22, n23, n24, n25, n26, n27, n28, n29, n30, n31, n32, n33, n34, n35, n36, n37, n38, n39, n40, n41, n42, n43, n44, n45, n46, n47, n48, n49, n50, n51, n52, n53, n54, n55, n56, n57, n58, n59, n60, n61, n62, n63, n64, n65, n66, n97, n99, n100, n103, n107, n111, n116, n117, n119, n126, n200, n359, n360, n999, n1000, n9999, n65521, n99999, n1000000, io_neg, io_add, io_sub, io_mul, io_lt, io_le, io_eq, io_nat, Int.toNat_natCast, toNat_c1, ifg, obs, obm, oob, bi0, bi1, bi01]; omega)]
    simp (disch := omega) only [n0, n1, n2, n3, n4, n5, n6, n7, n8, n9, n10, n11, n12, n13, n14, n15, n16, n17, n18, n19, n20, n21, n22, n23, n24, n25, n26, n27, n28, n29, n30, n31, n32, n33, n34, n35, n36, n37, n38, n39, n40, n41, n42, n43, n44, n45, n46, n47, n48, n49, n50, n51, n52, n53, n54, n55, n56, n57, n58, n59, n60, n61, n62, n63, n64, n65, n66, n97, n99, n100, n103, n107, n111, n116, n117, n119, n126, n200, n359, n360, n999, n1000, n9999, n65521, n99999, n1000000, io_neg, io_add, io_sub, io_mul, io_lt, io_le, io_eq, io_nat, Int.toNat_natCast, toNat_c1, ifg, obs, obm, oob, bi0, bi1, bi01, rh0, rh1, rh2, rh3, rh4, rh5, rh6, rh7, wh0, wh1, wh2, wh3, wh4, wh5, wh6, wh7]
    refine ⟨_, rfl, fun j hj => ?_, fun j hj => ?_⟩
    · simp (disch := omega) only [su_row, su_self, ru_s, ru_n]
      by_cases e : j = i
      · subst e
        rw [ru_s, ru_s]
        exact ⟨rfl, rfl⟩
      · rw [ru_n _ _ e, ru_n _ _ e]
        exact k1 j (by omega)
    · simp (disch := omega) only [su_row, su_self, ru_s, ru_n]
      exact k2 j hj
theorem c_beginGates : f1_beginGates (ovh σ h T) h = some (ovh σ h (su (su (su T 0 13 0) 0 14 0) 0 15 0)) := by
  unfold f1_beginGates
  simp (disch := omega) only [n0, n1, n2, n3, n4, n5, n6, n7, n8, n9, n10, n11, n12, n13, n14, n15, n16, n17, n18, n19, n20, n21, n22, n23, n24, n25, n26, n27, n28, n29, n30, n31, n32, n33, n34, n35, n36, n37, n38, n39, n40, n41, n42, n43, n44, n45, n46, n47, n48, n49, n50, n51, n52, n53, n54, n55, n56, n57, n58, n59, n60, n61, n62, n63, n64, n65, n66, n97, n99, n100, n103, n107, n111, n116, n117, n119, n126, n200, n359, n360, n999, n1000, n9999, n65521, n99999, n1000000, io_neg, io_add, io_sub, io_mul, io_lt, io_le, io_eq, io_nat, Int.toNat_natCast, toNat_c1, ifg, obs, obm, oob, bi0, bi1, bi01, rh0, rh1, rh2, rh3, rh4, rh5, rh6, rh7, wh0, wh1, wh2, wh3, wh4, wh5, wh6, wh7]
theorem sumN_zero {m : Nat} {f : Nat → Int} (h : ∀ i, i < m → f i = 0) : sumN m f = 0 := by
  rw [sumN_congr h, sumN_const, Int.mul_zero]
theorem LH_begin0 (hB : PB P) (S0 : SS) (lA : LA P rule n (T 2) (T 3)) (t11 : T 0 11 = rule) (t17 : T 0 17 = 0) (t18 : T 0 18 = 0) (t45 : ∀ j, j < 6 → T 4 j = 1000000 ∧ T 5 j = 0) (t67 : ∀ j, j < 8 → T 6 j = -4 ∧ T 7 j = 0) (t9 : T 0 9 = 0) (t16 : T 0 16 = 0) (t12 : T 0 12 = 0) (t13 : T 0 13 = 0) : LH P rule n (cbegin S0) T ((0 : Nat) : Int) (((0 : Nat) : Int) - 1) ((0 : Nat) : Int) := by
  have h8 := hB.2.2.1
  have h6 := hB.2.1
  have hpt := hB.2.2.2.2.2.2.2.1
  have s1 : ∀ i, i < 6 → cbegin S0 1 i = -4 := fun i hi => by rw [cbegin_v]; simp [hi]
  have s2 : ∀ i, i < 6 → cbegin S0 2 i = 0 := fun i hi => by rw [cbegin_v]; simp [hi]
  have s3 : ∀ i, i < 8 → cbegin S0 3 i = -4 := fun i hi => by rw [cbegin_v]; simp [hi]
  have s4 : ∀ i, i < 8 → cbegin S0 4 i = 0 := fun i hi => by rw [cbegin_v]; simp [hi]
  have s5 : ∀ i, i < 8 → cbegin S0 5 i = 0 := fun i hi => by rw [cbegin_v]; simp [hi]
  have s00 : cbegin S0 0 0 = 0 := by rw [cbegin_v]; simp
  have s03 : cbegin S0 0 3 = 0 := by rw [cbegin_v]; simp
  have s04 : cbegin S0 0 4 = 0 := by rw [cbegin_v]; simp
  refine ⟨lA, ⟨by rw [t13, s00], fun z => by omega⟩, ⟨by omega, by omega, fun b' hb' => ?_⟩, fun i hi => ?_, fun i hi => ?_, ⟨0, by decide, t9, fun i hi => ?_⟩, fun i hi => ?_, ?_, by rw [t16, s04], by rw [t18, s03], t11, fun k hk => by omega⟩
  · rw [t17]
    unfold pasR
    rw [anyN_iff]
    constructor
    · rintro ⟨i, hi, z⟩
      have := of_decide_eq_true z
      rw [s1 i (by omega)] at this
      omega
    · intro z; omega
  · rw [(t45 i hi).1, (t45 i hi).2, s1 i hi, s2 i hi]
    exact ⟨rfl, rfl, by omega, by omega⟩
  · rw [(t67 i hi).1, (t67 i hi).2, s3 i hi, s4 i hi]
    exact ⟨rfl, rfl⟩
  · unfold wtR
    rw [Nat.zero_testBit, decide_eq_false (p := 6 * (P 3 i : Int) ≤ _ ∧ _) (by omega), Bool.and_false]
  · rw [s3 i hi, s4 i hi, s5 i hi]
    exact ⟨by omega, by omega, fun _ => by omega, Or.inl rfl, fun _ => ⟨by omega, rfl⟩⟩
  · rw [t12]
    unfold costR
    rw [sumN_zero (fun i hi => by rw [s2 i (by omega), Int.mul_zero]), sumN_zero (fun i hi => by rw [s4 i (by omega), s5 i (by omega), Int.mul_zero, if_pos rfl]; rfl)]
    rfl
/-- the hour at h is the reference's -/
def FinM (σ : Mem) (h : Nat) (P : PS) (S : SS) : Prop := σ h 12 = io (costS P S) ∧ (∀ k : Nat, k < 360 → σ (h + 1) k = io (S 6 k)) ∧ (∀ i, i < 6 → σ (h + 5) i = io (S 2 i) ∧ σ (h + 4) i = io (if S 1 i < 0 then 1000000 else S 1 i) ∧ -4 ≤ S 1 i ∧ S 1 i ≤ 360) ∧ (∀ i, i < 8 → σ (h + 6) i = io (S 3 i) ∧ σ (h + 7) i = io (S 4 i))
def ok2 (S : SS) : Prop := -2147483648 ≤ S 0 2 ∧ S 0 2 < 2147483648
def HourOK (σ : Mem) (h : Nat) (P : PS) (rule n : Int) : Prop := ∀ S0, ok2 S0 → FinM σ h P (chour P rule n S0)
/-- all costs by a rule are one: that of an hour from the empty one -/
theorem c_run (hB : PB P) (hP : PC σ st P) (h42 : 42 ≤ h) (hst36 : st ≤ 36) (hh : hst h = st) (r0 : 0 ≤ rule) (r1 : rule ≤ 4) (n0' : 0 ≤ n) (n1' : n < 400) {e : Int} (e0 : 0 ≤ e) (e1 : e ≤ 1000000) : ∃ σ', f1_run σ h (io rule) (io n) (io e) = some σ' ∧ (∀ j k, (j < h ∨ h + 7 < j) → σ' j k = σ j k) ∧ σ' h 10 = io 1 ∧ (∃ z, σ' h 12 = io z ∧ 0 ≤ z ∧ z ≤ 300000 ∧ ∀ S0, ok2 S0 → (costS P (chour P rule n S0) < e → z = costS P (chour P rule n S0)) ∧ (e ≤ costS P (chour P rule n S0) → e ≤ z)) ∧ ∀ S0, ok2 S0 → costS P (chour P rule n S0) < e → FinM σ' h P (chour P rule n S0) := by
  rw [← ovh_vw σ h]
  generalize vwh σ h = T
  unfold f1_run
  rw [wh0, obm]
  obtain ⟨T1, x1, lA, t11, t17, t18, t45⟩ := c_beginTrains (T := su T 0 11 rule) hB hP h42 hst36 hh r0 r1 n0' n1' (by simp (disch := omega) only [su_row, su_self, ru_s, ru_n])
  obtain ⟨T2, x2, t67, t9, t16, t12, kr, k0⟩ := c_beginUsers (σ := σ) (h := h) (T := T1)
  rw [x1, obs, x2, obs, c_beginGates, obs]
  have hL0 : ∀ S0, LH P rule n (cbegin S0) (su (su (su T2 0 13 0) 0 14 0) 0 15 0) ((0 : Nat) : Int) (((0 : Nat) : Int) - 1) ((0 : Nat) : Int) := by
    intro S0
    refine LH_begin0 hB S0 ?_ ?_ ?_ ?_ ?_ ?_ ?_ ?_ ?_ ?_
    all_goals simp (disch := omega) only [su_row, su_self, ru_s, ru_n]
    · rw [kr 2 (by omega) (by omega), kr 3 (by omega) (by omega)]; exact lA
    · rw [k0 11 (by omega) (by omega) (by omega)]; exact t11
    · rw [k0 17 (by omega) (by omega) (by omega)]; exact t17
    · rw [k0 18 (by omega) (by omega) (by omega)]; exact t18
    · rw [kr 4 (by omega) (by omega), kr 5 (by omega) (by omega)]; exact t45
    · exact t67
    · exact t9
    · exact t16
    · exact t12
  have hrun : ∀ S0, ok2 S0 → _ := fun S0 hs => c_loop (S0 := cbegin S0) (rule := rule) (n := n) (e := e) hB hP h42 hst36 hh r0 r1 n0' n1' e0 e1 360 0 1000 (su (su (su T2 0 13 0) 0 14 0) 0 15 0) rfl (by omega) (by show BS (cbegin S0) _; simpa using BS_begin hs) (fun i hi => by show 0 ≤ cbegin S0 2 i ∧ cbegin S0 2 i ≤ _; rw [cbegin_v]; simp [hi]) (hL0 S0)
  obtain ⟨T', x3, t10, -, -, -, -⟩ := hrun (fun _ _ => 0) ⟨by decide, by decide⟩
  refine ⟨ovh σ h T', x3, fun j k hj => by rw [rho _ _ hj, rho _ _ hj], by rw [rh0, t10], ?_, ?_⟩
  · have hsame : ∀ S0, ok2 S0 → ∃ z, io (T' 0 12) = io z ∧ 0 ≤ z ∧ z ≤ 300000 ∧ (costS P (chour P rule n S0) < e → z = costS P (chour P rule n S0)) ∧ (e ≤ costS P (chour P rule n S0) → e ≤ z) := by
      intro S0 hs
      obtain ⟨T'', y3, -, f1, f2, f3, f4⟩ := hrun S0 hs
      have hq : ovh σ h T' = ovh σ h T'' := Option.some.inj (x3.symm.trans y3)
      refine ⟨T'' 0 12, ?_, f3, f4, fun z => (f1 z).1, f2⟩
      rw [← rh0 (σ := σ) (h := h) (T := T') 12, hq, rh0]
    obtain ⟨z, hz, z0, z1, -⟩ := hsame (fun _ _ => 0) ⟨by decide, by decide⟩
    refine ⟨z, by rw [rh0, hz], z0, z1, fun S0 hs => ?_⟩
    obtain ⟨z', hz', z0', z1', g1, g2⟩ := hsame S0 hs
    have : z = z' := (io_eq (by omega) (by omega) (by omega) (by omega)).mp (hz.symm.trans hz')
    rw [this]
    exact ⟨g1, g2⟩
  · intro S0 hs hc
    obtain ⟨T'', y3, -, f1, f2, f3, f4⟩ := hrun S0 hs
    have hq : ovh σ h T' = ovh σ h T'' := Option.some.inj (x3.symm.trans y3)
    rw [hq]
    obtain ⟨g1, g2, g3, g4⟩ := f1 hc
    refine ⟨by rw [rh0, g1]; rfl, fun k hk => by rw [rh1, g2 k hk]; rfl, fun i hi => ?_, fun i hi => ?_⟩
    · rw [rh5, rh4, (g3 i hi).1, (g3 i hi).2.1]
      exact ⟨rfl, rfl, (g3 i hi).2.2⟩
    · rw [rh6, rh7, (g4 i hi).1, (g4 i hi).2]
      exact ⟨rfl, rfl⟩
end HourB
