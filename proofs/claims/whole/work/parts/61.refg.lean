/-! THE REFERENCE'S goUsers, beginHour, goHour, costNow -/
section RefG
variable {σ : Mem} {P : PS} {S : SS} {t : Int}
theorem BS_cgo (hS : BS S t) {b f : Int} (b0 : 0 ≤ b) (b1 : b < 360) : BS (cgo P b S f) t := by
  unfold cgo
  split
  · exact hS
  · refine BS_4 (BS_u (Or.inl ⟨rfl, by omega⟩) hS) ?_
    unfold durB
    repeat' split
    all_goals omega
theorem m_users26 (hB : PB P) (hP : PM σ P) (hS : BS S t) (ht : t < 90000) {b f : Int} (b0 : 0 ≤ b) (b1 : b < 360) (hf : f = -4 ∨ (0 ≤ f ∧ f < P 0 1)) : f7_goUsers_b26 (ov σ S) (io b) (io f) = some (ov σ (foldN (P 0 1) (cwt P b) (cgo P b S f))) := by
  have h8 := hB.2.2.1
  have h75 := (m_users75 hB hP (BS_cgo (P := P) (f := f) hS b0 b1) ht b0 b1).1
  rw [← h75]
  unfold f7_goUsers_b26 f7_goUsers_b69 cgo durB
  rcases hf with rfl | ⟨f0, f1⟩
  · rw [if_pos (by decide), if_pos (by decide)]
  · obtain ⟨k, rfl⟩ : ∃ k : Nat, f = (k : Int) := ⟨f.toNat, by omega⟩
    have hr := hB.2.2.2.2.2.2.2.2.2.2 k
    have h2 := ((PM_ov (S := su S 3 k b) hP).2.2.1 k (by omega)).2
    rw [if_neg (show ¬ (k : Int) < 0 by omega)]
    simp (disch := omega) only [n0, n1, n2, n3, n4, n5, n6, n7, n8, n9, n10, n11, n12, n13, n14, n15, n16, n17, n18, n19, n20, n21, n22, n23, n24, n25, n26, n27, n28, n29, n30, n31, n32, n33, n34, n35, n36, n37, n38, n39, n40, n41, n42, n43, n44, n45, n46, n47, n48, n49, n50, n51, n52, n53, n54, n55, n56, n57, n58, n59, n60, n61, n62, n63, n64, n65, n66, n97, n99, n100, n103, n107, n111, n116, n117, n119, n126, n200, n359, n360, n999, n1000, n9999, n65521, n99999, n1000000, io_neg, io_add, io_sub, io_mul, io_lt, io_le, io_eq, io_nat, Int.toNat_natCast, toNat_c1, ifg, obs, obm, oob, bi0, bi1, bi01, ov28, ov29, ov30, ov31, ov32, o32, o33, o34, o35, o36, w32, w33, w34, w35, w36, w28, w29, w30, w31, w32r, ov_g, ov_wg, h2]
    rw [if_neg (show ¬ (k : Int) < 0 by omega)]
    by_cases c0 : P 4 k = 0
    · rw [if_pos c0, if_pos (by omega)]
    · rw [if_neg c0, if_neg (by omega)]
      by_cases c1 : P 4 k = 1
      · rw [if_pos c1, if_pos (by omega)]
      · rw [if_neg c1, if_neg (by omega)]
theorem m_goUsers (hB : PB P) (hP : PM σ P) (hS : BS S t) (ht : t < 90000) {b : Int} (b0 : 0 ≤ b) (b1 : b < 360) : f7_goUsers (ov σ S) (io b) = some (ov σ (cusers P b S)) ∧ BS (cusers P b S) (t + P 0 1) := by
  have hp := m_isPassing (σ := ov σ S) (S := S) (b := b) hB (PM_ov hP) (fun i _ => ov28 i) hS.g b0 (by omega)
  refine ⟨?_, (m_users75 hB hP (BS_cgo hS b0 b1) ht b0 b1).2⟩
  have hn := m_nextUser hB hP hS b0 b1
  have h4 := hS.2.2.2.2.1
  unfold f7_goUsers f7_goUsers_b24 cusers
  rw [hp, hn, nm4, m_users26 hB hP hS ht b0 b1 (Or.inl rfl), obs, obs, m_users26 hB hP hS ht b0 b1 (cnx_rng hB)]
  simp (disch := omega) only [n0, n1, n2, n3, n4, n5, n6, n7, n8, n9, n10, n11, n12, n13, n14, n15, n16, n17, n18, n19, n20, n21, n22, n23, n24, n25, n26, n27, n28, n29, n30, n31, n32, n33, n34, n35, n36, n37, n38, n39, n40, n41, n42, n43, n44, n45, n46, n47, n48, n49, n50, n51, n52, n53, n54, n55, n56, n57, n58, n59, n60, n61, n62, n63, n64, n65, n66, n97, n99, n100, n103, n107, n111, n116, n117, n119, n126, n200, n359, n360, n999, n1000, n9999, n65521, n99999, n1000000, io_neg, io_add, io_sub, io_mul, io_lt, io_le, io_eq, io_nat, Int.toNat_natCast, toNat_c1, ifg, obs, obm, oob, bi0, bi1, bi01, ov28, ov29, ov30, ov31, ov32, o32, o33, o34, o35, o36, w32, w33, w34, w35, w36, w28, w29, w30, w31, w32r, ov_g, ov_wg]
  by_cases c1 : b < S 0 4
  · rw [if_pos c1, if_neg (by omega)]
  · rw [if_neg c1]
    by_cases c2 : passing P S b = false
    · rw [if_pos c2, if_pos ⟨by omega, c2⟩]
    · rw [if_neg c2, if_neg (fun z => c2 z.2)]
def cb6 (i : Nat) (S : SS) : SS := su (su S 1 i (-4)) 2 i 0
def cb8 (i : Nat) (S : SS) : SS := su (su (su S 3 i (-4)) 4 i 0) 5 i 0
def cbegin (S : SS) : SS := foldN 8 cb8 (foldN 6 cb6 (su (su (su (su S 0 0 0) 0 1 0) 0 3 0) 0 4 0))
theorem m_begin22 (S : SS) : f7_beginHour_b22 1000 (ov σ S) 0 = f7_beginHour_b51 1000 (ov σ (foldN 6 cb6 S)) 0 := by
  refine (fold_loop (fun n S i => f7_beginHour_b22 n (ov σ S) i) (fun S => f7_beginHour_b51 1000 (ov σ S) 0) 6 cb6 (fun _ _ => True) (a0 := S) trivial (fun _ _ _ _ => trivial) (fun n S _ => ?_) (fun n i S hi _ => ?_) 1000 (by omega)).1
  · show f7_beginHour_b22 (n + 1) _ _ = _
    rw [f7_beginHour_b22, if_pos (by decide)]
  · show f7_beginHour_b22 (n + 1) _ _ = f7_beginHour_b22 n _ _
    rw [f7_beginHour_b22, if_neg (by simp (disch := omega) only [n0, n1, n2, n3, n4, n5, n6, n7, n8, n9, n10, n11, n12, n13, n14, n15, n16, n17, n18, n19, n20, n21, n22, n23, n24, n25, n26, n27, n28, n29, n30, n31, n32, n33, n34, n35, n36, n37, n38, n39, n40, n41, n42, n43, n44, n45, n46, n47, n48, n49, n50, n51, n52, n53, n54, n55, n56, n57, n58, n59, n60, n61, n62, n63, n64, n65, n66, n97, n99, n100, n103, n107, n111, n116, n117, n119, n126, n200, n359, n360, n999, n1000, n9999, n65521, n99999, n1000000, io_neg, io_add, io_sub, io_mul, io_lt, io_le, io_eq, io_nat, Int.toNat_natCast, toNat_c1, ifg, obs, obm, oob, bi0, bi1, bi01]; omega)]
    simp (disch := omega) only [n0, n1, n2, n3, n4, n5, n6, n7, n8, n9, n10, n11, n12, n13, n14, n15, n16, n17, n18, n19, n20, n21, n22, n23, n24, n25, n26, n27, n28, n29, n30, n31, n32, n33, n34, n35, n36, n37, n38, n39, n40, n41, n42, n43, n44, n45, n46, n47, n48, n49, n50, n51, n52, n53, n54, n55, n56, n57, n58, n59, n60, n61, n62, n63, n64, n65, n66, n97, n99, n100, n103, n107, n111, n116, n117, n119, n126, n200, n359, n360, n999, n1000, n9999, n65521, n99999, n1000000, io_neg, io_add, io_sub, io_mul, io_lt, io_le, io_eq, io_nat, Int.toNat_natCast, toNat_c1, ifg, obs, obm, oob, bi0, bi1, bi01, ov28, ov29, ov30, ov31, ov32, o32, o33, o34, o35, o36, w32, w33, w34, w35, w36, w28, w29, w30, w31, w32r, ov_g, ov_wg, cb6]
theorem m_begin51 (S : SS) : f7_beginHour_b51 1000 (ov σ S) 0 = some (ov σ (foldN 8 cb8 S)) := by
  refine (fold_loop (fun n S i => f7_beginHour_b51 n (ov σ S) i) (fun S => some (ov σ S)) 8 cb8 (fun _ _ => True) (a0 := S) trivial (fun _ _ _ _ => trivial) (fun n S _ => ?_) (fun n i S hi _ => ?_) 1000 (by omega)).1
  · show f7_beginHour_b51 (n + 1) _ _ = _
    rw [f7_beginHour_b51, if_pos (by decide)]
  · show f7_beginHour_b51 (n + 1) _ _ = f7_beginHour_b51 n _ _
    rw [f7_beginHour_b51, if_neg (by simp (disch := omega) only [n0, n1, n2, n3, n4, n5, n6, n7, n8, n9, n10, n11, n12, n13, n14, n15, n16, n17, n18, n19, n20, n21, n22, n23, n24, n25, n26, n27, n28, n29, n30, n31, n32, n33, n34, n35, n36, n37, n38, n39, n40, n41, n42, n43, n44, n45, n46, n47, n48, n49, n50, n51, n52, n53, n54, n55, n56, n57, n58, n59, n60, n61, n62, n63, n64, n65, n66, n97, n99, n100, n103, n107, n111, n116, n117, n119, n126, n200, n359, n360, n999, n1000, n9999, n65521, n99999, n1000000, io_neg, io_add, io_sub, io_mul, io_lt, io_le, io_eq, io_nat, Int.toNat_natCast, toNat_c1, ifg, obs, obm, oob, bi0, bi1, bi01]; omega)]
    simp (disch := omega) only [n0, n1, n2, n3, n4, n5, n6, n7, n8, n9, n10, n11, n12, n13, n14, n15, n16, n17, n18, n19, n20, n21, n22, n23, n24, n25, n26, n27, n28, n29, n30, n31, n32, n33, n34, n35, n36, n37, n38, n39, n40, n41, n42, n43, n44, n45, n46, n47, n48, n49, n50, n51, n52, n53, n54, n55, n56, n57, n58, n59, n60, n61, n62, n63, n64, n65, n66, n97, n99, n100, n103, n107, n111, n116, n117, n119, n126, n200, n359, n360, n999, n1000, n9999, n65521, n99999, n1000000, io_neg, io_add, io_sub, io_mul, io_lt, io_le, io_eq, io_nat, Int.toNat_natCast, toNat_c1, ifg, obs, obm, oob, bi0, bi1, bi01, ov28, ov29, ov30, ov31, ov32, o32, o33, o34, o35, o36, w32, w33, w34, w35, w36, w28, w29, w30, w31, w32r, ov_g, ov_wg, cb8]
theorem m_beginHour : f7_beginHour (ov σ S) = some (ov σ (cbegin S)) := by
  unfold f7_beginHour cbegin
  rw [← m_begin51, ← m_begin22]
  simp (disch := omega) only [n0, n1, n2, n3, n4, n5, n6, n7, n8, n9, n10, n11, n12, n13, n14, n15, n16, n17, n18, n19, n20, n21, n22, n23, n24, n25, n26, n27, n28, n29, n30, n31, n32, n33, n34, n35, n36, n37, n38, n39, n40, n41, n42, n43, n44, n45, n46, n47, n48, n49, n50, n51, n52, n53, n54, n55, n56, n57, n58, n59, n60, n61, n62, n63, n64, n65, n66, n97, n99, n100, n103, n107, n111, n116, n117, n119, n126, n200, n359, n360, n999, n1000, n9999, n65521, n99999, n1000000, io_neg, io_add, io_sub, io_mul, io_lt, io_le, io_eq, io_nat, Int.toNat_natCast, toNat_c1, ifg, obs, obm, oob, bi0, bi1, bi01, ov28, ov29, ov30, ov31, ov32, o32, o33, o34, o35, o36, w32, w33, w34, w35, w36, w28, w29, w30, w31, w32r, ov_g, ov_wg]
theorem cb6_v (n : Nat) (S : SS) (j k : Nat) : foldN n cb6 S j k = if j = 1 ∧ k < n then -4 else if j = 2 ∧ k < n then 0 else S j k := by
  induction n with
  | zero => rw [foldN, if_neg (by omega), if_neg (by omega)]
  | succ n ih =>
    show su (su (foldN n cb6 S) 1 n (-4)) 2 n 0 j k = _
    unfold su
    rw [ih]
    repeat' split
    all_goals first | rfl | omega
theorem cb8_v (n : Nat) (S : SS) (j k : Nat) : foldN n cb8 S j k = if j = 3 ∧ k < n then -4 else if (j = 4 ∨ j = 5) ∧ k < n then 0 else S j k := by
  induction n with
  | zero => rw [foldN, if_neg (by omega), if_neg (by omega)]
  | succ n ih =>
    show su (su (su (foldN n cb8 S) 3 n (-4)) 4 n 0) 5 n 0 j k = _
    unfold su
    rw [ih]
    repeat' split
    all_goals first | rfl | omega
theorem cbegin_v (S : SS) (j k : Nat) : cbegin S j k = if j = 3 ∧ k < 8 then -4 else if (j = 4 ∨ j = 5) ∧ k < 8 then 0 else if j = 1 ∧ k < 6 then -4 else if j = 2 ∧ k < 6 then 0 else if j = 0 ∧ (k = 0 ∨ k = 1 ∨ k = 3 ∨ k = 4) then 0 else S j k := by
  unfold cbegin
  rw [cb8_v, cb6_v]
  unfold su
  repeat' split
  all_goals first | rfl | omega
theorem BS_begin (h2 : -2147483648 ≤ S 0 2 ∧ S 0 2 < 2147483648) : BS (cbegin S) 0 := by
  refine ⟨?_, ?_, ?_, ?_, ?_, fun i hi => ?_, fun i hi => ?_⟩
  · rw [cbegin_v]; simp
  · rw [cbegin_v]; simp
  · rw [cbegin_v]; simpa using h2
  · rw [cbegin_v]; simp
  · rw [cbegin_v]; simp
  · rw [cbegin_v, cbegin_v]; simp [hi]
  · rw [cbegin_v, cbegin_v, cbegin_v]; simp [hi]
theorem BS_move2 (hS : BS S t) (ht : 0 ≤ t) {rule n b : Int} : BS (cmove2 P S rule n b) t := by
  obtain ⟨h0, h1, h2, h3, h4, h5, h6⟩ := hS
  unfold cmove2
  split
  · refine ⟨?_, ?_, ?_, ?_, ?_, fun i hi => ?_, fun i hi => ?_⟩
    · exact Or.inr (Or.inl (by simp [su]))
    · simp [su]; exact ht
    · rw [su_s]; split <;> omega
    · simpa [su] using h3
    · simpa [su] using h4
    · simpa [su] using h5 i hi
    · simpa [su] using h6 i hi
  · exact ⟨h0, h1, h2, h3, h4, h5, h6⟩
def cbeat (P : PS) (rule n : Int) (b : Nat) (S : SS) : SS := su (cusers P b (ctrains P b (cmove P S rule n b))) 6 b (cusers P b (ctrains P b (cmove P S rule n b)) 0 0)
def chour (P : PS) (rule n : Int) (S : SS) : SS := foldN 360 (cbeat P rule n) (cbegin S)
theorem BS_6 {k : Nat} {v : Int} (hS : BS S t) : BS (su S 6 k v) t := by
  obtain ⟨h0, h1, h2, h3, h4, h5, h6⟩ := hS
  refine ⟨?_, ?_, ?_, ?_, ?_, fun i hi => ?_, fun i hi => ?_⟩
  · simpa [su] using h0
  · simpa [su] using h1
  · simpa [su] using h2
  · simpa [su] using h3
  · simpa [su] using h4
  · simpa [su] using h5 i hi
  · simpa [su] using h6 i hi
theorem m_beat (hB : PB P) (hP : PM σ P) {b : Nat} (b1 : b < 360) (hS : BS S (15 * b)) {rule n : Int} (n0' : 0 ≤ n) (n1' : n < 400) (r0 : 0 ≤ rule) (r1 : rule ≤ 4) : f7_moveGates (ov σ S) (io rule) (io n) (io b) = some (ov σ (cmove P S rule n b)) ∧ f7_goTrains (ov σ (cmove P S rule n b)) (io b) = some (ov σ (ctrains P b (cmove P S rule n b))) ∧ f7_goUsers (ov σ (ctrains P b (cmove P S rule n b))) (io b) = some (ov σ (cusers P b (ctrains P b (cmove P S rule n b)))) ∧ BS (cbeat P rule n b S) (15 * (b + 1)) := by
  have h8 := hB.2.2.1
  have h6 := hB.2.1
  have a1 := m_moveGates hB hP hS (by omega) (b := b) (rule := rule) (n := n) (by omega) (by omega) n0' n1' r0 r1
  have a2 : BS (cmove P S rule n b) (15 * b + 1) := BS_move2 (BS_move1 hB hS) (by omega)
  have a3 := m_goTrains hB hP a2 (by omega) (b := b) (by omega) (by omega)
  have a4 := m_goUsers hB hP a3.2 (by omega) (b := b) (by omega) (by omega)
  exact ⟨a1, a3.1, a4.1, BS_6 (a4.2.mono (by omega))⟩
theorem m_goHour (hB : PB P) (hP : PM σ P) (h2 : -2147483648 ≤ S 0 2 ∧ S 0 2 < 2147483648) {rule n : Int} (n0' : 0 ≤ n) (n1' : n < 400) (r0 : 0 ≤ rule) (r1 : rule ≤ 4) : f7_goHour (ov σ S) (io rule) (io n) = some (ov σ (chour P rule n S)) ∧ BS (chour P rule n S) 5400 := by
  unfold f7_goHour chour
  rw [m_beginHour, obs]
  have := fold_loop (fun m S i => f7_goHour_b6 m (ov σ S) (io rule) (io n) i) (fun S => some (ov σ S)) 360 (cbeat P rule n) (fun i S => BS S (15 * i)) (a0 := cbegin S) (by simpa using BS_begin h2) (fun i S hi h => (m_beat hB hP hi h n0' n1' r0 r1).2.2.2) (fun m S _ => ?_) (fun m i S hi h => ?_) 1000 (by omega)
  · exact this
  · show f7_goHour_b6 (m + 1) _ _ _ _ = _
    rw [f7_goHour_b6, if_pos (by decide)]
  · show f7_goHour_b6 (m + 1) _ _ _ _ = f7_goHour_b6 m _ _ _ _
    obtain ⟨a1, a2, a3, -⟩ := m_beat hB hP hi h n0' n1' r0 r1
    rw [f7_goHour_b6, if_neg (by simp (disch := omega) only [n0, n1, n2, n3, n4, n5, n6, n7, n8, n9, n10, n11, n12, n13, n14, n15, n16, n17, n18, n19, n20, n21, n22, n23, n24, n25, n26, n27, n28, n29, n30, n31, n32, n33, n34, n35, n36, n37, n38, n39, n40, n41, n42, n43, n44, n45, n46, n47, n48, n49, n50, n51, n52, n53, n54, n55, n56, n57, n58, n59, n60, n61, n62, n63, n64, n65, n66, n97, n99, n100, n103, n107, n111, n116, n117, n119, n126, n200, n359, n360, n999, n1000, n9999, n65521, n99999, n1000000, io_neg, io_add, io_sub, io_mul, io_lt, io_le, io_eq, io_nat, Int.toNat_natCast, toNat_c1, ifg, obs, obm, oob, bi0, bi1, bi01]; omega), a1, obs, a2, obs, a3, obs]
    simp (disch := omega) only [n0, n1, n2, n3, n4, n5, n6, n7, n8, n9, n10, n11, n12, n13, n14, n15, n16, n17, n18, n19, n20, n21, n22, n23, n24, n25, n26, n27, n28, n29, n30, n31, n32, n33, n34, n35, n36, n37, n38, n39, n40, n41, n42, n43, n44, n45, n46, n47, n48, n49, n50, n51, n52, n53, n54, n55, n56, n57, n58, n59, n60, n61, n62, n63, n64, n65, n66, n97, n99, n100, n103, n107, n111, n116, n117, n119, n126, n200, n359, n360, n999, n1000, n9999, n65521, n99999, n1000000, io_neg, io_add, io_sub, io_mul, io_lt, io_le, io_eq, io_nat, Int.toNat_natCast, toNat_c1, ifg, obs, obm, oob, bi0, bi1, bi01, ov28, ov29, ov30, ov31, ov32, o32, o33, o34, o35, o36, w32, w33, w34, w35, w36, w28, w29, w30, w31, w32r, ov_g, ov_wg]
    rfl
def costS (P : PS) (S : SS) : Int := sumN (P 0 0) (fun i => (P 0 4 : Int) * S 2 i) + sumN (P 0 1) (fun i => (P 8 (P 4 i) : Int) * S 4 i + (if S 5 i = 0 then 0 else (P 0 6 : Int)))
theorem m_costNow (hB : PB P) (hP : PM σ P) (hS : BS S t) : f7_costNow (ov σ S) = some (io (costS P S)) := by
  have h8 := hB.2.2.1
  have h6 := hB.2.1
  have hP1 := PM_ov (S := S) hP
  unfold f7_costNow costS
  have k1 := (fold_loop (fun n a i => f7_costNow_b4 (ov σ S) n (io a) i) (fun a => f7_costNow_b38 (ov σ S) 1000 (io a) 0) (P 0 0) (fun i a => a + (P 0 4 : Int) * S 2 i) (fun _ _ => True) (a0 := 0) trivial (fun _ _ _ _ => trivial) (fun n a _ => ?_) (fun n i a hi _ => ?_) 1000 (by omega)).1
  · refine k1.trans ?_
    rw [foldN_sum, Int.zero_add]
    have k2 := (fold_loop (fun n a i => f7_costNow_b38 (ov σ S) n (io a) i) (fun a => some (io a)) (P 0 1) (fun i a => a + ((P 8 (P 4 i) : Int) * S 4 i + (if S 5 i = 0 then 0 else (P 0 6 : Int)))) (fun _ _ => True) (a0 := sumN (P 0 0) (fun i => (P 0 4 : Int) * S 2 i)) trivial (fun _ _ _ _ => trivial) (fun n a _ => ?_) (fun n i a hi _ => ?_) 1000 (by omega)).1
    · refine k2.trans ?_
      rw [foldN_sum]
    · show f7_costNow_b38 _ (n + 1) _ _ = _
      rw [f7_costNow_b38, hP1.1.2.1, if_pos (Int32.le_refl _)]
    · show f7_costNow_b38 _ (n + 1) _ _ = f7_costNow_b38 _ n _ _
      have hr := hB.2.2.2.2.2.2.2.2.2.2 i
      have h5 := (hS.2.2.2.2.2.2 i (by omega)).2.2.2.2
      rw [f7_costNow_b38, hP1.1.2.1, if_neg (by simp (disch := omega) only [n0, n1, n2, n3, n4, n5, n6, n7, n8, n9, n10, n11, n12, n13, n14, n15, n16, n17, n18, n19, n20, n21, n22, n23, n24, n25, n26, n27, n28, n29, n30, n31, n32, n33, n34, n35, n36, n37, n38, n39, n40, n41, n42, n43, n44, n45, n46, n47, n48, n49, n50, n51, n52, n53, n54, n55, n56, n57, n58, n59, n60, n61, n62, n63, n64, n65, n66, n97, n99, n100, n103, n107, n111, n116, n117, n119, n126, n200, n359, n360, n999, n1000, n9999, n65521, n99999, n1000000, io_neg, io_add, io_sub, io_mul, io_lt, io_le, io_eq, io_nat, Int.toNat_natCast, toNat_c1, ifg, obs, obm, oob, bi0, bi1, bi01]; omega)]
      simp (disch := omega) only [n0, n1, n2, n3, n4, n5, n6, n7, n8, n9, n10, n11, n12, n13, n14, n15, n16, n17, n18, n19, n20, n21, n22, n23, n24, n25, n26, n27, n28, n29, n30, n31, n32, n33, n34, n35, n36, n37, n38, n39, n40, n41, n42, n43, n44, n45, n46, n47, n48, n49, n50, n51, n52, n53, n54, n55, n56, n57, n58, n59, n60, n61, n62, n63, n64, n65, n66, n97, n99, n100, n103, n107, n111, n116, n117, n119, n126, n200, n359, n360, n999, n1000, n9999, n65521, n99999, n1000000, io_neg, io_add, io_sub, io_mul, io_lt, io_le, io_eq, io_nat, Int.toNat_natCast, toNat_c1, ifg, obs, obm, oob, bi0, bi1, bi01, ov28, ov29, ov30, ov31, ov32, o32, o33, o34, o35, o36, w32, w33, w34, w35, w36, w28, w29, w30, w31, w32r, ov_g, ov_wg, hP1.2.2.1 i hi, hP1.2.2.2.2.2 (P 4 i) (by omega), hP1.1.2.2.2.2.2.2]
      by_cases c : S 5 i = 0
      · rw [if_pos c, if_pos c]
      · rw [if_neg c, if_neg c]
  · show f7_costNow_b4 _ (n + 1) _ _ = _
    rw [f7_costNow_b4, hP1.1.1, if_pos (Int32.le_refl _)]
  · show f7_costNow_b4 _ (n + 1) _ _ = f7_costNow_b4 _ n _ _
    rw [f7_costNow_b4, hP1.1.1, if_neg (by simp (disch := omega) only [n0, n1, n2, n3, n4, n5, n6, n7, n8, n9, n10, n11, n12, n13, n14, n15, n16, n17, n18, n19, n20, n21, n22, n23, n24, n25, n26, n27, n28, n29, n30, n31, n32, n33, n34, n35, n36, n37, n38, n39, n40, n41, n42, n43, n44, n45, n46, n47, n48, n49, n50, n51, n52, n53, n54, n55, n56, n57, n58, n59, n60, n61, n62, n63, n64, n65, n66, n97, n99, n100, n103, n107, n111, n116, n117, n119, n126, n200, n359, n360, n999, n1000, n9999, n65521, n99999, n1000000, io_neg, io_add, io_sub, io_mul, io_lt, io_le, io_eq, io_nat, Int.toNat_natCast, toNat_c1, ifg, obs, obm, oob, bi0, bi1, bi01]; omega)]
    simp (disch := omega) only [n0, n1, n2, n3, n4, n5, n6, n7, n8, n9, n10, n11, n12, n13, n14, n15, n16, n17, n18, n19, n20, n21, n22, n23, n24, n25, n26, n27, n28, n29, n30, n31, n32, n33, n34, n35, n36, n37, n38, n39, n40, n41, n42, n43, n44, n45, n46, n47, n48, n49, n50, n51, n52, n53, n54, n55, n56, n57, n58, n59, n60, n61, n62, n63, n64, n65, n66, n97, n99, n100, n103, n107, n111, n116, n117, n119, n126, n200, n359, n360, n999, n1000, n9999, n65521, n99999, n1000000, io_neg, io_add, io_sub, io_mul, io_lt, io_le, io_eq, io_nat, Int.toNat_natCast, toNat_c1, ifg, obs, obm, oob, bi0, bi1, bi01, ov28, ov29, ov30, ov31, ov32, o32, o33, o34, o35, o36, w32, w33, w34, w35, w36, w28, w29, w30, w31, w32r, ov_g, ov_wg, hP1.1.2.2.2.2.1]
theorem m_costBy (hB : PB P) (hP : PM σ P) (h2 : -2147483648 ≤ S 0 2 ∧ S 0 2 < 2147483648) {rule n : Int} (n0' : 0 ≤ n) (n1' : n < 400) (r0 : 0 ≤ rule) (r1 : rule ≤ 4) : f7_costBy (ov σ S) (io rule) (io n) = some (ov σ (chour P rule n S), io (costS P (chour P rule n S))) := by
  obtain ⟨a1, a2⟩ := m_goHour hB hP h2 n0' n1' r0 r1
  unfold f7_costBy
  rw [a1, obs, m_costNow hB hP a2, obs]
end RefG
