/-! THE TWO HOURS SIDE BY SIDE: trains -/
section Trains
variable {σ : Mem} {P : PS} {S T : SS} {t : Int} {h st : Nat} {rule n b c d : Int}
theorem costR_s2 {s2 s4 s5 : Nat → Int} {i : Nat} (hi : i < P 0 0) : costR P (ru s2 i (s2 i + 1)) s4 s5 = costR P s2 s4 s5 + P 0 4 := by
  unfold costR
  rw [sumN_upd (n := P 0 0) (k := i) (f := fun i => (P 0 4 : Int) * s2 i) (g := fun j => (P 0 4 : Int) * ru s2 i (s2 i + 1) j) hi (fun j _ hj => by show _ = (P 0 4 : Int) * ru s2 i (s2 i + 1) j; rw [ru_n _ _ hj])]
  show _ + ((P 0 4 : Int) * ru s2 i (s2 i + 1) i - (P 0 4 : Int) * s2 i) + _ = _
  rw [ru_s, Int.mul_add]
  omega
theorem LR_begin (hR : LR P (S 1) (T 0 17) b) (b0 : 0 ≤ b) (b1 : b < 360) (hb : T 0 17 ≤ b) {i : Nat} (hi : i < P 0 0) : LR P (ru (S 1) i b) (b + 3) b := by
  obtain ⟨r0, r1, r2⟩ := hR
  refine ⟨by omega, by omega, fun b' hb' => ?_⟩
  have ho : ¬ pasR P (S 1) b' = true := fun z => by have := (r2 b' hb').mp z; omega
  unfold pasR at ho ⊢
  rw [anyN_iff] at ho ⊢
  constructor
  · rintro ⟨j, hj, hp⟩
    by_cases e : j = i
    · subst e
      rw [ru_s] at hp
      have := of_decide_eq_true hp
      omega
    · rw [ru_n _ _ e] at hp
      exact absurd ⟨j, hj, hp⟩ ho
  · intro hlt
    refine ⟨i, hi, ?_⟩
    rw [ru_s]
    exact decide_eq_true (by omega)
theorem LT_begin (hT : LT (S 1) (S 2) (T 4) (T 5) b) (b0 : 0 ≤ b) (i : Nat) : LT (ru (S 1) i b) (S 2) (ru (T 4) i b) (T 5) b := by
  intro j hj
  obtain ⟨h1, h2, h3, h4⟩ := hT j hj
  by_cases e : j = i
  · subst e
    rw [ru_s, ru_s, if_neg (by omega)]
    exact ⟨h1, rfl, by omega, by omega⟩
  · rw [ru_n _ _ e, ru_n _ _ e]
    exact ⟨h1, h2, h3, h4⟩
theorem LT_stop (hT : LT (S 1) (S 2) (T 4) (T 5) b) {i : Nat} (hi : i < 6) : LT (S 1) (ru (S 2) i (S 2 i + 1)) (T 4) (ru (T 5) i (T 5 i + 1)) b := by
  intro j hj
  obtain ⟨h1, h2, h3, h4⟩ := hT j hj
  by_cases e : j = i
  · subst e
    rw [ru_s, ru_s, h1]
    exact ⟨rfl, h2, h3, h4⟩
  · rw [ru_n _ _ e, ru_n _ _ e]
    exact ⟨h1, h2, h3, h4⟩
theorem LH_begin (hL : LH P rule n S T b c d) (b0 : 0 ≤ b) (b1 : b < 360) (hb : T 0 17 ≤ b) {i : Nat} (hi : i < P 0 0) : LH P rule n (su S 1 i b) (su (su T 4 i b) 0 17 (b + 3)) b c d := by
  obtain ⟨lA, lG, lR, lT, lU, lW, lB, lC, l16, l18, l11, l1⟩ := hL
  unfold LH
  simp (disch := omega) only [su_row, su_self, ru_s, ru_n]
  exact ⟨lA, lG, LR_begin lR b0 b1 hb hi, LT_begin lT b0 i, lU, lW, lB, lC, l16, l18, l11, l1⟩
theorem LH_stop (hL : LH P rule n S T b c d) {i : Nat} (hi : i < P 0 0) (h6 : i < 6) : LH P rule n (su (su S 2 i (S 2 i + 1)) 0 3 1) (su (su (su T 5 i (T 5 i + 1)) 0 12 (T 0 12 + P 0 4)) 0 18 1) b c d := by
  obtain ⟨lA, lG, lR, lT, lU, lW, lB, lC, l16, l18, l11, l1⟩ := hL
  unfold LH
  simp (disch := omega) only [su_row, su_self, ru_s, ru_n]
  exact ⟨lA, lG, lR, LT_stop lT h6, lU, lW, lB, by rw [costR_s2 hi, lC], l16, trivial, l11, l1⟩
def G0 (S : SS) : Prop := (S 0 0 = 0 ∨ S 0 0 = 1 ∨ S 0 0 = 2) ∧ 0 ≤ S 0 4 ∧ S 0 4 ≤ 400
theorem c_trains (hB : PB P) (hP : PC σ st P) (h42 : 42 ≤ h) (hst36 : st ≤ 36) (hS : G0 S) (b0 : 0 ≤ b) (b1 : b < 360) (hL : LH P rule n S T b c d) : ∃ T', f1_runTrains (ovh σ h T) h (io b) = some (ovh σ h T') ∧ LH P rule n (ctrains P b S) T' b c d := by
  have h36 : ∀ T, ovh σ h T 3 6 = io (P 0 4) := fun T => (PC_ovh (T := T) h42 hst36 hP).1.2.2.2.2.1
  have h6 := hB.2.1
  unfold f1_runTrains ctrains
  rw [n0, wh0, obm, ← foldN_ext h6]
  have hL0 : LH P rule n (su S 0 3 0) (su T 0 18 0) b c d := by
    obtain ⟨lA, lG, lR, lT, lU, lW, lB, lC, l16, l18, l11, l1⟩ := hL
    unfold LH
    simp (disch := omega) only [su_row, su_self, ru_s, ru_n]
    exact ⟨lA, lG, lR, lT, lU, lW, lB, lC, l16, trivial, l11, l1⟩
  have hS0 : G0 (su S 0 3 0) := by
    unfold G0
    simp (disch := omega) only [su_row, su_self, ru_s, ru_n]
    exact hS
  have key := lock_loop (fun m T i => f1_runTrains_b7 h m (ovh σ h T) (io b) i) (fun T => some (ovh σ h T)) 6 (fun i a => if i < P 0 0 then ctr P b i a else a) (fun _ S T => LH P rule n S T b c d ∧ G0 S) (a0 := su S 0 3 0) (t0 := su T 0 18 0) ⟨hL0, hS0⟩ (fun m S T _ => ?_) (fun m i S T hi hI => ?_) 1000 (by omega)
  · obtain ⟨T', e, hI⟩ := key
    exact ⟨T', e, hI.1⟩
  · show f1_runTrains_b7 h (m + 1) _ _ _ = _
    rw [f1_runTrains_b7, if_pos (by decide)]
  · show ∃ T', f1_runTrains_b7 h (m + 1) _ _ _ = f1_runTrains_b7 h m _ _ _ ∧ _
    obtain ⟨hL, hS⟩ := hI
    have hL' := hL
    obtain ⟨lA, lG, lR, lT, lU, lW, lB, lC, l16, l18, l11, l1⟩ := hL'
    obtain ⟨g0, g4, g5⟩ := hS
    obtain ⟨a1, a2, -⟩ := lA i hi
    obtain ⟨t1, t2, t3, t4⟩ := lT i hi
    have hc := come_lt hB i
    have ha : 0 ≤ T 2 i ∧ T 2 i ≤ 1000000 := by rw [a1]; split <;> omega
    have ht4 : 0 ≤ T 4 i ∧ T 4 i ≤ 1000000 := by rw [t2]; split <;> omega
    obtain ⟨r0, r1, r2⟩ := lR
    have r2 := r2 b (Int.le_refl _)
    have h13 := lG.1
    rw [f1_runTrains_b7]
    unfold f1_runTrains_b77 f0_stopCost
    simp (disch := omega) only [n0, n1, n2, n3, n4, n5, n6, n7, n8, n9, n10, n11, n12, n13, n14, n15, n16, n17, n18, n19, n20, n21, n22, n23, n24, n25, n26, n27, n28, n29, n30, n31, n32, n33, n34, n35, n36, n37, n38, n39, n40, n41, n42, n43, n44, n45, n46, n47, n48, n49, n50, n51, n52, n53, n54, n55, n56, n57, n58, n59, n60, n61, n62, n63, n64, n65, n66, n97, n99, n100, n103, n107, n111, n116, n117, n119, n126, n200, n359, n360, n999, n1000, n9999, n65521, n99999, n1000000, io_neg, io_add, io_sub, io_mul, io_lt, io_le, io_eq, io_nat, Int.toNat_natCast, toNat_c1, ifg, obs, obm, oob, bi0, bi1, bi01, rh0, rh1, rh2, rh3, rh4, rh5, rh6, rh7, wh0, wh1, wh2, wh3, wh4, wh5, wh6, wh7, h36, su_row, su_self, ru_s, ru_n]
    rw [if_neg (by omega)]
    by_cases c1 : b < T 2 i
    · refine ⟨T, by rw [if_pos c1], ?_, ?_⟩
      · split
        · rename_i hq
          rw [if_pos hq] at a1
          unfold ctr
          rw [if_neg (by omega)]
          exact hL
        · exact hL
      · split
        · rename_i hq
          rw [if_pos hq] at a1
          unfold ctr
          rw [if_neg (by omega)]
          exact ⟨g0, g4, g5⟩
        · exact ⟨g0, g4, g5⟩
    · have hq : i < P 0 0 := by
        apply Classical.byContradiction
        intro z
        rw [if_neg z] at a1
        omega
      rw [if_pos hq] at a1
      rw [if_neg c1, if_pos hq]
      by_cases c2 : S 1 i < 0
      · rw [if_pos c2] at t2
        rw [if_pos (by omega)]
        unfold ctr
        rw [if_pos (show come P i ≤ b ∧ S 1 i < 0 by omega)]
        by_cases c3 : S 0 0 = 2 ∧ passing P S b = false ∧ S 0 4 ≤ b
        · have hpf : ¬ b < T 0 17 := fun z => by
            have := r2.mpr z
            rw [← pas_R, c3.2.1] at this
            cases this
          rw [if_pos c3]
          refine ⟨_, by rw [if_pos (by omega), if_neg hpf, if_neg (by omega)], LH_begin hL b0 b1 (by omega) hq, ?_⟩
          unfold G0
          simp (disch := omega) only [su_row, su_self, ru_s, ru_n]
          exact ⟨g0, g4, g5⟩
        · rw [if_neg c3]
          refine ⟨su (su (su T 5 i (T 5 i + 1)) 0 12 (T 0 12 + P 0 4)) 0 18 1, ?_, LH_stop hL hq hi, ?_⟩
          · by_cases d1 : T 0 13 = 2
            · rw [if_pos d1]
              by_cases d2 : b < T 0 17
              · rw [if_pos d2]
              · rw [if_neg d2, if_pos ?_]
                apply Classical.byContradiction
                intro z
                refine c3 ⟨by omega, ?_, by omega⟩
                rw [pas_R]
                simpa using fun y => d2 (r2.mp y)
            · rw [if_neg d1]
          · unfold G0
            simp (disch := omega) only [su_row, su_self, ru_s, ru_n]
            exact ⟨g0, g4, g5⟩
      · rw [if_neg c2] at t2
        refine ⟨T, by rw [if_neg (by omega)], ?_, ?_⟩
        · unfold ctr
          rw [if_neg (by omega)]
          exact hL
        · unfold ctr
          rw [if_neg (by omega)]
          exact ⟨g0, g4, g5⟩
end Trains
