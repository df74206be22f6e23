/-! THE REFERENCE'S moveGates -/
section RefM
variable {σ : Mem} {P : PS} {S : SS} {t : Int}
theorem BS_move1 (hB : PB P) (hS : BS S t) : BS (cmove1 P S) (t + 1) := by
  obtain ⟨h0, h1, h2, h3, h4, h5, h6⟩ := hS
  unfold cmove1
  by_cases e : S 0 0 = 1
  · rw [if_pos e]
    refine ⟨?_, ?_, ?_, ?_, ?_, fun i hi => ?_, fun i hi => ?_⟩
    · rw [su_s]
      split
      · split
        · exact Or.inl rfl
        · exact Or.inr (Or.inr rfl)
      · exact Or.inr (Or.inl rfl)
    · rw [su_n _ _ (by decide), su_s]; omega
    · rw [su_n _ _ (by decide), su_n _ _ (by decide)]; exact h2
    · rw [su_n _ _ (by decide), su_n _ _ (by decide)]; exact h3
    · rw [su_n _ _ (by decide), su_n _ _ (by decide)]; exact h4
    · have := h5 i hi
      simp only [su_n _ _ (show ¬ (1 = 0 ∧ i = 0) by omega), su_n _ _ (show ¬ (1 = 0 ∧ i = 1) by omega), su_n _ _ (show ¬ (2 = 0 ∧ i = 0) by omega), su_n _ _ (show ¬ (2 = 0 ∧ i = 1) by omega)]
      omega
    · have := h6 i hi
      simp only [su_n _ _ (show ¬ (3 = 0 ∧ i = 0) by omega), su_n _ _ (show ¬ (3 = 0 ∧ i = 1) by omega), su_n _ _ (show ¬ (4 = 0 ∧ i = 0) by omega), su_n _ _ (show ¬ (4 = 0 ∧ i = 1) by omega), su_n _ _ (show ¬ (5 = 0 ∧ i = 0) by omega), su_n _ _ (show ¬ (5 = 0 ∧ i = 1) by omega)]
      omega
  · rw [if_neg e]
    exact ⟨h0, ⟨h1.1, by omega⟩, h2, h3, h4, fun i hi => by have := h5 i hi; omega, fun i hi => by have := h6 i hi; omega⟩
theorem m_moveGates (hB : PB P) (hP : PM σ P) (hS : BS S t) (ht : t < 100000) {b rule n : Int} (b0 : 0 ≤ b) (b1 : b < 360) (n0' : 0 ≤ n) (n1' : n < 400) (r0 : 0 ≤ rule) (r1 : rule ≤ 4) : f7_moveGates (ov σ S) (io rule) (io n) (io b) = some (ov σ (cmove P S rule n b)) := by
  have hS1 := BS_move1 hB hS
  have hm := m_move51 hB hP hS1 (by omega) b0 b1 n0' n1' r0 r1
  unfold cmove
  rw [← hm]
  have hr := hB
  unfold f7_moveGates cmove1
  obtain ⟨h0, h1, h2, h3, h4, h5, h6⟩ := hS
  rw [o32]
  by_cases e : S 0 0 = 1
  · rw [if_pos (by rw [e]; rfl), if_pos e]
    simp only [bm, f7_moveGates_b48]
    rw [o33, n1, io_add, w33, o33, o34, su_s, su_n _ _ (by decide), (PM_ov (S := su S 0 1 (S 0 1 + 1)) hP).1.2.2.2.1]
    unfold PB at hr
    simp (disch := omega) only [n0, n2, io_le, io_eq, w32]
    by_cases e1 : (P 0 3 : Int) ≤ S 0 1 + 1
    · rw [if_pos e1, if_pos e1]
      by_cases e2 : S 0 2 = 0
      · rw [if_pos e2, if_pos e2]
      · rw [if_neg e2, if_neg e2]
    · rw [if_neg e1, if_neg e1]
  · rw [if_neg e, if_neg (by rw [n1, io_eq (by omega) (by omega) (by omega) (by omega)]; exact e)]
end RefM
