/-! THE REFERENCE'S goUsers -/
theorem BS_4 {S : SS} {t v : Int} (h : BS S t) (hv : 0 ≤ v ∧ v ≤ 400) : BS (su S 0 4 v) t := by
  obtain ⟨h0, h1, h2, h3, h4, h5, h6⟩ := h
  refine ⟨by rw [su_n _ _ (by decide)]; exact h0, by rw [su_n _ _ (by decide)]; exact h1, by rw [su_n _ _ (by decide)]; exact h2, by rw [su_n _ _ (by decide)]; exact h3, by rw [su_s]; exact hv, fun i hi => ?_, fun i hi => ?_⟩
  · rw [su_n _ _ (by omega), su_n _ _ (by omega)]; exact h5 i hi
  · rw [su_n _ _ (by omega), su_n _ _ (by omega), su_n _ _ (by omega)]; exact h6 i hi
theorem BS_u {S : SS} {t v : Int} {j k : Nat} (hj : j = 3 ∧ (-4 ≤ v ∧ v ≤ 359) ∨ j = 4 ∧ (0 ≤ v ∧ v ≤ t) ∨ j = 5 ∧ (v = 0 ∨ v = 1)) (h : BS S t) : BS (su S j k v) t := by
  obtain ⟨h0, h1, h2, h3, h4, h5, h6⟩ := h
  refine ⟨by rw [su_n _ _ (by omega)]; exact h0, by rw [su_n _ _ (by omega)]; exact h1, by rw [su_n _ _ (by omega)]; exact h2, by rw [su_n _ _ (by omega)]; exact h3, by rw [su_n _ _ (by omega)]; exact h4, fun i hi => ?_, fun i hi => ?_⟩
  · rw [su_n _ _ (by omega), su_n _ _ (by omega)]; exact h5 i hi
  · have := h6 i hi
    unfold su
    rcases hj with ⟨rfl, hv⟩ | ⟨rfl, hv⟩ | ⟨rfl, hv⟩ <;> by_cases e : i = k <;> simp [e] <;> first | omega | (subst e; omega)
