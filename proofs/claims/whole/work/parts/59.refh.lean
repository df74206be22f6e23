/-! THE REFERENCE'S goUsers -/
theorem BS_4 {S : SS} {t v : Int} (h : BS S t) (hv : 0 ≤ v ∧ v ≤ 400) : BS (su S 0 4 v) t := by
  obtain ⟨h0, h1, h2, h3, h4, h5, h6⟩ := h
  refine ⟨by rw [su_n _ _ (by decide)]; exact h0, by rw [su_n _ _ (by decide)]; exact h1, by rw [su_n _ _ (by decide)]; exact h2, by rw [su_n _ _ (by decide)]; exact h3, by rw [su_s]; exact hv, fun i hi => ?_, fun i hi => ?_⟩
  · rw [su_n _ _ (by omega), su_n _ _ (by omega)]; exact h5 i hi
  · rw [su_n _ _ (by omega), su_n _ _ (by omega), su_n _ _ (by omega)]; exact h6 i hi
theorem BS_u {S : SS} {t v : Int} {j k : Nat} (hj : j = 3 ∧ (-4 ≤ v ∧ v ≤ 359) ∨ j = 4 ∧ (0 ≤ v ∧ v ≤ t) ∨ j = 5 ∧ (v = 0 ∨ v = 1)) (h : BS S t) : BS (su S j k v) t := by
  obtain ⟨h0, h1, h2, h3, h4, h5, h6⟩ := h
  refine ⟨by rw [su_n _ _ (by omega)]; exact h0, by rw [su_n _ _ (by omega)]; exact h1, by rw [su_n _ _ (by omega)]; exact h2, by rw [su_n _ _ (by omega)]; exact h3, by rw [su_n _ _ (by omega)]; exact h4, fun i hi => ?_, fun i hi => ?_⟩
  · rw [su_n _ _ (by omega), su_n _ _ (by omega)]; exact h5 i hi
  · have := h6 i hi
    unfold su
    rcases hj with ⟨rfl, hv⟩ | ⟨rfl, hv⟩ | ⟨rfl, hv⟩ <;> by_cases e : i = k <;> simp [e] <;> first | omega | (subst e; omega)
section RefH
variable {σ : Mem} {P : PS} {S : SS} {t : Int}
theorem BS_cwt {b : Int} {i : Nat} (hi : i < 8) (hS : BS S t) : BS (cwt P b i S) (t + 1) := by
  have h6 := hS.2.2.2.2.2.2 i hi
  unfold cwt
  split
  · refine BS_u (Or.inr (Or.inr ⟨rfl, ?_⟩)) (BS_u (Or.inr (Or.inl ⟨rfl, by omega⟩)) (hS.mono (by omega)))
    split
    · exact Or.inr rfl
    · exact Or.inl rfl
  · exact hS.mono (by omega)
theorem m_users75 (hB : PB P) (hP : PM σ P) (hS : BS S t) (ht : t < 90000) {b : Int} (b0 : 0 ≤ b) (b1 : b < 360) : f7_goUsers_b75 1000 (ov σ S) (io b) 0 = some (ov σ (foldN (P 0 1) (cwt P b) S)) ∧ BS (foldN (P 0 1) (cwt P b) S) (t + P 0 1) := by
  have h8 := hB.2.2.1
  have hpat := hB
  unfold PB at hpat
  refine fold_loop (fun n S i => f7_goUsers_b75 n (ov σ S) (io b) i) (fun S => some (ov σ S)) (P 0 1) (cwt P b) (fun i S => BS S (t + i)) (by simpa using hS) (fun i S hi h => by have := BS_cwt (P := P) (b := b) (i := i) (show i < 8 by omega) h; rw [show t + (i : Int) + 1 = t + ((i + 1 : Nat) : Int) by omega] at this; exact this) (fun n S _ => ?_) (fun n i S hi h => ?_) 1000 (by omega)
  · show f7_goUsers_b75 (n + 1) _ _ _ = _
    rw [f7_goUsers_b75, (PM_ov hP).1.2.1, if_pos (Int32.le_refl _)]
  · show f7_goUsers_b75 (n + 1) _ _ _ = f7_goUsers_b75 n _ _ _
    have h6 := h.2.2.2.2.2.2 i (by omega)
    have e1 : io (i : Int) + 1 = io ((i : Int) + 1) := io_add _ 1
    have g8 := in_ix (i := i) (n := 8) (by omega) (by decide)
    rw [f7_goUsers_b75, (PM_ov hP).1.2.1, if_neg (by rw [io_le (by omega) (by omega) (by omega) (by omega)]; omega), m_isWaiting hB hP h b0 b1 hi, e1]
    simp only [Option.bind, f7_goUsers_b129, bm]
    unfold cwt
    cases wtB P S b i with
    | false => rfl
    | true =>
      rw [if_neg (by decide), if_pos g8, if_pos g8, if_pos g8, if_pos g8, if_pos g8, io_ix (by omega), ov31, n1, io_add, w31, ov31, su_s, (PM_ov hP).1.2.2.2.2.2.1]
      rw [if_pos (Or.inr trivial), if_pos (Or.inl trivial), w32r, n0, w32r, ← n1, e1]
      by_cases c : S 4 i + 1 = P 0 5
      · rw [if_pos (by rw [c]), if_pos c]; rfl
      · rw [if_neg (by rw [io_eq (by omega) (by omega) (by omega) (by omega)]; exact c), if_neg c]; rfl
end RefH
