/-! THE REFERENCE'S MEMORY WITH THE HOUR'S STATE LAID OVER IT -/
def su (S : SS) (j k : Nat) (v : Int) : SS := fun j' k' => if j' = j ∧ k' = k then v else S j' k'
theorem su_s (S : SS) (j k : Nat) (v : Int) : su S j k v j k = v := by simp [su]
theorem su_n (S : SS) {j k j' k' : Nat} (v : Int) (h : ¬ (j' = j ∧ k' = k)) : su S j k v j' k' = S j' k' := by simp only [su, if_neg h]
def ov (σ : Mem) (S : SS) : Mem := fun j k => if j = 0 ∧ 32 ≤ k ∧ k ≤ 36 then io (S 0 (k - 32)) else if 28 ≤ j ∧ j ≤ 32 then io (S (j - 27) k) else if j = 27 then io (S 6 k) else σ j k
theorem ov_0 (σ : Mem) (S : SS) {k : Nat} (h : k ≤ 4) : ov σ S 0 (32 + k) = io (S 0 k) := by
  unfold ov
  rw [if_pos ⟨rfl, by omega, by omega⟩]
  congr 2
  omega
theorem ov_r (σ : Mem) (S : SS) {j : Nat} (h1 : 1 ≤ j) (h2 : j ≤ 5) (k : Nat) : ov σ S (27 + j) k = io (S j k) := by
  unfold ov
  rw [if_neg (by omega), if_pos (by omega)]
  congr 2
  omega
theorem ov_g (σ : Mem) (S : SS) (k : Nat) : ov σ S 27 k = io (S 6 k) := by
  unfold ov
  rw [if_neg (by omega), if_neg (by omega), if_pos rfl]
theorem ov_o (σ : Mem) (S : SS) {j : Nat} (h0 : j ≠ 0) (h1 : j < 27 ∨ 32 < j) (k : Nat) : ov σ S j k = σ j k := by
  unfold ov
  rw [if_neg (by omega), if_neg (by omega), if_neg (by omega)]
theorem ov_oo (σ : Mem) (S : SS) {k : Nat} (h : k < 32 ∨ 36 < k) : ov σ S 0 k = σ 0 k := by
  unfold ov
  rw [if_neg (by omega), if_neg (by omega), if_neg (by omega)]
theorem mem_ext {σ τ : Mem} (h : ∀ j k, σ j k = τ j k) : σ = τ := funext fun j => funext fun k => h j k
theorem ov_w0 (σ : Mem) (S : SS) {k : Nat} (h : k ≤ 4) (v : Int) : mu (ov σ S) 0 (32 + k) (io v) = ov σ (su S 0 k v) := by
  refine mem_ext fun j' k' => ?_
  rw [mu_r]
  by_cases hc : j' = 0 ∧ k' = 32 + k
  · obtain ⟨rfl, rfl⟩ := hc
    rw [if_pos ⟨rfl, rfl⟩, ov_0 _ _ h, su_s]
  · rw [if_neg hc]
    unfold ov
    by_cases h1 : j' = 0 ∧ 32 ≤ k' ∧ k' ≤ 36
    · rw [if_pos h1, if_pos h1, su_n _ _ (by omega)]
    · rw [if_neg h1, if_neg h1]
      by_cases h2 : 28 ≤ j' ∧ j' ≤ 32
      · rw [if_pos h2, if_pos h2, su_n _ _ (by omega)]
      · rw [if_neg h2, if_neg h2]
        by_cases h3 : j' = 27
        · rw [if_pos h3, if_pos h3, su_n _ _ (by omega)]
        · rw [if_neg h3, if_neg h3]
theorem ov_wr (σ : Mem) (S : SS) {j : Nat} (h1 : 1 ≤ j) (h2 : j ≤ 5) (k : Nat) (v : Int) : mu (ov σ S) (27 + j) k (io v) = ov σ (su S j k v) := by
  refine mem_ext fun j' k' => ?_
  rw [mu_r]
  by_cases hc : j' = 27 + j ∧ k' = k
  · obtain ⟨rfl, rfl⟩ := hc
    rw [if_pos ⟨rfl, rfl⟩, ov_r _ _ h1 h2, su_s]
  · rw [if_neg hc]
    unfold ov
    by_cases g1 : j' = 0 ∧ 32 ≤ k' ∧ k' ≤ 36
    · rw [if_pos g1, if_pos g1, su_n _ _ (by omega)]
    · rw [if_neg g1, if_neg g1]
      by_cases g2 : 28 ≤ j' ∧ j' ≤ 32
      · rw [if_pos g2, if_pos g2, su_n _ _ (by omega)]
      · rw [if_neg g2, if_neg g2]
        by_cases g3 : j' = 27
        · rw [if_pos g3, if_pos g3, su_n _ _ (by omega)]
        · rw [if_neg g3, if_neg g3]
theorem ov_wg (σ : Mem) (S : SS) (k : Nat) (v : Int) : mu (ov σ S) 27 k (io v) = ov σ (su S 6 k v) := by
  refine mem_ext fun j' k' => ?_
  rw [mu_r]
  by_cases hc : j' = 27 ∧ k' = k
  · obtain ⟨rfl, rfl⟩ := hc
    rw [if_pos ⟨rfl, rfl⟩, ov_g, su_s]
  · rw [if_neg hc]
    unfold ov
    by_cases g1 : j' = 0 ∧ 32 ≤ k' ∧ k' ≤ 36
    · rw [if_pos g1, if_pos g1, su_n _ _ (by omega)]
    · rw [if_neg g1, if_neg g1]
      by_cases g2 : 28 ≤ j' ∧ j' ≤ 32
      · rw [if_pos g2, if_pos g2, su_n _ _ (by omega)]
      · rw [if_neg g2, if_neg g2]
        by_cases g3 : j' = 27
        · rw [if_pos g3, if_pos g3, su_n _ _ (by omega)]
        · rw [if_neg g3, if_neg g3]
/-- what the scratch cells hold -/
def vw (σ : Mem) : SS := fun j k => if j = 0 then (σ 0 (32 + k)).toInt else if j = 6 then (σ 27 k).toInt else (σ (27 + j) k).toInt
theorem ov_vw (σ : Mem) : ov σ (vw σ) = σ := by
  refine mem_ext fun j k => ?_
  unfold ov
  by_cases g1 : j = 0 ∧ 32 ≤ k ∧ k ≤ 36
  · rw [if_pos g1]
    unfold vw
    rw [if_pos rfl, ← io_of, g1.1, show 32 + (k - 32) = k by omega]
  · rw [if_neg g1]
    by_cases g2 : 28 ≤ j ∧ j ≤ 32
    · rw [if_pos g2]
      unfold vw
      rw [if_neg (by omega), if_neg (by omega), ← io_of, show 27 + (j - 27) = j by omega]
    · rw [if_neg g2]
      by_cases g3 : j = 27
      · rw [if_pos g3]
        unfold vw
        rw [if_neg (by omega), if_pos rfl, ← io_of, g3]
      · rw [if_neg g3]
theorem PM_ov {σ : Mem} {S : SS} {P : PS} (h : PM σ P) : PM (ov σ S) P := by
  obtain ⟨⟨a1, a2, a3, a4, a5, a6, a7⟩, b, c, d, e, f⟩ := h
  refine ⟨⟨?_, ?_, ?_, ?_, ?_, ?_, ?_⟩, fun i hi => ?_, fun i hi => ?_, fun i hi => ?_, fun i hi => ?_, fun i hi => ?_⟩
  · rw [ov_o _ _ (by omega) (by omega)]; exact a1
  · rw [ov_o _ _ (by omega) (by omega)]; exact a2
  · rw [ov_o _ _ (by omega) (by omega)]; exact a3
  · rw [ov_o _ _ (by omega) (by omega)]; exact a4
  · rw [ov_o _ _ (by omega) (by omega)]; exact a5
  · rw [ov_o _ _ (by omega) (by omega)]; exact a6
  · rw [ov_o _ _ (by omega) (by omega)]; exact a7
  · rw [ov_o _ _ (by omega) (by omega), ov_o _ _ (by omega) (by omega)]; exact b i hi
  · rw [ov_o _ _ (by omega) (by omega), ov_o _ _ (by omega) (by omega)]; exact c i hi
  · rw [ov_o _ _ (by omega) (by omega)]; exact d i hi
  · rw [ov_o _ _ (by omega) (by omega), ov_o _ _ (by omega) (by omega)]; exact e i hi
  · rw [ov_o _ _ (by omega) (by omega)]; exact f i hi
