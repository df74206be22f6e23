/-! TRAINS -/
theorem fold_loop {α β : Type} (F : Nat → α → Int32 → Option β) (fin : α → Option β) (N : Nat) (f : Nat → α → α) (I : Nat → α → Prop) {a0 : α} (h0 : I 0 a0) (hI : ∀ i a, i < N → I i a → I (i + 1) (f i a)) (hend : ∀ n a, I N a → F (n + 1) a (io N) = fin a) (hstep : ∀ n i a, i < N → I i a → F (n + 1) a (io i) = F n (f i a) (io ((i : Int) + 1))) : ∀ n, N < n → F n a0 0 = fin (foldN N f a0) ∧ I N (foldN N f a0) := by
  have hfI : ∀ i, i ≤ N → I i (foldN i f a0) := by
    intro i
    induction i with
    | zero => intro _; exact h0
    | succ i ih => intro h; exact hI i _ (by omega) (ih (by omega))
  have key : ∀ k i n, i + k = N → k < n → F n (foldN i f a0) (io i) = fin (foldN N f a0) := by
    intro k
    induction k with
    | zero =>
      intro i n h1 h2
      obtain ⟨n, rfl⟩ : ∃ m, n = m + 1 := ⟨n - 1, by omega⟩
      have : i = N := by omega
      subst this
      exact hend n _ (hfI i (Nat.le_refl _))
    | succ k ih =>
      intro i n h1 h2
      obtain ⟨n, rfl⟩ : ∃ m, n = m + 1 := ⟨n - 1, by omega⟩
      rw [hstep n i _ (by omega) (hfI i (by omega))]
      exact ih (i + 1) n (by omega) (by omega)
  intro n hn
  exact ⟨key N 0 n (by omega) hn, hfI N (Nat.le_refl _)⟩
def ctr (P : PS) (b : Int) (i : Nat) (S : SS) : SS := if come P i ≤ b ∧ S 1 i < 0 then (if S 0 0 = 2 ∧ passing P S b = false ∧ S 0 4 ≤ b then su S 1 i b else su (su S 2 i (S 2 i + 1)) 0 3 1) else S
def ctrains (P : PS) (b : Int) (S : SS) : SS := foldN (P 0 0) (ctr P b) (su S 0 3 0)
theorem BS.mono {S : SS} {t u : Int} (h : BS S t) (htu : t ≤ u) : BS S u := by
  obtain ⟨h0, h1, h2, h3, h4, h5, h6⟩ := h
  exact ⟨h0, ⟨h1.1, by omega⟩, h2, h3, h4, fun i hi => by have := h5 i hi; omega, fun i hi => by have := h6 i hi; omega⟩
theorem BS_3 {S : SS} {t v : Int} (h : BS S t) (hv : v = 0 ∨ v = 1) : BS (su S 0 3 v) t := by
  obtain ⟨h0, h1, h2, h3, h4, h5, h6⟩ := h
  refine ⟨by rw [su_n _ _ (by decide)]; exact h0, by rw [su_n _ _ (by decide)]; exact h1, by rw [su_n _ _ (by decide)]; exact h2, by rw [su_s]; exact hv, by rw [su_n _ _ (by decide)]; exact h4, fun i hi => ?_, fun i hi => ?_⟩
  · rw [su_n _ _ (by omega), su_n _ _ (by omega)]; exact h5 i hi
  · rw [su_n _ _ (by omega), su_n _ _ (by omega), su_n _ _ (by omega)]; exact h6 i hi
theorem BS_1 {S : SS} {t v : Int} {k : Nat} (h : BS S t) (hv : -4 ≤ v ∧ v ≤ 359) : BS (su S 1 k v) t := by
  obtain ⟨h0, h1, h2, h3, h4, h5, h6⟩ := h
  refine ⟨by rw [su_n _ _ (by omega)]; exact h0, by rw [su_n _ _ (by omega)]; exact h1, by rw [su_n _ _ (by omega)]; exact h2, by rw [su_n _ _ (by omega)]; exact h3, by rw [su_n _ _ (by omega)]; exact h4, fun i hi => ?_, fun i hi => ?_⟩
  · rw [su_n (j' := 2) _ _ (by omega)]
    have := h5 i hi
    by_cases e : i = k
    · subst e; rw [su_s]; omega
    · rw [su_n _ _ (by omega)]; exact this
  · rw [su_n _ _ (by omega), su_n _ _ (by omega), su_n _ _ (by omega)]; exact h6 i hi
theorem BS_2 {S : SS} {t v : Int} {k : Nat} (h : BS S t) (hv : 0 ≤ v ∧ v ≤ t) : BS (su S 2 k v) t := by
  obtain ⟨h0, h1, h2, h3, h4, h5, h6⟩ := h
  refine ⟨by rw [su_n _ _ (by omega)]; exact h0, by rw [su_n _ _ (by omega)]; exact h1, by rw [su_n _ _ (by omega)]; exact h2, by rw [su_n _ _ (by omega)]; exact h3, by rw [su_n _ _ (by omega)]; exact h4, fun i hi => ?_, fun i hi => ?_⟩
  · rw [su_n (j' := 1) _ _ (by omega)]
    have := h5 i hi
    by_cases e : i = k
    · subst e; rw [su_s]; omega
    · rw [su_n _ _ (by omega)]; exact this
  · rw [su_n _ _ (by omega), su_n _ _ (by omega), su_n _ _ (by omega)]; exact h6 i hi
section RefT
variable {σ : Mem} {P : PS} {S : SS} {t : Int}
theorem BS_ctr {b : Int} {i : Nat} (hi : i < 6) (b0 : 0 ≤ b) (b1 : b < 360) (hS : BS S t) : BS (ctr P b i S) (t + 1) := by
  have h5 := hS.2.2.2.2.2.1 i hi
  unfold ctr
  split
  · split
    · exact (BS_1 hS (by omega)).mono (by omega)
    · exact BS_3 (BS_2 (hS.mono (by omega)) (by omega)) (Or.inr rfl)
  · exact hS.mono (by omega)
theorem m_goTrains (hB : PB P) (hP : PM σ P) (hS : BS S t) (ht : t < 90000) {b : Int} (b0 : 0 ≤ b) (b1 : b < 360) : f7_goTrains (ov σ S) (io b) = some (ov σ (ctrains P b S)) ∧ BS (ctrains P b S) (t + P 0 0) := by
  have h6 := hB.2.1
  unfold f7_goTrains ctrains
  simp only [bm]
  rw [n0, w35]
  refine fold_loop (fun n S i => f7_goTrains_b7 n (ov σ S) (io b) i) (fun S => some (ov σ S)) (P 0 0) (ctr P b) (fun i S => BS S (t + i)) (by simpa using BS_3 hS (Or.inl rfl)) (fun i S hi h => by have := BS_ctr (P := P) (i := i) (show i < 6 by omega) b0 b1 h; rw [show t + (i : Int) + 1 = t + ((i + 1 : Nat) : Int) by omega] at this; exact this) (fun n S _ => ?_) (fun n i S hi h => ?_) 1000 (by omega)
  · show f7_goTrains_b7 (n + 1) _ _ _ = _
    rw [f7_goTrains_b7, (PM_ov hP).1.1, if_pos (Int32.le_refl _)]
  · show f7_goTrains_b7 (n + 1) _ _ _ = f7_goTrains_b7 n _ _ _
    have hc := come_lt hB i
    have h5 := h.2.2.2.2.2.1 i (by omega)
    have h4 := h.2.2.2.2.1
    have h0 := h.1
    have e1 : io (i : Int) + 1 = io ((i : Int) + 1) := io_add _ 1
    have g6 := in_ix (i := i) (n := 6) (by omega) (by decide)
    have hp := m_isPassing (σ := ov σ S) (S := S) (b := b) hB (PM_ov hP) (fun i _ => ov28 i) h.g b0 (by omega)
    have h69 : f7_goTrains_b69 (f7_goTrains_b7 n) (ov σ S) (io b) (io i) = f7_goTrains_b7 n (ov σ (su (su S 2 i (S 2 i + 1)) 0 3 1)) (io b) (io ((i : Int) + 1)) := by
      unfold f7_goTrains_b69
      rw [if_pos g6, if_pos g6, io_ix (by omega)]
      simp only [bm]
      rw [ov29, n1, io_add, w29, w35, ← n1, e1]
    rw [f7_goTrains_b7, (PM_ov hP).1.1, if_neg (by rw [io_le (by omega) (by omega) (by omega) (by omega)]; omega), m_comesAt hB (PM_ov hP) hi, hp, h69, if_pos g6, if_pos g6, io_ix (by omega), e1, ov28, o32, o36]
    simp only [Option.bind, bm, w28]
    simp (disch := omega) only [n0, n2, io_lt, io_le, io_eq]
    unfold ctr
    by_cases c1 : b < come P i
    · rw [if_pos c1, if_neg (by omega)]
    · rw [if_neg c1]
      by_cases c2 : 0 ≤ S 1 i
      · rw [if_pos c2, if_neg (by omega)]
      · rw [if_neg c2, if_pos (show come P i ≤ b ∧ S 1 i < 0 by omega)]
        by_cases c3 : S 0 0 = 2
        · rw [if_pos c3]
          cases hq : passing P S b with
          | true => rw [if_neg (by decide), if_neg (by simp)]
          | false =>
            rw [if_pos (by rfl)]
            by_cases c4 : b < S 0 4
            · rw [if_pos c4, if_neg (by omega)]
            · rw [if_neg c4, if_pos ⟨c3, rfl, by omega⟩]
        · rw [if_neg c3, if_neg (fun z => c3 z.1)]
end RefT
