/-! USERS -/
def wtB (P : PS) (S : SS) (b : Int) (i : Nat) : Bool := decide (6 * (P 3 i : Int) ≤ b ∧ S 3 i < 0 ∧ S 5 i = 0)
def crB (P : PS) (S : SS) (i : Nat) : Bool := decide (S 0 0 = 0) || (decide (S 0 0 = 1) && decide (P 4 i = 3))
def cnx (P : PS) (S : SS) (b : Int) (i : Nat) (f : Int) : Int := if wtB P S b i = true ∧ crB P S i = true ∧ (f < 0 ∨ P 4 i = 2 ∧ P 4 f.toNat ≠ 2) then i else f
def cnext (P : PS) (S : SS) (b : Int) : Int := foldN (P 0 1) (cnx P S b) (-4)
def durB (s : Nat) : Int := if s = 0 then 2 else if s = 1 then 30 else 1
def cwt (P : PS) (b : Int) (i : Nat) (S : SS) : SS := if wtB P S b i then su (su S 4 i (S 4 i + 1)) 5 i (if S 4 i + 1 = P 0 5 then 1 else 0) else S
def cgo (P : PS) (b : Int) (S : SS) (f : Int) : SS := if f < 0 then S else su (su S 3 f.toNat b) 0 4 (b + durB (P 4 f.toNat))
def cusers (P : PS) (b : Int) (S : SS) : SS := foldN (P 0 1) (cwt P b) (cgo P b S (if S 0 4 ≤ b ∧ passing P S b = false then cnext P S b else -4))
section RefU
variable {σ : Mem} {P : PS} {S : SS} {t : Int}
theorem m_isWaiting (hB : PB P) (hP : PM σ P) (hS : BS S t) {b : Int} (b0 : 0 ≤ b) (b1 : b < 360) {i : Nat} (hi : i < P 0 1) : f7_isWaiting (ov σ S) (io i) (io b) = some (bi (wtB P S b i)) := by
  have h8 := hB.2.2.1
  have hr := hB.2.2.2.2.2.2.2.2.2.2 i
  have h6 := hS.2.2.2.2.2.2 i (by omega)
  unfold f7_isWaiting wtB
  have g8 := in_ix (i := i) (n := 8) (by omega) (by decide)
  rw [if_pos (in_ix (n := 16) (by omega) (by decide)), if_pos g8, if_pos g8, io_ix (by omega), ((PM_ov hP).2.2.1 i hi).1, ov30, ov32]
  simp (disch := omega) only [n0, n6, io_mul, io_lt, io_le, io_eq]
  by_cases c1 : b < 6 * (P 3 i : Int)
  · rw [if_pos c1, decide_eq_false (by omega)]; rfl
  · rw [if_neg c1]
    by_cases c2 : 0 ≤ S 3 i
    · rw [if_pos c2, decide_eq_false (by omega)]; rfl
    · rw [if_neg c2]
      by_cases c3 : S 5 i = 0
      · rw [if_pos c3, decide_eq_true (by omega)]; rfl
      · rw [if_neg c3, decide_eq_false (by omega)]; rfl
theorem m_canCross (hB : PB P) (hP : PM σ P) (hS : BS S t) {i : Nat} (hi : i < P 0 1) : f7_canCross (ov σ S) (io i) = some (bi (crB P S i)) := by
  have h8 := hB.2.2.1
  have hr := hB.2.2.2.2.2.2.2.2.2.2 i
  have h0 := hS.1
  unfold f7_canCross crB
  rw [if_pos (in_ix (n := 16) (by omega) (by decide)), io_ix (by omega), ((PM_ov hP).2.2.1 i hi).2, o32]
  simp (disch := omega) only [n0, n1, n3, io_eq]
  rcases h0 with h | h | h
  · rw [if_pos h, h]; rfl
  · rw [if_neg (by omega), if_pos h, h]
    by_cases c : P 4 i = 3
    · rw [if_pos (by omega), c]; rfl
    · rw [if_neg (by omega), decide_eq_false c]; rfl
  · rw [if_neg (by omega), if_neg (by omega), h]; rfl
theorem cnx_rng (hB : PB P) {b : Int} : cnext P S b = -4 ∨ (0 ≤ cnext P S b ∧ cnext P S b < P 0 1) := by
  have key : ∀ n : Nat, n ≤ P 0 1 → foldN n (cnx P S b) (-4) = -4 ∨ (0 ≤ foldN n (cnx P S b) (-4) ∧ foldN n (cnx P S b) (-4) < P 0 1) := by
    intro n
    induction n with
    | zero => intro _; exact Or.inl rfl
    | succ n ih =>
      intro h
      have := ih (by omega)
      show cnx P S b n _ = -4 ∨ (0 ≤ cnx P S b n _ ∧ cnx P S b n _ < _)
      unfold cnx
      split
      · omega
      · exact this
  exact key _ (Nat.le_refl _)
theorem m_nextUser (hB : PB P) (hP : PM σ P) (hS : BS S t) {b : Int} (b0 : 0 ≤ b) (b1 : b < 360) : f7_nextUser (ov σ S) (io b) = some (io (cnext P S b)) := by
  have h8 := hB.2.2.1
  unfold f7_nextUser cnext
  rw [nm4]
  refine (fold_loop (fun n f i => f7_nextUser_b5 (ov σ S) n (io b) (io f) i) (fun f => some (io f)) (P 0 1) (cnx P S b) (fun i f => f = -4 ∨ (0 ≤ f ∧ f < i)) (Or.inl rfl) (fun i f hi h => ?_) (fun n f _ => ?_) (fun n i f hi h => ?_) 1000 (by omega)).1
  · unfold cnx
    split
    · omega
    · omega
  · show f7_nextUser_b5 _ (n + 1) _ _ _ = _
    rw [f7_nextUser_b5, (PM_ov hP).1.2.1, if_pos (Int32.le_refl _)]
  · show f7_nextUser_b5 _ (n + 1) _ _ _ = f7_nextUser_b5 _ n _ _ _
    have hr := hB.2.2.2.2.2.2.2.2.2.2 i
    have e1 : io (i : Int) + 1 = io ((i : Int) + 1) := io_add _ 1
    rw [f7_nextUser_b5, (PM_ov hP).1.2.1, if_neg (by rw [io_le (by omega) (by omega) (by omega) (by omega)]; omega), m_isWaiting hB hP hS b0 b1 hi, m_canCross hB hP hS hi, e1, if_pos (in_ix (n := 16) (by omega) (by decide)), io_ix (by omega), ((PM_ov hP).2.2.1 i hi).2]
    simp only [Option.bind]
    unfold cnx
    cases wtB P S b i with
    | false => rw [if_pos (by rfl), if_neg (by simp)]
    | true =>
      rw [if_neg (by decide)]
      cases crB P S i with
      | false => rw [if_pos (by rfl), if_neg (by simp)]
      | true =>
        rw [if_neg (by decide)]
        rcases h with rfl | h
        · rw [if_pos (by decide), if_pos ⟨rfl, rfl, Or.inl (by decide)⟩]
        · obtain ⟨m, rfl⟩ : ∃ m : Nat, f = (m : Int) := ⟨f.toNat, by omega⟩
          have hm : m < P 0 1 := by omega
          have hr2 := hB.2.2.2.2.2.2.2.2.2.2 m
          rw [if_neg (show ¬ io (m : Int) < 0 by rw [n0, io_lt (by omega) (by omega) (by omega) (by omega)]; omega), if_pos (in_ix (i := m) (n := 16) (by omega) (by decide)), io_ix (by omega), ((PM_ov hP).2.2.1 m hm).2]
          by_cases c2 : P 4 i = 2
          · rw [if_pos (show io ((P 4 i : Nat) : Int) = 2 by rw [c2]; rfl)]
            by_cases c3 : P 4 m = 2
            · rw [if_pos (show io ((P 4 m : Nat) : Int) = 2 by rw [c3]; rfl), if_neg (by rintro ⟨-, -, z | z⟩; omega; exact z.2 (by simpa using c3))]
            · rw [if_neg (show ¬ io ((P 4 m : Nat) : Int) = 2 by rw [n2, io_eq (by omega) (by omega) (by omega) (by omega)]; omega), if_pos ⟨rfl, rfl, Or.inr ⟨c2, by simpa using c3⟩⟩]
          · rw [if_neg (show ¬ io ((P 4 i : Nat) : Int) = 2 by rw [n2, io_eq (by omega) (by omega) (by omega) (by omega)]; omega), if_neg (by rintro ⟨-, -, z | z⟩; omega; exact c2 z.1)]
end RefU
