/-! STEPS OF AN HOUR, and the reference's -/
def BS (S : SS) (t : Int) : Prop := (S 0 0 = 0 ∨ S 0 0 = 1 ∨ S 0 0 = 2) ∧ (0 ≤ S 0 1 ∧ S 0 1 ≤ t) ∧ (-2147483648 ≤ S 0 2 ∧ S 0 2 < 2147483648) ∧ (S 0 3 = 0 ∨ S 0 3 = 1) ∧ (0 ≤ S 0 4 ∧ S 0 4 ≤ 400) ∧ (∀ i, i < 6 → -4 ≤ S 1 i ∧ S 1 i ≤ 359 ∧ 0 ≤ S 2 i ∧ S 2 i ≤ t) ∧ (∀ i, i < 8 → -4 ≤ S 3 i ∧ S 3 i ≤ 359 ∧ 0 ≤ S 4 i ∧ S 4 i ≤ t ∧ (S 5 i = 0 ∨ S 5 i = 1))
theorem BS.g {S : SS} {t : Int} (h : BS S t) : BG S := fun i hi => ⟨(h.2.2.2.2.2.1 i hi).1, (h.2.2.2.2.2.1 i hi).2.1⟩
def cmove1 (P : PS) (S : SS) : SS := if S 0 0 = 1 then su (su S 0 1 (S 0 1 + 1)) 0 0 (if (P 0 3 : Int) ≤ S 0 1 + 1 then (if S 0 2 = 0 then 0 else 2) else 1) else S
def closesB (P : PS) (S : SS) (rule n b : Int) : Bool := decide (S 0 0 = 0) && wantsB P S rule n b && decide (S 0 4 ≤ b)
def opensB (P : PS) (S : SS) (rule n b : Int) : Bool := decide (S 0 0 = 2) && !wantsB P S rule n b && !passing P S b && decide (S 0 3 = 0)
def cmove2 (P : PS) (S : SS) (rule n b : Int) : SS := if closesB P S rule n b || opensB P S rule n b then su (su (su S 0 0 1) 0 1 0) 0 2 (if closesB P S rule n b then 1 else 0) else S
def cmove (P : PS) (S : SS) (rule n b : Int) : SS := cmove2 P (cmove1 P S) rule n b
section RefS
variable {σ : Mem} {P : PS} {S : SS} {t : Int}
theorem ov28 (i : Nat) : ov σ S 28 i = io (S 1 i) := ov_r σ S (j := 1) (by decide) (by decide) i
theorem ov29 (i : Nat) : ov σ S 29 i = io (S 2 i) := ov_r σ S (j := 2) (by decide) (by decide) i
theorem ov30 (i : Nat) : ov σ S 30 i = io (S 3 i) := ov_r σ S (j := 3) (by decide) (by decide) i
theorem ov31 (i : Nat) : ov σ S 31 i = io (S 4 i) := ov_r σ S (j := 4) (by decide) (by decide) i
theorem ov32 (i : Nat) : ov σ S 32 i = io (S 5 i) := ov_r σ S (j := 5) (by decide) (by decide) i
theorem o32 : ov σ S 0 32 = io (S 0 0) := ov_0 σ S (k := 0) (by decide)
theorem o33 : ov σ S 0 33 = io (S 0 1) := ov_0 σ S (k := 1) (by decide)
theorem o34 : ov σ S 0 34 = io (S 0 2) := ov_0 σ S (k := 2) (by decide)
theorem o35 : ov σ S 0 35 = io (S 0 3) := ov_0 σ S (k := 3) (by decide)
theorem o36 : ov σ S 0 36 = io (S 0 4) := ov_0 σ S (k := 4) (by decide)
theorem w32 (v : Int) : mu (ov σ S) 0 32 (io v) = ov σ (su S 0 0 v) := ov_w0 σ S (k := 0) (by decide) v
theorem w33 (v : Int) : mu (ov σ S) 0 33 (io v) = ov σ (su S 0 1 v) := ov_w0 σ S (k := 1) (by decide) v
theorem w34 (v : Int) : mu (ov σ S) 0 34 (io v) = ov σ (su S 0 2 v) := ov_w0 σ S (k := 2) (by decide) v
theorem w35 (v : Int) : mu (ov σ S) 0 35 (io v) = ov σ (su S 0 3 v) := ov_w0 σ S (k := 3) (by decide) v
theorem w36 (v : Int) : mu (ov σ S) 0 36 (io v) = ov σ (su S 0 4 v) := ov_w0 σ S (k := 4) (by decide) v
theorem w28 (i : Nat) (v : Int) : mu (ov σ S) 28 i (io v) = ov σ (su S 1 i v) := ov_wr σ S (j := 1) (by decide) (by decide) i v
theorem w29 (i : Nat) (v : Int) : mu (ov σ S) 29 i (io v) = ov σ (su S 2 i v) := ov_wr σ S (j := 2) (by decide) (by decide) i v
theorem w30 (i : Nat) (v : Int) : mu (ov σ S) 30 i (io v) = ov σ (su S 3 i v) := ov_wr σ S (j := 3) (by decide) (by decide) i v
theorem w31 (i : Nat) (v : Int) : mu (ov σ S) 31 i (io v) = ov σ (su S 4 i v) := ov_wr σ S (j := 4) (by decide) (by decide) i v
theorem w32r (i : Nat) (v : Int) : mu (ov σ S) 32 i (io v) = ov σ (su S 5 i v) := ov_wr σ S (j := 5) (by decide) (by decide) i v
theorem m_move132 (x : Bool) : f7_moveGates_b132 (ov σ S) (bi x) = some (ov σ (su (su (su S 0 0 1) 0 1 0) 0 2 (if x then 1 else 0))) := by
  unfold f7_moveGates_b132
  simp only [bm]
  rw [n1, w32, n0, w33]
  cases x with
  | true => rw [bi_t, n1, w34]; exact if_pos (Or.inr rfl)
  | false => rw [bi_f, n0, w34]; exact if_pos (Or.inl rfl)
theorem m_move120 (c o : Bool) : f7_moveGates_b120 (ov σ S) (bi c) (bi o) = some (ov σ (if c || o then su (su (su S 0 0 1) 0 1 0) 0 2 (if c then 1 else 0) else S)) := by
  unfold f7_moveGates_b120
  cases c <;> cases o
  · rfl
  · rw [m_move132]; rfl
  · rw [m_move132]; rfl
  · rw [m_move132]; rfl
theorem m_move51 (hB : PB P) (hP : PM σ P) (hS : BS S t) (ht : t ≤ 100000) {b rule n : Int} (b0 : 0 ≤ b) (b1 : b < 360) (n0' : 0 ≤ n) (n1' : n < 400) (r0 : 0 ≤ rule) (r1 : rule ≤ 4) : f7_moveGates_b51 (ov σ S) (io rule) (io n) (io b) = some (ov σ (cmove2 P S rule n b)) := by
  have hw := m_wantsShut (σ := ov σ S) (S := S) (rule := rule) (n := n) (b := b) hB (PM_ov hP) (fun i _ => ov28 i) hS.g o35 hS.2.2.2.1 b0 (by omega) n0' n1' r0 r1
  have hp := m_isPassing (σ := ov σ S) (S := S) (b := b) hB (PM_ov hP) (fun i _ => ov28 i) hS.g b0 (by omega)
  obtain ⟨h0, h1, h2, h3, h4, h5, h6⟩ := hS
  have key : ∀ c : Bool, f7_moveGates_b85 (ov σ S) (io b) (bi (wantsB P S rule n b)) (bi c) = f7_moveGates_b120 (ov σ S) (bi c) (bi (opensB P S rule n b)) := by
    intro c
    unfold f7_moveGates_b85 f7_moveGates_b119 opensB
    rw [hp, o32, o35]
    simp only [Option.bind]
    cases wantsB P S rule n b <;> cases passing P S b <;> rcases h0 with h | h | h <;> rcases h3 with g | g <;> rw [h, g] <;> rfl
  unfold f7_moveGates_b51 f7_moveGates_b84 cmove2
  rw [hw, o32, o36]
  have k0 := key false
  have k1 := key true
  rw [bi_f] at k0
  rw [bi_t] at k1
  simp only [Option.bind]
  simp (disch := omega) only [io_lt]
  rw [k0, k1, ← bi_f, m_move120, ← bi_t, m_move120]
  have hc : closesB P S rule n b = (decide (S 0 0 = 0) && wantsB P S rule n b && decide (S 0 4 ≤ b)) := rfl
  by_cases e4 : b < S 0 4
  · rw [if_pos e4]
    rw [decide_eq_false (show ¬ S 0 4 ≤ b by omega), Bool.and_false] at hc
    rw [hc]
    cases wantsB P S rule n b <;> rcases h0 with h | h | h <;> rw [h] <;> rfl
  · rw [if_neg e4]
    rw [decide_eq_true (show S 0 4 ≤ b by omega), Bool.and_true] at hc
    rw [hc]
    cases wantsB P S rule n b <;> rcases h0 with h | h | h <;> rw [h] <;> rfl
end RefS
