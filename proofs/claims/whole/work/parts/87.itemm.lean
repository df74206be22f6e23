/-! THE REFERENCE READS AN ITEM -/
def lowN (j : Nat) : Nat := if j = 3 ∨ j = 6 ∨ j = 11 ∨ j = 14 then 1 else if j = 4 ∨ j = 5 ∨ j = 12 ∨ j = 13 then 6 else if j = 7 ∨ j = 8 then 8 else if j = 9 ∨ j = 10 then 4 else 5
def FM (σ σ' : Mem) : Prop := (∀ k, k ≠ 24 → σ' 0 k = σ 0 k) ∧ (∀ j, j ≠ 0 → (j < 3 ∨ 16 < j) → j ≠ 26 → σ' j = σ j) ∧ ∀ j k, 3 ≤ j → j ≤ 16 → k < lowN j → σ' j k = σ j k
def MR (σ : Mem) (jc ja jb o n : Nat) (f g : Nat → Nat) : Prop := σ jc 1 = io n ∧ ∀ i, i < n → σ ja (o + i) = io (f i) ∧ σ jb (o + i) = io (g i)
def ME (σ : Mem) (E : PS) : Prop := MR σ 3 4 5 6 (E 0 0) (E 1) (E 2) ∧ MR σ 6 7 8 8 (E 0 1) (E 3) (E 4) ∧ MR σ 11 12 13 6 (E 0 2) (E 6) (E 7) ∧ MR σ 14 15 16 5 (E 0 7) (E 9) (E 10) ∧ (∀ k, k < 4 → σ 10 (4 + k) = io (E 8 k)) ∧ σ 9 4 = io (E 0 3) ∧ σ 9 5 = io (E 0 4) ∧ σ 9 6 = io (E 0 5) ∧ σ 9 7 = io (E 0 6)
def OM (σ : Mem) (x : Option (Mem × Int32)) : Option (PS × Nat) → Prop
  | some q => ∃ σ', x = some (σ', io 1) ∧ ME σ' q.1 ∧ σ' 0 24 = io q.2 ∧ FM σ σ'
  | none => ∃ σ', x = some (σ', io 0) ∧ FM σ σ'
section ItemM
variable {σ σ' σ1 : Mem} {l : Nat} {X : Nat → Nat} {E : PS} {p : Nat}
theorem FM.trans (h1 : FM σ σ1) (h2 : FM σ1 σ') : FM σ σ' := ⟨fun k hk => (h2.1 k hk).trans (h1.1 k hk), fun j z1 z2 z3 => (h2.2.1 j z1 z2 z3).trans (h1.2.1 j z1 z2 z3), fun j k z1 z2 z3 => (h2.2.2 j k z1 z2 z3).trans (h1.2.2 j k z1 z2 z3)⟩
theorem FM.refl : FM σ σ := ⟨fun _ _ => rfl, fun _ _ _ _ => rfl, fun _ _ _ _ _ => rfl⟩
theorem FN.fm (h : FN σ σ') : FM σ σ' := ⟨h.1, fun j z1 _ z3 => h.2 j z1 z3, fun j k z1 z2 _ => by rw [h.2 j (by omega) (by omega)]⟩
theorem FM_mu {j k : Nat} (h3 : 3 ≤ j) (h16 : j ≤ 16) (hk : lowN j ≤ k) (x : Int32) : FM σ (mu σ j k x) := ⟨fun k' _ => by rw [mu_j _ _ _ (by omega)], fun j' z1 z2 _ => mu_j _ _ _ (by omega), fun j' k' z1 z2 z3 => by
  by_cases e : j' = j
  · subst e; rw [mu_k _ _ (by omega)]
  · rw [mu_j _ _ _ e]⟩
theorem FM.mt (h : FM σ σ') (hT : MT σ l X) : MT σ' l X := MT_fr (h.1 0 (by omega)) (h.2.1 2 (by omega) (by omega) (by omega)) hT
theorem MR_fr {jc ja jb o n : Nat} {f g : Nat → Nat} (h1 : σ' jc 1 = σ jc 1) (h2 : σ' ja = σ ja) (h3 : σ' jb = σ jb) (H : MR σ jc ja jb o n f g) : MR σ' jc ja jb o n f g := by
  unfold MR at *
  rw [h1, h2, h3]
  exact H
theorem MR_add {jc ja jb o n v w : Nat} {f g : Nat → Nat} (hab : ja ≠ jb) (hac : ja ≠ jc) (hbc : jb ≠ jc) (H : MR σ jc ja jb o n f g) : MR (mu (mu (mu σ ja (o + n) (io v)) jb (o + n) (io w)) jc 1 (io ((n : Int) + 1))) jc ja jb o (n + 1) (du f n v) (du g n w) := by
  obtain ⟨h1, h2⟩ := H
  refine ⟨?_, fun i hi => ?_⟩
  · rw [mu_s]; rfl
  · by_cases e : i = n
    · subst e
      simp (disch := omega) only [mu_s, mu_k, mu_j, du_s]
      exact ⟨trivial, trivial⟩
    · simp (disch := omega) only [mu_s, mu_k, mu_j, du_n]
      exact h2 i (by omega)
theorem ME_fn (h : FN σ σ') (H : ME σ E) : ME σ' E := by
  have f : ∀ j, 3 ≤ j → j ≤ 16 → σ' j = σ j := fun j z1 z2 => h.2 j (by omega) (by omega)
  obtain ⟨h1, h2, h3, h4, h5, h6⟩ := H
  refine ⟨MR_fr (by rw [f 3 (by omega) (by omega)]) (f 4 (by omega) (by omega)) (f 5 (by omega) (by omega)) h1, MR_fr (by rw [f 6 (by omega) (by omega)]) (f 7 (by omega) (by omega)) (f 8 (by omega) (by omega)) h2, MR_fr (by rw [f 11 (by omega) (by omega)]) (f 12 (by omega) (by omega)) (f 13 (by omega) (by omega)) h3, MR_fr (by rw [f 14 (by omega) (by omega)]) (f 15 (by omega) (by omega)) (f 16 (by omega) (by omega)) h4, ?_, ?_⟩
  · rw [f 10 (by omega) (by omega)]; exact h5
  · rw [f 9 (by omega) (by omega)]; exact h6
theorem m_setTold {k : Nat} {v a b : Int} (hk : k < 4) (v0 : 0 ≤ v) (v1 : v ≤ 1000) (a0 : 0 ≤ a) (a1 : a ≤ 1000) (b0 : 0 ≤ b) (b1 : b ≤ 1000) : f7_setTold σ (io k) (io v) (io a) (io b) = some (mu σ 9 (4 + k) (io v), bi (decide (a ≤ v ∧ v ≤ b))) := by
  have hx : 4 + io (k : Int) = io ((4 + k : Nat) : Int) := by rw [n4, io_add]; congr 1
  unfold f7_setTold
  rw [hx, if_pos (in_ix (n := 8) (by omega) (by decide)), io_ix (by omega), obm, m_in2 (a := a) (b := b) (by rw [i64_toInt, io_toInt (by omega) (by omega)]) (by rw [i64_toInt, io_toInt (by omega) (by omega)]) (by omega) (by omega), obs, if_pos (bi_01 _)]
theorem m_addTrain {n : Nat} {x2 x3 : Int32} (h : σ 3 1 = io n) (hn : n < 6) : f7_addTrain σ 1 x2 x3 = some (mu (mu (mu σ 4 (6 + n) x2) 5 (6 + n) x3) 3 1 (io ((n : Int) + 1))) := by
  have hx : (6 * (1 : Int32)) + io (n : Int) = io ((6 + n : Nat) : Int) := by rw [n6, n1, io_mul, io_add]; congr 1
  unfold f7_addTrain
  show (if ¬ ((1 : Int32) < 0 ∨ 2 ≤ (1 : Int32).toNatClampNeg) then if ¬ ((6 * (1 : Int32)) + (σ 3 1) < 0 ∨ 12 ≤ ((6 * (1 : Int32)) + (σ 3 1)).toNatClampNeg) then (bm (mu σ 4 (((6 * (1 : Int32)) + (σ 3 1)).toNatClampNeg) x2) fun σ3 => if ¬ ((1 : Int32) < 0 ∨ 2 ≤ (1 : Int32).toNatClampNeg) then if ¬ ((6 * (1 : Int32)) + (σ3 3 1) < 0 ∨ 12 ≤ ((6 * (1 : Int32)) + (σ3 3 1)).toNatClampNeg) then (bm (mu σ3 5 (((6 * (1 : Int32)) + (σ3 3 1)).toNatClampNeg) x3) fun σ6 => if ¬ ((1 : Int32) < 0 ∨ 2 ≤ (1 : Int32).toNatClampNeg) then if ¬ ((1 : Int32) < 0 ∨ 2 ≤ (1 : Int32).toNatClampNeg) then (bm (mu σ6 3 1 ((σ6 3 1) + 1)) fun σ9 => some σ9) else none else none) else none else none) else none else none) = _
  rw [if_pos (by decide), h, hx, if_pos (in_ix (n := 12) (by omega) (by decide)), io_ix (by omega), obm, if_pos (by decide), mu_j _ _ _ (by omega), h, hx, if_pos (in_ix (n := 12) (by omega) (by decide)), io_ix (by omega), obm, if_pos (by decide), if_pos (by decide), mu_j _ _ _ (by omega), mu_j _ _ _ (by omega), h, n1, io_add, obm]
theorem m_addUser {n : Nat} {x2 x3 : Int32} (h : σ 6 1 = io n) (hn : n < 8) : f7_addUser σ 1 x2 x3 = some (mu (mu (mu σ 7 (8 + n) x2) 8 (8 + n) x3) 6 1 (io ((n : Int) + 1))) := by
  have hx : (8 * (1 : Int32)) + io (n : Int) = io ((8 + n : Nat) : Int) := by rw [n8, n1, io_mul, io_add]; congr 1
  unfold f7_addUser
  show (if ¬ ((1 : Int32) < 0 ∨ 2 ≤ (1 : Int32).toNatClampNeg) then if ¬ ((8 * (1 : Int32)) + (σ 6 1) < 0 ∨ 16 ≤ ((8 * (1 : Int32)) + (σ 6 1)).toNatClampNeg) then (bm (mu σ 7 (((8 * (1 : Int32)) + (σ 6 1)).toNatClampNeg) x2) fun σ3 => if ¬ ((1 : Int32) < 0 ∨ 2 ≤ (1 : Int32).toNatClampNeg) then if ¬ ((8 * (1 : Int32)) + (σ3 6 1) < 0 ∨ 16 ≤ ((8 * (1 : Int32)) + (σ3 6 1)).toNatClampNeg) then (bm (mu σ3 8 (((8 * (1 : Int32)) + (σ3 6 1)).toNatClampNeg) x3) fun σ6 => if ¬ ((1 : Int32) < 0 ∨ 2 ≤ (1 : Int32).toNatClampNeg) then if ¬ ((1 : Int32) < 0 ∨ 2 ≤ (1 : Int32).toNatClampNeg) then (bm (mu σ6 6 1 ((σ6 6 1) + 1)) fun σ9 => some σ9) else none else none) else none else none) else none else none) = _
  rw [if_pos (by decide), h, hx, if_pos (in_ix (n := 16) (by omega) (by decide)), io_ix (by omega), obm, if_pos (by decide), mu_j _ _ _ (by omega), h, hx, if_pos (in_ix (n := 16) (by omega) (by decide)), io_ix (by omega), obm, if_pos (by decide), if_pos (by decide), mu_j _ _ _ (by omega), mu_j _ _ _ (by omega), h, n1, io_add, obm]
theorem tk_none {L v w : Nat} (h : L ≠ 97 ∧ L ≠ 99 ∧ L ≠ 103 ∧ L ≠ 107 ∧ L ≠ 111 ∧ L ≠ 116 ∧ L ≠ 117 ∧ L ≠ 119) : tk E L v w = none := by
  unfold tk
  rw [if_neg h.1, if_neg h.2.1, if_neg h.2.2.1, if_neg h.2.2.2.1, if_neg h.2.2.2.2.1, if_neg h.2.2.2.2.2.1, if_neg h.2.2.2.2.2.2.1, if_neg h.2.2.2.2.2.2.2]
theorem tk_97 (v w : Nat) : tk E 97 v w = (if 1 ≤ v ∧ v ≤ 99 ∧ w ≤ 99 then some (eu (eu E 0 5 v) 0 6 w) else none) := by
  unfold tk
  rw [if_pos rfl]
theorem tk_99 (v w : Nat) : tk E 99 v w = (if v ≤ 99 then some (eu E 0 4 v) else none) := by
  unfold tk
  rw [if_neg (by decide), if_pos rfl]
theorem tk_103 (v w : Nat) : tk E 103 v w = (if 1 ≤ v ∧ v ≤ 9 then some (eu E 0 3 v) else none) := by
  unfold tk
  rw [if_neg (by decide), if_neg (by decide), if_pos rfl]
theorem tk_107 (v w : Nat) : tk E 107 v w = (if v < w ∧ w ≤ 60 ∧ E 0 2 < 6 then some (eu (eu (eu E 6 (E 0 2) v) 7 (E 0 2) w) 0 2 (E 0 2 + 1)) else none) := by
  unfold tk
  rw [if_neg (by decide), if_neg (by decide), if_neg (by decide), if_pos rfl]
theorem tk_111 (v w : Nat) : tk E 111 v w = (if v ≤ 9 ∧ w ≤ 10 ∧ E 0 7 < 5 then some (eu (eu (eu E 9 (E 0 7) v) 10 (E 0 7) w) 0 7 (E 0 7 + 1)) else none) := by
  unfold tk
  rw [if_neg (by decide), if_neg (by decide), if_neg (by decide), if_neg (by decide), if_pos rfl]
theorem tk_116 (v w : Nat) : tk E 116 v w = (if v ≤ 59 ∧ w ≤ 2 ∧ E 0 0 < 6 then some (eu (eu (eu E 1 (E 0 0) v) 2 (E 0 0) w) 0 0 (E 0 0 + 1)) else none) := by
  unfold tk
  rw [if_neg (by decide), if_neg (by decide), if_neg (by decide), if_neg (by decide), if_neg (by decide), if_pos rfl]
theorem tk_117 (v w : Nat) : tk E 117 v w = (if v ≤ 59 ∧ w ≤ 3 ∧ E 0 1 < 8 then some (eu (eu (eu E 3 (E 0 1) v) 4 (E 0 1) w) 0 1 (E 0 1 + 1)) else none) := by
  unfold tk
  rw [if_neg (by decide), if_neg (by decide), if_neg (by decide), if_neg (by decide), if_neg (by decide), if_neg (by decide), if_pos rfl]
theorem tk_119 (v w : Nat) : tk E 119 v w = (if v ≤ 3 ∧ w ≤ 9 then some (eu E 8 v w) else none) := by
  unfold tk
  rw [if_neg (by decide), if_neg (by decide), if_neg (by decide), if_neg (by decide), if_neg (by decide), if_neg (by decide), if_neg (by decide), if_pos rfl]
theorem m_item (hX : XB l X) (hE : EB E) (hT : MT σ l X) (H : ME σ E) (hs : σ 0 24 = io p) (hp : p < l) : OM σ (f7_item σ) (itm l X E p) := by
  have hl := hX.1
  have hlb := lt_b hX p
  have hb := hE.1
  have k01 : ¬ io 1 = (0 : Int32) := by decide
  have k00 : io 0 = (0 : Int32) := rfl
  have hfn : FN σ (mu σ 0 24 (io ((p + 1 : Nat) : Int))) := FN_24 _
  have hT2 := hfn.mt hT
  have H2 := ME_fn hfn H
  have hs2 : mu σ 0 24 (io ((p + 1 : Nat) : Int)) 0 24 = io ((p + 1 : Nat) : Int) := by rw [mu_s]
  have e1 : io (p : Int) + 1 = io ((p + 1 : Nat) : Int) := by rw [n1, io_add]; congr 1
  unfold f7_item
  rw [hs, m_letterAt hX hT (by omega), obs, e1, obm]
  generalize hσ2 : mu σ 0 24 (io ((p + 1 : Nat) : Int)) = σ2 at *
  have c1 := m_fig1 hX hT2 hs2 (by omega)
  have c2 := m_fig2 hX hT2 hs2 (by omega)
  by_cases l97 : lt l X p = 97
  · rw [if_pos (show io ((lt l X p : Nat) : Int) = 97 by rw [l97]; rfl)]
    unfold itm
    rw [if_neg (show ¬ (lt l X p = 99 ∨ lt l X p = 103) by omega), l97]
    rcases c2 with ⟨v, w, e, t1, σ3, t2, t3, t4, t5, t6⟩ | ⟨t1, σ3, t2, t3⟩
    · have hvb := it2_b t1
      have H3 := ME_fn t3 H2
      rw [t1, t2, oob, if_neg k01, t5]
      simp only
      have q1 : f7_setTold σ3 2 (io v) 1 99 = _ := m_setTold (σ := σ3) (k := 2) (v := v) (a := 1) (b := 99) (by omega) (by omega) (by omega) (by omega) (by omega) (by omega) (by omega)
      have q2 : f7_setTold (mu σ3 9 6 (io v)) 3 (io w) 0 99 = _ := m_setTold (σ := mu σ3 9 6 (io v)) (k := 3) (v := w) (a := 0) (b := 99) (by omega) (by omega) (by omega) (by omega) (by omega) (by omega) (by omega)
      have F1 : FM σ (mu σ3 9 6 (io v)) := (hfn.trans t3).fm.trans (FM_mu (by omega) (by omega) (show 4 ≤ 6 by omega) _)
      rw [q1, oob]
      show OM σ (if bi (decide ((1 : Int) ≤ v ∧ (v : Int) ≤ 99)) = 0 then some (mu σ3 9 6 (io v), 0) else ob (f7_setTold (mu σ3 9 6 (io v)) 3 (mu σ3 9 6 (io v) 26 1) 0 99) fun σ8 r8 => if r8 = 0 then some (σ8, 0) else some (σ8, 1)) _
      rw [mu_j _ _ _ (show 26 ≠ 9 by omega), t6]
      rw [tk_97]
      by_cases c : 1 ≤ v ∧ v ≤ 99 ∧ w ≤ 99
      · rw [if_pos c, decide_eq_true (show (1 : Int) ≤ v ∧ (v : Int) ≤ 99 by omega), bi_t, if_neg (by decide), q2, oob, decide_eq_true (show (0 : Int) ≤ w ∧ (w : Int) ≤ 99 by omega), bi_t, if_neg (by decide)]
        refine ⟨_, rfl, ?_, ?_, F1.trans (FM_mu (by omega) (by omega) (show 4 ≤ 4 + 3 by omega) _)⟩
        · obtain ⟨h1, h2, h3, h4, h5, h6, h7, h8, h9⟩ := H3
          unfold ME
          simp (disch := omega) only [eu_row, eu_self, du_s, du_n, mu_s, mu_k, mu_j, Nat.reduceAdd]
          exact ⟨MR_fr (by simp (disch := omega) only [mu_s, mu_k, mu_j]) (by simp (disch := omega) only [mu_s, mu_k, mu_j]) (by simp (disch := omega) only [mu_s, mu_k, mu_j]) h1, MR_fr (by simp (disch := omega) only [mu_s, mu_k, mu_j]) (by simp (disch := omega) only [mu_s, mu_k, mu_j]) (by simp (disch := omega) only [mu_s, mu_k, mu_j]) h2, MR_fr (by simp (disch := omega) only [mu_s, mu_k, mu_j]) (by simp (disch := omega) only [mu_s, mu_k, mu_j]) (by simp (disch := omega) only [mu_s, mu_k, mu_j]) h3, MR_fr (by simp (disch := omega) only [mu_s, mu_k, mu_j]) (by simp (disch := omega) only [mu_s, mu_k, mu_j]) (by simp (disch := omega) only [mu_s, mu_k, mu_j]) h4, h5, h6, h7, trivial, trivial⟩
        · rw [mu_j _ _ _ (by omega), mu_j _ _ _ (by omega)]; exact t4
      · rw [if_neg c, decide_eq_false (show ¬ ((1 : Int) ≤ v ∧ (v : Int) ≤ 99) by omega), bi_f, if_pos rfl]
        exact ⟨_, rfl, F1⟩
    · rw [t1, t2, oob, if_pos k00]
      exact ⟨_, rfl, (hfn.trans t3).fm⟩
  rw [if_neg (show ¬ io ((lt l X p : Nat) : Int) = 97 from lit_ne (k := 97) hlb (by omega) l97)]
  by_cases l99 : lt l X p = 99
  · rw [if_pos (show io ((lt l X p : Nat) : Int) = 99 by rw [l99]; rfl)]
    unfold itm
    rw [if_pos (Or.inl l99), l99]
    rcases c1 with ⟨v, e, t1, σ3, t2, t3, t4, t5⟩ | ⟨t1, σ3, t2, t3⟩
    · have hvb := it1_b t1
      have H3 := ME_fn t3 H2
      rw [t1, t2, oob, if_neg k01, t5]
      simp only
      have q1 : f7_setTold σ3 1 (io v) 0 99 = _ := m_setTold (σ := σ3) (k := 1) (v := v) (a := 0) (b := 99) (by omega) (by omega) (by omega) (by omega) (by omega) (by omega) (by omega)
      rw [q1, oob, decide_eq_true (show (0 : Int) ≤ v ∧ (v : Int) ≤ 99 by omega), bi_t, if_neg (by decide)]
      rw [tk_99, if_pos hvb.1]
      refine ⟨_, rfl, ?_, ?_, (hfn.trans t3).fm.trans (FM_mu (by omega) (by omega) (show 4 ≤ 4 + 1 by omega) _)⟩
      · obtain ⟨h1, h2, h3, h4, h5, h6, h7, h8, h9⟩ := H3
        unfold ME
        simp (disch := omega) only [eu_row, eu_self, du_s, du_n, mu_s, mu_k, mu_j, Nat.reduceAdd]
        exact ⟨MR_fr (by simp (disch := omega) only [mu_s, mu_k, mu_j]) (by simp (disch := omega) only [mu_s, mu_k, mu_j]) (by simp (disch := omega) only [mu_s, mu_k, mu_j]) h1, MR_fr (by simp (disch := omega) only [mu_s, mu_k, mu_j]) (by simp (disch := omega) only [mu_s, mu_k, mu_j]) (by simp (disch := omega) only [mu_s, mu_k, mu_j]) h2, MR_fr (by simp (disch := omega) only [mu_s, mu_k, mu_j]) (by simp (disch := omega) only [mu_s, mu_k, mu_j]) (by simp (disch := omega) only [mu_s, mu_k, mu_j]) h3, MR_fr (by simp (disch := omega) only [mu_s, mu_k, mu_j]) (by simp (disch := omega) only [mu_s, mu_k, mu_j]) (by simp (disch := omega) only [mu_s, mu_k, mu_j]) h4, h5, h6, trivial, h8, h9⟩
      · rw [mu_j _ _ _ (by omega)]; exact t4
    · rw [t1, t2, oob, if_pos k00]
      exact ⟨_, rfl, (hfn.trans t3).fm⟩
  rw [if_neg (show ¬ io ((lt l X p : Nat) : Int) = 99 from lit_ne (k := 99) hlb (by omega) l99)]
  by_cases l103 : lt l X p = 103
  · rw [if_pos (show io ((lt l X p : Nat) : Int) = 103 by rw [l103]; rfl)]
    unfold itm
    rw [if_pos (Or.inr l103), l103]
    rcases c1 with ⟨v, e, t1, σ3, t2, t3, t4, t5⟩ | ⟨t1, σ3, t2, t3⟩
    · have hvb := it1_b t1
      have H3 := ME_fn t3 H2
      rw [t1, t2, oob, if_neg k01, t5]
      simp only
      have q1 : f7_setTold σ3 0 (io v) 1 9 = _ := m_setTold (σ := σ3) (k := 0) (v := v) (a := 1) (b := 9) (by omega) (by omega) (by omega) (by omega) (by omega) (by omega) (by omega)
      have F1 : FM σ (mu σ3 9 (4 + 0) (io v)) := (hfn.trans t3).fm.trans (FM_mu (by omega) (by omega) (show 4 ≤ 4 + 0 by omega) _)
      rw [q1, oob]
      rw [tk_103]
      by_cases c : 1 ≤ v ∧ v ≤ 9
      · rw [if_pos c, decide_eq_true (show (1 : Int) ≤ v ∧ (v : Int) ≤ 9 by omega), bi_t, if_neg (by decide)]
        refine ⟨_, rfl, ?_, ?_, F1⟩
        · obtain ⟨h1, h2, h3, h4, h5, h6, h7, h8, h9⟩ := H3
          unfold ME
          simp (disch := omega) only [eu_row, eu_self, du_s, du_n, mu_s, mu_k, mu_j, Nat.reduceAdd]
          exact ⟨MR_fr (by simp (disch := omega) only [mu_s, mu_k, mu_j]) (by simp (disch := omega) only [mu_s, mu_k, mu_j]) (by simp (disch := omega) only [mu_s, mu_k, mu_j]) h1, MR_fr (by simp (disch := omega) only [mu_s, mu_k, mu_j]) (by simp (disch := omega) only [mu_s, mu_k, mu_j]) (by simp (disch := omega) only [mu_s, mu_k, mu_j]) h2, MR_fr (by simp (disch := omega) only [mu_s, mu_k, mu_j]) (by simp (disch := omega) only [mu_s, mu_k, mu_j]) (by simp (disch := omega) only [mu_s, mu_k, mu_j]) h3, MR_fr (by simp (disch := omega) only [mu_s, mu_k, mu_j]) (by simp (disch := omega) only [mu_s, mu_k, mu_j]) (by simp (disch := omega) only [mu_s, mu_k, mu_j]) h4, h5, trivial, h7, h8, h9⟩
        · rw [mu_j _ _ _ (by omega)]; exact t4
      · rw [if_neg c, decide_eq_false (show ¬ ((1 : Int) ≤ v ∧ (v : Int) ≤ 9) by omega), bi_f, if_pos rfl]
        exact ⟨_, rfl, F1⟩
    · rw [t1, t2, oob, if_pos k00]
      exact ⟨_, rfl, (hfn.trans t3).fm⟩
  rw [if_neg (show ¬ io ((lt l X p : Nat) : Int) = 103 from lit_ne (k := 103) hlb (by omega) l103)]
  unfold itm
  rw [if_neg (show ¬ (lt l X p = 99 ∨ lt l X p = 103) by omega)]
  rcases c2 with ⟨v, w, e, t1, σ3, t2, t3, t4, t5, t6⟩ | ⟨t1, σ3, t2, t3⟩
  · have hvb := it2_b t1
    have H3 := ME_fn t3 H2
    have F0 : FM σ σ3 := (hfn.trans t3).fm
    obtain ⟨h1, h2, h3, h4, h5, h6, h7, h8, h9⟩ := H3
    rw [t1]
    simp only
    unfold f7_closingItem f7_oddsItem
    rw [t2, oob, oob, oob, oob, oob, if_neg k01, if_neg k01, if_neg k01, if_neg k01, if_neg k01]
    by_cases l107 : lt l X p = 107
    · rw [if_pos (show io ((lt l X p : Nat) : Int) = 107 by rw [l107]; rfl), l107]
      have e6 : 6 + io (E 0 2 : Int) = io ((6 + E 0 2 : Nat) : Int) := by rw [n6, io_add]; congr 1
      rw [tk_107, h3.1, t5, t6]
      by_cases d1 : E 0 2 = 6
      · rw [if_neg (show ¬ (v < w ∧ w ≤ 60 ∧ E 0 2 < 6) by omega), if_pos (show io ((E 0 2 : Nat) : Int) = 6 by rw [d1]; rfl), oob, if_pos (Or.inl rfl)]
        exact ⟨_, rfl, F0⟩
      · rw [if_neg (show ¬ io ((E 0 2 : Nat) : Int) = 6 from lit_ne (k := 6) (by omega) (by omega) d1)]
        by_cases d2 : w ≤ 60
        · rw [if_neg (show ¬ (60 : Int32) < io (w : Int) by rw [n60, io_lt (by omega) (by omega) (by omega) (by omega)]; omega)]
          by_cases d3 : v < w
          · rw [if_pos (show v < w ∧ w ≤ 60 ∧ E 0 2 < 6 from ⟨d3, d2, by omega⟩), if_pos (show io (v : Int) < io (w : Int) by rw [io_lt (by omega) (by omega) (by omega) (by omega)]; omega), e6, if_pos (in_ix (n := 12) (by omega) (by decide)), io_ix (by omega), obm, mu_j _ _ _ (by omega), h3.1, e6, if_pos (in_ix (n := 12) (by omega) (by decide)), io_ix (by omega), mu_j _ _ _ (by omega), t6, obm, mu_j _ _ _ (by omega), mu_j _ _ _ (by omega), h3.1, n1, io_add, obm, oob, if_pos (Or.inr rfl)]
            refine ⟨_, rfl, ?_, ?_, ((F0.trans (FM_mu (by omega) (by omega) (show 6 ≤ 6 + E 0 2 by omega) _)).trans (FM_mu (by omega) (by omega) (show 6 ≤ 6 + E 0 2 by omega) _)).trans (FM_mu (by omega) (by omega) (show 1 ≤ 1 by omega) _)⟩
            · unfold ME
              simp (disch := omega) only [eu_row, eu_self, du_s, du_n, mu_s, mu_k, mu_j]
              exact ⟨MR_fr (by simp (disch := omega) only [mu_s, mu_k, mu_j]) (by simp (disch := omega) only [mu_s, mu_k, mu_j]) (by simp (disch := omega) only [mu_s, mu_k, mu_j]) h1, MR_fr (by simp (disch := omega) only [mu_s, mu_k, mu_j]) (by simp (disch := omega) only [mu_s, mu_k, mu_j]) (by simp (disch := omega) only [mu_s, mu_k, mu_j]) h2, MR_add (by omega) (by omega) (by omega) h3, MR_fr (by simp (disch := omega) only [mu_s, mu_k, mu_j]) (by simp (disch := omega) only [mu_s, mu_k, mu_j]) (by simp (disch := omega) only [mu_s, mu_k, mu_j]) h4, h5, h6, h7, h8, h9⟩
            · simp (disch := omega) only [mu_s, mu_k, mu_j]; exact t4
          · rw [if_neg (show ¬ (v < w ∧ w ≤ 60 ∧ E 0 2 < 6) from fun z => d3 z.1), if_neg (show ¬ io (v : Int) < io (w : Int) by rw [io_lt (by omega) (by omega) (by omega) (by omega)]; omega), oob, if_pos (Or.inl rfl)]
            exact ⟨_, rfl, F0⟩
        · rw [if_pos (show (60 : Int32) < io (w : Int) by rw [n60, io_lt (by omega) (by omega) (by omega) (by omega)]; omega), if_neg (show ¬ (v < w ∧ w ≤ 60 ∧ E 0 2 < 6) from fun z => d2 z.2.1), oob, if_pos (Or.inl rfl)]
          exact ⟨_, rfl, F0⟩
    rw [if_neg (show ¬ io ((lt l X p : Nat) : Int) = 107 from lit_ne (k := 107) hlb (by omega) l107)]
    by_cases l111 : lt l X p = 111
    · rw [if_pos (show io ((lt l X p : Nat) : Int) = 111 by rw [l111]; rfl), l111]
      have e5 : 5 + io (E 0 7 : Int) = io ((5 + E 0 7 : Nat) : Int) := by rw [n5, io_add]; congr 1
      rw [tk_111, h4.1, t5, t6]
      by_cases d1 : E 0 7 = 5
      · rw [if_neg (show ¬ (v ≤ 9 ∧ w ≤ 10 ∧ E 0 7 < 5) by omega), if_pos (show io ((E 0 7 : Nat) : Int) = 5 by rw [d1]; rfl), oob, if_pos (Or.inl rfl)]
        exact ⟨_, rfl, F0⟩
      · rw [if_neg (show ¬ io ((E 0 7 : Nat) : Int) = 5 from lit_ne (k := 5) (by omega) (by omega) d1)]
        by_cases d2 : v ≤ 9
        · rw [if_neg (show ¬ (9 : Int32) < io (v : Int) by rw [n9, io_lt (by omega) (by omega) (by omega) (by omega)]; omega)]
          by_cases d3 : w ≤ 10
          · rw [if_pos (show v ≤ 9 ∧ w ≤ 10 ∧ E 0 7 < 5 from ⟨d2, d3, by omega⟩), if_pos (show io (w : Int) ≤ 10 by rw [n10, io_le (by omega) (by omega) (by omega) (by omega)]; omega), e5, if_pos (in_ix (n := 10) (by omega) (by decide)), io_ix (by omega), obm, mu_j _ _ _ (by omega), h4.1, e5, if_pos (in_ix (n := 10) (by omega) (by decide)), io_ix (by omega), mu_j _ _ _ (by omega), t6, obm, mu_j _ _ _ (by omega), mu_j _ _ _ (by omega), h4.1, n1, io_add, obm, oob, if_pos (Or.inr rfl)]
            refine ⟨_, rfl, ?_, ?_, ((F0.trans (FM_mu (by omega) (by omega) (show 5 ≤ 5 + E 0 7 by omega) _)).trans (FM_mu (by omega) (by omega) (show 5 ≤ 5 + E 0 7 by omega) _)).trans (FM_mu (by omega) (by omega) (show 1 ≤ 1 by omega) _)⟩
            · unfold ME
              simp (disch := omega) only [eu_row, eu_self, du_s, du_n, mu_s, mu_k, mu_j]
              exact ⟨MR_fr (by simp (disch := omega) only [mu_s, mu_k, mu_j]) (by simp (disch := omega) only [mu_s, mu_k, mu_j]) (by simp (disch := omega) only [mu_s, mu_k, mu_j]) h1, MR_fr (by simp (disch := omega) only [mu_s, mu_k, mu_j]) (by simp (disch := omega) only [mu_s, mu_k, mu_j]) (by simp (disch := omega) only [mu_s, mu_k, mu_j]) h2, MR_fr (by simp (disch := omega) only [mu_s, mu_k, mu_j]) (by simp (disch := omega) only [mu_s, mu_k, mu_j]) (by simp (disch := omega) only [mu_s, mu_k, mu_j]) h3, MR_add (by omega) (by omega) (by omega) h4, h5, h6, h7, h8, h9⟩
            · simp (disch := omega) only [mu_s, mu_k, mu_j]; exact t4
          · rw [if_neg (show ¬ (v ≤ 9 ∧ w ≤ 10 ∧ E 0 7 < 5) from fun z => d3 z.2.1), if_neg (show ¬ io (w : Int) ≤ 10 by rw [n10, io_le (by omega) (by omega) (by omega) (by omega)]; omega), oob, if_pos (Or.inl rfl)]
            exact ⟨_, rfl, F0⟩
        · rw [if_pos (show (9 : Int32) < io (v : Int) by rw [n9, io_lt (by omega) (by omega) (by omega) (by omega)]; omega), if_neg (show ¬ (v ≤ 9 ∧ w ≤ 10 ∧ E 0 7 < 5) from fun z => d2 z.1), oob, if_pos (Or.inl rfl)]
          exact ⟨_, rfl, F0⟩
    rw [if_neg (show ¬ io ((lt l X p : Nat) : Int) = 111 from lit_ne (k := 111) hlb (by omega) l111)]
    by_cases l116 : lt l X p = 116
    · rw [if_pos (show io ((lt l X p : Nat) : Int) = 116 by rw [l116]; rfl), l116]
      rw [tk_116, h1.1, t5, t6]
      by_cases d1 : E 0 0 = 6
      · rw [if_neg (show ¬ (v ≤ 59 ∧ w ≤ 2 ∧ E 0 0 < 6) by omega), if_pos (show io ((E 0 0 : Nat) : Int) = 6 by rw [d1]; rfl)]
        exact ⟨_, rfl, F0⟩
      · rw [if_neg (show ¬ io ((E 0 0 : Nat) : Int) = 6 from lit_ne (k := 6) (by omega) (by omega) d1)]
        by_cases d2 : v ≤ 59
        · rw [if_neg (show ¬ (59 : Int32) < io (v : Int) by rw [n59, io_lt (by omega) (by omega) (by omega) (by omega)]; omega)]
          by_cases d3 : w ≤ 2
          · rw [if_pos (show v ≤ 59 ∧ w ≤ 2 ∧ E 0 0 < 6 from ⟨d2, d3, by omega⟩), if_pos (show io (w : Int) ≤ 2 by rw [n2, io_le (by omega) (by omega) (by omega) (by omega)]; omega), m_addTrain h1.1 (by omega), obs]
            refine ⟨_, rfl, ?_, ?_, ((F0.trans (FM_mu (by omega) (by omega) (show 6 ≤ 6 + E 0 0 by omega) _)).trans (FM_mu (by omega) (by omega) (show 6 ≤ 6 + E 0 0 by omega) _)).trans (FM_mu (by omega) (by omega) (show 1 ≤ 1 by omega) _)⟩
            · unfold ME
              simp (disch := omega) only [eu_row, eu_self, du_s, du_n, mu_s, mu_k, mu_j]
              exact ⟨MR_add (by omega) (by omega) (by omega) h1, MR_fr (by simp (disch := omega) only [mu_s, mu_k, mu_j]) (by simp (disch := omega) only [mu_s, mu_k, mu_j]) (by simp (disch := omega) only [mu_s, mu_k, mu_j]) h2, MR_fr (by simp (disch := omega) only [mu_s, mu_k, mu_j]) (by simp (disch := omega) only [mu_s, mu_k, mu_j]) (by simp (disch := omega) only [mu_s, mu_k, mu_j]) h3, MR_fr (by simp (disch := omega) only [mu_s, mu_k, mu_j]) (by simp (disch := omega) only [mu_s, mu_k, mu_j]) (by simp (disch := omega) only [mu_s, mu_k, mu_j]) h4, h5, h6, h7, h8, h9⟩
            · simp (disch := omega) only [mu_s, mu_k, mu_j]; exact t4
          · rw [if_neg (show ¬ (v ≤ 59 ∧ w ≤ 2 ∧ E 0 0 < 6) from fun z => d3 z.2.1), if_neg (show ¬ io (w : Int) ≤ 2 by rw [n2, io_le (by omega) (by omega) (by omega) (by omega)]; omega)]
            exact ⟨_, rfl, F0⟩
        · rw [if_pos (show (59 : Int32) < io (v : Int) by rw [n59, io_lt (by omega) (by omega) (by omega) (by omega)]; omega), if_neg (show ¬ (v ≤ 59 ∧ w ≤ 2 ∧ E 0 0 < 6) from fun z => d2 z.1)]
          exact ⟨_, rfl, F0⟩
    rw [if_neg (show ¬ io ((lt l X p : Nat) : Int) = 116 from lit_ne (k := 116) hlb (by omega) l116)]
    by_cases l117 : lt l X p = 117
    · rw [if_pos (show io ((lt l X p : Nat) : Int) = 117 by rw [l117]; rfl), l117]
      rw [tk_117, h2.1, t5, t6]
      by_cases d1 : E 0 1 = 8
      · rw [if_neg (show ¬ (v ≤ 59 ∧ w ≤ 3 ∧ E 0 1 < 8) by omega), if_pos (show io ((E 0 1 : Nat) : Int) = 8 by rw [d1]; rfl)]
        exact ⟨_, rfl, F0⟩
      · rw [if_neg (show ¬ io ((E 0 1 : Nat) : Int) = 8 from lit_ne (k := 8) (by omega) (by omega) d1)]
        by_cases d2 : v ≤ 59
        · rw [if_neg (show ¬ (59 : Int32) < io (v : Int) by rw [n59, io_lt (by omega) (by omega) (by omega) (by omega)]; omega)]
          by_cases d3 : w ≤ 3
          · rw [if_pos (show v ≤ 59 ∧ w ≤ 3 ∧ E 0 1 < 8 from ⟨d2, d3, by omega⟩), if_pos (show io (w : Int) ≤ 3 by rw [n3, io_le (by omega) (by omega) (by omega) (by omega)]; omega), m_addUser h2.1 (by omega), obs]
            refine ⟨_, rfl, ?_, ?_, ((F0.trans (FM_mu (by omega) (by omega) (show 8 ≤ 8 + E 0 1 by omega) _)).trans (FM_mu (by omega) (by omega) (show 8 ≤ 8 + E 0 1 by omega) _)).trans (FM_mu (by omega) (by omega) (show 1 ≤ 1 by omega) _)⟩
            · unfold ME
              simp (disch := omega) only [eu_row, eu_self, du_s, du_n, mu_s, mu_k, mu_j]
              exact ⟨MR_fr (by simp (disch := omega) only [mu_s, mu_k, mu_j]) (by simp (disch := omega) only [mu_s, mu_k, mu_j]) (by simp (disch := omega) only [mu_s, mu_k, mu_j]) h1, MR_add (by omega) (by omega) (by omega) h2, MR_fr (by simp (disch := omega) only [mu_s, mu_k, mu_j]) (by simp (disch := omega) only [mu_s, mu_k, mu_j]) (by simp (disch := omega) only [mu_s, mu_k, mu_j]) h3, MR_fr (by simp (disch := omega) only [mu_s, mu_k, mu_j]) (by simp (disch := omega) only [mu_s, mu_k, mu_j]) (by simp (disch := omega) only [mu_s, mu_k, mu_j]) h4, h5, h6, h7, h8, h9⟩
            · simp (disch := omega) only [mu_s, mu_k, mu_j]; exact t4
          · rw [if_neg (show ¬ (v ≤ 59 ∧ w ≤ 3 ∧ E 0 1 < 8) from fun z => d3 z.2.1), if_neg (show ¬ io (w : Int) ≤ 3 by rw [n3, io_le (by omega) (by omega) (by omega) (by omega)]; omega)]
            exact ⟨_, rfl, F0⟩
        · rw [if_pos (show (59 : Int32) < io (v : Int) by rw [n59, io_lt (by omega) (by omega) (by omega) (by omega)]; omega), if_neg (show ¬ (v ≤ 59 ∧ w ≤ 3 ∧ E 0 1 < 8) from fun z => d2 z.1)]
          exact ⟨_, rfl, F0⟩
    rw [if_neg (show ¬ io ((lt l X p : Nat) : Int) = 117 from lit_ne (k := 117) hlb (by omega) l117)]
    by_cases l119 : lt l X p = 119
    · rw [if_pos (show io ((lt l X p : Nat) : Int) = 119 by rw [l119]; rfl), l119]
      have e4 : 4 + io (v : Int) = io ((4 + v : Nat) : Int) := by rw [n4, io_add]; congr 1
      rw [tk_119, t5, t6]
      by_cases d2 : v ≤ 3
      · rw [if_neg (show ¬ (3 : Int32) < io (v : Int) by rw [n3, io_lt (by omega) (by omega) (by omega) (by omega)]; omega)]
        by_cases d3 : w ≤ 9
        · rw [if_pos (show v ≤ 3 ∧ w ≤ 9 from ⟨d2, d3⟩), if_pos (show io (w : Int) ≤ 9 by rw [n9, io_le (by omega) (by omega) (by omega) (by omega)]; omega), e4, if_pos (in_ix (n := 8) (by omega) (by decide)), io_ix (by omega), obm]
          refine ⟨_, rfl, ?_, ?_, F0.trans (FM_mu (by omega) (by omega) (show 4 ≤ 4 + v by omega) _)⟩
          · unfold ME
            simp (disch := omega) only [eu_row, eu_self, du_s, du_n, mu_s, mu_k, mu_j]
            refine ⟨MR_fr (by simp (disch := omega) only [mu_s, mu_k, mu_j]) (by simp (disch := omega) only [mu_s, mu_k, mu_j]) (by simp (disch := omega) only [mu_s, mu_k, mu_j]) h1, MR_fr (by simp (disch := omega) only [mu_s, mu_k, mu_j]) (by simp (disch := omega) only [mu_s, mu_k, mu_j]) (by simp (disch := omega) only [mu_s, mu_k, mu_j]) h2, MR_fr (by simp (disch := omega) only [mu_s, mu_k, mu_j]) (by simp (disch := omega) only [mu_s, mu_k, mu_j]) (by simp (disch := omega) only [mu_s, mu_k, mu_j]) h3, MR_fr (by simp (disch := omega) only [mu_s, mu_k, mu_j]) (by simp (disch := omega) only [mu_s, mu_k, mu_j]) (by simp (disch := omega) only [mu_s, mu_k, mu_j]) h4, fun k hk => ?_, h6, h7, h8, h9⟩
            by_cases e : k = v
            · subst e; rw [mu_s, du_s]
            · rw [mu_k _ _ (by omega), du_n _ _ e]; exact h5 k hk
          · simp (disch := omega) only [mu_s, mu_k, mu_j]; exact t4
        · rw [if_neg (show ¬ (v ≤ 3 ∧ w ≤ 9) from fun z => d3 z.2), if_neg (show ¬ io (w : Int) ≤ 9 by rw [n9, io_le (by omega) (by omega) (by omega) (by omega)]; omega)]
          exact ⟨_, rfl, F0⟩
      · rw [if_pos (show (3 : Int32) < io (v : Int) by rw [n3, io_lt (by omega) (by omega) (by omega) (by omega)]; omega), if_neg (show ¬ (v ≤ 3 ∧ w ≤ 9) from fun z => d2 z.1)]
        exact ⟨_, rfl, F0⟩
    rw [if_neg (show ¬ io ((lt l X p : Nat) : Int) = 119 from lit_ne (k := 119) hlb (by omega) l119), tk_none ⟨l97, l99, l103, l107, l111, l116, l117, l119⟩]
    exact ⟨_, rfl, hfn.fm⟩
  · have F0 : FM σ σ3 := (hfn.trans t3).fm
    rw [t1]
    simp only
    unfold f7_closingItem f7_oddsItem
    rw [t2, oob, oob, oob, oob, oob, if_pos k00, if_pos k00, if_pos k00, if_pos k00, if_pos k00]
    repeat' split
    all_goals first | exact ⟨_, rfl, F0⟩ | exact ⟨_, rfl, hfn.fm⟩
end ItemM
