/-! THE TWO HOURS SIDE BY SIDE: users -/
def clr (w i : Nat) : Nat := if w.testBit i then w - 2 ^ i else w
set_option maxRecDepth 20000 in
theorem bwF : ∀ w : Fin 256, ∀ i : Fin 8, ((io ((w.val : Nat) : Int) &&& (io 1 <<< (io ((i.val : Nat) : Int) &&& io 31))) = io 0) ↔ w.val.testBit i.val = false := by decide +kernel
set_option maxRecDepth 20000 in
theorem bwC : ∀ w : Fin 256, ∀ i : Fin 8, (io ((w.val : Nat) : Int) &&& ((io 1 <<< (io ((i.val : Nat) : Int) &&& io 31)) ^^^ io (-1))) = io ((clr w.val i.val : Nat) : Int) := by decide +kernel
set_option maxRecDepth 20000 in
theorem bwO : ∀ w : Fin 256, ∀ i : Fin 8, (io ((w.val : Nat) : Int) ||| (io 1 <<< (io ((i.val : Nat) : Int) &&& io 31))) = io ((w.val ||| 2 ^ i.val : Nat) : Int) ∧ w.val ||| 2 ^ i.val < 256 := by decide +kernel
set_option maxRecDepth 20000 in
theorem tbC : ∀ w : Fin 256, ∀ i j : Fin 8, (clr w.val i.val).testBit j.val = (w.val.testBit j.val && decide (j.val ≠ i.val)) := by decide +kernel
theorem clr_lt {w i : Nat} (h : w < 256) : clr w i < 256 := by
  unfold clr
  split
  · exact Nat.lt_of_le_of_lt (Nat.sub_le _ _) h
  · exact h
theorem bw_f {w i : Nat} (hw : w < 256) (hi : i < 8) : ((io (w : Int) &&& (io 1 <<< (io (i : Int) &&& io 31))) = io 0) = (w.testBit i = false) := propext (bwF ⟨w, hw⟩ ⟨i, hi⟩)
theorem bw_c {w i : Nat} (hw : w < 256) (hi : i < 8) : (io (w : Int) &&& ((io 1 <<< (io (i : Int) &&& io 31)) ^^^ io (-1))) = io (clr w i : Nat) := bwC ⟨w, hw⟩ ⟨i, hi⟩
theorem bw_o {w i : Nat} (hw : w < 256) (hi : i < 8) : (io (w : Int) ||| (io 1 <<< (io (i : Int) &&& io 31))) = io ((w ||| 2 ^ i : Nat) : Int) := (bwO ⟨w, hw⟩ ⟨i, hi⟩).1
theorem or_lt {w i : Nat} (hw : w < 256) (hi : i < 8) : w ||| 2 ^ i < 256 := (bwO ⟨w, hw⟩ ⟨i, hi⟩).2
theorem tb_c {w i j : Nat} (hw : w < 256) (hi : i < 8) (hj : j < 8) : (clr w i).testBit j = (w.testBit j && decide (j ≠ i)) := tbC ⟨w, hw⟩ ⟨i, hi⟩ ⟨j, hj⟩
theorem tb_o (w i j : Nat) : (w ||| 2 ^ i).testBit j = (w.testBit j || decide (i = j)) := by rw [Nat.testBit_or, Nat.testBit_two_pow]
theorem dvF : ∀ b : Fin 360, (io ((b.val : Nat) : Int) / io 6) = io ((b.val / 6 : Nat) : Int) := by decide +kernel
theorem dv6 {b : Nat} (hb : b < 360) : (io (b : Int) / io 6) = io ((b / 6 : Nat) : Int) := dvF ⟨b, hb⟩
theorem su_eta (S : SS) {j k : Nat} {v : Int} (h : S j k = v) : su S j k v = S := by
  funext j' k'
  unfold su
  split
  · rename_i z; rw [z.1, z.2, h]
  · rfl
theorem su_su (S : SS) (j k : Nat) (v w : Int) : su (su S j k v) j k w = su S j k w := by
  funext j' k'
  unfold su
  split <;> rfl
section Users
variable {σ : Mem} {P : PS} {S T : SS} {t : Int} {h st : Nat} {rule n : Int}
theorem c_waiting {v i : Nat} (hv : v < 256) (h9 : T 0 9 = v) (hi : i < 8) : f1_isWaiting (ovh σ h T) h (io i) = some (bi (v.testBit i)) := by
  unfold f1_isWaiting
  rw [rh0, h9]
  simp (disch := omega) only [n0, n1, n2, n3, n4, n5, n6, n7, n8, n9, n10, n11, n12, n13, n14, n15, n16, n17, n18, n19, n20, n21, n22, n23, n24, n25, n26, n27, n28, n29, n30, n31, n32, n33, n34, n35, n36, n37, n38, n39, n40, n41, n42, n43, n44, n45, n46, n47, n48, n49, n50, n51, n52, n53, n54, n55, n56, n57, n58, n59, n60, n61, n62, n63, n64, n65, n66, n97, n99, n100, n103, n107, n111, n116, n117, n119, n126, n200, n359, n360, n999, n1000, n9999, n65521, n99999, n1000000, bw_f]
  cases v.testBit i <;> rfl
theorem c_canCross (hG : S 0 0 = 0 ∨ S 0 0 = 1 ∨ S 0 0 = 2) (h13 : T 0 13 = S 0 0) (hB : PB P) (i : Nat) : f1_canCross (ovh σ h T) h (io (P 4 i : Nat)) = some (bi (crB P S i)) := by
  have hr := hB.2.2.2.2.2.2.2.2.2.2 i
  unfold f1_canCross crB
  rw [rh0, h13]
  simp (disch := omega) only [n0, n1, n2, n3, n4, n5, n6, n7, n8, n9, n10, n11, n12, n13, n14, n15, n16, n17, n18, n19, n20, n21, n22, n23, n24, n25, n26, n27, n28, n29, n30, n31, n32, n33, n34, n35, n36, n37, n38, n39, n40, n41, n42, n43, n44, n45, n46, n47, n48, n49, n50, n51, n52, n53, n54, n55, n56, n57, n58, n59, n60, n61, n62, n63, n64, n65, n66, n97, n99, n100, n103, n107, n111, n116, n117, n119, n126, n200, n359, n360, n999, n1000, n9999, n65521, n99999, n1000000, io_neg, io_add, io_sub, io_mul, io_lt, io_le, io_eq, io_nat, Int.toNat_natCast, toNat_c1, ifg, obs, obm, oob, bi0, bi1, bi01]
  rcases hG with e | e | e
  · rw [if_pos e, e]; rfl
  · rw [if_neg (by omega), if_pos e, e]
    by_cases c : P 4 i = 3
    · rw [if_pos (by omega), c]; rfl
    · rw [if_neg (by omega), decide_eq_false c]; rfl
  · rw [if_neg (by omega), if_neg (by omega), e]; rfl
/-- the first to cross -/
theorem c_first (hB : PB P) (hP : PC σ st P) (h42 : 42 ≤ h) (hst36 : st ≤ 36) {b : Int} (hG : S 0 0 = 0 ∨ S 0 0 = 1 ∨ S 0 0 = 2) (h13 : T 0 13 = S 0 0) {v : Nat} (hv : v < 256) (h9 : T 0 9 = v) (hw : ∀ i, i < 8 → v.testBit i = (decide (i < P 0 1) && wtR P (S 3) (S 5) b i)) : f1_firstToCross (ovh σ h T) h = some (io (cnext P S b)) := by
  have h8 := hB.2.2.1
  have hP := PC_ovh (T := T) h42 hst36 hP
  have hg : cnext P S b = foldN 8 (fun i f => if i < P 0 1 then cnx P S b i f else f) (-4) := (foldN_ext h8 _ _).symm
  rw [hg]
  have stay : ∀ (i : Nat), P 4 i = 2 → ∀ m, i + 1 ≤ m → foldN (i + 1) (fun i f => if i < P 0 1 then cnx P S b i f else f) (-4) = (i : Int) → foldN m (fun i f => if i < P 0 1 then cnx P S b i f else f) (-4) = (i : Int) := by
    intro i hd m
    induction m with
    | zero => intro z; omega
    | succ m ih =>
      intro hm hf
      by_cases e : i = m
      · subst e; exact hf
      · show (if m < P 0 1 then cnx P S b m _ else _) = _
        rw [ih (by omega) hf]
        split
        · unfold cnx
          rw [if_neg]
          rintro ⟨-, -, z | ⟨-, z⟩⟩
          · omega
          · exact z (by simpa using hd)
        · rfl
  have key : ∀ k i m, i + k = 8 → k < m → ∀ f : Int, f = foldN i (fun i f => if i < P 0 1 then cnx P S b i f else f) (-4) → (f = -4 ∨ (0 ≤ f ∧ f < i ∧ P 4 f.toNat ≠ 2)) → f1_firstToCross_b5 (ovh σ h T) h m (io f) (io i) = some (io (foldN 8 (fun i f => if i < P 0 1 then cnx P S b i f else f) (-4))) := by
    intro k
    induction k with
    | zero =>
      intro i m h1 h2 f hf _
      obtain ⟨m, rfl⟩ : ∃ q, m = q + 1 := ⟨m - 1, by omega⟩
      have : i = 8 := by omega
      subst this
      rw [f1_firstToCross_b5, if_pos (by decide), hf]
    | succ k ih =>
      intro i m h1 h2 f hf hI
      obtain ⟨m, rfl⟩ : ∃ q, m = q + 1 := ⟨m - 1, by omega⟩
      have hi : i < 8 := by omega
      have hx : foldN (i + 1) (fun i f => if i < P 0 1 then cnx P S b i f else f) (-4) = if i < P 0 1 then cnx P S b i f else f := by rw [hf]; rfl
      have hwi := hw i hi
      rw [f1_firstToCross_b5, c_waiting hv h9 hi]
      have skip : (if i < P 0 1 then cnx P S b i f else f) = f → f1_firstToCross_b5 (ovh σ h T) h m (io f) (io ((i : Int) + 1)) = some (io (foldN 8 (fun i f => if i < P 0 1 then cnx P S b i f else f) (-4))) := by
        intro z
        refine ih (i + 1) m (by omega) (by omega) f (by rw [hx, z]) ?_
        rcases hI with q | q
        · exact Or.inl q
        · exact Or.inr ⟨q.1, by omega, q.2.2⟩
      simp (disch := omega) only [n0, n1, n2, n3, n4, n5, n6, n7, n8, n9, n10, n11, n12, n13, n14, n15, n16, n17, n18, n19, n20, n21, n22, n23, n24, n25, n26, n27, n28, n29, n30, n31, n32, n33, n34, n35, n36, n37, n38, n39, n40, n41, n42, n43, n44, n45, n46, n47, n48, n49, n50, n51, n52, n53, n54, n55, n56, n57, n58, n59, n60, n61, n62, n63, n64, n65, n66, n97, n99, n100, n103, n107, n111, n116, n117, n119, n126, n200, n359, n360, n999, n1000, n9999, n65521, n99999, n1000000, io_neg, io_add, io_sub, io_mul, io_lt, io_le, io_eq, io_nat, Int.toNat_natCast, toNat_c1, ifg, obs, obm, oob, bi0, bi1, bi01]
      rw [if_neg (by omega)]
      cases hb : v.testBit i with
      | false =>
        rw [if_pos rfl]
        refine skip ?_
        split
        · rename_i hq
          rw [hb, decide_eq_true hq, Bool.true_and] at hwi
          unfold cnx
          rw [wt_R, ← hwi, if_neg (by simp)]
        · rfl
      | true =>
        rw [if_neg (by decide)]
        rw [hb] at hwi
        have hwi := hwi.symm
        rw [Bool.and_eq_true, decide_eq_true_eq] at hwi
        obtain ⟨hq, hwt⟩ := hwi
        have hr := hB.2.2.2.2.2.2.2.2.2.2 i
        rw [p_second hP.1.2.1 h8 hq, (hP.2.2.1 i hq).2, obs, c_canCross hG h13 hB i, obs]
        rw [if_pos hq] at skip hx
        simp (disch := omega) only [n0, n1, n2, n3, n4, n5, n6, n7, n8, n9, n10, n11, n12, n13, n14, n15, n16, n17, n18, n19, n20, n21, n22, n23, n24, n25, n26, n27, n28, n29, n30, n31, n32, n33, n34, n35, n36, n37, n38, n39, n40, n41, n42, n43, n44, n45, n46, n47, n48, n49, n50, n51, n52, n53, n54, n55, n56, n57, n58, n59, n60, n61, n62, n63, n64, n65, n66, n97, n99, n100, n103, n107, n111, n116, n117, n119, n126, n200, n359, n360, n999, n1000, n9999, n65521, n99999, n1000000, io_neg, io_add, io_sub, io_mul, io_lt, io_le, io_eq, io_nat, Int.toNat_natCast, toNat_c1, ifg, obs, obm, oob, bi0, bi1, bi01]
        cases hc : crB P S i with
        | false =>
          rw [if_pos rfl]
          refine skip ?_
          unfold cnx
          rw [hc, if_neg (by simp)]
        | true =>
          rw [if_neg (by decide)]
          by_cases cd : P 4 i = 2
          · rw [if_pos (by omega)]
            have hxi : foldN (i + 1) (fun i f => if i < P 0 1 then cnx P S b i f else f) (-4) = (i : Int) := by
              rw [hx]
              unfold cnx
              rw [if_pos ⟨hwt, hc, hI.elim (fun q => Or.inl (by omega)) (fun q => Or.inr ⟨cd, q.2.2⟩)⟩]
            rw [stay i cd 8 (by omega) hxi]
          · rw [if_neg (by omega)]
            by_cases cf : f = -4
            · rw [if_pos (by omega)]
              have hxi : foldN (i + 1) (fun i f => if i < P 0 1 then cnx P S b i f else f) (-4) = (i : Int) := by
                rw [hx]
                unfold cnx
                rw [if_pos ⟨hwt, hc, Or.inl (by omega)⟩]
              exact ih (i + 1) m (by omega) (by omega) i hxi.symm (Or.inr ⟨by omega, by omega, by simpa using cd⟩)
            · rw [if_neg (by omega)]
              refine skip ?_
              unfold cnx
              rw [if_neg]
              rintro ⟨-, -, z | ⟨z, -⟩⟩
              · omega
              · exact cd z
  unfold f1_firstToCross
  rw [nm4, n0]
  exact key 8 0 1000 rfl (by omega) (-4) rfl (Or.inl rfl)
theorem cnext_wt {b : Int} (hc : 0 ≤ cnext P S b) : wtB P S b (cnext P S b).toNat = true ∧ (cnext P S b).toNat < P 0 1 := by
  have key : ∀ m, m ≤ P 0 1 → 0 ≤ foldN m (cnx P S b) (-4) → wtB P S b (foldN m (cnx P S b) (-4)).toNat = true ∧ (foldN m (cnx P S b) (-4)).toNat < P 0 1 := by
    intro m
    induction m with
    | zero => intro _ z; exact absurd z (show ¬ (0 : Int) ≤ -4 by decide)
    | succ m ih =>
      intro hm
      show 0 ≤ cnx P S b m _ → wtB P S b (cnx P S b m _).toNat = true ∧ (cnx P S b m _).toNat < _
      unfold cnx
      split
      · rename_i z
        intro _
        rw [Int.toNat_natCast]
        exact ⟨z.1, by omega⟩
      · exact ih (by omega)
  exact key _ (Nat.le_refl _) hc
end Users
