/-! THE REFERENCE READS NUMBERS -/
def FN (σ σ' : Mem) : Prop := (∀ k, k ≠ 24 → σ' 0 k = σ 0 k) ∧ ∀ j, j ≠ 0 → j ≠ 26 → σ' j = σ j
section Figs
variable {σ σ' σ1 : Mem} {l : Nat} {X : Nat → Nat} {E : PS} {p : Nat}
theorem FN.refl : FN σ σ := ⟨fun _ _ => rfl, fun _ _ _ => rfl⟩
theorem FN.trans (h1 : FN σ σ1) (h2 : FN σ1 σ') : FN σ σ' := ⟨fun k hk => (h2.1 k hk).trans (h1.1 k hk), fun j z1 z2 => (h2.2 j z1 z2).trans (h1.2 j z1 z2)⟩
theorem FN.mt (h : FN σ σ') (hT : MT σ l X) : MT σ' l X := MT_fr (h.1 0 (by omega)) (h.2 2 (by omega) (by omega)) hT
theorem FN_24 (x : Int32) : FN σ (mu σ 0 24 x) := ⟨fun k hk => mu_k _ _ hk, fun j z1 _ => mu_j _ _ _ z1⟩
theorem FN_26 (k : Nat) (x : Int32) : FN σ (mu σ 26 k x) := ⟨fun k hk => by rw [mu_j _ _ _ (by omega)], fun j _ z2 => mu_j _ _ _ z2⟩
theorem m_letterAt (hX : XB l X) (hT : MT σ l X) {p : Nat} (hp : p ≤ 1000) : f7_letterAt σ (io p) = some (io (lt l X p)) := by
  have := hX.1
  unfold f7_letterAt lt
  rw [hT.1]
  by_cases c : p < l
  · rw [if_neg (by simp (disch := omega) only [n0, n1, n2, n3, n4, n5, n6, n7, n8, n9, n10, n11, n12, n13, n14, n15, n16, n17, n18, n19, n20, n21, n22, n23, n24, n25, n26, n27, n28, n29, n30, n31, n32, n33, n34, n35, n36, n37, n38, n39, n40, n41, n42, n43, n44, n45, n46, n47, n48, n49, n50, n51, n52, n53, n54, n55, n56, n57, n58, n59, n60, n61, n62, n63, n64, n65, n66, n97, n99, n100, n103, n107, n111, n116, n117, n119, n126, n200, n359, n360, n999, n1000, n9999, n65521, n99999, n1000000, io_neg, io_add, io_sub, io_mul, io_lt, io_le, io_eq, io_nat, Int.toNat_natCast, toNat_c1, ifg, obs, obm, oob, bi0, bi1, bi01]; omega), if_pos (in_ix (n := 200) (by omega) (by decide)), io_ix (by omega), if_pos c, hT.2 p c]
  · rw [if_pos (by simp (disch := omega) only [n0, n1, n2, n3, n4, n5, n6, n7, n8, n9, n10, n11, n12, n13, n14, n15, n16, n17, n18, n19, n20, n21, n22, n23, n24, n25, n26, n27, n28, n29, n30, n31, n32, n33, n34, n35, n36, n37, n38, n39, n40, n41, n42, n43, n44, n45, n46, n47, n48, n49, n50, n51, n52, n53, n54, n55, n56, n57, n58, n59, n60, n61, n62, n63, n64, n65, n66, n97, n99, n100, n103, n107, n111, n116, n117, n119, n126, n200, n359, n360, n999, n1000, n9999, n65521, n99999, n1000000, io_neg, io_add, io_sub, io_mul, io_lt, io_le, io_eq, io_nat, Int.toNat_natCast, toNat_c1, ifg, obs, obm, oob, bi0, bi1, bi01]; omega), if_neg c]
    rfl
theorem m_fig (hX : XB l X) (p : Nat) : f7_in (io ((lt l X p : Nat) : Int)).toInt64 (48 : Int64) (57 : Int64) = some (bi (dg l X p)) := by
  have := lt_b hX p
  rw [m_in2 j48 j57 (by omega) (by omega)]
  unfold dg
  congr 2
  rw [decide_eq_decide]
  omega
theorem m_b73 (k2 : Mem → Int32 → Int32 → Option (Mem × Int32)) (hX : XB l X) (hT : MT σ l X) (hs : σ 0 24 = io p) (hp : p ≤ 900) {n i f : Nat} {v : Int} (hn : n ≤ 2) (hi : i < n) (hf : f ≤ 3) : f7_figures_b73 k2 σ (io n) (io i) (io f) (io v) = if (f = 1 ∨ f = 2) ∧ lt l X p = (if n = i + 1 then 59 else 44) then k2 (mu (mu σ 26 i (io v)) 0 24 (io ((p + 1 : Nat) : Int))) (io n) (io ((i : Int) + 1)) else some (σ, io 0) := by
  have hlb := lt_b hX p
  unfold f7_figures_b73
  rw [m_in2 j1 j2 (by omega) (by omega), obs]
  by_cases c : f = 1 ∨ f = 2
  · rw [decide_eq_true (show 1 ≤ (f : Int) ∧ (f : Int) ≤ 2 by omega), bi_t, if_neg (show ¬ (1 : Int32) = 0 by decide), hs, m_letterAt hX hT (by omega), obs]
    have hb107 : ∀ sep : Nat, sep ≤ 200 → f7_figures_b107 k2 σ (io n) (io i) (io v) (io ((lt l X p : Nat) : Int)) (io (sep : Nat)) = if lt l X p = sep then k2 (mu (mu σ 26 i (io v)) 0 24 (io ((p + 1 : Nat) : Int))) (io n) (io ((i : Int) + 1)) else some (σ, io 0) := by
      intro sep hsep
      unfold f7_figures_b107
      by_cases d : lt l X p = sep
      · rw [if_pos d, if_pos (by rw [d]), if_pos (in_ix (n := 2) (by omega) (by decide)), io_ix (by omega), obm, mu_j _ _ _ (by omega), hs, n1, io_add, obm, io_add]
        rfl
      · rw [if_neg d, if_neg (lit_ne hlb hsep d)]
        rfl
    by_cases d : n = i + 1
    · rw [if_pos (show io (n : Int) - 1 ≤ io (i : Int) by rw [n1, io_sub, io_le (by omega) (by omega) (by omega) (by omega)]; omega), if_pos d]
      refine (hb107 59 (by omega)).trans ?_
      by_cases g : lt l X p = 59
      · rw [if_pos g, if_pos ⟨c, g⟩]
      · rw [if_neg g, if_neg (fun z => g z.2)]
    · rw [if_neg (show ¬ io (n : Int) - 1 ≤ io (i : Int) by rw [n1, io_sub, io_le (by omega) (by omega) (by omega) (by omega)]; omega), if_neg d]
      refine (hb107 44 (by omega)).trans ?_
      by_cases g : lt l X p = 44
      · rw [if_pos g, if_pos ⟨c, g⟩]
      · rw [if_neg g, if_neg (fun z => g z.2)]
  · rw [decide_eq_false (show ¬ (1 ≤ (f : Int) ∧ (f : Int) ≤ 2) by omega), bi_f, if_pos rfl, if_neg (fun z => c z.1)]
    rfl
theorem m_b12s (k2 : Mem → Int32 → Int32 → Option (Mem × Int32)) (hX : XB l X) (hT : MT σ l X) (hs : σ 0 24 = io p) (hp : p ≤ 900) {x1 x2 : Int32} {f m : Nat} {v : Int} (hf : f < 3) (hd : dg l X p = true) : f7_figures_b12 k2 (m + 1) σ x1 x2 (io f) (io v) = f7_figures_b12 k2 m (mu σ 0 24 (io ((p + 1 : Nat) : Int))) x1 x2 (io ((f + 1 : Nat) : Int)) (io (10 * v + (lt l X p : Int) - 48)) := by
  rw [f7_figures_b12, hs, m_letterAt hX hT (by omega), obs, m_fig hX, obs, hd, bi_t, if_neg (show ¬ (1 : Int32) = 0 by decide), if_neg (show ¬ (3 : Int32) ≤ io (f : Int) by rw [n3, io_le (by omega) (by omega) (by omega) (by omega)]; omega), obs, obm, n1, io_add, io_add, show (10 : Int32) = io 10 from rfl, io_mul, io_add, show (48 : Int32) = io 48 from rfl, io_sub]
  rfl
theorem m_b12e (k2 : Mem → Int32 → Int32 → Option (Mem × Int32)) (hX : XB l X) (hT : MT σ l X) (hs : σ 0 24 = io p) (hp : p ≤ 900) {x1 x2 x4 : Int32} {f m : Nat} (hf : f ≤ 3) (hd : dg l X p = false ∨ f = 3) : f7_figures_b12 k2 (m + 1) σ x1 x2 (io f) x4 = f7_figures_b73 k2 σ x1 x2 (io f) x4 := by
  rw [f7_figures_b12, hs, m_letterAt hX hT (by omega), obs, m_fig hX, obs]
  by_cases c : dg l X p = false
  · rw [c, bi_f, if_pos rfl]
  · have hf3 : f = 3 := hd.elim (fun z => absurd z c) id
    subst hf3
    rw [show dg l X p = true by simpa using c, bi_t, if_neg (show ¬ (1 : Int32) = 0 by decide), if_pos (by decide)]
/-- a number and what parts it: read, or not -/
theorem m_num (k2 : Mem → Int32 → Int32 → Option (Mem × Int32)) (hX : XB l X) (hT : MT σ l X) (hs : σ 0 24 = io p) (hp : p ≤ 800) {n i : Nat} (hn : n ≤ 2) (hi : i < n) : (∃ v e, nm l X p = some (v, e) ∧ lt l X e = (if n = i + 1 then 59 else 44) ∧ ∃ σ', f7_figures_b12 k2 1000 σ (io n) (io i) (io 0) (io 0) = k2 σ' (io n) (io ((i : Int) + 1)) ∧ FN σ σ' ∧ σ' 0 24 = io ((e + 1 : Nat) : Int) ∧ σ' 26 i = io v ∧ ∀ k, k ≠ i → σ' 26 k = σ 26 k) ∨ ((nm l X p = none ∨ ∃ v e, nm l X p = some (v, e) ∧ lt l X e ≠ (if n = i + 1 then 59 else 44)) ∧ ∃ σ', f7_figures_b12 k2 1000 σ (io n) (io i) (io 0) (io 0) = some (σ', io 0) ∧ FN σ σ') := by
  have hlb := lt_b hX p
  have hlb1 := lt_b hX (p + 1)
  have goSep : ∀ {t : Mem} {q f : Nat} {v : Int} {u : Nat}, FN σ t → t 0 24 = io q → q ≤ 850 → (∀ k, t 26 k = σ 26 k) → (f = 1 ∨ f = 2) → nm l X p = some (u, q) → v = u → f7_figures_b12 k2 1000 σ (io n) (io i) (io 0) (io 0) = f7_figures_b73 k2 t (io n) (io i) (io f) (io v) → (∃ v e, nm l X p = some (v, e) ∧ lt l X e = (if n = i + 1 then 59 else 44) ∧ ∃ σ', f7_figures_b12 k2 1000 σ (io n) (io i) (io 0) (io 0) = k2 σ' (io n) (io ((i : Int) + 1)) ∧ FN σ σ' ∧ σ' 0 24 = io ((e + 1 : Nat) : Int) ∧ σ' 26 i = io v ∧ ∀ k, k ≠ i → σ' 26 k = σ 26 k) ∨ ((nm l X p = none ∨ ∃ v e, nm l X p = some (v, e) ∧ lt l X e ≠ (if n = i + 1 then 59 else 44)) ∧ ∃ σ', f7_figures_b12 k2 1000 σ (io n) (io i) (io 0) (io 0) = some (σ', io 0) ∧ FN σ σ') := by
    intro t q f v u h1 h2 h3 h4 h5 h6 h7 h8
    have hb := m_b73 k2 hX (h1.mt hT) h2 (by omega) (n := n) (i := i) (f := f) (v := v) hn hi (by omega)
    by_cases c : lt l X q = (if n = i + 1 then 59 else 44)
    · rw [if_pos ⟨h5, c⟩] at hb
      refine Or.inl ⟨u, q, h6, c, _, h8.trans hb, (h1.trans (FN_26 _ _)).trans (FN_24 _), by rw [mu_s], by rw [mu_j _ _ _ (by omega), mu_s, h7], fun k hk => by rw [mu_j _ _ _ (by omega), mu_k _ _ hk]; exact h4 k⟩
    · rw [if_neg (fun z => c z.2)] at hb
      exact Or.inr ⟨Or.inr ⟨u, q, h6, c⟩, _, h8.trans hb, h1⟩
  by_cases c : dg l X p = true
  · have hd := dg_i.mp c
    have s1 := m_b12s k2 hX hT hs (by omega) (x1 := io n) (x2 := io i) (f := 0) (m := 999) (v := 0) (by omega) c
    have f1 : FN σ (mu σ 0 24 (io ((p + 1 : Nat) : Int))) := FN_24 _
    by_cases c1 : dg l X (p + 1) = true
    · have hd1 := dg_i.mp c1
      have s2 := m_b12s k2 hX (f1.mt hT) (p := p + 1) (by rw [mu_s]) (by omega) (x1 := io n) (x2 := io i) (f := 1) (m := 998) (v := 10 * 0 + (lt l X p : Int) - 48) (by omega) c1
      have f2 : FN σ (mu (mu σ 0 24 (io ((p + 1 : Nat) : Int))) 0 24 (io ((p + 1 + 1 : Nat) : Int))) := f1.trans (FN_24 _)
      have hn2 : nm l X p = some ((lt l X p - 48) * 10 + lt l X (p + 1) - 48, p + 2) := by unfold nm; rw [if_pos c, if_pos c1]
      by_cases c2 : dg l X (p + 2) = true
      · have hd2 := dg_i.mp c2
        have s3 := m_b12s k2 hX (f2.mt hT) (p := p + 2) (by rw [mu_s]) (by omega) (x1 := io n) (x2 := io i) (f := 2) (m := 997) (v := 10 * (10 * 0 + (lt l X p : Int) - 48) + (lt l X (p + 1) : Int) - 48) (by omega) c2
        have f3 : FN σ (mu (mu (mu σ 0 24 (io ((p + 1 : Nat) : Int))) 0 24 (io ((p + 1 + 1 : Nat) : Int))) 0 24 (io ((p + 2 + 1 : Nat) : Int))) := f2.trans (FN_24 _)
        have s4 := m_b12e k2 hX (f3.mt hT) (p := p + 2 + 1) (by rw [mu_s]) (by omega) (x1 := io n) (x2 := io i) (x4 := io (10 * (10 * (10 * 0 + (lt l X p : Int) - 48) + (lt l X (p + 1) : Int) - 48) + (lt l X (p + 2) : Int) - 48)) (f := 3) (m := 996) (by omega) (Or.inr rfl)
        have s5 := m_b73 k2 hX (f3.mt hT) (p := p + 2 + 1) (by rw [mu_s]) (by omega) (n := n) (i := i) (f := 3) (v := 10 * (10 * (10 * 0 + (lt l X p : Int) - 48) + (lt l X (p + 1) : Int) - 48) + (lt l X (p + 2) : Int) - 48) hn hi (by omega)
        rw [if_neg (by omega)] at s5
        refine Or.inr ⟨Or.inr ⟨_, _, hn2, ?_⟩, _, s1.trans (s2.trans (s3.trans (s4.trans s5))), f3⟩
        split <;> omega
      · have s3 := m_b12e k2 hX (f2.mt hT) (p := p + 2) (by rw [mu_s]) (by omega) (x1 := io n) (x2 := io i) (x4 := io (10 * (10 * 0 + (lt l X p : Int) - 48) + (lt l X (p + 1) : Int) - 48)) (f := 2) (m := 997) (by omega) (Or.inl (by simpa using c2))
        exact goSep (f := 2) f2 (by rw [mu_s]) (by omega) (fun k => by rw [mu_j _ _ _ (by omega), mu_j _ _ _ (by omega)]) (Or.inr rfl) hn2 (by omega) (s1.trans (s2.trans s3))
    · have hn1 : nm l X p = some (lt l X p - 48, p + 1) := by unfold nm; rw [if_pos c, if_neg c1]
      have s2 := m_b12e k2 hX (f1.mt hT) (p := p + 1) (by rw [mu_s]) (by omega) (x1 := io n) (x2 := io i) (x4 := io (10 * 0 + (lt l X p : Int) - 48)) (f := 1) (m := 998) (by omega) (Or.inl (by simpa using c1))
      exact goSep (f := 1) f1 (by rw [mu_s]) (by omega) (fun k => by rw [mu_j _ _ _ (by omega)]) (Or.inl rfl) hn1 (by omega) (s1.trans s2)
  · have hn0 : nm l X p = none := by unfold nm; rw [if_neg c]
    have s1 := m_b12e k2 hX hT hs (by omega) (x1 := io n) (x2 := io i) (x4 := io 0) (f := 0) (m := 999) (by omega) (Or.inl (by simpa using c))
    have s2 := m_b73 k2 hX hT hs (by omega) (n := n) (i := i) (f := 0) (v := 0) hn hi (by omega)
    rw [if_neg (by omega)] at s2
    exact Or.inr ⟨Or.inl hn0, σ, s1.trans s2, FN.refl⟩
theorem m_fig1 (hX : XB l X) (hT : MT σ l X) (hs : σ 0 24 = io p) (hp : p ≤ 800) : (∃ v e, it1 l X p = some (v, e) ∧ ∃ σ', f7_figures σ 1 = some (σ', io 1) ∧ FN σ σ' ∧ σ' 0 24 = io e ∧ σ' 26 0 = io v) ∨ (it1 l X p = none ∧ ∃ σ', f7_figures σ 1 = some (σ', io 0) ∧ FN σ σ') := by
  have e0 : f7_figures σ 1 = f7_figures_b12 (f7_figures_b2 999) 1000 σ (io (1 : Nat)) (io (0 : Nat)) (io 0) (io 0) := by
    unfold f7_figures
    show f7_figures_b2 (999 + 1) σ 1 0 = _
    rw [f7_figures_b2, if_neg (by decide)]
    rfl
  rw [e0]
  unfold it1
  rcases m_num (f7_figures_b2 999) hX hT hs hp (n := 1) (i := 0) (by omega) (by omega) with ⟨v, e, h1, h2, σ2, h3, h4, h5, h6, h7⟩ | ⟨h1, σ2, h3, h4⟩
  · rw [if_pos rfl] at h2
    refine Or.inl ⟨v, e + 1, ?_, σ2, ?_, h4, h5, h6⟩
    · rw [h1]
      simp only
      rw [if_pos h2]
    · refine h3.trans ?_
      show f7_figures_b2 (998 + 1) σ2 _ _ = _
      rw [f7_figures_b2, if_pos (by decide)]
      rfl
  · refine Or.inr ⟨?_, σ2, h3, h4⟩
    rcases h1 with h1 | ⟨v, e, h1, h2⟩
    · rw [h1]
    · rw [h1]
      rw [if_pos rfl] at h2
      simp only
      rw [if_neg h2]
theorem m_fig2 (hX : XB l X) (hT : MT σ l X) (hs : σ 0 24 = io p) (hp : p ≤ 700) : (∃ v w e, it2 l X p = some (v, w, e) ∧ ∃ σ', f7_figures σ 2 = some (σ', io 1) ∧ FN σ σ' ∧ σ' 0 24 = io e ∧ σ' 26 0 = io v ∧ σ' 26 1 = io w) ∨ (it2 l X p = none ∧ ∃ σ', f7_figures σ 2 = some (σ', io 0) ∧ FN σ σ') := by
  have e0 : f7_figures σ 2 = f7_figures_b12 (f7_figures_b2 999) 1000 σ (io (2 : Nat)) (io (0 : Nat)) (io 0) (io 0) := by
    unfold f7_figures
    show f7_figures_b2 (999 + 1) σ 2 0 = _
    rw [f7_figures_b2, if_neg (by decide)]
    rfl
  rw [e0]
  unfold it2
  rcases m_num (f7_figures_b2 999) hX hT hs (by omega) (n := 2) (i := 0) (by omega) (by omega) with ⟨v, e, h1, h2, σ2, h3, h4, h5, h6, h7⟩ | ⟨h1, σ2, h3, h4⟩
  · rw [if_neg (by omega)] at h2
    have hb := nm_b h1
    have e1 : f7_figures_b2 999 σ2 (io (2 : Nat)) (io (((0 : Nat) : Int) + 1)) = f7_figures_b12 (f7_figures_b2 998) 1000 σ2 (io (2 : Nat)) (io (1 : Nat)) (io 0) (io 0) := by
      show f7_figures_b2 (998 + 1) σ2 _ _ = _
      rw [f7_figures_b2, if_neg (by decide)]
      rfl
    rw [h3, e1, h1]
    simp only
    rw [if_pos h2]
    unfold it1
    rcases m_num (f7_figures_b2 998) hX (h4.mt hT) h5 (by omega) (n := 2) (i := 1) (by omega) (by omega) with ⟨w, f, g1, g2, σ3, g3, g4, g5, g6, g7⟩ | ⟨g1, σ3, g3, g4⟩
    · rw [if_pos rfl] at g2
      refine Or.inl ⟨v, w, f + 1, ?_, σ3, ?_, h4.trans g4, g5, by rw [g7 0 (by omega)]; exact h6, g6⟩
      · rw [g1]
        simp only
        rw [if_pos g2]
      · refine g3.trans ?_
        show f7_figures_b2 (997 + 1) σ3 _ _ = _
        rw [f7_figures_b2, if_pos (by decide)]
        rfl
    · refine Or.inr ⟨?_, σ3, g3, h4.trans g4⟩
      rcases g1 with g1 | ⟨w, f, g1, g2⟩
      · rw [g1]
      · rw [g1]
        rw [if_pos rfl] at g2
        simp only
        rw [if_neg g2]
  · refine Or.inr ⟨?_, σ2, h3, h4⟩
    rcases h1 with h1 | ⟨v, e, h1, h2⟩
    · rw [h1]
    · rw [h1]
      rw [if_neg (by omega)] at h2
      simp only
      rw [if_neg h2]
end Figs
