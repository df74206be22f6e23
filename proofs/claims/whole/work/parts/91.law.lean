/-! ONE CALL, ALL CALLS -/
theorem st_S {x y : Option (Mem × Int32)} (h : Step x y) : ∃ σc' σm', (ob x fun σc r1 => ob y fun σm r2 => if r1 = r2 then some (σc, σm) else none) = some (σc', σm') ∧ Inv σc' σm' := by
  obtain ⟨σc, σm, r, rfl, rfl, hI⟩ := h
  exact ⟨σc, σm, by rw [oob, oob, if_pos rfl], hI⟩
theorem st_P {σc σm : Mem} {x y : Option Int32} (hI : Inv σc σm) (h : Same x y) : ∃ σc' σm', (Option.bind x fun r1 => Option.bind y fun r2 => if r1 = r2 then some (σc, σm) else none) = some (σc', σm') ∧ Inv σc' σm' := by
  obtain ⟨r, rfl, rfl⟩ := h
  exact ⟨σc, σm, by rw [obs, obs, if_pos rfl], hI⟩
theorem step_ok {σc σm : Mem} (hI : Inv σc σm) (o a b c : Int32) : ∃ σc' σm', lstep σc σm o a b c = some (σc', σm') ∧ Inv σc' σm' := by
  unfold lstep
  by_cases h0 : o = 0
  · rw [if_pos h0]
    exact st_S (s_write hI a)
  rw [if_neg h0]
  by_cases h1 : o = 1
  · rw [if_pos h1]
    exact st_S (s_wipe hI)
  rw [if_neg h1]
  by_cases h2 : o = 2
  · rw [if_pos h2]
    exact st_S (s_fault hI)
  rw [if_neg h2]
  by_cases h3 : o = 3
  · rw [if_pos h3]
    exact st_S (s_lay hI)
  rw [if_neg h3]
  by_cases h4 : o = 4
  · rw [if_pos h4]
    exact st_P hI (s_train hI a b)
  rw [if_neg h4]
  by_cases h5 : o = 5
  · rw [if_pos h5]
    exact st_P hI (s_user hI a b)
  rw [if_neg h5]
  by_cases h6 : o = 6
  · rw [if_pos h6]
    exact st_S (s_gates hI a b)
  rw [if_neg h6]
  by_cases h7 : o = 7
  · rw [if_pos h7]
    exact st_S (s_passed hI a b)
  rw [if_neg h7]
  by_cases h8 : o = 8
  · rw [if_pos h8]
    exact st_S (s_stopped hI a b)
  rw [if_neg h8]
  by_cases h9 : o = 9
  · rw [if_pos h9]
    exact st_S (s_crossed hI a b)
  rw [if_neg h9]
  by_cases h10 : o = 10
  · rw [if_pos h10]
    exact st_S (s_waited hI a b)
  rw [if_neg h10]
  by_cases h11 : o = 11
  · rw [if_pos h11]
    exact st_S (s_cost hI a)
  rw [if_neg h11]
  by_cases h12 : o = 12
  · rw [if_pos h12]
    exact st_S (s_late hI a b)
  rw [if_neg h12]
  by_cases h13 : o = 13
  · rw [if_pos h13]
    exact st_S (s_shut hI a b)
  rw [if_neg h13]
  by_cases h14 : o = 14
  · rw [if_pos h14]
    exact st_S (s_leave hI a)
  rw [if_neg h14]
  by_cases h15 : o = 15
  · rw [if_pos h15]
    exact st_S (s_undo hI)
  rw [if_neg h15]
  by_cases h16 : o = 16
  · rw [if_pos h16]
    exact st_S (s_cheapest hI a)
  rw [if_neg h16]
  by_cases h17 : o = 17
  · rw [if_pos h17]
    exact st_S (s_lead hI a)
  rw [if_neg h17]
  by_cases h18 : o = 18
  · rw [if_pos h18]
    exact st_S (s_more hI a b c)
  rw [if_neg h18]
  by_cases h19 : o = 19
  · rw [if_pos h19]
    exact st_S (s_dinner hI a b)
  rw [if_neg h19]
  by_cases h20 : o = 20
  · rw [if_pos h20]
    exact st_P hI (s_byNow hI a b c)
  rw [if_neg h20]
  by_cases h21 : o = 21
  · rw [if_pos h21]
    exact st_P hI (s_which hI a)
  rw [if_neg h21]
  by_cases h22 : o = 22
  · rw [if_pos h22]
    exact st_S (s_seen hI a b)
  rw [if_neg h22]
  by_cases h23 : o = 23
  · rw [if_pos h23]
    exact st_S (s_forget hI)
  rw [if_neg h23]
  by_cases h24 : o = 24
  · rw [if_pos h24]
    exact st_S (s_fits hI)
  rw [if_neg h24]
  by_cases h25 : o = 25
  · rw [if_pos h25]
    exact st_S (s_bridge hI a b)
  rw [if_neg h25]
  by_cases h26 : o = 26
  · rw [if_pos h26]
    exact st_S (s_mean hI a b c)
  rw [if_neg h26]
  by_cases h27 : o = 27
  · rw [if_pos h27]
    exact st_S (s_day hI a b c)
  rw [if_neg h27]
  by_cases h28 : o = 28
  · rw [if_pos h28]
    exact st_S (s_keep hI)
  rw [if_neg h28]
  by_cases h29 : o = 29
  · rw [if_pos h29]
    exact st_S (s_back hI)
  rw [if_neg h29]
  by_cases h30 : o = 30
  · rw [if_pos h30]
    exact st_P hI (s_count hI a)
  rw [if_neg h30]
  exact ⟨σc, σm, rfl, hI⟩
theorem law_ok (xs : Nat → Int32) (L : Nat) : ∀ n i σc σm, Inv σc σm → i ≤ L → L + 1 ≤ n + i → lawG xs L n i σc σm = some () := by
  intro n
  induction n with
  | zero => intro i σc σm _ h1 h2; omega
  | succ n ih =>
    intro i σc σm hI h1 h2
    rw [lawG]
    by_cases c : i + 4 ≤ L
    · rw [if_pos c]
      obtain ⟨σc', σm', e, hI'⟩ := step_ok hI (xs i &&& 31) (xs (i + 1)) (xs (i + 2)) (xs (i + 3))
      rw [e, obs]
      exact ih (i + 4) σc' σm' hI' c (by omega)
    · rw [if_neg c]
