/-- one call of the script, on both memories -/
def lstep (σc σm : Mem) (o a b c : Int32) : Option (Mem × Mem) :=
    if o = 0 then (ob (f6_write σc a) fun σc r1 => ob (f7_write σm a) fun σm r2 => if r1 = r2 then some (σc, σm) else none) else
    if o = 1 then (ob (f6_wipe σc ) fun σc r1 => ob (f7_wipe σm ) fun σm r2 => if r1 = r2 then some (σc, σm) else none) else
    if o = 2 then (ob (f6_fault σc ) fun σc r1 => ob (f7_fault σm ) fun σm r2 => if r1 = r2 then some (σc, σm) else none) else
    if o = 3 then (ob (f6_lay σc ) fun σc r1 => ob (f7_lay σm ) fun σm r2 => if r1 = r2 then some (σc, σm) else none) else
    if o = 4 then (Option.bind (f6_train σc a b) fun r1 => Option.bind (f7_train σm a b) fun r2 => if r1 = r2 then some (σc, σm) else none) else
    if o = 5 then (Option.bind (f6_user σc a b) fun r1 => Option.bind (f7_user σm a b) fun r2 => if r1 = r2 then some (σc, σm) else none) else
    if o = 6 then (ob (f6_gates σc a b) fun σc r1 => ob (f7_gates σm a b) fun σm r2 => if r1 = r2 then some (σc, σm) else none) else
    if o = 7 then (ob (f6_passed σc a b) fun σc r1 => ob (f7_passed σm a b) fun σm r2 => if r1 = r2 then some (σc, σm) else none) else
    if o = 8 then (ob (f6_stopped σc a b) fun σc r1 => ob (f7_stopped σm a b) fun σm r2 => if r1 = r2 then some (σc, σm) else none) else
    if o = 9 then (ob (f6_crossed σc a b) fun σc r1 => ob (f7_crossed σm a b) fun σm r2 => if r1 = r2 then some (σc, σm) else none) else
    if o = 10 then (ob (f6_waited σc a b) fun σc r1 => ob (f7_waited σm a b) fun σm r2 => if r1 = r2 then some (σc, σm) else none) else
    if o = 11 then (ob (f6_cost σc a) fun σc r1 => ob (f7_cost σm a) fun σm r2 => if r1 = r2 then some (σc, σm) else none) else
    if o = 12 then (ob (f6_late σc a b) fun σc r1 => ob (f7_late σm a b) fun σm r2 => if r1 = r2 then some (σc, σm) else none) else
    if o = 13 then (ob (f6_shut σc a b) fun σc r1 => ob (f7_shut σm a b) fun σm r2 => if r1 = r2 then some (σc, σm) else none) else
    if o = 14 then (ob (f6_leave σc a) fun σc r1 => ob (f7_leave σm a) fun σm r2 => if r1 = r2 then some (σc, σm) else none) else
    if o = 15 then (ob (f6_undo σc ) fun σc r1 => ob (f7_undo σm ) fun σm r2 => if r1 = r2 then some (σc, σm) else none) else
    if o = 16 then (ob (f6_cheapest σc a) fun σc r1 => ob (f7_cheapest σm a) fun σm r2 => if r1 = r2 then some (σc, σm) else none) else
    if o = 17 then (ob (f6_lead σc a) fun σc r1 => ob (f7_lead σm a) fun σm r2 => if r1 = r2 then some (σc, σm) else none) else
    if o = 18 then (ob (f6_more σc a b c) fun σc r1 => ob (f7_more σm a b c) fun σm r2 => if r1 = r2 then some (σc, σm) else none) else
    if o = 19 then (ob (f6_dinner σc a b) fun σc r1 => ob (f7_dinner σm a b) fun σm r2 => if r1 = r2 then some (σc, σm) else none) else
    if o = 20 then (Option.bind (f6_byNow σc a b c) fun r1 => Option.bind (f7_byNow σm a b c) fun r2 => if r1 = r2 then some (σc, σm) else none) else
    if o = 21 then (Option.bind (f6_which σc a) fun r1 => Option.bind (f7_which σm a) fun r2 => if r1 = r2 then some (σc, σm) else none) else
    if o = 22 then (ob (f6_seen σc a b) fun σc r1 => ob (f7_seen σm a b) fun σm r2 => if r1 = r2 then some (σc, σm) else none) else
    if o = 23 then (ob (f6_forget σc ) fun σc r1 => ob (f7_forget σm ) fun σm r2 => if r1 = r2 then some (σc, σm) else none) else
    if o = 24 then (ob (f6_fits σc ) fun σc r1 => ob (f7_fits σm ) fun σm r2 => if r1 = r2 then some (σc, σm) else none) else
    if o = 25 then (ob (f6_bridge σc a b) fun σc r1 => ob (f7_bridge σm a b) fun σm r2 => if r1 = r2 then some (σc, σm) else none) else
    if o = 26 then (ob (f6_mean σc a b c) fun σc r1 => ob (f7_mean σm a b c) fun σm r2 => if r1 = r2 then some (σc, σm) else none) else
    if o = 27 then (ob (f6_day σc a b c) fun σc r1 => ob (f7_day σm a b c) fun σm r2 => if r1 = r2 then some (σc, σm) else none) else
    if o = 28 then (ob (f6_keep σc ) fun σc r1 => ob (f7_keep σm ) fun σm r2 => if r1 = r2 then some (σc, σm) else none) else
    if o = 29 then (ob (f6_back σc ) fun σc r1 => ob (f7_back σm ) fun σm r2 => if r1 = r2 then some (σc, σm) else none) else
    if o = 30 then (Option.bind (f6_count σc a) fun r1 => Option.bind (f7_count σm a) fun r2 => if r1 = r2 then some (σc, σm) else none) else
    some (σc, σm)
/-- the script from its place i on -/
def lawG (xs : Nat → Int32) (L : Nat) : Nat → Nat → Mem → Mem → Option Unit
  | 0, _, _, _ => none
  | n + 1, i, σc, σm => if i + 4 ≤ L then Option.bind (lstep σc σm (xs i &&& 31) (xs (i + 1)) (xs (i + 2)) (xs (i + 3))) (fun q => lawG xs L n (i + 4) q.1 q.2) else some ()
set_option maxHeartbeats 4000000 in
set_option maxRecDepth 100000 in
theorem law_loop {p : Program} {l : Launch} {e : Env} {s : State} {m : MethodId} {args : Array Value} {below : List Frame} {meth : Method} {c : Code} {Q : State → Prop} {wC wM : WV} {b L : Nat} {xs : Nat → Int32} (S : CallFix p m c code 4 s args gtbl R_law) (hKC : KS LC wC s) (hKM : KS LM wM s) (hsC : ∀ q, AW LC wC q → s.heap.size ≤ q) (hsM : ∀ q, AW LM wM q → s.heap.size ≤ q) (hdCM : ∀ j, j ∈ LC → ¬ AW LM wM (wC.2.2 j)) (hdMC : ∀ j, j ∈ LM → ¬ AW LC wC (wM.2.2 j)) (hX : va_X b L xs s s.heap) (hbl : b < s.heap.size) (hL : L ≤ 2048) (hret : ∀ (H : Heap) (ls : Array Slot), W p l e room_1 s m args below meth c H [] 600000 7302250 Q (F0 m 1012 ls [.int 1])) : ∀ (n i : Nat) (σc σm : Mem), lawG xs L n i σc σm = some () → ∀ (H : Heap) (locs : List Loc), Rp EC LC wC σc H → Rp EM LM wM σm H → va_S (fun q => s.heap.size ≤ q) s.heap H locs → i ≤ L → ∀ (ls : Array Slot), lv_has ls 4 [(0, .ref b), (1, .ref (wC.2.2 0)), (2, .ref (wM.2.2 0)), (3, .int (nI i))] → W p l e room_1 s m args below meth c H locs 600000 7302250 Q (F0 m 18 ls []) := by
  obtain ⟨hx, hb, hml, hown, hts⟩ := id S
  have hbA : ¬ (fun q => s.heap.size ≤ q) b := Nat.not_le.mpr hbl
  intro n
  induction n with
  | zero =>
    intro i σc σm h0
    cases (show none = _ from h0)
  | succ n ih =>
    intro i σc σm h0 H locs hRC hRM hS hil ls hl
    rw [lawG] at h0
    refine lv_iload_n hx hb dL_18 rfl (lv_at hl 3 rfl) ?_
    refine lv_aload_n hx hb dL_19 rfl (lv_at hl 0 rfl) ?_
    refine va_slen hx hb hX hbl hbA hS dL_20 ?_
    refine lv_iconst (v := 4) hx hb dL_21 (by decide) ?_
    refine lv_isub hx hb dL_22 ?_
    have hcmp : (Int32.ofNat L - 4 < nI i) ↔ ¬ i + 4 ≤ L := by
      have e1 : (Int32.ofNat L - 4 : Int32).toInt = (L : Int) - 4 := by
        have := pk_sub_toInt (a := L) (b := 4) (by omega) (by omega)
        exact this
      have e2 : (nI i).toInt = (i : Int) := nI_toInt (by omega)
      rw [Int32.lt_iff_toInt_lt, e1, e2]
      omega
    refine lv_icmp_gt (tgt := 1011) hx hb dL_23 (by decide) (fun hc => ?_) (fun hc => ?_)
    · refine lv_iconst (v := 1) hx hb dL_1011 (by decide) ?_
      refine va_forget (fun q hq => hS.2.2 q hq) ?_
      exact hret H ls
    · have hi : i + 4 ≤ L := Classical.byContradiction fun z => hc (hcmp.mpr z)
      have h0 := og_t hi h0
      obtain ⟨⟨σc1, σm1⟩, hs, h0⟩ := og_b h0
      refine lv_aload_n hx hb dL_26 rfl (lv_at hl 0 rfl) ?_
      refine lv_iload_n hx hb dL_27 rfl (lv_at hl 3 rfl) ?_
      refine q_sld (k := i) S hX hbl hbA hS rfl (by omega) hL dL_28 ?_
      refine lv_bipush (v := 31) hx hb dL_29 (by decide) ?_
      refine lv_iand hx hb dL_31 ?_
      have kk : ∀ (H1 : Heap) (locs1 : List Loc), Rp EC LC wC σc1 H1 → Rp EM LM wM σm1 H1 → va_S (fun q => s.heap.size ≤ q) s.heap H1 locs1 → W p l e room_1 s m args below meth c H1 locs1 600000 7302250 Q (F0 m 1005 ls []) := by
        intro H1 locs1 hRC hRM hS
        refine lv_iinc (v := nI (i + 4)) (lv' := [(3, .int (nI (i + 4))), (0, .ref b), (1, .ref (wC.2.2 0)), (2, .ref (wM.2.2 0))]) hx hb dL_1005 hl (k := 3) rfl ((ii4 _).trans (nI_a4 i)) (by decide) rfl (fun ls hl => ?_)
        refine lv_goto (tgt := 18) hx hb dL_1008 (by decide) ?_
        exact ih (i + 4) σc1 σm1 h0 H1 locs1 hRC hRM hS (by omega) ls (lv_sub hl [1, 2, 3, 0] rfl)
      generalize xs i &&& 31 = o at hs ⊢
      rw [lstep] at hs
      by_cases hc0 : o = 0
      · have hs := og_t hc0 hs
        refine q_tabI (off := 140) (tgt := 172) S dL_32 hc0 (by decide) (by decide) (by decide) (by decide) ?_
        obtain ⟨τc, r1, h1, hs⟩ := og_o hs
        obtain ⟨τm, r2, h2, hs⟩ := og_o hs
        obtain ⟨he, hs2⟩ := og_if hs
        subst he
        cases hs2
        exact lc_0 S hKC hKM hsC hsM hdCM hdMC hX hbl hL hi hRC hRM hS hl h1 h2 kk
      · have hs := og_f hc0 hs
        by_cases hc1 : o = 1
        · have hs := og_t hc1 hs
          refine q_tabI (off := 163) (tgt := 195) S dL_32 hc1 (by decide) (by decide) (by decide) (by decide) ?_
          obtain ⟨τc, r1, h1, hs⟩ := og_o hs
          obtain ⟨τm, r2, h2, hs⟩ := og_o hs
          obtain ⟨he, hs2⟩ := og_if hs
          subst he
          cases hs2
          exact lc_1 S hKC hKM hsC hsM hdCM hdMC hX hbl hL hi hRC hRM hS hl h1 h2 kk
        · have hs := og_f hc1 hs
          by_cases hc2 : o = 2
          · have hs := og_t hc2 hs
            refine q_tabI (off := 176) (tgt := 208) S dL_32 hc2 (by decide) (by decide) (by decide) (by decide) ?_
            obtain ⟨τc, r1, h1, hs⟩ := og_o hs
            obtain ⟨τm, r2, h2, hs⟩ := og_o hs
            obtain ⟨he, hs2⟩ := og_if hs
            subst he
            cases hs2
            exact lc_2 S hKC hKM hsC hsM hdCM hdMC hX hbl hL hi hRC hRM hS hl h1 h2 kk
          · have hs := og_f hc2 hs
            by_cases hc3 : o = 3
            · have hs := og_t hc3 hs
              refine q_tabI (off := 189) (tgt := 221) S dL_32 hc3 (by decide) (by decide) (by decide) (by decide) ?_
              obtain ⟨τc, r1, h1, hs⟩ := og_o hs
              obtain ⟨τm, r2, h2, hs⟩ := og_o hs
              obtain ⟨he, hs2⟩ := og_if hs
              subst he
              cases hs2
              exact lc_3 S hKC hKM hsC hsM hdCM hdMC hX hbl hL hi hRC hRM hS hl h1 h2 kk
            · have hs := og_f hc3 hs
              by_cases hc4 : o = 4
              · have hs := og_t hc4 hs
                refine q_tabI (off := 202) (tgt := 234) S dL_32 hc4 (by decide) (by decide) (by decide) (by decide) ?_
                obtain ⟨r1, h1, hs⟩ := og_b hs
                obtain ⟨r2, h2, hs⟩ := og_b hs
                obtain ⟨he, hs2⟩ := og_if hs
                subst he
                cases hs2
                exact lc_4 S hKC hKM hsC hsM hdCM hdMC hX hbl hL hi hRC hRM hS hl h1 h2 kk
              · have hs := og_f hc4 hs
                by_cases hc5 : o = 5
                · have hs := og_t hc5 hs
                  refine q_tabI (off := 235) (tgt := 267) S dL_32 hc5 (by decide) (by decide) (by decide) (by decide) ?_
                  obtain ⟨r1, h1, hs⟩ := og_b hs
                  obtain ⟨r2, h2, hs⟩ := og_b hs
                  obtain ⟨he, hs2⟩ := og_if hs
                  subst he
                  cases hs2
                  exact lc_5 S hKC hKM hsC hsM hdCM hdMC hX hbl hL hi hRC hRM hS hl h1 h2 kk
                · have hs := og_f hc5 hs
                  by_cases hc6 : o = 6
                  · have hs := og_t hc6 hs
                    refine q_tabI (off := 268) (tgt := 300) S dL_32 hc6 (by decide) (by decide) (by decide) (by decide) ?_
                    obtain ⟨τc, r1, h1, hs⟩ := og_o hs
                    obtain ⟨τm, r2, h2, hs⟩ := og_o hs
                    obtain ⟨he, hs2⟩ := og_if hs
                    subst he
                    cases hs2
                    exact lc_6 S hKC hKM hsC hsM hdCM hdMC hX hbl hL hi hRC hRM hS hl h1 h2 kk
                  · have hs := og_f hc6 hs
                    by_cases hc7 : o = 7
                    · have hs := og_t hc7 hs
                      refine q_tabI (off := 301) (tgt := 333) S dL_32 hc7 (by decide) (by decide) (by decide) (by decide) ?_
                      obtain ⟨τc, r1, h1, hs⟩ := og_o hs
                      obtain ⟨τm, r2, h2, hs⟩ := og_o hs
                      obtain ⟨he, hs2⟩ := og_if hs
                      subst he
                      cases hs2
                      exact lc_7 S hKC hKM hsC hsM hdCM hdMC hX hbl hL hi hRC hRM hS hl h1 h2 kk
                    · have hs := og_f hc7 hs
                      by_cases hc8 : o = 8
                      · have hs := og_t hc8 hs
                        refine q_tabI (off := 334) (tgt := 366) S dL_32 hc8 (by decide) (by decide) (by decide) (by decide) ?_
                        obtain ⟨τc, r1, h1, hs⟩ := og_o hs
                        obtain ⟨τm, r2, h2, hs⟩ := og_o hs
                        obtain ⟨he, hs2⟩ := og_if hs
                        subst he
                        cases hs2
                        exact lc_8 S hKC hKM hsC hsM hdCM hdMC hX hbl hL hi hRC hRM hS hl h1 h2 kk
                      · have hs := og_f hc8 hs
                        by_cases hc9 : o = 9
                        · have hs := og_t hc9 hs
                          refine q_tabI (off := 367) (tgt := 399) S dL_32 hc9 (by decide) (by decide) (by decide) (by decide) ?_
                          obtain ⟨τc, r1, h1, hs⟩ := og_o hs
                          obtain ⟨τm, r2, h2, hs⟩ := og_o hs
                          obtain ⟨he, hs2⟩ := og_if hs
                          subst he
                          cases hs2
                          exact lc_9 S hKC hKM hsC hsM hdCM hdMC hX hbl hL hi hRC hRM hS hl h1 h2 kk
                        · have hs := og_f hc9 hs
                          by_cases hc10 : o = 10
                          · have hs := og_t hc10 hs
                            refine q_tabI (off := 400) (tgt := 432) S dL_32 hc10 (by decide) (by decide) (by decide) (by decide) ?_
                            obtain ⟨τc, r1, h1, hs⟩ := og_o hs
                            obtain ⟨τm, r2, h2, hs⟩ := og_o hs
                            obtain ⟨he, hs2⟩ := og_if hs
                            subst he
                            cases hs2
                            exact lc_10 S hKC hKM hsC hsM hdCM hdMC hX hbl hL hi hRC hRM hS hl h1 h2 kk
                          · have hs := og_f hc10 hs
                            by_cases hc11 : o = 11
                            · have hs := og_t hc11 hs
                              refine q_tabI (off := 433) (tgt := 465) S dL_32 hc11 (by decide) (by decide) (by decide) (by decide) ?_
                              obtain ⟨τc, r1, h1, hs⟩ := og_o hs
                              obtain ⟨τm, r2, h2, hs⟩ := og_o hs
                              obtain ⟨he, hs2⟩ := og_if hs
                              subst he
                              cases hs2
                              exact lc_11 S hKC hKM hsC hsM hdCM hdMC hX hbl hL hi hRC hRM hS hl h1 h2 kk
                            · have hs := og_f hc11 hs
                              by_cases hc12 : o = 12
                              · have hs := og_t hc12 hs
                                refine q_tabI (off := 456) (tgt := 488) S dL_32 hc12 (by decide) (by decide) (by decide) (by decide) ?_
                                obtain ⟨τc, r1, h1, hs⟩ := og_o hs
                                obtain ⟨τm, r2, h2, hs⟩ := og_o hs
                                obtain ⟨he, hs2⟩ := og_if hs
                                subst he
                                cases hs2
                                exact lc_12 S hKC hKM hsC hsM hdCM hdMC hX hbl hL hi hRC hRM hS hl h1 h2 kk
                              · have hs := og_f hc12 hs
                                by_cases hc13 : o = 13
                                · have hs := og_t hc13 hs
                                  refine q_tabI (off := 489) (tgt := 521) S dL_32 hc13 (by decide) (by decide) (by decide) (by decide) ?_
                                  obtain ⟨τc, r1, h1, hs⟩ := og_o hs
                                  obtain ⟨τm, r2, h2, hs⟩ := og_o hs
                                  obtain ⟨he, hs2⟩ := og_if hs
                                  subst he
                                  cases hs2
                                  exact lc_13 S hKC hKM hsC hsM hdCM hdMC hX hbl hL hi hRC hRM hS hl h1 h2 kk
                                · have hs := og_f hc13 hs
                                  by_cases hc14 : o = 14
                                  · have hs := og_t hc14 hs
                                    refine q_tabI (off := 522) (tgt := 554) S dL_32 hc14 (by decide) (by decide) (by decide) (by decide) ?_
                                    obtain ⟨τc, r1, h1, hs⟩ := og_o hs
                                    obtain ⟨τm, r2, h2, hs⟩ := og_o hs
                                    obtain ⟨he, hs2⟩ := og_if hs
                                    subst he
                                    cases hs2
                                    exact lc_14 S hKC hKM hsC hsM hdCM hdMC hX hbl hL hi hRC hRM hS hl h1 h2 kk
                                  · have hs := og_f hc14 hs
                                    by_cases hc15 : o = 15
                                    · have hs := og_t hc15 hs
                                      refine q_tabI (off := 545) (tgt := 577) S dL_32 hc15 (by decide) (by decide) (by decide) (by decide) ?_
                                      obtain ⟨τc, r1, h1, hs⟩ := og_o hs
                                      obtain ⟨τm, r2, h2, hs⟩ := og_o hs
                                      obtain ⟨he, hs2⟩ := og_if hs
                                      subst he
                                      cases hs2
                                      exact lc_15 S hKC hKM hsC hsM hdCM hdMC hX hbl hL hi hRC hRM hS hl h1 h2 kk
                                    · have hs := og_f hc15 hs
                                      by_cases hc16 : o = 16
                                      · have hs := og_t hc16 hs
                                        refine q_tabI (off := 558) (tgt := 590) S dL_32 hc16 (by decide) (by decide) (by decide) (by decide) ?_
                                        obtain ⟨τc, r1, h1, hs⟩ := og_o hs
                                        obtain ⟨τm, r2, h2, hs⟩ := og_o hs
                                        obtain ⟨he, hs2⟩ := og_if hs
                                        subst he
                                        cases hs2
                                        exact lc_16 S hKC hKM hsC hsM hdCM hdMC hX hbl hL hi hRC hRM hS hl h1 h2 kk
                                      · have hs := og_f hc16 hs
                                        by_cases hc17 : o = 17
                                        · have hs := og_t hc17 hs
                                          refine q_tabI (off := 581) (tgt := 613) S dL_32 hc17 (by decide) (by decide) (by decide) (by decide) ?_
                                          obtain ⟨τc, r1, h1, hs⟩ := og_o hs
                                          obtain ⟨τm, r2, h2, hs⟩ := og_o hs
                                          obtain ⟨he, hs2⟩ := og_if hs
                                          subst he
                                          cases hs2
                                          exact lc_17 S hKC hKM hsC hsM hdCM hdMC hX hbl hL hi hRC hRM hS hl h1 h2 kk
                                        · have hs := og_f hc17 hs
                                          by_cases hc18 : o = 18
                                          · have hs := og_t hc18 hs
                                            refine q_tabI (off := 604) (tgt := 636) S dL_32 hc18 (by decide) (by decide) (by decide) (by decide) ?_
                                            obtain ⟨τc, r1, h1, hs⟩ := og_o hs
                                            obtain ⟨τm, r2, h2, hs⟩ := og_o hs
                                            obtain ⟨he, hs2⟩ := og_if hs
                                            subst he
                                            cases hs2
                                            exact lc_18 S hKC hKM hsC hsM hdCM hdMC hX hbl hL hi hRC hRM hS hl h1 h2 kk
                                          · have hs := og_f hc18 hs
                                            by_cases hc19 : o = 19
                                            · have hs := og_t hc19 hs
                                              refine q_tabI (off := 647) (tgt := 679) S dL_32 hc19 (by decide) (by decide) (by decide) (by decide) ?_
                                              obtain ⟨τc, r1, h1, hs⟩ := og_o hs
                                              obtain ⟨τm, r2, h2, hs⟩ := og_o hs
                                              obtain ⟨he, hs2⟩ := og_if hs
                                              subst he
                                              cases hs2
                                              exact lc_19 S hKC hKM hsC hsM hdCM hdMC hX hbl hL hi hRC hRM hS hl h1 h2 kk
                                            · have hs := og_f hc19 hs
                                              by_cases hc20 : o = 20
                                              · have hs := og_t hc20 hs
                                                refine q_tabI (off := 680) (tgt := 712) S dL_32 hc20 (by decide) (by decide) (by decide) (by decide) ?_
                                                obtain ⟨r1, h1, hs⟩ := og_b hs
                                                obtain ⟨r2, h2, hs⟩ := og_b hs
                                                obtain ⟨he, hs2⟩ := og_if hs
                                                subst he
                                                cases hs2
                                                exact lc_20 S hKC hKM hsC hsM hdCM hdMC hX hbl hL hi hRC hRM hS hl h1 h2 kk
                                              · have hs := og_f hc20 hs
                                                by_cases hc21 : o = 21
                                                · have hs := og_t hc21 hs
                                                  refine q_tabI (off := 723) (tgt := 755) S dL_32 hc21 (by decide) (by decide) (by decide) (by decide) ?_
                                                  obtain ⟨r1, h1, hs⟩ := og_b hs
                                                  obtain ⟨r2, h2, hs⟩ := og_b hs
                                                  obtain ⟨he, hs2⟩ := og_if hs
                                                  subst he
                                                  cases hs2
                                                  exact lc_21 S hKC hKM hsC hsM hdCM hdMC hX hbl hL hi hRC hRM hS hl h1 h2 kk
                                                · have hs := og_f hc21 hs
                                                  by_cases hc22 : o = 22
                                                  · have hs := og_t hc22 hs
                                                    refine q_tabI (off := 746) (tgt := 778) S dL_32 hc22 (by decide) (by decide) (by decide) (by decide) ?_
                                                    obtain ⟨τc, r1, h1, hs⟩ := og_o hs
                                                    obtain ⟨τm, r2, h2, hs⟩ := og_o hs
                                                    obtain ⟨he, hs2⟩ := og_if hs
                                                    subst he
                                                    cases hs2
                                                    exact lc_22 S hKC hKM hsC hsM hdCM hdMC hX hbl hL hi hRC hRM hS hl h1 h2 kk
                                                  · have hs := og_f hc22 hs
                                                    by_cases hc23 : o = 23
                                                    · have hs := og_t hc23 hs
                                                      refine q_tabI (off := 779) (tgt := 811) S dL_32 hc23 (by decide) (by decide) (by decide) (by decide) ?_
                                                      obtain ⟨τc, r1, h1, hs⟩ := og_o hs
                                                      obtain ⟨τm, r2, h2, hs⟩ := og_o hs
                                                      obtain ⟨he, hs2⟩ := og_if hs
                                                      subst he
                                                      cases hs2
                                                      exact lc_23 S hKC hKM hsC hsM hdCM hdMC hX hbl hL hi hRC hRM hS hl h1 h2 kk
                                                    · have hs := og_f hc23 hs
                                                      by_cases hc24 : o = 24
                                                      · have hs := og_t hc24 hs
                                                        refine q_tabI (off := 792) (tgt := 824) S dL_32 hc24 (by decide) (by decide) (by decide) (by decide) ?_
                                                        obtain ⟨τc, r1, h1, hs⟩ := og_o hs
                                                        obtain ⟨τm, r2, h2, hs⟩ := og_o hs
                                                        obtain ⟨he, hs2⟩ := og_if hs
                                                        subst he
                                                        cases hs2
                                                        exact lc_24 S hKC hKM hsC hsM hdCM hdMC hX hbl hL hi hRC hRM hS hl h1 h2 kk
                                                      · have hs := og_f hc24 hs
                                                        by_cases hc25 : o = 25
                                                        · have hs := og_t hc25 hs
                                                          refine q_tabI (off := 805) (tgt := 837) S dL_32 hc25 (by decide) (by decide) (by decide) (by decide) ?_
                                                          obtain ⟨τc, r1, h1, hs⟩ := og_o hs
                                                          obtain ⟨τm, r2, h2, hs⟩ := og_o hs
                                                          obtain ⟨he, hs2⟩ := og_if hs
                                                          subst he
                                                          cases hs2
                                                          exact lc_25 S hKC hKM hsC hsM hdCM hdMC hX hbl hL hi hRC hRM hS hl h1 h2 kk
                                                        · have hs := og_f hc25 hs
                                                          by_cases hc26 : o = 26
                                                          · have hs := og_t hc26 hs
                                                            refine q_tabI (off := 838) (tgt := 870) S dL_32 hc26 (by decide) (by decide) (by decide) (by decide) ?_
                                                            obtain ⟨τc, r1, h1, hs⟩ := og_o hs
                                                            obtain ⟨τm, r2, h2, hs⟩ := og_o hs
                                                            obtain ⟨he, hs2⟩ := og_if hs
                                                            subst he
                                                            cases hs2
                                                            exact lc_26 S hKC hKM hsC hsM hdCM hdMC hX hbl hL hi hRC hRM hS hl h1 h2 kk
                                                          · have hs := og_f hc26 hs
                                                            by_cases hc27 : o = 27
                                                            · have hs := og_t hc27 hs
                                                              refine q_tabI (off := 881) (tgt := 913) S dL_32 hc27 (by decide) (by decide) (by decide) (by decide) ?_
                                                              obtain ⟨τc, r1, h1, hs⟩ := og_o hs
                                                              obtain ⟨τm, r2, h2, hs⟩ := og_o hs
                                                              obtain ⟨he, hs2⟩ := og_if hs
                                                              subst he
                                                              cases hs2
                                                              exact lc_27 S hKC hKM hsC hsM hdCM hdMC hX hbl hL hi hRC hRM hS hl h1 h2 kk
                                                            · have hs := og_f hc27 hs
                                                              by_cases hc28 : o = 28
                                                              · have hs := og_t hc28 hs
                                                                refine q_tabI (off := 924) (tgt := 956) S dL_32 hc28 (by decide) (by decide) (by decide) (by decide) ?_
                                                                obtain ⟨τc, r1, h1, hs⟩ := og_o hs
                                                                obtain ⟨τm, r2, h2, hs⟩ := og_o hs
                                                                obtain ⟨he, hs2⟩ := og_if hs
                                                                subst he
                                                                cases hs2
                                                                exact lc_28 S hKC hKM hsC hsM hdCM hdMC hX hbl hL hi hRC hRM hS hl h1 h2 kk
                                                              · have hs := og_f hc28 hs
                                                                by_cases hc29 : o = 29
                                                                · have hs := og_t hc29 hs
                                                                  refine q_tabI (off := 937) (tgt := 969) S dL_32 hc29 (by decide) (by decide) (by decide) (by decide) ?_
                                                                  obtain ⟨τc, r1, h1, hs⟩ := og_o hs
                                                                  obtain ⟨τm, r2, h2, hs⟩ := og_o hs
                                                                  obtain ⟨he, hs2⟩ := og_if hs
                                                                  subst he
                                                                  cases hs2
                                                                  exact lc_29 S hKC hKM hsC hsM hdCM hdMC hX hbl hL hi hRC hRM hS hl h1 h2 kk
                                                                · have hs := og_f hc29 hs
                                                                  by_cases hc30 : o = 30
                                                                  · have hs := og_t hc30 hs
                                                                    refine q_tabI (off := 950) (tgt := 982) S dL_32 hc30 (by decide) (by decide) (by decide) (by decide) ?_
                                                                    obtain ⟨r1, h1, hs⟩ := og_b hs
                                                                    obtain ⟨r2, h2, hs⟩ := og_b hs
                                                                    obtain ⟨he, hs2⟩ := og_if hs
                                                                    subst he
                                                                    cases hs2
                                                                    exact lc_30 S hKC hKM hsC hsM hdCM hdMC hX hbl hL hi hRC hRM hS hl h1 h2 kk
                                                                  · have hs := og_f hc30 hs
                                                                    cases hs
                                                                    refine q_tabD (tgt := 1005) S dL_32 [0, 1, 2, 3, 4, 5, 6, 7, 8, 9, 10, 11, 12, 13, 14, 15, 16, 17, 18, 19, 20, 21, 22, 23, 24, 25, 26, 27, 28, 29, 30] (by decide) (by decide) (List.forall_mem_cons.mpr ⟨ne_toInt hc0 (by decide), List.forall_mem_cons.mpr ⟨ne_toInt hc1 (by decide), List.forall_mem_cons.mpr ⟨ne_toInt hc2 (by decide), List.forall_mem_cons.mpr ⟨ne_toInt hc3 (by decide), List.forall_mem_cons.mpr ⟨ne_toInt hc4 (by decide), List.forall_mem_cons.mpr ⟨ne_toInt hc5 (by decide), List.forall_mem_cons.mpr ⟨ne_toInt hc6 (by decide), List.forall_mem_cons.mpr ⟨ne_toInt hc7 (by decide), List.forall_mem_cons.mpr ⟨ne_toInt hc8 (by decide), List.forall_mem_cons.mpr ⟨ne_toInt hc9 (by decide), List.forall_mem_cons.mpr ⟨ne_toInt hc10 (by decide), List.forall_mem_cons.mpr ⟨ne_toInt hc11 (by decide), List.forall_mem_cons.mpr ⟨ne_toInt hc12 (by decide), List.forall_mem_cons.mpr ⟨ne_toInt hc13 (by decide), List.forall_mem_cons.mpr ⟨ne_toInt hc14 (by decide), List.forall_mem_cons.mpr ⟨ne_toInt hc15 (by decide), List.forall_mem_cons.mpr ⟨ne_toInt hc16 (by decide), List.forall_mem_cons.mpr ⟨ne_toInt hc17 (by decide), List.forall_mem_cons.mpr ⟨ne_toInt hc18 (by decide), List.forall_mem_cons.mpr ⟨ne_toInt hc19 (by decide), List.forall_mem_cons.mpr ⟨ne_toInt hc20 (by decide), List.forall_mem_cons.mpr ⟨ne_toInt hc21 (by decide), List.forall_mem_cons.mpr ⟨ne_toInt hc22 (by decide), List.forall_mem_cons.mpr ⟨ne_toInt hc23 (by decide), List.forall_mem_cons.mpr ⟨ne_toInt hc24 (by decide), List.forall_mem_cons.mpr ⟨ne_toInt hc25 (by decide), List.forall_mem_cons.mpr ⟨ne_toInt hc26 (by decide), List.forall_mem_cons.mpr ⟨ne_toInt hc27 (by decide), List.forall_mem_cons.mpr ⟨ne_toInt hc28 (by decide), List.forall_mem_cons.mpr ⟨ne_toInt hc29 (by decide), List.forall_mem_cons.mpr ⟨ne_toInt hc30 (by decide), fun _ hq => absurd hq List.not_mem_nil⟩⟩⟩⟩⟩⟩⟩⟩⟩⟩⟩⟩⟩⟩⟩⟩⟩⟩⟩⟩⟩⟩⟩⟩⟩⟩⟩⟩⟩⟩⟩) (by decide) ?_
                                                                    exact kk _ _ hRC hRM hS
