abbrev dfl0 : List Value := [.null, .null, .null, .null, .null, .int 0, .int 0, .int 0, .int 0]
theorem df0 : ∀ j, j < 9 → defaultValue (tyX0 j) = vp_V dfl0 j := by decide +kernel
abbrev dfl1 : List Value := [.null, .null, .null, .null, .null, .null, .null, .null, .null, .int 0, .int 0, .int 0, .int 0, .int 0, .int 0, .int 0, .int 0, .int 0, .int 0]
theorem df1 : ∀ j, j < 19 → defaultValue (tyX1 j) = vp_V dfl1 j := by decide +kernel
abbrev dfl2 : List Value := [.null, .null, .int 0, .int 0]
theorem df2 : ∀ j, j < 4 → defaultValue (tyX2 j) = vp_V dfl2 j := by decide +kernel
abbrev dfl3 : List Value := [.null, .int 0]
theorem df3 : ∀ j, j < 2 → defaultValue (tyX3 j) = vp_V dfl3 j := by decide +kernel
abbrev dfl4 : List Value := [.null, .null]
theorem df4 : ∀ j, j < 2 → defaultValue (tyX4 j) = vp_V dfl4 j := by decide +kernel
abbrev dfl5 : List Value := [.null, .int 0, .int 0]
theorem df5 : ∀ j, j < 3 → defaultValue (tyX5 j) = vp_V dfl5 j := by decide +kernel
abbrev dfl6 : List Value := [.null, .null, .null, .null, .null, .null, .null, .null, .null, .null, .int 0, .int 0, .int 0]
theorem df6 : ∀ j, j < 13 → defaultValue (tyX6 j) = vp_V dfl6 j := by decide +kernel
abbrev dfl7 : List Value := [.int 0, .null, .null, .null, .null, .null, .null, .null, .null, .null, .null, .null, .null, .null, .null, .null, .null, .null, .int 0, .null, .int 0, .int 0, .null, .null, .int 0, .null, .null, .null, .null, .null, .null, .null, .int 0, .int 0, .int 0, .int 0, .int 0, .null]
theorem df7 : ∀ j, j < 38 → defaultValue (tyX7 j) = vp_V dfl7 j := by decide +kernel
def lim8 (x : Int32) : Int32 := if 8 < x then 8 else x
abbrev iar (w : WV) (n : Nat) : va_E := .inl (w.2.1 0, n, .inl (fun _ => 0))
def lst2 (w : WV) (x : Int32) (u : Nat → Nat) : va_W := [(u 0, .inr (2, [.ref (u 1), .ref (u 2), .int x, .int 0])), (u 1, iar w 8), (u 2, iar w 8)]
def lst5 (w : WV) (u : Nat → Nat) : va_W := [(u 0, .inr (5, [.ref (u 1), .int 0, .int 0])), (u 1, iar w 200)]
def lst4 (w : WV) (u : Nat → Nat) : va_W := (u 0, .inr (4, [.ref (u 1), .ref (u 4)])) :: (lst2 w (lim8 6) (fun j => u (j + 1)) ++ [(u 4, iar w 6)])
def lst0 (w : WV) (u : Nat → Nat) : va_W := (u 0, .inr (0, [.ref (u 1), .ref (u 4), .ref (u 7), .ref (u 10), .ref (u 13), .int 0, .int 0, .int 0, .int 0])) :: (lst2 w (lim8 6) (fun j => u (j + 1)) ++ lst2 w (lim8 8) (fun j => u (j + 4)) ++ lst2 w (lim8 6) (fun j => u (j + 7)) ++ lst2 w (lim8 5) (fun j => u (j + 10)) ++ [(u 13, iar w 4)])
def lst1 (w : WV) (a1 a2 : Nat) (u : Nat → Nat) : va_W := [(u 0, .inr (1, [.ref a1, .ref a2, .ref (u 1), .ref (u 2), .ref (u 3), .ref (u 4), .ref (u 5), .ref (u 6), .ref (u 7), .int 0, .int 0, .int 0, .int 0, .int 0, .int 0, .int 0, .int 0, .int 0, .int 0])), (u 1, iar w 360), (u 2, iar w 6), (u 3, iar w 6), (u 4, iar w 6), (u 5, iar w 6), (u 6, iar w 8), (u 7, iar w 8)]
def lst3_8 (w : WV) (u : Nat → Nat) : va_W := (u 0, .inr (3, [.ref (u 1), .int 0])) :: ([(u 1, .inl (w.2.1 3, 8, .inr (.inr (.inr (.inr (fun i => some (u (2 + 5 * i))))))))] ++ lst4 w (fun j => u (j + 2)) ++ lst4 w (fun j => u (j + 7)) ++ lst4 w (fun j => u (j + 12)) ++ lst4 w (fun j => u (j + 17)) ++ lst4 w (fun j => u (j + 22)) ++ lst4 w (fun j => u (j + 27)) ++ lst4 w (fun j => u (j + 32)) ++ lst4 w (fun j => u (j + 37)))
def lst3_2 (w : WV) (u : Nat → Nat) : va_W := (u 0, .inr (3, [.ref (u 1), .int 0])) :: ([(u 1, .inl (w.2.1 3, 2, .inr (.inr (.inr (.inr (fun i => some (u (2 + 5 * i))))))))] ++ lst4 w (fun j => u (j + 2)) ++ lst4 w (fun j => u (j + 7)))
theorem refs_congr {cA : ClassId} {n : Nat} {f g : Nat → Option Nat} (h : ∀ j, j < n → f j = g j) : vp_cell cA (n, .inr (.inr (.inr (.inr f)))) = vp_cell cA (n, .inr (.inr (.inr (.inr g)))) := by
  rw [vp_cell_q, vp_cell_q]
  unfold arrV
  congr 1
  apply Array.ext
  · simp
  · intro i h1 h2
    simp only [Array.getElem_ofFn]
    rw [h i (by simpa using h1)]
theorem va_P.refs {D : va_G} {cl : List vw_C} {ws : va_W} {H : Heap} {k a n : Nat} {cA : ClassId} {f g : Nat → Option Nat} (hP : va_P D cl ws H) (hk : ws[k]? = some (a, .inl (cA, n, .inr (.inr (.inr (.inr f)))))) (h : ∀ j, j < n → f j = g j) : va_P D cl (ws.set k (a, .inl (cA, n, .inr (.inr (.inr (.inr g)))))) H := by
  intro i q hi
  by_cases he : i = k
  · subst he
    rw [List.getElem?_set_self (List.getElem?_eq_some_iff.mp hk).1] at hi
    cases hi
    have := hP i _ hk
    show H[a]? = some (vp_cell _ _)
    rw [← refs_congr h]
    exact this
  · rw [List.getElem?_set_ne (Ne.symm he)] at hi
    exact hP i q hi
theorem x_obj {p : Program} {l : Launch} {e : Env} {R : Room} {s : State} {m : MethodId} {args : Array Value} {below : List Frame} {meth : Method} {c : Code} {H : Heap} {locs : List Loc} {cells slots : Nat} {Q : State → Prop} {cc : ByteArray} {pc nL : Nat} {ls : Array Slot} {own : String} {idx a : Nat} (S : CallFix p m c cc nL s args gtbl own) (h1 : Cond.methodLink own idx Lib.objectInit ∈ gtbl) (h2 : Cond.instanceMethod Lib.objectInit ∈ gtbl) (h3 : Cond.code Lib.objectInit ⟨#[0xb1]⟩ 1 none ∈ gtbl) (hl : ls.size = nL) (hd : decode cc pc = .ok (.invokespecial idx, 3)) (hfr : 1 ≤ R.frames) (hlo : 20 ≤ R.locals) (kk : W p l e R s m args below meth c H locs cells slots Q (F0 m (pc + 3) ls [])) : W p l e R s m args below meth c H locs cells slots Q (F0 m pc ls [.ref a]) := by
  refine W.objInit S.1 S.2.1 S.2.2.2.1 (S.2.2.2.2 _ h1) (S.2.2.2.2 _ h2) (S.2.2.2.2 _ h3) rfl (by rw [S.2.2.1]; exact hl) rfl hd hfr ?_ kk
  have : 2 * (F0 m pc ls [.ref a]).monitorRoom = 0 := rfl
  simp only [List.map_nil, List.sum_nil]
  omega
theorem ao_blind : FrameBlind (fun _ U => va_AO RX4 U) := fun a U g mk h => va_AO.moved (u := U) (U := U.calling g mk a) (Vm.Alike.refl U.vm) h
theorem d2_init_0 : decode cX2_init 0 = .ok (.aload_n 0, 1) := by decide +kernel
theorem d2_init_1 : decode cX2_init 1 = .ok (.invokespecial 3, 3) := by decide +kernel
theorem d2_init_4 : decode cX2_init 4 = .ok (.aload_n 0, 1) := by decide +kernel
theorem d2_init_5 : decode cX2_init 5 = .ok (.bipush 8, 2) := by decide +kernel
theorem d2_init_7 : decode cX2_init 7 = .ok (.newarray .int, 2) := by decide +kernel
theorem d2_init_9 : decode cX2_init 9 = .ok (.putfield 9, 3) := by decide +kernel
theorem d2_init_12 : decode cX2_init 12 = .ok (.aload_n 0, 1) := by decide +kernel
theorem d2_init_13 : decode cX2_init 13 = .ok (.bipush 8, 2) := by decide +kernel
theorem d2_init_15 : decode cX2_init 15 = .ok (.newarray .int, 2) := by decide +kernel
theorem d2_init_17 : decode cX2_init 17 = .ok (.putfield 15, 3) := by decide +kernel
theorem d2_init_20 : decode cX2_init 20 = .ok (.aload_n 0, 1) := by decide +kernel
theorem d2_init_21 : decode cX2_init 21 = .ok (.iconst 0, 1) := by decide +kernel
theorem d2_init_22 : decode cX2_init 22 = .ok (.putfield 18, 3) := by decide +kernel
theorem d2_init_25 : decode cX2_init 25 = .ok (.aload_n 0, 1) := by decide +kernel
theorem d2_init_26 : decode cX2_init 26 = .ok (.iload_n 1, 1) := by decide +kernel
theorem d2_init_27 : decode cX2_init 27 = .ok (.bipush 8, 2) := by decide +kernel
theorem d2_init_29 : decode cX2_init 29 = .ok (.invokestatic 22, 3) := by decide +kernel
theorem d2_init_32 : decode cX2_init 32 = .ok (.putfield 28, 3) := by decide +kernel
theorem d2_init_35 : decode cX2_init 35 = .ok (.return_, 1) := by decide +kernel
abbrev rmi_2 : Room := { frames := 1, cells := 2, slots := 16, locals := 21 }
set_option maxHeartbeats 4000000 in
set_option maxRecDepth 100000 in
theorem ci2 (l : Launch) (w : WV) (a sz : Nat) (x1 : Int32) : Met l yX2_init (wy yX2_init cX2_init 2 none) rmi_2 (PcI w [.ref a, .int x1] sz [(a, .inr (2, dfl2))] nx) (QvI w (lst2 w (lim8 x1)) a (va_A [(a, .inr (2, dfl2))] sz)) 2 16 (va_A [(a, .inr (2, dfl2))] sz) := by
  refine mk_meti (by decide) (Nat.le_of_ble_eq_true rfl) ?_
  intro p e s m below meth c S hr hlk hin hsz hK hN hP hD0 hX ls hl
  obtain ⟨hx, hb, hml, hown, hts⟩ := id S
  subst hsz
  have hD := hD0.self (sz := s.heap.size)
  generalize hAe : va_A [(a, .inr (2, dfl2))] s.heap.size = A at hD ⊢
  have hXA := hX
  have hA : ∀ q : Nat, s.heap.size ≤ q → A q := fun q h => by rw [← hAe]; exact Or.inr h
  have hS : va_S A s.heap s.heap [] := va_S.rf
  have hl : lv_has ls 2 [(0, .ref a), (1, .int x1)] := hl
  refine lv_aload_n hx hb d2_init_0 rfl (lv_at hl 0 rfl) ?_
  refine x_obj S (gt_at 123 (by decide +kernel) (by decide +kernel)) (gt_at 93 (by decide +kernel) (by decide +kernel)) (gt_at 94 (by decide +kernel) (by decide +kernel)) hl.1 d2_init_1 (Nat.le_of_ble_eq_true rfl) (Nat.le_of_ble_eq_true rfl) ?_
  refine lv_aload_n hx hb d2_init_4 rfl (lv_at hl 0 rfl) ?_
  refine lv_bipush (v := 8) hx hb d2_init_5 (by decide) ?_
  refine x_newa (atype := .int) (t0 := 0) (N := 8) S hK rfl (gt_at 111 (by decide +kernel) (by decide +kernel)) rfl hP hD hS hA (by decide +kernel) (by decide) (by decide) (by decide) (Nat.le_of_ble_eq_true rfl) (Nat.le_of_ble_eq_true rfl) d2_init_7 (fun q1 H hP hD hS => ?_)
  have hP : va_P w.1 vwCl ((a, .inr (2, [.null, .null, .int 0, .int 0])) :: ([(q1, iar w 8)])) H := hP
  have hD : va_D A ((a, .inr (2, [.null, .null, .int 0, .int 0])) :: ([(q1, iar w 8)])) := hD
  refine va_putF (D := w.1) (ci := 2) (v := .ref q1) (ty := (.array .int)) (C := RX2) (T := TX2) (N := 4) hx hb hts inX2 tyX2 tyX2_ok nmX2 hown hK hP hD hS 0 rfl rfl 0 (by decide) (hts _ (gt_at 127 (by decide +kernel) (by decide +kernel))) (fun _ h9 => h9) rfl hin rfl (by decide +kernel) rfl rfl (Nat.le_of_ble_eq_true rfl) d2_init_9 (fun H locs hP hD hS => ?_)
  have hP : va_P w.1 vwCl ((a, .inr (2, [.ref q1, .null, .int 0, .int 0])) :: ([(q1, iar w 8)])) H := hP
  have hD : va_D A ((a, .inr (2, [.ref q1, .null, .int 0, .int 0])) :: ([(q1, iar w 8)])) := hD
  refine lv_aload_n hx hb d2_init_12 rfl (lv_at hl 0 rfl) ?_
  refine lv_bipush (v := 8) hx hb d2_init_13 (by decide) ?_
  refine x_newa (atype := .int) (t0 := 0) (N := 8) S hK rfl (gt_at 111 (by decide +kernel) (by decide +kernel)) rfl hP hD hS hA (by decide +kernel) (by decide) (by decide) (by decide) (Nat.le_of_ble_eq_true rfl) (Nat.le_of_ble_eq_true rfl) d2_init_15 (fun q2 H hP hD hS => ?_)
  have hP : va_P w.1 vwCl ((a, .inr (2, [.ref q1, .null, .int 0, .int 0])) :: ([(q1, iar w 8)] ++ [(q2, iar w 8)])) H := hP
  have hD : va_D A ((a, .inr (2, [.ref q1, .null, .int 0, .int 0])) :: ([(q1, iar w 8)] ++ [(q2, iar w 8)])) := hD
  refine va_putF (D := w.1) (ci := 2) (v := .ref q2) (ty := (.array .int)) (C := RX2) (T := TX2) (N := 4) hx hb hts inX2 tyX2 tyX2_ok nmX2 hown hK hP hD hS 0 rfl rfl 1 (by decide) (hts _ (gt_at 128 (by decide +kernel) (by decide +kernel))) (fun _ h9 => h9) rfl hin rfl (by decide +kernel) rfl rfl (Nat.le_of_ble_eq_true rfl) d2_init_17 (fun H locs hP hD hS => ?_)
  have hP : va_P w.1 vwCl ((a, .inr (2, [.ref q1, .ref q2, .int 0, .int 0])) :: ([(q1, iar w 8)] ++ [(q2, iar w 8)])) H := hP
  have hD : va_D A ((a, .inr (2, [.ref q1, .ref q2, .int 0, .int 0])) :: ([(q1, iar w 8)] ++ [(q2, iar w 8)])) := hD
  refine lv_aload_n hx hb d2_init_20 rfl (lv_at hl 0 rfl) ?_
  refine lv_iconst (v := 0) hx hb d2_init_21 (by decide) ?_
  refine va_put (D := w.1) (ci := 2) (v := .int 0) (ty := .int) (C := RX2) (T := TX2) (N := 4) hx hb hts inX2 tyX2 tyX2_ok nmX2 hown hK hP hD hS 0 rfl rfl 3 (by decide) (hts _ (gt_at 130 (by decide +kernel) (by decide +kernel))) (fun _ h9 => h9) rfl (by decide +kernel) rfl rfl (Nat.le_of_ble_eq_true rfl) d2_init_22 (fun H locs hP hD hS => ?_)
  have hP : va_P w.1 vwCl ((a, .inr (2, [.ref q1, .ref q2, .int 0, .int 0])) :: ([(q1, iar w 8)] ++ [(q2, iar w 8)])) H := hP
  have hD : va_D A ((a, .inr (2, [.ref q1, .ref q2, .int 0, .int 0])) :: ([(q1, iar w 8)] ++ [(q2, iar w 8)])) := hD
  refine lv_aload_n hx hb d2_init_25 rfl (lv_at hl 0 rfl) ?_
  refine lv_iload_n hx hb d2_init_26 rfl (lv_at hl 1 rfl) ?_
  refine lv_bipush (v := 8) hx hb d2_init_27 (by decide) ?_
  refine va_mmin hx hb (S.2.2.1.trans hl.1.symm) hown (hts _ (gt_at 124 (by decide +kernel) (by decide +kernel))) (hts _ (gt_at 125 (by decide +kernel) (by decide +kernel))) (hts _ (gt_at 78 (by decide +kernel) (by decide +kernel))) (hts _ (gt_at 126 (by decide +kernel) (by decide +kernel))) (Nat.le_of_ble_eq_true rfl) (Nat.le_of_ble_eq_true rfl) (Nat.le_of_ble_eq_true rfl) (Nat.le_of_ble_eq_true rfl) d2_init_29 ?_
  refine va_putF (D := w.1) (ci := 2) (v := .int (lim8 x1)) (ty := .int) (C := RX2) (T := TX2) (N := 4) hx hb hts inX2 tyX2 tyX2_ok nmX2 hown hK hP hD hS 0 rfl rfl 2 (by decide) (hts _ (gt_at 129 (by decide +kernel) (by decide +kernel))) (fun _ h9 => h9) rfl hin rfl (by decide +kernel) rfl rfl (Nat.le_of_ble_eq_true rfl) d2_init_32 (fun H locs hP hD hS => ?_)
  have hP : va_P w.1 vwCl ((a, .inr (2, [.ref q1, .ref q2, .int (lim8 x1), .int 0])) :: ([(q1, iar w 8)] ++ [(q2, iar w 8)])) H := hP
  have hD : va_D A ((a, .inr (2, [.ref q1, .ref q2, .int (lim8 x1), .int 0])) :: ([(q1, iar w 8)] ++ [(q2, iar w 8)])) := hD
  obtain ⟨uu, huu⟩ : ∃ uu : Nat → Nat, uu = (fun j => if j = 0 then a else if j = 1 then q1 else if j = 2 then q2 else 0) := ⟨_, rfl⟩
  have hP9 : va_P w.1 vwCl (lst2 w (lim8 x1) uu) H := by subst huu; exact hP
  have hD9 : va_D A (lst2 w (lim8 x1) uu) := by subst huu; exact hD
  have hu0 : uu 0 = a := by subst huu; rfl
  exact W.vret hx hb hr (fun t ht hW => ⟨⟨uu, rfl, hu0, by rw [ht]; exact hP9, hD9⟩, hS.F ht⟩) hS.2.2 d2_init_35 hlk
theorem d5_init_0 : decode cX5_init 0 = .ok (.aload_n 0, 1) := by decide +kernel
theorem d5_init_1 : decode cX5_init 1 = .ok (.invokespecial 3, 3) := by decide +kernel
theorem d5_init_4 : decode cX5_init 4 = .ok (.aload_n 0, 1) := by decide +kernel
theorem d5_init_5 : decode cX5_init 5 = .ok (.sipush 200, 3) := by decide +kernel
theorem d5_init_8 : decode cX5_init 8 = .ok (.newarray .int, 2) := by decide +kernel
theorem d5_init_10 : decode cX5_init 10 = .ok (.putfield 9, 3) := by decide +kernel
theorem d5_init_13 : decode cX5_init 13 = .ok (.aload_n 0, 1) := by decide +kernel
theorem d5_init_14 : decode cX5_init 14 = .ok (.iconst 0, 1) := by decide +kernel
theorem d5_init_15 : decode cX5_init 15 = .ok (.putfield 15, 3) := by decide +kernel
theorem d5_init_18 : decode cX5_init 18 = .ok (.aload_n 0, 1) := by decide +kernel
theorem d5_init_19 : decode cX5_init 19 = .ok (.iconst 0, 1) := by decide +kernel
theorem d5_init_20 : decode cX5_init 20 = .ok (.putfield 19, 3) := by decide +kernel
theorem d5_init_23 : decode cX5_init 23 = .ok (.return_, 1) := by decide +kernel
abbrev rmi_5 : Room := { frames := 1, cells := 1, slots := 200, locals := 20 }
set_option maxHeartbeats 4000000 in
set_option maxRecDepth 100000 in
theorem ci5 (l : Launch) (w : WV) (a sz : Nat) : Met l yX5_init (wy yX5_init cX5_init 1 none) rmi_5 (PcI w [.ref a] sz [(a, .inr (5, dfl5))] nx) (QvI w (lst5 w) a (va_A [(a, .inr (5, dfl5))] sz)) 1 200 (va_A [(a, .inr (5, dfl5))] sz) := by
  refine mk_meti (by decide) (Nat.le_of_ble_eq_true rfl) ?_
  intro p e s m below meth c S hr hlk hin hsz hK hN hP hD0 hX ls hl
  obtain ⟨hx, hb, hml, hown, hts⟩ := id S
  subst hsz
  have hD := hD0.self (sz := s.heap.size)
  generalize hAe : va_A [(a, .inr (5, dfl5))] s.heap.size = A at hD ⊢
  have hXA := hX
  have hA : ∀ q : Nat, s.heap.size ≤ q → A q := fun q h => by rw [← hAe]; exact Or.inr h
  have hS : va_S A s.heap s.heap [] := va_S.rf
  have hl : lv_has ls 1 [(0, .ref a)] := hl
  refine lv_aload_n hx hb d5_init_0 rfl (lv_at hl 0 rfl) ?_
  refine x_obj S (gt_at 100 (by decide +kernel) (by decide +kernel)) (gt_at 93 (by decide +kernel) (by decide +kernel)) (gt_at 94 (by decide +kernel) (by decide +kernel)) hl.1 d5_init_1 (Nat.le_of_ble_eq_true rfl) (Nat.le_of_ble_eq_true rfl) ?_
  refine lv_aload_n hx hb d5_init_4 rfl (lv_at hl 0 rfl) ?_
  refine lv_sipush (v := 200) hx hb d5_init_5 (by decide) ?_
  refine x_newa (atype := .int) (t0 := 0) (N := 200) S hK rfl (gt_at 111 (by decide +kernel) (by decide +kernel)) rfl hP hD hS hA (by decide +kernel) (by decide) (by decide) (by decide) (Nat.le_of_ble_eq_true rfl) (Nat.le_of_ble_eq_true rfl) d5_init_8 (fun q1 H hP hD hS => ?_)
  have hP : va_P w.1 vwCl ((a, .inr (5, [.null, .int 0, .int 0])) :: ([(q1, iar w 200)])) H := hP
  have hD : va_D A ((a, .inr (5, [.null, .int 0, .int 0])) :: ([(q1, iar w 200)])) := hD
  refine va_putF (D := w.1) (ci := 5) (v := .ref q1) (ty := (.array .int)) (C := RX5) (T := TX5) (N := 3) hx hb hts inX5 tyX5 tyX5_ok nmX5 hown hK hP hD hS 0 rfl rfl 0 (by decide) (hts _ (gt_at 101 (by decide +kernel) (by decide +kernel))) (fun _ h9 => h9) rfl hin rfl (by decide +kernel) rfl rfl (Nat.le_of_ble_eq_true rfl) d5_init_10 (fun H locs hP hD hS => ?_)
  have hP : va_P w.1 vwCl ((a, .inr (5, [.ref q1, .int 0, .int 0])) :: ([(q1, iar w 200)])) H := hP
  have hD : va_D A ((a, .inr (5, [.ref q1, .int 0, .int 0])) :: ([(q1, iar w 200)])) := hD
  refine lv_aload_n hx hb d5_init_13 rfl (lv_at hl 0 rfl) ?_
  refine lv_iconst (v := 0) hx hb d5_init_14 (by decide) ?_
  refine va_put (D := w.1) (ci := 5) (v := .int 0) (ty := .int) (C := RX5) (T := TX5) (N := 3) hx hb hts inX5 tyX5 tyX5_ok nmX5 hown hK hP hD hS 0 rfl rfl 1 (by decide) (hts _ (gt_at 102 (by decide +kernel) (by decide +kernel))) (fun _ h9 => h9) rfl (by decide +kernel) rfl rfl (Nat.le_of_ble_eq_true rfl) d5_init_15 (fun H locs hP hD hS => ?_)
  have hP : va_P w.1 vwCl ((a, .inr (5, [.ref q1, .int 0, .int 0])) :: ([(q1, iar w 200)])) H := hP
  have hD : va_D A ((a, .inr (5, [.ref q1, .int 0, .int 0])) :: ([(q1, iar w 200)])) := hD
  refine lv_aload_n hx hb d5_init_18 rfl (lv_at hl 0 rfl) ?_
  refine lv_iconst (v := 0) hx hb d5_init_19 (by decide) ?_
  refine va_put (D := w.1) (ci := 5) (v := .int 0) (ty := .int) (C := RX5) (T := TX5) (N := 3) hx hb hts inX5 tyX5 tyX5_ok nmX5 hown hK hP hD hS 0 rfl rfl 2 (by decide) (hts _ (gt_at 103 (by decide +kernel) (by decide +kernel))) (fun _ h9 => h9) rfl (by decide +kernel) rfl rfl (Nat.le_of_ble_eq_true rfl) d5_init_20 (fun H locs hP hD hS => ?_)
  have hP : va_P w.1 vwCl ((a, .inr (5, [.ref q1, .int 0, .int 0])) :: ([(q1, iar w 200)])) H := hP
  have hD : va_D A ((a, .inr (5, [.ref q1, .int 0, .int 0])) :: ([(q1, iar w 200)])) := hD
  obtain ⟨uu, huu⟩ : ∃ uu : Nat → Nat, uu = (fun j => if j = 0 then a else if j = 1 then q1 else 0) := ⟨_, rfl⟩
  have hP9 : va_P w.1 vwCl (lst5 w uu) H := by subst huu; exact hP
  have hD9 : va_D A (lst5 w uu) := by subst huu; exact hD
  have hu0 : uu 0 = a := by subst huu; rfl
  exact W.vret hx hb hr (fun t ht hW => ⟨⟨uu, rfl, hu0, by rw [ht]; exact hP9, hD9⟩, hS.F ht⟩) hS.2.2 d5_init_23 hlk
theorem d4_init_0 : decode cX4_init 0 = .ok (.aload_n 0, 1) := by decide +kernel
theorem d4_init_1 : decode cX4_init 1 = .ok (.invokespecial 3, 3) := by decide +kernel
theorem d4_init_4 : decode cX4_init 4 = .ok (.aload_n 0, 1) := by decide +kernel
theorem d4_init_5 : decode cX4_init 5 = .ok (.new 9, 3) := by decide +kernel
theorem d4_init_8 : decode cX4_init 8 = .ok (.dup, 1) := by decide +kernel
theorem d4_init_9 : decode cX4_init 9 = .ok (.bipush 6, 2) := by decide +kernel
theorem d4_init_11 : decode cX4_init 11 = .ok (.invokespecial 11, 3) := by decide +kernel
theorem d4_init_14 : decode cX4_init 14 = .ok (.putfield 14, 3) := by decide +kernel
theorem d4_init_17 : decode cX4_init 17 = .ok (.aload_n 0, 1) := by decide +kernel
theorem d4_init_18 : decode cX4_init 18 = .ok (.bipush 6, 2) := by decide +kernel
theorem d4_init_20 : decode cX4_init 20 = .ok (.newarray .int, 2) := by decide +kernel
theorem d4_init_22 : decode cX4_init 22 = .ok (.putfield 20, 3) := by decide +kernel
theorem d4_init_25 : decode cX4_init 25 = .ok (.return_, 1) := by decide +kernel
abbrev rmi_4 : Room := { frames := 2, cells := 4, slots := 26, locals := 42 }
set_option maxHeartbeats 4000000 in
set_option maxRecDepth 100000 in
theorem ci4 (l : Launch) (w : WV) (a sz : Nat) : Met l yX4_init (wy yX4_init cX4_init 1 none) rmi_4 (PcI w [.ref a] sz [(a, .inr (4, dfl4))] nx) (QvI w (lst4 w) a (va_A [(a, .inr (4, dfl4))] sz)) 4 26 (va_A [(a, .inr (4, dfl4))] sz) := by
  refine mk_meti (by decide) (Nat.le_of_ble_eq_true rfl) ?_
  intro p e s m below meth c S hr hlk hin hsz hK hN hP hD0 hX ls hl
  obtain ⟨hx, hb, hml, hown, hts⟩ := id S
  subst hsz
  have hD := hD0.self (sz := s.heap.size)
  generalize hAe : va_A [(a, .inr (4, dfl4))] s.heap.size = A at hD ⊢
  have hXA := hX
  have hA : ∀ q : Nat, s.heap.size ≤ q → A q := fun q h => by rw [← hAe]; exact Or.inr h
  have hS : va_S A s.heap s.heap [] := va_S.rf
  have hl : lv_has ls 1 [(0, .ref a)] := hl
  refine lv_aload_n hx hb d4_init_0 rfl (lv_at hl 0 rfl) ?_
  refine x_obj S (gt_at 179 (by decide +kernel) (by decide +kernel)) (gt_at 93 (by decide +kernel) (by decide +kernel)) (gt_at 94 (by decide +kernel) (by decide +kernel)) hl.1 d4_init_1 (Nat.le_of_ble_eq_true rfl) (Nat.le_of_ble_eq_true rfl) ?_
  refine lv_aload_n hx hb d4_init_4 rfl (lv_at hl 0 rfl) ?_
  refine va_new (D := w.1) (ci := 2) (fs := dfl2) (C := RX2) (T := TX2) (N := 4) hx hb hts inX2 tyX2 tyX2_ok hown (hts _ (gt_at 180 (by decide +kernel) (by decide +kernel))) (hts _ (gt_at 119 (by decide +kernel) (by decide +kernel))) (hts _ (gt_at 77 (by decide +kernel) (by decide +kernel))) hK hP hD hS hA rfl df2 (Nat.le_of_ble_eq_true rfl) (Nat.le_of_ble_eq_true rfl) d4_init_5 (fun q1 H hP hD hS => ?_)
  refine lv_dup hx hb d4_init_8 rfl ?_
  refine lv_bipush (v := 6) hx hb d4_init_9 (by decide) ?_
  have hPo := hP
  have hDo := hD
  clear hP hD
  refine x_end hPo hDo hS hA (run_I (n := 1) (As := [.int 6]) (bl := .inr (2, dfl2)) S (gt_at 181 (by decide +kernel) (by decide +kernel)) (gt_at 121 (by decide +kernel) (by decide +kernel)) (gt_at 77 (by decide +kernel) (by decide +kernel)) (gt_at 122 (by decide +kernel) (by decide +kernel)) (by decide +kernel) rfl rfl (ci2 l w q1 H.size 6) (x_pre hK hN hPo (fun _ _ _ _ _ => trivial) (fun _ _ _ => trivial)) ⟨rfl, rfl⟩ ⟨Nat.le_of_ble_eq_true rfl, Nat.le_of_ble_eq_true rfl⟩ ⟨Nat.le_of_ble_eq_true rfl, Nat.le_of_ble_eq_true rfl⟩ hl.1 rfl (Nat.le_of_ble_eq_true rfl) d4_init_11) (fun u2 H locs hu hP hD hS => ?_)
  subst hu
  have hP : va_P w.1 vwCl ((a, .inr (4, [.null, .null])) :: (lst2 w (lim8 6) u2)) H := hP
  have hD : va_D A ((a, .inr (4, [.null, .null])) :: (lst2 w (lim8 6) u2)) := hD
  refine va_putF (D := w.1) (ci := 4) (v := .ref (u2 0)) (ty := (.object "FourTenGates$Pairs")) (C := RX4) (T := TX4) (N := 2) hx hb hts inX4 tyX4 tyX4_ok nmX4 hown hK hP hD hS 0 rfl rfl 0 (by decide) (hts _ (gt_at 182 (by decide +kernel) (by decide +kernel))) (fun _ h9 => h9) rfl hin rfl (by decide +kernel) rfl rfl (Nat.le_of_ble_eq_true rfl) d4_init_14 (fun H locs hP hD hS => ?_)
  have hP : va_P w.1 vwCl ((a, .inr (4, [.ref (u2 0), .null])) :: (lst2 w (lim8 6) u2)) H := hP
  have hD : va_D A ((a, .inr (4, [.ref (u2 0), .null])) :: (lst2 w (lim8 6) u2)) := hD
  refine lv_aload_n hx hb d4_init_17 rfl (lv_at hl 0 rfl) ?_
  refine lv_bipush (v := 6) hx hb d4_init_18 (by decide) ?_
  refine x_newa (atype := .int) (t0 := 0) (N := 6) S hK rfl (gt_at 111 (by decide +kernel) (by decide +kernel)) rfl hP hD hS hA (by decide +kernel) (by decide) (by decide) (by decide) (Nat.le_of_ble_eq_true rfl) (Nat.le_of_ble_eq_true rfl) d4_init_20 (fun q3 H hP hD hS => ?_)
  have hP : va_P w.1 vwCl ((a, .inr (4, [.ref (u2 0), .null])) :: (lst2 w (lim8 6) u2 ++ [(q3, iar w 6)])) H := hP
  have hD : va_D A ((a, .inr (4, [.ref (u2 0), .null])) :: (lst2 w (lim8 6) u2 ++ [(q3, iar w 6)])) := hD
  refine va_putF (D := w.1) (ci := 4) (v := .ref q3) (ty := (.array .int)) (C := RX4) (T := TX4) (N := 2) hx hb hts inX4 tyX4 tyX4_ok nmX4 hown hK hP hD hS 0 rfl rfl 1 (by decide) (hts _ (gt_at 184 (by decide +kernel) (by decide +kernel))) (fun _ h9 => h9) rfl hin rfl (by decide +kernel) rfl rfl (Nat.le_of_ble_eq_true rfl) d4_init_22 (fun H locs hP hD hS => ?_)
  have hP : va_P w.1 vwCl ((a, .inr (4, [.ref (u2 0), .ref q3])) :: (lst2 w (lim8 6) u2 ++ [(q3, iar w 6)])) H := hP
  have hD : va_D A ((a, .inr (4, [.ref (u2 0), .ref q3])) :: (lst2 w (lim8 6) u2 ++ [(q3, iar w 6)])) := hD
  obtain ⟨uu, huu⟩ : ∃ uu : Nat → Nat, uu = (fun j => if j = 0 then a else if j < 4 then u2 (j - 1) else if j = 4 then q3 else 0) := ⟨_, rfl⟩
  have hP9 : va_P w.1 vwCl (lst4 w uu) H := by subst huu; exact hP
  have hD9 : va_D A (lst4 w uu) := by subst huu; exact hD
  have hu0 : uu 0 = a := by subst huu; rfl
  exact W.vret hx hb hr (fun t ht hW => ⟨⟨uu, rfl, hu0, by rw [ht]; exact hP9, hD9⟩, hS.F ht⟩) hS.2.2 d4_init_25 hlk
theorem d0_init_0 : decode cX0_init 0 = .ok (.aload_n 0, 1) := by decide +kernel
theorem d0_init_1 : decode cX0_init 1 = .ok (.invokespecial 3, 3) := by decide +kernel
theorem d0_init_4 : decode cX0_init 4 = .ok (.aload_n 0, 1) := by decide +kernel
theorem d0_init_5 : decode cX0_init 5 = .ok (.new 9, 3) := by decide +kernel
theorem d0_init_8 : decode cX0_init 8 = .ok (.dup, 1) := by decide +kernel
theorem d0_init_9 : decode cX0_init 9 = .ok (.bipush 6, 2) := by decide +kernel
theorem d0_init_11 : decode cX0_init 11 = .ok (.invokespecial 11, 3) := by decide +kernel
theorem d0_init_14 : decode cX0_init 14 = .ok (.putfield 14, 3) := by decide +kernel
theorem d0_init_17 : decode cX0_init 17 = .ok (.aload_n 0, 1) := by decide +kernel
theorem d0_init_18 : decode cX0_init 18 = .ok (.new 9, 3) := by decide +kernel
theorem d0_init_21 : decode cX0_init 21 = .ok (.dup, 1) := by decide +kernel
theorem d0_init_22 : decode cX0_init 22 = .ok (.bipush 8, 2) := by decide +kernel
theorem d0_init_24 : decode cX0_init 24 = .ok (.invokespecial 11, 3) := by decide +kernel
theorem d0_init_27 : decode cX0_init 27 = .ok (.putfield 20, 3) := by decide +kernel
theorem d0_init_30 : decode cX0_init 30 = .ok (.aload_n 0, 1) := by decide +kernel
theorem d0_init_31 : decode cX0_init 31 = .ok (.new 9, 3) := by decide +kernel
theorem d0_init_34 : decode cX0_init 34 = .ok (.dup, 1) := by decide +kernel
theorem d0_init_35 : decode cX0_init 35 = .ok (.bipush 6, 2) := by decide +kernel
theorem d0_init_37 : decode cX0_init 37 = .ok (.invokespecial 11, 3) := by decide +kernel
theorem d0_init_40 : decode cX0_init 40 = .ok (.putfield 23, 3) := by decide +kernel
theorem d0_init_43 : decode cX0_init 43 = .ok (.aload_n 0, 1) := by decide +kernel
theorem d0_init_44 : decode cX0_init 44 = .ok (.new 9, 3) := by decide +kernel
theorem d0_init_47 : decode cX0_init 47 = .ok (.dup, 1) := by decide +kernel
theorem d0_init_48 : decode cX0_init 48 = .ok (.iconst 5, 1) := by decide +kernel
theorem d0_init_49 : decode cX0_init 49 = .ok (.invokespecial 11, 3) := by decide +kernel
theorem d0_init_52 : decode cX0_init 52 = .ok (.putfield 26, 3) := by decide +kernel
theorem d0_init_55 : decode cX0_init 55 = .ok (.aload_n 0, 1) := by decide +kernel
theorem d0_init_56 : decode cX0_init 56 = .ok (.iconst 4, 1) := by decide +kernel
theorem d0_init_57 : decode cX0_init 57 = .ok (.newarray .int, 2) := by decide +kernel
theorem d0_init_59 : decode cX0_init 59 = .ok (.putfield 29, 3) := by decide +kernel
theorem d0_init_62 : decode cX0_init 62 = .ok (.aload_n 0, 1) := by decide +kernel
theorem d0_init_63 : decode cX0_init 63 = .ok (.iconst 0, 1) := by decide +kernel
theorem d0_init_64 : decode cX0_init 64 = .ok (.putfield 33, 3) := by decide +kernel
theorem d0_init_67 : decode cX0_init 67 = .ok (.aload_n 0, 1) := by decide +kernel
theorem d0_init_68 : decode cX0_init 68 = .ok (.iconst 0, 1) := by decide +kernel
theorem d0_init_69 : decode cX0_init 69 = .ok (.putfield 37, 3) := by decide +kernel
theorem d0_init_72 : decode cX0_init 72 = .ok (.aload_n 0, 1) := by decide +kernel
theorem d0_init_73 : decode cX0_init 73 = .ok (.iconst 0, 1) := by decide +kernel
theorem d0_init_74 : decode cX0_init 74 = .ok (.putfield 40, 3) := by decide +kernel
theorem d0_init_77 : decode cX0_init 77 = .ok (.aload_n 0, 1) := by decide +kernel
theorem d0_init_78 : decode cX0_init 78 = .ok (.iconst 0, 1) := by decide +kernel
theorem d0_init_79 : decode cX0_init 79 = .ok (.putfield 43, 3) := by decide +kernel
theorem d0_init_82 : decode cX0_init 82 = .ok (.return_, 1) := by decide +kernel
abbrev rmi_0 : Room := { frames := 2, cells := 13, slots := 84, locals := 42 }
set_option maxHeartbeats 4000000 in
set_option maxRecDepth 100000 in
theorem ci0 (l : Launch) (w : WV) (a sz : Nat) : Met l yX0_init (wy yX0_init cX0_init 1 none) rmi_0 (PcI w [.ref a] sz [(a, .inr (0, dfl0))] nx) (QvI w (lst0 w) a (va_A [(a, .inr (0, dfl0))] sz)) 13 84 (va_A [(a, .inr (0, dfl0))] sz) := by
  refine mk_meti (by decide) (Nat.le_of_ble_eq_true rfl) ?_
  intro p e s m below meth c S hr hlk hin hsz hK hN hP hD0 hX ls hl
  obtain ⟨hx, hb, hml, hown, hts⟩ := id S
  subst hsz
  have hD := hD0.self (sz := s.heap.size)
  generalize hAe : va_A [(a, .inr (0, dfl0))] s.heap.size = A at hD ⊢
  have hXA := hX
  have hA : ∀ q : Nat, s.heap.size ≤ q → A q := fun q h => by rw [← hAe]; exact Or.inr h
  have hS : va_S A s.heap s.heap [] := va_S.rf
  have hl : lv_has ls 1 [(0, .ref a)] := hl
  refine lv_aload_n hx hb d0_init_0 rfl (lv_at hl 0 rfl) ?_
  refine x_obj S (gt_at 117 (by decide +kernel) (by decide +kernel)) (gt_at 93 (by decide +kernel) (by decide +kernel)) (gt_at 94 (by decide +kernel) (by decide +kernel)) hl.1 d0_init_1 (Nat.le_of_ble_eq_true rfl) (Nat.le_of_ble_eq_true rfl) ?_
  refine lv_aload_n hx hb d0_init_4 rfl (lv_at hl 0 rfl) ?_
  refine va_new (D := w.1) (ci := 2) (fs := dfl2) (C := RX2) (T := TX2) (N := 4) hx hb hts inX2 tyX2 tyX2_ok hown (hts _ (gt_at 118 (by decide +kernel) (by decide +kernel))) (hts _ (gt_at 119 (by decide +kernel) (by decide +kernel))) (hts _ (gt_at 77 (by decide +kernel) (by decide +kernel))) hK hP hD hS hA rfl df2 (Nat.le_of_ble_eq_true rfl) (Nat.le_of_ble_eq_true rfl) d0_init_5 (fun q1 H hP hD hS => ?_)
  refine lv_dup hx hb d0_init_8 rfl ?_
  refine lv_bipush (v := 6) hx hb d0_init_9 (by decide) ?_
  have hPo := hP
  have hDo := hD
  clear hP hD
  refine x_end hPo hDo hS hA (run_I (n := 1) (As := [.int 6]) (bl := .inr (2, dfl2)) S (gt_at 120 (by decide +kernel) (by decide +kernel)) (gt_at 121 (by decide +kernel) (by decide +kernel)) (gt_at 77 (by decide +kernel) (by decide +kernel)) (gt_at 122 (by decide +kernel) (by decide +kernel)) (by decide +kernel) rfl rfl (ci2 l w q1 H.size 6) (x_pre hK hN hPo (fun _ _ _ _ _ => trivial) (fun _ _ _ => trivial)) ⟨rfl, rfl⟩ ⟨Nat.le_of_ble_eq_true rfl, Nat.le_of_ble_eq_true rfl⟩ ⟨Nat.le_of_ble_eq_true rfl, Nat.le_of_ble_eq_true rfl⟩ hl.1 rfl (Nat.le_of_ble_eq_true rfl) d0_init_11) (fun u2 H locs hu hP hD hS => ?_)
  subst hu
  have hP : va_P w.1 vwCl ((a, .inr (0, [.null, .null, .null, .null, .null, .int 0, .int 0, .int 0, .int 0])) :: (lst2 w (lim8 6) u2)) H := hP
  have hD : va_D A ((a, .inr (0, [.null, .null, .null, .null, .null, .int 0, .int 0, .int 0, .int 0])) :: (lst2 w (lim8 6) u2)) := hD
  refine va_putF (D := w.1) (ci := 0) (v := .ref (u2 0)) (ty := (.object "FourTenGates$Pairs")) (C := RX0) (T := TX0) (N := 9) hx hb hts inX0 tyX0 tyX0_ok nmX0 hown hK hP hD hS 0 rfl rfl 0 (by decide) (hts _ (gt_at 140 (by decide +kernel) (by decide +kernel))) (fun _ h9 => h9) rfl hin rfl (by decide +kernel) rfl rfl (Nat.le_of_ble_eq_true rfl) d0_init_14 (fun H locs hP hD hS => ?_)
  have hP : va_P w.1 vwCl ((a, .inr (0, [.ref (u2 0), .null, .null, .null, .null, .int 0, .int 0, .int 0, .int 0])) :: (lst2 w (lim8 6) u2)) H := hP
  have hD : va_D A ((a, .inr (0, [.ref (u2 0), .null, .null, .null, .null, .int 0, .int 0, .int 0, .int 0])) :: (lst2 w (lim8 6) u2)) := hD
  refine lv_aload_n hx hb d0_init_17 rfl (lv_at hl 0 rfl) ?_
  refine va_new (D := w.1) (ci := 2) (fs := dfl2) (C := RX2) (T := TX2) (N := 4) hx hb hts inX2 tyX2 tyX2_ok hown (hts _ (gt_at 118 (by decide +kernel) (by decide +kernel))) (hts _ (gt_at 119 (by decide +kernel) (by decide +kernel))) (hts _ (gt_at 77 (by decide +kernel) (by decide +kernel))) hK hP hD hS hA rfl df2 (Nat.le_of_ble_eq_true rfl) (Nat.le_of_ble_eq_true rfl) d0_init_18 (fun q3 H hP hD hS => ?_)
  refine lv_dup hx hb d0_init_21 rfl ?_
  refine lv_bipush (v := 8) hx hb d0_init_22 (by decide) ?_
  have hPo := hP
  have hDo := hD
  clear hP hD
  refine x_end hPo hDo hS hA (run_I (n := 1) (As := [.int 8]) (bl := .inr (2, dfl2)) S (gt_at 120 (by decide +kernel) (by decide +kernel)) (gt_at 121 (by decide +kernel) (by decide +kernel)) (gt_at 77 (by decide +kernel) (by decide +kernel)) (gt_at 122 (by decide +kernel) (by decide +kernel)) (by decide +kernel) rfl rfl (ci2 l w q3 H.size 8) (x_pre hK hN hPo (fun _ _ _ _ _ => trivial) (fun _ _ _ => trivial)) ⟨rfl, rfl⟩ ⟨Nat.le_of_ble_eq_true rfl, Nat.le_of_ble_eq_true rfl⟩ ⟨Nat.le_of_ble_eq_true rfl, Nat.le_of_ble_eq_true rfl⟩ hl.1 rfl (Nat.le_of_ble_eq_true rfl) d0_init_24) (fun u4 H locs hu hP hD hS => ?_)
  subst hu
  have hP : va_P w.1 vwCl ((a, .inr (0, [.ref (u2 0), .null, .null, .null, .null, .int 0, .int 0, .int 0, .int 0])) :: (lst2 w (lim8 6) u2 ++ lst2 w (lim8 8) u4)) H := hP
  have hD : va_D A ((a, .inr (0, [.ref (u2 0), .null, .null, .null, .null, .int 0, .int 0, .int 0, .int 0])) :: (lst2 w (lim8 6) u2 ++ lst2 w (lim8 8) u4)) := hD
  refine va_putF (D := w.1) (ci := 0) (v := .ref (u4 0)) (ty := (.object "FourTenGates$Pairs")) (C := RX0) (T := TX0) (N := 9) hx hb hts inX0 tyX0 tyX0_ok nmX0 hown hK hP hD hS 0 rfl rfl 1 (by decide) (hts _ (gt_at 143 (by decide +kernel) (by decide +kernel))) (fun _ h9 => h9) rfl hin rfl (by decide +kernel) rfl rfl (Nat.le_of_ble_eq_true rfl) d0_init_27 (fun H locs hP hD hS => ?_)
  have hP : va_P w.1 vwCl ((a, .inr (0, [.ref (u2 0), .ref (u4 0), .null, .null, .null, .int 0, .int 0, .int 0, .int 0])) :: (lst2 w (lim8 6) u2 ++ lst2 w (lim8 8) u4)) H := hP
  have hD : va_D A ((a, .inr (0, [.ref (u2 0), .ref (u4 0), .null, .null, .null, .int 0, .int 0, .int 0, .int 0])) :: (lst2 w (lim8 6) u2 ++ lst2 w (lim8 8) u4)) := hD
  refine lv_aload_n hx hb d0_init_30 rfl (lv_at hl 0 rfl) ?_
  refine va_new (D := w.1) (ci := 2) (fs := dfl2) (C := RX2) (T := TX2) (N := 4) hx hb hts inX2 tyX2 tyX2_ok hown (hts _ (gt_at 118 (by decide +kernel) (by decide +kernel))) (hts _ (gt_at 119 (by decide +kernel) (by decide +kernel))) (hts _ (gt_at 77 (by decide +kernel) (by decide +kernel))) hK hP hD hS hA rfl df2 (Nat.le_of_ble_eq_true rfl) (Nat.le_of_ble_eq_true rfl) d0_init_31 (fun q5 H hP hD hS => ?_)
  refine lv_dup hx hb d0_init_34 rfl ?_
  refine lv_bipush (v := 6) hx hb d0_init_35 (by decide) ?_
  have hPo := hP
  have hDo := hD
  clear hP hD
  refine x_end hPo hDo hS hA (run_I (n := 1) (As := [.int 6]) (bl := .inr (2, dfl2)) S (gt_at 120 (by decide +kernel) (by decide +kernel)) (gt_at 121 (by decide +kernel) (by decide +kernel)) (gt_at 77 (by decide +kernel) (by decide +kernel)) (gt_at 122 (by decide +kernel) (by decide +kernel)) (by decide +kernel) rfl rfl (ci2 l w q5 H.size 6) (x_pre hK hN hPo (fun _ _ _ _ _ => trivial) (fun _ _ _ => trivial)) ⟨rfl, rfl⟩ ⟨Nat.le_of_ble_eq_true rfl, Nat.le_of_ble_eq_true rfl⟩ ⟨Nat.le_of_ble_eq_true rfl, Nat.le_of_ble_eq_true rfl⟩ hl.1 rfl (Nat.le_of_ble_eq_true rfl) d0_init_37) (fun u6 H locs hu hP hD hS => ?_)
  subst hu
  have hP : va_P w.1 vwCl ((a, .inr (0, [.ref (u2 0), .ref (u4 0), .null, .null, .null, .int 0, .int 0, .int 0, .int 0])) :: (lst2 w (lim8 6) u2 ++ lst2 w (lim8 8) u4 ++ lst2 w (lim8 6) u6)) H := hP
  have hD : va_D A ((a, .inr (0, [.ref (u2 0), .ref (u4 0), .null, .null, .null, .int 0, .int 0, .int 0, .int 0])) :: (lst2 w (lim8 6) u2 ++ lst2 w (lim8 8) u4 ++ lst2 w (lim8 6) u6)) := hD
  refine va_putF (D := w.1) (ci := 0) (v := .ref (u6 0)) (ty := (.object "FourTenGates$Pairs")) (C := RX0) (T := TX0) (N := 9) hx hb hts inX0 tyX0 tyX0_ok nmX0 hown hK hP hD hS 0 rfl rfl 2 (by decide) (hts _ (gt_at 146 (by decide +kernel) (by decide +kernel))) (fun _ h9 => h9) rfl hin rfl (by decide +kernel) rfl rfl (Nat.le_of_ble_eq_true rfl) d0_init_40 (fun H locs hP hD hS => ?_)
  have hP : va_P w.1 vwCl ((a, .inr (0, [.ref (u2 0), .ref (u4 0), .ref (u6 0), .null, .null, .int 0, .int 0, .int 0, .int 0])) :: (lst2 w (lim8 6) u2 ++ lst2 w (lim8 8) u4 ++ lst2 w (lim8 6) u6)) H := hP
  have hD : va_D A ((a, .inr (0, [.ref (u2 0), .ref (u4 0), .ref (u6 0), .null, .null, .int 0, .int 0, .int 0, .int 0])) :: (lst2 w (lim8 6) u2 ++ lst2 w (lim8 8) u4 ++ lst2 w (lim8 6) u6)) := hD
  refine lv_aload_n hx hb d0_init_43 rfl (lv_at hl 0 rfl) ?_
  refine va_new (D := w.1) (ci := 2) (fs := dfl2) (C := RX2) (T := TX2) (N := 4) hx hb hts inX2 tyX2 tyX2_ok hown (hts _ (gt_at 118 (by decide +kernel) (by decide +kernel))) (hts _ (gt_at 119 (by decide +kernel) (by decide +kernel))) (hts _ (gt_at 77 (by decide +kernel) (by decide +kernel))) hK hP hD hS hA rfl df2 (Nat.le_of_ble_eq_true rfl) (Nat.le_of_ble_eq_true rfl) d0_init_44 (fun q7 H hP hD hS => ?_)
  refine lv_dup hx hb d0_init_47 rfl ?_
  refine lv_iconst (v := 5) hx hb d0_init_48 (by decide) ?_
  have hPo := hP
  have hDo := hD
  clear hP hD
  refine x_end hPo hDo hS hA (run_I (n := 1) (As := [.int 5]) (bl := .inr (2, dfl2)) S (gt_at 120 (by decide +kernel) (by decide +kernel)) (gt_at 121 (by decide +kernel) (by decide +kernel)) (gt_at 77 (by decide +kernel) (by decide +kernel)) (gt_at 122 (by decide +kernel) (by decide +kernel)) (by decide +kernel) rfl rfl (ci2 l w q7 H.size 5) (x_pre hK hN hPo (fun _ _ _ _ _ => trivial) (fun _ _ _ => trivial)) ⟨rfl, rfl⟩ ⟨Nat.le_of_ble_eq_true rfl, Nat.le_of_ble_eq_true rfl⟩ ⟨Nat.le_of_ble_eq_true rfl, Nat.le_of_ble_eq_true rfl⟩ hl.1 rfl (Nat.le_of_ble_eq_true rfl) d0_init_49) (fun u8 H locs hu hP hD hS => ?_)
  subst hu
  have hP : va_P w.1 vwCl ((a, .inr (0, [.ref (u2 0), .ref (u4 0), .ref (u6 0), .null, .null, .int 0, .int 0, .int 0, .int 0])) :: (lst2 w (lim8 6) u2 ++ lst2 w (lim8 8) u4 ++ lst2 w (lim8 6) u6 ++ lst2 w (lim8 5) u8)) H := hP
  have hD : va_D A ((a, .inr (0, [.ref (u2 0), .ref (u4 0), .ref (u6 0), .null, .null, .int 0, .int 0, .int 0, .int 0])) :: (lst2 w (lim8 6) u2 ++ lst2 w (lim8 8) u4 ++ lst2 w (lim8 6) u6 ++ lst2 w (lim8 5) u8)) := hD
  refine va_putF (D := w.1) (ci := 0) (v := .ref (u8 0)) (ty := (.object "FourTenGates$Pairs")) (C := RX0) (T := TX0) (N := 9) hx hb hts inX0 tyX0 tyX0_ok nmX0 hown hK hP hD hS 0 rfl rfl 3 (by decide) (hts _ (gt_at 148 (by decide +kernel) (by decide +kernel))) (fun _ h9 => h9) rfl hin rfl (by decide +kernel) rfl rfl (Nat.le_of_ble_eq_true rfl) d0_init_52 (fun H locs hP hD hS => ?_)
  have hP : va_P w.1 vwCl ((a, .inr (0, [.ref (u2 0), .ref (u4 0), .ref (u6 0), .ref (u8 0), .null, .int 0, .int 0, .int 0, .int 0])) :: (lst2 w (lim8 6) u2 ++ lst2 w (lim8 8) u4 ++ lst2 w (lim8 6) u6 ++ lst2 w (lim8 5) u8)) H := hP
  have hD : va_D A ((a, .inr (0, [.ref (u2 0), .ref (u4 0), .ref (u6 0), .ref (u8 0), .null, .int 0, .int 0, .int 0, .int 0])) :: (lst2 w (lim8 6) u2 ++ lst2 w (lim8 8) u4 ++ lst2 w (lim8 6) u6 ++ lst2 w (lim8 5) u8)) := hD
  refine lv_aload_n hx hb d0_init_55 rfl (lv_at hl 0 rfl) ?_
  refine lv_iconst (v := 4) hx hb d0_init_56 (by decide) ?_
  refine x_newa (atype := .int) (t0 := 0) (N := 4) S hK rfl (gt_at 111 (by decide +kernel) (by decide +kernel)) rfl hP hD hS hA (by decide +kernel) (by decide) (by decide) (by decide) (Nat.le_of_ble_eq_true rfl) (Nat.le_of_ble_eq_true rfl) d0_init_57 (fun q9 H hP hD hS => ?_)
  have hP : va_P w.1 vwCl ((a, .inr (0, [.ref (u2 0), .ref (u4 0), .ref (u6 0), .ref (u8 0), .null, .int 0, .int 0, .int 0, .int 0])) :: (lst2 w (lim8 6) u2 ++ lst2 w (lim8 8) u4 ++ lst2 w (lim8 6) u6 ++ lst2 w (lim8 5) u8 ++ [(q9, iar w 4)])) H := hP
  have hD : va_D A ((a, .inr (0, [.ref (u2 0), .ref (u4 0), .ref (u6 0), .ref (u8 0), .null, .int 0, .int 0, .int 0, .int 0])) :: (lst2 w (lim8 6) u2 ++ lst2 w (lim8 8) u4 ++ lst2 w (lim8 6) u6 ++ lst2 w (lim8 5) u8 ++ [(q9, iar w 4)])) := hD
  refine va_putF (D := w.1) (ci := 0) (v := .ref q9) (ty := (.array .int)) (C := RX0) (T := TX0) (N := 9) hx hb hts inX0 tyX0 tyX0_ok nmX0 hown hK hP hD hS 0 rfl rfl 4 (by decide) (hts _ (gt_at 150 (by decide +kernel) (by decide +kernel))) (fun _ h9 => h9) rfl hin rfl (by decide +kernel) rfl rfl (Nat.le_of_ble_eq_true rfl) d0_init_59 (fun H locs hP hD hS => ?_)
  have hP : va_P w.1 vwCl ((a, .inr (0, [.ref (u2 0), .ref (u4 0), .ref (u6 0), .ref (u8 0), .ref q9, .int 0, .int 0, .int 0, .int 0])) :: (lst2 w (lim8 6) u2 ++ lst2 w (lim8 8) u4 ++ lst2 w (lim8 6) u6 ++ lst2 w (lim8 5) u8 ++ [(q9, iar w 4)])) H := hP
  have hD : va_D A ((a, .inr (0, [.ref (u2 0), .ref (u4 0), .ref (u6 0), .ref (u8 0), .ref q9, .int 0, .int 0, .int 0, .int 0])) :: (lst2 w (lim8 6) u2 ++ lst2 w (lim8 8) u4 ++ lst2 w (lim8 6) u6 ++ lst2 w (lim8 5) u8 ++ [(q9, iar w 4)])) := hD
  refine lv_aload_n hx hb d0_init_62 rfl (lv_at hl 0 rfl) ?_
  refine lv_iconst (v := 0) hx hb d0_init_63 (by decide) ?_
  refine va_put (D := w.1) (ci := 0) (v := .int 0) (ty := .int) (C := RX0) (T := TX0) (N := 9) hx hb hts inX0 tyX0 tyX0_ok nmX0 hown hK hP hD hS 0 rfl rfl 5 (by decide) (hts _ (gt_at 151 (by decide +kernel) (by decide +kernel))) (fun _ h9 => h9) rfl (by decide +kernel) rfl rfl (Nat.le_of_ble_eq_true rfl) d0_init_64 (fun H locs hP hD hS => ?_)
  have hP : va_P w.1 vwCl ((a, .inr (0, [.ref (u2 0), .ref (u4 0), .ref (u6 0), .ref (u8 0), .ref q9, .int 0, .int 0, .int 0, .int 0])) :: (lst2 w (lim8 6) u2 ++ lst2 w (lim8 8) u4 ++ lst2 w (lim8 6) u6 ++ lst2 w (lim8 5) u8 ++ [(q9, iar w 4)])) H := hP
  have hD : va_D A ((a, .inr (0, [.ref (u2 0), .ref (u4 0), .ref (u6 0), .ref (u8 0), .ref q9, .int 0, .int 0, .int 0, .int 0])) :: (lst2 w (lim8 6) u2 ++ lst2 w (lim8 8) u4 ++ lst2 w (lim8 6) u6 ++ lst2 w (lim8 5) u8 ++ [(q9, iar w 4)])) := hD
  refine lv_aload_n hx hb d0_init_67 rfl (lv_at hl 0 rfl) ?_
  refine lv_iconst (v := 0) hx hb d0_init_68 (by decide) ?_
  refine va_put (D := w.1) (ci := 0) (v := .int 0) (ty := .int) (C := RX0) (T := TX0) (N := 9) hx hb hts inX0 tyX0 tyX0_ok nmX0 hown hK hP hD hS 0 rfl rfl 6 (by decide) (hts _ (gt_at 152 (by decide +kernel) (by decide +kernel))) (fun _ h9 => h9) rfl (by decide +kernel) rfl rfl (Nat.le_of_ble_eq_true rfl) d0_init_69 (fun H locs hP hD hS => ?_)
  have hP : va_P w.1 vwCl ((a, .inr (0, [.ref (u2 0), .ref (u4 0), .ref (u6 0), .ref (u8 0), .ref q9, .int 0, .int 0, .int 0, .int 0])) :: (lst2 w (lim8 6) u2 ++ lst2 w (lim8 8) u4 ++ lst2 w (lim8 6) u6 ++ lst2 w (lim8 5) u8 ++ [(q9, iar w 4)])) H := hP
  have hD : va_D A ((a, .inr (0, [.ref (u2 0), .ref (u4 0), .ref (u6 0), .ref (u8 0), .ref q9, .int 0, .int 0, .int 0, .int 0])) :: (lst2 w (lim8 6) u2 ++ lst2 w (lim8 8) u4 ++ lst2 w (lim8 6) u6 ++ lst2 w (lim8 5) u8 ++ [(q9, iar w 4)])) := hD
  refine lv_aload_n hx hb d0_init_72 rfl (lv_at hl 0 rfl) ?_
  refine lv_iconst (v := 0) hx hb d0_init_73 (by decide) ?_
  refine va_put (D := w.1) (ci := 0) (v := .int 0) (ty := .int) (C := RX0) (T := TX0) (N := 9) hx hb hts inX0 tyX0 tyX0_ok nmX0 hown hK hP hD hS 0 rfl rfl 7 (by decide) (hts _ (gt_at 153 (by decide +kernel) (by decide +kernel))) (fun _ h9 => h9) rfl (by decide +kernel) rfl rfl (Nat.le_of_ble_eq_true rfl) d0_init_74 (fun H locs hP hD hS => ?_)
  have hP : va_P w.1 vwCl ((a, .inr (0, [.ref (u2 0), .ref (u4 0), .ref (u6 0), .ref (u8 0), .ref q9, .int 0, .int 0, .int 0, .int 0])) :: (lst2 w (lim8 6) u2 ++ lst2 w (lim8 8) u4 ++ lst2 w (lim8 6) u6 ++ lst2 w (lim8 5) u8 ++ [(q9, iar w 4)])) H := hP
  have hD : va_D A ((a, .inr (0, [.ref (u2 0), .ref (u4 0), .ref (u6 0), .ref (u8 0), .ref q9, .int 0, .int 0, .int 0, .int 0])) :: (lst2 w (lim8 6) u2 ++ lst2 w (lim8 8) u4 ++ lst2 w (lim8 6) u6 ++ lst2 w (lim8 5) u8 ++ [(q9, iar w 4)])) := hD
  refine lv_aload_n hx hb d0_init_77 rfl (lv_at hl 0 rfl) ?_
  refine lv_iconst (v := 0) hx hb d0_init_78 (by decide) ?_
  refine va_put (D := w.1) (ci := 0) (v := .int 0) (ty := .int) (C := RX0) (T := TX0) (N := 9) hx hb hts inX0 tyX0 tyX0_ok nmX0 hown hK hP hD hS 0 rfl rfl 8 (by decide) (hts _ (gt_at 154 (by decide +kernel) (by decide +kernel))) (fun _ h9 => h9) rfl (by decide +kernel) rfl rfl (Nat.le_of_ble_eq_true rfl) d0_init_79 (fun H locs hP hD hS => ?_)
  have hP : va_P w.1 vwCl ((a, .inr (0, [.ref (u2 0), .ref (u4 0), .ref (u6 0), .ref (u8 0), .ref q9, .int 0, .int 0, .int 0, .int 0])) :: (lst2 w (lim8 6) u2 ++ lst2 w (lim8 8) u4 ++ lst2 w (lim8 6) u6 ++ lst2 w (lim8 5) u8 ++ [(q9, iar w 4)])) H := hP
  have hD : va_D A ((a, .inr (0, [.ref (u2 0), .ref (u4 0), .ref (u6 0), .ref (u8 0), .ref q9, .int 0, .int 0, .int 0, .int 0])) :: (lst2 w (lim8 6) u2 ++ lst2 w (lim8 8) u4 ++ lst2 w (lim8 6) u6 ++ lst2 w (lim8 5) u8 ++ [(q9, iar w 4)])) := hD
  obtain ⟨uu, huu⟩ : ∃ uu : Nat → Nat, uu = (fun j => if j = 0 then a else if j < 4 then u2 (j - 1) else if j < 7 then u4 (j - 4) else if j < 10 then u6 (j - 7) else if j < 13 then u8 (j - 10) else if j = 13 then q9 else 0) := ⟨_, rfl⟩
  have hP9 : va_P w.1 vwCl (lst0 w uu) H := by subst huu; exact hP
  have hD9 : va_D A (lst0 w uu) := by subst huu; exact hD
  have hu0 : uu 0 = a := by subst huu; rfl
  exact W.vret hx hb hr (fun t ht hW => ⟨⟨uu, rfl, hu0, by rw [ht]; exact hP9, hD9⟩, hS.F ht⟩) hS.2.2 d0_init_82 hlk
theorem d1_init_0 : decode cX1_init 0 = .ok (.aload_n 0, 1) := by decide +kernel
theorem d1_init_1 : decode cX1_init 1 = .ok (.invokespecial 3, 3) := by decide +kernel
theorem d1_init_4 : decode cX1_init 4 = .ok (.aload_n 0, 1) := by decide +kernel
theorem d1_init_5 : decode cX1_init 5 = .ok (.sipush 360, 3) := by decide +kernel
theorem d1_init_8 : decode cX1_init 8 = .ok (.newarray .int, 2) := by decide +kernel
theorem d1_init_10 : decode cX1_init 10 = .ok (.putfield 9, 3) := by decide +kernel
theorem d1_init_13 : decode cX1_init 13 = .ok (.aload_n 0, 1) := by decide +kernel
theorem d1_init_14 : decode cX1_init 14 = .ok (.bipush 6, 2) := by decide +kernel
theorem d1_init_16 : decode cX1_init 16 = .ok (.newarray .int, 2) := by decide +kernel
theorem d1_init_18 : decode cX1_init 18 = .ok (.putfield 15, 3) := by decide +kernel
theorem d1_init_21 : decode cX1_init 21 = .ok (.aload_n 0, 1) := by decide +kernel
theorem d1_init_22 : decode cX1_init 22 = .ok (.bipush 6, 2) := by decide +kernel
theorem d1_init_24 : decode cX1_init 24 = .ok (.newarray .int, 2) := by decide +kernel
theorem d1_init_26 : decode cX1_init 26 = .ok (.putfield 18, 3) := by decide +kernel
theorem d1_init_29 : decode cX1_init 29 = .ok (.aload_n 0, 1) := by decide +kernel
theorem d1_init_30 : decode cX1_init 30 = .ok (.bipush 6, 2) := by decide +kernel
theorem d1_init_32 : decode cX1_init 32 = .ok (.newarray .int, 2) := by decide +kernel
theorem d1_init_34 : decode cX1_init 34 = .ok (.putfield 21, 3) := by decide +kernel
theorem d1_init_37 : decode cX1_init 37 = .ok (.aload_n 0, 1) := by decide +kernel
theorem d1_init_38 : decode cX1_init 38 = .ok (.bipush 6, 2) := by decide +kernel
theorem d1_init_40 : decode cX1_init 40 = .ok (.newarray .int, 2) := by decide +kernel
theorem d1_init_42 : decode cX1_init 42 = .ok (.putfield 24, 3) := by decide +kernel
theorem d1_init_45 : decode cX1_init 45 = .ok (.aload_n 0, 1) := by decide +kernel
theorem d1_init_46 : decode cX1_init 46 = .ok (.bipush 8, 2) := by decide +kernel
theorem d1_init_48 : decode cX1_init 48 = .ok (.newarray .int, 2) := by decide +kernel
theorem d1_init_50 : decode cX1_init 50 = .ok (.putfield 27, 3) := by decide +kernel
theorem d1_init_53 : decode cX1_init 53 = .ok (.aload_n 0, 1) := by decide +kernel
theorem d1_init_54 : decode cX1_init 54 = .ok (.bipush 8, 2) := by decide +kernel
theorem d1_init_56 : decode cX1_init 56 = .ok (.newarray .int, 2) := by decide +kernel
theorem d1_init_58 : decode cX1_init 58 = .ok (.putfield 30, 3) := by decide +kernel
theorem d1_init_61 : decode cX1_init 61 = .ok (.aload_n 0, 1) := by decide +kernel
theorem d1_init_62 : decode cX1_init 62 = .ok (.iconst 0, 1) := by decide +kernel
theorem d1_init_63 : decode cX1_init 63 = .ok (.putfield 33, 3) := by decide +kernel
theorem d1_init_66 : decode cX1_init 66 = .ok (.aload_n 0, 1) := by decide +kernel
theorem d1_init_67 : decode cX1_init 67 = .ok (.iconst 0, 1) := by decide +kernel
theorem d1_init_68 : decode cX1_init 68 = .ok (.putfield 37, 3) := by decide +kernel
theorem d1_init_71 : decode cX1_init 71 = .ok (.aload_n 0, 1) := by decide +kernel
theorem d1_init_72 : decode cX1_init 72 = .ok (.iconst 0, 1) := by decide +kernel
theorem d1_init_73 : decode cX1_init 73 = .ok (.putfield 41, 3) := by decide +kernel
theorem d1_init_76 : decode cX1_init 76 = .ok (.aload_n 0, 1) := by decide +kernel
theorem d1_init_77 : decode cX1_init 77 = .ok (.iconst 0, 1) := by decide +kernel
theorem d1_init_78 : decode cX1_init 78 = .ok (.putfield 44, 3) := by decide +kernel
theorem d1_init_81 : decode cX1_init 81 = .ok (.aload_n 0, 1) := by decide +kernel
theorem d1_init_82 : decode cX1_init 82 = .ok (.iconst 0, 1) := by decide +kernel
theorem d1_init_83 : decode cX1_init 83 = .ok (.putfield 47, 3) := by decide +kernel
theorem d1_init_86 : decode cX1_init 86 = .ok (.aload_n 0, 1) := by decide +kernel
theorem d1_init_87 : decode cX1_init 87 = .ok (.iconst 0, 1) := by decide +kernel
theorem d1_init_88 : decode cX1_init 88 = .ok (.putfield 50, 3) := by decide +kernel
theorem d1_init_91 : decode cX1_init 91 = .ok (.aload_n 0, 1) := by decide +kernel
theorem d1_init_92 : decode cX1_init 92 = .ok (.iconst 0, 1) := by decide +kernel
theorem d1_init_93 : decode cX1_init 93 = .ok (.putfield 53, 3) := by decide +kernel
theorem d1_init_96 : decode cX1_init 96 = .ok (.aload_n 0, 1) := by decide +kernel
theorem d1_init_97 : decode cX1_init 97 = .ok (.iconst 0, 1) := by decide +kernel
theorem d1_init_98 : decode cX1_init 98 = .ok (.putfield 56, 3) := by decide +kernel
theorem d1_init_101 : decode cX1_init 101 = .ok (.aload_n 0, 1) := by decide +kernel
theorem d1_init_102 : decode cX1_init 102 = .ok (.iconst 0, 1) := by decide +kernel
theorem d1_init_103 : decode cX1_init 103 = .ok (.putfield 59, 3) := by decide +kernel
theorem d1_init_106 : decode cX1_init 106 = .ok (.aload_n 0, 1) := by decide +kernel
theorem d1_init_107 : decode cX1_init 107 = .ok (.iconst 0, 1) := by decide +kernel
theorem d1_init_108 : decode cX1_init 108 = .ok (.putfield 62, 3) := by decide +kernel
theorem d1_init_111 : decode cX1_init 111 = .ok (.aload_n 0, 1) := by decide +kernel
theorem d1_init_112 : decode cX1_init 112 = .ok (.aload_n 1, 1) := by decide +kernel
theorem d1_init_113 : decode cX1_init 113 = .ok (.putfield 65, 3) := by decide +kernel
theorem d1_init_116 : decode cX1_init 116 = .ok (.aload_n 0, 1) := by decide +kernel
theorem d1_init_117 : decode cX1_init 117 = .ok (.aload_n 2, 1) := by decide +kernel
theorem d1_init_118 : decode cX1_init 118 = .ok (.putfield 69, 3) := by decide +kernel
theorem d1_init_121 : decode cX1_init 121 = .ok (.return_, 1) := by decide +kernel
abbrev rmi_1 : Room := { frames := 1, cells := 7, slots := 400, locals := 20 }
set_option maxHeartbeats 4000000 in
set_option maxRecDepth 100000 in
theorem ci1 (l : Launch) (w : WV) (a sz : Nat) (a1 a2 : Nat) : Met l yX1_init (wy yX1_init cX1_init 3 none) rmi_1 (PcI w [.ref a, .ref a1, .ref a2] sz [(a, .inr (1, dfl1))] nx) (QvI w (lst1 w a1 a2) a (va_A [(a, .inr (1, dfl1))] sz)) 7 400 (va_A [(a, .inr (1, dfl1))] sz) := by
  refine mk_meti (by decide) (Nat.le_of_ble_eq_true rfl) ?_
  intro p e s m below meth c S hr hlk hin hsz hK hN hP hD0 hX ls hl
  obtain ⟨hx, hb, hml, hown, hts⟩ := id S
  subst hsz
  have hD := hD0.self (sz := s.heap.size)
  generalize hAe : va_A [(a, .inr (1, dfl1))] s.heap.size = A at hD ⊢
  have hXA := hX
  have hA : ∀ q : Nat, s.heap.size ≤ q → A q := fun q h => by rw [← hAe]; exact Or.inr h
  have hS : va_S A s.heap s.heap [] := va_S.rf
  have hl : lv_has ls 3 [(0, .ref a), (1, .ref a1), (2, .ref a2)] := hl
  refine lv_aload_n hx hb d1_init_0 rfl (lv_at hl 0 rfl) ?_
  refine x_obj S (gt_at 196 (by decide +kernel) (by decide +kernel)) (gt_at 93 (by decide +kernel) (by decide +kernel)) (gt_at 94 (by decide +kernel) (by decide +kernel)) hl.1 d1_init_1 (Nat.le_of_ble_eq_true rfl) (Nat.le_of_ble_eq_true rfl) ?_
  refine lv_aload_n hx hb d1_init_4 rfl (lv_at hl 0 rfl) ?_
  refine lv_sipush (v := 360) hx hb d1_init_5 (by decide) ?_
  refine x_newa (atype := .int) (t0 := 0) (N := 360) S hK rfl (gt_at 111 (by decide +kernel) (by decide +kernel)) rfl hP hD hS hA (by decide +kernel) (by decide) (by decide) (by decide) (Nat.le_of_ble_eq_true rfl) (Nat.le_of_ble_eq_true rfl) d1_init_8 (fun q1 H hP hD hS => ?_)
  have hP : va_P w.1 vwCl ((a, .inr (1, [.null, .null, .null, .null, .null, .null, .null, .null, .null, .int 0, .int 0, .int 0, .int 0, .int 0, .int 0, .int 0, .int 0, .int 0, .int 0])) :: ([(q1, iar w 360)])) H := hP
  have hD : va_D A ((a, .inr (1, [.null, .null, .null, .null, .null, .null, .null, .null, .null, .int 0, .int 0, .int 0, .int 0, .int 0, .int 0, .int 0, .int 0, .int 0, .int 0])) :: ([(q1, iar w 360)])) := hD
  refine va_putF (D := w.1) (ci := 1) (v := .ref q1) (ty := (.array .int)) (C := RX1) (T := TX1) (N := 19) hx hb hts inX1 tyX1 tyX1_ok nmX1 hown hK hP hD hS 0 rfl rfl 2 (by decide) (hts _ (gt_at 199 (by decide +kernel) (by decide +kernel))) (fun _ h9 => h9) rfl hin rfl (by decide +kernel) rfl rfl (Nat.le_of_ble_eq_true rfl) d1_init_10 (fun H locs hP hD hS => ?_)
  have hP : va_P w.1 vwCl ((a, .inr (1, [.null, .null, .ref q1, .null, .null, .null, .null, .null, .null, .int 0, .int 0, .int 0, .int 0, .int 0, .int 0, .int 0, .int 0, .int 0, .int 0])) :: ([(q1, iar w 360)])) H := hP
  have hD : va_D A ((a, .inr (1, [.null, .null, .ref q1, .null, .null, .null, .null, .null, .null, .int 0, .int 0, .int 0, .int 0, .int 0, .int 0, .int 0, .int 0, .int 0, .int 0])) :: ([(q1, iar w 360)])) := hD
  refine lv_aload_n hx hb d1_init_13 rfl (lv_at hl 0 rfl) ?_
  refine lv_bipush (v := 6) hx hb d1_init_14 (by decide) ?_
  refine x_newa (atype := .int) (t0 := 0) (N := 6) S hK rfl (gt_at 111 (by decide +kernel) (by decide +kernel)) rfl hP hD hS hA (by decide +kernel) (by decide) (by decide) (by decide) (Nat.le_of_ble_eq_true rfl) (Nat.le_of_ble_eq_true rfl) d1_init_16 (fun q2 H hP hD hS => ?_)
  have hP : va_P w.1 vwCl ((a, .inr (1, [.null, .null, .ref q1, .null, .null, .null, .null, .null, .null, .int 0, .int 0, .int 0, .int 0, .int 0, .int 0, .int 0, .int 0, .int 0, .int 0])) :: ([(q1, iar w 360)] ++ [(q2, iar w 6)])) H := hP
  have hD : va_D A ((a, .inr (1, [.null, .null, .ref q1, .null, .null, .null, .null, .null, .null, .int 0, .int 0, .int 0, .int 0, .int 0, .int 0, .int 0, .int 0, .int 0, .int 0])) :: ([(q1, iar w 360)] ++ [(q2, iar w 6)])) := hD
  refine va_putF (D := w.1) (ci := 1) (v := .ref q2) (ty := (.array .int)) (C := RX1) (T := TX1) (N := 19) hx hb hts inX1 tyX1 tyX1_ok nmX1 hown hK hP hD hS 0 rfl rfl 3 (by decide) (hts _ (gt_at 200 (by decide +kernel) (by decide +kernel))) (fun _ h9 => h9) rfl hin rfl (by decide +kernel) rfl rfl (Nat.le_of_ble_eq_true rfl) d1_init_18 (fun H locs hP hD hS => ?_)
  have hP : va_P w.1 vwCl ((a, .inr (1, [.null, .null, .ref q1, .ref q2, .null, .null, .null, .null, .null, .int 0, .int 0, .int 0, .int 0, .int 0, .int 0, .int 0, .int 0, .int 0, .int 0])) :: ([(q1, iar w 360)] ++ [(q2, iar w 6)])) H := hP
  have hD : va_D A ((a, .inr (1, [.null, .null, .ref q1, .ref q2, .null, .null, .null, .null, .null, .int 0, .int 0, .int 0, .int 0, .int 0, .int 0, .int 0, .int 0, .int 0, .int 0])) :: ([(q1, iar w 360)] ++ [(q2, iar w 6)])) := hD
  refine lv_aload_n hx hb d1_init_21 rfl (lv_at hl 0 rfl) ?_
  refine lv_bipush (v := 6) hx hb d1_init_22 (by decide) ?_
  refine x_newa (atype := .int) (t0 := 0) (N := 6) S hK rfl (gt_at 111 (by decide +kernel) (by decide +kernel)) rfl hP hD hS hA (by decide +kernel) (by decide) (by decide) (by decide) (Nat.le_of_ble_eq_true rfl) (Nat.le_of_ble_eq_true rfl) d1_init_24 (fun q3 H hP hD hS => ?_)
  have hP : va_P w.1 vwCl ((a, .inr (1, [.null, .null, .ref q1, .ref q2, .null, .null, .null, .null, .null, .int 0, .int 0, .int 0, .int 0, .int 0, .int 0, .int 0, .int 0, .int 0, .int 0])) :: ([(q1, iar w 360)] ++ [(q2, iar w 6)] ++ [(q3, iar w 6)])) H := hP
  have hD : va_D A ((a, .inr (1, [.null, .null, .ref q1, .ref q2, .null, .null, .null, .null, .null, .int 0, .int 0, .int 0, .int 0, .int 0, .int 0, .int 0, .int 0, .int 0, .int 0])) :: ([(q1, iar w 360)] ++ [(q2, iar w 6)] ++ [(q3, iar w 6)])) := hD
  refine va_putF (D := w.1) (ci := 1) (v := .ref q3) (ty := (.array .int)) (C := RX1) (T := TX1) (N := 19) hx hb hts inX1 tyX1 tyX1_ok nmX1 hown hK hP hD hS 0 rfl rfl 4 (by decide) (hts _ (gt_at 201 (by decide +kernel) (by decide +kernel))) (fun _ h9 => h9) rfl hin rfl (by decide +kernel) rfl rfl (Nat.le_of_ble_eq_true rfl) d1_init_26 (fun H locs hP hD hS => ?_)
  have hP : va_P w.1 vwCl ((a, .inr (1, [.null, .null, .ref q1, .ref q2, .ref q3, .null, .null, .null, .null, .int 0, .int 0, .int 0, .int 0, .int 0, .int 0, .int 0, .int 0, .int 0, .int 0])) :: ([(q1, iar w 360)] ++ [(q2, iar w 6)] ++ [(q3, iar w 6)])) H := hP
  have hD : va_D A ((a, .inr (1, [.null, .null, .ref q1, .ref q2, .ref q3, .null, .null, .null, .null, .int 0, .int 0, .int 0, .int 0, .int 0, .int 0, .int 0, .int 0, .int 0, .int 0])) :: ([(q1, iar w 360)] ++ [(q2, iar w 6)] ++ [(q3, iar w 6)])) := hD
  refine lv_aload_n hx hb d1_init_29 rfl (lv_at hl 0 rfl) ?_
  refine lv_bipush (v := 6) hx hb d1_init_30 (by decide) ?_
  refine x_newa (atype := .int) (t0 := 0) (N := 6) S hK rfl (gt_at 111 (by decide +kernel) (by decide +kernel)) rfl hP hD hS hA (by decide +kernel) (by decide) (by decide) (by decide) (Nat.le_of_ble_eq_true rfl) (Nat.le_of_ble_eq_true rfl) d1_init_32 (fun q4 H hP hD hS => ?_)
  have hP : va_P w.1 vwCl ((a, .inr (1, [.null, .null, .ref q1, .ref q2, .ref q3, .null, .null, .null, .null, .int 0, .int 0, .int 0, .int 0, .int 0, .int 0, .int 0, .int 0, .int 0, .int 0])) :: ([(q1, iar w 360)] ++ [(q2, iar w 6)] ++ [(q3, iar w 6)] ++ [(q4, iar w 6)])) H := hP
  have hD : va_D A ((a, .inr (1, [.null, .null, .ref q1, .ref q2, .ref q3, .null, .null, .null, .null, .int 0, .int 0, .int 0, .int 0, .int 0, .int 0, .int 0, .int 0, .int 0, .int 0])) :: ([(q1, iar w 360)] ++ [(q2, iar w 6)] ++ [(q3, iar w 6)] ++ [(q4, iar w 6)])) := hD
  refine va_putF (D := w.1) (ci := 1) (v := .ref q4) (ty := (.array .int)) (C := RX1) (T := TX1) (N := 19) hx hb hts inX1 tyX1 tyX1_ok nmX1 hown hK hP hD hS 0 rfl rfl 5 (by decide) (hts _ (gt_at 202 (by decide +kernel) (by decide +kernel))) (fun _ h9 => h9) rfl hin rfl (by decide +kernel) rfl rfl (Nat.le_of_ble_eq_true rfl) d1_init_34 (fun H locs hP hD hS => ?_)
  have hP : va_P w.1 vwCl ((a, .inr (1, [.null, .null, .ref q1, .ref q2, .ref q3, .ref q4, .null, .null, .null, .int 0, .int 0, .int 0, .int 0, .int 0, .int 0, .int 0, .int 0, .int 0, .int 0])) :: ([(q1, iar w 360)] ++ [(q2, iar w 6)] ++ [(q3, iar w 6)] ++ [(q4, iar w 6)])) H := hP
  have hD : va_D A ((a, .inr (1, [.null, .null, .ref q1, .ref q2, .ref q3, .ref q4, .null, .null, .null, .int 0, .int 0, .int 0, .int 0, .int 0, .int 0, .int 0, .int 0, .int 0, .int 0])) :: ([(q1, iar w 360)] ++ [(q2, iar w 6)] ++ [(q3, iar w 6)] ++ [(q4, iar w 6)])) := hD
  refine lv_aload_n hx hb d1_init_37 rfl (lv_at hl 0 rfl) ?_
  refine lv_bipush (v := 6) hx hb d1_init_38 (by decide) ?_
  refine x_newa (atype := .int) (t0 := 0) (N := 6) S hK rfl (gt_at 111 (by decide +kernel) (by decide +kernel)) rfl hP hD hS hA (by decide +kernel) (by decide) (by decide) (by decide) (Nat.le_of_ble_eq_true rfl) (Nat.le_of_ble_eq_true rfl) d1_init_40 (fun q5 H hP hD hS => ?_)
  have hP : va_P w.1 vwCl ((a, .inr (1, [.null, .null, .ref q1, .ref q2, .ref q3, .ref q4, .null, .null, .null, .int 0, .int 0, .int 0, .int 0, .int 0, .int 0, .int 0, .int 0, .int 0, .int 0])) :: ([(q1, iar w 360)] ++ [(q2, iar w 6)] ++ [(q3, iar w 6)] ++ [(q4, iar w 6)] ++ [(q5, iar w 6)])) H := hP
  have hD : va_D A ((a, .inr (1, [.null, .null, .ref q1, .ref q2, .ref q3, .ref q4, .null, .null, .null, .int 0, .int 0, .int 0, .int 0, .int 0, .int 0, .int 0, .int 0, .int 0, .int 0])) :: ([(q1, iar w 360)] ++ [(q2, iar w 6)] ++ [(q3, iar w 6)] ++ [(q4, iar w 6)] ++ [(q5, iar w 6)])) := hD
  refine va_putF (D := w.1) (ci := 1) (v := .ref q5) (ty := (.array .int)) (C := RX1) (T := TX1) (N := 19) hx hb hts inX1 tyX1 tyX1_ok nmX1 hown hK hP hD hS 0 rfl rfl 6 (by decide) (hts _ (gt_at 203 (by decide +kernel) (by decide +kernel))) (fun _ h9 => h9) rfl hin rfl (by decide +kernel) rfl rfl (Nat.le_of_ble_eq_true rfl) d1_init_42 (fun H locs hP hD hS => ?_)
  have hP : va_P w.1 vwCl ((a, .inr (1, [.null, .null, .ref q1, .ref q2, .ref q3, .ref q4, .ref q5, .null, .null, .int 0, .int 0, .int 0, .int 0, .int 0, .int 0, .int 0, .int 0, .int 0, .int 0])) :: ([(q1, iar w 360)] ++ [(q2, iar w 6)] ++ [(q3, iar w 6)] ++ [(q4, iar w 6)] ++ [(q5, iar w 6)])) H := hP
  have hD : va_D A ((a, .inr (1, [.null, .null, .ref q1, .ref q2, .ref q3, .ref q4, .ref q5, .null, .null, .int 0, .int 0, .int 0, .int 0, .int 0, .int 0, .int 0, .int 0, .int 0, .int 0])) :: ([(q1, iar w 360)] ++ [(q2, iar w 6)] ++ [(q3, iar w 6)] ++ [(q4, iar w 6)] ++ [(q5, iar w 6)])) := hD
  refine lv_aload_n hx hb d1_init_45 rfl (lv_at hl 0 rfl) ?_
  refine lv_bipush (v := 8) hx hb d1_init_46 (by decide) ?_
  refine x_newa (atype := .int) (t0 := 0) (N := 8) S hK rfl (gt_at 111 (by decide +kernel) (by decide +kernel)) rfl hP hD hS hA (by decide +kernel) (by decide) (by decide) (by decide) (Nat.le_of_ble_eq_true rfl) (Nat.le_of_ble_eq_true rfl) d1_init_48 (fun q6 H hP hD hS => ?_)
  have hP : va_P w.1 vwCl ((a, .inr (1, [.null, .null, .ref q1, .ref q2, .ref q3, .ref q4, .ref q5, .null, .null, .int 0, .int 0, .int 0, .int 0, .int 0, .int 0, .int 0, .int 0, .int 0, .int 0])) :: ([(q1, iar w 360)] ++ [(q2, iar w 6)] ++ [(q3, iar w 6)] ++ [(q4, iar w 6)] ++ [(q5, iar w 6)] ++ [(q6, iar w 8)])) H := hP
  have hD : va_D A ((a, .inr (1, [.null, .null, .ref q1, .ref q2, .ref q3, .ref q4, .ref q5, .null, .null, .int 0, .int 0, .int 0, .int 0, .int 0, .int 0, .int 0, .int 0, .int 0, .int 0])) :: ([(q1, iar w 360)] ++ [(q2, iar w 6)] ++ [(q3, iar w 6)] ++ [(q4, iar w 6)] ++ [(q5, iar w 6)] ++ [(q6, iar w 8)])) := hD
  refine va_putF (D := w.1) (ci := 1) (v := .ref q6) (ty := (.array .int)) (C := RX1) (T := TX1) (N := 19) hx hb hts inX1 tyX1 tyX1_ok nmX1 hown hK hP hD hS 0 rfl rfl 7 (by decide) (hts _ (gt_at 204 (by decide +kernel) (by decide +kernel))) (fun _ h9 => h9) rfl hin rfl (by decide +kernel) rfl rfl (Nat.le_of_ble_eq_true rfl) d1_init_50 (fun H locs hP hD hS => ?_)
  have hP : va_P w.1 vwCl ((a, .inr (1, [.null, .null, .ref q1, .ref q2, .ref q3, .ref q4, .ref q5, .ref q6, .null, .int 0, .int 0, .int 0, .int 0, .int 0, .int 0, .int 0, .int 0, .int 0, .int 0])) :: ([(q1, iar w 360)] ++ [(q2, iar w 6)] ++ [(q3, iar w 6)] ++ [(q4, iar w 6)] ++ [(q5, iar w 6)] ++ [(q6, iar w 8)])) H := hP
  have hD : va_D A ((a, .inr (1, [.null, .null, .ref q1, .ref q2, .ref q3, .ref q4, .ref q5, .ref q6, .null, .int 0, .int 0, .int 0, .int 0, .int 0, .int 0, .int 0, .int 0, .int 0, .int 0])) :: ([(q1, iar w 360)] ++ [(q2, iar w 6)] ++ [(q3, iar w 6)] ++ [(q4, iar w 6)] ++ [(q5, iar w 6)] ++ [(q6, iar w 8)])) := hD
  refine lv_aload_n hx hb d1_init_53 rfl (lv_at hl 0 rfl) ?_
  refine lv_bipush (v := 8) hx hb d1_init_54 (by decide) ?_
  refine x_newa (atype := .int) (t0 := 0) (N := 8) S hK rfl (gt_at 111 (by decide +kernel) (by decide +kernel)) rfl hP hD hS hA (by decide +kernel) (by decide) (by decide) (by decide) (Nat.le_of_ble_eq_true rfl) (Nat.le_of_ble_eq_true rfl) d1_init_56 (fun q7 H hP hD hS => ?_)
  have hP : va_P w.1 vwCl ((a, .inr (1, [.null, .null, .ref q1, .ref q2, .ref q3, .ref q4, .ref q5, .ref q6, .null, .int 0, .int 0, .int 0, .int 0, .int 0, .int 0, .int 0, .int 0, .int 0, .int 0])) :: ([(q1, iar w 360)] ++ [(q2, iar w 6)] ++ [(q3, iar w 6)] ++ [(q4, iar w 6)] ++ [(q5, iar w 6)] ++ [(q6, iar w 8)] ++ [(q7, iar w 8)])) H := hP
  have hD : va_D A ((a, .inr (1, [.null, .null, .ref q1, .ref q2, .ref q3, .ref q4, .ref q5, .ref q6, .null, .int 0, .int 0, .int 0, .int 0, .int 0, .int 0, .int 0, .int 0, .int 0, .int 0])) :: ([(q1, iar w 360)] ++ [(q2, iar w 6)] ++ [(q3, iar w 6)] ++ [(q4, iar w 6)] ++ [(q5, iar w 6)] ++ [(q6, iar w 8)] ++ [(q7, iar w 8)])) := hD
  refine va_putF (D := w.1) (ci := 1) (v := .ref q7) (ty := (.array .int)) (C := RX1) (T := TX1) (N := 19) hx hb hts inX1 tyX1 tyX1_ok nmX1 hown hK hP hD hS 0 rfl rfl 8 (by decide) (hts _ (gt_at 205 (by decide +kernel) (by decide +kernel))) (fun _ h9 => h9) rfl hin rfl (by decide +kernel) rfl rfl (Nat.le_of_ble_eq_true rfl) d1_init_58 (fun H locs hP hD hS => ?_)
  have hP : va_P w.1 vwCl ((a, .inr (1, [.null, .null, .ref q1, .ref q2, .ref q3, .ref q4, .ref q5, .ref q6, .ref q7, .int 0, .int 0, .int 0, .int 0, .int 0, .int 0, .int 0, .int 0, .int 0, .int 0])) :: ([(q1, iar w 360)] ++ [(q2, iar w 6)] ++ [(q3, iar w 6)] ++ [(q4, iar w 6)] ++ [(q5, iar w 6)] ++ [(q6, iar w 8)] ++ [(q7, iar w 8)])) H := hP
  have hD : va_D A ((a, .inr (1, [.null, .null, .ref q1, .ref q2, .ref q3, .ref q4, .ref q5, .ref q6, .ref q7, .int 0, .int 0, .int 0, .int 0, .int 0, .int 0, .int 0, .int 0, .int 0, .int 0])) :: ([(q1, iar w 360)] ++ [(q2, iar w 6)] ++ [(q3, iar w 6)] ++ [(q4, iar w 6)] ++ [(q5, iar w 6)] ++ [(q6, iar w 8)] ++ [(q7, iar w 8)])) := hD
  refine lv_aload_n hx hb d1_init_61 rfl (lv_at hl 0 rfl) ?_
  refine lv_iconst (v := 0) hx hb d1_init_62 (by decide) ?_
  refine va_put (D := w.1) (ci := 1) (v := .int 0) (ty := .int) (C := RX1) (T := TX1) (N := 19) hx hb hts inX1 tyX1 tyX1_ok nmX1 hown hK hP hD hS 0 rfl rfl 9 (by decide) (hts _ (gt_at 206 (by decide +kernel) (by decide +kernel))) (fun _ h9 => h9) rfl (by decide +kernel) rfl rfl (Nat.le_of_ble_eq_true rfl) d1_init_63 (fun H locs hP hD hS => ?_)
  have hP : va_P w.1 vwCl ((a, .inr (1, [.null, .null, .ref q1, .ref q2, .ref q3, .ref q4, .ref q5, .ref q6, .ref q7, .int 0, .int 0, .int 0, .int 0, .int 0, .int 0, .int 0, .int 0, .int 0, .int 0])) :: ([(q1, iar w 360)] ++ [(q2, iar w 6)] ++ [(q3, iar w 6)] ++ [(q4, iar w 6)] ++ [(q5, iar w 6)] ++ [(q6, iar w 8)] ++ [(q7, iar w 8)])) H := hP
  have hD : va_D A ((a, .inr (1, [.null, .null, .ref q1, .ref q2, .ref q3, .ref q4, .ref q5, .ref q6, .ref q7, .int 0, .int 0, .int 0, .int 0, .int 0, .int 0, .int 0, .int 0, .int 0, .int 0])) :: ([(q1, iar w 360)] ++ [(q2, iar w 6)] ++ [(q3, iar w 6)] ++ [(q4, iar w 6)] ++ [(q5, iar w 6)] ++ [(q6, iar w 8)] ++ [(q7, iar w 8)])) := hD
  refine lv_aload_n hx hb d1_init_66 rfl (lv_at hl 0 rfl) ?_
  refine lv_iconst (v := 0) hx hb d1_init_67 (by decide) ?_
  refine va_put (D := w.1) (ci := 1) (v := .int 0) (ty := .boolean) (C := RX1) (T := TX1) (N := 19) hx hb hts inX1 tyX1 tyX1_ok nmX1 hown hK hP hD hS 0 rfl rfl 10 (by decide) (hts _ (gt_at 207 (by decide +kernel) (by decide +kernel))) (fun _ h9 => h9) rfl (by decide +kernel) (by decide +kernel) (by decide +kernel) (Nat.le_of_ble_eq_true rfl) d1_init_68 (fun H locs hP hD hS => ?_)
  have hP : va_P w.1 vwCl ((a, .inr (1, [.null, .null, .ref q1, .ref q2, .ref q3, .ref q4, .ref q5, .ref q6, .ref q7, .int 0, .int 0, .int 0, .int 0, .int 0, .int 0, .int 0, .int 0, .int 0, .int 0])) :: ([(q1, iar w 360)] ++ [(q2, iar w 6)] ++ [(q3, iar w 6)] ++ [(q4, iar w 6)] ++ [(q5, iar w 6)] ++ [(q6, iar w 8)] ++ [(q7, iar w 8)])) H := hP
  have hD : va_D A ((a, .inr (1, [.null, .null, .ref q1, .ref q2, .ref q3, .ref q4, .ref q5, .ref q6, .ref q7, .int 0, .int 0, .int 0, .int 0, .int 0, .int 0, .int 0, .int 0, .int 0, .int 0])) :: ([(q1, iar w 360)] ++ [(q2, iar w 6)] ++ [(q3, iar w 6)] ++ [(q4, iar w 6)] ++ [(q5, iar w 6)] ++ [(q6, iar w 8)] ++ [(q7, iar w 8)])) := hD
  refine lv_aload_n hx hb d1_init_71 rfl (lv_at hl 0 rfl) ?_
  refine lv_iconst (v := 0) hx hb d1_init_72 (by decide) ?_
  refine va_put (D := w.1) (ci := 1) (v := .int 0) (ty := .int) (C := RX1) (T := TX1) (N := 19) hx hb hts inX1 tyX1 tyX1_ok nmX1 hown hK hP hD hS 0 rfl rfl 11 (by decide) (hts _ (gt_at 208 (by decide +kernel) (by decide +kernel))) (fun _ h9 => h9) rfl (by decide +kernel) rfl rfl (Nat.le_of_ble_eq_true rfl) d1_init_73 (fun H locs hP hD hS => ?_)
  have hP : va_P w.1 vwCl ((a, .inr (1, [.null, .null, .ref q1, .ref q2, .ref q3, .ref q4, .ref q5, .ref q6, .ref q7, .int 0, .int 0, .int 0, .int 0, .int 0, .int 0, .int 0, .int 0, .int 0, .int 0])) :: ([(q1, iar w 360)] ++ [(q2, iar w 6)] ++ [(q3, iar w 6)] ++ [(q4, iar w 6)] ++ [(q5, iar w 6)] ++ [(q6, iar w 8)] ++ [(q7, iar w 8)])) H := hP
  have hD : va_D A ((a, .inr (1, [.null, .null, .ref q1, .ref q2, .ref q3, .ref q4, .ref q5, .ref q6, .ref q7, .int 0, .int 0, .int 0, .int 0, .int 0, .int 0, .int 0, .int 0, .int 0, .int 0])) :: ([(q1, iar w 360)] ++ [(q2, iar w 6)] ++ [(q3, iar w 6)] ++ [(q4, iar w 6)] ++ [(q5, iar w 6)] ++ [(q6, iar w 8)] ++ [(q7, iar w 8)])) := hD
  refine lv_aload_n hx hb d1_init_76 rfl (lv_at hl 0 rfl) ?_
  refine lv_iconst (v := 0) hx hb d1_init_77 (by decide) ?_
  refine va_put (D := w.1) (ci := 1) (v := .int 0) (ty := .int) (C := RX1) (T := TX1) (N := 19) hx hb hts inX1 tyX1 tyX1_ok nmX1 hown hK hP hD hS 0 rfl rfl 12 (by decide) (hts _ (gt_at 209 (by decide +kernel) (by decide +kernel))) (fun _ h9 => h9) rfl (by decide +kernel) rfl rfl (Nat.le_of_ble_eq_true rfl) d1_init_78 (fun H locs hP hD hS => ?_)
  have hP : va_P w.1 vwCl ((a, .inr (1, [.null, .null, .ref q1, .ref q2, .ref q3, .ref q4, .ref q5, .ref q6, .ref q7, .int 0, .int 0, .int 0, .int 0, .int 0, .int 0, .int 0, .int 0, .int 0, .int 0])) :: ([(q1, iar w 360)] ++ [(q2, iar w 6)] ++ [(q3, iar w 6)] ++ [(q4, iar w 6)] ++ [(q5, iar w 6)] ++ [(q6, iar w 8)] ++ [(q7, iar w 8)])) H := hP
  have hD : va_D A ((a, .inr (1, [.null, .null, .ref q1, .ref q2, .ref q3, .ref q4, .ref q5, .ref q6, .ref q7, .int 0, .int 0, .int 0, .int 0, .int 0, .int 0, .int 0, .int 0, .int 0, .int 0])) :: ([(q1, iar w 360)] ++ [(q2, iar w 6)] ++ [(q3, iar w 6)] ++ [(q4, iar w 6)] ++ [(q5, iar w 6)] ++ [(q6, iar w 8)] ++ [(q7, iar w 8)])) := hD
  refine lv_aload_n hx hb d1_init_81 rfl (lv_at hl 0 rfl) ?_
  refine lv_iconst (v := 0) hx hb d1_init_82 (by decide) ?_
  refine va_put (D := w.1) (ci := 1) (v := .int 0) (ty := .int) (C := RX1) (T := TX1) (N := 19) hx hb hts inX1 tyX1 tyX1_ok nmX1 hown hK hP hD hS 0 rfl rfl 13 (by decide) (hts _ (gt_at 210 (by decide +kernel) (by decide +kernel))) (fun _ h9 => h9) rfl (by decide +kernel) rfl rfl (Nat.le_of_ble_eq_true rfl) d1_init_83 (fun H locs hP hD hS => ?_)
  have hP : va_P w.1 vwCl ((a, .inr (1, [.null, .null, .ref q1, .ref q2, .ref q3, .ref q4, .ref q5, .ref q6, .ref q7, .int 0, .int 0, .int 0, .int 0, .int 0, .int 0, .int 0, .int 0, .int 0, .int 0])) :: ([(q1, iar w 360)] ++ [(q2, iar w 6)] ++ [(q3, iar w 6)] ++ [(q4, iar w 6)] ++ [(q5, iar w 6)] ++ [(q6, iar w 8)] ++ [(q7, iar w 8)])) H := hP
  have hD : va_D A ((a, .inr (1, [.null, .null, .ref q1, .ref q2, .ref q3, .ref q4, .ref q5, .ref q6, .ref q7, .int 0, .int 0, .int 0, .int 0, .int 0, .int 0, .int 0, .int 0, .int 0, .int 0])) :: ([(q1, iar w 360)] ++ [(q2, iar w 6)] ++ [(q3, iar w 6)] ++ [(q4, iar w 6)] ++ [(q5, iar w 6)] ++ [(q6, iar w 8)] ++ [(q7, iar w 8)])) := hD
  refine lv_aload_n hx hb d1_init_86 rfl (lv_at hl 0 rfl) ?_
  refine lv_iconst (v := 0) hx hb d1_init_87 (by decide) ?_
  refine va_put (D := w.1) (ci := 1) (v := .int 0) (ty := .int) (C := RX1) (T := TX1) (N := 19) hx hb hts inX1 tyX1 tyX1_ok nmX1 hown hK hP hD hS 0 rfl rfl 14 (by decide) (hts _ (gt_at 211 (by decide +kernel) (by decide +kernel))) (fun _ h9 => h9) rfl (by decide +kernel) rfl rfl (Nat.le_of_ble_eq_true rfl) d1_init_88 (fun H locs hP hD hS => ?_)
  have hP : va_P w.1 vwCl ((a, .inr (1, [.null, .null, .ref q1, .ref q2, .ref q3, .ref q4, .ref q5, .ref q6, .ref q7, .int 0, .int 0, .int 0, .int 0, .int 0, .int 0, .int 0, .int 0, .int 0, .int 0])) :: ([(q1, iar w 360)] ++ [(q2, iar w 6)] ++ [(q3, iar w 6)] ++ [(q4, iar w 6)] ++ [(q5, iar w 6)] ++ [(q6, iar w 8)] ++ [(q7, iar w 8)])) H := hP
  have hD : va_D A ((a, .inr (1, [.null, .null, .ref q1, .ref q2, .ref q3, .ref q4, .ref q5, .ref q6, .ref q7, .int 0, .int 0, .int 0, .int 0, .int 0, .int 0, .int 0, .int 0, .int 0, .int 0])) :: ([(q1, iar w 360)] ++ [(q2, iar w 6)] ++ [(q3, iar w 6)] ++ [(q4, iar w 6)] ++ [(q5, iar w 6)] ++ [(q6, iar w 8)] ++ [(q7, iar w 8)])) := hD
  refine lv_aload_n hx hb d1_init_91 rfl (lv_at hl 0 rfl) ?_
  refine lv_iconst (v := 0) hx hb d1_init_92 (by decide) ?_
  refine va_put (D := w.1) (ci := 1) (v := .int 0) (ty := .int) (C := RX1) (T := TX1) (N := 19) hx hb hts inX1 tyX1 tyX1_ok nmX1 hown hK hP hD hS 0 rfl rfl 15 (by decide) (hts _ (gt_at 212 (by decide +kernel) (by decide +kernel))) (fun _ h9 => h9) rfl (by decide +kernel) rfl rfl (Nat.le_of_ble_eq_true rfl) d1_init_93 (fun H locs hP hD hS => ?_)
  have hP : va_P w.1 vwCl ((a, .inr (1, [.null, .null, .ref q1, .ref q2, .ref q3, .ref q4, .ref q5, .ref q6, .ref q7, .int 0, .int 0, .int 0, .int 0, .int 0, .int 0, .int 0, .int 0, .int 0, .int 0])) :: ([(q1, iar w 360)] ++ [(q2, iar w 6)] ++ [(q3, iar w 6)] ++ [(q4, iar w 6)] ++ [(q5, iar w 6)] ++ [(q6, iar w 8)] ++ [(q7, iar w 8)])) H := hP
  have hD : va_D A ((a, .inr (1, [.null, .null, .ref q1, .ref q2, .ref q3, .ref q4, .ref q5, .ref q6, .ref q7, .int 0, .int 0, .int 0, .int 0, .int 0, .int 0, .int 0, .int 0, .int 0, .int 0])) :: ([(q1, iar w 360)] ++ [(q2, iar w 6)] ++ [(q3, iar w 6)] ++ [(q4, iar w 6)] ++ [(q5, iar w 6)] ++ [(q6, iar w 8)] ++ [(q7, iar w 8)])) := hD
  refine lv_aload_n hx hb d1_init_96 rfl (lv_at hl 0 rfl) ?_
  refine lv_iconst (v := 0) hx hb d1_init_97 (by decide) ?_
  refine va_put (D := w.1) (ci := 1) (v := .int 0) (ty := .int) (C := RX1) (T := TX1) (N := 19) hx hb hts inX1 tyX1 tyX1_ok nmX1 hown hK hP hD hS 0 rfl rfl 16 (by decide) (hts _ (gt_at 213 (by decide +kernel) (by decide +kernel))) (fun _ h9 => h9) rfl (by decide +kernel) rfl rfl (Nat.le_of_ble_eq_true rfl) d1_init_98 (fun H locs hP hD hS => ?_)
  have hP : va_P w.1 vwCl ((a, .inr (1, [.null, .null, .ref q1, .ref q2, .ref q3, .ref q4, .ref q5, .ref q6, .ref q7, .int 0, .int 0, .int 0, .int 0, .int 0, .int 0, .int 0, .int 0, .int 0, .int 0])) :: ([(q1, iar w 360)] ++ [(q2, iar w 6)] ++ [(q3, iar w 6)] ++ [(q4, iar w 6)] ++ [(q5, iar w 6)] ++ [(q6, iar w 8)] ++ [(q7, iar w 8)])) H := hP
  have hD : va_D A ((a, .inr (1, [.null, .null, .ref q1, .ref q2, .ref q3, .ref q4, .ref q5, .ref q6, .ref q7, .int 0, .int 0, .int 0, .int 0, .int 0, .int 0, .int 0, .int 0, .int 0, .int 0])) :: ([(q1, iar w 360)] ++ [(q2, iar w 6)] ++ [(q3, iar w 6)] ++ [(q4, iar w 6)] ++ [(q5, iar w 6)] ++ [(q6, iar w 8)] ++ [(q7, iar w 8)])) := hD
  refine lv_aload_n hx hb d1_init_101 rfl (lv_at hl 0 rfl) ?_
  refine lv_iconst (v := 0) hx hb d1_init_102 (by decide) ?_
  refine va_put (D := w.1) (ci := 1) (v := .int 0) (ty := .int) (C := RX1) (T := TX1) (N := 19) hx hb hts inX1 tyX1 tyX1_ok nmX1 hown hK hP hD hS 0 rfl rfl 17 (by decide) (hts _ (gt_at 214 (by decide +kernel) (by decide +kernel))) (fun _ h9 => h9) rfl (by decide +kernel) rfl rfl (Nat.le_of_ble_eq_true rfl) d1_init_103 (fun H locs hP hD hS => ?_)
  have hP : va_P w.1 vwCl ((a, .inr (1, [.null, .null, .ref q1, .ref q2, .ref q3, .ref q4, .ref q5, .ref q6, .ref q7, .int 0, .int 0, .int 0, .int 0, .int 0, .int 0, .int 0, .int 0, .int 0, .int 0])) :: ([(q1, iar w 360)] ++ [(q2, iar w 6)] ++ [(q3, iar w 6)] ++ [(q4, iar w 6)] ++ [(q5, iar w 6)] ++ [(q6, iar w 8)] ++ [(q7, iar w 8)])) H := hP
  have hD : va_D A ((a, .inr (1, [.null, .null, .ref q1, .ref q2, .ref q3, .ref q4, .ref q5, .ref q6, .ref q7, .int 0, .int 0, .int 0, .int 0, .int 0, .int 0, .int 0, .int 0, .int 0, .int 0])) :: ([(q1, iar w 360)] ++ [(q2, iar w 6)] ++ [(q3, iar w 6)] ++ [(q4, iar w 6)] ++ [(q5, iar w 6)] ++ [(q6, iar w 8)] ++ [(q7, iar w 8)])) := hD
  refine lv_aload_n hx hb d1_init_106 rfl (lv_at hl 0 rfl) ?_
  refine lv_iconst (v := 0) hx hb d1_init_107 (by decide) ?_
  refine va_put (D := w.1) (ci := 1) (v := .int 0) (ty := .boolean) (C := RX1) (T := TX1) (N := 19) hx hb hts inX1 tyX1 tyX1_ok nmX1 hown hK hP hD hS 0 rfl rfl 18 (by decide) (hts _ (gt_at 215 (by decide +kernel) (by decide +kernel))) (fun _ h9 => h9) rfl (by decide +kernel) (by decide +kernel) (by decide +kernel) (Nat.le_of_ble_eq_true rfl) d1_init_108 (fun H locs hP hD hS => ?_)
  have hP : va_P w.1 vwCl ((a, .inr (1, [.null, .null, .ref q1, .ref q2, .ref q3, .ref q4, .ref q5, .ref q6, .ref q7, .int 0, .int 0, .int 0, .int 0, .int 0, .int 0, .int 0, .int 0, .int 0, .int 0])) :: ([(q1, iar w 360)] ++ [(q2, iar w 6)] ++ [(q3, iar w 6)] ++ [(q4, iar w 6)] ++ [(q5, iar w 6)] ++ [(q6, iar w 8)] ++ [(q7, iar w 8)])) H := hP
  have hD : va_D A ((a, .inr (1, [.null, .null, .ref q1, .ref q2, .ref q3, .ref q4, .ref q5, .ref q6, .ref q7, .int 0, .int 0, .int 0, .int 0, .int 0, .int 0, .int 0, .int 0, .int 0, .int 0])) :: ([(q1, iar w 360)] ++ [(q2, iar w 6)] ++ [(q3, iar w 6)] ++ [(q4, iar w 6)] ++ [(q5, iar w 6)] ++ [(q6, iar w 8)] ++ [(q7, iar w 8)])) := hD
  refine lv_aload_n hx hb d1_init_111 rfl (lv_at hl 0 rfl) ?_
  refine lv_aload_n hx hb d1_init_112 rfl (lv_at hl 1 rfl) ?_
  refine va_putF (D := w.1) (ci := 1) (v := .ref a1) (ty := (.object "FourTenGates$Book")) (C := RX1) (T := TX1) (N := 19) hx hb hts inX1 tyX1 tyX1_ok nmX1 hown hK hP hD hS 0 rfl rfl 0 (by decide) (hts _ (gt_at 197 (by decide +kernel) (by decide +kernel))) (fun _ h9 => h9) rfl hin rfl (by decide +kernel) rfl rfl (Nat.le_of_ble_eq_true rfl) d1_init_113 (fun H locs hP hD hS => ?_)
  have hP : va_P w.1 vwCl ((a, .inr (1, [.ref a1, .null, .ref q1, .ref q2, .ref q3, .ref q4, .ref q5, .ref q6, .ref q7, .int 0, .int 0, .int 0, .int 0, .int 0, .int 0, .int 0, .int 0, .int 0, .int 0])) :: ([(q1, iar w 360)] ++ [(q2, iar w 6)] ++ [(q3, iar w 6)] ++ [(q4, iar w 6)] ++ [(q5, iar w 6)] ++ [(q6, iar w 8)] ++ [(q7, iar w 8)])) H := hP
  have hD : va_D A ((a, .inr (1, [.ref a1, .null, .ref q1, .ref q2, .ref q3, .ref q4, .ref q5, .ref q6, .ref q7, .int 0, .int 0, .int 0, .int 0, .int 0, .int 0, .int 0, .int 0, .int 0, .int 0])) :: ([(q1, iar w 360)] ++ [(q2, iar w 6)] ++ [(q3, iar w 6)] ++ [(q4, iar w 6)] ++ [(q5, iar w 6)] ++ [(q6, iar w 8)] ++ [(q7, iar w 8)])) := hD
  refine lv_aload_n hx hb d1_init_116 rfl (lv_at hl 0 rfl) ?_
  refine lv_aload_n hx hb d1_init_117 rfl (lv_at hl 2 rfl) ?_
  refine va_putF (D := w.1) (ci := 1) (v := .ref a2) (ty := (.object "FourTenGates$Stand")) (C := RX1) (T := TX1) (N := 19) hx hb hts inX1 tyX1 tyX1_ok nmX1 hown hK hP hD hS 0 rfl rfl 1 (by decide) (hts _ (gt_at 198 (by decide +kernel) (by decide +kernel))) (fun _ h9 => h9) rfl hin rfl (by decide +kernel) rfl rfl (Nat.le_of_ble_eq_true rfl) d1_init_118 (fun H locs hP hD hS => ?_)
  have hP : va_P w.1 vwCl ((a, .inr (1, [.ref a1, .ref a2, .ref q1, .ref q2, .ref q3, .ref q4, .ref q5, .ref q6, .ref q7, .int 0, .int 0, .int 0, .int 0, .int 0, .int 0, .int 0, .int 0, .int 0, .int 0])) :: ([(q1, iar w 360)] ++ [(q2, iar w 6)] ++ [(q3, iar w 6)] ++ [(q4, iar w 6)] ++ [(q5, iar w 6)] ++ [(q6, iar w 8)] ++ [(q7, iar w 8)])) H := hP
  have hD : va_D A ((a, .inr (1, [.ref a1, .ref a2, .ref q1, .ref q2, .ref q3, .ref q4, .ref q5, .ref q6, .ref q7, .int 0, .int 0, .int 0, .int 0, .int 0, .int 0, .int 0, .int 0, .int 0, .int 0])) :: ([(q1, iar w 360)] ++ [(q2, iar w 6)] ++ [(q3, iar w 6)] ++ [(q4, iar w 6)] ++ [(q5, iar w 6)] ++ [(q6, iar w 8)] ++ [(q7, iar w 8)])) := hD
  obtain ⟨uu, huu⟩ : ∃ uu : Nat → Nat, uu = (fun j => if j = 0 then a else if j = 1 then q1 else if j = 2 then q2 else if j = 3 then q3 else if j = 4 then q4 else if j = 5 then q5 else if j = 6 then q6 else if j = 7 then q7 else 0) := ⟨_, rfl⟩
  have hP9 : va_P w.1 vwCl (lst1 w a1 a2 uu) H := by subst huu; exact hP
  have hD9 : va_D A (lst1 w a1 a2 uu) := by subst huu; exact hD
  have hu0 : uu 0 = a := by subst huu; rfl
  exact W.vret hx hb hr (fun t ht hW => ⟨⟨uu, rfl, hu0, by rw [ht]; exact hP9, hD9⟩, hS.F ht⟩) hS.2.2 d1_init_121 hlk
theorem d3_init_0 : decode cX3_init 0 = .ok (.aload_n 0, 1) := by decide +kernel
theorem d3_init_1 : decode cX3_init 1 = .ok (.invokespecial 1, 3) := by decide +kernel
theorem d3_init_4 : decode cX3_init 4 = .ok (.aload_n 0, 1) := by decide +kernel
theorem d3_init_5 : decode cX3_init 5 = .ok (.iconst 0, 1) := by decide +kernel
theorem d3_init_6 : decode cX3_init 6 = .ok (.putfield 7, 3) := by decide +kernel
theorem d3_init_9 : decode cX3_init 9 = .ok (.aload_n 0, 1) := by decide +kernel
theorem d3_init_10 : decode cX3_init 10 = .ok (.iconst 1, 1) := by decide +kernel
theorem d3_init_11 : decode cX3_init 11 = .ok (.iload_n 1, 1) := by decide +kernel
theorem d3_init_12 : decode cX3_init 12 = .ok (.invokestatic 13, 3) := by decide +kernel
theorem d3_init_15 : decode cX3_init 15 = .ok (.anewarray 19, 3) := by decide +kernel
theorem d3_init_18 : decode cX3_init 18 = .ok (.putfield 21, 3) := by decide +kernel
theorem d3_init_21 : decode cX3_init 21 = .ok (.iconst 0, 1) := by decide +kernel
theorem d3_init_22 : decode cX3_init 22 = .ok (.istore_n 2, 1) := by decide +kernel
theorem d3_init_23 : decode cX3_init 23 = .ok (.iload_n 2, 1) := by decide +kernel
theorem d3_init_24 : decode cX3_init 24 = .ok (.aload_n 0, 1) := by decide +kernel
theorem d3_init_25 : decode cX3_init 25 = .ok (.getfield 21, 3) := by decide +kernel
theorem d3_init_28 : decode cX3_init 28 = .ok (.arraylength, 1) := by decide +kernel
theorem d3_init_29 : decode cX3_init 29 = .ok (.if_icmp .ge 22, 3) := by decide +kernel
theorem d3_init_32 : decode cX3_init 32 = .ok (.aload_n 0, 1) := by decide +kernel
theorem d3_init_33 : decode cX3_init 33 = .ok (.getfield 21, 3) := by decide +kernel
theorem d3_init_36 : decode cX3_init 36 = .ok (.iload_n 2, 1) := by decide +kernel
theorem d3_init_37 : decode cX3_init 37 = .ok (.new 19, 3) := by decide +kernel
theorem d3_init_40 : decode cX3_init 40 = .ok (.dup, 1) := by decide +kernel
theorem d3_init_41 : decode cX3_init 41 = .ok (.invokespecial 25, 3) := by decide +kernel
theorem d3_init_44 : decode cX3_init 44 = .ok (.aastore, 1) := by decide +kernel
theorem d3_init_45 : decode cX3_init 45 = .ok (.iinc 2 1, 3) := by decide +kernel
theorem d3_init_48 : decode cX3_init 48 = .ok (.goto (-25), 3) := by decide +kernel
theorem d3_init_51 : decode cX3_init 51 = .ok (.return_, 1) := by decide +kernel
abbrev rmi_3_8 : Room := { frames := 3, cells := 41, slots := 232, locals := 62 }
set_option maxHeartbeats 4000000 in
set_option maxRecDepth 100000 in
theorem ci3_8 (l : Launch) (w : WV) (a sz : Nat) : Met l yX3_init (wy yX3_init cX3_init 3 none) rmi_3_8 (PcI w [.ref a, .int 8] sz [(a, .inr (3, dfl3))] (va_AO RX4)) (QvI w (lst3_8 w) a (va_A [(a, .inr (3, dfl3))] sz)) 41 232 (va_A [(a, .inr (3, dfl3))] sz) := by
  refine mk_meti (by decide) (Nat.le_of_ble_eq_true rfl) ?_
  intro p e s m below meth c S hr hlk hin hsz hK hN hP hD0 hX ls hl
  obtain ⟨hx, hb, hml, hown, hts⟩ := id S
  subst hsz
  have hD := hD0.self (sz := s.heap.size)
  generalize hAe : va_A [(a, .inr (3, dfl3))] s.heap.size = A at hD ⊢
  have hXA := hX
  have hA : ∀ q : Nat, s.heap.size ≤ q → A q := fun q h => by rw [← hAe]; exact Or.inr h
  have hS : va_S A s.heap s.heap [] := va_S.rf
  have hl : lv_has ls 3 [(0, .ref a), (1, .int 8)] := hl
  refine lv_aload_n hx hb d3_init_0 rfl (lv_at hl 0 rfl) ?_
  refine x_obj S (gt_at 260 (by decide +kernel) (by decide +kernel)) (gt_at 93 (by decide +kernel) (by decide +kernel)) (gt_at 94 (by decide +kernel) (by decide +kernel)) hl.1 d3_init_1 (Nat.le_of_ble_eq_true rfl) (Nat.le_of_ble_eq_true rfl) ?_
  refine lv_aload_n hx hb d3_init_4 rfl (lv_at hl 0 rfl) ?_
  refine lv_iconst (v := 0) hx hb d3_init_5 (by decide) ?_
  refine va_put (D := w.1) (ci := 3) (v := .int 0) (ty := .int) (C := RX3) (T := TX3) (N := 2) hx hb hts inX3 tyX3 tyX3_ok nmX3 hown hK hP hD hS 0 rfl rfl 1 (by decide) (hts _ (gt_at 268 (by decide +kernel) (by decide +kernel))) (fun _ h9 => h9) rfl (by decide +kernel) rfl rfl (Nat.le_of_ble_eq_true rfl) d3_init_6 (fun H locs hP hD hS => ?_)
  have hP : va_P w.1 vwCl ((a, .inr (3, [.null, .int 0])) :: ([])) H := hP
  have hD : va_D A ((a, .inr (3, [.null, .int 0])) :: ([])) := hD
  refine lv_aload_n hx hb d3_init_9 rfl (lv_at hl 0 rfl) ?_
  refine lv_iconst (v := 1) hx hb d3_init_10 (by decide) ?_
  refine lv_iload_n hx hb d3_init_11 rfl (lv_at hl 1 rfl) ?_
  refine va_mmax hx hb (S.2.2.1.trans hl.1.symm) hown (hts _ (gt_at 261 (by decide +kernel) (by decide +kernel))) (hts _ (gt_at 262 (by decide +kernel) (by decide +kernel))) (hts _ (gt_at 78 (by decide +kernel) (by decide +kernel))) (hts _ (gt_at 263 (by decide +kernel) (by decide +kernel))) (Nat.le_of_ble_eq_true rfl) (Nat.le_of_ble_eq_true rfl) (Nat.le_of_ble_eq_true rfl) (Nat.le_of_ble_eq_true rfl) d3_init_12 ?_
  refine x_newq (C := RX4) (t0 := 3) (N := 8) S hK (gt_at 264 (by decide +kernel) (by decide +kernel)) hXA rfl hP hD hS hA (by decide) (by decide) (by decide) (Nat.le_of_ble_eq_true rfl) (Nat.le_of_ble_eq_true rfl) d3_init_15 (fun q1 H hP hD hS => ?_)
  have hP : va_P w.1 vwCl ((a, .inr (3, [.null, .int 0])) :: ([(q1, .inl (w.2.1 3, 8, .inr (.inr (.inr (.inr (fun _ => none))))))])) H := hP
  have hD : va_D A ((a, .inr (3, [.null, .int 0])) :: ([(q1, .inl (w.2.1 3, 8, .inr (.inr (.inr (.inr (fun _ => none))))))])) := hD
  refine va_putF (D := w.1) (ci := 3) (v := .ref q1) (ty := (.array (.object "FourTenGates$Stand"))) (C := RX3) (T := TX3) (N := 2) hx hb hts inX3 tyX3 tyX3_ok nmX3 hown hK hP hD hS 0 rfl rfl 0 (by decide) (hts _ (gt_at 267 (by decide +kernel) (by decide +kernel))) (fun _ h9 => h9) rfl hin rfl (by decide +kernel) rfl rfl (Nat.le_of_ble_eq_true rfl) d3_init_18 (fun H locs hP hD hS => ?_)
  have hP : va_P w.1 vwCl ((a, .inr (3, [.ref q1, .int 0])) :: ([(q1, .inl (w.2.1 3, 8, .inr (.inr (.inr (.inr (fun _ => none))))))])) H := hP
  have hD : va_D A ((a, .inr (3, [.ref q1, .int 0])) :: ([(q1, .inl (w.2.1 3, 8, .inr (.inr (.inr (.inr (fun _ => none))))))])) := hD
  refine lv_iconst (v := 0) hx hb d3_init_21 (by decide) ?_
  refine lv_istore_n (lv' := [(2, .int 0), (0, .ref a), (1, .int 8)]) hx hb d3_init_22 rfl hl (by decide) rfl (fun ls hl => ?_)
  refine lv_iload_n hx hb d3_init_23 rfl (lv_at hl 0 rfl) ?_
  refine lv_aload_n hx hb d3_init_24 rfl (lv_at hl 1 rfl) ?_
  refine va_get (D := w.1) (ci := 3) (v := .ref q1) (C := RX3) (T := TX3) (N := 2) hx hb hts inX3 hown hK hP 0 rfl rfl 0 (by decide) (hts _ (gt_at 267 (by decide +kernel) (by decide +kernel))) (fun _ h9 => h9) rfl d3_init_25 ?_
  refine va_alen (v := 8) hx hb hK hP 1 3 rfl rfl rfl d3_init_28 ?_
  refine lv_icmp_ge (tgt := 51) hx hb d3_init_29 (by decide) (fun hc => absurd hc (by decide)) (fun _ => ?_)
  refine lv_aload_n hx hb d3_init_32 rfl (lv_at hl 1 rfl) ?_
  refine va_get (D := w.1) (ci := 3) (v := .ref q1) (C := RX3) (T := TX3) (N := 2) hx hb hts inX3 hown hK hP 0 rfl rfl 0 (by decide) (hts _ (gt_at 267 (by decide +kernel) (by decide +kernel))) (fun _ h9 => h9) rfl d3_init_33 ?_
  refine lv_iload_n hx hb d3_init_36 rfl (lv_at hl 0 rfl) ?_
  refine va_new (D := w.1) (ci := 4) (fs := dfl4) (C := RX4) (T := TX4) (N := 2) hx hb hts inX4 tyX4 tyX4_ok hown (hts _ (gt_at 264 (by decide +kernel) (by decide +kernel))) (hts _ (gt_at 175 (by decide +kernel) (by decide +kernel))) (hts _ (gt_at 79 (by decide +kernel) (by decide +kernel))) hK hP hD hS hA rfl df4 (Nat.le_of_ble_eq_true rfl) (Nat.le_of_ble_eq_true rfl) d3_init_37 (fun q2 H hP hD hS => ?_)
  refine lv_dup hx hb d3_init_40 rfl ?_
  have hPo := hP
  have hDo := hD
  clear hP hD
  refine x_end hPo hDo hS hA (run_IN (n := 0) (As := []) (bl := .inr (4, dfl4)) (host := RX6) S hN (by decide +kernel) (gt_at 177 (by decide +kernel) (by decide +kernel)) (gt_at 79 (by decide +kernel) (by decide +kernel)) (gt_at 178 (by decide +kernel) (by decide +kernel)) (by decide +kernel) rfl rfl (ci4 l w q2 H.size) (x_pre hK hN hPo (fun _ _ _ _ _ => trivial) (fun _ _ _ => trivial)) ⟨rfl, rfl⟩ ⟨Nat.le_of_ble_eq_true rfl, Nat.le_of_ble_eq_true rfl⟩ ⟨Nat.le_of_ble_eq_true rfl, Nat.le_of_ble_eq_true rfl⟩ hl.1 rfl (Nat.le_of_ble_eq_true rfl) d3_init_41) (fun u3 H locs hu hP hD hS => ?_)
  subst hu
  have hP : va_P w.1 vwCl ((a, .inr (3, [.ref q1, .int 0])) :: ([(q1, .inl (w.2.1 3, 8, .inr (.inr (.inr (.inr (fun _ => none))))))] ++ lst4 w u3)) H := hP
  have hD : va_D A ((a, .inr (3, [.ref q1, .int 0])) :: ([(q1, .inl (w.2.1 3, 8, .inr (.inr (.inr (.inr (fun _ => none))))))] ++ lst4 w u3)) := hD
  refine va_astq (D := w.1) (cl := vwCl) hx hb hK hP hD hS 1 3 2 4 rfl rfl rfl rfl (vin (by decide)) d3_init_44 (fun H locs hP hD hS => ?_)
  have hP : va_P w.1 vwCl ((a, .inr (3, [.ref q1, .int 0])) :: ([(q1, .inl (w.2.1 3, 8, .inr (.inr (.inr (.inr (va_up (fun _ => none) 0 (some (u3 0))))))))] ++ lst4 w u3)) H := hP
  have hD : va_D A ((a, .inr (3, [.ref q1, .int 0])) :: ([(q1, .inl (w.2.1 3, 8, .inr (.inr (.inr (.inr (va_up (fun _ => none) 0 (some (u3 0))))))))] ++ lst4 w u3)) := hD
  refine lv_iinc (v := 1) (lv' := [(2, .int 1), (0, .ref a), (1, .int 8)]) hx hb d3_init_45 hl (k := 0) rfl (by decide) (by decide) rfl (fun ls hl => ?_)
  refine lv_goto (tgt := 23) hx hb d3_init_48 (by decide) ?_
  refine lv_iload_n hx hb d3_init_23 rfl (lv_at hl 0 rfl) ?_
  refine lv_aload_n hx hb d3_init_24 rfl (lv_at hl 1 rfl) ?_
  refine va_get (D := w.1) (ci := 3) (v := .ref q1) (C := RX3) (T := TX3) (N := 2) hx hb hts inX3 hown hK hP 0 rfl rfl 0 (by decide) (hts _ (gt_at 267 (by decide +kernel) (by decide +kernel))) (fun _ h9 => h9) rfl d3_init_25 ?_
  refine va_alen (v := 8) hx hb hK hP 1 3 rfl rfl rfl d3_init_28 ?_
  refine lv_icmp_ge (tgt := 51) hx hb d3_init_29 (by decide) (fun hc => absurd hc (by decide)) (fun _ => ?_)
  refine lv_aload_n hx hb d3_init_32 rfl (lv_at hl 1 rfl) ?_
  refine va_get (D := w.1) (ci := 3) (v := .ref q1) (C := RX3) (T := TX3) (N := 2) hx hb hts inX3 hown hK hP 0 rfl rfl 0 (by decide) (hts _ (gt_at 267 (by decide +kernel) (by decide +kernel))) (fun _ h9 => h9) rfl d3_init_33 ?_
  refine lv_iload_n hx hb d3_init_36 rfl (lv_at hl 0 rfl) ?_
  refine va_new (D := w.1) (ci := 4) (fs := dfl4) (C := RX4) (T := TX4) (N := 2) hx hb hts inX4 tyX4 tyX4_ok hown (hts _ (gt_at 264 (by decide +kernel) (by decide +kernel))) (hts _ (gt_at 175 (by decide +kernel) (by decide +kernel))) (hts _ (gt_at 79 (by decide +kernel) (by decide +kernel))) hK hP hD hS hA rfl df4 (Nat.le_of_ble_eq_true rfl) (Nat.le_of_ble_eq_true rfl) d3_init_37 (fun q4 H hP hD hS => ?_)
  refine lv_dup hx hb d3_init_40 rfl ?_
  have hPo := hP
  have hDo := hD
  clear hP hD
  refine x_end hPo hDo hS hA (run_IN (n := 0) (As := []) (bl := .inr (4, dfl4)) (host := RX6) S hN (by decide +kernel) (gt_at 177 (by decide +kernel) (by decide +kernel)) (gt_at 79 (by decide +kernel) (by decide +kernel)) (gt_at 178 (by decide +kernel) (by decide +kernel)) (by decide +kernel) rfl rfl (ci4 l w q4 H.size) (x_pre hK hN hPo (fun _ _ _ _ _ => trivial) (fun _ _ _ => trivial)) ⟨rfl, rfl⟩ ⟨Nat.le_of_ble_eq_true rfl, Nat.le_of_ble_eq_true rfl⟩ ⟨Nat.le_of_ble_eq_true rfl, Nat.le_of_ble_eq_true rfl⟩ hl.1 rfl (Nat.le_of_ble_eq_true rfl) d3_init_41) (fun u5 H locs hu hP hD hS => ?_)
  subst hu
  have hP : va_P w.1 vwCl ((a, .inr (3, [.ref q1, .int 0])) :: ([(q1, .inl (w.2.1 3, 8, .inr (.inr (.inr (.inr (va_up (fun _ => none) 0 (some (u3 0))))))))] ++ lst4 w u3 ++ lst4 w u5)) H := hP
  have hD : va_D A ((a, .inr (3, [.ref q1, .int 0])) :: ([(q1, .inl (w.2.1 3, 8, .inr (.inr (.inr (.inr (va_up (fun _ => none) 0 (some (u3 0))))))))] ++ lst4 w u3 ++ lst4 w u5)) := hD
  refine va_astq (D := w.1) (cl := vwCl) hx hb hK hP hD hS 1 3 7 4 rfl rfl rfl rfl (vin (by decide)) d3_init_44 (fun H locs hP hD hS => ?_)
  have hP : va_P w.1 vwCl ((a, .inr (3, [.ref q1, .int 0])) :: ([(q1, .inl (w.2.1 3, 8, .inr (.inr (.inr (.inr (va_up (va_up (fun _ => none) 0 (some (u3 0))) 1 (some (u5 0))))))))] ++ lst4 w u3 ++ lst4 w u5)) H := hP
  have hD : va_D A ((a, .inr (3, [.ref q1, .int 0])) :: ([(q1, .inl (w.2.1 3, 8, .inr (.inr (.inr (.inr (va_up (va_up (fun _ => none) 0 (some (u3 0))) 1 (some (u5 0))))))))] ++ lst4 w u3 ++ lst4 w u5)) := hD
  refine lv_iinc (v := 2) (lv' := [(2, .int 2), (0, .ref a), (1, .int 8)]) hx hb d3_init_45 hl (k := 0) rfl (by decide) (by decide) rfl (fun ls hl => ?_)
  refine lv_goto (tgt := 23) hx hb d3_init_48 (by decide) ?_
  refine lv_iload_n hx hb d3_init_23 rfl (lv_at hl 0 rfl) ?_
  refine lv_aload_n hx hb d3_init_24 rfl (lv_at hl 1 rfl) ?_
  refine va_get (D := w.1) (ci := 3) (v := .ref q1) (C := RX3) (T := TX3) (N := 2) hx hb hts inX3 hown hK hP 0 rfl rfl 0 (by decide) (hts _ (gt_at 267 (by decide +kernel) (by decide +kernel))) (fun _ h9 => h9) rfl d3_init_25 ?_
  refine va_alen (v := 8) hx hb hK hP 1 3 rfl rfl rfl d3_init_28 ?_
  refine lv_icmp_ge (tgt := 51) hx hb d3_init_29 (by decide) (fun hc => absurd hc (by decide)) (fun _ => ?_)
  refine lv_aload_n hx hb d3_init_32 rfl (lv_at hl 1 rfl) ?_
  refine va_get (D := w.1) (ci := 3) (v := .ref q1) (C := RX3) (T := TX3) (N := 2) hx hb hts inX3 hown hK hP 0 rfl rfl 0 (by decide) (hts _ (gt_at 267 (by decide +kernel) (by decide +kernel))) (fun _ h9 => h9) rfl d3_init_33 ?_
  refine lv_iload_n hx hb d3_init_36 rfl (lv_at hl 0 rfl) ?_
  refine va_new (D := w.1) (ci := 4) (fs := dfl4) (C := RX4) (T := TX4) (N := 2) hx hb hts inX4 tyX4 tyX4_ok hown (hts _ (gt_at 264 (by decide +kernel) (by decide +kernel))) (hts _ (gt_at 175 (by decide +kernel) (by decide +kernel))) (hts _ (gt_at 79 (by decide +kernel) (by decide +kernel))) hK hP hD hS hA rfl df4 (Nat.le_of_ble_eq_true rfl) (Nat.le_of_ble_eq_true rfl) d3_init_37 (fun q6 H hP hD hS => ?_)
  refine lv_dup hx hb d3_init_40 rfl ?_
  have hPo := hP
  have hDo := hD
  clear hP hD
  refine x_end hPo hDo hS hA (run_IN (n := 0) (As := []) (bl := .inr (4, dfl4)) (host := RX6) S hN (by decide +kernel) (gt_at 177 (by decide +kernel) (by decide +kernel)) (gt_at 79 (by decide +kernel) (by decide +kernel)) (gt_at 178 (by decide +kernel) (by decide +kernel)) (by decide +kernel) rfl rfl (ci4 l w q6 H.size) (x_pre hK hN hPo (fun _ _ _ _ _ => trivial) (fun _ _ _ => trivial)) ⟨rfl, rfl⟩ ⟨Nat.le_of_ble_eq_true rfl, Nat.le_of_ble_eq_true rfl⟩ ⟨Nat.le_of_ble_eq_true rfl, Nat.le_of_ble_eq_true rfl⟩ hl.1 rfl (Nat.le_of_ble_eq_true rfl) d3_init_41) (fun u7 H locs hu hP hD hS => ?_)
  subst hu
  have hP : va_P w.1 vwCl ((a, .inr (3, [.ref q1, .int 0])) :: ([(q1, .inl (w.2.1 3, 8, .inr (.inr (.inr (.inr (va_up (va_up (fun _ => none) 0 (some (u3 0))) 1 (some (u5 0))))))))] ++ lst4 w u3 ++ lst4 w u5 ++ lst4 w u7)) H := hP
  have hD : va_D A ((a, .inr (3, [.ref q1, .int 0])) :: ([(q1, .inl (w.2.1 3, 8, .inr (.inr (.inr (.inr (va_up (va_up (fun _ => none) 0 (some (u3 0))) 1 (some (u5 0))))))))] ++ lst4 w u3 ++ lst4 w u5 ++ lst4 w u7)) := hD
  refine va_astq (D := w.1) (cl := vwCl) hx hb hK hP hD hS 1 3 12 4 rfl rfl rfl rfl (vin (by decide)) d3_init_44 (fun H locs hP hD hS => ?_)
  have hP : va_P w.1 vwCl ((a, .inr (3, [.ref q1, .int 0])) :: ([(q1, .inl (w.2.1 3, 8, .inr (.inr (.inr (.inr (va_up (va_up (va_up (fun _ => none) 0 (some (u3 0))) 1 (some (u5 0))) 2 (some (u7 0))))))))] ++ lst4 w u3 ++ lst4 w u5 ++ lst4 w u7)) H := hP
  have hD : va_D A ((a, .inr (3, [.ref q1, .int 0])) :: ([(q1, .inl (w.2.1 3, 8, .inr (.inr (.inr (.inr (va_up (va_up (va_up (fun _ => none) 0 (some (u3 0))) 1 (some (u5 0))) 2 (some (u7 0))))))))] ++ lst4 w u3 ++ lst4 w u5 ++ lst4 w u7)) := hD
  refine lv_iinc (v := 3) (lv' := [(2, .int 3), (0, .ref a), (1, .int 8)]) hx hb d3_init_45 hl (k := 0) rfl (by decide) (by decide) rfl (fun ls hl => ?_)
  refine lv_goto (tgt := 23) hx hb d3_init_48 (by decide) ?_
  refine lv_iload_n hx hb d3_init_23 rfl (lv_at hl 0 rfl) ?_
  refine lv_aload_n hx hb d3_init_24 rfl (lv_at hl 1 rfl) ?_
  refine va_get (D := w.1) (ci := 3) (v := .ref q1) (C := RX3) (T := TX3) (N := 2) hx hb hts inX3 hown hK hP 0 rfl rfl 0 (by decide) (hts _ (gt_at 267 (by decide +kernel) (by decide +kernel))) (fun _ h9 => h9) rfl d3_init_25 ?_
  refine va_alen (v := 8) hx hb hK hP 1 3 rfl rfl rfl d3_init_28 ?_
  refine lv_icmp_ge (tgt := 51) hx hb d3_init_29 (by decide) (fun hc => absurd hc (by decide)) (fun _ => ?_)
  refine lv_aload_n hx hb d3_init_32 rfl (lv_at hl 1 rfl) ?_
  refine va_get (D := w.1) (ci := 3) (v := .ref q1) (C := RX3) (T := TX3) (N := 2) hx hb hts inX3 hown hK hP 0 rfl rfl 0 (by decide) (hts _ (gt_at 267 (by decide +kernel) (by decide +kernel))) (fun _ h9 => h9) rfl d3_init_33 ?_
  refine lv_iload_n hx hb d3_init_36 rfl (lv_at hl 0 rfl) ?_
  refine va_new (D := w.1) (ci := 4) (fs := dfl4) (C := RX4) (T := TX4) (N := 2) hx hb hts inX4 tyX4 tyX4_ok hown (hts _ (gt_at 264 (by decide +kernel) (by decide +kernel))) (hts _ (gt_at 175 (by decide +kernel) (by decide +kernel))) (hts _ (gt_at 79 (by decide +kernel) (by decide +kernel))) hK hP hD hS hA rfl df4 (Nat.le_of_ble_eq_true rfl) (Nat.le_of_ble_eq_true rfl) d3_init_37 (fun q8 H hP hD hS => ?_)
  refine lv_dup hx hb d3_init_40 rfl ?_
  have hPo := hP
  have hDo := hD
  clear hP hD
  refine x_end hPo hDo hS hA (run_IN (n := 0) (As := []) (bl := .inr (4, dfl4)) (host := RX6) S hN (by decide +kernel) (gt_at 177 (by decide +kernel) (by decide +kernel)) (gt_at 79 (by decide +kernel) (by decide +kernel)) (gt_at 178 (by decide +kernel) (by decide +kernel)) (by decide +kernel) rfl rfl (ci4 l w q8 H.size) (x_pre hK hN hPo (fun _ _ _ _ _ => trivial) (fun _ _ _ => trivial)) ⟨rfl, rfl⟩ ⟨Nat.le_of_ble_eq_true rfl, Nat.le_of_ble_eq_true rfl⟩ ⟨Nat.le_of_ble_eq_true rfl, Nat.le_of_ble_eq_true rfl⟩ hl.1 rfl (Nat.le_of_ble_eq_true rfl) d3_init_41) (fun u9 H locs hu hP hD hS => ?_)
  subst hu
  have hP : va_P w.1 vwCl ((a, .inr (3, [.ref q1, .int 0])) :: ([(q1, .inl (w.2.1 3, 8, .inr (.inr (.inr (.inr (va_up (va_up (va_up (fun _ => none) 0 (some (u3 0))) 1 (some (u5 0))) 2 (some (u7 0))))))))] ++ lst4 w u3 ++ lst4 w u5 ++ lst4 w u7 ++ lst4 w u9)) H := hP
  have hD : va_D A ((a, .inr (3, [.ref q1, .int 0])) :: ([(q1, .inl (w.2.1 3, 8, .inr (.inr (.inr (.inr (va_up (va_up (va_up (fun _ => none) 0 (some (u3 0))) 1 (some (u5 0))) 2 (some (u7 0))))))))] ++ lst4 w u3 ++ lst4 w u5 ++ lst4 w u7 ++ lst4 w u9)) := hD
  refine va_astq (D := w.1) (cl := vwCl) hx hb hK hP hD hS 1 3 17 4 rfl rfl rfl rfl (vin (by decide)) d3_init_44 (fun H locs hP hD hS => ?_)
  have hP : va_P w.1 vwCl ((a, .inr (3, [.ref q1, .int 0])) :: ([(q1, .inl (w.2.1 3, 8, .inr (.inr (.inr (.inr (va_up (va_up (va_up (va_up (fun _ => none) 0 (some (u3 0))) 1 (some (u5 0))) 2 (some (u7 0))) 3 (some (u9 0))))))))] ++ lst4 w u3 ++ lst4 w u5 ++ lst4 w u7 ++ lst4 w u9)) H := hP
  have hD : va_D A ((a, .inr (3, [.ref q1, .int 0])) :: ([(q1, .inl (w.2.1 3, 8, .inr (.inr (.inr (.inr (va_up (va_up (va_up (va_up (fun _ => none) 0 (some (u3 0))) 1 (some (u5 0))) 2 (some (u7 0))) 3 (some (u9 0))))))))] ++ lst4 w u3 ++ lst4 w u5 ++ lst4 w u7 ++ lst4 w u9)) := hD
  refine lv_iinc (v := 4) (lv' := [(2, .int 4), (0, .ref a), (1, .int 8)]) hx hb d3_init_45 hl (k := 0) rfl (by decide) (by decide) rfl (fun ls hl => ?_)
  refine lv_goto (tgt := 23) hx hb d3_init_48 (by decide) ?_
  refine lv_iload_n hx hb d3_init_23 rfl (lv_at hl 0 rfl) ?_
  refine lv_aload_n hx hb d3_init_24 rfl (lv_at hl 1 rfl) ?_
  refine va_get (D := w.1) (ci := 3) (v := .ref q1) (C := RX3) (T := TX3) (N := 2) hx hb hts inX3 hown hK hP 0 rfl rfl 0 (by decide) (hts _ (gt_at 267 (by decide +kernel) (by decide +kernel))) (fun _ h9 => h9) rfl d3_init_25 ?_
  refine va_alen (v := 8) hx hb hK hP 1 3 rfl rfl rfl d3_init_28 ?_
  refine lv_icmp_ge (tgt := 51) hx hb d3_init_29 (by decide) (fun hc => absurd hc (by decide)) (fun _ => ?_)
  refine lv_aload_n hx hb d3_init_32 rfl (lv_at hl 1 rfl) ?_
  refine va_get (D := w.1) (ci := 3) (v := .ref q1) (C := RX3) (T := TX3) (N := 2) hx hb hts inX3 hown hK hP 0 rfl rfl 0 (by decide) (hts _ (gt_at 267 (by decide +kernel) (by decide +kernel))) (fun _ h9 => h9) rfl d3_init_33 ?_
  refine lv_iload_n hx hb d3_init_36 rfl (lv_at hl 0 rfl) ?_
  refine va_new (D := w.1) (ci := 4) (fs := dfl4) (C := RX4) (T := TX4) (N := 2) hx hb hts inX4 tyX4 tyX4_ok hown (hts _ (gt_at 264 (by decide +kernel) (by decide +kernel))) (hts _ (gt_at 175 (by decide +kernel) (by decide +kernel))) (hts _ (gt_at 79 (by decide +kernel) (by decide +kernel))) hK hP hD hS hA rfl df4 (Nat.le_of_ble_eq_true rfl) (Nat.le_of_ble_eq_true rfl) d3_init_37 (fun q10 H hP hD hS => ?_)
  refine lv_dup hx hb d3_init_40 rfl ?_
  have hPo := hP
  have hDo := hD
  clear hP hD
  refine x_end hPo hDo hS hA (run_IN (n := 0) (As := []) (bl := .inr (4, dfl4)) (host := RX6) S hN (by decide +kernel) (gt_at 177 (by decide +kernel) (by decide +kernel)) (gt_at 79 (by decide +kernel) (by decide +kernel)) (gt_at 178 (by decide +kernel) (by decide +kernel)) (by decide +kernel) rfl rfl (ci4 l w q10 H.size) (x_pre hK hN hPo (fun _ _ _ _ _ => trivial) (fun _ _ _ => trivial)) ⟨rfl, rfl⟩ ⟨Nat.le_of_ble_eq_true rfl, Nat.le_of_ble_eq_true rfl⟩ ⟨Nat.le_of_ble_eq_true rfl, Nat.le_of_ble_eq_true rfl⟩ hl.1 rfl (Nat.le_of_ble_eq_true rfl) d3_init_41) (fun u11 H locs hu hP hD hS => ?_)
  subst hu
  have hP : va_P w.1 vwCl ((a, .inr (3, [.ref q1, .int 0])) :: ([(q1, .inl (w.2.1 3, 8, .inr (.inr (.inr (.inr (va_up (va_up (va_up (va_up (fun _ => none) 0 (some (u3 0))) 1 (some (u5 0))) 2 (some (u7 0))) 3 (some (u9 0))))))))] ++ lst4 w u3 ++ lst4 w u5 ++ lst4 w u7 ++ lst4 w u9 ++ lst4 w u11)) H := hP
  have hD : va_D A ((a, .inr (3, [.ref q1, .int 0])) :: ([(q1, .inl (w.2.1 3, 8, .inr (.inr (.inr (.inr (va_up (va_up (va_up (va_up (fun _ => none) 0 (some (u3 0))) 1 (some (u5 0))) 2 (some (u7 0))) 3 (some (u9 0))))))))] ++ lst4 w u3 ++ lst4 w u5 ++ lst4 w u7 ++ lst4 w u9 ++ lst4 w u11)) := hD
  refine va_astq (D := w.1) (cl := vwCl) hx hb hK hP hD hS 1 3 22 4 rfl rfl rfl rfl (vin (by decide)) d3_init_44 (fun H locs hP hD hS => ?_)
  have hP : va_P w.1 vwCl ((a, .inr (3, [.ref q1, .int 0])) :: ([(q1, .inl (w.2.1 3, 8, .inr (.inr (.inr (.inr (va_up (va_up (va_up (va_up (va_up (fun _ => none) 0 (some (u3 0))) 1 (some (u5 0))) 2 (some (u7 0))) 3 (some (u9 0))) 4 (some (u11 0))))))))] ++ lst4 w u3 ++ lst4 w u5 ++ lst4 w u7 ++ lst4 w u9 ++ lst4 w u11)) H := hP
  have hD : va_D A ((a, .inr (3, [.ref q1, .int 0])) :: ([(q1, .inl (w.2.1 3, 8, .inr (.inr (.inr (.inr (va_up (va_up (va_up (va_up (va_up (fun _ => none) 0 (some (u3 0))) 1 (some (u5 0))) 2 (some (u7 0))) 3 (some (u9 0))) 4 (some (u11 0))))))))] ++ lst4 w u3 ++ lst4 w u5 ++ lst4 w u7 ++ lst4 w u9 ++ lst4 w u11)) := hD
  refine lv_iinc (v := 5) (lv' := [(2, .int 5), (0, .ref a), (1, .int 8)]) hx hb d3_init_45 hl (k := 0) rfl (by decide) (by decide) rfl (fun ls hl => ?_)
  refine lv_goto (tgt := 23) hx hb d3_init_48 (by decide) ?_
  refine lv_iload_n hx hb d3_init_23 rfl (lv_at hl 0 rfl) ?_
  refine lv_aload_n hx hb d3_init_24 rfl (lv_at hl 1 rfl) ?_
  refine va_get (D := w.1) (ci := 3) (v := .ref q1) (C := RX3) (T := TX3) (N := 2) hx hb hts inX3 hown hK hP 0 rfl rfl 0 (by decide) (hts _ (gt_at 267 (by decide +kernel) (by decide +kernel))) (fun _ h9 => h9) rfl d3_init_25 ?_
  refine va_alen (v := 8) hx hb hK hP 1 3 rfl rfl rfl d3_init_28 ?_
  refine lv_icmp_ge (tgt := 51) hx hb d3_init_29 (by decide) (fun hc => absurd hc (by decide)) (fun _ => ?_)
  refine lv_aload_n hx hb d3_init_32 rfl (lv_at hl 1 rfl) ?_
  refine va_get (D := w.1) (ci := 3) (v := .ref q1) (C := RX3) (T := TX3) (N := 2) hx hb hts inX3 hown hK hP 0 rfl rfl 0 (by decide) (hts _ (gt_at 267 (by decide +kernel) (by decide +kernel))) (fun _ h9 => h9) rfl d3_init_33 ?_
  refine lv_iload_n hx hb d3_init_36 rfl (lv_at hl 0 rfl) ?_
  refine va_new (D := w.1) (ci := 4) (fs := dfl4) (C := RX4) (T := TX4) (N := 2) hx hb hts inX4 tyX4 tyX4_ok hown (hts _ (gt_at 264 (by decide +kernel) (by decide +kernel))) (hts _ (gt_at 175 (by decide +kernel) (by decide +kernel))) (hts _ (gt_at 79 (by decide +kernel) (by decide +kernel))) hK hP hD hS hA rfl df4 (Nat.le_of_ble_eq_true rfl) (Nat.le_of_ble_eq_true rfl) d3_init_37 (fun q12 H hP hD hS => ?_)
  refine lv_dup hx hb d3_init_40 rfl ?_
  have hPo := hP
  have hDo := hD
  clear hP hD
  refine x_end hPo hDo hS hA (run_IN (n := 0) (As := []) (bl := .inr (4, dfl4)) (host := RX6) S hN (by decide +kernel) (gt_at 177 (by decide +kernel) (by decide +kernel)) (gt_at 79 (by decide +kernel) (by decide +kernel)) (gt_at 178 (by decide +kernel) (by decide +kernel)) (by decide +kernel) rfl rfl (ci4 l w q12 H.size) (x_pre hK hN hPo (fun _ _ _ _ _ => trivial) (fun _ _ _ => trivial)) ⟨rfl, rfl⟩ ⟨Nat.le_of_ble_eq_true rfl, Nat.le_of_ble_eq_true rfl⟩ ⟨Nat.le_of_ble_eq_true rfl, Nat.le_of_ble_eq_true rfl⟩ hl.1 rfl (Nat.le_of_ble_eq_true rfl) d3_init_41) (fun u13 H locs hu hP hD hS => ?_)
  subst hu
  have hP : va_P w.1 vwCl ((a, .inr (3, [.ref q1, .int 0])) :: ([(q1, .inl (w.2.1 3, 8, .inr (.inr (.inr (.inr (va_up (va_up (va_up (va_up (va_up (fun _ => none) 0 (some (u3 0))) 1 (some (u5 0))) 2 (some (u7 0))) 3 (some (u9 0))) 4 (some (u11 0))))))))] ++ lst4 w u3 ++ lst4 w u5 ++ lst4 w u7 ++ lst4 w u9 ++ lst4 w u11 ++ lst4 w u13)) H := hP
  have hD : va_D A ((a, .inr (3, [.ref q1, .int 0])) :: ([(q1, .inl (w.2.1 3, 8, .inr (.inr (.inr (.inr (va_up (va_up (va_up (va_up (va_up (fun _ => none) 0 (some (u3 0))) 1 (some (u5 0))) 2 (some (u7 0))) 3 (some (u9 0))) 4 (some (u11 0))))))))] ++ lst4 w u3 ++ lst4 w u5 ++ lst4 w u7 ++ lst4 w u9 ++ lst4 w u11 ++ lst4 w u13)) := hD
  refine va_astq (D := w.1) (cl := vwCl) hx hb hK hP hD hS 1 3 27 4 rfl rfl rfl rfl (vin (by decide)) d3_init_44 (fun H locs hP hD hS => ?_)
  have hP : va_P w.1 vwCl ((a, .inr (3, [.ref q1, .int 0])) :: ([(q1, .inl (w.2.1 3, 8, .inr (.inr (.inr (.inr (va_up (va_up (va_up (va_up (va_up (va_up (fun _ => none) 0 (some (u3 0))) 1 (some (u5 0))) 2 (some (u7 0))) 3 (some (u9 0))) 4 (some (u11 0))) 5 (some (u13 0))))))))] ++ lst4 w u3 ++ lst4 w u5 ++ lst4 w u7 ++ lst4 w u9 ++ lst4 w u11 ++ lst4 w u13)) H := hP
  have hD : va_D A ((a, .inr (3, [.ref q1, .int 0])) :: ([(q1, .inl (w.2.1 3, 8, .inr (.inr (.inr (.inr (va_up (va_up (va_up (va_up (va_up (va_up (fun _ => none) 0 (some (u3 0))) 1 (some (u5 0))) 2 (some (u7 0))) 3 (some (u9 0))) 4 (some (u11 0))) 5 (some (u13 0))))))))] ++ lst4 w u3 ++ lst4 w u5 ++ lst4 w u7 ++ lst4 w u9 ++ lst4 w u11 ++ lst4 w u13)) := hD
  refine lv_iinc (v := 6) (lv' := [(2, .int 6), (0, .ref a), (1, .int 8)]) hx hb d3_init_45 hl (k := 0) rfl (by decide) (by decide) rfl (fun ls hl => ?_)
  refine lv_goto (tgt := 23) hx hb d3_init_48 (by decide) ?_
  refine lv_iload_n hx hb d3_init_23 rfl (lv_at hl 0 rfl) ?_
  refine lv_aload_n hx hb d3_init_24 rfl (lv_at hl 1 rfl) ?_
  refine va_get (D := w.1) (ci := 3) (v := .ref q1) (C := RX3) (T := TX3) (N := 2) hx hb hts inX3 hown hK hP 0 rfl rfl 0 (by decide) (hts _ (gt_at 267 (by decide +kernel) (by decide +kernel))) (fun _ h9 => h9) rfl d3_init_25 ?_
  refine va_alen (v := 8) hx hb hK hP 1 3 rfl rfl rfl d3_init_28 ?_
  refine lv_icmp_ge (tgt := 51) hx hb d3_init_29 (by decide) (fun hc => absurd hc (by decide)) (fun _ => ?_)
  refine lv_aload_n hx hb d3_init_32 rfl (lv_at hl 1 rfl) ?_
  refine va_get (D := w.1) (ci := 3) (v := .ref q1) (C := RX3) (T := TX3) (N := 2) hx hb hts inX3 hown hK hP 0 rfl rfl 0 (by decide) (hts _ (gt_at 267 (by decide +kernel) (by decide +kernel))) (fun _ h9 => h9) rfl d3_init_33 ?_
  refine lv_iload_n hx hb d3_init_36 rfl (lv_at hl 0 rfl) ?_
  refine va_new (D := w.1) (ci := 4) (fs := dfl4) (C := RX4) (T := TX4) (N := 2) hx hb hts inX4 tyX4 tyX4_ok hown (hts _ (gt_at 264 (by decide +kernel) (by decide +kernel))) (hts _ (gt_at 175 (by decide +kernel) (by decide +kernel))) (hts _ (gt_at 79 (by decide +kernel) (by decide +kernel))) hK hP hD hS hA rfl df4 (Nat.le_of_ble_eq_true rfl) (Nat.le_of_ble_eq_true rfl) d3_init_37 (fun q14 H hP hD hS => ?_)
  refine lv_dup hx hb d3_init_40 rfl ?_
  have hPo := hP
  have hDo := hD
  clear hP hD
  refine x_end hPo hDo hS hA (run_IN (n := 0) (As := []) (bl := .inr (4, dfl4)) (host := RX6) S hN (by decide +kernel) (gt_at 177 (by decide +kernel) (by decide +kernel)) (gt_at 79 (by decide +kernel) (by decide +kernel)) (gt_at 178 (by decide +kernel) (by decide +kernel)) (by decide +kernel) rfl rfl (ci4 l w q14 H.size) (x_pre hK hN hPo (fun _ _ _ _ _ => trivial) (fun _ _ _ => trivial)) ⟨rfl, rfl⟩ ⟨Nat.le_of_ble_eq_true rfl, Nat.le_of_ble_eq_true rfl⟩ ⟨Nat.le_of_ble_eq_true rfl, Nat.le_of_ble_eq_true rfl⟩ hl.1 rfl (Nat.le_of_ble_eq_true rfl) d3_init_41) (fun u15 H locs hu hP hD hS => ?_)
  subst hu
  have hP : va_P w.1 vwCl ((a, .inr (3, [.ref q1, .int 0])) :: ([(q1, .inl (w.2.1 3, 8, .inr (.inr (.inr (.inr (va_up (va_up (va_up (va_up (va_up (va_up (fun _ => none) 0 (some (u3 0))) 1 (some (u5 0))) 2 (some (u7 0))) 3 (some (u9 0))) 4 (some (u11 0))) 5 (some (u13 0))))))))] ++ lst4 w u3 ++ lst4 w u5 ++ lst4 w u7 ++ lst4 w u9 ++ lst4 w u11 ++ lst4 w u13 ++ lst4 w u15)) H := hP
  have hD : va_D A ((a, .inr (3, [.ref q1, .int 0])) :: ([(q1, .inl (w.2.1 3, 8, .inr (.inr (.inr (.inr (va_up (va_up (va_up (va_up (va_up (va_up (fun _ => none) 0 (some (u3 0))) 1 (some (u5 0))) 2 (some (u7 0))) 3 (some (u9 0))) 4 (some (u11 0))) 5 (some (u13 0))))))))] ++ lst4 w u3 ++ lst4 w u5 ++ lst4 w u7 ++ lst4 w u9 ++ lst4 w u11 ++ lst4 w u13 ++ lst4 w u15)) := hD
  refine va_astq (D := w.1) (cl := vwCl) hx hb hK hP hD hS 1 3 32 4 rfl rfl rfl rfl (vin (by decide)) d3_init_44 (fun H locs hP hD hS => ?_)
  have hP : va_P w.1 vwCl ((a, .inr (3, [.ref q1, .int 0])) :: ([(q1, .inl (w.2.1 3, 8, .inr (.inr (.inr (.inr (va_up (va_up (va_up (va_up (va_up (va_up (va_up (fun _ => none) 0 (some (u3 0))) 1 (some (u5 0))) 2 (some (u7 0))) 3 (some (u9 0))) 4 (some (u11 0))) 5 (some (u13 0))) 6 (some (u15 0))))))))] ++ lst4 w u3 ++ lst4 w u5 ++ lst4 w u7 ++ lst4 w u9 ++ lst4 w u11 ++ lst4 w u13 ++ lst4 w u15)) H := hP
  have hD : va_D A ((a, .inr (3, [.ref q1, .int 0])) :: ([(q1, .inl (w.2.1 3, 8, .inr (.inr (.inr (.inr (va_up (va_up (va_up (va_up (va_up (va_up (va_up (fun _ => none) 0 (some (u3 0))) 1 (some (u5 0))) 2 (some (u7 0))) 3 (some (u9 0))) 4 (some (u11 0))) 5 (some (u13 0))) 6 (some (u15 0))))))))] ++ lst4 w u3 ++ lst4 w u5 ++ lst4 w u7 ++ lst4 w u9 ++ lst4 w u11 ++ lst4 w u13 ++ lst4 w u15)) := hD
  refine lv_iinc (v := 7) (lv' := [(2, .int 7), (0, .ref a), (1, .int 8)]) hx hb d3_init_45 hl (k := 0) rfl (by decide) (by decide) rfl (fun ls hl => ?_)
  refine lv_goto (tgt := 23) hx hb d3_init_48 (by decide) ?_
  refine lv_iload_n hx hb d3_init_23 rfl (lv_at hl 0 rfl) ?_
  refine lv_aload_n hx hb d3_init_24 rfl (lv_at hl 1 rfl) ?_
  refine va_get (D := w.1) (ci := 3) (v := .ref q1) (C := RX3) (T := TX3) (N := 2) hx hb hts inX3 hown hK hP 0 rfl rfl 0 (by decide) (hts _ (gt_at 267 (by decide +kernel) (by decide +kernel))) (fun _ h9 => h9) rfl d3_init_25 ?_
  refine va_alen (v := 8) hx hb hK hP 1 3 rfl rfl rfl d3_init_28 ?_
  refine lv_icmp_ge (tgt := 51) hx hb d3_init_29 (by decide) (fun hc => absurd hc (by decide)) (fun _ => ?_)
  refine lv_aload_n hx hb d3_init_32 rfl (lv_at hl 1 rfl) ?_
  refine va_get (D := w.1) (ci := 3) (v := .ref q1) (C := RX3) (T := TX3) (N := 2) hx hb hts inX3 hown hK hP 0 rfl rfl 0 (by decide) (hts _ (gt_at 267 (by decide +kernel) (by decide +kernel))) (fun _ h9 => h9) rfl d3_init_33 ?_
  refine lv_iload_n hx hb d3_init_36 rfl (lv_at hl 0 rfl) ?_
  refine va_new (D := w.1) (ci := 4) (fs := dfl4) (C := RX4) (T := TX4) (N := 2) hx hb hts inX4 tyX4 tyX4_ok hown (hts _ (gt_at 264 (by decide +kernel) (by decide +kernel))) (hts _ (gt_at 175 (by decide +kernel) (by decide +kernel))) (hts _ (gt_at 79 (by decide +kernel) (by decide +kernel))) hK hP hD hS hA rfl df4 (Nat.le_of_ble_eq_true rfl) (Nat.le_of_ble_eq_true rfl) d3_init_37 (fun q16 H hP hD hS => ?_)
  refine lv_dup hx hb d3_init_40 rfl ?_
  have hPo := hP
  have hDo := hD
  clear hP hD
  refine x_end hPo hDo hS hA (run_IN (n := 0) (As := []) (bl := .inr (4, dfl4)) (host := RX6) S hN (by decide +kernel) (gt_at 177 (by decide +kernel) (by decide +kernel)) (gt_at 79 (by decide +kernel) (by decide +kernel)) (gt_at 178 (by decide +kernel) (by decide +kernel)) (by decide +kernel) rfl rfl (ci4 l w q16 H.size) (x_pre hK hN hPo (fun _ _ _ _ _ => trivial) (fun _ _ _ => trivial)) ⟨rfl, rfl⟩ ⟨Nat.le_of_ble_eq_true rfl, Nat.le_of_ble_eq_true rfl⟩ ⟨Nat.le_of_ble_eq_true rfl, Nat.le_of_ble_eq_true rfl⟩ hl.1 rfl (Nat.le_of_ble_eq_true rfl) d3_init_41) (fun u17 H locs hu hP hD hS => ?_)
  subst hu
  have hP : va_P w.1 vwCl ((a, .inr (3, [.ref q1, .int 0])) :: ([(q1, .inl (w.2.1 3, 8, .inr (.inr (.inr (.inr (va_up (va_up (va_up (va_up (va_up (va_up (va_up (fun _ => none) 0 (some (u3 0))) 1 (some (u5 0))) 2 (some (u7 0))) 3 (some (u9 0))) 4 (some (u11 0))) 5 (some (u13 0))) 6 (some (u15 0))))))))] ++ lst4 w u3 ++ lst4 w u5 ++ lst4 w u7 ++ lst4 w u9 ++ lst4 w u11 ++ lst4 w u13 ++ lst4 w u15 ++ lst4 w u17)) H := hP
  have hD : va_D A ((a, .inr (3, [.ref q1, .int 0])) :: ([(q1, .inl (w.2.1 3, 8, .inr (.inr (.inr (.inr (va_up (va_up (va_up (va_up (va_up (va_up (va_up (fun _ => none) 0 (some (u3 0))) 1 (some (u5 0))) 2 (some (u7 0))) 3 (some (u9 0))) 4 (some (u11 0))) 5 (some (u13 0))) 6 (some (u15 0))))))))] ++ lst4 w u3 ++ lst4 w u5 ++ lst4 w u7 ++ lst4 w u9 ++ lst4 w u11 ++ lst4 w u13 ++ lst4 w u15 ++ lst4 w u17)) := hD
  refine va_astq (D := w.1) (cl := vwCl) hx hb hK hP hD hS 1 3 37 4 rfl rfl rfl rfl (vin (by decide)) d3_init_44 (fun H locs hP hD hS => ?_)
  have hP : va_P w.1 vwCl ((a, .inr (3, [.ref q1, .int 0])) :: ([(q1, .inl (w.2.1 3, 8, .inr (.inr (.inr (.inr (va_up (va_up (va_up (va_up (va_up (va_up (va_up (va_up (fun _ => none) 0 (some (u3 0))) 1 (some (u5 0))) 2 (some (u7 0))) 3 (some (u9 0))) 4 (some (u11 0))) 5 (some (u13 0))) 6 (some (u15 0))) 7 (some (u17 0))))))))] ++ lst4 w u3 ++ lst4 w u5 ++ lst4 w u7 ++ lst4 w u9 ++ lst4 w u11 ++ lst4 w u13 ++ lst4 w u15 ++ lst4 w u17)) H := hP
  have hD : va_D A ((a, .inr (3, [.ref q1, .int 0])) :: ([(q1, .inl (w.2.1 3, 8, .inr (.inr (.inr (.inr (va_up (va_up (va_up (va_up (va_up (va_up (va_up (va_up (fun _ => none) 0 (some (u3 0))) 1 (some (u5 0))) 2 (some (u7 0))) 3 (some (u9 0))) 4 (some (u11 0))) 5 (some (u13 0))) 6 (some (u15 0))) 7 (some (u17 0))))))))] ++ lst4 w u3 ++ lst4 w u5 ++ lst4 w u7 ++ lst4 w u9 ++ lst4 w u11 ++ lst4 w u13 ++ lst4 w u15 ++ lst4 w u17)) := hD
  refine lv_iinc (v := 8) (lv' := [(2, .int 8), (0, .ref a), (1, .int 8)]) hx hb d3_init_45 hl (k := 0) rfl (by decide) (by decide) rfl (fun ls hl => ?_)
  refine lv_goto (tgt := 23) hx hb d3_init_48 (by decide) ?_
  refine lv_iload_n hx hb d3_init_23 rfl (lv_at hl 0 rfl) ?_
  refine lv_aload_n hx hb d3_init_24 rfl (lv_at hl 1 rfl) ?_
  refine va_get (D := w.1) (ci := 3) (v := .ref q1) (C := RX3) (T := TX3) (N := 2) hx hb hts inX3 hown hK hP 0 rfl rfl 0 (by decide) (hts _ (gt_at 267 (by decide +kernel) (by decide +kernel))) (fun _ h9 => h9) rfl d3_init_25 ?_
  refine va_alen (v := 8) hx hb hK hP 1 3 rfl rfl rfl d3_init_28 ?_
  refine lv_icmp_ge (tgt := 51) hx hb d3_init_29 (by decide) (fun _ => ?_) (fun hc => absurd (by decide) hc)
  obtain ⟨uu, huu⟩ : ∃ uu : Nat → Nat, uu = (fun j => if j = 0 then a else if j = 1 then q1 else if j < 7 then u3 (j - 2) else if j < 12 then u5 (j - 7) else if j < 17 then u7 (j - 12) else if j < 22 then u9 (j - 17) else if j < 27 then u11 (j - 22) else if j < 32 then u13 (j - 27) else if j < 37 then u15 (j - 32) else if j < 42 then u17 (j - 37) else 0) := ⟨_, rfl⟩
  have hP := hP.refs (k := 1) (g := fun i => some (uu (2 + 5 * i))) rfl (fun j hj => by subst huu; match j, hj with | 0, _ => rfl | 1, _ => rfl | 2, _ => rfl | 3, _ => rfl | 4, _ => rfl | 5, _ => rfl | 6, _ => rfl | 7, _ => rfl)
  have hD := hD.set (p := 1) (e := .inl (w.2.1 3, 8, .inr (.inr (.inr (.inr (fun i => some (uu (2 + 5 * i)))))))) rfl
  have hP9 : va_P w.1 vwCl (lst3_8 w uu) H := by subst huu; exact hP
  have hD9 : va_D A (lst3_8 w uu) := by subst huu; exact hD
  have hu0 : uu 0 = a := by subst huu; rfl
  exact W.vret hx hb hr (fun t ht hW => ⟨⟨uu, rfl, hu0, by rw [ht]; exact hP9, hD9⟩, hS.F ht⟩) hS.2.2 d3_init_51 hlk
abbrev rmi_3_2 : Room := { frames := 3, cells := 11, slots := 58, locals := 62 }
set_option maxHeartbeats 4000000 in
set_option maxRecDepth 100000 in
theorem ci3_2 (l : Launch) (w : WV) (a sz : Nat) : Met l yX3_init (wy yX3_init cX3_init 3 none) rmi_3_2 (PcI w [.ref a, .int 2] sz [(a, .inr (3, dfl3))] (va_AO RX4)) (QvI w (lst3_2 w) a (va_A [(a, .inr (3, dfl3))] sz)) 11 58 (va_A [(a, .inr (3, dfl3))] sz) := by
  refine mk_meti (by decide) (Nat.le_of_ble_eq_true rfl) ?_
  intro p e s m below meth c S hr hlk hin hsz hK hN hP hD0 hX ls hl
  obtain ⟨hx, hb, hml, hown, hts⟩ := id S
  subst hsz
  have hD := hD0.self (sz := s.heap.size)
  generalize hAe : va_A [(a, .inr (3, dfl3))] s.heap.size = A at hD ⊢
  have hXA := hX
  have hA : ∀ q : Nat, s.heap.size ≤ q → A q := fun q h => by rw [← hAe]; exact Or.inr h
  have hS : va_S A s.heap s.heap [] := va_S.rf
  have hl : lv_has ls 3 [(0, .ref a), (1, .int 2)] := hl
  refine lv_aload_n hx hb d3_init_0 rfl (lv_at hl 0 rfl) ?_
  refine x_obj S (gt_at 260 (by decide +kernel) (by decide +kernel)) (gt_at 93 (by decide +kernel) (by decide +kernel)) (gt_at 94 (by decide +kernel) (by decide +kernel)) hl.1 d3_init_1 (Nat.le_of_ble_eq_true rfl) (Nat.le_of_ble_eq_true rfl) ?_
  refine lv_aload_n hx hb d3_init_4 rfl (lv_at hl 0 rfl) ?_
  refine lv_iconst (v := 0) hx hb d3_init_5 (by decide) ?_
  refine va_put (D := w.1) (ci := 3) (v := .int 0) (ty := .int) (C := RX3) (T := TX3) (N := 2) hx hb hts inX3 tyX3 tyX3_ok nmX3 hown hK hP hD hS 0 rfl rfl 1 (by decide) (hts _ (gt_at 268 (by decide +kernel) (by decide +kernel))) (fun _ h9 => h9) rfl (by decide +kernel) rfl rfl (Nat.le_of_ble_eq_true rfl) d3_init_6 (fun H locs hP hD hS => ?_)
  have hP : va_P w.1 vwCl ((a, .inr (3, [.null, .int 0])) :: ([])) H := hP
  have hD : va_D A ((a, .inr (3, [.null, .int 0])) :: ([])) := hD
  refine lv_aload_n hx hb d3_init_9 rfl (lv_at hl 0 rfl) ?_
  refine lv_iconst (v := 1) hx hb d3_init_10 (by decide) ?_
  refine lv_iload_n hx hb d3_init_11 rfl (lv_at hl 1 rfl) ?_
  refine va_mmax hx hb (S.2.2.1.trans hl.1.symm) hown (hts _ (gt_at 261 (by decide +kernel) (by decide +kernel))) (hts _ (gt_at 262 (by decide +kernel) (by decide +kernel))) (hts _ (gt_at 78 (by decide +kernel) (by decide +kernel))) (hts _ (gt_at 263 (by decide +kernel) (by decide +kernel))) (Nat.le_of_ble_eq_true rfl) (Nat.le_of_ble_eq_true rfl) (Nat.le_of_ble_eq_true rfl) (Nat.le_of_ble_eq_true rfl) d3_init_12 ?_
  refine x_newq (C := RX4) (t0 := 3) (N := 2) S hK (gt_at 264 (by decide +kernel) (by decide +kernel)) hXA rfl hP hD hS hA (by decide) (by decide) (by decide) (Nat.le_of_ble_eq_true rfl) (Nat.le_of_ble_eq_true rfl) d3_init_15 (fun q1 H hP hD hS => ?_)
  have hP : va_P w.1 vwCl ((a, .inr (3, [.null, .int 0])) :: ([(q1, .inl (w.2.1 3, 2, .inr (.inr (.inr (.inr (fun _ => none))))))])) H := hP
  have hD : va_D A ((a, .inr (3, [.null, .int 0])) :: ([(q1, .inl (w.2.1 3, 2, .inr (.inr (.inr (.inr (fun _ => none))))))])) := hD
  refine va_putF (D := w.1) (ci := 3) (v := .ref q1) (ty := (.array (.object "FourTenGates$Stand"))) (C := RX3) (T := TX3) (N := 2) hx hb hts inX3 tyX3 tyX3_ok nmX3 hown hK hP hD hS 0 rfl rfl 0 (by decide) (hts _ (gt_at 267 (by decide +kernel) (by decide +kernel))) (fun _ h9 => h9) rfl hin rfl (by decide +kernel) rfl rfl (Nat.le_of_ble_eq_true rfl) d3_init_18 (fun H locs hP hD hS => ?_)
  have hP : va_P w.1 vwCl ((a, .inr (3, [.ref q1, .int 0])) :: ([(q1, .inl (w.2.1 3, 2, .inr (.inr (.inr (.inr (fun _ => none))))))])) H := hP
  have hD : va_D A ((a, .inr (3, [.ref q1, .int 0])) :: ([(q1, .inl (w.2.1 3, 2, .inr (.inr (.inr (.inr (fun _ => none))))))])) := hD
  refine lv_iconst (v := 0) hx hb d3_init_21 (by decide) ?_
  refine lv_istore_n (lv' := [(2, .int 0), (0, .ref a), (1, .int 2)]) hx hb d3_init_22 rfl hl (by decide) rfl (fun ls hl => ?_)
  refine lv_iload_n hx hb d3_init_23 rfl (lv_at hl 0 rfl) ?_
  refine lv_aload_n hx hb d3_init_24 rfl (lv_at hl 1 rfl) ?_
  refine va_get (D := w.1) (ci := 3) (v := .ref q1) (C := RX3) (T := TX3) (N := 2) hx hb hts inX3 hown hK hP 0 rfl rfl 0 (by decide) (hts _ (gt_at 267 (by decide +kernel) (by decide +kernel))) (fun _ h9 => h9) rfl d3_init_25 ?_
  refine va_alen (v := 2) hx hb hK hP 1 3 rfl rfl rfl d3_init_28 ?_
  refine lv_icmp_ge (tgt := 51) hx hb d3_init_29 (by decide) (fun hc => absurd hc (by decide)) (fun _ => ?_)
  refine lv_aload_n hx hb d3_init_32 rfl (lv_at hl 1 rfl) ?_
  refine va_get (D := w.1) (ci := 3) (v := .ref q1) (C := RX3) (T := TX3) (N := 2) hx hb hts inX3 hown hK hP 0 rfl rfl 0 (by decide) (hts _ (gt_at 267 (by decide +kernel) (by decide +kernel))) (fun _ h9 => h9) rfl d3_init_33 ?_
  refine lv_iload_n hx hb d3_init_36 rfl (lv_at hl 0 rfl) ?_
  refine va_new (D := w.1) (ci := 4) (fs := dfl4) (C := RX4) (T := TX4) (N := 2) hx hb hts inX4 tyX4 tyX4_ok hown (hts _ (gt_at 264 (by decide +kernel) (by decide +kernel))) (hts _ (gt_at 175 (by decide +kernel) (by decide +kernel))) (hts _ (gt_at 79 (by decide +kernel) (by decide +kernel))) hK hP hD hS hA rfl df4 (Nat.le_of_ble_eq_true rfl) (Nat.le_of_ble_eq_true rfl) d3_init_37 (fun q2 H hP hD hS => ?_)
  refine lv_dup hx hb d3_init_40 rfl ?_
  have hPo := hP
  have hDo := hD
  clear hP hD
  refine x_end hPo hDo hS hA (run_IN (n := 0) (As := []) (bl := .inr (4, dfl4)) (host := RX6) S hN (by decide +kernel) (gt_at 177 (by decide +kernel) (by decide +kernel)) (gt_at 79 (by decide +kernel) (by decide +kernel)) (gt_at 178 (by decide +kernel) (by decide +kernel)) (by decide +kernel) rfl rfl (ci4 l w q2 H.size) (x_pre hK hN hPo (fun _ _ _ _ _ => trivial) (fun _ _ _ => trivial)) ⟨rfl, rfl⟩ ⟨Nat.le_of_ble_eq_true rfl, Nat.le_of_ble_eq_true rfl⟩ ⟨Nat.le_of_ble_eq_true rfl, Nat.le_of_ble_eq_true rfl⟩ hl.1 rfl (Nat.le_of_ble_eq_true rfl) d3_init_41) (fun u3 H locs hu hP hD hS => ?_)
  subst hu
  have hP : va_P w.1 vwCl ((a, .inr (3, [.ref q1, .int 0])) :: ([(q1, .inl (w.2.1 3, 2, .inr (.inr (.inr (.inr (fun _ => none))))))] ++ lst4 w u3)) H := hP
  have hD : va_D A ((a, .inr (3, [.ref q1, .int 0])) :: ([(q1, .inl (w.2.1 3, 2, .inr (.inr (.inr (.inr (fun _ => none))))))] ++ lst4 w u3)) := hD
  refine va_astq (D := w.1) (cl := vwCl) hx hb hK hP hD hS 1 3 2 4 rfl rfl rfl rfl (vin (by decide)) d3_init_44 (fun H locs hP hD hS => ?_)
  have hP : va_P w.1 vwCl ((a, .inr (3, [.ref q1, .int 0])) :: ([(q1, .inl (w.2.1 3, 2, .inr (.inr (.inr (.inr (va_up (fun _ => none) 0 (some (u3 0))))))))] ++ lst4 w u3)) H := hP
  have hD : va_D A ((a, .inr (3, [.ref q1, .int 0])) :: ([(q1, .inl (w.2.1 3, 2, .inr (.inr (.inr (.inr (va_up (fun _ => none) 0 (some (u3 0))))))))] ++ lst4 w u3)) := hD
  refine lv_iinc (v := 1) (lv' := [(2, .int 1), (0, .ref a), (1, .int 2)]) hx hb d3_init_45 hl (k := 0) rfl (by decide) (by decide) rfl (fun ls hl => ?_)
  refine lv_goto (tgt := 23) hx hb d3_init_48 (by decide) ?_
  refine lv_iload_n hx hb d3_init_23 rfl (lv_at hl 0 rfl) ?_
  refine lv_aload_n hx hb d3_init_24 rfl (lv_at hl 1 rfl) ?_
  refine va_get (D := w.1) (ci := 3) (v := .ref q1) (C := RX3) (T := TX3) (N := 2) hx hb hts inX3 hown hK hP 0 rfl rfl 0 (by decide) (hts _ (gt_at 267 (by decide +kernel) (by decide +kernel))) (fun _ h9 => h9) rfl d3_init_25 ?_
  refine va_alen (v := 2) hx hb hK hP 1 3 rfl rfl rfl d3_init_28 ?_
  refine lv_icmp_ge (tgt := 51) hx hb d3_init_29 (by decide) (fun hc => absurd hc (by decide)) (fun _ => ?_)
  refine lv_aload_n hx hb d3_init_32 rfl (lv_at hl 1 rfl) ?_
  refine va_get (D := w.1) (ci := 3) (v := .ref q1) (C := RX3) (T := TX3) (N := 2) hx hb hts inX3 hown hK hP 0 rfl rfl 0 (by decide) (hts _ (gt_at 267 (by decide +kernel) (by decide +kernel))) (fun _ h9 => h9) rfl d3_init_33 ?_
  refine lv_iload_n hx hb d3_init_36 rfl (lv_at hl 0 rfl) ?_
  refine va_new (D := w.1) (ci := 4) (fs := dfl4) (C := RX4) (T := TX4) (N := 2) hx hb hts inX4 tyX4 tyX4_ok hown (hts _ (gt_at 264 (by decide +kernel) (by decide +kernel))) (hts _ (gt_at 175 (by decide +kernel) (by decide +kernel))) (hts _ (gt_at 79 (by decide +kernel) (by decide +kernel))) hK hP hD hS hA rfl df4 (Nat.le_of_ble_eq_true rfl) (Nat.le_of_ble_eq_true rfl) d3_init_37 (fun q4 H hP hD hS => ?_)
  refine lv_dup hx hb d3_init_40 rfl ?_
  have hPo := hP
  have hDo := hD
  clear hP hD
  refine x_end hPo hDo hS hA (run_IN (n := 0) (As := []) (bl := .inr (4, dfl4)) (host := RX6) S hN (by decide +kernel) (gt_at 177 (by decide +kernel) (by decide +kernel)) (gt_at 79 (by decide +kernel) (by decide +kernel)) (gt_at 178 (by decide +kernel) (by decide +kernel)) (by decide +kernel) rfl rfl (ci4 l w q4 H.size) (x_pre hK hN hPo (fun _ _ _ _ _ => trivial) (fun _ _ _ => trivial)) ⟨rfl, rfl⟩ ⟨Nat.le_of_ble_eq_true rfl, Nat.le_of_ble_eq_true rfl⟩ ⟨Nat.le_of_ble_eq_true rfl, Nat.le_of_ble_eq_true rfl⟩ hl.1 rfl (Nat.le_of_ble_eq_true rfl) d3_init_41) (fun u5 H locs hu hP hD hS => ?_)
  subst hu
  have hP : va_P w.1 vwCl ((a, .inr (3, [.ref q1, .int 0])) :: ([(q1, .inl (w.2.1 3, 2, .inr (.inr (.inr (.inr (va_up (fun _ => none) 0 (some (u3 0))))))))] ++ lst4 w u3 ++ lst4 w u5)) H := hP
  have hD : va_D A ((a, .inr (3, [.ref q1, .int 0])) :: ([(q1, .inl (w.2.1 3, 2, .inr (.inr (.inr (.inr (va_up (fun _ => none) 0 (some (u3 0))))))))] ++ lst4 w u3 ++ lst4 w u5)) := hD
  refine va_astq (D := w.1) (cl := vwCl) hx hb hK hP hD hS 1 3 7 4 rfl rfl rfl rfl (vin (by decide)) d3_init_44 (fun H locs hP hD hS => ?_)
  have hP : va_P w.1 vwCl ((a, .inr (3, [.ref q1, .int 0])) :: ([(q1, .inl (w.2.1 3, 2, .inr (.inr (.inr (.inr (va_up (va_up (fun _ => none) 0 (some (u3 0))) 1 (some (u5 0))))))))] ++ lst4 w u3 ++ lst4 w u5)) H := hP
  have hD : va_D A ((a, .inr (3, [.ref q1, .int 0])) :: ([(q1, .inl (w.2.1 3, 2, .inr (.inr (.inr (.inr (va_up (va_up (fun _ => none) 0 (some (u3 0))) 1 (some (u5 0))))))))] ++ lst4 w u3 ++ lst4 w u5)) := hD
  refine lv_iinc (v := 2) (lv' := [(2, .int 2), (0, .ref a), (1, .int 2)]) hx hb d3_init_45 hl (k := 0) rfl (by decide) (by decide) rfl (fun ls hl => ?_)
  refine lv_goto (tgt := 23) hx hb d3_init_48 (by decide) ?_
  refine lv_iload_n hx hb d3_init_23 rfl (lv_at hl 0 rfl) ?_
  refine lv_aload_n hx hb d3_init_24 rfl (lv_at hl 1 rfl) ?_
  refine va_get (D := w.1) (ci := 3) (v := .ref q1) (C := RX3) (T := TX3) (N := 2) hx hb hts inX3 hown hK hP 0 rfl rfl 0 (by decide) (hts _ (gt_at 267 (by decide +kernel) (by decide +kernel))) (fun _ h9 => h9) rfl d3_init_25 ?_
  refine va_alen (v := 2) hx hb hK hP 1 3 rfl rfl rfl d3_init_28 ?_
  refine lv_icmp_ge (tgt := 51) hx hb d3_init_29 (by decide) (fun _ => ?_) (fun hc => absurd (by decide) hc)
  obtain ⟨uu, huu⟩ : ∃ uu : Nat → Nat, uu = (fun j => if j = 0 then a else if j = 1 then q1 else if j < 7 then u3 (j - 2) else if j < 12 then u5 (j - 7) else 0) := ⟨_, rfl⟩
  have hP := hP.refs (k := 1) (g := fun i => some (uu (2 + 5 * i))) rfl (fun j hj => by subst huu; match j, hj with | 0, _ => rfl | 1, _ => rfl)
  have hD := hD.set (p := 1) (e := .inl (w.2.1 3, 2, .inr (.inr (.inr (.inr (fun i => some (uu (2 + 5 * i)))))))) rfl
  have hP9 : va_P w.1 vwCl (lst3_2 w uu) H := by subst huu; exact hP
  have hD9 : va_D A (lst3_2 w uu) := by subst huu; exact hD
  have hu0 : uu 0 = a := by subst huu; rfl
  exact W.vret hx hb hr (fun t ht hW => ⟨⟨uu, rfl, hu0, by rw [ht]; exact hP9, hD9⟩, hS.F ht⟩) hS.2.2 d3_init_51 hlk
