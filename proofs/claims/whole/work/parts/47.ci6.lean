def XC (kq vq : Nat) (A0 : Nat → Prop) (U : State) : Prop := va_AO RX1 U ∧ va_AO RX4 U ∧ SX kq vq A0 U ∧ vk_R RX6 79 "t10,0;t13,1;t30,2;t41,0;u8,0;u9,1;u12,2;u29,3;u31,0;u40,0;g4;c20;a60,30;k6,14;k29,32;k38,43;o0,5;o2,3;o5,2;" kq U
set_option maxHeartbeats 4000000 in
set_option maxRecDepth 100000 in
theorem ci6 (l : Launch) (w : WV) (a sz : Nat) (kq vq : Nat) (A0 : Nat → Prop) (hA0 : ∀ q, va_A [(a, .inr (6, dfl6))] sz q → A0 q) {σz : Mem} (h0 : f6_init 1000 s0C 0 = some σz) : Met l yX6_init (wy yX6_init cX6_init 2 none) rmi_6 (PcI w [.ref a] sz [(a, .inr (6, dfl6))] (XC kq vq A0)) (QI EC LC w a σz (va_A [(a, .inr (6, dfl6))] sz)) 138 2858 (va_A [(a, .inr (6, dfl6))] sz) := by
  refine mk_meti (by decide) (Nat.le_of_ble_eq_true rfl) ?_
  intro p e s m below meth c S hr hlk hin hsz hK hN hP hD0 hX ls hl
  obtain ⟨hx, hb, hml, hown, hts⟩ := id S
  subst hsz
  have hD := hD0.self (sz := s.heap.size)
  have hXS0 := hX.2.2.1.narrow hA0
  generalize hAe : va_A [(a, .inr (6, dfl6))] s.heap.size = A at hD hXS0 ⊢
  have hA : ∀ q : Nat, s.heap.size ≤ q → A q := fun q h => by rw [← hAe]; exact Or.inr h
  have hS : va_S A s.heap s.heap [] := va_S.rf
  have hXA := hX.1
  have hXS := hX.2.1
  have hl : lv_has ls 2 [(0, .ref a)] := hl
  refine lv_aload_n hx hb d6_init_0 rfl (lv_at hl 0 rfl) ?_
  refine x_obj S (gt_at 92 (by decide +kernel) (by decide +kernel)) (gt_at 93 (by decide +kernel) (by decide +kernel)) (gt_at 94 (by decide +kernel) (by decide +kernel)) hl.1 d6_init_1 (Nat.le_of_ble_eq_true rfl) (Nat.le_of_ble_eq_true rfl) ?_
  refine lv_aload_n hx hb d6_init_4 rfl (lv_at hl 0 rfl) ?_
  refine va_new (D := w.1) (ci := 5) (fs := dfl5) (C := RX5) (T := TX5) (N := 3) hx hb hts inX5 tyX5 tyX5_ok hown (hts _ (gt_at 95 (by decide +kernel) (by decide +kernel))) (hts _ (gt_at 96 (by decide +kernel) (by decide +kernel))) (hts _ (gt_at 75 (by decide +kernel) (by decide +kernel))) hK hP hD hS hA rfl df5 (Nat.le_of_ble_eq_true rfl) (Nat.le_of_ble_eq_true rfl) d6_init_5 (fun q1 H hP hD hS => ?_)
  refine lv_dup hx hb d6_init_8 rfl ?_
  have hPo := hP
  have hDo := hD
  clear hP hD
  refine x_end hPo hDo hS hA (run_IN (n := 0) (As := []) (bl := .inr (5, dfl5)) (host := RX6) S hN (by decide +kernel) (gt_at 98 (by decide +kernel) (by decide +kernel)) (gt_at 75 (by decide +kernel) (by decide +kernel)) (gt_at 99 (by decide +kernel) (by decide +kernel)) (by decide +kernel) rfl rfl (ci5 l w q1 H.size) (x_pre hK hN hPo (fun _ _ _ _ _ => trivial) (fun _ _ _ => trivial)) ⟨rfl, rfl⟩ ⟨Nat.le_of_ble_eq_true rfl, Nat.le_of_ble_eq_true rfl⟩ ⟨Nat.le_of_ble_eq_true rfl, Nat.le_of_ble_eq_true rfl⟩ hl.1 rfl (Nat.le_of_ble_eq_true rfl) d6_init_9) (fun u2 H locs hu hP hD hS => ?_)
  subst hu
  have hP : va_P w.1 vwCl ((a, .inr (6, [.null, .null, .null, .null, .null, .null, .null, .null, .null, .null, .int 0, .int 0, .int 0])) :: (lst5 w u2)) H := hP
  have hD : va_D A ((a, .inr (6, [.null, .null, .null, .null, .null, .null, .null, .null, .null, .null, .int 0, .int 0, .int 0])) :: (lst5 w u2)) := hD
  refine va_putF (D := w.1) (ci := 6) (v := .ref (u2 0)) (ty := (.object "FourTenGates$Text")) (C := RX6) (T := TX6) (N := 13) hx hb hts inX6 tyX6 tyX6_ok nmX6 hown hK hP hD hS 0 rfl rfl 0 (by decide) (hts _ (gt_at 473 (by decide +kernel) (by decide +kernel))) (fun _ h9 => h9) rfl hin rfl (by decide +kernel) rfl rfl (Nat.le_of_ble_eq_true rfl) d6_init_12 (fun H locs hP hD hS => ?_)
  have hP : va_P w.1 vwCl ((a, .inr (6, [.ref (u2 0), .null, .null, .null, .null, .null, .null, .null, .null, .null, .int 0, .int 0, .int 0])) :: (lst5 w u2)) H := hP
  have hD : va_D A ((a, .inr (6, [.ref (u2 0), .null, .null, .null, .null, .null, .null, .null, .null, .null, .int 0, .int 0, .int 0])) :: (lst5 w u2)) := hD
  refine lv_aload_n hx hb d6_init_15 rfl (lv_at hl 0 rfl) ?_
  refine va_new (D := w.1) (ci := 0) (fs := dfl0) (C := RX0) (T := TX0) (N := 9) hx hb hts inX0 tyX0 tyX0_ok hown (hts _ (gt_at 112 (by decide +kernel) (by decide +kernel))) (hts _ (gt_at 113 (by decide +kernel) (by decide +kernel))) (hts _ (gt_at 76 (by decide +kernel) (by decide +kernel))) hK hP hD hS hA rfl df0 (Nat.le_of_ble_eq_true rfl) (Nat.le_of_ble_eq_true rfl) d6_init_16 (fun q3 H hP hD hS => ?_)
  refine lv_dup hx hb d6_init_19 rfl ?_
  have hPo := hP
  have hDo := hD
  clear hP hD
  refine x_end hPo hDo hS hA (run_IN (n := 0) (As := []) (bl := .inr (0, dfl0)) (host := RX6) S hN (by decide +kernel) (gt_at 115 (by decide +kernel) (by decide +kernel)) (gt_at 76 (by decide +kernel) (by decide +kernel)) (gt_at 116 (by decide +kernel) (by decide +kernel)) (by decide +kernel) rfl rfl (ci0 l w q3 H.size) (x_pre hK hN hPo (fun _ _ _ _ _ => trivial) (fun _ _ _ => trivial)) ⟨rfl, rfl⟩ ⟨Nat.le_of_ble_eq_true rfl, Nat.le_of_ble_eq_true rfl⟩ ⟨Nat.le_of_ble_eq_true rfl, Nat.le_of_ble_eq_true rfl⟩ hl.1 rfl (Nat.le_of_ble_eq_true rfl) d6_init_20) (fun u4 H locs hu hP hD hS => ?_)
  subst hu
  have hP : va_P w.1 vwCl ((a, .inr (6, [.ref (u2 0), .null, .null, .null, .null, .null, .null, .null, .null, .null, .int 0, .int 0, .int 0])) :: (lst5 w u2 ++ lst0 w u4)) H := hP
  have hD : va_D A ((a, .inr (6, [.ref (u2 0), .null, .null, .null, .null, .null, .null, .null, .null, .null, .int 0, .int 0, .int 0])) :: (lst5 w u2 ++ lst0 w u4)) := hD
  refine va_putF (D := w.1) (ci := 6) (v := .ref (u4 0)) (ty := (.object "FourTenGates$Book")) (C := RX6) (T := TX6) (N := 13) hx hb hts inX6 tyX6 tyX6_ok nmX6 hown hK hP hD hS 0 rfl rfl 1 (by decide) (hts _ (gt_at 474 (by decide +kernel) (by decide +kernel))) (fun _ h9 => h9) rfl hin rfl (by decide +kernel) rfl rfl (Nat.le_of_ble_eq_true rfl) d6_init_23 (fun H locs hP hD hS => ?_)
  have hP : va_P w.1 vwCl ((a, .inr (6, [.ref (u2 0), .ref (u4 0), .null, .null, .null, .null, .null, .null, .null, .null, .int 0, .int 0, .int 0])) :: (lst5 w u2 ++ lst0 w u4)) H := hP
  have hD : va_D A ((a, .inr (6, [.ref (u2 0), .ref (u4 0), .null, .null, .null, .null, .null, .null, .null, .null, .int 0, .int 0, .int 0])) :: (lst5 w u2 ++ lst0 w u4)) := hD
  refine lv_aload_n hx hb d6_init_26 rfl (lv_at hl 0 rfl) ?_
  refine va_new (D := w.1) (ci := 0) (fs := dfl0) (C := RX0) (T := TX0) (N := 9) hx hb hts inX0 tyX0 tyX0_ok hown (hts _ (gt_at 112 (by decide +kernel) (by decide +kernel))) (hts _ (gt_at 113 (by decide +kernel) (by decide +kernel))) (hts _ (gt_at 76 (by decide +kernel) (by decide +kernel))) hK hP hD hS hA rfl df0 (Nat.le_of_ble_eq_true rfl) (Nat.le_of_ble_eq_true rfl) d6_init_27 (fun q5 H hP hD hS => ?_)
  refine lv_dup hx hb d6_init_30 rfl ?_
  have hPo := hP
  have hDo := hD
  clear hP hD
  refine x_end hPo hDo hS hA (run_IN (n := 0) (As := []) (bl := .inr (0, dfl0)) (host := RX6) S hN (by decide +kernel) (gt_at 115 (by decide +kernel) (by decide +kernel)) (gt_at 76 (by decide +kernel) (by decide +kernel)) (gt_at 116 (by decide +kernel) (by decide +kernel)) (by decide +kernel) rfl rfl (ci0 l w q5 H.size) (x_pre hK hN hPo (fun _ _ _ _ _ => trivial) (fun _ _ _ => trivial)) ⟨rfl, rfl⟩ ⟨Nat.le_of_ble_eq_true rfl, Nat.le_of_ble_eq_true rfl⟩ ⟨Nat.le_of_ble_eq_true rfl, Nat.le_of_ble_eq_true rfl⟩ hl.1 rfl (Nat.le_of_ble_eq_true rfl) d6_init_31) (fun u6 H locs hu hP hD hS => ?_)
  subst hu
  have hP : va_P w.1 vwCl ((a, .inr (6, [.ref (u2 0), .ref (u4 0), .null, .null, .null, .null, .null, .null, .null, .null, .int 0, .int 0, .int 0])) :: (lst5 w u2 ++ lst0 w u4 ++ lst0 w u6)) H := hP
  have hD : va_D A ((a, .inr (6, [.ref (u2 0), .ref (u4 0), .null, .null, .null, .null, .null, .null, .null, .null, .int 0, .int 0, .int 0])) :: (lst5 w u2 ++ lst0 w u4 ++ lst0 w u6)) := hD
  refine va_putF (D := w.1) (ci := 6) (v := .ref (u6 0)) (ty := (.object "FourTenGates$Book")) (C := RX6) (T := TX6) (N := 13) hx hb hts inX6 tyX6 tyX6_ok nmX6 hown hK hP hD hS 0 rfl rfl 2 (by decide) (hts _ (gt_at 475 (by decide +kernel) (by decide +kernel))) (fun _ h9 => h9) rfl hin rfl (by decide +kernel) rfl rfl (Nat.le_of_ble_eq_true rfl) d6_init_34 (fun H locs hP hD hS => ?_)
  have hP : va_P w.1 vwCl ((a, .inr (6, [.ref (u2 0), .ref (u4 0), .ref (u6 0), .null, .null, .null, .null, .null, .null, .null, .int 0, .int 0, .int 0])) :: (lst5 w u2 ++ lst0 w u4 ++ lst0 w u6)) H := hP
  have hD : va_D A ((a, .inr (6, [.ref (u2 0), .ref (u4 0), .ref (u6 0), .null, .null, .null, .null, .null, .null, .null, .int 0, .int 0, .int 0])) :: (lst5 w u2 ++ lst0 w u4 ++ lst0 w u6)) := hD
  refine lv_aload_n hx hb d6_init_37 rfl (lv_at hl 0 rfl) ?_
  refine va_new (D := w.1) (ci := 4) (fs := dfl4) (C := RX4) (T := TX4) (N := 2) hx hb hts inX4 tyX4 tyX4_ok hown (hts _ (gt_at 174 (by decide +kernel) (by decide +kernel))) (hts _ (gt_at 175 (by decide +kernel) (by decide +kernel))) (hts _ (gt_at 79 (by decide +kernel) (by decide +kernel))) hK hP hD hS hA rfl df4 (Nat.le_of_ble_eq_true rfl) (Nat.le_of_ble_eq_true rfl) d6_init_38 (fun q7 H hP hD hS => ?_)
  refine lv_dup hx hb d6_init_41 rfl ?_
  have hPo := hP
  have hDo := hD
  clear hP hD
  refine x_end hPo hDo hS hA (run_IN (n := 0) (As := []) (bl := .inr (4, dfl4)) (host := RX6) S hN (by decide +kernel) (gt_at 177 (by decide +kernel) (by decide +kernel)) (gt_at 79 (by decide +kernel) (by decide +kernel)) (gt_at 178 (by decide +kernel) (by decide +kernel)) (by decide +kernel) rfl rfl (ci4 l w q7 H.size) (x_pre hK hN hPo (fun _ _ _ _ _ => trivial) (fun _ _ _ => trivial)) ⟨rfl, rfl⟩ ⟨Nat.le_of_ble_eq_true rfl, Nat.le_of_ble_eq_true rfl⟩ ⟨Nat.le_of_ble_eq_true rfl, Nat.le_of_ble_eq_true rfl⟩ hl.1 rfl (Nat.le_of_ble_eq_true rfl) d6_init_42) (fun u8 H locs hu hP hD hS => ?_)
  subst hu
  have hP : va_P w.1 vwCl ((a, .inr (6, [.ref (u2 0), .ref (u4 0), .ref (u6 0), .null, .null, .null, .null, .null, .null, .null, .int 0, .int 0, .int 0])) :: (lst5 w u2 ++ lst0 w u4 ++ lst0 w u6 ++ lst4 w u8)) H := hP
  have hD : va_D A ((a, .inr (6, [.ref (u2 0), .ref (u4 0), .ref (u6 0), .null, .null, .null, .null, .null, .null, .null, .int 0, .int 0, .int 0])) :: (lst5 w u2 ++ lst0 w u4 ++ lst0 w u6 ++ lst4 w u8)) := hD
  refine va_putF (D := w.1) (ci := 6) (v := .ref (u8 0)) (ty := (.object "FourTenGates$Stand")) (C := RX6) (T := TX6) (N := 13) hx hb hts inX6 tyX6 tyX6_ok nmX6 hown hK hP hD hS 0 rfl rfl 3 (by decide) (hts _ (gt_at 476 (by decide +kernel) (by decide +kernel))) (fun _ h9 => h9) rfl hin rfl (by decide +kernel) rfl rfl (Nat.le_of_ble_eq_true rfl) d6_init_45 (fun H locs hP hD hS => ?_)
  have hP : va_P w.1 vwCl ((a, .inr (6, [.ref (u2 0), .ref (u4 0), .ref (u6 0), .ref (u8 0), .null, .null, .null, .null, .null, .null, .int 0, .int 0, .int 0])) :: (lst5 w u2 ++ lst0 w u4 ++ lst0 w u6 ++ lst4 w u8)) H := hP
  have hD : va_D A ((a, .inr (6, [.ref (u2 0), .ref (u4 0), .ref (u6 0), .ref (u8 0), .null, .null, .null, .null, .null, .null, .int 0, .int 0, .int 0])) :: (lst5 w u2 ++ lst0 w u4 ++ lst0 w u6 ++ lst4 w u8)) := hD
  refine lv_aload_n hx hb d6_init_48 rfl (lv_at hl 0 rfl) ?_
  refine va_new (D := w.1) (ci := 4) (fs := dfl4) (C := RX4) (T := TX4) (N := 2) hx hb hts inX4 tyX4 tyX4_ok hown (hts _ (gt_at 174 (by decide +kernel) (by decide +kernel))) (hts _ (gt_at 175 (by decide +kernel) (by decide +kernel))) (hts _ (gt_at 79 (by decide +kernel) (by decide +kernel))) hK hP hD hS hA rfl df4 (Nat.le_of_ble_eq_true rfl) (Nat.le_of_ble_eq_true rfl) d6_init_49 (fun q9 H hP hD hS => ?_)
  refine lv_dup hx hb d6_init_52 rfl ?_
  have hPo := hP
  have hDo := hD
  clear hP hD
  refine x_end hPo hDo hS hA (run_IN (n := 0) (As := []) (bl := .inr (4, dfl4)) (host := RX6) S hN (by decide +kernel) (gt_at 177 (by decide +kernel) (by decide +kernel)) (gt_at 79 (by decide +kernel) (by decide +kernel)) (gt_at 178 (by decide +kernel) (by decide +kernel)) (by decide +kernel) rfl rfl (ci4 l w q9 H.size) (x_pre hK hN hPo (fun _ _ _ _ _ => trivial) (fun _ _ _ => trivial)) ⟨rfl, rfl⟩ ⟨Nat.le_of_ble_eq_true rfl, Nat.le_of_ble_eq_true rfl⟩ ⟨Nat.le_of_ble_eq_true rfl, Nat.le_of_ble_eq_true rfl⟩ hl.1 rfl (Nat.le_of_ble_eq_true rfl) d6_init_53) (fun u10 H locs hu hP hD hS => ?_)
  subst hu
  have hP : va_P w.1 vwCl ((a, .inr (6, [.ref (u2 0), .ref (u4 0), .ref (u6 0), .ref (u8 0), .null, .null, .null, .null, .null, .null, .int 0, .int 0, .int 0])) :: (lst5 w u2 ++ lst0 w u4 ++ lst0 w u6 ++ lst4 w u8 ++ lst4 w u10)) H := hP
  have hD : va_D A ((a, .inr (6, [.ref (u2 0), .ref (u4 0), .ref (u6 0), .ref (u8 0), .null, .null, .null, .null, .null, .null, .int 0, .int 0, .int 0])) :: (lst5 w u2 ++ lst0 w u4 ++ lst0 w u6 ++ lst4 w u8 ++ lst4 w u10)) := hD
  refine va_putF (D := w.1) (ci := 6) (v := .ref (u10 0)) (ty := (.object "FourTenGates$Stand")) (C := RX6) (T := TX6) (N := 13) hx hb hts inX6 tyX6 tyX6_ok nmX6 hown hK hP hD hS 0 rfl rfl 4 (by decide) (hts _ (gt_at 477 (by decide +kernel) (by decide +kernel))) (fun _ h9 => h9) rfl hin rfl (by decide +kernel) rfl rfl (Nat.le_of_ble_eq_true rfl) d6_init_56 (fun H locs hP hD hS => ?_)
  have hP : va_P w.1 vwCl ((a, .inr (6, [.ref (u2 0), .ref (u4 0), .ref (u6 0), .ref (u8 0), .ref (u10 0), .null, .null, .null, .null, .null, .int 0, .int 0, .int 0])) :: (lst5 w u2 ++ lst0 w u4 ++ lst0 w u6 ++ lst4 w u8 ++ lst4 w u10)) H := hP
  have hD : va_D A ((a, .inr (6, [.ref (u2 0), .ref (u4 0), .ref (u6 0), .ref (u8 0), .ref (u10 0), .null, .null, .null, .null, .null, .int 0, .int 0, .int 0])) :: (lst5 w u2 ++ lst0 w u4 ++ lst0 w u6 ++ lst4 w u8 ++ lst4 w u10)) := hD
  refine lv_aload_n hx hb d6_init_59 rfl (lv_at hl 0 rfl) ?_
  refine lv_iconst (v := 4) hx hb d6_init_60 (by decide) ?_
  refine x_newq (C := RX1) (t0 := 2) (N := 4) S hK (gt_at 190 (by decide +kernel) (by decide +kernel)) hXA rfl hP hD hS hA (by decide) (by decide) (by decide) (Nat.le_of_ble_eq_true rfl) (Nat.le_of_ble_eq_true rfl) d6_init_61 (fun q11 H hP hD hS => ?_)
  have hP : va_P w.1 vwCl (((a, .inr (6, [.ref (u2 0), .ref (u4 0), .ref (u6 0), .ref (u8 0), .ref (u10 0), .null, .null, .null, .null, .null, .int 0, .int 0, .int 0])) :: (lst5 w u2 ++ lst0 w u4 ++ lst0 w u6 ++ lst4 w u8 ++ lst4 w u10)) ++ [(q11, .inl (w.2.1 2, 4, .inr (.inr (.inr (.inr (fun _ => none))))))]) H := hP
  have hD : va_D A (((a, .inr (6, [.ref (u2 0), .ref (u4 0), .ref (u6 0), .ref (u8 0), .ref (u10 0), .null, .null, .null, .null, .null, .int 0, .int 0, .int 0])) :: (lst5 w u2 ++ lst0 w u4 ++ lst0 w u6 ++ lst4 w u8 ++ lst4 w u10)) ++ [(q11, .inl (w.2.1 2, 4, .inr (.inr (.inr (.inr (fun _ => none))))))]) := hD
  refine va_putF (D := w.1) (ci := 6) (v := .ref q11) (ty := (.array (.object "FourTenGates$Hour"))) (C := RX6) (T := TX6) (N := 13) hx hb hts inX6 tyX6 tyX6_ok nmX6 hown hK hP hD hS 0 rfl rfl 5 (by decide) (hts _ (gt_at 478 (by decide +kernel) (by decide +kernel))) (fun _ h9 => h9) rfl hin rfl (by decide +kernel) rfl rfl (Nat.le_of_ble_eq_true rfl) d6_init_64 (fun H locs hP hD hS => ?_)
  have hP : va_P w.1 vwCl (((a, .inr (6, [.ref (u2 0), .ref (u4 0), .ref (u6 0), .ref (u8 0), .ref (u10 0), .ref q11, .null, .null, .null, .null, .int 0, .int 0, .int 0])) :: (lst5 w u2 ++ lst0 w u4 ++ lst0 w u6 ++ lst4 w u8 ++ lst4 w u10)) ++ [(q11, .inl (w.2.1 2, 4, .inr (.inr (.inr (.inr (fun _ => none))))))]) H := hP
  have hD : va_D A (((a, .inr (6, [.ref (u2 0), .ref (u4 0), .ref (u6 0), .ref (u8 0), .ref (u10 0), .ref q11, .null, .null, .null, .null, .int 0, .int 0, .int 0])) :: (lst5 w u2 ++ lst0 w u4 ++ lst0 w u6 ++ lst4 w u8 ++ lst4 w u10)) ++ [(q11, .inl (w.2.1 2, 4, .inr (.inr (.inr (.inr (fun _ => none))))))]) := hD
  refine lv_aload_n hx hb d6_init_67 rfl (lv_at hl 0 rfl) ?_
  refine va_new (D := w.1) (ci := 1) (fs := dfl1) (C := RX1) (T := TX1) (N := 19) hx hb hts inX1 tyX1 tyX1_ok hown (hts _ (gt_at 190 (by decide +kernel) (by decide +kernel))) (hts _ (gt_at 192 (by decide +kernel) (by decide +kernel))) (hts _ (gt_at 80 (by decide +kernel) (by decide +kernel))) hK hP hD hS hA rfl df1 (Nat.le_of_ble_eq_true rfl) (Nat.le_of_ble_eq_true rfl) d6_init_68 (fun q12 H hP hD hS => ?_)
  refine lv_dup hx hb d6_init_71 rfl ?_
  refine lv_aload_n hx hb d6_init_72 rfl (lv_at hl 0 rfl) ?_
  refine va_get (D := w.1) (ci := 6) (v := .ref (u4 0)) (C := RX6) (T := TX6) (N := 13) hx hb hts inX6 hown hK hP 0 rfl rfl 1 (by decide) (hts _ (gt_at 474 (by decide +kernel) (by decide +kernel))) (fun _ h9 => h9) rfl d6_init_73 ?_
  refine lv_aload_n hx hb d6_init_76 rfl (lv_at hl 0 rfl) ?_
  refine va_get (D := w.1) (ci := 6) (v := .ref (u10 0)) (C := RX6) (T := TX6) (N := 13) hx hb hts inX6 hown hK hP 0 rfl rfl 4 (by decide) (hts _ (gt_at 477 (by decide +kernel) (by decide +kernel))) (fun _ h9 => h9) rfl d6_init_77 ?_
  have hPo := hP
  have hDo := hD
  clear hP hD
  refine x_end hPo hDo hS hA (run_I (n := 2) (As := [.ref (u4 0), .ref (u10 0)]) (bl := .inr (1, dfl1)) S (gt_at 193 (by decide +kernel) (by decide +kernel)) (gt_at 194 (by decide +kernel) (by decide +kernel)) (gt_at 80 (by decide +kernel) (by decide +kernel)) (gt_at 195 (by decide +kernel) (by decide +kernel)) (by decide +kernel) rfl rfl (ci1 l w q12 H.size ((u4 0)) ((u10 0))) (x_pre hK hN hPo (fun _ _ _ _ _ => trivial) (fun _ _ _ => trivial)) ⟨rfl, rfl⟩ ⟨Nat.le_of_ble_eq_true rfl, Nat.le_of_ble_eq_true rfl⟩ ⟨Nat.le_of_ble_eq_true rfl, Nat.le_of_ble_eq_true rfl⟩ hl.1 rfl (Nat.le_of_ble_eq_true rfl) d6_init_80) (fun u13 H locs hu hP hD hS => ?_)
  subst hu
  have hP : va_P w.1 vwCl (((a, .inr (6, [.ref (u2 0), .ref (u4 0), .ref (u6 0), .ref (u8 0), .ref (u10 0), .ref q11, .null, .null, .null, .null, .int 0, .int 0, .int 0])) :: (lst5 w u2 ++ lst0 w u4 ++ lst0 w u6 ++ lst4 w u8 ++ lst4 w u10)) ++ [(q11, .inl (w.2.1 2, 4, .inr (.inr (.inr (.inr (fun _ => none))))))] ++ (lst1 w ((u4 0)) ((u10 0)) u13)) H := hP
  have hD : va_D A (((a, .inr (6, [.ref (u2 0), .ref (u4 0), .ref (u6 0), .ref (u8 0), .ref (u10 0), .ref q11, .null, .null, .null, .null, .int 0, .int 0, .int 0])) :: (lst5 w u2 ++ lst0 w u4 ++ lst0 w u6 ++ lst4 w u8 ++ lst4 w u10)) ++ [(q11, .inl (w.2.1 2, 4, .inr (.inr (.inr (.inr (fun _ => none))))))] ++ (lst1 w ((u4 0)) ((u10 0)) u13)) := hD
  refine va_putF (D := w.1) (ci := 6) (v := .ref (u13 0)) (ty := (.object "FourTenGates$Hour")) (C := RX6) (T := TX6) (N := 13) hx hb hts inX6 tyX6 tyX6_ok nmX6 hown hK hP hD hS 0 rfl rfl 6 (by decide) (hts _ (gt_at 479 (by decide +kernel) (by decide +kernel))) (fun _ h9 => h9) rfl hin rfl (by decide +kernel) rfl rfl (Nat.le_of_ble_eq_true rfl) d6_init_83 (fun H locs hP hD hS => ?_)
  have hP : va_P w.1 vwCl (((a, .inr (6, [.ref (u2 0), .ref (u4 0), .ref (u6 0), .ref (u8 0), .ref (u10 0), .ref q11, .ref (u13 0), .null, .null, .null, .int 0, .int 0, .int 0])) :: (lst5 w u2 ++ lst0 w u4 ++ lst0 w u6 ++ lst4 w u8 ++ lst4 w u10)) ++ [(q11, .inl (w.2.1 2, 4, .inr (.inr (.inr (.inr (fun _ => none))))))] ++ (lst1 w ((u4 0)) ((u10 0)) u13)) H := hP
  have hD : va_D A (((a, .inr (6, [.ref (u2 0), .ref (u4 0), .ref (u6 0), .ref (u8 0), .ref (u10 0), .ref q11, .ref (u13 0), .null, .null, .null, .int 0, .int 0, .int 0])) :: (lst5 w u2 ++ lst0 w u4 ++ lst0 w u6 ++ lst4 w u8 ++ lst4 w u10)) ++ [(q11, .inl (w.2.1 2, 4, .inr (.inr (.inr (.inr (fun _ => none))))))] ++ (lst1 w ((u4 0)) ((u10 0)) u13)) := hD
  refine lv_aload_n hx hb d6_init_86 rfl (lv_at hl 0 rfl) ?_
  refine va_new (D := w.1) (ci := 3) (fs := dfl3) (C := RX3) (T := TX3) (N := 2) hx hb hts inX3 tyX3 tyX3_ok hown (hts _ (gt_at 255 (by decide +kernel) (by decide +kernel))) (hts _ (gt_at 256 (by decide +kernel) (by decide +kernel))) (hts _ (gt_at 81 (by decide +kernel) (by decide +kernel))) hK hP hD hS hA rfl df3 (Nat.le_of_ble_eq_true rfl) (Nat.le_of_ble_eq_true rfl) d6_init_87 (fun q14 H hP hD hS => ?_)
  refine lv_dup hx hb d6_init_90 rfl ?_
  refine lv_bipush (v := 8) hx hb d6_init_91 (by decide) ?_
  have hPo := hP
  have hDo := hD
  clear hP hD
  refine x_end hPo hDo hS hA (run_I (n := 1) (As := [.int 8]) (bl := .inr (3, dfl3)) S (gt_at 257 (by decide +kernel) (by decide +kernel)) (gt_at 258 (by decide +kernel) (by decide +kernel)) (gt_at 81 (by decide +kernel) (by decide +kernel)) (gt_at 259 (by decide +kernel) (by decide +kernel)) (by decide +kernel) rfl rfl (ci3_8 l w q14 H.size) (x_pre hK hN hPo ao_blind (fun U _ hW => va_AO.moved hW.alike hXS)) ⟨rfl, rfl⟩ ⟨Nat.le_of_ble_eq_true rfl, Nat.le_of_ble_eq_true rfl⟩ ⟨Nat.le_of_ble_eq_true rfl, Nat.le_of_ble_eq_true rfl⟩ hl.1 rfl (Nat.le_of_ble_eq_true rfl) d6_init_93) (fun u15 H locs hu hP hD hS => ?_)
  subst hu
  rw [List.append_assoc] at hP hD
  have hP : va_P w.1 vwCl (((a, .inr (6, [.ref (u2 0), .ref (u4 0), .ref (u6 0), .ref (u8 0), .ref (u10 0), .ref q11, .ref (u13 0), .null, .null, .null, .int 0, .int 0, .int 0])) :: (lst5 w u2 ++ lst0 w u4 ++ lst0 w u6 ++ lst4 w u8 ++ lst4 w u10)) ++ [(q11, .inl (w.2.1 2, 4, .inr (.inr (.inr (.inr (fun _ => none))))))] ++ (lst1 w ((u4 0)) ((u10 0)) u13 ++ lst3_8 w u15)) H := hP
  have hD : va_D A (((a, .inr (6, [.ref (u2 0), .ref (u4 0), .ref (u6 0), .ref (u8 0), .ref (u10 0), .ref q11, .ref (u13 0), .null, .null, .null, .int 0, .int 0, .int 0])) :: (lst5 w u2 ++ lst0 w u4 ++ lst0 w u6 ++ lst4 w u8 ++ lst4 w u10)) ++ [(q11, .inl (w.2.1 2, 4, .inr (.inr (.inr (.inr (fun _ => none))))))] ++ (lst1 w ((u4 0)) ((u10 0)) u13 ++ lst3_8 w u15)) := hD
  refine va_putF (D := w.1) (ci := 6) (v := .ref (u15 0)) (ty := (.object "FourTenGates$Pile")) (C := RX6) (T := TX6) (N := 13) hx hb hts inX6 tyX6 tyX6_ok nmX6 hown hK hP hD hS 0 rfl rfl 7 (by decide) (hts _ (gt_at 480 (by decide +kernel) (by decide +kernel))) (fun _ h9 => h9) rfl hin rfl (by decide +kernel) rfl rfl (Nat.le_of_ble_eq_true rfl) d6_init_96 (fun H locs hP hD hS => ?_)
  have hP : va_P w.1 vwCl (((a, .inr (6, [.ref (u2 0), .ref (u4 0), .ref (u6 0), .ref (u8 0), .ref (u10 0), .ref q11, .ref (u13 0), .ref (u15 0), .null, .null, .int 0, .int 0, .int 0])) :: (lst5 w u2 ++ lst0 w u4 ++ lst0 w u6 ++ lst4 w u8 ++ lst4 w u10)) ++ [(q11, .inl (w.2.1 2, 4, .inr (.inr (.inr (.inr (fun _ => none))))))] ++ (lst1 w ((u4 0)) ((u10 0)) u13 ++ lst3_8 w u15)) H := hP
  have hD : va_D A (((a, .inr (6, [.ref (u2 0), .ref (u4 0), .ref (u6 0), .ref (u8 0), .ref (u10 0), .ref q11, .ref (u13 0), .ref (u15 0), .null, .null, .int 0, .int 0, .int 0])) :: (lst5 w u2 ++ lst0 w u4 ++ lst0 w u6 ++ lst4 w u8 ++ lst4 w u10)) ++ [(q11, .inl (w.2.1 2, 4, .inr (.inr (.inr (.inr (fun _ => none))))))] ++ (lst1 w ((u4 0)) ((u10 0)) u13 ++ lst3_8 w u15)) := hD
  refine lv_aload_n hx hb d6_init_99 rfl (lv_at hl 0 rfl) ?_
  refine va_new (D := w.1) (ci := 3) (fs := dfl3) (C := RX3) (T := TX3) (N := 2) hx hb hts inX3 tyX3 tyX3_ok hown (hts _ (gt_at 255 (by decide +kernel) (by decide +kernel))) (hts _ (gt_at 256 (by decide +kernel) (by decide +kernel))) (hts _ (gt_at 81 (by decide +kernel) (by decide +kernel))) hK hP hD hS hA rfl df3 (Nat.le_of_ble_eq_true rfl) (Nat.le_of_ble_eq_true rfl) d6_init_100 (fun q16 H hP hD hS => ?_)
  refine lv_dup hx hb d6_init_103 rfl ?_
  refine lv_iconst (v := 2) hx hb d6_init_104 (by decide) ?_
  have hPo := hP
  have hDo := hD
  clear hP hD
  refine x_end hPo hDo hS hA (run_I (n := 1) (As := [.int 2]) (bl := .inr (3, dfl3)) S (gt_at 257 (by decide +kernel) (by decide +kernel)) (gt_at 258 (by decide +kernel) (by decide +kernel)) (gt_at 81 (by decide +kernel) (by decide +kernel)) (gt_at 259 (by decide +kernel) (by decide +kernel)) (by decide +kernel) rfl rfl (ci3_2 l w q16 H.size) (x_pre hK hN hPo ao_blind (fun U _ hW => va_AO.moved hW.alike hXS)) ⟨rfl, rfl⟩ ⟨Nat.le_of_ble_eq_true rfl, Nat.le_of_ble_eq_true rfl⟩ ⟨Nat.le_of_ble_eq_true rfl, Nat.le_of_ble_eq_true rfl⟩ hl.1 rfl (Nat.le_of_ble_eq_true rfl) d6_init_105) (fun u17 H locs hu hP hD hS => ?_)
  subst hu
  rw [List.append_assoc] at hP hD
  have hP : va_P w.1 vwCl (((a, .inr (6, [.ref (u2 0), .ref (u4 0), .ref (u6 0), .ref (u8 0), .ref (u10 0), .ref q11, .ref (u13 0), .ref (u15 0), .null, .null, .int 0, .int 0, .int 0])) :: (lst5 w u2 ++ lst0 w u4 ++ lst0 w u6 ++ lst4 w u8 ++ lst4 w u10)) ++ [(q11, .inl (w.2.1 2, 4, .inr (.inr (.inr (.inr (fun _ => none))))))] ++ (lst1 w ((u4 0)) ((u10 0)) u13 ++ lst3_8 w u15 ++ lst3_2 w u17)) H := hP
  have hD : va_D A (((a, .inr (6, [.ref (u2 0), .ref (u4 0), .ref (u6 0), .ref (u8 0), .ref (u10 0), .ref q11, .ref (u13 0), .ref (u15 0), .null, .null, .int 0, .int 0, .int 0])) :: (lst5 w u2 ++ lst0 w u4 ++ lst0 w u6 ++ lst4 w u8 ++ lst4 w u10)) ++ [(q11, .inl (w.2.1 2, 4, .inr (.inr (.inr (.inr (fun _ => none))))))] ++ (lst1 w ((u4 0)) ((u10 0)) u13 ++ lst3_8 w u15 ++ lst3_2 w u17)) := hD
  refine va_putF (D := w.1) (ci := 6) (v := .ref (u17 0)) (ty := (.object "FourTenGates$Pile")) (C := RX6) (T := TX6) (N := 13) hx hb hts inX6 tyX6 tyX6_ok nmX6 hown hK hP hD hS 0 rfl rfl 8 (by decide) (hts _ (gt_at 481 (by decide +kernel) (by decide +kernel))) (fun _ h9 => h9) rfl hin rfl (by decide +kernel) rfl rfl (Nat.le_of_ble_eq_true rfl) d6_init_108 (fun H locs hP hD hS => ?_)
  have hP : va_P w.1 vwCl (((a, .inr (6, [.ref (u2 0), .ref (u4 0), .ref (u6 0), .ref (u8 0), .ref (u10 0), .ref q11, .ref (u13 0), .ref (u15 0), .ref (u17 0), .null, .int 0, .int 0, .int 0])) :: (lst5 w u2 ++ lst0 w u4 ++ lst0 w u6 ++ lst4 w u8 ++ lst4 w u10)) ++ [(q11, .inl (w.2.1 2, 4, .inr (.inr (.inr (.inr (fun _ => none))))))] ++ (lst1 w ((u4 0)) ((u10 0)) u13 ++ lst3_8 w u15 ++ lst3_2 w u17)) H := hP
  have hD : va_D A (((a, .inr (6, [.ref (u2 0), .ref (u4 0), .ref (u6 0), .ref (u8 0), .ref (u10 0), .ref q11, .ref (u13 0), .ref (u15 0), .ref (u17 0), .null, .int 0, .int 0, .int 0])) :: (lst5 w u2 ++ lst0 w u4 ++ lst0 w u6 ++ lst4 w u8 ++ lst4 w u10)) ++ [(q11, .inl (w.2.1 2, 4, .inr (.inr (.inr (.inr (fun _ => none))))))] ++ (lst1 w ((u4 0)) ((u10 0)) u13 ++ lst3_8 w u15 ++ lst3_2 w u17)) := hD
  refine lv_aload_n hx hb d6_init_111 rfl (lv_at hl 0 rfl) ?_
  refine va_new (D := w.1) (ci := 2) (fs := dfl2) (C := RX2) (T := TX2) (N := 4) hx hb hts inX2 tyX2 tyX2_ok hown (hts _ (gt_at 274 (by decide +kernel) (by decide +kernel))) (hts _ (gt_at 119 (by decide +kernel) (by decide +kernel))) (hts _ (gt_at 77 (by decide +kernel) (by decide +kernel))) hK hP hD hS hA rfl df2 (Nat.le_of_ble_eq_true rfl) (Nat.le_of_ble_eq_true rfl) d6_init_112 (fun q18 H hP hD hS => ?_)
  refine lv_dup hx hb d6_init_115 rfl ?_
  refine lv_bipush (v := 8) hx hb d6_init_116 (by decide) ?_
  have hPo := hP
  have hDo := hD
  clear hP hD
  refine x_end hPo hDo hS hA (run_I (n := 1) (As := [.int 8]) (bl := .inr (2, dfl2)) S (gt_at 275 (by decide +kernel) (by decide +kernel)) (gt_at 121 (by decide +kernel) (by decide +kernel)) (gt_at 77 (by decide +kernel) (by decide +kernel)) (gt_at 122 (by decide +kernel) (by decide +kernel)) (by decide +kernel) rfl rfl (ci2 l w q18 H.size 8) (x_pre hK hN hPo (fun _ _ _ _ _ => trivial) (fun _ _ _ => trivial)) ⟨rfl, rfl⟩ ⟨Nat.le_of_ble_eq_true rfl, Nat.le_of_ble_eq_true rfl⟩ ⟨Nat.le_of_ble_eq_true rfl, Nat.le_of_ble_eq_true rfl⟩ hl.1 rfl (Nat.le_of_ble_eq_true rfl) d6_init_118) (fun u19 H locs hu hP hD hS => ?_)
  subst hu
  rw [List.append_assoc] at hP hD
  have hP : va_P w.1 vwCl (((a, .inr (6, [.ref (u2 0), .ref (u4 0), .ref (u6 0), .ref (u8 0), .ref (u10 0), .ref q11, .ref (u13 0), .ref (u15 0), .ref (u17 0), .null, .int 0, .int 0, .int 0])) :: (lst5 w u2 ++ lst0 w u4 ++ lst0 w u6 ++ lst4 w u8 ++ lst4 w u10)) ++ [(q11, .inl (w.2.1 2, 4, .inr (.inr (.inr (.inr (fun _ => none))))))] ++ (lst1 w ((u4 0)) ((u10 0)) u13 ++ lst3_8 w u15 ++ lst3_2 w u17 ++ lst2 w (lim8 8) u19)) H := hP
  have hD : va_D A (((a, .inr (6, [.ref (u2 0), .ref (u4 0), .ref (u6 0), .ref (u8 0), .ref (u10 0), .ref q11, .ref (u13 0), .ref (u15 0), .ref (u17 0), .null, .int 0, .int 0, .int 0])) :: (lst5 w u2 ++ lst0 w u4 ++ lst0 w u6 ++ lst4 w u8 ++ lst4 w u10)) ++ [(q11, .inl (w.2.1 2, 4, .inr (.inr (.inr (.inr (fun _ => none))))))] ++ (lst1 w ((u4 0)) ((u10 0)) u13 ++ lst3_8 w u15 ++ lst3_2 w u17 ++ lst2 w (lim8 8) u19)) := hD
  refine va_putF (D := w.1) (ci := 6) (v := .ref (u19 0)) (ty := (.object "FourTenGates$Pairs")) (C := RX6) (T := TX6) (N := 13) hx hb hts inX6 tyX6 tyX6_ok nmX6 hown hK hP hD hS 0 rfl rfl 9 (by decide) (hts _ (gt_at 482 (by decide +kernel) (by decide +kernel))) (fun _ h9 => h9) rfl hin rfl (by decide +kernel) rfl rfl (Nat.le_of_ble_eq_true rfl) d6_init_121 (fun H locs hP hD hS => ?_)
  have hP : va_P w.1 vwCl (((a, .inr (6, [.ref (u2 0), .ref (u4 0), .ref (u6 0), .ref (u8 0), .ref (u10 0), .ref q11, .ref (u13 0), .ref (u15 0), .ref (u17 0), .ref (u19 0), .int 0, .int 0, .int 0])) :: (lst5 w u2 ++ lst0 w u4 ++ lst0 w u6 ++ lst4 w u8 ++ lst4 w u10)) ++ [(q11, .inl (w.2.1 2, 4, .inr (.inr (.inr (.inr (fun _ => none))))))] ++ (lst1 w ((u4 0)) ((u10 0)) u13 ++ lst3_8 w u15 ++ lst3_2 w u17 ++ lst2 w (lim8 8) u19)) H := hP
  have hD : va_D A (((a, .inr (6, [.ref (u2 0), .ref (u4 0), .ref (u6 0), .ref (u8 0), .ref (u10 0), .ref q11, .ref (u13 0), .ref (u15 0), .ref (u17 0), .ref (u19 0), .int 0, .int 0, .int 0])) :: (lst5 w u2 ++ lst0 w u4 ++ lst0 w u6 ++ lst4 w u8 ++ lst4 w u10)) ++ [(q11, .inl (w.2.1 2, 4, .inr (.inr (.inr (.inr (fun _ => none))))))] ++ (lst1 w ((u4 0)) ((u10 0)) u13 ++ lst3_8 w u15 ++ lst3_2 w u17 ++ lst2 w (lim8 8) u19)) := hD
  refine lv_aload_n hx hb d6_init_124 rfl (lv_at hl 0 rfl) ?_
  refine lv_iconst (v := 0) hx hb d6_init_125 (by decide) ?_
  refine va_put (D := w.1) (ci := 6) (v := .int 0) (ty := .boolean) (C := RX6) (T := TX6) (N := 13) hx hb hts inX6 tyX6 tyX6_ok nmX6 hown hK hP hD hS 0 rfl rfl 10 (by decide) (hts _ (gt_at 483 (by decide +kernel) (by decide +kernel))) (fun _ h9 => h9) rfl (by decide +kernel) (by decide +kernel) (by decide +kernel) (Nat.le_of_ble_eq_true rfl) d6_init_126 (fun H locs hP hD hS => ?_)
  have hP : va_P w.1 vwCl (((a, .inr (6, [.ref (u2 0), .ref (u4 0), .ref (u6 0), .ref (u8 0), .ref (u10 0), .ref q11, .ref (u13 0), .ref (u15 0), .ref (u17 0), .ref (u19 0), .int 0, .int 0, .int 0])) :: (lst5 w u2 ++ lst0 w u4 ++ lst0 w u6 ++ lst4 w u8 ++ lst4 w u10)) ++ [(q11, .inl (w.2.1 2, 4, .inr (.inr (.inr (.inr (fun _ => none))))))] ++ (lst1 w ((u4 0)) ((u10 0)) u13 ++ lst3_8 w u15 ++ lst3_2 w u17 ++ lst2 w (lim8 8) u19)) H := hP
  have hD : va_D A (((a, .inr (6, [.ref (u2 0), .ref (u4 0), .ref (u6 0), .ref (u8 0), .ref (u10 0), .ref q11, .ref (u13 0), .ref (u15 0), .ref (u17 0), .ref (u19 0), .int 0, .int 0, .int 0])) :: (lst5 w u2 ++ lst0 w u4 ++ lst0 w u6 ++ lst4 w u8 ++ lst4 w u10)) ++ [(q11, .inl (w.2.1 2, 4, .inr (.inr (.inr (.inr (fun _ => none))))))] ++ (lst1 w ((u4 0)) ((u10 0)) u13 ++ lst3_8 w u15 ++ lst3_2 w u17 ++ lst2 w (lim8 8) u19)) := hD
  refine lv_aload_n hx hb d6_init_129 rfl (lv_at hl 0 rfl) ?_
  refine lv_iconst (v := 0) hx hb d6_init_130 (by decide) ?_
  refine va_put (D := w.1) (ci := 6) (v := .int 0) (ty := .int) (C := RX6) (T := TX6) (N := 13) hx hb hts inX6 tyX6 tyX6_ok nmX6 hown hK hP hD hS 0 rfl rfl 11 (by decide) (hts _ (gt_at 484 (by decide +kernel) (by decide +kernel))) (fun _ h9 => h9) rfl (by decide +kernel) rfl rfl (Nat.le_of_ble_eq_true rfl) d6_init_131 (fun H locs hP hD hS => ?_)
  have hP : va_P w.1 vwCl (((a, .inr (6, [.ref (u2 0), .ref (u4 0), .ref (u6 0), .ref (u8 0), .ref (u10 0), .ref q11, .ref (u13 0), .ref (u15 0), .ref (u17 0), .ref (u19 0), .int 0, .int 0, .int 0])) :: (lst5 w u2 ++ lst0 w u4 ++ lst0 w u6 ++ lst4 w u8 ++ lst4 w u10)) ++ [(q11, .inl (w.2.1 2, 4, .inr (.inr (.inr (.inr (fun _ => none))))))] ++ (lst1 w ((u4 0)) ((u10 0)) u13 ++ lst3_8 w u15 ++ lst3_2 w u17 ++ lst2 w (lim8 8) u19)) H := hP
  have hD : va_D A (((a, .inr (6, [.ref (u2 0), .ref (u4 0), .ref (u6 0), .ref (u8 0), .ref (u10 0), .ref q11, .ref (u13 0), .ref (u15 0), .ref (u17 0), .ref (u19 0), .int 0, .int 0, .int 0])) :: (lst5 w u2 ++ lst0 w u4 ++ lst0 w u6 ++ lst4 w u8 ++ lst4 w u10)) ++ [(q11, .inl (w.2.1 2, 4, .inr (.inr (.inr (.inr (fun _ => none))))))] ++ (lst1 w ((u4 0)) ((u10 0)) u13 ++ lst3_8 w u15 ++ lst3_2 w u17 ++ lst2 w (lim8 8) u19)) := hD
  refine lv_aload_n hx hb d6_init_134 rfl (lv_at hl 0 rfl) ?_
  refine lv_iconst (v := 0) hx hb d6_init_135 (by decide) ?_
  refine va_put (D := w.1) (ci := 6) (v := .int 0) (ty := .int) (C := RX6) (T := TX6) (N := 13) hx hb hts inX6 tyX6 tyX6_ok nmX6 hown hK hP hD hS 0 rfl rfl 12 (by decide) (hts _ (gt_at 485 (by decide +kernel) (by decide +kernel))) (fun _ h9 => h9) rfl (by decide +kernel) rfl rfl (Nat.le_of_ble_eq_true rfl) d6_init_136 (fun H locs hP hD hS => ?_)
  have hP : va_P w.1 vwCl (((a, .inr (6, [.ref (u2 0), .ref (u4 0), .ref (u6 0), .ref (u8 0), .ref (u10 0), .ref q11, .ref (u13 0), .ref (u15 0), .ref (u17 0), .ref (u19 0), .int 0, .int 0, .int 0])) :: (lst5 w u2 ++ lst0 w u4 ++ lst0 w u6 ++ lst4 w u8 ++ lst4 w u10)) ++ [(q11, .inl (w.2.1 2, 4, .inr (.inr (.inr (.inr (fun _ => none))))))] ++ (lst1 w ((u4 0)) ((u10 0)) u13 ++ lst3_8 w u15 ++ lst3_2 w u17 ++ lst2 w (lim8 8) u19)) H := hP
  have hD : va_D A (((a, .inr (6, [.ref (u2 0), .ref (u4 0), .ref (u6 0), .ref (u8 0), .ref (u10 0), .ref q11, .ref (u13 0), .ref (u15 0), .ref (u17 0), .ref (u19 0), .int 0, .int 0, .int 0])) :: (lst5 w u2 ++ lst0 w u4 ++ lst0 w u6 ++ lst4 w u8 ++ lst4 w u10)) ++ [(q11, .inl (w.2.1 2, 4, .inr (.inr (.inr (.inr (fun _ => none))))))] ++ (lst1 w ((u4 0)) ((u10 0)) u13 ++ lst3_8 w u15 ++ lst3_2 w u17 ++ lst2 w (lim8 8) u19)) := hD
  refine lv_iconst (v := 0) hx hb d6_init_139 (by decide) ?_
  refine lv_istore_n (lv' := [(1, .int 0), (0, .ref a)]) hx hb d6_init_140 rfl hl (by decide) rfl (fun ls hl => ?_)
  refine lv_iload_n hx hb d6_init_141 rfl (lv_at hl 0 rfl) ?_
  refine lv_iconst (v := 4) hx hb d6_init_142 (by decide) ?_
  refine lv_icmp_ge (tgt := 173) hx hb d6_init_143 (by decide) (fun hc => absurd hc (by decide)) (fun _ => ?_)
  refine lv_aload_n hx hb d6_init_146 rfl (lv_at hl 1 rfl) ?_
  refine va_get (D := w.1) (ci := 6) (v := .ref q11) (C := RX6) (T := TX6) (N := 13) hx hb hts inX6 hown hK hP 0 rfl rfl 5 (by decide) (hts _ (gt_at 478 (by decide +kernel) (by decide +kernel))) (fun _ h9 => h9) rfl d6_init_147 ?_
  refine lv_iload_n hx hb d6_init_150 rfl (lv_at hl 0 rfl) ?_
  refine va_new (D := w.1) (ci := 1) (fs := dfl1) (C := RX1) (T := TX1) (N := 19) hx hb hts inX1 tyX1 tyX1_ok hown (hts _ (gt_at 190 (by decide +kernel) (by decide +kernel))) (hts _ (gt_at 192 (by decide +kernel) (by decide +kernel))) (hts _ (gt_at 80 (by decide +kernel) (by decide +kernel))) hK hP hD hS hA rfl df1 (Nat.le_of_ble_eq_true rfl) (Nat.le_of_ble_eq_true rfl) d6_init_151 (fun q20 H hP hD hS => ?_)
  refine lv_dup hx hb d6_init_154 rfl ?_
  refine lv_aload_n hx hb d6_init_155 rfl (lv_at hl 1 rfl) ?_
  refine va_get (D := w.1) (ci := 6) (v := .ref (u4 0)) (C := RX6) (T := TX6) (N := 13) hx hb hts inX6 hown hK hP 0 rfl rfl 1 (by decide) (hts _ (gt_at 474 (by decide +kernel) (by decide +kernel))) (fun _ h9 => h9) rfl d6_init_156 ?_
  refine lv_aload_n hx hb d6_init_159 rfl (lv_at hl 1 rfl) ?_
  refine va_get (D := w.1) (ci := 6) (v := .ref (u8 0)) (C := RX6) (T := TX6) (N := 13) hx hb hts inX6 hown hK hP 0 rfl rfl 3 (by decide) (hts _ (gt_at 476 (by decide +kernel) (by decide +kernel))) (fun _ h9 => h9) rfl d6_init_160 ?_
  have hPo := hP
  have hDo := hD
  clear hP hD
  refine x_end hPo hDo hS hA (run_I (n := 2) (As := [.ref (u4 0), .ref (u8 0)]) (bl := .inr (1, dfl1)) S (gt_at 193 (by decide +kernel) (by decide +kernel)) (gt_at 194 (by decide +kernel) (by decide +kernel)) (gt_at 80 (by decide +kernel) (by decide +kernel)) (gt_at 195 (by decide +kernel) (by decide +kernel)) (by decide +kernel) rfl rfl (ci1 l w q20 H.size ((u4 0)) ((u8 0))) (x_pre hK hN hPo (fun _ _ _ _ _ => trivial) (fun _ _ _ => trivial)) ⟨rfl, rfl⟩ ⟨Nat.le_of_ble_eq_true rfl, Nat.le_of_ble_eq_true rfl⟩ ⟨Nat.le_of_ble_eq_true rfl, Nat.le_of_ble_eq_true rfl⟩ hl.1 rfl (Nat.le_of_ble_eq_true rfl) d6_init_163) (fun u21 H locs hu hP hD hS => ?_)
  subst hu
  rw [List.append_assoc] at hP hD
  have hP : va_P w.1 vwCl (((a, .inr (6, [.ref (u2 0), .ref (u4 0), .ref (u6 0), .ref (u8 0), .ref (u10 0), .ref q11, .ref (u13 0), .ref (u15 0), .ref (u17 0), .ref (u19 0), .int 0, .int 0, .int 0])) :: (lst5 w u2 ++ lst0 w u4 ++ lst0 w u6 ++ lst4 w u8 ++ lst4 w u10)) ++ [(q11, .inl (w.2.1 2, 4, .inr (.inr (.inr (.inr (fun _ => none))))))] ++ (lst1 w ((u4 0)) ((u10 0)) u13 ++ lst3_8 w u15 ++ lst3_2 w u17 ++ lst2 w (lim8 8) u19 ++ lst1 w ((u4 0)) ((u8 0)) u21)) H := hP
  have hD : va_D A (((a, .inr (6, [.ref (u2 0), .ref (u4 0), .ref (u6 0), .ref (u8 0), .ref (u10 0), .ref q11, .ref (u13 0), .ref (u15 0), .ref (u17 0), .ref (u19 0), .int 0, .int 0, .int 0])) :: (lst5 w u2 ++ lst0 w u4 ++ lst0 w u6 ++ lst4 w u8 ++ lst4 w u10)) ++ [(q11, .inl (w.2.1 2, 4, .inr (.inr (.inr (.inr (fun _ => none))))))] ++ (lst1 w ((u4 0)) ((u10 0)) u13 ++ lst3_8 w u15 ++ lst3_2 w u17 ++ lst2 w (lim8 8) u19 ++ lst1 w ((u4 0)) ((u8 0)) u21)) := hD
  refine x_ast (t0 := 2) (ci := 1) S hK hP hD hS rfl (List.mem_append_right _ List.mem_cons_self) rfl (vin (by decide)) d6_init_166 (fun H locs hP hD hS => ?_)
  have hP : va_P w.1 vwCl (((a, .inr (6, [.ref (u2 0), .ref (u4 0), .ref (u6 0), .ref (u8 0), .ref (u10 0), .ref q11, .ref (u13 0), .ref (u15 0), .ref (u17 0), .ref (u19 0), .int 0, .int 0, .int 0])) :: (lst5 w u2 ++ lst0 w u4 ++ lst0 w u6 ++ lst4 w u8 ++ lst4 w u10)) ++ [(q11, .inl (w.2.1 2, 4, .inr (.inr (.inr (.inr (va_up (fun _ => none) 0 (some (u21 0))))))))] ++ (lst1 w ((u4 0)) ((u10 0)) u13 ++ lst3_8 w u15 ++ lst3_2 w u17 ++ lst2 w (lim8 8) u19 ++ lst1 w ((u4 0)) ((u8 0)) u21)) H := hP
  have hD : va_D A (((a, .inr (6, [.ref (u2 0), .ref (u4 0), .ref (u6 0), .ref (u8 0), .ref (u10 0), .ref q11, .ref (u13 0), .ref (u15 0), .ref (u17 0), .ref (u19 0), .int 0, .int 0, .int 0])) :: (lst5 w u2 ++ lst0 w u4 ++ lst0 w u6 ++ lst4 w u8 ++ lst4 w u10)) ++ [(q11, .inl (w.2.1 2, 4, .inr (.inr (.inr (.inr (va_up (fun _ => none) 0 (some (u21 0))))))))] ++ (lst1 w ((u4 0)) ((u10 0)) u13 ++ lst3_8 w u15 ++ lst3_2 w u17 ++ lst2 w (lim8 8) u19 ++ lst1 w ((u4 0)) ((u8 0)) u21)) := hD
  refine lv_iinc (v := 1) (lv' := [(1, .int 1), (0, .ref a)]) hx hb d6_init_167 hl (k := 0) rfl (by decide) (by decide) rfl (fun ls hl => ?_)
  refine lv_goto (tgt := 141) hx hb d6_init_170 (by decide) ?_
  refine lv_iload_n hx hb d6_init_141 rfl (lv_at hl 0 rfl) ?_
  refine lv_iconst (v := 4) hx hb d6_init_142 (by decide) ?_
  refine lv_icmp_ge (tgt := 173) hx hb d6_init_143 (by decide) (fun hc => absurd hc (by decide)) (fun _ => ?_)
  refine lv_aload_n hx hb d6_init_146 rfl (lv_at hl 1 rfl) ?_
  refine va_get (D := w.1) (ci := 6) (v := .ref q11) (C := RX6) (T := TX6) (N := 13) hx hb hts inX6 hown hK hP 0 rfl rfl 5 (by decide) (hts _ (gt_at 478 (by decide +kernel) (by decide +kernel))) (fun _ h9 => h9) rfl d6_init_147 ?_
  refine lv_iload_n hx hb d6_init_150 rfl (lv_at hl 0 rfl) ?_
  refine va_new (D := w.1) (ci := 1) (fs := dfl1) (C := RX1) (T := TX1) (N := 19) hx hb hts inX1 tyX1 tyX1_ok hown (hts _ (gt_at 190 (by decide +kernel) (by decide +kernel))) (hts _ (gt_at 192 (by decide +kernel) (by decide +kernel))) (hts _ (gt_at 80 (by decide +kernel) (by decide +kernel))) hK hP hD hS hA rfl df1 (Nat.le_of_ble_eq_true rfl) (Nat.le_of_ble_eq_true rfl) d6_init_151 (fun q22 H hP hD hS => ?_)
  refine lv_dup hx hb d6_init_154 rfl ?_
  refine lv_aload_n hx hb d6_init_155 rfl (lv_at hl 1 rfl) ?_
  refine va_get (D := w.1) (ci := 6) (v := .ref (u4 0)) (C := RX6) (T := TX6) (N := 13) hx hb hts inX6 hown hK hP 0 rfl rfl 1 (by decide) (hts _ (gt_at 474 (by decide +kernel) (by decide +kernel))) (fun _ h9 => h9) rfl d6_init_156 ?_
  refine lv_aload_n hx hb d6_init_159 rfl (lv_at hl 1 rfl) ?_
  refine va_get (D := w.1) (ci := 6) (v := .ref (u8 0)) (C := RX6) (T := TX6) (N := 13) hx hb hts inX6 hown hK hP 0 rfl rfl 3 (by decide) (hts _ (gt_at 476 (by decide +kernel) (by decide +kernel))) (fun _ h9 => h9) rfl d6_init_160 ?_
  have hPo := hP
  have hDo := hD
  clear hP hD
  refine x_end hPo hDo hS hA (run_I (n := 2) (As := [.ref (u4 0), .ref (u8 0)]) (bl := .inr (1, dfl1)) S (gt_at 193 (by decide +kernel) (by decide +kernel)) (gt_at 194 (by decide +kernel) (by decide +kernel)) (gt_at 80 (by decide +kernel) (by decide +kernel)) (gt_at 195 (by decide +kernel) (by decide +kernel)) (by decide +kernel) rfl rfl (ci1 l w q22 H.size ((u4 0)) ((u8 0))) (x_pre hK hN hPo (fun _ _ _ _ _ => trivial) (fun _ _ _ => trivial)) ⟨rfl, rfl⟩ ⟨Nat.le_of_ble_eq_true rfl, Nat.le_of_ble_eq_true rfl⟩ ⟨Nat.le_of_ble_eq_true rfl, Nat.le_of_ble_eq_true rfl⟩ hl.1 rfl (Nat.le_of_ble_eq_true rfl) d6_init_163) (fun u23 H locs hu hP hD hS => ?_)
  subst hu
  rw [List.append_assoc] at hP hD
  have hP : va_P w.1 vwCl (((a, .inr (6, [.ref (u2 0), .ref (u4 0), .ref (u6 0), .ref (u8 0), .ref (u10 0), .ref q11, .ref (u13 0), .ref (u15 0), .ref (u17 0), .ref (u19 0), .int 0, .int 0, .int 0])) :: (lst5 w u2 ++ lst0 w u4 ++ lst0 w u6 ++ lst4 w u8 ++ lst4 w u10)) ++ [(q11, .inl (w.2.1 2, 4, .inr (.inr (.inr (.inr (va_up (fun _ => none) 0 (some (u21 0))))))))] ++ (lst1 w ((u4 0)) ((u10 0)) u13 ++ lst3_8 w u15 ++ lst3_2 w u17 ++ lst2 w (lim8 8) u19 ++ lst1 w ((u4 0)) ((u8 0)) u21 ++ lst1 w ((u4 0)) ((u8 0)) u23)) H := hP
  have hD : va_D A (((a, .inr (6, [.ref (u2 0), .ref (u4 0), .ref (u6 0), .ref (u8 0), .ref (u10 0), .ref q11, .ref (u13 0), .ref (u15 0), .ref (u17 0), .ref (u19 0), .int 0, .int 0, .int 0])) :: (lst5 w u2 ++ lst0 w u4 ++ lst0 w u6 ++ lst4 w u8 ++ lst4 w u10)) ++ [(q11, .inl (w.2.1 2, 4, .inr (.inr (.inr (.inr (va_up (fun _ => none) 0 (some (u21 0))))))))] ++ (lst1 w ((u4 0)) ((u10 0)) u13 ++ lst3_8 w u15 ++ lst3_2 w u17 ++ lst2 w (lim8 8) u19 ++ lst1 w ((u4 0)) ((u8 0)) u21 ++ lst1 w ((u4 0)) ((u8 0)) u23)) := hD
  refine x_ast (t0 := 2) (ci := 1) S hK hP hD hS rfl (List.mem_append_right _ List.mem_cons_self) rfl (vin (by decide)) d6_init_166 (fun H locs hP hD hS => ?_)
  have hP : va_P w.1 vwCl (((a, .inr (6, [.ref (u2 0), .ref (u4 0), .ref (u6 0), .ref (u8 0), .ref (u10 0), .ref q11, .ref (u13 0), .ref (u15 0), .ref (u17 0), .ref (u19 0), .int 0, .int 0, .int 0])) :: (lst5 w u2 ++ lst0 w u4 ++ lst0 w u6 ++ lst4 w u8 ++ lst4 w u10)) ++ [(q11, .inl (w.2.1 2, 4, .inr (.inr (.inr (.inr (va_up (va_up (fun _ => none) 0 (some (u21 0))) 1 (some (u23 0))))))))] ++ (lst1 w ((u4 0)) ((u10 0)) u13 ++ lst3_8 w u15 ++ lst3_2 w u17 ++ lst2 w (lim8 8) u19 ++ lst1 w ((u4 0)) ((u8 0)) u21 ++ lst1 w ((u4 0)) ((u8 0)) u23)) H := hP
  have hD : va_D A (((a, .inr (6, [.ref (u2 0), .ref (u4 0), .ref (u6 0), .ref (u8 0), .ref (u10 0), .ref q11, .ref (u13 0), .ref (u15 0), .ref (u17 0), .ref (u19 0), .int 0, .int 0, .int 0])) :: (lst5 w u2 ++ lst0 w u4 ++ lst0 w u6 ++ lst4 w u8 ++ lst4 w u10)) ++ [(q11, .inl (w.2.1 2, 4, .inr (.inr (.inr (.inr (va_up (va_up (fun _ => none) 0 (some (u21 0))) 1 (some (u23 0))))))))] ++ (lst1 w ((u4 0)) ((u10 0)) u13 ++ lst3_8 w u15 ++ lst3_2 w u17 ++ lst2 w (lim8 8) u19 ++ lst1 w ((u4 0)) ((u8 0)) u21 ++ lst1 w ((u4 0)) ((u8 0)) u23)) := hD
  refine lv_iinc (v := 2) (lv' := [(1, .int 2), (0, .ref a)]) hx hb d6_init_167 hl (k := 0) rfl (by decide) (by decide) rfl (fun ls hl => ?_)
  refine lv_goto (tgt := 141) hx hb d6_init_170 (by decide) ?_
  refine lv_iload_n hx hb d6_init_141 rfl (lv_at hl 0 rfl) ?_
  refine lv_iconst (v := 4) hx hb d6_init_142 (by decide) ?_
  refine lv_icmp_ge (tgt := 173) hx hb d6_init_143 (by decide) (fun hc => absurd hc (by decide)) (fun _ => ?_)
  refine lv_aload_n hx hb d6_init_146 rfl (lv_at hl 1 rfl) ?_
  refine va_get (D := w.1) (ci := 6) (v := .ref q11) (C := RX6) (T := TX6) (N := 13) hx hb hts inX6 hown hK hP 0 rfl rfl 5 (by decide) (hts _ (gt_at 478 (by decide +kernel) (by decide +kernel))) (fun _ h9 => h9) rfl d6_init_147 ?_
  refine lv_iload_n hx hb d6_init_150 rfl (lv_at hl 0 rfl) ?_
  refine va_new (D := w.1) (ci := 1) (fs := dfl1) (C := RX1) (T := TX1) (N := 19) hx hb hts inX1 tyX1 tyX1_ok hown (hts _ (gt_at 190 (by decide +kernel) (by decide +kernel))) (hts _ (gt_at 192 (by decide +kernel) (by decide +kernel))) (hts _ (gt_at 80 (by decide +kernel) (by decide +kernel))) hK hP hD hS hA rfl df1 (Nat.le_of_ble_eq_true rfl) (Nat.le_of_ble_eq_true rfl) d6_init_151 (fun q24 H hP hD hS => ?_)
  refine lv_dup hx hb d6_init_154 rfl ?_
  refine lv_aload_n hx hb d6_init_155 rfl (lv_at hl 1 rfl) ?_
  refine va_get (D := w.1) (ci := 6) (v := .ref (u4 0)) (C := RX6) (T := TX6) (N := 13) hx hb hts inX6 hown hK hP 0 rfl rfl 1 (by decide) (hts _ (gt_at 474 (by decide +kernel) (by decide +kernel))) (fun _ h9 => h9) rfl d6_init_156 ?_
  refine lv_aload_n hx hb d6_init_159 rfl (lv_at hl 1 rfl) ?_
  refine va_get (D := w.1) (ci := 6) (v := .ref (u8 0)) (C := RX6) (T := TX6) (N := 13) hx hb hts inX6 hown hK hP 0 rfl rfl 3 (by decide) (hts _ (gt_at 476 (by decide +kernel) (by decide +kernel))) (fun _ h9 => h9) rfl d6_init_160 ?_
  have hPo := hP
  have hDo := hD
  clear hP hD
  refine x_end hPo hDo hS hA (run_I (n := 2) (As := [.ref (u4 0), .ref (u8 0)]) (bl := .inr (1, dfl1)) S (gt_at 193 (by decide +kernel) (by decide +kernel)) (gt_at 194 (by decide +kernel) (by decide +kernel)) (gt_at 80 (by decide +kernel) (by decide +kernel)) (gt_at 195 (by decide +kernel) (by decide +kernel)) (by decide +kernel) rfl rfl (ci1 l w q24 H.size ((u4 0)) ((u8 0))) (x_pre hK hN hPo (fun _ _ _ _ _ => trivial) (fun _ _ _ => trivial)) ⟨rfl, rfl⟩ ⟨Nat.le_of_ble_eq_true rfl, Nat.le_of_ble_eq_true rfl⟩ ⟨Nat.le_of_ble_eq_true rfl, Nat.le_of_ble_eq_true rfl⟩ hl.1 rfl (Nat.le_of_ble_eq_true rfl) d6_init_163) (fun u25 H locs hu hP hD hS => ?_)
  subst hu
  rw [List.append_assoc] at hP hD
  have hP : va_P w.1 vwCl (((a, .inr (6, [.ref (u2 0), .ref (u4 0), .ref (u6 0), .ref (u8 0), .ref (u10 0), .ref q11, .ref (u13 0), .ref (u15 0), .ref (u17 0), .ref (u19 0), .int 0, .int 0, .int 0])) :: (lst5 w u2 ++ lst0 w u4 ++ lst0 w u6 ++ lst4 w u8 ++ lst4 w u10)) ++ [(q11, .inl (w.2.1 2, 4, .inr (.inr (.inr (.inr (va_up (va_up (fun _ => none) 0 (some (u21 0))) 1 (some (u23 0))))))))] ++ (lst1 w ((u4 0)) ((u10 0)) u13 ++ lst3_8 w u15 ++ lst3_2 w u17 ++ lst2 w (lim8 8) u19 ++ lst1 w ((u4 0)) ((u8 0)) u21 ++ lst1 w ((u4 0)) ((u8 0)) u23 ++ lst1 w ((u4 0)) ((u8 0)) u25)) H := hP
  have hD : va_D A (((a, .inr (6, [.ref (u2 0), .ref (u4 0), .ref (u6 0), .ref (u8 0), .ref (u10 0), .ref q11, .ref (u13 0), .ref (u15 0), .ref (u17 0), .ref (u19 0), .int 0, .int 0, .int 0])) :: (lst5 w u2 ++ lst0 w u4 ++ lst0 w u6 ++ lst4 w u8 ++ lst4 w u10)) ++ [(q11, .inl (w.2.1 2, 4, .inr (.inr (.inr (.inr (va_up (va_up (fun _ => none) 0 (some (u21 0))) 1 (some (u23 0))))))))] ++ (lst1 w ((u4 0)) ((u10 0)) u13 ++ lst3_8 w u15 ++ lst3_2 w u17 ++ lst2 w (lim8 8) u19 ++ lst1 w ((u4 0)) ((u8 0)) u21 ++ lst1 w ((u4 0)) ((u8 0)) u23 ++ lst1 w ((u4 0)) ((u8 0)) u25)) := hD
  refine x_ast (t0 := 2) (ci := 1) S hK hP hD hS rfl (List.mem_append_right _ List.mem_cons_self) rfl (vin (by decide)) d6_init_166 (fun H locs hP hD hS => ?_)
  have hP : va_P w.1 vwCl (((a, .inr (6, [.ref (u2 0), .ref (u4 0), .ref (u6 0), .ref (u8 0), .ref (u10 0), .ref q11, .ref (u13 0), .ref (u15 0), .ref (u17 0), .ref (u19 0), .int 0, .int 0, .int 0])) :: (lst5 w u2 ++ lst0 w u4 ++ lst0 w u6 ++ lst4 w u8 ++ lst4 w u10)) ++ [(q11, .inl (w.2.1 2, 4, .inr (.inr (.inr (.inr (va_up (va_up (va_up (fun _ => none) 0 (some (u21 0))) 1 (some (u23 0))) 2 (some (u25 0))))))))] ++ (lst1 w ((u4 0)) ((u10 0)) u13 ++ lst3_8 w u15 ++ lst3_2 w u17 ++ lst2 w (lim8 8) u19 ++ lst1 w ((u4 0)) ((u8 0)) u21 ++ lst1 w ((u4 0)) ((u8 0)) u23 ++ lst1 w ((u4 0)) ((u8 0)) u25)) H := hP
  have hD : va_D A (((a, .inr (6, [.ref (u2 0), .ref (u4 0), .ref (u6 0), .ref (u8 0), .ref (u10 0), .ref q11, .ref (u13 0), .ref (u15 0), .ref (u17 0), .ref (u19 0), .int 0, .int 0, .int 0])) :: (lst5 w u2 ++ lst0 w u4 ++ lst0 w u6 ++ lst4 w u8 ++ lst4 w u10)) ++ [(q11, .inl (w.2.1 2, 4, .inr (.inr (.inr (.inr (va_up (va_up (va_up (fun _ => none) 0 (some (u21 0))) 1 (some (u23 0))) 2 (some (u25 0))))))))] ++ (lst1 w ((u4 0)) ((u10 0)) u13 ++ lst3_8 w u15 ++ lst3_2 w u17 ++ lst2 w (lim8 8) u19 ++ lst1 w ((u4 0)) ((u8 0)) u21 ++ lst1 w ((u4 0)) ((u8 0)) u23 ++ lst1 w ((u4 0)) ((u8 0)) u25)) := hD
  refine lv_iinc (v := 3) (lv' := [(1, .int 3), (0, .ref a)]) hx hb d6_init_167 hl (k := 0) rfl (by decide) (by decide) rfl (fun ls hl => ?_)
  refine lv_goto (tgt := 141) hx hb d6_init_170 (by decide) ?_
  refine lv_iload_n hx hb d6_init_141 rfl (lv_at hl 0 rfl) ?_
  refine lv_iconst (v := 4) hx hb d6_init_142 (by decide) ?_
  refine lv_icmp_ge (tgt := 173) hx hb d6_init_143 (by decide) (fun hc => absurd hc (by decide)) (fun _ => ?_)
  refine lv_aload_n hx hb d6_init_146 rfl (lv_at hl 1 rfl) ?_
  refine va_get (D := w.1) (ci := 6) (v := .ref q11) (C := RX6) (T := TX6) (N := 13) hx hb hts inX6 hown hK hP 0 rfl rfl 5 (by decide) (hts _ (gt_at 478 (by decide +kernel) (by decide +kernel))) (fun _ h9 => h9) rfl d6_init_147 ?_
  refine lv_iload_n hx hb d6_init_150 rfl (lv_at hl 0 rfl) ?_
  refine va_new (D := w.1) (ci := 1) (fs := dfl1) (C := RX1) (T := TX1) (N := 19) hx hb hts inX1 tyX1 tyX1_ok hown (hts _ (gt_at 190 (by decide +kernel) (by decide +kernel))) (hts _ (gt_at 192 (by decide +kernel) (by decide +kernel))) (hts _ (gt_at 80 (by decide +kernel) (by decide +kernel))) hK hP hD hS hA rfl df1 (Nat.le_of_ble_eq_true rfl) (Nat.le_of_ble_eq_true rfl) d6_init_151 (fun q26 H hP hD hS => ?_)
  refine lv_dup hx hb d6_init_154 rfl ?_
  refine lv_aload_n hx hb d6_init_155 rfl (lv_at hl 1 rfl) ?_
  refine va_get (D := w.1) (ci := 6) (v := .ref (u4 0)) (C := RX6) (T := TX6) (N := 13) hx hb hts inX6 hown hK hP 0 rfl rfl 1 (by decide) (hts _ (gt_at 474 (by decide +kernel) (by decide +kernel))) (fun _ h9 => h9) rfl d6_init_156 ?_
  refine lv_aload_n hx hb d6_init_159 rfl (lv_at hl 1 rfl) ?_
  refine va_get (D := w.1) (ci := 6) (v := .ref (u8 0)) (C := RX6) (T := TX6) (N := 13) hx hb hts inX6 hown hK hP 0 rfl rfl 3 (by decide) (hts _ (gt_at 476 (by decide +kernel) (by decide +kernel))) (fun _ h9 => h9) rfl d6_init_160 ?_
  have hPo := hP
  have hDo := hD
  clear hP hD
  refine x_end hPo hDo hS hA (run_I (n := 2) (As := [.ref (u4 0), .ref (u8 0)]) (bl := .inr (1, dfl1)) S (gt_at 193 (by decide +kernel) (by decide +kernel)) (gt_at 194 (by decide +kernel) (by decide +kernel)) (gt_at 80 (by decide +kernel) (by decide +kernel)) (gt_at 195 (by decide +kernel) (by decide +kernel)) (by decide +kernel) rfl rfl (ci1 l w q26 H.size ((u4 0)) ((u8 0))) (x_pre hK hN hPo (fun _ _ _ _ _ => trivial) (fun _ _ _ => trivial)) ⟨rfl, rfl⟩ ⟨Nat.le_of_ble_eq_true rfl, Nat.le_of_ble_eq_true rfl⟩ ⟨Nat.le_of_ble_eq_true rfl, Nat.le_of_ble_eq_true rfl⟩ hl.1 rfl (Nat.le_of_ble_eq_true rfl) d6_init_163) (fun u27 H locs hu hP hD hS => ?_)
  subst hu
  rw [List.append_assoc] at hP hD
  have hP : va_P w.1 vwCl (((a, .inr (6, [.ref (u2 0), .ref (u4 0), .ref (u6 0), .ref (u8 0), .ref (u10 0), .ref q11, .ref (u13 0), .ref (u15 0), .ref (u17 0), .ref (u19 0), .int 0, .int 0, .int 0])) :: (lst5 w u2 ++ lst0 w u4 ++ lst0 w u6 ++ lst4 w u8 ++ lst4 w u10)) ++ [(q11, .inl (w.2.1 2, 4, .inr (.inr (.inr (.inr (va_up (va_up (va_up (fun _ => none) 0 (some (u21 0))) 1 (some (u23 0))) 2 (some (u25 0))))))))] ++ (lst1 w ((u4 0)) ((u10 0)) u13 ++ lst3_8 w u15 ++ lst3_2 w u17 ++ lst2 w (lim8 8) u19 ++ lst1 w ((u4 0)) ((u8 0)) u21 ++ lst1 w ((u4 0)) ((u8 0)) u23 ++ lst1 w ((u4 0)) ((u8 0)) u25 ++ lst1 w ((u4 0)) ((u8 0)) u27)) H := hP
  have hD : va_D A (((a, .inr (6, [.ref (u2 0), .ref (u4 0), .ref (u6 0), .ref (u8 0), .ref (u10 0), .ref q11, .ref (u13 0), .ref (u15 0), .ref (u17 0), .ref (u19 0), .int 0, .int 0, .int 0])) :: (lst5 w u2 ++ lst0 w u4 ++ lst0 w u6 ++ lst4 w u8 ++ lst4 w u10)) ++ [(q11, .inl (w.2.1 2, 4, .inr (.inr (.inr (.inr (va_up (va_up (va_up (fun _ => none) 0 (some (u21 0))) 1 (some (u23 0))) 2 (some (u25 0))))))))] ++ (lst1 w ((u4 0)) ((u10 0)) u13 ++ lst3_8 w u15 ++ lst3_2 w u17 ++ lst2 w (lim8 8) u19 ++ lst1 w ((u4 0)) ((u8 0)) u21 ++ lst1 w ((u4 0)) ((u8 0)) u23 ++ lst1 w ((u4 0)) ((u8 0)) u25 ++ lst1 w ((u4 0)) ((u8 0)) u27)) := hD
  refine x_ast (t0 := 2) (ci := 1) S hK hP hD hS rfl (List.mem_append_right _ List.mem_cons_self) rfl (vin (by decide)) d6_init_166 (fun H locs hP hD hS => ?_)
  have hP : va_P w.1 vwCl (((a, .inr (6, [.ref (u2 0), .ref (u4 0), .ref (u6 0), .ref (u8 0), .ref (u10 0), .ref q11, .ref (u13 0), .ref (u15 0), .ref (u17 0), .ref (u19 0), .int 0, .int 0, .int 0])) :: (lst5 w u2 ++ lst0 w u4 ++ lst0 w u6 ++ lst4 w u8 ++ lst4 w u10)) ++ [(q11, .inl (w.2.1 2, 4, .inr (.inr (.inr (.inr (va_up (va_up (va_up (va_up (fun _ => none) 0 (some (u21 0))) 1 (some (u23 0))) 2 (some (u25 0))) 3 (some (u27 0))))))))] ++ (lst1 w ((u4 0)) ((u10 0)) u13 ++ lst3_8 w u15 ++ lst3_2 w u17 ++ lst2 w (lim8 8) u19 ++ lst1 w ((u4 0)) ((u8 0)) u21 ++ lst1 w ((u4 0)) ((u8 0)) u23 ++ lst1 w ((u4 0)) ((u8 0)) u25 ++ lst1 w ((u4 0)) ((u8 0)) u27)) H := hP
  have hD : va_D A (((a, .inr (6, [.ref (u2 0), .ref (u4 0), .ref (u6 0), .ref (u8 0), .ref (u10 0), .ref q11, .ref (u13 0), .ref (u15 0), .ref (u17 0), .ref (u19 0), .int 0, .int 0, .int 0])) :: (lst5 w u2 ++ lst0 w u4 ++ lst0 w u6 ++ lst4 w u8 ++ lst4 w u10)) ++ [(q11, .inl (w.2.1 2, 4, .inr (.inr (.inr (.inr (va_up (va_up (va_up (va_up (fun _ => none) 0 (some (u21 0))) 1 (some (u23 0))) 2 (some (u25 0))) 3 (some (u27 0))))))))] ++ (lst1 w ((u4 0)) ((u10 0)) u13 ++ lst3_8 w u15 ++ lst3_2 w u17 ++ lst2 w (lim8 8) u19 ++ lst1 w ((u4 0)) ((u8 0)) u21 ++ lst1 w ((u4 0)) ((u8 0)) u23 ++ lst1 w ((u4 0)) ((u8 0)) u25 ++ lst1 w ((u4 0)) ((u8 0)) u27)) := hD
  refine lv_iinc (v := 4) (lv' := [(1, .int 4), (0, .ref a)]) hx hb d6_init_167 hl (k := 0) rfl (by decide) (by decide) rfl (fun ls hl => ?_)
  refine lv_goto (tgt := 141) hx hb d6_init_170 (by decide) ?_
  refine lv_iload_n hx hb d6_init_141 rfl (lv_at hl 0 rfl) ?_
  refine lv_iconst (v := 4) hx hb d6_init_142 (by decide) ?_
  refine lv_icmp_ge (tgt := 173) hx hb d6_init_143 (by decide) (fun _ => ?_) (fun hc => absurd (by decide) hc)
  obtain ⟨w2, hw⟩ : ∃ w2 : WV, w2 = (w.1, w.2.1, adC a q11 u2 u4 u6 u8 u10 u13 u15 u17 u19 u21 u23 u25 u27) := ⟨_, rfl⟩
  have haw : w2.2.2 0 = a := by rw [hw]; rfl
  have hP9 : va_P w.1 vwCl (wl EC LC w2 s0C) H := by
    rw [hw, wlC]
    refine regroupP (fun h => ?_) (fun h => ?_) (fun h => ?_) hP
    · exact h.refs (k := 0) (g := fun i => some (adC a q11 u2 u4 u6 u8 u10 u13 u15 u17 u19 u21 u23 u25 u27 (42 + 8 * i))) rfl (fun j hj => by match j, hj with | 0, _ => rfl | 1, _ => rfl | 2, _ => rfl | 3, _ => rfl)
    · exact h.refs (k := 1) (g := fun i => some (adC a q11 u2 u4 u6 u8 u10 u13 u15 u17 u19 u21 u23 u25 u27 ((s0C 83 i).toNatClampNeg))) rfl (fun j hj => by match j, hj with | 0, _ => rfl | 1, _ => rfl | 2, _ => rfl | 3, _ => rfl | 4, _ => rfl | 5, _ => rfl | 6, _ => rfl | 7, _ => rfl)
    · exact h.refs (k := 1) (g := fun i => some (adC a q11 u2 u4 u6 u8 u10 u13 u15 u17 u19 u21 u23 u25 u27 ((s0C 125 i).toNatClampNeg))) rfl (fun j hj => by match j, hj with | 0, _ => rfl | 1, _ => rfl)
  have hD9 : va_D A (wl EC LC w2 s0C) := by
    rw [hw, wlC]
    refine regroupD ?_ ?_ ?_ hD <;> rfl
  clear hP hD
  obtain ⟨hI, hsub⟩ := Inj_of (by decide +kernel) hD9
  have hK : KS LC w2 s := ⟨by rw [hw]; exact hK, hI, hN⟩
  have hR : Rp EC LC w2 s0C H := by unfold Rp; rw [show w2.1 = w.1 by rw [hw]]; exact hP9
  refine W.widen (k := 138) (n := 2858) (Nat.le_of_ble_eq_true rfl) (Nat.le_of_ble_eq_true rfl) ?_
  refine lv_iconst (v := 0) hx hb d6_init_173 (by decide) ?_
  refine lv_istore_n (lv' := [(1, .int 0), (0, .ref a)]) hx hb d6_init_174 rfl hl (by decide) rfl (fun ls hl => ?_)
  have hl : lv_has ls 2 [(0, .ref (w2.2.2 0)), (1, .int (nI 0))] := by rw [haw]; exact lv_sub hl [1, 0] rfl
  refine t6_init S hK hsub hXS0 hX.2.2.2 (fun H locs ls hR hS => ?_) 1000 s0C 0 h0 H locs hR hS (by decide) ls hl
  have hRt : ∀ t : State, t.heap = H → Rp EC LC (w.1, w.2.1, adC a q11 u2 u4 u6 u8 u10 u13 u15 u17 u19 u21 u23 u25 u27) σz t.heap := fun t ht => by rw [ht, ← hw]; exact hR
  have hIt : Inj LC (w.1, w.2.1, adC a q11 u2 u4 u6 u8 u10 u13 u15 u17 u19 u21 u23 u25 u27) := by rw [← hw]; exact hK.2.1
  have hsubt : ∀ q, AW LC (w.1, w.2.1, adC a q11 u2 u4 u6 u8 u10 u13 u15 u17 u19 u21 u23 u25 u27) q → A q := by rw [← hw]; exact hsub
  have hFt : ∀ t : State, t.heap = H → va_F A s t := fun t ht => hS.F ht
  have hQ : ∀ t : State, t.heap = H → s.WarmedH t.vm → QI EC LC w a σz A [Value.ref a].toArray s (.returned none) t := fun t ht _ => ⟨rfl, ⟨adC a q11 u2 u4 u6 u8 u10 u13 u15 u17 u19 u21 u23 u25 u27, rfl, hRt t ht, hIt, hsubt⟩, hFt t ht⟩
  exact W.vret hx hb hr hQ hS.2.2 d6_init_217 hlk
