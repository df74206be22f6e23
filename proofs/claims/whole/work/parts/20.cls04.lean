/-! FourTenGates.isTrain(I)Z -/
abbrev rm6_isTrain : Room := { frames := 1, cells := 0, slots := 0, locals := 22 }
theorem d6_isTrain_0 : decode cX6_isTrain 0 = .ok (.iload_n 1, 1) := by decide +kernel
theorem d6_isTrain_1 : decode cX6_isTrain 1 = .ok (.iconst 0, 1) := by decide +kernel
theorem d6_isTrain_2 : decode cX6_isTrain 2 = .ok (.aload_n 0, 1) := by decide +kernel
theorem d6_isTrain_3 : decode cX6_isTrain 3 = .ok (.getfield 19, 3) := by decide +kernel
theorem d6_isTrain_6 : decode cX6_isTrain 6 = .ok (.getfield 113, 3) := by decide +kernel
theorem d6_isTrain_9 : decode cX6_isTrain 9 = .ok (.invokevirtual 116, 3) := by decide +kernel
theorem d6_isTrain_12 : decode cX6_isTrain 12 = .ok (.iconst 1, 1) := by decide +kernel
theorem d6_isTrain_13 : decode cX6_isTrain 13 = .ok (.isub, 1) := by decide +kernel
theorem d6_isTrain_14 : decode cX6_isTrain 14 = .ok (.invokestatic 102, 3) := by decide +kernel
theorem d6_isTrain_17 : decode cX6_isTrain 17 = .ok (.ireturn, 1) := by decide +kernel
def f6_isTrain (σ : Mem) (x1 : Int32) : Option Int32 := Option.bind (f2_size σ 4) fun r1 => Option.bind (f6_between x1 0 (r1 - 1)) fun r2 => if r2 = 0 ∨ r2 = 1 then some r2 else none
set_option maxHeartbeats 4000000 in
set_option maxRecDepth 100000 in
theorem c6_isTrain (l : Launch) {w : WV} {σ : Mem} {x1 : Int32} {r : Int32} (h0 : f6_isTrain σ x1 = some r) : Met l yX6_isTrain (wy yX6_isTrain cX6_isTrain 2 (some .boolean)) rm6_isTrain (Pw EC LC w [.ref (w.2.2 0), .int x1] σ) (Qp (.int r)) 0 0 (fun _ => False) := by
  refine mk_met (by decide) (Nat.le_of_ble_eq_true rfl) ?_
  intro p e s m below meth c S hr hlk hK hR ls hl
  obtain ⟨hx, hb, hml, hown, hts⟩ := id S
  have hl : lv_has ls 2 [(0, .ref (w.2.2 0)), (1, .int x1)] := hl
  unfold f6_isTrain at h0
  refine lv_iload_n hx hb d6_isTrain_0 rfl (lv_at hl 1 rfl) ?_
  refine lv_iconst (v := 0) hx hb d6_isTrain_1 (by decide) ?_
  refine lv_aload_n hx hb d6_isTrain_2 rfl (lv_at hl 0 rfl) ?_
  refine g6_19 S hK hR d6_isTrain_3 ?_
  refine g6_113 S hK hR (by decide) rfl d6_isTrain_6 ?_
  obtain ⟨r1, hr1, h0⟩ := og_b h0
  refine k6_116 S hK hR (by decide) hr1 ⟨Nat.zero_le _, Nat.zero_le _⟩ ⟨Nat.le_of_ble_eq_true rfl, Nat.le_of_ble_eq_true rfl⟩ hl.1 (Nat.le_of_ble_eq_true rfl) d6_isTrain_9 ?_
  refine lv_iconst (v := 1) hx hb d6_isTrain_12 (by decide) ?_
  refine lv_isub hx hb d6_isTrain_13 ?_
  obtain ⟨r2, hr2, h0⟩ := og_b h0
  refine k6_102 S  hr2 ⟨Nat.zero_le _, Nat.zero_le _⟩ ⟨Nat.le_of_ble_eq_true rfl, Nat.le_of_ble_eq_true rfl⟩ hl.1 (Nat.le_of_ble_eq_true rfl) d6_isTrain_14 ?_
  obtain ⟨hb0, h0⟩ := og_if h0
  exact q_zpure S hr hlk hb0 h0 d6_isTrain_17
set_option maxHeartbeats 4000000 in
set_option maxRecDepth 100000 in
theorem k6_117 {p : Program} {l : Launch} {e : Env} {R : Room} {s : State} {m : MethodId} {args : Array Value} {below : List Frame} {meth : Method} {c : Code} {H : Heap} {locs : List Loc} {cells slots : Nat} {Q : State → Prop} {cc : ByteArray} {pc nL : Nat} {ls : Array Slot} {rest : List Value} {w : WV} {σ : Mem} {x1 : Int32} {r : Int32} (S : CallFix p m c cc nL s args gtbl RX6) (hK : KS LC w s) (hR : Rp EC LC w σ H) (h0 : f6_isTrain σ x1 = some r) (hf : cells + 0 ≤ R.cells ∧ slots + 0 ≤ R.slots) (hRm : rm6_isTrain.frames + 1 ≤ R.frames ∧ 8 + (2 + 11) + rm6_isTrain.locals ≤ R.locals) (hl : ls.size = nL) (hW : (rest.map fun v => v.category).sum ≤ 8) (hdg : decode cc pc = .ok (.invokevirtual 117, 3)) (kk : W p l e R s m args below meth c H locs cells slots Q (F0 m (pc + 3) ls (.int r :: rest))) : W p l e R s m args below meth c H locs cells slots Q (F0 m pc ls (.int x1 :: .ref (w.2.2 0) :: rest)) := r_endp (run_V (n := 1) (As := [.int x1]) S hK hR (by decide) (eC_6 w _) rfl (gw_V (gt_at 539 (by decide +kernel) (by decide +kernel)) (gt_at 541 (by decide +kernel) (by decide +kernel)) (gt_at 10 (by decide +kernel) (by decide +kernel)) (gt_at 74 (by decide +kernel) (by decide +kernel)) (gt_at 542 (by decide +kernel) (by decide +kernel))) (by decide +kernel) rfl (c6_isTrain l h0) ⟨rfl, rfl⟩ hRm hf hl rfl hW hdg) kk
/-! FourTenGates.bellOf(I)I -/
abbrev rm6_bellOf : Room := { frames := 3, cells := 0, slots := 0, locals := 65 }
theorem d6_bellOf_0 : decode cX6_bellOf 0 = .ok (.aload_n 0, 1) := by decide +kernel
theorem d6_bellOf_1 : decode cX6_bellOf 1 = .ok (.getfield 19, 3) := by decide +kernel
theorem d6_bellOf_4 : decode cX6_bellOf 4 = .ok (.getfield 113, 3) := by decide +kernel
theorem d6_bellOf_7 : decode cX6_bellOf 7 = .ok (.iload_n 1, 1) := by decide +kernel
theorem d6_bellOf_8 : decode cX6_bellOf 8 = .ok (.invokevirtual 124, 3) := by decide +kernel
theorem d6_bellOf_11 : decode cX6_bellOf 11 = .ok (.aload_n 0, 1) := by decide +kernel
theorem d6_bellOf_12 : decode cX6_bellOf 12 = .ok (.getfield 29, 3) := by decide +kernel
theorem d6_bellOf_15 : decode cX6_bellOf 15 = .ok (.aload_n 0, 1) := by decide +kernel
theorem d6_bellOf_16 : decode cX6_bellOf 16 = .ok (.getfield 19, 3) := by decide +kernel
theorem d6_bellOf_19 : decode cX6_bellOf 19 = .ok (.getfield 113, 3) := by decide +kernel
theorem d6_bellOf_22 : decode cX6_bellOf 22 = .ok (.iload_n 1, 1) := by decide +kernel
theorem d6_bellOf_23 : decode cX6_bellOf 23 = .ok (.invokevirtual 277, 3) := by decide +kernel
theorem d6_bellOf_26 : decode cX6_bellOf 26 = .ok (.invokestatic 281, 3) := by decide +kernel
theorem d6_bellOf_29 : decode cX6_bellOf 29 = .ok (.istore_n 2, 1) := by decide +kernel
theorem d6_bellOf_30 : decode cX6_bellOf 30 = .ok (.iload_n 2, 1) := by decide +kernel
theorem d6_bellOf_31 : decode cX6_bellOf 31 = .ok (.sipush 360, 3) := by decide +kernel
theorem d6_bellOf_34 : decode cX6_bellOf 34 = .ok (.if_icmp .ge 7, 3) := by decide +kernel
theorem d6_bellOf_37 : decode cX6_bellOf 37 = .ok (.iload_n 2, 1) := by decide +kernel
theorem d6_bellOf_38 : decode cX6_bellOf 38 = .ok (.goto 5, 3) := by decide +kernel
theorem d6_bellOf_41 : decode cX6_bellOf 41 = .ok (.bipush (-4), 2) := by decide +kernel
theorem d6_bellOf_43 : decode cX6_bellOf 43 = .ok (.ireturn, 1) := by decide +kernel
def f6_bellOf (σ : Mem) (x1 : Int32) : Option Int32 := Option.bind (f2_second σ 4 x1) fun r1 => Option.bind (f4_comingOf σ 31 4 x1) fun r2 => Option.bind (f6_bellBeat r1 r2) fun r3 => if 360 ≤ r3 then some (-4) else some r3
set_option maxHeartbeats 4000000 in
set_option maxRecDepth 100000 in
theorem c6_bellOf (l : Launch) {w : WV} {σ : Mem} {x1 : Int32} {r : Int32} (h0 : f6_bellOf σ x1 = some r) : Met l yX6_bellOf (wy yX6_bellOf cX6_bellOf 3 (some .int)) rm6_bellOf (Pw EC LC w [.ref (w.2.2 0), .int x1] σ) (Qp (.int r)) 0 0 (fun _ => False) := by
  refine mk_met (by decide) (Nat.le_of_ble_eq_true rfl) ?_
  intro p e s m below meth c S hr hlk hK hR ls hl
  obtain ⟨hx, hb, hml, hown, hts⟩ := id S
  have hl : lv_has ls 3 [(0, .ref (w.2.2 0)), (1, .int x1)] := hl
  unfold f6_bellOf at h0
  refine lv_aload_n hx hb d6_bellOf_0 rfl (lv_at hl 0 rfl) ?_
  refine g6_19 S hK hR d6_bellOf_1 ?_
  refine g6_113 S hK hR (by decide) rfl d6_bellOf_4 ?_
  refine lv_iload_n hx hb d6_bellOf_7 rfl (lv_at hl 1 rfl) ?_
  obtain ⟨r1, hr1, h0⟩ := og_b h0
  refine k6_124 S hK hR (by decide) hr1 ⟨Nat.zero_le _, Nat.zero_le _⟩ ⟨Nat.le_of_ble_eq_true rfl, Nat.le_of_ble_eq_true rfl⟩ hl.1 (Nat.le_of_ble_eq_true rfl) d6_bellOf_8 ?_
  refine lv_aload_n hx hb d6_bellOf_11 rfl (lv_at hl 0 rfl) ?_
  refine g6_29 S hK hR d6_bellOf_12 ?_
  refine lv_aload_n hx hb d6_bellOf_15 rfl (lv_at hl 0 rfl) ?_
  refine g6_19 S hK hR d6_bellOf_16 ?_
  refine g6_113 S hK hR (by decide) rfl d6_bellOf_19 ?_
  refine lv_iload_n hx hb d6_bellOf_22 rfl (lv_at hl 1 rfl) ?_
  obtain ⟨r2, hr2, h0⟩ := og_b h0
  refine k6_277 S hK hR (by decide) (by decide) hr2 ⟨Nat.zero_le _, Nat.zero_le _⟩ ⟨Nat.le_of_ble_eq_true rfl, Nat.le_of_ble_eq_true rfl⟩ hl.1 (Nat.le_of_ble_eq_true rfl) d6_bellOf_23 ?_
  obtain ⟨r3, hr3, h0⟩ := og_b h0
  refine k6_281 S  hr3 ⟨Nat.zero_le _, Nat.zero_le _⟩ ⟨Nat.le_of_ble_eq_true rfl, Nat.le_of_ble_eq_true rfl⟩ hl.1 (Nat.le_of_ble_eq_true rfl) d6_bellOf_26 ?_
  refine lv_istore_n (lv' := [(2, .int r3), (0, .ref (w.2.2 0)), (1, .int x1)]) hx hb d6_bellOf_29 rfl hl (by decide) rfl (fun ls hl => ?_)
  refine lv_iload_n hx hb d6_bellOf_30 rfl (lv_at hl 0 rfl) ?_
  refine lv_sipush (v := 360) hx hb d6_bellOf_31 (by decide) ?_
  refine lv_icmp_ge (tgt := 41) hx hb d6_bellOf_34 (by decide) (fun hc4 => ?_) (fun hc4 => ?_)
  · have h0 := og_t hc4 h0
    refine lv_bipush (v := (-4)) hx hb d6_bellOf_41 (by decide) ?_
    exact q_ipure S hr hlk h0 d6_bellOf_43
  · have h0 := og_f hc4 h0
    refine lv_iload_n hx hb d6_bellOf_37 rfl (lv_at hl 0 rfl) ?_
    refine lv_goto (tgt := 43) hx hb d6_bellOf_38 (by decide) ?_
    exact q_ipure S hr hlk h0 d6_bellOf_43
set_option maxHeartbeats 4000000 in
set_option maxRecDepth 100000 in
theorem k6_130 {p : Program} {l : Launch} {e : Env} {R : Room} {s : State} {m : MethodId} {args : Array Value} {below : List Frame} {meth : Method} {c : Code} {H : Heap} {locs : List Loc} {cells slots : Nat} {Q : State → Prop} {cc : ByteArray} {pc nL : Nat} {ls : Array Slot} {rest : List Value} {w : WV} {σ : Mem} {x1 : Int32} {r : Int32} (S : CallFix p m c cc nL s args gtbl RX6) (hK : KS LC w s) (hR : Rp EC LC w σ H) (h0 : f6_bellOf σ x1 = some r) (hf : cells + 0 ≤ R.cells ∧ slots + 0 ≤ R.slots) (hRm : rm6_bellOf.frames + 1 ≤ R.frames ∧ 8 + (3 + 11) + rm6_bellOf.locals ≤ R.locals) (hl : ls.size = nL) (hW : (rest.map fun v => v.category).sum ≤ 8) (hdg : decode cc pc = .ok (.invokevirtual 130, 3)) (kk : W p l e R s m args below meth c H locs cells slots Q (F0 m (pc + 3) ls (.int r :: rest))) : W p l e R s m args below meth c H locs cells slots Q (F0 m pc ls (.int x1 :: .ref (w.2.2 0) :: rest)) := r_endp (run_V (n := 1) (As := [.int x1]) S hK hR (by decide) (eC_6 w _) rfl (gw_V (gt_at 550 (by decide +kernel) (by decide +kernel)) (gt_at 552 (by decide +kernel) (by decide +kernel)) (gt_at 11 (by decide +kernel) (by decide +kernel)) (gt_at 74 (by decide +kernel) (by decide +kernel)) (gt_at 553 (by decide +kernel) (by decide +kernel))) (by decide +kernel) rfl (c6_bellOf l h0) ⟨rfl, rfl⟩ hRm hf hl rfl hW hdg) kk
/-! FourTenGates.train(II)I -/
abbrev rm6_train : Room := { frames := 4, cells := 0, slots := 0, locals := 87 }
theorem d6_train_0 : decode cX6_train 0 = .ok (.aload_n 0, 1) := by decide +kernel
theorem d6_train_1 : decode cX6_train 1 = .ok (.iload_n 1, 1) := by decide +kernel
theorem d6_train_2 : decode cX6_train 2 = .ok (.invokevirtual 117, 3) := by decide +kernel
theorem d6_train_5 : decode cX6_train 5 = .ok (.ifCond .eq 12, 3) := by decide +kernel
theorem d6_train_8 : decode cX6_train 8 = .ok (.iload_n 2, 1) := by decide +kernel
theorem d6_train_9 : decode cX6_train 9 = .ok (.iconst 0, 1) := by decide +kernel
theorem d6_train_10 : decode cX6_train 10 = .ok (.iconst 3, 1) := by decide +kernel
theorem d6_train_11 : decode cX6_train 11 = .ok (.invokestatic 102, 3) := by decide +kernel
theorem d6_train_14 : decode cX6_train 14 = .ok (.ifCond .ne 5, 3) := by decide +kernel
theorem d6_train_17 : decode cX6_train 17 = .ok (.iconst (-1), 1) := by decide +kernel
theorem d6_train_18 : decode cX6_train 18 = .ok (.ireturn, 1) := by decide +kernel
theorem d6_train_19 : decode cX6_train 19 = .ok (.iload_n 2, 1) := by decide +kernel
theorem d6_train_20 : decode cX6_train 20 = .ok (.tableswitch 61 0 2 #[28, 40, 52], 28) := by decide +kernel
theorem d6_train_48 : decode cX6_train 48 = .ok (.aload_n 0, 1) := by decide +kernel
theorem d6_train_49 : decode cX6_train 49 = .ok (.getfield 19, 3) := by decide +kernel
theorem d6_train_52 : decode cX6_train 52 = .ok (.getfield 113, 3) := by decide +kernel
theorem d6_train_55 : decode cX6_train 55 = .ok (.iload_n 1, 1) := by decide +kernel
theorem d6_train_56 : decode cX6_train 56 = .ok (.invokevirtual 120, 3) := by decide +kernel
theorem d6_train_59 : decode cX6_train 59 = .ok (.ireturn, 1) := by decide +kernel
theorem d6_train_60 : decode cX6_train 60 = .ok (.aload_n 0, 1) := by decide +kernel
theorem d6_train_61 : decode cX6_train 61 = .ok (.getfield 19, 3) := by decide +kernel
theorem d6_train_64 : decode cX6_train 64 = .ok (.getfield 113, 3) := by decide +kernel
theorem d6_train_67 : decode cX6_train 67 = .ok (.iload_n 1, 1) := by decide +kernel
theorem d6_train_68 : decode cX6_train 68 = .ok (.invokevirtual 124, 3) := by decide +kernel
theorem d6_train_71 : decode cX6_train 71 = .ok (.ireturn, 1) := by decide +kernel
theorem d6_train_72 : decode cX6_train 72 = .ok (.aload_n 0, 1) := by decide +kernel
theorem d6_train_73 : decode cX6_train 73 = .ok (.getfield 29, 3) := by decide +kernel
theorem d6_train_76 : decode cX6_train 76 = .ok (.iload_n 1, 1) := by decide +kernel
theorem d6_train_77 : decode cX6_train 77 = .ok (.invokevirtual 127, 3) := by decide +kernel
theorem d6_train_80 : decode cX6_train 80 = .ok (.ireturn, 1) := by decide +kernel
theorem d6_train_81 : decode cX6_train 81 = .ok (.aload_n 0, 1) := by decide +kernel
theorem d6_train_82 : decode cX6_train 82 = .ok (.iload_n 1, 1) := by decide +kernel
theorem d6_train_83 : decode cX6_train 83 = .ok (.invokevirtual 130, 3) := by decide +kernel
theorem d6_train_86 : decode cX6_train 86 = .ok (.ireturn, 1) := by decide +kernel
def f6_train (σ : Mem) (x1 : Int32) (x2 : Int32) : Option Int32 := Option.bind (f6_isTrain σ x1) fun r1 => if r1 = 0 then some (-1) else Option.bind (f6_between x2 0 3) fun r3 => if r3 = 0 then some (-1) else if x2 = 0 then Option.bind (f2_first σ 4 x1) fun r6 => some r6 else if x2 = 1 then Option.bind (f2_second σ 4 x1) fun r7 => some r7 else if x2 = 2 then Option.bind (f4_lateOf σ 31 x1) fun r8 => some r8 else Option.bind (f6_bellOf σ x1) fun r8 => some r8
set_option maxHeartbeats 4000000 in
set_option maxRecDepth 100000 in
theorem c6_train (l : Launch) {w : WV} {σ : Mem} {x1 : Int32} {x2 : Int32} {r : Int32} (h0 : f6_train σ x1 x2 = some r) : Met l yX6_train (wy yX6_train cX6_train 3 (some .int)) rm6_train (Pw EC LC w [.ref (w.2.2 0), .int x1, .int x2] σ) (Qp (.int r)) 0 0 (fun _ => False) := by
  refine mk_met (by decide) (Nat.le_of_ble_eq_true rfl) ?_
  intro p e s m below meth c S hr hlk hK hR ls hl
  obtain ⟨hx, hb, hml, hown, hts⟩ := id S
  have hl : lv_has ls 3 [(0, .ref (w.2.2 0)), (1, .int x1), (2, .int x2)] := hl
  unfold f6_train at h0
  refine lv_aload_n hx hb d6_train_0 rfl (lv_at hl 0 rfl) ?_
  refine lv_iload_n hx hb d6_train_1 rfl (lv_at hl 1 rfl) ?_
  obtain ⟨r1, hr1, h0⟩ := og_b h0
  refine k6_117 S hK hR  hr1 ⟨Nat.zero_le _, Nat.zero_le _⟩ ⟨Nat.le_of_ble_eq_true rfl, Nat.le_of_ble_eq_true rfl⟩ hl.1 (Nat.le_of_ble_eq_true rfl) d6_train_2 ?_
  refine lv_if_eq (tgt := 17) hx hb d6_train_5 (by decide) (fun hc2 => ?_) (fun hc2 => ?_)
  · have h0 := og_t hc2 h0
    refine lv_iconst (v := (-1)) hx hb d6_train_17 (by decide) ?_
    exact q_ipure S hr hlk h0 d6_train_18
  · have h0 := og_f hc2 h0
    refine lv_iload_n hx hb d6_train_8 rfl (lv_at hl 2 rfl) ?_
    refine lv_iconst (v := 0) hx hb d6_train_9 (by decide) ?_
    refine lv_iconst (v := 3) hx hb d6_train_10 (by decide) ?_
    obtain ⟨r3, hr3, h0⟩ := og_b h0
    refine k6_102 S  hr3 ⟨Nat.zero_le _, Nat.zero_le _⟩ ⟨Nat.le_of_ble_eq_true rfl, Nat.le_of_ble_eq_true rfl⟩ hl.1 (Nat.le_of_ble_eq_true rfl) d6_train_11 ?_
    refine lv_if_ne (tgt := 19) hx hb d6_train_14 (by decide) (fun hc4 => ?_) (fun hc4 => ?_)
    · have h0 := og_f hc4 h0
      refine lv_iload_n hx hb d6_train_19 rfl (lv_at hl 2 rfl) ?_
      by_cases hc5 : x2 = 0
      · have h0 := og_t hc5 h0
        refine q_tabI (off := 28) (tgt := 48) S d6_train_20 hc5 (by decide) (by decide) (by decide) (by decide) ?_
        refine lv_aload_n hx hb d6_train_48 rfl (lv_at hl 0 rfl) ?_
        refine g6_19 S hK hR d6_train_49 ?_
        refine g6_113 S hK hR (by decide) rfl d6_train_52 ?_
        refine lv_iload_n hx hb d6_train_55 rfl (lv_at hl 1 rfl) ?_
        obtain ⟨r6, hr6, h0⟩ := og_b h0
        refine k6_120 S hK hR (by decide) hr6 ⟨Nat.zero_le _, Nat.zero_le _⟩ ⟨Nat.le_of_ble_eq_true rfl, Nat.le_of_ble_eq_true rfl⟩ hl.1 (Nat.le_of_ble_eq_true rfl) d6_train_56 ?_
        exact q_ipure S hr hlk h0 d6_train_59
      · have h0 := og_f hc5 h0
        by_cases hc6 : x2 = 1
        · have h0 := og_t hc6 h0
          refine q_tabI (off := 40) (tgt := 60) S d6_train_20 hc6 (by decide) (by decide) (by decide) (by decide) ?_
          refine lv_aload_n hx hb d6_train_60 rfl (lv_at hl 0 rfl) ?_
          refine g6_19 S hK hR d6_train_61 ?_
          refine g6_113 S hK hR (by decide) rfl d6_train_64 ?_
          refine lv_iload_n hx hb d6_train_67 rfl (lv_at hl 1 rfl) ?_
          obtain ⟨r7, hr7, h0⟩ := og_b h0
          refine k6_124 S hK hR (by decide) hr7 ⟨Nat.zero_le _, Nat.zero_le _⟩ ⟨Nat.le_of_ble_eq_true rfl, Nat.le_of_ble_eq_true rfl⟩ hl.1 (Nat.le_of_ble_eq_true rfl) d6_train_68 ?_
          exact q_ipure S hr hlk h0 d6_train_71
        · have h0 := og_f hc6 h0
          by_cases hc7 : x2 = 2
          · have h0 := og_t hc7 h0
            refine q_tabI (off := 52) (tgt := 72) S d6_train_20 hc7 (by decide) (by decide) (by decide) (by decide) ?_
            refine lv_aload_n hx hb d6_train_72 rfl (lv_at hl 0 rfl) ?_
            refine g6_29 S hK hR d6_train_73 ?_
            refine lv_iload_n hx hb d6_train_76 rfl (lv_at hl 1 rfl) ?_
            obtain ⟨r8, hr8, h0⟩ := og_b h0
            refine k6_127 S hK hR (by decide) hr8 ⟨Nat.zero_le _, Nat.zero_le _⟩ ⟨Nat.le_of_ble_eq_true rfl, Nat.le_of_ble_eq_true rfl⟩ hl.1 (Nat.le_of_ble_eq_true rfl) d6_train_77 ?_
            exact q_ipure S hr hlk h0 d6_train_80
          · have h0 := og_f hc7 h0
            refine q_tabD (tgt := 81) S d6_train_20 [0, 1, 2] (by decide) (by decide) (List.forall_mem_cons.mpr ⟨ne_toInt hc5 (by decide), List.forall_mem_cons.mpr ⟨ne_toInt hc6 (by decide), List.forall_mem_cons.mpr ⟨ne_toInt hc7 (by decide), fun _ hq => absurd hq List.not_mem_nil⟩⟩⟩) (by decide) ?_
            refine lv_aload_n hx hb d6_train_81 rfl (lv_at hl 0 rfl) ?_
            refine lv_iload_n hx hb d6_train_82 rfl (lv_at hl 1 rfl) ?_
            obtain ⟨r8, hr8, h0⟩ := og_b h0
            refine k6_130 S hK hR  hr8 ⟨Nat.zero_le _, Nat.zero_le _⟩ ⟨Nat.le_of_ble_eq_true rfl, Nat.le_of_ble_eq_true rfl⟩ hl.1 (Nat.le_of_ble_eq_true rfl) d6_train_83 ?_
            exact q_ipure S hr hlk h0 d6_train_86
    · have h0 := og_t hc4 h0
      refine lv_iconst (v := (-1)) hx hb d6_train_17 (by decide) ?_
      exact q_ipure S hr hlk h0 d6_train_18
/-! FourTenGates.isUser(I)Z -/
abbrev rm6_isUser : Room := { frames := 1, cells := 0, slots := 0, locals := 22 }
theorem d6_isUser_0 : decode cX6_isUser 0 = .ok (.iload_n 1, 1) := by decide +kernel
theorem d6_isUser_1 : decode cX6_isUser 1 = .ok (.iconst 0, 1) := by decide +kernel
theorem d6_isUser_2 : decode cX6_isUser 2 = .ok (.aload_n 0, 1) := by decide +kernel
theorem d6_isUser_3 : decode cX6_isUser 3 = .ok (.getfield 19, 3) := by decide +kernel
theorem d6_isUser_6 : decode cX6_isUser 6 = .ok (.getfield 136, 3) := by decide +kernel
theorem d6_isUser_9 : decode cX6_isUser 9 = .ok (.invokevirtual 116, 3) := by decide +kernel
theorem d6_isUser_12 : decode cX6_isUser 12 = .ok (.iconst 1, 1) := by decide +kernel
theorem d6_isUser_13 : decode cX6_isUser 13 = .ok (.isub, 1) := by decide +kernel
theorem d6_isUser_14 : decode cX6_isUser 14 = .ok (.invokestatic 102, 3) := by decide +kernel
theorem d6_isUser_17 : decode cX6_isUser 17 = .ok (.ireturn, 1) := by decide +kernel
def f6_isUser (σ : Mem) (x1 : Int32) : Option Int32 := Option.bind (f2_size σ 7) fun r1 => Option.bind (f6_between x1 0 (r1 - 1)) fun r2 => if r2 = 0 ∨ r2 = 1 then some r2 else none
set_option maxHeartbeats 4000000 in
set_option maxRecDepth 100000 in
theorem c6_isUser (l : Launch) {w : WV} {σ : Mem} {x1 : Int32} {r : Int32} (h0 : f6_isUser σ x1 = some r) : Met l yX6_isUser (wy yX6_isUser cX6_isUser 2 (some .boolean)) rm6_isUser (Pw EC LC w [.ref (w.2.2 0), .int x1] σ) (Qp (.int r)) 0 0 (fun _ => False) := by
  refine mk_met (by decide) (Nat.le_of_ble_eq_true rfl) ?_
  intro p e s m below meth c S hr hlk hK hR ls hl
  obtain ⟨hx, hb, hml, hown, hts⟩ := id S
  have hl : lv_has ls 2 [(0, .ref (w.2.2 0)), (1, .int x1)] := hl
  unfold f6_isUser at h0
  refine lv_iload_n hx hb d6_isUser_0 rfl (lv_at hl 1 rfl) ?_
  refine lv_iconst (v := 0) hx hb d6_isUser_1 (by decide) ?_
  refine lv_aload_n hx hb d6_isUser_2 rfl (lv_at hl 0 rfl) ?_
  refine g6_19 S hK hR d6_isUser_3 ?_
  refine g6_136 S hK hR (by decide) rfl d6_isUser_6 ?_
  obtain ⟨r1, hr1, h0⟩ := og_b h0
  refine k6_116 S hK hR (by decide) hr1 ⟨Nat.zero_le _, Nat.zero_le _⟩ ⟨Nat.le_of_ble_eq_true rfl, Nat.le_of_ble_eq_true rfl⟩ hl.1 (Nat.le_of_ble_eq_true rfl) d6_isUser_9 ?_
  refine lv_iconst (v := 1) hx hb d6_isUser_12 (by decide) ?_
  refine lv_isub hx hb d6_isUser_13 ?_
  obtain ⟨r2, hr2, h0⟩ := og_b h0
  refine k6_102 S  hr2 ⟨Nat.zero_le _, Nat.zero_le _⟩ ⟨Nat.le_of_ble_eq_true rfl, Nat.le_of_ble_eq_true rfl⟩ hl.1 (Nat.le_of_ble_eq_true rfl) d6_isUser_14 ?_
  obtain ⟨hb0, h0⟩ := og_if h0
  exact q_zpure S hr hlk hb0 h0 d6_isUser_17
set_option maxHeartbeats 4000000 in
set_option maxRecDepth 100000 in
theorem k6_133 {p : Program} {l : Launch} {e : Env} {R : Room} {s : State} {m : MethodId} {args : Array Value} {below : List Frame} {meth : Method} {c : Code} {H : Heap} {locs : List Loc} {cells slots : Nat} {Q : State → Prop} {cc : ByteArray} {pc nL : Nat} {ls : Array Slot} {rest : List Value} {w : WV} {σ : Mem} {x1 : Int32} {r : Int32} (S : CallFix p m c cc nL s args gtbl RX6) (hK : KS LC w s) (hR : Rp EC LC w σ H) (h0 : f6_isUser σ x1 = some r) (hf : cells + 0 ≤ R.cells ∧ slots + 0 ≤ R.slots) (hRm : rm6_isUser.frames + 1 ≤ R.frames ∧ 8 + (2 + 11) + rm6_isUser.locals ≤ R.locals) (hl : ls.size = nL) (hW : (rest.map fun v => v.category).sum ≤ 8) (hdg : decode cc pc = .ok (.invokevirtual 133, 3)) (kk : W p l e R s m args below meth c H locs cells slots Q (F0 m (pc + 3) ls (.int r :: rest))) : W p l e R s m args below meth c H locs cells slots Q (F0 m pc ls (.int x1 :: .ref (w.2.2 0) :: rest)) := r_endp (run_V (n := 1) (As := [.int x1]) S hK hR (by decide) (eC_6 w _) rfl (gw_V (gt_at 569 (by decide +kernel) (by decide +kernel)) (gt_at 571 (by decide +kernel) (by decide +kernel)) (gt_at 12 (by decide +kernel) (by decide +kernel)) (gt_at 74 (by decide +kernel) (by decide +kernel)) (gt_at 572 (by decide +kernel) (by decide +kernel))) (by decide +kernel) rfl (c6_isUser l h0) ⟨rfl, rfl⟩ hRm hf hl rfl hW hdg) kk
/-! FourTenGates.user(II)I -/
abbrev rm6_user : Room := { frames := 2, cells := 0, slots := 0, locals := 43 }
theorem d6_user_0 : decode cX6_user 0 = .ok (.aload_n 0, 1) := by decide +kernel
theorem d6_user_1 : decode cX6_user 1 = .ok (.iload_n 1, 1) := by decide +kernel
theorem d6_user_2 : decode cX6_user 2 = .ok (.invokevirtual 133, 3) := by decide +kernel
theorem d6_user_5 : decode cX6_user 5 = .ok (.ifCond .eq 12, 3) := by decide +kernel
theorem d6_user_8 : decode cX6_user 8 = .ok (.iload_n 2, 1) := by decide +kernel
theorem d6_user_9 : decode cX6_user 9 = .ok (.iconst 0, 1) := by decide +kernel
theorem d6_user_10 : decode cX6_user 10 = .ok (.iconst 1, 1) := by decide +kernel
theorem d6_user_11 : decode cX6_user 11 = .ok (.invokestatic 102, 3) := by decide +kernel
theorem d6_user_14 : decode cX6_user 14 = .ok (.ifCond .ne 5, 3) := by decide +kernel
theorem d6_user_17 : decode cX6_user 17 = .ok (.iconst (-1), 1) := by decide +kernel
theorem d6_user_18 : decode cX6_user 18 = .ok (.ireturn, 1) := by decide +kernel
theorem d6_user_19 : decode cX6_user 19 = .ok (.iload_n 2, 1) := by decide +kernel
theorem d6_user_20 : decode cX6_user 20 = .ok (.ifCond .ne 17, 3) := by decide +kernel
theorem d6_user_23 : decode cX6_user 23 = .ok (.aload_n 0, 1) := by decide +kernel
theorem d6_user_24 : decode cX6_user 24 = .ok (.getfield 19, 3) := by decide +kernel
theorem d6_user_27 : decode cX6_user 27 = .ok (.getfield 136, 3) := by decide +kernel
theorem d6_user_30 : decode cX6_user 30 = .ok (.iload_n 1, 1) := by decide +kernel
theorem d6_user_31 : decode cX6_user 31 = .ok (.invokevirtual 120, 3) := by decide +kernel
theorem d6_user_34 : decode cX6_user 34 = .ok (.goto 14, 3) := by decide +kernel
theorem d6_user_37 : decode cX6_user 37 = .ok (.aload_n 0, 1) := by decide +kernel
theorem d6_user_38 : decode cX6_user 38 = .ok (.getfield 19, 3) := by decide +kernel
theorem d6_user_41 : decode cX6_user 41 = .ok (.getfield 136, 3) := by decide +kernel
theorem d6_user_44 : decode cX6_user 44 = .ok (.iload_n 1, 1) := by decide +kernel
theorem d6_user_45 : decode cX6_user 45 = .ok (.invokevirtual 124, 3) := by decide +kernel
theorem d6_user_48 : decode cX6_user 48 = .ok (.ireturn, 1) := by decide +kernel
def f6_user (σ : Mem) (x1 : Int32) (x2 : Int32) : Option Int32 := Option.bind (f6_isUser σ x1) fun r1 => if r1 = 0 then some (-1) else Option.bind (f6_between x2 0 1) fun r3 => if r3 = 0 then some (-1) else if x2 = 0 then Option.bind (f2_first σ 7 x1) fun r6 => some r6 else Option.bind (f2_second σ 7 x1) fun r6 => some r6
set_option maxHeartbeats 4000000 in
set_option maxRecDepth 100000 in
theorem c6_user (l : Launch) {w : WV} {σ : Mem} {x1 : Int32} {x2 : Int32} {r : Int32} (h0 : f6_user σ x1 x2 = some r) : Met l yX6_user (wy yX6_user cX6_user 3 (some .int)) rm6_user (Pw EC LC w [.ref (w.2.2 0), .int x1, .int x2] σ) (Qp (.int r)) 0 0 (fun _ => False) := by
  refine mk_met (by decide) (Nat.le_of_ble_eq_true rfl) ?_
  intro p e s m below meth c S hr hlk hK hR ls hl
  obtain ⟨hx, hb, hml, hown, hts⟩ := id S
  have hl : lv_has ls 3 [(0, .ref (w.2.2 0)), (1, .int x1), (2, .int x2)] := hl
  unfold f6_user at h0
  refine lv_aload_n hx hb d6_user_0 rfl (lv_at hl 0 rfl) ?_
  refine lv_iload_n hx hb d6_user_1 rfl (lv_at hl 1 rfl) ?_
  obtain ⟨r1, hr1, h0⟩ := og_b h0
  refine k6_133 S hK hR  hr1 ⟨Nat.zero_le _, Nat.zero_le _⟩ ⟨Nat.le_of_ble_eq_true rfl, Nat.le_of_ble_eq_true rfl⟩ hl.1 (Nat.le_of_ble_eq_true rfl) d6_user_2 ?_
  refine lv_if_eq (tgt := 17) hx hb d6_user_5 (by decide) (fun hc2 => ?_) (fun hc2 => ?_)
  · have h0 := og_t hc2 h0
    refine lv_iconst (v := (-1)) hx hb d6_user_17 (by decide) ?_
    exact q_ipure S hr hlk h0 d6_user_18
  · have h0 := og_f hc2 h0
    refine lv_iload_n hx hb d6_user_8 rfl (lv_at hl 2 rfl) ?_
    refine lv_iconst (v := 0) hx hb d6_user_9 (by decide) ?_
    refine lv_iconst (v := 1) hx hb d6_user_10 (by decide) ?_
    obtain ⟨r3, hr3, h0⟩ := og_b h0
    refine k6_102 S  hr3 ⟨Nat.zero_le _, Nat.zero_le _⟩ ⟨Nat.le_of_ble_eq_true rfl, Nat.le_of_ble_eq_true rfl⟩ hl.1 (Nat.le_of_ble_eq_true rfl) d6_user_11 ?_
    refine lv_if_ne (tgt := 19) hx hb d6_user_14 (by decide) (fun hc4 => ?_) (fun hc4 => ?_)
    · have h0 := og_f hc4 h0
      refine lv_iload_n hx hb d6_user_19 rfl (lv_at hl 2 rfl) ?_
      refine lv_if_ne (tgt := 37) hx hb d6_user_20 (by decide) (fun hc5 => ?_) (fun hc5 => ?_)
      · have h0 := og_f hc5 h0
        refine lv_aload_n hx hb d6_user_37 rfl (lv_at hl 0 rfl) ?_
        refine g6_19 S hK hR d6_user_38 ?_
        refine g6_136 S hK hR (by decide) rfl d6_user_41 ?_
        refine lv_iload_n hx hb d6_user_44 rfl (lv_at hl 1 rfl) ?_
        obtain ⟨r6, hr6, h0⟩ := og_b h0
        refine k6_124 S hK hR (by decide) hr6 ⟨Nat.zero_le _, Nat.zero_le _⟩ ⟨Nat.le_of_ble_eq_true rfl, Nat.le_of_ble_eq_true rfl⟩ hl.1 (Nat.le_of_ble_eq_true rfl) d6_user_45 ?_
        exact q_ipure S hr hlk h0 d6_user_48
      · have h0 := og_t hc5 h0
        refine lv_aload_n hx hb d6_user_23 rfl (lv_at hl 0 rfl) ?_
        refine g6_19 S hK hR d6_user_24 ?_
        refine g6_136 S hK hR (by decide) rfl d6_user_27 ?_
        refine lv_iload_n hx hb d6_user_30 rfl (lv_at hl 1 rfl) ?_
        obtain ⟨r6, hr6, h0⟩ := og_b h0
        refine k6_120 S hK hR (by decide) hr6 ⟨Nat.zero_le _, Nat.zero_le _⟩ ⟨Nat.le_of_ble_eq_true rfl, Nat.le_of_ble_eq_true rfl⟩ hl.1 (Nat.le_of_ble_eq_true rfl) d6_user_31 ?_
        refine lv_goto (tgt := 48) hx hb d6_user_34 (by decide) ?_
        exact q_ipure S hr hlk h0 d6_user_48
    · have h0 := og_t hc4 h0
      refine lv_iconst (v := (-1)) hx hb d6_user_17 (by decide) ?_
      exact q_ipure S hr hlk h0 d6_user_18
/-! FourTenGates.isRule(I)Z -/
abbrev rm6_isRule : Room := { frames := 1, cells := 0, slots := 0, locals := 22 }
theorem d6_isRule_0 : decode cX6_isRule 0 = .ok (.iload_n 0, 1) := by decide +kernel
theorem d6_isRule_1 : decode cX6_isRule 1 = .ok (.iconst 0, 1) := by decide +kernel
theorem d6_isRule_2 : decode cX6_isRule 2 = .ok (.iconst 3, 1) := by decide +kernel
theorem d6_isRule_3 : decode cX6_isRule 3 = .ok (.invokestatic 102, 3) := by decide +kernel
theorem d6_isRule_6 : decode cX6_isRule 6 = .ok (.ireturn, 1) := by decide +kernel
def f6_isRule (x0 : Int32) : Option Int32 := Option.bind (f6_between x0 0 3) fun r1 => if r1 = 0 ∨ r1 = 1 then some r1 else none
set_option maxHeartbeats 4000000 in
set_option maxRecDepth 100000 in
theorem c6_isRule (l : Launch) {x0 : Int32} {r : Int32} (h0 : f6_isRule x0 = some r) : Met l yX6_isRule (wy yX6_isRule cX6_isRule 1 (some .boolean)) rm6_isRule (Ps [.int x0]) (Qp (.int r)) 0 0 (fun _ => False) := by
  refine mk_mets (by decide) (Nat.le_of_ble_eq_true rfl) ?_
  intro p e s m below meth c S hr hlk ls hl
  obtain ⟨hx, hb, hml, hown, hts⟩ := id S
  have hl : lv_has ls 1 [(0, .int x0)] := hl
  unfold f6_isRule at h0
  refine lv_iload_n hx hb d6_isRule_0 rfl (lv_at hl 0 rfl) ?_
  refine lv_iconst (v := 0) hx hb d6_isRule_1 (by decide) ?_
  refine lv_iconst (v := 3) hx hb d6_isRule_2 (by decide) ?_
  obtain ⟨r1, hr1, h0⟩ := og_b h0
  refine k6_102 S  hr1 ⟨Nat.zero_le _, Nat.zero_le _⟩ ⟨Nat.le_of_ble_eq_true rfl, Nat.le_of_ble_eq_true rfl⟩ hl.1 (Nat.le_of_ble_eq_true rfl) d6_isRule_3 ?_
  obtain ⟨hb0, h0⟩ := og_if h0
  exact q_zpure S hr hlk hb0 h0 d6_isRule_6
set_option maxHeartbeats 4000000 in
set_option maxRecDepth 100000 in
theorem k6_139 {p : Program} {l : Launch} {e : Env} {R : Room} {s : State} {m : MethodId} {args : Array Value} {below : List Frame} {meth : Method} {c : Code} {H : Heap} {locs : List Loc} {cells slots : Nat} {Q : State → Prop} {cc : ByteArray} {pc nL : Nat} {ls : Array Slot} {rest : List Value} {x0 : Int32} {r : Int32} (S : CallFix p m c cc nL s args gtbl RX6) (h0 : f6_isRule x0 = some r) (hf : cells + 0 ≤ R.cells ∧ slots + 0 ≤ R.slots) (hRm : rm6_isRule.frames + 1 ≤ R.frames ∧ 8 + (1 + 11) + rm6_isRule.locals ≤ R.locals) (hl : ls.size = nL) (hW : (rest.map fun v => v.category).sum ≤ 8) (hdg : decode cc pc = .ok (.invokestatic 139, 3)) (kk : W p l e R s m args below meth c H locs cells slots Q (F0 m (pc + 3) ls (.int r :: rest))) : W p l e R s m args below meth c H locs cells slots Q (F0 m pc ls (.int x0 :: rest)) := r_endp (run_S (n := 1) (As := [.int x0]) S (gw_S (gt_at 577 (by decide +kernel) (by decide +kernel)) (gt_at 578 (by decide +kernel) (by decide +kernel)) (gt_at 74 (by decide +kernel) (by decide +kernel)) (gt_at 579 (by decide +kernel) (by decide +kernel))) (by decide +kernel) rfl (c6_isRule l h0) ⟨rfl, rfl⟩ hRm hf hl rfl hW hdg) kk
/-! FourTenGates.isBeat(I)Z -/
abbrev rm6_isBeat : Room := { frames := 1, cells := 0, slots := 0, locals := 22 }
theorem d6_isBeat_0 : decode cX6_isBeat 0 = .ok (.iload_n 0, 1) := by decide +kernel
theorem d6_isBeat_1 : decode cX6_isBeat 1 = .ok (.iconst 0, 1) := by decide +kernel
theorem d6_isBeat_2 : decode cX6_isBeat 2 = .ok (.sipush 359, 3) := by decide +kernel
theorem d6_isBeat_5 : decode cX6_isBeat 5 = .ok (.invokestatic 102, 3) := by decide +kernel
theorem d6_isBeat_8 : decode cX6_isBeat 8 = .ok (.ireturn, 1) := by decide +kernel
def f6_isBeat (x0 : Int32) : Option Int32 := Option.bind (f6_between x0 0 359) fun r1 => if r1 = 0 ∨ r1 = 1 then some r1 else none
set_option maxHeartbeats 4000000 in
set_option maxRecDepth 100000 in
theorem c6_isBeat (l : Launch) {x0 : Int32} {r : Int32} (h0 : f6_isBeat x0 = some r) : Met l yX6_isBeat (wy yX6_isBeat cX6_isBeat 1 (some .boolean)) rm6_isBeat (Ps [.int x0]) (Qp (.int r)) 0 0 (fun _ => False) := by
  refine mk_mets (by decide) (Nat.le_of_ble_eq_true rfl) ?_
  intro p e s m below meth c S hr hlk ls hl
  obtain ⟨hx, hb, hml, hown, hts⟩ := id S
  have hl : lv_has ls 1 [(0, .int x0)] := hl
  unfold f6_isBeat at h0
  refine lv_iload_n hx hb d6_isBeat_0 rfl (lv_at hl 0 rfl) ?_
  refine lv_iconst (v := 0) hx hb d6_isBeat_1 (by decide) ?_
  refine lv_sipush (v := 359) hx hb d6_isBeat_2 (by decide) ?_
  obtain ⟨r1, hr1, h0⟩ := og_b h0
  refine k6_102 S  hr1 ⟨Nat.zero_le _, Nat.zero_le _⟩ ⟨Nat.le_of_ble_eq_true rfl, Nat.le_of_ble_eq_true rfl⟩ hl.1 (Nat.le_of_ble_eq_true rfl) d6_isBeat_5 ?_
  obtain ⟨hb0, h0⟩ := og_if h0
  exact q_zpure S hr hlk hb0 h0 d6_isBeat_8
set_option maxHeartbeats 4000000 in
set_option maxRecDepth 100000 in
theorem k6_142 {p : Program} {l : Launch} {e : Env} {R : Room} {s : State} {m : MethodId} {args : Array Value} {below : List Frame} {meth : Method} {c : Code} {H : Heap} {locs : List Loc} {cells slots : Nat} {Q : State → Prop} {cc : ByteArray} {pc nL : Nat} {ls : Array Slot} {rest : List Value} {x0 : Int32} {r : Int32} (S : CallFix p m c cc nL s args gtbl RX6) (h0 : f6_isBeat x0 = some r) (hf : cells + 0 ≤ R.cells ∧ slots + 0 ≤ R.slots) (hRm : rm6_isBeat.frames + 1 ≤ R.frames ∧ 8 + (1 + 11) + rm6_isBeat.locals ≤ R.locals) (hl : ls.size = nL) (hW : (rest.map fun v => v.category).sum ≤ 8) (hdg : decode cc pc = .ok (.invokestatic 142, 3)) (kk : W p l e R s m args below meth c H locs cells slots Q (F0 m (pc + 3) ls (.int r :: rest))) : W p l e R s m args below meth c H locs cells slots Q (F0 m pc ls (.int x0 :: rest)) := r_endp (run_S (n := 1) (As := [.int x0]) S (gw_S (gt_at 580 (by decide +kernel) (by decide +kernel)) (gt_at 581 (by decide +kernel) (by decide +kernel)) (gt_at 74 (by decide +kernel) (by decide +kernel)) (gt_at 582 (by decide +kernel) (by decide +kernel))) (by decide +kernel) rfl (c6_isBeat l h0) ⟨rfl, rfl⟩ hRm hf hl rfl hW hdg) kk
/-! FourTenGates.hourBy(I)LFourTenGates$Hour; -/
abbrev rm6_hourBy : Room := { frames := 5, cells := 0, slots := 0, locals := 111 }
theorem d6_hourBy_0 : decode cX6_hourBy 0 = .ok (.aload_n 0, 1) := by decide +kernel
theorem d6_hourBy_1 : decode cX6_hourBy 1 = .ok (.getfield 38, 3) := by decide +kernel
theorem d6_hourBy_4 : decode cX6_hourBy 4 = .ok (.iconst 0, 1) := by decide +kernel
theorem d6_hourBy_5 : decode cX6_hourBy 5 = .ok (.iload_n 1, 1) := by decide +kernel
theorem d6_hourBy_6 : decode cX6_hourBy 6 = .ok (.iconst 3, 1) := by decide +kernel
theorem d6_hourBy_7 : decode cX6_hourBy 7 = .ok (.invokestatic 258, 3) := by decide +kernel
theorem d6_hourBy_10 : decode cX6_hourBy 10 = .ok (.invokestatic 263, 3) := by decide +kernel
theorem d6_hourBy_13 : decode cX6_hourBy 13 = .ok (.aaload, 1) := by decide +kernel
theorem d6_hourBy_14 : decode cX6_hourBy 14 = .ok (.astore_n 2, 1) := by decide +kernel
theorem d6_hourBy_15 : decode cX6_hourBy 15 = .ok (.aload_n 2, 1) := by decide +kernel
theorem d6_hourBy_16 : decode cX6_hourBy 16 = .ok (.invokevirtual 266, 3) := by decide +kernel
theorem d6_hourBy_19 : decode cX6_hourBy 19 = .ok (.ifCond .ne 11, 3) := by decide +kernel
theorem d6_hourBy_22 : decode cX6_hourBy 22 = .ok (.aload_n 2, 1) := by decide +kernel
theorem d6_hourBy_23 : decode cX6_hourBy 23 = .ok (.iload_n 1, 1) := by decide +kernel
theorem d6_hourBy_24 : decode cX6_hourBy 24 = .ok (.iconst 0, 1) := by decide +kernel
theorem d6_hourBy_25 : decode cX6_hourBy 25 = .ok (.ldc 230, 2) := by decide +kernel
theorem d6_hourBy_27 : decode cX6_hourBy 27 = .ok (.invokevirtual 231, 3) := by decide +kernel
theorem d6_hourBy_30 : decode cX6_hourBy 30 = .ok (.aload_n 2, 1) := by decide +kernel
theorem d6_hourBy_31 : decode cX6_hourBy 31 = .ok (.areturn, 1) := by decide +kernel
def f6_hourBy (σ : Mem) (x1 : Int32) : Option (Mem × Nat) := if ¬ ((if (0 : Int32) < (if 3 < x1 then 3 else x1) then (if 3 < x1 then 3 else x1) else (0 : Int32)) < 0 ∨ 4 ≤ (if (0 : Int32) < (if 3 < x1 then 3 else x1) then (if 3 < x1 then 3 else x1) else (0 : Int32)).toNatClampNeg) then Option.bind (f1_isUpToDate σ (42 + 8 * ((if (0 : Int32) < (if 3 < x1 then 3 else x1) then (if 3 < x1 then 3 else x1) else (0 : Int32)).toNatClampNeg))) fun r2 => if r2 = 0 then Option.bind (f1_run σ (42 + 8 * ((if (0 : Int32) < (if 3 < x1 then 3 else x1) then (if 3 < x1 then 3 else x1) else (0 : Int32)).toNatClampNeg)) x1 0 1000000) fun σ4 => some (σ4, (42 + 8 * ((if (0 : Int32) < (if 3 < x1 then 3 else x1) then (if 3 < x1 then 3 else x1) else (0 : Int32)).toNatClampNeg))) else some (σ, (42 + 8 * ((if (0 : Int32) < (if 3 < x1 then 3 else x1) then (if 3 < x1 then 3 else x1) else (0 : Int32)).toNatClampNeg))) else none
set_option maxHeartbeats 4000000 in
set_option maxRecDepth 100000 in
theorem c6_hourBy (l : Launch) {w : WV} {σ : Mem} {x1 : Int32} {σ' : Mem} {r : Nat} (h0 : f6_hourBy σ x1 = some (σ', r)) : Met l yX6_hourBy (wy yX6_hourBy cX6_hourBy 3 (some (.object RX1))) rm6_hourBy (Pw EC LC w [.ref (w.2.2 0), .int x1] σ) (Qw EC LC w σ' (some (.ref (w.2.2 r)))) 0 0 (AW LC w) := by
  refine mk_met (by decide) (Nat.le_of_ble_eq_true rfl) ?_
  intro p e s m below meth c S hr hlk hK hR ls hl
  obtain ⟨hx, hb, hml, hown, hts⟩ := id S
  have hl : lv_has ls 3 [(0, .ref (w.2.2 0)), (1, .int x1)] := hl
  have hS : va_S (AW LC w) s.heap s.heap [] := va_S.rf
  unfold f6_hourBy at h0
  refine lv_aload_n hx hb d6_hourBy_0 rfl (lv_at hl 0 rfl) ?_
  refine g6_38 S hK hR d6_hourBy_1 ?_
  refine lv_iconst (v := 0) hx hb d6_hourBy_4 (by decide) ?_
  refine lv_iload_n hx hb d6_hourBy_5 rfl (lv_at hl 1 rfl) ?_
  refine lv_iconst (v := 3) hx hb d6_hourBy_6 (by decide) ?_
  refine va_mmin hx hb (S.2.2.1.trans hl.1.symm) hown (hts _ (gt_at 587 (by decide +kernel) (by decide +kernel))) (hts _ (gt_at 125 (by decide +kernel) (by decide +kernel))) (hts _ (gt_at 78 (by decide +kernel) (by decide +kernel))) (hts _ (gt_at 126 (by decide +kernel) (by decide +kernel))) (Nat.le_of_ble_eq_true rfl) (Nat.le_of_ble_eq_true rfl) (Nat.zero_le _) (Nat.zero_le _) d6_hourBy_7 ?_
  refine va_mmax hx hb (S.2.2.1.trans hl.1.symm) hown (hts _ (gt_at 563 (by decide +kernel) (by decide +kernel))) (hts _ (gt_at 262 (by decide +kernel) (by decide +kernel))) (hts _ (gt_at 78 (by decide +kernel) (by decide +kernel))) (hts _ (gt_at 263 (by decide +kernel) (by decide +kernel))) (Nat.le_of_ble_eq_true rfl) (Nat.le_of_ble_eq_true rfl) (Nat.zero_le _) (Nat.zero_le _) d6_hourBy_10 ?_
  obtain ⟨hi1, h0⟩ := og_if h0
  refine r_ald (t0 := 2) (f := fun i => 42 + 8 * i) S hK hR (by decide) (ea_6_5 w _) rfl hi1 d6_hourBy_13 ?_
  refine lv_astore_n (lv' := [(2, .ref (w.2.2 (42 + 8 * ((if (0 : Int32) < (if 3 < x1 then 3 else x1) then (if 3 < x1 then 3 else x1) else (0 : Int32)).toNatClampNeg)))), (0, .ref (w.2.2 0)), (1, .int x1)]) hx hb d6_hourBy_14 rfl hl (by decide) rfl (fun ls hl => ?_)
  refine lv_aload_n hx hb d6_hourBy_15 rfl (lv_at hl 0 rfl) ?_
  obtain ⟨r2, hr2, h0⟩ := og_b h0
  refine k6_266 S hK hR (in_hours hi1) hr2 ⟨Nat.zero_le _, Nat.zero_le _⟩ ⟨Nat.le_of_ble_eq_true rfl, Nat.le_of_ble_eq_true rfl⟩ hl.1 (Nat.le_of_ble_eq_true rfl) d6_hourBy_16 ?_
  refine lv_if_ne (tgt := 30) hx hb d6_hourBy_19 (by decide) (fun hc3 => ?_) (fun hc3 => ?_)
  · have h0 := og_f hc3 h0
    refine lv_aload_n hx hb d6_hourBy_30 rfl (lv_at hl 0 rfl) ?_
    exact q_aret S hr hlk hR hS h0 d6_hourBy_31
  · have h0 := og_t hc3 h0
    refine lv_aload_n hx hb d6_hourBy_22 rfl (lv_at hl 0 rfl) ?_
    refine lv_iload_n hx hb d6_hourBy_23 rfl (lv_at hl 2 rfl) ?_
    refine lv_iconst (v := 0) hx hb d6_hourBy_24 (by decide) ?_
    refine lv_ldc (v := 1000000) hx hb hown (hts _ (gt_at 564 (by decide +kernel) (by decide +kernel))) d6_hourBy_25 ?_
    obtain ⟨σ4, hr4, h0⟩ := og_b h0
    refine k6_231 S hK hR hS (in_hours hi1) hr4 ⟨Nat.zero_le _, Nat.zero_le _⟩ ⟨Nat.le_of_ble_eq_true rfl, Nat.le_of_ble_eq_true rfl⟩ hl.1 (Nat.le_of_ble_eq_true rfl) d6_hourBy_27 (fun H locs hR hS => ?_)
    refine lv_aload_n hx hb d6_hourBy_30 rfl (lv_at hl 0 rfl) ?_
    exact q_aret S hr hlk hR hS h0 d6_hourBy_31
set_option maxHeartbeats 4000000 in
set_option maxRecDepth 100000 in
theorem k6_145 {p : Program} {l : Launch} {e : Env} {R : Room} {s : State} {m : MethodId} {args : Array Value} {below : List Frame} {meth : Method} {c : Code} {H : Heap} {locs : List Loc} {cells slots : Nat} {Q : State → Prop} {cc : ByteArray} {pc nL : Nat} {ls : Array Slot} {rest : List Value} {w : WV} {σ : Mem} {x1 : Int32} {σ1 : Mem} {r : Nat} (S : CallFix p m c cc nL s args gtbl RX6) (hK : KS LC w s) (hR : Rp EC LC w σ H) (hS : va_S (AW LC w) s.heap H locs) (h0 : f6_hourBy σ x1 = some (σ1, r)) (hf : cells + 0 ≤ R.cells ∧ slots + 0 ≤ R.slots) (hRm : rm6_hourBy.frames + 1 ≤ R.frames ∧ 8 + (3 + 11) + rm6_hourBy.locals ≤ R.locals) (hl : ls.size = nL) (hW : (rest.map fun v => v.category).sum ≤ 8) (hdg : decode cc pc = .ok (.invokevirtual 145, 3)) (kk : ∀ (H1 : Heap) (locs1 : List Loc), Rp EC LC w σ1 H1 → va_S (AW LC w) s.heap H1 locs1 → W p l e R s m args below meth c H1 locs1 cells slots Q (F0 m (pc + 3) ls (.ref (w.2.2 r) :: rest))) : W p l e R s m args below meth c H locs cells slots Q (F0 m pc ls (.int x1 :: .ref (w.2.2 0) :: rest)) := r_end hS (run_V (n := 1) (As := [.int x1]) S hK hR (by decide) (eC_6 w _) rfl (gw_V (gt_at 583 (by decide +kernel) (by decide +kernel)) (gt_at 585 (by decide +kernel) (by decide +kernel)) (gt_at 13 (by decide +kernel) (by decide +kernel)) (gt_at 74 (by decide +kernel) (by decide +kernel)) (gt_at 586 (by decide +kernel) (by decide +kernel))) (by decide +kernel) rfl (c6_hourBy l h0) ⟨rfl, rfl⟩ hRm hf hl rfl hW hdg) kk
/-! FourTenGates.gates(II)I -/
abbrev rm6_gates : Room := { frames := 6, cells := 0, slots := 0, locals := 133 }
theorem d6_gates_0 : decode cX6_gates 0 = .ok (.iload_n 1, 1) := by decide +kernel
theorem d6_gates_1 : decode cX6_gates 1 = .ok (.invokestatic 139, 3) := by decide +kernel
theorem d6_gates_4 : decode cX6_gates 4 = .ok (.ifCond .eq 22, 3) := by decide +kernel
theorem d6_gates_7 : decode cX6_gates 7 = .ok (.iload_n 2, 1) := by decide +kernel
theorem d6_gates_8 : decode cX6_gates 8 = .ok (.invokestatic 142, 3) := by decide +kernel
theorem d6_gates_11 : decode cX6_gates 11 = .ok (.ifCond .eq 15, 3) := by decide +kernel
theorem d6_gates_14 : decode cX6_gates 14 = .ok (.aload_n 0, 1) := by decide +kernel
theorem d6_gates_15 : decode cX6_gates 15 = .ok (.iload_n 1, 1) := by decide +kernel
theorem d6_gates_16 : decode cX6_gates 16 = .ok (.invokevirtual 145, 3) := by decide +kernel
theorem d6_gates_19 : decode cX6_gates 19 = .ok (.iload_n 2, 1) := by decide +kernel
theorem d6_gates_20 : decode cX6_gates 20 = .ok (.invokevirtual 149, 3) := by decide +kernel
theorem d6_gates_23 : decode cX6_gates 23 = .ok (.goto 4, 3) := by decide +kernel
theorem d6_gates_26 : decode cX6_gates 26 = .ok (.iconst (-1), 1) := by decide +kernel
theorem d6_gates_27 : decode cX6_gates 27 = .ok (.ireturn, 1) := by decide +kernel
def f6_gates (σ : Mem) (x1 : Int32) (x2 : Int32) : Option (Mem × Int32) := Option.bind (f6_isRule x1) fun r1 => if r1 = 0 then some (σ, (-1)) else Option.bind (f6_isBeat x2) fun r3 => if r3 = 0 then some (σ, (-1)) else ob (f6_hourBy σ x1) fun σ5 q205 => if q205 ∈ hourL then Option.bind (f1_gatesAt σ5 q205 x2) fun r6 => some (σ5, r6) else none
set_option maxHeartbeats 4000000 in
set_option maxRecDepth 100000 in
theorem c6_gates (l : Launch) {w : WV} {σ : Mem} {x1 : Int32} {x2 : Int32} {σ' : Mem} {r : Int32} (h0 : f6_gates σ x1 x2 = some (σ', r)) : Met l yX6_gates (wy yX6_gates cX6_gates 3 (some .int)) rm6_gates (Pw EC LC w [.ref (w.2.2 0), .int x1, .int x2] σ) (Qw EC LC w σ' (some (.int r))) 0 0 (AW LC w) := by
  refine mk_met (by decide) (Nat.le_of_ble_eq_true rfl) ?_
  intro p e s m below meth c S hr hlk hK hR ls hl
  obtain ⟨hx, hb, hml, hown, hts⟩ := id S
  have hl : lv_has ls 3 [(0, .ref (w.2.2 0)), (1, .int x1), (2, .int x2)] := hl
  have hS : va_S (AW LC w) s.heap s.heap [] := va_S.rf
  unfold f6_gates at h0
  refine lv_iload_n hx hb d6_gates_0 rfl (lv_at hl 1 rfl) ?_
  obtain ⟨r1, hr1, h0⟩ := og_b h0
  refine k6_139 S  hr1 ⟨Nat.zero_le _, Nat.zero_le _⟩ ⟨Nat.le_of_ble_eq_true rfl, Nat.le_of_ble_eq_true rfl⟩ hl.1 (Nat.le_of_ble_eq_true rfl) d6_gates_1 ?_
  refine lv_if_eq (tgt := 26) hx hb d6_gates_4 (by decide) (fun hc2 => ?_) (fun hc2 => ?_)
  · have h0 := og_t hc2 h0
    refine lv_iconst (v := (-1)) hx hb d6_gates_26 (by decide) ?_
    exact q_iret S hr hlk hR hS h0 d6_gates_27
  · have h0 := og_f hc2 h0
    refine lv_iload_n hx hb d6_gates_7 rfl (lv_at hl 2 rfl) ?_
    obtain ⟨r3, hr3, h0⟩ := og_b h0
    refine k6_142 S  hr3 ⟨Nat.zero_le _, Nat.zero_le _⟩ ⟨Nat.le_of_ble_eq_true rfl, Nat.le_of_ble_eq_true rfl⟩ hl.1 (Nat.le_of_ble_eq_true rfl) d6_gates_8 ?_
    refine lv_if_eq (tgt := 26) hx hb d6_gates_11 (by decide) (fun hc4 => ?_) (fun hc4 => ?_)
    · have h0 := og_t hc4 h0
      refine lv_iconst (v := (-1)) hx hb d6_gates_26 (by decide) ?_
      exact q_iret S hr hlk hR hS h0 d6_gates_27
    · have h0 := og_f hc4 h0
      refine lv_aload_n hx hb d6_gates_14 rfl (lv_at hl 0 rfl) ?_
      refine lv_iload_n hx hb d6_gates_15 rfl (lv_at hl 1 rfl) ?_
      obtain ⟨σ5, q205, hr5, h0⟩ := og_o h0
      obtain ⟨hq205, h0⟩ := og_if h0
      refine k6_145 S hK hR hS  hr5 ⟨Nat.zero_le _, Nat.zero_le _⟩ ⟨Nat.le_of_ble_eq_true rfl, Nat.le_of_ble_eq_true rfl⟩ hl.1 (Nat.le_of_ble_eq_true rfl) d6_gates_16 (fun H locs hR hS => ?_)
      refine lv_iload_n hx hb d6_gates_19 rfl (lv_at hl 2 rfl) ?_
      obtain ⟨r6, hr6, h0⟩ := og_b h0
      refine k6_149 S hK hR hq205 hr6 ⟨Nat.zero_le _, Nat.zero_le _⟩ ⟨Nat.le_of_ble_eq_true rfl, Nat.le_of_ble_eq_true rfl⟩ hl.1 (Nat.le_of_ble_eq_true rfl) d6_gates_20 ?_
      refine lv_goto (tgt := 27) hx hb d6_gates_23 (by decide) ?_
      exact q_iret S hr hlk hR hS h0 d6_gates_27
/-! FourTenGates.passed(II)I -/
abbrev rm6_passed : Room := { frames := 6, cells := 0, slots := 0, locals := 133 }
theorem d6_passed_0 : decode cX6_passed 0 = .ok (.iload_n 1, 1) := by decide +kernel
theorem d6_passed_1 : decode cX6_passed 1 = .ok (.invokestatic 139, 3) := by decide +kernel
theorem d6_passed_4 : decode cX6_passed 4 = .ok (.ifCond .eq 23, 3) := by decide +kernel
theorem d6_passed_7 : decode cX6_passed 7 = .ok (.aload_n 0, 1) := by decide +kernel
theorem d6_passed_8 : decode cX6_passed 8 = .ok (.iload_n 2, 1) := by decide +kernel
theorem d6_passed_9 : decode cX6_passed 9 = .ok (.invokevirtual 117, 3) := by decide +kernel
theorem d6_passed_12 : decode cX6_passed 12 = .ok (.ifCond .eq 15, 3) := by decide +kernel
theorem d6_passed_15 : decode cX6_passed 15 = .ok (.aload_n 0, 1) := by decide +kernel
theorem d6_passed_16 : decode cX6_passed 16 = .ok (.iload_n 1, 1) := by decide +kernel
theorem d6_passed_17 : decode cX6_passed 17 = .ok (.invokevirtual 145, 3) := by decide +kernel
theorem d6_passed_20 : decode cX6_passed 20 = .ok (.iload_n 2, 1) := by decide +kernel
theorem d6_passed_21 : decode cX6_passed 21 = .ok (.invokevirtual 152, 3) := by decide +kernel
theorem d6_passed_24 : decode cX6_passed 24 = .ok (.goto 4, 3) := by decide +kernel
theorem d6_passed_27 : decode cX6_passed 27 = .ok (.iconst (-1), 1) := by decide +kernel
theorem d6_passed_28 : decode cX6_passed 28 = .ok (.ireturn, 1) := by decide +kernel
def f6_passed (σ : Mem) (x1 : Int32) (x2 : Int32) : Option (Mem × Int32) := Option.bind (f6_isRule x1) fun r1 => if r1 = 0 then some (σ, (-1)) else Option.bind (f6_isTrain σ x2) fun r3 => if r3 = 0 then some (σ, (-1)) else ob (f6_hourBy σ x1) fun σ5 q205 => if q205 ∈ hourL then Option.bind (f1_beginOf σ5 q205 x2) fun r6 => some (σ5, r6) else none
set_option maxHeartbeats 4000000 in
set_option maxRecDepth 100000 in
theorem c6_passed (l : Launch) {w : WV} {σ : Mem} {x1 : Int32} {x2 : Int32} {σ' : Mem} {r : Int32} (h0 : f6_passed σ x1 x2 = some (σ', r)) : Met l yX6_passed (wy yX6_passed cX6_passed 3 (some .int)) rm6_passed (Pw EC LC w [.ref (w.2.2 0), .int x1, .int x2] σ) (Qw EC LC w σ' (some (.int r))) 0 0 (AW LC w) := by
  refine mk_met (by decide) (Nat.le_of_ble_eq_true rfl) ?_
  intro p e s m below meth c S hr hlk hK hR ls hl
  obtain ⟨hx, hb, hml, hown, hts⟩ := id S
  have hl : lv_has ls 3 [(0, .ref (w.2.2 0)), (1, .int x1), (2, .int x2)] := hl
  have hS : va_S (AW LC w) s.heap s.heap [] := va_S.rf
  unfold f6_passed at h0
  refine lv_iload_n hx hb d6_passed_0 rfl (lv_at hl 1 rfl) ?_
  obtain ⟨r1, hr1, h0⟩ := og_b h0
  refine k6_139 S  hr1 ⟨Nat.zero_le _, Nat.zero_le _⟩ ⟨Nat.le_of_ble_eq_true rfl, Nat.le_of_ble_eq_true rfl⟩ hl.1 (Nat.le_of_ble_eq_true rfl) d6_passed_1 ?_
  refine lv_if_eq (tgt := 27) hx hb d6_passed_4 (by decide) (fun hc2 => ?_) (fun hc2 => ?_)
  · have h0 := og_t hc2 h0
    refine lv_iconst (v := (-1)) hx hb d6_passed_27 (by decide) ?_
    exact q_iret S hr hlk hR hS h0 d6_passed_28
  · have h0 := og_f hc2 h0
    refine lv_aload_n hx hb d6_passed_7 rfl (lv_at hl 0 rfl) ?_
    refine lv_iload_n hx hb d6_passed_8 rfl (lv_at hl 2 rfl) ?_
    obtain ⟨r3, hr3, h0⟩ := og_b h0
    refine k6_117 S hK hR  hr3 ⟨Nat.zero_le _, Nat.zero_le _⟩ ⟨Nat.le_of_ble_eq_true rfl, Nat.le_of_ble_eq_true rfl⟩ hl.1 (Nat.le_of_ble_eq_true rfl) d6_passed_9 ?_
    refine lv_if_eq (tgt := 27) hx hb d6_passed_12 (by decide) (fun hc4 => ?_) (fun hc4 => ?_)
    · have h0 := og_t hc4 h0
      refine lv_iconst (v := (-1)) hx hb d6_passed_27 (by decide) ?_
      exact q_iret S hr hlk hR hS h0 d6_passed_28
    · have h0 := og_f hc4 h0
      refine lv_aload_n hx hb d6_passed_15 rfl (lv_at hl 0 rfl) ?_
      refine lv_iload_n hx hb d6_passed_16 rfl (lv_at hl 1 rfl) ?_
      obtain ⟨σ5, q205, hr5, h0⟩ := og_o h0
      obtain ⟨hq205, h0⟩ := og_if h0
      refine k6_145 S hK hR hS  hr5 ⟨Nat.zero_le _, Nat.zero_le _⟩ ⟨Nat.le_of_ble_eq_true rfl, Nat.le_of_ble_eq_true rfl⟩ hl.1 (Nat.le_of_ble_eq_true rfl) d6_passed_17 (fun H locs hR hS => ?_)
      refine lv_iload_n hx hb d6_passed_20 rfl (lv_at hl 2 rfl) ?_
      obtain ⟨r6, hr6, h0⟩ := og_b h0
      refine k6_152 S hK hR hq205 hr6 ⟨Nat.zero_le _, Nat.zero_le _⟩ ⟨Nat.le_of_ble_eq_true rfl, Nat.le_of_ble_eq_true rfl⟩ hl.1 (Nat.le_of_ble_eq_true rfl) d6_passed_21 ?_
      refine lv_goto (tgt := 28) hx hb d6_passed_24 (by decide) ?_
      exact q_iret S hr hlk hR hS h0 d6_passed_28
/-! FourTenGates.stopped(II)I -/
abbrev rm6_stopped : Room := { frames := 6, cells := 0, slots := 0, locals := 133 }
theorem d6_stopped_0 : decode cX6_stopped 0 = .ok (.iload_n 1, 1) := by decide +kernel
theorem d6_stopped_1 : decode cX6_stopped 1 = .ok (.invokestatic 139, 3) := by decide +kernel
theorem d6_stopped_4 : decode cX6_stopped 4 = .ok (.ifCond .eq 23, 3) := by decide +kernel
theorem d6_stopped_7 : decode cX6_stopped 7 = .ok (.aload_n 0, 1) := by decide +kernel
theorem d6_stopped_8 : decode cX6_stopped 8 = .ok (.iload_n 2, 1) := by decide +kernel
theorem d6_stopped_9 : decode cX6_stopped 9 = .ok (.invokevirtual 117, 3) := by decide +kernel
theorem d6_stopped_12 : decode cX6_stopped 12 = .ok (.ifCond .eq 15, 3) := by decide +kernel
theorem d6_stopped_15 : decode cX6_stopped 15 = .ok (.aload_n 0, 1) := by decide +kernel
theorem d6_stopped_16 : decode cX6_stopped 16 = .ok (.iload_n 1, 1) := by decide +kernel
theorem d6_stopped_17 : decode cX6_stopped 17 = .ok (.invokevirtual 145, 3) := by decide +kernel
theorem d6_stopped_20 : decode cX6_stopped 20 = .ok (.iload_n 2, 1) := by decide +kernel
theorem d6_stopped_21 : decode cX6_stopped 21 = .ok (.invokevirtual 155, 3) := by decide +kernel
theorem d6_stopped_24 : decode cX6_stopped 24 = .ok (.goto 4, 3) := by decide +kernel
theorem d6_stopped_27 : decode cX6_stopped 27 = .ok (.iconst (-1), 1) := by decide +kernel
theorem d6_stopped_28 : decode cX6_stopped 28 = .ok (.ireturn, 1) := by decide +kernel
def f6_stopped (σ : Mem) (x1 : Int32) (x2 : Int32) : Option (Mem × Int32) := Option.bind (f6_isRule x1) fun r1 => if r1 = 0 then some (σ, (-1)) else Option.bind (f6_isTrain σ x2) fun r3 => if r3 = 0 then some (σ, (-1)) else ob (f6_hourBy σ x1) fun σ5 q205 => if q205 ∈ hourL then Option.bind (f1_stopsOf σ5 q205 x2) fun r6 => some (σ5, r6) else none
set_option maxHeartbeats 4000000 in
set_option maxRecDepth 100000 in
theorem c6_stopped (l : Launch) {w : WV} {σ : Mem} {x1 : Int32} {x2 : Int32} {σ' : Mem} {r : Int32} (h0 : f6_stopped σ x1 x2 = some (σ', r)) : Met l yX6_stopped (wy yX6_stopped cX6_stopped 3 (some .int)) rm6_stopped (Pw EC LC w [.ref (w.2.2 0), .int x1, .int x2] σ) (Qw EC LC w σ' (some (.int r))) 0 0 (AW LC w) := by
  refine mk_met (by decide) (Nat.le_of_ble_eq_true rfl) ?_
  intro p e s m below meth c S hr hlk hK hR ls hl
  obtain ⟨hx, hb, hml, hown, hts⟩ := id S
  have hl : lv_has ls 3 [(0, .ref (w.2.2 0)), (1, .int x1), (2, .int x2)] := hl
  have hS : va_S (AW LC w) s.heap s.heap [] := va_S.rf
  unfold f6_stopped at h0
  refine lv_iload_n hx hb d6_stopped_0 rfl (lv_at hl 1 rfl) ?_
  obtain ⟨r1, hr1, h0⟩ := og_b h0
  refine k6_139 S  hr1 ⟨Nat.zero_le _, Nat.zero_le _⟩ ⟨Nat.le_of_ble_eq_true rfl, Nat.le_of_ble_eq_true rfl⟩ hl.1 (Nat.le_of_ble_eq_true rfl) d6_stopped_1 ?_
  refine lv_if_eq (tgt := 27) hx hb d6_stopped_4 (by decide) (fun hc2 => ?_) (fun hc2 => ?_)
  · have h0 := og_t hc2 h0
    refine lv_iconst (v := (-1)) hx hb d6_stopped_27 (by decide) ?_
    exact q_iret S hr hlk hR hS h0 d6_stopped_28
  · have h0 := og_f hc2 h0
    refine lv_aload_n hx hb d6_stopped_7 rfl (lv_at hl 0 rfl) ?_
    refine lv_iload_n hx hb d6_stopped_8 rfl (lv_at hl 2 rfl) ?_
    obtain ⟨r3, hr3, h0⟩ := og_b h0
    refine k6_117 S hK hR  hr3 ⟨Nat.zero_le _, Nat.zero_le _⟩ ⟨Nat.le_of_ble_eq_true rfl, Nat.le_of_ble_eq_true rfl⟩ hl.1 (Nat.le_of_ble_eq_true rfl) d6_stopped_9 ?_
    refine lv_if_eq (tgt := 27) hx hb d6_stopped_12 (by decide) (fun hc4 => ?_) (fun hc4 => ?_)
    · have h0 := og_t hc4 h0
      refine lv_iconst (v := (-1)) hx hb d6_stopped_27 (by decide) ?_
      exact q_iret S hr hlk hR hS h0 d6_stopped_28
    · have h0 := og_f hc4 h0
      refine lv_aload_n hx hb d6_stopped_15 rfl (lv_at hl 0 rfl) ?_
      refine lv_iload_n hx hb d6_stopped_16 rfl (lv_at hl 1 rfl) ?_
      obtain ⟨σ5, q205, hr5, h0⟩ := og_o h0
      obtain ⟨hq205, h0⟩ := og_if h0
      refine k6_145 S hK hR hS  hr5 ⟨Nat.zero_le _, Nat.zero_le _⟩ ⟨Nat.le_of_ble_eq_true rfl, Nat.le_of_ble_eq_true rfl⟩ hl.1 (Nat.le_of_ble_eq_true rfl) d6_stopped_17 (fun H locs hR hS => ?_)
      refine lv_iload_n hx hb d6_stopped_20 rfl (lv_at hl 2 rfl) ?_
      obtain ⟨r6, hr6, h0⟩ := og_b h0
      refine k6_155 S hK hR hq205 hr6 ⟨Nat.zero_le _, Nat.zero_le _⟩ ⟨Nat.le_of_ble_eq_true rfl, Nat.le_of_ble_eq_true rfl⟩ hl.1 (Nat.le_of_ble_eq_true rfl) d6_stopped_21 ?_
      refine lv_goto (tgt := 28) hx hb d6_stopped_24 (by decide) ?_
      exact q_iret S hr hlk hR hS h0 d6_stopped_28
/-! FourTenGates.crossed(II)I -/
abbrev rm6_crossed : Room := { frames := 6, cells := 0, slots := 0, locals := 133 }
theorem d6_crossed_0 : decode cX6_crossed 0 = .ok (.iload_n 1, 1) := by decide +kernel
theorem d6_crossed_1 : decode cX6_crossed 1 = .ok (.invokestatic 139, 3) := by decide +kernel
theorem d6_crossed_4 : decode cX6_crossed 4 = .ok (.ifCond .eq 23, 3) := by decide +kernel
theorem d6_crossed_7 : decode cX6_crossed 7 = .ok (.aload_n 0, 1) := by decide +kernel
theorem d6_crossed_8 : decode cX6_crossed 8 = .ok (.iload_n 2, 1) := by decide +kernel
theorem d6_crossed_9 : decode cX6_crossed 9 = .ok (.invokevirtual 133, 3) := by decide +kernel
theorem d6_crossed_12 : decode cX6_crossed 12 = .ok (.ifCond .eq 15, 3) := by decide +kernel
theorem d6_crossed_15 : decode cX6_crossed 15 = .ok (.aload_n 0, 1) := by decide +kernel
theorem d6_crossed_16 : decode cX6_crossed 16 = .ok (.iload_n 1, 1) := by decide +kernel
theorem d6_crossed_17 : decode cX6_crossed 17 = .ok (.invokevirtual 145, 3) := by decide +kernel
theorem d6_crossed_20 : decode cX6_crossed 20 = .ok (.iload_n 2, 1) := by decide +kernel
theorem d6_crossed_21 : decode cX6_crossed 21 = .ok (.invokevirtual 158, 3) := by decide +kernel
theorem d6_crossed_24 : decode cX6_crossed 24 = .ok (.goto 4, 3) := by decide +kernel
theorem d6_crossed_27 : decode cX6_crossed 27 = .ok (.iconst (-1), 1) := by decide +kernel
theorem d6_crossed_28 : decode cX6_crossed 28 = .ok (.ireturn, 1) := by decide +kernel
def f6_crossed (σ : Mem) (x1 : Int32) (x2 : Int32) : Option (Mem × Int32) := Option.bind (f6_isRule x1) fun r1 => if r1 = 0 then some (σ, (-1)) else Option.bind (f6_isUser σ x2) fun r3 => if r3 = 0 then some (σ, (-1)) else ob (f6_hourBy σ x1) fun σ5 q205 => if q205 ∈ hourL then Option.bind (f1_crossingOf σ5 q205 x2) fun r6 => some (σ5, r6) else none
set_option maxHeartbeats 4000000 in
set_option maxRecDepth 100000 in
theorem c6_crossed (l : Launch) {w : WV} {σ : Mem} {x1 : Int32} {x2 : Int32} {σ' : Mem} {r : Int32} (h0 : f6_crossed σ x1 x2 = some (σ', r)) : Met l yX6_crossed (wy yX6_crossed cX6_crossed 3 (some .int)) rm6_crossed (Pw EC LC w [.ref (w.2.2 0), .int x1, .int x2] σ) (Qw EC LC w σ' (some (.int r))) 0 0 (AW LC w) := by
  refine mk_met (by decide) (Nat.le_of_ble_eq_true rfl) ?_
  intro p e s m below meth c S hr hlk hK hR ls hl
  obtain ⟨hx, hb, hml, hown, hts⟩ := id S
  have hl : lv_has ls 3 [(0, .ref (w.2.2 0)), (1, .int x1), (2, .int x2)] := hl
  have hS : va_S (AW LC w) s.heap s.heap [] := va_S.rf
  unfold f6_crossed at h0
  refine lv_iload_n hx hb d6_crossed_0 rfl (lv_at hl 1 rfl) ?_
  obtain ⟨r1, hr1, h0⟩ := og_b h0
  refine k6_139 S  hr1 ⟨Nat.zero_le _, Nat.zero_le _⟩ ⟨Nat.le_of_ble_eq_true rfl, Nat.le_of_ble_eq_true rfl⟩ hl.1 (Nat.le_of_ble_eq_true rfl) d6_crossed_1 ?_
  refine lv_if_eq (tgt := 27) hx hb d6_crossed_4 (by decide) (fun hc2 => ?_) (fun hc2 => ?_)
  · have h0 := og_t hc2 h0
    refine lv_iconst (v := (-1)) hx hb d6_crossed_27 (by decide) ?_
    exact q_iret S hr hlk hR hS h0 d6_crossed_28
  · have h0 := og_f hc2 h0
    refine lv_aload_n hx hb d6_crossed_7 rfl (lv_at hl 0 rfl) ?_
    refine lv_iload_n hx hb d6_crossed_8 rfl (lv_at hl 2 rfl) ?_
    obtain ⟨r3, hr3, h0⟩ := og_b h0
    refine k6_133 S hK hR  hr3 ⟨Nat.zero_le _, Nat.zero_le _⟩ ⟨Nat.le_of_ble_eq_true rfl, Nat.le_of_ble_eq_true rfl⟩ hl.1 (Nat.le_of_ble_eq_true rfl) d6_crossed_9 ?_
    refine lv_if_eq (tgt := 27) hx hb d6_crossed_12 (by decide) (fun hc4 => ?_) (fun hc4 => ?_)
    · have h0 := og_t hc4 h0
      refine lv_iconst (v := (-1)) hx hb d6_crossed_27 (by decide) ?_
      exact q_iret S hr hlk hR hS h0 d6_crossed_28
    · have h0 := og_f hc4 h0
      refine lv_aload_n hx hb d6_crossed_15 rfl (lv_at hl 0 rfl) ?_
      refine lv_iload_n hx hb d6_crossed_16 rfl (lv_at hl 1 rfl) ?_
      obtain ⟨σ5, q205, hr5, h0⟩ := og_o h0
      obtain ⟨hq205, h0⟩ := og_if h0
      refine k6_145 S hK hR hS  hr5 ⟨Nat.zero_le _, Nat.zero_le _⟩ ⟨Nat.le_of_ble_eq_true rfl, Nat.le_of_ble_eq_true rfl⟩ hl.1 (Nat.le_of_ble_eq_true rfl) d6_crossed_17 (fun H locs hR hS => ?_)
      refine lv_iload_n hx hb d6_crossed_20 rfl (lv_at hl 2 rfl) ?_
      obtain ⟨r6, hr6, h0⟩ := og_b h0
      refine k6_158 S hK hR hq205 hr6 ⟨Nat.zero_le _, Nat.zero_le _⟩ ⟨Nat.le_of_ble_eq_true rfl, Nat.le_of_ble_eq_true rfl⟩ hl.1 (Nat.le_of_ble_eq_true rfl) d6_crossed_21 ?_
      refine lv_goto (tgt := 28) hx hb d6_crossed_24 (by decide) ?_
      exact q_iret S hr hlk hR hS h0 d6_crossed_28
/-! FourTenGates.waited(II)I -/
abbrev rm6_waited : Room := { frames := 6, cells := 0, slots := 0, locals := 133 }
theorem d6_waited_0 : decode cX6_waited 0 = .ok (.iload_n 1, 1) := by decide +kernel
theorem d6_waited_1 : decode cX6_waited 1 = .ok (.invokestatic 139, 3) := by decide +kernel
theorem d6_waited_4 : decode cX6_waited 4 = .ok (.ifCond .eq 23, 3) := by decide +kernel
theorem d6_waited_7 : decode cX6_waited 7 = .ok (.aload_n 0, 1) := by decide +kernel
theorem d6_waited_8 : decode cX6_waited 8 = .ok (.iload_n 2, 1) := by decide +kernel
theorem d6_waited_9 : decode cX6_waited 9 = .ok (.invokevirtual 133, 3) := by decide +kernel
theorem d6_waited_12 : decode cX6_waited 12 = .ok (.ifCond .eq 15, 3) := by decide +kernel
theorem d6_waited_15 : decode cX6_waited 15 = .ok (.aload_n 0, 1) := by decide +kernel
theorem d6_waited_16 : decode cX6_waited 16 = .ok (.iload_n 1, 1) := by decide +kernel
theorem d6_waited_17 : decode cX6_waited 17 = .ok (.invokevirtual 145, 3) := by decide +kernel
theorem d6_waited_20 : decode cX6_waited 20 = .ok (.iload_n 2, 1) := by decide +kernel
theorem d6_waited_21 : decode cX6_waited 21 = .ok (.invokevirtual 161, 3) := by decide +kernel
theorem d6_waited_24 : decode cX6_waited 24 = .ok (.goto 4, 3) := by decide +kernel
theorem d6_waited_27 : decode cX6_waited 27 = .ok (.iconst (-1), 1) := by decide +kernel
theorem d6_waited_28 : decode cX6_waited 28 = .ok (.ireturn, 1) := by decide +kernel
def f6_waited (σ : Mem) (x1 : Int32) (x2 : Int32) : Option (Mem × Int32) := Option.bind (f6_isRule x1) fun r1 => if r1 = 0 then some (σ, (-1)) else Option.bind (f6_isUser σ x2) fun r3 => if r3 = 0 then some (σ, (-1)) else ob (f6_hourBy σ x1) fun σ5 q205 => if q205 ∈ hourL then Option.bind (f1_waitOf σ5 q205 x2) fun r6 => some (σ5, r6) else none
set_option maxHeartbeats 4000000 in
set_option maxRecDepth 100000 in
theorem c6_waited (l : Launch) {w : WV} {σ : Mem} {x1 : Int32} {x2 : Int32} {σ' : Mem} {r : Int32} (h0 : f6_waited σ x1 x2 = some (σ', r)) : Met l yX6_waited (wy yX6_waited cX6_waited 3 (some .int)) rm6_waited (Pw EC LC w [.ref (w.2.2 0), .int x1, .int x2] σ) (Qw EC LC w σ' (some (.int r))) 0 0 (AW LC w) := by
  refine mk_met (by decide) (Nat.le_of_ble_eq_true rfl) ?_
  intro p e s m below meth c S hr hlk hK hR ls hl
  obtain ⟨hx, hb, hml, hown, hts⟩ := id S
  have hl : lv_has ls 3 [(0, .ref (w.2.2 0)), (1, .int x1), (2, .int x2)] := hl
  have hS : va_S (AW LC w) s.heap s.heap [] := va_S.rf
  unfold f6_waited at h0
  refine lv_iload_n hx hb d6_waited_0 rfl (lv_at hl 1 rfl) ?_
  obtain ⟨r1, hr1, h0⟩ := og_b h0
  refine k6_139 S  hr1 ⟨Nat.zero_le _, Nat.zero_le _⟩ ⟨Nat.le_of_ble_eq_true rfl, Nat.le_of_ble_eq_true rfl⟩ hl.1 (Nat.le_of_ble_eq_true rfl) d6_waited_1 ?_
  refine lv_if_eq (tgt := 27) hx hb d6_waited_4 (by decide) (fun hc2 => ?_) (fun hc2 => ?_)
  · have h0 := og_t hc2 h0
    refine lv_iconst (v := (-1)) hx hb d6_waited_27 (by decide) ?_
    exact q_iret S hr hlk hR hS h0 d6_waited_28
  · have h0 := og_f hc2 h0
    refine lv_aload_n hx hb d6_waited_7 rfl (lv_at hl 0 rfl) ?_
    refine lv_iload_n hx hb d6_waited_8 rfl (lv_at hl 2 rfl) ?_
    obtain ⟨r3, hr3, h0⟩ := og_b h0
    refine k6_133 S hK hR  hr3 ⟨Nat.zero_le _, Nat.zero_le _⟩ ⟨Nat.le_of_ble_eq_true rfl, Nat.le_of_ble_eq_true rfl⟩ hl.1 (Nat.le_of_ble_eq_true rfl) d6_waited_9 ?_
    refine lv_if_eq (tgt := 27) hx hb d6_waited_12 (by decide) (fun hc4 => ?_) (fun hc4 => ?_)
    · have h0 := og_t hc4 h0
      refine lv_iconst (v := (-1)) hx hb d6_waited_27 (by decide) ?_
      exact q_iret S hr hlk hR hS h0 d6_waited_28
    · have h0 := og_f hc4 h0
      refine lv_aload_n hx hb d6_waited_15 rfl (lv_at hl 0 rfl) ?_
      refine lv_iload_n hx hb d6_waited_16 rfl (lv_at hl 1 rfl) ?_
      obtain ⟨σ5, q205, hr5, h0⟩ := og_o h0
      obtain ⟨hq205, h0⟩ := og_if h0
      refine k6_145 S hK hR hS  hr5 ⟨Nat.zero_le _, Nat.zero_le _⟩ ⟨Nat.le_of_ble_eq_true rfl, Nat.le_of_ble_eq_true rfl⟩ hl.1 (Nat.le_of_ble_eq_true rfl) d6_waited_17 (fun H locs hR hS => ?_)
      refine lv_iload_n hx hb d6_waited_20 rfl (lv_at hl 2 rfl) ?_
      obtain ⟨r6, hr6, h0⟩ := og_b h0
      refine k6_161 S hK hR hq205 hr6 ⟨Nat.zero_le _, Nat.zero_le _⟩ ⟨Nat.le_of_ble_eq_true rfl, Nat.le_of_ble_eq_true rfl⟩ hl.1 (Nat.le_of_ble_eq_true rfl) d6_waited_21 ?_
      refine lv_goto (tgt := 28) hx hb d6_waited_24 (by decide) ?_
      exact q_iret S hr hlk hR hS h0 d6_waited_28
/-! FourTenGates.cost(I)I -/
abbrev rm6_cost : Room := { frames := 6, cells := 0, slots := 0, locals := 133 }
theorem d6_cost_0 : decode cX6_cost 0 = .ok (.iload_n 1, 1) := by decide +kernel
theorem d6_cost_1 : decode cX6_cost 1 = .ok (.invokestatic 139, 3) := by decide +kernel
theorem d6_cost_4 : decode cX6_cost 4 = .ok (.ifCond .eq 14, 3) := by decide +kernel
theorem d6_cost_7 : decode cX6_cost 7 = .ok (.aload_n 0, 1) := by decide +kernel
theorem d6_cost_8 : decode cX6_cost 8 = .ok (.iload_n 1, 1) := by decide +kernel
theorem d6_cost_9 : decode cX6_cost 9 = .ok (.invokevirtual 145, 3) := by decide +kernel
theorem d6_cost_12 : decode cX6_cost 12 = .ok (.invokevirtual 164, 3) := by decide +kernel
theorem d6_cost_15 : decode cX6_cost 15 = .ok (.goto 4, 3) := by decide +kernel
theorem d6_cost_18 : decode cX6_cost 18 = .ok (.iconst (-1), 1) := by decide +kernel
theorem d6_cost_19 : decode cX6_cost 19 = .ok (.ireturn, 1) := by decide +kernel
def f6_cost (σ : Mem) (x1 : Int32) : Option (Mem × Int32) := Option.bind (f6_isRule x1) fun r1 => if r1 = 0 then some (σ, (-1)) else ob (f6_hourBy σ x1) fun σ3 q203 => if q203 ∈ hourL then Option.bind (f1_total σ3 q203) fun r4 => some (σ3, r4) else none
set_option maxHeartbeats 4000000 in
set_option maxRecDepth 100000 in
theorem c6_cost (l : Launch) {w : WV} {σ : Mem} {x1 : Int32} {σ' : Mem} {r : Int32} (h0 : f6_cost σ x1 = some (σ', r)) : Met l yX6_cost (wy yX6_cost cX6_cost 2 (some .int)) rm6_cost (Pw EC LC w [.ref (w.2.2 0), .int x1] σ) (Qw EC LC w σ' (some (.int r))) 0 0 (AW LC w) := by
  refine mk_met (by decide) (Nat.le_of_ble_eq_true rfl) ?_
  intro p e s m below meth c S hr hlk hK hR ls hl
  obtain ⟨hx, hb, hml, hown, hts⟩ := id S
  have hl : lv_has ls 2 [(0, .ref (w.2.2 0)), (1, .int x1)] := hl
  have hS : va_S (AW LC w) s.heap s.heap [] := va_S.rf
  unfold f6_cost at h0
  refine lv_iload_n hx hb d6_cost_0 rfl (lv_at hl 1 rfl) ?_
  obtain ⟨r1, hr1, h0⟩ := og_b h0
  refine k6_139 S  hr1 ⟨Nat.zero_le _, Nat.zero_le _⟩ ⟨Nat.le_of_ble_eq_true rfl, Nat.le_of_ble_eq_true rfl⟩ hl.1 (Nat.le_of_ble_eq_true rfl) d6_cost_1 ?_
  refine lv_if_eq (tgt := 18) hx hb d6_cost_4 (by decide) (fun hc2 => ?_) (fun hc2 => ?_)
  · have h0 := og_t hc2 h0
    refine lv_iconst (v := (-1)) hx hb d6_cost_18 (by decide) ?_
    exact q_iret S hr hlk hR hS h0 d6_cost_19
  · have h0 := og_f hc2 h0
    refine lv_aload_n hx hb d6_cost_7 rfl (lv_at hl 0 rfl) ?_
    refine lv_iload_n hx hb d6_cost_8 rfl (lv_at hl 1 rfl) ?_
    obtain ⟨σ3, q203, hr3, h0⟩ := og_o h0
    obtain ⟨hq203, h0⟩ := og_if h0
    refine k6_145 S hK hR hS  hr3 ⟨Nat.zero_le _, Nat.zero_le _⟩ ⟨Nat.le_of_ble_eq_true rfl, Nat.le_of_ble_eq_true rfl⟩ hl.1 (Nat.le_of_ble_eq_true rfl) d6_cost_9 (fun H locs hR hS => ?_)
    obtain ⟨r4, hr4, h0⟩ := og_b h0
    refine k6_164 S hK hR hq203 hr4 ⟨Nat.zero_le _, Nat.zero_le _⟩ ⟨Nat.le_of_ble_eq_true rfl, Nat.le_of_ble_eq_true rfl⟩ hl.1 (Nat.le_of_ble_eq_true rfl) d6_cost_12 ?_
    refine lv_goto (tgt := 19) hx hb d6_cost_15 (by decide) ?_
    exact q_iret S hr hlk hR hS h0 d6_cost_19
/-! FourTenGates.beginChange()V -/
abbrev rm6_beginChange : Room := { frames := 5, cells := 0, slots := 0, locals := 107 }
theorem d6_beginChange_0 : decode cX6_beginChange 0 = .ok (.aload_n 0, 1) := by decide +kernel
theorem d6_beginChange_1 : decode cX6_beginChange 1 = .ok (.getfield 54, 3) := by decide +kernel
theorem d6_beginChange_4 : decode cX6_beginChange 4 = .ok (.aload_n 0, 1) := by decide +kernel
theorem d6_beginChange_5 : decode cX6_beginChange 5 = .ok (.getfield 29, 3) := by decide +kernel
theorem d6_beginChange_8 : decode cX6_beginChange 8 = .ok (.invokevirtual 239, 3) := by decide +kernel
theorem d6_beginChange_11 : decode cX6_beginChange 11 = .ok (.aload_n 0, 1) := by decide +kernel
theorem d6_beginChange_12 : decode cX6_beginChange 12 = .ok (.invokevirtual 193, 3) := by decide +kernel
theorem d6_beginChange_15 : decode cX6_beginChange 15 = .ok (.return_, 1) := by decide +kernel
def f6_beginChange (σ : Mem) : Option Mem := Option.bind (f3_push σ 82 31) fun σ1 => Option.bind (f6_outdateHours σ1) fun σ2 => some σ2
set_option maxHeartbeats 4000000 in
set_option maxRecDepth 100000 in
theorem c6_beginChange (l : Launch) {w : WV} {σ : Mem} {σ' : Mem} (h0 : f6_beginChange σ = some σ') : Met l yX6_beginChange (wy yX6_beginChange cX6_beginChange 1 none) rm6_beginChange (Pw EC LC w [.ref (w.2.2 0)] σ) (Qw EC LC w σ' none) 0 0 (AW LC w) := by
  refine mk_met (by decide) (Nat.le_of_ble_eq_true rfl) ?_
  intro p e s m below meth c S hr hlk hK hR ls hl
  obtain ⟨hx, hb, hml, hown, hts⟩ := id S
  have hl : lv_has ls 1 [(0, .ref (w.2.2 0))] := hl
  have hS : va_S (AW LC w) s.heap s.heap [] := va_S.rf
  unfold f6_beginChange at h0
  refine lv_aload_n hx hb d6_beginChange_0 rfl (lv_at hl 0 rfl) ?_
  refine g6_54 S hK hR d6_beginChange_1 ?_
  refine lv_aload_n hx hb d6_beginChange_4 rfl (lv_at hl 0 rfl) ?_
  refine g6_29 S hK hR d6_beginChange_5 ?_
  obtain ⟨σ1, hr1, h0⟩ := og_b h0
  refine k6_239 S hK hR hS (by decide) (by decide) hr1 ⟨Nat.zero_le _, Nat.zero_le _⟩ ⟨Nat.le_of_ble_eq_true rfl, Nat.le_of_ble_eq_true rfl⟩ hl.1 (Nat.le_of_ble_eq_true rfl) d6_beginChange_8 (fun H locs hR hS => ?_)
  refine lv_aload_n hx hb d6_beginChange_11 rfl (lv_at hl 0 rfl) ?_
  obtain ⟨σ2, hr2, h0⟩ := og_b h0
  refine k6_193 S hK hR hS  hr2 ⟨Nat.zero_le _, Nat.zero_le _⟩ ⟨Nat.le_of_ble_eq_true rfl, Nat.le_of_ble_eq_true rfl⟩ hl.1 (Nat.le_of_ble_eq_true rfl) d6_beginChange_12 (fun H locs hR hS => ?_)
  exact q_vret S hr hlk hR hS h0 d6_beginChange_15
set_option maxHeartbeats 4000000 in
set_option maxRecDepth 100000 in
theorem k6_167 {p : Program} {l : Launch} {e : Env} {R : Room} {s : State} {m : MethodId} {args : Array Value} {below : List Frame} {meth : Method} {c : Code} {H : Heap} {locs : List Loc} {cells slots : Nat} {Q : State → Prop} {cc : ByteArray} {pc nL : Nat} {ls : Array Slot} {rest : List Value} {w : WV} {σ : Mem} {σ1 : Mem} (S : CallFix p m c cc nL s args gtbl RX6) (hK : KS LC w s) (hR : Rp EC LC w σ H) (hS : va_S (AW LC w) s.heap H locs) (h0 : f6_beginChange σ = some σ1) (hf : cells + 0 ≤ R.cells ∧ slots + 0 ≤ R.slots) (hRm : rm6_beginChange.frames + 1 ≤ R.frames ∧ 8 + (1 + 11) + rm6_beginChange.locals ≤ R.locals) (hl : ls.size = nL) (hW : (rest.map fun v => v.category).sum ≤ 8) (hdg : decode cc pc = .ok (.invokevirtual 167, 3)) (kk : ∀ (H1 : Heap) (locs1 : List Loc), Rp EC LC w σ1 H1 → va_S (AW LC w) s.heap H1 locs1 → W p l e R s m args below meth c H1 locs1 cells slots Q (F0 m (pc + 3) ls (rest))) : W p l e R s m args below meth c H locs cells slots Q (F0 m pc ls (.ref (w.2.2 0) :: rest)) := r_end hS (run_V (n := 0) (As := []) S hK hR (by decide) (eC_6 w _) rfl (gw_V (gt_at 741 (by decide +kernel) (by decide +kernel)) (gt_at 743 (by decide +kernel) (by decide +kernel)) (gt_at 33 (by decide +kernel) (by decide +kernel)) (gt_at 74 (by decide +kernel) (by decide +kernel)) (gt_at 744 (by decide +kernel) (by decide +kernel))) (by decide +kernel) rfl (c6_beginChange l h0) ⟨rfl, rfl⟩ hRm hf hl rfl hW hdg) kk
/-! FourTenGates.late(II)I -/
abbrev rm6_late : Room := { frames := 6, cells := 0, slots := 0, locals := 127 }
theorem d6_late_0 : decode cX6_late 0 = .ok (.aload_n 0, 1) := by decide +kernel
theorem d6_late_1 : decode cX6_late 1 = .ok (.iload_n 1, 1) := by decide +kernel
theorem d6_late_2 : decode cX6_late 2 = .ok (.invokevirtual 117, 3) := by decide +kernel
theorem d6_late_5 : decode cX6_late 5 = .ok (.ifCond .eq 13, 3) := by decide +kernel
theorem d6_late_8 : decode cX6_late 8 = .ok (.iload_n 2, 1) := by decide +kernel
theorem d6_late_9 : decode cX6_late 9 = .ok (.iconst 0, 1) := by decide +kernel
theorem d6_late_10 : decode cX6_late 10 = .ok (.bipush 30, 2) := by decide +kernel
theorem d6_late_12 : decode cX6_late 12 = .ok (.invokestatic 102, 3) := by decide +kernel
theorem d6_late_15 : decode cX6_late 15 = .ok (.ifCond .ne 5, 3) := by decide +kernel
theorem d6_late_18 : decode cX6_late 18 = .ok (.iconst (-1), 1) := by decide +kernel
theorem d6_late_19 : decode cX6_late 19 = .ok (.ireturn, 1) := by decide +kernel
theorem d6_late_20 : decode cX6_late 20 = .ok (.aload_n 0, 1) := by decide +kernel
theorem d6_late_21 : decode cX6_late 21 = .ok (.getfield 29, 3) := by decide +kernel
theorem d6_late_24 : decode cX6_late 24 = .ok (.iload_n 1, 1) := by decide +kernel
theorem d6_late_25 : decode cX6_late 25 = .ok (.invokevirtual 127, 3) := by decide +kernel
theorem d6_late_28 : decode cX6_late 28 = .ok (.istore_n 3, 1) := by decide +kernel
theorem d6_late_29 : decode cX6_late 29 = .ok (.aload_n 0, 1) := by decide +kernel
theorem d6_late_30 : decode cX6_late 30 = .ok (.invokevirtual 167, 3) := by decide +kernel
theorem d6_late_33 : decode cX6_late 33 = .ok (.aload_n 0, 1) := by decide +kernel
theorem d6_late_34 : decode cX6_late 34 = .ok (.getfield 29, 3) := by decide +kernel
theorem d6_late_37 : decode cX6_late 37 = .ok (.iload_n 1, 1) := by decide +kernel
theorem d6_late_38 : decode cX6_late 38 = .ok (.iload_n 2, 1) := by decide +kernel
theorem d6_late_39 : decode cX6_late 39 = .ok (.invokevirtual 170, 3) := by decide +kernel
theorem d6_late_42 : decode cX6_late 42 = .ok (.iload_n 3, 1) := by decide +kernel
theorem d6_late_43 : decode cX6_late 43 = .ok (.ireturn, 1) := by decide +kernel
def f6_late (σ : Mem) (x1 : Int32) (x2 : Int32) : Option (Mem × Int32) := Option.bind (f6_isTrain σ x1) fun r1 => if r1 = 0 then some (σ, (-1)) else Option.bind (f6_between x2 0 30) fun r3 => if r3 = 0 then some (σ, (-1)) else Option.bind (f4_lateOf σ 31 x1) fun r5 => Option.bind (f6_beginChange σ) fun σ6 => Option.bind (f4_makeLate σ6 31 x1 x2) fun σ7 => some (σ7, r5)
set_option maxHeartbeats 4000000 in
set_option maxRecDepth 100000 in
theorem c6_late (l : Launch) {w : WV} {σ : Mem} {x1 : Int32} {x2 : Int32} {σ' : Mem} {r : Int32} (h0 : f6_late σ x1 x2 = some (σ', r)) : Met l yX6_late (wy yX6_late cX6_late 4 (some .int)) rm6_late (Pw EC LC w [.ref (w.2.2 0), .int x1, .int x2] σ) (Qw EC LC w σ' (some (.int r))) 0 0 (AW LC w) := by
  refine mk_met (by decide) (Nat.le_of_ble_eq_true rfl) ?_
  intro p e s m below meth c S hr hlk hK hR ls hl
  obtain ⟨hx, hb, hml, hown, hts⟩ := id S
  have hl : lv_has ls 4 [(0, .ref (w.2.2 0)), (1, .int x1), (2, .int x2)] := hl
  have hS : va_S (AW LC w) s.heap s.heap [] := va_S.rf
  unfold f6_late at h0
  refine lv_aload_n hx hb d6_late_0 rfl (lv_at hl 0 rfl) ?_
  refine lv_iload_n hx hb d6_late_1 rfl (lv_at hl 1 rfl) ?_
  obtain ⟨r1, hr1, h0⟩ := og_b h0
  refine k6_117 S hK hR  hr1 ⟨Nat.zero_le _, Nat.zero_le _⟩ ⟨Nat.le_of_ble_eq_true rfl, Nat.le_of_ble_eq_true rfl⟩ hl.1 (Nat.le_of_ble_eq_true rfl) d6_late_2 ?_
  refine lv_if_eq (tgt := 18) hx hb d6_late_5 (by decide) (fun hc2 => ?_) (fun hc2 => ?_)
  · have h0 := og_t hc2 h0
    refine lv_iconst (v := (-1)) hx hb d6_late_18 (by decide) ?_
    exact q_iret S hr hlk hR hS h0 d6_late_19
  · have h0 := og_f hc2 h0
    refine lv_iload_n hx hb d6_late_8 rfl (lv_at hl 2 rfl) ?_
    refine lv_iconst (v := 0) hx hb d6_late_9 (by decide) ?_
    refine lv_bipush (v := 30) hx hb d6_late_10 (by decide) ?_
    obtain ⟨r3, hr3, h0⟩ := og_b h0
    refine k6_102 S  hr3 ⟨Nat.zero_le _, Nat.zero_le _⟩ ⟨Nat.le_of_ble_eq_true rfl, Nat.le_of_ble_eq_true rfl⟩ hl.1 (Nat.le_of_ble_eq_true rfl) d6_late_12 ?_
    refine lv_if_ne (tgt := 20) hx hb d6_late_15 (by decide) (fun hc4 => ?_) (fun hc4 => ?_)
    · have h0 := og_f hc4 h0
      refine lv_aload_n hx hb d6_late_20 rfl (lv_at hl 0 rfl) ?_
      refine g6_29 S hK hR d6_late_21 ?_
      refine lv_iload_n hx hb d6_late_24 rfl (lv_at hl 1 rfl) ?_
      obtain ⟨r5, hr5, h0⟩ := og_b h0
      refine k6_127 S hK hR (by decide) hr5 ⟨Nat.zero_le _, Nat.zero_le _⟩ ⟨Nat.le_of_ble_eq_true rfl, Nat.le_of_ble_eq_true rfl⟩ hl.1 (Nat.le_of_ble_eq_true rfl) d6_late_25 ?_
      refine lv_istore_n (lv' := [(3, .int r5), (0, .ref (w.2.2 0)), (1, .int x1), (2, .int x2)]) hx hb d6_late_28 rfl hl (by decide) rfl (fun ls hl => ?_)
      refine lv_aload_n hx hb d6_late_29 rfl (lv_at hl 1 rfl) ?_
      obtain ⟨σ6, hr6, h0⟩ := og_b h0
      refine k6_167 S hK hR hS  hr6 ⟨Nat.zero_le _, Nat.zero_le _⟩ ⟨Nat.le_of_ble_eq_true rfl, Nat.le_of_ble_eq_true rfl⟩ hl.1 (Nat.le_of_ble_eq_true rfl) d6_late_30 (fun H locs hR hS => ?_)
      refine lv_aload_n hx hb d6_late_33 rfl (lv_at hl 1 rfl) ?_
      refine g6_29 S hK hR d6_late_34 ?_
      refine lv_iload_n hx hb d6_late_37 rfl (lv_at hl 2 rfl) ?_
      refine lv_iload_n hx hb d6_late_38 rfl (lv_at hl 3 rfl) ?_
      obtain ⟨σ7, hr7, h0⟩ := og_b h0
      refine k6_170 S hK hR hS (by decide) hr7 ⟨Nat.zero_le _, Nat.zero_le _⟩ ⟨Nat.le_of_ble_eq_true rfl, Nat.le_of_ble_eq_true rfl⟩ hl.1 (Nat.le_of_ble_eq_true rfl) d6_late_39 (fun H locs hR hS => ?_)
      refine lv_iload_n hx hb d6_late_42 rfl (lv_at hl 0 rfl) ?_
      exact q_iret S hr hlk hR hS h0 d6_late_43
    · have h0 := og_t hc4 h0
      refine lv_iconst (v := (-1)) hx hb d6_late_18 (by decide) ?_
      exact q_iret S hr hlk hR hS h0 d6_late_19
/-! FourTenGates.shut(II)I -/
abbrev rm6_shut : Room := { frames := 6, cells := 0, slots := 0, locals := 127 }
theorem d6_shut_0 : decode cX6_shut 0 = .ok (.iload_n 1, 1) := by decide +kernel
theorem d6_shut_1 : decode cX6_shut 1 = .ok (.iload_n 2, 1) := by decide +kernel
theorem d6_shut_2 : decode cX6_shut 2 = .ok (.invokestatic 174, 3) := by decide +kernel
theorem d6_shut_5 : decode cX6_shut 5 = .ok (.ifCond .ne 5, 3) := by decide +kernel
theorem d6_shut_8 : decode cX6_shut 8 = .ok (.iconst (-1), 1) := by decide +kernel
theorem d6_shut_9 : decode cX6_shut 9 = .ok (.ireturn, 1) := by decide +kernel
theorem d6_shut_10 : decode cX6_shut 10 = .ok (.aload_n 0, 1) := by decide +kernel
theorem d6_shut_11 : decode cX6_shut 11 = .ok (.getfield 29, 3) := by decide +kernel
theorem d6_shut_14 : decode cX6_shut 14 = .ok (.getfield 178, 3) := by decide +kernel
theorem d6_shut_17 : decode cX6_shut 17 = .ok (.invokevirtual 181, 3) := by decide +kernel
theorem d6_shut_20 : decode cX6_shut 20 = .ok (.ifCond .eq 6, 3) := by decide +kernel
theorem d6_shut_23 : decode cX6_shut 23 = .ok (.bipush (-3), 2) := by decide +kernel
theorem d6_shut_25 : decode cX6_shut 25 = .ok (.ireturn, 1) := by decide +kernel
theorem d6_shut_26 : decode cX6_shut 26 = .ok (.aload_n 0, 1) := by decide +kernel
theorem d6_shut_27 : decode cX6_shut 27 = .ok (.invokevirtual 167, 3) := by decide +kernel
theorem d6_shut_30 : decode cX6_shut 30 = .ok (.aload_n 0, 1) := by decide +kernel
theorem d6_shut_31 : decode cX6_shut 31 = .ok (.getfield 29, 3) := by decide +kernel
theorem d6_shut_34 : decode cX6_shut 34 = .ok (.getfield 178, 3) := by decide +kernel
theorem d6_shut_37 : decode cX6_shut 37 = .ok (.iload_n 1, 1) := by decide +kernel
theorem d6_shut_38 : decode cX6_shut 38 = .ok (.iload_n 2, 1) := by decide +kernel
theorem d6_shut_39 : decode cX6_shut 39 = .ok (.invokevirtual 184, 3) := by decide +kernel
theorem d6_shut_42 : decode cX6_shut 42 = .ok (.pop, 1) := by decide +kernel
theorem d6_shut_43 : decode cX6_shut 43 = .ok (.aload_n 0, 1) := by decide +kernel
theorem d6_shut_44 : decode cX6_shut 44 = .ok (.getfield 29, 3) := by decide +kernel
theorem d6_shut_47 : decode cX6_shut 47 = .ok (.getfield 178, 3) := by decide +kernel
theorem d6_shut_50 : decode cX6_shut 50 = .ok (.invokevirtual 116, 3) := by decide +kernel
theorem d6_shut_53 : decode cX6_shut 53 = .ok (.ireturn, 1) := by decide +kernel
def f6_shut (σ : Mem) (x1 : Int32) (x2 : Int32) : Option (Mem × Int32) := Option.bind (f6_isClosing x1 x2) fun r1 => if r1 = 0 then some (σ, (-1)) else Option.bind (f2_isFull σ 32) fun r3 => if r3 = 0 then Option.bind (f6_beginChange σ) fun σ5 => ob (f2_add σ5 32 x1 x2) fun σ6 r6 => Option.bind (f2_size σ6 32) fun r7 => some (σ6, r7) else some (σ, (-3))
set_option maxHeartbeats 4000000 in
set_option maxRecDepth 100000 in
theorem c6_shut (l : Launch) {w : WV} {σ : Mem} {x1 : Int32} {x2 : Int32} {σ' : Mem} {r : Int32} (h0 : f6_shut σ x1 x2 = some (σ', r)) : Met l yX6_shut (wy yX6_shut cX6_shut 3 (some .int)) rm6_shut (Pw EC LC w [.ref (w.2.2 0), .int x1, .int x2] σ) (Qw EC LC w σ' (some (.int r))) 0 0 (AW LC w) := by
  refine mk_met (by decide) (Nat.le_of_ble_eq_true rfl) ?_
  intro p e s m below meth c S hr hlk hK hR ls hl
  obtain ⟨hx, hb, hml, hown, hts⟩ := id S
  have hl : lv_has ls 3 [(0, .ref (w.2.2 0)), (1, .int x1), (2, .int x2)] := hl
  have hS : va_S (AW LC w) s.heap s.heap [] := va_S.rf
  unfold f6_shut at h0
  refine lv_iload_n hx hb d6_shut_0 rfl (lv_at hl 1 rfl) ?_
  refine lv_iload_n hx hb d6_shut_1 rfl (lv_at hl 2 rfl) ?_
  obtain ⟨r1, hr1, h0⟩ := og_b h0
  refine k6_174 S  hr1 ⟨Nat.zero_le _, Nat.zero_le _⟩ ⟨Nat.le_of_ble_eq_true rfl, Nat.le_of_ble_eq_true rfl⟩ hl.1 (Nat.le_of_ble_eq_true rfl) d6_shut_2 ?_
  refine lv_if_ne (tgt := 10) hx hb d6_shut_5 (by decide) (fun hc2 => ?_) (fun hc2 => ?_)
  · have h0 := og_f hc2 h0
    refine lv_aload_n hx hb d6_shut_10 rfl (lv_at hl 0 rfl) ?_
    refine g6_29 S hK hR d6_shut_11 ?_
    refine g6_178 S hK hR (by decide) rfl d6_shut_14 ?_
    obtain ⟨r3, hr3, h0⟩ := og_b h0
    refine k6_181 S hK hR (by decide) hr3 ⟨Nat.zero_le _, Nat.zero_le _⟩ ⟨Nat.le_of_ble_eq_true rfl, Nat.le_of_ble_eq_true rfl⟩ hl.1 (Nat.le_of_ble_eq_true rfl) d6_shut_17 ?_
    refine lv_if_eq (tgt := 26) hx hb d6_shut_20 (by decide) (fun hc4 => ?_) (fun hc4 => ?_)
    · have h0 := og_t hc4 h0
      refine lv_aload_n hx hb d6_shut_26 rfl (lv_at hl 0 rfl) ?_
      obtain ⟨σ5, hr5, h0⟩ := og_b h0
      refine k6_167 S hK hR hS  hr5 ⟨Nat.zero_le _, Nat.zero_le _⟩ ⟨Nat.le_of_ble_eq_true rfl, Nat.le_of_ble_eq_true rfl⟩ hl.1 (Nat.le_of_ble_eq_true rfl) d6_shut_27 (fun H locs hR hS => ?_)
      refine lv_aload_n hx hb d6_shut_30 rfl (lv_at hl 0 rfl) ?_
      refine g6_29 S hK hR d6_shut_31 ?_
      refine g6_178 S hK hR (by decide) rfl d6_shut_34 ?_
      refine lv_iload_n hx hb d6_shut_37 rfl (lv_at hl 1 rfl) ?_
      refine lv_iload_n hx hb d6_shut_38 rfl (lv_at hl 2 rfl) ?_
      obtain ⟨σ6, r6, hr6, h0⟩ := og_o h0
      refine k6_184 S hK hR hS (by decide) hr6 ⟨Nat.zero_le _, Nat.zero_le _⟩ ⟨Nat.le_of_ble_eq_true rfl, Nat.le_of_ble_eq_true rfl⟩ hl.1 (Nat.le_of_ble_eq_true rfl) d6_shut_39 (fun H locs hR hS => ?_)
      refine lv_pop hx hb d6_shut_42 rfl ?_
      refine lv_aload_n hx hb d6_shut_43 rfl (lv_at hl 0 rfl) ?_
      refine g6_29 S hK hR d6_shut_44 ?_
      refine g6_178 S hK hR (by decide) rfl d6_shut_47 ?_
      obtain ⟨r7, hr7, h0⟩ := og_b h0
      refine k6_116 S hK hR (by decide) hr7 ⟨Nat.zero_le _, Nat.zero_le _⟩ ⟨Nat.le_of_ble_eq_true rfl, Nat.le_of_ble_eq_true rfl⟩ hl.1 (Nat.le_of_ble_eq_true rfl) d6_shut_50 ?_
      exact q_iret S hr hlk hR hS h0 d6_shut_53
    · have h0 := og_f hc4 h0
      refine lv_bipush (v := (-3)) hx hb d6_shut_23 (by decide) ?_
      exact q_iret S hr hlk hR hS h0 d6_shut_25
  · have h0 := og_t hc2 h0
    refine lv_iconst (v := (-1)) hx hb d6_shut_8 (by decide) ?_
    exact q_iret S hr hlk hR hS h0 d6_shut_9
/-! FourTenGates.leave(I)I -/
abbrev rm6_leave : Room := { frames := 6, cells := 0, slots := 0, locals := 127 }
theorem d6_leave_0 : decode cX6_leave 0 = .ok (.iload_n 1, 1) := by decide +kernel
theorem d6_leave_1 : decode cX6_leave 1 = .ok (.iconst 0, 1) := by decide +kernel
theorem d6_leave_2 : decode cX6_leave 2 = .ok (.aload_n 0, 1) := by decide +kernel
theorem d6_leave_3 : decode cX6_leave 3 = .ok (.getfield 29, 3) := by decide +kernel
theorem d6_leave_6 : decode cX6_leave 6 = .ok (.getfield 178, 3) := by decide +kernel
theorem d6_leave_9 : decode cX6_leave 9 = .ok (.invokevirtual 116, 3) := by decide +kernel
theorem d6_leave_12 : decode cX6_leave 12 = .ok (.iconst 1, 1) := by decide +kernel
theorem d6_leave_13 : decode cX6_leave 13 = .ok (.isub, 1) := by decide +kernel
theorem d6_leave_14 : decode cX6_leave 14 = .ok (.invokestatic 102, 3) := by decide +kernel
theorem d6_leave_17 : decode cX6_leave 17 = .ok (.ifCond .ne 5, 3) := by decide +kernel
theorem d6_leave_20 : decode cX6_leave 20 = .ok (.iconst (-1), 1) := by decide +kernel
theorem d6_leave_21 : decode cX6_leave 21 = .ok (.ireturn, 1) := by decide +kernel
theorem d6_leave_22 : decode cX6_leave 22 = .ok (.aload_n 0, 1) := by decide +kernel
theorem d6_leave_23 : decode cX6_leave 23 = .ok (.invokevirtual 167, 3) := by decide +kernel
theorem d6_leave_26 : decode cX6_leave 26 = .ok (.aload_n 0, 1) := by decide +kernel
theorem d6_leave_27 : decode cX6_leave 27 = .ok (.getfield 29, 3) := by decide +kernel
theorem d6_leave_30 : decode cX6_leave 30 = .ok (.getfield 178, 3) := by decide +kernel
theorem d6_leave_33 : decode cX6_leave 33 = .ok (.iload_n 1, 1) := by decide +kernel
theorem d6_leave_34 : decode cX6_leave 34 = .ok (.invokevirtual 186, 3) := by decide +kernel
theorem d6_leave_37 : decode cX6_leave 37 = .ok (.aload_n 0, 1) := by decide +kernel
theorem d6_leave_38 : decode cX6_leave 38 = .ok (.getfield 29, 3) := by decide +kernel
theorem d6_leave_41 : decode cX6_leave 41 = .ok (.getfield 178, 3) := by decide +kernel
theorem d6_leave_44 : decode cX6_leave 44 = .ok (.invokevirtual 116, 3) := by decide +kernel
theorem d6_leave_47 : decode cX6_leave 47 = .ok (.ireturn, 1) := by decide +kernel
def f6_leave (σ : Mem) (x1 : Int32) : Option (Mem × Int32) := Option.bind (f2_size σ 32) fun r1 => Option.bind (f6_between x1 0 (r1 - 1)) fun r2 => if r2 = 0 then some (σ, (-1)) else Option.bind (f6_beginChange σ) fun σ4 => Option.bind (f2_remove σ4 32 x1) fun σ5 => Option.bind (f2_size σ5 32) fun r6 => some (σ5, r6)
set_option maxHeartbeats 4000000 in
set_option maxRecDepth 100000 in
theorem c6_leave (l : Launch) {w : WV} {σ : Mem} {x1 : Int32} {σ' : Mem} {r : Int32} (h0 : f6_leave σ x1 = some (σ', r)) : Met l yX6_leave (wy yX6_leave cX6_leave 2 (some .int)) rm6_leave (Pw EC LC w [.ref (w.2.2 0), .int x1] σ) (Qw EC LC w σ' (some (.int r))) 0 0 (AW LC w) := by
  refine mk_met (by decide) (Nat.le_of_ble_eq_true rfl) ?_
  intro p e s m below meth c S hr hlk hK hR ls hl
  obtain ⟨hx, hb, hml, hown, hts⟩ := id S
  have hl : lv_has ls 2 [(0, .ref (w.2.2 0)), (1, .int x1)] := hl
  have hS : va_S (AW LC w) s.heap s.heap [] := va_S.rf
  unfold f6_leave at h0
  refine lv_iload_n hx hb d6_leave_0 rfl (lv_at hl 1 rfl) ?_
  refine lv_iconst (v := 0) hx hb d6_leave_1 (by decide) ?_
  refine lv_aload_n hx hb d6_leave_2 rfl (lv_at hl 0 rfl) ?_
  refine g6_29 S hK hR d6_leave_3 ?_
  refine g6_178 S hK hR (by decide) rfl d6_leave_6 ?_
  obtain ⟨r1, hr1, h0⟩ := og_b h0
  refine k6_116 S hK hR (by decide) hr1 ⟨Nat.zero_le _, Nat.zero_le _⟩ ⟨Nat.le_of_ble_eq_true rfl, Nat.le_of_ble_eq_true rfl⟩ hl.1 (Nat.le_of_ble_eq_true rfl) d6_leave_9 ?_
  refine lv_iconst (v := 1) hx hb d6_leave_12 (by decide) ?_
  refine lv_isub hx hb d6_leave_13 ?_
  obtain ⟨r2, hr2, h0⟩ := og_b h0
  refine k6_102 S  hr2 ⟨Nat.zero_le _, Nat.zero_le _⟩ ⟨Nat.le_of_ble_eq_true rfl, Nat.le_of_ble_eq_true rfl⟩ hl.1 (Nat.le_of_ble_eq_true rfl) d6_leave_14 ?_
  refine lv_if_ne (tgt := 22) hx hb d6_leave_17 (by decide) (fun hc3 => ?_) (fun hc3 => ?_)
  · have h0 := og_f hc3 h0
    refine lv_aload_n hx hb d6_leave_22 rfl (lv_at hl 0 rfl) ?_
    obtain ⟨σ4, hr4, h0⟩ := og_b h0
    refine k6_167 S hK hR hS  hr4 ⟨Nat.zero_le _, Nat.zero_le _⟩ ⟨Nat.le_of_ble_eq_true rfl, Nat.le_of_ble_eq_true rfl⟩ hl.1 (Nat.le_of_ble_eq_true rfl) d6_leave_23 (fun H locs hR hS => ?_)
    refine lv_aload_n hx hb d6_leave_26 rfl (lv_at hl 0 rfl) ?_
    refine g6_29 S hK hR d6_leave_27 ?_
    refine g6_178 S hK hR (by decide) rfl d6_leave_30 ?_
    refine lv_iload_n hx hb d6_leave_33 rfl (lv_at hl 1 rfl) ?_
    obtain ⟨σ5, hr5, h0⟩ := og_b h0
    refine k6_186 S hK hR hS (by decide) hr5 ⟨Nat.zero_le _, Nat.zero_le _⟩ ⟨Nat.le_of_ble_eq_true rfl, Nat.le_of_ble_eq_true rfl⟩ hl.1 (Nat.le_of_ble_eq_true rfl) d6_leave_34 (fun H locs hR hS => ?_)
    refine lv_aload_n hx hb d6_leave_37 rfl (lv_at hl 0 rfl) ?_
    refine g6_29 S hK hR d6_leave_38 ?_
    refine g6_178 S hK hR (by decide) rfl d6_leave_41 ?_
    obtain ⟨r6, hr6, h0⟩ := og_b h0
    refine k6_116 S hK hR (by decide) hr6 ⟨Nat.zero_le _, Nat.zero_le _⟩ ⟨Nat.le_of_ble_eq_true rfl, Nat.le_of_ble_eq_true rfl⟩ hl.1 (Nat.le_of_ble_eq_true rfl) d6_leave_44 ?_
    exact q_iret S hr hlk hR hS h0 d6_leave_47
  · have h0 := og_t hc3 h0
    refine lv_iconst (v := (-1)) hx hb d6_leave_20 (by decide) ?_
    exact q_iret S hr hlk hR hS h0 d6_leave_21
/-! FourTenGates.undo()I -/
abbrev rm6_undo : Room := { frames := 5, cells := 0, slots := 0, locals := 107 }
theorem d6_undo_0 : decode cX6_undo 0 = .ok (.aload_n 0, 1) := by decide +kernel
theorem d6_undo_1 : decode cX6_undo 1 = .ok (.getfield 54, 3) := by decide +kernel
theorem d6_undo_4 : decode cX6_undo 4 = .ok (.aload_n 0, 1) := by decide +kernel
theorem d6_undo_5 : decode cX6_undo 5 = .ok (.getfield 29, 3) := by decide +kernel
theorem d6_undo_8 : decode cX6_undo 8 = .ok (.invokevirtual 189, 3) := by decide +kernel
theorem d6_undo_11 : decode cX6_undo 11 = .ok (.ifCond .ne 6, 3) := by decide +kernel
theorem d6_undo_14 : decode cX6_undo 14 = .ok (.bipush (-2), 2) := by decide +kernel
theorem d6_undo_16 : decode cX6_undo 16 = .ok (.ireturn, 1) := by decide +kernel
theorem d6_undo_17 : decode cX6_undo 17 = .ok (.aload_n 0, 1) := by decide +kernel
theorem d6_undo_18 : decode cX6_undo 18 = .ok (.invokevirtual 193, 3) := by decide +kernel
theorem d6_undo_21 : decode cX6_undo 21 = .ok (.aload_n 0, 1) := by decide +kernel
theorem d6_undo_22 : decode cX6_undo 22 = .ok (.getfield 54, 3) := by decide +kernel
theorem d6_undo_25 : decode cX6_undo 25 = .ok (.invokevirtual 196, 3) := by decide +kernel
theorem d6_undo_28 : decode cX6_undo 28 = .ok (.ireturn, 1) := by decide +kernel
def f6_undo (σ : Mem) : Option (Mem × Int32) := ob (f3_pop σ 82 31) fun σ1 r1 => if r1 = 0 then some (σ1, (-2)) else Option.bind (f6_outdateHours σ1) fun σ3 => Option.bind (f3_size σ3 82) fun r4 => some (σ3, r4)
set_option maxHeartbeats 4000000 in
set_option maxRecDepth 100000 in
theorem c6_undo (l : Launch) {w : WV} {σ : Mem} {σ' : Mem} {r : Int32} (h0 : f6_undo σ = some (σ', r)) : Met l yX6_undo (wy yX6_undo cX6_undo 1 (some .int)) rm6_undo (Pw EC LC w [.ref (w.2.2 0)] σ) (Qw EC LC w σ' (some (.int r))) 0 0 (AW LC w) := by
  refine mk_met (by decide) (Nat.le_of_ble_eq_true rfl) ?_
  intro p e s m below meth c S hr hlk hK hR ls hl
  obtain ⟨hx, hb, hml, hown, hts⟩ := id S
  have hl : lv_has ls 1 [(0, .ref (w.2.2 0))] := hl
  have hS : va_S (AW LC w) s.heap s.heap [] := va_S.rf
  unfold f6_undo at h0
  refine lv_aload_n hx hb d6_undo_0 rfl (lv_at hl 0 rfl) ?_
  refine g6_54 S hK hR d6_undo_1 ?_
  refine lv_aload_n hx hb d6_undo_4 rfl (lv_at hl 0 rfl) ?_
  refine g6_29 S hK hR d6_undo_5 ?_
  obtain ⟨σ1, r1, hr1, h0⟩ := og_o h0
  refine k6_189 S hK hR hS (by decide) (by decide) hr1 ⟨Nat.zero_le _, Nat.zero_le _⟩ ⟨Nat.le_of_ble_eq_true rfl, Nat.le_of_ble_eq_true rfl⟩ hl.1 (Nat.le_of_ble_eq_true rfl) d6_undo_8 (fun H locs hR hS => ?_)
  refine lv_if_ne (tgt := 17) hx hb d6_undo_11 (by decide) (fun hc2 => ?_) (fun hc2 => ?_)
  · have h0 := og_f hc2 h0
    refine lv_aload_n hx hb d6_undo_17 rfl (lv_at hl 0 rfl) ?_
    obtain ⟨σ3, hr3, h0⟩ := og_b h0
    refine k6_193 S hK hR hS  hr3 ⟨Nat.zero_le _, Nat.zero_le _⟩ ⟨Nat.le_of_ble_eq_true rfl, Nat.le_of_ble_eq_true rfl⟩ hl.1 (Nat.le_of_ble_eq_true rfl) d6_undo_18 (fun H locs hR hS => ?_)
    refine lv_aload_n hx hb d6_undo_21 rfl (lv_at hl 0 rfl) ?_
    refine g6_54 S hK hR d6_undo_22 ?_
    obtain ⟨r4, hr4, h0⟩ := og_b h0
    refine k6_196 S hK hR (by decide) hr4 ⟨Nat.zero_le _, Nat.zero_le _⟩ ⟨Nat.le_of_ble_eq_true rfl, Nat.le_of_ble_eq_true rfl⟩ hl.1 (Nat.le_of_ble_eq_true rfl) d6_undo_25 ?_
    exact q_iret S hr hlk hR hS h0 d6_undo_28
  · have h0 := og_t hc2 h0
    refine lv_bipush (v := (-2)) hx hb d6_undo_14 (by decide) ?_
    exact q_iret S hr hlk hR hS h0 d6_undo_16
/-! FourTenGates.cheapest(I)I -/
abbrev rm6_cheapest : Room := { frames := 6, cells := 0, slots := 0, locals := 133 }
theorem d6_cheapest_0 : decode cX6_cheapest 0 = .ok (.iload_n 1, 1) := by decide +kernel
theorem d6_cheapest_1 : decode cX6_cheapest 1 = .ok (.iconst 0, 1) := by decide +kernel
theorem d6_cheapest_2 : decode cX6_cheapest 2 = .ok (.iconst 1, 1) := by decide +kernel
theorem d6_cheapest_3 : decode cX6_cheapest 3 = .ok (.invokestatic 102, 3) := by decide +kernel
theorem d6_cheapest_6 : decode cX6_cheapest 6 = .ok (.ifCond .ne 5, 3) := by decide +kernel
theorem d6_cheapest_9 : decode cX6_cheapest 9 = .ok (.iconst (-1), 1) := by decide +kernel
theorem d6_cheapest_10 : decode cX6_cheapest 10 = .ok (.ireturn, 1) := by decide +kernel
theorem d6_cheapest_11 : decode cX6_cheapest 11 = .ok (.iconst 0, 1) := by decide +kernel
theorem d6_cheapest_12 : decode cX6_cheapest 12 = .ok (.istore_n 2, 1) := by decide +kernel
theorem d6_cheapest_13 : decode cX6_cheapest 13 = .ok (.iconst 1, 1) := by decide +kernel
theorem d6_cheapest_14 : decode cX6_cheapest 14 = .ok (.istore_n 3, 1) := by decide +kernel
theorem d6_cheapest_15 : decode cX6_cheapest 15 = .ok (.iload_n 3, 1) := by decide +kernel
theorem d6_cheapest_16 : decode cX6_cheapest 16 = .ok (.iconst 4, 1) := by decide +kernel
theorem d6_cheapest_17 : decode cX6_cheapest 17 = .ok (.if_icmp .ge 30, 3) := by decide +kernel
theorem d6_cheapest_20 : decode cX6_cheapest 20 = .ok (.aload_n 0, 1) := by decide +kernel
theorem d6_cheapest_21 : decode cX6_cheapest 21 = .ok (.iload_n 3, 1) := by decide +kernel
theorem d6_cheapest_22 : decode cX6_cheapest 22 = .ok (.invokevirtual 145, 3) := by decide +kernel
theorem d6_cheapest_25 : decode cX6_cheapest 25 = .ok (.invokevirtual 164, 3) := by decide +kernel
theorem d6_cheapest_28 : decode cX6_cheapest 28 = .ok (.aload_n 0, 1) := by decide +kernel
theorem d6_cheapest_29 : decode cX6_cheapest 29 = .ok (.iload_n 2, 1) := by decide +kernel
theorem d6_cheapest_30 : decode cX6_cheapest 30 = .ok (.invokevirtual 145, 3) := by decide +kernel
theorem d6_cheapest_33 : decode cX6_cheapest 33 = .ok (.invokevirtual 164, 3) := by decide +kernel
theorem d6_cheapest_36 : decode cX6_cheapest 36 = .ok (.if_icmp .ge 5, 3) := by decide +kernel
theorem d6_cheapest_39 : decode cX6_cheapest 39 = .ok (.iload_n 3, 1) := by decide +kernel
theorem d6_cheapest_40 : decode cX6_cheapest 40 = .ok (.istore_n 2, 1) := by decide +kernel
theorem d6_cheapest_41 : decode cX6_cheapest 41 = .ok (.iinc 3 1, 3) := by decide +kernel
theorem d6_cheapest_44 : decode cX6_cheapest 44 = .ok (.goto (-29), 3) := by decide +kernel
theorem d6_cheapest_47 : decode cX6_cheapest 47 = .ok (.iload_n 1, 1) := by decide +kernel
theorem d6_cheapest_48 : decode cX6_cheapest 48 = .ok (.ifCond .ne 7, 3) := by decide +kernel
theorem d6_cheapest_51 : decode cX6_cheapest 51 = .ok (.iload_n 2, 1) := by decide +kernel
theorem d6_cheapest_52 : decode cX6_cheapest 52 = .ok (.goto 11, 3) := by decide +kernel
theorem d6_cheapest_55 : decode cX6_cheapest 55 = .ok (.aload_n 0, 1) := by decide +kernel
theorem d6_cheapest_56 : decode cX6_cheapest 56 = .ok (.iload_n 2, 1) := by decide +kernel
theorem d6_cheapest_57 : decode cX6_cheapest 57 = .ok (.invokevirtual 145, 3) := by decide +kernel
theorem d6_cheapest_60 : decode cX6_cheapest 60 = .ok (.invokevirtual 164, 3) := by decide +kernel
theorem d6_cheapest_63 : decode cX6_cheapest 63 = .ok (.ireturn, 1) := by decide +kernel
def f6_cheapest_b15 : Nat → Mem → Int32 → Int32 → Int32 → Option (Mem × Int32)
  | 0, _, _, _, _ => none
  | n + 1, σ, x1, x2, x3 => if 4 ≤ x3 then if x1 = 0 then some (σ, x2) else ob (f6_hourBy σ x2) fun σ3 q203 => if q203 ∈ hourL then Option.bind (f1_total σ3 q203) fun r4 => some (σ3, r4) else none else ob (f6_hourBy σ x3) fun σ2 q202 => if q202 ∈ hourL then Option.bind (f1_total σ2 q202) fun r3 => ob (f6_hourBy σ2 x2) fun σ4 q204 => if q204 ∈ hourL then Option.bind (f1_total σ4 q204) fun r5 => if r5 ≤ r3 then f6_cheapest_b15 n σ4 x1 x2 (x3 + 1) else f6_cheapest_b15 n σ4 x1 x3 (x3 + 1) else none else none
set_option maxHeartbeats 4000000 in
set_option maxRecDepth 100000 in
theorem t6_cheapest_b15 {p : Program} {l : Launch} {e : Env} {s : State} {m : MethodId} {args : Array Value} {below : List Frame} {meth : Method} {c : Code} {w : WV} {σ' : Mem} {r : Int32} (S : CallFix p m c cX6_cheapest 4 s args gtbl RX6) (hr : meth.sig.returnType = (some .int)) (hlk : meth.locks = false) (hK : KS LC w s) : ∀ (n : Nat), ∀ (σ : Mem) (x1 : Int32) (x2 : Int32) (x3 : Int32), f6_cheapest_b15  n σ x1 x2 x3 = some (σ', r) → ∀ (H : Heap) (locs : List Loc), Rp EC LC w σ H → va_S (AW LC w) s.heap H locs → ∀ (ls : Array Slot), lv_has ls 4 [(0, .ref (w.2.2 0)), (1, .int x1), (2, .int x2), (3, .int x3)] → W p l e rm6_cheapest s m args below meth c H locs 0 0 (MQ below (Qw EC LC w σ' (some (.int r))) args s 0 0 (AW LC w)) (F0 m 15 ls []) := by
  obtain ⟨hx, hb, hml, hown, hts⟩ := id S
  intro n
  induction n with
  | zero =>
    intro σ x1 x2 x3 h0
    cases (show none = _ from h0)
  | succ n ih =>
    intro σ x1 x2 x3 h0 H locs hR hS ls hl
    rw [f6_cheapest_b15] at h0
    refine lv_iload_n hx hb d6_cheapest_15 rfl (lv_at hl 3 rfl) ?_
    refine lv_iconst (v := 4) hx hb d6_cheapest_16 (by decide) ?_
    refine lv_icmp_ge (tgt := 47) hx hb d6_cheapest_17 (by decide) (fun hc1 => ?_) (fun hc1 => ?_)
    · have h0 := og_t hc1 h0
      refine lv_iload_n hx hb d6_cheapest_47 rfl (lv_at hl 1 rfl) ?_
      refine lv_if_ne (tgt := 55) hx hb d6_cheapest_48 (by decide) (fun hc2 => ?_) (fun hc2 => ?_)
      · have h0 := og_f hc2 h0
        refine lv_aload_n hx hb d6_cheapest_55 rfl (lv_at hl 0 rfl) ?_
        refine lv_iload_n hx hb d6_cheapest_56 rfl (lv_at hl 2 rfl) ?_
        obtain ⟨σ3, q203, hr3, h0⟩ := og_o h0
        obtain ⟨hq203, h0⟩ := og_if h0
        refine k6_145 S hK hR hS  hr3 ⟨Nat.zero_le _, Nat.zero_le _⟩ ⟨Nat.le_of_ble_eq_true rfl, Nat.le_of_ble_eq_true rfl⟩ hl.1 (Nat.le_of_ble_eq_true rfl) d6_cheapest_57 (fun H locs hR hS => ?_)
        obtain ⟨r4, hr4, h0⟩ := og_b h0
        refine k6_164 S hK hR hq203 hr4 ⟨Nat.zero_le _, Nat.zero_le _⟩ ⟨Nat.le_of_ble_eq_true rfl, Nat.le_of_ble_eq_true rfl⟩ hl.1 (Nat.le_of_ble_eq_true rfl) d6_cheapest_60 ?_
        exact q_iret S hr hlk hR hS h0 d6_cheapest_63
      · have h0 := og_t hc2 h0
        refine lv_iload_n hx hb d6_cheapest_51 rfl (lv_at hl 2 rfl) ?_
        refine lv_goto (tgt := 63) hx hb d6_cheapest_52 (by decide) ?_
        exact q_iret S hr hlk hR hS h0 d6_cheapest_63
    · have h0 := og_f hc1 h0
      refine lv_aload_n hx hb d6_cheapest_20 rfl (lv_at hl 0 rfl) ?_
      refine lv_iload_n hx hb d6_cheapest_21 rfl (lv_at hl 3 rfl) ?_
      obtain ⟨σ2, q202, hr2, h0⟩ := og_o h0
      obtain ⟨hq202, h0⟩ := og_if h0
      refine k6_145 S hK hR hS  hr2 ⟨Nat.zero_le _, Nat.zero_le _⟩ ⟨Nat.le_of_ble_eq_true rfl, Nat.le_of_ble_eq_true rfl⟩ hl.1 (Nat.le_of_ble_eq_true rfl) d6_cheapest_22 (fun H locs hR hS => ?_)
      obtain ⟨r3, hr3, h0⟩ := og_b h0
      refine k6_164 S hK hR hq202 hr3 ⟨Nat.zero_le _, Nat.zero_le _⟩ ⟨Nat.le_of_ble_eq_true rfl, Nat.le_of_ble_eq_true rfl⟩ hl.1 (Nat.le_of_ble_eq_true rfl) d6_cheapest_25 ?_
      refine lv_aload_n hx hb d6_cheapest_28 rfl (lv_at hl 0 rfl) ?_
      refine lv_iload_n hx hb d6_cheapest_29 rfl (lv_at hl 2 rfl) ?_
      obtain ⟨σ4, q204, hr4, h0⟩ := og_o h0
      obtain ⟨hq204, h0⟩ := og_if h0
      refine k6_145 S hK hR hS  hr4 ⟨Nat.zero_le _, Nat.zero_le _⟩ ⟨Nat.le_of_ble_eq_true rfl, Nat.le_of_ble_eq_true rfl⟩ hl.1 (Nat.le_of_ble_eq_true rfl) d6_cheapest_30 (fun H locs hR hS => ?_)
      obtain ⟨r5, hr5, h0⟩ := og_b h0
      refine k6_164 S hK hR hq204 hr5 ⟨Nat.zero_le _, Nat.zero_le _⟩ ⟨Nat.le_of_ble_eq_true rfl, Nat.le_of_ble_eq_true rfl⟩ hl.1 (Nat.le_of_ble_eq_true rfl) d6_cheapest_33 ?_
      refine lv_icmp_ge (tgt := 41) hx hb d6_cheapest_36 (by decide) (fun hc6 => ?_) (fun hc6 => ?_)
      · have h0 := og_t hc6 h0
        refine lv_iinc (v := x3 + 1) (lv' := [(3, .int (x3 + 1)), (0, .ref (w.2.2 0)), (1, .int x1), (2, .int x2)]) hx hb d6_cheapest_41 hl (k := 3) rfl (ii1 _) (by decide) rfl (fun ls hl => ?_)
        refine lv_goto (tgt := 15) hx hb d6_cheapest_44 (by decide) ?_
        exact ih σ4 x1 x2 (x3 + 1) h0 _ _ hR hS _ (lv_sub hl [1, 2, 3, 0] rfl)
      · have h0 := og_f hc6 h0
        refine lv_iload_n hx hb d6_cheapest_39 rfl (lv_at hl 3 rfl) ?_
        refine lv_istore_n (lv' := [(2, .int x3), (0, .ref (w.2.2 0)), (1, .int x1), (3, .int x3)]) hx hb d6_cheapest_40 rfl hl (by decide) rfl (fun ls hl => ?_)
        refine lv_iinc (v := x3 + 1) (lv' := [(3, .int (x3 + 1)), (2, .int x3), (0, .ref (w.2.2 0)), (1, .int x1)]) hx hb d6_cheapest_41 hl (k := 3) rfl (ii1 _) (by decide) rfl (fun ls hl => ?_)
        refine lv_goto (tgt := 15) hx hb d6_cheapest_44 (by decide) ?_
        exact ih σ4 x1 x3 (x3 + 1) h0 _ _ hR hS _ (lv_sub hl [2, 3, 1, 0] rfl)
def f6_cheapest (σ : Mem) (x1 : Int32) : Option (Mem × Int32) := Option.bind (f6_between x1 0 1) fun r1 => if r1 = 0 then some (σ, (-1)) else f6_cheapest_b15 1000 σ x1 0 1
set_option maxHeartbeats 4000000 in
set_option maxRecDepth 100000 in
theorem c6_cheapest (l : Launch) {w : WV} {σ : Mem} {x1 : Int32} {σ' : Mem} {r : Int32} (h0 : f6_cheapest σ x1 = some (σ', r)) : Met l yX6_cheapest (wy yX6_cheapest cX6_cheapest 4 (some .int)) rm6_cheapest (Pw EC LC w [.ref (w.2.2 0), .int x1] σ) (Qw EC LC w σ' (some (.int r))) 0 0 (AW LC w) := by
  refine mk_met (by decide) (Nat.le_of_ble_eq_true rfl) ?_
  intro p e s m below meth c S hr hlk hK hR ls hl
  obtain ⟨hx, hb, hml, hown, hts⟩ := id S
  have hl : lv_has ls 4 [(0, .ref (w.2.2 0)), (1, .int x1)] := hl
  have hS : va_S (AW LC w) s.heap s.heap [] := va_S.rf
  unfold f6_cheapest at h0
  refine lv_iload_n hx hb d6_cheapest_0 rfl (lv_at hl 1 rfl) ?_
  refine lv_iconst (v := 0) hx hb d6_cheapest_1 (by decide) ?_
  refine lv_iconst (v := 1) hx hb d6_cheapest_2 (by decide) ?_
  obtain ⟨r1, hr1, h0⟩ := og_b h0
  refine k6_102 S  hr1 ⟨Nat.zero_le _, Nat.zero_le _⟩ ⟨Nat.le_of_ble_eq_true rfl, Nat.le_of_ble_eq_true rfl⟩ hl.1 (Nat.le_of_ble_eq_true rfl) d6_cheapest_3 ?_
  refine lv_if_ne (tgt := 11) hx hb d6_cheapest_6 (by decide) (fun hc2 => ?_) (fun hc2 => ?_)
  · have h0 := og_f hc2 h0
    refine lv_iconst (v := 0) hx hb d6_cheapest_11 (by decide) ?_
    refine lv_istore_n (lv' := [(2, .int 0), (0, .ref (w.2.2 0)), (1, .int x1)]) hx hb d6_cheapest_12 rfl hl (by decide) rfl (fun ls hl => ?_)
    refine lv_iconst (v := 1) hx hb d6_cheapest_13 (by decide) ?_
    refine lv_istore_n (lv' := [(3, .int 1), (2, .int 0), (0, .ref (w.2.2 0)), (1, .int x1)]) hx hb d6_cheapest_14 rfl hl (by decide) rfl (fun ls hl => ?_)
    exact t6_cheapest_b15 S hr hlk hK 1000 σ x1 0 1 h0 _ _ hR hS _ (lv_sub hl [2, 3, 1, 0] rfl)
  · have h0 := og_t hc2 h0
    refine lv_iconst (v := (-1)) hx hb d6_cheapest_9 (by decide) ?_
    exact q_iret S hr hlk hR hS h0 d6_cheapest_10
/-! FourTenGates.findLead()V -/
abbrev rm6_findLead : Room := { frames := 5, cells := 0, slots := 0, locals := 111 }
theorem d6_findLead_0 : decode cX6_findLead 0 = .ok (.aload_n 0, 1) := by decide +kernel
theorem d6_findLead_1 : decode cX6_findLead 1 = .ok (.getfield 33, 3) := by decide +kernel
theorem d6_findLead_4 : decode cX6_findLead 4 = .ok (.aload_n 0, 1) := by decide +kernel
theorem d6_findLead_5 : decode cX6_findLead 5 = .ok (.getfield 29, 3) := by decide +kernel
theorem d6_findLead_8 : decode cX6_findLead 8 = .ok (.invokevirtual 222, 3) := by decide +kernel
theorem d6_findLead_11 : decode cX6_findLead 11 = .ok (.aload_n 0, 1) := by decide +kernel
theorem d6_findLead_12 : decode cX6_findLead 12 = .ok (.iconst 0, 1) := by decide +kernel
theorem d6_findLead_13 : decode cX6_findLead 13 = .ok (.putfield 72, 3) := by decide +kernel
theorem d6_findLead_16 : decode cX6_findLead 16 = .ok (.aload_n 0, 1) := by decide +kernel
theorem d6_findLead_17 : decode cX6_findLead 17 = .ok (.ldc 230, 2) := by decide +kernel
theorem d6_findLead_19 : decode cX6_findLead 19 = .ok (.putfield 76, 3) := by decide +kernel
theorem d6_findLead_22 : decode cX6_findLead 22 = .ok (.iconst 0, 1) := by decide +kernel
theorem d6_findLead_23 : decode cX6_findLead 23 = .ok (.istore_n 1, 1) := by decide +kernel
theorem d6_findLead_24 : decode cX6_findLead 24 = .ok (.iload_n 1, 1) := by decide +kernel
theorem d6_findLead_25 : decode cX6_findLead 25 = .ok (.bipush 99, 2) := by decide +kernel
theorem d6_findLead_27 : decode cX6_findLead 27 = .ok (.if_icmp .gt 52, 3) := by decide +kernel
theorem d6_findLead_30 : decode cX6_findLead 30 = .ok (.aload_n 0, 1) := by decide +kernel
theorem d6_findLead_31 : decode cX6_findLead 31 = .ok (.getfield 45, 3) := by decide +kernel
theorem d6_findLead_34 : decode cX6_findLead 34 = .ok (.iconst 4, 1) := by decide +kernel
theorem d6_findLead_35 : decode cX6_findLead 35 = .ok (.iload_n 1, 1) := by decide +kernel
theorem d6_findLead_36 : decode cX6_findLead 36 = .ok (.aload_n 0, 1) := by decide +kernel
theorem d6_findLead_37 : decode cX6_findLead 37 = .ok (.getfield 76, 3) := by decide +kernel
theorem d6_findLead_40 : decode cX6_findLead 40 = .ok (.invokevirtual 231, 3) := by decide +kernel
theorem d6_findLead_43 : decode cX6_findLead 43 = .ok (.aload_n 0, 1) := by decide +kernel
theorem d6_findLead_44 : decode cX6_findLead 44 = .ok (.getfield 45, 3) := by decide +kernel
theorem d6_findLead_47 : decode cX6_findLead 47 = .ok (.invokevirtual 164, 3) := by decide +kernel
theorem d6_findLead_50 : decode cX6_findLead 50 = .ok (.aload_n 0, 1) := by decide +kernel
theorem d6_findLead_51 : decode cX6_findLead 51 = .ok (.getfield 76, 3) := by decide +kernel
theorem d6_findLead_54 : decode cX6_findLead 54 = .ok (.if_icmp .ge 19, 3) := by decide +kernel
theorem d6_findLead_57 : decode cX6_findLead 57 = .ok (.aload_n 0, 1) := by decide +kernel
theorem d6_findLead_58 : decode cX6_findLead 58 = .ok (.aload_n 0, 1) := by decide +kernel
theorem d6_findLead_59 : decode cX6_findLead 59 = .ok (.getfield 45, 3) := by decide +kernel
theorem d6_findLead_62 : decode cX6_findLead 62 = .ok (.invokevirtual 164, 3) := by decide +kernel
theorem d6_findLead_65 : decode cX6_findLead 65 = .ok (.putfield 76, 3) := by decide +kernel
theorem d6_findLead_68 : decode cX6_findLead 68 = .ok (.aload_n 0, 1) := by decide +kernel
theorem d6_findLead_69 : decode cX6_findLead 69 = .ok (.iload_n 1, 1) := by decide +kernel
theorem d6_findLead_70 : decode cX6_findLead 70 = .ok (.putfield 72, 3) := by decide +kernel
theorem d6_findLead_73 : decode cX6_findLead 73 = .ok (.iinc 1 1, 3) := by decide +kernel
theorem d6_findLead_76 : decode cX6_findLead 76 = .ok (.goto (-52), 3) := by decide +kernel
theorem d6_findLead_79 : decode cX6_findLead 79 = .ok (.aload_n 0, 1) := by decide +kernel
theorem d6_findLead_80 : decode cX6_findLead 80 = .ok (.iconst 1, 1) := by decide +kernel
theorem d6_findLead_81 : decode cX6_findLead 81 = .ok (.putfield 68, 3) := by decide +kernel
theorem d6_findLead_84 : decode cX6_findLead 84 = .ok (.return_, 1) := by decide +kernel
def f6_findLead_b24 : Nat → Mem → Int32 → Option Mem
  | 0, _, _ => none
  | n + 1, σ, x1 => if 99 < x1 then bm (mu σ 0 10 1) fun σ2 => some σ2 else Option.bind (f1_run σ 74 4 x1 (σ 0 12)) fun σ2 => Option.bind (f1_total σ2 74) fun r3 => if (σ2 0 12) ≤ r3 then f6_findLead_b24 n σ2 (x1 + 1) else Option.bind (f1_total σ2 74) fun r5 => bm (mu σ2 0 12 r5) fun σ6 => bm (mu σ6 0 11 x1) fun σ7 => f6_findLead_b24 n σ7 (x1 + 1)
set_option maxHeartbeats 4000000 in
set_option maxRecDepth 100000 in
theorem t6_findLead_b24 {p : Program} {l : Launch} {e : Env} {s : State} {m : MethodId} {args : Array Value} {below : List Frame} {meth : Method} {c : Code} {w : WV} {σ' : Mem} (S : CallFix p m c cX6_findLead 2 s args gtbl RX6) (hr : meth.sig.returnType = none) (hlk : meth.locks = false) (hK : KS LC w s) : ∀ (n : Nat), ∀ (σ : Mem) (x1 : Int32), f6_findLead_b24  n σ x1 = some σ' → ∀ (H : Heap) (locs : List Loc), Rp EC LC w σ H → va_S (AW LC w) s.heap H locs → ∀ (ls : Array Slot), lv_has ls 2 [(0, .ref (w.2.2 0)), (1, .int x1)] → W p l e rm6_findLead s m args below meth c H locs 0 0 (MQ below (Qw EC LC w σ' none) args s 0 0 (AW LC w)) (F0 m 24 ls []) := by
  obtain ⟨hx, hb, hml, hown, hts⟩ := id S
  intro n
  induction n with
  | zero =>
    intro σ x1 h0
    cases (show none = _ from h0)
  | succ n ih =>
    intro σ x1 h0 H locs hR hS ls hl
    rw [f6_findLead_b24] at h0
    refine lv_iload_n hx hb d6_findLead_24 rfl (lv_at hl 1 rfl) ?_
    refine lv_bipush (v := 99) hx hb d6_findLead_25 (by decide) ?_
    refine lv_icmp_gt (tgt := 79) hx hb d6_findLead_27 (by decide) (fun hc1 => ?_) (fun hc1 => ?_)
    · have h0 := og_t hc1 h0
      refine lv_aload_n hx hb d6_findLead_79 rfl (lv_at hl 0 rfl) ?_
      refine lv_iconst (v := 1) hx hb d6_findLead_80 (by decide) ?_
      obtain ⟨σ2, hm2, h0⟩ := og_m h0
      refine u6_68 S hK hR hS (Or.inr rfl) hm2 d6_findLead_81 (fun H locs hR hS => ?_)
      exact q_vret S hr hlk hR hS h0 d6_findLead_84
    · have h0 := og_f hc1 h0
      refine lv_aload_n hx hb d6_findLead_30 rfl (lv_at hl 0 rfl) ?_
      refine g6_45 S hK hR d6_findLead_31 ?_
      refine lv_iconst (v := 4) hx hb d6_findLead_34 (by decide) ?_
      refine lv_iload_n hx hb d6_findLead_35 rfl (lv_at hl 1 rfl) ?_
      refine lv_aload_n hx hb d6_findLead_36 rfl (lv_at hl 0 rfl) ?_
      refine g6_76 S hK hR d6_findLead_37 ?_
      obtain ⟨σ2, hr2, h0⟩ := og_b h0
      refine k6_231 S hK hR hS (by decide) hr2 ⟨Nat.zero_le _, Nat.zero_le _⟩ ⟨Nat.le_of_ble_eq_true rfl, Nat.le_of_ble_eq_true rfl⟩ hl.1 (Nat.le_of_ble_eq_true rfl) d6_findLead_40 (fun H locs hR hS => ?_)
      refine lv_aload_n hx hb d6_findLead_43 rfl (lv_at hl 0 rfl) ?_
      refine g6_45 S hK hR d6_findLead_44 ?_
      obtain ⟨r3, hr3, h0⟩ := og_b h0
      refine k6_164 S hK hR (by decide) hr3 ⟨Nat.zero_le _, Nat.zero_le _⟩ ⟨Nat.le_of_ble_eq_true rfl, Nat.le_of_ble_eq_true rfl⟩ hl.1 (Nat.le_of_ble_eq_true rfl) d6_findLead_47 ?_
      refine lv_aload_n hx hb d6_findLead_50 rfl (lv_at hl 0 rfl) ?_
      refine g6_76 S hK hR d6_findLead_51 ?_
      refine lv_icmp_ge (tgt := 73) hx hb d6_findLead_54 (by decide) (fun hc4 => ?_) (fun hc4 => ?_)
      · have h0 := og_t hc4 h0
        refine lv_iinc (v := x1 + 1) (lv' := [(1, .int (x1 + 1)), (0, .ref (w.2.2 0))]) hx hb d6_findLead_73 hl (k := 1) rfl (ii1 _) (by decide) rfl (fun ls hl => ?_)
        refine lv_goto (tgt := 24) hx hb d6_findLead_76 (by decide) ?_
        exact ih σ2 (x1 + 1) h0 _ _ hR hS _ (lv_sub hl [1, 0] rfl)
      · have h0 := og_f hc4 h0
        refine lv_aload_n hx hb d6_findLead_57 rfl (lv_at hl 0 rfl) ?_
        refine lv_aload_n hx hb d6_findLead_58 rfl (lv_at hl 0 rfl) ?_
        refine g6_45 S hK hR d6_findLead_59 ?_
        obtain ⟨r5, hr5, h0⟩ := og_b h0
        refine k6_164 S hK hR (by decide) hr5 ⟨Nat.zero_le _, Nat.zero_le _⟩ ⟨Nat.le_of_ble_eq_true rfl, Nat.le_of_ble_eq_true rfl⟩ hl.1 (Nat.le_of_ble_eq_true rfl) d6_findLead_62 ?_
        obtain ⟨σ6, hm6, h0⟩ := og_m h0
        refine u6_76 S hK hR hS hm6 d6_findLead_65 (fun H locs hR hS => ?_)
        refine lv_aload_n hx hb d6_findLead_68 rfl (lv_at hl 0 rfl) ?_
        refine lv_iload_n hx hb d6_findLead_69 rfl (lv_at hl 1 rfl) ?_
        obtain ⟨σ7, hm7, h0⟩ := og_m h0
        refine u6_72 S hK hR hS hm7 d6_findLead_70 (fun H locs hR hS => ?_)
        refine lv_iinc (v := x1 + 1) (lv' := [(1, .int (x1 + 1)), (0, .ref (w.2.2 0))]) hx hb d6_findLead_73 hl (k := 1) rfl (ii1 _) (by decide) rfl (fun ls hl => ?_)
        refine lv_goto (tgt := 24) hx hb d6_findLead_76 (by decide) ?_
        exact ih σ7 (x1 + 1) h0 _ _ hR hS _ (lv_sub hl [1, 0] rfl)
def f6_findLead (σ : Mem) : Option Mem := Option.bind (f4_copy σ 36 31) fun σ1 => bm (mu σ1 0 11 0) fun σ2 => bm (mu σ2 0 12 1000000) fun σ3 => f6_findLead_b24 1000 σ3 0
set_option maxHeartbeats 4000000 in
set_option maxRecDepth 100000 in
theorem c6_findLead (l : Launch) {w : WV} {σ : Mem} {σ' : Mem} (h0 : f6_findLead σ = some σ') : Met l yX6_findLead (wy yX6_findLead cX6_findLead 2 none) rm6_findLead (Pw EC LC w [.ref (w.2.2 0)] σ) (Qw EC LC w σ' none) 0 0 (AW LC w) := by
  refine mk_met (by decide) (Nat.le_of_ble_eq_true rfl) ?_
  intro p e s m below meth c S hr hlk hK hR ls hl
  obtain ⟨hx, hb, hml, hown, hts⟩ := id S
  have hl : lv_has ls 2 [(0, .ref (w.2.2 0))] := hl
  have hS : va_S (AW LC w) s.heap s.heap [] := va_S.rf
  unfold f6_findLead at h0
  refine lv_aload_n hx hb d6_findLead_0 rfl (lv_at hl 0 rfl) ?_
  refine g6_33 S hK hR d6_findLead_1 ?_
  refine lv_aload_n hx hb d6_findLead_4 rfl (lv_at hl 0 rfl) ?_
  refine g6_29 S hK hR d6_findLead_5 ?_
  obtain ⟨σ1, hr1, h0⟩ := og_b h0
  refine k6_222 S hK hR hS (by decide) (by decide) hr1 ⟨Nat.zero_le _, Nat.zero_le _⟩ ⟨Nat.le_of_ble_eq_true rfl, Nat.le_of_ble_eq_true rfl⟩ hl.1 (Nat.le_of_ble_eq_true rfl) d6_findLead_8 (fun H locs hR hS => ?_)
  refine lv_aload_n hx hb d6_findLead_11 rfl (lv_at hl 0 rfl) ?_
  refine lv_iconst (v := 0) hx hb d6_findLead_12 (by decide) ?_
  obtain ⟨σ2, hm2, h0⟩ := og_m h0
  refine u6_72 S hK hR hS hm2 d6_findLead_13 (fun H locs hR hS => ?_)
  refine lv_aload_n hx hb d6_findLead_16 rfl (lv_at hl 0 rfl) ?_
  refine lv_ldc (v := 1000000) hx hb hown (hts _ (gt_at 564 (by decide +kernel) (by decide +kernel))) d6_findLead_17 ?_
  obtain ⟨σ3, hm3, h0⟩ := og_m h0
  refine u6_76 S hK hR hS hm3 d6_findLead_19 (fun H locs hR hS => ?_)
  refine lv_iconst (v := 0) hx hb d6_findLead_22 (by decide) ?_
  refine lv_istore_n (lv' := [(1, .int 0), (0, .ref (w.2.2 0))]) hx hb d6_findLead_23 rfl hl (by decide) rfl (fun ls hl => ?_)
  exact t6_findLead_b24 S hr hlk hK 1000 σ3 0 h0 _ _ hR hS _ (lv_sub hl [1, 0] rfl)
set_option maxHeartbeats 4000000 in
set_option maxRecDepth 100000 in
theorem k6_197 {p : Program} {l : Launch} {e : Env} {R : Room} {s : State} {m : MethodId} {args : Array Value} {below : List Frame} {meth : Method} {c : Code} {H : Heap} {locs : List Loc} {cells slots : Nat} {Q : State → Prop} {cc : ByteArray} {pc nL : Nat} {ls : Array Slot} {rest : List Value} {w : WV} {σ : Mem} {σ1 : Mem} (S : CallFix p m c cc nL s args gtbl RX6) (hK : KS LC w s) (hR : Rp EC LC w σ H) (hS : va_S (AW LC w) s.heap H locs) (h0 : f6_findLead σ = some σ1) (hf : cells + 0 ≤ R.cells ∧ slots + 0 ≤ R.slots) (hRm : rm6_findLead.frames + 1 ≤ R.frames ∧ 8 + (2 + 11) + rm6_findLead.locals ≤ R.locals) (hl : ls.size = nL) (hW : (rest.map fun v => v.category).sum ≤ 8) (hdg : decode cc pc = .ok (.invokevirtual 197, 3)) (kk : ∀ (H1 : Heap) (locs1 : List Loc), Rp EC LC w σ1 H1 → va_S (AW LC w) s.heap H1 locs1 → W p l e R s m args below meth c H1 locs1 cells slots Q (F0 m (pc + 3) ls (rest))) : W p l e R s m args below meth c H locs cells slots Q (F0 m pc ls (.ref (w.2.2 0) :: rest)) := r_end hS (run_V (n := 0) (As := []) S hK hR (by decide) (eC_6 w _) rfl (gw_V (gt_at 801 (by decide +kernel) (by decide +kernel)) (gt_at 803 (by decide +kernel) (by decide +kernel)) (gt_at 35 (by decide +kernel) (by decide +kernel)) (gt_at 74 (by decide +kernel) (by decide +kernel)) (gt_at 804 (by decide +kernel) (by decide +kernel))) (by decide +kernel) rfl (c6_findLead l h0) ⟨rfl, rfl⟩ hRm hf hl rfl hW hdg) kk
/-! FourTenGates.lead(I)I -/
abbrev rm6_lead : Room := { frames := 6, cells := 0, slots := 0, locals := 132 }
theorem d6_lead_0 : decode cX6_lead 0 = .ok (.iload_n 1, 1) := by decide +kernel
theorem d6_lead_1 : decode cX6_lead 1 = .ok (.iconst 0, 1) := by decide +kernel
theorem d6_lead_2 : decode cX6_lead 2 = .ok (.iconst 1, 1) := by decide +kernel
theorem d6_lead_3 : decode cX6_lead 3 = .ok (.invokestatic 102, 3) := by decide +kernel
theorem d6_lead_6 : decode cX6_lead 6 = .ok (.ifCond .ne 5, 3) := by decide +kernel
theorem d6_lead_9 : decode cX6_lead 9 = .ok (.iconst (-1), 1) := by decide +kernel
theorem d6_lead_10 : decode cX6_lead 10 = .ok (.ireturn, 1) := by decide +kernel
theorem d6_lead_11 : decode cX6_lead 11 = .ok (.aload_n 0, 1) := by decide +kernel
theorem d6_lead_12 : decode cX6_lead 12 = .ok (.getfield 68, 3) := by decide +kernel
theorem d6_lead_15 : decode cX6_lead 15 = .ok (.ifCond .ne 7, 3) := by decide +kernel
theorem d6_lead_18 : decode cX6_lead 18 = .ok (.aload_n 0, 1) := by decide +kernel
theorem d6_lead_19 : decode cX6_lead 19 = .ok (.invokevirtual 197, 3) := by decide +kernel
theorem d6_lead_22 : decode cX6_lead 22 = .ok (.iload_n 1, 1) := by decide +kernel
theorem d6_lead_23 : decode cX6_lead 23 = .ok (.ifCond .ne 10, 3) := by decide +kernel
theorem d6_lead_26 : decode cX6_lead 26 = .ok (.aload_n 0, 1) := by decide +kernel
theorem d6_lead_27 : decode cX6_lead 27 = .ok (.getfield 72, 3) := by decide +kernel
theorem d6_lead_30 : decode cX6_lead 30 = .ok (.goto 7, 3) := by decide +kernel
theorem d6_lead_33 : decode cX6_lead 33 = .ok (.aload_n 0, 1) := by decide +kernel
theorem d6_lead_34 : decode cX6_lead 34 = .ok (.getfield 76, 3) := by decide +kernel
theorem d6_lead_37 : decode cX6_lead 37 = .ok (.ireturn, 1) := by decide +kernel
def f6_lead_b22 (σ : Mem) (x1 : Int32) : Option (Mem × Int32) := if x1 = 0 then some (σ, σ 0 11) else some (σ, σ 0 12)
set_option maxHeartbeats 4000000 in
set_option maxRecDepth 100000 in
theorem t6_lead_b22 {p : Program} {l : Launch} {e : Env} {s : State} {m : MethodId} {args : Array Value} {below : List Frame} {meth : Method} {c : Code} {w : WV} {σ' : Mem} {r : Int32} (S : CallFix p m c cX6_lead 2 s args gtbl RX6) (hr : meth.sig.returnType = (some .int)) (hlk : meth.locks = false) (hK : KS LC w s) : ∀ (σ : Mem) (x1 : Int32), f6_lead_b22  σ x1 = some (σ', r) → ∀ (H : Heap) (locs : List Loc), Rp EC LC w σ H → va_S (AW LC w) s.heap H locs → ∀ (ls : Array Slot), lv_has ls 2 [(0, .ref (w.2.2 0)), (1, .int x1)] → W p l e rm6_lead s m args below meth c H locs 0 0 (MQ below (Qw EC LC w σ' (some (.int r))) args s 0 0 (AW LC w)) (F0 m 22 ls []) := by
  obtain ⟨hx, hb, hml, hown, hts⟩ := id S
  intro σ x1 h0 H locs hR hS ls hl
  unfold f6_lead_b22 at h0
  refine lv_iload_n hx hb d6_lead_22 rfl (lv_at hl 1 rfl) ?_
  refine lv_if_ne (tgt := 33) hx hb d6_lead_23 (by decide) (fun hc1 => ?_) (fun hc1 => ?_)
  · have h0 := og_f hc1 h0
    refine lv_aload_n hx hb d6_lead_33 rfl (lv_at hl 0 rfl) ?_
    refine g6_76 S hK hR d6_lead_34 ?_
    exact q_iret S hr hlk hR hS h0 d6_lead_37
  · have h0 := og_t hc1 h0
    refine lv_aload_n hx hb d6_lead_26 rfl (lv_at hl 0 rfl) ?_
    refine g6_72 S hK hR d6_lead_27 ?_
    refine lv_goto (tgt := 37) hx hb d6_lead_30 (by decide) ?_
    exact q_iret S hr hlk hR hS h0 d6_lead_37
def f6_lead (σ : Mem) (x1 : Int32) : Option (Mem × Int32) := Option.bind (f6_between x1 0 1) fun r1 => if r1 = 0 then some (σ, (-1)) else if (σ 0 10) = 0 then Option.bind (f6_findLead σ) fun σ4 => f6_lead_b22 σ4 x1 else f6_lead_b22 σ x1
set_option maxHeartbeats 4000000 in
set_option maxRecDepth 100000 in
theorem c6_lead (l : Launch) {w : WV} {σ : Mem} {x1 : Int32} {σ' : Mem} {r : Int32} (h0 : f6_lead σ x1 = some (σ', r)) : Met l yX6_lead (wy yX6_lead cX6_lead 2 (some .int)) rm6_lead (Pw EC LC w [.ref (w.2.2 0), .int x1] σ) (Qw EC LC w σ' (some (.int r))) 0 0 (AW LC w) := by
  refine mk_met (by decide) (Nat.le_of_ble_eq_true rfl) ?_
  intro p e s m below meth c S hr hlk hK hR ls hl
  obtain ⟨hx, hb, hml, hown, hts⟩ := id S
  have hl : lv_has ls 2 [(0, .ref (w.2.2 0)), (1, .int x1)] := hl
  have hS : va_S (AW LC w) s.heap s.heap [] := va_S.rf
  unfold f6_lead at h0
  refine lv_iload_n hx hb d6_lead_0 rfl (lv_at hl 1 rfl) ?_
  refine lv_iconst (v := 0) hx hb d6_lead_1 (by decide) ?_
  refine lv_iconst (v := 1) hx hb d6_lead_2 (by decide) ?_
  obtain ⟨r1, hr1, h0⟩ := og_b h0
  refine k6_102 S  hr1 ⟨Nat.zero_le _, Nat.zero_le _⟩ ⟨Nat.le_of_ble_eq_true rfl, Nat.le_of_ble_eq_true rfl⟩ hl.1 (Nat.le_of_ble_eq_true rfl) d6_lead_3 ?_
  refine lv_if_ne (tgt := 11) hx hb d6_lead_6 (by decide) (fun hc2 => ?_) (fun hc2 => ?_)
  · have h0 := og_f hc2 h0
    refine lv_aload_n hx hb d6_lead_11 rfl (lv_at hl 0 rfl) ?_
    refine g6_68 S hK hR d6_lead_12 ?_
    refine lv_if_ne (tgt := 22) hx hb d6_lead_15 (by decide) (fun hc3 => ?_) (fun hc3 => ?_)
    · have h0 := og_f hc3 h0
      exact t6_lead_b22 S hr hlk hK σ x1 h0 _ _ hR hS _ (lv_sub hl [0, 1] rfl)
    · have h0 := og_t hc3 h0
      refine lv_aload_n hx hb d6_lead_18 rfl (lv_at hl 0 rfl) ?_
      obtain ⟨σ4, hr4, h0⟩ := og_b h0
      refine k6_197 S hK hR hS  hr4 ⟨Nat.zero_le _, Nat.zero_le _⟩ ⟨Nat.le_of_ble_eq_true rfl, Nat.le_of_ble_eq_true rfl⟩ hl.1 (Nat.le_of_ble_eq_true rfl) d6_lead_19 (fun H locs hR hS => ?_)
      exact t6_lead_b22 S hr hlk hK σ4 x1 h0 _ _ hR hS _ (lv_sub hl [0, 1] rfl)
  · have h0 := og_t hc2 h0
    refine lv_iconst (v := (-1)) hx hb d6_lead_9 (by decide) ?_
    exact q_iret S hr hlk hR hS h0 d6_lead_10
/-! FourTenGates.costIfLate(III)I -/
abbrev rm6_costIfLate : Room := { frames := 5, cells := 0, slots := 0, locals := 111 }
theorem d6_costIfLate_0 : decode cX6_costIfLate 0 = .ok (.aload_n 0, 1) := by decide +kernel
theorem d6_costIfLate_1 : decode cX6_costIfLate 1 = .ok (.getfield 33, 3) := by decide +kernel
theorem d6_costIfLate_4 : decode cX6_costIfLate 4 = .ok (.aload_n 0, 1) := by decide +kernel
theorem d6_costIfLate_5 : decode cX6_costIfLate 5 = .ok (.getfield 29, 3) := by decide +kernel
theorem d6_costIfLate_8 : decode cX6_costIfLate 8 = .ok (.invokevirtual 222, 3) := by decide +kernel
theorem d6_costIfLate_11 : decode cX6_costIfLate 11 = .ok (.aload_n 0, 1) := by decide +kernel
theorem d6_costIfLate_12 : decode cX6_costIfLate 12 = .ok (.getfield 33, 3) := by decide +kernel
theorem d6_costIfLate_15 : decode cX6_costIfLate 15 = .ok (.iload_n 2, 1) := by decide +kernel
theorem d6_costIfLate_16 : decode cX6_costIfLate 16 = .ok (.iload_n 3, 1) := by decide +kernel
theorem d6_costIfLate_17 : decode cX6_costIfLate 17 = .ok (.invokevirtual 170, 3) := by decide +kernel
theorem d6_costIfLate_20 : decode cX6_costIfLate 20 = .ok (.aload_n 0, 1) := by decide +kernel
theorem d6_costIfLate_21 : decode cX6_costIfLate 21 = .ok (.getfield 45, 3) := by decide +kernel
theorem d6_costIfLate_24 : decode cX6_costIfLate 24 = .ok (.iload_n 1, 1) := by decide +kernel
theorem d6_costIfLate_25 : decode cX6_costIfLate 25 = .ok (.iconst 0, 1) := by decide +kernel
theorem d6_costIfLate_26 : decode cX6_costIfLate 26 = .ok (.ldc 230, 2) := by decide +kernel
theorem d6_costIfLate_28 : decode cX6_costIfLate 28 = .ok (.invokevirtual 231, 3) := by decide +kernel
theorem d6_costIfLate_31 : decode cX6_costIfLate 31 = .ok (.aload_n 0, 1) := by decide +kernel
theorem d6_costIfLate_32 : decode cX6_costIfLate 32 = .ok (.getfield 45, 3) := by decide +kernel
theorem d6_costIfLate_35 : decode cX6_costIfLate 35 = .ok (.invokevirtual 164, 3) := by decide +kernel
theorem d6_costIfLate_38 : decode cX6_costIfLate 38 = .ok (.ireturn, 1) := by decide +kernel
def f6_costIfLate (σ : Mem) (x1 : Int32) (x2 : Int32) (x3 : Int32) : Option (Mem × Int32) := Option.bind (f4_copy σ 36 31) fun σ1 => Option.bind (f4_makeLate σ1 36 x2 x3) fun σ2 => Option.bind (f1_run σ2 74 x1 0 1000000) fun σ3 => Option.bind (f1_total σ3 74) fun r4 => some (σ3, r4)
set_option maxHeartbeats 4000000 in
set_option maxRecDepth 100000 in
theorem c6_costIfLate (l : Launch) {w : WV} {σ : Mem} {x1 : Int32} {x2 : Int32} {x3 : Int32} {σ' : Mem} {r : Int32} (h0 : f6_costIfLate σ x1 x2 x3 = some (σ', r)) : Met l yX6_costIfLate (wy yX6_costIfLate cX6_costIfLate 4 (some .int)) rm6_costIfLate (Pw EC LC w [.ref (w.2.2 0), .int x1, .int x2, .int x3] σ) (Qw EC LC w σ' (some (.int r))) 0 0 (AW LC w) := by
  refine mk_met (by decide) (Nat.le_of_ble_eq_true rfl) ?_
  intro p e s m below meth c S hr hlk hK hR ls hl
  obtain ⟨hx, hb, hml, hown, hts⟩ := id S
  have hl : lv_has ls 4 [(0, .ref (w.2.2 0)), (1, .int x1), (2, .int x2), (3, .int x3)] := hl
  have hS : va_S (AW LC w) s.heap s.heap [] := va_S.rf
  unfold f6_costIfLate at h0
  refine lv_aload_n hx hb d6_costIfLate_0 rfl (lv_at hl 0 rfl) ?_
  refine g6_33 S hK hR d6_costIfLate_1 ?_
  refine lv_aload_n hx hb d6_costIfLate_4 rfl (lv_at hl 0 rfl) ?_
  refine g6_29 S hK hR d6_costIfLate_5 ?_
  obtain ⟨σ1, hr1, h0⟩ := og_b h0
  refine k6_222 S hK hR hS (by decide) (by decide) hr1 ⟨Nat.zero_le _, Nat.zero_le _⟩ ⟨Nat.le_of_ble_eq_true rfl, Nat.le_of_ble_eq_true rfl⟩ hl.1 (Nat.le_of_ble_eq_true rfl) d6_costIfLate_8 (fun H locs hR hS => ?_)
  refine lv_aload_n hx hb d6_costIfLate_11 rfl (lv_at hl 0 rfl) ?_
  refine g6_33 S hK hR d6_costIfLate_12 ?_
  refine lv_iload_n hx hb d6_costIfLate_15 rfl (lv_at hl 2 rfl) ?_
  refine lv_iload_n hx hb d6_costIfLate_16 rfl (lv_at hl 3 rfl) ?_
  obtain ⟨σ2, hr2, h0⟩ := og_b h0
  refine k6_170 S hK hR hS (by decide) hr2 ⟨Nat.zero_le _, Nat.zero_le _⟩ ⟨Nat.le_of_ble_eq_true rfl, Nat.le_of_ble_eq_true rfl⟩ hl.1 (Nat.le_of_ble_eq_true rfl) d6_costIfLate_17 (fun H locs hR hS => ?_)
  refine lv_aload_n hx hb d6_costIfLate_20 rfl (lv_at hl 0 rfl) ?_
  refine g6_45 S hK hR d6_costIfLate_21 ?_
  refine lv_iload_n hx hb d6_costIfLate_24 rfl (lv_at hl 1 rfl) ?_
  refine lv_iconst (v := 0) hx hb d6_costIfLate_25 (by decide) ?_
  refine lv_ldc (v := 1000000) hx hb hown (hts _ (gt_at 564 (by decide +kernel) (by decide +kernel))) d6_costIfLate_26 ?_
  obtain ⟨σ3, hr3, h0⟩ := og_b h0
  refine k6_231 S hK hR hS (by decide) hr3 ⟨Nat.zero_le _, Nat.zero_le _⟩ ⟨Nat.le_of_ble_eq_true rfl, Nat.le_of_ble_eq_true rfl⟩ hl.1 (Nat.le_of_ble_eq_true rfl) d6_costIfLate_28 (fun H locs hR hS => ?_)
  refine lv_aload_n hx hb d6_costIfLate_31 rfl (lv_at hl 0 rfl) ?_
  refine g6_45 S hK hR d6_costIfLate_32 ?_
  obtain ⟨r4, hr4, h0⟩ := og_b h0
  refine k6_164 S hK hR (by decide) hr4 ⟨Nat.zero_le _, Nat.zero_le _⟩ ⟨Nat.le_of_ble_eq_true rfl, Nat.le_of_ble_eq_true rfl⟩ hl.1 (Nat.le_of_ble_eq_true rfl) d6_costIfLate_35 ?_
  exact q_iret S hr hlk hR hS h0 d6_costIfLate_38
set_option maxHeartbeats 4000000 in
set_option maxRecDepth 100000 in
theorem k6_200 {p : Program} {l : Launch} {e : Env} {R : Room} {s : State} {m : MethodId} {args : Array Value} {below : List Frame} {meth : Method} {c : Code} {H : Heap} {locs : List Loc} {cells slots : Nat} {Q : State → Prop} {cc : ByteArray} {pc nL : Nat} {ls : Array Slot} {rest : List Value} {w : WV} {σ : Mem} {x1 : Int32} {x2 : Int32} {x3 : Int32} {σ1 : Mem} {r : Int32} (S : CallFix p m c cc nL s args gtbl RX6) (hK : KS LC w s) (hR : Rp EC LC w σ H) (hS : va_S (AW LC w) s.heap H locs) (h0 : f6_costIfLate σ x1 x2 x3 = some (σ1, r)) (hf : cells + 0 ≤ R.cells ∧ slots + 0 ≤ R.slots) (hRm : rm6_costIfLate.frames + 1 ≤ R.frames ∧ 8 + (4 + 11) + rm6_costIfLate.locals ≤ R.locals) (hl : ls.size = nL) (hW : (rest.map fun v => v.category).sum ≤ 8) (hdg : decode cc pc = .ok (.invokevirtual 200, 3)) (kk : ∀ (H1 : Heap) (locs1 : List Loc), Rp EC LC w σ1 H1 → va_S (AW LC w) s.heap H1 locs1 → W p l e R s m args below meth c H1 locs1 cells slots Q (F0 m (pc + 3) ls (.int r :: rest))) : W p l e R s m args below meth c H locs cells slots Q (F0 m pc ls (.int x3 :: .int x2 :: .int x1 :: .ref (w.2.2 0) :: rest)) := r_end hS (run_V (n := 3) (As := [.int x1, .int x2, .int x3]) S hK hR (by decide) (eC_6 w _) rfl (gw_V (gt_at 810 (by decide +kernel) (by decide +kernel)) (gt_at 812 (by decide +kernel) (by decide +kernel)) (gt_at 36 (by decide +kernel) (by decide +kernel)) (gt_at 74 (by decide +kernel) (by decide +kernel)) (gt_at 813 (by decide +kernel) (by decide +kernel))) (by decide +kernel) rfl (c6_costIfLate l h0) ⟨rfl, rfl⟩ hRm hf hl rfl hW hdg) kk
/-! FourTenGates.more(III)I -/
abbrev rm6_more : Room := { frames := 6, cells := 0, slots := 0, locals := 134 }
theorem d6_more_0 : decode cX6_more 0 = .ok (.iload_n 1, 1) := by decide +kernel
theorem d6_more_1 : decode cX6_more 1 = .ok (.invokestatic 139, 3) := by decide +kernel
theorem d6_more_4 : decode cX6_more 4 = .ok (.ifCond .eq 21, 3) := by decide +kernel
theorem d6_more_7 : decode cX6_more 7 = .ok (.aload_n 0, 1) := by decide +kernel
theorem d6_more_8 : decode cX6_more 8 = .ok (.iload_n 2, 1) := by decide +kernel
theorem d6_more_9 : decode cX6_more 9 = .ok (.invokevirtual 117, 3) := by decide +kernel
theorem d6_more_12 : decode cX6_more 12 = .ok (.ifCond .eq 13, 3) := by decide +kernel
theorem d6_more_15 : decode cX6_more 15 = .ok (.iload_n 3, 1) := by decide +kernel
theorem d6_more_16 : decode cX6_more 16 = .ok (.iconst 1, 1) := by decide +kernel
theorem d6_more_17 : decode cX6_more 17 = .ok (.bipush 9, 2) := by decide +kernel
theorem d6_more_19 : decode cX6_more 19 = .ok (.invokestatic 102, 3) := by decide +kernel
theorem d6_more_22 : decode cX6_more 22 = .ok (.ifCond .ne 5, 3) := by decide +kernel
theorem d6_more_25 : decode cX6_more 25 = .ok (.iconst (-1), 1) := by decide +kernel
theorem d6_more_26 : decode cX6_more 26 = .ok (.ireturn, 1) := by decide +kernel
theorem d6_more_27 : decode cX6_more 27 = .ok (.aload_n 0, 1) := by decide +kernel
theorem d6_more_28 : decode cX6_more 28 = .ok (.getfield 29, 3) := by decide +kernel
theorem d6_more_31 : decode cX6_more 31 = .ok (.iload_n 2, 1) := by decide +kernel
theorem d6_more_32 : decode cX6_more 32 = .ok (.invokevirtual 127, 3) := by decide +kernel
theorem d6_more_35 : decode cX6_more 35 = .ok (.iload_n 3, 1) := by decide +kernel
theorem d6_more_36 : decode cX6_more 36 = .ok (.iadd, 1) := by decide +kernel
theorem d6_more_37 : decode cX6_more 37 = .ok (.istore 4, 2) := by decide +kernel
theorem d6_more_39 : decode cX6_more 39 = .ok (.iload 4, 2) := by decide +kernel
theorem d6_more_41 : decode cX6_more 41 = .ok (.bipush 30, 2) := by decide +kernel
theorem d6_more_43 : decode cX6_more 43 = .ok (.if_icmp .le 6, 3) := by decide +kernel
theorem d6_more_46 : decode cX6_more 46 = .ok (.bipush (-2), 2) := by decide +kernel
theorem d6_more_48 : decode cX6_more 48 = .ok (.ireturn, 1) := by decide +kernel
theorem d6_more_49 : decode cX6_more 49 = .ok (.aload_n 0, 1) := by decide +kernel
theorem d6_more_50 : decode cX6_more 50 = .ok (.iload_n 1, 1) := by decide +kernel
theorem d6_more_51 : decode cX6_more 51 = .ok (.iload_n 2, 1) := by decide +kernel
theorem d6_more_52 : decode cX6_more 52 = .ok (.iload 4, 2) := by decide +kernel
theorem d6_more_54 : decode cX6_more 54 = .ok (.invokevirtual 200, 3) := by decide +kernel
theorem d6_more_57 : decode cX6_more 57 = .ok (.aload_n 0, 1) := by decide +kernel
theorem d6_more_58 : decode cX6_more 58 = .ok (.iload_n 1, 1) := by decide +kernel
theorem d6_more_59 : decode cX6_more 59 = .ok (.invokevirtual 145, 3) := by decide +kernel
theorem d6_more_62 : decode cX6_more 62 = .ok (.invokevirtual 164, 3) := by decide +kernel
theorem d6_more_65 : decode cX6_more 65 = .ok (.isub, 1) := by decide +kernel
theorem d6_more_66 : decode cX6_more 66 = .ok (.ldc 204, 2) := by decide +kernel
theorem d6_more_68 : decode cX6_more 68 = .ok (.iadd, 1) := by decide +kernel
theorem d6_more_69 : decode cX6_more 69 = .ok (.ireturn, 1) := by decide +kernel
def f6_more (σ : Mem) (x1 : Int32) (x2 : Int32) (x3 : Int32) : Option (Mem × Int32) := Option.bind (f6_isRule x1) fun r1 => if r1 = 0 then some (σ, (-1)) else Option.bind (f6_isTrain σ x2) fun r3 => if r3 = 0 then some (σ, (-1)) else Option.bind (f6_between x3 1 9) fun r5 => if r5 = 0 then some (σ, (-1)) else Option.bind (f4_lateOf σ 31 x2) fun r7 => if (r7 + x3) ≤ 30 then ob (f6_costIfLate σ x1 x2 (r7 + x3)) fun σ9 r9 => ob (f6_hourBy σ9 x1) fun σ10 q210 => if q210 ∈ hourL then Option.bind (f1_total σ10 q210) fun r11 => some (σ10, (r9 - r11) + 99999) else none else some (σ, (-2))
set_option maxHeartbeats 4000000 in
set_option maxRecDepth 100000 in
theorem c6_more (l : Launch) {w : WV} {σ : Mem} {x1 : Int32} {x2 : Int32} {x3 : Int32} {σ' : Mem} {r : Int32} (h0 : f6_more σ x1 x2 x3 = some (σ', r)) : Met l yX6_more (wy yX6_more cX6_more 5 (some .int)) rm6_more (Pw EC LC w [.ref (w.2.2 0), .int x1, .int x2, .int x3] σ) (Qw EC LC w σ' (some (.int r))) 0 0 (AW LC w) := by
  refine mk_met (by decide) (Nat.le_of_ble_eq_true rfl) ?_
  intro p e s m below meth c S hr hlk hK hR ls hl
  obtain ⟨hx, hb, hml, hown, hts⟩ := id S
  have hl : lv_has ls 5 [(0, .ref (w.2.2 0)), (1, .int x1), (2, .int x2), (3, .int x3)] := hl
  have hS : va_S (AW LC w) s.heap s.heap [] := va_S.rf
  unfold f6_more at h0
  refine lv_iload_n hx hb d6_more_0 rfl (lv_at hl 1 rfl) ?_
  obtain ⟨r1, hr1, h0⟩ := og_b h0
  refine k6_139 S  hr1 ⟨Nat.zero_le _, Nat.zero_le _⟩ ⟨Nat.le_of_ble_eq_true rfl, Nat.le_of_ble_eq_true rfl⟩ hl.1 (Nat.le_of_ble_eq_true rfl) d6_more_1 ?_
  refine lv_if_eq (tgt := 25) hx hb d6_more_4 (by decide) (fun hc2 => ?_) (fun hc2 => ?_)
  · have h0 := og_t hc2 h0
    refine lv_iconst (v := (-1)) hx hb d6_more_25 (by decide) ?_
    exact q_iret S hr hlk hR hS h0 d6_more_26
  · have h0 := og_f hc2 h0
    refine lv_aload_n hx hb d6_more_7 rfl (lv_at hl 0 rfl) ?_
    refine lv_iload_n hx hb d6_more_8 rfl (lv_at hl 2 rfl) ?_
    obtain ⟨r3, hr3, h0⟩ := og_b h0
    refine k6_117 S hK hR  hr3 ⟨Nat.zero_le _, Nat.zero_le _⟩ ⟨Nat.le_of_ble_eq_true rfl, Nat.le_of_ble_eq_true rfl⟩ hl.1 (Nat.le_of_ble_eq_true rfl) d6_more_9 ?_
    refine lv_if_eq (tgt := 25) hx hb d6_more_12 (by decide) (fun hc4 => ?_) (fun hc4 => ?_)
    · have h0 := og_t hc4 h0
      refine lv_iconst (v := (-1)) hx hb d6_more_25 (by decide) ?_
      exact q_iret S hr hlk hR hS h0 d6_more_26
    · have h0 := og_f hc4 h0
      refine lv_iload_n hx hb d6_more_15 rfl (lv_at hl 3 rfl) ?_
      refine lv_iconst (v := 1) hx hb d6_more_16 (by decide) ?_
      refine lv_bipush (v := 9) hx hb d6_more_17 (by decide) ?_
      obtain ⟨r5, hr5, h0⟩ := og_b h0
      refine k6_102 S  hr5 ⟨Nat.zero_le _, Nat.zero_le _⟩ ⟨Nat.le_of_ble_eq_true rfl, Nat.le_of_ble_eq_true rfl⟩ hl.1 (Nat.le_of_ble_eq_true rfl) d6_more_19 ?_
      refine lv_if_ne (tgt := 27) hx hb d6_more_22 (by decide) (fun hc6 => ?_) (fun hc6 => ?_)
      · have h0 := og_f hc6 h0
        refine lv_aload_n hx hb d6_more_27 rfl (lv_at hl 0 rfl) ?_
        refine g6_29 S hK hR d6_more_28 ?_
        refine lv_iload_n hx hb d6_more_31 rfl (lv_at hl 2 rfl) ?_
        obtain ⟨r7, hr7, h0⟩ := og_b h0
        refine k6_127 S hK hR (by decide) hr7 ⟨Nat.zero_le _, Nat.zero_le _⟩ ⟨Nat.le_of_ble_eq_true rfl, Nat.le_of_ble_eq_true rfl⟩ hl.1 (Nat.le_of_ble_eq_true rfl) d6_more_32 ?_
        refine lv_iload_n hx hb d6_more_35 rfl (lv_at hl 3 rfl) ?_
        refine lv_iadd hx hb d6_more_36 ?_
        refine lv_istore (lv' := [(4, .int (r7 + x3)), (0, .ref (w.2.2 0)), (1, .int x1), (2, .int x2), (3, .int x3)]) hx hb d6_more_37 hl (by decide) rfl (fun ls hl => ?_)
        refine lv_iload hx hb d6_more_39 (lv_at hl 0 rfl) ?_
        refine lv_bipush (v := 30) hx hb d6_more_41 (by decide) ?_
        refine lv_icmp_le (tgt := 49) hx hb d6_more_43 (by decide) (fun hc8 => ?_) (fun hc8 => ?_)
        · have h0 := og_t hc8 h0
          refine lv_aload_n hx hb d6_more_49 rfl (lv_at hl 1 rfl) ?_
          refine lv_iload_n hx hb d6_more_50 rfl (lv_at hl 2 rfl) ?_
          refine lv_iload_n hx hb d6_more_51 rfl (lv_at hl 3 rfl) ?_
          refine lv_iload hx hb d6_more_52 (lv_at hl 0 rfl) ?_
          obtain ⟨σ9, r9, hr9, h0⟩ := og_o h0
          refine k6_200 S hK hR hS  hr9 ⟨Nat.zero_le _, Nat.zero_le _⟩ ⟨Nat.le_of_ble_eq_true rfl, Nat.le_of_ble_eq_true rfl⟩ hl.1 (Nat.le_of_ble_eq_true rfl) d6_more_54 (fun H locs hR hS => ?_)
          refine lv_aload_n hx hb d6_more_57 rfl (lv_at hl 1 rfl) ?_
          refine lv_iload_n hx hb d6_more_58 rfl (lv_at hl 2 rfl) ?_
          obtain ⟨σ10, q210, hr10, h0⟩ := og_o h0
          obtain ⟨hq210, h0⟩ := og_if h0
          refine k6_145 S hK hR hS  hr10 ⟨Nat.zero_le _, Nat.zero_le _⟩ ⟨Nat.le_of_ble_eq_true rfl, Nat.le_of_ble_eq_true rfl⟩ hl.1 (Nat.le_of_ble_eq_true rfl) d6_more_59 (fun H locs hR hS => ?_)
          obtain ⟨r11, hr11, h0⟩ := og_b h0
          refine k6_164 S hK hR hq210 hr11 ⟨Nat.zero_le _, Nat.zero_le _⟩ ⟨Nat.le_of_ble_eq_true rfl, Nat.le_of_ble_eq_true rfl⟩ hl.1 (Nat.le_of_ble_eq_true rfl) d6_more_62 ?_
          refine lv_isub hx hb d6_more_65 ?_
          refine lv_ldc (v := 99999) hx hb hown (hts _ (gt_at 814 (by decide +kernel) (by decide +kernel))) d6_more_66 ?_
          refine lv_iadd hx hb d6_more_68 ?_
          exact q_iret S hr hlk hR hS h0 d6_more_69
        · have h0 := og_f hc8 h0
          refine lv_bipush (v := (-2)) hx hb d6_more_46 (by decide) ?_
          exact q_iret S hr hlk hR hS h0 d6_more_48
      · have h0 := og_t hc6 h0
        refine lv_iconst (v := (-1)) hx hb d6_more_25 (by decide) ?_
        exact q_iret S hr hlk hR hS h0 d6_more_26
/-! FourTenGates.dinner(II)I -/
abbrev rm6_dinner : Room := { frames := 6, cells := 0, slots := 0, locals := 133 }
theorem d6_dinner_0 : decode cX6_dinner 0 = .ok (.iload_n 1, 1) := by decide +kernel
theorem d6_dinner_1 : decode cX6_dinner 1 = .ok (.invokestatic 139, 3) := by decide +kernel
theorem d6_dinner_4 : decode cX6_dinner 4 = .ok (.ifCond .eq 12, 3) := by decide +kernel
theorem d6_dinner_7 : decode cX6_dinner 7 = .ok (.iload_n 2, 1) := by decide +kernel
theorem d6_dinner_8 : decode cX6_dinner 8 = .ok (.iconst 0, 1) := by decide +kernel
theorem d6_dinner_9 : decode cX6_dinner 9 = .ok (.iconst 1, 1) := by decide +kernel
theorem d6_dinner_10 : decode cX6_dinner 10 = .ok (.invokestatic 102, 3) := by decide +kernel
theorem d6_dinner_13 : decode cX6_dinner 13 = .ok (.ifCond .ne 5, 3) := by decide +kernel
theorem d6_dinner_16 : decode cX6_dinner 16 = .ok (.iconst (-1), 1) := by decide +kernel
theorem d6_dinner_17 : decode cX6_dinner 17 = .ok (.ireturn, 1) := by decide +kernel
theorem d6_dinner_18 : decode cX6_dinner 18 = .ok (.aload_n 0, 1) := by decide +kernel
theorem d6_dinner_19 : decode cX6_dinner 19 = .ok (.iload_n 1, 1) := by decide +kernel
theorem d6_dinner_20 : decode cX6_dinner 20 = .ok (.invokevirtual 145, 3) := by decide +kernel
theorem d6_dinner_23 : decode cX6_dinner 23 = .ok (.astore_n 3, 1) := by decide +kernel
theorem d6_dinner_24 : decode cX6_dinner 24 = .ok (.iconst 0, 1) := by decide +kernel
theorem d6_dinner_25 : decode cX6_dinner 25 = .ok (.istore 4, 2) := by decide +kernel
theorem d6_dinner_27 : decode cX6_dinner 27 = .ok (.bipush (-4), 2) := by decide +kernel
theorem d6_dinner_29 : decode cX6_dinner 29 = .ok (.istore 5, 2) := by decide +kernel
theorem d6_dinner_31 : decode cX6_dinner 31 = .ok (.iconst 0, 1) := by decide +kernel
theorem d6_dinner_32 : decode cX6_dinner 32 = .ok (.istore 6, 2) := by decide +kernel
theorem d6_dinner_34 : decode cX6_dinner 34 = .ok (.iconst 0, 1) := by decide +kernel
theorem d6_dinner_35 : decode cX6_dinner 35 = .ok (.istore 7, 2) := by decide +kernel
theorem d6_dinner_37 : decode cX6_dinner 37 = .ok (.iload 7, 2) := by decide +kernel
theorem d6_dinner_39 : decode cX6_dinner 39 = .ok (.sipush 360, 3) := by decide +kernel
theorem d6_dinner_42 : decode cX6_dinner 42 = .ok (.if_icmp .ge 48, 3) := by decide +kernel
theorem d6_dinner_45 : decode cX6_dinner 45 = .ok (.aload_n 3, 1) := by decide +kernel
theorem d6_dinner_46 : decode cX6_dinner 46 = .ok (.iload 7, 2) := by decide +kernel
theorem d6_dinner_48 : decode cX6_dinner 48 = .ok (.invokevirtual 149, 3) := by decide +kernel
theorem d6_dinner_51 : decode cX6_dinner 51 = .ok (.ifCond .ne 10, 3) := by decide +kernel
theorem d6_dinner_54 : decode cX6_dinner 54 = .ok (.iload 6, 2) := by decide +kernel
theorem d6_dinner_56 : decode cX6_dinner 56 = .ok (.iconst 1, 1) := by decide +kernel
theorem d6_dinner_57 : decode cX6_dinner 57 = .ok (.iadd, 1) := by decide +kernel
theorem d6_dinner_58 : decode cX6_dinner 58 = .ok (.goto 4, 3) := by decide +kernel
theorem d6_dinner_61 : decode cX6_dinner 61 = .ok (.iconst 0, 1) := by decide +kernel
theorem d6_dinner_62 : decode cX6_dinner 62 = .ok (.istore 6, 2) := by decide +kernel
theorem d6_dinner_64 : decode cX6_dinner 64 = .ok (.iload 6, 2) := by decide +kernel
theorem d6_dinner_66 : decode cX6_dinner 66 = .ok (.iload 4, 2) := by decide +kernel
theorem d6_dinner_68 : decode cX6_dinner 68 = .ok (.if_icmp .le 16, 3) := by decide +kernel
theorem d6_dinner_71 : decode cX6_dinner 71 = .ok (.iload 6, 2) := by decide +kernel
theorem d6_dinner_73 : decode cX6_dinner 73 = .ok (.istore 4, 2) := by decide +kernel
theorem d6_dinner_75 : decode cX6_dinner 75 = .ok (.iload 7, 2) := by decide +kernel
theorem d6_dinner_77 : decode cX6_dinner 77 = .ok (.iload 6, 2) := by decide +kernel
theorem d6_dinner_79 : decode cX6_dinner 79 = .ok (.isub, 1) := by decide +kernel
theorem d6_dinner_80 : decode cX6_dinner 80 = .ok (.iconst 1, 1) := by decide +kernel
theorem d6_dinner_81 : decode cX6_dinner 81 = .ok (.iadd, 1) := by decide +kernel
theorem d6_dinner_82 : decode cX6_dinner 82 = .ok (.istore 5, 2) := by decide +kernel
theorem d6_dinner_84 : decode cX6_dinner 84 = .ok (.iinc 7 1, 3) := by decide +kernel
theorem d6_dinner_87 : decode cX6_dinner 87 = .ok (.goto (-50), 3) := by decide +kernel
theorem d6_dinner_90 : decode cX6_dinner 90 = .ok (.iload 4, 2) := by decide +kernel
theorem d6_dinner_92 : decode cX6_dinner 92 = .ok (.ifCond .ne 6, 3) := by decide +kernel
theorem d6_dinner_95 : decode cX6_dinner 95 = .ok (.bipush (-4), 2) := by decide +kernel
theorem d6_dinner_97 : decode cX6_dinner 97 = .ok (.ireturn, 1) := by decide +kernel
theorem d6_dinner_98 : decode cX6_dinner 98 = .ok (.iload_n 2, 1) := by decide +kernel
theorem d6_dinner_99 : decode cX6_dinner 99 = .ok (.ifCond .ne 8, 3) := by decide +kernel
theorem d6_dinner_102 : decode cX6_dinner 102 = .ok (.iload 4, 2) := by decide +kernel
theorem d6_dinner_104 : decode cX6_dinner 104 = .ok (.goto 5, 3) := by decide +kernel
theorem d6_dinner_107 : decode cX6_dinner 107 = .ok (.iload 5, 2) := by decide +kernel
theorem d6_dinner_109 : decode cX6_dinner 109 = .ok (.ireturn, 1) := by decide +kernel
def f6_dinner_b62 (k37 : Mem → Int32 → Nat → Int32 → Int32 → Int32 → Int32 → Option (Mem × Int32)) (σ : Mem) (x2 : Int32) (q3 : Nat) (x4 : Int32) (x5 : Int32) (x7 : Int32) (s0 : Int32) : Option (Mem × Int32) := if s0 ≤ x4 then k37 σ x2 q3 x4 x5 s0 (x7 + 1) else k37 σ x2 q3 s0 ((x7 - s0) + 1) s0 (x7 + 1)
set_option maxHeartbeats 4000000 in
set_option maxRecDepth 100000 in
theorem t6_dinner_b62 {p : Program} {l : Launch} {e : Env} {s : State} {m : MethodId} {args : Array Value} {below : List Frame} {meth : Method} {c : Code} {w : WV} {σ' : Mem} {r : Int32} {k37 : Mem → Int32 → Nat → Int32 → Int32 → Int32 → Int32 → Option (Mem × Int32)} (S : CallFix p m c cX6_dinner 8 s args gtbl RX6) (hr : meth.sig.returnType = (some .int)) (hlk : meth.locks = false) (hK : KS LC w s) (hk37 : ∀ (σ : Mem) (x2 : Int32) (q3 : Nat) (hq3 : q3 ∈ hourL) (x4 : Int32) (x5 : Int32) (x6 : Int32) (x7 : Int32), k37 σ x2 q3 x4 x5 x6 x7 = some (σ', r) → ∀ (H : Heap) (locs : List Loc), Rp EC LC w σ H → va_S (AW LC w) s.heap H locs → ∀ (ls : Array Slot), lv_has ls 8 [(2, .int x2), (3, .ref (w.2.2 q3)), (4, .int x4), (5, .int x5), (6, .int x6), (7, .int x7)] → W p l e rm6_dinner s m args below meth c H locs 0 0 (MQ below (Qw EC LC w σ' (some (.int r))) args s 0 0 (AW LC w)) (F0 m 37 ls [])) : ∀ (σ : Mem) (x2 : Int32) (q3 : Nat) (hq3 : q3 ∈ hourL) (x4 : Int32) (x5 : Int32) (x7 : Int32) (s0 : Int32), f6_dinner_b62 k37 σ x2 q3 x4 x5 x7 s0 = some (σ', r) → ∀ (H : Heap) (locs : List Loc), Rp EC LC w σ H → va_S (AW LC w) s.heap H locs → ∀ (ls : Array Slot), lv_has ls 8 [(2, .int x2), (3, .ref (w.2.2 q3)), (4, .int x4), (5, .int x5), (7, .int x7)] → W p l e rm6_dinner s m args below meth c H locs 0 0 (MQ below (Qw EC LC w σ' (some (.int r))) args s 0 0 (AW LC w)) (F0 m 62 ls [.int s0]) := by
  obtain ⟨hx, hb, hml, hown, hts⟩ := id S
  intro σ x2 q3 hq3 x4 x5 x7 s0 h0 H locs hR hS ls hl
  unfold f6_dinner_b62 at h0
  refine lv_istore (lv' := [(6, .int s0), (2, .int x2), (3, .ref (w.2.2 q3)), (4, .int x4), (5, .int x5), (7, .int x7)]) hx hb d6_dinner_62 hl (by decide) rfl (fun ls hl => ?_)
  refine lv_iload hx hb d6_dinner_64 (lv_at hl 0 rfl) ?_
  refine lv_iload hx hb d6_dinner_66 (lv_at hl 3 rfl) ?_
  refine lv_icmp_le (tgt := 84) hx hb d6_dinner_68 (by decide) (fun hc1 => ?_) (fun hc1 => ?_)
  · have h0 := og_t hc1 h0
    refine lv_iinc (v := x7 + 1) (lv' := [(7, .int (x7 + 1)), (6, .int s0), (2, .int x2), (3, .ref (w.2.2 q3)), (4, .int x4), (5, .int x5)]) hx hb d6_dinner_84 hl (k := 5) rfl (ii1 _) (by decide) rfl (fun ls hl => ?_)
    refine lv_goto (tgt := 37) hx hb d6_dinner_87 (by decide) ?_
    exact hk37 σ x2 q3 hq3 x4 x5 s0 (x7 + 1) h0 _ _ hR hS _ (lv_sub hl [2, 3, 4, 5, 1, 0] rfl)
  · have h0 := og_f hc1 h0
    refine lv_iload hx hb d6_dinner_71 (lv_at hl 0 rfl) ?_
    refine lv_istore (lv' := [(4, .int s0), (6, .int s0), (2, .int x2), (3, .ref (w.2.2 q3)), (5, .int x5), (7, .int x7)]) hx hb d6_dinner_73 hl (by decide) rfl (fun ls hl => ?_)
    refine lv_iload hx hb d6_dinner_75 (lv_at hl 5 rfl) ?_
    refine lv_iload hx hb d6_dinner_77 (lv_at hl 1 rfl) ?_
    refine lv_isub hx hb d6_dinner_79 ?_
    refine lv_iconst (v := 1) hx hb d6_dinner_80 (by decide) ?_
    refine lv_iadd hx hb d6_dinner_81 ?_
    refine lv_istore (lv' := [(5, .int ((x7 - s0) + 1)), (4, .int s0), (6, .int s0), (2, .int x2), (3, .ref (w.2.2 q3)), (7, .int x7)]) hx hb d6_dinner_82 hl (by decide) rfl (fun ls hl => ?_)
    refine lv_iinc (v := x7 + 1) (lv' := [(7, .int (x7 + 1)), (5, .int ((x7 - s0) + 1)), (4, .int s0), (6, .int s0), (2, .int x2), (3, .ref (w.2.2 q3))]) hx hb d6_dinner_84 hl (k := 5) rfl (ii1 _) (by decide) rfl (fun ls hl => ?_)
    refine lv_goto (tgt := 37) hx hb d6_dinner_87 (by decide) ?_
    exact hk37 σ x2 q3 hq3 s0 ((x7 - s0) + 1) s0 (x7 + 1) h0 _ _ hR hS _ (lv_sub hl [4, 5, 2, 1, 3, 0] rfl)
def f6_dinner_b37 : Nat → Mem → Int32 → Nat → Int32 → Int32 → Int32 → Int32 → Option (Mem × Int32)
  | 0, _, _, _, _, _, _, _ => none
  | n + 1, σ, x2, q3, x4, x5, x6, x7 => if 360 ≤ x7 then if x4 = 0 then some (σ, (-4)) else if x2 = 0 then some (σ, x4) else some (σ, x5) else Option.bind (f1_gatesAt σ q3 x7) fun r2 => if r2 = 0 then f6_dinner_b62 (f6_dinner_b37 n) σ x2 q3 x4 x5 x7 (x6 + 1) else f6_dinner_b62 (f6_dinner_b37 n) σ x2 q3 x4 x5 x7 0
set_option maxHeartbeats 4000000 in
set_option maxRecDepth 100000 in
theorem t6_dinner_b37 {p : Program} {l : Launch} {e : Env} {s : State} {m : MethodId} {args : Array Value} {below : List Frame} {meth : Method} {c : Code} {w : WV} {σ' : Mem} {r : Int32} (S : CallFix p m c cX6_dinner 8 s args gtbl RX6) (hr : meth.sig.returnType = (some .int)) (hlk : meth.locks = false) (hK : KS LC w s) : ∀ (n : Nat), ∀ (σ : Mem) (x2 : Int32) (q3 : Nat) (hq3 : q3 ∈ hourL) (x4 : Int32) (x5 : Int32) (x6 : Int32) (x7 : Int32), f6_dinner_b37  n σ x2 q3 x4 x5 x6 x7 = some (σ', r) → ∀ (H : Heap) (locs : List Loc), Rp EC LC w σ H → va_S (AW LC w) s.heap H locs → ∀ (ls : Array Slot), lv_has ls 8 [(2, .int x2), (3, .ref (w.2.2 q3)), (4, .int x4), (5, .int x5), (6, .int x6), (7, .int x7)] → W p l e rm6_dinner s m args below meth c H locs 0 0 (MQ below (Qw EC LC w σ' (some (.int r))) args s 0 0 (AW LC w)) (F0 m 37 ls []) := by
  obtain ⟨hx, hb, hml, hown, hts⟩ := id S
  intro n
  induction n with
  | zero =>
    intro σ x2 q3 hq3 x4 x5 x6 x7 h0
    cases (show none = _ from h0)
  | succ n ih =>
    intro σ x2 q3 hq3 x4 x5 x6 x7 h0 H locs hR hS ls hl
    rw [f6_dinner_b37] at h0
    refine lv_iload hx hb d6_dinner_37 (lv_at hl 5 rfl) ?_
    refine lv_sipush (v := 360) hx hb d6_dinner_39 (by decide) ?_
    refine lv_icmp_ge (tgt := 90) hx hb d6_dinner_42 (by decide) (fun hc1 => ?_) (fun hc1 => ?_)
    · have h0 := og_t hc1 h0
      refine lv_iload hx hb d6_dinner_90 (lv_at hl 2 rfl) ?_
      refine lv_if_ne (tgt := 98) hx hb d6_dinner_92 (by decide) (fun hc2 => ?_) (fun hc2 => ?_)
      · have h0 := og_f hc2 h0
        refine lv_iload_n hx hb d6_dinner_98 rfl (lv_at hl 0 rfl) ?_
        refine lv_if_ne (tgt := 107) hx hb d6_dinner_99 (by decide) (fun hc3 => ?_) (fun hc3 => ?_)
        · have h0 := og_f hc3 h0
          refine lv_iload hx hb d6_dinner_107 (lv_at hl 3 rfl) ?_
          exact q_iret S hr hlk hR hS h0 d6_dinner_109
        · have h0 := og_t hc3 h0
          refine lv_iload hx hb d6_dinner_102 (lv_at hl 2 rfl) ?_
          refine lv_goto (tgt := 109) hx hb d6_dinner_104 (by decide) ?_
          exact q_iret S hr hlk hR hS h0 d6_dinner_109
      · have h0 := og_t hc2 h0
        refine lv_bipush (v := (-4)) hx hb d6_dinner_95 (by decide) ?_
        exact q_iret S hr hlk hR hS h0 d6_dinner_97
    · have h0 := og_f hc1 h0
      refine lv_aload_n hx hb d6_dinner_45 rfl (lv_at hl 1 rfl) ?_
      refine lv_iload hx hb d6_dinner_46 (lv_at hl 5 rfl) ?_
      obtain ⟨r2, hr2, h0⟩ := og_b h0
      refine k6_149 S hK hR hq3 hr2 ⟨Nat.zero_le _, Nat.zero_le _⟩ ⟨Nat.le_of_ble_eq_true rfl, Nat.le_of_ble_eq_true rfl⟩ hl.1 (Nat.le_of_ble_eq_true rfl) d6_dinner_48 ?_
      refine lv_if_ne (tgt := 61) hx hb d6_dinner_51 (by decide) (fun hc3 => ?_) (fun hc3 => ?_)
      · have h0 := og_f hc3 h0
        refine lv_iconst (v := 0) hx hb d6_dinner_61 (by decide) ?_
        exact t6_dinner_b62 S hr hlk hK ih σ x2 q3 hq3 x4 x5 x7 0 h0 _ _ hR hS _ (lv_sub hl [0, 1, 2, 3, 5] rfl)
      · have h0 := og_t hc3 h0
        refine lv_iload hx hb d6_dinner_54 (lv_at hl 4 rfl) ?_
        refine lv_iconst (v := 1) hx hb d6_dinner_56 (by decide) ?_
        refine lv_iadd hx hb d6_dinner_57 ?_
        refine lv_goto (tgt := 62) hx hb d6_dinner_58 (by decide) ?_
        exact t6_dinner_b62 S hr hlk hK ih σ x2 q3 hq3 x4 x5 x7 (x6 + 1) h0 _ _ hR hS _ (lv_sub hl [0, 1, 2, 3, 5] rfl)
def f6_dinner (σ : Mem) (x1 : Int32) (x2 : Int32) : Option (Mem × Int32) := Option.bind (f6_isRule x1) fun r1 => if r1 = 0 then some (σ, (-1)) else Option.bind (f6_between x2 0 1) fun r3 => if r3 = 0 then some (σ, (-1)) else ob (f6_hourBy σ x1) fun σ5 q205 => if q205 ∈ hourL then f6_dinner_b37 1000 σ5 x2 q205 0 (-4) 0 0 else none
set_option maxHeartbeats 4000000 in
set_option maxRecDepth 100000 in
theorem c6_dinner (l : Launch) {w : WV} {σ : Mem} {x1 : Int32} {x2 : Int32} {σ' : Mem} {r : Int32} (h0 : f6_dinner σ x1 x2 = some (σ', r)) : Met l yX6_dinner (wy yX6_dinner cX6_dinner 8 (some .int)) rm6_dinner (Pw EC LC w [.ref (w.2.2 0), .int x1, .int x2] σ) (Qw EC LC w σ' (some (.int r))) 0 0 (AW LC w) := by
  refine mk_met (by decide) (Nat.le_of_ble_eq_true rfl) ?_
  intro p e s m below meth c S hr hlk hK hR ls hl
  obtain ⟨hx, hb, hml, hown, hts⟩ := id S
  have hl : lv_has ls 8 [(0, .ref (w.2.2 0)), (1, .int x1), (2, .int x2)] := hl
  have hS : va_S (AW LC w) s.heap s.heap [] := va_S.rf
  unfold f6_dinner at h0
  refine lv_iload_n hx hb d6_dinner_0 rfl (lv_at hl 1 rfl) ?_
  obtain ⟨r1, hr1, h0⟩ := og_b h0
  refine k6_139 S  hr1 ⟨Nat.zero_le _, Nat.zero_le _⟩ ⟨Nat.le_of_ble_eq_true rfl, Nat.le_of_ble_eq_true rfl⟩ hl.1 (Nat.le_of_ble_eq_true rfl) d6_dinner_1 ?_
  refine lv_if_eq (tgt := 16) hx hb d6_dinner_4 (by decide) (fun hc2 => ?_) (fun hc2 => ?_)
  · have h0 := og_t hc2 h0
    refine lv_iconst (v := (-1)) hx hb d6_dinner_16 (by decide) ?_
    exact q_iret S hr hlk hR hS h0 d6_dinner_17
  · have h0 := og_f hc2 h0
    refine lv_iload_n hx hb d6_dinner_7 rfl (lv_at hl 2 rfl) ?_
    refine lv_iconst (v := 0) hx hb d6_dinner_8 (by decide) ?_
    refine lv_iconst (v := 1) hx hb d6_dinner_9 (by decide) ?_
    obtain ⟨r3, hr3, h0⟩ := og_b h0
    refine k6_102 S  hr3 ⟨Nat.zero_le _, Nat.zero_le _⟩ ⟨Nat.le_of_ble_eq_true rfl, Nat.le_of_ble_eq_true rfl⟩ hl.1 (Nat.le_of_ble_eq_true rfl) d6_dinner_10 ?_
    refine lv_if_ne (tgt := 18) hx hb d6_dinner_13 (by decide) (fun hc4 => ?_) (fun hc4 => ?_)
    · have h0 := og_f hc4 h0
      refine lv_aload_n hx hb d6_dinner_18 rfl (lv_at hl 0 rfl) ?_
      refine lv_iload_n hx hb d6_dinner_19 rfl (lv_at hl 1 rfl) ?_
      obtain ⟨σ5, q205, hr5, h0⟩ := og_o h0
      obtain ⟨hq205, h0⟩ := og_if h0
      refine k6_145 S hK hR hS  hr5 ⟨Nat.zero_le _, Nat.zero_le _⟩ ⟨Nat.le_of_ble_eq_true rfl, Nat.le_of_ble_eq_true rfl⟩ hl.1 (Nat.le_of_ble_eq_true rfl) d6_dinner_20 (fun H locs hR hS => ?_)
      refine lv_astore_n (lv' := [(3, .ref (w.2.2 q205)), (0, .ref (w.2.2 0)), (1, .int x1), (2, .int x2)]) hx hb d6_dinner_23 rfl hl (by decide) rfl (fun ls hl => ?_)
      refine lv_iconst (v := 0) hx hb d6_dinner_24 (by decide) ?_
      refine lv_istore (lv' := [(4, .int 0), (3, .ref (w.2.2 q205)), (0, .ref (w.2.2 0)), (1, .int x1), (2, .int x2)]) hx hb d6_dinner_25 hl (by decide) rfl (fun ls hl => ?_)
      refine lv_bipush (v := (-4)) hx hb d6_dinner_27 (by decide) ?_
      refine lv_istore (lv' := [(5, .int (-4)), (4, .int 0), (3, .ref (w.2.2 q205)), (0, .ref (w.2.2 0)), (1, .int x1), (2, .int x2)]) hx hb d6_dinner_29 hl (by decide) rfl (fun ls hl => ?_)
      refine lv_iconst (v := 0) hx hb d6_dinner_31 (by decide) ?_
      refine lv_istore (lv' := [(6, .int 0), (5, .int (-4)), (4, .int 0), (3, .ref (w.2.2 q205)), (0, .ref (w.2.2 0)), (1, .int x1), (2, .int x2)]) hx hb d6_dinner_32 hl (by decide) rfl (fun ls hl => ?_)
      refine lv_iconst (v := 0) hx hb d6_dinner_34 (by decide) ?_
      refine lv_istore (lv' := [(7, .int 0), (6, .int 0), (5, .int (-4)), (4, .int 0), (3, .ref (w.2.2 q205)), (0, .ref (w.2.2 0)), (1, .int x1), (2, .int x2)]) hx hb d6_dinner_35 hl (by decide) rfl (fun ls hl => ?_)
      exact t6_dinner_b37 S hr hlk hK 1000 σ5 x2 q205 hq205 0 (-4) 0 0 h0 _ _ hR hS _ (lv_sub hl [7, 4, 3, 2, 1, 0] rfl)
    · have h0 := og_t hc4 h0
      refine lv_iconst (v := (-1)) hx hb d6_dinner_16 (by decide) ?_
      exact q_iret S hr hlk hR hS h0 d6_dinner_17
