/-! FourTenGates.partOf(III)I -/
abbrev rm6_partOf : Room := { frames := 0, cells := 0, slots := 0, locals := 0 }
theorem d6_partOf_0 : decode cX6_partOf 0 = .ok (.iconst 1, 1) := by decide +kernel
theorem d6_partOf_1 : decode cX6_partOf 1 = .ok (.istore_n 3, 1) := by decide +kernel
theorem d6_partOf_2 : decode cX6_partOf 2 = .ok (.iconst 2, 1) := by decide +kernel
theorem d6_partOf_3 : decode cX6_partOf 3 = .ok (.istore 4, 2) := by decide +kernel
theorem d6_partOf_5 : decode cX6_partOf 5 = .ok (.iload 4, 2) := by decide +kernel
theorem d6_partOf_7 : decode cX6_partOf 7 = .ok (.iload_n 1, 1) := by decide +kernel
theorem d6_partOf_8 : decode cX6_partOf 8 = .ok (.if_icmp .gt 26, 3) := by decide +kernel
theorem d6_partOf_11 : decode cX6_partOf 11 = .ok (.iload_n 0, 1) := by decide +kernel
theorem d6_partOf_12 : decode cX6_partOf 12 = .ok (.iload 4, 2) := by decide +kernel
theorem d6_partOf_14 : decode cX6_partOf 14 = .ok (.irem, 1) := by decide +kernel
theorem d6_partOf_15 : decode cX6_partOf 15 = .ok (.ifCond .ne 13, 3) := by decide +kernel
theorem d6_partOf_18 : decode cX6_partOf 18 = .ok (.iload_n 1, 1) := by decide +kernel
theorem d6_partOf_19 : decode cX6_partOf 19 = .ok (.iload 4, 2) := by decide +kernel
theorem d6_partOf_21 : decode cX6_partOf 21 = .ok (.irem, 1) := by decide +kernel
theorem d6_partOf_22 : decode cX6_partOf 22 = .ok (.ifCond .ne 6, 3) := by decide +kernel
theorem d6_partOf_25 : decode cX6_partOf 25 = .ok (.iload 4, 2) := by decide +kernel
theorem d6_partOf_27 : decode cX6_partOf 27 = .ok (.istore_n 3, 1) := by decide +kernel
theorem d6_partOf_28 : decode cX6_partOf 28 = .ok (.iinc 4 1, 3) := by decide +kernel
theorem d6_partOf_31 : decode cX6_partOf 31 = .ok (.goto (-26), 3) := by decide +kernel
theorem d6_partOf_34 : decode cX6_partOf 34 = .ok (.iload_n 2, 1) := by decide +kernel
theorem d6_partOf_35 : decode cX6_partOf 35 = .ok (.ifCond .ne 7, 3) := by decide +kernel
theorem d6_partOf_38 : decode cX6_partOf 38 = .ok (.iload_n 0, 1) := by decide +kernel
theorem d6_partOf_39 : decode cX6_partOf 39 = .ok (.goto 4, 3) := by decide +kernel
theorem d6_partOf_42 : decode cX6_partOf 42 = .ok (.iload_n 1, 1) := by decide +kernel
theorem d6_partOf_43 : decode cX6_partOf 43 = .ok (.iload_n 3, 1) := by decide +kernel
theorem d6_partOf_44 : decode cX6_partOf 44 = .ok (.idiv, 1) := by decide +kernel
theorem d6_partOf_45 : decode cX6_partOf 45 = .ok (.ireturn, 1) := by decide +kernel
def f6_partOf_b5 : Nat → Int32 → Int32 → Int32 → Int32 → Int32 → Option Int32
  | 0, _, _, _, _, _ => none
  | n + 1, x0, x1, x2, x3, x4 => if x1 < x4 then if x2 = 0 then if ¬ x3 = 0 then some (x0 / x3) else none else if ¬ x3 = 0 then some (x1 / x3) else none else if ¬ x4 = 0 then if (x0 - x0 / x4 * x4) = 0 then if ¬ x4 = 0 then if (x1 - x1 / x4 * x4) = 0 then f6_partOf_b5 n x0 x1 x2 x4 (x4 + 1) else f6_partOf_b5 n x0 x1 x2 x3 (x4 + 1) else none else f6_partOf_b5 n x0 x1 x2 x3 (x4 + 1) else none
set_option maxHeartbeats 4000000 in
set_option maxRecDepth 100000 in
theorem t6_partOf_b5 {p : Program} {l : Launch} {e : Env} {s : State} {m : MethodId} {args : Array Value} {below : List Frame} {meth : Method} {c : Code} {r : Int32} (S : CallFix p m c cX6_partOf 5 s args gtbl RX6) (hr : meth.sig.returnType = (some .int)) (hlk : meth.locks = false) : ∀ (n : Nat), ∀ (x0 : Int32) (x1 : Int32) (x2 : Int32) (x3 : Int32) (x4 : Int32), f6_partOf_b5  n x0 x1 x2 x3 x4 = some r → ∀ (ls : Array Slot), lv_has ls 5 [(0, .int x0), (1, .int x1), (2, .int x2), (3, .int x3), (4, .int x4)] → W p l e rm6_partOf s m args below meth c s.heap [] 0 0 (MQ below (Qp (.int r)) args s 0 0 (fun _ => False)) (F0 m 5 ls []) := by
  obtain ⟨hx, hb, hml, hown, hts⟩ := id S
  intro n
  induction n with
  | zero =>
    intro x0 x1 x2 x3 x4 h0
    cases (show none = _ from h0)
  | succ n ih =>
    intro x0 x1 x2 x3 x4 h0 ls hl
    rw [f6_partOf_b5] at h0
    refine lv_iload hx hb d6_partOf_5 (lv_at hl 4 rfl) ?_
    refine lv_iload_n hx hb d6_partOf_7 rfl (lv_at hl 1 rfl) ?_
    refine lv_icmp_gt (tgt := 34) hx hb d6_partOf_8 (by decide) (fun hc1 => ?_) (fun hc1 => ?_)
    · have h0 := og_t hc1 h0
      refine lv_iload_n hx hb d6_partOf_34 rfl (lv_at hl 2 rfl) ?_
      refine lv_if_ne (tgt := 42) hx hb d6_partOf_35 (by decide) (fun hc2 => ?_) (fun hc2 => ?_)
      · have h0 := og_f hc2 h0
        refine lv_iload_n hx hb d6_partOf_42 rfl (lv_at hl 1 rfl) ?_
        refine lv_iload_n hx hb d6_partOf_43 rfl (lv_at hl 3 rfl) ?_
        obtain ⟨hi3, h0⟩ := og_if h0
        refine lv_idiv hx hb d6_partOf_44 hi3 ?_
        exact q_ipure S hr hlk h0 d6_partOf_45
      · have h0 := og_t hc2 h0
        refine lv_iload_n hx hb d6_partOf_38 rfl (lv_at hl 0 rfl) ?_
        refine lv_goto (tgt := 43) hx hb d6_partOf_39 (by decide) ?_
        refine lv_iload_n hx hb d6_partOf_43 rfl (lv_at hl 3 rfl) ?_
        obtain ⟨hi3, h0⟩ := og_if h0
        refine lv_idiv hx hb d6_partOf_44 hi3 ?_
        exact q_ipure S hr hlk h0 d6_partOf_45
    · have h0 := og_f hc1 h0
      refine lv_iload_n hx hb d6_partOf_11 rfl (lv_at hl 0 rfl) ?_
      refine lv_iload hx hb d6_partOf_12 (lv_at hl 4 rfl) ?_
      obtain ⟨hi2, h0⟩ := og_if h0
      refine lv_irem hx hb d6_partOf_14 hi2 ?_
      refine lv_if_ne (tgt := 28) hx hb d6_partOf_15 (by decide) (fun hc3 => ?_) (fun hc3 => ?_)
      · have h0 := og_f hc3 h0
        refine lv_iinc (v := x4 + 1) (lv' := [(4, .int (x4 + 1)), (0, .int x0), (1, .int x1), (2, .int x2), (3, .int x3)]) hx hb d6_partOf_28 hl (k := 4) rfl (ii1 _) (by decide) rfl (fun ls hl => ?_)
        refine lv_goto (tgt := 5) hx hb d6_partOf_31 (by decide) ?_
        exact ih x0 x1 x2 x3 (x4 + 1) h0 _ (lv_sub hl [1, 2, 3, 4, 0] rfl)
      · have h0 := og_t hc3 h0
        refine lv_iload_n hx hb d6_partOf_18 rfl (lv_at hl 1 rfl) ?_
        refine lv_iload hx hb d6_partOf_19 (lv_at hl 4 rfl) ?_
        obtain ⟨hi4, h0⟩ := og_if h0
        refine lv_irem hx hb d6_partOf_21 hi4 ?_
        refine lv_if_ne (tgt := 28) hx hb d6_partOf_22 (by decide) (fun hc5 => ?_) (fun hc5 => ?_)
        · have h0 := og_f hc5 h0
          refine lv_iinc (v := x4 + 1) (lv' := [(4, .int (x4 + 1)), (0, .int x0), (1, .int x1), (2, .int x2), (3, .int x3)]) hx hb d6_partOf_28 hl (k := 4) rfl (ii1 _) (by decide) rfl (fun ls hl => ?_)
          refine lv_goto (tgt := 5) hx hb d6_partOf_31 (by decide) ?_
          exact ih x0 x1 x2 x3 (x4 + 1) h0 _ (lv_sub hl [1, 2, 3, 4, 0] rfl)
        · have h0 := og_t hc5 h0
          refine lv_iload hx hb d6_partOf_25 (lv_at hl 4 rfl) ?_
          refine lv_istore_n (lv' := [(3, .int x4), (0, .int x0), (1, .int x1), (2, .int x2), (4, .int x4)]) hx hb d6_partOf_27 rfl hl (by decide) rfl (fun ls hl => ?_)
          refine lv_iinc (v := x4 + 1) (lv' := [(4, .int (x4 + 1)), (3, .int x4), (0, .int x0), (1, .int x1), (2, .int x2)]) hx hb d6_partOf_28 hl (k := 4) rfl (ii1 _) (by decide) rfl (fun ls hl => ?_)
          refine lv_goto (tgt := 5) hx hb d6_partOf_31 (by decide) ?_
          exact ih x0 x1 x2 x4 (x4 + 1) h0 _ (lv_sub hl [2, 3, 4, 1, 0] rfl)
def f6_partOf (x0 : Int32) (x1 : Int32) (x2 : Int32) : Option Int32 := f6_partOf_b5 1000 x0 x1 x2 1 2
set_option maxHeartbeats 4000000 in
set_option maxRecDepth 100000 in
theorem c6_partOf (l : Launch) {x0 : Int32} {x1 : Int32} {x2 : Int32} {r : Int32} (h0 : f6_partOf x0 x1 x2 = some r) : Met l yX6_partOf (wy yX6_partOf cX6_partOf 5 (some .int)) rm6_partOf (Ps [.int x0, .int x1, .int x2]) (Qp (.int r)) 0 0 (fun _ => False) := by
  refine mk_mets (by decide) (Nat.le_of_ble_eq_true rfl) ?_
  intro p e s m below meth c S hr hlk ls hl
  obtain ⟨hx, hb, hml, hown, hts⟩ := id S
  have hl : lv_has ls 5 [(0, .int x0), (1, .int x1), (2, .int x2)] := hl
  unfold f6_partOf at h0
  refine lv_iconst (v := 1) hx hb d6_partOf_0 (by decide) ?_
  refine lv_istore_n (lv' := [(3, .int 1), (0, .int x0), (1, .int x1), (2, .int x2)]) hx hb d6_partOf_1 rfl hl (by decide) rfl (fun ls hl => ?_)
  refine lv_iconst (v := 2) hx hb d6_partOf_2 (by decide) ?_
  refine lv_istore (lv' := [(4, .int 2), (3, .int 1), (0, .int x0), (1, .int x1), (2, .int x2)]) hx hb d6_partOf_3 hl (by decide) rfl (fun ls hl => ?_)
  exact t6_partOf_b5 S hr hlk 1000 x0 x1 x2 1 2 h0 _ (lv_sub hl [2, 3, 4, 1, 0] rfl)
set_option maxHeartbeats 4000000 in
set_option maxRecDepth 100000 in
theorem k6_211 {p : Program} {l : Launch} {e : Env} {R : Room} {s : State} {m : MethodId} {args : Array Value} {below : List Frame} {meth : Method} {c : Code} {H : Heap} {locs : List Loc} {cells slots : Nat} {Q : State → Prop} {cc : ByteArray} {pc nL : Nat} {ls : Array Slot} {rest : List Value} {x0 : Int32} {x1 : Int32} {x2 : Int32} {r : Int32} (S : CallFix p m c cc nL s args gtbl RX6) (h0 : f6_partOf x0 x1 x2 = some r) (hf : cells + 0 ≤ R.cells ∧ slots + 0 ≤ R.slots) (hRm : rm6_partOf.frames + 1 ≤ R.frames ∧ 8 + (5 + 11) + rm6_partOf.locals ≤ R.locals) (hl : ls.size = nL) (hW : (rest.map fun v => v.category).sum ≤ 8) (hdg : decode cc pc = .ok (.invokestatic 211, 3)) (kk : W p l e R s m args below meth c H locs cells slots Q (F0 m (pc + 3) ls (.int r :: rest))) : W p l e R s m args below meth c H locs cells slots Q (F0 m pc ls (.int x2 :: .int x1 :: .int x0 :: rest)) := r_endp (run_S (n := 3) (As := [.int x0, .int x1, .int x2]) S (gw_S (gt_at 824 (by decide +kernel) (by decide +kernel)) (gt_at 825 (by decide +kernel) (by decide +kernel)) (gt_at 74 (by decide +kernel) (by decide +kernel)) (gt_at 826 (by decide +kernel) (by decide +kernel))) (by decide +kernel) rfl (c6_partOf l h0) ⟨rfl, rfl⟩ hRm hf hl rfl hW hdg) kk
/-! FourTenGates.byNow(III)I -/
abbrev rm6_byNow : Room := { frames := 2, cells := 0, slots := 0, locals := 42 }
theorem d6_byNow_0 : decode cX6_byNow 0 = .ok (.iload_n 1, 1) := by decide +kernel
theorem d6_byNow_1 : decode cX6_byNow 1 = .ok (.invokestatic 205, 3) := by decide +kernel
theorem d6_byNow_4 : decode cX6_byNow 4 = .ok (.ifCond .eq 19, 3) := by decide +kernel
theorem d6_byNow_7 : decode cX6_byNow 7 = .ok (.iload_n 2, 1) := by decide +kernel
theorem d6_byNow_8 : decode cX6_byNow 8 = .ok (.invokestatic 205, 3) := by decide +kernel
theorem d6_byNow_11 : decode cX6_byNow 11 = .ok (.ifCond .eq 12, 3) := by decide +kernel
theorem d6_byNow_14 : decode cX6_byNow 14 = .ok (.iload_n 3, 1) := by decide +kernel
theorem d6_byNow_15 : decode cX6_byNow 15 = .ok (.iconst 0, 1) := by decide +kernel
theorem d6_byNow_16 : decode cX6_byNow 16 = .ok (.iconst 1, 1) := by decide +kernel
theorem d6_byNow_17 : decode cX6_byNow 17 = .ok (.invokestatic 102, 3) := by decide +kernel
theorem d6_byNow_20 : decode cX6_byNow 20 = .ok (.ifCond .ne 5, 3) := by decide +kernel
theorem d6_byNow_23 : decode cX6_byNow 23 = .ok (.iconst (-1), 1) := by decide +kernel
theorem d6_byNow_24 : decode cX6_byNow 24 = .ok (.ireturn, 1) := by decide +kernel
theorem d6_byNow_25 : decode cX6_byNow 25 = .ok (.iconst 0, 1) := by decide +kernel
theorem d6_byNow_26 : decode cX6_byNow 26 = .ok (.istore 4, 2) := by decide +kernel
theorem d6_byNow_28 : decode cX6_byNow 28 = .ok (.iconst 0, 1) := by decide +kernel
theorem d6_byNow_29 : decode cX6_byNow 29 = .ok (.istore 5, 2) := by decide +kernel
theorem d6_byNow_31 : decode cX6_byNow 31 = .ok (.iconst 0, 1) := by decide +kernel
theorem d6_byNow_32 : decode cX6_byNow 32 = .ok (.istore 6, 2) := by decide +kernel
theorem d6_byNow_34 : decode cX6_byNow 34 = .ok (.iload 6, 2) := by decide +kernel
theorem d6_byNow_36 : decode cX6_byNow 36 = .ok (.aload_n 0, 1) := by decide +kernel
theorem d6_byNow_37 : decode cX6_byNow 37 = .ok (.getfield 19, 3) := by decide +kernel
theorem d6_byNow_40 : decode cX6_byNow 40 = .ok (.getfield 208, 3) := by decide +kernel
theorem d6_byNow_43 : decode cX6_byNow 43 = .ok (.invokevirtual 116, 3) := by decide +kernel
theorem d6_byNow_46 : decode cX6_byNow 46 = .ok (.if_icmp .ge 73, 3) := by decide +kernel
theorem d6_byNow_49 : decode cX6_byNow 49 = .ok (.aload_n 0, 1) := by decide +kernel
theorem d6_byNow_50 : decode cX6_byNow 50 = .ok (.getfield 19, 3) := by decide +kernel
theorem d6_byNow_53 : decode cX6_byNow 53 = .ok (.getfield 208, 3) := by decide +kernel
theorem d6_byNow_56 : decode cX6_byNow 56 = .ok (.iload 6, 2) := by decide +kernel
theorem d6_byNow_58 : decode cX6_byNow 58 = .ok (.invokevirtual 120, 3) := by decide +kernel
theorem d6_byNow_61 : decode cX6_byNow 61 = .ok (.istore 7, 2) := by decide +kernel
theorem d6_byNow_63 : decode cX6_byNow 63 = .ok (.iload 7, 2) := by decide +kernel
theorem d6_byNow_65 : decode cX6_byNow 65 = .ok (.iload_n 1, 1) := by decide +kernel
theorem d6_byNow_66 : decode cX6_byNow 66 = .ok (.if_icmp .le 47, 3) := by decide +kernel
theorem d6_byNow_69 : decode cX6_byNow 69 = .ok (.iload 4, 2) := by decide +kernel
theorem d6_byNow_71 : decode cX6_byNow 71 = .ok (.aload_n 0, 1) := by decide +kernel
theorem d6_byNow_72 : decode cX6_byNow 72 = .ok (.getfield 19, 3) := by decide +kernel
theorem d6_byNow_75 : decode cX6_byNow 75 = .ok (.getfield 208, 3) := by decide +kernel
theorem d6_byNow_78 : decode cX6_byNow 78 = .ok (.iload 6, 2) := by decide +kernel
theorem d6_byNow_80 : decode cX6_byNow 80 = .ok (.invokevirtual 124, 3) := by decide +kernel
theorem d6_byNow_83 : decode cX6_byNow 83 = .ok (.iadd, 1) := by decide +kernel
theorem d6_byNow_84 : decode cX6_byNow 84 = .ok (.istore 4, 2) := by decide +kernel
theorem d6_byNow_86 : decode cX6_byNow 86 = .ok (.iload 5, 2) := by decide +kernel
theorem d6_byNow_88 : decode cX6_byNow 88 = .ok (.iload 7, 2) := by decide +kernel
theorem d6_byNow_90 : decode cX6_byNow 90 = .ok (.iload_n 2, 1) := by decide +kernel
theorem d6_byNow_91 : decode cX6_byNow 91 = .ok (.if_icmp .ne 18, 3) := by decide +kernel
theorem d6_byNow_94 : decode cX6_byNow 94 = .ok (.aload_n 0, 1) := by decide +kernel
theorem d6_byNow_95 : decode cX6_byNow 95 = .ok (.getfield 19, 3) := by decide +kernel
theorem d6_byNow_98 : decode cX6_byNow 98 = .ok (.getfield 208, 3) := by decide +kernel
theorem d6_byNow_101 : decode cX6_byNow 101 = .ok (.iload 6, 2) := by decide +kernel
theorem d6_byNow_103 : decode cX6_byNow 103 = .ok (.invokevirtual 124, 3) := by decide +kernel
theorem d6_byNow_106 : decode cX6_byNow 106 = .ok (.goto 4, 3) := by decide +kernel
theorem d6_byNow_109 : decode cX6_byNow 109 = .ok (.iconst 0, 1) := by decide +kernel
theorem d6_byNow_110 : decode cX6_byNow 110 = .ok (.iadd, 1) := by decide +kernel
theorem d6_byNow_111 : decode cX6_byNow 111 = .ok (.istore 5, 2) := by decide +kernel
theorem d6_byNow_113 : decode cX6_byNow 113 = .ok (.iinc 6 1, 3) := by decide +kernel
theorem d6_byNow_116 : decode cX6_byNow 116 = .ok (.goto (-82), 3) := by decide +kernel
theorem d6_byNow_119 : decode cX6_byNow 119 = .ok (.iload 4, 2) := by decide +kernel
theorem d6_byNow_121 : decode cX6_byNow 121 = .ok (.ifCond .ne 8, 3) := by decide +kernel
theorem d6_byNow_124 : decode cX6_byNow 124 = .ok (.bipush (-4), 2) := by decide +kernel
theorem d6_byNow_126 : decode cX6_byNow 126 = .ok (.goto 11, 3) := by decide +kernel
theorem d6_byNow_129 : decode cX6_byNow 129 = .ok (.iload 5, 2) := by decide +kernel
theorem d6_byNow_131 : decode cX6_byNow 131 = .ok (.iload 4, 2) := by decide +kernel
theorem d6_byNow_133 : decode cX6_byNow 133 = .ok (.iload_n 3, 1) := by decide +kernel
theorem d6_byNow_134 : decode cX6_byNow 134 = .ok (.invokestatic 211, 3) := by decide +kernel
theorem d6_byNow_137 : decode cX6_byNow 137 = .ok (.ireturn, 1) := by decide +kernel
def f6_byNow_b34 (σ : Mem) : Nat → Int32 → Int32 → Int32 → Int32 → Int32 → Int32 → Option Int32
  | 0, _, _, _, _, _, _ => none
  | n + 1, x1, x2, x3, x4, x5, x6 => Option.bind (f2_size σ 13) fun r1 => if r1 ≤ x6 then if x4 = 0 then some (-4) else Option.bind (f6_partOf x5 x4 x3) fun r4 => some r4 else Option.bind (f2_first σ 13 x6) fun r3 => if r3 ≤ x1 then f6_byNow_b34 σ n x1 x2 x3 x4 x5 (x6 + 1) else Option.bind (f2_second σ 13 x6) fun r5 => if r3 = x2 then Option.bind (f2_second σ 13 x6) fun r7 => f6_byNow_b34 σ n x1 x2 x3 (x4 + r5) (x5 + r7) (x6 + 1) else f6_byNow_b34 σ n x1 x2 x3 (x4 + r5) (x5 + 0) (x6 + 1)
set_option maxHeartbeats 4000000 in
set_option maxRecDepth 100000 in
theorem t6_byNow_b34 {p : Program} {l : Launch} {e : Env} {s : State} {m : MethodId} {args : Array Value} {below : List Frame} {meth : Method} {c : Code} {w : WV} {σ : Mem} {r : Int32} (S : CallFix p m c cX6_byNow 8 s args gtbl RX6) (hr : meth.sig.returnType = (some .int)) (hlk : meth.locks = false) (hK : KS LC w s) (hR : Rp EC LC w σ s.heap) : ∀ (n : Nat), ∀ (x1 : Int32) (x2 : Int32) (x3 : Int32) (x4 : Int32) (x5 : Int32) (x6 : Int32), f6_byNow_b34 σ n x1 x2 x3 x4 x5 x6 = some r → ∀ (ls : Array Slot), lv_has ls 8 [(0, .ref (w.2.2 0)), (1, .int x1), (2, .int x2), (3, .int x3), (4, .int x4), (5, .int x5), (6, .int x6)] → W p l e rm6_byNow s m args below meth c s.heap [] 0 0 (MQ below (Qp (.int r)) args s 0 0 (fun _ => False)) (F0 m 34 ls []) := by
  obtain ⟨hx, hb, hml, hown, hts⟩ := id S
  intro n
  induction n with
  | zero =>
    intro x1 x2 x3 x4 x5 x6 h0
    cases (show none = _ from h0)
  | succ n ih =>
    intro x1 x2 x3 x4 x5 x6 h0 ls hl
    rw [f6_byNow_b34] at h0
    refine lv_iload hx hb d6_byNow_34 (lv_at hl 6 rfl) ?_
    refine lv_aload_n hx hb d6_byNow_36 rfl (lv_at hl 0 rfl) ?_
    refine g6_19 S hK hR d6_byNow_37 ?_
    refine g6_208 S hK hR (by decide) rfl d6_byNow_40 ?_
    obtain ⟨r1, hr1, h0⟩ := og_b h0
    refine k6_116 S hK hR (by decide) hr1 ⟨Nat.zero_le _, Nat.zero_le _⟩ ⟨Nat.le_of_ble_eq_true rfl, Nat.le_of_ble_eq_true rfl⟩ hl.1 (Nat.le_of_ble_eq_true rfl) d6_byNow_43 ?_
    refine lv_icmp_ge (tgt := 119) hx hb d6_byNow_46 (by decide) (fun hc2 => ?_) (fun hc2 => ?_)
    · have h0 := og_t hc2 h0
      refine lv_iload hx hb d6_byNow_119 (lv_at hl 4 rfl) ?_
      refine lv_if_ne (tgt := 129) hx hb d6_byNow_121 (by decide) (fun hc3 => ?_) (fun hc3 => ?_)
      · have h0 := og_f hc3 h0
        refine lv_iload hx hb d6_byNow_129 (lv_at hl 5 rfl) ?_
        refine lv_iload hx hb d6_byNow_131 (lv_at hl 4 rfl) ?_
        refine lv_iload_n hx hb d6_byNow_133 rfl (lv_at hl 3 rfl) ?_
        obtain ⟨r4, hr4, h0⟩ := og_b h0
        refine k6_211 S  hr4 ⟨Nat.zero_le _, Nat.zero_le _⟩ ⟨Nat.le_of_ble_eq_true rfl, Nat.le_of_ble_eq_true rfl⟩ hl.1 (Nat.le_of_ble_eq_true rfl) d6_byNow_134 ?_
        exact q_ipure S hr hlk h0 d6_byNow_137
      · have h0 := og_t hc3 h0
        refine lv_bipush (v := (-4)) hx hb d6_byNow_124 (by decide) ?_
        refine lv_goto (tgt := 137) hx hb d6_byNow_126 (by decide) ?_
        exact q_ipure S hr hlk h0 d6_byNow_137
    · have h0 := og_f hc2 h0
      refine lv_aload_n hx hb d6_byNow_49 rfl (lv_at hl 0 rfl) ?_
      refine g6_19 S hK hR d6_byNow_50 ?_
      refine g6_208 S hK hR (by decide) rfl d6_byNow_53 ?_
      refine lv_iload hx hb d6_byNow_56 (lv_at hl 6 rfl) ?_
      obtain ⟨r3, hr3, h0⟩ := og_b h0
      refine k6_120 S hK hR (by decide) hr3 ⟨Nat.zero_le _, Nat.zero_le _⟩ ⟨Nat.le_of_ble_eq_true rfl, Nat.le_of_ble_eq_true rfl⟩ hl.1 (Nat.le_of_ble_eq_true rfl) d6_byNow_58 ?_
      refine lv_istore (lv' := [(7, .int r3), (0, .ref (w.2.2 0)), (1, .int x1), (2, .int x2), (3, .int x3), (4, .int x4), (5, .int x5), (6, .int x6)]) hx hb d6_byNow_61 hl (by decide) rfl (fun ls hl => ?_)
      refine lv_iload hx hb d6_byNow_63 (lv_at hl 0 rfl) ?_
      refine lv_iload_n hx hb d6_byNow_65 rfl (lv_at hl 2 rfl) ?_
      refine lv_icmp_le (tgt := 113) hx hb d6_byNow_66 (by decide) (fun hc4 => ?_) (fun hc4 => ?_)
      · have h0 := og_t hc4 h0
        refine lv_iinc (v := x6 + 1) (lv' := [(6, .int (x6 + 1)), (7, .int r3), (0, .ref (w.2.2 0)), (1, .int x1), (2, .int x2), (3, .int x3), (4, .int x4), (5, .int x5)]) hx hb d6_byNow_113 hl (k := 7) rfl (ii1 _) (by decide) rfl (fun ls hl => ?_)
        refine lv_goto (tgt := 34) hx hb d6_byNow_116 (by decide) ?_
        exact ih x1 x2 x3 x4 x5 (x6 + 1) h0 _ (lv_sub hl [2, 3, 4, 5, 6, 7, 0] rfl)
      · have h0 := og_f hc4 h0
        refine lv_iload hx hb d6_byNow_69 (lv_at hl 5 rfl) ?_
        refine lv_aload_n hx hb d6_byNow_71 rfl (lv_at hl 1 rfl) ?_
        refine g6_19 S hK hR d6_byNow_72 ?_
        refine g6_208 S hK hR (by decide) rfl d6_byNow_75 ?_
        refine lv_iload hx hb d6_byNow_78 (lv_at hl 7 rfl) ?_
        obtain ⟨r5, hr5, h0⟩ := og_b h0
        refine k6_124 S hK hR (by decide) hr5 ⟨Nat.zero_le _, Nat.zero_le _⟩ ⟨Nat.le_of_ble_eq_true rfl, Nat.le_of_ble_eq_true rfl⟩ hl.1 (Nat.le_of_ble_eq_true rfl) d6_byNow_80 ?_
        refine lv_iadd hx hb d6_byNow_83 ?_
        refine lv_istore (lv' := [(4, .int (x4 + r5)), (7, .int r3), (0, .ref (w.2.2 0)), (1, .int x1), (2, .int x2), (3, .int x3), (5, .int x5), (6, .int x6)]) hx hb d6_byNow_84 hl (by decide) rfl (fun ls hl => ?_)
        refine lv_iload hx hb d6_byNow_86 (lv_at hl 6 rfl) ?_
        refine lv_iload hx hb d6_byNow_88 (lv_at hl 1 rfl) ?_
        refine lv_iload_n hx hb d6_byNow_90 rfl (lv_at hl 4 rfl) ?_
        refine lv_icmp_ne (tgt := 109) hx hb d6_byNow_91 (by decide) (fun hc6 => ?_) (fun hc6 => ?_)
        · have h0 := og_f hc6 h0
          refine lv_iconst (v := 0) hx hb d6_byNow_109 (by decide) ?_
          refine lv_iadd hx hb d6_byNow_110 ?_
          refine lv_istore (lv' := [(5, .int (x5 + 0)), (4, .int (x4 + r5)), (7, .int r3), (0, .ref (w.2.2 0)), (1, .int x1), (2, .int x2), (3, .int x3), (6, .int x6)]) hx hb d6_byNow_111 hl (by decide) rfl (fun ls hl => ?_)
          refine lv_iinc (v := x6 + 1) (lv' := [(6, .int (x6 + 1)), (5, .int (x5 + 0)), (4, .int (x4 + r5)), (7, .int r3), (0, .ref (w.2.2 0)), (1, .int x1), (2, .int x2), (3, .int x3)]) hx hb d6_byNow_113 hl (k := 7) rfl (ii1 _) (by decide) rfl (fun ls hl => ?_)
          refine lv_goto (tgt := 34) hx hb d6_byNow_116 (by decide) ?_
          exact ih x1 x2 x3 (x4 + r5) (x5 + 0) (x6 + 1) h0 _ (lv_sub hl [4, 5, 6, 7, 2, 1, 0] rfl)
        · have h0 := og_t hc6 h0
          refine lv_aload_n hx hb d6_byNow_94 rfl (lv_at hl 2 rfl) ?_
          refine g6_19 S hK hR d6_byNow_95 ?_
          refine g6_208 S hK hR (by decide) rfl d6_byNow_98 ?_
          refine lv_iload hx hb d6_byNow_101 (lv_at hl 7 rfl) ?_
          obtain ⟨r7, hr7, h0⟩ := og_b h0
          refine k6_124 S hK hR (by decide) hr7 ⟨Nat.zero_le _, Nat.zero_le _⟩ ⟨Nat.le_of_ble_eq_true rfl, Nat.le_of_ble_eq_true rfl⟩ hl.1 (Nat.le_of_ble_eq_true rfl) d6_byNow_103 ?_
          refine lv_goto (tgt := 110) hx hb d6_byNow_106 (by decide) ?_
          refine lv_iadd hx hb d6_byNow_110 ?_
          refine lv_istore (lv' := [(5, .int (x5 + r7)), (4, .int (x4 + r5)), (7, .int r3), (0, .ref (w.2.2 0)), (1, .int x1), (2, .int x2), (3, .int x3), (6, .int x6)]) hx hb d6_byNow_111 hl (by decide) rfl (fun ls hl => ?_)
          refine lv_iinc (v := x6 + 1) (lv' := [(6, .int (x6 + 1)), (5, .int (x5 + r7)), (4, .int (x4 + r5)), (7, .int r3), (0, .ref (w.2.2 0)), (1, .int x1), (2, .int x2), (3, .int x3)]) hx hb d6_byNow_113 hl (k := 7) rfl (ii1 _) (by decide) rfl (fun ls hl => ?_)
          refine lv_goto (tgt := 34) hx hb d6_byNow_116 (by decide) ?_
          exact ih x1 x2 x3 (x4 + r5) (x5 + r7) (x6 + 1) h0 _ (lv_sub hl [4, 5, 6, 7, 2, 1, 0] rfl)
def f6_byNow (σ : Mem) (x1 : Int32) (x2 : Int32) (x3 : Int32) : Option Int32 := Option.bind (f6_isToldLateness x1) fun r1 => if r1 = 0 then some (-1) else Option.bind (f6_isToldLateness x2) fun r3 => if r3 = 0 then some (-1) else Option.bind (f6_between x3 0 1) fun r5 => if r5 = 0 then some (-1) else f6_byNow_b34 σ 1000 x1 x2 x3 0 0 0
set_option maxHeartbeats 4000000 in
set_option maxRecDepth 100000 in
theorem c6_byNow (l : Launch) {w : WV} {σ : Mem} {x1 : Int32} {x2 : Int32} {x3 : Int32} {r : Int32} (h0 : f6_byNow σ x1 x2 x3 = some r) : Met l yX6_byNow (wy yX6_byNow cX6_byNow 8 (some .int)) rm6_byNow (Pw EC LC w [.ref (w.2.2 0), .int x1, .int x2, .int x3] σ) (Qp (.int r)) 0 0 (fun _ => False) := by
  refine mk_met (by decide) (Nat.le_of_ble_eq_true rfl) ?_
  intro p e s m below meth c S hr hlk hK hR ls hl
  obtain ⟨hx, hb, hml, hown, hts⟩ := id S
  have hl : lv_has ls 8 [(0, .ref (w.2.2 0)), (1, .int x1), (2, .int x2), (3, .int x3)] := hl
  unfold f6_byNow at h0
  refine lv_iload_n hx hb d6_byNow_0 rfl (lv_at hl 1 rfl) ?_
  obtain ⟨r1, hr1, h0⟩ := og_b h0
  refine k6_205 S  hr1 ⟨Nat.zero_le _, Nat.zero_le _⟩ ⟨Nat.le_of_ble_eq_true rfl, Nat.le_of_ble_eq_true rfl⟩ hl.1 (Nat.le_of_ble_eq_true rfl) d6_byNow_1 ?_
  refine lv_if_eq (tgt := 23) hx hb d6_byNow_4 (by decide) (fun hc2 => ?_) (fun hc2 => ?_)
  · have h0 := og_t hc2 h0
    refine lv_iconst (v := (-1)) hx hb d6_byNow_23 (by decide) ?_
    exact q_ipure S hr hlk h0 d6_byNow_24
  · have h0 := og_f hc2 h0
    refine lv_iload_n hx hb d6_byNow_7 rfl (lv_at hl 2 rfl) ?_
    obtain ⟨r3, hr3, h0⟩ := og_b h0
    refine k6_205 S  hr3 ⟨Nat.zero_le _, Nat.zero_le _⟩ ⟨Nat.le_of_ble_eq_true rfl, Nat.le_of_ble_eq_true rfl⟩ hl.1 (Nat.le_of_ble_eq_true rfl) d6_byNow_8 ?_
    refine lv_if_eq (tgt := 23) hx hb d6_byNow_11 (by decide) (fun hc4 => ?_) (fun hc4 => ?_)
    · have h0 := og_t hc4 h0
      refine lv_iconst (v := (-1)) hx hb d6_byNow_23 (by decide) ?_
      exact q_ipure S hr hlk h0 d6_byNow_24
    · have h0 := og_f hc4 h0
      refine lv_iload_n hx hb d6_byNow_14 rfl (lv_at hl 3 rfl) ?_
      refine lv_iconst (v := 0) hx hb d6_byNow_15 (by decide) ?_
      refine lv_iconst (v := 1) hx hb d6_byNow_16 (by decide) ?_
      obtain ⟨r5, hr5, h0⟩ := og_b h0
      refine k6_102 S  hr5 ⟨Nat.zero_le _, Nat.zero_le _⟩ ⟨Nat.le_of_ble_eq_true rfl, Nat.le_of_ble_eq_true rfl⟩ hl.1 (Nat.le_of_ble_eq_true rfl) d6_byNow_17 ?_
      refine lv_if_ne (tgt := 25) hx hb d6_byNow_20 (by decide) (fun hc6 => ?_) (fun hc6 => ?_)
      · have h0 := og_f hc6 h0
        refine lv_iconst (v := 0) hx hb d6_byNow_25 (by decide) ?_
        refine lv_istore (lv' := [(4, .int 0), (0, .ref (w.2.2 0)), (1, .int x1), (2, .int x2), (3, .int x3)]) hx hb d6_byNow_26 hl (by decide) rfl (fun ls hl => ?_)
        refine lv_iconst (v := 0) hx hb d6_byNow_28 (by decide) ?_
        refine lv_istore (lv' := [(5, .int 0), (4, .int 0), (0, .ref (w.2.2 0)), (1, .int x1), (2, .int x2), (3, .int x3)]) hx hb d6_byNow_29 hl (by decide) rfl (fun ls hl => ?_)
        refine lv_iconst (v := 0) hx hb d6_byNow_31 (by decide) ?_
        refine lv_istore (lv' := [(6, .int 0), (5, .int 0), (4, .int 0), (0, .ref (w.2.2 0)), (1, .int x1), (2, .int x2), (3, .int x3)]) hx hb d6_byNow_32 hl (by decide) rfl (fun ls hl => ?_)
        exact t6_byNow_b34 S hr hlk hK hR 1000 x1 x2 x3 0 0 0 h0 _ (lv_sub hl [3, 4, 5, 6, 2, 1, 0] rfl)
      · have h0 := og_t hc6 h0
        refine lv_iconst (v := (-1)) hx hb d6_byNow_23 (by decide) ?_
        exact q_ipure S hr hlk h0 d6_byNow_24
/-! FourTenGates.which(I)I -/
abbrev rm6_which : Room := { frames := 4, cells := 0, slots := 0, locals := 87 }
theorem d6_which_0 : decode cX6_which 0 = .ok (.iload_n 1, 1) := by decide +kernel
theorem d6_which_1 : decode cX6_which 1 = .ok (.invokestatic 214, 3) := by decide +kernel
theorem d6_which_4 : decode cX6_which 4 = .ok (.ifCond .ne 5, 3) := by decide +kernel
theorem d6_which_7 : decode cX6_which 7 = .ok (.iconst (-1), 1) := by decide +kernel
theorem d6_which_8 : decode cX6_which 8 = .ok (.ireturn, 1) := by decide +kernel
theorem d6_which_9 : decode cX6_which 9 = .ok (.iconst 0, 1) := by decide +kernel
theorem d6_which_10 : decode cX6_which 10 = .ok (.istore_n 2, 1) := by decide +kernel
theorem d6_which_11 : decode cX6_which 11 = .ok (.iconst 0, 1) := by decide +kernel
theorem d6_which_12 : decode cX6_which 12 = .ok (.istore_n 3, 1) := by decide +kernel
theorem d6_which_13 : decode cX6_which 13 = .ok (.iload_n 3, 1) := by decide +kernel
theorem d6_which_14 : decode cX6_which 14 = .ok (.aload_n 0, 1) := by decide +kernel
theorem d6_which_15 : decode cX6_which 15 = .ok (.getfield 19, 3) := by decide +kernel
theorem d6_which_18 : decode cX6_which 18 = .ok (.getfield 113, 3) := by decide +kernel
theorem d6_which_21 : decode cX6_which 21 = .ok (.invokevirtual 116, 3) := by decide +kernel
theorem d6_which_24 : decode cX6_which 24 = .ok (.if_icmp .ge 38, 3) := by decide +kernel
theorem d6_which_27 : decode cX6_which 27 = .ok (.aload_n 0, 1) := by decide +kernel
theorem d6_which_28 : decode cX6_which 28 = .ok (.iload_n 3, 1) := by decide +kernel
theorem d6_which_29 : decode cX6_which 29 = .ok (.invokevirtual 130, 3) := by decide +kernel
theorem d6_which_32 : decode cX6_which 32 = .ok (.istore 4, 2) := by decide +kernel
theorem d6_which_34 : decode cX6_which 34 = .ok (.iload 4, 2) := by decide +kernel
theorem d6_which_36 : decode cX6_which 36 = .ok (.bipush (-4), 2) := by decide +kernel
theorem d6_which_38 : decode cX6_which 38 = .ok (.if_icmp .eq 18, 3) := by decide +kernel
theorem d6_which_41 : decode cX6_which 41 = .ok (.iload 4, 2) := by decide +kernel
theorem d6_which_43 : decode cX6_which 43 = .ok (.bipush 6, 2) := by decide +kernel
theorem d6_which_45 : decode cX6_which 45 = .ok (.idiv, 1) := by decide +kernel
theorem d6_which_46 : decode cX6_which 46 = .ok (.iload_n 1, 1) := by decide +kernel
theorem d6_which_47 : decode cX6_which 47 = .ok (.if_icmp .ne 9, 3) := by decide +kernel
theorem d6_which_50 : decode cX6_which 50 = .ok (.iload_n 2, 1) := by decide +kernel
theorem d6_which_51 : decode cX6_which 51 = .ok (.iconst 1, 1) := by decide +kernel
theorem d6_which_52 : decode cX6_which 52 = .ok (.iload_n 3, 1) := by decide +kernel
theorem d6_which_53 : decode cX6_which 53 = .ok (.ishl, 1) := by decide +kernel
theorem d6_which_54 : decode cX6_which 54 = .ok (.ior, 1) := by decide +kernel
theorem d6_which_55 : decode cX6_which 55 = .ok (.istore_n 2, 1) := by decide +kernel
theorem d6_which_56 : decode cX6_which 56 = .ok (.iinc 3 1, 3) := by decide +kernel
theorem d6_which_59 : decode cX6_which 59 = .ok (.goto (-46), 3) := by decide +kernel
theorem d6_which_62 : decode cX6_which 62 = .ok (.iload_n 2, 1) := by decide +kernel
theorem d6_which_63 : decode cX6_which 63 = .ok (.ireturn, 1) := by decide +kernel
def f6_which_b13 (σ : Mem) : Nat → Int32 → Int32 → Int32 → Option Int32
  | 0, _, _, _ => none
  | n + 1, x1, x2, x3 => Option.bind (f2_size σ 4) fun r1 => if r1 ≤ x3 then some x2 else Option.bind (f6_bellOf σ x3) fun r3 => if r3 = (-4) then f6_which_b13 σ n x1 x2 (x3 + 1) else if (r3 / 6) = x1 then f6_which_b13 σ n x1 (x2 ||| (1 <<< (x3 &&& 31))) (x3 + 1) else f6_which_b13 σ n x1 x2 (x3 + 1)
set_option maxHeartbeats 4000000 in
set_option maxRecDepth 100000 in
theorem t6_which_b13 {p : Program} {l : Launch} {e : Env} {s : State} {m : MethodId} {args : Array Value} {below : List Frame} {meth : Method} {c : Code} {w : WV} {σ : Mem} {r : Int32} (S : CallFix p m c cX6_which 5 s args gtbl RX6) (hr : meth.sig.returnType = (some .int)) (hlk : meth.locks = false) (hK : KS LC w s) (hR : Rp EC LC w σ s.heap) : ∀ (n : Nat), ∀ (x1 : Int32) (x2 : Int32) (x3 : Int32), f6_which_b13 σ n x1 x2 x3 = some r → ∀ (ls : Array Slot), lv_has ls 5 [(0, .ref (w.2.2 0)), (1, .int x1), (2, .int x2), (3, .int x3)] → W p l e rm6_which s m args below meth c s.heap [] 0 0 (MQ below (Qp (.int r)) args s 0 0 (fun _ => False)) (F0 m 13 ls []) := by
  obtain ⟨hx, hb, hml, hown, hts⟩ := id S
  intro n
  induction n with
  | zero =>
    intro x1 x2 x3 h0
    cases (show none = _ from h0)
  | succ n ih =>
    intro x1 x2 x3 h0 ls hl
    rw [f6_which_b13] at h0
    refine lv_iload_n hx hb d6_which_13 rfl (lv_at hl 3 rfl) ?_
    refine lv_aload_n hx hb d6_which_14 rfl (lv_at hl 0 rfl) ?_
    refine g6_19 S hK hR d6_which_15 ?_
    refine g6_113 S hK hR (by decide) rfl d6_which_18 ?_
    obtain ⟨r1, hr1, h0⟩ := og_b h0
    refine k6_116 S hK hR (by decide) hr1 ⟨Nat.zero_le _, Nat.zero_le _⟩ ⟨Nat.le_of_ble_eq_true rfl, Nat.le_of_ble_eq_true rfl⟩ hl.1 (Nat.le_of_ble_eq_true rfl) d6_which_21 ?_
    refine lv_icmp_ge (tgt := 62) hx hb d6_which_24 (by decide) (fun hc2 => ?_) (fun hc2 => ?_)
    · have h0 := og_t hc2 h0
      refine lv_iload_n hx hb d6_which_62 rfl (lv_at hl 2 rfl) ?_
      exact q_ipure S hr hlk h0 d6_which_63
    · have h0 := og_f hc2 h0
      refine lv_aload_n hx hb d6_which_27 rfl (lv_at hl 0 rfl) ?_
      refine lv_iload_n hx hb d6_which_28 rfl (lv_at hl 3 rfl) ?_
      obtain ⟨r3, hr3, h0⟩ := og_b h0
      refine k6_130 S hK hR  hr3 ⟨Nat.zero_le _, Nat.zero_le _⟩ ⟨Nat.le_of_ble_eq_true rfl, Nat.le_of_ble_eq_true rfl⟩ hl.1 (Nat.le_of_ble_eq_true rfl) d6_which_29 ?_
      refine lv_istore (lv' := [(4, .int r3), (0, .ref (w.2.2 0)), (1, .int x1), (2, .int x2), (3, .int x3)]) hx hb d6_which_32 hl (by decide) rfl (fun ls hl => ?_)
      refine lv_iload hx hb d6_which_34 (lv_at hl 0 rfl) ?_
      refine lv_bipush (v := (-4)) hx hb d6_which_36 (by decide) ?_
      refine lv_icmp_eq (tgt := 56) hx hb d6_which_38 (by decide) (fun hc4 => ?_) (fun hc4 => ?_)
      · have h0 := og_t hc4 h0
        refine lv_iinc (v := x3 + 1) (lv' := [(3, .int (x3 + 1)), (4, .int r3), (0, .ref (w.2.2 0)), (1, .int x1), (2, .int x2)]) hx hb d6_which_56 hl (k := 4) rfl (ii1 _) (by decide) rfl (fun ls hl => ?_)
        refine lv_goto (tgt := 13) hx hb d6_which_59 (by decide) ?_
        exact ih x1 x2 (x3 + 1) h0 _ (lv_sub hl [2, 3, 4, 0] rfl)
      · have h0 := og_f hc4 h0
        refine lv_iload hx hb d6_which_41 (lv_at hl 0 rfl) ?_
        refine lv_bipush (v := 6) hx hb d6_which_43 (by decide) ?_
        refine lv_idiv hx hb d6_which_45 (by decide) ?_
        refine lv_iload_n hx hb d6_which_46 rfl (lv_at hl 2 rfl) ?_
        refine lv_icmp_ne (tgt := 56) hx hb d6_which_47 (by decide) (fun hc5 => ?_) (fun hc5 => ?_)
        · have h0 := og_f hc5 h0
          refine lv_iinc (v := x3 + 1) (lv' := [(3, .int (x3 + 1)), (4, .int r3), (0, .ref (w.2.2 0)), (1, .int x1), (2, .int x2)]) hx hb d6_which_56 hl (k := 4) rfl (ii1 _) (by decide) rfl (fun ls hl => ?_)
          refine lv_goto (tgt := 13) hx hb d6_which_59 (by decide) ?_
          exact ih x1 x2 (x3 + 1) h0 _ (lv_sub hl [2, 3, 4, 0] rfl)
        · have h0 := og_t hc5 h0
          refine lv_iload_n hx hb d6_which_50 rfl (lv_at hl 3 rfl) ?_
          refine lv_iconst (v := 1) hx hb d6_which_51 (by decide) ?_
          refine lv_iload_n hx hb d6_which_52 rfl (lv_at hl 4 rfl) ?_
          refine lv_ishl hx hb d6_which_53 ?_
          refine lv_ior hx hb d6_which_54 ?_
          refine lv_istore_n (lv' := [(2, .int (x2 ||| (1 <<< (x3 &&& 31)))), (4, .int r3), (0, .ref (w.2.2 0)), (1, .int x1), (3, .int x3)]) hx hb d6_which_55 rfl hl (by decide) rfl (fun ls hl => ?_)
          refine lv_iinc (v := x3 + 1) (lv' := [(3, .int (x3 + 1)), (2, .int (x2 ||| (1 <<< (x3 &&& 31)))), (4, .int r3), (0, .ref (w.2.2 0)), (1, .int x1)]) hx hb d6_which_56 hl (k := 4) rfl (ii1 _) (by decide) rfl (fun ls hl => ?_)
          refine lv_goto (tgt := 13) hx hb d6_which_59 (by decide) ?_
          exact ih x1 (x2 ||| (1 <<< (x3 &&& 31))) (x3 + 1) h0 _ (lv_sub hl [3, 4, 1, 0] rfl)
def f6_which (σ : Mem) (x1 : Int32) : Option Int32 := Option.bind (f6_isMinute x1) fun r1 => if r1 = 0 then some (-1) else f6_which_b13 σ 1000 x1 0 0
set_option maxHeartbeats 4000000 in
set_option maxRecDepth 100000 in
theorem c6_which (l : Launch) {w : WV} {σ : Mem} {x1 : Int32} {r : Int32} (h0 : f6_which σ x1 = some r) : Met l yX6_which (wy yX6_which cX6_which 5 (some .int)) rm6_which (Pw EC LC w [.ref (w.2.2 0), .int x1] σ) (Qp (.int r)) 0 0 (fun _ => False) := by
  refine mk_met (by decide) (Nat.le_of_ble_eq_true rfl) ?_
  intro p e s m below meth c S hr hlk hK hR ls hl
  obtain ⟨hx, hb, hml, hown, hts⟩ := id S
  have hl : lv_has ls 5 [(0, .ref (w.2.2 0)), (1, .int x1)] := hl
  unfold f6_which at h0
  refine lv_iload_n hx hb d6_which_0 rfl (lv_at hl 1 rfl) ?_
  obtain ⟨r1, hr1, h0⟩ := og_b h0
  refine k6_214 S  hr1 ⟨Nat.zero_le _, Nat.zero_le _⟩ ⟨Nat.le_of_ble_eq_true rfl, Nat.le_of_ble_eq_true rfl⟩ hl.1 (Nat.le_of_ble_eq_true rfl) d6_which_1 ?_
  refine lv_if_ne (tgt := 9) hx hb d6_which_4 (by decide) (fun hc2 => ?_) (fun hc2 => ?_)
  · have h0 := og_f hc2 h0
    refine lv_iconst (v := 0) hx hb d6_which_9 (by decide) ?_
    refine lv_istore_n (lv' := [(2, .int 0), (0, .ref (w.2.2 0)), (1, .int x1)]) hx hb d6_which_10 rfl hl (by decide) rfl (fun ls hl => ?_)
    refine lv_iconst (v := 0) hx hb d6_which_11 (by decide) ?_
    refine lv_istore_n (lv' := [(3, .int 0), (2, .int 0), (0, .ref (w.2.2 0)), (1, .int x1)]) hx hb d6_which_12 rfl hl (by decide) rfl (fun ls hl => ?_)
    exact t6_which_b13 S hr hlk hK hR 1000 x1 0 0 h0 _ (lv_sub hl [2, 3, 1, 0] rfl)
  · have h0 := og_t hc2 h0
    refine lv_iconst (v := (-1)) hx hb d6_which_7 (by decide) ?_
    exact q_ipure S hr hlk h0 d6_which_8
/-! FourTenGates.seen(II)I -/
abbrev rm6_seen : Room := { frames := 2, cells := 0, slots := 0, locals := 42 }
theorem d6_seen_0 : decode cX6_seen 0 = .ok (.iload_n 1, 1) := by decide +kernel
theorem d6_seen_1 : decode cX6_seen 1 = .ok (.invokestatic 142, 3) := by decide +kernel
theorem d6_seen_4 : decode cX6_seen 4 = .ok (.ifCond .eq 12, 3) := by decide +kernel
theorem d6_seen_7 : decode cX6_seen 7 = .ok (.iload_n 2, 1) := by decide +kernel
theorem d6_seen_8 : decode cX6_seen 8 = .ok (.iconst 0, 1) := by decide +kernel
theorem d6_seen_9 : decode cX6_seen 9 = .ok (.iconst 2, 1) := by decide +kernel
theorem d6_seen_10 : decode cX6_seen 10 = .ok (.invokestatic 102, 3) := by decide +kernel
theorem d6_seen_13 : decode cX6_seen 13 = .ok (.ifCond .ne 5, 3) := by decide +kernel
theorem d6_seen_16 : decode cX6_seen 16 = .ok (.iconst (-1), 1) := by decide +kernel
theorem d6_seen_17 : decode cX6_seen 17 = .ok (.ireturn, 1) := by decide +kernel
theorem d6_seen_18 : decode cX6_seen 18 = .ok (.aload_n 0, 1) := by decide +kernel
theorem d6_seen_19 : decode cX6_seen 19 = .ok (.getfield 64, 3) := by decide +kernel
theorem d6_seen_22 : decode cX6_seen 22 = .ok (.iload_n 1, 1) := by decide +kernel
theorem d6_seen_23 : decode cX6_seen 23 = .ok (.iload_n 2, 1) := by decide +kernel
theorem d6_seen_24 : decode cX6_seen 24 = .ok (.invokevirtual 184, 3) := by decide +kernel
theorem d6_seen_27 : decode cX6_seen 27 = .ok (.ifCond .eq 13, 3) := by decide +kernel
theorem d6_seen_30 : decode cX6_seen 30 = .ok (.aload_n 0, 1) := by decide +kernel
theorem d6_seen_31 : decode cX6_seen 31 = .ok (.getfield 64, 3) := by decide +kernel
theorem d6_seen_34 : decode cX6_seen 34 = .ok (.invokevirtual 116, 3) := by decide +kernel
theorem d6_seen_37 : decode cX6_seen 37 = .ok (.goto 5, 3) := by decide +kernel
theorem d6_seen_40 : decode cX6_seen 40 = .ok (.bipush (-3), 2) := by decide +kernel
theorem d6_seen_42 : decode cX6_seen 42 = .ok (.ireturn, 1) := by decide +kernel
def f6_seen (σ : Mem) (x1 : Int32) (x2 : Int32) : Option (Mem × Int32) := Option.bind (f6_isBeat x1) fun r1 => if r1 = 0 then some (σ, (-1)) else Option.bind (f6_between x2 0 2) fun r3 => if r3 = 0 then some (σ, (-1)) else ob (f2_add σ 136 x1 x2) fun σ5 r5 => if r5 = 0 then some (σ5, (-3)) else Option.bind (f2_size σ5 136) fun r7 => some (σ5, r7)
set_option maxHeartbeats 4000000 in
set_option maxRecDepth 100000 in
theorem c6_seen (l : Launch) {w : WV} {σ : Mem} {x1 : Int32} {x2 : Int32} {σ' : Mem} {r : Int32} (h0 : f6_seen σ x1 x2 = some (σ', r)) : Met l yX6_seen (wy yX6_seen cX6_seen 3 (some .int)) rm6_seen (Pw EC LC w [.ref (w.2.2 0), .int x1, .int x2] σ) (Qw EC LC w σ' (some (.int r))) 0 0 (AW LC w) := by
  refine mk_met (by decide) (Nat.le_of_ble_eq_true rfl) ?_
  intro p e s m below meth c S hr hlk hK hR ls hl
  obtain ⟨hx, hb, hml, hown, hts⟩ := id S
  have hl : lv_has ls 3 [(0, .ref (w.2.2 0)), (1, .int x1), (2, .int x2)] := hl
  have hS : va_S (AW LC w) s.heap s.heap [] := va_S.rf
  unfold f6_seen at h0
  refine lv_iload_n hx hb d6_seen_0 rfl (lv_at hl 1 rfl) ?_
  obtain ⟨r1, hr1, h0⟩ := og_b h0
  refine k6_142 S  hr1 ⟨Nat.zero_le _, Nat.zero_le _⟩ ⟨Nat.le_of_ble_eq_true rfl, Nat.le_of_ble_eq_true rfl⟩ hl.1 (Nat.le_of_ble_eq_true rfl) d6_seen_1 ?_
  refine lv_if_eq (tgt := 16) hx hb d6_seen_4 (by decide) (fun hc2 => ?_) (fun hc2 => ?_)
  · have h0 := og_t hc2 h0
    refine lv_iconst (v := (-1)) hx hb d6_seen_16 (by decide) ?_
    exact q_iret S hr hlk hR hS h0 d6_seen_17
  · have h0 := og_f hc2 h0
    refine lv_iload_n hx hb d6_seen_7 rfl (lv_at hl 2 rfl) ?_
    refine lv_iconst (v := 0) hx hb d6_seen_8 (by decide) ?_
    refine lv_iconst (v := 2) hx hb d6_seen_9 (by decide) ?_
    obtain ⟨r3, hr3, h0⟩ := og_b h0
    refine k6_102 S  hr3 ⟨Nat.zero_le _, Nat.zero_le _⟩ ⟨Nat.le_of_ble_eq_true rfl, Nat.le_of_ble_eq_true rfl⟩ hl.1 (Nat.le_of_ble_eq_true rfl) d6_seen_10 ?_
    refine lv_if_ne (tgt := 18) hx hb d6_seen_13 (by decide) (fun hc4 => ?_) (fun hc4 => ?_)
    · have h0 := og_f hc4 h0
      refine lv_aload_n hx hb d6_seen_18 rfl (lv_at hl 0 rfl) ?_
      refine g6_64 S hK hR d6_seen_19 ?_
      refine lv_iload_n hx hb d6_seen_22 rfl (lv_at hl 1 rfl) ?_
      refine lv_iload_n hx hb d6_seen_23 rfl (lv_at hl 2 rfl) ?_
      obtain ⟨σ5, r5, hr5, h0⟩ := og_o h0
      refine k6_184 S hK hR hS (by decide) hr5 ⟨Nat.zero_le _, Nat.zero_le _⟩ ⟨Nat.le_of_ble_eq_true rfl, Nat.le_of_ble_eq_true rfl⟩ hl.1 (Nat.le_of_ble_eq_true rfl) d6_seen_24 (fun H locs hR hS => ?_)
      refine lv_if_eq (tgt := 40) hx hb d6_seen_27 (by decide) (fun hc6 => ?_) (fun hc6 => ?_)
      · have h0 := og_t hc6 h0
        refine lv_bipush (v := (-3)) hx hb d6_seen_40 (by decide) ?_
        exact q_iret S hr hlk hR hS h0 d6_seen_42
      · have h0 := og_f hc6 h0
        refine lv_aload_n hx hb d6_seen_30 rfl (lv_at hl 0 rfl) ?_
        refine g6_64 S hK hR d6_seen_31 ?_
        obtain ⟨r7, hr7, h0⟩ := og_b h0
        refine k6_116 S hK hR (by decide) hr7 ⟨Nat.zero_le _, Nat.zero_le _⟩ ⟨Nat.le_of_ble_eq_true rfl, Nat.le_of_ble_eq_true rfl⟩ hl.1 (Nat.le_of_ble_eq_true rfl) d6_seen_34 ?_
        refine lv_goto (tgt := 42) hx hb d6_seen_37 (by decide) ?_
        exact q_iret S hr hlk hR hS h0 d6_seen_42
    · have h0 := og_t hc4 h0
      refine lv_iconst (v := (-1)) hx hb d6_seen_16 (by decide) ?_
      exact q_iret S hr hlk hR hS h0 d6_seen_17
/-! FourTenGates.forget()I -/
abbrev rm6_forget : Room := { frames := 1, cells := 0, slots := 0, locals := 21 }
theorem d6_forget_0 : decode cX6_forget 0 = .ok (.aload_n 0, 1) := by decide +kernel
theorem d6_forget_1 : decode cX6_forget 1 = .ok (.getfield 64, 3) := by decide +kernel
theorem d6_forget_4 : decode cX6_forget 4 = .ok (.invokevirtual 217, 3) := by decide +kernel
theorem d6_forget_7 : decode cX6_forget 7 = .ok (.ireturn, 1) := by decide +kernel
def f6_forget (σ : Mem) : Option (Mem × Int32) := ob (f2_empty σ 136) fun σ1 r1 => some (σ1, r1)
set_option maxHeartbeats 4000000 in
set_option maxRecDepth 100000 in
theorem c6_forget (l : Launch) {w : WV} {σ : Mem} {σ' : Mem} {r : Int32} (h0 : f6_forget σ = some (σ', r)) : Met l yX6_forget (wy yX6_forget cX6_forget 1 (some .int)) rm6_forget (Pw EC LC w [.ref (w.2.2 0)] σ) (Qw EC LC w σ' (some (.int r))) 0 0 (AW LC w) := by
  refine mk_met (by decide) (Nat.le_of_ble_eq_true rfl) ?_
  intro p e s m below meth c S hr hlk hK hR ls hl
  obtain ⟨hx, hb, hml, hown, hts⟩ := id S
  have hl : lv_has ls 1 [(0, .ref (w.2.2 0))] := hl
  have hS : va_S (AW LC w) s.heap s.heap [] := va_S.rf
  unfold f6_forget at h0
  refine lv_aload_n hx hb d6_forget_0 rfl (lv_at hl 0 rfl) ?_
  refine g6_64 S hK hR d6_forget_1 ?_
  obtain ⟨σ1, r1, hr1, h0⟩ := og_o h0
  refine k6_217 S hK hR hS (by decide) hr1 ⟨Nat.zero_le _, Nat.zero_le _⟩ ⟨Nat.le_of_ble_eq_true rfl, Nat.le_of_ble_eq_true rfl⟩ hl.1 (Nat.le_of_ble_eq_true rfl) d6_forget_4 (fun H locs hR hS => ?_)
  exact q_iret S hr hlk hR hS h0 d6_forget_7
/-! FourTenGates.isAsSeen(LFourTenGates$Hour;)Z -/
abbrev rm6_isAsSeen : Room := { frames := 1, cells := 0, slots := 0, locals := 21 }
theorem d6_isAsSeen_0 : decode cX6_isAsSeen 0 = .ok (.iconst 0, 1) := by decide +kernel
theorem d6_isAsSeen_1 : decode cX6_isAsSeen 1 = .ok (.istore_n 2, 1) := by decide +kernel
theorem d6_isAsSeen_2 : decode cX6_isAsSeen 2 = .ok (.iload_n 2, 1) := by decide +kernel
theorem d6_isAsSeen_3 : decode cX6_isAsSeen 3 = .ok (.aload_n 0, 1) := by decide +kernel
theorem d6_isAsSeen_4 : decode cX6_isAsSeen 4 = .ok (.getfield 64, 3) := by decide +kernel
theorem d6_isAsSeen_7 : decode cX6_isAsSeen 7 = .ok (.invokevirtual 116, 3) := by decide +kernel
theorem d6_isAsSeen_10 : decode cX6_isAsSeen 10 = .ok (.if_icmp .ge 34, 3) := by decide +kernel
theorem d6_isAsSeen_13 : decode cX6_isAsSeen 13 = .ok (.aload_n 1, 1) := by decide +kernel
theorem d6_isAsSeen_14 : decode cX6_isAsSeen 14 = .ok (.aload_n 0, 1) := by decide +kernel
theorem d6_isAsSeen_15 : decode cX6_isAsSeen 15 = .ok (.getfield 64, 3) := by decide +kernel
theorem d6_isAsSeen_18 : decode cX6_isAsSeen 18 = .ok (.iload_n 2, 1) := by decide +kernel
theorem d6_isAsSeen_19 : decode cX6_isAsSeen 19 = .ok (.invokevirtual 120, 3) := by decide +kernel
theorem d6_isAsSeen_22 : decode cX6_isAsSeen 22 = .ok (.invokevirtual 149, 3) := by decide +kernel
theorem d6_isAsSeen_25 : decode cX6_isAsSeen 25 = .ok (.aload_n 0, 1) := by decide +kernel
theorem d6_isAsSeen_26 : decode cX6_isAsSeen 26 = .ok (.getfield 64, 3) := by decide +kernel
theorem d6_isAsSeen_29 : decode cX6_isAsSeen 29 = .ok (.iload_n 2, 1) := by decide +kernel
theorem d6_isAsSeen_30 : decode cX6_isAsSeen 30 = .ok (.invokevirtual 124, 3) := by decide +kernel
theorem d6_isAsSeen_33 : decode cX6_isAsSeen 33 = .ok (.if_icmp .eq 5, 3) := by decide +kernel
theorem d6_isAsSeen_36 : decode cX6_isAsSeen 36 = .ok (.iconst 0, 1) := by decide +kernel
theorem d6_isAsSeen_37 : decode cX6_isAsSeen 37 = .ok (.ireturn, 1) := by decide +kernel
theorem d6_isAsSeen_38 : decode cX6_isAsSeen 38 = .ok (.iinc 2 1, 3) := by decide +kernel
theorem d6_isAsSeen_41 : decode cX6_isAsSeen 41 = .ok (.goto (-39), 3) := by decide +kernel
theorem d6_isAsSeen_44 : decode cX6_isAsSeen 44 = .ok (.iconst 1, 1) := by decide +kernel
theorem d6_isAsSeen_45 : decode cX6_isAsSeen 45 = .ok (.ireturn, 1) := by decide +kernel
def f6_isAsSeen_b2 (σ : Mem) (o1 : Nat) : Nat → Int32 → Option Int32
  | 0, _ => none
  | n + 1, x2 => Option.bind (f2_size σ 136) fun r1 => if r1 ≤ x2 then some 1 else Option.bind (f2_first σ 136 x2) fun r3 => Option.bind (f1_gatesAt σ o1 r3) fun r4 => Option.bind (f2_second σ 136 x2) fun r5 => if r4 = r5 then f6_isAsSeen_b2 σ o1 n (x2 + 1) else some 0
set_option maxHeartbeats 4000000 in
set_option maxRecDepth 100000 in
theorem t6_isAsSeen_b2 {p : Program} {l : Launch} {e : Env} {s : State} {m : MethodId} {args : Array Value} {below : List Frame} {meth : Method} {c : Code} {w : WV} {σ : Mem} {o1 : Nat} {r : Int32} (S : CallFix p m c cX6_isAsSeen 3 s args gtbl RX6) (hr : meth.sig.returnType = (some .boolean)) (hlk : meth.locks = false) (hK : KS LC w s) (hR : Rp EC LC w σ s.heap) (ho1 : o1 ∈ hourL) : ∀ (n : Nat), ∀ (x2 : Int32), f6_isAsSeen_b2 σ o1 n x2 = some r → ∀ (ls : Array Slot), lv_has ls 3 [(0, .ref (w.2.2 0)), (1, .ref (w.2.2 o1)), (2, .int x2)] → W p l e rm6_isAsSeen s m args below meth c s.heap [] 0 0 (MQ below (Qp (.int r)) args s 0 0 (fun _ => False)) (F0 m 2 ls []) := by
  obtain ⟨hx, hb, hml, hown, hts⟩ := id S
  intro n
  induction n with
  | zero =>
    intro x2 h0
    cases (show none = _ from h0)
  | succ n ih =>
    intro x2 h0 ls hl
    rw [f6_isAsSeen_b2] at h0
    refine lv_iload_n hx hb d6_isAsSeen_2 rfl (lv_at hl 2 rfl) ?_
    refine lv_aload_n hx hb d6_isAsSeen_3 rfl (lv_at hl 0 rfl) ?_
    refine g6_64 S hK hR d6_isAsSeen_4 ?_
    obtain ⟨r1, hr1, h0⟩ := og_b h0
    refine k6_116 S hK hR (by decide) hr1 ⟨Nat.zero_le _, Nat.zero_le _⟩ ⟨Nat.le_of_ble_eq_true rfl, Nat.le_of_ble_eq_true rfl⟩ hl.1 (Nat.le_of_ble_eq_true rfl) d6_isAsSeen_7 ?_
    refine lv_icmp_ge (tgt := 44) hx hb d6_isAsSeen_10 (by decide) (fun hc2 => ?_) (fun hc2 => ?_)
    · have h0 := og_t hc2 h0
      refine lv_iconst (v := 1) hx hb d6_isAsSeen_44 (by decide) ?_
      exact q_zpure S hr hlk (Or.inr rfl) h0 d6_isAsSeen_45
    · have h0 := og_f hc2 h0
      refine lv_aload_n hx hb d6_isAsSeen_13 rfl (lv_at hl 1 rfl) ?_
      refine lv_aload_n hx hb d6_isAsSeen_14 rfl (lv_at hl 0 rfl) ?_
      refine g6_64 S hK hR d6_isAsSeen_15 ?_
      refine lv_iload_n hx hb d6_isAsSeen_18 rfl (lv_at hl 2 rfl) ?_
      obtain ⟨r3, hr3, h0⟩ := og_b h0
      refine k6_120 S hK hR (by decide) hr3 ⟨Nat.zero_le _, Nat.zero_le _⟩ ⟨Nat.le_of_ble_eq_true rfl, Nat.le_of_ble_eq_true rfl⟩ hl.1 (Nat.le_of_ble_eq_true rfl) d6_isAsSeen_19 ?_
      obtain ⟨r4, hr4, h0⟩ := og_b h0
      refine k6_149 S hK hR ho1 hr4 ⟨Nat.zero_le _, Nat.zero_le _⟩ ⟨Nat.le_of_ble_eq_true rfl, Nat.le_of_ble_eq_true rfl⟩ hl.1 (Nat.le_of_ble_eq_true rfl) d6_isAsSeen_22 ?_
      refine lv_aload_n hx hb d6_isAsSeen_25 rfl (lv_at hl 0 rfl) ?_
      refine g6_64 S hK hR d6_isAsSeen_26 ?_
      refine lv_iload_n hx hb d6_isAsSeen_29 rfl (lv_at hl 2 rfl) ?_
      obtain ⟨r5, hr5, h0⟩ := og_b h0
      refine k6_124 S hK hR (by decide) hr5 ⟨Nat.zero_le _, Nat.zero_le _⟩ ⟨Nat.le_of_ble_eq_true rfl, Nat.le_of_ble_eq_true rfl⟩ hl.1 (Nat.le_of_ble_eq_true rfl) d6_isAsSeen_30 ?_
      refine lv_icmp_eq (tgt := 38) hx hb d6_isAsSeen_33 (by decide) (fun hc6 => ?_) (fun hc6 => ?_)
      · have h0 := og_t hc6 h0
        refine lv_iinc (v := x2 + 1) (lv' := [(2, .int (x2 + 1)), (0, .ref (w.2.2 0)), (1, .ref (w.2.2 o1))]) hx hb d6_isAsSeen_38 hl (k := 2) rfl (ii1 _) (by decide) rfl (fun ls hl => ?_)
        refine lv_goto (tgt := 2) hx hb d6_isAsSeen_41 (by decide) ?_
        exact ih (x2 + 1) h0 _ (lv_sub hl [1, 2, 0] rfl)
      · have h0 := og_f hc6 h0
        refine lv_iconst (v := 0) hx hb d6_isAsSeen_36 (by decide) ?_
        exact q_zpure S hr hlk (Or.inl rfl) h0 d6_isAsSeen_37
def f6_isAsSeen (σ : Mem) (o1 : Nat) : Option Int32 := f6_isAsSeen_b2 σ o1 1000 0
set_option maxHeartbeats 4000000 in
set_option maxRecDepth 100000 in
theorem c6_isAsSeen (l : Launch) {w : WV} {σ : Mem} {o1 : Nat} {r : Int32} (ho1 : o1 ∈ hourL) (h0 : f6_isAsSeen σ o1 = some r) : Met l yX6_isAsSeen (wy yX6_isAsSeen cX6_isAsSeen 3 (some .boolean)) rm6_isAsSeen (Pw EC LC w [.ref (w.2.2 0), .ref (w.2.2 o1)] σ) (Qp (.int r)) 0 0 (fun _ => False) := by
  refine mk_met (by decide) (Nat.le_of_ble_eq_true rfl) ?_
  intro p e s m below meth c S hr hlk hK hR ls hl
  obtain ⟨hx, hb, hml, hown, hts⟩ := id S
  have hl : lv_has ls 3 [(0, .ref (w.2.2 0)), (1, .ref (w.2.2 o1))] := hl
  unfold f6_isAsSeen at h0
  refine lv_iconst (v := 0) hx hb d6_isAsSeen_0 (by decide) ?_
  refine lv_istore_n (lv' := [(2, .int 0), (0, .ref (w.2.2 0)), (1, .ref (w.2.2 o1))]) hx hb d6_isAsSeen_1 rfl hl (by decide) rfl (fun ls hl => ?_)
  exact t6_isAsSeen_b2 S hr hlk hK hR ho1 1000 0 h0 _ (lv_sub hl [1, 2, 0] rfl)
set_option maxHeartbeats 4000000 in
set_option maxRecDepth 100000 in
theorem k6_218 {p : Program} {l : Launch} {e : Env} {R : Room} {s : State} {m : MethodId} {args : Array Value} {below : List Frame} {meth : Method} {c : Code} {H : Heap} {locs : List Loc} {cells slots : Nat} {Q : State → Prop} {cc : ByteArray} {pc nL : Nat} {ls : Array Slot} {rest : List Value} {w : WV} {σ : Mem} {o1 : Nat} {r : Int32} (S : CallFix p m c cc nL s args gtbl RX6) (hK : KS LC w s) (hR : Rp EC LC w σ H) (ho1 : o1 ∈ hourL) (h0 : f6_isAsSeen σ o1 = some r) (hf : cells + 0 ≤ R.cells ∧ slots + 0 ≤ R.slots) (hRm : rm6_isAsSeen.frames + 1 ≤ R.frames ∧ 8 + (3 + 11) + rm6_isAsSeen.locals ≤ R.locals) (hl : ls.size = nL) (hW : (rest.map fun v => v.category).sum ≤ 8) (hdg : decode cc pc = .ok (.invokevirtual 218, 3)) (kk : W p l e R s m args below meth c H locs cells slots Q (F0 m (pc + 3) ls (.int r :: rest))) : W p l e R s m args below meth c H locs cells slots Q (F0 m pc ls (.ref (w.2.2 o1) :: .ref (w.2.2 0) :: rest)) := r_endp (run_V (n := 1) (As := [.ref (w.2.2 o1)]) S hK hR (by decide) (eC_6 w _) rfl (gw_V (gt_at 844 (by decide +kernel) (by decide +kernel)) (gt_at 846 (by decide +kernel) (by decide +kernel)) (gt_at 37 (by decide +kernel) (by decide +kernel)) (gt_at 74 (by decide +kernel) (by decide +kernel)) (gt_at 847 (by decide +kernel) (by decide +kernel))) (by decide +kernel) rfl (c6_isAsSeen l ho1 h0) ⟨rfl, rfl⟩ hRm hf hl rfl hW hdg) kk
/-! FourTenGates.fits()I -/
abbrev rm6_fits : Room := { frames := 6, cells := 0, slots := 0, locals := 133 }
theorem d6_fits_0 : decode cX6_fits 0 = .ok (.iconst 0, 1) := by decide +kernel
theorem d6_fits_1 : decode cX6_fits 1 = .ok (.istore_n 1, 1) := by decide +kernel
theorem d6_fits_2 : decode cX6_fits 2 = .ok (.iconst 0, 1) := by decide +kernel
theorem d6_fits_3 : decode cX6_fits 3 = .ok (.istore_n 2, 1) := by decide +kernel
theorem d6_fits_4 : decode cX6_fits 4 = .ok (.iload_n 2, 1) := by decide +kernel
theorem d6_fits_5 : decode cX6_fits 5 = .ok (.iconst 4, 1) := by decide +kernel
theorem d6_fits_6 : decode cX6_fits 6 = .ok (.if_icmp .ge 27, 3) := by decide +kernel
theorem d6_fits_9 : decode cX6_fits 9 = .ok (.aload_n 0, 1) := by decide +kernel
theorem d6_fits_10 : decode cX6_fits 10 = .ok (.aload_n 0, 1) := by decide +kernel
theorem d6_fits_11 : decode cX6_fits 11 = .ok (.iload_n 2, 1) := by decide +kernel
theorem d6_fits_12 : decode cX6_fits 12 = .ok (.invokevirtual 145, 3) := by decide +kernel
theorem d6_fits_15 : decode cX6_fits 15 = .ok (.invokevirtual 218, 3) := by decide +kernel
theorem d6_fits_18 : decode cX6_fits 18 = .ok (.ifCond .eq 9, 3) := by decide +kernel
theorem d6_fits_21 : decode cX6_fits 21 = .ok (.iload_n 1, 1) := by decide +kernel
theorem d6_fits_22 : decode cX6_fits 22 = .ok (.iconst 1, 1) := by decide +kernel
theorem d6_fits_23 : decode cX6_fits 23 = .ok (.iload_n 2, 1) := by decide +kernel
theorem d6_fits_24 : decode cX6_fits 24 = .ok (.ishl, 1) := by decide +kernel
theorem d6_fits_25 : decode cX6_fits 25 = .ok (.ior, 1) := by decide +kernel
theorem d6_fits_26 : decode cX6_fits 26 = .ok (.istore_n 1, 1) := by decide +kernel
theorem d6_fits_27 : decode cX6_fits 27 = .ok (.iinc 2 1, 3) := by decide +kernel
theorem d6_fits_30 : decode cX6_fits 30 = .ok (.goto (-26), 3) := by decide +kernel
theorem d6_fits_33 : decode cX6_fits 33 = .ok (.iload_n 1, 1) := by decide +kernel
theorem d6_fits_34 : decode cX6_fits 34 = .ok (.ireturn, 1) := by decide +kernel
def f6_fits_b4 : Nat → Mem → Int32 → Int32 → Option (Mem × Int32)
  | 0, _, _, _ => none
  | n + 1, σ, x1, x2 => if 4 ≤ x2 then some (σ, x1) else ob (f6_hourBy σ x2) fun σ2 q202 => if q202 ∈ hourL then Option.bind (f6_isAsSeen σ2 q202) fun r3 => if r3 = 0 then f6_fits_b4 n σ2 x1 (x2 + 1) else f6_fits_b4 n σ2 (x1 ||| (1 <<< (x2 &&& 31))) (x2 + 1) else none
set_option maxHeartbeats 4000000 in
set_option maxRecDepth 100000 in
theorem t6_fits_b4 {p : Program} {l : Launch} {e : Env} {s : State} {m : MethodId} {args : Array Value} {below : List Frame} {meth : Method} {c : Code} {w : WV} {σ' : Mem} {r : Int32} (S : CallFix p m c cX6_fits 3 s args gtbl RX6) (hr : meth.sig.returnType = (some .int)) (hlk : meth.locks = false) (hK : KS LC w s) : ∀ (n : Nat), ∀ (σ : Mem) (x1 : Int32) (x2 : Int32), f6_fits_b4  n σ x1 x2 = some (σ', r) → ∀ (H : Heap) (locs : List Loc), Rp EC LC w σ H → va_S (AW LC w) s.heap H locs → ∀ (ls : Array Slot), lv_has ls 3 [(0, .ref (w.2.2 0)), (1, .int x1), (2, .int x2)] → W p l e rm6_fits s m args below meth c H locs 0 0 (MQ below (Qw EC LC w σ' (some (.int r))) args s 0 0 (AW LC w)) (F0 m 4 ls []) := by
  obtain ⟨hx, hb, hml, hown, hts⟩ := id S
  intro n
  induction n with
  | zero =>
    intro σ x1 x2 h0
    cases (show none = _ from h0)
  | succ n ih =>
    intro σ x1 x2 h0 H locs hR hS ls hl
    rw [f6_fits_b4] at h0
    refine lv_iload_n hx hb d6_fits_4 rfl (lv_at hl 2 rfl) ?_
    refine lv_iconst (v := 4) hx hb d6_fits_5 (by decide) ?_
    refine lv_icmp_ge (tgt := 33) hx hb d6_fits_6 (by decide) (fun hc1 => ?_) (fun hc1 => ?_)
    · have h0 := og_t hc1 h0
      refine lv_iload_n hx hb d6_fits_33 rfl (lv_at hl 1 rfl) ?_
      exact q_iret S hr hlk hR hS h0 d6_fits_34
    · have h0 := og_f hc1 h0
      refine lv_aload_n hx hb d6_fits_9 rfl (lv_at hl 0 rfl) ?_
      refine lv_aload_n hx hb d6_fits_10 rfl (lv_at hl 0 rfl) ?_
      refine lv_iload_n hx hb d6_fits_11 rfl (lv_at hl 2 rfl) ?_
      obtain ⟨σ2, q202, hr2, h0⟩ := og_o h0
      obtain ⟨hq202, h0⟩ := og_if h0
      refine k6_145 S hK hR hS  hr2 ⟨Nat.zero_le _, Nat.zero_le _⟩ ⟨Nat.le_of_ble_eq_true rfl, Nat.le_of_ble_eq_true rfl⟩ hl.1 (Nat.le_of_ble_eq_true rfl) d6_fits_12 (fun H locs hR hS => ?_)
      obtain ⟨r3, hr3, h0⟩ := og_b h0
      refine k6_218 S hK hR hq202 hr3 ⟨Nat.zero_le _, Nat.zero_le _⟩ ⟨Nat.le_of_ble_eq_true rfl, Nat.le_of_ble_eq_true rfl⟩ hl.1 (Nat.le_of_ble_eq_true rfl) d6_fits_15 ?_
      refine lv_if_eq (tgt := 27) hx hb d6_fits_18 (by decide) (fun hc4 => ?_) (fun hc4 => ?_)
      · have h0 := og_t hc4 h0
        refine lv_iinc (v := x2 + 1) (lv' := [(2, .int (x2 + 1)), (0, .ref (w.2.2 0)), (1, .int x1)]) hx hb d6_fits_27 hl (k := 2) rfl (ii1 _) (by decide) rfl (fun ls hl => ?_)
        refine lv_goto (tgt := 4) hx hb d6_fits_30 (by decide) ?_
        exact ih σ2 x1 (x2 + 1) h0 _ _ hR hS _ (lv_sub hl [1, 2, 0] rfl)
      · have h0 := og_f hc4 h0
        refine lv_iload_n hx hb d6_fits_21 rfl (lv_at hl 1 rfl) ?_
        refine lv_iconst (v := 1) hx hb d6_fits_22 (by decide) ?_
        refine lv_iload_n hx hb d6_fits_23 rfl (lv_at hl 2 rfl) ?_
        refine lv_ishl hx hb d6_fits_24 ?_
        refine lv_ior hx hb d6_fits_25 ?_
        refine lv_istore_n (lv' := [(1, .int (x1 ||| (1 <<< (x2 &&& 31)))), (0, .ref (w.2.2 0)), (2, .int x2)]) hx hb d6_fits_26 rfl hl (by decide) rfl (fun ls hl => ?_)
        refine lv_iinc (v := x2 + 1) (lv' := [(2, .int (x2 + 1)), (1, .int (x1 ||| (1 <<< (x2 &&& 31)))), (0, .ref (w.2.2 0))]) hx hb d6_fits_27 hl (k := 2) rfl (ii1 _) (by decide) rfl (fun ls hl => ?_)
        refine lv_goto (tgt := 4) hx hb d6_fits_30 (by decide) ?_
        exact ih σ2 (x1 ||| (1 <<< (x2 &&& 31))) (x2 + 1) h0 _ _ hR hS _ (lv_sub hl [2, 1, 0] rfl)
def f6_fits (σ : Mem) : Option (Mem × Int32) := f6_fits_b4 1000 σ 0 0
set_option maxHeartbeats 4000000 in
set_option maxRecDepth 100000 in
theorem c6_fits (l : Launch) {w : WV} {σ : Mem} {σ' : Mem} {r : Int32} (h0 : f6_fits σ = some (σ', r)) : Met l yX6_fits (wy yX6_fits cX6_fits 3 (some .int)) rm6_fits (Pw EC LC w [.ref (w.2.2 0)] σ) (Qw EC LC w σ' (some (.int r))) 0 0 (AW LC w) := by
  refine mk_met (by decide) (Nat.le_of_ble_eq_true rfl) ?_
  intro p e s m below meth c S hr hlk hK hR ls hl
  obtain ⟨hx, hb, hml, hown, hts⟩ := id S
  have hl : lv_has ls 3 [(0, .ref (w.2.2 0))] := hl
  have hS : va_S (AW LC w) s.heap s.heap [] := va_S.rf
  unfold f6_fits at h0
  refine lv_iconst (v := 0) hx hb d6_fits_0 (by decide) ?_
  refine lv_istore_n (lv' := [(1, .int 0), (0, .ref (w.2.2 0))]) hx hb d6_fits_1 rfl hl (by decide) rfl (fun ls hl => ?_)
  refine lv_iconst (v := 0) hx hb d6_fits_2 (by decide) ?_
  refine lv_istore_n (lv' := [(2, .int 0), (1, .int 0), (0, .ref (w.2.2 0))]) hx hb d6_fits_3 rfl hl (by decide) rfl (fun ls hl => ?_)
  exact t6_fits_b4 S hr hlk hK 1000 σ 0 0 h0 _ _ hR hS _ (lv_sub hl [2, 1, 0] rfl)
/-! FourTenGates.bridge(II)I -/
abbrev rm6_bridge : Room := { frames := 6, cells := 0, slots := 0, locals := 133 }
theorem d6_bridge_0 : decode cX6_bridge 0 = .ok (.iload_n 1, 1) := by decide +kernel
theorem d6_bridge_1 : decode cX6_bridge 1 = .ok (.invokestatic 139, 3) := by decide +kernel
theorem d6_bridge_4 : decode cX6_bridge 4 = .ok (.ifCond .eq 13, 3) := by decide +kernel
theorem d6_bridge_7 : decode cX6_bridge 7 = .ok (.iload_n 2, 1) := by decide +kernel
theorem d6_bridge_8 : decode cX6_bridge 8 = .ok (.iconst 1, 1) := by decide +kernel
theorem d6_bridge_9 : decode cX6_bridge 9 = .ok (.bipush 99, 2) := by decide +kernel
theorem d6_bridge_11 : decode cX6_bridge 11 = .ok (.invokestatic 102, 3) := by decide +kernel
theorem d6_bridge_14 : decode cX6_bridge 14 = .ok (.ifCond .ne 5, 3) := by decide +kernel
theorem d6_bridge_17 : decode cX6_bridge 17 = .ok (.iconst (-1), 1) := by decide +kernel
theorem d6_bridge_18 : decode cX6_bridge 18 = .ok (.ireturn, 1) := by decide +kernel
theorem d6_bridge_19 : decode cX6_bridge 19 = .ok (.aload_n 0, 1) := by decide +kernel
theorem d6_bridge_20 : decode cX6_bridge 20 = .ok (.iload_n 1, 1) := by decide +kernel
theorem d6_bridge_21 : decode cX6_bridge 21 = .ok (.invokevirtual 145, 3) := by decide +kernel
theorem d6_bridge_24 : decode cX6_bridge 24 = .ok (.invokevirtual 164, 3) := by decide +kernel
theorem d6_bridge_27 : decode cX6_bridge 27 = .ok (.istore_n 3, 1) := by decide +kernel
theorem d6_bridge_28 : decode cX6_bridge 28 = .ok (.iload_n 3, 1) := by decide +kernel
theorem d6_bridge_29 : decode cX6_bridge 29 = .ok (.ifCond .gt 6, 3) := by decide +kernel
theorem d6_bridge_32 : decode cX6_bridge 32 = .ok (.bipush (-4), 2) := by decide +kernel
theorem d6_bridge_34 : decode cX6_bridge 34 = .ok (.ireturn, 1) := by decide +kernel
theorem d6_bridge_35 : decode cX6_bridge 35 = .ok (.bipush 100, 2) := by decide +kernel
theorem d6_bridge_37 : decode cX6_bridge 37 = .ok (.iload_n 2, 1) := by decide +kernel
theorem d6_bridge_38 : decode cX6_bridge 38 = .ok (.imul, 1) := by decide +kernel
theorem d6_bridge_39 : decode cX6_bridge 39 = .ok (.iload_n 3, 1) := by decide +kernel
theorem d6_bridge_40 : decode cX6_bridge 40 = .ok (.iadd, 1) := by decide +kernel
theorem d6_bridge_41 : decode cX6_bridge 41 = .ok (.iconst 1, 1) := by decide +kernel
theorem d6_bridge_42 : decode cX6_bridge 42 = .ok (.isub, 1) := by decide +kernel
theorem d6_bridge_43 : decode cX6_bridge 43 = .ok (.iload_n 3, 1) := by decide +kernel
theorem d6_bridge_44 : decode cX6_bridge 44 = .ok (.idiv, 1) := by decide +kernel
theorem d6_bridge_45 : decode cX6_bridge 45 = .ok (.istore 4, 2) := by decide +kernel
theorem d6_bridge_47 : decode cX6_bridge 47 = .ok (.iload 4, 2) := by decide +kernel
theorem d6_bridge_49 : decode cX6_bridge 49 = .ok (.sipush 999, 3) := by decide +kernel
theorem d6_bridge_52 : decode cX6_bridge 52 = .ok (.if_icmp .gt 8, 3) := by decide +kernel
theorem d6_bridge_55 : decode cX6_bridge 55 = .ok (.iload 4, 2) := by decide +kernel
theorem d6_bridge_57 : decode cX6_bridge 57 = .ok (.goto 5, 3) := by decide +kernel
theorem d6_bridge_60 : decode cX6_bridge 60 = .ok (.bipush (-4), 2) := by decide +kernel
theorem d6_bridge_62 : decode cX6_bridge 62 = .ok (.ireturn, 1) := by decide +kernel
def f6_bridge (σ : Mem) (x1 : Int32) (x2 : Int32) : Option (Mem × Int32) := Option.bind (f6_isRule x1) fun r1 => if r1 = 0 then some (σ, (-1)) else Option.bind (f6_between x2 1 99) fun r3 => if r3 = 0 then some (σ, (-1)) else ob (f6_hourBy σ x1) fun σ5 q205 => if q205 ∈ hourL then Option.bind (f1_total σ5 q205) fun r6 => if 0 < r6 then if ¬ r6 = 0 then if 999 < ((((100 * x2) + r6) - 1) / r6) then some (σ5, (-4)) else some (σ5, (((100 * x2) + r6) - 1) / r6) else none else some (σ5, (-4)) else none
set_option maxHeartbeats 4000000 in
set_option maxRecDepth 100000 in
theorem c6_bridge (l : Launch) {w : WV} {σ : Mem} {x1 : Int32} {x2 : Int32} {σ' : Mem} {r : Int32} (h0 : f6_bridge σ x1 x2 = some (σ', r)) : Met l yX6_bridge (wy yX6_bridge cX6_bridge 5 (some .int)) rm6_bridge (Pw EC LC w [.ref (w.2.2 0), .int x1, .int x2] σ) (Qw EC LC w σ' (some (.int r))) 0 0 (AW LC w) := by
  refine mk_met (by decide) (Nat.le_of_ble_eq_true rfl) ?_
  intro p e s m below meth c S hr hlk hK hR ls hl
  obtain ⟨hx, hb, hml, hown, hts⟩ := id S
  have hl : lv_has ls 5 [(0, .ref (w.2.2 0)), (1, .int x1), (2, .int x2)] := hl
  have hS : va_S (AW LC w) s.heap s.heap [] := va_S.rf
  unfold f6_bridge at h0
  refine lv_iload_n hx hb d6_bridge_0 rfl (lv_at hl 1 rfl) ?_
  obtain ⟨r1, hr1, h0⟩ := og_b h0
  refine k6_139 S  hr1 ⟨Nat.zero_le _, Nat.zero_le _⟩ ⟨Nat.le_of_ble_eq_true rfl, Nat.le_of_ble_eq_true rfl⟩ hl.1 (Nat.le_of_ble_eq_true rfl) d6_bridge_1 ?_
  refine lv_if_eq (tgt := 17) hx hb d6_bridge_4 (by decide) (fun hc2 => ?_) (fun hc2 => ?_)
  · have h0 := og_t hc2 h0
    refine lv_iconst (v := (-1)) hx hb d6_bridge_17 (by decide) ?_
    exact q_iret S hr hlk hR hS h0 d6_bridge_18
  · have h0 := og_f hc2 h0
    refine lv_iload_n hx hb d6_bridge_7 rfl (lv_at hl 2 rfl) ?_
    refine lv_iconst (v := 1) hx hb d6_bridge_8 (by decide) ?_
    refine lv_bipush (v := 99) hx hb d6_bridge_9 (by decide) ?_
    obtain ⟨r3, hr3, h0⟩ := og_b h0
    refine k6_102 S  hr3 ⟨Nat.zero_le _, Nat.zero_le _⟩ ⟨Nat.le_of_ble_eq_true rfl, Nat.le_of_ble_eq_true rfl⟩ hl.1 (Nat.le_of_ble_eq_true rfl) d6_bridge_11 ?_
    refine lv_if_ne (tgt := 19) hx hb d6_bridge_14 (by decide) (fun hc4 => ?_) (fun hc4 => ?_)
    · have h0 := og_f hc4 h0
      refine lv_aload_n hx hb d6_bridge_19 rfl (lv_at hl 0 rfl) ?_
      refine lv_iload_n hx hb d6_bridge_20 rfl (lv_at hl 1 rfl) ?_
      obtain ⟨σ5, q205, hr5, h0⟩ := og_o h0
      obtain ⟨hq205, h0⟩ := og_if h0
      refine k6_145 S hK hR hS  hr5 ⟨Nat.zero_le _, Nat.zero_le _⟩ ⟨Nat.le_of_ble_eq_true rfl, Nat.le_of_ble_eq_true rfl⟩ hl.1 (Nat.le_of_ble_eq_true rfl) d6_bridge_21 (fun H locs hR hS => ?_)
      obtain ⟨r6, hr6, h0⟩ := og_b h0
      refine k6_164 S hK hR hq205 hr6 ⟨Nat.zero_le _, Nat.zero_le _⟩ ⟨Nat.le_of_ble_eq_true rfl, Nat.le_of_ble_eq_true rfl⟩ hl.1 (Nat.le_of_ble_eq_true rfl) d6_bridge_24 ?_
      refine lv_istore_n (lv' := [(3, .int r6), (0, .ref (w.2.2 0)), (1, .int x1), (2, .int x2)]) hx hb d6_bridge_27 rfl hl (by decide) rfl (fun ls hl => ?_)
      refine lv_iload_n hx hb d6_bridge_28 rfl (lv_at hl 0 rfl) ?_
      refine lv_if_gt (tgt := 35) hx hb d6_bridge_29 (by decide) (fun hc7 => ?_) (fun hc7 => ?_)
      · have h0 := og_t hc7 h0
        refine lv_bipush (v := 100) hx hb d6_bridge_35 (by decide) ?_
        refine lv_iload_n hx hb d6_bridge_37 rfl (lv_at hl 3 rfl) ?_
        refine lv_imul hx hb d6_bridge_38 ?_
        refine lv_iload_n hx hb d6_bridge_39 rfl (lv_at hl 0 rfl) ?_
        refine lv_iadd hx hb d6_bridge_40 ?_
        refine lv_iconst (v := 1) hx hb d6_bridge_41 (by decide) ?_
        refine lv_isub hx hb d6_bridge_42 ?_
        refine lv_iload_n hx hb d6_bridge_43 rfl (lv_at hl 0 rfl) ?_
        obtain ⟨hi8, h0⟩ := og_if h0
        refine lv_idiv hx hb d6_bridge_44 hi8 ?_
        refine lv_istore (lv' := [(4, .int ((((100 * x2) + r6) - 1) / r6)), (3, .int r6), (0, .ref (w.2.2 0)), (1, .int x1), (2, .int x2)]) hx hb d6_bridge_45 hl (by decide) rfl (fun ls hl => ?_)
        refine lv_iload hx hb d6_bridge_47 (lv_at hl 0 rfl) ?_
        refine lv_sipush (v := 999) hx hb d6_bridge_49 (by decide) ?_
        refine lv_icmp_gt (tgt := 60) hx hb d6_bridge_52 (by decide) (fun hc9 => ?_) (fun hc9 => ?_)
        · have h0 := og_t hc9 h0
          refine lv_bipush (v := (-4)) hx hb d6_bridge_60 (by decide) ?_
          exact q_iret S hr hlk hR hS h0 d6_bridge_62
        · have h0 := og_f hc9 h0
          refine lv_iload hx hb d6_bridge_55 (lv_at hl 0 rfl) ?_
          refine lv_goto (tgt := 62) hx hb d6_bridge_57 (by decide) ?_
          exact q_iret S hr hlk hR hS h0 d6_bridge_62
      · have h0 := og_f hc7 h0
        refine lv_bipush (v := (-4)) hx hb d6_bridge_32 (by decide) ?_
        exact q_iret S hr hlk hR hS h0 d6_bridge_34
    · have h0 := og_t hc4 h0
      refine lv_iconst (v := (-1)) hx hb d6_bridge_17 (by decide) ?_
      exact q_iret S hr hlk hR hS h0 d6_bridge_18
/-! FourTenGates.mean(III)I -/
abbrev rm6_mean : Room := { frames := 6, cells := 0, slots := 0, locals := 134 }
theorem d6_mean_0 : decode cX6_mean 0 = .ok (.iload_n 1, 1) := by decide +kernel
theorem d6_mean_1 : decode cX6_mean 1 = .ok (.invokestatic 139, 3) := by decide +kernel
theorem d6_mean_4 : decode cX6_mean 4 = .ok (.ifCond .eq 20, 3) := by decide +kernel
theorem d6_mean_7 : decode cX6_mean 7 = .ok (.aload_n 0, 1) := by decide +kernel
theorem d6_mean_8 : decode cX6_mean 8 = .ok (.iload_n 2, 1) := by decide +kernel
theorem d6_mean_9 : decode cX6_mean 9 = .ok (.invokevirtual 117, 3) := by decide +kernel
theorem d6_mean_12 : decode cX6_mean 12 = .ok (.ifCond .eq 12, 3) := by decide +kernel
theorem d6_mean_15 : decode cX6_mean 15 = .ok (.iload_n 3, 1) := by decide +kernel
theorem d6_mean_16 : decode cX6_mean 16 = .ok (.iconst 0, 1) := by decide +kernel
theorem d6_mean_17 : decode cX6_mean 17 = .ok (.iconst 1, 1) := by decide +kernel
theorem d6_mean_18 : decode cX6_mean 18 = .ok (.invokestatic 102, 3) := by decide +kernel
theorem d6_mean_21 : decode cX6_mean 21 = .ok (.ifCond .ne 5, 3) := by decide +kernel
theorem d6_mean_24 : decode cX6_mean 24 = .ok (.iconst (-1), 1) := by decide +kernel
theorem d6_mean_25 : decode cX6_mean 25 = .ok (.ireturn, 1) := by decide +kernel
theorem d6_mean_26 : decode cX6_mean 26 = .ok (.aload_n 0, 1) := by decide +kernel
theorem d6_mean_27 : decode cX6_mean 27 = .ok (.getfield 19, 3) := by decide +kernel
theorem d6_mean_30 : decode cX6_mean 30 = .ok (.getfield 208, 3) := by decide +kernel
theorem d6_mean_33 : decode cX6_mean 33 = .ok (.invokevirtual 116, 3) := by decide +kernel
theorem d6_mean_36 : decode cX6_mean 36 = .ok (.ifCond .ne 6, 3) := by decide +kernel
theorem d6_mean_39 : decode cX6_mean 39 = .ok (.bipush (-4), 2) := by decide +kernel
theorem d6_mean_41 : decode cX6_mean 41 = .ok (.ireturn, 1) := by decide +kernel
theorem d6_mean_42 : decode cX6_mean 42 = .ok (.iconst 0, 1) := by decide +kernel
theorem d6_mean_43 : decode cX6_mean 43 = .ok (.istore 4, 2) := by decide +kernel
theorem d6_mean_45 : decode cX6_mean 45 = .ok (.iconst 0, 1) := by decide +kernel
theorem d6_mean_46 : decode cX6_mean 46 = .ok (.istore 5, 2) := by decide +kernel
theorem d6_mean_48 : decode cX6_mean 48 = .ok (.iload 5, 2) := by decide +kernel
theorem d6_mean_50 : decode cX6_mean 50 = .ok (.aload_n 0, 1) := by decide +kernel
theorem d6_mean_51 : decode cX6_mean 51 = .ok (.getfield 19, 3) := by decide +kernel
theorem d6_mean_54 : decode cX6_mean 54 = .ok (.getfield 208, 3) := by decide +kernel
theorem d6_mean_57 : decode cX6_mean 57 = .ok (.invokevirtual 116, 3) := by decide +kernel
theorem d6_mean_60 : decode cX6_mean 60 = .ok (.if_icmp .ge 54, 3) := by decide +kernel
theorem d6_mean_63 : decode cX6_mean 63 = .ok (.aload_n 0, 1) := by decide +kernel
theorem d6_mean_64 : decode cX6_mean 64 = .ok (.getfield 19, 3) := by decide +kernel
theorem d6_mean_67 : decode cX6_mean 67 = .ok (.getfield 208, 3) := by decide +kernel
theorem d6_mean_70 : decode cX6_mean 70 = .ok (.iload 5, 2) := by decide +kernel
theorem d6_mean_72 : decode cX6_mean 72 = .ok (.invokevirtual 124, 3) := by decide +kernel
theorem d6_mean_75 : decode cX6_mean 75 = .ok (.istore 6, 2) := by decide +kernel
theorem d6_mean_77 : decode cX6_mean 77 = .ok (.iload 6, 2) := by decide +kernel
theorem d6_mean_79 : decode cX6_mean 79 = .ok (.ifCond .le 29, 3) := by decide +kernel
theorem d6_mean_82 : decode cX6_mean 82 = .ok (.iload 4, 2) := by decide +kernel
theorem d6_mean_84 : decode cX6_mean 84 = .ok (.iload 6, 2) := by decide +kernel
theorem d6_mean_86 : decode cX6_mean 86 = .ok (.aload_n 0, 1) := by decide +kernel
theorem d6_mean_87 : decode cX6_mean 87 = .ok (.iload_n 1, 1) := by decide +kernel
theorem d6_mean_88 : decode cX6_mean 88 = .ok (.iload_n 2, 1) := by decide +kernel
theorem d6_mean_89 : decode cX6_mean 89 = .ok (.aload_n 0, 1) := by decide +kernel
theorem d6_mean_90 : decode cX6_mean 90 = .ok (.getfield 19, 3) := by decide +kernel
theorem d6_mean_93 : decode cX6_mean 93 = .ok (.getfield 208, 3) := by decide +kernel
theorem d6_mean_96 : decode cX6_mean 96 = .ok (.iload 5, 2) := by decide +kernel
theorem d6_mean_98 : decode cX6_mean 98 = .ok (.invokevirtual 120, 3) := by decide +kernel
theorem d6_mean_101 : decode cX6_mean 101 = .ok (.invokevirtual 200, 3) := by decide +kernel
theorem d6_mean_104 : decode cX6_mean 104 = .ok (.imul, 1) := by decide +kernel
theorem d6_mean_105 : decode cX6_mean 105 = .ok (.iadd, 1) := by decide +kernel
theorem d6_mean_106 : decode cX6_mean 106 = .ok (.istore 4, 2) := by decide +kernel
theorem d6_mean_108 : decode cX6_mean 108 = .ok (.iinc 5 1, 3) := by decide +kernel
theorem d6_mean_111 : decode cX6_mean 111 = .ok (.goto (-63), 3) := by decide +kernel
theorem d6_mean_114 : decode cX6_mean 114 = .ok (.iload 4, 2) := by decide +kernel
theorem d6_mean_116 : decode cX6_mean 116 = .ok (.bipush 10, 2) := by decide +kernel
theorem d6_mean_118 : decode cX6_mean 118 = .ok (.iload_n 3, 1) := by decide +kernel
theorem d6_mean_119 : decode cX6_mean 119 = .ok (.invokestatic 211, 3) := by decide +kernel
theorem d6_mean_122 : decode cX6_mean 122 = .ok (.ireturn, 1) := by decide +kernel
def f6_mean_b48 : Nat → Mem → Int32 → Int32 → Int32 → Int32 → Int32 → Option (Mem × Int32)
  | 0, _, _, _, _, _, _ => none
  | n + 1, σ, x1, x2, x3, x4, x5 => Option.bind (f2_size σ 13) fun r1 => if r1 ≤ x5 then Option.bind (f6_partOf x4 10 x3) fun r3 => some (σ, r3) else Option.bind (f2_second σ 13 x5) fun r3 => if r3 ≤ 0 then f6_mean_b48 n σ x1 x2 x3 x4 (x5 + 1) else Option.bind (f2_first σ 13 x5) fun r5 => ob (f6_costIfLate σ x1 x2 r5) fun σ6 r6 => f6_mean_b48 n σ6 x1 x2 x3 (x4 + (r3 * r6)) (x5 + 1)
set_option maxHeartbeats 4000000 in
set_option maxRecDepth 100000 in
theorem t6_mean_b48 {p : Program} {l : Launch} {e : Env} {s : State} {m : MethodId} {args : Array Value} {below : List Frame} {meth : Method} {c : Code} {w : WV} {σ' : Mem} {r : Int32} (S : CallFix p m c cX6_mean 7 s args gtbl RX6) (hr : meth.sig.returnType = (some .int)) (hlk : meth.locks = false) (hK : KS LC w s) : ∀ (n : Nat), ∀ (σ : Mem) (x1 : Int32) (x2 : Int32) (x3 : Int32) (x4 : Int32) (x5 : Int32), f6_mean_b48  n σ x1 x2 x3 x4 x5 = some (σ', r) → ∀ (H : Heap) (locs : List Loc), Rp EC LC w σ H → va_S (AW LC w) s.heap H locs → ∀ (ls : Array Slot), lv_has ls 7 [(0, .ref (w.2.2 0)), (1, .int x1), (2, .int x2), (3, .int x3), (4, .int x4), (5, .int x5)] → W p l e rm6_mean s m args below meth c H locs 0 0 (MQ below (Qw EC LC w σ' (some (.int r))) args s 0 0 (AW LC w)) (F0 m 48 ls []) := by
  obtain ⟨hx, hb, hml, hown, hts⟩ := id S
  intro n
  induction n with
  | zero =>
    intro σ x1 x2 x3 x4 x5 h0
    cases (show none = _ from h0)
  | succ n ih =>
    intro σ x1 x2 x3 x4 x5 h0 H locs hR hS ls hl
    rw [f6_mean_b48] at h0
    refine lv_iload hx hb d6_mean_48 (lv_at hl 5 rfl) ?_
    refine lv_aload_n hx hb d6_mean_50 rfl (lv_at hl 0 rfl) ?_
    refine g6_19 S hK hR d6_mean_51 ?_
    refine g6_208 S hK hR (by decide) rfl d6_mean_54 ?_
    obtain ⟨r1, hr1, h0⟩ := og_b h0
    refine k6_116 S hK hR (by decide) hr1 ⟨Nat.zero_le _, Nat.zero_le _⟩ ⟨Nat.le_of_ble_eq_true rfl, Nat.le_of_ble_eq_true rfl⟩ hl.1 (Nat.le_of_ble_eq_true rfl) d6_mean_57 ?_
    refine lv_icmp_ge (tgt := 114) hx hb d6_mean_60 (by decide) (fun hc2 => ?_) (fun hc2 => ?_)
    · have h0 := og_t hc2 h0
      refine lv_iload hx hb d6_mean_114 (lv_at hl 4 rfl) ?_
      refine lv_bipush (v := 10) hx hb d6_mean_116 (by decide) ?_
      refine lv_iload_n hx hb d6_mean_118 rfl (lv_at hl 3 rfl) ?_
      obtain ⟨r3, hr3, h0⟩ := og_b h0
      refine k6_211 S  hr3 ⟨Nat.zero_le _, Nat.zero_le _⟩ ⟨Nat.le_of_ble_eq_true rfl, Nat.le_of_ble_eq_true rfl⟩ hl.1 (Nat.le_of_ble_eq_true rfl) d6_mean_119 ?_
      exact q_iret S hr hlk hR hS h0 d6_mean_122
    · have h0 := og_f hc2 h0
      refine lv_aload_n hx hb d6_mean_63 rfl (lv_at hl 0 rfl) ?_
      refine g6_19 S hK hR d6_mean_64 ?_
      refine g6_208 S hK hR (by decide) rfl d6_mean_67 ?_
      refine lv_iload hx hb d6_mean_70 (lv_at hl 5 rfl) ?_
      obtain ⟨r3, hr3, h0⟩ := og_b h0
      refine k6_124 S hK hR (by decide) hr3 ⟨Nat.zero_le _, Nat.zero_le _⟩ ⟨Nat.le_of_ble_eq_true rfl, Nat.le_of_ble_eq_true rfl⟩ hl.1 (Nat.le_of_ble_eq_true rfl) d6_mean_72 ?_
      refine lv_istore (lv' := [(6, .int r3), (0, .ref (w.2.2 0)), (1, .int x1), (2, .int x2), (3, .int x3), (4, .int x4), (5, .int x5)]) hx hb d6_mean_75 hl (by decide) rfl (fun ls hl => ?_)
      refine lv_iload hx hb d6_mean_77 (lv_at hl 0 rfl) ?_
      refine lv_if_le (tgt := 108) hx hb d6_mean_79 (by decide) (fun hc4 => ?_) (fun hc4 => ?_)
      · have h0 := og_t hc4 h0
        refine lv_iinc (v := x5 + 1) (lv' := [(5, .int (x5 + 1)), (6, .int r3), (0, .ref (w.2.2 0)), (1, .int x1), (2, .int x2), (3, .int x3), (4, .int x4)]) hx hb d6_mean_108 hl (k := 6) rfl (ii1 _) (by decide) rfl (fun ls hl => ?_)
        refine lv_goto (tgt := 48) hx hb d6_mean_111 (by decide) ?_
        exact ih σ x1 x2 x3 x4 (x5 + 1) h0 _ _ hR hS _ (lv_sub hl [2, 3, 4, 5, 6, 0] rfl)
      · have h0 := og_f hc4 h0
        refine lv_iload hx hb d6_mean_82 (lv_at hl 5 rfl) ?_
        refine lv_iload hx hb d6_mean_84 (lv_at hl 0 rfl) ?_
        refine lv_aload_n hx hb d6_mean_86 rfl (lv_at hl 1 rfl) ?_
        refine lv_iload_n hx hb d6_mean_87 rfl (lv_at hl 2 rfl) ?_
        refine lv_iload_n hx hb d6_mean_88 rfl (lv_at hl 3 rfl) ?_
        refine lv_aload_n hx hb d6_mean_89 rfl (lv_at hl 1 rfl) ?_
        refine g6_19 S hK hR d6_mean_90 ?_
        refine g6_208 S hK hR (by decide) rfl d6_mean_93 ?_
        refine lv_iload hx hb d6_mean_96 (lv_at hl 6 rfl) ?_
        obtain ⟨r5, hr5, h0⟩ := og_b h0
        refine k6_120 S hK hR (by decide) hr5 ⟨Nat.zero_le _, Nat.zero_le _⟩ ⟨Nat.le_of_ble_eq_true rfl, Nat.le_of_ble_eq_true rfl⟩ hl.1 (Nat.le_of_ble_eq_true rfl) d6_mean_98 ?_
        obtain ⟨σ6, r6, hr6, h0⟩ := og_o h0
        refine k6_200 S hK hR hS  hr6 ⟨Nat.zero_le _, Nat.zero_le _⟩ ⟨Nat.le_of_ble_eq_true rfl, Nat.le_of_ble_eq_true rfl⟩ hl.1 (Nat.le_of_ble_eq_true rfl) d6_mean_101 (fun H locs hR hS => ?_)
        refine lv_imul hx hb d6_mean_104 ?_
        refine lv_iadd hx hb d6_mean_105 ?_
        refine lv_istore (lv' := [(4, .int (x4 + (r3 * r6))), (6, .int r3), (0, .ref (w.2.2 0)), (1, .int x1), (2, .int x2), (3, .int x3), (5, .int x5)]) hx hb d6_mean_106 hl (by decide) rfl (fun ls hl => ?_)
        refine lv_iinc (v := x5 + 1) (lv' := [(5, .int (x5 + 1)), (4, .int (x4 + (r3 * r6))), (6, .int r3), (0, .ref (w.2.2 0)), (1, .int x1), (2, .int x2), (3, .int x3)]) hx hb d6_mean_108 hl (k := 6) rfl (ii1 _) (by decide) rfl (fun ls hl => ?_)
        refine lv_goto (tgt := 48) hx hb d6_mean_111 (by decide) ?_
        exact ih σ6 x1 x2 x3 (x4 + (r3 * r6)) (x5 + 1) h0 _ _ hR hS _ (lv_sub hl [3, 4, 5, 6, 1, 0] rfl)
def f6_mean (σ : Mem) (x1 : Int32) (x2 : Int32) (x3 : Int32) : Option (Mem × Int32) := Option.bind (f6_isRule x1) fun r1 => if r1 = 0 then some (σ, (-1)) else Option.bind (f6_isTrain σ x2) fun r3 => if r3 = 0 then some (σ, (-1)) else Option.bind (f6_between x3 0 1) fun r5 => if r5 = 0 then some (σ, (-1)) else Option.bind (f2_size σ 13) fun r7 => if r7 = 0 then some (σ, (-4)) else f6_mean_b48 1000 σ x1 x2 x3 0 0
set_option maxHeartbeats 4000000 in
set_option maxRecDepth 100000 in
theorem c6_mean (l : Launch) {w : WV} {σ : Mem} {x1 : Int32} {x2 : Int32} {x3 : Int32} {σ' : Mem} {r : Int32} (h0 : f6_mean σ x1 x2 x3 = some (σ', r)) : Met l yX6_mean (wy yX6_mean cX6_mean 7 (some .int)) rm6_mean (Pw EC LC w [.ref (w.2.2 0), .int x1, .int x2, .int x3] σ) (Qw EC LC w σ' (some (.int r))) 0 0 (AW LC w) := by
  refine mk_met (by decide) (Nat.le_of_ble_eq_true rfl) ?_
  intro p e s m below meth c S hr hlk hK hR ls hl
  obtain ⟨hx, hb, hml, hown, hts⟩ := id S
  have hl : lv_has ls 7 [(0, .ref (w.2.2 0)), (1, .int x1), (2, .int x2), (3, .int x3)] := hl
  have hS : va_S (AW LC w) s.heap s.heap [] := va_S.rf
  unfold f6_mean at h0
  refine lv_iload_n hx hb d6_mean_0 rfl (lv_at hl 1 rfl) ?_
  obtain ⟨r1, hr1, h0⟩ := og_b h0
  refine k6_139 S  hr1 ⟨Nat.zero_le _, Nat.zero_le _⟩ ⟨Nat.le_of_ble_eq_true rfl, Nat.le_of_ble_eq_true rfl⟩ hl.1 (Nat.le_of_ble_eq_true rfl) d6_mean_1 ?_
  refine lv_if_eq (tgt := 24) hx hb d6_mean_4 (by decide) (fun hc2 => ?_) (fun hc2 => ?_)
  · have h0 := og_t hc2 h0
    refine lv_iconst (v := (-1)) hx hb d6_mean_24 (by decide) ?_
    exact q_iret S hr hlk hR hS h0 d6_mean_25
  · have h0 := og_f hc2 h0
    refine lv_aload_n hx hb d6_mean_7 rfl (lv_at hl 0 rfl) ?_
    refine lv_iload_n hx hb d6_mean_8 rfl (lv_at hl 2 rfl) ?_
    obtain ⟨r3, hr3, h0⟩ := og_b h0
    refine k6_117 S hK hR  hr3 ⟨Nat.zero_le _, Nat.zero_le _⟩ ⟨Nat.le_of_ble_eq_true rfl, Nat.le_of_ble_eq_true rfl⟩ hl.1 (Nat.le_of_ble_eq_true rfl) d6_mean_9 ?_
    refine lv_if_eq (tgt := 24) hx hb d6_mean_12 (by decide) (fun hc4 => ?_) (fun hc4 => ?_)
    · have h0 := og_t hc4 h0
      refine lv_iconst (v := (-1)) hx hb d6_mean_24 (by decide) ?_
      exact q_iret S hr hlk hR hS h0 d6_mean_25
    · have h0 := og_f hc4 h0
      refine lv_iload_n hx hb d6_mean_15 rfl (lv_at hl 3 rfl) ?_
      refine lv_iconst (v := 0) hx hb d6_mean_16 (by decide) ?_
      refine lv_iconst (v := 1) hx hb d6_mean_17 (by decide) ?_
      obtain ⟨r5, hr5, h0⟩ := og_b h0
      refine k6_102 S  hr5 ⟨Nat.zero_le _, Nat.zero_le _⟩ ⟨Nat.le_of_ble_eq_true rfl, Nat.le_of_ble_eq_true rfl⟩ hl.1 (Nat.le_of_ble_eq_true rfl) d6_mean_18 ?_
      refine lv_if_ne (tgt := 26) hx hb d6_mean_21 (by decide) (fun hc6 => ?_) (fun hc6 => ?_)
      · have h0 := og_f hc6 h0
        refine lv_aload_n hx hb d6_mean_26 rfl (lv_at hl 0 rfl) ?_
        refine g6_19 S hK hR d6_mean_27 ?_
        refine g6_208 S hK hR (by decide) rfl d6_mean_30 ?_
        obtain ⟨r7, hr7, h0⟩ := og_b h0
        refine k6_116 S hK hR (by decide) hr7 ⟨Nat.zero_le _, Nat.zero_le _⟩ ⟨Nat.le_of_ble_eq_true rfl, Nat.le_of_ble_eq_true rfl⟩ hl.1 (Nat.le_of_ble_eq_true rfl) d6_mean_33 ?_
        refine lv_if_ne (tgt := 42) hx hb d6_mean_36 (by decide) (fun hc8 => ?_) (fun hc8 => ?_)
        · have h0 := og_f hc8 h0
          refine lv_iconst (v := 0) hx hb d6_mean_42 (by decide) ?_
          refine lv_istore (lv' := [(4, .int 0), (0, .ref (w.2.2 0)), (1, .int x1), (2, .int x2), (3, .int x3)]) hx hb d6_mean_43 hl (by decide) rfl (fun ls hl => ?_)
          refine lv_iconst (v := 0) hx hb d6_mean_45 (by decide) ?_
          refine lv_istore (lv' := [(5, .int 0), (4, .int 0), (0, .ref (w.2.2 0)), (1, .int x1), (2, .int x2), (3, .int x3)]) hx hb d6_mean_46 hl (by decide) rfl (fun ls hl => ?_)
          exact t6_mean_b48 S hr hlk hK 1000 σ x1 x2 x3 0 0 h0 _ _ hR hS _ (lv_sub hl [2, 3, 4, 5, 1, 0] rfl)
        · have h0 := og_t hc8 h0
          refine lv_bipush (v := (-4)) hx hb d6_mean_39 (by decide) ?_
          exact q_iret S hr hlk hR hS h0 d6_mean_41
      · have h0 := og_t hc6 h0
        refine lv_iconst (v := (-1)) hx hb d6_mean_24 (by decide) ?_
        exact q_iret S hr hlk hR hS h0 d6_mean_25
/-! FourTenGates.drawnLateness(II)I -/
abbrev rm6_drawnLateness : Room := { frames := 0, cells := 0, slots := 0, locals := 0 }
theorem d6_drawnLateness_0 : decode cX6_drawnLateness 0 = .ok (.ldc2_w 269, 3) := by decide +kernel
theorem d6_drawnLateness_3 : decode cX6_drawnLateness 3 = .ok (.iload_n 0, 1) := by decide +kernel
theorem d6_drawnLateness_4 : decode cX6_drawnLateness 4 = .ok (.i2l, 1) := by decide +kernel
theorem d6_drawnLateness_5 : decode cX6_drawnLateness 5 = .ok (.lmul, 1) := by decide +kernel
theorem d6_drawnLateness_6 : decode cX6_drawnLateness 6 = .ok (.ldc2_w 271, 3) := by decide +kernel
theorem d6_drawnLateness_9 : decode cX6_drawnLateness 9 = .ok (.iload_n 1, 1) := by decide +kernel
theorem d6_drawnLateness_10 : decode cX6_drawnLateness 10 = .ok (.i2l, 1) := by decide +kernel
theorem d6_drawnLateness_11 : decode cX6_drawnLateness 11 = .ok (.lmul, 1) := by decide +kernel
theorem d6_drawnLateness_12 : decode cX6_drawnLateness 12 = .ok (.ladd, 1) := by decide +kernel
theorem d6_drawnLateness_13 : decode cX6_drawnLateness 13 = .ok (.lconst 1, 1) := by decide +kernel
theorem d6_drawnLateness_14 : decode cX6_drawnLateness 14 = .ok (.ladd, 1) := by decide +kernel
theorem d6_drawnLateness_15 : decode cX6_drawnLateness 15 = .ok (.lstore_n 2, 1) := by decide +kernel
theorem d6_drawnLateness_16 : decode cX6_drawnLateness 16 = .ok (.lload_n 2, 1) := by decide +kernel
theorem d6_drawnLateness_17 : decode cX6_drawnLateness 17 = .ok (.lload_n 2, 1) := by decide +kernel
theorem d6_drawnLateness_18 : decode cX6_drawnLateness 18 = .ok (.lmul, 1) := by decide +kernel
theorem d6_drawnLateness_19 : decode cX6_drawnLateness 19 = .ok (.ldc2_w 273, 3) := by decide +kernel
theorem d6_drawnLateness_22 : decode cX6_drawnLateness 22 = .ok (.lrem, 1) := by decide +kernel
theorem d6_drawnLateness_23 : decode cX6_drawnLateness 23 = .ok (.ldc2_w 275, 3) := by decide +kernel
theorem d6_drawnLateness_26 : decode cX6_drawnLateness 26 = .ok (.lrem, 1) := by decide +kernel
theorem d6_drawnLateness_27 : decode cX6_drawnLateness 27 = .ok (.l2i, 1) := by decide +kernel
theorem d6_drawnLateness_28 : decode cX6_drawnLateness 28 = .ok (.ireturn, 1) := by decide +kernel
def f6_drawnLateness (x0 : Int32) (x1 : Int32) : Option Int32 := some ((((((((7919 : Int64) * x0.toInt64) + ((6151 : Int64) * x1.toInt64)) + (1 : Int64)) * ((((7919 : Int64) * x0.toInt64) + ((6151 : Int64) * x1.toInt64)) + (1 : Int64))) - (((((7919 : Int64) * x0.toInt64) + ((6151 : Int64) * x1.toInt64)) + (1 : Int64)) * ((((7919 : Int64) * x0.toInt64) + ((6151 : Int64) * x1.toInt64)) + (1 : Int64))) / (65521 : Int64) * (65521 : Int64)) - ((((((7919 : Int64) * x0.toInt64) + ((6151 : Int64) * x1.toInt64)) + (1 : Int64)) * ((((7919 : Int64) * x0.toInt64) + ((6151 : Int64) * x1.toInt64)) + (1 : Int64))) - (((((7919 : Int64) * x0.toInt64) + ((6151 : Int64) * x1.toInt64)) + (1 : Int64)) * ((((7919 : Int64) * x0.toInt64) + ((6151 : Int64) * x1.toInt64)) + (1 : Int64))) / (65521 : Int64) * (65521 : Int64)) / (6 : Int64) * (6 : Int64)).toInt32)
set_option maxHeartbeats 4000000 in
set_option maxRecDepth 100000 in
theorem c6_drawnLateness (l : Launch) {x0 : Int32} {x1 : Int32} {r : Int32} (h0 : f6_drawnLateness x0 x1 = some r) : Met l yX6_drawnLateness (wy yX6_drawnLateness cX6_drawnLateness 4 (some .int)) rm6_drawnLateness (Ps [.int x0, .int x1]) (Qp (.int r)) 0 0 (fun _ => False) := by
  refine mk_mets (by decide) (Nat.le_of_ble_eq_true rfl) ?_
  intro p e s m below meth c S hr hlk ls hl
  obtain ⟨hx, hb, hml, hown, hts⟩ := id S
  have hl : lv_has ls 4 [(0, .int x0), (1, .int x1)] := hl
  unfold f6_drawnLateness at h0
  refine lv_ldc2 (v := 7919) hx hb hown (hts _ (gt_at 863 (by decide +kernel) (by decide +kernel))) d6_drawnLateness_0 ?_
  refine lv_iload_n hx hb d6_drawnLateness_3 rfl (lv_at hl 0 rfl) ?_
  refine lv_i2l hx hb d6_drawnLateness_4 rfl ?_
  refine lv_lmul hx hb d6_drawnLateness_5 ?_
  refine lv_ldc2 (v := 6151) hx hb hown (hts _ (gt_at 864 (by decide +kernel) (by decide +kernel))) d6_drawnLateness_6 ?_
  refine lv_iload_n hx hb d6_drawnLateness_9 rfl (lv_at hl 1 rfl) ?_
  refine lv_i2l hx hb d6_drawnLateness_10 rfl ?_
  refine lv_lmul hx hb d6_drawnLateness_11 ?_
  refine lv_ladd hx hb d6_drawnLateness_12 ?_
  refine lv_lconst (v := 1) hx hb d6_drawnLateness_13 (by decide) ?_
  refine lv_ladd hx hb d6_drawnLateness_14 ?_
  refine lv_lstore_n (lv' := [(2, .long ((((7919 : Int64) * x0.toInt64) + ((6151 : Int64) * x1.toInt64)) + (1 : Int64))), (0, .int x0), (1, .int x1)]) hx hb d6_drawnLateness_15 rfl hl (by decide) rfl (fun ls hl => ?_)
  refine lv_lload_n hx hb d6_drawnLateness_16 rfl (lv_at hl 0 rfl) ?_
  refine lv_lload_n hx hb d6_drawnLateness_17 rfl (lv_at hl 0 rfl) ?_
  refine lv_lmul hx hb d6_drawnLateness_18 ?_
  refine lv_ldc2 (v := 65521) hx hb hown (hts _ (gt_at 865 (by decide +kernel) (by decide +kernel))) d6_drawnLateness_19 ?_
  refine lv_lrem hx hb d6_drawnLateness_22 (by decide) ?_
  refine lv_ldc2 (v := 6) hx hb hown (hts _ (gt_at 866 (by decide +kernel) (by decide +kernel))) d6_drawnLateness_23 ?_
  refine lv_lrem hx hb d6_drawnLateness_26 (by decide) ?_
  refine lv_l2i hx hb d6_drawnLateness_27 rfl ?_
  exact q_ipure S hr hlk h0 d6_drawnLateness_28
set_option maxHeartbeats 4000000 in
set_option maxRecDepth 100000 in
theorem k6_226 {p : Program} {l : Launch} {e : Env} {R : Room} {s : State} {m : MethodId} {args : Array Value} {below : List Frame} {meth : Method} {c : Code} {H : Heap} {locs : List Loc} {cells slots : Nat} {Q : State → Prop} {cc : ByteArray} {pc nL : Nat} {ls : Array Slot} {rest : List Value} {x0 : Int32} {x1 : Int32} {r : Int32} (S : CallFix p m c cc nL s args gtbl RX6) (h0 : f6_drawnLateness x0 x1 = some r) (hf : cells + 0 ≤ R.cells ∧ slots + 0 ≤ R.slots) (hRm : rm6_drawnLateness.frames + 1 ≤ R.frames ∧ 8 + (4 + 11) + rm6_drawnLateness.locals ≤ R.locals) (hl : ls.size = nL) (hW : (rest.map fun v => v.category).sum ≤ 8) (hdg : decode cc pc = .ok (.invokestatic 226, 3)) (kk : W p l e R s m args below meth c H locs cells slots Q (F0 m (pc + 3) ls (.int r :: rest))) : W p l e R s m args below meth c H locs cells slots Q (F0 m pc ls (.int x1 :: .int x0 :: rest)) := r_endp (run_S (n := 2) (As := [.int x0, .int x1]) S (gw_S (gt_at 860 (by decide +kernel) (by decide +kernel)) (gt_at 861 (by decide +kernel) (by decide +kernel)) (gt_at 74 (by decide +kernel) (by decide +kernel)) (gt_at 862 (by decide +kernel) (by decide +kernel))) (by decide +kernel) rfl (c6_drawnLateness l h0) ⟨rfl, rfl⟩ hRm hf hl rfl hW hdg) kk
/-! FourTenGates.day(III)I -/
abbrev rm6_day : Room := { frames := 5, cells := 0, slots := 0, locals := 111 }
theorem d6_day_0 : decode cX6_day 0 = .ok (.iload_n 1, 1) := by decide +kernel
theorem d6_day_1 : decode cX6_day 1 = .ok (.invokestatic 139, 3) := by decide +kernel
theorem d6_day_4 : decode cX6_day 4 = .ok (.ifCond .eq 23, 3) := by decide +kernel
theorem d6_day_7 : decode cX6_day 7 = .ok (.iload_n 2, 1) := by decide +kernel
theorem d6_day_8 : decode cX6_day 8 = .ok (.iconst 0, 1) := by decide +kernel
theorem d6_day_9 : decode cX6_day 9 = .ok (.sipush 9999, 3) := by decide +kernel
theorem d6_day_12 : decode cX6_day 12 = .ok (.invokestatic 102, 3) := by decide +kernel
theorem d6_day_15 : decode cX6_day 15 = .ok (.ifCond .eq 12, 3) := by decide +kernel
theorem d6_day_18 : decode cX6_day 18 = .ok (.iload_n 3, 1) := by decide +kernel
theorem d6_day_19 : decode cX6_day 19 = .ok (.iconst 0, 1) := by decide +kernel
theorem d6_day_20 : decode cX6_day 20 = .ok (.iconst 1, 1) := by decide +kernel
theorem d6_day_21 : decode cX6_day 21 = .ok (.invokestatic 102, 3) := by decide +kernel
theorem d6_day_24 : decode cX6_day 24 = .ok (.ifCond .ne 5, 3) := by decide +kernel
theorem d6_day_27 : decode cX6_day 27 = .ok (.iconst (-1), 1) := by decide +kernel
theorem d6_day_28 : decode cX6_day 28 = .ok (.ireturn, 1) := by decide +kernel
theorem d6_day_29 : decode cX6_day 29 = .ok (.aload_n 0, 1) := by decide +kernel
theorem d6_day_30 : decode cX6_day 30 = .ok (.getfield 33, 3) := by decide +kernel
theorem d6_day_33 : decode cX6_day 33 = .ok (.aload_n 0, 1) := by decide +kernel
theorem d6_day_34 : decode cX6_day 34 = .ok (.getfield 29, 3) := by decide +kernel
theorem d6_day_37 : decode cX6_day 37 = .ok (.invokevirtual 222, 3) := by decide +kernel
theorem d6_day_40 : decode cX6_day 40 = .ok (.iconst 0, 1) := by decide +kernel
theorem d6_day_41 : decode cX6_day 41 = .ok (.istore 4, 2) := by decide +kernel
theorem d6_day_43 : decode cX6_day 43 = .ok (.iload 4, 2) := by decide +kernel
theorem d6_day_45 : decode cX6_day 45 = .ok (.aload_n 0, 1) := by decide +kernel
theorem d6_day_46 : decode cX6_day 46 = .ok (.getfield 19, 3) := by decide +kernel
theorem d6_day_49 : decode cX6_day 49 = .ok (.getfield 113, 3) := by decide +kernel
theorem d6_day_52 : decode cX6_day 52 = .ok (.invokevirtual 116, 3) := by decide +kernel
theorem d6_day_55 : decode cX6_day 55 = .ok (.if_icmp .ge 24, 3) := by decide +kernel
theorem d6_day_58 : decode cX6_day 58 = .ok (.aload_n 0, 1) := by decide +kernel
theorem d6_day_59 : decode cX6_day 59 = .ok (.getfield 33, 3) := by decide +kernel
theorem d6_day_62 : decode cX6_day 62 = .ok (.iload 4, 2) := by decide +kernel
theorem d6_day_64 : decode cX6_day 64 = .ok (.iload_n 2, 1) := by decide +kernel
theorem d6_day_65 : decode cX6_day 65 = .ok (.iload 4, 2) := by decide +kernel
theorem d6_day_67 : decode cX6_day 67 = .ok (.invokestatic 226, 3) := by decide +kernel
theorem d6_day_70 : decode cX6_day 70 = .ok (.invokevirtual 170, 3) := by decide +kernel
theorem d6_day_73 : decode cX6_day 73 = .ok (.iinc 4 1, 3) := by decide +kernel
theorem d6_day_76 : decode cX6_day 76 = .ok (.goto (-33), 3) := by decide +kernel
theorem d6_day_79 : decode cX6_day 79 = .ok (.aload_n 0, 1) := by decide +kernel
theorem d6_day_80 : decode cX6_day 80 = .ok (.getfield 45, 3) := by decide +kernel
theorem d6_day_83 : decode cX6_day 83 = .ok (.iload_n 1, 1) := by decide +kernel
theorem d6_day_84 : decode cX6_day 84 = .ok (.iconst 0, 1) := by decide +kernel
theorem d6_day_85 : decode cX6_day 85 = .ok (.ldc 230, 2) := by decide +kernel
theorem d6_day_87 : decode cX6_day 87 = .ok (.invokevirtual 231, 3) := by decide +kernel
theorem d6_day_90 : decode cX6_day 90 = .ok (.iload_n 3, 1) := by decide +kernel
theorem d6_day_91 : decode cX6_day 91 = .ok (.ifCond .ne 13, 3) := by decide +kernel
theorem d6_day_94 : decode cX6_day 94 = .ok (.aload_n 0, 1) := by decide +kernel
theorem d6_day_95 : decode cX6_day 95 = .ok (.getfield 45, 3) := by decide +kernel
theorem d6_day_98 : decode cX6_day 98 = .ok (.invokevirtual 164, 3) := by decide +kernel
theorem d6_day_101 : decode cX6_day 101 = .ok (.goto 10, 3) := by decide +kernel
theorem d6_day_104 : decode cX6_day 104 = .ok (.aload_n 0, 1) := by decide +kernel
theorem d6_day_105 : decode cX6_day 105 = .ok (.getfield 45, 3) := by decide +kernel
theorem d6_day_108 : decode cX6_day 108 = .ok (.invokevirtual 235, 3) := by decide +kernel
theorem d6_day_111 : decode cX6_day 111 = .ok (.ireturn, 1) := by decide +kernel
def f6_day_b43 : Nat → Mem → Int32 → Int32 → Int32 → Int32 → Option (Mem × Int32)
  | 0, _, _, _, _, _ => none
  | n + 1, σ, x1, x2, x3, x4 => Option.bind (f2_size σ 4) fun r1 => if r1 ≤ x4 then Option.bind (f1_run σ 74 x1 0 1000000) fun σ3 => if x3 = 0 then Option.bind (f1_total σ3 74) fun r5 => some (σ3, r5) else Option.bind (f1_allStops σ3 74) fun r5 => some (σ3, r5) else Option.bind (f6_drawnLateness x2 x4) fun r3 => Option.bind (f4_makeLate σ 36 x4 r3) fun σ4 => f6_day_b43 n σ4 x1 x2 x3 (x4 + 1)
set_option maxHeartbeats 4000000 in
set_option maxRecDepth 100000 in
theorem t6_day_b43 {p : Program} {l : Launch} {e : Env} {s : State} {m : MethodId} {args : Array Value} {below : List Frame} {meth : Method} {c : Code} {w : WV} {σ' : Mem} {r : Int32} (S : CallFix p m c cX6_day 5 s args gtbl RX6) (hr : meth.sig.returnType = (some .int)) (hlk : meth.locks = false) (hK : KS LC w s) : ∀ (n : Nat), ∀ (σ : Mem) (x1 : Int32) (x2 : Int32) (x3 : Int32) (x4 : Int32), f6_day_b43  n σ x1 x2 x3 x4 = some (σ', r) → ∀ (H : Heap) (locs : List Loc), Rp EC LC w σ H → va_S (AW LC w) s.heap H locs → ∀ (ls : Array Slot), lv_has ls 5 [(0, .ref (w.2.2 0)), (1, .int x1), (2, .int x2), (3, .int x3), (4, .int x4)] → W p l e rm6_day s m args below meth c H locs 0 0 (MQ below (Qw EC LC w σ' (some (.int r))) args s 0 0 (AW LC w)) (F0 m 43 ls []) := by
  obtain ⟨hx, hb, hml, hown, hts⟩ := id S
  intro n
  induction n with
  | zero =>
    intro σ x1 x2 x3 x4 h0
    cases (show none = _ from h0)
  | succ n ih =>
    intro σ x1 x2 x3 x4 h0 H locs hR hS ls hl
    rw [f6_day_b43] at h0
    refine lv_iload hx hb d6_day_43 (lv_at hl 4 rfl) ?_
    refine lv_aload_n hx hb d6_day_45 rfl (lv_at hl 0 rfl) ?_
    refine g6_19 S hK hR d6_day_46 ?_
    refine g6_113 S hK hR (by decide) rfl d6_day_49 ?_
    obtain ⟨r1, hr1, h0⟩ := og_b h0
    refine k6_116 S hK hR (by decide) hr1 ⟨Nat.zero_le _, Nat.zero_le _⟩ ⟨Nat.le_of_ble_eq_true rfl, Nat.le_of_ble_eq_true rfl⟩ hl.1 (Nat.le_of_ble_eq_true rfl) d6_day_52 ?_
    refine lv_icmp_ge (tgt := 79) hx hb d6_day_55 (by decide) (fun hc2 => ?_) (fun hc2 => ?_)
    · have h0 := og_t hc2 h0
      refine lv_aload_n hx hb d6_day_79 rfl (lv_at hl 0 rfl) ?_
      refine g6_45 S hK hR d6_day_80 ?_
      refine lv_iload_n hx hb d6_day_83 rfl (lv_at hl 1 rfl) ?_
      refine lv_iconst (v := 0) hx hb d6_day_84 (by decide) ?_
      refine lv_ldc (v := 1000000) hx hb hown (hts _ (gt_at 564 (by decide +kernel) (by decide +kernel))) d6_day_85 ?_
      obtain ⟨σ3, hr3, h0⟩ := og_b h0
      refine k6_231 S hK hR hS (by decide) hr3 ⟨Nat.zero_le _, Nat.zero_le _⟩ ⟨Nat.le_of_ble_eq_true rfl, Nat.le_of_ble_eq_true rfl⟩ hl.1 (Nat.le_of_ble_eq_true rfl) d6_day_87 (fun H locs hR hS => ?_)
      refine lv_iload_n hx hb d6_day_90 rfl (lv_at hl 3 rfl) ?_
      refine lv_if_ne (tgt := 104) hx hb d6_day_91 (by decide) (fun hc4 => ?_) (fun hc4 => ?_)
      · have h0 := og_f hc4 h0
        refine lv_aload_n hx hb d6_day_104 rfl (lv_at hl 0 rfl) ?_
        refine g6_45 S hK hR d6_day_105 ?_
        obtain ⟨r5, hr5, h0⟩ := og_b h0
        refine k6_235 S hK hR (by decide) hr5 ⟨Nat.zero_le _, Nat.zero_le _⟩ ⟨Nat.le_of_ble_eq_true rfl, Nat.le_of_ble_eq_true rfl⟩ hl.1 (Nat.le_of_ble_eq_true rfl) d6_day_108 ?_
        exact q_iret S hr hlk hR hS h0 d6_day_111
      · have h0 := og_t hc4 h0
        refine lv_aload_n hx hb d6_day_94 rfl (lv_at hl 0 rfl) ?_
        refine g6_45 S hK hR d6_day_95 ?_
        obtain ⟨r5, hr5, h0⟩ := og_b h0
        refine k6_164 S hK hR (by decide) hr5 ⟨Nat.zero_le _, Nat.zero_le _⟩ ⟨Nat.le_of_ble_eq_true rfl, Nat.le_of_ble_eq_true rfl⟩ hl.1 (Nat.le_of_ble_eq_true rfl) d6_day_98 ?_
        refine lv_goto (tgt := 111) hx hb d6_day_101 (by decide) ?_
        exact q_iret S hr hlk hR hS h0 d6_day_111
    · have h0 := og_f hc2 h0
      refine lv_aload_n hx hb d6_day_58 rfl (lv_at hl 0 rfl) ?_
      refine g6_33 S hK hR d6_day_59 ?_
      refine lv_iload hx hb d6_day_62 (lv_at hl 4 rfl) ?_
      refine lv_iload_n hx hb d6_day_64 rfl (lv_at hl 2 rfl) ?_
      refine lv_iload hx hb d6_day_65 (lv_at hl 4 rfl) ?_
      obtain ⟨r3, hr3, h0⟩ := og_b h0
      refine k6_226 S  hr3 ⟨Nat.zero_le _, Nat.zero_le _⟩ ⟨Nat.le_of_ble_eq_true rfl, Nat.le_of_ble_eq_true rfl⟩ hl.1 (Nat.le_of_ble_eq_true rfl) d6_day_67 ?_
      obtain ⟨σ4, hr4, h0⟩ := og_b h0
      refine k6_170 S hK hR hS (by decide) hr4 ⟨Nat.zero_le _, Nat.zero_le _⟩ ⟨Nat.le_of_ble_eq_true rfl, Nat.le_of_ble_eq_true rfl⟩ hl.1 (Nat.le_of_ble_eq_true rfl) d6_day_70 (fun H locs hR hS => ?_)
      refine lv_iinc (v := x4 + 1) (lv' := [(4, .int (x4 + 1)), (0, .ref (w.2.2 0)), (1, .int x1), (2, .int x2), (3, .int x3)]) hx hb d6_day_73 hl (k := 4) rfl (ii1 _) (by decide) rfl (fun ls hl => ?_)
      refine lv_goto (tgt := 43) hx hb d6_day_76 (by decide) ?_
      exact ih σ4 x1 x2 x3 (x4 + 1) h0 _ _ hR hS _ (lv_sub hl [1, 2, 3, 4, 0] rfl)
def f6_day (σ : Mem) (x1 : Int32) (x2 : Int32) (x3 : Int32) : Option (Mem × Int32) := Option.bind (f6_isRule x1) fun r1 => if r1 = 0 then some (σ, (-1)) else Option.bind (f6_between x2 0 9999) fun r3 => if r3 = 0 then some (σ, (-1)) else Option.bind (f6_between x3 0 1) fun r5 => if r5 = 0 then some (σ, (-1)) else Option.bind (f4_copy σ 36 31) fun σ7 => f6_day_b43 1000 σ7 x1 x2 x3 0
set_option maxHeartbeats 4000000 in
set_option maxRecDepth 100000 in
theorem c6_day (l : Launch) {w : WV} {σ : Mem} {x1 : Int32} {x2 : Int32} {x3 : Int32} {σ' : Mem} {r : Int32} (h0 : f6_day σ x1 x2 x3 = some (σ', r)) : Met l yX6_day (wy yX6_day cX6_day 5 (some .int)) rm6_day (Pw EC LC w [.ref (w.2.2 0), .int x1, .int x2, .int x3] σ) (Qw EC LC w σ' (some (.int r))) 0 0 (AW LC w) := by
  refine mk_met (by decide) (Nat.le_of_ble_eq_true rfl) ?_
  intro p e s m below meth c S hr hlk hK hR ls hl
  obtain ⟨hx, hb, hml, hown, hts⟩ := id S
  have hl : lv_has ls 5 [(0, .ref (w.2.2 0)), (1, .int x1), (2, .int x2), (3, .int x3)] := hl
  have hS : va_S (AW LC w) s.heap s.heap [] := va_S.rf
  unfold f6_day at h0
  refine lv_iload_n hx hb d6_day_0 rfl (lv_at hl 1 rfl) ?_
  obtain ⟨r1, hr1, h0⟩ := og_b h0
  refine k6_139 S  hr1 ⟨Nat.zero_le _, Nat.zero_le _⟩ ⟨Nat.le_of_ble_eq_true rfl, Nat.le_of_ble_eq_true rfl⟩ hl.1 (Nat.le_of_ble_eq_true rfl) d6_day_1 ?_
  refine lv_if_eq (tgt := 27) hx hb d6_day_4 (by decide) (fun hc2 => ?_) (fun hc2 => ?_)
  · have h0 := og_t hc2 h0
    refine lv_iconst (v := (-1)) hx hb d6_day_27 (by decide) ?_
    exact q_iret S hr hlk hR hS h0 d6_day_28
  · have h0 := og_f hc2 h0
    refine lv_iload_n hx hb d6_day_7 rfl (lv_at hl 2 rfl) ?_
    refine lv_iconst (v := 0) hx hb d6_day_8 (by decide) ?_
    refine lv_sipush (v := 9999) hx hb d6_day_9 (by decide) ?_
    obtain ⟨r3, hr3, h0⟩ := og_b h0
    refine k6_102 S  hr3 ⟨Nat.zero_le _, Nat.zero_le _⟩ ⟨Nat.le_of_ble_eq_true rfl, Nat.le_of_ble_eq_true rfl⟩ hl.1 (Nat.le_of_ble_eq_true rfl) d6_day_12 ?_
    refine lv_if_eq (tgt := 27) hx hb d6_day_15 (by decide) (fun hc4 => ?_) (fun hc4 => ?_)
    · have h0 := og_t hc4 h0
      refine lv_iconst (v := (-1)) hx hb d6_day_27 (by decide) ?_
      exact q_iret S hr hlk hR hS h0 d6_day_28
    · have h0 := og_f hc4 h0
      refine lv_iload_n hx hb d6_day_18 rfl (lv_at hl 3 rfl) ?_
      refine lv_iconst (v := 0) hx hb d6_day_19 (by decide) ?_
      refine lv_iconst (v := 1) hx hb d6_day_20 (by decide) ?_
      obtain ⟨r5, hr5, h0⟩ := og_b h0
      refine k6_102 S  hr5 ⟨Nat.zero_le _, Nat.zero_le _⟩ ⟨Nat.le_of_ble_eq_true rfl, Nat.le_of_ble_eq_true rfl⟩ hl.1 (Nat.le_of_ble_eq_true rfl) d6_day_21 ?_
      refine lv_if_ne (tgt := 29) hx hb d6_day_24 (by decide) (fun hc6 => ?_) (fun hc6 => ?_)
      · have h0 := og_f hc6 h0
        refine lv_aload_n hx hb d6_day_29 rfl (lv_at hl 0 rfl) ?_
        refine g6_33 S hK hR d6_day_30 ?_
        refine lv_aload_n hx hb d6_day_33 rfl (lv_at hl 0 rfl) ?_
        refine g6_29 S hK hR d6_day_34 ?_
        obtain ⟨σ7, hr7, h0⟩ := og_b h0
        refine k6_222 S hK hR hS (by decide) (by decide) hr7 ⟨Nat.zero_le _, Nat.zero_le _⟩ ⟨Nat.le_of_ble_eq_true rfl, Nat.le_of_ble_eq_true rfl⟩ hl.1 (Nat.le_of_ble_eq_true rfl) d6_day_37 (fun H locs hR hS => ?_)
        refine lv_iconst (v := 0) hx hb d6_day_40 (by decide) ?_
        refine lv_istore (lv' := [(4, .int 0), (0, .ref (w.2.2 0)), (1, .int x1), (2, .int x2), (3, .int x3)]) hx hb d6_day_41 hl (by decide) rfl (fun ls hl => ?_)
        exact t6_day_b43 S hr hlk hK 1000 σ7 x1 x2 x3 0 h0 _ _ hR hS _ (lv_sub hl [1, 2, 3, 4, 0] rfl)
      · have h0 := og_t hc6 h0
        refine lv_iconst (v := (-1)) hx hb d6_day_27 (by decide) ?_
        exact q_iret S hr hlk hR hS h0 d6_day_28
/-! FourTenGates.keep()I -/
abbrev rm6_keep : Room := { frames := 5, cells := 0, slots := 0, locals := 107 }
theorem d6_keep_0 : decode cX6_keep 0 = .ok (.aload_n 0, 1) := by decide +kernel
theorem d6_keep_1 : decode cX6_keep 1 = .ok (.getfield 58, 3) := by decide +kernel
theorem d6_keep_4 : decode cX6_keep 4 = .ok (.invokevirtual 238, 3) := by decide +kernel
theorem d6_keep_7 : decode cX6_keep 7 = .ok (.ifCond .eq 6, 3) := by decide +kernel
theorem d6_keep_10 : decode cX6_keep 10 = .ok (.bipush (-3), 2) := by decide +kernel
theorem d6_keep_12 : decode cX6_keep 12 = .ok (.ireturn, 1) := by decide +kernel
theorem d6_keep_13 : decode cX6_keep 13 = .ok (.aload_n 0, 1) := by decide +kernel
theorem d6_keep_14 : decode cX6_keep 14 = .ok (.getfield 58, 3) := by decide +kernel
theorem d6_keep_17 : decode cX6_keep 17 = .ok (.aload_n 0, 1) := by decide +kernel
theorem d6_keep_18 : decode cX6_keep 18 = .ok (.getfield 29, 3) := by decide +kernel
theorem d6_keep_21 : decode cX6_keep 21 = .ok (.invokevirtual 239, 3) := by decide +kernel
theorem d6_keep_24 : decode cX6_keep 24 = .ok (.aload_n 0, 1) := by decide +kernel
theorem d6_keep_25 : decode cX6_keep 25 = .ok (.getfield 58, 3) := by decide +kernel
theorem d6_keep_28 : decode cX6_keep 28 = .ok (.invokevirtual 196, 3) := by decide +kernel
theorem d6_keep_31 : decode cX6_keep 31 = .ok (.ireturn, 1) := by decide +kernel
def f6_keep (σ : Mem) : Option (Mem × Int32) := Option.bind (f3_isFull σ 124) fun r1 => if r1 = 0 then Option.bind (f3_push σ 124 31) fun σ3 => Option.bind (f3_size σ3 124) fun r4 => some (σ3, r4) else some (σ, (-3))
set_option maxHeartbeats 4000000 in
set_option maxRecDepth 100000 in
theorem c6_keep (l : Launch) {w : WV} {σ : Mem} {σ' : Mem} {r : Int32} (h0 : f6_keep σ = some (σ', r)) : Met l yX6_keep (wy yX6_keep cX6_keep 1 (some .int)) rm6_keep (Pw EC LC w [.ref (w.2.2 0)] σ) (Qw EC LC w σ' (some (.int r))) 0 0 (AW LC w) := by
  refine mk_met (by decide) (Nat.le_of_ble_eq_true rfl) ?_
  intro p e s m below meth c S hr hlk hK hR ls hl
  obtain ⟨hx, hb, hml, hown, hts⟩ := id S
  have hl : lv_has ls 1 [(0, .ref (w.2.2 0))] := hl
  have hS : va_S (AW LC w) s.heap s.heap [] := va_S.rf
  unfold f6_keep at h0
  refine lv_aload_n hx hb d6_keep_0 rfl (lv_at hl 0 rfl) ?_
  refine g6_58 S hK hR d6_keep_1 ?_
  obtain ⟨r1, hr1, h0⟩ := og_b h0
  refine k6_238 S hK hR (by decide) hr1 ⟨Nat.zero_le _, Nat.zero_le _⟩ ⟨Nat.le_of_ble_eq_true rfl, Nat.le_of_ble_eq_true rfl⟩ hl.1 (Nat.le_of_ble_eq_true rfl) d6_keep_4 ?_
  refine lv_if_eq (tgt := 13) hx hb d6_keep_7 (by decide) (fun hc2 => ?_) (fun hc2 => ?_)
  · have h0 := og_t hc2 h0
    refine lv_aload_n hx hb d6_keep_13 rfl (lv_at hl 0 rfl) ?_
    refine g6_58 S hK hR d6_keep_14 ?_
    refine lv_aload_n hx hb d6_keep_17 rfl (lv_at hl 0 rfl) ?_
    refine g6_29 S hK hR d6_keep_18 ?_
    obtain ⟨σ3, hr3, h0⟩ := og_b h0
    refine k6_239 S hK hR hS (by decide) (by decide) hr3 ⟨Nat.zero_le _, Nat.zero_le _⟩ ⟨Nat.le_of_ble_eq_true rfl, Nat.le_of_ble_eq_true rfl⟩ hl.1 (Nat.le_of_ble_eq_true rfl) d6_keep_21 (fun H locs hR hS => ?_)
    refine lv_aload_n hx hb d6_keep_24 rfl (lv_at hl 0 rfl) ?_
    refine g6_58 S hK hR d6_keep_25 ?_
    obtain ⟨r4, hr4, h0⟩ := og_b h0
    refine k6_196 S hK hR (by decide) hr4 ⟨Nat.zero_le _, Nat.zero_le _⟩ ⟨Nat.le_of_ble_eq_true rfl, Nat.le_of_ble_eq_true rfl⟩ hl.1 (Nat.le_of_ble_eq_true rfl) d6_keep_28 ?_
    exact q_iret S hr hlk hR hS h0 d6_keep_31
  · have h0 := og_f hc2 h0
    refine lv_bipush (v := (-3)) hx hb d6_keep_10 (by decide) ?_
    exact q_iret S hr hlk hR hS h0 d6_keep_12
/-! FourTenGates.back()I -/
abbrev rm6_back : Room := { frames := 5, cells := 0, slots := 0, locals := 107 }
theorem d6_back_0 : decode cX6_back 0 = .ok (.aload_n 0, 1) := by decide +kernel
theorem d6_back_1 : decode cX6_back 1 = .ok (.getfield 58, 3) := by decide +kernel
theorem d6_back_4 : decode cX6_back 4 = .ok (.aload_n 0, 1) := by decide +kernel
theorem d6_back_5 : decode cX6_back 5 = .ok (.getfield 29, 3) := by decide +kernel
theorem d6_back_8 : decode cX6_back 8 = .ok (.invokevirtual 189, 3) := by decide +kernel
theorem d6_back_11 : decode cX6_back 11 = .ok (.ifCond .ne 6, 3) := by decide +kernel
theorem d6_back_14 : decode cX6_back 14 = .ok (.bipush (-2), 2) := by decide +kernel
theorem d6_back_16 : decode cX6_back 16 = .ok (.ireturn, 1) := by decide +kernel
theorem d6_back_17 : decode cX6_back 17 = .ok (.aload_n 0, 1) := by decide +kernel
theorem d6_back_18 : decode cX6_back 18 = .ok (.getfield 54, 3) := by decide +kernel
theorem d6_back_21 : decode cX6_back 21 = .ok (.invokevirtual 242, 3) := by decide +kernel
theorem d6_back_24 : decode cX6_back 24 = .ok (.aload_n 0, 1) := by decide +kernel
theorem d6_back_25 : decode cX6_back 25 = .ok (.invokevirtual 193, 3) := by decide +kernel
theorem d6_back_28 : decode cX6_back 28 = .ok (.aload_n 0, 1) := by decide +kernel
theorem d6_back_29 : decode cX6_back 29 = .ok (.getfield 58, 3) := by decide +kernel
theorem d6_back_32 : decode cX6_back 32 = .ok (.invokevirtual 196, 3) := by decide +kernel
theorem d6_back_35 : decode cX6_back 35 = .ok (.ireturn, 1) := by decide +kernel
def f6_back (σ : Mem) : Option (Mem × Int32) := ob (f3_pop σ 124 31) fun σ1 r1 => if r1 = 0 then some (σ1, (-2)) else Option.bind (f3_empty σ1 82) fun σ3 => Option.bind (f6_outdateHours σ3) fun σ4 => Option.bind (f3_size σ4 124) fun r5 => some (σ4, r5)
set_option maxHeartbeats 4000000 in
set_option maxRecDepth 100000 in
theorem c6_back (l : Launch) {w : WV} {σ : Mem} {σ' : Mem} {r : Int32} (h0 : f6_back σ = some (σ', r)) : Met l yX6_back (wy yX6_back cX6_back 1 (some .int)) rm6_back (Pw EC LC w [.ref (w.2.2 0)] σ) (Qw EC LC w σ' (some (.int r))) 0 0 (AW LC w) := by
  refine mk_met (by decide) (Nat.le_of_ble_eq_true rfl) ?_
  intro p e s m below meth c S hr hlk hK hR ls hl
  obtain ⟨hx, hb, hml, hown, hts⟩ := id S
  have hl : lv_has ls 1 [(0, .ref (w.2.2 0))] := hl
  have hS : va_S (AW LC w) s.heap s.heap [] := va_S.rf
  unfold f6_back at h0
  refine lv_aload_n hx hb d6_back_0 rfl (lv_at hl 0 rfl) ?_
  refine g6_58 S hK hR d6_back_1 ?_
  refine lv_aload_n hx hb d6_back_4 rfl (lv_at hl 0 rfl) ?_
  refine g6_29 S hK hR d6_back_5 ?_
  obtain ⟨σ1, r1, hr1, h0⟩ := og_o h0
  refine k6_189 S hK hR hS (by decide) (by decide) hr1 ⟨Nat.zero_le _, Nat.zero_le _⟩ ⟨Nat.le_of_ble_eq_true rfl, Nat.le_of_ble_eq_true rfl⟩ hl.1 (Nat.le_of_ble_eq_true rfl) d6_back_8 (fun H locs hR hS => ?_)
  refine lv_if_ne (tgt := 17) hx hb d6_back_11 (by decide) (fun hc2 => ?_) (fun hc2 => ?_)
  · have h0 := og_f hc2 h0
    refine lv_aload_n hx hb d6_back_17 rfl (lv_at hl 0 rfl) ?_
    refine g6_54 S hK hR d6_back_18 ?_
    obtain ⟨σ3, hr3, h0⟩ := og_b h0
    refine k6_242 S hK hR hS (by decide) hr3 ⟨Nat.zero_le _, Nat.zero_le _⟩ ⟨Nat.le_of_ble_eq_true rfl, Nat.le_of_ble_eq_true rfl⟩ hl.1 (Nat.le_of_ble_eq_true rfl) d6_back_21 (fun H locs hR hS => ?_)
    refine lv_aload_n hx hb d6_back_24 rfl (lv_at hl 0 rfl) ?_
    obtain ⟨σ4, hr4, h0⟩ := og_b h0
    refine k6_193 S hK hR hS  hr4 ⟨Nat.zero_le _, Nat.zero_le _⟩ ⟨Nat.le_of_ble_eq_true rfl, Nat.le_of_ble_eq_true rfl⟩ hl.1 (Nat.le_of_ble_eq_true rfl) d6_back_25 (fun H locs hR hS => ?_)
    refine lv_aload_n hx hb d6_back_28 rfl (lv_at hl 0 rfl) ?_
    refine g6_58 S hK hR d6_back_29 ?_
    obtain ⟨r5, hr5, h0⟩ := og_b h0
    refine k6_196 S hK hR (by decide) hr5 ⟨Nat.zero_le _, Nat.zero_le _⟩ ⟨Nat.le_of_ble_eq_true rfl, Nat.le_of_ble_eq_true rfl⟩ hl.1 (Nat.le_of_ble_eq_true rfl) d6_back_32 ?_
    exact q_iret S hr hlk hR hS h0 d6_back_35
  · have h0 := og_t hc2 h0
    refine lv_bipush (v := (-2)) hx hb d6_back_14 (by decide) ?_
    exact q_iret S hr hlk hR hS h0 d6_back_16
/-! FourTenGates.count(I)I -/
abbrev rm6_count : Room := { frames := 1, cells := 0, slots := 0, locals := 20 }
theorem d6_count_0 : decode cX6_count 0 = .ok (.iload_n 1, 1) := by decide +kernel
theorem d6_count_1 : decode cX6_count 1 = .ok (.tableswitch 108 0 6 #[43, 54, 65, 76, 84, 92, 100], 43) := by decide +kernel
theorem d6_count_44 : decode cX6_count 44 = .ok (.aload_n 0, 1) := by decide +kernel
theorem d6_count_45 : decode cX6_count 45 = .ok (.getfield 19, 3) := by decide +kernel
theorem d6_count_48 : decode cX6_count 48 = .ok (.getfield 113, 3) := by decide +kernel
theorem d6_count_51 : decode cX6_count 51 = .ok (.invokevirtual 116, 3) := by decide +kernel
theorem d6_count_54 : decode cX6_count 54 = .ok (.ireturn, 1) := by decide +kernel
theorem d6_count_55 : decode cX6_count 55 = .ok (.aload_n 0, 1) := by decide +kernel
theorem d6_count_56 : decode cX6_count 56 = .ok (.getfield 19, 3) := by decide +kernel
theorem d6_count_59 : decode cX6_count 59 = .ok (.getfield 136, 3) := by decide +kernel
theorem d6_count_62 : decode cX6_count 62 = .ok (.invokevirtual 116, 3) := by decide +kernel
theorem d6_count_65 : decode cX6_count 65 = .ok (.ireturn, 1) := by decide +kernel
theorem d6_count_66 : decode cX6_count 66 = .ok (.aload_n 0, 1) := by decide +kernel
theorem d6_count_67 : decode cX6_count 67 = .ok (.getfield 29, 3) := by decide +kernel
theorem d6_count_70 : decode cX6_count 70 = .ok (.getfield 178, 3) := by decide +kernel
theorem d6_count_73 : decode cX6_count 73 = .ok (.invokevirtual 116, 3) := by decide +kernel
theorem d6_count_76 : decode cX6_count 76 = .ok (.ireturn, 1) := by decide +kernel
theorem d6_count_77 : decode cX6_count 77 = .ok (.aload_n 0, 1) := by decide +kernel
theorem d6_count_78 : decode cX6_count 78 = .ok (.getfield 64, 3) := by decide +kernel
theorem d6_count_81 : decode cX6_count 81 = .ok (.invokevirtual 116, 3) := by decide +kernel
theorem d6_count_84 : decode cX6_count 84 = .ok (.ireturn, 1) := by decide +kernel
theorem d6_count_85 : decode cX6_count 85 = .ok (.aload_n 0, 1) := by decide +kernel
theorem d6_count_86 : decode cX6_count 86 = .ok (.getfield 54, 3) := by decide +kernel
theorem d6_count_89 : decode cX6_count 89 = .ok (.invokevirtual 196, 3) := by decide +kernel
theorem d6_count_92 : decode cX6_count 92 = .ok (.ireturn, 1) := by decide +kernel
theorem d6_count_93 : decode cX6_count 93 = .ok (.aload_n 0, 1) := by decide +kernel
theorem d6_count_94 : decode cX6_count 94 = .ok (.getfield 58, 3) := by decide +kernel
theorem d6_count_97 : decode cX6_count 97 = .ok (.invokevirtual 196, 3) := by decide +kernel
theorem d6_count_100 : decode cX6_count 100 = .ok (.ireturn, 1) := by decide +kernel
theorem d6_count_101 : decode cX6_count 101 = .ok (.aload_n 0, 1) := by decide +kernel
theorem d6_count_102 : decode cX6_count 102 = .ok (.getfield 10, 3) := by decide +kernel
theorem d6_count_105 : decode cX6_count 105 = .ok (.invokevirtual 106, 3) := by decide +kernel
theorem d6_count_108 : decode cX6_count 108 = .ok (.ireturn, 1) := by decide +kernel
theorem d6_count_109 : decode cX6_count 109 = .ok (.iconst (-1), 1) := by decide +kernel
theorem d6_count_110 : decode cX6_count 110 = .ok (.ireturn, 1) := by decide +kernel
def f6_count (σ : Mem) (x1 : Int32) : Option Int32 := if x1 = 0 then Option.bind (f2_size σ 4) fun r2 => some r2 else if x1 = 1 then Option.bind (f2_size σ 7) fun r3 => some r3 else if x1 = 2 then Option.bind (f2_size σ 32) fun r4 => some r4 else if x1 = 3 then Option.bind (f2_size σ 136) fun r5 => some r5 else if x1 = 4 then Option.bind (f3_size σ 82) fun r6 => some r6 else if x1 = 5 then Option.bind (f3_size σ 124) fun r7 => some r7 else if x1 = 6 then Option.bind (f5_size σ 1) fun r8 => some r8 else some (-1)
set_option maxHeartbeats 4000000 in
set_option maxRecDepth 100000 in
theorem c6_count (l : Launch) {w : WV} {σ : Mem} {x1 : Int32} {r : Int32} (h0 : f6_count σ x1 = some r) : Met l yX6_count (wy yX6_count cX6_count 2 (some .int)) rm6_count (Pw EC LC w [.ref (w.2.2 0), .int x1] σ) (Qp (.int r)) 0 0 (fun _ => False) := by
  refine mk_met (by decide) (Nat.le_of_ble_eq_true rfl) ?_
  intro p e s m below meth c S hr hlk hK hR ls hl
  obtain ⟨hx, hb, hml, hown, hts⟩ := id S
  have hl : lv_has ls 2 [(0, .ref (w.2.2 0)), (1, .int x1)] := hl
  unfold f6_count at h0
  refine lv_iload_n hx hb d6_count_0 rfl (lv_at hl 1 rfl) ?_
  by_cases hc1 : x1 = 0
  · have h0 := og_t hc1 h0
    refine q_tabI (off := 43) (tgt := 44) S d6_count_1 hc1 (by decide) (by decide) (by decide) (by decide) ?_
    refine lv_aload_n hx hb d6_count_44 rfl (lv_at hl 0 rfl) ?_
    refine g6_19 S hK hR d6_count_45 ?_
    refine g6_113 S hK hR (by decide) rfl d6_count_48 ?_
    obtain ⟨r2, hr2, h0⟩ := og_b h0
    refine k6_116 S hK hR (by decide) hr2 ⟨Nat.zero_le _, Nat.zero_le _⟩ ⟨Nat.le_of_ble_eq_true rfl, Nat.le_of_ble_eq_true rfl⟩ hl.1 (Nat.le_of_ble_eq_true rfl) d6_count_51 ?_
    exact q_ipure S hr hlk h0 d6_count_54
  · have h0 := og_f hc1 h0
    by_cases hc2 : x1 = 1
    · have h0 := og_t hc2 h0
      refine q_tabI (off := 54) (tgt := 55) S d6_count_1 hc2 (by decide) (by decide) (by decide) (by decide) ?_
      refine lv_aload_n hx hb d6_count_55 rfl (lv_at hl 0 rfl) ?_
      refine g6_19 S hK hR d6_count_56 ?_
      refine g6_136 S hK hR (by decide) rfl d6_count_59 ?_
      obtain ⟨r3, hr3, h0⟩ := og_b h0
      refine k6_116 S hK hR (by decide) hr3 ⟨Nat.zero_le _, Nat.zero_le _⟩ ⟨Nat.le_of_ble_eq_true rfl, Nat.le_of_ble_eq_true rfl⟩ hl.1 (Nat.le_of_ble_eq_true rfl) d6_count_62 ?_
      exact q_ipure S hr hlk h0 d6_count_65
    · have h0 := og_f hc2 h0
      by_cases hc3 : x1 = 2
      · have h0 := og_t hc3 h0
        refine q_tabI (off := 65) (tgt := 66) S d6_count_1 hc3 (by decide) (by decide) (by decide) (by decide) ?_
        refine lv_aload_n hx hb d6_count_66 rfl (lv_at hl 0 rfl) ?_
        refine g6_29 S hK hR d6_count_67 ?_
        refine g6_178 S hK hR (by decide) rfl d6_count_70 ?_
        obtain ⟨r4, hr4, h0⟩ := og_b h0
        refine k6_116 S hK hR (by decide) hr4 ⟨Nat.zero_le _, Nat.zero_le _⟩ ⟨Nat.le_of_ble_eq_true rfl, Nat.le_of_ble_eq_true rfl⟩ hl.1 (Nat.le_of_ble_eq_true rfl) d6_count_73 ?_
        exact q_ipure S hr hlk h0 d6_count_76
      · have h0 := og_f hc3 h0
        by_cases hc4 : x1 = 3
        · have h0 := og_t hc4 h0
          refine q_tabI (off := 76) (tgt := 77) S d6_count_1 hc4 (by decide) (by decide) (by decide) (by decide) ?_
          refine lv_aload_n hx hb d6_count_77 rfl (lv_at hl 0 rfl) ?_
          refine g6_64 S hK hR d6_count_78 ?_
          obtain ⟨r5, hr5, h0⟩ := og_b h0
          refine k6_116 S hK hR (by decide) hr5 ⟨Nat.zero_le _, Nat.zero_le _⟩ ⟨Nat.le_of_ble_eq_true rfl, Nat.le_of_ble_eq_true rfl⟩ hl.1 (Nat.le_of_ble_eq_true rfl) d6_count_81 ?_
          exact q_ipure S hr hlk h0 d6_count_84
        · have h0 := og_f hc4 h0
          by_cases hc5 : x1 = 4
          · have h0 := og_t hc5 h0
            refine q_tabI (off := 84) (tgt := 85) S d6_count_1 hc5 (by decide) (by decide) (by decide) (by decide) ?_
            refine lv_aload_n hx hb d6_count_85 rfl (lv_at hl 0 rfl) ?_
            refine g6_54 S hK hR d6_count_86 ?_
            obtain ⟨r6, hr6, h0⟩ := og_b h0
            refine k6_196 S hK hR (by decide) hr6 ⟨Nat.zero_le _, Nat.zero_le _⟩ ⟨Nat.le_of_ble_eq_true rfl, Nat.le_of_ble_eq_true rfl⟩ hl.1 (Nat.le_of_ble_eq_true rfl) d6_count_89 ?_
            exact q_ipure S hr hlk h0 d6_count_92
          · have h0 := og_f hc5 h0
            by_cases hc6 : x1 = 5
            · have h0 := og_t hc6 h0
              refine q_tabI (off := 92) (tgt := 93) S d6_count_1 hc6 (by decide) (by decide) (by decide) (by decide) ?_
              refine lv_aload_n hx hb d6_count_93 rfl (lv_at hl 0 rfl) ?_
              refine g6_58 S hK hR d6_count_94 ?_
              obtain ⟨r7, hr7, h0⟩ := og_b h0
              refine k6_196 S hK hR (by decide) hr7 ⟨Nat.zero_le _, Nat.zero_le _⟩ ⟨Nat.le_of_ble_eq_true rfl, Nat.le_of_ble_eq_true rfl⟩ hl.1 (Nat.le_of_ble_eq_true rfl) d6_count_97 ?_
              exact q_ipure S hr hlk h0 d6_count_100
            · have h0 := og_f hc6 h0
              by_cases hc7 : x1 = 6
              · have h0 := og_t hc7 h0
                refine q_tabI (off := 100) (tgt := 101) S d6_count_1 hc7 (by decide) (by decide) (by decide) (by decide) ?_
                refine lv_aload_n hx hb d6_count_101 rfl (lv_at hl 0 rfl) ?_
                refine g6_10 S hK hR d6_count_102 ?_
                obtain ⟨r8, hr8, h0⟩ := og_b h0
                refine k6_106 S hK hR (by decide) hr8 ⟨Nat.zero_le _, Nat.zero_le _⟩ ⟨Nat.le_of_ble_eq_true rfl, Nat.le_of_ble_eq_true rfl⟩ hl.1 (Nat.le_of_ble_eq_true rfl) d6_count_105 ?_
                exact q_ipure S hr hlk h0 d6_count_108
              · have h0 := og_f hc7 h0
                refine q_tabD (tgt := 109) S d6_count_1 [0, 1, 2, 3, 4, 5, 6] (by decide) (by decide) (List.forall_mem_cons.mpr ⟨ne_toInt hc1 (by decide), List.forall_mem_cons.mpr ⟨ne_toInt hc2 (by decide), List.forall_mem_cons.mpr ⟨ne_toInt hc3 (by decide), List.forall_mem_cons.mpr ⟨ne_toInt hc4 (by decide), List.forall_mem_cons.mpr ⟨ne_toInt hc5 (by decide), List.forall_mem_cons.mpr ⟨ne_toInt hc6 (by decide), List.forall_mem_cons.mpr ⟨ne_toInt hc7 (by decide), fun _ hq => absurd hq List.not_mem_nil⟩⟩⟩⟩⟩⟩⟩) (by decide) ?_
                refine lv_iconst (v := (-1)) hx hb d6_count_109 (by decide) ?_
                exact q_ipure S hr hlk h0 d6_count_110
