/-! FourTenGatesModel.back()I -/
abbrev rm7_back : Room := { frames := 0, cells := 0, slots := 0, locals := 0 }
theorem d7_back_0 : decode cX7_back 0 = .ok (.aload_n 0, 1) := by decide +kernel
theorem d7_back_1 : decode cX7_back 1 = .ok (.getfield 162, 3) := by decide +kernel
theorem d7_back_4 : decode cX7_back 4 = .ok (.ifCond .ne 6, 3) := by decide +kernel
theorem d7_back_7 : decode cX7_back 7 = .ok (.bipush (-2), 2) := by decide +kernel
theorem d7_back_9 : decode cX7_back 9 = .ok (.ireturn, 1) := by decide +kernel
theorem d7_back_10 : decode cX7_back 10 = .ok (.aload_n 0, 1) := by decide +kernel
theorem d7_back_11 : decode cX7_back 11 = .ok (.dup, 1) := by decide +kernel
theorem d7_back_12 : decode cX7_back 12 = .ok (.getfield 162, 3) := by decide +kernel
theorem d7_back_15 : decode cX7_back 15 = .ok (.iconst 1, 1) := by decide +kernel
theorem d7_back_16 : decode cX7_back 16 = .ok (.isub, 1) := by decide +kernel
theorem d7_back_17 : decode cX7_back 17 = .ok (.putfield 162, 3) := by decide +kernel
theorem d7_back_20 : decode cX7_back 20 = .ok (.iconst 0, 1) := by decide +kernel
theorem d7_back_21 : decode cX7_back 21 = .ok (.istore_n 1, 1) := by decide +kernel
theorem d7_back_22 : decode cX7_back 22 = .ok (.iload_n 1, 1) := by decide +kernel
theorem d7_back_23 : decode cX7_back 23 = .ok (.bipush 19, 2) := by decide +kernel
theorem d7_back_25 : decode cX7_back 25 = .ok (.if_icmp .ge 29, 3) := by decide +kernel
theorem d7_back_28 : decode cX7_back 28 = .ok (.aload_n 0, 1) := by decide +kernel
theorem d7_back_29 : decode cX7_back 29 = .ok (.getfield 55, 3) := by decide +kernel
theorem d7_back_32 : decode cX7_back 32 = .ok (.iload_n 1, 1) := by decide +kernel
theorem d7_back_33 : decode cX7_back 33 = .ok (.aload_n 0, 1) := by decide +kernel
theorem d7_back_34 : decode cX7_back 34 = .ok (.getfield 61, 3) := by decide +kernel
theorem d7_back_37 : decode cX7_back 37 = .ok (.bipush 19, 2) := by decide +kernel
theorem d7_back_39 : decode cX7_back 39 = .ok (.aload_n 0, 1) := by decide +kernel
theorem d7_back_40 : decode cX7_back 40 = .ok (.getfield 162, 3) := by decide +kernel
theorem d7_back_43 : decode cX7_back 43 = .ok (.imul, 1) := by decide +kernel
theorem d7_back_44 : decode cX7_back 44 = .ok (.iload_n 1, 1) := by decide +kernel
theorem d7_back_45 : decode cX7_back 45 = .ok (.iadd, 1) := by decide +kernel
theorem d7_back_46 : decode cX7_back 46 = .ok (.iaload, 1) := by decide +kernel
theorem d7_back_47 : decode cX7_back 47 = .ok (.iastore, 1) := by decide +kernel
theorem d7_back_48 : decode cX7_back 48 = .ok (.iinc 1 1, 3) := by decide +kernel
theorem d7_back_51 : decode cX7_back 51 = .ok (.goto (-29), 3) := by decide +kernel
theorem d7_back_54 : decode cX7_back 54 = .ok (.aload_n 0, 1) := by decide +kernel
theorem d7_back_55 : decode cX7_back 55 = .ok (.iconst 0, 1) := by decide +kernel
theorem d7_back_56 : decode cX7_back 56 = .ok (.putfield 159, 3) := by decide +kernel
theorem d7_back_59 : decode cX7_back 59 = .ok (.aload_n 0, 1) := by decide +kernel
theorem d7_back_60 : decode cX7_back 60 = .ok (.getfield 162, 3) := by decide +kernel
theorem d7_back_63 : decode cX7_back 63 = .ok (.ireturn, 1) := by decide +kernel
def f7_back_b22 : Nat → Mem → Int32 → Option (Mem × Int32)
  | 0, _, _ => none
  | n + 1, σ, x1 => if 19 ≤ x1 then bm (mu σ 0 18 0) fun σ2 => some (σ2, σ2 0 20) else if ¬ ((19 * (σ 0 20)) + x1 < 0 ∨ 38 ≤ ((19 * (σ 0 20)) + x1).toNatClampNeg) then if ¬ (x1 < 0 ∨ 19 ≤ x1.toNatClampNeg) then (bm (mu σ 17 x1.toNatClampNeg (σ 20 (((19 * (σ 0 20)) + x1).toNatClampNeg))) fun σ4 => f7_back_b22 n σ4 (x1 + 1)) else none else none
set_option maxHeartbeats 4000000 in
set_option maxRecDepth 100000 in
theorem t7_back_b22 {p : Program} {l : Launch} {e : Env} {s : State} {m : MethodId} {args : Array Value} {below : List Frame} {meth : Method} {c : Code} {w : WV} {σ' : Mem} {r : Int32} (S : CallFix p m c cX7_back 2 s args gtbl RX7) (hr : meth.sig.returnType = (some .int)) (hlk : meth.locks = false) (hK : KS LM w s) : ∀ (n : Nat), ∀ (σ : Mem) (x1 : Int32), f7_back_b22  n σ x1 = some (σ', r) → ∀ (H : Heap) (locs : List Loc), Rp EM LM w σ H → va_S (AW LM w) s.heap H locs → ∀ (ls : Array Slot), lv_has ls 2 [(0, .ref (w.2.2 0)), (1, .int x1)] → W p l e rm7_back s m args below meth c H locs 0 0 (MQ below (Qw EM LM w σ' (some (.int r))) args s 0 0 (AW LM w)) (F0 m 22 ls []) := by
  obtain ⟨hx, hb, hml, hown, hts⟩ := id S
  intro n
  induction n with
  | zero =>
    intro σ x1 h0
    cases (show none = _ from h0)
  | succ n ih =>
    intro σ x1 h0 H locs hR hS ls hl
    rw [f7_back_b22] at h0
    refine lv_iload_n hx hb d7_back_22 rfl (lv_at hl 1 rfl) ?_
    refine lv_bipush (v := 19) hx hb d7_back_23 (by decide) ?_
    refine lv_icmp_ge (tgt := 54) hx hb d7_back_25 (by decide) (fun hc1 => ?_) (fun hc1 => ?_)
    · have h0 := og_t hc1 h0
      refine lv_aload_n hx hb d7_back_54 rfl (lv_at hl 0 rfl) ?_
      refine lv_iconst (v := 0) hx hb d7_back_55 (by decide) ?_
      obtain ⟨σ2, hm2, h0⟩ := og_m h0
      refine u7_159 S hK hR hS hm2 d7_back_56 (fun H locs hR hS => ?_)
      refine lv_aload_n hx hb d7_back_59 rfl (lv_at hl 0 rfl) ?_
      refine g7_162 S hK hR d7_back_60 ?_
      exact q_iret S hr hlk hR hS h0 d7_back_63
    · have h0 := og_f hc1 h0
      refine lv_aload_n hx hb d7_back_28 rfl (lv_at hl 0 rfl) ?_
      refine g7_55 S hK hR d7_back_29 ?_
      refine lv_iload_n hx hb d7_back_32 rfl (lv_at hl 1 rfl) ?_
      refine lv_aload_n hx hb d7_back_33 rfl (lv_at hl 0 rfl) ?_
      refine g7_61 S hK hR d7_back_34 ?_
      refine lv_bipush (v := 19) hx hb d7_back_37 (by decide) ?_
      refine lv_aload_n hx hb d7_back_39 rfl (lv_at hl 0 rfl) ?_
      refine g7_162 S hK hR d7_back_40 ?_
      refine lv_imul hx hb d7_back_43 ?_
      refine lv_iload_n hx hb d7_back_44 rfl (lv_at hl 1 rfl) ?_
      refine lv_iadd hx hb d7_back_45 ?_
      obtain ⟨hi2, h0⟩ := og_if h0
      refine q_ld (k := (((19 * (σ 0 20)) + x1).toNatClampNeg)) S hK hR (by decide) (eM_119 w _) hi2 rfl d7_back_46 ?_
      obtain ⟨hi3, h0⟩ := og_if h0
      obtain ⟨σ4, hm4, h0⟩ := og_m h0
      refine q_st S hK hR hS (by decide) (eM_116 w) hi3 rfl hm4 d7_back_47 (fun H locs hR hS => ?_)
      refine lv_iinc (v := x1 + 1) (lv' := [(1, .int (x1 + 1)), (0, .ref (w.2.2 0))]) hx hb d7_back_48 hl (k := 1) rfl (ii1 _) (by decide) rfl (fun ls hl => ?_)
      refine lv_goto (tgt := 22) hx hb d7_back_51 (by decide) ?_
      exact ih σ4 (x1 + 1) h0 _ _ hR hS _ (lv_sub hl [1, 0] rfl)
def f7_back (σ : Mem) : Option (Mem × Int32) := if (σ 0 20) = 0 then some (σ, (-2)) else bm (mu σ 0 20 ((σ 0 20) - 1)) fun σ2 => f7_back_b22 1000 σ2 0
set_option maxHeartbeats 4000000 in
set_option maxRecDepth 100000 in
theorem c7_back (l : Launch) {w : WV} {σ : Mem} {σ' : Mem} {r : Int32} (h0 : f7_back σ = some (σ', r)) : Met l yX7_back (wy yX7_back cX7_back 2 (some .int)) rm7_back (Pw EM LM w [.ref (w.2.2 0)] σ) (Qw EM LM w σ' (some (.int r))) 0 0 (AW LM w) := by
  refine mk_met (by decide) (Nat.le_of_ble_eq_true rfl) ?_
  intro p e s m below meth c S hr hlk hK hR ls hl
  obtain ⟨hx, hb, hml, hown, hts⟩ := id S
  have hl : lv_has ls 2 [(0, .ref (w.2.2 0))] := hl
  have hS : va_S (AW LM w) s.heap s.heap [] := va_S.rf
  unfold f7_back at h0
  refine lv_aload_n hx hb d7_back_0 rfl (lv_at hl 0 rfl) ?_
  refine g7_162 S hK hR d7_back_1 ?_
  refine lv_if_ne (tgt := 10) hx hb d7_back_4 (by decide) (fun hc1 => ?_) (fun hc1 => ?_)
  · have h0 := og_f hc1 h0
    refine lv_aload_n hx hb d7_back_10 rfl (lv_at hl 0 rfl) ?_
    refine lv_dup hx hb d7_back_11 rfl ?_
    refine g7_162 S hK hR d7_back_12 ?_
    refine lv_iconst (v := 1) hx hb d7_back_15 (by decide) ?_
    refine lv_isub hx hb d7_back_16 ?_
    obtain ⟨σ2, hm2, h0⟩ := og_m h0
    refine u7_162 S hK hR hS hm2 d7_back_17 (fun H locs hR hS => ?_)
    refine lv_iconst (v := 0) hx hb d7_back_20 (by decide) ?_
    refine lv_istore_n (lv' := [(1, .int 0), (0, .ref (w.2.2 0))]) hx hb d7_back_21 rfl hl (by decide) rfl (fun ls hl => ?_)
    exact t7_back_b22 S hr hlk hK 1000 σ2 0 h0 _ _ hR hS _ (lv_sub hl [1, 0] rfl)
  · have h0 := og_t hc1 h0
    refine lv_bipush (v := (-2)) hx hb d7_back_7 (by decide) ?_
    exact q_iret S hr hlk hR hS h0 d7_back_9
/-! FourTenGatesModel.count(I)I -/
abbrev rm7_count : Room := { frames := 0, cells := 0, slots := 0, locals := 0 }
theorem d7_count_0 : decode cX7_count 0 = .ok (.iload_n 1, 1) := by decide +kernel
theorem d7_count_1 : decode cX7_count 1 = .ok (.tableswitch 85 0 6 #[43, 50, 57, 65, 70, 75, 80], 43) := by decide +kernel
theorem d7_count_44 : decode cX7_count 44 = .ok (.aload_n 0, 1) := by decide +kernel
theorem d7_count_45 : decode cX7_count 45 = .ok (.getfield 13, 3) := by decide +kernel
theorem d7_count_48 : decode cX7_count 48 = .ok (.iconst 0, 1) := by decide +kernel
theorem d7_count_49 : decode cX7_count 49 = .ok (.iaload, 1) := by decide +kernel
theorem d7_count_50 : decode cX7_count 50 = .ok (.ireturn, 1) := by decide +kernel
theorem d7_count_51 : decode cX7_count 51 = .ok (.aload_n 0, 1) := by decide +kernel
theorem d7_count_52 : decode cX7_count 52 = .ok (.getfield 22, 3) := by decide +kernel
theorem d7_count_55 : decode cX7_count 55 = .ok (.iconst 0, 1) := by decide +kernel
theorem d7_count_56 : decode cX7_count 56 = .ok (.iaload, 1) := by decide +kernel
theorem d7_count_57 : decode cX7_count 57 = .ok (.ireturn, 1) := by decide +kernel
theorem d7_count_58 : decode cX7_count 58 = .ok (.aload_n 0, 1) := by decide +kernel
theorem d7_count_59 : decode cX7_count 59 = .ok (.getfield 55, 3) := by decide +kernel
theorem d7_count_62 : decode cX7_count 62 = .ok (.bipush 6, 2) := by decide +kernel
theorem d7_count_64 : decode cX7_count 64 = .ok (.iaload, 1) := by decide +kernel
theorem d7_count_65 : decode cX7_count 65 = .ok (.ireturn, 1) := by decide +kernel
theorem d7_count_66 : decode cX7_count 66 = .ok (.aload_n 0, 1) := by decide +kernel
theorem d7_count_67 : decode cX7_count 67 = .ok (.getfield 165, 3) := by decide +kernel
theorem d7_count_70 : decode cX7_count 70 = .ok (.ireturn, 1) := by decide +kernel
theorem d7_count_71 : decode cX7_count 71 = .ok (.aload_n 0, 1) := by decide +kernel
theorem d7_count_72 : decode cX7_count 72 = .ok (.getfield 159, 3) := by decide +kernel
theorem d7_count_75 : decode cX7_count 75 = .ok (.ireturn, 1) := by decide +kernel
theorem d7_count_76 : decode cX7_count 76 = .ok (.aload_n 0, 1) := by decide +kernel
theorem d7_count_77 : decode cX7_count 77 = .ok (.getfield 162, 3) := by decide +kernel
theorem d7_count_80 : decode cX7_count 80 = .ok (.ireturn, 1) := by decide +kernel
theorem d7_count_81 : decode cX7_count 81 = .ok (.aload_n 0, 1) := by decide +kernel
theorem d7_count_82 : decode cX7_count 82 = .ok (.getfield 117, 3) := by decide +kernel
theorem d7_count_85 : decode cX7_count 85 = .ok (.ireturn, 1) := by decide +kernel
theorem d7_count_86 : decode cX7_count 86 = .ok (.iconst (-1), 1) := by decide +kernel
theorem d7_count_87 : decode cX7_count 87 = .ok (.ireturn, 1) := by decide +kernel
def f7_count (σ : Mem) (x1 : Int32) : Option Int32 := if x1 = 0 then some (σ 3 0) else if x1 = 1 then some (σ 6 0) else if x1 = 2 then some (σ 17 6) else if x1 = 3 then some (σ 0 21) else if x1 = 4 then some (σ 0 18) else if x1 = 5 then some (σ 0 20) else if x1 = 6 then some (σ 0 0) else some (-1)
set_option maxHeartbeats 4000000 in
set_option maxRecDepth 100000 in
theorem c7_count (l : Launch) {w : WV} {σ : Mem} {x1 : Int32} {r : Int32} (h0 : f7_count σ x1 = some r) : Met l yX7_count (wy yX7_count cX7_count 2 (some .int)) rm7_count (Pw EM LM w [.ref (w.2.2 0), .int x1] σ) (Qp (.int r)) 0 0 (fun _ => False) := by
  refine mk_met (by decide) (Nat.le_of_ble_eq_true rfl) ?_
  intro p e s m below meth c S hr hlk hK hR ls hl
  obtain ⟨hx, hb, hml, hown, hts⟩ := id S
  have hl : lv_has ls 2 [(0, .ref (w.2.2 0)), (1, .int x1)] := hl
  unfold f7_count at h0
  refine lv_iload_n hx hb d7_count_0 rfl (lv_at hl 1 rfl) ?_
  by_cases hc1 : x1 = 0
  · have h0 := og_t hc1 h0
    refine q_tabI (off := 43) (tgt := 44) S d7_count_1 hc1 (by decide) (by decide) (by decide) (by decide) ?_
    refine lv_aload_n hx hb d7_count_44 rfl (lv_at hl 0 rfl) ?_
    refine g7_13 S hK hR d7_count_45 ?_
    refine lv_iconst (v := 0) hx hb d7_count_48 (by decide) ?_
    refine q_ld (k := 0) S hK hR (by decide) (eM_102 w _) (vin (by decide)) (by decide) d7_count_49 ?_
    exact q_ipure S hr hlk h0 d7_count_50
  · have h0 := og_f hc1 h0
    by_cases hc2 : x1 = 1
    · have h0 := og_t hc2 h0
      refine q_tabI (off := 50) (tgt := 51) S d7_count_1 hc2 (by decide) (by decide) (by decide) (by decide) ?_
      refine lv_aload_n hx hb d7_count_51 rfl (lv_at hl 0 rfl) ?_
      refine g7_22 S hK hR d7_count_52 ?_
      refine lv_iconst (v := 0) hx hb d7_count_55 (by decide) ?_
      refine q_ld (k := 0) S hK hR (by decide) (eM_105 w _) (vin (by decide)) (by decide) d7_count_56 ?_
      exact q_ipure S hr hlk h0 d7_count_57
    · have h0 := og_f hc2 h0
      by_cases hc3 : x1 = 2
      · have h0 := og_t hc3 h0
        refine q_tabI (off := 57) (tgt := 58) S d7_count_1 hc3 (by decide) (by decide) (by decide) (by decide) ?_
        refine lv_aload_n hx hb d7_count_58 rfl (lv_at hl 0 rfl) ?_
        refine g7_55 S hK hR d7_count_59 ?_
        refine lv_bipush (v := 6) hx hb d7_count_62 (by decide) ?_
        refine q_ld (k := 6) S hK hR (by decide) (eM_116 w _) (vin (by decide)) (by decide) d7_count_64 ?_
        exact q_ipure S hr hlk h0 d7_count_65
      · have h0 := og_f hc3 h0
        by_cases hc4 : x1 = 3
        · have h0 := og_t hc4 h0
          refine q_tabI (off := 65) (tgt := 66) S d7_count_1 hc4 (by decide) (by decide) (by decide) (by decide) ?_
          refine lv_aload_n hx hb d7_count_66 rfl (lv_at hl 0 rfl) ?_
          refine g7_165 S hK hR d7_count_67 ?_
          exact q_ipure S hr hlk h0 d7_count_70
        · have h0 := og_f hc4 h0
          by_cases hc5 : x1 = 4
          · have h0 := og_t hc5 h0
            refine q_tabI (off := 70) (tgt := 71) S d7_count_1 hc5 (by decide) (by decide) (by decide) (by decide) ?_
            refine lv_aload_n hx hb d7_count_71 rfl (lv_at hl 0 rfl) ?_
            refine g7_159 S hK hR d7_count_72 ?_
            exact q_ipure S hr hlk h0 d7_count_75
          · have h0 := og_f hc5 h0
            by_cases hc6 : x1 = 5
            · have h0 := og_t hc6 h0
              refine q_tabI (off := 75) (tgt := 76) S d7_count_1 hc6 (by decide) (by decide) (by decide) (by decide) ?_
              refine lv_aload_n hx hb d7_count_76 rfl (lv_at hl 0 rfl) ?_
              refine g7_162 S hK hR d7_count_77 ?_
              exact q_ipure S hr hlk h0 d7_count_80
            · have h0 := og_f hc6 h0
              by_cases hc7 : x1 = 6
              · have h0 := og_t hc7 h0
                refine q_tabI (off := 80) (tgt := 81) S d7_count_1 hc7 (by decide) (by decide) (by decide) (by decide) ?_
                refine lv_aload_n hx hb d7_count_81 rfl (lv_at hl 0 rfl) ?_
                refine g7_117 S hK hR d7_count_82 ?_
                exact q_ipure S hr hlk h0 d7_count_85
              · have h0 := og_f hc7 h0
                refine q_tabD (tgt := 86) S d7_count_1 [0, 1, 2, 3, 4, 5, 6] (by decide) (by decide) (List.forall_mem_cons.mpr ⟨ne_toInt hc1 (by decide), List.forall_mem_cons.mpr ⟨ne_toInt hc2 (by decide), List.forall_mem_cons.mpr ⟨ne_toInt hc3 (by decide), List.forall_mem_cons.mpr ⟨ne_toInt hc4 (by decide), List.forall_mem_cons.mpr ⟨ne_toInt hc5 (by decide), List.forall_mem_cons.mpr ⟨ne_toInt hc6 (by decide), List.forall_mem_cons.mpr ⟨ne_toInt hc7 (by decide), fun _ hq => absurd hq List.not_mem_nil⟩⟩⟩⟩⟩⟩⟩) (by decide) ?_
                refine lv_iconst (v := (-1)) hx hb d7_count_86 (by decide) ?_
                exact q_ipure S hr hlk h0 d7_count_87
