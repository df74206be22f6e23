/-! FourTenGatesModel.noHour(I)V -/
abbrev rm7_noHour : Room := { frames := 0, cells := 0, slots := 0, locals := 0 }
theorem d7_noHour_0 : decode cX7_noHour 0 = .ok (.aload_n 0, 1) := by decide +kernel
theorem d7_noHour_1 : decode cX7_noHour 1 = .ok (.getfield 13, 3) := by decide +kernel
theorem d7_noHour_4 : decode cX7_noHour 4 = .ok (.iload_n 1, 1) := by decide +kernel
theorem d7_noHour_5 : decode cX7_noHour 5 = .ok (.iconst 0, 1) := by decide +kernel
theorem d7_noHour_6 : decode cX7_noHour 6 = .ok (.iastore, 1) := by decide +kernel
theorem d7_noHour_7 : decode cX7_noHour 7 = .ok (.aload_n 0, 1) := by decide +kernel
theorem d7_noHour_8 : decode cX7_noHour 8 = .ok (.getfield 22, 3) := by decide +kernel
theorem d7_noHour_11 : decode cX7_noHour 11 = .ok (.iload_n 1, 1) := by decide +kernel
theorem d7_noHour_12 : decode cX7_noHour 12 = .ok (.iconst 0, 1) := by decide +kernel
theorem d7_noHour_13 : decode cX7_noHour 13 = .ok (.iastore, 1) := by decide +kernel
theorem d7_noHour_14 : decode cX7_noHour 14 = .ok (.aload_n 0, 1) := by decide +kernel
theorem d7_noHour_15 : decode cX7_noHour 15 = .ok (.getfield 37, 3) := by decide +kernel
theorem d7_noHour_18 : decode cX7_noHour 18 = .ok (.iload_n 1, 1) := by decide +kernel
theorem d7_noHour_19 : decode cX7_noHour 19 = .ok (.iconst 0, 1) := by decide +kernel
theorem d7_noHour_20 : decode cX7_noHour 20 = .ok (.iastore, 1) := by decide +kernel
theorem d7_noHour_21 : decode cX7_noHour 21 = .ok (.aload_n 0, 1) := by decide +kernel
theorem d7_noHour_22 : decode cX7_noHour 22 = .ok (.getfield 46, 3) := by decide +kernel
theorem d7_noHour_25 : decode cX7_noHour 25 = .ok (.iload_n 1, 1) := by decide +kernel
theorem d7_noHour_26 : decode cX7_noHour 26 = .ok (.iconst 0, 1) := by decide +kernel
theorem d7_noHour_27 : decode cX7_noHour 27 = .ok (.iastore, 1) := by decide +kernel
theorem d7_noHour_28 : decode cX7_noHour 28 = .ok (.aload_n 0, 1) := by decide +kernel
theorem d7_noHour_29 : decode cX7_noHour 29 = .ok (.getfield 31, 3) := by decide +kernel
theorem d7_noHour_32 : decode cX7_noHour 32 = .ok (.iconst 4, 1) := by decide +kernel
theorem d7_noHour_33 : decode cX7_noHour 33 = .ok (.iload_n 1, 1) := by decide +kernel
theorem d7_noHour_34 : decode cX7_noHour 34 = .ok (.imul, 1) := by decide +kernel
theorem d7_noHour_35 : decode cX7_noHour 35 = .ok (.iconst 4, 1) := by decide +kernel
theorem d7_noHour_36 : decode cX7_noHour 36 = .ok (.iastore, 1) := by decide +kernel
theorem d7_noHour_37 : decode cX7_noHour 37 = .ok (.aload_n 0, 1) := by decide +kernel
theorem d7_noHour_38 : decode cX7_noHour 38 = .ok (.getfield 31, 3) := by decide +kernel
theorem d7_noHour_41 : decode cX7_noHour 41 = .ok (.iconst 4, 1) := by decide +kernel
theorem d7_noHour_42 : decode cX7_noHour 42 = .ok (.iload_n 1, 1) := by decide +kernel
theorem d7_noHour_43 : decode cX7_noHour 43 = .ok (.imul, 1) := by decide +kernel
theorem d7_noHour_44 : decode cX7_noHour 44 = .ok (.iconst 1, 1) := by decide +kernel
theorem d7_noHour_45 : decode cX7_noHour 45 = .ok (.iadd, 1) := by decide +kernel
theorem d7_noHour_46 : decode cX7_noHour 46 = .ok (.bipush 20, 2) := by decide +kernel
theorem d7_noHour_48 : decode cX7_noHour 48 = .ok (.iastore, 1) := by decide +kernel
theorem d7_noHour_49 : decode cX7_noHour 49 = .ok (.aload_n 0, 1) := by decide +kernel
theorem d7_noHour_50 : decode cX7_noHour 50 = .ok (.getfield 31, 3) := by decide +kernel
theorem d7_noHour_53 : decode cX7_noHour 53 = .ok (.iconst 4, 1) := by decide +kernel
theorem d7_noHour_54 : decode cX7_noHour 54 = .ok (.iload_n 1, 1) := by decide +kernel
theorem d7_noHour_55 : decode cX7_noHour 55 = .ok (.imul, 1) := by decide +kernel
theorem d7_noHour_56 : decode cX7_noHour 56 = .ok (.iconst 2, 1) := by decide +kernel
theorem d7_noHour_57 : decode cX7_noHour 57 = .ok (.iadd, 1) := by decide +kernel
theorem d7_noHour_58 : decode cX7_noHour 58 = .ok (.bipush 60, 2) := by decide +kernel
theorem d7_noHour_60 : decode cX7_noHour 60 = .ok (.iastore, 1) := by decide +kernel
theorem d7_noHour_61 : decode cX7_noHour 61 = .ok (.aload_n 0, 1) := by decide +kernel
theorem d7_noHour_62 : decode cX7_noHour 62 = .ok (.getfield 31, 3) := by decide +kernel
theorem d7_noHour_65 : decode cX7_noHour 65 = .ok (.iconst 4, 1) := by decide +kernel
theorem d7_noHour_66 : decode cX7_noHour 66 = .ok (.iload_n 1, 1) := by decide +kernel
theorem d7_noHour_67 : decode cX7_noHour 67 = .ok (.imul, 1) := by decide +kernel
theorem d7_noHour_68 : decode cX7_noHour 68 = .ok (.iconst 3, 1) := by decide +kernel
theorem d7_noHour_69 : decode cX7_noHour 69 = .ok (.iadd, 1) := by decide +kernel
theorem d7_noHour_70 : decode cX7_noHour 70 = .ok (.bipush 30, 2) := by decide +kernel
theorem d7_noHour_72 : decode cX7_noHour 72 = .ok (.iastore, 1) := by decide +kernel
theorem d7_noHour_73 : decode cX7_noHour 73 = .ok (.iconst 0, 1) := by decide +kernel
theorem d7_noHour_74 : decode cX7_noHour 74 = .ok (.istore_n 2, 1) := by decide +kernel
theorem d7_noHour_75 : decode cX7_noHour 75 = .ok (.iload_n 2, 1) := by decide +kernel
theorem d7_noHour_76 : decode cX7_noHour 76 = .ok (.iconst 4, 1) := by decide +kernel
theorem d7_noHour_77 : decode cX7_noHour 77 = .ok (.if_icmp .ge 29, 3) := by decide +kernel
theorem d7_noHour_80 : decode cX7_noHour 80 = .ok (.aload_n 0, 1) := by decide +kernel
theorem d7_noHour_81 : decode cX7_noHour 81 = .ok (.getfield 34, 3) := by decide +kernel
theorem d7_noHour_84 : decode cX7_noHour 84 = .ok (.iconst 4, 1) := by decide +kernel
theorem d7_noHour_85 : decode cX7_noHour 85 = .ok (.iload_n 1, 1) := by decide +kernel
theorem d7_noHour_86 : decode cX7_noHour 86 = .ok (.imul, 1) := by decide +kernel
theorem d7_noHour_87 : decode cX7_noHour 87 = .ok (.iload_n 2, 1) := by decide +kernel
theorem d7_noHour_88 : decode cX7_noHour 88 = .ok (.iadd, 1) := by decide +kernel
theorem d7_noHour_89 : decode cX7_noHour 89 = .ok (.iload_n 2, 1) := by decide +kernel
theorem d7_noHour_90 : decode cX7_noHour 90 = .ok (.iconst 2, 1) := by decide +kernel
theorem d7_noHour_91 : decode cX7_noHour 91 = .ok (.if_icmp .ne 7, 3) := by decide +kernel
theorem d7_noHour_94 : decode cX7_noHour 94 = .ok (.iconst 5, 1) := by decide +kernel
theorem d7_noHour_95 : decode cX7_noHour 95 = .ok (.goto 4, 3) := by decide +kernel
theorem d7_noHour_98 : decode cX7_noHour 98 = .ok (.iconst 1, 1) := by decide +kernel
theorem d7_noHour_99 : decode cX7_noHour 99 = .ok (.iastore, 1) := by decide +kernel
theorem d7_noHour_100 : decode cX7_noHour 100 = .ok (.iinc 2 1, 3) := by decide +kernel
theorem d7_noHour_103 : decode cX7_noHour 103 = .ok (.goto (-28), 3) := by decide +kernel
theorem d7_noHour_106 : decode cX7_noHour 106 = .ok (.return_, 1) := by decide +kernel
def f7_noHour_b99 (k75 : Mem → Int32 → Int32 → Option Mem) (σ : Mem) (x1 : Int32) (x2 : Int32) (s1 : Int32) (s2 : Int32) : Option Mem := if ¬ (s1 < 0 ∨ 8 ≤ s1.toNatClampNeg) then (bm (mu σ 10 s1.toNatClampNeg s2) fun σ2 => k75 σ2 x1 (x2 + 1)) else none
set_option maxHeartbeats 4000000 in
set_option maxRecDepth 100000 in
theorem t7_noHour_b99 {p : Program} {l : Launch} {e : Env} {s : State} {m : MethodId} {args : Array Value} {below : List Frame} {meth : Method} {c : Code} {w : WV} {σ' : Mem} {k75 : Mem → Int32 → Int32 → Option Mem} (S : CallFix p m c cX7_noHour 3 s args gtbl RX7) (hr : meth.sig.returnType = none) (hlk : meth.locks = false) (hK : KS LM w s) (hk75 : ∀ (σ : Mem) (x1 : Int32) (x2 : Int32), k75 σ x1 x2 = some σ' → ∀ (H : Heap) (locs : List Loc), Rp EM LM w σ H → va_S (AW LM w) s.heap H locs → ∀ (ls : Array Slot), lv_has ls 3 [(0, .ref (w.2.2 0)), (1, .int x1), (2, .int x2)] → W p l e rm7_noHour s m args below meth c H locs 0 0 (MQ below (Qw EM LM w σ' none) args s 0 0 (AW LM w)) (F0 m 75 ls [])) : ∀ (σ : Mem) (x1 : Int32) (x2 : Int32) (s1 : Int32) (s2 : Int32), f7_noHour_b99 k75 σ x1 x2 s1 s2 = some σ' → ∀ (H : Heap) (locs : List Loc), Rp EM LM w σ H → va_S (AW LM w) s.heap H locs → ∀ (ls : Array Slot), lv_has ls 3 [(0, .ref (w.2.2 0)), (1, .int x1), (2, .int x2)] → W p l e rm7_noHour s m args below meth c H locs 0 0 (MQ below (Qw EM LM w σ' none) args s 0 0 (AW LM w)) (F0 m 99 ls [.int s2, .int s1, .ref (w.2.2 10)]) := by
  obtain ⟨hx, hb, hml, hown, hts⟩ := id S
  intro σ x1 x2 s1 s2 h0 H locs hR hS ls hl
  unfold f7_noHour_b99 at h0
  obtain ⟨hi1, h0⟩ := og_if h0
  obtain ⟨σ2, hm2, h0⟩ := og_m h0
  refine q_st S hK hR hS (by decide) (eM_109 w) hi1 rfl hm2 d7_noHour_99 (fun H locs hR hS => ?_)
  refine lv_iinc (v := x2 + 1) (lv' := [(2, .int (x2 + 1)), (0, .ref (w.2.2 0)), (1, .int x1)]) hx hb d7_noHour_100 hl (k := 2) rfl (ii1 _) (by decide) rfl (fun ls hl => ?_)
  refine lv_goto (tgt := 75) hx hb d7_noHour_103 (by decide) ?_
  exact hk75 σ2 x1 (x2 + 1) h0 _ _ hR hS _ (lv_sub hl [1, 2, 0] rfl)
def f7_noHour_b75 : Nat → Mem → Int32 → Int32 → Option Mem
  | 0, _, _, _ => none
  | n + 1, σ, x1, x2 => if 4 ≤ x2 then some σ else if x2 = 2 then f7_noHour_b99 (f7_noHour_b75 n) σ x1 x2 ((4 * x1) + x2) 5 else f7_noHour_b99 (f7_noHour_b75 n) σ x1 x2 ((4 * x1) + x2) 1
set_option maxHeartbeats 4000000 in
set_option maxRecDepth 100000 in
theorem t7_noHour_b75 {p : Program} {l : Launch} {e : Env} {s : State} {m : MethodId} {args : Array Value} {below : List Frame} {meth : Method} {c : Code} {w : WV} {σ' : Mem} (S : CallFix p m c cX7_noHour 3 s args gtbl RX7) (hr : meth.sig.returnType = none) (hlk : meth.locks = false) (hK : KS LM w s) : ∀ (n : Nat), ∀ (σ : Mem) (x1 : Int32) (x2 : Int32), f7_noHour_b75  n σ x1 x2 = some σ' → ∀ (H : Heap) (locs : List Loc), Rp EM LM w σ H → va_S (AW LM w) s.heap H locs → ∀ (ls : Array Slot), lv_has ls 3 [(0, .ref (w.2.2 0)), (1, .int x1), (2, .int x2)] → W p l e rm7_noHour s m args below meth c H locs 0 0 (MQ below (Qw EM LM w σ' none) args s 0 0 (AW LM w)) (F0 m 75 ls []) := by
  obtain ⟨hx, hb, hml, hown, hts⟩ := id S
  intro n
  induction n with
  | zero =>
    intro σ x1 x2 h0
    cases (show none = _ from h0)
  | succ n ih =>
    intro σ x1 x2 h0 H locs hR hS ls hl
    rw [f7_noHour_b75] at h0
    refine lv_iload_n hx hb d7_noHour_75 rfl (lv_at hl 2 rfl) ?_
    refine lv_iconst (v := 4) hx hb d7_noHour_76 (by decide) ?_
    refine lv_icmp_ge (tgt := 106) hx hb d7_noHour_77 (by decide) (fun hc1 => ?_) (fun hc1 => ?_)
    · have h0 := og_t hc1 h0
      exact q_vret S hr hlk hR hS h0 d7_noHour_106
    · have h0 := og_f hc1 h0
      refine lv_aload_n hx hb d7_noHour_80 rfl (lv_at hl 0 rfl) ?_
      refine g7_34 S hK hR d7_noHour_81 ?_
      refine lv_iconst (v := 4) hx hb d7_noHour_84 (by decide) ?_
      refine lv_iload_n hx hb d7_noHour_85 rfl (lv_at hl 1 rfl) ?_
      refine lv_imul hx hb d7_noHour_86 ?_
      refine lv_iload_n hx hb d7_noHour_87 rfl (lv_at hl 2 rfl) ?_
      refine lv_iadd hx hb d7_noHour_88 ?_
      refine lv_iload_n hx hb d7_noHour_89 rfl (lv_at hl 2 rfl) ?_
      refine lv_iconst (v := 2) hx hb d7_noHour_90 (by decide) ?_
      refine lv_icmp_ne (tgt := 98) hx hb d7_noHour_91 (by decide) (fun hc2 => ?_) (fun hc2 => ?_)
      · have h0 := og_f hc2 h0
        refine lv_iconst (v := 1) hx hb d7_noHour_98 (by decide) ?_
        exact t7_noHour_b99 S hr hlk hK ih σ x1 x2 ((4 * x1) + x2) 1 h0 _ _ hR hS _ (lv_sub hl [0, 1, 2] rfl)
      · have h0 := og_t hc2 h0
        refine lv_iconst (v := 5) hx hb d7_noHour_94 (by decide) ?_
        refine lv_goto (tgt := 99) hx hb d7_noHour_95 (by decide) ?_
        exact t7_noHour_b99 S hr hlk hK ih σ x1 x2 ((4 * x1) + x2) 5 h0 _ _ hR hS _ (lv_sub hl [0, 1, 2] rfl)
def f7_noHour (σ : Mem) (x1 : Int32) : Option Mem := if ¬ (x1 < 0 ∨ 2 ≤ x1.toNatClampNeg) then (bm (mu σ 3 x1.toNatClampNeg 0) fun σ2 => if ¬ (x1 < 0 ∨ 2 ≤ x1.toNatClampNeg) then (bm (mu σ2 6 x1.toNatClampNeg 0) fun σ4 => if ¬ (x1 < 0 ∨ 2 ≤ x1.toNatClampNeg) then (bm (mu σ4 11 x1.toNatClampNeg 0) fun σ6 => if ¬ (x1 < 0 ∨ 2 ≤ x1.toNatClampNeg) then (bm (mu σ6 14 x1.toNatClampNeg 0) fun σ8 => if ¬ (4 * x1 < 0 ∨ 8 ≤ (4 * x1).toNatClampNeg) then (bm (mu σ8 9 ((4 * x1).toNatClampNeg) 4) fun σ10 => if ¬ ((4 * x1) + 1 < 0 ∨ 8 ≤ ((4 * x1) + 1).toNatClampNeg) then (bm (mu σ10 9 (((4 * x1) + 1).toNatClampNeg) 20) fun σ12 => if ¬ ((4 * x1) + 2 < 0 ∨ 8 ≤ ((4 * x1) + 2).toNatClampNeg) then (bm (mu σ12 9 (((4 * x1) + 2).toNatClampNeg) 60) fun σ14 => if ¬ ((4 * x1) + 3 < 0 ∨ 8 ≤ ((4 * x1) + 3).toNatClampNeg) then (bm (mu σ14 9 (((4 * x1) + 3).toNatClampNeg) 30) fun σ16 => f7_noHour_b75 1000 σ16 x1 0) else none) else none) else none) else none) else none) else none) else none) else none
set_option maxHeartbeats 4000000 in
set_option maxRecDepth 100000 in
theorem c7_noHour (l : Launch) {w : WV} {σ : Mem} {x1 : Int32} {σ' : Mem} (h0 : f7_noHour σ x1 = some σ') : Met l yX7_noHour (wy yX7_noHour cX7_noHour 3 none) rm7_noHour (Pw EM LM w [.ref (w.2.2 0), .int x1] σ) (Qw EM LM w σ' none) 0 0 (AW LM w) := by
  refine mk_met (by decide) (Nat.le_of_ble_eq_true rfl) ?_
  intro p e s m below meth c S hr hlk hK hR ls hl
  obtain ⟨hx, hb, hml, hown, hts⟩ := id S
  have hl : lv_has ls 3 [(0, .ref (w.2.2 0)), (1, .int x1)] := hl
  have hS : va_S (AW LM w) s.heap s.heap [] := va_S.rf
  unfold f7_noHour at h0
  refine lv_aload_n hx hb d7_noHour_0 rfl (lv_at hl 0 rfl) ?_
  refine g7_13 S hK hR d7_noHour_1 ?_
  refine lv_iload_n hx hb d7_noHour_4 rfl (lv_at hl 1 rfl) ?_
  refine lv_iconst (v := 0) hx hb d7_noHour_5 (by decide) ?_
  obtain ⟨hi1, h0⟩ := og_if h0
  obtain ⟨σ2, hm2, h0⟩ := og_m h0
  refine q_st S hK hR hS (by decide) (eM_102 w) hi1 rfl hm2 d7_noHour_6 (fun H locs hR hS => ?_)
  refine lv_aload_n hx hb d7_noHour_7 rfl (lv_at hl 0 rfl) ?_
  refine g7_22 S hK hR d7_noHour_8 ?_
  refine lv_iload_n hx hb d7_noHour_11 rfl (lv_at hl 1 rfl) ?_
  refine lv_iconst (v := 0) hx hb d7_noHour_12 (by decide) ?_
  obtain ⟨hi3, h0⟩ := og_if h0
  obtain ⟨σ4, hm4, h0⟩ := og_m h0
  refine q_st S hK hR hS (by decide) (eM_105 w) hi3 rfl hm4 d7_noHour_13 (fun H locs hR hS => ?_)
  refine lv_aload_n hx hb d7_noHour_14 rfl (lv_at hl 0 rfl) ?_
  refine g7_37 S hK hR d7_noHour_15 ?_
  refine lv_iload_n hx hb d7_noHour_18 rfl (lv_at hl 1 rfl) ?_
  refine lv_iconst (v := 0) hx hb d7_noHour_19 (by decide) ?_
  obtain ⟨hi5, h0⟩ := og_if h0
  obtain ⟨σ6, hm6, h0⟩ := og_m h0
  refine q_st S hK hR hS (by decide) (eM_110 w) hi5 rfl hm6 d7_noHour_20 (fun H locs hR hS => ?_)
  refine lv_aload_n hx hb d7_noHour_21 rfl (lv_at hl 0 rfl) ?_
  refine g7_46 S hK hR d7_noHour_22 ?_
  refine lv_iload_n hx hb d7_noHour_25 rfl (lv_at hl 1 rfl) ?_
  refine lv_iconst (v := 0) hx hb d7_noHour_26 (by decide) ?_
  obtain ⟨hi7, h0⟩ := og_if h0
  obtain ⟨σ8, hm8, h0⟩ := og_m h0
  refine q_st S hK hR hS (by decide) (eM_113 w) hi7 rfl hm8 d7_noHour_27 (fun H locs hR hS => ?_)
  refine lv_aload_n hx hb d7_noHour_28 rfl (lv_at hl 0 rfl) ?_
  refine g7_31 S hK hR d7_noHour_29 ?_
  refine lv_iconst (v := 4) hx hb d7_noHour_32 (by decide) ?_
  refine lv_iload_n hx hb d7_noHour_33 rfl (lv_at hl 1 rfl) ?_
  refine lv_imul hx hb d7_noHour_34 ?_
  refine lv_iconst (v := 4) hx hb d7_noHour_35 (by decide) ?_
  obtain ⟨hi9, h0⟩ := og_if h0
  obtain ⟨σ10, hm10, h0⟩ := og_m h0
  refine q_st S hK hR hS (by decide) (eM_108 w) hi9 rfl hm10 d7_noHour_36 (fun H locs hR hS => ?_)
  refine lv_aload_n hx hb d7_noHour_37 rfl (lv_at hl 0 rfl) ?_
  refine g7_31 S hK hR d7_noHour_38 ?_
  refine lv_iconst (v := 4) hx hb d7_noHour_41 (by decide) ?_
  refine lv_iload_n hx hb d7_noHour_42 rfl (lv_at hl 1 rfl) ?_
  refine lv_imul hx hb d7_noHour_43 ?_
  refine lv_iconst (v := 1) hx hb d7_noHour_44 (by decide) ?_
  refine lv_iadd hx hb d7_noHour_45 ?_
  refine lv_bipush (v := 20) hx hb d7_noHour_46 (by decide) ?_
  obtain ⟨hi11, h0⟩ := og_if h0
  obtain ⟨σ12, hm12, h0⟩ := og_m h0
  refine q_st S hK hR hS (by decide) (eM_108 w) hi11 rfl hm12 d7_noHour_48 (fun H locs hR hS => ?_)
  refine lv_aload_n hx hb d7_noHour_49 rfl (lv_at hl 0 rfl) ?_
  refine g7_31 S hK hR d7_noHour_50 ?_
  refine lv_iconst (v := 4) hx hb d7_noHour_53 (by decide) ?_
  refine lv_iload_n hx hb d7_noHour_54 rfl (lv_at hl 1 rfl) ?_
  refine lv_imul hx hb d7_noHour_55 ?_
  refine lv_iconst (v := 2) hx hb d7_noHour_56 (by decide) ?_
  refine lv_iadd hx hb d7_noHour_57 ?_
  refine lv_bipush (v := 60) hx hb d7_noHour_58 (by decide) ?_
  obtain ⟨hi13, h0⟩ := og_if h0
  obtain ⟨σ14, hm14, h0⟩ := og_m h0
  refine q_st S hK hR hS (by decide) (eM_108 w) hi13 rfl hm14 d7_noHour_60 (fun H locs hR hS => ?_)
  refine lv_aload_n hx hb d7_noHour_61 rfl (lv_at hl 0 rfl) ?_
  refine g7_31 S hK hR d7_noHour_62 ?_
  refine lv_iconst (v := 4) hx hb d7_noHour_65 (by decide) ?_
  refine lv_iload_n hx hb d7_noHour_66 rfl (lv_at hl 1 rfl) ?_
  refine lv_imul hx hb d7_noHour_67 ?_
  refine lv_iconst (v := 3) hx hb d7_noHour_68 (by decide) ?_
  refine lv_iadd hx hb d7_noHour_69 ?_
  refine lv_bipush (v := 30) hx hb d7_noHour_70 (by decide) ?_
  obtain ⟨hi15, h0⟩ := og_if h0
  obtain ⟨σ16, hm16, h0⟩ := og_m h0
  refine q_st S hK hR hS (by decide) (eM_108 w) hi15 rfl hm16 d7_noHour_72 (fun H locs hR hS => ?_)
  refine lv_iconst (v := 0) hx hb d7_noHour_73 (by decide) ?_
  refine lv_istore_n (lv' := [(2, .int 0), (0, .ref (w.2.2 0)), (1, .int x1)]) hx hb d7_noHour_74 rfl hl (by decide) rfl (fun ls hl => ?_)
  exact t7_noHour_b75 S hr hlk hK 1000 σ16 x1 0 h0 _ _ hR hS _ (lv_sub hl [1, 2, 0] rfl)
set_option maxHeartbeats 4000000 in
set_option maxRecDepth 100000 in
theorem k7_95 {p : Program} {l : Launch} {e : Env} {R : Room} {s : State} {m : MethodId} {args : Array Value} {below : List Frame} {meth : Method} {c : Code} {H : Heap} {locs : List Loc} {cells slots : Nat} {Q : State → Prop} {cc : ByteArray} {pc nL : Nat} {ls : Array Slot} {rest : List Value} {w : WV} {σ : Mem} {x1 : Int32} {σ1 : Mem} (S : CallFix p m c cc nL s args gtbl RX7) (hK : KS LM w s) (hR : Rp EM LM w σ H) (hS : va_S (AW LM w) s.heap H locs) (h0 : f7_noHour σ x1 = some σ1) (hf : cells + 0 ≤ R.cells ∧ slots + 0 ≤ R.slots) (hRm : rm7_noHour.frames + 1 ≤ R.frames ∧ 8 + (3 + 11) + rm7_noHour.locals ≤ R.locals) (hl : ls.size = nL) (hW : (rest.map fun v => v.category).sum ≤ 8) (hdg : decode cc pc = .ok (.invokevirtual 95, 3)) (kk : ∀ (H1 : Heap) (locs1 : List Loc), Rp EM LM w σ1 H1 → va_S (AW LM w) s.heap H1 locs1 → W p l e R s m args below meth c H1 locs1 cells slots Q (F0 m (pc + 3) ls (rest))) : W p l e R s m args below meth c H locs cells slots Q (F0 m pc ls (.int x1 :: .ref (w.2.2 0) :: rest)) := r_end hS (run_V (n := 1) (As := [.int x1]) S hK hR (by decide) (eM_7 w _) rfl (gw_V (gt_at 890 (by decide +kernel) (by decide +kernel)) (gt_at 892 (by decide +kernel) (by decide +kernel)) (gt_at 38 (by decide +kernel) (by decide +kernel)) (gt_at 86 (by decide +kernel) (by decide +kernel)) (gt_at 893 (by decide +kernel) (by decide +kernel))) (by decide +kernel) rfl (c7_noHour l h0) ⟨rfl, rfl⟩ hRm hf hl rfl hW hdg) kk
/-! FourTenGatesModel.addTrain(III)V -/
abbrev rm7_addTrain : Room := { frames := 0, cells := 0, slots := 0, locals := 0 }
theorem d7_addTrain_0 : decode cX7_addTrain 0 = .ok (.aload_n 0, 1) := by decide +kernel
theorem d7_addTrain_1 : decode cX7_addTrain 1 = .ok (.getfield 16, 3) := by decide +kernel
theorem d7_addTrain_4 : decode cX7_addTrain 4 = .ok (.bipush 6, 2) := by decide +kernel
theorem d7_addTrain_6 : decode cX7_addTrain 6 = .ok (.iload_n 1, 1) := by decide +kernel
theorem d7_addTrain_7 : decode cX7_addTrain 7 = .ok (.imul, 1) := by decide +kernel
theorem d7_addTrain_8 : decode cX7_addTrain 8 = .ok (.aload_n 0, 1) := by decide +kernel
theorem d7_addTrain_9 : decode cX7_addTrain 9 = .ok (.getfield 13, 3) := by decide +kernel
theorem d7_addTrain_12 : decode cX7_addTrain 12 = .ok (.iload_n 1, 1) := by decide +kernel
theorem d7_addTrain_13 : decode cX7_addTrain 13 = .ok (.iaload, 1) := by decide +kernel
theorem d7_addTrain_14 : decode cX7_addTrain 14 = .ok (.iadd, 1) := by decide +kernel
theorem d7_addTrain_15 : decode cX7_addTrain 15 = .ok (.iload_n 2, 1) := by decide +kernel
theorem d7_addTrain_16 : decode cX7_addTrain 16 = .ok (.iastore, 1) := by decide +kernel
theorem d7_addTrain_17 : decode cX7_addTrain 17 = .ok (.aload_n 0, 1) := by decide +kernel
theorem d7_addTrain_18 : decode cX7_addTrain 18 = .ok (.getfield 19, 3) := by decide +kernel
theorem d7_addTrain_21 : decode cX7_addTrain 21 = .ok (.bipush 6, 2) := by decide +kernel
theorem d7_addTrain_23 : decode cX7_addTrain 23 = .ok (.iload_n 1, 1) := by decide +kernel
theorem d7_addTrain_24 : decode cX7_addTrain 24 = .ok (.imul, 1) := by decide +kernel
theorem d7_addTrain_25 : decode cX7_addTrain 25 = .ok (.aload_n 0, 1) := by decide +kernel
theorem d7_addTrain_26 : decode cX7_addTrain 26 = .ok (.getfield 13, 3) := by decide +kernel
theorem d7_addTrain_29 : decode cX7_addTrain 29 = .ok (.iload_n 1, 1) := by decide +kernel
theorem d7_addTrain_30 : decode cX7_addTrain 30 = .ok (.iaload, 1) := by decide +kernel
theorem d7_addTrain_31 : decode cX7_addTrain 31 = .ok (.iadd, 1) := by decide +kernel
theorem d7_addTrain_32 : decode cX7_addTrain 32 = .ok (.iload_n 3, 1) := by decide +kernel
theorem d7_addTrain_33 : decode cX7_addTrain 33 = .ok (.iastore, 1) := by decide +kernel
theorem d7_addTrain_34 : decode cX7_addTrain 34 = .ok (.aload_n 0, 1) := by decide +kernel
theorem d7_addTrain_35 : decode cX7_addTrain 35 = .ok (.getfield 13, 3) := by decide +kernel
theorem d7_addTrain_38 : decode cX7_addTrain 38 = .ok (.iload_n 1, 1) := by decide +kernel
theorem d7_addTrain_39 : decode cX7_addTrain 39 = .ok (.dup2, 1) := by decide +kernel
theorem d7_addTrain_40 : decode cX7_addTrain 40 = .ok (.iaload, 1) := by decide +kernel
theorem d7_addTrain_41 : decode cX7_addTrain 41 = .ok (.iconst 1, 1) := by decide +kernel
theorem d7_addTrain_42 : decode cX7_addTrain 42 = .ok (.iadd, 1) := by decide +kernel
theorem d7_addTrain_43 : decode cX7_addTrain 43 = .ok (.iastore, 1) := by decide +kernel
theorem d7_addTrain_44 : decode cX7_addTrain 44 = .ok (.return_, 1) := by decide +kernel
def f7_addTrain (σ : Mem) (x1 : Int32) (x2 : Int32) (x3 : Int32) : Option Mem := if ¬ (x1 < 0 ∨ 2 ≤ x1.toNatClampNeg) then if ¬ ((6 * x1) + (σ 3 x1.toNatClampNeg) < 0 ∨ 12 ≤ ((6 * x1) + (σ 3 x1.toNatClampNeg)).toNatClampNeg) then (bm (mu σ 4 (((6 * x1) + (σ 3 x1.toNatClampNeg)).toNatClampNeg) x2) fun σ3 => if ¬ (x1 < 0 ∨ 2 ≤ x1.toNatClampNeg) then if ¬ ((6 * x1) + (σ3 3 x1.toNatClampNeg) < 0 ∨ 12 ≤ ((6 * x1) + (σ3 3 x1.toNatClampNeg)).toNatClampNeg) then (bm (mu σ3 5 (((6 * x1) + (σ3 3 x1.toNatClampNeg)).toNatClampNeg) x3) fun σ6 => if ¬ (x1 < 0 ∨ 2 ≤ x1.toNatClampNeg) then if ¬ (x1 < 0 ∨ 2 ≤ x1.toNatClampNeg) then (bm (mu σ6 3 x1.toNatClampNeg ((σ6 3 x1.toNatClampNeg) + 1)) fun σ9 => some σ9) else none else none) else none else none) else none else none
set_option maxHeartbeats 4000000 in
set_option maxRecDepth 100000 in
theorem c7_addTrain (l : Launch) {w : WV} {σ : Mem} {x1 : Int32} {x2 : Int32} {x3 : Int32} {σ' : Mem} (h0 : f7_addTrain σ x1 x2 x3 = some σ') : Met l yX7_addTrain (wy yX7_addTrain cX7_addTrain 4 none) rm7_addTrain (Pw EM LM w [.ref (w.2.2 0), .int x1, .int x2, .int x3] σ) (Qw EM LM w σ' none) 0 0 (AW LM w) := by
  refine mk_met (by decide) (Nat.le_of_ble_eq_true rfl) ?_
  intro p e s m below meth c S hr hlk hK hR ls hl
  obtain ⟨hx, hb, hml, hown, hts⟩ := id S
  have hl : lv_has ls 4 [(0, .ref (w.2.2 0)), (1, .int x1), (2, .int x2), (3, .int x3)] := hl
  have hS : va_S (AW LM w) s.heap s.heap [] := va_S.rf
  unfold f7_addTrain at h0
  refine lv_aload_n hx hb d7_addTrain_0 rfl (lv_at hl 0 rfl) ?_
  refine g7_16 S hK hR d7_addTrain_1 ?_
  refine lv_bipush (v := 6) hx hb d7_addTrain_4 (by decide) ?_
  refine lv_iload_n hx hb d7_addTrain_6 rfl (lv_at hl 1 rfl) ?_
  refine lv_imul hx hb d7_addTrain_7 ?_
  refine lv_aload_n hx hb d7_addTrain_8 rfl (lv_at hl 0 rfl) ?_
  refine g7_13 S hK hR d7_addTrain_9 ?_
  refine lv_iload_n hx hb d7_addTrain_12 rfl (lv_at hl 1 rfl) ?_
  obtain ⟨hi1, h0⟩ := og_if h0
  refine q_ld (k := x1.toNatClampNeg) S hK hR (by decide) (eM_102 w _) hi1 rfl d7_addTrain_13 ?_
  refine lv_iadd hx hb d7_addTrain_14 ?_
  refine lv_iload_n hx hb d7_addTrain_15 rfl (lv_at hl 2 rfl) ?_
  obtain ⟨hi2, h0⟩ := og_if h0
  obtain ⟨σ3, hm3, h0⟩ := og_m h0
  refine q_st S hK hR hS (by decide) (eM_103 w) hi2 rfl hm3 d7_addTrain_16 (fun H locs hR hS => ?_)
  refine lv_aload_n hx hb d7_addTrain_17 rfl (lv_at hl 0 rfl) ?_
  refine g7_19 S hK hR d7_addTrain_18 ?_
  refine lv_bipush (v := 6) hx hb d7_addTrain_21 (by decide) ?_
  refine lv_iload_n hx hb d7_addTrain_23 rfl (lv_at hl 1 rfl) ?_
  refine lv_imul hx hb d7_addTrain_24 ?_
  refine lv_aload_n hx hb d7_addTrain_25 rfl (lv_at hl 0 rfl) ?_
  refine g7_13 S hK hR d7_addTrain_26 ?_
  refine lv_iload_n hx hb d7_addTrain_29 rfl (lv_at hl 1 rfl) ?_
  obtain ⟨hi4, h0⟩ := og_if h0
  refine q_ld (k := x1.toNatClampNeg) S hK hR (by decide) (eM_102 w _) hi4 rfl d7_addTrain_30 ?_
  refine lv_iadd hx hb d7_addTrain_31 ?_
  refine lv_iload_n hx hb d7_addTrain_32 rfl (lv_at hl 3 rfl) ?_
  obtain ⟨hi5, h0⟩ := og_if h0
  obtain ⟨σ6, hm6, h0⟩ := og_m h0
  refine q_st S hK hR hS (by decide) (eM_104 w) hi5 rfl hm6 d7_addTrain_33 (fun H locs hR hS => ?_)
  refine lv_aload_n hx hb d7_addTrain_34 rfl (lv_at hl 0 rfl) ?_
  refine g7_13 S hK hR d7_addTrain_35 ?_
  refine lv_iload_n hx hb d7_addTrain_38 rfl (lv_at hl 1 rfl) ?_
  refine lv_dup2_11 hx hb d7_addTrain_39 rfl rfl ?_
  obtain ⟨hi7, h0⟩ := og_if h0
  refine q_ld (k := x1.toNatClampNeg) S hK hR (by decide) (eM_102 w _) hi7 rfl d7_addTrain_40 ?_
  refine lv_iconst (v := 1) hx hb d7_addTrain_41 (by decide) ?_
  refine lv_iadd hx hb d7_addTrain_42 ?_
  obtain ⟨hi8, h0⟩ := og_if h0
  obtain ⟨σ9, hm9, h0⟩ := og_m h0
  refine q_st S hK hR hS (by decide) (eM_102 w) hi8 rfl hm9 d7_addTrain_43 (fun H locs hR hS => ?_)
  exact q_vret S hr hlk hR hS h0 d7_addTrain_44
set_option maxHeartbeats 4000000 in
set_option maxRecDepth 100000 in
theorem k7_99 {p : Program} {l : Launch} {e : Env} {R : Room} {s : State} {m : MethodId} {args : Array Value} {below : List Frame} {meth : Method} {c : Code} {H : Heap} {locs : List Loc} {cells slots : Nat} {Q : State → Prop} {cc : ByteArray} {pc nL : Nat} {ls : Array Slot} {rest : List Value} {w : WV} {σ : Mem} {x1 : Int32} {x2 : Int32} {x3 : Int32} {σ1 : Mem} (S : CallFix p m c cc nL s args gtbl RX7) (hK : KS LM w s) (hR : Rp EM LM w σ H) (hS : va_S (AW LM w) s.heap H locs) (h0 : f7_addTrain σ x1 x2 x3 = some σ1) (hf : cells + 0 ≤ R.cells ∧ slots + 0 ≤ R.slots) (hRm : rm7_addTrain.frames + 1 ≤ R.frames ∧ 8 + (4 + 11) + rm7_addTrain.locals ≤ R.locals) (hl : ls.size = nL) (hW : (rest.map fun v => v.category).sum ≤ 8) (hdg : decode cc pc = .ok (.invokevirtual 99, 3)) (kk : ∀ (H1 : Heap) (locs1 : List Loc), Rp EM LM w σ1 H1 → va_S (AW LM w) s.heap H1 locs1 → W p l e R s m args below meth c H1 locs1 cells slots Q (F0 m (pc + 3) ls (rest))) : W p l e R s m args below meth c H locs cells slots Q (F0 m pc ls (.int x3 :: .int x2 :: .int x1 :: .ref (w.2.2 0) :: rest)) := r_end hS (run_V (n := 3) (As := [.int x1, .int x2, .int x3]) S hK hR (by decide) (eM_7 w _) rfl (gw_V (gt_at 894 (by decide +kernel) (by decide +kernel)) (gt_at 896 (by decide +kernel) (by decide +kernel)) (gt_at 39 (by decide +kernel) (by decide +kernel)) (gt_at 86 (by decide +kernel) (by decide +kernel)) (gt_at 897 (by decide +kernel) (by decide +kernel))) (by decide +kernel) rfl (c7_addTrain l h0) ⟨rfl, rfl⟩ hRm hf hl rfl hW hdg) kk
/-! FourTenGatesModel.addUser(III)V -/
abbrev rm7_addUser : Room := { frames := 0, cells := 0, slots := 0, locals := 0 }
theorem d7_addUser_0 : decode cX7_addUser 0 = .ok (.aload_n 0, 1) := by decide +kernel
theorem d7_addUser_1 : decode cX7_addUser 1 = .ok (.getfield 25, 3) := by decide +kernel
theorem d7_addUser_4 : decode cX7_addUser 4 = .ok (.bipush 8, 2) := by decide +kernel
theorem d7_addUser_6 : decode cX7_addUser 6 = .ok (.iload_n 1, 1) := by decide +kernel
theorem d7_addUser_7 : decode cX7_addUser 7 = .ok (.imul, 1) := by decide +kernel
theorem d7_addUser_8 : decode cX7_addUser 8 = .ok (.aload_n 0, 1) := by decide +kernel
theorem d7_addUser_9 : decode cX7_addUser 9 = .ok (.getfield 22, 3) := by decide +kernel
theorem d7_addUser_12 : decode cX7_addUser 12 = .ok (.iload_n 1, 1) := by decide +kernel
theorem d7_addUser_13 : decode cX7_addUser 13 = .ok (.iaload, 1) := by decide +kernel
theorem d7_addUser_14 : decode cX7_addUser 14 = .ok (.iadd, 1) := by decide +kernel
theorem d7_addUser_15 : decode cX7_addUser 15 = .ok (.iload_n 2, 1) := by decide +kernel
theorem d7_addUser_16 : decode cX7_addUser 16 = .ok (.iastore, 1) := by decide +kernel
theorem d7_addUser_17 : decode cX7_addUser 17 = .ok (.aload_n 0, 1) := by decide +kernel
theorem d7_addUser_18 : decode cX7_addUser 18 = .ok (.getfield 28, 3) := by decide +kernel
theorem d7_addUser_21 : decode cX7_addUser 21 = .ok (.bipush 8, 2) := by decide +kernel
theorem d7_addUser_23 : decode cX7_addUser 23 = .ok (.iload_n 1, 1) := by decide +kernel
theorem d7_addUser_24 : decode cX7_addUser 24 = .ok (.imul, 1) := by decide +kernel
theorem d7_addUser_25 : decode cX7_addUser 25 = .ok (.aload_n 0, 1) := by decide +kernel
theorem d7_addUser_26 : decode cX7_addUser 26 = .ok (.getfield 22, 3) := by decide +kernel
theorem d7_addUser_29 : decode cX7_addUser 29 = .ok (.iload_n 1, 1) := by decide +kernel
theorem d7_addUser_30 : decode cX7_addUser 30 = .ok (.iaload, 1) := by decide +kernel
theorem d7_addUser_31 : decode cX7_addUser 31 = .ok (.iadd, 1) := by decide +kernel
theorem d7_addUser_32 : decode cX7_addUser 32 = .ok (.iload_n 3, 1) := by decide +kernel
theorem d7_addUser_33 : decode cX7_addUser 33 = .ok (.iastore, 1) := by decide +kernel
theorem d7_addUser_34 : decode cX7_addUser 34 = .ok (.aload_n 0, 1) := by decide +kernel
theorem d7_addUser_35 : decode cX7_addUser 35 = .ok (.getfield 22, 3) := by decide +kernel
theorem d7_addUser_38 : decode cX7_addUser 38 = .ok (.iload_n 1, 1) := by decide +kernel
theorem d7_addUser_39 : decode cX7_addUser 39 = .ok (.dup2, 1) := by decide +kernel
theorem d7_addUser_40 : decode cX7_addUser 40 = .ok (.iaload, 1) := by decide +kernel
theorem d7_addUser_41 : decode cX7_addUser 41 = .ok (.iconst 1, 1) := by decide +kernel
theorem d7_addUser_42 : decode cX7_addUser 42 = .ok (.iadd, 1) := by decide +kernel
theorem d7_addUser_43 : decode cX7_addUser 43 = .ok (.iastore, 1) := by decide +kernel
theorem d7_addUser_44 : decode cX7_addUser 44 = .ok (.return_, 1) := by decide +kernel
def f7_addUser (σ : Mem) (x1 : Int32) (x2 : Int32) (x3 : Int32) : Option Mem := if ¬ (x1 < 0 ∨ 2 ≤ x1.toNatClampNeg) then if ¬ ((8 * x1) + (σ 6 x1.toNatClampNeg) < 0 ∨ 16 ≤ ((8 * x1) + (σ 6 x1.toNatClampNeg)).toNatClampNeg) then (bm (mu σ 7 (((8 * x1) + (σ 6 x1.toNatClampNeg)).toNatClampNeg) x2) fun σ3 => if ¬ (x1 < 0 ∨ 2 ≤ x1.toNatClampNeg) then if ¬ ((8 * x1) + (σ3 6 x1.toNatClampNeg) < 0 ∨ 16 ≤ ((8 * x1) + (σ3 6 x1.toNatClampNeg)).toNatClampNeg) then (bm (mu σ3 8 (((8 * x1) + (σ3 6 x1.toNatClampNeg)).toNatClampNeg) x3) fun σ6 => if ¬ (x1 < 0 ∨ 2 ≤ x1.toNatClampNeg) then if ¬ (x1 < 0 ∨ 2 ≤ x1.toNatClampNeg) then (bm (mu σ6 6 x1.toNatClampNeg ((σ6 6 x1.toNatClampNeg) + 1)) fun σ9 => some σ9) else none else none) else none else none) else none else none
set_option maxHeartbeats 4000000 in
set_option maxRecDepth 100000 in
theorem c7_addUser (l : Launch) {w : WV} {σ : Mem} {x1 : Int32} {x2 : Int32} {x3 : Int32} {σ' : Mem} (h0 : f7_addUser σ x1 x2 x3 = some σ') : Met l yX7_addUser (wy yX7_addUser cX7_addUser 4 none) rm7_addUser (Pw EM LM w [.ref (w.2.2 0), .int x1, .int x2, .int x3] σ) (Qw EM LM w σ' none) 0 0 (AW LM w) := by
  refine mk_met (by decide) (Nat.le_of_ble_eq_true rfl) ?_
  intro p e s m below meth c S hr hlk hK hR ls hl
  obtain ⟨hx, hb, hml, hown, hts⟩ := id S
  have hl : lv_has ls 4 [(0, .ref (w.2.2 0)), (1, .int x1), (2, .int x2), (3, .int x3)] := hl
  have hS : va_S (AW LM w) s.heap s.heap [] := va_S.rf
  unfold f7_addUser at h0
  refine lv_aload_n hx hb d7_addUser_0 rfl (lv_at hl 0 rfl) ?_
  refine g7_25 S hK hR d7_addUser_1 ?_
  refine lv_bipush (v := 8) hx hb d7_addUser_4 (by decide) ?_
  refine lv_iload_n hx hb d7_addUser_6 rfl (lv_at hl 1 rfl) ?_
  refine lv_imul hx hb d7_addUser_7 ?_
  refine lv_aload_n hx hb d7_addUser_8 rfl (lv_at hl 0 rfl) ?_
  refine g7_22 S hK hR d7_addUser_9 ?_
  refine lv_iload_n hx hb d7_addUser_12 rfl (lv_at hl 1 rfl) ?_
  obtain ⟨hi1, h0⟩ := og_if h0
  refine q_ld (k := x1.toNatClampNeg) S hK hR (by decide) (eM_105 w _) hi1 rfl d7_addUser_13 ?_
  refine lv_iadd hx hb d7_addUser_14 ?_
  refine lv_iload_n hx hb d7_addUser_15 rfl (lv_at hl 2 rfl) ?_
  obtain ⟨hi2, h0⟩ := og_if h0
  obtain ⟨σ3, hm3, h0⟩ := og_m h0
  refine q_st S hK hR hS (by decide) (eM_106 w) hi2 rfl hm3 d7_addUser_16 (fun H locs hR hS => ?_)
  refine lv_aload_n hx hb d7_addUser_17 rfl (lv_at hl 0 rfl) ?_
  refine g7_28 S hK hR d7_addUser_18 ?_
  refine lv_bipush (v := 8) hx hb d7_addUser_21 (by decide) ?_
  refine lv_iload_n hx hb d7_addUser_23 rfl (lv_at hl 1 rfl) ?_
  refine lv_imul hx hb d7_addUser_24 ?_
  refine lv_aload_n hx hb d7_addUser_25 rfl (lv_at hl 0 rfl) ?_
  refine g7_22 S hK hR d7_addUser_26 ?_
  refine lv_iload_n hx hb d7_addUser_29 rfl (lv_at hl 1 rfl) ?_
  obtain ⟨hi4, h0⟩ := og_if h0
  refine q_ld (k := x1.toNatClampNeg) S hK hR (by decide) (eM_105 w _) hi4 rfl d7_addUser_30 ?_
  refine lv_iadd hx hb d7_addUser_31 ?_
  refine lv_iload_n hx hb d7_addUser_32 rfl (lv_at hl 3 rfl) ?_
  obtain ⟨hi5, h0⟩ := og_if h0
  obtain ⟨σ6, hm6, h0⟩ := og_m h0
  refine q_st S hK hR hS (by decide) (eM_107 w) hi5 rfl hm6 d7_addUser_33 (fun H locs hR hS => ?_)
  refine lv_aload_n hx hb d7_addUser_34 rfl (lv_at hl 0 rfl) ?_
  refine g7_22 S hK hR d7_addUser_35 ?_
  refine lv_iload_n hx hb d7_addUser_38 rfl (lv_at hl 1 rfl) ?_
  refine lv_dup2_11 hx hb d7_addUser_39 rfl rfl ?_
  obtain ⟨hi7, h0⟩ := og_if h0
  refine q_ld (k := x1.toNatClampNeg) S hK hR (by decide) (eM_105 w _) hi7 rfl d7_addUser_40 ?_
  refine lv_iconst (v := 1) hx hb d7_addUser_41 (by decide) ?_
  refine lv_iadd hx hb d7_addUser_42 ?_
  obtain ⟨hi8, h0⟩ := og_if h0
  obtain ⟨σ9, hm9, h0⟩ := og_m h0
  refine q_st S hK hR hS (by decide) (eM_105 w) hi8 rfl hm9 d7_addUser_43 (fun H locs hR hS => ?_)
  exact q_vret S hr hlk hR hS h0 d7_addUser_44
set_option maxHeartbeats 4000000 in
set_option maxRecDepth 100000 in
theorem k7_103 {p : Program} {l : Launch} {e : Env} {R : Room} {s : State} {m : MethodId} {args : Array Value} {below : List Frame} {meth : Method} {c : Code} {H : Heap} {locs : List Loc} {cells slots : Nat} {Q : State → Prop} {cc : ByteArray} {pc nL : Nat} {ls : Array Slot} {rest : List Value} {w : WV} {σ : Mem} {x1 : Int32} {x2 : Int32} {x3 : Int32} {σ1 : Mem} (S : CallFix p m c cc nL s args gtbl RX7) (hK : KS LM w s) (hR : Rp EM LM w σ H) (hS : va_S (AW LM w) s.heap H locs) (h0 : f7_addUser σ x1 x2 x3 = some σ1) (hf : cells + 0 ≤ R.cells ∧ slots + 0 ≤ R.slots) (hRm : rm7_addUser.frames + 1 ≤ R.frames ∧ 8 + (4 + 11) + rm7_addUser.locals ≤ R.locals) (hl : ls.size = nL) (hW : (rest.map fun v => v.category).sum ≤ 8) (hdg : decode cc pc = .ok (.invokevirtual 103, 3)) (kk : ∀ (H1 : Heap) (locs1 : List Loc), Rp EM LM w σ1 H1 → va_S (AW LM w) s.heap H1 locs1 → W p l e R s m args below meth c H1 locs1 cells slots Q (F0 m (pc + 3) ls (rest))) : W p l e R s m args below meth c H locs cells slots Q (F0 m pc ls (.int x3 :: .int x2 :: .int x1 :: .ref (w.2.2 0) :: rest)) := r_end hS (run_V (n := 3) (As := [.int x1, .int x2, .int x3]) S hK hR (by decide) (eM_7 w _) rfl (gw_V (gt_at 898 (by decide +kernel) (by decide +kernel)) (gt_at 900 (by decide +kernel) (by decide +kernel)) (gt_at 40 (by decide +kernel) (by decide +kernel)) (gt_at 86 (by decide +kernel) (by decide +kernel)) (gt_at 901 (by decide +kernel) (by decide +kernel))) (by decide +kernel) rfl (c7_addUser l h0) ⟨rfl, rfl⟩ hRm hf hl rfl hW hdg) kk
/-! FourTenGatesModel.begin()V -/
abbrev rm7_begin : Room := { frames := 0, cells := 0, slots := 0, locals := 0 }
theorem d7_begin_0 : decode cX7_begin 0 = .ok (.iconst 0, 1) := by decide +kernel
theorem d7_begin_1 : decode cX7_begin 1 = .ok (.istore_n 1, 1) := by decide +kernel
theorem d7_begin_2 : decode cX7_begin 2 = .ok (.iload_n 1, 1) := by decide +kernel
theorem d7_begin_3 : decode cX7_begin 3 = .ok (.bipush 6, 2) := by decide +kernel
theorem d7_begin_5 : decode cX7_begin 5 = .ok (.if_icmp .ge 46, 3) := by decide +kernel
theorem d7_begin_8 : decode cX7_begin 8 = .ok (.aload_n 0, 1) := by decide +kernel
theorem d7_begin_9 : decode cX7_begin 9 = .ok (.getfield 55, 3) := by decide +kernel
theorem d7_begin_12 : decode cX7_begin 12 = .ok (.iload_n 1, 1) := by decide +kernel
theorem d7_begin_13 : decode cX7_begin 13 = .ok (.iconst 0, 1) := by decide +kernel
theorem d7_begin_14 : decode cX7_begin 14 = .ok (.iastore, 1) := by decide +kernel
theorem d7_begin_15 : decode cX7_begin 15 = .ok (.aload_n 0, 1) := by decide +kernel
theorem d7_begin_16 : decode cX7_begin 16 = .ok (.getfield 55, 3) := by decide +kernel
theorem d7_begin_19 : decode cX7_begin 19 = .ok (.bipush 7, 2) := by decide +kernel
theorem d7_begin_21 : decode cX7_begin 21 = .ok (.iload_n 1, 1) := by decide +kernel
theorem d7_begin_22 : decode cX7_begin 22 = .ok (.iadd, 1) := by decide +kernel
theorem d7_begin_23 : decode cX7_begin 23 = .ok (.aload_n 0, 1) := by decide +kernel
theorem d7_begin_24 : decode cX7_begin 24 = .ok (.getfield 40, 3) := by decide +kernel
theorem d7_begin_27 : decode cX7_begin 27 = .ok (.iload_n 1, 1) := by decide +kernel
theorem d7_begin_28 : decode cX7_begin 28 = .ok (.iaload, 1) := by decide +kernel
theorem d7_begin_29 : decode cX7_begin 29 = .ok (.iastore, 1) := by decide +kernel
theorem d7_begin_30 : decode cX7_begin 30 = .ok (.aload_n 0, 1) := by decide +kernel
theorem d7_begin_31 : decode cX7_begin 31 = .ok (.getfield 55, 3) := by decide +kernel
theorem d7_begin_34 : decode cX7_begin 34 = .ok (.bipush 13, 2) := by decide +kernel
theorem d7_begin_36 : decode cX7_begin 36 = .ok (.iload_n 1, 1) := by decide +kernel
theorem d7_begin_37 : decode cX7_begin 37 = .ok (.iadd, 1) := by decide +kernel
theorem d7_begin_38 : decode cX7_begin 38 = .ok (.aload_n 0, 1) := by decide +kernel
theorem d7_begin_39 : decode cX7_begin 39 = .ok (.getfield 43, 3) := by decide +kernel
theorem d7_begin_42 : decode cX7_begin 42 = .ok (.iload_n 1, 1) := by decide +kernel
theorem d7_begin_43 : decode cX7_begin 43 = .ok (.iaload, 1) := by decide +kernel
theorem d7_begin_44 : decode cX7_begin 44 = .ok (.iastore, 1) := by decide +kernel
theorem d7_begin_45 : decode cX7_begin 45 = .ok (.iinc 1 1, 3) := by decide +kernel
theorem d7_begin_48 : decode cX7_begin 48 = .ok (.goto (-46), 3) := by decide +kernel
theorem d7_begin_51 : decode cX7_begin 51 = .ok (.aload_n 0, 1) := by decide +kernel
theorem d7_begin_52 : decode cX7_begin 52 = .ok (.getfield 55, 3) := by decide +kernel
theorem d7_begin_55 : decode cX7_begin 55 = .ok (.bipush 6, 2) := by decide +kernel
theorem d7_begin_57 : decode cX7_begin 57 = .ok (.aload_n 0, 1) := by decide +kernel
theorem d7_begin_58 : decode cX7_begin 58 = .ok (.getfield 37, 3) := by decide +kernel
theorem d7_begin_61 : decode cX7_begin 61 = .ok (.iconst 0, 1) := by decide +kernel
theorem d7_begin_62 : decode cX7_begin 62 = .ok (.iaload, 1) := by decide +kernel
theorem d7_begin_63 : decode cX7_begin 63 = .ok (.iastore, 1) := by decide +kernel
theorem d7_begin_64 : decode cX7_begin 64 = .ok (.aload_n 0, 1) := by decide +kernel
theorem d7_begin_65 : decode cX7_begin 65 = .ok (.iconst 0, 1) := by decide +kernel
theorem d7_begin_66 : decode cX7_begin 66 = .ok (.putfield 159, 3) := by decide +kernel
theorem d7_begin_69 : decode cX7_begin 69 = .ok (.aload_n 0, 1) := by decide +kernel
theorem d7_begin_70 : decode cX7_begin 70 = .ok (.iconst 0, 1) := by decide +kernel
theorem d7_begin_71 : decode cX7_begin 71 = .ok (.putfield 162, 3) := by decide +kernel
theorem d7_begin_74 : decode cX7_begin 74 = .ok (.aload_n 0, 1) := by decide +kernel
theorem d7_begin_75 : decode cX7_begin 75 = .ok (.iconst 0, 1) := by decide +kernel
theorem d7_begin_76 : decode cX7_begin 76 = .ok (.putfield 165, 3) := by decide +kernel
theorem d7_begin_79 : decode cX7_begin 79 = .ok (.return_, 1) := by decide +kernel
def f7_begin_b2 : Nat → Mem → Int32 → Option Mem
  | 0, _, _ => none
  | n + 1, σ, x1 => if 6 ≤ x1 then bm (mu σ 17 6 (σ 11 0)) fun σ2 => bm (mu σ2 0 18 0) fun σ3 => bm (mu σ3 0 20 0) fun σ4 => bm (mu σ4 0 21 0) fun σ5 => some σ5 else if ¬ (x1 < 0 ∨ 19 ≤ x1.toNatClampNeg) then (bm (mu σ 17 x1.toNatClampNeg 0) fun σ3 => if ¬ (x1 < 0 ∨ 12 ≤ x1.toNatClampNeg) then if ¬ (7 + x1 < 0 ∨ 19 ≤ (7 + x1).toNatClampNeg) then (bm (mu σ3 17 ((7 + x1).toNatClampNeg) (σ3 12 x1.toNatClampNeg)) fun σ6 => if ¬ (x1 < 0 ∨ 12 ≤ x1.toNatClampNeg) then if ¬ (13 + x1 < 0 ∨ 19 ≤ (13 + x1).toNatClampNeg) then (bm (mu σ6 17 ((13 + x1).toNatClampNeg) (σ6 13 x1.toNatClampNeg)) fun σ9 => f7_begin_b2 n σ9 (x1 + 1)) else none else none) else none else none) else none
set_option maxHeartbeats 4000000 in
set_option maxRecDepth 100000 in
theorem t7_begin_b2 {p : Program} {l : Launch} {e : Env} {s : State} {m : MethodId} {args : Array Value} {below : List Frame} {meth : Method} {c : Code} {w : WV} {σ' : Mem} (S : CallFix p m c cX7_begin 2 s args gtbl RX7) (hr : meth.sig.returnType = none) (hlk : meth.locks = false) (hK : KS LM w s) : ∀ (n : Nat), ∀ (σ : Mem) (x1 : Int32), f7_begin_b2  n σ x1 = some σ' → ∀ (H : Heap) (locs : List Loc), Rp EM LM w σ H → va_S (AW LM w) s.heap H locs → ∀ (ls : Array Slot), lv_has ls 2 [(0, .ref (w.2.2 0)), (1, .int x1)] → W p l e rm7_begin s m args below meth c H locs 0 0 (MQ below (Qw EM LM w σ' none) args s 0 0 (AW LM w)) (F0 m 2 ls []) := by
  obtain ⟨hx, hb, hml, hown, hts⟩ := id S
  intro n
  induction n with
  | zero =>
    intro σ x1 h0
    cases (show none = _ from h0)
  | succ n ih =>
    intro σ x1 h0 H locs hR hS ls hl
    rw [f7_begin_b2] at h0
    refine lv_iload_n hx hb d7_begin_2 rfl (lv_at hl 1 rfl) ?_
    refine lv_bipush (v := 6) hx hb d7_begin_3 (by decide) ?_
    refine lv_icmp_ge (tgt := 51) hx hb d7_begin_5 (by decide) (fun hc1 => ?_) (fun hc1 => ?_)
    · have h0 := og_t hc1 h0
      refine lv_aload_n hx hb d7_begin_51 rfl (lv_at hl 0 rfl) ?_
      refine g7_55 S hK hR d7_begin_52 ?_
      refine lv_bipush (v := 6) hx hb d7_begin_55 (by decide) ?_
      refine lv_aload_n hx hb d7_begin_57 rfl (lv_at hl 0 rfl) ?_
      refine g7_37 S hK hR d7_begin_58 ?_
      refine lv_iconst (v := 0) hx hb d7_begin_61 (by decide) ?_
      refine q_ld (k := 0) S hK hR (by decide) (eM_110 w _) (vin (by decide)) (by decide) d7_begin_62 ?_
      obtain ⟨σ2, hm2, h0⟩ := og_m h0
      refine q_st S hK hR hS (by decide) (eM_116 w) (vin (by decide)) (by decide) hm2 d7_begin_63 (fun H locs hR hS => ?_)
      refine lv_aload_n hx hb d7_begin_64 rfl (lv_at hl 0 rfl) ?_
      refine lv_iconst (v := 0) hx hb d7_begin_65 (by decide) ?_
      obtain ⟨σ3, hm3, h0⟩ := og_m h0
      refine u7_159 S hK hR hS hm3 d7_begin_66 (fun H locs hR hS => ?_)
      refine lv_aload_n hx hb d7_begin_69 rfl (lv_at hl 0 rfl) ?_
      refine lv_iconst (v := 0) hx hb d7_begin_70 (by decide) ?_
      obtain ⟨σ4, hm4, h0⟩ := og_m h0
      refine u7_162 S hK hR hS hm4 d7_begin_71 (fun H locs hR hS => ?_)
      refine lv_aload_n hx hb d7_begin_74 rfl (lv_at hl 0 rfl) ?_
      refine lv_iconst (v := 0) hx hb d7_begin_75 (by decide) ?_
      obtain ⟨σ5, hm5, h0⟩ := og_m h0
      refine u7_165 S hK hR hS hm5 d7_begin_76 (fun H locs hR hS => ?_)
      exact q_vret S hr hlk hR hS h0 d7_begin_79
    · have h0 := og_f hc1 h0
      refine lv_aload_n hx hb d7_begin_8 rfl (lv_at hl 0 rfl) ?_
      refine g7_55 S hK hR d7_begin_9 ?_
      refine lv_iload_n hx hb d7_begin_12 rfl (lv_at hl 1 rfl) ?_
      refine lv_iconst (v := 0) hx hb d7_begin_13 (by decide) ?_
      obtain ⟨hi2, h0⟩ := og_if h0
      obtain ⟨σ3, hm3, h0⟩ := og_m h0
      refine q_st S hK hR hS (by decide) (eM_116 w) hi2 rfl hm3 d7_begin_14 (fun H locs hR hS => ?_)
      refine lv_aload_n hx hb d7_begin_15 rfl (lv_at hl 0 rfl) ?_
      refine g7_55 S hK hR d7_begin_16 ?_
      refine lv_bipush (v := 7) hx hb d7_begin_19 (by decide) ?_
      refine lv_iload_n hx hb d7_begin_21 rfl (lv_at hl 1 rfl) ?_
      refine lv_iadd hx hb d7_begin_22 ?_
      refine lv_aload_n hx hb d7_begin_23 rfl (lv_at hl 0 rfl) ?_
      refine g7_40 S hK hR d7_begin_24 ?_
      refine lv_iload_n hx hb d7_begin_27 rfl (lv_at hl 1 rfl) ?_
      obtain ⟨hi4, h0⟩ := og_if h0
      refine q_ld (k := x1.toNatClampNeg) S hK hR (by decide) (eM_111 w _) hi4 rfl d7_begin_28 ?_
      obtain ⟨hi5, h0⟩ := og_if h0
      obtain ⟨σ6, hm6, h0⟩ := og_m h0
      refine q_st S hK hR hS (by decide) (eM_116 w) hi5 rfl hm6 d7_begin_29 (fun H locs hR hS => ?_)
      refine lv_aload_n hx hb d7_begin_30 rfl (lv_at hl 0 rfl) ?_
      refine g7_55 S hK hR d7_begin_31 ?_
      refine lv_bipush (v := 13) hx hb d7_begin_34 (by decide) ?_
      refine lv_iload_n hx hb d7_begin_36 rfl (lv_at hl 1 rfl) ?_
      refine lv_iadd hx hb d7_begin_37 ?_
      refine lv_aload_n hx hb d7_begin_38 rfl (lv_at hl 0 rfl) ?_
      refine g7_43 S hK hR d7_begin_39 ?_
      refine lv_iload_n hx hb d7_begin_42 rfl (lv_at hl 1 rfl) ?_
      obtain ⟨hi7, h0⟩ := og_if h0
      refine q_ld (k := x1.toNatClampNeg) S hK hR (by decide) (eM_112 w _) hi7 rfl d7_begin_43 ?_
      obtain ⟨hi8, h0⟩ := og_if h0
      obtain ⟨σ9, hm9, h0⟩ := og_m h0
      refine q_st S hK hR hS (by decide) (eM_116 w) hi8 rfl hm9 d7_begin_44 (fun H locs hR hS => ?_)
      refine lv_iinc (v := x1 + 1) (lv' := [(1, .int (x1 + 1)), (0, .ref (w.2.2 0))]) hx hb d7_begin_45 hl (k := 1) rfl (ii1 _) (by decide) rfl (fun ls hl => ?_)
      refine lv_goto (tgt := 2) hx hb d7_begin_48 (by decide) ?_
      exact ih σ9 (x1 + 1) h0 _ _ hR hS _ (lv_sub hl [1, 0] rfl)
def f7_begin (σ : Mem) : Option Mem := f7_begin_b2 1000 σ 0
set_option maxHeartbeats 4000000 in
set_option maxRecDepth 100000 in
theorem c7_begin (l : Launch) {w : WV} {σ : Mem} {σ' : Mem} (h0 : f7_begin σ = some σ') : Met l yX7_begin (wy yX7_begin cX7_begin 2 none) rm7_begin (Pw EM LM w [.ref (w.2.2 0)] σ) (Qw EM LM w σ' none) 0 0 (AW LM w) := by
  refine mk_met (by decide) (Nat.le_of_ble_eq_true rfl) ?_
  intro p e s m below meth c S hr hlk hK hR ls hl
  obtain ⟨hx, hb, hml, hown, hts⟩ := id S
  have hl : lv_has ls 2 [(0, .ref (w.2.2 0))] := hl
  have hS : va_S (AW LM w) s.heap s.heap [] := va_S.rf
  unfold f7_begin at h0
  refine lv_iconst (v := 0) hx hb d7_begin_0 (by decide) ?_
  refine lv_istore_n (lv' := [(1, .int 0), (0, .ref (w.2.2 0))]) hx hb d7_begin_1 rfl hl (by decide) rfl (fun ls hl => ?_)
  exact t7_begin_b2 S hr hlk hK 1000 σ 0 h0 _ _ hR hS _ (lv_sub hl [1, 0] rfl)
set_option maxHeartbeats 4000000 in
set_option maxRecDepth 100000 in
theorem k7_106 {p : Program} {l : Launch} {e : Env} {R : Room} {s : State} {m : MethodId} {args : Array Value} {below : List Frame} {meth : Method} {c : Code} {H : Heap} {locs : List Loc} {cells slots : Nat} {Q : State → Prop} {cc : ByteArray} {pc nL : Nat} {ls : Array Slot} {rest : List Value} {w : WV} {σ : Mem} {σ1 : Mem} (S : CallFix p m c cc nL s args gtbl RX7) (hK : KS LM w s) (hR : Rp EM LM w σ H) (hS : va_S (AW LM w) s.heap H locs) (h0 : f7_begin σ = some σ1) (hf : cells + 0 ≤ R.cells ∧ slots + 0 ≤ R.slots) (hRm : rm7_begin.frames + 1 ≤ R.frames ∧ 8 + (2 + 11) + rm7_begin.locals ≤ R.locals) (hl : ls.size = nL) (hW : (rest.map fun v => v.category).sum ≤ 8) (hdg : decode cc pc = .ok (.invokevirtual 106, 3)) (kk : ∀ (H1 : Heap) (locs1 : List Loc), Rp EM LM w σ1 H1 → va_S (AW LM w) s.heap H1 locs1 → W p l e R s m args below meth c H1 locs1 cells slots Q (F0 m (pc + 3) ls (rest))) : W p l e R s m args below meth c H locs cells slots Q (F0 m pc ls (.ref (w.2.2 0) :: rest)) := r_end hS (run_V (n := 0) (As := []) S hK hR (by decide) (eM_7 w _) rfl (gw_V (gt_at 902 (by decide +kernel) (by decide +kernel)) (gt_at 904 (by decide +kernel) (by decide +kernel)) (gt_at 41 (by decide +kernel) (by decide +kernel)) (gt_at 86 (by decide +kernel) (by decide +kernel)) (gt_at 905 (by decide +kernel) (by decide +kernel))) (by decide +kernel) rfl (c7_begin l h0) ⟨rfl, rfl⟩ hRm hf hl rfl hW hdg) kk
/-! FourTenGatesModel.in(JJJ)Z -/
abbrev rm7_in : Room := { frames := 0, cells := 0, slots := 0, locals := 0 }
theorem d7_in_0 : decode cX7_in 0 = .ok (.lload_n 0, 1) := by decide +kernel
theorem d7_in_1 : decode cX7_in 1 = .ok (.lload_n 2, 1) := by decide +kernel
theorem d7_in_2 : decode cX7_in 2 = .ok (.lcmp, 1) := by decide +kernel
theorem d7_in_3 : decode cX7_in 3 = .ok (.ifCond .lt 14, 3) := by decide +kernel
theorem d7_in_6 : decode cX7_in 6 = .ok (.lload_n 0, 1) := by decide +kernel
theorem d7_in_7 : decode cX7_in 7 = .ok (.lload 4, 2) := by decide +kernel
theorem d7_in_9 : decode cX7_in 9 = .ok (.lcmp, 1) := by decide +kernel
theorem d7_in_10 : decode cX7_in 10 = .ok (.ifCond .gt 7, 3) := by decide +kernel
theorem d7_in_13 : decode cX7_in 13 = .ok (.iconst 1, 1) := by decide +kernel
theorem d7_in_14 : decode cX7_in 14 = .ok (.goto 4, 3) := by decide +kernel
theorem d7_in_17 : decode cX7_in 17 = .ok (.iconst 0, 1) := by decide +kernel
theorem d7_in_18 : decode cX7_in 18 = .ok (.ireturn, 1) := by decide +kernel
def f7_in (l0 : Int64) (l2 : Int64) (l4 : Int64) : Option Int32 := if (lg_cmp l0 l2) < 0 then some 0 else if 0 < (lg_cmp l0 l4) then some 0 else some 1
set_option maxHeartbeats 4000000 in
set_option maxRecDepth 100000 in
theorem c7_in (l : Launch) {l0 : Int64} {l2 : Int64} {l4 : Int64} {r : Int32} (h0 : f7_in l0 l2 l4 = some r) : Met l yX7_in (wy yX7_in cX7_in 6 (some .boolean)) rm7_in (Ps [.long l0, .long l2, .long l4]) (Qp (.int r)) 0 0 (fun _ => False) := by
  refine mk_mets (by decide) (Nat.le_of_ble_eq_true rfl) ?_
  intro p e s m below meth c S hr hlk ls hl
  obtain ⟨hx, hb, hml, hown, hts⟩ := id S
  have hl : lv_has ls 6 [(0, .long l0), (2, .long l2), (4, .long l4)] := hl
  unfold f7_in at h0
  refine lv_lload_n hx hb d7_in_0 rfl (lv_at hl 0 rfl) ?_
  refine lv_lload_n hx hb d7_in_1 rfl (lv_at hl 1 rfl) ?_
  refine W.lcmp hx hb d7_in_2 ?_
  refine lv_if_lt (tgt := 17) hx hb d7_in_3 (by decide) (fun hc1 => ?_) (fun hc1 => ?_)
  · have h0 := og_t hc1 h0
    refine lv_iconst (v := 0) hx hb d7_in_17 (by decide) ?_
    exact q_zpure S hr hlk (Or.inl rfl) h0 d7_in_18
  · have h0 := og_f hc1 h0
    refine lv_lload_n hx hb d7_in_6 rfl (lv_at hl 0 rfl) ?_
    refine lv_lload hx hb d7_in_7 (lv_at hl 2 rfl) ?_
    refine W.lcmp hx hb d7_in_9 ?_
    refine lv_if_gt (tgt := 17) hx hb d7_in_10 (by decide) (fun hc2 => ?_) (fun hc2 => ?_)
    · have h0 := og_t hc2 h0
      refine lv_iconst (v := 0) hx hb d7_in_17 (by decide) ?_
      exact q_zpure S hr hlk (Or.inl rfl) h0 d7_in_18
    · have h0 := og_f hc2 h0
      refine lv_iconst (v := 1) hx hb d7_in_13 (by decide) ?_
      refine lv_goto (tgt := 18) hx hb d7_in_14 (by decide) ?_
      exact q_zpure S hr hlk (Or.inr rfl) h0 d7_in_18
set_option maxHeartbeats 4000000 in
set_option maxRecDepth 100000 in
theorem k7_113 {p : Program} {l : Launch} {e : Env} {R : Room} {s : State} {m : MethodId} {args : Array Value} {below : List Frame} {meth : Method} {c : Code} {H : Heap} {locs : List Loc} {cells slots : Nat} {Q : State → Prop} {cc : ByteArray} {pc nL : Nat} {ls : Array Slot} {rest : List Value} {l0 : Int64} {l2 : Int64} {l4 : Int64} {r : Int32} (S : CallFix p m c cc nL s args gtbl RX7) (h0 : f7_in l0 l2 l4 = some r) (hf : cells + 0 ≤ R.cells ∧ slots + 0 ≤ R.slots) (hRm : rm7_in.frames + 1 ≤ R.frames ∧ 8 + (6 + 11) + rm7_in.locals ≤ R.locals) (hl : ls.size = nL) (hW : (rest.map fun v => v.category).sum ≤ 8) (hdg : decode cc pc = .ok (.invokestatic 113, 3)) (kk : W p l e R s m args below meth c H locs cells slots Q (F0 m (pc + 3) ls (.int r :: rest))) : W p l e R s m args below meth c H locs cells slots Q (F0 m pc ls (.long l4 :: .long l2 :: .long l0 :: rest)) := r_endp (run_S (n := 3) (As := [.long l0, .long l2, .long l4]) S (gw_S (gt_at 1028 (by decide +kernel) (by decide +kernel)) (gt_at 1029 (by decide +kernel) (by decide +kernel)) (gt_at 86 (by decide +kernel) (by decide +kernel)) (gt_at 1030 (by decide +kernel) (by decide +kernel))) (by decide +kernel) rfl (c7_in l h0) ⟨rfl, rfl⟩ hRm hf hl rfl hW hdg) kk
/-! FourTenGatesModel.write(I)I -/
abbrev rm7_write : Room := { frames := 1, cells := 0, slots := 0, locals := 25 }
theorem d7_write_0 : decode cX7_write 0 = .ok (.iload_n 1, 1) := by decide +kernel
theorem d7_write_1 : decode cX7_write 1 = .ok (.i2l, 1) := by decide +kernel
theorem d7_write_2 : decode cX7_write 2 = .ok (.ldc2_w 109, 3) := by decide +kernel
theorem d7_write_5 : decode cX7_write 5 = .ok (.ldc2_w 111, 3) := by decide +kernel
theorem d7_write_8 : decode cX7_write 8 = .ok (.invokestatic 113, 3) := by decide +kernel
theorem d7_write_11 : decode cX7_write 11 = .ok (.ifCond .ne 5, 3) := by decide +kernel
theorem d7_write_14 : decode cX7_write 14 = .ok (.iconst (-1), 1) := by decide +kernel
theorem d7_write_15 : decode cX7_write 15 = .ok (.ireturn, 1) := by decide +kernel
theorem d7_write_16 : decode cX7_write 16 = .ok (.aload_n 0, 1) := by decide +kernel
theorem d7_write_17 : decode cX7_write 17 = .ok (.getfield 117, 3) := by decide +kernel
theorem d7_write_20 : decode cX7_write 20 = .ok (.sipush 200, 3) := by decide +kernel
theorem d7_write_23 : decode cX7_write 23 = .ok (.if_icmp .ne 6, 3) := by decide +kernel
theorem d7_write_26 : decode cX7_write 26 = .ok (.bipush (-3), 2) := by decide +kernel
theorem d7_write_28 : decode cX7_write 28 = .ok (.ireturn, 1) := by decide +kernel
theorem d7_write_29 : decode cX7_write 29 = .ok (.aload_n 0, 1) := by decide +kernel
theorem d7_write_30 : decode cX7_write 30 = .ok (.getfield 7, 3) := by decide +kernel
theorem d7_write_33 : decode cX7_write 33 = .ok (.aload_n 0, 1) := by decide +kernel
theorem d7_write_34 : decode cX7_write 34 = .ok (.getfield 117, 3) := by decide +kernel
theorem d7_write_37 : decode cX7_write 37 = .ok (.iload_n 1, 1) := by decide +kernel
theorem d7_write_38 : decode cX7_write 38 = .ok (.iastore, 1) := by decide +kernel
theorem d7_write_39 : decode cX7_write 39 = .ok (.aload_n 0, 1) := by decide +kernel
theorem d7_write_40 : decode cX7_write 40 = .ok (.dup, 1) := by decide +kernel
theorem d7_write_41 : decode cX7_write 41 = .ok (.getfield 117, 3) := by decide +kernel
theorem d7_write_44 : decode cX7_write 44 = .ok (.iconst 1, 1) := by decide +kernel
theorem d7_write_45 : decode cX7_write 45 = .ok (.iadd, 1) := by decide +kernel
theorem d7_write_46 : decode cX7_write 46 = .ok (.putfield 117, 3) := by decide +kernel
theorem d7_write_49 : decode cX7_write 49 = .ok (.aload_n 0, 1) := by decide +kernel
theorem d7_write_50 : decode cX7_write 50 = .ok (.getfield 117, 3) := by decide +kernel
theorem d7_write_53 : decode cX7_write 53 = .ok (.ireturn, 1) := by decide +kernel
def f7_write (σ : Mem) (x1 : Int32) : Option (Mem × Int32) := Option.bind (f7_in x1.toInt64 (32 : Int64) (126 : Int64)) fun r1 => if r1 = 0 then some (σ, (-1)) else if (σ 0 0) = 200 then some (σ, (-3)) else if ¬ (σ 0 0 < 0 ∨ 200 ≤ (σ 0 0).toNatClampNeg) then (bm (mu σ 2 ((σ 0 0).toNatClampNeg) x1) fun σ5 => bm (mu σ5 0 0 ((σ5 0 0) + 1)) fun σ6 => some (σ6, σ6 0 0)) else none
set_option maxHeartbeats 4000000 in
set_option maxRecDepth 100000 in
theorem c7_write (l : Launch) {w : WV} {σ : Mem} {x1 : Int32} {σ' : Mem} {r : Int32} (h0 : f7_write σ x1 = some (σ', r)) : Met l yX7_write (wy yX7_write cX7_write 2 (some .int)) rm7_write (Pw EM LM w [.ref (w.2.2 0), .int x1] σ) (Qw EM LM w σ' (some (.int r))) 0 0 (AW LM w) := by
  refine mk_met (by decide) (Nat.le_of_ble_eq_true rfl) ?_
  intro p e s m below meth c S hr hlk hK hR ls hl
  obtain ⟨hx, hb, hml, hown, hts⟩ := id S
  have hl : lv_has ls 2 [(0, .ref (w.2.2 0)), (1, .int x1)] := hl
  have hS : va_S (AW LM w) s.heap s.heap [] := va_S.rf
  unfold f7_write at h0
  refine lv_iload_n hx hb d7_write_0 rfl (lv_at hl 1 rfl) ?_
  refine lv_i2l hx hb d7_write_1 rfl ?_
  refine lv_ldc2 (v := 32) hx hb hown (hts _ (gt_at 1026 (by decide +kernel) (by decide +kernel))) d7_write_2 ?_
  refine lv_ldc2 (v := 126) hx hb hown (hts _ (gt_at 1027 (by decide +kernel) (by decide +kernel))) d7_write_5 ?_
  obtain ⟨r1, hr1, h0⟩ := og_b h0
  refine k7_113 S  hr1 ⟨Nat.zero_le _, Nat.zero_le _⟩ ⟨Nat.le_of_ble_eq_true rfl, Nat.le_of_ble_eq_true rfl⟩ hl.1 (Nat.le_of_ble_eq_true rfl) d7_write_8 ?_
  refine lv_if_ne (tgt := 16) hx hb d7_write_11 (by decide) (fun hc2 => ?_) (fun hc2 => ?_)
  · have h0 := og_f hc2 h0
    refine lv_aload_n hx hb d7_write_16 rfl (lv_at hl 0 rfl) ?_
    refine g7_117 S hK hR d7_write_17 ?_
    refine lv_sipush (v := 200) hx hb d7_write_20 (by decide) ?_
    refine lv_icmp_ne (tgt := 29) hx hb d7_write_23 (by decide) (fun hc3 => ?_) (fun hc3 => ?_)
    · have h0 := og_f hc3 h0
      refine lv_aload_n hx hb d7_write_29 rfl (lv_at hl 0 rfl) ?_
      refine g7_7 S hK hR d7_write_30 ?_
      refine lv_aload_n hx hb d7_write_33 rfl (lv_at hl 0 rfl) ?_
      refine g7_117 S hK hR d7_write_34 ?_
      refine lv_iload_n hx hb d7_write_37 rfl (lv_at hl 1 rfl) ?_
      obtain ⟨hi4, h0⟩ := og_if h0
      obtain ⟨σ5, hm5, h0⟩ := og_m h0
      refine q_st S hK hR hS (by decide) (eM_101 w) hi4 rfl hm5 d7_write_38 (fun H locs hR hS => ?_)
      refine lv_aload_n hx hb d7_write_39 rfl (lv_at hl 0 rfl) ?_
      refine lv_dup hx hb d7_write_40 rfl ?_
      refine g7_117 S hK hR d7_write_41 ?_
      refine lv_iconst (v := 1) hx hb d7_write_44 (by decide) ?_
      refine lv_iadd hx hb d7_write_45 ?_
      obtain ⟨σ6, hm6, h0⟩ := og_m h0
      refine u7_117 S hK hR hS hm6 d7_write_46 (fun H locs hR hS => ?_)
      refine lv_aload_n hx hb d7_write_49 rfl (lv_at hl 0 rfl) ?_
      refine g7_117 S hK hR d7_write_50 ?_
      exact q_iret S hr hlk hR hS h0 d7_write_53
    · have h0 := og_t hc3 h0
      refine lv_bipush (v := (-3)) hx hb d7_write_26 (by decide) ?_
      exact q_iret S hr hlk hR hS h0 d7_write_28
  · have h0 := og_t hc2 h0
    refine lv_iconst (v := (-1)) hx hb d7_write_14 (by decide) ?_
    exact q_iret S hr hlk hR hS h0 d7_write_15
/-! FourTenGatesModel.wipe()I -/
abbrev rm7_wipe : Room := { frames := 0, cells := 0, slots := 0, locals := 0 }
theorem d7_wipe_0 : decode cX7_wipe 0 = .ok (.aload_n 0, 1) := by decide +kernel
theorem d7_wipe_1 : decode cX7_wipe 1 = .ok (.getfield 117, 3) := by decide +kernel
theorem d7_wipe_4 : decode cX7_wipe 4 = .ok (.istore_n 1, 1) := by decide +kernel
theorem d7_wipe_5 : decode cX7_wipe 5 = .ok (.aload_n 0, 1) := by decide +kernel
theorem d7_wipe_6 : decode cX7_wipe 6 = .ok (.iconst 0, 1) := by decide +kernel
theorem d7_wipe_7 : decode cX7_wipe 7 = .ok (.putfield 117, 3) := by decide +kernel
theorem d7_wipe_10 : decode cX7_wipe 10 = .ok (.iload_n 1, 1) := by decide +kernel
theorem d7_wipe_11 : decode cX7_wipe 11 = .ok (.ireturn, 1) := by decide +kernel
def f7_wipe (σ : Mem) : Option (Mem × Int32) := bm (mu σ 0 0 0) fun σ1 => some (σ1, σ 0 0)
set_option maxHeartbeats 4000000 in
set_option maxRecDepth 100000 in
theorem c7_wipe (l : Launch) {w : WV} {σ : Mem} {σ' : Mem} {r : Int32} (h0 : f7_wipe σ = some (σ', r)) : Met l yX7_wipe (wy yX7_wipe cX7_wipe 2 (some .int)) rm7_wipe (Pw EM LM w [.ref (w.2.2 0)] σ) (Qw EM LM w σ' (some (.int r))) 0 0 (AW LM w) := by
  refine mk_met (by decide) (Nat.le_of_ble_eq_true rfl) ?_
  intro p e s m below meth c S hr hlk hK hR ls hl
  obtain ⟨hx, hb, hml, hown, hts⟩ := id S
  have hl : lv_has ls 2 [(0, .ref (w.2.2 0))] := hl
  have hS : va_S (AW LM w) s.heap s.heap [] := va_S.rf
  unfold f7_wipe at h0
  refine lv_aload_n hx hb d7_wipe_0 rfl (lv_at hl 0 rfl) ?_
  refine g7_117 S hK hR d7_wipe_1 ?_
  refine lv_istore_n (lv' := [(1, .int (σ 0 0)), (0, .ref (w.2.2 0))]) hx hb d7_wipe_4 rfl hl (by decide) rfl (fun ls hl => ?_)
  refine lv_aload_n hx hb d7_wipe_5 rfl (lv_at hl 1 rfl) ?_
  refine lv_iconst (v := 0) hx hb d7_wipe_6 (by decide) ?_
  obtain ⟨σ1, hm1, h0⟩ := og_m h0
  refine u7_117 S hK hR hS hm1 d7_wipe_7 (fun H locs hR hS => ?_)
  refine lv_iload_n hx hb d7_wipe_10 rfl (lv_at hl 0 rfl) ?_
  exact q_iret S hr hlk hR hS h0 d7_wipe_11
/-! FourTenGatesModel.letterAt(I)I -/
abbrev rm7_letterAt : Room := { frames := 0, cells := 0, slots := 0, locals := 0 }
theorem d7_letterAt_0 : decode cX7_letterAt 0 = .ok (.iload_n 1, 1) := by decide +kernel
theorem d7_letterAt_1 : decode cX7_letterAt 1 = .ok (.aload_n 0, 1) := by decide +kernel
theorem d7_letterAt_2 : decode cX7_letterAt 2 = .ok (.getfield 117, 3) := by decide +kernel
theorem d7_letterAt_5 : decode cX7_letterAt 5 = .ok (.if_icmp .ge 12, 3) := by decide +kernel
theorem d7_letterAt_8 : decode cX7_letterAt 8 = .ok (.aload_n 0, 1) := by decide +kernel
theorem d7_letterAt_9 : decode cX7_letterAt 9 = .ok (.getfield 7, 3) := by decide +kernel
theorem d7_letterAt_12 : decode cX7_letterAt 12 = .ok (.iload_n 1, 1) := by decide +kernel
theorem d7_letterAt_13 : decode cX7_letterAt 13 = .ok (.iaload, 1) := by decide +kernel
theorem d7_letterAt_14 : decode cX7_letterAt 14 = .ok (.goto 4, 3) := by decide +kernel
theorem d7_letterAt_17 : decode cX7_letterAt 17 = .ok (.iconst 0, 1) := by decide +kernel
theorem d7_letterAt_18 : decode cX7_letterAt 18 = .ok (.ireturn, 1) := by decide +kernel
def f7_letterAt (σ : Mem) (x1 : Int32) : Option Int32 := if (σ 0 0) ≤ x1 then some 0 else if ¬ (x1 < 0 ∨ 200 ≤ x1.toNatClampNeg) then some (σ 2 x1.toNatClampNeg) else none
set_option maxHeartbeats 4000000 in
set_option maxRecDepth 100000 in
theorem c7_letterAt (l : Launch) {w : WV} {σ : Mem} {x1 : Int32} {r : Int32} (h0 : f7_letterAt σ x1 = some r) : Met l yX7_letterAt (wy yX7_letterAt cX7_letterAt 2 (some .int)) rm7_letterAt (Pw EM LM w [.ref (w.2.2 0), .int x1] σ) (Qp (.int r)) 0 0 (fun _ => False) := by
  refine mk_met (by decide) (Nat.le_of_ble_eq_true rfl) ?_
  intro p e s m below meth c S hr hlk hK hR ls hl
  obtain ⟨hx, hb, hml, hown, hts⟩ := id S
  have hl : lv_has ls 2 [(0, .ref (w.2.2 0)), (1, .int x1)] := hl
  unfold f7_letterAt at h0
  refine lv_iload_n hx hb d7_letterAt_0 rfl (lv_at hl 1 rfl) ?_
  refine lv_aload_n hx hb d7_letterAt_1 rfl (lv_at hl 0 rfl) ?_
  refine g7_117 S hK hR d7_letterAt_2 ?_
  refine lv_icmp_ge (tgt := 17) hx hb d7_letterAt_5 (by decide) (fun hc1 => ?_) (fun hc1 => ?_)
  · have h0 := og_t hc1 h0
    refine lv_iconst (v := 0) hx hb d7_letterAt_17 (by decide) ?_
    exact q_ipure S hr hlk h0 d7_letterAt_18
  · have h0 := og_f hc1 h0
    refine lv_aload_n hx hb d7_letterAt_8 rfl (lv_at hl 0 rfl) ?_
    refine g7_7 S hK hR d7_letterAt_9 ?_
    refine lv_iload_n hx hb d7_letterAt_12 rfl (lv_at hl 1 rfl) ?_
    obtain ⟨hi2, h0⟩ := og_if h0
    refine q_ld (k := x1.toNatClampNeg) S hK hR (by decide) (eM_101 w _) hi2 rfl d7_letterAt_13 ?_
    refine lv_goto (tgt := 18) hx hb d7_letterAt_14 (by decide) ?_
    exact q_ipure S hr hlk h0 d7_letterAt_18
set_option maxHeartbeats 4000000 in
set_option maxRecDepth 100000 in
theorem k7_124 {p : Program} {l : Launch} {e : Env} {R : Room} {s : State} {m : MethodId} {args : Array Value} {below : List Frame} {meth : Method} {c : Code} {H : Heap} {locs : List Loc} {cells slots : Nat} {Q : State → Prop} {cc : ByteArray} {pc nL : Nat} {ls : Array Slot} {rest : List Value} {w : WV} {σ : Mem} {x1 : Int32} {r : Int32} (S : CallFix p m c cc nL s args gtbl RX7) (hK : KS LM w s) (hR : Rp EM LM w σ H) (h0 : f7_letterAt σ x1 = some r) (hf : cells + 0 ≤ R.cells ∧ slots + 0 ≤ R.slots) (hRm : rm7_letterAt.frames + 1 ≤ R.frames ∧ 8 + (2 + 11) + rm7_letterAt.locals ≤ R.locals) (hl : ls.size = nL) (hW : (rest.map fun v => v.category).sum ≤ 8) (hdg : decode cc pc = .ok (.invokevirtual 124, 3)) (kk : W p l e R s m args below meth c H locs cells slots Q (F0 m (pc + 3) ls (.int r :: rest))) : W p l e R s m args below meth c H locs cells slots Q (F0 m pc ls (.int x1 :: .ref (w.2.2 0) :: rest)) := r_endp (run_V (n := 1) (As := [.int x1]) S hK hR (by decide) (eM_7 w _) rfl (gw_V (gt_at 1047 (by decide +kernel) (by decide +kernel)) (gt_at 1049 (by decide +kernel) (by decide +kernel)) (gt_at 44 (by decide +kernel) (by decide +kernel)) (gt_at 86 (by decide +kernel) (by decide +kernel)) (gt_at 1050 (by decide +kernel) (by decide +kernel))) (by decide +kernel) rfl (c7_letterAt l h0) ⟨rfl, rfl⟩ hRm hf hl rfl hW hdg) kk
/-! FourTenGatesModel.figures(I)Z -/
abbrev rm7_figures : Room := { frames := 1, cells := 0, slots := 0, locals := 25 }
theorem d7_figures_0 : decode cX7_figures 0 = .ok (.iconst 0, 1) := by decide +kernel
theorem d7_figures_1 : decode cX7_figures 1 = .ok (.istore_n 2, 1) := by decide +kernel
theorem d7_figures_2 : decode cX7_figures 2 = .ok (.iload_n 2, 1) := by decide +kernel
theorem d7_figures_3 : decode cX7_figures 3 = .ok (.iload_n 1, 1) := by decide +kernel
theorem d7_figures_4 : decode cX7_figures 4 = .ok (.if_icmp .ge 132, 3) := by decide +kernel
theorem d7_figures_7 : decode cX7_figures 7 = .ok (.iconst 0, 1) := by decide +kernel
theorem d7_figures_8 : decode cX7_figures 8 = .ok (.istore_n 3, 1) := by decide +kernel
theorem d7_figures_9 : decode cX7_figures 9 = .ok (.iconst 0, 1) := by decide +kernel
theorem d7_figures_10 : decode cX7_figures 10 = .ok (.istore 4, 2) := by decide +kernel
theorem d7_figures_12 : decode cX7_figures 12 = .ok (.aload_n 0, 1) := by decide +kernel
theorem d7_figures_13 : decode cX7_figures 13 = .ok (.aload_n 0, 1) := by decide +kernel
theorem d7_figures_14 : decode cX7_figures 14 = .ok (.getfield 121, 3) := by decide +kernel
theorem d7_figures_17 : decode cX7_figures 17 = .ok (.invokevirtual 124, 3) := by decide +kernel
theorem d7_figures_20 : decode cX7_figures 20 = .ok (.i2l, 1) := by decide +kernel
theorem d7_figures_21 : decode cX7_figures 21 = .ok (.ldc2_w 128, 3) := by decide +kernel
theorem d7_figures_24 : decode cX7_figures 24 = .ok (.ldc2_w 130, 3) := by decide +kernel
theorem d7_figures_27 : decode cX7_figures 27 = .ok (.invokestatic 113, 3) := by decide +kernel
theorem d7_figures_30 : decode cX7_figures 30 = .ok (.ifCond .eq 43, 3) := by decide +kernel
theorem d7_figures_33 : decode cX7_figures 33 = .ok (.iload_n 3, 1) := by decide +kernel
theorem d7_figures_34 : decode cX7_figures 34 = .ok (.iconst 3, 1) := by decide +kernel
theorem d7_figures_35 : decode cX7_figures 35 = .ok (.if_icmp .ge 38, 3) := by decide +kernel
theorem d7_figures_38 : decode cX7_figures 38 = .ok (.bipush 10, 2) := by decide +kernel
theorem d7_figures_40 : decode cX7_figures 40 = .ok (.iload 4, 2) := by decide +kernel
theorem d7_figures_42 : decode cX7_figures 42 = .ok (.imul, 1) := by decide +kernel
theorem d7_figures_43 : decode cX7_figures 43 = .ok (.aload_n 0, 1) := by decide +kernel
theorem d7_figures_44 : decode cX7_figures 44 = .ok (.aload_n 0, 1) := by decide +kernel
theorem d7_figures_45 : decode cX7_figures 45 = .ok (.getfield 121, 3) := by decide +kernel
theorem d7_figures_48 : decode cX7_figures 48 = .ok (.invokevirtual 124, 3) := by decide +kernel
theorem d7_figures_51 : decode cX7_figures 51 = .ok (.iadd, 1) := by decide +kernel
theorem d7_figures_52 : decode cX7_figures 52 = .ok (.bipush 48, 2) := by decide +kernel
theorem d7_figures_54 : decode cX7_figures 54 = .ok (.isub, 1) := by decide +kernel
theorem d7_figures_55 : decode cX7_figures 55 = .ok (.istore 4, 2) := by decide +kernel
theorem d7_figures_57 : decode cX7_figures 57 = .ok (.iinc 3 1, 3) := by decide +kernel
theorem d7_figures_60 : decode cX7_figures 60 = .ok (.aload_n 0, 1) := by decide +kernel
theorem d7_figures_61 : decode cX7_figures 61 = .ok (.dup, 1) := by decide +kernel
theorem d7_figures_62 : decode cX7_figures 62 = .ok (.getfield 121, 3) := by decide +kernel
theorem d7_figures_65 : decode cX7_figures 65 = .ok (.iconst 1, 1) := by decide +kernel
theorem d7_figures_66 : decode cX7_figures 66 = .ok (.iadd, 1) := by decide +kernel
theorem d7_figures_67 : decode cX7_figures 67 = .ok (.putfield 121, 3) := by decide +kernel
theorem d7_figures_70 : decode cX7_figures 70 = .ok (.goto (-58), 3) := by decide +kernel
theorem d7_figures_73 : decode cX7_figures 73 = .ok (.iload_n 3, 1) := by decide +kernel
theorem d7_figures_74 : decode cX7_figures 74 = .ok (.i2l, 1) := by decide +kernel
theorem d7_figures_75 : decode cX7_figures 75 = .ok (.lconst 1, 1) := by decide +kernel
theorem d7_figures_76 : decode cX7_figures 76 = .ok (.ldc2_w 132, 3) := by decide +kernel
theorem d7_figures_79 : decode cX7_figures 79 = .ok (.invokestatic 113, 3) := by decide +kernel
theorem d7_figures_82 : decode cX7_figures 82 = .ok (.ifCond .eq 28, 3) := by decide +kernel
theorem d7_figures_85 : decode cX7_figures 85 = .ok (.aload_n 0, 1) := by decide +kernel
theorem d7_figures_86 : decode cX7_figures 86 = .ok (.aload_n 0, 1) := by decide +kernel
theorem d7_figures_87 : decode cX7_figures 87 = .ok (.getfield 121, 3) := by decide +kernel
theorem d7_figures_90 : decode cX7_figures 90 = .ok (.invokevirtual 124, 3) := by decide +kernel
theorem d7_figures_93 : decode cX7_figures 93 = .ok (.iload_n 2, 1) := by decide +kernel
theorem d7_figures_94 : decode cX7_figures 94 = .ok (.iload_n 1, 1) := by decide +kernel
theorem d7_figures_95 : decode cX7_figures 95 = .ok (.iconst 1, 1) := by decide +kernel
theorem d7_figures_96 : decode cX7_figures 96 = .ok (.isub, 1) := by decide +kernel
theorem d7_figures_97 : decode cX7_figures 97 = .ok (.if_icmp .ge 8, 3) := by decide +kernel
theorem d7_figures_100 : decode cX7_figures 100 = .ok (.bipush 44, 2) := by decide +kernel
theorem d7_figures_102 : decode cX7_figures 102 = .ok (.goto 5, 3) := by decide +kernel
theorem d7_figures_105 : decode cX7_figures 105 = .ok (.bipush 59, 2) := by decide +kernel
theorem d7_figures_107 : decode cX7_figures 107 = .ok (.if_icmp .eq 5, 3) := by decide +kernel
theorem d7_figures_110 : decode cX7_figures 110 = .ok (.iconst 0, 1) := by decide +kernel
theorem d7_figures_111 : decode cX7_figures 111 = .ok (.ireturn, 1) := by decide +kernel
theorem d7_figures_112 : decode cX7_figures 112 = .ok (.aload_n 0, 1) := by decide +kernel
theorem d7_figures_113 : decode cX7_figures 113 = .ok (.getfield 70, 3) := by decide +kernel
theorem d7_figures_116 : decode cX7_figures 116 = .ok (.iload_n 2, 1) := by decide +kernel
theorem d7_figures_117 : decode cX7_figures 117 = .ok (.iload 4, 2) := by decide +kernel
theorem d7_figures_119 : decode cX7_figures 119 = .ok (.iastore, 1) := by decide +kernel
theorem d7_figures_120 : decode cX7_figures 120 = .ok (.aload_n 0, 1) := by decide +kernel
theorem d7_figures_121 : decode cX7_figures 121 = .ok (.dup, 1) := by decide +kernel
theorem d7_figures_122 : decode cX7_figures 122 = .ok (.getfield 121, 3) := by decide +kernel
theorem d7_figures_125 : decode cX7_figures 125 = .ok (.iconst 1, 1) := by decide +kernel
theorem d7_figures_126 : decode cX7_figures 126 = .ok (.iadd, 1) := by decide +kernel
theorem d7_figures_127 : decode cX7_figures 127 = .ok (.putfield 121, 3) := by decide +kernel
theorem d7_figures_130 : decode cX7_figures 130 = .ok (.iinc 2 1, 3) := by decide +kernel
theorem d7_figures_133 : decode cX7_figures 133 = .ok (.goto (-131), 3) := by decide +kernel
theorem d7_figures_136 : decode cX7_figures 136 = .ok (.iconst 1, 1) := by decide +kernel
theorem d7_figures_137 : decode cX7_figures 137 = .ok (.ireturn, 1) := by decide +kernel
def f7_figures_b107 (k2 : Mem → Int32 → Int32 → Option (Mem × Int32)) (σ : Mem) (x1 : Int32) (x2 : Int32) (x4 : Int32) (s0 : Int32) (s1 : Int32) : Option (Mem × Int32) := if s0 = s1 then if ¬ (x2 < 0 ∨ 2 ≤ x2.toNatClampNeg) then (bm (mu σ 26 x2.toNatClampNeg x4) fun σ3 => bm (mu σ3 0 24 ((σ3 0 24) + 1)) fun σ4 => k2 σ4 x1 (x2 + 1)) else none else some (σ, 0)
set_option maxHeartbeats 4000000 in
set_option maxRecDepth 100000 in
theorem t7_figures_b107 {p : Program} {l : Launch} {e : Env} {s : State} {m : MethodId} {args : Array Value} {below : List Frame} {meth : Method} {c : Code} {w : WV} {σ' : Mem} {r : Int32} {k2 : Mem → Int32 → Int32 → Option (Mem × Int32)} (S : CallFix p m c cX7_figures 5 s args gtbl RX7) (hr : meth.sig.returnType = (some .boolean)) (hlk : meth.locks = false) (hK : KS LM w s) (hk2 : ∀ (σ : Mem) (x1 : Int32) (x2 : Int32), k2 σ x1 x2 = some (σ', r) → ∀ (H : Heap) (locs : List Loc), Rp EM LM w σ H → va_S (AW LM w) s.heap H locs → ∀ (ls : Array Slot), lv_has ls 5 [(0, .ref (w.2.2 0)), (1, .int x1), (2, .int x2)] → W p l e rm7_figures s m args below meth c H locs 0 0 (MQ below (Qw EM LM w σ' (some (.int r))) args s 0 0 (AW LM w)) (F0 m 2 ls [])) : ∀ (σ : Mem) (x1 : Int32) (x2 : Int32) (x4 : Int32) (s0 : Int32) (s1 : Int32), f7_figures_b107 k2 σ x1 x2 x4 s0 s1 = some (σ', r) → ∀ (H : Heap) (locs : List Loc), Rp EM LM w σ H → va_S (AW LM w) s.heap H locs → ∀ (ls : Array Slot), lv_has ls 5 [(0, .ref (w.2.2 0)), (1, .int x1), (2, .int x2), (4, .int x4)] → W p l e rm7_figures s m args below meth c H locs 0 0 (MQ below (Qw EM LM w σ' (some (.int r))) args s 0 0 (AW LM w)) (F0 m 107 ls [.int s1, .int s0]) := by
  obtain ⟨hx, hb, hml, hown, hts⟩ := id S
  intro σ x1 x2 x4 s0 s1 h0 H locs hR hS ls hl
  unfold f7_figures_b107 at h0
  refine lv_icmp_eq (tgt := 112) hx hb d7_figures_107 (by decide) (fun hc1 => ?_) (fun hc1 => ?_)
  · have h0 := og_t hc1 h0
    refine lv_aload_n hx hb d7_figures_112 rfl (lv_at hl 0 rfl) ?_
    refine g7_70 S hK hR d7_figures_113 ?_
    refine lv_iload_n hx hb d7_figures_116 rfl (lv_at hl 2 rfl) ?_
    refine lv_iload hx hb d7_figures_117 (lv_at hl 3 rfl) ?_
    obtain ⟨hi2, h0⟩ := og_if h0
    obtain ⟨σ3, hm3, h0⟩ := og_m h0
    refine q_st S hK hR hS (by decide) (eM_125 w) hi2 rfl hm3 d7_figures_119 (fun H locs hR hS => ?_)
    refine lv_aload_n hx hb d7_figures_120 rfl (lv_at hl 0 rfl) ?_
    refine lv_dup hx hb d7_figures_121 rfl ?_
    refine g7_121 S hK hR d7_figures_122 ?_
    refine lv_iconst (v := 1) hx hb d7_figures_125 (by decide) ?_
    refine lv_iadd hx hb d7_figures_126 ?_
    obtain ⟨σ4, hm4, h0⟩ := og_m h0
    refine u7_121 S hK hR hS hm4 d7_figures_127 (fun H locs hR hS => ?_)
    refine lv_iinc (v := x2 + 1) (lv' := [(2, .int (x2 + 1)), (0, .ref (w.2.2 0)), (1, .int x1), (4, .int x4)]) hx hb d7_figures_130 hl (k := 2) rfl (ii1 _) (by decide) rfl (fun ls hl => ?_)
    refine lv_goto (tgt := 2) hx hb d7_figures_133 (by decide) ?_
    exact hk2 σ4 x1 (x2 + 1) h0 _ _ hR hS _ (lv_sub hl [1, 2, 0] rfl)
  · have h0 := og_f hc1 h0
    refine lv_iconst (v := 0) hx hb d7_figures_110 (by decide) ?_
    exact q_zret S hr hlk hR hS (Or.inl rfl) h0 d7_figures_111
def f7_figures_b73 (k2 : Mem → Int32 → Int32 → Option (Mem × Int32)) (σ : Mem) (x1 : Int32) (x2 : Int32) (x3 : Int32) (x4 : Int32) : Option (Mem × Int32) := Option.bind (f7_in x3.toInt64 (1 : Int64) (2 : Int64)) fun r1 => if r1 = 0 then some (σ, 0) else Option.bind (f7_letterAt σ (σ 0 24)) fun r3 => if (x1 - 1) ≤ x2 then f7_figures_b107 k2 σ x1 x2 x4 r3 59 else f7_figures_b107 k2 σ x1 x2 x4 r3 44
set_option maxHeartbeats 4000000 in
set_option maxRecDepth 100000 in
theorem t7_figures_b73 {p : Program} {l : Launch} {e : Env} {s : State} {m : MethodId} {args : Array Value} {below : List Frame} {meth : Method} {c : Code} {w : WV} {σ' : Mem} {r : Int32} {k2 : Mem → Int32 → Int32 → Option (Mem × Int32)} (S : CallFix p m c cX7_figures 5 s args gtbl RX7) (hr : meth.sig.returnType = (some .boolean)) (hlk : meth.locks = false) (hK : KS LM w s) (hk2 : ∀ (σ : Mem) (x1 : Int32) (x2 : Int32), k2 σ x1 x2 = some (σ', r) → ∀ (H : Heap) (locs : List Loc), Rp EM LM w σ H → va_S (AW LM w) s.heap H locs → ∀ (ls : Array Slot), lv_has ls 5 [(0, .ref (w.2.2 0)), (1, .int x1), (2, .int x2)] → W p l e rm7_figures s m args below meth c H locs 0 0 (MQ below (Qw EM LM w σ' (some (.int r))) args s 0 0 (AW LM w)) (F0 m 2 ls [])) : ∀ (σ : Mem) (x1 : Int32) (x2 : Int32) (x3 : Int32) (x4 : Int32), f7_figures_b73 k2 σ x1 x2 x3 x4 = some (σ', r) → ∀ (H : Heap) (locs : List Loc), Rp EM LM w σ H → va_S (AW LM w) s.heap H locs → ∀ (ls : Array Slot), lv_has ls 5 [(0, .ref (w.2.2 0)), (1, .int x1), (2, .int x2), (3, .int x3), (4, .int x4)] → W p l e rm7_figures s m args below meth c H locs 0 0 (MQ below (Qw EM LM w σ' (some (.int r))) args s 0 0 (AW LM w)) (F0 m 73 ls []) := by
  obtain ⟨hx, hb, hml, hown, hts⟩ := id S
  intro σ x1 x2 x3 x4 h0 H locs hR hS ls hl
  unfold f7_figures_b73 at h0
  refine lv_iload_n hx hb d7_figures_73 rfl (lv_at hl 3 rfl) ?_
  refine lv_i2l hx hb d7_figures_74 rfl ?_
  refine lv_lconst (v := 1) hx hb d7_figures_75 (by decide) ?_
  refine lv_ldc2 (v := 2) hx hb hown (hts _ (gt_at 1057 (by decide +kernel) (by decide +kernel))) d7_figures_76 ?_
  obtain ⟨r1, hr1, h0⟩ := og_b h0
  refine k7_113 S  hr1 ⟨Nat.zero_le _, Nat.zero_le _⟩ ⟨Nat.le_of_ble_eq_true rfl, Nat.le_of_ble_eq_true rfl⟩ hl.1 (Nat.le_of_ble_eq_true rfl) d7_figures_79 ?_
  refine lv_if_eq (tgt := 110) hx hb d7_figures_82 (by decide) (fun hc2 => ?_) (fun hc2 => ?_)
  · have h0 := og_t hc2 h0
    refine lv_iconst (v := 0) hx hb d7_figures_110 (by decide) ?_
    exact q_zret S hr hlk hR hS (Or.inl rfl) h0 d7_figures_111
  · have h0 := og_f hc2 h0
    refine lv_aload_n hx hb d7_figures_85 rfl (lv_at hl 0 rfl) ?_
    refine lv_aload_n hx hb d7_figures_86 rfl (lv_at hl 0 rfl) ?_
    refine g7_121 S hK hR d7_figures_87 ?_
    obtain ⟨r3, hr3, h0⟩ := og_b h0
    refine k7_124 S hK hR  hr3 ⟨Nat.zero_le _, Nat.zero_le _⟩ ⟨Nat.le_of_ble_eq_true rfl, Nat.le_of_ble_eq_true rfl⟩ hl.1 (Nat.le_of_ble_eq_true rfl) d7_figures_90 ?_
    refine lv_iload_n hx hb d7_figures_93 rfl (lv_at hl 2 rfl) ?_
    refine lv_iload_n hx hb d7_figures_94 rfl (lv_at hl 1 rfl) ?_
    refine lv_iconst (v := 1) hx hb d7_figures_95 (by decide) ?_
    refine lv_isub hx hb d7_figures_96 ?_
    refine lv_icmp_ge (tgt := 105) hx hb d7_figures_97 (by decide) (fun hc4 => ?_) (fun hc4 => ?_)
    · have h0 := og_t hc4 h0
      refine lv_bipush (v := 59) hx hb d7_figures_105 (by decide) ?_
      exact t7_figures_b107 S hr hlk hK hk2 σ x1 x2 x4 r3 59 h0 _ _ hR hS _ (lv_sub hl [0, 1, 2, 4] rfl)
    · have h0 := og_f hc4 h0
      refine lv_bipush (v := 44) hx hb d7_figures_100 (by decide) ?_
      refine lv_goto (tgt := 107) hx hb d7_figures_102 (by decide) ?_
      exact t7_figures_b107 S hr hlk hK hk2 σ x1 x2 x4 r3 44 h0 _ _ hR hS _ (lv_sub hl [0, 1, 2, 4] rfl)
def f7_figures_b12 (k2 : Mem → Int32 → Int32 → Option (Mem × Int32)) : Nat → Mem → Int32 → Int32 → Int32 → Int32 → Option (Mem × Int32)
  | 0, _, _, _, _, _ => none
  | n + 1, σ, x1, x2, x3, x4 => Option.bind (f7_letterAt σ (σ 0 24)) fun r1 => Option.bind (f7_in r1.toInt64 (48 : Int64) (57 : Int64)) fun r2 => if r2 = 0 then f7_figures_b73 k2 σ x1 x2 x3 x4 else if 3 ≤ x3 then f7_figures_b73 k2 σ x1 x2 x3 x4 else Option.bind (f7_letterAt σ (σ 0 24)) fun r5 => bm (mu σ 0 24 ((σ 0 24) + 1)) fun σ6 => f7_figures_b12 k2 n σ6 x1 x2 (x3 + 1) (((10 * x4) + r5) - 48)
set_option maxHeartbeats 4000000 in
set_option maxRecDepth 100000 in
theorem t7_figures_b12 {p : Program} {l : Launch} {e : Env} {s : State} {m : MethodId} {args : Array Value} {below : List Frame} {meth : Method} {c : Code} {w : WV} {σ' : Mem} {r : Int32} {k2 : Mem → Int32 → Int32 → Option (Mem × Int32)} (S : CallFix p m c cX7_figures 5 s args gtbl RX7) (hr : meth.sig.returnType = (some .boolean)) (hlk : meth.locks = false) (hK : KS LM w s) (hk2 : ∀ (σ : Mem) (x1 : Int32) (x2 : Int32), k2 σ x1 x2 = some (σ', r) → ∀ (H : Heap) (locs : List Loc), Rp EM LM w σ H → va_S (AW LM w) s.heap H locs → ∀ (ls : Array Slot), lv_has ls 5 [(0, .ref (w.2.2 0)), (1, .int x1), (2, .int x2)] → W p l e rm7_figures s m args below meth c H locs 0 0 (MQ below (Qw EM LM w σ' (some (.int r))) args s 0 0 (AW LM w)) (F0 m 2 ls [])) : ∀ (n : Nat), ∀ (σ : Mem) (x1 : Int32) (x2 : Int32) (x3 : Int32) (x4 : Int32), f7_figures_b12 k2 n σ x1 x2 x3 x4 = some (σ', r) → ∀ (H : Heap) (locs : List Loc), Rp EM LM w σ H → va_S (AW LM w) s.heap H locs → ∀ (ls : Array Slot), lv_has ls 5 [(0, .ref (w.2.2 0)), (1, .int x1), (2, .int x2), (3, .int x3), (4, .int x4)] → W p l e rm7_figures s m args below meth c H locs 0 0 (MQ below (Qw EM LM w σ' (some (.int r))) args s 0 0 (AW LM w)) (F0 m 12 ls []) := by
  obtain ⟨hx, hb, hml, hown, hts⟩ := id S
  intro n
  induction n with
  | zero =>
    intro σ x1 x2 x3 x4 h0
    cases (show none = _ from h0)
  | succ n ih =>
    intro σ x1 x2 x3 x4 h0 H locs hR hS ls hl
    rw [f7_figures_b12] at h0
    refine lv_aload_n hx hb d7_figures_12 rfl (lv_at hl 0 rfl) ?_
    refine lv_aload_n hx hb d7_figures_13 rfl (lv_at hl 0 rfl) ?_
    refine g7_121 S hK hR d7_figures_14 ?_
    obtain ⟨r1, hr1, h0⟩ := og_b h0
    refine k7_124 S hK hR  hr1 ⟨Nat.zero_le _, Nat.zero_le _⟩ ⟨Nat.le_of_ble_eq_true rfl, Nat.le_of_ble_eq_true rfl⟩ hl.1 (Nat.le_of_ble_eq_true rfl) d7_figures_17 ?_
    refine lv_i2l hx hb d7_figures_20 rfl ?_
    refine lv_ldc2 (v := 48) hx hb hown (hts _ (gt_at 1055 (by decide +kernel) (by decide +kernel))) d7_figures_21 ?_
    refine lv_ldc2 (v := 57) hx hb hown (hts _ (gt_at 1056 (by decide +kernel) (by decide +kernel))) d7_figures_24 ?_
    obtain ⟨r2, hr2, h0⟩ := og_b h0
    refine k7_113 S  hr2 ⟨Nat.zero_le _, Nat.zero_le _⟩ ⟨Nat.le_of_ble_eq_true rfl, Nat.le_of_ble_eq_true rfl⟩ hl.1 (Nat.le_of_ble_eq_true rfl) d7_figures_27 ?_
    refine lv_if_eq (tgt := 73) hx hb d7_figures_30 (by decide) (fun hc3 => ?_) (fun hc3 => ?_)
    · have h0 := og_t hc3 h0
      exact t7_figures_b73 S hr hlk hK hk2 σ x1 x2 x3 x4 h0 _ _ hR hS _ (lv_sub hl [0, 1, 2, 3, 4] rfl)
    · have h0 := og_f hc3 h0
      refine lv_iload_n hx hb d7_figures_33 rfl (lv_at hl 3 rfl) ?_
      refine lv_iconst (v := 3) hx hb d7_figures_34 (by decide) ?_
      refine lv_icmp_ge (tgt := 73) hx hb d7_figures_35 (by decide) (fun hc4 => ?_) (fun hc4 => ?_)
      · have h0 := og_t hc4 h0
        exact t7_figures_b73 S hr hlk hK hk2 σ x1 x2 x3 x4 h0 _ _ hR hS _ (lv_sub hl [0, 1, 2, 3, 4] rfl)
      · have h0 := og_f hc4 h0
        refine lv_bipush (v := 10) hx hb d7_figures_38 (by decide) ?_
        refine lv_iload hx hb d7_figures_40 (lv_at hl 4 rfl) ?_
        refine lv_imul hx hb d7_figures_42 ?_
        refine lv_aload_n hx hb d7_figures_43 rfl (lv_at hl 0 rfl) ?_
        refine lv_aload_n hx hb d7_figures_44 rfl (lv_at hl 0 rfl) ?_
        refine g7_121 S hK hR d7_figures_45 ?_
        obtain ⟨r5, hr5, h0⟩ := og_b h0
        refine k7_124 S hK hR  hr5 ⟨Nat.zero_le _, Nat.zero_le _⟩ ⟨Nat.le_of_ble_eq_true rfl, Nat.le_of_ble_eq_true rfl⟩ hl.1 (Nat.le_of_ble_eq_true rfl) d7_figures_48 ?_
        refine lv_iadd hx hb d7_figures_51 ?_
        refine lv_bipush (v := 48) hx hb d7_figures_52 (by decide) ?_
        refine lv_isub hx hb d7_figures_54 ?_
        refine lv_istore (lv' := [(4, .int (((10 * x4) + r5) - 48)), (0, .ref (w.2.2 0)), (1, .int x1), (2, .int x2), (3, .int x3)]) hx hb d7_figures_55 hl (by decide) rfl (fun ls hl => ?_)
        refine lv_iinc (v := x3 + 1) (lv' := [(3, .int (x3 + 1)), (4, .int (((10 * x4) + r5) - 48)), (0, .ref (w.2.2 0)), (1, .int x1), (2, .int x2)]) hx hb d7_figures_57 hl (k := 4) rfl (ii1 _) (by decide) rfl (fun ls hl => ?_)
        refine lv_aload_n hx hb d7_figures_60 rfl (lv_at hl 2 rfl) ?_
        refine lv_dup hx hb d7_figures_61 rfl ?_
        refine g7_121 S hK hR d7_figures_62 ?_
        refine lv_iconst (v := 1) hx hb d7_figures_65 (by decide) ?_
        refine lv_iadd hx hb d7_figures_66 ?_
        obtain ⟨σ6, hm6, h0⟩ := og_m h0
        refine u7_121 S hK hR hS hm6 d7_figures_67 (fun H locs hR hS => ?_)
        refine lv_goto (tgt := 12) hx hb d7_figures_70 (by decide) ?_
        exact ih σ6 x1 x2 (x3 + 1) (((10 * x4) + r5) - 48) h0 _ _ hR hS _ (lv_sub hl [2, 3, 4, 0, 1] rfl)
def f7_figures_b2 : Nat → Mem → Int32 → Int32 → Option (Mem × Int32)
  | 0, _, _, _ => none
  | n + 1, σ, x1, x2 => if x1 ≤ x2 then some (σ, 1) else f7_figures_b12 (f7_figures_b2 n) 1000 σ x1 x2 0 0
set_option maxHeartbeats 4000000 in
set_option maxRecDepth 100000 in
theorem t7_figures_b2 {p : Program} {l : Launch} {e : Env} {s : State} {m : MethodId} {args : Array Value} {below : List Frame} {meth : Method} {c : Code} {w : WV} {σ' : Mem} {r : Int32} (S : CallFix p m c cX7_figures 5 s args gtbl RX7) (hr : meth.sig.returnType = (some .boolean)) (hlk : meth.locks = false) (hK : KS LM w s) : ∀ (n : Nat), ∀ (σ : Mem) (x1 : Int32) (x2 : Int32), f7_figures_b2  n σ x1 x2 = some (σ', r) → ∀ (H : Heap) (locs : List Loc), Rp EM LM w σ H → va_S (AW LM w) s.heap H locs → ∀ (ls : Array Slot), lv_has ls 5 [(0, .ref (w.2.2 0)), (1, .int x1), (2, .int x2)] → W p l e rm7_figures s m args below meth c H locs 0 0 (MQ below (Qw EM LM w σ' (some (.int r))) args s 0 0 (AW LM w)) (F0 m 2 ls []) := by
  obtain ⟨hx, hb, hml, hown, hts⟩ := id S
  intro n
  induction n with
  | zero =>
    intro σ x1 x2 h0
    cases (show none = _ from h0)
  | succ n ih =>
    intro σ x1 x2 h0 H locs hR hS ls hl
    rw [f7_figures_b2] at h0
    refine lv_iload_n hx hb d7_figures_2 rfl (lv_at hl 2 rfl) ?_
    refine lv_iload_n hx hb d7_figures_3 rfl (lv_at hl 1 rfl) ?_
    refine lv_icmp_ge (tgt := 136) hx hb d7_figures_4 (by decide) (fun hc1 => ?_) (fun hc1 => ?_)
    · have h0 := og_t hc1 h0
      refine lv_iconst (v := 1) hx hb d7_figures_136 (by decide) ?_
      exact q_zret S hr hlk hR hS (Or.inr rfl) h0 d7_figures_137
    · have h0 := og_f hc1 h0
      refine lv_iconst (v := 0) hx hb d7_figures_7 (by decide) ?_
      refine lv_istore_n (lv' := [(3, .int 0), (0, .ref (w.2.2 0)), (1, .int x1), (2, .int x2)]) hx hb d7_figures_8 rfl hl (by decide) rfl (fun ls hl => ?_)
      refine lv_iconst (v := 0) hx hb d7_figures_9 (by decide) ?_
      refine lv_istore (lv' := [(4, .int 0), (3, .int 0), (0, .ref (w.2.2 0)), (1, .int x1), (2, .int x2)]) hx hb d7_figures_10 hl (by decide) rfl (fun ls hl => ?_)
      exact t7_figures_b12 S hr hlk hK ih 1000 σ x1 x2 0 0 h0 _ _ hR hS _ (lv_sub hl [2, 3, 4, 1, 0] rfl)
def f7_figures (σ : Mem) (x1 : Int32) : Option (Mem × Int32) := f7_figures_b2 1000 σ x1 0
set_option maxHeartbeats 4000000 in
set_option maxRecDepth 100000 in
theorem c7_figures (l : Launch) {w : WV} {σ : Mem} {x1 : Int32} {σ' : Mem} {r : Int32} (h0 : f7_figures σ x1 = some (σ', r)) : Met l yX7_figures (wy yX7_figures cX7_figures 5 (some .boolean)) rm7_figures (Pw EM LM w [.ref (w.2.2 0), .int x1] σ) (Qw EM LM w σ' (some (.int r))) 0 0 (AW LM w) := by
  refine mk_met (by decide) (Nat.le_of_ble_eq_true rfl) ?_
  intro p e s m below meth c S hr hlk hK hR ls hl
  obtain ⟨hx, hb, hml, hown, hts⟩ := id S
  have hl : lv_has ls 5 [(0, .ref (w.2.2 0)), (1, .int x1)] := hl
  have hS : va_S (AW LM w) s.heap s.heap [] := va_S.rf
  unfold f7_figures at h0
  refine lv_iconst (v := 0) hx hb d7_figures_0 (by decide) ?_
  refine lv_istore_n (lv' := [(2, .int 0), (0, .ref (w.2.2 0)), (1, .int x1)]) hx hb d7_figures_1 rfl hl (by decide) rfl (fun ls hl => ?_)
  exact t7_figures_b2 S hr hlk hK 1000 σ x1 0 h0 _ _ hR hS _ (lv_sub hl [1, 2, 0] rfl)
set_option maxHeartbeats 4000000 in
set_option maxRecDepth 100000 in
theorem k7_134 {p : Program} {l : Launch} {e : Env} {R : Room} {s : State} {m : MethodId} {args : Array Value} {below : List Frame} {meth : Method} {c : Code} {H : Heap} {locs : List Loc} {cells slots : Nat} {Q : State → Prop} {cc : ByteArray} {pc nL : Nat} {ls : Array Slot} {rest : List Value} {w : WV} {σ : Mem} {x1 : Int32} {σ1 : Mem} {r : Int32} (S : CallFix p m c cc nL s args gtbl RX7) (hK : KS LM w s) (hR : Rp EM LM w σ H) (hS : va_S (AW LM w) s.heap H locs) (h0 : f7_figures σ x1 = some (σ1, r)) (hf : cells + 0 ≤ R.cells ∧ slots + 0 ≤ R.slots) (hRm : rm7_figures.frames + 1 ≤ R.frames ∧ 8 + (5 + 11) + rm7_figures.locals ≤ R.locals) (hl : ls.size = nL) (hW : (rest.map fun v => v.category).sum ≤ 8) (hdg : decode cc pc = .ok (.invokevirtual 134, 3)) (kk : ∀ (H1 : Heap) (locs1 : List Loc), Rp EM LM w σ1 H1 → va_S (AW LM w) s.heap H1 locs1 → W p l e R s m args below meth c H1 locs1 cells slots Q (F0 m (pc + 3) ls (.int r :: rest))) : W p l e R s m args below meth c H locs cells slots Q (F0 m pc ls (.int x1 :: .ref (w.2.2 0) :: rest)) := r_end hS (run_V (n := 1) (As := [.int x1]) S hK hR (by decide) (eM_7 w _) rfl (gw_V (gt_at 1051 (by decide +kernel) (by decide +kernel)) (gt_at 1053 (by decide +kernel) (by decide +kernel)) (gt_at 45 (by decide +kernel) (by decide +kernel)) (gt_at 86 (by decide +kernel) (by decide +kernel)) (gt_at 1054 (by decide +kernel) (by decide +kernel))) (by decide +kernel) rfl (c7_figures l h0) ⟨rfl, rfl⟩ hRm hf hl rfl hW hdg) kk
/-! FourTenGatesModel.setTold(IIII)Z -/
abbrev rm7_setTold : Room := { frames := 1, cells := 0, slots := 0, locals := 25 }
theorem d7_setTold_0 : decode cX7_setTold 0 = .ok (.aload_n 0, 1) := by decide +kernel
theorem d7_setTold_1 : decode cX7_setTold 1 = .ok (.getfield 31, 3) := by decide +kernel
theorem d7_setTold_4 : decode cX7_setTold 4 = .ok (.iconst 4, 1) := by decide +kernel
theorem d7_setTold_5 : decode cX7_setTold 5 = .ok (.iload_n 1, 1) := by decide +kernel
theorem d7_setTold_6 : decode cX7_setTold 6 = .ok (.iadd, 1) := by decide +kernel
theorem d7_setTold_7 : decode cX7_setTold 7 = .ok (.iload_n 2, 1) := by decide +kernel
theorem d7_setTold_8 : decode cX7_setTold 8 = .ok (.iastore, 1) := by decide +kernel
theorem d7_setTold_9 : decode cX7_setTold 9 = .ok (.iload_n 2, 1) := by decide +kernel
theorem d7_setTold_10 : decode cX7_setTold 10 = .ok (.i2l, 1) := by decide +kernel
theorem d7_setTold_11 : decode cX7_setTold 11 = .ok (.iload_n 3, 1) := by decide +kernel
theorem d7_setTold_12 : decode cX7_setTold 12 = .ok (.i2l, 1) := by decide +kernel
theorem d7_setTold_13 : decode cX7_setTold 13 = .ok (.iload 4, 2) := by decide +kernel
theorem d7_setTold_15 : decode cX7_setTold 15 = .ok (.i2l, 1) := by decide +kernel
theorem d7_setTold_16 : decode cX7_setTold 16 = .ok (.invokestatic 113, 3) := by decide +kernel
theorem d7_setTold_19 : decode cX7_setTold 19 = .ok (.ireturn, 1) := by decide +kernel
def f7_setTold (σ : Mem) (x1 : Int32) (x2 : Int32) (x3 : Int32) (x4 : Int32) : Option (Mem × Int32) := if ¬ (4 + x1 < 0 ∨ 8 ≤ (4 + x1).toNatClampNeg) then (bm (mu σ 9 ((4 + x1).toNatClampNeg) x2) fun σ2 => Option.bind (f7_in x2.toInt64 x3.toInt64 x4.toInt64) fun r3 => if r3 = 0 ∨ r3 = 1 then some (σ2, r3) else none) else none
set_option maxHeartbeats 4000000 in
set_option maxRecDepth 100000 in
theorem c7_setTold (l : Launch) {w : WV} {σ : Mem} {x1 : Int32} {x2 : Int32} {x3 : Int32} {x4 : Int32} {σ' : Mem} {r : Int32} (h0 : f7_setTold σ x1 x2 x3 x4 = some (σ', r)) : Met l yX7_setTold (wy yX7_setTold cX7_setTold 5 (some .boolean)) rm7_setTold (Pw EM LM w [.ref (w.2.2 0), .int x1, .int x2, .int x3, .int x4] σ) (Qw EM LM w σ' (some (.int r))) 0 0 (AW LM w) := by
  refine mk_met (by decide) (Nat.le_of_ble_eq_true rfl) ?_
  intro p e s m below meth c S hr hlk hK hR ls hl
  obtain ⟨hx, hb, hml, hown, hts⟩ := id S
  have hl : lv_has ls 5 [(0, .ref (w.2.2 0)), (1, .int x1), (2, .int x2), (3, .int x3), (4, .int x4)] := hl
  have hS : va_S (AW LM w) s.heap s.heap [] := va_S.rf
  unfold f7_setTold at h0
  refine lv_aload_n hx hb d7_setTold_0 rfl (lv_at hl 0 rfl) ?_
  refine g7_31 S hK hR d7_setTold_1 ?_
  refine lv_iconst (v := 4) hx hb d7_setTold_4 (by decide) ?_
  refine lv_iload_n hx hb d7_setTold_5 rfl (lv_at hl 1 rfl) ?_
  refine lv_iadd hx hb d7_setTold_6 ?_
  refine lv_iload_n hx hb d7_setTold_7 rfl (lv_at hl 2 rfl) ?_
  obtain ⟨hi1, h0⟩ := og_if h0
  obtain ⟨σ2, hm2, h0⟩ := og_m h0
  refine q_st S hK hR hS (by decide) (eM_108 w) hi1 rfl hm2 d7_setTold_8 (fun H locs hR hS => ?_)
  refine lv_iload_n hx hb d7_setTold_9 rfl (lv_at hl 2 rfl) ?_
  refine lv_i2l hx hb d7_setTold_10 rfl ?_
  refine lv_iload_n hx hb d7_setTold_11 rfl (lv_at hl 3 rfl) ?_
  refine lv_i2l hx hb d7_setTold_12 rfl ?_
  refine lv_iload hx hb d7_setTold_13 (lv_at hl 4 rfl) ?_
  refine lv_i2l hx hb d7_setTold_15 rfl ?_
  obtain ⟨r3, hr3, h0⟩ := og_b h0
  refine k7_113 S  hr3 ⟨Nat.zero_le _, Nat.zero_le _⟩ ⟨Nat.le_of_ble_eq_true rfl, Nat.le_of_ble_eq_true rfl⟩ hl.1 (Nat.le_of_ble_eq_true rfl) d7_setTold_16 ?_
  obtain ⟨hb0, h0⟩ := og_if h0
  exact q_zret S hr hlk hR hS hb0 h0 d7_setTold_19
set_option maxHeartbeats 4000000 in
set_option maxRecDepth 100000 in
theorem k7_138 {p : Program} {l : Launch} {e : Env} {R : Room} {s : State} {m : MethodId} {args : Array Value} {below : List Frame} {meth : Method} {c : Code} {H : Heap} {locs : List Loc} {cells slots : Nat} {Q : State → Prop} {cc : ByteArray} {pc nL : Nat} {ls : Array Slot} {rest : List Value} {w : WV} {σ : Mem} {x1 : Int32} {x2 : Int32} {x3 : Int32} {x4 : Int32} {σ1 : Mem} {r : Int32} (S : CallFix p m c cc nL s args gtbl RX7) (hK : KS LM w s) (hR : Rp EM LM w σ H) (hS : va_S (AW LM w) s.heap H locs) (h0 : f7_setTold σ x1 x2 x3 x4 = some (σ1, r)) (hf : cells + 0 ≤ R.cells ∧ slots + 0 ≤ R.slots) (hRm : rm7_setTold.frames + 1 ≤ R.frames ∧ 8 + (5 + 11) + rm7_setTold.locals ≤ R.locals) (hl : ls.size = nL) (hW : (rest.map fun v => v.category).sum ≤ 8) (hdg : decode cc pc = .ok (.invokevirtual 138, 3)) (kk : ∀ (H1 : Heap) (locs1 : List Loc), Rp EM LM w σ1 H1 → va_S (AW LM w) s.heap H1 locs1 → W p l e R s m args below meth c H1 locs1 cells slots Q (F0 m (pc + 3) ls (.int r :: rest))) : W p l e R s m args below meth c H locs cells slots Q (F0 m pc ls (.int x4 :: .int x3 :: .int x2 :: .int x1 :: .ref (w.2.2 0) :: rest)) := r_end hS (run_V (n := 4) (As := [.int x1, .int x2, .int x3, .int x4]) S hK hR (by decide) (eM_7 w _) rfl (gw_V (gt_at 1058 (by decide +kernel) (by decide +kernel)) (gt_at 1060 (by decide +kernel) (by decide +kernel)) (gt_at 46 (by decide +kernel) (by decide +kernel)) (gt_at 86 (by decide +kernel) (by decide +kernel)) (gt_at 1061 (by decide +kernel) (by decide +kernel))) (by decide +kernel) rfl (c7_setTold l h0) ⟨rfl, rfl⟩ hRm hf hl rfl hW hdg) kk
/-! FourTenGatesModel.closingItem()Z -/
abbrev rm7_closingItem : Room := { frames := 2, cells := 0, slots := 0, locals := 49 }
theorem d7_closingItem_0 : decode cX7_closingItem 0 = .ok (.aload_n 0, 1) := by decide +kernel
theorem d7_closingItem_1 : decode cX7_closingItem 1 = .ok (.iconst 2, 1) := by decide +kernel
theorem d7_closingItem_2 : decode cX7_closingItem 2 = .ok (.invokevirtual 134, 3) := by decide +kernel
theorem d7_closingItem_5 : decode cX7_closingItem 5 = .ok (.ifCond .eq 40, 3) := by decide +kernel
theorem d7_closingItem_8 : decode cX7_closingItem 8 = .ok (.aload_n 0, 1) := by decide +kernel
theorem d7_closingItem_9 : decode cX7_closingItem 9 = .ok (.getfield 37, 3) := by decide +kernel
theorem d7_closingItem_12 : decode cX7_closingItem 12 = .ok (.iconst 1, 1) := by decide +kernel
theorem d7_closingItem_13 : decode cX7_closingItem 13 = .ok (.iaload, 1) := by decide +kernel
theorem d7_closingItem_14 : decode cX7_closingItem 14 = .ok (.bipush 6, 2) := by decide +kernel
theorem d7_closingItem_16 : decode cX7_closingItem 16 = .ok (.if_icmp .eq 29, 3) := by decide +kernel
theorem d7_closingItem_19 : decode cX7_closingItem 19 = .ok (.aload_n 0, 1) := by decide +kernel
theorem d7_closingItem_20 : decode cX7_closingItem 20 = .ok (.getfield 70, 3) := by decide +kernel
theorem d7_closingItem_23 : decode cX7_closingItem 23 = .ok (.iconst 1, 1) := by decide +kernel
theorem d7_closingItem_24 : decode cX7_closingItem 24 = .ok (.iaload, 1) := by decide +kernel
theorem d7_closingItem_25 : decode cX7_closingItem 25 = .ok (.bipush 60, 2) := by decide +kernel
theorem d7_closingItem_27 : decode cX7_closingItem 27 = .ok (.if_icmp .gt 18, 3) := by decide +kernel
theorem d7_closingItem_30 : decode cX7_closingItem 30 = .ok (.aload_n 0, 1) := by decide +kernel
theorem d7_closingItem_31 : decode cX7_closingItem 31 = .ok (.getfield 70, 3) := by decide +kernel
theorem d7_closingItem_34 : decode cX7_closingItem 34 = .ok (.iconst 0, 1) := by decide +kernel
theorem d7_closingItem_35 : decode cX7_closingItem 35 = .ok (.iaload, 1) := by decide +kernel
theorem d7_closingItem_36 : decode cX7_closingItem 36 = .ok (.aload_n 0, 1) := by decide +kernel
theorem d7_closingItem_37 : decode cX7_closingItem 37 = .ok (.getfield 70, 3) := by decide +kernel
theorem d7_closingItem_40 : decode cX7_closingItem 40 = .ok (.iconst 1, 1) := by decide +kernel
theorem d7_closingItem_41 : decode cX7_closingItem 41 = .ok (.iaload, 1) := by decide +kernel
theorem d7_closingItem_42 : decode cX7_closingItem 42 = .ok (.if_icmp .lt 5, 3) := by decide +kernel
theorem d7_closingItem_45 : decode cX7_closingItem 45 = .ok (.iconst 0, 1) := by decide +kernel
theorem d7_closingItem_46 : decode cX7_closingItem 46 = .ok (.ireturn, 1) := by decide +kernel
theorem d7_closingItem_47 : decode cX7_closingItem 47 = .ok (.aload_n 0, 1) := by decide +kernel
theorem d7_closingItem_48 : decode cX7_closingItem 48 = .ok (.getfield 40, 3) := by decide +kernel
theorem d7_closingItem_51 : decode cX7_closingItem 51 = .ok (.bipush 6, 2) := by decide +kernel
theorem d7_closingItem_53 : decode cX7_closingItem 53 = .ok (.aload_n 0, 1) := by decide +kernel
theorem d7_closingItem_54 : decode cX7_closingItem 54 = .ok (.getfield 37, 3) := by decide +kernel
theorem d7_closingItem_57 : decode cX7_closingItem 57 = .ok (.iconst 1, 1) := by decide +kernel
theorem d7_closingItem_58 : decode cX7_closingItem 58 = .ok (.iaload, 1) := by decide +kernel
theorem d7_closingItem_59 : decode cX7_closingItem 59 = .ok (.iadd, 1) := by decide +kernel
theorem d7_closingItem_60 : decode cX7_closingItem 60 = .ok (.aload_n 0, 1) := by decide +kernel
theorem d7_closingItem_61 : decode cX7_closingItem 61 = .ok (.getfield 70, 3) := by decide +kernel
theorem d7_closingItem_64 : decode cX7_closingItem 64 = .ok (.iconst 0, 1) := by decide +kernel
theorem d7_closingItem_65 : decode cX7_closingItem 65 = .ok (.iaload, 1) := by decide +kernel
theorem d7_closingItem_66 : decode cX7_closingItem 66 = .ok (.iastore, 1) := by decide +kernel
theorem d7_closingItem_67 : decode cX7_closingItem 67 = .ok (.aload_n 0, 1) := by decide +kernel
theorem d7_closingItem_68 : decode cX7_closingItem 68 = .ok (.getfield 43, 3) := by decide +kernel
theorem d7_closingItem_71 : decode cX7_closingItem 71 = .ok (.bipush 6, 2) := by decide +kernel
theorem d7_closingItem_73 : decode cX7_closingItem 73 = .ok (.aload_n 0, 1) := by decide +kernel
theorem d7_closingItem_74 : decode cX7_closingItem 74 = .ok (.getfield 37, 3) := by decide +kernel
theorem d7_closingItem_77 : decode cX7_closingItem 77 = .ok (.iconst 1, 1) := by decide +kernel
theorem d7_closingItem_78 : decode cX7_closingItem 78 = .ok (.iaload, 1) := by decide +kernel
theorem d7_closingItem_79 : decode cX7_closingItem 79 = .ok (.iadd, 1) := by decide +kernel
theorem d7_closingItem_80 : decode cX7_closingItem 80 = .ok (.aload_n 0, 1) := by decide +kernel
theorem d7_closingItem_81 : decode cX7_closingItem 81 = .ok (.getfield 70, 3) := by decide +kernel
theorem d7_closingItem_84 : decode cX7_closingItem 84 = .ok (.iconst 1, 1) := by decide +kernel
theorem d7_closingItem_85 : decode cX7_closingItem 85 = .ok (.iaload, 1) := by decide +kernel
theorem d7_closingItem_86 : decode cX7_closingItem 86 = .ok (.iastore, 1) := by decide +kernel
theorem d7_closingItem_87 : decode cX7_closingItem 87 = .ok (.aload_n 0, 1) := by decide +kernel
theorem d7_closingItem_88 : decode cX7_closingItem 88 = .ok (.getfield 37, 3) := by decide +kernel
theorem d7_closingItem_91 : decode cX7_closingItem 91 = .ok (.iconst 1, 1) := by decide +kernel
theorem d7_closingItem_92 : decode cX7_closingItem 92 = .ok (.dup2, 1) := by decide +kernel
theorem d7_closingItem_93 : decode cX7_closingItem 93 = .ok (.iaload, 1) := by decide +kernel
theorem d7_closingItem_94 : decode cX7_closingItem 94 = .ok (.iconst 1, 1) := by decide +kernel
theorem d7_closingItem_95 : decode cX7_closingItem 95 = .ok (.iadd, 1) := by decide +kernel
theorem d7_closingItem_96 : decode cX7_closingItem 96 = .ok (.iastore, 1) := by decide +kernel
theorem d7_closingItem_97 : decode cX7_closingItem 97 = .ok (.iconst 1, 1) := by decide +kernel
theorem d7_closingItem_98 : decode cX7_closingItem 98 = .ok (.ireturn, 1) := by decide +kernel
def f7_closingItem (σ : Mem) : Option (Mem × Int32) := ob (f7_figures σ 2) fun σ1 r1 => if r1 = 0 then some (σ1, 0) else if (σ1 11 1) = 6 then some (σ1, 0) else if 60 < (σ1 26 1) then some (σ1, 0) else if (σ1 26 0) < (σ1 26 1) then if ¬ (6 + (σ1 11 1) < 0 ∨ 12 ≤ (6 + (σ1 11 1)).toNatClampNeg) then (bm (mu σ1 12 ((6 + (σ1 11 1)).toNatClampNeg) (σ1 26 0)) fun σ7 => if ¬ (6 + (σ7 11 1) < 0 ∨ 12 ≤ (6 + (σ7 11 1)).toNatClampNeg) then (bm (mu σ7 13 ((6 + (σ7 11 1)).toNatClampNeg) (σ7 26 1)) fun σ9 => bm (mu σ9 11 1 ((σ9 11 1) + 1)) fun σ10 => some (σ10, 1)) else none) else none else some (σ1, 0)
set_option maxHeartbeats 4000000 in
set_option maxRecDepth 100000 in
theorem c7_closingItem (l : Launch) {w : WV} {σ : Mem} {σ' : Mem} {r : Int32} (h0 : f7_closingItem σ = some (σ', r)) : Met l yX7_closingItem (wy yX7_closingItem cX7_closingItem 1 (some .boolean)) rm7_closingItem (Pw EM LM w [.ref (w.2.2 0)] σ) (Qw EM LM w σ' (some (.int r))) 0 0 (AW LM w) := by
  refine mk_met (by decide) (Nat.le_of_ble_eq_true rfl) ?_
  intro p e s m below meth c S hr hlk hK hR ls hl
  obtain ⟨hx, hb, hml, hown, hts⟩ := id S
  have hl : lv_has ls 1 [(0, .ref (w.2.2 0))] := hl
  have hS : va_S (AW LM w) s.heap s.heap [] := va_S.rf
  unfold f7_closingItem at h0
  refine lv_aload_n hx hb d7_closingItem_0 rfl (lv_at hl 0 rfl) ?_
  refine lv_iconst (v := 2) hx hb d7_closingItem_1 (by decide) ?_
  obtain ⟨σ1, r1, hr1, h0⟩ := og_o h0
  refine k7_134 S hK hR hS  hr1 ⟨Nat.zero_le _, Nat.zero_le _⟩ ⟨Nat.le_of_ble_eq_true rfl, Nat.le_of_ble_eq_true rfl⟩ hl.1 (Nat.le_of_ble_eq_true rfl) d7_closingItem_2 (fun H locs hR hS => ?_)
  refine lv_if_eq (tgt := 45) hx hb d7_closingItem_5 (by decide) (fun hc2 => ?_) (fun hc2 => ?_)
  · have h0 := og_t hc2 h0
    refine lv_iconst (v := 0) hx hb d7_closingItem_45 (by decide) ?_
    exact q_zret S hr hlk hR hS (Or.inl rfl) h0 d7_closingItem_46
  · have h0 := og_f hc2 h0
    refine lv_aload_n hx hb d7_closingItem_8 rfl (lv_at hl 0 rfl) ?_
    refine g7_37 S hK hR d7_closingItem_9 ?_
    refine lv_iconst (v := 1) hx hb d7_closingItem_12 (by decide) ?_
    refine q_ld (k := 1) S hK hR (by decide) (eM_110 w _) (vin (by decide)) (by decide) d7_closingItem_13 ?_
    refine lv_bipush (v := 6) hx hb d7_closingItem_14 (by decide) ?_
    refine lv_icmp_eq (tgt := 45) hx hb d7_closingItem_16 (by decide) (fun hc3 => ?_) (fun hc3 => ?_)
    · have h0 := og_t hc3 h0
      refine lv_iconst (v := 0) hx hb d7_closingItem_45 (by decide) ?_
      exact q_zret S hr hlk hR hS (Or.inl rfl) h0 d7_closingItem_46
    · have h0 := og_f hc3 h0
      refine lv_aload_n hx hb d7_closingItem_19 rfl (lv_at hl 0 rfl) ?_
      refine g7_70 S hK hR d7_closingItem_20 ?_
      refine lv_iconst (v := 1) hx hb d7_closingItem_23 (by decide) ?_
      refine q_ld (k := 1) S hK hR (by decide) (eM_125 w _) (vin (by decide)) (by decide) d7_closingItem_24 ?_
      refine lv_bipush (v := 60) hx hb d7_closingItem_25 (by decide) ?_
      refine lv_icmp_gt (tgt := 45) hx hb d7_closingItem_27 (by decide) (fun hc4 => ?_) (fun hc4 => ?_)
      · have h0 := og_t hc4 h0
        refine lv_iconst (v := 0) hx hb d7_closingItem_45 (by decide) ?_
        exact q_zret S hr hlk hR hS (Or.inl rfl) h0 d7_closingItem_46
      · have h0 := og_f hc4 h0
        refine lv_aload_n hx hb d7_closingItem_30 rfl (lv_at hl 0 rfl) ?_
        refine g7_70 S hK hR d7_closingItem_31 ?_
        refine lv_iconst (v := 0) hx hb d7_closingItem_34 (by decide) ?_
        refine q_ld (k := 0) S hK hR (by decide) (eM_125 w _) (vin (by decide)) (by decide) d7_closingItem_35 ?_
        refine lv_aload_n hx hb d7_closingItem_36 rfl (lv_at hl 0 rfl) ?_
        refine g7_70 S hK hR d7_closingItem_37 ?_
        refine lv_iconst (v := 1) hx hb d7_closingItem_40 (by decide) ?_
        refine q_ld (k := 1) S hK hR (by decide) (eM_125 w _) (vin (by decide)) (by decide) d7_closingItem_41 ?_
        refine lv_icmp_lt (tgt := 47) hx hb d7_closingItem_42 (by decide) (fun hc5 => ?_) (fun hc5 => ?_)
        · have h0 := og_t hc5 h0
          refine lv_aload_n hx hb d7_closingItem_47 rfl (lv_at hl 0 rfl) ?_
          refine g7_40 S hK hR d7_closingItem_48 ?_
          refine lv_bipush (v := 6) hx hb d7_closingItem_51 (by decide) ?_
          refine lv_aload_n hx hb d7_closingItem_53 rfl (lv_at hl 0 rfl) ?_
          refine g7_37 S hK hR d7_closingItem_54 ?_
          refine lv_iconst (v := 1) hx hb d7_closingItem_57 (by decide) ?_
          refine q_ld (k := 1) S hK hR (by decide) (eM_110 w _) (vin (by decide)) (by decide) d7_closingItem_58 ?_
          refine lv_iadd hx hb d7_closingItem_59 ?_
          refine lv_aload_n hx hb d7_closingItem_60 rfl (lv_at hl 0 rfl) ?_
          refine g7_70 S hK hR d7_closingItem_61 ?_
          refine lv_iconst (v := 0) hx hb d7_closingItem_64 (by decide) ?_
          refine q_ld (k := 0) S hK hR (by decide) (eM_125 w _) (vin (by decide)) (by decide) d7_closingItem_65 ?_
          obtain ⟨hi6, h0⟩ := og_if h0
          obtain ⟨σ7, hm7, h0⟩ := og_m h0
          refine q_st S hK hR hS (by decide) (eM_111 w) hi6 rfl hm7 d7_closingItem_66 (fun H locs hR hS => ?_)
          refine lv_aload_n hx hb d7_closingItem_67 rfl (lv_at hl 0 rfl) ?_
          refine g7_43 S hK hR d7_closingItem_68 ?_
          refine lv_bipush (v := 6) hx hb d7_closingItem_71 (by decide) ?_
          refine lv_aload_n hx hb d7_closingItem_73 rfl (lv_at hl 0 rfl) ?_
          refine g7_37 S hK hR d7_closingItem_74 ?_
          refine lv_iconst (v := 1) hx hb d7_closingItem_77 (by decide) ?_
          refine q_ld (k := 1) S hK hR (by decide) (eM_110 w _) (vin (by decide)) (by decide) d7_closingItem_78 ?_
          refine lv_iadd hx hb d7_closingItem_79 ?_
          refine lv_aload_n hx hb d7_closingItem_80 rfl (lv_at hl 0 rfl) ?_
          refine g7_70 S hK hR d7_closingItem_81 ?_
          refine lv_iconst (v := 1) hx hb d7_closingItem_84 (by decide) ?_
          refine q_ld (k := 1) S hK hR (by decide) (eM_125 w _) (vin (by decide)) (by decide) d7_closingItem_85 ?_
          obtain ⟨hi8, h0⟩ := og_if h0
          obtain ⟨σ9, hm9, h0⟩ := og_m h0
          refine q_st S hK hR hS (by decide) (eM_112 w) hi8 rfl hm9 d7_closingItem_86 (fun H locs hR hS => ?_)
          refine lv_aload_n hx hb d7_closingItem_87 rfl (lv_at hl 0 rfl) ?_
          refine g7_37 S hK hR d7_closingItem_88 ?_
          refine lv_iconst (v := 1) hx hb d7_closingItem_91 (by decide) ?_
          refine lv_dup2_11 hx hb d7_closingItem_92 rfl rfl ?_
          refine q_ld (k := 1) S hK hR (by decide) (eM_110 w _) (vin (by decide)) (by decide) d7_closingItem_93 ?_
          refine lv_iconst (v := 1) hx hb d7_closingItem_94 (by decide) ?_
          refine lv_iadd hx hb d7_closingItem_95 ?_
          obtain ⟨σ10, hm10, h0⟩ := og_m h0
          refine q_st S hK hR hS (by decide) (eM_110 w) (vin (by decide)) (by decide) hm10 d7_closingItem_96 (fun H locs hR hS => ?_)
          refine lv_iconst (v := 1) hx hb d7_closingItem_97 (by decide) ?_
          exact q_zret S hr hlk hR hS (Or.inr rfl) h0 d7_closingItem_98
        · have h0 := og_f hc5 h0
          refine lv_iconst (v := 0) hx hb d7_closingItem_45 (by decide) ?_
          exact q_zret S hr hlk hR hS (Or.inl rfl) h0 d7_closingItem_46
set_option maxHeartbeats 4000000 in
set_option maxRecDepth 100000 in
theorem k7_142 {p : Program} {l : Launch} {e : Env} {R : Room} {s : State} {m : MethodId} {args : Array Value} {below : List Frame} {meth : Method} {c : Code} {H : Heap} {locs : List Loc} {cells slots : Nat} {Q : State → Prop} {cc : ByteArray} {pc nL : Nat} {ls : Array Slot} {rest : List Value} {w : WV} {σ : Mem} {σ1 : Mem} {r : Int32} (S : CallFix p m c cc nL s args gtbl RX7) (hK : KS LM w s) (hR : Rp EM LM w σ H) (hS : va_S (AW LM w) s.heap H locs) (h0 : f7_closingItem σ = some (σ1, r)) (hf : cells + 0 ≤ R.cells ∧ slots + 0 ≤ R.slots) (hRm : rm7_closingItem.frames + 1 ≤ R.frames ∧ 8 + (1 + 11) + rm7_closingItem.locals ≤ R.locals) (hl : ls.size = nL) (hW : (rest.map fun v => v.category).sum ≤ 8) (hdg : decode cc pc = .ok (.invokevirtual 142, 3)) (kk : ∀ (H1 : Heap) (locs1 : List Loc), Rp EM LM w σ1 H1 → va_S (AW LM w) s.heap H1 locs1 → W p l e R s m args below meth c H1 locs1 cells slots Q (F0 m (pc + 3) ls (.int r :: rest))) : W p l e R s m args below meth c H locs cells slots Q (F0 m pc ls (.ref (w.2.2 0) :: rest)) := r_end hS (run_V (n := 0) (As := []) S hK hR (by decide) (eM_7 w _) rfl (gw_V (gt_at 1062 (by decide +kernel) (by decide +kernel)) (gt_at 1064 (by decide +kernel) (by decide +kernel)) (gt_at 47 (by decide +kernel) (by decide +kernel)) (gt_at 86 (by decide +kernel) (by decide +kernel)) (gt_at 1065 (by decide +kernel) (by decide +kernel))) (by decide +kernel) rfl (c7_closingItem l h0) ⟨rfl, rfl⟩ hRm hf hl rfl hW hdg) kk
/-! FourTenGatesModel.oddsItem()Z -/
abbrev rm7_oddsItem : Room := { frames := 2, cells := 0, slots := 0, locals := 49 }
theorem d7_oddsItem_0 : decode cX7_oddsItem 0 = .ok (.aload_n 0, 1) := by decide +kernel
theorem d7_oddsItem_1 : decode cX7_oddsItem 1 = .ok (.iconst 2, 1) := by decide +kernel
theorem d7_oddsItem_2 : decode cX7_oddsItem 2 = .ok (.invokevirtual 134, 3) := by decide +kernel
theorem d7_oddsItem_5 : decode cX7_oddsItem 5 = .ok (.ifCond .eq 35, 3) := by decide +kernel
theorem d7_oddsItem_8 : decode cX7_oddsItem 8 = .ok (.aload_n 0, 1) := by decide +kernel
theorem d7_oddsItem_9 : decode cX7_oddsItem 9 = .ok (.getfield 46, 3) := by decide +kernel
theorem d7_oddsItem_12 : decode cX7_oddsItem 12 = .ok (.iconst 1, 1) := by decide +kernel
theorem d7_oddsItem_13 : decode cX7_oddsItem 13 = .ok (.iaload, 1) := by decide +kernel
theorem d7_oddsItem_14 : decode cX7_oddsItem 14 = .ok (.iconst 5, 1) := by decide +kernel
theorem d7_oddsItem_15 : decode cX7_oddsItem 15 = .ok (.if_icmp .eq 25, 3) := by decide +kernel
theorem d7_oddsItem_18 : decode cX7_oddsItem 18 = .ok (.aload_n 0, 1) := by decide +kernel
theorem d7_oddsItem_19 : decode cX7_oddsItem 19 = .ok (.getfield 70, 3) := by decide +kernel
theorem d7_oddsItem_22 : decode cX7_oddsItem 22 = .ok (.iconst 0, 1) := by decide +kernel
theorem d7_oddsItem_23 : decode cX7_oddsItem 23 = .ok (.iaload, 1) := by decide +kernel
theorem d7_oddsItem_24 : decode cX7_oddsItem 24 = .ok (.bipush 9, 2) := by decide +kernel
theorem d7_oddsItem_26 : decode cX7_oddsItem 26 = .ok (.if_icmp .gt 14, 3) := by decide +kernel
theorem d7_oddsItem_29 : decode cX7_oddsItem 29 = .ok (.aload_n 0, 1) := by decide +kernel
theorem d7_oddsItem_30 : decode cX7_oddsItem 30 = .ok (.getfield 70, 3) := by decide +kernel
theorem d7_oddsItem_33 : decode cX7_oddsItem 33 = .ok (.iconst 1, 1) := by decide +kernel
theorem d7_oddsItem_34 : decode cX7_oddsItem 34 = .ok (.iaload, 1) := by decide +kernel
theorem d7_oddsItem_35 : decode cX7_oddsItem 35 = .ok (.bipush 10, 2) := by decide +kernel
theorem d7_oddsItem_37 : decode cX7_oddsItem 37 = .ok (.if_icmp .le 5, 3) := by decide +kernel
theorem d7_oddsItem_40 : decode cX7_oddsItem 40 = .ok (.iconst 0, 1) := by decide +kernel
theorem d7_oddsItem_41 : decode cX7_oddsItem 41 = .ok (.ireturn, 1) := by decide +kernel
theorem d7_oddsItem_42 : decode cX7_oddsItem 42 = .ok (.aload_n 0, 1) := by decide +kernel
theorem d7_oddsItem_43 : decode cX7_oddsItem 43 = .ok (.getfield 49, 3) := by decide +kernel
theorem d7_oddsItem_46 : decode cX7_oddsItem 46 = .ok (.iconst 5, 1) := by decide +kernel
theorem d7_oddsItem_47 : decode cX7_oddsItem 47 = .ok (.aload_n 0, 1) := by decide +kernel
theorem d7_oddsItem_48 : decode cX7_oddsItem 48 = .ok (.getfield 46, 3) := by decide +kernel
theorem d7_oddsItem_51 : decode cX7_oddsItem 51 = .ok (.iconst 1, 1) := by decide +kernel
theorem d7_oddsItem_52 : decode cX7_oddsItem 52 = .ok (.iaload, 1) := by decide +kernel
theorem d7_oddsItem_53 : decode cX7_oddsItem 53 = .ok (.iadd, 1) := by decide +kernel
theorem d7_oddsItem_54 : decode cX7_oddsItem 54 = .ok (.aload_n 0, 1) := by decide +kernel
theorem d7_oddsItem_55 : decode cX7_oddsItem 55 = .ok (.getfield 70, 3) := by decide +kernel
theorem d7_oddsItem_58 : decode cX7_oddsItem 58 = .ok (.iconst 0, 1) := by decide +kernel
theorem d7_oddsItem_59 : decode cX7_oddsItem 59 = .ok (.iaload, 1) := by decide +kernel
theorem d7_oddsItem_60 : decode cX7_oddsItem 60 = .ok (.iastore, 1) := by decide +kernel
theorem d7_oddsItem_61 : decode cX7_oddsItem 61 = .ok (.aload_n 0, 1) := by decide +kernel
theorem d7_oddsItem_62 : decode cX7_oddsItem 62 = .ok (.getfield 52, 3) := by decide +kernel
theorem d7_oddsItem_65 : decode cX7_oddsItem 65 = .ok (.iconst 5, 1) := by decide +kernel
theorem d7_oddsItem_66 : decode cX7_oddsItem 66 = .ok (.aload_n 0, 1) := by decide +kernel
theorem d7_oddsItem_67 : decode cX7_oddsItem 67 = .ok (.getfield 46, 3) := by decide +kernel
theorem d7_oddsItem_70 : decode cX7_oddsItem 70 = .ok (.iconst 1, 1) := by decide +kernel
theorem d7_oddsItem_71 : decode cX7_oddsItem 71 = .ok (.iaload, 1) := by decide +kernel
theorem d7_oddsItem_72 : decode cX7_oddsItem 72 = .ok (.iadd, 1) := by decide +kernel
theorem d7_oddsItem_73 : decode cX7_oddsItem 73 = .ok (.aload_n 0, 1) := by decide +kernel
theorem d7_oddsItem_74 : decode cX7_oddsItem 74 = .ok (.getfield 70, 3) := by decide +kernel
theorem d7_oddsItem_77 : decode cX7_oddsItem 77 = .ok (.iconst 1, 1) := by decide +kernel
theorem d7_oddsItem_78 : decode cX7_oddsItem 78 = .ok (.iaload, 1) := by decide +kernel
theorem d7_oddsItem_79 : decode cX7_oddsItem 79 = .ok (.iastore, 1) := by decide +kernel
theorem d7_oddsItem_80 : decode cX7_oddsItem 80 = .ok (.aload_n 0, 1) := by decide +kernel
theorem d7_oddsItem_81 : decode cX7_oddsItem 81 = .ok (.getfield 46, 3) := by decide +kernel
theorem d7_oddsItem_84 : decode cX7_oddsItem 84 = .ok (.iconst 1, 1) := by decide +kernel
theorem d7_oddsItem_85 : decode cX7_oddsItem 85 = .ok (.dup2, 1) := by decide +kernel
theorem d7_oddsItem_86 : decode cX7_oddsItem 86 = .ok (.iaload, 1) := by decide +kernel
theorem d7_oddsItem_87 : decode cX7_oddsItem 87 = .ok (.iconst 1, 1) := by decide +kernel
theorem d7_oddsItem_88 : decode cX7_oddsItem 88 = .ok (.iadd, 1) := by decide +kernel
theorem d7_oddsItem_89 : decode cX7_oddsItem 89 = .ok (.iastore, 1) := by decide +kernel
theorem d7_oddsItem_90 : decode cX7_oddsItem 90 = .ok (.iconst 1, 1) := by decide +kernel
theorem d7_oddsItem_91 : decode cX7_oddsItem 91 = .ok (.ireturn, 1) := by decide +kernel
def f7_oddsItem (σ : Mem) : Option (Mem × Int32) := ob (f7_figures σ 2) fun σ1 r1 => if r1 = 0 then some (σ1, 0) else if (σ1 14 1) = 5 then some (σ1, 0) else if 9 < (σ1 26 0) then some (σ1, 0) else if (σ1 26 1) ≤ 10 then if ¬ (5 + (σ1 14 1) < 0 ∨ 10 ≤ (5 + (σ1 14 1)).toNatClampNeg) then (bm (mu σ1 15 ((5 + (σ1 14 1)).toNatClampNeg) (σ1 26 0)) fun σ7 => if ¬ (5 + (σ7 14 1) < 0 ∨ 10 ≤ (5 + (σ7 14 1)).toNatClampNeg) then (bm (mu σ7 16 ((5 + (σ7 14 1)).toNatClampNeg) (σ7 26 1)) fun σ9 => bm (mu σ9 14 1 ((σ9 14 1) + 1)) fun σ10 => some (σ10, 1)) else none) else none else some (σ1, 0)
set_option maxHeartbeats 4000000 in
set_option maxRecDepth 100000 in
theorem c7_oddsItem (l : Launch) {w : WV} {σ : Mem} {σ' : Mem} {r : Int32} (h0 : f7_oddsItem σ = some (σ', r)) : Met l yX7_oddsItem (wy yX7_oddsItem cX7_oddsItem 1 (some .boolean)) rm7_oddsItem (Pw EM LM w [.ref (w.2.2 0)] σ) (Qw EM LM w σ' (some (.int r))) 0 0 (AW LM w) := by
  refine mk_met (by decide) (Nat.le_of_ble_eq_true rfl) ?_
  intro p e s m below meth c S hr hlk hK hR ls hl
  obtain ⟨hx, hb, hml, hown, hts⟩ := id S
  have hl : lv_has ls 1 [(0, .ref (w.2.2 0))] := hl
  have hS : va_S (AW LM w) s.heap s.heap [] := va_S.rf
  unfold f7_oddsItem at h0
  refine lv_aload_n hx hb d7_oddsItem_0 rfl (lv_at hl 0 rfl) ?_
  refine lv_iconst (v := 2) hx hb d7_oddsItem_1 (by decide) ?_
  obtain ⟨σ1, r1, hr1, h0⟩ := og_o h0
  refine k7_134 S hK hR hS  hr1 ⟨Nat.zero_le _, Nat.zero_le _⟩ ⟨Nat.le_of_ble_eq_true rfl, Nat.le_of_ble_eq_true rfl⟩ hl.1 (Nat.le_of_ble_eq_true rfl) d7_oddsItem_2 (fun H locs hR hS => ?_)
  refine lv_if_eq (tgt := 40) hx hb d7_oddsItem_5 (by decide) (fun hc2 => ?_) (fun hc2 => ?_)
  · have h0 := og_t hc2 h0
    refine lv_iconst (v := 0) hx hb d7_oddsItem_40 (by decide) ?_
    exact q_zret S hr hlk hR hS (Or.inl rfl) h0 d7_oddsItem_41
  · have h0 := og_f hc2 h0
    refine lv_aload_n hx hb d7_oddsItem_8 rfl (lv_at hl 0 rfl) ?_
    refine g7_46 S hK hR d7_oddsItem_9 ?_
    refine lv_iconst (v := 1) hx hb d7_oddsItem_12 (by decide) ?_
    refine q_ld (k := 1) S hK hR (by decide) (eM_113 w _) (vin (by decide)) (by decide) d7_oddsItem_13 ?_
    refine lv_iconst (v := 5) hx hb d7_oddsItem_14 (by decide) ?_
    refine lv_icmp_eq (tgt := 40) hx hb d7_oddsItem_15 (by decide) (fun hc3 => ?_) (fun hc3 => ?_)
    · have h0 := og_t hc3 h0
      refine lv_iconst (v := 0) hx hb d7_oddsItem_40 (by decide) ?_
      exact q_zret S hr hlk hR hS (Or.inl rfl) h0 d7_oddsItem_41
    · have h0 := og_f hc3 h0
      refine lv_aload_n hx hb d7_oddsItem_18 rfl (lv_at hl 0 rfl) ?_
      refine g7_70 S hK hR d7_oddsItem_19 ?_
      refine lv_iconst (v := 0) hx hb d7_oddsItem_22 (by decide) ?_
      refine q_ld (k := 0) S hK hR (by decide) (eM_125 w _) (vin (by decide)) (by decide) d7_oddsItem_23 ?_
      refine lv_bipush (v := 9) hx hb d7_oddsItem_24 (by decide) ?_
      refine lv_icmp_gt (tgt := 40) hx hb d7_oddsItem_26 (by decide) (fun hc4 => ?_) (fun hc4 => ?_)
      · have h0 := og_t hc4 h0
        refine lv_iconst (v := 0) hx hb d7_oddsItem_40 (by decide) ?_
        exact q_zret S hr hlk hR hS (Or.inl rfl) h0 d7_oddsItem_41
      · have h0 := og_f hc4 h0
        refine lv_aload_n hx hb d7_oddsItem_29 rfl (lv_at hl 0 rfl) ?_
        refine g7_70 S hK hR d7_oddsItem_30 ?_
        refine lv_iconst (v := 1) hx hb d7_oddsItem_33 (by decide) ?_
        refine q_ld (k := 1) S hK hR (by decide) (eM_125 w _) (vin (by decide)) (by decide) d7_oddsItem_34 ?_
        refine lv_bipush (v := 10) hx hb d7_oddsItem_35 (by decide) ?_
        refine lv_icmp_le (tgt := 42) hx hb d7_oddsItem_37 (by decide) (fun hc5 => ?_) (fun hc5 => ?_)
        · have h0 := og_t hc5 h0
          refine lv_aload_n hx hb d7_oddsItem_42 rfl (lv_at hl 0 rfl) ?_
          refine g7_49 S hK hR d7_oddsItem_43 ?_
          refine lv_iconst (v := 5) hx hb d7_oddsItem_46 (by decide) ?_
          refine lv_aload_n hx hb d7_oddsItem_47 rfl (lv_at hl 0 rfl) ?_
          refine g7_46 S hK hR d7_oddsItem_48 ?_
          refine lv_iconst (v := 1) hx hb d7_oddsItem_51 (by decide) ?_
          refine q_ld (k := 1) S hK hR (by decide) (eM_113 w _) (vin (by decide)) (by decide) d7_oddsItem_52 ?_
          refine lv_iadd hx hb d7_oddsItem_53 ?_
          refine lv_aload_n hx hb d7_oddsItem_54 rfl (lv_at hl 0 rfl) ?_
          refine g7_70 S hK hR d7_oddsItem_55 ?_
          refine lv_iconst (v := 0) hx hb d7_oddsItem_58 (by decide) ?_
          refine q_ld (k := 0) S hK hR (by decide) (eM_125 w _) (vin (by decide)) (by decide) d7_oddsItem_59 ?_
          obtain ⟨hi6, h0⟩ := og_if h0
          obtain ⟨σ7, hm7, h0⟩ := og_m h0
          refine q_st S hK hR hS (by decide) (eM_114 w) hi6 rfl hm7 d7_oddsItem_60 (fun H locs hR hS => ?_)
          refine lv_aload_n hx hb d7_oddsItem_61 rfl (lv_at hl 0 rfl) ?_
          refine g7_52 S hK hR d7_oddsItem_62 ?_
          refine lv_iconst (v := 5) hx hb d7_oddsItem_65 (by decide) ?_
          refine lv_aload_n hx hb d7_oddsItem_66 rfl (lv_at hl 0 rfl) ?_
          refine g7_46 S hK hR d7_oddsItem_67 ?_
          refine lv_iconst (v := 1) hx hb d7_oddsItem_70 (by decide) ?_
          refine q_ld (k := 1) S hK hR (by decide) (eM_113 w _) (vin (by decide)) (by decide) d7_oddsItem_71 ?_
          refine lv_iadd hx hb d7_oddsItem_72 ?_
          refine lv_aload_n hx hb d7_oddsItem_73 rfl (lv_at hl 0 rfl) ?_
          refine g7_70 S hK hR d7_oddsItem_74 ?_
          refine lv_iconst (v := 1) hx hb d7_oddsItem_77 (by decide) ?_
          refine q_ld (k := 1) S hK hR (by decide) (eM_125 w _) (vin (by decide)) (by decide) d7_oddsItem_78 ?_
          obtain ⟨hi8, h0⟩ := og_if h0
          obtain ⟨σ9, hm9, h0⟩ := og_m h0
          refine q_st S hK hR hS (by decide) (eM_115 w) hi8 rfl hm9 d7_oddsItem_79 (fun H locs hR hS => ?_)
          refine lv_aload_n hx hb d7_oddsItem_80 rfl (lv_at hl 0 rfl) ?_
          refine g7_46 S hK hR d7_oddsItem_81 ?_
          refine lv_iconst (v := 1) hx hb d7_oddsItem_84 (by decide) ?_
          refine lv_dup2_11 hx hb d7_oddsItem_85 rfl rfl ?_
          refine q_ld (k := 1) S hK hR (by decide) (eM_113 w _) (vin (by decide)) (by decide) d7_oddsItem_86 ?_
          refine lv_iconst (v := 1) hx hb d7_oddsItem_87 (by decide) ?_
          refine lv_iadd hx hb d7_oddsItem_88 ?_
          obtain ⟨σ10, hm10, h0⟩ := og_m h0
          refine q_st S hK hR hS (by decide) (eM_113 w) (vin (by decide)) (by decide) hm10 d7_oddsItem_89 (fun H locs hR hS => ?_)
          refine lv_iconst (v := 1) hx hb d7_oddsItem_90 (by decide) ?_
          exact q_zret S hr hlk hR hS (Or.inr rfl) h0 d7_oddsItem_91
        · have h0 := og_f hc5 h0
          refine lv_iconst (v := 0) hx hb d7_oddsItem_40 (by decide) ?_
          exact q_zret S hr hlk hR hS (Or.inl rfl) h0 d7_oddsItem_41
set_option maxHeartbeats 4000000 in
set_option maxRecDepth 100000 in
theorem k7_146 {p : Program} {l : Launch} {e : Env} {R : Room} {s : State} {m : MethodId} {args : Array Value} {below : List Frame} {meth : Method} {c : Code} {H : Heap} {locs : List Loc} {cells slots : Nat} {Q : State → Prop} {cc : ByteArray} {pc nL : Nat} {ls : Array Slot} {rest : List Value} {w : WV} {σ : Mem} {σ1 : Mem} {r : Int32} (S : CallFix p m c cc nL s args gtbl RX7) (hK : KS LM w s) (hR : Rp EM LM w σ H) (hS : va_S (AW LM w) s.heap H locs) (h0 : f7_oddsItem σ = some (σ1, r)) (hf : cells + 0 ≤ R.cells ∧ slots + 0 ≤ R.slots) (hRm : rm7_oddsItem.frames + 1 ≤ R.frames ∧ 8 + (1 + 11) + rm7_oddsItem.locals ≤ R.locals) (hl : ls.size = nL) (hW : (rest.map fun v => v.category).sum ≤ 8) (hdg : decode cc pc = .ok (.invokevirtual 146, 3)) (kk : ∀ (H1 : Heap) (locs1 : List Loc), Rp EM LM w σ1 H1 → va_S (AW LM w) s.heap H1 locs1 → W p l e R s m args below meth c H1 locs1 cells slots Q (F0 m (pc + 3) ls (.int r :: rest))) : W p l e R s m args below meth c H locs cells slots Q (F0 m pc ls (.ref (w.2.2 0) :: rest)) := r_end hS (run_V (n := 0) (As := []) S hK hR (by decide) (eM_7 w _) rfl (gw_V (gt_at 1066 (by decide +kernel) (by decide +kernel)) (gt_at 1068 (by decide +kernel) (by decide +kernel)) (gt_at 48 (by decide +kernel) (by decide +kernel)) (gt_at 86 (by decide +kernel) (by decide +kernel)) (gt_at 1069 (by decide +kernel) (by decide +kernel))) (by decide +kernel) rfl (c7_oddsItem l h0) ⟨rfl, rfl⟩ hRm hf hl rfl hW hdg) kk
