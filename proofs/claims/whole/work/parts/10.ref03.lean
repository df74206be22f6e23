/-! FourTenGatesModel.goUsers(I)V -/
abbrev rm7_goUsers : Room := { frames := 2, cells := 0, slots := 0, locals := 45 }
theorem d7_goUsers_0 : decode cX7_goUsers 0 = .ok (.iload_n 1, 1) := by decide +kernel
theorem d7_goUsers_1 : decode cX7_goUsers 1 = .ok (.aload_n 0, 1) := by decide +kernel
theorem d7_goUsers_2 : decode cX7_goUsers 2 = .ok (.getfield 192, 3) := by decide +kernel
theorem d7_goUsers_5 : decode cX7_goUsers 5 = .ok (.if_icmp .lt 19, 3) := by decide +kernel
theorem d7_goUsers_8 : decode cX7_goUsers 8 = .ok (.aload_n 0, 1) := by decide +kernel
theorem d7_goUsers_9 : decode cX7_goUsers 9 = .ok (.iload_n 1, 1) := by decide +kernel
theorem d7_goUsers_10 : decode cX7_goUsers 10 = .ok (.invokevirtual 199, 3) := by decide +kernel
theorem d7_goUsers_13 : decode cX7_goUsers 13 = .ok (.ifCond .ne 11, 3) := by decide +kernel
theorem d7_goUsers_16 : decode cX7_goUsers 16 = .ok (.aload_n 0, 1) := by decide +kernel
theorem d7_goUsers_17 : decode cX7_goUsers 17 = .ok (.iload_n 1, 1) := by decide +kernel
theorem d7_goUsers_18 : decode cX7_goUsers 18 = .ok (.invokevirtual 230, 3) := by decide +kernel
theorem d7_goUsers_21 : decode cX7_goUsers 21 = .ok (.goto 5, 3) := by decide +kernel
theorem d7_goUsers_24 : decode cX7_goUsers 24 = .ok (.bipush (-4), 2) := by decide +kernel
theorem d7_goUsers_26 : decode cX7_goUsers 26 = .ok (.istore_n 2, 1) := by decide +kernel
theorem d7_goUsers_27 : decode cX7_goUsers 27 = .ok (.iload_n 2, 1) := by decide +kernel
theorem d7_goUsers_28 : decode cX7_goUsers 28 = .ok (.ifCond .lt 45, 3) := by decide +kernel
theorem d7_goUsers_31 : decode cX7_goUsers 31 = .ok (.aload_n 0, 1) := by decide +kernel
theorem d7_goUsers_32 : decode cX7_goUsers 32 = .ok (.getfield 82, 3) := by decide +kernel
theorem d7_goUsers_35 : decode cX7_goUsers 35 = .ok (.iload_n 2, 1) := by decide +kernel
theorem d7_goUsers_36 : decode cX7_goUsers 36 = .ok (.iload_n 1, 1) := by decide +kernel
theorem d7_goUsers_37 : decode cX7_goUsers 37 = .ok (.iastore, 1) := by decide +kernel
theorem d7_goUsers_38 : decode cX7_goUsers 38 = .ok (.aload_n 0, 1) := by decide +kernel
theorem d7_goUsers_39 : decode cX7_goUsers 39 = .ok (.iload_n 1, 1) := by decide +kernel
theorem d7_goUsers_40 : decode cX7_goUsers 40 = .ok (.aload_n 0, 1) := by decide +kernel
theorem d7_goUsers_41 : decode cX7_goUsers 41 = .ok (.getfield 28, 3) := by decide +kernel
theorem d7_goUsers_44 : decode cX7_goUsers 44 = .ok (.iload_n 2, 1) := by decide +kernel
theorem d7_goUsers_45 : decode cX7_goUsers 45 = .ok (.iaload, 1) := by decide +kernel
theorem d7_goUsers_46 : decode cX7_goUsers 46 = .ok (.ifCond .ne 7, 3) := by decide +kernel
theorem d7_goUsers_49 : decode cX7_goUsers 49 = .ok (.iconst 2, 1) := by decide +kernel
theorem d7_goUsers_50 : decode cX7_goUsers 50 = .ok (.goto 19, 3) := by decide +kernel
theorem d7_goUsers_53 : decode cX7_goUsers 53 = .ok (.aload_n 0, 1) := by decide +kernel
theorem d7_goUsers_54 : decode cX7_goUsers 54 = .ok (.getfield 28, 3) := by decide +kernel
theorem d7_goUsers_57 : decode cX7_goUsers 57 = .ok (.iload_n 2, 1) := by decide +kernel
theorem d7_goUsers_58 : decode cX7_goUsers 58 = .ok (.iaload, 1) := by decide +kernel
theorem d7_goUsers_59 : decode cX7_goUsers 59 = .ok (.iconst 1, 1) := by decide +kernel
theorem d7_goUsers_60 : decode cX7_goUsers 60 = .ok (.if_icmp .ne 8, 3) := by decide +kernel
theorem d7_goUsers_63 : decode cX7_goUsers 63 = .ok (.bipush 30, 2) := by decide +kernel
theorem d7_goUsers_65 : decode cX7_goUsers 65 = .ok (.goto 4, 3) := by decide +kernel
theorem d7_goUsers_68 : decode cX7_goUsers 68 = .ok (.iconst 1, 1) := by decide +kernel
theorem d7_goUsers_69 : decode cX7_goUsers 69 = .ok (.iadd, 1) := by decide +kernel
theorem d7_goUsers_70 : decode cX7_goUsers 70 = .ok (.putfield 192, 3) := by decide +kernel
theorem d7_goUsers_73 : decode cX7_goUsers 73 = .ok (.iconst 0, 1) := by decide +kernel
theorem d7_goUsers_74 : decode cX7_goUsers 74 = .ok (.istore_n 3, 1) := by decide +kernel
theorem d7_goUsers_75 : decode cX7_goUsers 75 = .ok (.iload_n 3, 1) := by decide +kernel
theorem d7_goUsers_76 : decode cX7_goUsers 76 = .ok (.aload_n 0, 1) := by decide +kernel
theorem d7_goUsers_77 : decode cX7_goUsers 77 = .ok (.getfield 22, 3) := by decide +kernel
theorem d7_goUsers_80 : decode cX7_goUsers 80 = .ok (.iconst 0, 1) := by decide +kernel
theorem d7_goUsers_81 : decode cX7_goUsers 81 = .ok (.iaload, 1) := by decide +kernel
theorem d7_goUsers_82 : decode cX7_goUsers 82 = .ok (.if_icmp .ge 54, 3) := by decide +kernel
theorem d7_goUsers_85 : decode cX7_goUsers 85 = .ok (.aload_n 0, 1) := by decide +kernel
theorem d7_goUsers_86 : decode cX7_goUsers 86 = .ok (.iload_n 3, 1) := by decide +kernel
theorem d7_goUsers_87 : decode cX7_goUsers 87 = .ok (.iload_n 1, 1) := by decide +kernel
theorem d7_goUsers_88 : decode cX7_goUsers 88 = .ok (.invokevirtual 224, 3) := by decide +kernel
theorem d7_goUsers_91 : decode cX7_goUsers 91 = .ok (.ifCond .eq 39, 3) := by decide +kernel
theorem d7_goUsers_94 : decode cX7_goUsers 94 = .ok (.aload_n 0, 1) := by decide +kernel
theorem d7_goUsers_95 : decode cX7_goUsers 95 = .ok (.getfield 85, 3) := by decide +kernel
theorem d7_goUsers_98 : decode cX7_goUsers 98 = .ok (.iload_n 3, 1) := by decide +kernel
theorem d7_goUsers_99 : decode cX7_goUsers 99 = .ok (.dup2, 1) := by decide +kernel
theorem d7_goUsers_100 : decode cX7_goUsers 100 = .ok (.iaload, 1) := by decide +kernel
theorem d7_goUsers_101 : decode cX7_goUsers 101 = .ok (.iconst 1, 1) := by decide +kernel
theorem d7_goUsers_102 : decode cX7_goUsers 102 = .ok (.iadd, 1) := by decide +kernel
theorem d7_goUsers_103 : decode cX7_goUsers 103 = .ok (.iastore, 1) := by decide +kernel
theorem d7_goUsers_104 : decode cX7_goUsers 104 = .ok (.aload_n 0, 1) := by decide +kernel
theorem d7_goUsers_105 : decode cX7_goUsers 105 = .ok (.getfield 88, 3) := by decide +kernel
theorem d7_goUsers_108 : decode cX7_goUsers 108 = .ok (.iload_n 3, 1) := by decide +kernel
theorem d7_goUsers_109 : decode cX7_goUsers 109 = .ok (.aload_n 0, 1) := by decide +kernel
theorem d7_goUsers_110 : decode cX7_goUsers 110 = .ok (.getfield 85, 3) := by decide +kernel
theorem d7_goUsers_113 : decode cX7_goUsers 113 = .ok (.iload_n 3, 1) := by decide +kernel
theorem d7_goUsers_114 : decode cX7_goUsers 114 = .ok (.iaload, 1) := by decide +kernel
theorem d7_goUsers_115 : decode cX7_goUsers 115 = .ok (.aload_n 0, 1) := by decide +kernel
theorem d7_goUsers_116 : decode cX7_goUsers 116 = .ok (.getfield 31, 3) := by decide +kernel
theorem d7_goUsers_119 : decode cX7_goUsers 119 = .ok (.iconst 2, 1) := by decide +kernel
theorem d7_goUsers_120 : decode cX7_goUsers 120 = .ok (.iaload, 1) := by decide +kernel
theorem d7_goUsers_121 : decode cX7_goUsers 121 = .ok (.if_icmp .ne 7, 3) := by decide +kernel
theorem d7_goUsers_124 : decode cX7_goUsers 124 = .ok (.iconst 1, 1) := by decide +kernel
theorem d7_goUsers_125 : decode cX7_goUsers 125 = .ok (.goto 4, 3) := by decide +kernel
theorem d7_goUsers_128 : decode cX7_goUsers 128 = .ok (.iconst 0, 1) := by decide +kernel
theorem d7_goUsers_129 : decode cX7_goUsers 129 = .ok (.bastore, 1) := by decide +kernel
theorem d7_goUsers_130 : decode cX7_goUsers 130 = .ok (.iinc 3 1, 3) := by decide +kernel
theorem d7_goUsers_133 : decode cX7_goUsers 133 = .ok (.goto (-58), 3) := by decide +kernel
theorem d7_goUsers_136 : decode cX7_goUsers 136 = .ok (.return_, 1) := by decide +kernel
def f7_goUsers_b129 (k75 : Mem → Int32 → Int32 → Option Mem) (σ : Mem) (x1 : Int32) (x3 : Int32) (s1 : Int32) (s2 : Int32) : Option Mem := if ¬ (s1 < 0 ∨ 8 ≤ s1.toNatClampNeg) then (if s2 = 0 ∨ s2 = 1 then (bm (mu σ 32 s1.toNatClampNeg s2) fun σ3 => k75 σ3 x1 (x3 + 1)) else none) else none
set_option maxHeartbeats 4000000 in
set_option maxRecDepth 100000 in
theorem t7_goUsers_b129 {p : Program} {l : Launch} {e : Env} {s : State} {m : MethodId} {args : Array Value} {below : List Frame} {meth : Method} {c : Code} {w : WV} {σ' : Mem} {k75 : Mem → Int32 → Int32 → Option Mem} (S : CallFix p m c cX7_goUsers 4 s args gtbl RX7) (hr : meth.sig.returnType = none) (hlk : meth.locks = false) (hK : KS LM w s) (hk75 : ∀ (σ : Mem) (x1 : Int32) (x3 : Int32), k75 σ x1 x3 = some σ' → ∀ (H : Heap) (locs : List Loc), Rp EM LM w σ H → va_S (AW LM w) s.heap H locs → ∀ (ls : Array Slot), lv_has ls 4 [(0, .ref (w.2.2 0)), (1, .int x1), (3, .int x3)] → W p l e rm7_goUsers s m args below meth c H locs 0 0 (MQ below (Qw EM LM w σ' none) args s 0 0 (AW LM w)) (F0 m 75 ls [])) : ∀ (σ : Mem) (x1 : Int32) (x3 : Int32) (s1 : Int32) (s2 : Int32), f7_goUsers_b129 k75 σ x1 x3 s1 s2 = some σ' → ∀ (H : Heap) (locs : List Loc), Rp EM LM w σ H → va_S (AW LM w) s.heap H locs → ∀ (ls : Array Slot), lv_has ls 4 [(0, .ref (w.2.2 0)), (1, .int x1), (3, .int x3)] → W p l e rm7_goUsers s m args below meth c H locs 0 0 (MQ below (Qw EM LM w σ' none) args s 0 0 (AW LM w)) (F0 m 129 ls [.int s2, .int s1, .ref (w.2.2 32)]) := by
  obtain ⟨hx, hb, hml, hown, hts⟩ := id S
  intro σ x1 x3 s1 s2 h0 H locs hR hS ls hl
  unfold f7_goUsers_b129 at h0
  obtain ⟨hi1, h0⟩ := og_if h0
  obtain ⟨hb2, h0⟩ := og_if h0
  obtain ⟨σ3, hm3, h0⟩ := og_m h0
  refine q_zst S hK hR hS (by decide) (eM_131 w) hb2 hi1 rfl hm3 d7_goUsers_129 (fun H locs hR hS => ?_)
  refine lv_iinc (v := x3 + 1) (lv' := [(3, .int (x3 + 1)), (0, .ref (w.2.2 0)), (1, .int x1)]) hx hb d7_goUsers_130 hl (k := 2) rfl (ii1 _) (by decide) rfl (fun ls hl => ?_)
  refine lv_goto (tgt := 75) hx hb d7_goUsers_133 (by decide) ?_
  exact hk75 σ3 x1 (x3 + 1) h0 _ _ hR hS _ (lv_sub hl [1, 2, 0] rfl)
def f7_goUsers_b75 : Nat → Mem → Int32 → Int32 → Option Mem
  | 0, _, _, _ => none
  | n + 1, σ, x1, x3 => if (σ 6 0) ≤ x3 then some σ else Option.bind (f7_isWaiting σ x3 x1) fun r2 => if r2 = 0 then f7_goUsers_b75 n σ x1 (x3 + 1) else if ¬ (x3 < 0 ∨ 8 ≤ x3.toNatClampNeg) then if ¬ (x3 < 0 ∨ 8 ≤ x3.toNatClampNeg) then (bm (mu σ 31 x3.toNatClampNeg ((σ 31 x3.toNatClampNeg) + 1)) fun σ6 => if ¬ (x3 < 0 ∨ 8 ≤ x3.toNatClampNeg) then if (σ6 31 x3.toNatClampNeg) = (σ6 9 2) then f7_goUsers_b129 (f7_goUsers_b75 n) σ6 x1 x3 x3 1 else f7_goUsers_b129 (f7_goUsers_b75 n) σ6 x1 x3 x3 0 else none) else none else none
set_option maxHeartbeats 4000000 in
set_option maxRecDepth 100000 in
theorem t7_goUsers_b75 {p : Program} {l : Launch} {e : Env} {s : State} {m : MethodId} {args : Array Value} {below : List Frame} {meth : Method} {c : Code} {w : WV} {σ' : Mem} (S : CallFix p m c cX7_goUsers 4 s args gtbl RX7) (hr : meth.sig.returnType = none) (hlk : meth.locks = false) (hK : KS LM w s) : ∀ (n : Nat), ∀ (σ : Mem) (x1 : Int32) (x3 : Int32), f7_goUsers_b75  n σ x1 x3 = some σ' → ∀ (H : Heap) (locs : List Loc), Rp EM LM w σ H → va_S (AW LM w) s.heap H locs → ∀ (ls : Array Slot), lv_has ls 4 [(0, .ref (w.2.2 0)), (1, .int x1), (3, .int x3)] → W p l e rm7_goUsers s m args below meth c H locs 0 0 (MQ below (Qw EM LM w σ' none) args s 0 0 (AW LM w)) (F0 m 75 ls []) := by
  obtain ⟨hx, hb, hml, hown, hts⟩ := id S
  intro n
  induction n with
  | zero =>
    intro σ x1 x3 h0
    cases (show none = _ from h0)
  | succ n ih =>
    intro σ x1 x3 h0 H locs hR hS ls hl
    rw [f7_goUsers_b75] at h0
    refine lv_iload_n hx hb d7_goUsers_75 rfl (lv_at hl 2 rfl) ?_
    refine lv_aload_n hx hb d7_goUsers_76 rfl (lv_at hl 0 rfl) ?_
    refine g7_22 S hK hR d7_goUsers_77 ?_
    refine lv_iconst (v := 0) hx hb d7_goUsers_80 (by decide) ?_
    refine q_ld (k := 0) S hK hR (by decide) (eM_105 w _) (vin (by decide)) (by decide) d7_goUsers_81 ?_
    refine lv_icmp_ge (tgt := 136) hx hb d7_goUsers_82 (by decide) (fun hc1 => ?_) (fun hc1 => ?_)
    · have h0 := og_t hc1 h0
      exact q_vret S hr hlk hR hS h0 d7_goUsers_136
    · have h0 := og_f hc1 h0
      refine lv_aload_n hx hb d7_goUsers_85 rfl (lv_at hl 0 rfl) ?_
      refine lv_iload_n hx hb d7_goUsers_86 rfl (lv_at hl 2 rfl) ?_
      refine lv_iload_n hx hb d7_goUsers_87 rfl (lv_at hl 1 rfl) ?_
      obtain ⟨r2, hr2, h0⟩ := og_b h0
      refine k7_224 S hK hR  hr2 ⟨Nat.zero_le _, Nat.zero_le _⟩ ⟨Nat.le_of_ble_eq_true rfl, Nat.le_of_ble_eq_true rfl⟩ hl.1 (Nat.le_of_ble_eq_true rfl) d7_goUsers_88 ?_
      refine lv_if_eq (tgt := 130) hx hb d7_goUsers_91 (by decide) (fun hc3 => ?_) (fun hc3 => ?_)
      · have h0 := og_t hc3 h0
        refine lv_iinc (v := x3 + 1) (lv' := [(3, .int (x3 + 1)), (0, .ref (w.2.2 0)), (1, .int x1)]) hx hb d7_goUsers_130 hl (k := 2) rfl (ii1 _) (by decide) rfl (fun ls hl => ?_)
        refine lv_goto (tgt := 75) hx hb d7_goUsers_133 (by decide) ?_
        exact ih σ x1 (x3 + 1) h0 _ _ hR hS _ (lv_sub hl [1, 2, 0] rfl)
      · have h0 := og_f hc3 h0
        refine lv_aload_n hx hb d7_goUsers_94 rfl (lv_at hl 0 rfl) ?_
        refine g7_85 S hK hR d7_goUsers_95 ?_
        refine lv_iload_n hx hb d7_goUsers_98 rfl (lv_at hl 2 rfl) ?_
        refine lv_dup2_11 hx hb d7_goUsers_99 rfl rfl ?_
        obtain ⟨hi4, h0⟩ := og_if h0
        refine q_ld (k := x3.toNatClampNeg) S hK hR (by decide) (eM_130 w _) hi4 rfl d7_goUsers_100 ?_
        refine lv_iconst (v := 1) hx hb d7_goUsers_101 (by decide) ?_
        refine lv_iadd hx hb d7_goUsers_102 ?_
        obtain ⟨hi5, h0⟩ := og_if h0
        obtain ⟨σ6, hm6, h0⟩ := og_m h0
        refine q_st S hK hR hS (by decide) (eM_130 w) hi5 rfl hm6 d7_goUsers_103 (fun H locs hR hS => ?_)
        refine lv_aload_n hx hb d7_goUsers_104 rfl (lv_at hl 0 rfl) ?_
        refine g7_88 S hK hR d7_goUsers_105 ?_
        refine lv_iload_n hx hb d7_goUsers_108 rfl (lv_at hl 2 rfl) ?_
        refine lv_aload_n hx hb d7_goUsers_109 rfl (lv_at hl 0 rfl) ?_
        refine g7_85 S hK hR d7_goUsers_110 ?_
        refine lv_iload_n hx hb d7_goUsers_113 rfl (lv_at hl 2 rfl) ?_
        obtain ⟨hi7, h0⟩ := og_if h0
        refine q_ld (k := x3.toNatClampNeg) S hK hR (by decide) (eM_130 w _) hi7 rfl d7_goUsers_114 ?_
        refine lv_aload_n hx hb d7_goUsers_115 rfl (lv_at hl 0 rfl) ?_
        refine g7_31 S hK hR d7_goUsers_116 ?_
        refine lv_iconst (v := 2) hx hb d7_goUsers_119 (by decide) ?_
        refine q_ld (k := 2) S hK hR (by decide) (eM_108 w _) (vin (by decide)) (by decide) d7_goUsers_120 ?_
        refine lv_icmp_ne (tgt := 128) hx hb d7_goUsers_121 (by decide) (fun hc8 => ?_) (fun hc8 => ?_)
        · have h0 := og_f hc8 h0
          refine lv_iconst (v := 0) hx hb d7_goUsers_128 (by decide) ?_
          exact t7_goUsers_b129 S hr hlk hK ih σ6 x1 x3 x3 0 h0 _ _ hR hS _ (lv_sub hl [0, 1, 2] rfl)
        · have h0 := og_t hc8 h0
          refine lv_iconst (v := 1) hx hb d7_goUsers_124 (by decide) ?_
          refine lv_goto (tgt := 129) hx hb d7_goUsers_125 (by decide) ?_
          exact t7_goUsers_b129 S hr hlk hK ih σ6 x1 x3 x3 1 h0 _ _ hR hS _ (lv_sub hl [0, 1, 2] rfl)
def f7_goUsers_b69 (σ : Mem) (x1 : Int32) (s1 : Int32) (s2 : Int32) : Option Mem := bm (mu σ 0 36 (s1 + s2)) fun σ1 => f7_goUsers_b75 1000 σ1 x1 0
set_option maxHeartbeats 4000000 in
set_option maxRecDepth 100000 in
theorem t7_goUsers_b69 {p : Program} {l : Launch} {e : Env} {s : State} {m : MethodId} {args : Array Value} {below : List Frame} {meth : Method} {c : Code} {w : WV} {σ' : Mem} (S : CallFix p m c cX7_goUsers 4 s args gtbl RX7) (hr : meth.sig.returnType = none) (hlk : meth.locks = false) (hK : KS LM w s) : ∀ (σ : Mem) (x1 : Int32) (s1 : Int32) (s2 : Int32), f7_goUsers_b69  σ x1 s1 s2 = some σ' → ∀ (H : Heap) (locs : List Loc), Rp EM LM w σ H → va_S (AW LM w) s.heap H locs → ∀ (ls : Array Slot), lv_has ls 4 [(0, .ref (w.2.2 0)), (1, .int x1)] → W p l e rm7_goUsers s m args below meth c H locs 0 0 (MQ below (Qw EM LM w σ' none) args s 0 0 (AW LM w)) (F0 m 69 ls [.int s2, .int s1, .ref (w.2.2 0)]) := by
  obtain ⟨hx, hb, hml, hown, hts⟩ := id S
  intro σ x1 s1 s2 h0 H locs hR hS ls hl
  unfold f7_goUsers_b69 at h0
  refine lv_iadd hx hb d7_goUsers_69 ?_
  obtain ⟨σ1, hm1, h0⟩ := og_m h0
  refine u7_192 S hK hR hS hm1 d7_goUsers_70 (fun H locs hR hS => ?_)
  refine lv_iconst (v := 0) hx hb d7_goUsers_73 (by decide) ?_
  refine lv_istore_n (lv' := [(3, .int 0), (0, .ref (w.2.2 0)), (1, .int x1)]) hx hb d7_goUsers_74 rfl hl (by decide) rfl (fun ls hl => ?_)
  exact t7_goUsers_b75 S hr hlk hK 1000 σ1 x1 0 h0 _ _ hR hS _ (lv_sub hl [1, 2, 0] rfl)
def f7_goUsers_b26 (σ : Mem) (x1 : Int32) (s0 : Int32) : Option Mem := if s0 < 0 then f7_goUsers_b75 1000 σ x1 0 else if ¬ (s0 < 0 ∨ 8 ≤ s0.toNatClampNeg) then (bm (mu σ 30 s0.toNatClampNeg x1) fun σ3 => if ¬ (s0 < 0 ∨ 16 ≤ s0.toNatClampNeg) then if (σ3 8 s0.toNatClampNeg) = 0 then f7_goUsers_b69 σ3 x1 x1 2 else if ¬ (s0 < 0 ∨ 16 ≤ s0.toNatClampNeg) then if (σ3 8 s0.toNatClampNeg) = 1 then f7_goUsers_b69 σ3 x1 x1 30 else f7_goUsers_b69 σ3 x1 x1 1 else none else none) else none
set_option maxHeartbeats 4000000 in
set_option maxRecDepth 100000 in
theorem t7_goUsers_b26 {p : Program} {l : Launch} {e : Env} {s : State} {m : MethodId} {args : Array Value} {below : List Frame} {meth : Method} {c : Code} {w : WV} {σ' : Mem} (S : CallFix p m c cX7_goUsers 4 s args gtbl RX7) (hr : meth.sig.returnType = none) (hlk : meth.locks = false) (hK : KS LM w s) : ∀ (σ : Mem) (x1 : Int32) (s0 : Int32), f7_goUsers_b26  σ x1 s0 = some σ' → ∀ (H : Heap) (locs : List Loc), Rp EM LM w σ H → va_S (AW LM w) s.heap H locs → ∀ (ls : Array Slot), lv_has ls 4 [(0, .ref (w.2.2 0)), (1, .int x1)] → W p l e rm7_goUsers s m args below meth c H locs 0 0 (MQ below (Qw EM LM w σ' none) args s 0 0 (AW LM w)) (F0 m 26 ls [.int s0]) := by
  obtain ⟨hx, hb, hml, hown, hts⟩ := id S
  intro σ x1 s0 h0 H locs hR hS ls hl
  unfold f7_goUsers_b26 at h0
  refine lv_istore_n (lv' := [(2, .int s0), (0, .ref (w.2.2 0)), (1, .int x1)]) hx hb d7_goUsers_26 rfl hl (by decide) rfl (fun ls hl => ?_)
  refine lv_iload_n hx hb d7_goUsers_27 rfl (lv_at hl 0 rfl) ?_
  refine lv_if_lt (tgt := 73) hx hb d7_goUsers_28 (by decide) (fun hc1 => ?_) (fun hc1 => ?_)
  · have h0 := og_t hc1 h0
    refine lv_iconst (v := 0) hx hb d7_goUsers_73 (by decide) ?_
    refine lv_istore_n (lv' := [(3, .int 0), (2, .int s0), (0, .ref (w.2.2 0)), (1, .int x1)]) hx hb d7_goUsers_74 rfl hl (by decide) rfl (fun ls hl => ?_)
    exact t7_goUsers_b75 S hr hlk hK 1000 σ x1 0 h0 _ _ hR hS _ (lv_sub hl [2, 3, 0] rfl)
  · have h0 := og_f hc1 h0
    refine lv_aload_n hx hb d7_goUsers_31 rfl (lv_at hl 1 rfl) ?_
    refine g7_82 S hK hR d7_goUsers_32 ?_
    refine lv_iload_n hx hb d7_goUsers_35 rfl (lv_at hl 0 rfl) ?_
    refine lv_iload_n hx hb d7_goUsers_36 rfl (lv_at hl 2 rfl) ?_
    obtain ⟨hi2, h0⟩ := og_if h0
    obtain ⟨σ3, hm3, h0⟩ := og_m h0
    refine q_st S hK hR hS (by decide) (eM_129 w) hi2 rfl hm3 d7_goUsers_37 (fun H locs hR hS => ?_)
    refine lv_aload_n hx hb d7_goUsers_38 rfl (lv_at hl 1 rfl) ?_
    refine lv_iload_n hx hb d7_goUsers_39 rfl (lv_at hl 2 rfl) ?_
    refine lv_aload_n hx hb d7_goUsers_40 rfl (lv_at hl 1 rfl) ?_
    refine g7_28 S hK hR d7_goUsers_41 ?_
    refine lv_iload_n hx hb d7_goUsers_44 rfl (lv_at hl 0 rfl) ?_
    obtain ⟨hi4, h0⟩ := og_if h0
    refine q_ld (k := s0.toNatClampNeg) S hK hR (by decide) (eM_107 w _) hi4 rfl d7_goUsers_45 ?_
    refine lv_if_ne (tgt := 53) hx hb d7_goUsers_46 (by decide) (fun hc5 => ?_) (fun hc5 => ?_)
    · have h0 := og_f hc5 h0
      refine lv_aload_n hx hb d7_goUsers_53 rfl (lv_at hl 1 rfl) ?_
      refine g7_28 S hK hR d7_goUsers_54 ?_
      refine lv_iload_n hx hb d7_goUsers_57 rfl (lv_at hl 0 rfl) ?_
      obtain ⟨hi6, h0⟩ := og_if h0
      refine q_ld (k := s0.toNatClampNeg) S hK hR (by decide) (eM_107 w _) hi6 rfl d7_goUsers_58 ?_
      refine lv_iconst (v := 1) hx hb d7_goUsers_59 (by decide) ?_
      refine lv_icmp_ne (tgt := 68) hx hb d7_goUsers_60 (by decide) (fun hc7 => ?_) (fun hc7 => ?_)
      · have h0 := og_f hc7 h0
        refine lv_iconst (v := 1) hx hb d7_goUsers_68 (by decide) ?_
        exact t7_goUsers_b69 S hr hlk hK σ3 x1 x1 1 h0 _ _ hR hS _ (lv_sub hl [1, 2] rfl)
      · have h0 := og_t hc7 h0
        refine lv_bipush (v := 30) hx hb d7_goUsers_63 (by decide) ?_
        refine lv_goto (tgt := 69) hx hb d7_goUsers_65 (by decide) ?_
        exact t7_goUsers_b69 S hr hlk hK σ3 x1 x1 30 h0 _ _ hR hS _ (lv_sub hl [1, 2] rfl)
    · have h0 := og_t hc5 h0
      refine lv_iconst (v := 2) hx hb d7_goUsers_49 (by decide) ?_
      refine lv_goto (tgt := 69) hx hb d7_goUsers_50 (by decide) ?_
      exact t7_goUsers_b69 S hr hlk hK σ3 x1 x1 2 h0 _ _ hR hS _ (lv_sub hl [1, 2] rfl)
def f7_goUsers_b24 (σ : Mem) (x1 : Int32) : Option Mem := f7_goUsers_b26 σ x1 (-4)
set_option maxHeartbeats 4000000 in
set_option maxRecDepth 100000 in
theorem t7_goUsers_b24 {p : Program} {l : Launch} {e : Env} {s : State} {m : MethodId} {args : Array Value} {below : List Frame} {meth : Method} {c : Code} {w : WV} {σ' : Mem} (S : CallFix p m c cX7_goUsers 4 s args gtbl RX7) (hr : meth.sig.returnType = none) (hlk : meth.locks = false) (hK : KS LM w s) : ∀ (σ : Mem) (x1 : Int32), f7_goUsers_b24  σ x1 = some σ' → ∀ (H : Heap) (locs : List Loc), Rp EM LM w σ H → va_S (AW LM w) s.heap H locs → ∀ (ls : Array Slot), lv_has ls 4 [(0, .ref (w.2.2 0)), (1, .int x1)] → W p l e rm7_goUsers s m args below meth c H locs 0 0 (MQ below (Qw EM LM w σ' none) args s 0 0 (AW LM w)) (F0 m 24 ls []) := by
  obtain ⟨hx, hb, hml, hown, hts⟩ := id S
  intro σ x1 h0 H locs hR hS ls hl
  unfold f7_goUsers_b24 at h0
  refine lv_bipush (v := (-4)) hx hb d7_goUsers_24 (by decide) ?_
  exact t7_goUsers_b26 S hr hlk hK σ x1 (-4) h0 _ _ hR hS _ (lv_sub hl [0, 1] rfl)
def f7_goUsers (σ : Mem) (x1 : Int32) : Option Mem := if x1 < (σ 0 36) then f7_goUsers_b24 σ x1 else Option.bind (f7_isPassing σ x1) fun r2 => if r2 = 0 then Option.bind (f7_nextUser σ x1) fun r4 => f7_goUsers_b26 σ x1 r4 else f7_goUsers_b24 σ x1
set_option maxHeartbeats 4000000 in
set_option maxRecDepth 100000 in
theorem c7_goUsers (l : Launch) {w : WV} {σ : Mem} {x1 : Int32} {σ' : Mem} (h0 : f7_goUsers σ x1 = some σ') : Met l yX7_goUsers (wy yX7_goUsers cX7_goUsers 4 none) rm7_goUsers (Pw EM LM w [.ref (w.2.2 0), .int x1] σ) (Qw EM LM w σ' none) 0 0 (AW LM w) := by
  refine mk_met (by decide) (Nat.le_of_ble_eq_true rfl) ?_
  intro p e s m below meth c S hr hlk hK hR ls hl
  obtain ⟨hx, hb, hml, hown, hts⟩ := id S
  have hl : lv_has ls 4 [(0, .ref (w.2.2 0)), (1, .int x1)] := hl
  have hS : va_S (AW LM w) s.heap s.heap [] := va_S.rf
  unfold f7_goUsers at h0
  refine lv_iload_n hx hb d7_goUsers_0 rfl (lv_at hl 1 rfl) ?_
  refine lv_aload_n hx hb d7_goUsers_1 rfl (lv_at hl 0 rfl) ?_
  refine g7_192 S hK hR d7_goUsers_2 ?_
  refine lv_icmp_lt (tgt := 24) hx hb d7_goUsers_5 (by decide) (fun hc1 => ?_) (fun hc1 => ?_)
  · have h0 := og_t hc1 h0
    exact t7_goUsers_b24 S hr hlk hK σ x1 h0 _ _ hR hS _ (lv_sub hl [0, 1] rfl)
  · have h0 := og_f hc1 h0
    refine lv_aload_n hx hb d7_goUsers_8 rfl (lv_at hl 0 rfl) ?_
    refine lv_iload_n hx hb d7_goUsers_9 rfl (lv_at hl 1 rfl) ?_
    obtain ⟨r2, hr2, h0⟩ := og_b h0
    refine k7_199 S hK hR  hr2 ⟨Nat.zero_le _, Nat.zero_le _⟩ ⟨Nat.le_of_ble_eq_true rfl, Nat.le_of_ble_eq_true rfl⟩ hl.1 (Nat.le_of_ble_eq_true rfl) d7_goUsers_10 ?_
    refine lv_if_ne (tgt := 24) hx hb d7_goUsers_13 (by decide) (fun hc3 => ?_) (fun hc3 => ?_)
    · have h0 := og_f hc3 h0
      exact t7_goUsers_b24 S hr hlk hK σ x1 h0 _ _ hR hS _ (lv_sub hl [0, 1] rfl)
    · have h0 := og_t hc3 h0
      refine lv_aload_n hx hb d7_goUsers_16 rfl (lv_at hl 0 rfl) ?_
      refine lv_iload_n hx hb d7_goUsers_17 rfl (lv_at hl 1 rfl) ?_
      obtain ⟨r4, hr4, h0⟩ := og_b h0
      refine k7_230 S hK hR  hr4 ⟨Nat.zero_le _, Nat.zero_le _⟩ ⟨Nat.le_of_ble_eq_true rfl, Nat.le_of_ble_eq_true rfl⟩ hl.1 (Nat.le_of_ble_eq_true rfl) d7_goUsers_18 ?_
      refine lv_goto (tgt := 26) hx hb d7_goUsers_21 (by decide) ?_
      exact t7_goUsers_b26 S hr hlk hK σ x1 r4 h0 _ _ hR hS _ (lv_sub hl [0, 1] rfl)
set_option maxHeartbeats 4000000 in
set_option maxRecDepth 100000 in
theorem k7_242 {p : Program} {l : Launch} {e : Env} {R : Room} {s : State} {m : MethodId} {args : Array Value} {below : List Frame} {meth : Method} {c : Code} {H : Heap} {locs : List Loc} {cells slots : Nat} {Q : State → Prop} {cc : ByteArray} {pc nL : Nat} {ls : Array Slot} {rest : List Value} {w : WV} {σ : Mem} {x1 : Int32} {σ1 : Mem} (S : CallFix p m c cc nL s args gtbl RX7) (hK : KS LM w s) (hR : Rp EM LM w σ H) (hS : va_S (AW LM w) s.heap H locs) (h0 : f7_goUsers σ x1 = some σ1) (hf : cells + 0 ≤ R.cells ∧ slots + 0 ≤ R.slots) (hRm : rm7_goUsers.frames + 1 ≤ R.frames ∧ 8 + (4 + 11) + rm7_goUsers.locals ≤ R.locals) (hl : ls.size = nL) (hW : (rest.map fun v => v.category).sum ≤ 8) (hdg : decode cc pc = .ok (.invokevirtual 242, 3)) (kk : ∀ (H1 : Heap) (locs1 : List Loc), Rp EM LM w σ1 H1 → va_S (AW LM w) s.heap H1 locs1 → W p l e R s m args below meth c H1 locs1 cells slots Q (F0 m (pc + 3) ls (rest))) : W p l e R s m args below meth c H locs cells slots Q (F0 m pc ls (.int x1 :: .ref (w.2.2 0) :: rest)) := r_end hS (run_V (n := 1) (As := [.int x1]) S hK hR (by decide) (eM_7 w _) rfl (gw_V (gt_at 1159 (by decide +kernel) (by decide +kernel)) (gt_at 1161 (by decide +kernel) (by decide +kernel)) (gt_at 66 (by decide +kernel) (by decide +kernel)) (gt_at 86 (by decide +kernel) (by decide +kernel)) (gt_at 1162 (by decide +kernel) (by decide +kernel))) (by decide +kernel) rfl (c7_goUsers l h0) ⟨rfl, rfl⟩ hRm hf hl rfl hW hdg) kk
/-! FourTenGatesModel.goHour(II)V -/
abbrev rm7_goHour : Room := { frames := 5, cells := 0, slots := 0, locals := 116 }
theorem d7_goHour_0 : decode cX7_goHour 0 = .ok (.aload_n 0, 1) := by decide +kernel
theorem d7_goHour_1 : decode cX7_goHour 1 = .ok (.invokevirtual 233, 3) := by decide +kernel
theorem d7_goHour_4 : decode cX7_goHour 4 = .ok (.iconst 0, 1) := by decide +kernel
theorem d7_goHour_5 : decode cX7_goHour 5 = .ok (.istore_n 3, 1) := by decide +kernel
theorem d7_goHour_6 : decode cX7_goHour 6 = .ok (.iload_n 3, 1) := by decide +kernel
theorem d7_goHour_7 : decode cX7_goHour 7 = .ok (.sipush 360, 3) := by decide +kernel
theorem d7_goHour_10 : decode cX7_goHour 10 = .ok (.if_icmp .ge 36, 3) := by decide +kernel
theorem d7_goHour_13 : decode cX7_goHour 13 = .ok (.aload_n 0, 1) := by decide +kernel
theorem d7_goHour_14 : decode cX7_goHour 14 = .ok (.iload_n 1, 1) := by decide +kernel
theorem d7_goHour_15 : decode cX7_goHour 15 = .ok (.iload_n 2, 1) := by decide +kernel
theorem d7_goHour_16 : decode cX7_goHour 16 = .ok (.iload_n 3, 1) := by decide +kernel
theorem d7_goHour_17 : decode cX7_goHour 17 = .ok (.invokevirtual 236, 3) := by decide +kernel
theorem d7_goHour_20 : decode cX7_goHour 20 = .ok (.aload_n 0, 1) := by decide +kernel
theorem d7_goHour_21 : decode cX7_goHour 21 = .ok (.iload_n 3, 1) := by decide +kernel
theorem d7_goHour_22 : decode cX7_goHour 22 = .ok (.invokevirtual 239, 3) := by decide +kernel
theorem d7_goHour_25 : decode cX7_goHour 25 = .ok (.aload_n 0, 1) := by decide +kernel
theorem d7_goHour_26 : decode cX7_goHour 26 = .ok (.iload_n 3, 1) := by decide +kernel
theorem d7_goHour_27 : decode cX7_goHour 27 = .ok (.invokevirtual 242, 3) := by decide +kernel
theorem d7_goHour_30 : decode cX7_goHour 30 = .ok (.aload_n 0, 1) := by decide +kernel
theorem d7_goHour_31 : decode cX7_goHour 31 = .ok (.getfield 73, 3) := by decide +kernel
theorem d7_goHour_34 : decode cX7_goHour 34 = .ok (.iload_n 3, 1) := by decide +kernel
theorem d7_goHour_35 : decode cX7_goHour 35 = .ok (.aload_n 0, 1) := by decide +kernel
theorem d7_goHour_36 : decode cX7_goHour 36 = .ok (.getfield 182, 3) := by decide +kernel
theorem d7_goHour_39 : decode cX7_goHour 39 = .ok (.iastore, 1) := by decide +kernel
theorem d7_goHour_40 : decode cX7_goHour 40 = .ok (.iinc 3 1, 3) := by decide +kernel
theorem d7_goHour_43 : decode cX7_goHour 43 = .ok (.goto (-37), 3) := by decide +kernel
theorem d7_goHour_46 : decode cX7_goHour 46 = .ok (.return_, 1) := by decide +kernel
def f7_goHour_b6 : Nat → Mem → Int32 → Int32 → Int32 → Option Mem
  | 0, _, _, _, _ => none
  | n + 1, σ, x1, x2, x3 => if 360 ≤ x3 then some σ else Option.bind (f7_moveGates σ x1 x2 x3) fun σ2 => Option.bind (f7_goTrains σ2 x3) fun σ3 => Option.bind (f7_goUsers σ3 x3) fun σ4 => if ¬ (x3 < 0 ∨ 360 ≤ x3.toNatClampNeg) then (bm (mu σ4 27 x3.toNatClampNeg (σ4 0 32)) fun σ6 => f7_goHour_b6 n σ6 x1 x2 (x3 + 1)) else none
set_option maxHeartbeats 4000000 in
set_option maxRecDepth 100000 in
theorem t7_goHour_b6 {p : Program} {l : Launch} {e : Env} {s : State} {m : MethodId} {args : Array Value} {below : List Frame} {meth : Method} {c : Code} {w : WV} {σ' : Mem} (S : CallFix p m c cX7_goHour 4 s args gtbl RX7) (hr : meth.sig.returnType = none) (hlk : meth.locks = false) (hK : KS LM w s) : ∀ (n : Nat), ∀ (σ : Mem) (x1 : Int32) (x2 : Int32) (x3 : Int32), f7_goHour_b6  n σ x1 x2 x3 = some σ' → ∀ (H : Heap) (locs : List Loc), Rp EM LM w σ H → va_S (AW LM w) s.heap H locs → ∀ (ls : Array Slot), lv_has ls 4 [(0, .ref (w.2.2 0)), (1, .int x1), (2, .int x2), (3, .int x3)] → W p l e rm7_goHour s m args below meth c H locs 0 0 (MQ below (Qw EM LM w σ' none) args s 0 0 (AW LM w)) (F0 m 6 ls []) := by
  obtain ⟨hx, hb, hml, hown, hts⟩ := id S
  intro n
  induction n with
  | zero =>
    intro σ x1 x2 x3 h0
    cases (show none = _ from h0)
  | succ n ih =>
    intro σ x1 x2 x3 h0 H locs hR hS ls hl
    rw [f7_goHour_b6] at h0
    refine lv_iload_n hx hb d7_goHour_6 rfl (lv_at hl 3 rfl) ?_
    refine lv_sipush (v := 360) hx hb d7_goHour_7 (by decide) ?_
    refine lv_icmp_ge (tgt := 46) hx hb d7_goHour_10 (by decide) (fun hc1 => ?_) (fun hc1 => ?_)
    · have h0 := og_t hc1 h0
      exact q_vret S hr hlk hR hS h0 d7_goHour_46
    · have h0 := og_f hc1 h0
      refine lv_aload_n hx hb d7_goHour_13 rfl (lv_at hl 0 rfl) ?_
      refine lv_iload_n hx hb d7_goHour_14 rfl (lv_at hl 1 rfl) ?_
      refine lv_iload_n hx hb d7_goHour_15 rfl (lv_at hl 2 rfl) ?_
      refine lv_iload_n hx hb d7_goHour_16 rfl (lv_at hl 3 rfl) ?_
      obtain ⟨σ2, hr2, h0⟩ := og_b h0
      refine k7_236 S hK hR hS  hr2 ⟨Nat.zero_le _, Nat.zero_le _⟩ ⟨Nat.le_of_ble_eq_true rfl, Nat.le_of_ble_eq_true rfl⟩ hl.1 (Nat.le_of_ble_eq_true rfl) d7_goHour_17 (fun H locs hR hS => ?_)
      refine lv_aload_n hx hb d7_goHour_20 rfl (lv_at hl 0 rfl) ?_
      refine lv_iload_n hx hb d7_goHour_21 rfl (lv_at hl 3 rfl) ?_
      obtain ⟨σ3, hr3, h0⟩ := og_b h0
      refine k7_239 S hK hR hS  hr3 ⟨Nat.zero_le _, Nat.zero_le _⟩ ⟨Nat.le_of_ble_eq_true rfl, Nat.le_of_ble_eq_true rfl⟩ hl.1 (Nat.le_of_ble_eq_true rfl) d7_goHour_22 (fun H locs hR hS => ?_)
      refine lv_aload_n hx hb d7_goHour_25 rfl (lv_at hl 0 rfl) ?_
      refine lv_iload_n hx hb d7_goHour_26 rfl (lv_at hl 3 rfl) ?_
      obtain ⟨σ4, hr4, h0⟩ := og_b h0
      refine k7_242 S hK hR hS  hr4 ⟨Nat.zero_le _, Nat.zero_le _⟩ ⟨Nat.le_of_ble_eq_true rfl, Nat.le_of_ble_eq_true rfl⟩ hl.1 (Nat.le_of_ble_eq_true rfl) d7_goHour_27 (fun H locs hR hS => ?_)
      refine lv_aload_n hx hb d7_goHour_30 rfl (lv_at hl 0 rfl) ?_
      refine g7_73 S hK hR d7_goHour_31 ?_
      refine lv_iload_n hx hb d7_goHour_34 rfl (lv_at hl 3 rfl) ?_
      refine lv_aload_n hx hb d7_goHour_35 rfl (lv_at hl 0 rfl) ?_
      refine g7_182 S hK hR d7_goHour_36 ?_
      obtain ⟨hi5, h0⟩ := og_if h0
      obtain ⟨σ6, hm6, h0⟩ := og_m h0
      refine q_st S hK hR hS (by decide) (eM_126 w) hi5 rfl hm6 d7_goHour_39 (fun H locs hR hS => ?_)
      refine lv_iinc (v := x3 + 1) (lv' := [(3, .int (x3 + 1)), (0, .ref (w.2.2 0)), (1, .int x1), (2, .int x2)]) hx hb d7_goHour_40 hl (k := 3) rfl (ii1 _) (by decide) rfl (fun ls hl => ?_)
      refine lv_goto (tgt := 6) hx hb d7_goHour_43 (by decide) ?_
      exact ih σ6 x1 x2 (x3 + 1) h0 _ _ hR hS _ (lv_sub hl [1, 2, 3, 0] rfl)
def f7_goHour (σ : Mem) (x1 : Int32) (x2 : Int32) : Option Mem := Option.bind (f7_beginHour σ) fun σ1 => f7_goHour_b6 1000 σ1 x1 x2 0
set_option maxHeartbeats 4000000 in
set_option maxRecDepth 100000 in
theorem c7_goHour (l : Launch) {w : WV} {σ : Mem} {x1 : Int32} {x2 : Int32} {σ' : Mem} (h0 : f7_goHour σ x1 x2 = some σ') : Met l yX7_goHour (wy yX7_goHour cX7_goHour 4 none) rm7_goHour (Pw EM LM w [.ref (w.2.2 0), .int x1, .int x2] σ) (Qw EM LM w σ' none) 0 0 (AW LM w) := by
  refine mk_met (by decide) (Nat.le_of_ble_eq_true rfl) ?_
  intro p e s m below meth c S hr hlk hK hR ls hl
  obtain ⟨hx, hb, hml, hown, hts⟩ := id S
  have hl : lv_has ls 4 [(0, .ref (w.2.2 0)), (1, .int x1), (2, .int x2)] := hl
  have hS : va_S (AW LM w) s.heap s.heap [] := va_S.rf
  unfold f7_goHour at h0
  refine lv_aload_n hx hb d7_goHour_0 rfl (lv_at hl 0 rfl) ?_
  obtain ⟨σ1, hr1, h0⟩ := og_b h0
  refine k7_233 S hK hR hS  hr1 ⟨Nat.zero_le _, Nat.zero_le _⟩ ⟨Nat.le_of_ble_eq_true rfl, Nat.le_of_ble_eq_true rfl⟩ hl.1 (Nat.le_of_ble_eq_true rfl) d7_goHour_1 (fun H locs hR hS => ?_)
  refine lv_iconst (v := 0) hx hb d7_goHour_4 (by decide) ?_
  refine lv_istore_n (lv' := [(3, .int 0), (0, .ref (w.2.2 0)), (1, .int x1), (2, .int x2)]) hx hb d7_goHour_5 rfl hl (by decide) rfl (fun ls hl => ?_)
  exact t7_goHour_b6 S hr hlk hK 1000 σ1 x1 x2 0 h0 _ _ hR hS _ (lv_sub hl [1, 2, 3, 0] rfl)
set_option maxHeartbeats 4000000 in
set_option maxRecDepth 100000 in
theorem k7_245 {p : Program} {l : Launch} {e : Env} {R : Room} {s : State} {m : MethodId} {args : Array Value} {below : List Frame} {meth : Method} {c : Code} {H : Heap} {locs : List Loc} {cells slots : Nat} {Q : State → Prop} {cc : ByteArray} {pc nL : Nat} {ls : Array Slot} {rest : List Value} {w : WV} {σ : Mem} {x1 : Int32} {x2 : Int32} {σ1 : Mem} (S : CallFix p m c cc nL s args gtbl RX7) (hK : KS LM w s) (hR : Rp EM LM w σ H) (hS : va_S (AW LM w) s.heap H locs) (h0 : f7_goHour σ x1 x2 = some σ1) (hf : cells + 0 ≤ R.cells ∧ slots + 0 ≤ R.slots) (hRm : rm7_goHour.frames + 1 ≤ R.frames ∧ 8 + (4 + 11) + rm7_goHour.locals ≤ R.locals) (hl : ls.size = nL) (hW : (rest.map fun v => v.category).sum ≤ 8) (hdg : decode cc pc = .ok (.invokevirtual 245, 3)) (kk : ∀ (H1 : Heap) (locs1 : List Loc), Rp EM LM w σ1 H1 → va_S (AW LM w) s.heap H1 locs1 → W p l e R s m args below meth c H1 locs1 cells slots Q (F0 m (pc + 3) ls (rest))) : W p l e R s m args below meth c H locs cells slots Q (F0 m pc ls (.int x2 :: .int x1 :: .ref (w.2.2 0) :: rest)) := r_end hS (run_V (n := 2) (As := [.int x1, .int x2]) S hK hR (by decide) (eM_7 w _) rfl (gw_V (gt_at 1111 (by decide +kernel) (by decide +kernel)) (gt_at 1113 (by decide +kernel) (by decide +kernel)) (gt_at 54 (by decide +kernel) (by decide +kernel)) (gt_at 86 (by decide +kernel) (by decide +kernel)) (gt_at 1114 (by decide +kernel) (by decide +kernel))) (by decide +kernel) rfl (c7_goHour l h0) ⟨rfl, rfl⟩ hRm hf hl rfl hW hdg) kk
/-! FourTenGatesModel.costNow()I -/
abbrev rm7_costNow : Room := { frames := 0, cells := 0, slots := 0, locals := 0 }
theorem d7_costNow_0 : decode cX7_costNow 0 = .ok (.iconst 0, 1) := by decide +kernel
theorem d7_costNow_1 : decode cX7_costNow 1 = .ok (.istore_n 1, 1) := by decide +kernel
theorem d7_costNow_2 : decode cX7_costNow 2 = .ok (.iconst 0, 1) := by decide +kernel
theorem d7_costNow_3 : decode cX7_costNow 3 = .ok (.istore_n 2, 1) := by decide +kernel
theorem d7_costNow_4 : decode cX7_costNow 4 = .ok (.iload_n 2, 1) := by decide +kernel
theorem d7_costNow_5 : decode cX7_costNow 5 = .ok (.aload_n 0, 1) := by decide +kernel
theorem d7_costNow_6 : decode cX7_costNow 6 = .ok (.getfield 13, 3) := by decide +kernel
theorem d7_costNow_9 : decode cX7_costNow 9 = .ok (.iconst 0, 1) := by decide +kernel
theorem d7_costNow_10 : decode cX7_costNow 10 = .ok (.iaload, 1) := by decide +kernel
theorem d7_costNow_11 : decode cX7_costNow 11 = .ok (.if_icmp .ge 25, 3) := by decide +kernel
theorem d7_costNow_14 : decode cX7_costNow 14 = .ok (.iload_n 1, 1) := by decide +kernel
theorem d7_costNow_15 : decode cX7_costNow 15 = .ok (.aload_n 0, 1) := by decide +kernel
theorem d7_costNow_16 : decode cX7_costNow 16 = .ok (.getfield 31, 3) := by decide +kernel
theorem d7_costNow_19 : decode cX7_costNow 19 = .ok (.iconst 1, 1) := by decide +kernel
theorem d7_costNow_20 : decode cX7_costNow 20 = .ok (.iaload, 1) := by decide +kernel
theorem d7_costNow_21 : decode cX7_costNow 21 = .ok (.aload_n 0, 1) := by decide +kernel
theorem d7_costNow_22 : decode cX7_costNow 22 = .ok (.getfield 79, 3) := by decide +kernel
theorem d7_costNow_25 : decode cX7_costNow 25 = .ok (.iload_n 2, 1) := by decide +kernel
theorem d7_costNow_26 : decode cX7_costNow 26 = .ok (.iaload, 1) := by decide +kernel
theorem d7_costNow_27 : decode cX7_costNow 27 = .ok (.imul, 1) := by decide +kernel
theorem d7_costNow_28 : decode cX7_costNow 28 = .ok (.iadd, 1) := by decide +kernel
theorem d7_costNow_29 : decode cX7_costNow 29 = .ok (.istore_n 1, 1) := by decide +kernel
theorem d7_costNow_30 : decode cX7_costNow 30 = .ok (.iinc 2 1, 3) := by decide +kernel
theorem d7_costNow_33 : decode cX7_costNow 33 = .ok (.goto (-29), 3) := by decide +kernel
theorem d7_costNow_36 : decode cX7_costNow 36 = .ok (.iconst 0, 1) := by decide +kernel
theorem d7_costNow_37 : decode cX7_costNow 37 = .ok (.istore_n 2, 1) := by decide +kernel
theorem d7_costNow_38 : decode cX7_costNow 38 = .ok (.iload_n 2, 1) := by decide +kernel
theorem d7_costNow_39 : decode cX7_costNow 39 = .ok (.aload_n 0, 1) := by decide +kernel
theorem d7_costNow_40 : decode cX7_costNow 40 = .ok (.getfield 22, 3) := by decide +kernel
theorem d7_costNow_43 : decode cX7_costNow 43 = .ok (.iconst 0, 1) := by decide +kernel
theorem d7_costNow_44 : decode cX7_costNow 44 = .ok (.iaload, 1) := by decide +kernel
theorem d7_costNow_45 : decode cX7_costNow 45 = .ok (.if_icmp .ge 50, 3) := by decide +kernel
theorem d7_costNow_48 : decode cX7_costNow 48 = .ok (.iload_n 1, 1) := by decide +kernel
theorem d7_costNow_49 : decode cX7_costNow 49 = .ok (.aload_n 0, 1) := by decide +kernel
theorem d7_costNow_50 : decode cX7_costNow 50 = .ok (.getfield 34, 3) := by decide +kernel
theorem d7_costNow_53 : decode cX7_costNow 53 = .ok (.aload_n 0, 1) := by decide +kernel
theorem d7_costNow_54 : decode cX7_costNow 54 = .ok (.getfield 28, 3) := by decide +kernel
theorem d7_costNow_57 : decode cX7_costNow 57 = .ok (.iload_n 2, 1) := by decide +kernel
theorem d7_costNow_58 : decode cX7_costNow 58 = .ok (.iaload, 1) := by decide +kernel
theorem d7_costNow_59 : decode cX7_costNow 59 = .ok (.iaload, 1) := by decide +kernel
theorem d7_costNow_60 : decode cX7_costNow 60 = .ok (.aload_n 0, 1) := by decide +kernel
theorem d7_costNow_61 : decode cX7_costNow 61 = .ok (.getfield 85, 3) := by decide +kernel
theorem d7_costNow_64 : decode cX7_costNow 64 = .ok (.iload_n 2, 1) := by decide +kernel
theorem d7_costNow_65 : decode cX7_costNow 65 = .ok (.iaload, 1) := by decide +kernel
theorem d7_costNow_66 : decode cX7_costNow 66 = .ok (.imul, 1) := by decide +kernel
theorem d7_costNow_67 : decode cX7_costNow 67 = .ok (.aload_n 0, 1) := by decide +kernel
theorem d7_costNow_68 : decode cX7_costNow 68 = .ok (.getfield 88, 3) := by decide +kernel
theorem d7_costNow_71 : decode cX7_costNow 71 = .ok (.iload_n 2, 1) := by decide +kernel
theorem d7_costNow_72 : decode cX7_costNow 72 = .ok (.baload, 1) := by decide +kernel
theorem d7_costNow_73 : decode cX7_costNow 73 = .ok (.ifCond .eq 12, 3) := by decide +kernel
theorem d7_costNow_76 : decode cX7_costNow 76 = .ok (.aload_n 0, 1) := by decide +kernel
theorem d7_costNow_77 : decode cX7_costNow 77 = .ok (.getfield 31, 3) := by decide +kernel
theorem d7_costNow_80 : decode cX7_costNow 80 = .ok (.iconst 3, 1) := by decide +kernel
theorem d7_costNow_81 : decode cX7_costNow 81 = .ok (.iaload, 1) := by decide +kernel
theorem d7_costNow_82 : decode cX7_costNow 82 = .ok (.goto 4, 3) := by decide +kernel
theorem d7_costNow_85 : decode cX7_costNow 85 = .ok (.iconst 0, 1) := by decide +kernel
theorem d7_costNow_86 : decode cX7_costNow 86 = .ok (.iadd, 1) := by decide +kernel
theorem d7_costNow_87 : decode cX7_costNow 87 = .ok (.iadd, 1) := by decide +kernel
theorem d7_costNow_88 : decode cX7_costNow 88 = .ok (.istore_n 1, 1) := by decide +kernel
theorem d7_costNow_89 : decode cX7_costNow 89 = .ok (.iinc 2 1, 3) := by decide +kernel
theorem d7_costNow_92 : decode cX7_costNow 92 = .ok (.goto (-54), 3) := by decide +kernel
theorem d7_costNow_95 : decode cX7_costNow 95 = .ok (.iload_n 1, 1) := by decide +kernel
theorem d7_costNow_96 : decode cX7_costNow 96 = .ok (.ireturn, 1) := by decide +kernel
def f7_costNow_b38 (σ : Mem) : Nat → Int32 → Int32 → Option Int32
  | 0, _, _ => none
  | n + 1, x1, x2 => if (σ 6 0) ≤ x2 then some x1 else if ¬ (x2 < 0 ∨ 16 ≤ x2.toNatClampNeg) then if ¬ (σ 8 x2.toNatClampNeg < 0 ∨ 8 ≤ (σ 8 x2.toNatClampNeg).toNatClampNeg) then if ¬ (x2 < 0 ∨ 8 ≤ x2.toNatClampNeg) then if ¬ (x2 < 0 ∨ 8 ≤ x2.toNatClampNeg) then if (σ 32 x2.toNatClampNeg) = 0 then f7_costNow_b38 σ n (x1 + (((σ 10 ((σ 8 x2.toNatClampNeg).toNatClampNeg)) * (σ 31 x2.toNatClampNeg)) + 0)) (x2 + 1) else f7_costNow_b38 σ n (x1 + (((σ 10 ((σ 8 x2.toNatClampNeg).toNatClampNeg)) * (σ 31 x2.toNatClampNeg)) + (σ 9 3))) (x2 + 1) else none else none else none else none
set_option maxHeartbeats 4000000 in
set_option maxRecDepth 100000 in
theorem t7_costNow_b38 {p : Program} {l : Launch} {e : Env} {s : State} {m : MethodId} {args : Array Value} {below : List Frame} {meth : Method} {c : Code} {w : WV} {σ : Mem} {r : Int32} (S : CallFix p m c cX7_costNow 3 s args gtbl RX7) (hr : meth.sig.returnType = (some .int)) (hlk : meth.locks = false) (hK : KS LM w s) (hR : Rp EM LM w σ s.heap) : ∀ (n : Nat), ∀ (x1 : Int32) (x2 : Int32), f7_costNow_b38 σ n x1 x2 = some r → ∀ (ls : Array Slot), lv_has ls 3 [(0, .ref (w.2.2 0)), (1, .int x1), (2, .int x2)] → W p l e rm7_costNow s m args below meth c s.heap [] 0 0 (MQ below (Qp (.int r)) args s 0 0 (fun _ => False)) (F0 m 38 ls []) := by
  obtain ⟨hx, hb, hml, hown, hts⟩ := id S
  intro n
  induction n with
  | zero =>
    intro x1 x2 h0
    cases (show none = _ from h0)
  | succ n ih =>
    intro x1 x2 h0 ls hl
    rw [f7_costNow_b38] at h0
    refine lv_iload_n hx hb d7_costNow_38 rfl (lv_at hl 2 rfl) ?_
    refine lv_aload_n hx hb d7_costNow_39 rfl (lv_at hl 0 rfl) ?_
    refine g7_22 S hK hR d7_costNow_40 ?_
    refine lv_iconst (v := 0) hx hb d7_costNow_43 (by decide) ?_
    refine q_ld (k := 0) S hK hR (by decide) (eM_105 w _) (vin (by decide)) (by decide) d7_costNow_44 ?_
    refine lv_icmp_ge (tgt := 95) hx hb d7_costNow_45 (by decide) (fun hc1 => ?_) (fun hc1 => ?_)
    · have h0 := og_t hc1 h0
      refine lv_iload_n hx hb d7_costNow_95 rfl (lv_at hl 1 rfl) ?_
      exact q_ipure S hr hlk h0 d7_costNow_96
    · have h0 := og_f hc1 h0
      refine lv_iload_n hx hb d7_costNow_48 rfl (lv_at hl 1 rfl) ?_
      refine lv_aload_n hx hb d7_costNow_49 rfl (lv_at hl 0 rfl) ?_
      refine g7_34 S hK hR d7_costNow_50 ?_
      refine lv_aload_n hx hb d7_costNow_53 rfl (lv_at hl 0 rfl) ?_
      refine g7_28 S hK hR d7_costNow_54 ?_
      refine lv_iload_n hx hb d7_costNow_57 rfl (lv_at hl 2 rfl) ?_
      obtain ⟨hi2, h0⟩ := og_if h0
      refine q_ld (k := x2.toNatClampNeg) S hK hR (by decide) (eM_107 w _) hi2 rfl d7_costNow_58 ?_
      obtain ⟨hi3, h0⟩ := og_if h0
      refine q_ld (k := ((σ 8 x2.toNatClampNeg).toNatClampNeg)) S hK hR (by decide) (eM_109 w _) hi3 rfl d7_costNow_59 ?_
      refine lv_aload_n hx hb d7_costNow_60 rfl (lv_at hl 0 rfl) ?_
      refine g7_85 S hK hR d7_costNow_61 ?_
      refine lv_iload_n hx hb d7_costNow_64 rfl (lv_at hl 2 rfl) ?_
      obtain ⟨hi4, h0⟩ := og_if h0
      refine q_ld (k := x2.toNatClampNeg) S hK hR (by decide) (eM_130 w _) hi4 rfl d7_costNow_65 ?_
      refine lv_imul hx hb d7_costNow_66 ?_
      refine lv_aload_n hx hb d7_costNow_67 rfl (lv_at hl 0 rfl) ?_
      refine g7_88 S hK hR d7_costNow_68 ?_
      refine lv_iload_n hx hb d7_costNow_71 rfl (lv_at hl 2 rfl) ?_
      obtain ⟨hi5, h0⟩ := og_if h0
      refine r_zld S hK hR (by decide) (eM_131 w _) hi5 d7_costNow_72 ?_
      refine lv_if_eq (tgt := 85) hx hb d7_costNow_73 (by decide) (fun hc6 => ?_) (fun hc6 => ?_)
      · have h0 := og_t hc6 h0
        refine lv_iconst (v := 0) hx hb d7_costNow_85 (by decide) ?_
        refine lv_iadd hx hb d7_costNow_86 ?_
        refine lv_iadd hx hb d7_costNow_87 ?_
        refine lv_istore_n (lv' := [(1, .int (x1 + (((σ 10 ((σ 8 x2.toNatClampNeg).toNatClampNeg)) * (σ 31 x2.toNatClampNeg)) + 0))), (0, .ref (w.2.2 0)), (2, .int x2)]) hx hb d7_costNow_88 rfl hl (by decide) rfl (fun ls hl => ?_)
        refine lv_iinc (v := x2 + 1) (lv' := [(2, .int (x2 + 1)), (1, .int (x1 + (((σ 10 ((σ 8 x2.toNatClampNeg).toNatClampNeg)) * (σ 31 x2.toNatClampNeg)) + 0))), (0, .ref (w.2.2 0))]) hx hb d7_costNow_89 hl (k := 2) rfl (ii1 _) (by decide) rfl (fun ls hl => ?_)
        refine lv_goto (tgt := 38) hx hb d7_costNow_92 (by decide) ?_
        exact ih (x1 + (((σ 10 ((σ 8 x2.toNatClampNeg).toNatClampNeg)) * (σ 31 x2.toNatClampNeg)) + 0)) (x2 + 1) h0 _ (lv_sub hl [2, 1, 0] rfl)
      · have h0 := og_f hc6 h0
        refine lv_aload_n hx hb d7_costNow_76 rfl (lv_at hl 0 rfl) ?_
        refine g7_31 S hK hR d7_costNow_77 ?_
        refine lv_iconst (v := 3) hx hb d7_costNow_80 (by decide) ?_
        refine q_ld (k := 3) S hK hR (by decide) (eM_108 w _) (vin (by decide)) (by decide) d7_costNow_81 ?_
        refine lv_goto (tgt := 86) hx hb d7_costNow_82 (by decide) ?_
        refine lv_iadd hx hb d7_costNow_86 ?_
        refine lv_iadd hx hb d7_costNow_87 ?_
        refine lv_istore_n (lv' := [(1, .int (x1 + (((σ 10 ((σ 8 x2.toNatClampNeg).toNatClampNeg)) * (σ 31 x2.toNatClampNeg)) + (σ 9 3)))), (0, .ref (w.2.2 0)), (2, .int x2)]) hx hb d7_costNow_88 rfl hl (by decide) rfl (fun ls hl => ?_)
        refine lv_iinc (v := x2 + 1) (lv' := [(2, .int (x2 + 1)), (1, .int (x1 + (((σ 10 ((σ 8 x2.toNatClampNeg).toNatClampNeg)) * (σ 31 x2.toNatClampNeg)) + (σ 9 3)))), (0, .ref (w.2.2 0))]) hx hb d7_costNow_89 hl (k := 2) rfl (ii1 _) (by decide) rfl (fun ls hl => ?_)
        refine lv_goto (tgt := 38) hx hb d7_costNow_92 (by decide) ?_
        exact ih (x1 + (((σ 10 ((σ 8 x2.toNatClampNeg).toNatClampNeg)) * (σ 31 x2.toNatClampNeg)) + (σ 9 3))) (x2 + 1) h0 _ (lv_sub hl [2, 1, 0] rfl)
def f7_costNow_b4 (σ : Mem) : Nat → Int32 → Int32 → Option Int32
  | 0, _, _ => none
  | n + 1, x1, x2 => if (σ 3 0) ≤ x2 then f7_costNow_b38 σ 1000 x1 0 else if ¬ (x2 < 0 ∨ 6 ≤ x2.toNatClampNeg) then f7_costNow_b4 σ n (x1 + ((σ 9 1) * (σ 29 x2.toNatClampNeg))) (x2 + 1) else none
set_option maxHeartbeats 4000000 in
set_option maxRecDepth 100000 in
theorem t7_costNow_b4 {p : Program} {l : Launch} {e : Env} {s : State} {m : MethodId} {args : Array Value} {below : List Frame} {meth : Method} {c : Code} {w : WV} {σ : Mem} {r : Int32} (S : CallFix p m c cX7_costNow 3 s args gtbl RX7) (hr : meth.sig.returnType = (some .int)) (hlk : meth.locks = false) (hK : KS LM w s) (hR : Rp EM LM w σ s.heap) : ∀ (n : Nat), ∀ (x1 : Int32) (x2 : Int32), f7_costNow_b4 σ n x1 x2 = some r → ∀ (ls : Array Slot), lv_has ls 3 [(0, .ref (w.2.2 0)), (1, .int x1), (2, .int x2)] → W p l e rm7_costNow s m args below meth c s.heap [] 0 0 (MQ below (Qp (.int r)) args s 0 0 (fun _ => False)) (F0 m 4 ls []) := by
  obtain ⟨hx, hb, hml, hown, hts⟩ := id S
  intro n
  induction n with
  | zero =>
    intro x1 x2 h0
    cases (show none = _ from h0)
  | succ n ih =>
    intro x1 x2 h0 ls hl
    rw [f7_costNow_b4] at h0
    refine lv_iload_n hx hb d7_costNow_4 rfl (lv_at hl 2 rfl) ?_
    refine lv_aload_n hx hb d7_costNow_5 rfl (lv_at hl 0 rfl) ?_
    refine g7_13 S hK hR d7_costNow_6 ?_
    refine lv_iconst (v := 0) hx hb d7_costNow_9 (by decide) ?_
    refine q_ld (k := 0) S hK hR (by decide) (eM_102 w _) (vin (by decide)) (by decide) d7_costNow_10 ?_
    refine lv_icmp_ge (tgt := 36) hx hb d7_costNow_11 (by decide) (fun hc1 => ?_) (fun hc1 => ?_)
    · have h0 := og_t hc1 h0
      refine lv_iconst (v := 0) hx hb d7_costNow_36 (by decide) ?_
      refine lv_istore_n (lv' := [(2, .int 0), (0, .ref (w.2.2 0)), (1, .int x1)]) hx hb d7_costNow_37 rfl hl (by decide) rfl (fun ls hl => ?_)
      exact t7_costNow_b38 S hr hlk hK hR 1000 x1 0 h0 _ (lv_sub hl [1, 2, 0] rfl)
    · have h0 := og_f hc1 h0
      refine lv_iload_n hx hb d7_costNow_14 rfl (lv_at hl 1 rfl) ?_
      refine lv_aload_n hx hb d7_costNow_15 rfl (lv_at hl 0 rfl) ?_
      refine g7_31 S hK hR d7_costNow_16 ?_
      refine lv_iconst (v := 1) hx hb d7_costNow_19 (by decide) ?_
      refine q_ld (k := 1) S hK hR (by decide) (eM_108 w _) (vin (by decide)) (by decide) d7_costNow_20 ?_
      refine lv_aload_n hx hb d7_costNow_21 rfl (lv_at hl 0 rfl) ?_
      refine g7_79 S hK hR d7_costNow_22 ?_
      refine lv_iload_n hx hb d7_costNow_25 rfl (lv_at hl 2 rfl) ?_
      obtain ⟨hi2, h0⟩ := og_if h0
      refine q_ld (k := x2.toNatClampNeg) S hK hR (by decide) (eM_128 w _) hi2 rfl d7_costNow_26 ?_
      refine lv_imul hx hb d7_costNow_27 ?_
      refine lv_iadd hx hb d7_costNow_28 ?_
      refine lv_istore_n (lv' := [(1, .int (x1 + ((σ 9 1) * (σ 29 x2.toNatClampNeg)))), (0, .ref (w.2.2 0)), (2, .int x2)]) hx hb d7_costNow_29 rfl hl (by decide) rfl (fun ls hl => ?_)
      refine lv_iinc (v := x2 + 1) (lv' := [(2, .int (x2 + 1)), (1, .int (x1 + ((σ 9 1) * (σ 29 x2.toNatClampNeg)))), (0, .ref (w.2.2 0))]) hx hb d7_costNow_30 hl (k := 2) rfl (ii1 _) (by decide) rfl (fun ls hl => ?_)
      refine lv_goto (tgt := 4) hx hb d7_costNow_33 (by decide) ?_
      exact ih (x1 + ((σ 9 1) * (σ 29 x2.toNatClampNeg))) (x2 + 1) h0 _ (lv_sub hl [2, 1, 0] rfl)
def f7_costNow (σ : Mem) : Option Int32 := f7_costNow_b4 σ 1000 0 0
set_option maxHeartbeats 4000000 in
set_option maxRecDepth 100000 in
theorem c7_costNow (l : Launch) {w : WV} {σ : Mem} {r : Int32} (h0 : f7_costNow σ = some r) : Met l yX7_costNow (wy yX7_costNow cX7_costNow 3 (some .int)) rm7_costNow (Pw EM LM w [.ref (w.2.2 0)] σ) (Qp (.int r)) 0 0 (fun _ => False) := by
  refine mk_met (by decide) (Nat.le_of_ble_eq_true rfl) ?_
  intro p e s m below meth c S hr hlk hK hR ls hl
  obtain ⟨hx, hb, hml, hown, hts⟩ := id S
  have hl : lv_has ls 3 [(0, .ref (w.2.2 0))] := hl
  unfold f7_costNow at h0
  refine lv_iconst (v := 0) hx hb d7_costNow_0 (by decide) ?_
  refine lv_istore_n (lv' := [(1, .int 0), (0, .ref (w.2.2 0))]) hx hb d7_costNow_1 rfl hl (by decide) rfl (fun ls hl => ?_)
  refine lv_iconst (v := 0) hx hb d7_costNow_2 (by decide) ?_
  refine lv_istore_n (lv' := [(2, .int 0), (1, .int 0), (0, .ref (w.2.2 0))]) hx hb d7_costNow_3 rfl hl (by decide) rfl (fun ls hl => ?_)
  exact t7_costNow_b4 S hr hlk hK hR 1000 0 0 h0 _ (lv_sub hl [2, 1, 0] rfl)
set_option maxHeartbeats 4000000 in
set_option maxRecDepth 100000 in
theorem k7_249 {p : Program} {l : Launch} {e : Env} {R : Room} {s : State} {m : MethodId} {args : Array Value} {below : List Frame} {meth : Method} {c : Code} {H : Heap} {locs : List Loc} {cells slots : Nat} {Q : State → Prop} {cc : ByteArray} {pc nL : Nat} {ls : Array Slot} {rest : List Value} {w : WV} {σ : Mem} {r : Int32} (S : CallFix p m c cc nL s args gtbl RX7) (hK : KS LM w s) (hR : Rp EM LM w σ H) (h0 : f7_costNow σ = some r) (hf : cells + 0 ≤ R.cells ∧ slots + 0 ≤ R.slots) (hRm : rm7_costNow.frames + 1 ≤ R.frames ∧ 8 + (3 + 11) + rm7_costNow.locals ≤ R.locals) (hl : ls.size = nL) (hW : (rest.map fun v => v.category).sum ≤ 8) (hdg : decode cc pc = .ok (.invokevirtual 249, 3)) (kk : W p l e R s m args below meth c H locs cells slots Q (F0 m (pc + 3) ls (.int r :: rest))) : W p l e R s m args below meth c H locs cells slots Q (F0 m pc ls (.ref (w.2.2 0) :: rest)) := r_endp (run_V (n := 0) (As := []) S hK hR (by decide) (eM_7 w _) rfl (gw_V (gt_at 1199 (by decide +kernel) (by decide +kernel)) (gt_at 1201 (by decide +kernel) (by decide +kernel)) (gt_at 71 (by decide +kernel) (by decide +kernel)) (gt_at 86 (by decide +kernel) (by decide +kernel)) (gt_at 1202 (by decide +kernel) (by decide +kernel))) (by decide +kernel) rfl (c7_costNow l h0) ⟨rfl, rfl⟩ hRm hf hl rfl hW hdg) kk
/-! FourTenGatesModel.costBy(II)I -/
abbrev rm7_costBy : Room := { frames := 6, cells := 0, slots := 0, locals := 139 }
theorem d7_costBy_0 : decode cX7_costBy 0 = .ok (.aload_n 0, 1) := by decide +kernel
theorem d7_costBy_1 : decode cX7_costBy 1 = .ok (.iload_n 1, 1) := by decide +kernel
theorem d7_costBy_2 : decode cX7_costBy 2 = .ok (.iload_n 2, 1) := by decide +kernel
theorem d7_costBy_3 : decode cX7_costBy 3 = .ok (.invokevirtual 245, 3) := by decide +kernel
theorem d7_costBy_6 : decode cX7_costBy 6 = .ok (.aload_n 0, 1) := by decide +kernel
theorem d7_costBy_7 : decode cX7_costBy 7 = .ok (.invokevirtual 249, 3) := by decide +kernel
theorem d7_costBy_10 : decode cX7_costBy 10 = .ok (.ireturn, 1) := by decide +kernel
def f7_costBy (σ : Mem) (x1 : Int32) (x2 : Int32) : Option (Mem × Int32) := Option.bind (f7_goHour σ x1 x2) fun σ1 => Option.bind (f7_costNow σ1) fun r2 => some (σ1, r2)
set_option maxHeartbeats 4000000 in
set_option maxRecDepth 100000 in
theorem c7_costBy (l : Launch) {w : WV} {σ : Mem} {x1 : Int32} {x2 : Int32} {σ' : Mem} {r : Int32} (h0 : f7_costBy σ x1 x2 = some (σ', r)) : Met l yX7_costBy (wy yX7_costBy cX7_costBy 3 (some .int)) rm7_costBy (Pw EM LM w [.ref (w.2.2 0), .int x1, .int x2] σ) (Qw EM LM w σ' (some (.int r))) 0 0 (AW LM w) := by
  refine mk_met (by decide) (Nat.le_of_ble_eq_true rfl) ?_
  intro p e s m below meth c S hr hlk hK hR ls hl
  obtain ⟨hx, hb, hml, hown, hts⟩ := id S
  have hl : lv_has ls 3 [(0, .ref (w.2.2 0)), (1, .int x1), (2, .int x2)] := hl
  have hS : va_S (AW LM w) s.heap s.heap [] := va_S.rf
  unfold f7_costBy at h0
  refine lv_aload_n hx hb d7_costBy_0 rfl (lv_at hl 0 rfl) ?_
  refine lv_iload_n hx hb d7_costBy_1 rfl (lv_at hl 1 rfl) ?_
  refine lv_iload_n hx hb d7_costBy_2 rfl (lv_at hl 2 rfl) ?_
  obtain ⟨σ1, hr1, h0⟩ := og_b h0
  refine k7_245 S hK hR hS  hr1 ⟨Nat.zero_le _, Nat.zero_le _⟩ ⟨Nat.le_of_ble_eq_true rfl, Nat.le_of_ble_eq_true rfl⟩ hl.1 (Nat.le_of_ble_eq_true rfl) d7_costBy_3 (fun H locs hR hS => ?_)
  refine lv_aload_n hx hb d7_costBy_6 rfl (lv_at hl 0 rfl) ?_
  obtain ⟨r2, hr2, h0⟩ := og_b h0
  refine k7_249 S hK hR  hr2 ⟨Nat.zero_le _, Nat.zero_le _⟩ ⟨Nat.le_of_ble_eq_true rfl, Nat.le_of_ble_eq_true rfl⟩ hl.1 (Nat.le_of_ble_eq_true rfl) d7_costBy_7 ?_
  exact q_iret S hr hlk hR hS h0 d7_costBy_10
set_option maxHeartbeats 4000000 in
set_option maxRecDepth 100000 in
theorem k7_257 {p : Program} {l : Launch} {e : Env} {R : Room} {s : State} {m : MethodId} {args : Array Value} {below : List Frame} {meth : Method} {c : Code} {H : Heap} {locs : List Loc} {cells slots : Nat} {Q : State → Prop} {cc : ByteArray} {pc nL : Nat} {ls : Array Slot} {rest : List Value} {w : WV} {σ : Mem} {x1 : Int32} {x2 : Int32} {σ1 : Mem} {r : Int32} (S : CallFix p m c cc nL s args gtbl RX7) (hK : KS LM w s) (hR : Rp EM LM w σ H) (hS : va_S (AW LM w) s.heap H locs) (h0 : f7_costBy σ x1 x2 = some (σ1, r)) (hf : cells + 0 ≤ R.cells ∧ slots + 0 ≤ R.slots) (hRm : rm7_costBy.frames + 1 ≤ R.frames ∧ 8 + (3 + 11) + rm7_costBy.locals ≤ R.locals) (hl : ls.size = nL) (hW : (rest.map fun v => v.category).sum ≤ 8) (hdg : decode cc pc = .ok (.invokevirtual 257, 3)) (kk : ∀ (H1 : Heap) (locs1 : List Loc), Rp EM LM w σ1 H1 → va_S (AW LM w) s.heap H1 locs1 → W p l e R s m args below meth c H1 locs1 cells slots Q (F0 m (pc + 3) ls (.int r :: rest))) : W p l e R s m args below meth c H locs cells slots Q (F0 m pc ls (.int x2 :: .int x1 :: .ref (w.2.2 0) :: rest)) := r_end hS (run_V (n := 2) (As := [.int x1, .int x2]) S hK hR (by decide) (eM_7 w _) rfl (gw_V (gt_at 1195 (by decide +kernel) (by decide +kernel)) (gt_at 1197 (by decide +kernel) (by decide +kernel)) (gt_at 70 (by decide +kernel) (by decide +kernel)) (gt_at 86 (by decide +kernel) (by decide +kernel)) (gt_at 1198 (by decide +kernel) (by decide +kernel))) (by decide +kernel) rfl (c7_costBy l h0) ⟨rfl, rfl⟩ hRm hf hl rfl hW hdg) kk
/-! FourTenGatesModel.gates(II)I -/
abbrev rm7_gates : Room := { frames := 6, cells := 0, slots := 0, locals := 139 }
theorem d7_gates_0 : decode cX7_gates 0 = .ok (.iload_n 1, 1) := by decide +kernel
theorem d7_gates_1 : decode cX7_gates 1 = .ok (.invokestatic 252, 3) := by decide +kernel
theorem d7_gates_4 : decode cX7_gates 4 = .ok (.ifCond .eq 15, 3) := by decide +kernel
theorem d7_gates_7 : decode cX7_gates 7 = .ok (.iload_n 2, 1) := by decide +kernel
theorem d7_gates_8 : decode cX7_gates 8 = .ok (.i2l, 1) := by decide +kernel
theorem d7_gates_9 : decode cX7_gates 9 = .ok (.lconst 0, 1) := by decide +kernel
theorem d7_gates_10 : decode cX7_gates 10 = .ok (.ldc2_w 255, 3) := by decide +kernel
theorem d7_gates_13 : decode cX7_gates 13 = .ok (.invokestatic 113, 3) := by decide +kernel
theorem d7_gates_16 : decode cX7_gates 16 = .ok (.ifCond .ne 5, 3) := by decide +kernel
theorem d7_gates_19 : decode cX7_gates 19 = .ok (.iconst (-1), 1) := by decide +kernel
theorem d7_gates_20 : decode cX7_gates 20 = .ok (.ireturn, 1) := by decide +kernel
theorem d7_gates_21 : decode cX7_gates 21 = .ok (.aload_n 0, 1) := by decide +kernel
theorem d7_gates_22 : decode cX7_gates 22 = .ok (.iload_n 1, 1) := by decide +kernel
theorem d7_gates_23 : decode cX7_gates 23 = .ok (.iconst 0, 1) := by decide +kernel
theorem d7_gates_24 : decode cX7_gates 24 = .ok (.invokevirtual 245, 3) := by decide +kernel
theorem d7_gates_27 : decode cX7_gates 27 = .ok (.aload_n 0, 1) := by decide +kernel
theorem d7_gates_28 : decode cX7_gates 28 = .ok (.getfield 73, 3) := by decide +kernel
theorem d7_gates_31 : decode cX7_gates 31 = .ok (.iload_n 2, 1) := by decide +kernel
theorem d7_gates_32 : decode cX7_gates 32 = .ok (.iaload, 1) := by decide +kernel
theorem d7_gates_33 : decode cX7_gates 33 = .ok (.ireturn, 1) := by decide +kernel
def f7_gates (σ : Mem) (x1 : Int32) (x2 : Int32) : Option (Mem × Int32) := Option.bind (f7_isRule x1) fun r1 => if r1 = 0 then some (σ, (-1)) else Option.bind (f7_in x2.toInt64 (0 : Int64) (359 : Int64)) fun r3 => if r3 = 0 then some (σ, (-1)) else Option.bind (f7_goHour σ x1 0) fun σ5 => if ¬ (x2 < 0 ∨ 360 ≤ x2.toNatClampNeg) then some (σ5, σ5 27 x2.toNatClampNeg) else none
set_option maxHeartbeats 4000000 in
set_option maxRecDepth 100000 in
theorem c7_gates (l : Launch) {w : WV} {σ : Mem} {x1 : Int32} {x2 : Int32} {σ' : Mem} {r : Int32} (h0 : f7_gates σ x1 x2 = some (σ', r)) : Met l yX7_gates (wy yX7_gates cX7_gates 3 (some .int)) rm7_gates (Pw EM LM w [.ref (w.2.2 0), .int x1, .int x2] σ) (Qw EM LM w σ' (some (.int r))) 0 0 (AW LM w) := by
  refine mk_met (by decide) (Nat.le_of_ble_eq_true rfl) ?_
  intro p e s m below meth c S hr hlk hK hR ls hl
  obtain ⟨hx, hb, hml, hown, hts⟩ := id S
  have hl : lv_has ls 3 [(0, .ref (w.2.2 0)), (1, .int x1), (2, .int x2)] := hl
  have hS : va_S (AW LM w) s.heap s.heap [] := va_S.rf
  unfold f7_gates at h0
  refine lv_iload_n hx hb d7_gates_0 rfl (lv_at hl 1 rfl) ?_
  obtain ⟨r1, hr1, h0⟩ := og_b h0
  refine k7_252 S  hr1 ⟨Nat.zero_le _, Nat.zero_le _⟩ ⟨Nat.le_of_ble_eq_true rfl, Nat.le_of_ble_eq_true rfl⟩ hl.1 (Nat.le_of_ble_eq_true rfl) d7_gates_1 ?_
  refine lv_if_eq (tgt := 19) hx hb d7_gates_4 (by decide) (fun hc2 => ?_) (fun hc2 => ?_)
  · have h0 := og_t hc2 h0
    refine lv_iconst (v := (-1)) hx hb d7_gates_19 (by decide) ?_
    exact q_iret S hr hlk hR hS h0 d7_gates_20
  · have h0 := og_f hc2 h0
    refine lv_iload_n hx hb d7_gates_7 rfl (lv_at hl 2 rfl) ?_
    refine lv_i2l hx hb d7_gates_8 rfl ?_
    refine lv_lconst (v := 0) hx hb d7_gates_9 (by decide) ?_
    refine lv_ldc2 (v := 359) hx hb hown (hts _ (gt_at 1110 (by decide +kernel) (by decide +kernel))) d7_gates_10 ?_
    obtain ⟨r3, hr3, h0⟩ := og_b h0
    refine k7_113 S  hr3 ⟨Nat.zero_le _, Nat.zero_le _⟩ ⟨Nat.le_of_ble_eq_true rfl, Nat.le_of_ble_eq_true rfl⟩ hl.1 (Nat.le_of_ble_eq_true rfl) d7_gates_13 ?_
    refine lv_if_ne (tgt := 21) hx hb d7_gates_16 (by decide) (fun hc4 => ?_) (fun hc4 => ?_)
    · have h0 := og_f hc4 h0
      refine lv_aload_n hx hb d7_gates_21 rfl (lv_at hl 0 rfl) ?_
      refine lv_iload_n hx hb d7_gates_22 rfl (lv_at hl 1 rfl) ?_
      refine lv_iconst (v := 0) hx hb d7_gates_23 (by decide) ?_
      obtain ⟨σ5, hr5, h0⟩ := og_b h0
      refine k7_245 S hK hR hS  hr5 ⟨Nat.zero_le _, Nat.zero_le _⟩ ⟨Nat.le_of_ble_eq_true rfl, Nat.le_of_ble_eq_true rfl⟩ hl.1 (Nat.le_of_ble_eq_true rfl) d7_gates_24 (fun H locs hR hS => ?_)
      refine lv_aload_n hx hb d7_gates_27 rfl (lv_at hl 0 rfl) ?_
      refine g7_73 S hK hR d7_gates_28 ?_
      refine lv_iload_n hx hb d7_gates_31 rfl (lv_at hl 2 rfl) ?_
      obtain ⟨hi6, h0⟩ := og_if h0
      refine q_ld (k := x2.toNatClampNeg) S hK hR (by decide) (eM_126 w _) hi6 rfl d7_gates_32 ?_
      exact q_iret S hr hlk hR hS h0 d7_gates_33
    · have h0 := og_t hc4 h0
      refine lv_iconst (v := (-1)) hx hb d7_gates_19 (by decide) ?_
      exact q_iret S hr hlk hR hS h0 d7_gates_20
/-! FourTenGatesModel.passed(II)I -/
abbrev rm7_passed : Room := { frames := 6, cells := 0, slots := 0, locals := 139 }
theorem d7_passed_0 : decode cX7_passed 0 = .ok (.iload_n 1, 1) := by decide +kernel
theorem d7_passed_1 : decode cX7_passed 1 = .ok (.invokestatic 252, 3) := by decide +kernel
theorem d7_passed_4 : decode cX7_passed 4 = .ok (.ifCond .eq 11, 3) := by decide +kernel
theorem d7_passed_7 : decode cX7_passed 7 = .ok (.aload_n 0, 1) := by decide +kernel
theorem d7_passed_8 : decode cX7_passed 8 = .ok (.iload_n 2, 1) := by decide +kernel
theorem d7_passed_9 : decode cX7_passed 9 = .ok (.invokevirtual 173, 3) := by decide +kernel
theorem d7_passed_12 : decode cX7_passed 12 = .ok (.ifCond .ne 5, 3) := by decide +kernel
theorem d7_passed_15 : decode cX7_passed 15 = .ok (.iconst (-1), 1) := by decide +kernel
theorem d7_passed_16 : decode cX7_passed 16 = .ok (.ireturn, 1) := by decide +kernel
theorem d7_passed_17 : decode cX7_passed 17 = .ok (.aload_n 0, 1) := by decide +kernel
theorem d7_passed_18 : decode cX7_passed 18 = .ok (.iload_n 1, 1) := by decide +kernel
theorem d7_passed_19 : decode cX7_passed 19 = .ok (.iconst 0, 1) := by decide +kernel
theorem d7_passed_20 : decode cX7_passed 20 = .ok (.invokevirtual 245, 3) := by decide +kernel
theorem d7_passed_23 : decode cX7_passed 23 = .ok (.aload_n 0, 1) := by decide +kernel
theorem d7_passed_24 : decode cX7_passed 24 = .ok (.getfield 76, 3) := by decide +kernel
theorem d7_passed_27 : decode cX7_passed 27 = .ok (.iload_n 2, 1) := by decide +kernel
theorem d7_passed_28 : decode cX7_passed 28 = .ok (.iaload, 1) := by decide +kernel
theorem d7_passed_29 : decode cX7_passed 29 = .ok (.ireturn, 1) := by decide +kernel
def f7_passed (σ : Mem) (x1 : Int32) (x2 : Int32) : Option (Mem × Int32) := Option.bind (f7_isRule x1) fun r1 => if r1 = 0 then some (σ, (-1)) else Option.bind (f7_isTrain σ x2) fun r3 => if r3 = 0 then some (σ, (-1)) else Option.bind (f7_goHour σ x1 0) fun σ5 => if ¬ (x2 < 0 ∨ 6 ≤ x2.toNatClampNeg) then some (σ5, σ5 28 x2.toNatClampNeg) else none
set_option maxHeartbeats 4000000 in
set_option maxRecDepth 100000 in
theorem c7_passed (l : Launch) {w : WV} {σ : Mem} {x1 : Int32} {x2 : Int32} {σ' : Mem} {r : Int32} (h0 : f7_passed σ x1 x2 = some (σ', r)) : Met l yX7_passed (wy yX7_passed cX7_passed 3 (some .int)) rm7_passed (Pw EM LM w [.ref (w.2.2 0), .int x1, .int x2] σ) (Qw EM LM w σ' (some (.int r))) 0 0 (AW LM w) := by
  refine mk_met (by decide) (Nat.le_of_ble_eq_true rfl) ?_
  intro p e s m below meth c S hr hlk hK hR ls hl
  obtain ⟨hx, hb, hml, hown, hts⟩ := id S
  have hl : lv_has ls 3 [(0, .ref (w.2.2 0)), (1, .int x1), (2, .int x2)] := hl
  have hS : va_S (AW LM w) s.heap s.heap [] := va_S.rf
  unfold f7_passed at h0
  refine lv_iload_n hx hb d7_passed_0 rfl (lv_at hl 1 rfl) ?_
  obtain ⟨r1, hr1, h0⟩ := og_b h0
  refine k7_252 S  hr1 ⟨Nat.zero_le _, Nat.zero_le _⟩ ⟨Nat.le_of_ble_eq_true rfl, Nat.le_of_ble_eq_true rfl⟩ hl.1 (Nat.le_of_ble_eq_true rfl) d7_passed_1 ?_
  refine lv_if_eq (tgt := 15) hx hb d7_passed_4 (by decide) (fun hc2 => ?_) (fun hc2 => ?_)
  · have h0 := og_t hc2 h0
    refine lv_iconst (v := (-1)) hx hb d7_passed_15 (by decide) ?_
    exact q_iret S hr hlk hR hS h0 d7_passed_16
  · have h0 := og_f hc2 h0
    refine lv_aload_n hx hb d7_passed_7 rfl (lv_at hl 0 rfl) ?_
    refine lv_iload_n hx hb d7_passed_8 rfl (lv_at hl 2 rfl) ?_
    obtain ⟨r3, hr3, h0⟩ := og_b h0
    refine k7_173 S hK hR  hr3 ⟨Nat.zero_le _, Nat.zero_le _⟩ ⟨Nat.le_of_ble_eq_true rfl, Nat.le_of_ble_eq_true rfl⟩ hl.1 (Nat.le_of_ble_eq_true rfl) d7_passed_9 ?_
    refine lv_if_ne (tgt := 17) hx hb d7_passed_12 (by decide) (fun hc4 => ?_) (fun hc4 => ?_)
    · have h0 := og_f hc4 h0
      refine lv_aload_n hx hb d7_passed_17 rfl (lv_at hl 0 rfl) ?_
      refine lv_iload_n hx hb d7_passed_18 rfl (lv_at hl 1 rfl) ?_
      refine lv_iconst (v := 0) hx hb d7_passed_19 (by decide) ?_
      obtain ⟨σ5, hr5, h0⟩ := og_b h0
      refine k7_245 S hK hR hS  hr5 ⟨Nat.zero_le _, Nat.zero_le _⟩ ⟨Nat.le_of_ble_eq_true rfl, Nat.le_of_ble_eq_true rfl⟩ hl.1 (Nat.le_of_ble_eq_true rfl) d7_passed_20 (fun H locs hR hS => ?_)
      refine lv_aload_n hx hb d7_passed_23 rfl (lv_at hl 0 rfl) ?_
      refine g7_76 S hK hR d7_passed_24 ?_
      refine lv_iload_n hx hb d7_passed_27 rfl (lv_at hl 2 rfl) ?_
      obtain ⟨hi6, h0⟩ := og_if h0
      refine q_ld (k := x2.toNatClampNeg) S hK hR (by decide) (eM_127 w _) hi6 rfl d7_passed_28 ?_
      exact q_iret S hr hlk hR hS h0 d7_passed_29
    · have h0 := og_t hc4 h0
      refine lv_iconst (v := (-1)) hx hb d7_passed_15 (by decide) ?_
      exact q_iret S hr hlk hR hS h0 d7_passed_16
/-! FourTenGatesModel.stopped(II)I -/
abbrev rm7_stopped : Room := { frames := 6, cells := 0, slots := 0, locals := 139 }
theorem d7_stopped_0 : decode cX7_stopped 0 = .ok (.iload_n 1, 1) := by decide +kernel
theorem d7_stopped_1 : decode cX7_stopped 1 = .ok (.invokestatic 252, 3) := by decide +kernel
theorem d7_stopped_4 : decode cX7_stopped 4 = .ok (.ifCond .eq 11, 3) := by decide +kernel
theorem d7_stopped_7 : decode cX7_stopped 7 = .ok (.aload_n 0, 1) := by decide +kernel
theorem d7_stopped_8 : decode cX7_stopped 8 = .ok (.iload_n 2, 1) := by decide +kernel
theorem d7_stopped_9 : decode cX7_stopped 9 = .ok (.invokevirtual 173, 3) := by decide +kernel
theorem d7_stopped_12 : decode cX7_stopped 12 = .ok (.ifCond .ne 5, 3) := by decide +kernel
theorem d7_stopped_15 : decode cX7_stopped 15 = .ok (.iconst (-1), 1) := by decide +kernel
theorem d7_stopped_16 : decode cX7_stopped 16 = .ok (.ireturn, 1) := by decide +kernel
theorem d7_stopped_17 : decode cX7_stopped 17 = .ok (.aload_n 0, 1) := by decide +kernel
theorem d7_stopped_18 : decode cX7_stopped 18 = .ok (.iload_n 1, 1) := by decide +kernel
theorem d7_stopped_19 : decode cX7_stopped 19 = .ok (.iconst 0, 1) := by decide +kernel
theorem d7_stopped_20 : decode cX7_stopped 20 = .ok (.invokevirtual 245, 3) := by decide +kernel
theorem d7_stopped_23 : decode cX7_stopped 23 = .ok (.aload_n 0, 1) := by decide +kernel
theorem d7_stopped_24 : decode cX7_stopped 24 = .ok (.getfield 79, 3) := by decide +kernel
theorem d7_stopped_27 : decode cX7_stopped 27 = .ok (.iload_n 2, 1) := by decide +kernel
theorem d7_stopped_28 : decode cX7_stopped 28 = .ok (.iaload, 1) := by decide +kernel
theorem d7_stopped_29 : decode cX7_stopped 29 = .ok (.ireturn, 1) := by decide +kernel
def f7_stopped (σ : Mem) (x1 : Int32) (x2 : Int32) : Option (Mem × Int32) := Option.bind (f7_isRule x1) fun r1 => if r1 = 0 then some (σ, (-1)) else Option.bind (f7_isTrain σ x2) fun r3 => if r3 = 0 then some (σ, (-1)) else Option.bind (f7_goHour σ x1 0) fun σ5 => if ¬ (x2 < 0 ∨ 6 ≤ x2.toNatClampNeg) then some (σ5, σ5 29 x2.toNatClampNeg) else none
set_option maxHeartbeats 4000000 in
set_option maxRecDepth 100000 in
theorem c7_stopped (l : Launch) {w : WV} {σ : Mem} {x1 : Int32} {x2 : Int32} {σ' : Mem} {r : Int32} (h0 : f7_stopped σ x1 x2 = some (σ', r)) : Met l yX7_stopped (wy yX7_stopped cX7_stopped 3 (some .int)) rm7_stopped (Pw EM LM w [.ref (w.2.2 0), .int x1, .int x2] σ) (Qw EM LM w σ' (some (.int r))) 0 0 (AW LM w) := by
  refine mk_met (by decide) (Nat.le_of_ble_eq_true rfl) ?_
  intro p e s m below meth c S hr hlk hK hR ls hl
  obtain ⟨hx, hb, hml, hown, hts⟩ := id S
  have hl : lv_has ls 3 [(0, .ref (w.2.2 0)), (1, .int x1), (2, .int x2)] := hl
  have hS : va_S (AW LM w) s.heap s.heap [] := va_S.rf
  unfold f7_stopped at h0
  refine lv_iload_n hx hb d7_stopped_0 rfl (lv_at hl 1 rfl) ?_
  obtain ⟨r1, hr1, h0⟩ := og_b h0
  refine k7_252 S  hr1 ⟨Nat.zero_le _, Nat.zero_le _⟩ ⟨Nat.le_of_ble_eq_true rfl, Nat.le_of_ble_eq_true rfl⟩ hl.1 (Nat.le_of_ble_eq_true rfl) d7_stopped_1 ?_
  refine lv_if_eq (tgt := 15) hx hb d7_stopped_4 (by decide) (fun hc2 => ?_) (fun hc2 => ?_)
  · have h0 := og_t hc2 h0
    refine lv_iconst (v := (-1)) hx hb d7_stopped_15 (by decide) ?_
    exact q_iret S hr hlk hR hS h0 d7_stopped_16
  · have h0 := og_f hc2 h0
    refine lv_aload_n hx hb d7_stopped_7 rfl (lv_at hl 0 rfl) ?_
    refine lv_iload_n hx hb d7_stopped_8 rfl (lv_at hl 2 rfl) ?_
    obtain ⟨r3, hr3, h0⟩ := og_b h0
    refine k7_173 S hK hR  hr3 ⟨Nat.zero_le _, Nat.zero_le _⟩ ⟨Nat.le_of_ble_eq_true rfl, Nat.le_of_ble_eq_true rfl⟩ hl.1 (Nat.le_of_ble_eq_true rfl) d7_stopped_9 ?_
    refine lv_if_ne (tgt := 17) hx hb d7_stopped_12 (by decide) (fun hc4 => ?_) (fun hc4 => ?_)
    · have h0 := og_f hc4 h0
      refine lv_aload_n hx hb d7_stopped_17 rfl (lv_at hl 0 rfl) ?_
      refine lv_iload_n hx hb d7_stopped_18 rfl (lv_at hl 1 rfl) ?_
      refine lv_iconst (v := 0) hx hb d7_stopped_19 (by decide) ?_
      obtain ⟨σ5, hr5, h0⟩ := og_b h0
      refine k7_245 S hK hR hS  hr5 ⟨Nat.zero_le _, Nat.zero_le _⟩ ⟨Nat.le_of_ble_eq_true rfl, Nat.le_of_ble_eq_true rfl⟩ hl.1 (Nat.le_of_ble_eq_true rfl) d7_stopped_20 (fun H locs hR hS => ?_)
      refine lv_aload_n hx hb d7_stopped_23 rfl (lv_at hl 0 rfl) ?_
      refine g7_79 S hK hR d7_stopped_24 ?_
      refine lv_iload_n hx hb d7_stopped_27 rfl (lv_at hl 2 rfl) ?_
      obtain ⟨hi6, h0⟩ := og_if h0
      refine q_ld (k := x2.toNatClampNeg) S hK hR (by decide) (eM_128 w _) hi6 rfl d7_stopped_28 ?_
      exact q_iret S hr hlk hR hS h0 d7_stopped_29
    · have h0 := og_t hc4 h0
      refine lv_iconst (v := (-1)) hx hb d7_stopped_15 (by decide) ?_
      exact q_iret S hr hlk hR hS h0 d7_stopped_16
/-! FourTenGatesModel.crossed(II)I -/
abbrev rm7_crossed : Room := { frames := 6, cells := 0, slots := 0, locals := 139 }
theorem d7_crossed_0 : decode cX7_crossed 0 = .ok (.iload_n 1, 1) := by decide +kernel
theorem d7_crossed_1 : decode cX7_crossed 1 = .ok (.invokestatic 252, 3) := by decide +kernel
theorem d7_crossed_4 : decode cX7_crossed 4 = .ok (.ifCond .eq 11, 3) := by decide +kernel
theorem d7_crossed_7 : decode cX7_crossed 7 = .ok (.aload_n 0, 1) := by decide +kernel
theorem d7_crossed_8 : decode cX7_crossed 8 = .ok (.iload_n 2, 1) := by decide +kernel
theorem d7_crossed_9 : decode cX7_crossed 9 = .ok (.invokevirtual 179, 3) := by decide +kernel
theorem d7_crossed_12 : decode cX7_crossed 12 = .ok (.ifCond .ne 5, 3) := by decide +kernel
theorem d7_crossed_15 : decode cX7_crossed 15 = .ok (.iconst (-1), 1) := by decide +kernel
theorem d7_crossed_16 : decode cX7_crossed 16 = .ok (.ireturn, 1) := by decide +kernel
theorem d7_crossed_17 : decode cX7_crossed 17 = .ok (.aload_n 0, 1) := by decide +kernel
theorem d7_crossed_18 : decode cX7_crossed 18 = .ok (.iload_n 1, 1) := by decide +kernel
theorem d7_crossed_19 : decode cX7_crossed 19 = .ok (.iconst 0, 1) := by decide +kernel
theorem d7_crossed_20 : decode cX7_crossed 20 = .ok (.invokevirtual 245, 3) := by decide +kernel
theorem d7_crossed_23 : decode cX7_crossed 23 = .ok (.aload_n 0, 1) := by decide +kernel
theorem d7_crossed_24 : decode cX7_crossed 24 = .ok (.getfield 82, 3) := by decide +kernel
theorem d7_crossed_27 : decode cX7_crossed 27 = .ok (.iload_n 2, 1) := by decide +kernel
theorem d7_crossed_28 : decode cX7_crossed 28 = .ok (.iaload, 1) := by decide +kernel
theorem d7_crossed_29 : decode cX7_crossed 29 = .ok (.ireturn, 1) := by decide +kernel
def f7_crossed (σ : Mem) (x1 : Int32) (x2 : Int32) : Option (Mem × Int32) := Option.bind (f7_isRule x1) fun r1 => if r1 = 0 then some (σ, (-1)) else Option.bind (f7_isUser σ x2) fun r3 => if r3 = 0 then some (σ, (-1)) else Option.bind (f7_goHour σ x1 0) fun σ5 => if ¬ (x2 < 0 ∨ 8 ≤ x2.toNatClampNeg) then some (σ5, σ5 30 x2.toNatClampNeg) else none
set_option maxHeartbeats 4000000 in
set_option maxRecDepth 100000 in
theorem c7_crossed (l : Launch) {w : WV} {σ : Mem} {x1 : Int32} {x2 : Int32} {σ' : Mem} {r : Int32} (h0 : f7_crossed σ x1 x2 = some (σ', r)) : Met l yX7_crossed (wy yX7_crossed cX7_crossed 3 (some .int)) rm7_crossed (Pw EM LM w [.ref (w.2.2 0), .int x1, .int x2] σ) (Qw EM LM w σ' (some (.int r))) 0 0 (AW LM w) := by
  refine mk_met (by decide) (Nat.le_of_ble_eq_true rfl) ?_
  intro p e s m below meth c S hr hlk hK hR ls hl
  obtain ⟨hx, hb, hml, hown, hts⟩ := id S
  have hl : lv_has ls 3 [(0, .ref (w.2.2 0)), (1, .int x1), (2, .int x2)] := hl
  have hS : va_S (AW LM w) s.heap s.heap [] := va_S.rf
  unfold f7_crossed at h0
  refine lv_iload_n hx hb d7_crossed_0 rfl (lv_at hl 1 rfl) ?_
  obtain ⟨r1, hr1, h0⟩ := og_b h0
  refine k7_252 S  hr1 ⟨Nat.zero_le _, Nat.zero_le _⟩ ⟨Nat.le_of_ble_eq_true rfl, Nat.le_of_ble_eq_true rfl⟩ hl.1 (Nat.le_of_ble_eq_true rfl) d7_crossed_1 ?_
  refine lv_if_eq (tgt := 15) hx hb d7_crossed_4 (by decide) (fun hc2 => ?_) (fun hc2 => ?_)
  · have h0 := og_t hc2 h0
    refine lv_iconst (v := (-1)) hx hb d7_crossed_15 (by decide) ?_
    exact q_iret S hr hlk hR hS h0 d7_crossed_16
  · have h0 := og_f hc2 h0
    refine lv_aload_n hx hb d7_crossed_7 rfl (lv_at hl 0 rfl) ?_
    refine lv_iload_n hx hb d7_crossed_8 rfl (lv_at hl 2 rfl) ?_
    obtain ⟨r3, hr3, h0⟩ := og_b h0
    refine k7_179 S hK hR  hr3 ⟨Nat.zero_le _, Nat.zero_le _⟩ ⟨Nat.le_of_ble_eq_true rfl, Nat.le_of_ble_eq_true rfl⟩ hl.1 (Nat.le_of_ble_eq_true rfl) d7_crossed_9 ?_
    refine lv_if_ne (tgt := 17) hx hb d7_crossed_12 (by decide) (fun hc4 => ?_) (fun hc4 => ?_)
    · have h0 := og_f hc4 h0
      refine lv_aload_n hx hb d7_crossed_17 rfl (lv_at hl 0 rfl) ?_
      refine lv_iload_n hx hb d7_crossed_18 rfl (lv_at hl 1 rfl) ?_
      refine lv_iconst (v := 0) hx hb d7_crossed_19 (by decide) ?_
      obtain ⟨σ5, hr5, h0⟩ := og_b h0
      refine k7_245 S hK hR hS  hr5 ⟨Nat.zero_le _, Nat.zero_le _⟩ ⟨Nat.le_of_ble_eq_true rfl, Nat.le_of_ble_eq_true rfl⟩ hl.1 (Nat.le_of_ble_eq_true rfl) d7_crossed_20 (fun H locs hR hS => ?_)
      refine lv_aload_n hx hb d7_crossed_23 rfl (lv_at hl 0 rfl) ?_
      refine g7_82 S hK hR d7_crossed_24 ?_
      refine lv_iload_n hx hb d7_crossed_27 rfl (lv_at hl 2 rfl) ?_
      obtain ⟨hi6, h0⟩ := og_if h0
      refine q_ld (k := x2.toNatClampNeg) S hK hR (by decide) (eM_129 w _) hi6 rfl d7_crossed_28 ?_
      exact q_iret S hr hlk hR hS h0 d7_crossed_29
    · have h0 := og_t hc4 h0
      refine lv_iconst (v := (-1)) hx hb d7_crossed_15 (by decide) ?_
      exact q_iret S hr hlk hR hS h0 d7_crossed_16
/-! FourTenGatesModel.waited(II)I -/
abbrev rm7_waited : Room := { frames := 6, cells := 0, slots := 0, locals := 139 }
theorem d7_waited_0 : decode cX7_waited 0 = .ok (.iload_n 1, 1) := by decide +kernel
theorem d7_waited_1 : decode cX7_waited 1 = .ok (.invokestatic 252, 3) := by decide +kernel
theorem d7_waited_4 : decode cX7_waited 4 = .ok (.ifCond .eq 11, 3) := by decide +kernel
theorem d7_waited_7 : decode cX7_waited 7 = .ok (.aload_n 0, 1) := by decide +kernel
theorem d7_waited_8 : decode cX7_waited 8 = .ok (.iload_n 2, 1) := by decide +kernel
theorem d7_waited_9 : decode cX7_waited 9 = .ok (.invokevirtual 179, 3) := by decide +kernel
theorem d7_waited_12 : decode cX7_waited 12 = .ok (.ifCond .ne 5, 3) := by decide +kernel
theorem d7_waited_15 : decode cX7_waited 15 = .ok (.iconst (-1), 1) := by decide +kernel
theorem d7_waited_16 : decode cX7_waited 16 = .ok (.ireturn, 1) := by decide +kernel
theorem d7_waited_17 : decode cX7_waited 17 = .ok (.aload_n 0, 1) := by decide +kernel
theorem d7_waited_18 : decode cX7_waited 18 = .ok (.iload_n 1, 1) := by decide +kernel
theorem d7_waited_19 : decode cX7_waited 19 = .ok (.iconst 0, 1) := by decide +kernel
theorem d7_waited_20 : decode cX7_waited 20 = .ok (.invokevirtual 245, 3) := by decide +kernel
theorem d7_waited_23 : decode cX7_waited 23 = .ok (.aload_n 0, 1) := by decide +kernel
theorem d7_waited_24 : decode cX7_waited 24 = .ok (.getfield 85, 3) := by decide +kernel
theorem d7_waited_27 : decode cX7_waited 27 = .ok (.iload_n 2, 1) := by decide +kernel
theorem d7_waited_28 : decode cX7_waited 28 = .ok (.iaload, 1) := by decide +kernel
theorem d7_waited_29 : decode cX7_waited 29 = .ok (.ireturn, 1) := by decide +kernel
def f7_waited (σ : Mem) (x1 : Int32) (x2 : Int32) : Option (Mem × Int32) := Option.bind (f7_isRule x1) fun r1 => if r1 = 0 then some (σ, (-1)) else Option.bind (f7_isUser σ x2) fun r3 => if r3 = 0 then some (σ, (-1)) else Option.bind (f7_goHour σ x1 0) fun σ5 => if ¬ (x2 < 0 ∨ 8 ≤ x2.toNatClampNeg) then some (σ5, σ5 31 x2.toNatClampNeg) else none
set_option maxHeartbeats 4000000 in
set_option maxRecDepth 100000 in
theorem c7_waited (l : Launch) {w : WV} {σ : Mem} {x1 : Int32} {x2 : Int32} {σ' : Mem} {r : Int32} (h0 : f7_waited σ x1 x2 = some (σ', r)) : Met l yX7_waited (wy yX7_waited cX7_waited 3 (some .int)) rm7_waited (Pw EM LM w [.ref (w.2.2 0), .int x1, .int x2] σ) (Qw EM LM w σ' (some (.int r))) 0 0 (AW LM w) := by
  refine mk_met (by decide) (Nat.le_of_ble_eq_true rfl) ?_
  intro p e s m below meth c S hr hlk hK hR ls hl
  obtain ⟨hx, hb, hml, hown, hts⟩ := id S
  have hl : lv_has ls 3 [(0, .ref (w.2.2 0)), (1, .int x1), (2, .int x2)] := hl
  have hS : va_S (AW LM w) s.heap s.heap [] := va_S.rf
  unfold f7_waited at h0
  refine lv_iload_n hx hb d7_waited_0 rfl (lv_at hl 1 rfl) ?_
  obtain ⟨r1, hr1, h0⟩ := og_b h0
  refine k7_252 S  hr1 ⟨Nat.zero_le _, Nat.zero_le _⟩ ⟨Nat.le_of_ble_eq_true rfl, Nat.le_of_ble_eq_true rfl⟩ hl.1 (Nat.le_of_ble_eq_true rfl) d7_waited_1 ?_
  refine lv_if_eq (tgt := 15) hx hb d7_waited_4 (by decide) (fun hc2 => ?_) (fun hc2 => ?_)
  · have h0 := og_t hc2 h0
    refine lv_iconst (v := (-1)) hx hb d7_waited_15 (by decide) ?_
    exact q_iret S hr hlk hR hS h0 d7_waited_16
  · have h0 := og_f hc2 h0
    refine lv_aload_n hx hb d7_waited_7 rfl (lv_at hl 0 rfl) ?_
    refine lv_iload_n hx hb d7_waited_8 rfl (lv_at hl 2 rfl) ?_
    obtain ⟨r3, hr3, h0⟩ := og_b h0
    refine k7_179 S hK hR  hr3 ⟨Nat.zero_le _, Nat.zero_le _⟩ ⟨Nat.le_of_ble_eq_true rfl, Nat.le_of_ble_eq_true rfl⟩ hl.1 (Nat.le_of_ble_eq_true rfl) d7_waited_9 ?_
    refine lv_if_ne (tgt := 17) hx hb d7_waited_12 (by decide) (fun hc4 => ?_) (fun hc4 => ?_)
    · have h0 := og_f hc4 h0
      refine lv_aload_n hx hb d7_waited_17 rfl (lv_at hl 0 rfl) ?_
      refine lv_iload_n hx hb d7_waited_18 rfl (lv_at hl 1 rfl) ?_
      refine lv_iconst (v := 0) hx hb d7_waited_19 (by decide) ?_
      obtain ⟨σ5, hr5, h0⟩ := og_b h0
      refine k7_245 S hK hR hS  hr5 ⟨Nat.zero_le _, Nat.zero_le _⟩ ⟨Nat.le_of_ble_eq_true rfl, Nat.le_of_ble_eq_true rfl⟩ hl.1 (Nat.le_of_ble_eq_true rfl) d7_waited_20 (fun H locs hR hS => ?_)
      refine lv_aload_n hx hb d7_waited_23 rfl (lv_at hl 0 rfl) ?_
      refine g7_85 S hK hR d7_waited_24 ?_
      refine lv_iload_n hx hb d7_waited_27 rfl (lv_at hl 2 rfl) ?_
      obtain ⟨hi6, h0⟩ := og_if h0
      refine q_ld (k := x2.toNatClampNeg) S hK hR (by decide) (eM_130 w _) hi6 rfl d7_waited_28 ?_
      exact q_iret S hr hlk hR hS h0 d7_waited_29
    · have h0 := og_t hc4 h0
      refine lv_iconst (v := (-1)) hx hb d7_waited_15 (by decide) ?_
      exact q_iret S hr hlk hR hS h0 d7_waited_16
/-! FourTenGatesModel.cost(I)I -/
abbrev rm7_cost : Room := { frames := 7, cells := 0, slots := 0, locals := 161 }
theorem d7_cost_0 : decode cX7_cost 0 = .ok (.iload_n 1, 1) := by decide +kernel
theorem d7_cost_1 : decode cX7_cost 1 = .ok (.invokestatic 252, 3) := by decide +kernel
theorem d7_cost_4 : decode cX7_cost 4 = .ok (.ifCond .eq 12, 3) := by decide +kernel
theorem d7_cost_7 : decode cX7_cost 7 = .ok (.aload_n 0, 1) := by decide +kernel
theorem d7_cost_8 : decode cX7_cost 8 = .ok (.iload_n 1, 1) := by decide +kernel
theorem d7_cost_9 : decode cX7_cost 9 = .ok (.iconst 0, 1) := by decide +kernel
theorem d7_cost_10 : decode cX7_cost 10 = .ok (.invokevirtual 257, 3) := by decide +kernel
theorem d7_cost_13 : decode cX7_cost 13 = .ok (.goto 4, 3) := by decide +kernel
theorem d7_cost_16 : decode cX7_cost 16 = .ok (.iconst (-1), 1) := by decide +kernel
theorem d7_cost_17 : decode cX7_cost 17 = .ok (.ireturn, 1) := by decide +kernel
def f7_cost (σ : Mem) (x1 : Int32) : Option (Mem × Int32) := Option.bind (f7_isRule x1) fun r1 => if r1 = 0 then some (σ, (-1)) else ob (f7_costBy σ x1 0) fun σ3 r3 => some (σ3, r3)
set_option maxHeartbeats 4000000 in
set_option maxRecDepth 100000 in
theorem c7_cost (l : Launch) {w : WV} {σ : Mem} {x1 : Int32} {σ' : Mem} {r : Int32} (h0 : f7_cost σ x1 = some (σ', r)) : Met l yX7_cost (wy yX7_cost cX7_cost 2 (some .int)) rm7_cost (Pw EM LM w [.ref (w.2.2 0), .int x1] σ) (Qw EM LM w σ' (some (.int r))) 0 0 (AW LM w) := by
  refine mk_met (by decide) (Nat.le_of_ble_eq_true rfl) ?_
  intro p e s m below meth c S hr hlk hK hR ls hl
  obtain ⟨hx, hb, hml, hown, hts⟩ := id S
  have hl : lv_has ls 2 [(0, .ref (w.2.2 0)), (1, .int x1)] := hl
  have hS : va_S (AW LM w) s.heap s.heap [] := va_S.rf
  unfold f7_cost at h0
  refine lv_iload_n hx hb d7_cost_0 rfl (lv_at hl 1 rfl) ?_
  obtain ⟨r1, hr1, h0⟩ := og_b h0
  refine k7_252 S  hr1 ⟨Nat.zero_le _, Nat.zero_le _⟩ ⟨Nat.le_of_ble_eq_true rfl, Nat.le_of_ble_eq_true rfl⟩ hl.1 (Nat.le_of_ble_eq_true rfl) d7_cost_1 ?_
  refine lv_if_eq (tgt := 16) hx hb d7_cost_4 (by decide) (fun hc2 => ?_) (fun hc2 => ?_)
  · have h0 := og_t hc2 h0
    refine lv_iconst (v := (-1)) hx hb d7_cost_16 (by decide) ?_
    exact q_iret S hr hlk hR hS h0 d7_cost_17
  · have h0 := og_f hc2 h0
    refine lv_aload_n hx hb d7_cost_7 rfl (lv_at hl 0 rfl) ?_
    refine lv_iload_n hx hb d7_cost_8 rfl (lv_at hl 1 rfl) ?_
    refine lv_iconst (v := 0) hx hb d7_cost_9 (by decide) ?_
    obtain ⟨σ3, r3, hr3, h0⟩ := og_o h0
    refine k7_257 S hK hR hS  hr3 ⟨Nat.zero_le _, Nat.zero_le _⟩ ⟨Nat.le_of_ble_eq_true rfl, Nat.le_of_ble_eq_true rfl⟩ hl.1 (Nat.le_of_ble_eq_true rfl) d7_cost_10 (fun H locs hR hS => ?_)
    refine lv_goto (tgt := 17) hx hb d7_cost_13 (by decide) ?_
    exact q_iret S hr hlk hR hS h0 d7_cost_17
/-! FourTenGatesModel.note()V -/
abbrev rm7_note : Room := { frames := 0, cells := 0, slots := 0, locals := 0 }
theorem d7_note_0 : decode cX7_note 0 = .ok (.aload_n 0, 1) := by decide +kernel
theorem d7_note_1 : decode cX7_note 1 = .ok (.getfield 159, 3) := by decide +kernel
theorem d7_note_4 : decode cX7_note 4 = .ok (.bipush 8, 2) := by decide +kernel
theorem d7_note_6 : decode cX7_note 6 = .ok (.if_icmp .ne 43, 3) := by decide +kernel
theorem d7_note_9 : decode cX7_note 9 = .ok (.iconst 0, 1) := by decide +kernel
theorem d7_note_10 : decode cX7_note 10 = .ok (.istore_n 1, 1) := by decide +kernel
theorem d7_note_11 : decode cX7_note 11 = .ok (.iload_n 1, 1) := by decide +kernel
theorem d7_note_12 : decode cX7_note 12 = .ok (.sipush 133, 3) := by decide +kernel
theorem d7_note_15 : decode cX7_note 15 = .ok (.if_icmp .ge 24, 3) := by decide +kernel
theorem d7_note_18 : decode cX7_note 18 = .ok (.aload_n 0, 1) := by decide +kernel
theorem d7_note_19 : decode cX7_note 19 = .ok (.getfield 58, 3) := by decide +kernel
theorem d7_note_22 : decode cX7_note 22 = .ok (.iload_n 1, 1) := by decide +kernel
theorem d7_note_23 : decode cX7_note 23 = .ok (.aload_n 0, 1) := by decide +kernel
theorem d7_note_24 : decode cX7_note 24 = .ok (.getfield 58, 3) := by decide +kernel
theorem d7_note_27 : decode cX7_note 27 = .ok (.bipush 19, 2) := by decide +kernel
theorem d7_note_29 : decode cX7_note 29 = .ok (.iload_n 1, 1) := by decide +kernel
theorem d7_note_30 : decode cX7_note 30 = .ok (.iadd, 1) := by decide +kernel
theorem d7_note_31 : decode cX7_note 31 = .ok (.iaload, 1) := by decide +kernel
theorem d7_note_32 : decode cX7_note 32 = .ok (.iastore, 1) := by decide +kernel
theorem d7_note_33 : decode cX7_note 33 = .ok (.iinc 1 1, 3) := by decide +kernel
theorem d7_note_36 : decode cX7_note 36 = .ok (.goto (-25), 3) := by decide +kernel
theorem d7_note_39 : decode cX7_note 39 = .ok (.aload_n 0, 1) := by decide +kernel
theorem d7_note_40 : decode cX7_note 40 = .ok (.dup, 1) := by decide +kernel
theorem d7_note_41 : decode cX7_note 41 = .ok (.getfield 159, 3) := by decide +kernel
theorem d7_note_44 : decode cX7_note 44 = .ok (.iconst 1, 1) := by decide +kernel
theorem d7_note_45 : decode cX7_note 45 = .ok (.isub, 1) := by decide +kernel
theorem d7_note_46 : decode cX7_note 46 = .ok (.putfield 159, 3) := by decide +kernel
theorem d7_note_49 : decode cX7_note 49 = .ok (.iconst 0, 1) := by decide +kernel
theorem d7_note_50 : decode cX7_note 50 = .ok (.istore_n 1, 1) := by decide +kernel
theorem d7_note_51 : decode cX7_note 51 = .ok (.iload_n 1, 1) := by decide +kernel
theorem d7_note_52 : decode cX7_note 52 = .ok (.bipush 19, 2) := by decide +kernel
theorem d7_note_54 : decode cX7_note 54 = .ok (.if_icmp .ge 29, 3) := by decide +kernel
theorem d7_note_57 : decode cX7_note 57 = .ok (.aload_n 0, 1) := by decide +kernel
theorem d7_note_58 : decode cX7_note 58 = .ok (.getfield 58, 3) := by decide +kernel
theorem d7_note_61 : decode cX7_note 61 = .ok (.bipush 19, 2) := by decide +kernel
theorem d7_note_63 : decode cX7_note 63 = .ok (.aload_n 0, 1) := by decide +kernel
theorem d7_note_64 : decode cX7_note 64 = .ok (.getfield 159, 3) := by decide +kernel
theorem d7_note_67 : decode cX7_note 67 = .ok (.imul, 1) := by decide +kernel
theorem d7_note_68 : decode cX7_note 68 = .ok (.iload_n 1, 1) := by decide +kernel
theorem d7_note_69 : decode cX7_note 69 = .ok (.iadd, 1) := by decide +kernel
theorem d7_note_70 : decode cX7_note 70 = .ok (.aload_n 0, 1) := by decide +kernel
theorem d7_note_71 : decode cX7_note 71 = .ok (.getfield 55, 3) := by decide +kernel
theorem d7_note_74 : decode cX7_note 74 = .ok (.iload_n 1, 1) := by decide +kernel
theorem d7_note_75 : decode cX7_note 75 = .ok (.iaload, 1) := by decide +kernel
theorem d7_note_76 : decode cX7_note 76 = .ok (.iastore, 1) := by decide +kernel
theorem d7_note_77 : decode cX7_note 77 = .ok (.iinc 1 1, 3) := by decide +kernel
theorem d7_note_80 : decode cX7_note 80 = .ok (.goto (-29), 3) := by decide +kernel
theorem d7_note_83 : decode cX7_note 83 = .ok (.aload_n 0, 1) := by decide +kernel
theorem d7_note_84 : decode cX7_note 84 = .ok (.dup, 1) := by decide +kernel
theorem d7_note_85 : decode cX7_note 85 = .ok (.getfield 159, 3) := by decide +kernel
theorem d7_note_88 : decode cX7_note 88 = .ok (.iconst 1, 1) := by decide +kernel
theorem d7_note_89 : decode cX7_note 89 = .ok (.iadd, 1) := by decide +kernel
theorem d7_note_90 : decode cX7_note 90 = .ok (.putfield 159, 3) := by decide +kernel
theorem d7_note_93 : decode cX7_note 93 = .ok (.return_, 1) := by decide +kernel
def f7_note_b51 : Nat → Mem → Int32 → Option Mem
  | 0, _, _ => none
  | n + 1, σ, x1 => if 19 ≤ x1 then bm (mu σ 0 18 ((σ 0 18) + 1)) fun σ2 => some σ2 else if ¬ (x1 < 0 ∨ 19 ≤ x1.toNatClampNeg) then if ¬ ((19 * (σ 0 18)) + x1 < 0 ∨ 152 ≤ ((19 * (σ 0 18)) + x1).toNatClampNeg) then (bm (mu σ 18 (((19 * (σ 0 18)) + x1).toNatClampNeg) (σ 17 x1.toNatClampNeg)) fun σ4 => f7_note_b51 n σ4 (x1 + 1)) else none else none
set_option maxHeartbeats 4000000 in
set_option maxRecDepth 100000 in
theorem t7_note_b51 {p : Program} {l : Launch} {e : Env} {s : State} {m : MethodId} {args : Array Value} {below : List Frame} {meth : Method} {c : Code} {w : WV} {σ' : Mem} (S : CallFix p m c cX7_note 2 s args gtbl RX7) (hr : meth.sig.returnType = none) (hlk : meth.locks = false) (hK : KS LM w s) : ∀ (n : Nat), ∀ (σ : Mem) (x1 : Int32), f7_note_b51  n σ x1 = some σ' → ∀ (H : Heap) (locs : List Loc), Rp EM LM w σ H → va_S (AW LM w) s.heap H locs → ∀ (ls : Array Slot), lv_has ls 2 [(0, .ref (w.2.2 0)), (1, .int x1)] → W p l e rm7_note s m args below meth c H locs 0 0 (MQ below (Qw EM LM w σ' none) args s 0 0 (AW LM w)) (F0 m 51 ls []) := by
  obtain ⟨hx, hb, hml, hown, hts⟩ := id S
  intro n
  induction n with
  | zero =>
    intro σ x1 h0
    cases (show none = _ from h0)
  | succ n ih =>
    intro σ x1 h0 H locs hR hS ls hl
    rw [f7_note_b51] at h0
    refine lv_iload_n hx hb d7_note_51 rfl (lv_at hl 1 rfl) ?_
    refine lv_bipush (v := 19) hx hb d7_note_52 (by decide) ?_
    refine lv_icmp_ge (tgt := 83) hx hb d7_note_54 (by decide) (fun hc1 => ?_) (fun hc1 => ?_)
    · have h0 := og_t hc1 h0
      refine lv_aload_n hx hb d7_note_83 rfl (lv_at hl 0 rfl) ?_
      refine lv_dup hx hb d7_note_84 rfl ?_
      refine g7_159 S hK hR d7_note_85 ?_
      refine lv_iconst (v := 1) hx hb d7_note_88 (by decide) ?_
      refine lv_iadd hx hb d7_note_89 ?_
      obtain ⟨σ2, hm2, h0⟩ := og_m h0
      refine u7_159 S hK hR hS hm2 d7_note_90 (fun H locs hR hS => ?_)
      exact q_vret S hr hlk hR hS h0 d7_note_93
    · have h0 := og_f hc1 h0
      refine lv_aload_n hx hb d7_note_57 rfl (lv_at hl 0 rfl) ?_
      refine g7_58 S hK hR d7_note_58 ?_
      refine lv_bipush (v := 19) hx hb d7_note_61 (by decide) ?_
      refine lv_aload_n hx hb d7_note_63 rfl (lv_at hl 0 rfl) ?_
      refine g7_159 S hK hR d7_note_64 ?_
      refine lv_imul hx hb d7_note_67 ?_
      refine lv_iload_n hx hb d7_note_68 rfl (lv_at hl 1 rfl) ?_
      refine lv_iadd hx hb d7_note_69 ?_
      refine lv_aload_n hx hb d7_note_70 rfl (lv_at hl 0 rfl) ?_
      refine g7_55 S hK hR d7_note_71 ?_
      refine lv_iload_n hx hb d7_note_74 rfl (lv_at hl 1 rfl) ?_
      obtain ⟨hi2, h0⟩ := og_if h0
      refine q_ld (k := x1.toNatClampNeg) S hK hR (by decide) (eM_116 w _) hi2 rfl d7_note_75 ?_
      obtain ⟨hi3, h0⟩ := og_if h0
      obtain ⟨σ4, hm4, h0⟩ := og_m h0
      refine q_st S hK hR hS (by decide) (eM_117 w) hi3 rfl hm4 d7_note_76 (fun H locs hR hS => ?_)
      refine lv_iinc (v := x1 + 1) (lv' := [(1, .int (x1 + 1)), (0, .ref (w.2.2 0))]) hx hb d7_note_77 hl (k := 1) rfl (ii1 _) (by decide) rfl (fun ls hl => ?_)
      refine lv_goto (tgt := 51) hx hb d7_note_80 (by decide) ?_
      exact ih σ4 (x1 + 1) h0 _ _ hR hS _ (lv_sub hl [1, 0] rfl)
def f7_note_b11 : Nat → Mem → Int32 → Option Mem
  | 0, _, _ => none
  | n + 1, σ, x1 => if 133 ≤ x1 then bm (mu σ 0 18 ((σ 0 18) - 1)) fun σ2 => f7_note_b51 1000 σ2 0 else if ¬ (19 + x1 < 0 ∨ 152 ≤ (19 + x1).toNatClampNeg) then if ¬ (x1 < 0 ∨ 152 ≤ x1.toNatClampNeg) then (bm (mu σ 18 x1.toNatClampNeg (σ 18 ((19 + x1).toNatClampNeg))) fun σ4 => f7_note_b11 n σ4 (x1 + 1)) else none else none
set_option maxHeartbeats 4000000 in
set_option maxRecDepth 100000 in
theorem t7_note_b11 {p : Program} {l : Launch} {e : Env} {s : State} {m : MethodId} {args : Array Value} {below : List Frame} {meth : Method} {c : Code} {w : WV} {σ' : Mem} (S : CallFix p m c cX7_note 2 s args gtbl RX7) (hr : meth.sig.returnType = none) (hlk : meth.locks = false) (hK : KS LM w s) : ∀ (n : Nat), ∀ (σ : Mem) (x1 : Int32), f7_note_b11  n σ x1 = some σ' → ∀ (H : Heap) (locs : List Loc), Rp EM LM w σ H → va_S (AW LM w) s.heap H locs → ∀ (ls : Array Slot), lv_has ls 2 [(0, .ref (w.2.2 0)), (1, .int x1)] → W p l e rm7_note s m args below meth c H locs 0 0 (MQ below (Qw EM LM w σ' none) args s 0 0 (AW LM w)) (F0 m 11 ls []) := by
  obtain ⟨hx, hb, hml, hown, hts⟩ := id S
  intro n
  induction n with
  | zero =>
    intro σ x1 h0
    cases (show none = _ from h0)
  | succ n ih =>
    intro σ x1 h0 H locs hR hS ls hl
    rw [f7_note_b11] at h0
    refine lv_iload_n hx hb d7_note_11 rfl (lv_at hl 1 rfl) ?_
    refine lv_sipush (v := 133) hx hb d7_note_12 (by decide) ?_
    refine lv_icmp_ge (tgt := 39) hx hb d7_note_15 (by decide) (fun hc1 => ?_) (fun hc1 => ?_)
    · have h0 := og_t hc1 h0
      refine lv_aload_n hx hb d7_note_39 rfl (lv_at hl 0 rfl) ?_
      refine lv_dup hx hb d7_note_40 rfl ?_
      refine g7_159 S hK hR d7_note_41 ?_
      refine lv_iconst (v := 1) hx hb d7_note_44 (by decide) ?_
      refine lv_isub hx hb d7_note_45 ?_
      obtain ⟨σ2, hm2, h0⟩ := og_m h0
      refine u7_159 S hK hR hS hm2 d7_note_46 (fun H locs hR hS => ?_)
      refine lv_iconst (v := 0) hx hb d7_note_49 (by decide) ?_
      refine lv_istore_n (lv' := [(1, .int 0), (0, .ref (w.2.2 0))]) hx hb d7_note_50 rfl hl (by decide) rfl (fun ls hl => ?_)
      exact t7_note_b51 S hr hlk hK 1000 σ2 0 h0 _ _ hR hS _ (lv_sub hl [1, 0] rfl)
    · have h0 := og_f hc1 h0
      refine lv_aload_n hx hb d7_note_18 rfl (lv_at hl 0 rfl) ?_
      refine g7_58 S hK hR d7_note_19 ?_
      refine lv_iload_n hx hb d7_note_22 rfl (lv_at hl 1 rfl) ?_
      refine lv_aload_n hx hb d7_note_23 rfl (lv_at hl 0 rfl) ?_
      refine g7_58 S hK hR d7_note_24 ?_
      refine lv_bipush (v := 19) hx hb d7_note_27 (by decide) ?_
      refine lv_iload_n hx hb d7_note_29 rfl (lv_at hl 1 rfl) ?_
      refine lv_iadd hx hb d7_note_30 ?_
      obtain ⟨hi2, h0⟩ := og_if h0
      refine q_ld (k := ((19 + x1).toNatClampNeg)) S hK hR (by decide) (eM_117 w _) hi2 rfl d7_note_31 ?_
      obtain ⟨hi3, h0⟩ := og_if h0
      obtain ⟨σ4, hm4, h0⟩ := og_m h0
      refine q_st S hK hR hS (by decide) (eM_117 w) hi3 rfl hm4 d7_note_32 (fun H locs hR hS => ?_)
      refine lv_iinc (v := x1 + 1) (lv' := [(1, .int (x1 + 1)), (0, .ref (w.2.2 0))]) hx hb d7_note_33 hl (k := 1) rfl (ii1 _) (by decide) rfl (fun ls hl => ?_)
      refine lv_goto (tgt := 11) hx hb d7_note_36 (by decide) ?_
      exact ih σ4 (x1 + 1) h0 _ _ hR hS _ (lv_sub hl [1, 0] rfl)
def f7_note (σ : Mem) : Option Mem := if (σ 0 18) = 8 then f7_note_b11 1000 σ 0 else f7_note_b51 1000 σ 0
set_option maxHeartbeats 4000000 in
set_option maxRecDepth 100000 in
theorem c7_note (l : Launch) {w : WV} {σ : Mem} {σ' : Mem} (h0 : f7_note σ = some σ') : Met l yX7_note (wy yX7_note cX7_note 2 none) rm7_note (Pw EM LM w [.ref (w.2.2 0)] σ) (Qw EM LM w σ' none) 0 0 (AW LM w) := by
  refine mk_met (by decide) (Nat.le_of_ble_eq_true rfl) ?_
  intro p e s m below meth c S hr hlk hK hR ls hl
  obtain ⟨hx, hb, hml, hown, hts⟩ := id S
  have hl : lv_has ls 2 [(0, .ref (w.2.2 0))] := hl
  have hS : va_S (AW LM w) s.heap s.heap [] := va_S.rf
  unfold f7_note at h0
  refine lv_aload_n hx hb d7_note_0 rfl (lv_at hl 0 rfl) ?_
  refine g7_159 S hK hR d7_note_1 ?_
  refine lv_bipush (v := 8) hx hb d7_note_4 (by decide) ?_
  refine lv_icmp_ne (tgt := 49) hx hb d7_note_6 (by decide) (fun hc1 => ?_) (fun hc1 => ?_)
  · have h0 := og_f hc1 h0
    refine lv_iconst (v := 0) hx hb d7_note_49 (by decide) ?_
    refine lv_istore_n (lv' := [(1, .int 0), (0, .ref (w.2.2 0))]) hx hb d7_note_50 rfl hl (by decide) rfl (fun ls hl => ?_)
    exact t7_note_b51 S hr hlk hK 1000 σ 0 h0 _ _ hR hS _ (lv_sub hl [1, 0] rfl)
  · have h0 := og_t hc1 h0
    refine lv_iconst (v := 0) hx hb d7_note_9 (by decide) ?_
    refine lv_istore_n (lv' := [(1, .int 0), (0, .ref (w.2.2 0))]) hx hb d7_note_10 rfl hl (by decide) rfl (fun ls hl => ?_)
    exact t7_note_b11 S hr hlk hK 1000 σ 0 h0 _ _ hR hS _ (lv_sub hl [1, 0] rfl)
set_option maxHeartbeats 4000000 in
set_option maxRecDepth 100000 in
theorem k7_263 {p : Program} {l : Launch} {e : Env} {R : Room} {s : State} {m : MethodId} {args : Array Value} {below : List Frame} {meth : Method} {c : Code} {H : Heap} {locs : List Loc} {cells slots : Nat} {Q : State → Prop} {cc : ByteArray} {pc nL : Nat} {ls : Array Slot} {rest : List Value} {w : WV} {σ : Mem} {σ1 : Mem} (S : CallFix p m c cc nL s args gtbl RX7) (hK : KS LM w s) (hR : Rp EM LM w σ H) (hS : va_S (AW LM w) s.heap H locs) (h0 : f7_note σ = some σ1) (hf : cells + 0 ≤ R.cells ∧ slots + 0 ≤ R.slots) (hRm : rm7_note.frames + 1 ≤ R.frames ∧ 8 + (2 + 11) + rm7_note.locals ≤ R.locals) (hl : ls.size = nL) (hW : (rest.map fun v => v.category).sum ≤ 8) (hdg : decode cc pc = .ok (.invokevirtual 263, 3)) (kk : ∀ (H1 : Heap) (locs1 : List Loc), Rp EM LM w σ1 H1 → va_S (AW LM w) s.heap H1 locs1 → W p l e R s m args below meth c H1 locs1 cells slots Q (F0 m (pc + 3) ls (rest))) : W p l e R s m args below meth c H locs cells slots Q (F0 m pc ls (.ref (w.2.2 0) :: rest)) := r_end hS (run_V (n := 0) (As := []) S hK hR (by decide) (eM_7 w _) rfl (gw_V (gt_at 1208 (by decide +kernel) (by decide +kernel)) (gt_at 1210 (by decide +kernel) (by decide +kernel)) (gt_at 72 (by decide +kernel) (by decide +kernel)) (gt_at 86 (by decide +kernel) (by decide +kernel)) (gt_at 1211 (by decide +kernel) (by decide +kernel))) (by decide +kernel) rfl (c7_note l h0) ⟨rfl, rfl⟩ hRm hf hl rfl hW hdg) kk
/-! FourTenGatesModel.late(II)I -/
abbrev rm7_late : Room := { frames := 2, cells := 0, slots := 0, locals := 46 }
theorem d7_late_0 : decode cX7_late 0 = .ok (.aload_n 0, 1) := by decide +kernel
theorem d7_late_1 : decode cX7_late 1 = .ok (.iload_n 1, 1) := by decide +kernel
theorem d7_late_2 : decode cX7_late 2 = .ok (.invokevirtual 173, 3) := by decide +kernel
theorem d7_late_5 : decode cX7_late 5 = .ok (.ifCond .eq 15, 3) := by decide +kernel
theorem d7_late_8 : decode cX7_late 8 = .ok (.iload_n 2, 1) := by decide +kernel
theorem d7_late_9 : decode cX7_late 9 = .ok (.i2l, 1) := by decide +kernel
theorem d7_late_10 : decode cX7_late 10 = .ok (.lconst 0, 1) := by decide +kernel
theorem d7_late_11 : decode cX7_late 11 = .ok (.ldc2_w 261, 3) := by decide +kernel
theorem d7_late_14 : decode cX7_late 14 = .ok (.invokestatic 113, 3) := by decide +kernel
theorem d7_late_17 : decode cX7_late 17 = .ok (.ifCond .ne 5, 3) := by decide +kernel
theorem d7_late_20 : decode cX7_late 20 = .ok (.iconst (-1), 1) := by decide +kernel
theorem d7_late_21 : decode cX7_late 21 = .ok (.ireturn, 1) := by decide +kernel
theorem d7_late_22 : decode cX7_late 22 = .ok (.aload_n 0, 1) := by decide +kernel
theorem d7_late_23 : decode cX7_late 23 = .ok (.invokevirtual 263, 3) := by decide +kernel
theorem d7_late_26 : decode cX7_late 26 = .ok (.aload_n 0, 1) := by decide +kernel
theorem d7_late_27 : decode cX7_late 27 = .ok (.getfield 55, 3) := by decide +kernel
theorem d7_late_30 : decode cX7_late 30 = .ok (.iload_n 1, 1) := by decide +kernel
theorem d7_late_31 : decode cX7_late 31 = .ok (.iaload, 1) := by decide +kernel
theorem d7_late_32 : decode cX7_late 32 = .ok (.istore_n 3, 1) := by decide +kernel
theorem d7_late_33 : decode cX7_late 33 = .ok (.aload_n 0, 1) := by decide +kernel
theorem d7_late_34 : decode cX7_late 34 = .ok (.getfield 55, 3) := by decide +kernel
theorem d7_late_37 : decode cX7_late 37 = .ok (.iload_n 1, 1) := by decide +kernel
theorem d7_late_38 : decode cX7_late 38 = .ok (.iload_n 2, 1) := by decide +kernel
theorem d7_late_39 : decode cX7_late 39 = .ok (.iastore, 1) := by decide +kernel
theorem d7_late_40 : decode cX7_late 40 = .ok (.iload_n 3, 1) := by decide +kernel
theorem d7_late_41 : decode cX7_late 41 = .ok (.ireturn, 1) := by decide +kernel
def f7_late (σ : Mem) (x1 : Int32) (x2 : Int32) : Option (Mem × Int32) := Option.bind (f7_isTrain σ x1) fun r1 => if r1 = 0 then some (σ, (-1)) else Option.bind (f7_in x2.toInt64 (0 : Int64) (30 : Int64)) fun r3 => if r3 = 0 then some (σ, (-1)) else Option.bind (f7_note σ) fun σ5 => if ¬ (x1 < 0 ∨ 19 ≤ x1.toNatClampNeg) then if ¬ (x1 < 0 ∨ 19 ≤ x1.toNatClampNeg) then (bm (mu σ5 17 x1.toNatClampNeg x2) fun σ8 => some (σ8, σ5 17 x1.toNatClampNeg)) else none else none
set_option maxHeartbeats 4000000 in
set_option maxRecDepth 100000 in
theorem c7_late (l : Launch) {w : WV} {σ : Mem} {x1 : Int32} {x2 : Int32} {σ' : Mem} {r : Int32} (h0 : f7_late σ x1 x2 = some (σ', r)) : Met l yX7_late (wy yX7_late cX7_late 4 (some .int)) rm7_late (Pw EM LM w [.ref (w.2.2 0), .int x1, .int x2] σ) (Qw EM LM w σ' (some (.int r))) 0 0 (AW LM w) := by
  refine mk_met (by decide) (Nat.le_of_ble_eq_true rfl) ?_
  intro p e s m below meth c S hr hlk hK hR ls hl
  obtain ⟨hx, hb, hml, hown, hts⟩ := id S
  have hl : lv_has ls 4 [(0, .ref (w.2.2 0)), (1, .int x1), (2, .int x2)] := hl
  have hS : va_S (AW LM w) s.heap s.heap [] := va_S.rf
  unfold f7_late at h0
  refine lv_aload_n hx hb d7_late_0 rfl (lv_at hl 0 rfl) ?_
  refine lv_iload_n hx hb d7_late_1 rfl (lv_at hl 1 rfl) ?_
  obtain ⟨r1, hr1, h0⟩ := og_b h0
  refine k7_173 S hK hR  hr1 ⟨Nat.zero_le _, Nat.zero_le _⟩ ⟨Nat.le_of_ble_eq_true rfl, Nat.le_of_ble_eq_true rfl⟩ hl.1 (Nat.le_of_ble_eq_true rfl) d7_late_2 ?_
  refine lv_if_eq (tgt := 20) hx hb d7_late_5 (by decide) (fun hc2 => ?_) (fun hc2 => ?_)
  · have h0 := og_t hc2 h0
    refine lv_iconst (v := (-1)) hx hb d7_late_20 (by decide) ?_
    exact q_iret S hr hlk hR hS h0 d7_late_21
  · have h0 := og_f hc2 h0
    refine lv_iload_n hx hb d7_late_8 rfl (lv_at hl 2 rfl) ?_
    refine lv_i2l hx hb d7_late_9 rfl ?_
    refine lv_lconst (v := 0) hx hb d7_late_10 (by decide) ?_
    refine lv_ldc2 (v := 30) hx hb hown (hts _ (gt_at 1207 (by decide +kernel) (by decide +kernel))) d7_late_11 ?_
    obtain ⟨r3, hr3, h0⟩ := og_b h0
    refine k7_113 S  hr3 ⟨Nat.zero_le _, Nat.zero_le _⟩ ⟨Nat.le_of_ble_eq_true rfl, Nat.le_of_ble_eq_true rfl⟩ hl.1 (Nat.le_of_ble_eq_true rfl) d7_late_14 ?_
    refine lv_if_ne (tgt := 22) hx hb d7_late_17 (by decide) (fun hc4 => ?_) (fun hc4 => ?_)
    · have h0 := og_f hc4 h0
      refine lv_aload_n hx hb d7_late_22 rfl (lv_at hl 0 rfl) ?_
      obtain ⟨σ5, hr5, h0⟩ := og_b h0
      refine k7_263 S hK hR hS  hr5 ⟨Nat.zero_le _, Nat.zero_le _⟩ ⟨Nat.le_of_ble_eq_true rfl, Nat.le_of_ble_eq_true rfl⟩ hl.1 (Nat.le_of_ble_eq_true rfl) d7_late_23 (fun H locs hR hS => ?_)
      refine lv_aload_n hx hb d7_late_26 rfl (lv_at hl 0 rfl) ?_
      refine g7_55 S hK hR d7_late_27 ?_
      refine lv_iload_n hx hb d7_late_30 rfl (lv_at hl 1 rfl) ?_
      obtain ⟨hi6, h0⟩ := og_if h0
      refine q_ld (k := x1.toNatClampNeg) S hK hR (by decide) (eM_116 w _) hi6 rfl d7_late_31 ?_
      refine lv_istore_n (lv' := [(3, .int (σ5 17 x1.toNatClampNeg)), (0, .ref (w.2.2 0)), (1, .int x1), (2, .int x2)]) hx hb d7_late_32 rfl hl (by decide) rfl (fun ls hl => ?_)
      refine lv_aload_n hx hb d7_late_33 rfl (lv_at hl 1 rfl) ?_
      refine g7_55 S hK hR d7_late_34 ?_
      refine lv_iload_n hx hb d7_late_37 rfl (lv_at hl 2 rfl) ?_
      refine lv_iload_n hx hb d7_late_38 rfl (lv_at hl 3 rfl) ?_
      obtain ⟨hi7, h0⟩ := og_if h0
      obtain ⟨σ8, hm8, h0⟩ := og_m h0
      refine q_st S hK hR hS (by decide) (eM_116 w) hi7 rfl hm8 d7_late_39 (fun H locs hR hS => ?_)
      refine lv_iload_n hx hb d7_late_40 rfl (lv_at hl 0 rfl) ?_
      exact q_iret S hr hlk hR hS h0 d7_late_41
    · have h0 := og_t hc4 h0
      refine lv_iconst (v := (-1)) hx hb d7_late_20 (by decide) ?_
      exact q_iret S hr hlk hR hS h0 d7_late_21
/-! FourTenGatesModel.shut(II)I -/
abbrev rm7_shut : Room := { frames := 1, cells := 0, slots := 0, locals := 25 }
theorem d7_shut_0 : decode cX7_shut 0 = .ok (.iload_n 1, 1) := by decide +kernel
theorem d7_shut_1 : decode cX7_shut 1 = .ok (.i2l, 1) := by decide +kernel
theorem d7_shut_2 : decode cX7_shut 2 = .ok (.lconst 0, 1) := by decide +kernel
theorem d7_shut_3 : decode cX7_shut 3 = .ok (.ldc2_w 266, 3) := by decide +kernel
theorem d7_shut_6 : decode cX7_shut 6 = .ok (.invokestatic 113, 3) := by decide +kernel
theorem d7_shut_9 : decode cX7_shut 9 = .ok (.ifCond .eq 18, 3) := by decide +kernel
theorem d7_shut_12 : decode cX7_shut 12 = .ok (.iload_n 2, 1) := by decide +kernel
theorem d7_shut_13 : decode cX7_shut 13 = .ok (.i2l, 1) := by decide +kernel
theorem d7_shut_14 : decode cX7_shut 14 = .ok (.iload_n 1, 1) := by decide +kernel
theorem d7_shut_15 : decode cX7_shut 15 = .ok (.iconst 1, 1) := by decide +kernel
theorem d7_shut_16 : decode cX7_shut 16 = .ok (.iadd, 1) := by decide +kernel
theorem d7_shut_17 : decode cX7_shut 17 = .ok (.i2l, 1) := by decide +kernel
theorem d7_shut_18 : decode cX7_shut 18 = .ok (.ldc2_w 268, 3) := by decide +kernel
theorem d7_shut_21 : decode cX7_shut 21 = .ok (.invokestatic 113, 3) := by decide +kernel
theorem d7_shut_24 : decode cX7_shut 24 = .ok (.ifCond .ne 5, 3) := by decide +kernel
theorem d7_shut_27 : decode cX7_shut 27 = .ok (.iconst (-1), 1) := by decide +kernel
theorem d7_shut_28 : decode cX7_shut 28 = .ok (.ireturn, 1) := by decide +kernel
theorem d7_shut_29 : decode cX7_shut 29 = .ok (.aload_n 0, 1) := by decide +kernel
theorem d7_shut_30 : decode cX7_shut 30 = .ok (.getfield 55, 3) := by decide +kernel
theorem d7_shut_33 : decode cX7_shut 33 = .ok (.bipush 6, 2) := by decide +kernel
theorem d7_shut_35 : decode cX7_shut 35 = .ok (.iaload, 1) := by decide +kernel
theorem d7_shut_36 : decode cX7_shut 36 = .ok (.bipush 6, 2) := by decide +kernel
theorem d7_shut_38 : decode cX7_shut 38 = .ok (.if_icmp .ne 6, 3) := by decide +kernel
theorem d7_shut_41 : decode cX7_shut 41 = .ok (.bipush (-3), 2) := by decide +kernel
theorem d7_shut_43 : decode cX7_shut 43 = .ok (.ireturn, 1) := by decide +kernel
theorem d7_shut_44 : decode cX7_shut 44 = .ok (.aload_n 0, 1) := by decide +kernel
theorem d7_shut_45 : decode cX7_shut 45 = .ok (.invokevirtual 263, 3) := by decide +kernel
theorem d7_shut_48 : decode cX7_shut 48 = .ok (.aload_n 0, 1) := by decide +kernel
theorem d7_shut_49 : decode cX7_shut 49 = .ok (.getfield 55, 3) := by decide +kernel
theorem d7_shut_52 : decode cX7_shut 52 = .ok (.bipush 7, 2) := by decide +kernel
theorem d7_shut_54 : decode cX7_shut 54 = .ok (.aload_n 0, 1) := by decide +kernel
theorem d7_shut_55 : decode cX7_shut 55 = .ok (.getfield 55, 3) := by decide +kernel
theorem d7_shut_58 : decode cX7_shut 58 = .ok (.bipush 6, 2) := by decide +kernel
theorem d7_shut_60 : decode cX7_shut 60 = .ok (.iaload, 1) := by decide +kernel
theorem d7_shut_61 : decode cX7_shut 61 = .ok (.iadd, 1) := by decide +kernel
theorem d7_shut_62 : decode cX7_shut 62 = .ok (.iload_n 1, 1) := by decide +kernel
theorem d7_shut_63 : decode cX7_shut 63 = .ok (.iastore, 1) := by decide +kernel
theorem d7_shut_64 : decode cX7_shut 64 = .ok (.aload_n 0, 1) := by decide +kernel
theorem d7_shut_65 : decode cX7_shut 65 = .ok (.getfield 55, 3) := by decide +kernel
theorem d7_shut_68 : decode cX7_shut 68 = .ok (.bipush 13, 2) := by decide +kernel
theorem d7_shut_70 : decode cX7_shut 70 = .ok (.aload_n 0, 1) := by decide +kernel
theorem d7_shut_71 : decode cX7_shut 71 = .ok (.getfield 55, 3) := by decide +kernel
theorem d7_shut_74 : decode cX7_shut 74 = .ok (.bipush 6, 2) := by decide +kernel
theorem d7_shut_76 : decode cX7_shut 76 = .ok (.iaload, 1) := by decide +kernel
theorem d7_shut_77 : decode cX7_shut 77 = .ok (.iadd, 1) := by decide +kernel
theorem d7_shut_78 : decode cX7_shut 78 = .ok (.iload_n 2, 1) := by decide +kernel
theorem d7_shut_79 : decode cX7_shut 79 = .ok (.iastore, 1) := by decide +kernel
theorem d7_shut_80 : decode cX7_shut 80 = .ok (.aload_n 0, 1) := by decide +kernel
theorem d7_shut_81 : decode cX7_shut 81 = .ok (.getfield 55, 3) := by decide +kernel
theorem d7_shut_84 : decode cX7_shut 84 = .ok (.bipush 6, 2) := by decide +kernel
theorem d7_shut_86 : decode cX7_shut 86 = .ok (.dup2, 1) := by decide +kernel
theorem d7_shut_87 : decode cX7_shut 87 = .ok (.iaload, 1) := by decide +kernel
theorem d7_shut_88 : decode cX7_shut 88 = .ok (.iconst 1, 1) := by decide +kernel
theorem d7_shut_89 : decode cX7_shut 89 = .ok (.iadd, 1) := by decide +kernel
theorem d7_shut_90 : decode cX7_shut 90 = .ok (.iastore, 1) := by decide +kernel
theorem d7_shut_91 : decode cX7_shut 91 = .ok (.aload_n 0, 1) := by decide +kernel
theorem d7_shut_92 : decode cX7_shut 92 = .ok (.getfield 55, 3) := by decide +kernel
theorem d7_shut_95 : decode cX7_shut 95 = .ok (.bipush 6, 2) := by decide +kernel
theorem d7_shut_97 : decode cX7_shut 97 = .ok (.iaload, 1) := by decide +kernel
theorem d7_shut_98 : decode cX7_shut 98 = .ok (.ireturn, 1) := by decide +kernel
def f7_shut (σ : Mem) (x1 : Int32) (x2 : Int32) : Option (Mem × Int32) := Option.bind (f7_in x1.toInt64 (0 : Int64) (59 : Int64)) fun r1 => if r1 = 0 then some (σ, (-1)) else Option.bind (f7_in x2.toInt64 ((x1 + 1).toInt64) (60 : Int64)) fun r3 => if r3 = 0 then some (σ, (-1)) else if (σ 17 6) = 6 then some (σ, (-3)) else Option.bind (f7_note σ) fun σ6 => if ¬ (7 + (σ6 17 6) < 0 ∨ 19 ≤ (7 + (σ6 17 6)).toNatClampNeg) then (bm (mu σ6 17 ((7 + (σ6 17 6)).toNatClampNeg) x1) fun σ8 => if ¬ (13 + (σ8 17 6) < 0 ∨ 19 ≤ (13 + (σ8 17 6)).toNatClampNeg) then (bm (mu σ8 17 ((13 + (σ8 17 6)).toNatClampNeg) x2) fun σ10 => bm (mu σ10 17 6 ((σ10 17 6) + 1)) fun σ11 => some (σ11, σ11 17 6)) else none) else none
set_option maxHeartbeats 4000000 in
set_option maxRecDepth 100000 in
theorem c7_shut (l : Launch) {w : WV} {σ : Mem} {x1 : Int32} {x2 : Int32} {σ' : Mem} {r : Int32} (h0 : f7_shut σ x1 x2 = some (σ', r)) : Met l yX7_shut (wy yX7_shut cX7_shut 3 (some .int)) rm7_shut (Pw EM LM w [.ref (w.2.2 0), .int x1, .int x2] σ) (Qw EM LM w σ' (some (.int r))) 0 0 (AW LM w) := by
  refine mk_met (by decide) (Nat.le_of_ble_eq_true rfl) ?_
  intro p e s m below meth c S hr hlk hK hR ls hl
  obtain ⟨hx, hb, hml, hown, hts⟩ := id S
  have hl : lv_has ls 3 [(0, .ref (w.2.2 0)), (1, .int x1), (2, .int x2)] := hl
  have hS : va_S (AW LM w) s.heap s.heap [] := va_S.rf
  unfold f7_shut at h0
  refine lv_iload_n hx hb d7_shut_0 rfl (lv_at hl 1 rfl) ?_
  refine lv_i2l hx hb d7_shut_1 rfl ?_
  refine lv_lconst (v := 0) hx hb d7_shut_2 (by decide) ?_
  refine lv_ldc2 (v := 59) hx hb hown (hts _ (gt_at 1216 (by decide +kernel) (by decide +kernel))) d7_shut_3 ?_
  obtain ⟨r1, hr1, h0⟩ := og_b h0
  refine k7_113 S  hr1 ⟨Nat.zero_le _, Nat.zero_le _⟩ ⟨Nat.le_of_ble_eq_true rfl, Nat.le_of_ble_eq_true rfl⟩ hl.1 (Nat.le_of_ble_eq_true rfl) d7_shut_6 ?_
  refine lv_if_eq (tgt := 27) hx hb d7_shut_9 (by decide) (fun hc2 => ?_) (fun hc2 => ?_)
  · have h0 := og_t hc2 h0
    refine lv_iconst (v := (-1)) hx hb d7_shut_27 (by decide) ?_
    exact q_iret S hr hlk hR hS h0 d7_shut_28
  · have h0 := og_f hc2 h0
    refine lv_iload_n hx hb d7_shut_12 rfl (lv_at hl 2 rfl) ?_
    refine lv_i2l hx hb d7_shut_13 rfl ?_
    refine lv_iload_n hx hb d7_shut_14 rfl (lv_at hl 1 rfl) ?_
    refine lv_iconst (v := 1) hx hb d7_shut_15 (by decide) ?_
    refine lv_iadd hx hb d7_shut_16 ?_
    refine lv_i2l hx hb d7_shut_17 rfl ?_
    refine lv_ldc2 (v := 60) hx hb hown (hts _ (gt_at 1217 (by decide +kernel) (by decide +kernel))) d7_shut_18 ?_
    obtain ⟨r3, hr3, h0⟩ := og_b h0
    refine k7_113 S  hr3 ⟨Nat.zero_le _, Nat.zero_le _⟩ ⟨Nat.le_of_ble_eq_true rfl, Nat.le_of_ble_eq_true rfl⟩ hl.1 (Nat.le_of_ble_eq_true rfl) d7_shut_21 ?_
    refine lv_if_ne (tgt := 29) hx hb d7_shut_24 (by decide) (fun hc4 => ?_) (fun hc4 => ?_)
    · have h0 := og_f hc4 h0
      refine lv_aload_n hx hb d7_shut_29 rfl (lv_at hl 0 rfl) ?_
      refine g7_55 S hK hR d7_shut_30 ?_
      refine lv_bipush (v := 6) hx hb d7_shut_33 (by decide) ?_
      refine q_ld (k := 6) S hK hR (by decide) (eM_116 w _) (vin (by decide)) (by decide) d7_shut_35 ?_
      refine lv_bipush (v := 6) hx hb d7_shut_36 (by decide) ?_
      refine lv_icmp_ne (tgt := 44) hx hb d7_shut_38 (by decide) (fun hc5 => ?_) (fun hc5 => ?_)
      · have h0 := og_f hc5 h0
        refine lv_aload_n hx hb d7_shut_44 rfl (lv_at hl 0 rfl) ?_
        obtain ⟨σ6, hr6, h0⟩ := og_b h0
        refine k7_263 S hK hR hS  hr6 ⟨Nat.zero_le _, Nat.zero_le _⟩ ⟨Nat.le_of_ble_eq_true rfl, Nat.le_of_ble_eq_true rfl⟩ hl.1 (Nat.le_of_ble_eq_true rfl) d7_shut_45 (fun H locs hR hS => ?_)
        refine lv_aload_n hx hb d7_shut_48 rfl (lv_at hl 0 rfl) ?_
        refine g7_55 S hK hR d7_shut_49 ?_
        refine lv_bipush (v := 7) hx hb d7_shut_52 (by decide) ?_
        refine lv_aload_n hx hb d7_shut_54 rfl (lv_at hl 0 rfl) ?_
        refine g7_55 S hK hR d7_shut_55 ?_
        refine lv_bipush (v := 6) hx hb d7_shut_58 (by decide) ?_
        refine q_ld (k := 6) S hK hR (by decide) (eM_116 w _) (vin (by decide)) (by decide) d7_shut_60 ?_
        refine lv_iadd hx hb d7_shut_61 ?_
        refine lv_iload_n hx hb d7_shut_62 rfl (lv_at hl 1 rfl) ?_
        obtain ⟨hi7, h0⟩ := og_if h0
        obtain ⟨σ8, hm8, h0⟩ := og_m h0
        refine q_st S hK hR hS (by decide) (eM_116 w) hi7 rfl hm8 d7_shut_63 (fun H locs hR hS => ?_)
        refine lv_aload_n hx hb d7_shut_64 rfl (lv_at hl 0 rfl) ?_
        refine g7_55 S hK hR d7_shut_65 ?_
        refine lv_bipush (v := 13) hx hb d7_shut_68 (by decide) ?_
        refine lv_aload_n hx hb d7_shut_70 rfl (lv_at hl 0 rfl) ?_
        refine g7_55 S hK hR d7_shut_71 ?_
        refine lv_bipush (v := 6) hx hb d7_shut_74 (by decide) ?_
        refine q_ld (k := 6) S hK hR (by decide) (eM_116 w _) (vin (by decide)) (by decide) d7_shut_76 ?_
        refine lv_iadd hx hb d7_shut_77 ?_
        refine lv_iload_n hx hb d7_shut_78 rfl (lv_at hl 2 rfl) ?_
        obtain ⟨hi9, h0⟩ := og_if h0
        obtain ⟨σ10, hm10, h0⟩ := og_m h0
        refine q_st S hK hR hS (by decide) (eM_116 w) hi9 rfl hm10 d7_shut_79 (fun H locs hR hS => ?_)
        refine lv_aload_n hx hb d7_shut_80 rfl (lv_at hl 0 rfl) ?_
        refine g7_55 S hK hR d7_shut_81 ?_
        refine lv_bipush (v := 6) hx hb d7_shut_84 (by decide) ?_
        refine lv_dup2_11 hx hb d7_shut_86 rfl rfl ?_
        refine q_ld (k := 6) S hK hR (by decide) (eM_116 w _) (vin (by decide)) (by decide) d7_shut_87 ?_
        refine lv_iconst (v := 1) hx hb d7_shut_88 (by decide) ?_
        refine lv_iadd hx hb d7_shut_89 ?_
        obtain ⟨σ11, hm11, h0⟩ := og_m h0
        refine q_st S hK hR hS (by decide) (eM_116 w) (vin (by decide)) (by decide) hm11 d7_shut_90 (fun H locs hR hS => ?_)
        refine lv_aload_n hx hb d7_shut_91 rfl (lv_at hl 0 rfl) ?_
        refine g7_55 S hK hR d7_shut_92 ?_
        refine lv_bipush (v := 6) hx hb d7_shut_95 (by decide) ?_
        refine q_ld (k := 6) S hK hR (by decide) (eM_116 w _) (vin (by decide)) (by decide) d7_shut_97 ?_
        exact q_iret S hr hlk hR hS h0 d7_shut_98
      · have h0 := og_t hc5 h0
        refine lv_bipush (v := (-3)) hx hb d7_shut_41 (by decide) ?_
        exact q_iret S hr hlk hR hS h0 d7_shut_43
    · have h0 := og_t hc4 h0
      refine lv_iconst (v := (-1)) hx hb d7_shut_27 (by decide) ?_
      exact q_iret S hr hlk hR hS h0 d7_shut_28
/-! FourTenGatesModel.leave(I)I -/
abbrev rm7_leave : Room := { frames := 1, cells := 0, slots := 0, locals := 25 }
theorem d7_leave_0 : decode cX7_leave 0 = .ok (.iload_n 1, 1) := by decide +kernel
theorem d7_leave_1 : decode cX7_leave 1 = .ok (.i2l, 1) := by decide +kernel
theorem d7_leave_2 : decode cX7_leave 2 = .ok (.lconst 0, 1) := by decide +kernel
theorem d7_leave_3 : decode cX7_leave 3 = .ok (.aload_n 0, 1) := by decide +kernel
theorem d7_leave_4 : decode cX7_leave 4 = .ok (.getfield 55, 3) := by decide +kernel
theorem d7_leave_7 : decode cX7_leave 7 = .ok (.bipush 6, 2) := by decide +kernel
theorem d7_leave_9 : decode cX7_leave 9 = .ok (.iaload, 1) := by decide +kernel
theorem d7_leave_10 : decode cX7_leave 10 = .ok (.iconst 1, 1) := by decide +kernel
theorem d7_leave_11 : decode cX7_leave 11 = .ok (.isub, 1) := by decide +kernel
theorem d7_leave_12 : decode cX7_leave 12 = .ok (.i2l, 1) := by decide +kernel
theorem d7_leave_13 : decode cX7_leave 13 = .ok (.invokestatic 113, 3) := by decide +kernel
theorem d7_leave_16 : decode cX7_leave 16 = .ok (.ifCond .ne 5, 3) := by decide +kernel
theorem d7_leave_19 : decode cX7_leave 19 = .ok (.iconst (-1), 1) := by decide +kernel
theorem d7_leave_20 : decode cX7_leave 20 = .ok (.ireturn, 1) := by decide +kernel
theorem d7_leave_21 : decode cX7_leave 21 = .ok (.aload_n 0, 1) := by decide +kernel
theorem d7_leave_22 : decode cX7_leave 22 = .ok (.invokevirtual 263, 3) := by decide +kernel
theorem d7_leave_25 : decode cX7_leave 25 = .ok (.aload_n 0, 1) := by decide +kernel
theorem d7_leave_26 : decode cX7_leave 26 = .ok (.getfield 55, 3) := by decide +kernel
theorem d7_leave_29 : decode cX7_leave 29 = .ok (.bipush 6, 2) := by decide +kernel
theorem d7_leave_31 : decode cX7_leave 31 = .ok (.dup2, 1) := by decide +kernel
theorem d7_leave_32 : decode cX7_leave 32 = .ok (.iaload, 1) := by decide +kernel
theorem d7_leave_33 : decode cX7_leave 33 = .ok (.iconst 1, 1) := by decide +kernel
theorem d7_leave_34 : decode cX7_leave 34 = .ok (.isub, 1) := by decide +kernel
theorem d7_leave_35 : decode cX7_leave 35 = .ok (.iastore, 1) := by decide +kernel
theorem d7_leave_36 : decode cX7_leave 36 = .ok (.iload_n 1, 1) := by decide +kernel
theorem d7_leave_37 : decode cX7_leave 37 = .ok (.istore_n 2, 1) := by decide +kernel
theorem d7_leave_38 : decode cX7_leave 38 = .ok (.iload_n 2, 1) := by decide +kernel
theorem d7_leave_39 : decode cX7_leave 39 = .ok (.aload_n 0, 1) := by decide +kernel
theorem d7_leave_40 : decode cX7_leave 40 = .ok (.getfield 55, 3) := by decide +kernel
theorem d7_leave_43 : decode cX7_leave 43 = .ok (.bipush 6, 2) := by decide +kernel
theorem d7_leave_45 : decode cX7_leave 45 = .ok (.iaload, 1) := by decide +kernel
theorem d7_leave_46 : decode cX7_leave 46 = .ok (.if_icmp .ge 45, 3) := by decide +kernel
theorem d7_leave_49 : decode cX7_leave 49 = .ok (.aload_n 0, 1) := by decide +kernel
theorem d7_leave_50 : decode cX7_leave 50 = .ok (.getfield 55, 3) := by decide +kernel
theorem d7_leave_53 : decode cX7_leave 53 = .ok (.bipush 7, 2) := by decide +kernel
theorem d7_leave_55 : decode cX7_leave 55 = .ok (.iload_n 2, 1) := by decide +kernel
theorem d7_leave_56 : decode cX7_leave 56 = .ok (.iadd, 1) := by decide +kernel
theorem d7_leave_57 : decode cX7_leave 57 = .ok (.aload_n 0, 1) := by decide +kernel
theorem d7_leave_58 : decode cX7_leave 58 = .ok (.getfield 55, 3) := by decide +kernel
theorem d7_leave_61 : decode cX7_leave 61 = .ok (.bipush 8, 2) := by decide +kernel
theorem d7_leave_63 : decode cX7_leave 63 = .ok (.iload_n 2, 1) := by decide +kernel
theorem d7_leave_64 : decode cX7_leave 64 = .ok (.iadd, 1) := by decide +kernel
theorem d7_leave_65 : decode cX7_leave 65 = .ok (.iaload, 1) := by decide +kernel
theorem d7_leave_66 : decode cX7_leave 66 = .ok (.iastore, 1) := by decide +kernel
theorem d7_leave_67 : decode cX7_leave 67 = .ok (.aload_n 0, 1) := by decide +kernel
theorem d7_leave_68 : decode cX7_leave 68 = .ok (.getfield 55, 3) := by decide +kernel
theorem d7_leave_71 : decode cX7_leave 71 = .ok (.bipush 13, 2) := by decide +kernel
theorem d7_leave_73 : decode cX7_leave 73 = .ok (.iload_n 2, 1) := by decide +kernel
theorem d7_leave_74 : decode cX7_leave 74 = .ok (.iadd, 1) := by decide +kernel
theorem d7_leave_75 : decode cX7_leave 75 = .ok (.aload_n 0, 1) := by decide +kernel
theorem d7_leave_76 : decode cX7_leave 76 = .ok (.getfield 55, 3) := by decide +kernel
theorem d7_leave_79 : decode cX7_leave 79 = .ok (.bipush 14, 2) := by decide +kernel
theorem d7_leave_81 : decode cX7_leave 81 = .ok (.iload_n 2, 1) := by decide +kernel
theorem d7_leave_82 : decode cX7_leave 82 = .ok (.iadd, 1) := by decide +kernel
theorem d7_leave_83 : decode cX7_leave 83 = .ok (.iaload, 1) := by decide +kernel
theorem d7_leave_84 : decode cX7_leave 84 = .ok (.iastore, 1) := by decide +kernel
theorem d7_leave_85 : decode cX7_leave 85 = .ok (.iinc 2 1, 3) := by decide +kernel
theorem d7_leave_88 : decode cX7_leave 88 = .ok (.goto (-50), 3) := by decide +kernel
theorem d7_leave_91 : decode cX7_leave 91 = .ok (.aload_n 0, 1) := by decide +kernel
theorem d7_leave_92 : decode cX7_leave 92 = .ok (.getfield 55, 3) := by decide +kernel
theorem d7_leave_95 : decode cX7_leave 95 = .ok (.bipush 6, 2) := by decide +kernel
theorem d7_leave_97 : decode cX7_leave 97 = .ok (.iaload, 1) := by decide +kernel
theorem d7_leave_98 : decode cX7_leave 98 = .ok (.ireturn, 1) := by decide +kernel
def f7_leave_b38 : Nat → Mem → Int32 → Option (Mem × Int32)
  | 0, _, _ => none
  | n + 1, σ, x2 => if (σ 17 6) ≤ x2 then some (σ, σ 17 6) else if ¬ (8 + x2 < 0 ∨ 19 ≤ (8 + x2).toNatClampNeg) then if ¬ (7 + x2 < 0 ∨ 19 ≤ (7 + x2).toNatClampNeg) then (bm (mu σ 17 ((7 + x2).toNatClampNeg) (σ 17 ((8 + x2).toNatClampNeg))) fun σ4 => if ¬ (14 + x2 < 0 ∨ 19 ≤ (14 + x2).toNatClampNeg) then if ¬ (13 + x2 < 0 ∨ 19 ≤ (13 + x2).toNatClampNeg) then (bm (mu σ4 17 ((13 + x2).toNatClampNeg) (σ4 17 ((14 + x2).toNatClampNeg))) fun σ7 => f7_leave_b38 n σ7 (x2 + 1)) else none else none) else none else none
set_option maxHeartbeats 4000000 in
set_option maxRecDepth 100000 in
theorem t7_leave_b38 {p : Program} {l : Launch} {e : Env} {s : State} {m : MethodId} {args : Array Value} {below : List Frame} {meth : Method} {c : Code} {w : WV} {σ' : Mem} {r : Int32} (S : CallFix p m c cX7_leave 3 s args gtbl RX7) (hr : meth.sig.returnType = (some .int)) (hlk : meth.locks = false) (hK : KS LM w s) : ∀ (n : Nat), ∀ (σ : Mem) (x2 : Int32), f7_leave_b38  n σ x2 = some (σ', r) → ∀ (H : Heap) (locs : List Loc), Rp EM LM w σ H → va_S (AW LM w) s.heap H locs → ∀ (ls : Array Slot), lv_has ls 3 [(0, .ref (w.2.2 0)), (2, .int x2)] → W p l e rm7_leave s m args below meth c H locs 0 0 (MQ below (Qw EM LM w σ' (some (.int r))) args s 0 0 (AW LM w)) (F0 m 38 ls []) := by
  obtain ⟨hx, hb, hml, hown, hts⟩ := id S
  intro n
  induction n with
  | zero =>
    intro σ x2 h0
    cases (show none = _ from h0)
  | succ n ih =>
    intro σ x2 h0 H locs hR hS ls hl
    rw [f7_leave_b38] at h0
    refine lv_iload_n hx hb d7_leave_38 rfl (lv_at hl 1 rfl) ?_
    refine lv_aload_n hx hb d7_leave_39 rfl (lv_at hl 0 rfl) ?_
    refine g7_55 S hK hR d7_leave_40 ?_
    refine lv_bipush (v := 6) hx hb d7_leave_43 (by decide) ?_
    refine q_ld (k := 6) S hK hR (by decide) (eM_116 w _) (vin (by decide)) (by decide) d7_leave_45 ?_
    refine lv_icmp_ge (tgt := 91) hx hb d7_leave_46 (by decide) (fun hc1 => ?_) (fun hc1 => ?_)
    · have h0 := og_t hc1 h0
      refine lv_aload_n hx hb d7_leave_91 rfl (lv_at hl 0 rfl) ?_
      refine g7_55 S hK hR d7_leave_92 ?_
      refine lv_bipush (v := 6) hx hb d7_leave_95 (by decide) ?_
      refine q_ld (k := 6) S hK hR (by decide) (eM_116 w _) (vin (by decide)) (by decide) d7_leave_97 ?_
      exact q_iret S hr hlk hR hS h0 d7_leave_98
    · have h0 := og_f hc1 h0
      refine lv_aload_n hx hb d7_leave_49 rfl (lv_at hl 0 rfl) ?_
      refine g7_55 S hK hR d7_leave_50 ?_
      refine lv_bipush (v := 7) hx hb d7_leave_53 (by decide) ?_
      refine lv_iload_n hx hb d7_leave_55 rfl (lv_at hl 1 rfl) ?_
      refine lv_iadd hx hb d7_leave_56 ?_
      refine lv_aload_n hx hb d7_leave_57 rfl (lv_at hl 0 rfl) ?_
      refine g7_55 S hK hR d7_leave_58 ?_
      refine lv_bipush (v := 8) hx hb d7_leave_61 (by decide) ?_
      refine lv_iload_n hx hb d7_leave_63 rfl (lv_at hl 1 rfl) ?_
      refine lv_iadd hx hb d7_leave_64 ?_
      obtain ⟨hi2, h0⟩ := og_if h0
      refine q_ld (k := ((8 + x2).toNatClampNeg)) S hK hR (by decide) (eM_116 w _) hi2 rfl d7_leave_65 ?_
      obtain ⟨hi3, h0⟩ := og_if h0
      obtain ⟨σ4, hm4, h0⟩ := og_m h0
      refine q_st S hK hR hS (by decide) (eM_116 w) hi3 rfl hm4 d7_leave_66 (fun H locs hR hS => ?_)
      refine lv_aload_n hx hb d7_leave_67 rfl (lv_at hl 0 rfl) ?_
      refine g7_55 S hK hR d7_leave_68 ?_
      refine lv_bipush (v := 13) hx hb d7_leave_71 (by decide) ?_
      refine lv_iload_n hx hb d7_leave_73 rfl (lv_at hl 1 rfl) ?_
      refine lv_iadd hx hb d7_leave_74 ?_
      refine lv_aload_n hx hb d7_leave_75 rfl (lv_at hl 0 rfl) ?_
      refine g7_55 S hK hR d7_leave_76 ?_
      refine lv_bipush (v := 14) hx hb d7_leave_79 (by decide) ?_
      refine lv_iload_n hx hb d7_leave_81 rfl (lv_at hl 1 rfl) ?_
      refine lv_iadd hx hb d7_leave_82 ?_
      obtain ⟨hi5, h0⟩ := og_if h0
      refine q_ld (k := ((14 + x2).toNatClampNeg)) S hK hR (by decide) (eM_116 w _) hi5 rfl d7_leave_83 ?_
      obtain ⟨hi6, h0⟩ := og_if h0
      obtain ⟨σ7, hm7, h0⟩ := og_m h0
      refine q_st S hK hR hS (by decide) (eM_116 w) hi6 rfl hm7 d7_leave_84 (fun H locs hR hS => ?_)
      refine lv_iinc (v := x2 + 1) (lv' := [(2, .int (x2 + 1)), (0, .ref (w.2.2 0))]) hx hb d7_leave_85 hl (k := 1) rfl (ii1 _) (by decide) rfl (fun ls hl => ?_)
      refine lv_goto (tgt := 38) hx hb d7_leave_88 (by decide) ?_
      exact ih σ7 (x2 + 1) h0 _ _ hR hS _ (lv_sub hl [1, 0] rfl)
def f7_leave (σ : Mem) (x1 : Int32) : Option (Mem × Int32) := Option.bind (f7_in x1.toInt64 (0 : Int64) (((σ 17 6) - 1).toInt64)) fun r1 => if r1 = 0 then some (σ, (-1)) else Option.bind (f7_note σ) fun σ3 => bm (mu σ3 17 6 ((σ3 17 6) - 1)) fun σ4 => f7_leave_b38 1000 σ4 x1
set_option maxHeartbeats 4000000 in
set_option maxRecDepth 100000 in
theorem c7_leave (l : Launch) {w : WV} {σ : Mem} {x1 : Int32} {σ' : Mem} {r : Int32} (h0 : f7_leave σ x1 = some (σ', r)) : Met l yX7_leave (wy yX7_leave cX7_leave 3 (some .int)) rm7_leave (Pw EM LM w [.ref (w.2.2 0), .int x1] σ) (Qw EM LM w σ' (some (.int r))) 0 0 (AW LM w) := by
  refine mk_met (by decide) (Nat.le_of_ble_eq_true rfl) ?_
  intro p e s m below meth c S hr hlk hK hR ls hl
  obtain ⟨hx, hb, hml, hown, hts⟩ := id S
  have hl : lv_has ls 3 [(0, .ref (w.2.2 0)), (1, .int x1)] := hl
  have hS : va_S (AW LM w) s.heap s.heap [] := va_S.rf
  unfold f7_leave at h0
  refine lv_iload_n hx hb d7_leave_0 rfl (lv_at hl 1 rfl) ?_
  refine lv_i2l hx hb d7_leave_1 rfl ?_
  refine lv_lconst (v := 0) hx hb d7_leave_2 (by decide) ?_
  refine lv_aload_n hx hb d7_leave_3 rfl (lv_at hl 0 rfl) ?_
  refine g7_55 S hK hR d7_leave_4 ?_
  refine lv_bipush (v := 6) hx hb d7_leave_7 (by decide) ?_
  refine q_ld (k := 6) S hK hR (by decide) (eM_116 w _) (vin (by decide)) (by decide) d7_leave_9 ?_
  refine lv_iconst (v := 1) hx hb d7_leave_10 (by decide) ?_
  refine lv_isub hx hb d7_leave_11 ?_
  refine lv_i2l hx hb d7_leave_12 rfl ?_
  obtain ⟨r1, hr1, h0⟩ := og_b h0
  refine k7_113 S  hr1 ⟨Nat.zero_le _, Nat.zero_le _⟩ ⟨Nat.le_of_ble_eq_true rfl, Nat.le_of_ble_eq_true rfl⟩ hl.1 (Nat.le_of_ble_eq_true rfl) d7_leave_13 ?_
  refine lv_if_ne (tgt := 21) hx hb d7_leave_16 (by decide) (fun hc2 => ?_) (fun hc2 => ?_)
  · have h0 := og_f hc2 h0
    refine lv_aload_n hx hb d7_leave_21 rfl (lv_at hl 0 rfl) ?_
    obtain ⟨σ3, hr3, h0⟩ := og_b h0
    refine k7_263 S hK hR hS  hr3 ⟨Nat.zero_le _, Nat.zero_le _⟩ ⟨Nat.le_of_ble_eq_true rfl, Nat.le_of_ble_eq_true rfl⟩ hl.1 (Nat.le_of_ble_eq_true rfl) d7_leave_22 (fun H locs hR hS => ?_)
    refine lv_aload_n hx hb d7_leave_25 rfl (lv_at hl 0 rfl) ?_
    refine g7_55 S hK hR d7_leave_26 ?_
    refine lv_bipush (v := 6) hx hb d7_leave_29 (by decide) ?_
    refine lv_dup2_11 hx hb d7_leave_31 rfl rfl ?_
    refine q_ld (k := 6) S hK hR (by decide) (eM_116 w _) (vin (by decide)) (by decide) d7_leave_32 ?_
    refine lv_iconst (v := 1) hx hb d7_leave_33 (by decide) ?_
    refine lv_isub hx hb d7_leave_34 ?_
    obtain ⟨σ4, hm4, h0⟩ := og_m h0
    refine q_st S hK hR hS (by decide) (eM_116 w) (vin (by decide)) (by decide) hm4 d7_leave_35 (fun H locs hR hS => ?_)
    refine lv_iload_n hx hb d7_leave_36 rfl (lv_at hl 1 rfl) ?_
    refine lv_istore_n (lv' := [(2, .int x1), (0, .ref (w.2.2 0)), (1, .int x1)]) hx hb d7_leave_37 rfl hl (by decide) rfl (fun ls hl => ?_)
    exact t7_leave_b38 S hr hlk hK 1000 σ4 x1 h0 _ _ hR hS _ (lv_sub hl [1, 0] rfl)
  · have h0 := og_t hc2 h0
    refine lv_iconst (v := (-1)) hx hb d7_leave_19 (by decide) ?_
    exact q_iret S hr hlk hR hS h0 d7_leave_20
/-! FourTenGatesModel.undo()I -/
abbrev rm7_undo : Room := { frames := 0, cells := 0, slots := 0, locals := 0 }
theorem d7_undo_0 : decode cX7_undo 0 = .ok (.aload_n 0, 1) := by decide +kernel
theorem d7_undo_1 : decode cX7_undo 1 = .ok (.getfield 159, 3) := by decide +kernel
theorem d7_undo_4 : decode cX7_undo 4 = .ok (.ifCond .ne 6, 3) := by decide +kernel
theorem d7_undo_7 : decode cX7_undo 7 = .ok (.bipush (-2), 2) := by decide +kernel
theorem d7_undo_9 : decode cX7_undo 9 = .ok (.ireturn, 1) := by decide +kernel
theorem d7_undo_10 : decode cX7_undo 10 = .ok (.aload_n 0, 1) := by decide +kernel
theorem d7_undo_11 : decode cX7_undo 11 = .ok (.dup, 1) := by decide +kernel
theorem d7_undo_12 : decode cX7_undo 12 = .ok (.getfield 159, 3) := by decide +kernel
theorem d7_undo_15 : decode cX7_undo 15 = .ok (.iconst 1, 1) := by decide +kernel
theorem d7_undo_16 : decode cX7_undo 16 = .ok (.isub, 1) := by decide +kernel
theorem d7_undo_17 : decode cX7_undo 17 = .ok (.putfield 159, 3) := by decide +kernel
theorem d7_undo_20 : decode cX7_undo 20 = .ok (.iconst 0, 1) := by decide +kernel
theorem d7_undo_21 : decode cX7_undo 21 = .ok (.istore_n 1, 1) := by decide +kernel
theorem d7_undo_22 : decode cX7_undo 22 = .ok (.iload_n 1, 1) := by decide +kernel
theorem d7_undo_23 : decode cX7_undo 23 = .ok (.bipush 19, 2) := by decide +kernel
theorem d7_undo_25 : decode cX7_undo 25 = .ok (.if_icmp .ge 29, 3) := by decide +kernel
theorem d7_undo_28 : decode cX7_undo 28 = .ok (.aload_n 0, 1) := by decide +kernel
theorem d7_undo_29 : decode cX7_undo 29 = .ok (.getfield 55, 3) := by decide +kernel
theorem d7_undo_32 : decode cX7_undo 32 = .ok (.iload_n 1, 1) := by decide +kernel
theorem d7_undo_33 : decode cX7_undo 33 = .ok (.aload_n 0, 1) := by decide +kernel
theorem d7_undo_34 : decode cX7_undo 34 = .ok (.getfield 58, 3) := by decide +kernel
theorem d7_undo_37 : decode cX7_undo 37 = .ok (.bipush 19, 2) := by decide +kernel
theorem d7_undo_39 : decode cX7_undo 39 = .ok (.aload_n 0, 1) := by decide +kernel
theorem d7_undo_40 : decode cX7_undo 40 = .ok (.getfield 159, 3) := by decide +kernel
theorem d7_undo_43 : decode cX7_undo 43 = .ok (.imul, 1) := by decide +kernel
theorem d7_undo_44 : decode cX7_undo 44 = .ok (.iload_n 1, 1) := by decide +kernel
theorem d7_undo_45 : decode cX7_undo 45 = .ok (.iadd, 1) := by decide +kernel
theorem d7_undo_46 : decode cX7_undo 46 = .ok (.iaload, 1) := by decide +kernel
theorem d7_undo_47 : decode cX7_undo 47 = .ok (.iastore, 1) := by decide +kernel
theorem d7_undo_48 : decode cX7_undo 48 = .ok (.iinc 1 1, 3) := by decide +kernel
theorem d7_undo_51 : decode cX7_undo 51 = .ok (.goto (-29), 3) := by decide +kernel
theorem d7_undo_54 : decode cX7_undo 54 = .ok (.aload_n 0, 1) := by decide +kernel
theorem d7_undo_55 : decode cX7_undo 55 = .ok (.getfield 159, 3) := by decide +kernel
theorem d7_undo_58 : decode cX7_undo 58 = .ok (.ireturn, 1) := by decide +kernel
def f7_undo_b22 : Nat → Mem → Int32 → Option (Mem × Int32)
  | 0, _, _ => none
  | n + 1, σ, x1 => if 19 ≤ x1 then some (σ, σ 0 18) else if ¬ ((19 * (σ 0 18)) + x1 < 0 ∨ 152 ≤ ((19 * (σ 0 18)) + x1).toNatClampNeg) then if ¬ (x1 < 0 ∨ 19 ≤ x1.toNatClampNeg) then (bm (mu σ 17 x1.toNatClampNeg (σ 18 (((19 * (σ 0 18)) + x1).toNatClampNeg))) fun σ4 => f7_undo_b22 n σ4 (x1 + 1)) else none else none
set_option maxHeartbeats 4000000 in
set_option maxRecDepth 100000 in
theorem t7_undo_b22 {p : Program} {l : Launch} {e : Env} {s : State} {m : MethodId} {args : Array Value} {below : List Frame} {meth : Method} {c : Code} {w : WV} {σ' : Mem} {r : Int32} (S : CallFix p m c cX7_undo 2 s args gtbl RX7) (hr : meth.sig.returnType = (some .int)) (hlk : meth.locks = false) (hK : KS LM w s) : ∀ (n : Nat), ∀ (σ : Mem) (x1 : Int32), f7_undo_b22  n σ x1 = some (σ', r) → ∀ (H : Heap) (locs : List Loc), Rp EM LM w σ H → va_S (AW LM w) s.heap H locs → ∀ (ls : Array Slot), lv_has ls 2 [(0, .ref (w.2.2 0)), (1, .int x1)] → W p l e rm7_undo s m args below meth c H locs 0 0 (MQ below (Qw EM LM w σ' (some (.int r))) args s 0 0 (AW LM w)) (F0 m 22 ls []) := by
  obtain ⟨hx, hb, hml, hown, hts⟩ := id S
  intro n
  induction n with
  | zero =>
    intro σ x1 h0
    cases (show none = _ from h0)
  | succ n ih =>
    intro σ x1 h0 H locs hR hS ls hl
    rw [f7_undo_b22] at h0
    refine lv_iload_n hx hb d7_undo_22 rfl (lv_at hl 1 rfl) ?_
    refine lv_bipush (v := 19) hx hb d7_undo_23 (by decide) ?_
    refine lv_icmp_ge (tgt := 54) hx hb d7_undo_25 (by decide) (fun hc1 => ?_) (fun hc1 => ?_)
    · have h0 := og_t hc1 h0
      refine lv_aload_n hx hb d7_undo_54 rfl (lv_at hl 0 rfl) ?_
      refine g7_159 S hK hR d7_undo_55 ?_
      exact q_iret S hr hlk hR hS h0 d7_undo_58
    · have h0 := og_f hc1 h0
      refine lv_aload_n hx hb d7_undo_28 rfl (lv_at hl 0 rfl) ?_
      refine g7_55 S hK hR d7_undo_29 ?_
      refine lv_iload_n hx hb d7_undo_32 rfl (lv_at hl 1 rfl) ?_
      refine lv_aload_n hx hb d7_undo_33 rfl (lv_at hl 0 rfl) ?_
      refine g7_58 S hK hR d7_undo_34 ?_
      refine lv_bipush (v := 19) hx hb d7_undo_37 (by decide) ?_
      refine lv_aload_n hx hb d7_undo_39 rfl (lv_at hl 0 rfl) ?_
      refine g7_159 S hK hR d7_undo_40 ?_
      refine lv_imul hx hb d7_undo_43 ?_
      refine lv_iload_n hx hb d7_undo_44 rfl (lv_at hl 1 rfl) ?_
      refine lv_iadd hx hb d7_undo_45 ?_
      obtain ⟨hi2, h0⟩ := og_if h0
      refine q_ld (k := (((19 * (σ 0 18)) + x1).toNatClampNeg)) S hK hR (by decide) (eM_117 w _) hi2 rfl d7_undo_46 ?_
      obtain ⟨hi3, h0⟩ := og_if h0
      obtain ⟨σ4, hm4, h0⟩ := og_m h0
      refine q_st S hK hR hS (by decide) (eM_116 w) hi3 rfl hm4 d7_undo_47 (fun H locs hR hS => ?_)
      refine lv_iinc (v := x1 + 1) (lv' := [(1, .int (x1 + 1)), (0, .ref (w.2.2 0))]) hx hb d7_undo_48 hl (k := 1) rfl (ii1 _) (by decide) rfl (fun ls hl => ?_)
      refine lv_goto (tgt := 22) hx hb d7_undo_51 (by decide) ?_
      exact ih σ4 (x1 + 1) h0 _ _ hR hS _ (lv_sub hl [1, 0] rfl)
def f7_undo (σ : Mem) : Option (Mem × Int32) := if (σ 0 18) = 0 then some (σ, (-2)) else bm (mu σ 0 18 ((σ 0 18) - 1)) fun σ2 => f7_undo_b22 1000 σ2 0
set_option maxHeartbeats 4000000 in
set_option maxRecDepth 100000 in
theorem c7_undo (l : Launch) {w : WV} {σ : Mem} {σ' : Mem} {r : Int32} (h0 : f7_undo σ = some (σ', r)) : Met l yX7_undo (wy yX7_undo cX7_undo 2 (some .int)) rm7_undo (Pw EM LM w [.ref (w.2.2 0)] σ) (Qw EM LM w σ' (some (.int r))) 0 0 (AW LM w) := by
  refine mk_met (by decide) (Nat.le_of_ble_eq_true rfl) ?_
  intro p e s m below meth c S hr hlk hK hR ls hl
  obtain ⟨hx, hb, hml, hown, hts⟩ := id S
  have hl : lv_has ls 2 [(0, .ref (w.2.2 0))] := hl
  have hS : va_S (AW LM w) s.heap s.heap [] := va_S.rf
  unfold f7_undo at h0
  refine lv_aload_n hx hb d7_undo_0 rfl (lv_at hl 0 rfl) ?_
  refine g7_159 S hK hR d7_undo_1 ?_
  refine lv_if_ne (tgt := 10) hx hb d7_undo_4 (by decide) (fun hc1 => ?_) (fun hc1 => ?_)
  · have h0 := og_f hc1 h0
    refine lv_aload_n hx hb d7_undo_10 rfl (lv_at hl 0 rfl) ?_
    refine lv_dup hx hb d7_undo_11 rfl ?_
    refine g7_159 S hK hR d7_undo_12 ?_
    refine lv_iconst (v := 1) hx hb d7_undo_15 (by decide) ?_
    refine lv_isub hx hb d7_undo_16 ?_
    obtain ⟨σ2, hm2, h0⟩ := og_m h0
    refine u7_159 S hK hR hS hm2 d7_undo_17 (fun H locs hR hS => ?_)
    refine lv_iconst (v := 0) hx hb d7_undo_20 (by decide) ?_
    refine lv_istore_n (lv' := [(1, .int 0), (0, .ref (w.2.2 0))]) hx hb d7_undo_21 rfl hl (by decide) rfl (fun ls hl => ?_)
    exact t7_undo_b22 S hr hlk hK 1000 σ2 0 h0 _ _ hR hS _ (lv_sub hl [1, 0] rfl)
  · have h0 := og_t hc1 h0
    refine lv_bipush (v := (-2)) hx hb d7_undo_7 (by decide) ?_
    exact q_iret S hr hlk hR hS h0 d7_undo_9
/-! FourTenGatesModel.cheapest(I)I -/
abbrev rm7_cheapest : Room := { frames := 7, cells := 0, slots := 0, locals := 161 }
theorem d7_cheapest_0 : decode cX7_cheapest 0 = .ok (.iload_n 1, 1) := by decide +kernel
theorem d7_cheapest_1 : decode cX7_cheapest 1 = .ok (.i2l, 1) := by decide +kernel
theorem d7_cheapest_2 : decode cX7_cheapest 2 = .ok (.lconst 0, 1) := by decide +kernel
theorem d7_cheapest_3 : decode cX7_cheapest 3 = .ok (.lconst 1, 1) := by decide +kernel
theorem d7_cheapest_4 : decode cX7_cheapest 4 = .ok (.invokestatic 113, 3) := by decide +kernel
theorem d7_cheapest_7 : decode cX7_cheapest 7 = .ok (.ifCond .ne 5, 3) := by decide +kernel
theorem d7_cheapest_10 : decode cX7_cheapest 10 = .ok (.iconst (-1), 1) := by decide +kernel
theorem d7_cheapest_11 : decode cX7_cheapest 11 = .ok (.ireturn, 1) := by decide +kernel
theorem d7_cheapest_12 : decode cX7_cheapest 12 = .ok (.iconst 0, 1) := by decide +kernel
theorem d7_cheapest_13 : decode cX7_cheapest 13 = .ok (.istore_n 2, 1) := by decide +kernel
theorem d7_cheapest_14 : decode cX7_cheapest 14 = .ok (.aload_n 0, 1) := by decide +kernel
theorem d7_cheapest_15 : decode cX7_cheapest 15 = .ok (.iconst 0, 1) := by decide +kernel
theorem d7_cheapest_16 : decode cX7_cheapest 16 = .ok (.iconst 0, 1) := by decide +kernel
theorem d7_cheapest_17 : decode cX7_cheapest 17 = .ok (.invokevirtual 257, 3) := by decide +kernel
theorem d7_cheapest_20 : decode cX7_cheapest 20 = .ok (.istore_n 3, 1) := by decide +kernel
theorem d7_cheapest_21 : decode cX7_cheapest 21 = .ok (.iconst 1, 1) := by decide +kernel
theorem d7_cheapest_22 : decode cX7_cheapest 22 = .ok (.istore 4, 2) := by decide +kernel
theorem d7_cheapest_24 : decode cX7_cheapest 24 = .ok (.iload 4, 2) := by decide +kernel
theorem d7_cheapest_26 : decode cX7_cheapest 26 = .ok (.iconst 4, 1) := by decide +kernel
theorem d7_cheapest_27 : decode cX7_cheapest 27 = .ok (.if_icmp .ge 44, 3) := by decide +kernel
theorem d7_cheapest_30 : decode cX7_cheapest 30 = .ok (.aload_n 0, 1) := by decide +kernel
theorem d7_cheapest_31 : decode cX7_cheapest 31 = .ok (.iload 4, 2) := by decide +kernel
theorem d7_cheapest_33 : decode cX7_cheapest 33 = .ok (.iconst 0, 1) := by decide +kernel
theorem d7_cheapest_34 : decode cX7_cheapest 34 = .ok (.invokevirtual 257, 3) := by decide +kernel
theorem d7_cheapest_37 : decode cX7_cheapest 37 = .ok (.istore 5, 2) := by decide +kernel
theorem d7_cheapest_39 : decode cX7_cheapest 39 = .ok (.iload 5, 2) := by decide +kernel
theorem d7_cheapest_41 : decode cX7_cheapest 41 = .ok (.iload_n 3, 1) := by decide +kernel
theorem d7_cheapest_42 : decode cX7_cheapest 42 = .ok (.if_icmp .ge 8, 3) := by decide +kernel
theorem d7_cheapest_45 : decode cX7_cheapest 45 = .ok (.iload 4, 2) := by decide +kernel
theorem d7_cheapest_47 : decode cX7_cheapest 47 = .ok (.goto 4, 3) := by decide +kernel
theorem d7_cheapest_50 : decode cX7_cheapest 50 = .ok (.iload_n 2, 1) := by decide +kernel
theorem d7_cheapest_51 : decode cX7_cheapest 51 = .ok (.istore_n 2, 1) := by decide +kernel
theorem d7_cheapest_52 : decode cX7_cheapest 52 = .ok (.iload 5, 2) := by decide +kernel
theorem d7_cheapest_54 : decode cX7_cheapest 54 = .ok (.iload_n 3, 1) := by decide +kernel
theorem d7_cheapest_55 : decode cX7_cheapest 55 = .ok (.if_icmp .ge 8, 3) := by decide +kernel
theorem d7_cheapest_58 : decode cX7_cheapest 58 = .ok (.iload 5, 2) := by decide +kernel
theorem d7_cheapest_60 : decode cX7_cheapest 60 = .ok (.goto 4, 3) := by decide +kernel
theorem d7_cheapest_63 : decode cX7_cheapest 63 = .ok (.iload_n 3, 1) := by decide +kernel
theorem d7_cheapest_64 : decode cX7_cheapest 64 = .ok (.istore_n 3, 1) := by decide +kernel
theorem d7_cheapest_65 : decode cX7_cheapest 65 = .ok (.iinc 4 1, 3) := by decide +kernel
theorem d7_cheapest_68 : decode cX7_cheapest 68 = .ok (.goto (-44), 3) := by decide +kernel
theorem d7_cheapest_71 : decode cX7_cheapest 71 = .ok (.iload_n 1, 1) := by decide +kernel
theorem d7_cheapest_72 : decode cX7_cheapest 72 = .ok (.ifCond .ne 7, 3) := by decide +kernel
theorem d7_cheapest_75 : decode cX7_cheapest 75 = .ok (.iload_n 2, 1) := by decide +kernel
theorem d7_cheapest_76 : decode cX7_cheapest 76 = .ok (.goto 4, 3) := by decide +kernel
theorem d7_cheapest_79 : decode cX7_cheapest 79 = .ok (.iload_n 3, 1) := by decide +kernel
theorem d7_cheapest_80 : decode cX7_cheapest 80 = .ok (.ireturn, 1) := by decide +kernel
def f7_cheapest_b51 (k24 : Mem → Int32 → Int32 → Int32 → Int32 → Option (Mem × Int32)) (σ : Mem) (x1 : Int32) (x3 : Int32) (x4 : Int32) (x5 : Int32) (s0 : Int32) : Option (Mem × Int32) := if x3 ≤ x5 then k24 σ x1 s0 x3 (x4 + 1) else k24 σ x1 s0 x5 (x4 + 1)
set_option maxHeartbeats 4000000 in
set_option maxRecDepth 100000 in
theorem t7_cheapest_b51 {p : Program} {l : Launch} {e : Env} {s : State} {m : MethodId} {args : Array Value} {below : List Frame} {meth : Method} {c : Code} {w : WV} {σ' : Mem} {r : Int32} {k24 : Mem → Int32 → Int32 → Int32 → Int32 → Option (Mem × Int32)} (S : CallFix p m c cX7_cheapest 6 s args gtbl RX7) (hr : meth.sig.returnType = (some .int)) (hlk : meth.locks = false) (hK : KS LM w s) (hk24 : ∀ (σ : Mem) (x1 : Int32) (x2 : Int32) (x3 : Int32) (x4 : Int32), k24 σ x1 x2 x3 x4 = some (σ', r) → ∀ (H : Heap) (locs : List Loc), Rp EM LM w σ H → va_S (AW LM w) s.heap H locs → ∀ (ls : Array Slot), lv_has ls 6 [(0, .ref (w.2.2 0)), (1, .int x1), (2, .int x2), (3, .int x3), (4, .int x4)] → W p l e rm7_cheapest s m args below meth c H locs 0 0 (MQ below (Qw EM LM w σ' (some (.int r))) args s 0 0 (AW LM w)) (F0 m 24 ls [])) : ∀ (σ : Mem) (x1 : Int32) (x3 : Int32) (x4 : Int32) (x5 : Int32) (s0 : Int32), f7_cheapest_b51 k24 σ x1 x3 x4 x5 s0 = some (σ', r) → ∀ (H : Heap) (locs : List Loc), Rp EM LM w σ H → va_S (AW LM w) s.heap H locs → ∀ (ls : Array Slot), lv_has ls 6 [(0, .ref (w.2.2 0)), (1, .int x1), (3, .int x3), (4, .int x4), (5, .int x5)] → W p l e rm7_cheapest s m args below meth c H locs 0 0 (MQ below (Qw EM LM w σ' (some (.int r))) args s 0 0 (AW LM w)) (F0 m 51 ls [.int s0]) := by
  obtain ⟨hx, hb, hml, hown, hts⟩ := id S
  intro σ x1 x3 x4 x5 s0 h0 H locs hR hS ls hl
  unfold f7_cheapest_b51 at h0
  refine lv_istore_n (lv' := [(2, .int s0), (0, .ref (w.2.2 0)), (1, .int x1), (3, .int x3), (4, .int x4), (5, .int x5)]) hx hb d7_cheapest_51 rfl hl (by decide) rfl (fun ls hl => ?_)
  refine lv_iload hx hb d7_cheapest_52 (lv_at hl 5 rfl) ?_
  refine lv_iload_n hx hb d7_cheapest_54 rfl (lv_at hl 3 rfl) ?_
  refine lv_icmp_ge (tgt := 63) hx hb d7_cheapest_55 (by decide) (fun hc1 => ?_) (fun hc1 => ?_)
  · have h0 := og_t hc1 h0
    refine lv_iload_n hx hb d7_cheapest_63 rfl (lv_at hl 3 rfl) ?_
    refine lv_istore_n (lv' := [(3, .int x3), (2, .int s0), (0, .ref (w.2.2 0)), (1, .int x1), (4, .int x4), (5, .int x5)]) hx hb d7_cheapest_64 rfl hl (by decide) rfl (fun ls hl => ?_)
    refine lv_iinc (v := x4 + 1) (lv' := [(4, .int (x4 + 1)), (3, .int x3), (2, .int s0), (0, .ref (w.2.2 0)), (1, .int x1), (5, .int x5)]) hx hb d7_cheapest_65 hl (k := 4) rfl (ii1 _) (by decide) rfl (fun ls hl => ?_)
    refine lv_goto (tgt := 24) hx hb d7_cheapest_68 (by decide) ?_
    exact hk24 σ x1 s0 x3 (x4 + 1) h0 _ _ hR hS _ (lv_sub hl [3, 4, 2, 1, 0] rfl)
  · have h0 := og_f hc1 h0
    refine lv_iload hx hb d7_cheapest_58 (lv_at hl 5 rfl) ?_
    refine lv_goto (tgt := 64) hx hb d7_cheapest_60 (by decide) ?_
    refine lv_istore_n (lv' := [(3, .int x5), (2, .int s0), (0, .ref (w.2.2 0)), (1, .int x1), (4, .int x4), (5, .int x5)]) hx hb d7_cheapest_64 rfl hl (by decide) rfl (fun ls hl => ?_)
    refine lv_iinc (v := x4 + 1) (lv' := [(4, .int (x4 + 1)), (3, .int x5), (2, .int s0), (0, .ref (w.2.2 0)), (1, .int x1), (5, .int x5)]) hx hb d7_cheapest_65 hl (k := 4) rfl (ii1 _) (by decide) rfl (fun ls hl => ?_)
    refine lv_goto (tgt := 24) hx hb d7_cheapest_68 (by decide) ?_
    exact hk24 σ x1 s0 x5 (x4 + 1) h0 _ _ hR hS _ (lv_sub hl [3, 4, 2, 1, 0] rfl)
def f7_cheapest_b24 : Nat → Mem → Int32 → Int32 → Int32 → Int32 → Option (Mem × Int32)
  | 0, _, _, _, _, _ => none
  | n + 1, σ, x1, x2, x3, x4 => if 4 ≤ x4 then if x1 = 0 then some (σ, x2) else some (σ, x3) else ob (f7_costBy σ x4 0) fun σ2 r2 => if x3 ≤ r2 then f7_cheapest_b51 (f7_cheapest_b24 n) σ2 x1 x3 x4 r2 x2 else f7_cheapest_b51 (f7_cheapest_b24 n) σ2 x1 x3 x4 r2 x4
set_option maxHeartbeats 4000000 in
set_option maxRecDepth 100000 in
theorem t7_cheapest_b24 {p : Program} {l : Launch} {e : Env} {s : State} {m : MethodId} {args : Array Value} {below : List Frame} {meth : Method} {c : Code} {w : WV} {σ' : Mem} {r : Int32} (S : CallFix p m c cX7_cheapest 6 s args gtbl RX7) (hr : meth.sig.returnType = (some .int)) (hlk : meth.locks = false) (hK : KS LM w s) : ∀ (n : Nat), ∀ (σ : Mem) (x1 : Int32) (x2 : Int32) (x3 : Int32) (x4 : Int32), f7_cheapest_b24  n σ x1 x2 x3 x4 = some (σ', r) → ∀ (H : Heap) (locs : List Loc), Rp EM LM w σ H → va_S (AW LM w) s.heap H locs → ∀ (ls : Array Slot), lv_has ls 6 [(0, .ref (w.2.2 0)), (1, .int x1), (2, .int x2), (3, .int x3), (4, .int x4)] → W p l e rm7_cheapest s m args below meth c H locs 0 0 (MQ below (Qw EM LM w σ' (some (.int r))) args s 0 0 (AW LM w)) (F0 m 24 ls []) := by
  obtain ⟨hx, hb, hml, hown, hts⟩ := id S
  intro n
  induction n with
  | zero =>
    intro σ x1 x2 x3 x4 h0
    cases (show none = _ from h0)
  | succ n ih =>
    intro σ x1 x2 x3 x4 h0 H locs hR hS ls hl
    rw [f7_cheapest_b24] at h0
    refine lv_iload hx hb d7_cheapest_24 (lv_at hl 4 rfl) ?_
    refine lv_iconst (v := 4) hx hb d7_cheapest_26 (by decide) ?_
    refine lv_icmp_ge (tgt := 71) hx hb d7_cheapest_27 (by decide) (fun hc1 => ?_) (fun hc1 => ?_)
    · have h0 := og_t hc1 h0
      refine lv_iload_n hx hb d7_cheapest_71 rfl (lv_at hl 1 rfl) ?_
      refine lv_if_ne (tgt := 79) hx hb d7_cheapest_72 (by decide) (fun hc2 => ?_) (fun hc2 => ?_)
      · have h0 := og_f hc2 h0
        refine lv_iload_n hx hb d7_cheapest_79 rfl (lv_at hl 3 rfl) ?_
        exact q_iret S hr hlk hR hS h0 d7_cheapest_80
      · have h0 := og_t hc2 h0
        refine lv_iload_n hx hb d7_cheapest_75 rfl (lv_at hl 2 rfl) ?_
        refine lv_goto (tgt := 80) hx hb d7_cheapest_76 (by decide) ?_
        exact q_iret S hr hlk hR hS h0 d7_cheapest_80
    · have h0 := og_f hc1 h0
      refine lv_aload_n hx hb d7_cheapest_30 rfl (lv_at hl 0 rfl) ?_
      refine lv_iload hx hb d7_cheapest_31 (lv_at hl 4 rfl) ?_
      refine lv_iconst (v := 0) hx hb d7_cheapest_33 (by decide) ?_
      obtain ⟨σ2, r2, hr2, h0⟩ := og_o h0
      refine k7_257 S hK hR hS  hr2 ⟨Nat.zero_le _, Nat.zero_le _⟩ ⟨Nat.le_of_ble_eq_true rfl, Nat.le_of_ble_eq_true rfl⟩ hl.1 (Nat.le_of_ble_eq_true rfl) d7_cheapest_34 (fun H locs hR hS => ?_)
      refine lv_istore (lv' := [(5, .int r2), (0, .ref (w.2.2 0)), (1, .int x1), (2, .int x2), (3, .int x3), (4, .int x4)]) hx hb d7_cheapest_37 hl (by decide) rfl (fun ls hl => ?_)
      refine lv_iload hx hb d7_cheapest_39 (lv_at hl 0 rfl) ?_
      refine lv_iload_n hx hb d7_cheapest_41 rfl (lv_at hl 4 rfl) ?_
      refine lv_icmp_ge (tgt := 50) hx hb d7_cheapest_42 (by decide) (fun hc3 => ?_) (fun hc3 => ?_)
      · have h0 := og_t hc3 h0
        refine lv_iload_n hx hb d7_cheapest_50 rfl (lv_at hl 3 rfl) ?_
        exact t7_cheapest_b51 S hr hlk hK ih σ2 x1 x3 x4 r2 x2 h0 _ _ hR hS _ (lv_sub hl [1, 2, 4, 5, 0] rfl)
      · have h0 := og_f hc3 h0
        refine lv_iload hx hb d7_cheapest_45 (lv_at hl 5 rfl) ?_
        refine lv_goto (tgt := 51) hx hb d7_cheapest_47 (by decide) ?_
        exact t7_cheapest_b51 S hr hlk hK ih σ2 x1 x3 x4 r2 x4 h0 _ _ hR hS _ (lv_sub hl [1, 2, 4, 5, 0] rfl)
def f7_cheapest (σ : Mem) (x1 : Int32) : Option (Mem × Int32) := Option.bind (f7_in x1.toInt64 (0 : Int64) (1 : Int64)) fun r1 => if r1 = 0 then some (σ, (-1)) else ob (f7_costBy σ 0 0) fun σ3 r3 => f7_cheapest_b24 1000 σ3 x1 0 r3 1
set_option maxHeartbeats 4000000 in
set_option maxRecDepth 100000 in
theorem c7_cheapest (l : Launch) {w : WV} {σ : Mem} {x1 : Int32} {σ' : Mem} {r : Int32} (h0 : f7_cheapest σ x1 = some (σ', r)) : Met l yX7_cheapest (wy yX7_cheapest cX7_cheapest 6 (some .int)) rm7_cheapest (Pw EM LM w [.ref (w.2.2 0), .int x1] σ) (Qw EM LM w σ' (some (.int r))) 0 0 (AW LM w) := by
  refine mk_met (by decide) (Nat.le_of_ble_eq_true rfl) ?_
  intro p e s m below meth c S hr hlk hK hR ls hl
  obtain ⟨hx, hb, hml, hown, hts⟩ := id S
  have hl : lv_has ls 6 [(0, .ref (w.2.2 0)), (1, .int x1)] := hl
  have hS : va_S (AW LM w) s.heap s.heap [] := va_S.rf
  unfold f7_cheapest at h0
  refine lv_iload_n hx hb d7_cheapest_0 rfl (lv_at hl 1 rfl) ?_
  refine lv_i2l hx hb d7_cheapest_1 rfl ?_
  refine lv_lconst (v := 0) hx hb d7_cheapest_2 (by decide) ?_
  refine lv_lconst (v := 1) hx hb d7_cheapest_3 (by decide) ?_
  obtain ⟨r1, hr1, h0⟩ := og_b h0
  refine k7_113 S  hr1 ⟨Nat.zero_le _, Nat.zero_le _⟩ ⟨Nat.le_of_ble_eq_true rfl, Nat.le_of_ble_eq_true rfl⟩ hl.1 (Nat.le_of_ble_eq_true rfl) d7_cheapest_4 ?_
  refine lv_if_ne (tgt := 12) hx hb d7_cheapest_7 (by decide) (fun hc2 => ?_) (fun hc2 => ?_)
  · have h0 := og_f hc2 h0
    refine lv_iconst (v := 0) hx hb d7_cheapest_12 (by decide) ?_
    refine lv_istore_n (lv' := [(2, .int 0), (0, .ref (w.2.2 0)), (1, .int x1)]) hx hb d7_cheapest_13 rfl hl (by decide) rfl (fun ls hl => ?_)
    refine lv_aload_n hx hb d7_cheapest_14 rfl (lv_at hl 1 rfl) ?_
    refine lv_iconst (v := 0) hx hb d7_cheapest_15 (by decide) ?_
    refine lv_iconst (v := 0) hx hb d7_cheapest_16 (by decide) ?_
    obtain ⟨σ3, r3, hr3, h0⟩ := og_o h0
    refine k7_257 S hK hR hS  hr3 ⟨Nat.zero_le _, Nat.zero_le _⟩ ⟨Nat.le_of_ble_eq_true rfl, Nat.le_of_ble_eq_true rfl⟩ hl.1 (Nat.le_of_ble_eq_true rfl) d7_cheapest_17 (fun H locs hR hS => ?_)
    refine lv_istore_n (lv' := [(3, .int r3), (2, .int 0), (0, .ref (w.2.2 0)), (1, .int x1)]) hx hb d7_cheapest_20 rfl hl (by decide) rfl (fun ls hl => ?_)
    refine lv_iconst (v := 1) hx hb d7_cheapest_21 (by decide) ?_
    refine lv_istore (lv' := [(4, .int 1), (3, .int r3), (2, .int 0), (0, .ref (w.2.2 0)), (1, .int x1)]) hx hb d7_cheapest_22 hl (by decide) rfl (fun ls hl => ?_)
    exact t7_cheapest_b24 S hr hlk hK 1000 σ3 x1 0 r3 1 h0 _ _ hR hS _ (lv_sub hl [3, 4, 2, 1, 0] rfl)
  · have h0 := og_t hc2 h0
    refine lv_iconst (v := (-1)) hx hb d7_cheapest_10 (by decide) ?_
    exact q_iret S hr hlk hR hS h0 d7_cheapest_11
