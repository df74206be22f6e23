/-! FourTenGatesModel.lead(I)I -/
abbrev rm7_lead : Room := { frames := 7, cells := 0, slots := 0, locals := 161 }
theorem d7_lead_0 : decode cX7_lead 0 = .ok (.iload_n 1, 1) := by decide +kernel
theorem d7_lead_1 : decode cX7_lead 1 = .ok (.i2l, 1) := by decide +kernel
theorem d7_lead_2 : decode cX7_lead 2 = .ok (.lconst 0, 1) := by decide +kernel
theorem d7_lead_3 : decode cX7_lead 3 = .ok (.lconst 1, 1) := by decide +kernel
theorem d7_lead_4 : decode cX7_lead 4 = .ok (.invokestatic 113, 3) := by decide +kernel
theorem d7_lead_7 : decode cX7_lead 7 = .ok (.ifCond .ne 5, 3) := by decide +kernel
theorem d7_lead_10 : decode cX7_lead 10 = .ok (.iconst (-1), 1) := by decide +kernel
theorem d7_lead_11 : decode cX7_lead 11 = .ok (.ireturn, 1) := by decide +kernel
theorem d7_lead_12 : decode cX7_lead 12 = .ok (.iconst 0, 1) := by decide +kernel
theorem d7_lead_13 : decode cX7_lead 13 = .ok (.istore_n 2, 1) := by decide +kernel
theorem d7_lead_14 : decode cX7_lead 14 = .ok (.aload_n 0, 1) := by decide +kernel
theorem d7_lead_15 : decode cX7_lead 15 = .ok (.iconst 4, 1) := by decide +kernel
theorem d7_lead_16 : decode cX7_lead 16 = .ok (.iconst 0, 1) := by decide +kernel
theorem d7_lead_17 : decode cX7_lead 17 = .ok (.invokevirtual 257, 3) := by decide +kernel
theorem d7_lead_20 : decode cX7_lead 20 = .ok (.istore_n 3, 1) := by decide +kernel
theorem d7_lead_21 : decode cX7_lead 21 = .ok (.iconst 1, 1) := by decide +kernel
theorem d7_lead_22 : decode cX7_lead 22 = .ok (.istore 4, 2) := by decide +kernel
theorem d7_lead_24 : decode cX7_lead 24 = .ok (.iload 4, 2) := by decide +kernel
theorem d7_lead_26 : decode cX7_lead 26 = .ok (.bipush 100, 2) := by decide +kernel
theorem d7_lead_28 : decode cX7_lead 28 = .ok (.if_icmp .ge 44, 3) := by decide +kernel
theorem d7_lead_31 : decode cX7_lead 31 = .ok (.aload_n 0, 1) := by decide +kernel
theorem d7_lead_32 : decode cX7_lead 32 = .ok (.iconst 4, 1) := by decide +kernel
theorem d7_lead_33 : decode cX7_lead 33 = .ok (.iload 4, 2) := by decide +kernel
theorem d7_lead_35 : decode cX7_lead 35 = .ok (.invokevirtual 257, 3) := by decide +kernel
theorem d7_lead_38 : decode cX7_lead 38 = .ok (.istore 5, 2) := by decide +kernel
theorem d7_lead_40 : decode cX7_lead 40 = .ok (.iload 5, 2) := by decide +kernel
theorem d7_lead_42 : decode cX7_lead 42 = .ok (.iload_n 3, 1) := by decide +kernel
theorem d7_lead_43 : decode cX7_lead 43 = .ok (.if_icmp .ge 8, 3) := by decide +kernel
theorem d7_lead_46 : decode cX7_lead 46 = .ok (.iload 4, 2) := by decide +kernel
theorem d7_lead_48 : decode cX7_lead 48 = .ok (.goto 4, 3) := by decide +kernel
theorem d7_lead_51 : decode cX7_lead 51 = .ok (.iload_n 2, 1) := by decide +kernel
theorem d7_lead_52 : decode cX7_lead 52 = .ok (.istore_n 2, 1) := by decide +kernel
theorem d7_lead_53 : decode cX7_lead 53 = .ok (.iload 5, 2) := by decide +kernel
theorem d7_lead_55 : decode cX7_lead 55 = .ok (.iload_n 3, 1) := by decide +kernel
theorem d7_lead_56 : decode cX7_lead 56 = .ok (.if_icmp .ge 8, 3) := by decide +kernel
theorem d7_lead_59 : decode cX7_lead 59 = .ok (.iload 5, 2) := by decide +kernel
theorem d7_lead_61 : decode cX7_lead 61 = .ok (.goto 4, 3) := by decide +kernel
theorem d7_lead_64 : decode cX7_lead 64 = .ok (.iload_n 3, 1) := by decide +kernel
theorem d7_lead_65 : decode cX7_lead 65 = .ok (.istore_n 3, 1) := by decide +kernel
theorem d7_lead_66 : decode cX7_lead 66 = .ok (.iinc 4 1, 3) := by decide +kernel
theorem d7_lead_69 : decode cX7_lead 69 = .ok (.goto (-45), 3) := by decide +kernel
theorem d7_lead_72 : decode cX7_lead 72 = .ok (.iload_n 1, 1) := by decide +kernel
theorem d7_lead_73 : decode cX7_lead 73 = .ok (.ifCond .ne 7, 3) := by decide +kernel
theorem d7_lead_76 : decode cX7_lead 76 = .ok (.iload_n 2, 1) := by decide +kernel
theorem d7_lead_77 : decode cX7_lead 77 = .ok (.goto 4, 3) := by decide +kernel
theorem d7_lead_80 : decode cX7_lead 80 = .ok (.iload_n 3, 1) := by decide +kernel
theorem d7_lead_81 : decode cX7_lead 81 = .ok (.ireturn, 1) := by decide +kernel
def f7_lead_b52 (k24 : Mem → Int32 → Int32 → Int32 → Int32 → Option (Mem × Int32)) (σ : Mem) (x1 : Int32) (x3 : Int32) (x4 : Int32) (x5 : Int32) (s0 : Int32) : Option (Mem × Int32) := if x3 ≤ x5 then k24 σ x1 s0 x3 (x4 + 1) else k24 σ x1 s0 x5 (x4 + 1)
set_option maxHeartbeats 4000000 in
set_option maxRecDepth 100000 in
theorem t7_lead_b52 {p : Program} {l : Launch} {e : Env} {s : State} {m : MethodId} {args : Array Value} {below : List Frame} {meth : Method} {c : Code} {w : WV} {σ' : Mem} {r : Int32} {k24 : Mem → Int32 → Int32 → Int32 → Int32 → Option (Mem × Int32)} (S : CallFix p m c cX7_lead 6 s args gtbl RX7) (hr : meth.sig.returnType = (some .int)) (hlk : meth.locks = false) (hK : KS LM w s) (hk24 : ∀ (σ : Mem) (x1 : Int32) (x2 : Int32) (x3 : Int32) (x4 : Int32), k24 σ x1 x2 x3 x4 = some (σ', r) → ∀ (H : Heap) (locs : List Loc), Rp EM LM w σ H → va_S (AW LM w) s.heap H locs → ∀ (ls : Array Slot), lv_has ls 6 [(0, .ref (w.2.2 0)), (1, .int x1), (2, .int x2), (3, .int x3), (4, .int x4)] → W p l e rm7_lead s m args below meth c H locs 0 0 (MQ below (Qw EM LM w σ' (some (.int r))) args s 0 0 (AW LM w)) (F0 m 24 ls [])) : ∀ (σ : Mem) (x1 : Int32) (x3 : Int32) (x4 : Int32) (x5 : Int32) (s0 : Int32), f7_lead_b52 k24 σ x1 x3 x4 x5 s0 = some (σ', r) → ∀ (H : Heap) (locs : List Loc), Rp EM LM w σ H → va_S (AW LM w) s.heap H locs → ∀ (ls : Array Slot), lv_has ls 6 [(0, .ref (w.2.2 0)), (1, .int x1), (3, .int x3), (4, .int x4), (5, .int x5)] → W p l e rm7_lead s m args below meth c H locs 0 0 (MQ below (Qw EM LM w σ' (some (.int r))) args s 0 0 (AW LM w)) (F0 m 52 ls [.int s0]) := by
  obtain ⟨hx, hb, hml, hown, hts⟩ := id S
  intro σ x1 x3 x4 x5 s0 h0 H locs hR hS ls hl
  unfold f7_lead_b52 at h0
  refine lv_istore_n (lv' := [(2, .int s0), (0, .ref (w.2.2 0)), (1, .int x1), (3, .int x3), (4, .int x4), (5, .int x5)]) hx hb d7_lead_52 rfl hl (by decide) rfl (fun ls hl => ?_)
  refine lv_iload hx hb d7_lead_53 (lv_at hl 5 rfl) ?_
  refine lv_iload_n hx hb d7_lead_55 rfl (lv_at hl 3 rfl) ?_
  refine lv_icmp_ge (tgt := 64) hx hb d7_lead_56 (by decide) (fun hc1 => ?_) (fun hc1 => ?_)
  · have h0 := og_t hc1 h0
    refine lv_iload_n hx hb d7_lead_64 rfl (lv_at hl 3 rfl) ?_
    refine lv_istore_n (lv' := [(3, .int x3), (2, .int s0), (0, .ref (w.2.2 0)), (1, .int x1), (4, .int x4), (5, .int x5)]) hx hb d7_lead_65 rfl hl (by decide) rfl (fun ls hl => ?_)
    refine lv_iinc (v := x4 + 1) (lv' := [(4, .int (x4 + 1)), (3, .int x3), (2, .int s0), (0, .ref (w.2.2 0)), (1, .int x1), (5, .int x5)]) hx hb d7_lead_66 hl (k := 4) rfl (ii1 _) (by decide) rfl (fun ls hl => ?_)
    refine lv_goto (tgt := 24) hx hb d7_lead_69 (by decide) ?_
    exact hk24 σ x1 s0 x3 (x4 + 1) h0 _ _ hR hS _ (lv_sub hl [3, 4, 2, 1, 0] rfl)
  · have h0 := og_f hc1 h0
    refine lv_iload hx hb d7_lead_59 (lv_at hl 5 rfl) ?_
    refine lv_goto (tgt := 65) hx hb d7_lead_61 (by decide) ?_
    refine lv_istore_n (lv' := [(3, .int x5), (2, .int s0), (0, .ref (w.2.2 0)), (1, .int x1), (4, .int x4), (5, .int x5)]) hx hb d7_lead_65 rfl hl (by decide) rfl (fun ls hl => ?_)
    refine lv_iinc (v := x4 + 1) (lv' := [(4, .int (x4 + 1)), (3, .int x5), (2, .int s0), (0, .ref (w.2.2 0)), (1, .int x1), (5, .int x5)]) hx hb d7_lead_66 hl (k := 4) rfl (ii1 _) (by decide) rfl (fun ls hl => ?_)
    refine lv_goto (tgt := 24) hx hb d7_lead_69 (by decide) ?_
    exact hk24 σ x1 s0 x5 (x4 + 1) h0 _ _ hR hS _ (lv_sub hl [3, 4, 2, 1, 0] rfl)
def f7_lead_b24 : Nat → Mem → Int32 → Int32 → Int32 → Int32 → Option (Mem × Int32)
  | 0, _, _, _, _, _ => none
  | n + 1, σ, x1, x2, x3, x4 => if 100 ≤ x4 then if x1 = 0 then some (σ, x2) else some (σ, x3) else ob (f7_costBy σ 4 x4) fun σ2 r2 => if x3 ≤ r2 then f7_lead_b52 (f7_lead_b24 n) σ2 x1 x3 x4 r2 x2 else f7_lead_b52 (f7_lead_b24 n) σ2 x1 x3 x4 r2 x4
set_option maxHeartbeats 4000000 in
set_option maxRecDepth 100000 in
theorem t7_lead_b24 {p : Program} {l : Launch} {e : Env} {s : State} {m : MethodId} {args : Array Value} {below : List Frame} {meth : Method} {c : Code} {w : WV} {σ' : Mem} {r : Int32} (S : CallFix p m c cX7_lead 6 s args gtbl RX7) (hr : meth.sig.returnType = (some .int)) (hlk : meth.locks = false) (hK : KS LM w s) : ∀ (n : Nat), ∀ (σ : Mem) (x1 : Int32) (x2 : Int32) (x3 : Int32) (x4 : Int32), f7_lead_b24  n σ x1 x2 x3 x4 = some (σ', r) → ∀ (H : Heap) (locs : List Loc), Rp EM LM w σ H → va_S (AW LM w) s.heap H locs → ∀ (ls : Array Slot), lv_has ls 6 [(0, .ref (w.2.2 0)), (1, .int x1), (2, .int x2), (3, .int x3), (4, .int x4)] → W p l e rm7_lead s m args below meth c H locs 0 0 (MQ below (Qw EM LM w σ' (some (.int r))) args s 0 0 (AW LM w)) (F0 m 24 ls []) := by
  obtain ⟨hx, hb, hml, hown, hts⟩ := id S
  intro n
  induction n with
  | zero =>
    intro σ x1 x2 x3 x4 h0
    cases (show none = _ from h0)
  | succ n ih =>
    intro σ x1 x2 x3 x4 h0 H locs hR hS ls hl
    rw [f7_lead_b24] at h0
    refine lv_iload hx hb d7_lead_24 (lv_at hl 4 rfl) ?_
    refine lv_bipush (v := 100) hx hb d7_lead_26 (by decide) ?_
    refine lv_icmp_ge (tgt := 72) hx hb d7_lead_28 (by decide) (fun hc1 => ?_) (fun hc1 => ?_)
    · have h0 := og_t hc1 h0
      refine lv_iload_n hx hb d7_lead_72 rfl (lv_at hl 1 rfl) ?_
      refine lv_if_ne (tgt := 80) hx hb d7_lead_73 (by decide) (fun hc2 => ?_) (fun hc2 => ?_)
      · have h0 := og_f hc2 h0
        refine lv_iload_n hx hb d7_lead_80 rfl (lv_at hl 3 rfl) ?_
        exact q_iret S hr hlk hR hS h0 d7_lead_81
      · have h0 := og_t hc2 h0
        refine lv_iload_n hx hb d7_lead_76 rfl (lv_at hl 2 rfl) ?_
        refine lv_goto (tgt := 81) hx hb d7_lead_77 (by decide) ?_
        exact q_iret S hr hlk hR hS h0 d7_lead_81
    · have h0 := og_f hc1 h0
      refine lv_aload_n hx hb d7_lead_31 rfl (lv_at hl 0 rfl) ?_
      refine lv_iconst (v := 4) hx hb d7_lead_32 (by decide) ?_
      refine lv_iload hx hb d7_lead_33 (lv_at hl 4 rfl) ?_
      obtain ⟨σ2, r2, hr2, h0⟩ := og_o h0
      refine k7_257 S hK hR hS  hr2 ⟨Nat.zero_le _, Nat.zero_le _⟩ ⟨Nat.le_of_ble_eq_true rfl, Nat.le_of_ble_eq_true rfl⟩ hl.1 (Nat.le_of_ble_eq_true rfl) d7_lead_35 (fun H locs hR hS => ?_)
      refine lv_istore (lv' := [(5, .int r2), (0, .ref (w.2.2 0)), (1, .int x1), (2, .int x2), (3, .int x3), (4, .int x4)]) hx hb d7_lead_38 hl (by decide) rfl (fun ls hl => ?_)
      refine lv_iload hx hb d7_lead_40 (lv_at hl 0 rfl) ?_
      refine lv_iload_n hx hb d7_lead_42 rfl (lv_at hl 4 rfl) ?_
      refine lv_icmp_ge (tgt := 51) hx hb d7_lead_43 (by decide) (fun hc3 => ?_) (fun hc3 => ?_)
      · have h0 := og_t hc3 h0
        refine lv_iload_n hx hb d7_lead_51 rfl (lv_at hl 3 rfl) ?_
        exact t7_lead_b52 S hr hlk hK ih σ2 x1 x3 x4 r2 x2 h0 _ _ hR hS _ (lv_sub hl [1, 2, 4, 5, 0] rfl)
      · have h0 := og_f hc3 h0
        refine lv_iload hx hb d7_lead_46 (lv_at hl 5 rfl) ?_
        refine lv_goto (tgt := 52) hx hb d7_lead_48 (by decide) ?_
        exact t7_lead_b52 S hr hlk hK ih σ2 x1 x3 x4 r2 x4 h0 _ _ hR hS _ (lv_sub hl [1, 2, 4, 5, 0] rfl)
def f7_lead (σ : Mem) (x1 : Int32) : Option (Mem × Int32) := Option.bind (f7_in x1.toInt64 (0 : Int64) (1 : Int64)) fun r1 => if r1 = 0 then some (σ, (-1)) else ob (f7_costBy σ 4 0) fun σ3 r3 => f7_lead_b24 1000 σ3 x1 0 r3 1
set_option maxHeartbeats 4000000 in
set_option maxRecDepth 100000 in
theorem c7_lead (l : Launch) {w : WV} {σ : Mem} {x1 : Int32} {σ' : Mem} {r : Int32} (h0 : f7_lead σ x1 = some (σ', r)) : Met l yX7_lead (wy yX7_lead cX7_lead 6 (some .int)) rm7_lead (Pw EM LM w [.ref (w.2.2 0), .int x1] σ) (Qw EM LM w σ' (some (.int r))) 0 0 (AW LM w) := by
  refine mk_met (by decide) (Nat.le_of_ble_eq_true rfl) ?_
  intro p e s m below meth c S hr hlk hK hR ls hl
  obtain ⟨hx, hb, hml, hown, hts⟩ := id S
  have hl : lv_has ls 6 [(0, .ref (w.2.2 0)), (1, .int x1)] := hl
  have hS : va_S (AW LM w) s.heap s.heap [] := va_S.rf
  unfold f7_lead at h0
  refine lv_iload_n hx hb d7_lead_0 rfl (lv_at hl 1 rfl) ?_
  refine lv_i2l hx hb d7_lead_1 rfl ?_
  refine lv_lconst (v := 0) hx hb d7_lead_2 (by decide) ?_
  refine lv_lconst (v := 1) hx hb d7_lead_3 (by decide) ?_
  obtain ⟨r1, hr1, h0⟩ := og_b h0
  refine k7_113 S  hr1 ⟨Nat.zero_le _, Nat.zero_le _⟩ ⟨Nat.le_of_ble_eq_true rfl, Nat.le_of_ble_eq_true rfl⟩ hl.1 (Nat.le_of_ble_eq_true rfl) d7_lead_4 ?_
  refine lv_if_ne (tgt := 12) hx hb d7_lead_7 (by decide) (fun hc2 => ?_) (fun hc2 => ?_)
  · have h0 := og_f hc2 h0
    refine lv_iconst (v := 0) hx hb d7_lead_12 (by decide) ?_
    refine lv_istore_n (lv' := [(2, .int 0), (0, .ref (w.2.2 0)), (1, .int x1)]) hx hb d7_lead_13 rfl hl (by decide) rfl (fun ls hl => ?_)
    refine lv_aload_n hx hb d7_lead_14 rfl (lv_at hl 1 rfl) ?_
    refine lv_iconst (v := 4) hx hb d7_lead_15 (by decide) ?_
    refine lv_iconst (v := 0) hx hb d7_lead_16 (by decide) ?_
    obtain ⟨σ3, r3, hr3, h0⟩ := og_o h0
    refine k7_257 S hK hR hS  hr3 ⟨Nat.zero_le _, Nat.zero_le _⟩ ⟨Nat.le_of_ble_eq_true rfl, Nat.le_of_ble_eq_true rfl⟩ hl.1 (Nat.le_of_ble_eq_true rfl) d7_lead_17 (fun H locs hR hS => ?_)
    refine lv_istore_n (lv' := [(3, .int r3), (2, .int 0), (0, .ref (w.2.2 0)), (1, .int x1)]) hx hb d7_lead_20 rfl hl (by decide) rfl (fun ls hl => ?_)
    refine lv_iconst (v := 1) hx hb d7_lead_21 (by decide) ?_
    refine lv_istore (lv' := [(4, .int 1), (3, .int r3), (2, .int 0), (0, .ref (w.2.2 0)), (1, .int x1)]) hx hb d7_lead_22 hl (by decide) rfl (fun ls hl => ?_)
    exact t7_lead_b24 S hr hlk hK 1000 σ3 x1 0 r3 1 h0 _ _ hR hS _ (lv_sub hl [3, 4, 2, 1, 0] rfl)
  · have h0 := og_t hc2 h0
    refine lv_iconst (v := (-1)) hx hb d7_lead_10 (by decide) ?_
    exact q_iret S hr hlk hR hS h0 d7_lead_11
/-! FourTenGatesModel.more(III)I -/
abbrev rm7_more : Room := { frames := 7, cells := 0, slots := 0, locals := 161 }
theorem d7_more_0 : decode cX7_more 0 = .ok (.iload_n 1, 1) := by decide +kernel
theorem d7_more_1 : decode cX7_more 1 = .ok (.invokestatic 252, 3) := by decide +kernel
theorem d7_more_4 : decode cX7_more 4 = .ok (.ifCond .eq 23, 3) := by decide +kernel
theorem d7_more_7 : decode cX7_more 7 = .ok (.aload_n 0, 1) := by decide +kernel
theorem d7_more_8 : decode cX7_more 8 = .ok (.iload_n 2, 1) := by decide +kernel
theorem d7_more_9 : decode cX7_more 9 = .ok (.invokevirtual 173, 3) := by decide +kernel
theorem d7_more_12 : decode cX7_more 12 = .ok (.ifCond .eq 15, 3) := by decide +kernel
theorem d7_more_15 : decode cX7_more 15 = .ok (.iload_n 3, 1) := by decide +kernel
theorem d7_more_16 : decode cX7_more 16 = .ok (.i2l, 1) := by decide +kernel
theorem d7_more_17 : decode cX7_more 17 = .ok (.lconst 1, 1) := by decide +kernel
theorem d7_more_18 : decode cX7_more 18 = .ok (.ldc2_w 270, 3) := by decide +kernel
theorem d7_more_21 : decode cX7_more 21 = .ok (.invokestatic 113, 3) := by decide +kernel
theorem d7_more_24 : decode cX7_more 24 = .ok (.ifCond .ne 5, 3) := by decide +kernel
theorem d7_more_27 : decode cX7_more 27 = .ok (.iconst (-1), 1) := by decide +kernel
theorem d7_more_28 : decode cX7_more 28 = .ok (.ireturn, 1) := by decide +kernel
theorem d7_more_29 : decode cX7_more 29 = .ok (.aload_n 0, 1) := by decide +kernel
theorem d7_more_30 : decode cX7_more 30 = .ok (.getfield 55, 3) := by decide +kernel
theorem d7_more_33 : decode cX7_more 33 = .ok (.iload_n 2, 1) := by decide +kernel
theorem d7_more_34 : decode cX7_more 34 = .ok (.iaload, 1) := by decide +kernel
theorem d7_more_35 : decode cX7_more 35 = .ok (.iload_n 3, 1) := by decide +kernel
theorem d7_more_36 : decode cX7_more 36 = .ok (.iadd, 1) := by decide +kernel
theorem d7_more_37 : decode cX7_more 37 = .ok (.bipush 30, 2) := by decide +kernel
theorem d7_more_39 : decode cX7_more 39 = .ok (.if_icmp .le 6, 3) := by decide +kernel
theorem d7_more_42 : decode cX7_more 42 = .ok (.bipush (-2), 2) := by decide +kernel
theorem d7_more_44 : decode cX7_more 44 = .ok (.ireturn, 1) := by decide +kernel
theorem d7_more_45 : decode cX7_more 45 = .ok (.aload_n 0, 1) := by decide +kernel
theorem d7_more_46 : decode cX7_more 46 = .ok (.iload_n 1, 1) := by decide +kernel
theorem d7_more_47 : decode cX7_more 47 = .ok (.iconst 0, 1) := by decide +kernel
theorem d7_more_48 : decode cX7_more 48 = .ok (.invokevirtual 257, 3) := by decide +kernel
theorem d7_more_51 : decode cX7_more 51 = .ok (.istore 4, 2) := by decide +kernel
theorem d7_more_53 : decode cX7_more 53 = .ok (.aload_n 0, 1) := by decide +kernel
theorem d7_more_54 : decode cX7_more 54 = .ok (.getfield 55, 3) := by decide +kernel
theorem d7_more_57 : decode cX7_more 57 = .ok (.iload_n 2, 1) := by decide +kernel
theorem d7_more_58 : decode cX7_more 58 = .ok (.dup2, 1) := by decide +kernel
theorem d7_more_59 : decode cX7_more 59 = .ok (.iaload, 1) := by decide +kernel
theorem d7_more_60 : decode cX7_more 60 = .ok (.iload_n 3, 1) := by decide +kernel
theorem d7_more_61 : decode cX7_more 61 = .ok (.iadd, 1) := by decide +kernel
theorem d7_more_62 : decode cX7_more 62 = .ok (.iastore, 1) := by decide +kernel
theorem d7_more_63 : decode cX7_more 63 = .ok (.aload_n 0, 1) := by decide +kernel
theorem d7_more_64 : decode cX7_more 64 = .ok (.iload_n 1, 1) := by decide +kernel
theorem d7_more_65 : decode cX7_more 65 = .ok (.iconst 0, 1) := by decide +kernel
theorem d7_more_66 : decode cX7_more 66 = .ok (.invokevirtual 257, 3) := by decide +kernel
theorem d7_more_69 : decode cX7_more 69 = .ok (.istore 5, 2) := by decide +kernel
theorem d7_more_71 : decode cX7_more 71 = .ok (.aload_n 0, 1) := by decide +kernel
theorem d7_more_72 : decode cX7_more 72 = .ok (.getfield 55, 3) := by decide +kernel
theorem d7_more_75 : decode cX7_more 75 = .ok (.iload_n 2, 1) := by decide +kernel
theorem d7_more_76 : decode cX7_more 76 = .ok (.dup2, 1) := by decide +kernel
theorem d7_more_77 : decode cX7_more 77 = .ok (.iaload, 1) := by decide +kernel
theorem d7_more_78 : decode cX7_more 78 = .ok (.iload_n 3, 1) := by decide +kernel
theorem d7_more_79 : decode cX7_more 79 = .ok (.isub, 1) := by decide +kernel
theorem d7_more_80 : decode cX7_more 80 = .ok (.iastore, 1) := by decide +kernel
theorem d7_more_81 : decode cX7_more 81 = .ok (.iload 5, 2) := by decide +kernel
theorem d7_more_83 : decode cX7_more 83 = .ok (.iload 4, 2) := by decide +kernel
theorem d7_more_85 : decode cX7_more 85 = .ok (.isub, 1) := by decide +kernel
theorem d7_more_86 : decode cX7_more 86 = .ok (.ldc_w 272, 3) := by decide +kernel
theorem d7_more_89 : decode cX7_more 89 = .ok (.iadd, 1) := by decide +kernel
theorem d7_more_90 : decode cX7_more 90 = .ok (.ireturn, 1) := by decide +kernel
def f7_more (σ : Mem) (x1 : Int32) (x2 : Int32) (x3 : Int32) : Option (Mem × Int32) := Option.bind (f7_isRule x1) fun r1 => if r1 = 0 then some (σ, (-1)) else Option.bind (f7_isTrain σ x2) fun r3 => if r3 = 0 then some (σ, (-1)) else Option.bind (f7_in x3.toInt64 (1 : Int64) (9 : Int64)) fun r5 => if r5 = 0 then some (σ, (-1)) else if ¬ (x2 < 0 ∨ 19 ≤ x2.toNatClampNeg) then if ((σ 17 x2.toNatClampNeg) + x3) ≤ 30 then ob (f7_costBy σ x1 0) fun σ9 r9 => if ¬ (x2 < 0 ∨ 19 ≤ x2.toNatClampNeg) then if ¬ (x2 < 0 ∨ 19 ≤ x2.toNatClampNeg) then (bm (mu σ9 17 x2.toNatClampNeg ((σ9 17 x2.toNatClampNeg) + x3)) fun σ12 => ob (f7_costBy σ12 x1 0) fun σ13 r13 => if ¬ (x2 < 0 ∨ 19 ≤ x2.toNatClampNeg) then if ¬ (x2 < 0 ∨ 19 ≤ x2.toNatClampNeg) then (bm (mu σ13 17 x2.toNatClampNeg ((σ13 17 x2.toNatClampNeg) - x3)) fun σ16 => some (σ16, (r13 - r9) + 99999)) else none else none) else none else none else some (σ, (-2)) else none
set_option maxHeartbeats 4000000 in
set_option maxRecDepth 100000 in
theorem c7_more (l : Launch) {w : WV} {σ : Mem} {x1 : Int32} {x2 : Int32} {x3 : Int32} {σ' : Mem} {r : Int32} (h0 : f7_more σ x1 x2 x3 = some (σ', r)) : Met l yX7_more (wy yX7_more cX7_more 6 (some .int)) rm7_more (Pw EM LM w [.ref (w.2.2 0), .int x1, .int x2, .int x3] σ) (Qw EM LM w σ' (some (.int r))) 0 0 (AW LM w) := by
  refine mk_met (by decide) (Nat.le_of_ble_eq_true rfl) ?_
  intro p e s m below meth c S hr hlk hK hR ls hl
  obtain ⟨hx, hb, hml, hown, hts⟩ := id S
  have hl : lv_has ls 6 [(0, .ref (w.2.2 0)), (1, .int x1), (2, .int x2), (3, .int x3)] := hl
  have hS : va_S (AW LM w) s.heap s.heap [] := va_S.rf
  unfold f7_more at h0
  refine lv_iload_n hx hb d7_more_0 rfl (lv_at hl 1 rfl) ?_
  obtain ⟨r1, hr1, h0⟩ := og_b h0
  refine k7_252 S  hr1 ⟨Nat.zero_le _, Nat.zero_le _⟩ ⟨Nat.le_of_ble_eq_true rfl, Nat.le_of_ble_eq_true rfl⟩ hl.1 (Nat.le_of_ble_eq_true rfl) d7_more_1 ?_
  refine lv_if_eq (tgt := 27) hx hb d7_more_4 (by decide) (fun hc2 => ?_) (fun hc2 => ?_)
  · have h0 := og_t hc2 h0
    refine lv_iconst (v := (-1)) hx hb d7_more_27 (by decide) ?_
    exact q_iret S hr hlk hR hS h0 d7_more_28
  · have h0 := og_f hc2 h0
    refine lv_aload_n hx hb d7_more_7 rfl (lv_at hl 0 rfl) ?_
    refine lv_iload_n hx hb d7_more_8 rfl (lv_at hl 2 rfl) ?_
    obtain ⟨r3, hr3, h0⟩ := og_b h0
    refine k7_173 S hK hR  hr3 ⟨Nat.zero_le _, Nat.zero_le _⟩ ⟨Nat.le_of_ble_eq_true rfl, Nat.le_of_ble_eq_true rfl⟩ hl.1 (Nat.le_of_ble_eq_true rfl) d7_more_9 ?_
    refine lv_if_eq (tgt := 27) hx hb d7_more_12 (by decide) (fun hc4 => ?_) (fun hc4 => ?_)
    · have h0 := og_t hc4 h0
      refine lv_iconst (v := (-1)) hx hb d7_more_27 (by decide) ?_
      exact q_iret S hr hlk hR hS h0 d7_more_28
    · have h0 := og_f hc4 h0
      refine lv_iload_n hx hb d7_more_15 rfl (lv_at hl 3 rfl) ?_
      refine lv_i2l hx hb d7_more_16 rfl ?_
      refine lv_lconst (v := 1) hx hb d7_more_17 (by decide) ?_
      refine lv_ldc2 (v := 9) hx hb hown (hts _ (gt_at 1238 (by decide +kernel) (by decide +kernel))) d7_more_18 ?_
      obtain ⟨r5, hr5, h0⟩ := og_b h0
      refine k7_113 S  hr5 ⟨Nat.zero_le _, Nat.zero_le _⟩ ⟨Nat.le_of_ble_eq_true rfl, Nat.le_of_ble_eq_true rfl⟩ hl.1 (Nat.le_of_ble_eq_true rfl) d7_more_21 ?_
      refine lv_if_ne (tgt := 29) hx hb d7_more_24 (by decide) (fun hc6 => ?_) (fun hc6 => ?_)
      · have h0 := og_f hc6 h0
        refine lv_aload_n hx hb d7_more_29 rfl (lv_at hl 0 rfl) ?_
        refine g7_55 S hK hR d7_more_30 ?_
        refine lv_iload_n hx hb d7_more_33 rfl (lv_at hl 2 rfl) ?_
        obtain ⟨hi7, h0⟩ := og_if h0
        refine q_ld (k := x2.toNatClampNeg) S hK hR (by decide) (eM_116 w _) hi7 rfl d7_more_34 ?_
        refine lv_iload_n hx hb d7_more_35 rfl (lv_at hl 3 rfl) ?_
        refine lv_iadd hx hb d7_more_36 ?_
        refine lv_bipush (v := 30) hx hb d7_more_37 (by decide) ?_
        refine lv_icmp_le (tgt := 45) hx hb d7_more_39 (by decide) (fun hc8 => ?_) (fun hc8 => ?_)
        · have h0 := og_t hc8 h0
          refine lv_aload_n hx hb d7_more_45 rfl (lv_at hl 0 rfl) ?_
          refine lv_iload_n hx hb d7_more_46 rfl (lv_at hl 1 rfl) ?_
          refine lv_iconst (v := 0) hx hb d7_more_47 (by decide) ?_
          obtain ⟨σ9, r9, hr9, h0⟩ := og_o h0
          refine k7_257 S hK hR hS  hr9 ⟨Nat.zero_le _, Nat.zero_le _⟩ ⟨Nat.le_of_ble_eq_true rfl, Nat.le_of_ble_eq_true rfl⟩ hl.1 (Nat.le_of_ble_eq_true rfl) d7_more_48 (fun H locs hR hS => ?_)
          refine lv_istore (lv' := [(4, .int r9), (0, .ref (w.2.2 0)), (1, .int x1), (2, .int x2), (3, .int x3)]) hx hb d7_more_51 hl (by decide) rfl (fun ls hl => ?_)
          refine lv_aload_n hx hb d7_more_53 rfl (lv_at hl 1 rfl) ?_
          refine g7_55 S hK hR d7_more_54 ?_
          refine lv_iload_n hx hb d7_more_57 rfl (lv_at hl 3 rfl) ?_
          refine lv_dup2_11 hx hb d7_more_58 rfl rfl ?_
          obtain ⟨hi10, h0⟩ := og_if h0
          refine q_ld (k := x2.toNatClampNeg) S hK hR (by decide) (eM_116 w _) hi10 rfl d7_more_59 ?_
          refine lv_iload_n hx hb d7_more_60 rfl (lv_at hl 4 rfl) ?_
          refine lv_iadd hx hb d7_more_61 ?_
          obtain ⟨hi11, h0⟩ := og_if h0
          obtain ⟨σ12, hm12, h0⟩ := og_m h0
          refine q_st S hK hR hS (by decide) (eM_116 w) hi11 rfl hm12 d7_more_62 (fun H locs hR hS => ?_)
          refine lv_aload_n hx hb d7_more_63 rfl (lv_at hl 1 rfl) ?_
          refine lv_iload_n hx hb d7_more_64 rfl (lv_at hl 2 rfl) ?_
          refine lv_iconst (v := 0) hx hb d7_more_65 (by decide) ?_
          obtain ⟨σ13, r13, hr13, h0⟩ := og_o h0
          refine k7_257 S hK hR hS  hr13 ⟨Nat.zero_le _, Nat.zero_le _⟩ ⟨Nat.le_of_ble_eq_true rfl, Nat.le_of_ble_eq_true rfl⟩ hl.1 (Nat.le_of_ble_eq_true rfl) d7_more_66 (fun H locs hR hS => ?_)
          refine lv_istore (lv' := [(5, .int r13), (4, .int r9), (0, .ref (w.2.2 0)), (1, .int x1), (2, .int x2), (3, .int x3)]) hx hb d7_more_69 hl (by decide) rfl (fun ls hl => ?_)
          refine lv_aload_n hx hb d7_more_71 rfl (lv_at hl 2 rfl) ?_
          refine g7_55 S hK hR d7_more_72 ?_
          refine lv_iload_n hx hb d7_more_75 rfl (lv_at hl 4 rfl) ?_
          refine lv_dup2_11 hx hb d7_more_76 rfl rfl ?_
          obtain ⟨hi14, h0⟩ := og_if h0
          refine q_ld (k := x2.toNatClampNeg) S hK hR (by decide) (eM_116 w _) hi14 rfl d7_more_77 ?_
          refine lv_iload_n hx hb d7_more_78 rfl (lv_at hl 5 rfl) ?_
          refine lv_isub hx hb d7_more_79 ?_
          obtain ⟨hi15, h0⟩ := og_if h0
          obtain ⟨σ16, hm16, h0⟩ := og_m h0
          refine q_st S hK hR hS (by decide) (eM_116 w) hi15 rfl hm16 d7_more_80 (fun H locs hR hS => ?_)
          refine lv_iload hx hb d7_more_81 (lv_at hl 0 rfl) ?_
          refine lv_iload hx hb d7_more_83 (lv_at hl 1 rfl) ?_
          refine lv_isub hx hb d7_more_85 ?_
          refine lv_ldcw (v := 99999) hx hb hown (hts _ (gt_at 1239 (by decide +kernel) (by decide +kernel))) d7_more_86 ?_
          refine lv_iadd hx hb d7_more_89 ?_
          exact q_iret S hr hlk hR hS h0 d7_more_90
        · have h0 := og_f hc8 h0
          refine lv_bipush (v := (-2)) hx hb d7_more_42 (by decide) ?_
          exact q_iret S hr hlk hR hS h0 d7_more_44
      · have h0 := og_t hc6 h0
        refine lv_iconst (v := (-1)) hx hb d7_more_27 (by decide) ?_
        exact q_iret S hr hlk hR hS h0 d7_more_28
/-! FourTenGatesModel.dinner(II)I -/
abbrev rm7_dinner : Room := { frames := 6, cells := 0, slots := 0, locals := 139 }
theorem d7_dinner_0 : decode cX7_dinner 0 = .ok (.iload_n 1, 1) := by decide +kernel
theorem d7_dinner_1 : decode cX7_dinner 1 = .ok (.invokestatic 252, 3) := by decide +kernel
theorem d7_dinner_4 : decode cX7_dinner 4 = .ok (.ifCond .eq 13, 3) := by decide +kernel
theorem d7_dinner_7 : decode cX7_dinner 7 = .ok (.iload_n 2, 1) := by decide +kernel
theorem d7_dinner_8 : decode cX7_dinner 8 = .ok (.i2l, 1) := by decide +kernel
theorem d7_dinner_9 : decode cX7_dinner 9 = .ok (.lconst 0, 1) := by decide +kernel
theorem d7_dinner_10 : decode cX7_dinner 10 = .ok (.lconst 1, 1) := by decide +kernel
theorem d7_dinner_11 : decode cX7_dinner 11 = .ok (.invokestatic 113, 3) := by decide +kernel
theorem d7_dinner_14 : decode cX7_dinner 14 = .ok (.ifCond .ne 5, 3) := by decide +kernel
theorem d7_dinner_17 : decode cX7_dinner 17 = .ok (.iconst (-1), 1) := by decide +kernel
theorem d7_dinner_18 : decode cX7_dinner 18 = .ok (.ireturn, 1) := by decide +kernel
theorem d7_dinner_19 : decode cX7_dinner 19 = .ok (.aload_n 0, 1) := by decide +kernel
theorem d7_dinner_20 : decode cX7_dinner 20 = .ok (.iload_n 1, 1) := by decide +kernel
theorem d7_dinner_21 : decode cX7_dinner 21 = .ok (.iconst 0, 1) := by decide +kernel
theorem d7_dinner_22 : decode cX7_dinner 22 = .ok (.invokevirtual 245, 3) := by decide +kernel
theorem d7_dinner_25 : decode cX7_dinner 25 = .ok (.iconst 0, 1) := by decide +kernel
theorem d7_dinner_26 : decode cX7_dinner 26 = .ok (.istore_n 3, 1) := by decide +kernel
theorem d7_dinner_27 : decode cX7_dinner 27 = .ok (.bipush (-4), 2) := by decide +kernel
theorem d7_dinner_29 : decode cX7_dinner 29 = .ok (.istore 4, 2) := by decide +kernel
theorem d7_dinner_31 : decode cX7_dinner 31 = .ok (.iconst 0, 1) := by decide +kernel
theorem d7_dinner_32 : decode cX7_dinner 32 = .ok (.istore 5, 2) := by decide +kernel
theorem d7_dinner_34 : decode cX7_dinner 34 = .ok (.iconst 0, 1) := by decide +kernel
theorem d7_dinner_35 : decode cX7_dinner 35 = .ok (.istore 6, 2) := by decide +kernel
theorem d7_dinner_37 : decode cX7_dinner 37 = .ok (.iload 6, 2) := by decide +kernel
theorem d7_dinner_39 : decode cX7_dinner 39 = .ok (.sipush 360, 3) := by decide +kernel
theorem d7_dinner_42 : decode cX7_dinner 42 = .ok (.if_icmp .ge 47, 3) := by decide +kernel
theorem d7_dinner_45 : decode cX7_dinner 45 = .ok (.aload_n 0, 1) := by decide +kernel
theorem d7_dinner_46 : decode cX7_dinner 46 = .ok (.getfield 73, 3) := by decide +kernel
theorem d7_dinner_49 : decode cX7_dinner 49 = .ok (.iload 6, 2) := by decide +kernel
theorem d7_dinner_51 : decode cX7_dinner 51 = .ok (.iaload, 1) := by decide +kernel
theorem d7_dinner_52 : decode cX7_dinner 52 = .ok (.ifCond .ne 10, 3) := by decide +kernel
theorem d7_dinner_55 : decode cX7_dinner 55 = .ok (.iload 5, 2) := by decide +kernel
theorem d7_dinner_57 : decode cX7_dinner 57 = .ok (.iconst 1, 1) := by decide +kernel
theorem d7_dinner_58 : decode cX7_dinner 58 = .ok (.iadd, 1) := by decide +kernel
theorem d7_dinner_59 : decode cX7_dinner 59 = .ok (.goto 4, 3) := by decide +kernel
theorem d7_dinner_62 : decode cX7_dinner 62 = .ok (.iconst 0, 1) := by decide +kernel
theorem d7_dinner_63 : decode cX7_dinner 63 = .ok (.istore 5, 2) := by decide +kernel
theorem d7_dinner_65 : decode cX7_dinner 65 = .ok (.iload 5, 2) := by decide +kernel
theorem d7_dinner_67 : decode cX7_dinner 67 = .ok (.iload_n 3, 1) := by decide +kernel
theorem d7_dinner_68 : decode cX7_dinner 68 = .ok (.if_icmp .le 15, 3) := by decide +kernel
theorem d7_dinner_71 : decode cX7_dinner 71 = .ok (.iload 5, 2) := by decide +kernel
theorem d7_dinner_73 : decode cX7_dinner 73 = .ok (.istore_n 3, 1) := by decide +kernel
theorem d7_dinner_74 : decode cX7_dinner 74 = .ok (.iload 6, 2) := by decide +kernel
theorem d7_dinner_76 : decode cX7_dinner 76 = .ok (.iload 5, 2) := by decide +kernel
theorem d7_dinner_78 : decode cX7_dinner 78 = .ok (.isub, 1) := by decide +kernel
theorem d7_dinner_79 : decode cX7_dinner 79 = .ok (.iconst 1, 1) := by decide +kernel
theorem d7_dinner_80 : decode cX7_dinner 80 = .ok (.iadd, 1) := by decide +kernel
theorem d7_dinner_81 : decode cX7_dinner 81 = .ok (.istore 4, 2) := by decide +kernel
theorem d7_dinner_83 : decode cX7_dinner 83 = .ok (.iinc 6 1, 3) := by decide +kernel
theorem d7_dinner_86 : decode cX7_dinner 86 = .ok (.goto (-49), 3) := by decide +kernel
theorem d7_dinner_89 : decode cX7_dinner 89 = .ok (.iload_n 3, 1) := by decide +kernel
theorem d7_dinner_90 : decode cX7_dinner 90 = .ok (.ifCond .eq 8, 3) := by decide +kernel
theorem d7_dinner_93 : decode cX7_dinner 93 = .ok (.iload_n 2, 1) := by decide +kernel
theorem d7_dinner_94 : decode cX7_dinner 94 = .ok (.iconst 1, 1) := by decide +kernel
theorem d7_dinner_95 : decode cX7_dinner 95 = .ok (.if_icmp .ne 8, 3) := by decide +kernel
theorem d7_dinner_98 : decode cX7_dinner 98 = .ok (.iload 4, 2) := by decide +kernel
theorem d7_dinner_100 : decode cX7_dinner 100 = .ok (.goto 4, 3) := by decide +kernel
theorem d7_dinner_103 : decode cX7_dinner 103 = .ok (.iload_n 3, 1) := by decide +kernel
theorem d7_dinner_104 : decode cX7_dinner 104 = .ok (.ireturn, 1) := by decide +kernel
def f7_dinner_b63 (k37 : Mem → Int32 → Int32 → Int32 → Int32 → Int32 → Option (Mem × Int32)) (σ : Mem) (x2 : Int32) (x3 : Int32) (x4 : Int32) (x6 : Int32) (s0 : Int32) : Option (Mem × Int32) := if s0 ≤ x3 then k37 σ x2 x3 x4 s0 (x6 + 1) else k37 σ x2 s0 ((x6 - s0) + 1) s0 (x6 + 1)
set_option maxHeartbeats 4000000 in
set_option maxRecDepth 100000 in
theorem t7_dinner_b63 {p : Program} {l : Launch} {e : Env} {s : State} {m : MethodId} {args : Array Value} {below : List Frame} {meth : Method} {c : Code} {w : WV} {σ' : Mem} {r : Int32} {k37 : Mem → Int32 → Int32 → Int32 → Int32 → Int32 → Option (Mem × Int32)} (S : CallFix p m c cX7_dinner 7 s args gtbl RX7) (hr : meth.sig.returnType = (some .int)) (hlk : meth.locks = false) (hK : KS LM w s) (hk37 : ∀ (σ : Mem) (x2 : Int32) (x3 : Int32) (x4 : Int32) (x5 : Int32) (x6 : Int32), k37 σ x2 x3 x4 x5 x6 = some (σ', r) → ∀ (H : Heap) (locs : List Loc), Rp EM LM w σ H → va_S (AW LM w) s.heap H locs → ∀ (ls : Array Slot), lv_has ls 7 [(0, .ref (w.2.2 0)), (2, .int x2), (3, .int x3), (4, .int x4), (5, .int x5), (6, .int x6)] → W p l e rm7_dinner s m args below meth c H locs 0 0 (MQ below (Qw EM LM w σ' (some (.int r))) args s 0 0 (AW LM w)) (F0 m 37 ls [])) : ∀ (σ : Mem) (x2 : Int32) (x3 : Int32) (x4 : Int32) (x6 : Int32) (s0 : Int32), f7_dinner_b63 k37 σ x2 x3 x4 x6 s0 = some (σ', r) → ∀ (H : Heap) (locs : List Loc), Rp EM LM w σ H → va_S (AW LM w) s.heap H locs → ∀ (ls : Array Slot), lv_has ls 7 [(0, .ref (w.2.2 0)), (2, .int x2), (3, .int x3), (4, .int x4), (6, .int x6)] → W p l e rm7_dinner s m args below meth c H locs 0 0 (MQ below (Qw EM LM w σ' (some (.int r))) args s 0 0 (AW LM w)) (F0 m 63 ls [.int s0]) := by
  obtain ⟨hx, hb, hml, hown, hts⟩ := id S
  intro σ x2 x3 x4 x6 s0 h0 H locs hR hS ls hl
  unfold f7_dinner_b63 at h0
  refine lv_istore (lv' := [(5, .int s0), (0, .ref (w.2.2 0)), (2, .int x2), (3, .int x3), (4, .int x4), (6, .int x6)]) hx hb d7_dinner_63 hl (by decide) rfl (fun ls hl => ?_)
  refine lv_iload hx hb d7_dinner_65 (lv_at hl 0 rfl) ?_
  refine lv_iload_n hx hb d7_dinner_67 rfl (lv_at hl 3 rfl) ?_
  refine lv_icmp_le (tgt := 83) hx hb d7_dinner_68 (by decide) (fun hc1 => ?_) (fun hc1 => ?_)
  · have h0 := og_t hc1 h0
    refine lv_iinc (v := x6 + 1) (lv' := [(6, .int (x6 + 1)), (5, .int s0), (0, .ref (w.2.2 0)), (2, .int x2), (3, .int x3), (4, .int x4)]) hx hb d7_dinner_83 hl (k := 5) rfl (ii1 _) (by decide) rfl (fun ls hl => ?_)
    refine lv_goto (tgt := 37) hx hb d7_dinner_86 (by decide) ?_
    exact hk37 σ x2 x3 x4 s0 (x6 + 1) h0 _ _ hR hS _ (lv_sub hl [2, 3, 4, 5, 1, 0] rfl)
  · have h0 := og_f hc1 h0
    refine lv_iload hx hb d7_dinner_71 (lv_at hl 0 rfl) ?_
    refine lv_istore_n (lv' := [(3, .int s0), (5, .int s0), (0, .ref (w.2.2 0)), (2, .int x2), (4, .int x4), (6, .int x6)]) hx hb d7_dinner_73 rfl hl (by decide) rfl (fun ls hl => ?_)
    refine lv_iload hx hb d7_dinner_74 (lv_at hl 5 rfl) ?_
    refine lv_iload hx hb d7_dinner_76 (lv_at hl 1 rfl) ?_
    refine lv_isub hx hb d7_dinner_78 ?_
    refine lv_iconst (v := 1) hx hb d7_dinner_79 (by decide) ?_
    refine lv_iadd hx hb d7_dinner_80 ?_
    refine lv_istore (lv' := [(4, .int ((x6 - s0) + 1)), (3, .int s0), (5, .int s0), (0, .ref (w.2.2 0)), (2, .int x2), (6, .int x6)]) hx hb d7_dinner_81 hl (by decide) rfl (fun ls hl => ?_)
    refine lv_iinc (v := x6 + 1) (lv' := [(6, .int (x6 + 1)), (4, .int ((x6 - s0) + 1)), (3, .int s0), (5, .int s0), (0, .ref (w.2.2 0)), (2, .int x2)]) hx hb d7_dinner_83 hl (k := 5) rfl (ii1 _) (by decide) rfl (fun ls hl => ?_)
    refine lv_goto (tgt := 37) hx hb d7_dinner_86 (by decide) ?_
    exact hk37 σ x2 s0 ((x6 - s0) + 1) s0 (x6 + 1) h0 _ _ hR hS _ (lv_sub hl [4, 5, 2, 1, 3, 0] rfl)
def f7_dinner_b37 : Nat → Mem → Int32 → Int32 → Int32 → Int32 → Int32 → Option (Mem × Int32)
  | 0, _, _, _, _, _, _ => none
  | n + 1, σ, x2, x3, x4, x5, x6 => if 360 ≤ x6 then if x3 = 0 then some (σ, x4) else if x2 = 1 then some (σ, x4) else some (σ, x3) else if ¬ (x6 < 0 ∨ 360 ≤ x6.toNatClampNeg) then if (σ 27 x6.toNatClampNeg) = 0 then f7_dinner_b63 (f7_dinner_b37 n) σ x2 x3 x4 x6 (x5 + 1) else f7_dinner_b63 (f7_dinner_b37 n) σ x2 x3 x4 x6 0 else none
set_option maxHeartbeats 4000000 in
set_option maxRecDepth 100000 in
theorem t7_dinner_b37 {p : Program} {l : Launch} {e : Env} {s : State} {m : MethodId} {args : Array Value} {below : List Frame} {meth : Method} {c : Code} {w : WV} {σ' : Mem} {r : Int32} (S : CallFix p m c cX7_dinner 7 s args gtbl RX7) (hr : meth.sig.returnType = (some .int)) (hlk : meth.locks = false) (hK : KS LM w s) : ∀ (n : Nat), ∀ (σ : Mem) (x2 : Int32) (x3 : Int32) (x4 : Int32) (x5 : Int32) (x6 : Int32), f7_dinner_b37  n σ x2 x3 x4 x5 x6 = some (σ', r) → ∀ (H : Heap) (locs : List Loc), Rp EM LM w σ H → va_S (AW LM w) s.heap H locs → ∀ (ls : Array Slot), lv_has ls 7 [(0, .ref (w.2.2 0)), (2, .int x2), (3, .int x3), (4, .int x4), (5, .int x5), (6, .int x6)] → W p l e rm7_dinner s m args below meth c H locs 0 0 (MQ below (Qw EM LM w σ' (some (.int r))) args s 0 0 (AW LM w)) (F0 m 37 ls []) := by
  obtain ⟨hx, hb, hml, hown, hts⟩ := id S
  intro n
  induction n with
  | zero =>
    intro σ x2 x3 x4 x5 x6 h0
    cases (show none = _ from h0)
  | succ n ih =>
    intro σ x2 x3 x4 x5 x6 h0 H locs hR hS ls hl
    rw [f7_dinner_b37] at h0
    refine lv_iload hx hb d7_dinner_37 (lv_at hl 5 rfl) ?_
    refine lv_sipush (v := 360) hx hb d7_dinner_39 (by decide) ?_
    refine lv_icmp_ge (tgt := 89) hx hb d7_dinner_42 (by decide) (fun hc1 => ?_) (fun hc1 => ?_)
    · have h0 := og_t hc1 h0
      refine lv_iload_n hx hb d7_dinner_89 rfl (lv_at hl 2 rfl) ?_
      refine lv_if_eq (tgt := 98) hx hb d7_dinner_90 (by decide) (fun hc2 => ?_) (fun hc2 => ?_)
      · have h0 := og_t hc2 h0
        refine lv_iload hx hb d7_dinner_98 (lv_at hl 3 rfl) ?_
        refine lv_goto (tgt := 104) hx hb d7_dinner_100 (by decide) ?_
        exact q_iret S hr hlk hR hS h0 d7_dinner_104
      · have h0 := og_f hc2 h0
        refine lv_iload_n hx hb d7_dinner_93 rfl (lv_at hl 1 rfl) ?_
        refine lv_iconst (v := 1) hx hb d7_dinner_94 (by decide) ?_
        refine lv_icmp_ne (tgt := 103) hx hb d7_dinner_95 (by decide) (fun hc3 => ?_) (fun hc3 => ?_)
        · have h0 := og_f hc3 h0
          refine lv_iload_n hx hb d7_dinner_103 rfl (lv_at hl 2 rfl) ?_
          exact q_iret S hr hlk hR hS h0 d7_dinner_104
        · have h0 := og_t hc3 h0
          refine lv_iload hx hb d7_dinner_98 (lv_at hl 3 rfl) ?_
          refine lv_goto (tgt := 104) hx hb d7_dinner_100 (by decide) ?_
          exact q_iret S hr hlk hR hS h0 d7_dinner_104
    · have h0 := og_f hc1 h0
      refine lv_aload_n hx hb d7_dinner_45 rfl (lv_at hl 0 rfl) ?_
      refine g7_73 S hK hR d7_dinner_46 ?_
      refine lv_iload hx hb d7_dinner_49 (lv_at hl 5 rfl) ?_
      obtain ⟨hi2, h0⟩ := og_if h0
      refine q_ld (k := x6.toNatClampNeg) S hK hR (by decide) (eM_126 w _) hi2 rfl d7_dinner_51 ?_
      refine lv_if_ne (tgt := 62) hx hb d7_dinner_52 (by decide) (fun hc3 => ?_) (fun hc3 => ?_)
      · have h0 := og_f hc3 h0
        refine lv_iconst (v := 0) hx hb d7_dinner_62 (by decide) ?_
        exact t7_dinner_b63 S hr hlk hK ih σ x2 x3 x4 x6 0 h0 _ _ hR hS _ (lv_sub hl [0, 1, 2, 3, 5] rfl)
      · have h0 := og_t hc3 h0
        refine lv_iload hx hb d7_dinner_55 (lv_at hl 4 rfl) ?_
        refine lv_iconst (v := 1) hx hb d7_dinner_57 (by decide) ?_
        refine lv_iadd hx hb d7_dinner_58 ?_
        refine lv_goto (tgt := 63) hx hb d7_dinner_59 (by decide) ?_
        exact t7_dinner_b63 S hr hlk hK ih σ x2 x3 x4 x6 (x5 + 1) h0 _ _ hR hS _ (lv_sub hl [0, 1, 2, 3, 5] rfl)
def f7_dinner (σ : Mem) (x1 : Int32) (x2 : Int32) : Option (Mem × Int32) := Option.bind (f7_isRule x1) fun r1 => if r1 = 0 then some (σ, (-1)) else Option.bind (f7_in x2.toInt64 (0 : Int64) (1 : Int64)) fun r3 => if r3 = 0 then some (σ, (-1)) else Option.bind (f7_goHour σ x1 0) fun σ5 => f7_dinner_b37 1000 σ5 x2 0 (-4) 0 0
set_option maxHeartbeats 4000000 in
set_option maxRecDepth 100000 in
theorem c7_dinner (l : Launch) {w : WV} {σ : Mem} {x1 : Int32} {x2 : Int32} {σ' : Mem} {r : Int32} (h0 : f7_dinner σ x1 x2 = some (σ', r)) : Met l yX7_dinner (wy yX7_dinner cX7_dinner 7 (some .int)) rm7_dinner (Pw EM LM w [.ref (w.2.2 0), .int x1, .int x2] σ) (Qw EM LM w σ' (some (.int r))) 0 0 (AW LM w) := by
  refine mk_met (by decide) (Nat.le_of_ble_eq_true rfl) ?_
  intro p e s m below meth c S hr hlk hK hR ls hl
  obtain ⟨hx, hb, hml, hown, hts⟩ := id S
  have hl : lv_has ls 7 [(0, .ref (w.2.2 0)), (1, .int x1), (2, .int x2)] := hl
  have hS : va_S (AW LM w) s.heap s.heap [] := va_S.rf
  unfold f7_dinner at h0
  refine lv_iload_n hx hb d7_dinner_0 rfl (lv_at hl 1 rfl) ?_
  obtain ⟨r1, hr1, h0⟩ := og_b h0
  refine k7_252 S  hr1 ⟨Nat.zero_le _, Nat.zero_le _⟩ ⟨Nat.le_of_ble_eq_true rfl, Nat.le_of_ble_eq_true rfl⟩ hl.1 (Nat.le_of_ble_eq_true rfl) d7_dinner_1 ?_
  refine lv_if_eq (tgt := 17) hx hb d7_dinner_4 (by decide) (fun hc2 => ?_) (fun hc2 => ?_)
  · have h0 := og_t hc2 h0
    refine lv_iconst (v := (-1)) hx hb d7_dinner_17 (by decide) ?_
    exact q_iret S hr hlk hR hS h0 d7_dinner_18
  · have h0 := og_f hc2 h0
    refine lv_iload_n hx hb d7_dinner_7 rfl (lv_at hl 2 rfl) ?_
    refine lv_i2l hx hb d7_dinner_8 rfl ?_
    refine lv_lconst (v := 0) hx hb d7_dinner_9 (by decide) ?_
    refine lv_lconst (v := 1) hx hb d7_dinner_10 (by decide) ?_
    obtain ⟨r3, hr3, h0⟩ := og_b h0
    refine k7_113 S  hr3 ⟨Nat.zero_le _, Nat.zero_le _⟩ ⟨Nat.le_of_ble_eq_true rfl, Nat.le_of_ble_eq_true rfl⟩ hl.1 (Nat.le_of_ble_eq_true rfl) d7_dinner_11 ?_
    refine lv_if_ne (tgt := 19) hx hb d7_dinner_14 (by decide) (fun hc4 => ?_) (fun hc4 => ?_)
    · have h0 := og_f hc4 h0
      refine lv_aload_n hx hb d7_dinner_19 rfl (lv_at hl 0 rfl) ?_
      refine lv_iload_n hx hb d7_dinner_20 rfl (lv_at hl 1 rfl) ?_
      refine lv_iconst (v := 0) hx hb d7_dinner_21 (by decide) ?_
      obtain ⟨σ5, hr5, h0⟩ := og_b h0
      refine k7_245 S hK hR hS  hr5 ⟨Nat.zero_le _, Nat.zero_le _⟩ ⟨Nat.le_of_ble_eq_true rfl, Nat.le_of_ble_eq_true rfl⟩ hl.1 (Nat.le_of_ble_eq_true rfl) d7_dinner_22 (fun H locs hR hS => ?_)
      refine lv_iconst (v := 0) hx hb d7_dinner_25 (by decide) ?_
      refine lv_istore_n (lv' := [(3, .int 0), (0, .ref (w.2.2 0)), (1, .int x1), (2, .int x2)]) hx hb d7_dinner_26 rfl hl (by decide) rfl (fun ls hl => ?_)
      refine lv_bipush (v := (-4)) hx hb d7_dinner_27 (by decide) ?_
      refine lv_istore (lv' := [(4, .int (-4)), (3, .int 0), (0, .ref (w.2.2 0)), (1, .int x1), (2, .int x2)]) hx hb d7_dinner_29 hl (by decide) rfl (fun ls hl => ?_)
      refine lv_iconst (v := 0) hx hb d7_dinner_31 (by decide) ?_
      refine lv_istore (lv' := [(5, .int 0), (4, .int (-4)), (3, .int 0), (0, .ref (w.2.2 0)), (1, .int x1), (2, .int x2)]) hx hb d7_dinner_32 hl (by decide) rfl (fun ls hl => ?_)
      refine lv_iconst (v := 0) hx hb d7_dinner_34 (by decide) ?_
      refine lv_istore (lv' := [(6, .int 0), (5, .int 0), (4, .int (-4)), (3, .int 0), (0, .ref (w.2.2 0)), (1, .int x1), (2, .int x2)]) hx hb d7_dinner_35 hl (by decide) rfl (fun ls hl => ?_)
      exact t7_dinner_b37 S hr hlk hK 1000 σ5 x2 0 (-4) 0 0 h0 _ _ hR hS _ (lv_sub hl [4, 6, 3, 2, 1, 0] rfl)
    · have h0 := og_t hc4 h0
      refine lv_iconst (v := (-1)) hx hb d7_dinner_17 (by decide) ?_
      exact q_iret S hr hlk hR hS h0 d7_dinner_18
/-! FourTenGatesModel.common(II)I -/
abbrev rm7_common : Room := { frames := 0, cells := 0, slots := 0, locals := 0 }
theorem d7_common_0 : decode cX7_common 0 = .ok (.iload_n 0, 1) := by decide +kernel
theorem d7_common_1 : decode cX7_common 1 = .ok (.istore_n 2, 1) := by decide +kernel
theorem d7_common_2 : decode cX7_common 2 = .ok (.iload_n 1, 1) := by decide +kernel
theorem d7_common_3 : decode cX7_common 3 = .ok (.istore_n 3, 1) := by decide +kernel
theorem d7_common_4 : decode cX7_common 4 = .ok (.iload_n 3, 1) := by decide +kernel
theorem d7_common_5 : decode cX7_common 5 = .ok (.ifCond .eq 16, 3) := by decide +kernel
theorem d7_common_8 : decode cX7_common 8 = .ok (.iload_n 2, 1) := by decide +kernel
theorem d7_common_9 : decode cX7_common 9 = .ok (.iload_n 3, 1) := by decide +kernel
theorem d7_common_10 : decode cX7_common 10 = .ok (.irem, 1) := by decide +kernel
theorem d7_common_11 : decode cX7_common 11 = .ok (.istore 4, 2) := by decide +kernel
theorem d7_common_13 : decode cX7_common 13 = .ok (.iload_n 3, 1) := by decide +kernel
theorem d7_common_14 : decode cX7_common 14 = .ok (.istore_n 2, 1) := by decide +kernel
theorem d7_common_15 : decode cX7_common 15 = .ok (.iload 4, 2) := by decide +kernel
theorem d7_common_17 : decode cX7_common 17 = .ok (.istore_n 3, 1) := by decide +kernel
theorem d7_common_18 : decode cX7_common 18 = .ok (.goto (-14), 3) := by decide +kernel
theorem d7_common_21 : decode cX7_common 21 = .ok (.iload_n 2, 1) := by decide +kernel
theorem d7_common_22 : decode cX7_common 22 = .ok (.ireturn, 1) := by decide +kernel
def f7_common_b4 : Nat → Int32 → Int32 → Option Int32
  | 0, _, _ => none
  | n + 1, x2, x3 => if x3 = 0 then some x2 else if ¬ x3 = 0 then f7_common_b4 n x3 (x2 - x2 / x3 * x3) else none
set_option maxHeartbeats 4000000 in
set_option maxRecDepth 100000 in
theorem t7_common_b4 {p : Program} {l : Launch} {e : Env} {s : State} {m : MethodId} {args : Array Value} {below : List Frame} {meth : Method} {c : Code} {r : Int32} (S : CallFix p m c cX7_common 5 s args gtbl RX7) (hr : meth.sig.returnType = (some .int)) (hlk : meth.locks = false) : ∀ (n : Nat), ∀ (x2 : Int32) (x3 : Int32), f7_common_b4  n x2 x3 = some r → ∀ (ls : Array Slot), lv_has ls 5 [(2, .int x2), (3, .int x3)] → W p l e rm7_common s m args below meth c s.heap [] 0 0 (MQ below (Qp (.int r)) args s 0 0 (fun _ => False)) (F0 m 4 ls []) := by
  obtain ⟨hx, hb, hml, hown, hts⟩ := id S
  intro n
  induction n with
  | zero =>
    intro x2 x3 h0
    cases (show none = _ from h0)
  | succ n ih =>
    intro x2 x3 h0 ls hl
    rw [f7_common_b4] at h0
    refine lv_iload_n hx hb d7_common_4 rfl (lv_at hl 1 rfl) ?_
    refine lv_if_eq (tgt := 21) hx hb d7_common_5 (by decide) (fun hc1 => ?_) (fun hc1 => ?_)
    · have h0 := og_t hc1 h0
      refine lv_iload_n hx hb d7_common_21 rfl (lv_at hl 0 rfl) ?_
      exact q_ipure S hr hlk h0 d7_common_22
    · have h0 := og_f hc1 h0
      refine lv_iload_n hx hb d7_common_8 rfl (lv_at hl 0 rfl) ?_
      refine lv_iload_n hx hb d7_common_9 rfl (lv_at hl 1 rfl) ?_
      obtain ⟨hi2, h0⟩ := og_if h0
      refine lv_irem hx hb d7_common_10 hi2 ?_
      refine lv_istore (lv' := [(4, .int (x2 - x2 / x3 * x3)), (2, .int x2), (3, .int x3)]) hx hb d7_common_11 hl (by decide) rfl (fun ls hl => ?_)
      refine lv_iload_n hx hb d7_common_13 rfl (lv_at hl 2 rfl) ?_
      refine lv_istore_n (lv' := [(2, .int x3), (4, .int (x2 - x2 / x3 * x3)), (3, .int x3)]) hx hb d7_common_14 rfl hl (by decide) rfl (fun ls hl => ?_)
      refine lv_iload hx hb d7_common_15 (lv_at hl 1 rfl) ?_
      refine lv_istore_n (lv' := [(3, .int (x2 - x2 / x3 * x3)), (2, .int x3), (4, .int (x2 - x2 / x3 * x3))]) hx hb d7_common_17 rfl hl (by decide) rfl (fun ls hl => ?_)
      refine lv_goto (tgt := 4) hx hb d7_common_18 (by decide) ?_
      exact ih x3 (x2 - x2 / x3 * x3) h0 _ (lv_sub hl [1, 0] rfl)
def f7_common (x0 : Int32) (x1 : Int32) : Option Int32 := f7_common_b4 1000 x0 x1
set_option maxHeartbeats 4000000 in
set_option maxRecDepth 100000 in
theorem c7_common (l : Launch) {x0 : Int32} {x1 : Int32} {r : Int32} (h0 : f7_common x0 x1 = some r) : Met l yX7_common (wy yX7_common cX7_common 5 (some .int)) rm7_common (Ps [.int x0, .int x1]) (Qp (.int r)) 0 0 (fun _ => False) := by
  refine mk_mets (by decide) (Nat.le_of_ble_eq_true rfl) ?_
  intro p e s m below meth c S hr hlk ls hl
  obtain ⟨hx, hb, hml, hown, hts⟩ := id S
  have hl : lv_has ls 5 [(0, .int x0), (1, .int x1)] := hl
  unfold f7_common at h0
  refine lv_iload_n hx hb d7_common_0 rfl (lv_at hl 0 rfl) ?_
  refine lv_istore_n (lv' := [(2, .int x0), (0, .int x0), (1, .int x1)]) hx hb d7_common_1 rfl hl (by decide) rfl (fun ls hl => ?_)
  refine lv_iload_n hx hb d7_common_2 rfl (lv_at hl 2 rfl) ?_
  refine lv_istore_n (lv' := [(3, .int x1), (2, .int x0), (0, .int x0), (1, .int x1)]) hx hb d7_common_3 rfl hl (by decide) rfl (fun ls hl => ?_)
  exact t7_common_b4 S hr hlk 1000 x0 x1 h0 _ (lv_sub hl [1, 0] rfl)
set_option maxHeartbeats 4000000 in
set_option maxRecDepth 100000 in
theorem k7_273 {p : Program} {l : Launch} {e : Env} {R : Room} {s : State} {m : MethodId} {args : Array Value} {below : List Frame} {meth : Method} {c : Code} {H : Heap} {locs : List Loc} {cells slots : Nat} {Q : State → Prop} {cc : ByteArray} {pc nL : Nat} {ls : Array Slot} {rest : List Value} {x0 : Int32} {x1 : Int32} {r : Int32} (S : CallFix p m c cc nL s args gtbl RX7) (h0 : f7_common x0 x1 = some r) (hf : cells + 0 ≤ R.cells ∧ slots + 0 ≤ R.slots) (hRm : rm7_common.frames + 1 ≤ R.frames ∧ 8 + (5 + 11) + rm7_common.locals ≤ R.locals) (hl : ls.size = nL) (hW : (rest.map fun v => v.category).sum ≤ 8) (hdg : decode cc pc = .ok (.invokestatic 273, 3)) (kk : W p l e R s m args below meth c H locs cells slots Q (F0 m (pc + 3) ls (.int r :: rest))) : W p l e R s m args below meth c H locs cells slots Q (F0 m pc ls (.int x1 :: .int x0 :: rest)) := r_endp (run_S (n := 2) (As := [.int x0, .int x1]) S (gw_S (gt_at 1248 (by decide +kernel) (by decide +kernel)) (gt_at 1249 (by decide +kernel) (by decide +kernel)) (gt_at 86 (by decide +kernel) (by decide +kernel)) (gt_at 1250 (by decide +kernel) (by decide +kernel))) (by decide +kernel) rfl (c7_common l h0) ⟨rfl, rfl⟩ hRm hf hl rfl hW hdg) kk
/-! FourTenGatesModel.byNow(III)I -/
abbrev rm7_byNow : Room := { frames := 1, cells := 0, slots := 0, locals := 25 }
theorem d7_byNow_0 : decode cX7_byNow 0 = .ok (.iload_n 1, 1) := by decide +kernel
theorem d7_byNow_1 : decode cX7_byNow 1 = .ok (.i2l, 1) := by decide +kernel
theorem d7_byNow_2 : decode cX7_byNow 2 = .ok (.lconst 0, 1) := by decide +kernel
theorem d7_byNow_3 : decode cX7_byNow 3 = .ok (.ldc2_w 270, 3) := by decide +kernel
theorem d7_byNow_6 : decode cX7_byNow 6 = .ok (.invokestatic 113, 3) := by decide +kernel
theorem d7_byNow_9 : decode cX7_byNow 9 = .ok (.ifCond .eq 25, 3) := by decide +kernel
theorem d7_byNow_12 : decode cX7_byNow 12 = .ok (.iload_n 2, 1) := by decide +kernel
theorem d7_byNow_13 : decode cX7_byNow 13 = .ok (.i2l, 1) := by decide +kernel
theorem d7_byNow_14 : decode cX7_byNow 14 = .ok (.lconst 0, 1) := by decide +kernel
theorem d7_byNow_15 : decode cX7_byNow 15 = .ok (.ldc2_w 270, 3) := by decide +kernel
theorem d7_byNow_18 : decode cX7_byNow 18 = .ok (.invokestatic 113, 3) := by decide +kernel
theorem d7_byNow_21 : decode cX7_byNow 21 = .ok (.ifCond .eq 13, 3) := by decide +kernel
theorem d7_byNow_24 : decode cX7_byNow 24 = .ok (.iload_n 3, 1) := by decide +kernel
theorem d7_byNow_25 : decode cX7_byNow 25 = .ok (.i2l, 1) := by decide +kernel
theorem d7_byNow_26 : decode cX7_byNow 26 = .ok (.lconst 0, 1) := by decide +kernel
theorem d7_byNow_27 : decode cX7_byNow 27 = .ok (.lconst 1, 1) := by decide +kernel
theorem d7_byNow_28 : decode cX7_byNow 28 = .ok (.invokestatic 113, 3) := by decide +kernel
theorem d7_byNow_31 : decode cX7_byNow 31 = .ok (.ifCond .ne 5, 3) := by decide +kernel
theorem d7_byNow_34 : decode cX7_byNow 34 = .ok (.iconst (-1), 1) := by decide +kernel
theorem d7_byNow_35 : decode cX7_byNow 35 = .ok (.ireturn, 1) := by decide +kernel
theorem d7_byNow_36 : decode cX7_byNow 36 = .ok (.iconst 0, 1) := by decide +kernel
theorem d7_byNow_37 : decode cX7_byNow 37 = .ok (.istore 4, 2) := by decide +kernel
theorem d7_byNow_39 : decode cX7_byNow 39 = .ok (.iconst 0, 1) := by decide +kernel
theorem d7_byNow_40 : decode cX7_byNow 40 = .ok (.istore 5, 2) := by decide +kernel
theorem d7_byNow_42 : decode cX7_byNow 42 = .ok (.iconst 0, 1) := by decide +kernel
theorem d7_byNow_43 : decode cX7_byNow 43 = .ok (.istore 6, 2) := by decide +kernel
theorem d7_byNow_45 : decode cX7_byNow 45 = .ok (.iload 6, 2) := by decide +kernel
theorem d7_byNow_47 : decode cX7_byNow 47 = .ok (.aload_n 0, 1) := by decide +kernel
theorem d7_byNow_48 : decode cX7_byNow 48 = .ok (.getfield 46, 3) := by decide +kernel
theorem d7_byNow_51 : decode cX7_byNow 51 = .ok (.iconst 0, 1) := by decide +kernel
theorem d7_byNow_52 : decode cX7_byNow 52 = .ok (.iaload, 1) := by decide +kernel
theorem d7_byNow_53 : decode cX7_byNow 53 = .ok (.if_icmp .ge 62, 3) := by decide +kernel
theorem d7_byNow_56 : decode cX7_byNow 56 = .ok (.aload_n 0, 1) := by decide +kernel
theorem d7_byNow_57 : decode cX7_byNow 57 = .ok (.getfield 49, 3) := by decide +kernel
theorem d7_byNow_60 : decode cX7_byNow 60 = .ok (.iload 6, 2) := by decide +kernel
theorem d7_byNow_62 : decode cX7_byNow 62 = .ok (.iaload, 1) := by decide +kernel
theorem d7_byNow_63 : decode cX7_byNow 63 = .ok (.iload_n 1, 1) := by decide +kernel
theorem d7_byNow_64 : decode cX7_byNow 64 = .ok (.if_icmp .le 13, 3) := by decide +kernel
theorem d7_byNow_67 : decode cX7_byNow 67 = .ok (.aload_n 0, 1) := by decide +kernel
theorem d7_byNow_68 : decode cX7_byNow 68 = .ok (.getfield 52, 3) := by decide +kernel
theorem d7_byNow_71 : decode cX7_byNow 71 = .ok (.iload 6, 2) := by decide +kernel
theorem d7_byNow_73 : decode cX7_byNow 73 = .ok (.iaload, 1) := by decide +kernel
theorem d7_byNow_74 : decode cX7_byNow 74 = .ok (.goto 4, 3) := by decide +kernel
theorem d7_byNow_77 : decode cX7_byNow 77 = .ok (.iconst 0, 1) := by decide +kernel
theorem d7_byNow_78 : decode cX7_byNow 78 = .ok (.istore 7, 2) := by decide +kernel
theorem d7_byNow_80 : decode cX7_byNow 80 = .ok (.iload 5, 2) := by decide +kernel
theorem d7_byNow_82 : decode cX7_byNow 82 = .ok (.iload 7, 2) := by decide +kernel
theorem d7_byNow_84 : decode cX7_byNow 84 = .ok (.iadd, 1) := by decide +kernel
theorem d7_byNow_85 : decode cX7_byNow 85 = .ok (.istore 5, 2) := by decide +kernel
theorem d7_byNow_87 : decode cX7_byNow 87 = .ok (.iload 4, 2) := by decide +kernel
theorem d7_byNow_89 : decode cX7_byNow 89 = .ok (.aload_n 0, 1) := by decide +kernel
theorem d7_byNow_90 : decode cX7_byNow 90 = .ok (.getfield 49, 3) := by decide +kernel
theorem d7_byNow_93 : decode cX7_byNow 93 = .ok (.iload 6, 2) := by decide +kernel
theorem d7_byNow_95 : decode cX7_byNow 95 = .ok (.iaload, 1) := by decide +kernel
theorem d7_byNow_96 : decode cX7_byNow 96 = .ok (.iload_n 2, 1) := by decide +kernel
theorem d7_byNow_97 : decode cX7_byNow 97 = .ok (.if_icmp .ne 8, 3) := by decide +kernel
theorem d7_byNow_100 : decode cX7_byNow 100 = .ok (.iload 7, 2) := by decide +kernel
theorem d7_byNow_102 : decode cX7_byNow 102 = .ok (.goto 4, 3) := by decide +kernel
theorem d7_byNow_105 : decode cX7_byNow 105 = .ok (.iconst 0, 1) := by decide +kernel
theorem d7_byNow_106 : decode cX7_byNow 106 = .ok (.iadd, 1) := by decide +kernel
theorem d7_byNow_107 : decode cX7_byNow 107 = .ok (.istore 4, 2) := by decide +kernel
theorem d7_byNow_109 : decode cX7_byNow 109 = .ok (.iinc 6 1, 3) := by decide +kernel
theorem d7_byNow_112 : decode cX7_byNow 112 = .ok (.goto (-67), 3) := by decide +kernel
theorem d7_byNow_115 : decode cX7_byNow 115 = .ok (.iload 5, 2) := by decide +kernel
theorem d7_byNow_117 : decode cX7_byNow 117 = .ok (.ifCond .ne 6, 3) := by decide +kernel
theorem d7_byNow_120 : decode cX7_byNow 120 = .ok (.bipush (-4), 2) := by decide +kernel
theorem d7_byNow_122 : decode cX7_byNow 122 = .ok (.ireturn, 1) := by decide +kernel
theorem d7_byNow_123 : decode cX7_byNow 123 = .ok (.iload 4, 2) := by decide +kernel
theorem d7_byNow_125 : decode cX7_byNow 125 = .ok (.iload 5, 2) := by decide +kernel
theorem d7_byNow_127 : decode cX7_byNow 127 = .ok (.invokestatic 273, 3) := by decide +kernel
theorem d7_byNow_130 : decode cX7_byNow 130 = .ok (.istore 6, 2) := by decide +kernel
theorem d7_byNow_132 : decode cX7_byNow 132 = .ok (.iload_n 3, 1) := by decide +kernel
theorem d7_byNow_133 : decode cX7_byNow 133 = .ok (.ifCond .ne 11, 3) := by decide +kernel
theorem d7_byNow_136 : decode cX7_byNow 136 = .ok (.iload 4, 2) := by decide +kernel
theorem d7_byNow_138 : decode cX7_byNow 138 = .ok (.iload 6, 2) := by decide +kernel
theorem d7_byNow_140 : decode cX7_byNow 140 = .ok (.idiv, 1) := by decide +kernel
theorem d7_byNow_141 : decode cX7_byNow 141 = .ok (.goto 8, 3) := by decide +kernel
theorem d7_byNow_144 : decode cX7_byNow 144 = .ok (.iload 5, 2) := by decide +kernel
theorem d7_byNow_146 : decode cX7_byNow 146 = .ok (.iload 6, 2) := by decide +kernel
theorem d7_byNow_148 : decode cX7_byNow 148 = .ok (.idiv, 1) := by decide +kernel
theorem d7_byNow_149 : decode cX7_byNow 149 = .ok (.ireturn, 1) := by decide +kernel
def f7_byNow_b78 (σ : Mem) (k45 : Int32 → Int32 → Int32 → Int32 → Int32 → Int32 → Option Int32) (x1 : Int32) (x2 : Int32) (x3 : Int32) (x4 : Int32) (x5 : Int32) (x6 : Int32) (s0 : Int32) : Option Int32 := if ¬ (x6 < 0 ∨ 10 ≤ x6.toNatClampNeg) then if (σ 15 x6.toNatClampNeg) = x2 then k45 x1 x2 x3 (x4 + s0) (x5 + s0) (x6 + 1) else k45 x1 x2 x3 (x4 + 0) (x5 + s0) (x6 + 1) else none
set_option maxHeartbeats 4000000 in
set_option maxRecDepth 100000 in
theorem t7_byNow_b78 {p : Program} {l : Launch} {e : Env} {s : State} {m : MethodId} {args : Array Value} {below : List Frame} {meth : Method} {c : Code} {w : WV} {σ : Mem} {r : Int32} {k45 : Int32 → Int32 → Int32 → Int32 → Int32 → Int32 → Option Int32} (S : CallFix p m c cX7_byNow 8 s args gtbl RX7) (hr : meth.sig.returnType = (some .int)) (hlk : meth.locks = false) (hK : KS LM w s) (hR : Rp EM LM w σ s.heap) (hk45 : ∀ (x1 : Int32) (x2 : Int32) (x3 : Int32) (x4 : Int32) (x5 : Int32) (x6 : Int32), k45 x1 x2 x3 x4 x5 x6 = some r → ∀ (ls : Array Slot), lv_has ls 8 [(0, .ref (w.2.2 0)), (1, .int x1), (2, .int x2), (3, .int x3), (4, .int x4), (5, .int x5), (6, .int x6)] → W p l e rm7_byNow s m args below meth c s.heap [] 0 0 (MQ below (Qp (.int r)) args s 0 0 (fun _ => False)) (F0 m 45 ls [])) : ∀ (x1 : Int32) (x2 : Int32) (x3 : Int32) (x4 : Int32) (x5 : Int32) (x6 : Int32) (s0 : Int32), f7_byNow_b78 σ k45 x1 x2 x3 x4 x5 x6 s0 = some r → ∀ (ls : Array Slot), lv_has ls 8 [(0, .ref (w.2.2 0)), (1, .int x1), (2, .int x2), (3, .int x3), (4, .int x4), (5, .int x5), (6, .int x6)] → W p l e rm7_byNow s m args below meth c s.heap [] 0 0 (MQ below (Qp (.int r)) args s 0 0 (fun _ => False)) (F0 m 78 ls [.int s0]) := by
  obtain ⟨hx, hb, hml, hown, hts⟩ := id S
  intro x1 x2 x3 x4 x5 x6 s0 h0 ls hl
  unfold f7_byNow_b78 at h0
  refine lv_istore (lv' := [(7, .int s0), (0, .ref (w.2.2 0)), (1, .int x1), (2, .int x2), (3, .int x3), (4, .int x4), (5, .int x5), (6, .int x6)]) hx hb d7_byNow_78 hl (by decide) rfl (fun ls hl => ?_)
  refine lv_iload hx hb d7_byNow_80 (lv_at hl 6 rfl) ?_
  refine lv_iload hx hb d7_byNow_82 (lv_at hl 0 rfl) ?_
  refine lv_iadd hx hb d7_byNow_84 ?_
  refine lv_istore (lv' := [(5, .int (x5 + s0)), (7, .int s0), (0, .ref (w.2.2 0)), (1, .int x1), (2, .int x2), (3, .int x3), (4, .int x4), (6, .int x6)]) hx hb d7_byNow_85 hl (by decide) rfl (fun ls hl => ?_)
  refine lv_iload hx hb d7_byNow_87 (lv_at hl 6 rfl) ?_
  refine lv_aload_n hx hb d7_byNow_89 rfl (lv_at hl 2 rfl) ?_
  refine g7_49 S hK hR d7_byNow_90 ?_
  refine lv_iload hx hb d7_byNow_93 (lv_at hl 7 rfl) ?_
  obtain ⟨hi1, h0⟩ := og_if h0
  refine q_ld (k := x6.toNatClampNeg) S hK hR (by decide) (eM_114 w _) hi1 rfl d7_byNow_95 ?_
  refine lv_iload_n hx hb d7_byNow_96 rfl (lv_at hl 4 rfl) ?_
  refine lv_icmp_ne (tgt := 105) hx hb d7_byNow_97 (by decide) (fun hc2 => ?_) (fun hc2 => ?_)
  · have h0 := og_f hc2 h0
    refine lv_iconst (v := 0) hx hb d7_byNow_105 (by decide) ?_
    refine lv_iadd hx hb d7_byNow_106 ?_
    refine lv_istore (lv' := [(4, .int (x4 + 0)), (5, .int (x5 + s0)), (7, .int s0), (0, .ref (w.2.2 0)), (1, .int x1), (2, .int x2), (3, .int x3), (6, .int x6)]) hx hb d7_byNow_107 hl (by decide) rfl (fun ls hl => ?_)
    refine lv_iinc (v := x6 + 1) (lv' := [(6, .int (x6 + 1)), (4, .int (x4 + 0)), (5, .int (x5 + s0)), (7, .int s0), (0, .ref (w.2.2 0)), (1, .int x1), (2, .int x2), (3, .int x3)]) hx hb d7_byNow_109 hl (k := 7) rfl (ii1 _) (by decide) rfl (fun ls hl => ?_)
    refine lv_goto (tgt := 45) hx hb d7_byNow_112 (by decide) ?_
    exact hk45 x1 x2 x3 (x4 + 0) (x5 + s0) (x6 + 1) h0 _ (lv_sub hl [4, 5, 6, 7, 1, 2, 0] rfl)
  · have h0 := og_t hc2 h0
    refine lv_iload hx hb d7_byNow_100 (lv_at hl 1 rfl) ?_
    refine lv_goto (tgt := 106) hx hb d7_byNow_102 (by decide) ?_
    refine lv_iadd hx hb d7_byNow_106 ?_
    refine lv_istore (lv' := [(4, .int (x4 + s0)), (5, .int (x5 + s0)), (7, .int s0), (0, .ref (w.2.2 0)), (1, .int x1), (2, .int x2), (3, .int x3), (6, .int x6)]) hx hb d7_byNow_107 hl (by decide) rfl (fun ls hl => ?_)
    refine lv_iinc (v := x6 + 1) (lv' := [(6, .int (x6 + 1)), (4, .int (x4 + s0)), (5, .int (x5 + s0)), (7, .int s0), (0, .ref (w.2.2 0)), (1, .int x1), (2, .int x2), (3, .int x3)]) hx hb d7_byNow_109 hl (k := 7) rfl (ii1 _) (by decide) rfl (fun ls hl => ?_)
    refine lv_goto (tgt := 45) hx hb d7_byNow_112 (by decide) ?_
    exact hk45 x1 x2 x3 (x4 + s0) (x5 + s0) (x6 + 1) h0 _ (lv_sub hl [4, 5, 6, 7, 1, 2, 0] rfl)
def f7_byNow_b45 (σ : Mem) : Nat → Int32 → Int32 → Int32 → Int32 → Int32 → Int32 → Option Int32
  | 0, _, _, _, _, _, _ => none
  | n + 1, x1, x2, x3, x4, x5, x6 => if (σ 14 0) ≤ x6 then if x5 = 0 then some (-4) else Option.bind (f7_common x4 x5) fun r3 => if x3 = 0 then if ¬ r3 = 0 then some (x4 / r3) else none else if ¬ r3 = 0 then some (x5 / r3) else none else if ¬ (x6 < 0 ∨ 10 ≤ x6.toNatClampNeg) then if (σ 15 x6.toNatClampNeg) ≤ x1 then f7_byNow_b78 σ (f7_byNow_b45 σ n) x1 x2 x3 x4 x5 x6 0 else if ¬ (x6 < 0 ∨ 10 ≤ x6.toNatClampNeg) then f7_byNow_b78 σ (f7_byNow_b45 σ n) x1 x2 x3 x4 x5 x6 (σ 16 x6.toNatClampNeg) else none else none
set_option maxHeartbeats 4000000 in
set_option maxRecDepth 100000 in
theorem t7_byNow_b45 {p : Program} {l : Launch} {e : Env} {s : State} {m : MethodId} {args : Array Value} {below : List Frame} {meth : Method} {c : Code} {w : WV} {σ : Mem} {r : Int32} (S : CallFix p m c cX7_byNow 8 s args gtbl RX7) (hr : meth.sig.returnType = (some .int)) (hlk : meth.locks = false) (hK : KS LM w s) (hR : Rp EM LM w σ s.heap) : ∀ (n : Nat), ∀ (x1 : Int32) (x2 : Int32) (x3 : Int32) (x4 : Int32) (x5 : Int32) (x6 : Int32), f7_byNow_b45 σ n x1 x2 x3 x4 x5 x6 = some r → ∀ (ls : Array Slot), lv_has ls 8 [(0, .ref (w.2.2 0)), (1, .int x1), (2, .int x2), (3, .int x3), (4, .int x4), (5, .int x5), (6, .int x6)] → W p l e rm7_byNow s m args below meth c s.heap [] 0 0 (MQ below (Qp (.int r)) args s 0 0 (fun _ => False)) (F0 m 45 ls []) := by
  obtain ⟨hx, hb, hml, hown, hts⟩ := id S
  intro n
  induction n with
  | zero =>
    intro x1 x2 x3 x4 x5 x6 h0
    cases (show none = _ from h0)
  | succ n ih =>
    intro x1 x2 x3 x4 x5 x6 h0 ls hl
    rw [f7_byNow_b45] at h0
    refine lv_iload hx hb d7_byNow_45 (lv_at hl 6 rfl) ?_
    refine lv_aload_n hx hb d7_byNow_47 rfl (lv_at hl 0 rfl) ?_
    refine g7_46 S hK hR d7_byNow_48 ?_
    refine lv_iconst (v := 0) hx hb d7_byNow_51 (by decide) ?_
    refine q_ld (k := 0) S hK hR (by decide) (eM_113 w _) (vin (by decide)) (by decide) d7_byNow_52 ?_
    refine lv_icmp_ge (tgt := 115) hx hb d7_byNow_53 (by decide) (fun hc1 => ?_) (fun hc1 => ?_)
    · have h0 := og_t hc1 h0
      refine lv_iload hx hb d7_byNow_115 (lv_at hl 5 rfl) ?_
      refine lv_if_ne (tgt := 123) hx hb d7_byNow_117 (by decide) (fun hc2 => ?_) (fun hc2 => ?_)
      · have h0 := og_f hc2 h0
        refine lv_iload hx hb d7_byNow_123 (lv_at hl 4 rfl) ?_
        refine lv_iload hx hb d7_byNow_125 (lv_at hl 5 rfl) ?_
        obtain ⟨r3, hr3, h0⟩ := og_b h0
        refine k7_273 S  hr3 ⟨Nat.zero_le _, Nat.zero_le _⟩ ⟨Nat.le_of_ble_eq_true rfl, Nat.le_of_ble_eq_true rfl⟩ hl.1 (Nat.le_of_ble_eq_true rfl) d7_byNow_127 ?_
        refine lv_istore (lv' := [(6, .int r3), (0, .ref (w.2.2 0)), (1, .int x1), (2, .int x2), (3, .int x3), (4, .int x4), (5, .int x5)]) hx hb d7_byNow_130 hl (by decide) rfl (fun ls hl => ?_)
        refine lv_iload_n hx hb d7_byNow_132 rfl (lv_at hl 4 rfl) ?_
        refine lv_if_ne (tgt := 144) hx hb d7_byNow_133 (by decide) (fun hc4 => ?_) (fun hc4 => ?_)
        · have h0 := og_f hc4 h0
          refine lv_iload hx hb d7_byNow_144 (lv_at hl 6 rfl) ?_
          refine lv_iload hx hb d7_byNow_146 (lv_at hl 0 rfl) ?_
          obtain ⟨hi5, h0⟩ := og_if h0
          refine lv_idiv hx hb d7_byNow_148 hi5 ?_
          exact q_ipure S hr hlk h0 d7_byNow_149
        · have h0 := og_t hc4 h0
          refine lv_iload hx hb d7_byNow_136 (lv_at hl 5 rfl) ?_
          refine lv_iload hx hb d7_byNow_138 (lv_at hl 0 rfl) ?_
          obtain ⟨hi5, h0⟩ := og_if h0
          refine lv_idiv hx hb d7_byNow_140 hi5 ?_
          refine lv_goto (tgt := 149) hx hb d7_byNow_141 (by decide) ?_
          exact q_ipure S hr hlk h0 d7_byNow_149
      · have h0 := og_t hc2 h0
        refine lv_bipush (v := (-4)) hx hb d7_byNow_120 (by decide) ?_
        exact q_ipure S hr hlk h0 d7_byNow_122
    · have h0 := og_f hc1 h0
      refine lv_aload_n hx hb d7_byNow_56 rfl (lv_at hl 0 rfl) ?_
      refine g7_49 S hK hR d7_byNow_57 ?_
      refine lv_iload hx hb d7_byNow_60 (lv_at hl 6 rfl) ?_
      obtain ⟨hi2, h0⟩ := og_if h0
      refine q_ld (k := x6.toNatClampNeg) S hK hR (by decide) (eM_114 w _) hi2 rfl d7_byNow_62 ?_
      refine lv_iload_n hx hb d7_byNow_63 rfl (lv_at hl 1 rfl) ?_
      refine lv_icmp_le (tgt := 77) hx hb d7_byNow_64 (by decide) (fun hc3 => ?_) (fun hc3 => ?_)
      · have h0 := og_t hc3 h0
        refine lv_iconst (v := 0) hx hb d7_byNow_77 (by decide) ?_
        exact t7_byNow_b78 S hr hlk hK hR ih x1 x2 x3 x4 x5 x6 0 h0 _ (lv_sub hl [0, 1, 2, 3, 4, 5, 6] rfl)
      · have h0 := og_f hc3 h0
        refine lv_aload_n hx hb d7_byNow_67 rfl (lv_at hl 0 rfl) ?_
        refine g7_52 S hK hR d7_byNow_68 ?_
        refine lv_iload hx hb d7_byNow_71 (lv_at hl 6 rfl) ?_
        obtain ⟨hi4, h0⟩ := og_if h0
        refine q_ld (k := x6.toNatClampNeg) S hK hR (by decide) (eM_115 w _) hi4 rfl d7_byNow_73 ?_
        refine lv_goto (tgt := 78) hx hb d7_byNow_74 (by decide) ?_
        exact t7_byNow_b78 S hr hlk hK hR ih x1 x2 x3 x4 x5 x6 (σ 16 x6.toNatClampNeg) h0 _ (lv_sub hl [0, 1, 2, 3, 4, 5, 6] rfl)
def f7_byNow (σ : Mem) (x1 : Int32) (x2 : Int32) (x3 : Int32) : Option Int32 := Option.bind (f7_in x1.toInt64 (0 : Int64) (9 : Int64)) fun r1 => if r1 = 0 then some (-1) else Option.bind (f7_in x2.toInt64 (0 : Int64) (9 : Int64)) fun r3 => if r3 = 0 then some (-1) else Option.bind (f7_in x3.toInt64 (0 : Int64) (1 : Int64)) fun r5 => if r5 = 0 then some (-1) else f7_byNow_b45 σ 1000 x1 x2 x3 0 0 0
set_option maxHeartbeats 4000000 in
set_option maxRecDepth 100000 in
theorem c7_byNow (l : Launch) {w : WV} {σ : Mem} {x1 : Int32} {x2 : Int32} {x3 : Int32} {r : Int32} (h0 : f7_byNow σ x1 x2 x3 = some r) : Met l yX7_byNow (wy yX7_byNow cX7_byNow 8 (some .int)) rm7_byNow (Pw EM LM w [.ref (w.2.2 0), .int x1, .int x2, .int x3] σ) (Qp (.int r)) 0 0 (fun _ => False) := by
  refine mk_met (by decide) (Nat.le_of_ble_eq_true rfl) ?_
  intro p e s m below meth c S hr hlk hK hR ls hl
  obtain ⟨hx, hb, hml, hown, hts⟩ := id S
  have hl : lv_has ls 8 [(0, .ref (w.2.2 0)), (1, .int x1), (2, .int x2), (3, .int x3)] := hl
  unfold f7_byNow at h0
  refine lv_iload_n hx hb d7_byNow_0 rfl (lv_at hl 1 rfl) ?_
  refine lv_i2l hx hb d7_byNow_1 rfl ?_
  refine lv_lconst (v := 0) hx hb d7_byNow_2 (by decide) ?_
  refine lv_ldc2 (v := 9) hx hb hown (hts _ (gt_at 1238 (by decide +kernel) (by decide +kernel))) d7_byNow_3 ?_
  obtain ⟨r1, hr1, h0⟩ := og_b h0
  refine k7_113 S  hr1 ⟨Nat.zero_le _, Nat.zero_le _⟩ ⟨Nat.le_of_ble_eq_true rfl, Nat.le_of_ble_eq_true rfl⟩ hl.1 (Nat.le_of_ble_eq_true rfl) d7_byNow_6 ?_
  refine lv_if_eq (tgt := 34) hx hb d7_byNow_9 (by decide) (fun hc2 => ?_) (fun hc2 => ?_)
  · have h0 := og_t hc2 h0
    refine lv_iconst (v := (-1)) hx hb d7_byNow_34 (by decide) ?_
    exact q_ipure S hr hlk h0 d7_byNow_35
  · have h0 := og_f hc2 h0
    refine lv_iload_n hx hb d7_byNow_12 rfl (lv_at hl 2 rfl) ?_
    refine lv_i2l hx hb d7_byNow_13 rfl ?_
    refine lv_lconst (v := 0) hx hb d7_byNow_14 (by decide) ?_
    refine lv_ldc2 (v := 9) hx hb hown (hts _ (gt_at 1238 (by decide +kernel) (by decide +kernel))) d7_byNow_15 ?_
    obtain ⟨r3, hr3, h0⟩ := og_b h0
    refine k7_113 S  hr3 ⟨Nat.zero_le _, Nat.zero_le _⟩ ⟨Nat.le_of_ble_eq_true rfl, Nat.le_of_ble_eq_true rfl⟩ hl.1 (Nat.le_of_ble_eq_true rfl) d7_byNow_18 ?_
    refine lv_if_eq (tgt := 34) hx hb d7_byNow_21 (by decide) (fun hc4 => ?_) (fun hc4 => ?_)
    · have h0 := og_t hc4 h0
      refine lv_iconst (v := (-1)) hx hb d7_byNow_34 (by decide) ?_
      exact q_ipure S hr hlk h0 d7_byNow_35
    · have h0 := og_f hc4 h0
      refine lv_iload_n hx hb d7_byNow_24 rfl (lv_at hl 3 rfl) ?_
      refine lv_i2l hx hb d7_byNow_25 rfl ?_
      refine lv_lconst (v := 0) hx hb d7_byNow_26 (by decide) ?_
      refine lv_lconst (v := 1) hx hb d7_byNow_27 (by decide) ?_
      obtain ⟨r5, hr5, h0⟩ := og_b h0
      refine k7_113 S  hr5 ⟨Nat.zero_le _, Nat.zero_le _⟩ ⟨Nat.le_of_ble_eq_true rfl, Nat.le_of_ble_eq_true rfl⟩ hl.1 (Nat.le_of_ble_eq_true rfl) d7_byNow_28 ?_
      refine lv_if_ne (tgt := 36) hx hb d7_byNow_31 (by decide) (fun hc6 => ?_) (fun hc6 => ?_)
      · have h0 := og_f hc6 h0
        refine lv_iconst (v := 0) hx hb d7_byNow_36 (by decide) ?_
        refine lv_istore (lv' := [(4, .int 0), (0, .ref (w.2.2 0)), (1, .int x1), (2, .int x2), (3, .int x3)]) hx hb d7_byNow_37 hl (by decide) rfl (fun ls hl => ?_)
        refine lv_iconst (v := 0) hx hb d7_byNow_39 (by decide) ?_
        refine lv_istore (lv' := [(5, .int 0), (4, .int 0), (0, .ref (w.2.2 0)), (1, .int x1), (2, .int x2), (3, .int x3)]) hx hb d7_byNow_40 hl (by decide) rfl (fun ls hl => ?_)
        refine lv_iconst (v := 0) hx hb d7_byNow_42 (by decide) ?_
        refine lv_istore (lv' := [(6, .int 0), (5, .int 0), (4, .int 0), (0, .ref (w.2.2 0)), (1, .int x1), (2, .int x2), (3, .int x3)]) hx hb d7_byNow_43 hl (by decide) rfl (fun ls hl => ?_)
        exact t7_byNow_b45 S hr hlk hK hR 1000 x1 x2 x3 0 0 0 h0 _ (lv_sub hl [3, 4, 5, 6, 2, 1, 0] rfl)
      · have h0 := og_t hc6 h0
        refine lv_iconst (v := (-1)) hx hb d7_byNow_34 (by decide) ?_
        exact q_ipure S hr hlk h0 d7_byNow_35
/-! FourTenGatesModel.which(I)I -/
abbrev rm7_which : Room := { frames := 2, cells := 0, slots := 0, locals := 44 }
theorem d7_which_0 : decode cX7_which 0 = .ok (.iload_n 1, 1) := by decide +kernel
theorem d7_which_1 : decode cX7_which 1 = .ok (.i2l, 1) := by decide +kernel
theorem d7_which_2 : decode cX7_which 2 = .ok (.lconst 0, 1) := by decide +kernel
theorem d7_which_3 : decode cX7_which 3 = .ok (.ldc2_w 266, 3) := by decide +kernel
theorem d7_which_6 : decode cX7_which 6 = .ok (.invokestatic 113, 3) := by decide +kernel
theorem d7_which_9 : decode cX7_which 9 = .ok (.ifCond .ne 5, 3) := by decide +kernel
theorem d7_which_12 : decode cX7_which 12 = .ok (.iconst (-1), 1) := by decide +kernel
theorem d7_which_13 : decode cX7_which 13 = .ok (.ireturn, 1) := by decide +kernel
theorem d7_which_14 : decode cX7_which 14 = .ok (.iconst 0, 1) := by decide +kernel
theorem d7_which_15 : decode cX7_which 15 = .ok (.istore_n 2, 1) := by decide +kernel
theorem d7_which_16 : decode cX7_which 16 = .ok (.iconst 0, 1) := by decide +kernel
theorem d7_which_17 : decode cX7_which 17 = .ok (.istore_n 3, 1) := by decide +kernel
theorem d7_which_18 : decode cX7_which 18 = .ok (.iload_n 3, 1) := by decide +kernel
theorem d7_which_19 : decode cX7_which 19 = .ok (.aload_n 0, 1) := by decide +kernel
theorem d7_which_20 : decode cX7_which 20 = .ok (.getfield 13, 3) := by decide +kernel
theorem d7_which_23 : decode cX7_which 23 = .ok (.iconst 0, 1) := by decide +kernel
theorem d7_which_24 : decode cX7_which 24 = .ok (.iaload, 1) := by decide +kernel
theorem d7_which_25 : decode cX7_which 25 = .ok (.if_icmp .ge 31, 3) := by decide +kernel
theorem d7_which_28 : decode cX7_which 28 = .ok (.iload_n 2, 1) := by decide +kernel
theorem d7_which_29 : decode cX7_which 29 = .ok (.aload_n 0, 1) := by decide +kernel
theorem d7_which_30 : decode cX7_which 30 = .ok (.iload_n 3, 1) := by decide +kernel
theorem d7_which_31 : decode cX7_which 31 = .ok (.invokevirtual 176, 3) := by decide +kernel
theorem d7_which_34 : decode cX7_which 34 = .ok (.bipush 6, 2) := by decide +kernel
theorem d7_which_36 : decode cX7_which 36 = .ok (.idiv, 1) := by decide +kernel
theorem d7_which_37 : decode cX7_which 37 = .ok (.iload_n 1, 1) := by decide +kernel
theorem d7_which_38 : decode cX7_which 38 = .ok (.if_icmp .ne 9, 3) := by decide +kernel
theorem d7_which_41 : decode cX7_which 41 = .ok (.iconst 1, 1) := by decide +kernel
theorem d7_which_42 : decode cX7_which 42 = .ok (.iload_n 3, 1) := by decide +kernel
theorem d7_which_43 : decode cX7_which 43 = .ok (.ishl, 1) := by decide +kernel
theorem d7_which_44 : decode cX7_which 44 = .ok (.goto 4, 3) := by decide +kernel
theorem d7_which_47 : decode cX7_which 47 = .ok (.iconst 0, 1) := by decide +kernel
theorem d7_which_48 : decode cX7_which 48 = .ok (.ior, 1) := by decide +kernel
theorem d7_which_49 : decode cX7_which 49 = .ok (.istore_n 2, 1) := by decide +kernel
theorem d7_which_50 : decode cX7_which 50 = .ok (.iinc 3 1, 3) := by decide +kernel
theorem d7_which_53 : decode cX7_which 53 = .ok (.goto (-35), 3) := by decide +kernel
theorem d7_which_56 : decode cX7_which 56 = .ok (.iload_n 2, 1) := by decide +kernel
theorem d7_which_57 : decode cX7_which 57 = .ok (.ireturn, 1) := by decide +kernel
def f7_which_b18 (σ : Mem) : Nat → Int32 → Int32 → Int32 → Option Int32
  | 0, _, _, _ => none
  | n + 1, x1, x2, x3 => if (σ 3 0) ≤ x3 then some x2 else Option.bind (f7_bellOf σ x3) fun r2 => if (r2 / 6) = x1 then f7_which_b18 σ n x1 (x2 ||| (1 <<< (x3 &&& 31))) (x3 + 1) else f7_which_b18 σ n x1 (x2 ||| 0) (x3 + 1)
set_option maxHeartbeats 4000000 in
set_option maxRecDepth 100000 in
theorem t7_which_b18 {p : Program} {l : Launch} {e : Env} {s : State} {m : MethodId} {args : Array Value} {below : List Frame} {meth : Method} {c : Code} {w : WV} {σ : Mem} {r : Int32} (S : CallFix p m c cX7_which 4 s args gtbl RX7) (hr : meth.sig.returnType = (some .int)) (hlk : meth.locks = false) (hK : KS LM w s) (hR : Rp EM LM w σ s.heap) : ∀ (n : Nat), ∀ (x1 : Int32) (x2 : Int32) (x3 : Int32), f7_which_b18 σ n x1 x2 x3 = some r → ∀ (ls : Array Slot), lv_has ls 4 [(0, .ref (w.2.2 0)), (1, .int x1), (2, .int x2), (3, .int x3)] → W p l e rm7_which s m args below meth c s.heap [] 0 0 (MQ below (Qp (.int r)) args s 0 0 (fun _ => False)) (F0 m 18 ls []) := by
  obtain ⟨hx, hb, hml, hown, hts⟩ := id S
  intro n
  induction n with
  | zero =>
    intro x1 x2 x3 h0
    cases (show none = _ from h0)
  | succ n ih =>
    intro x1 x2 x3 h0 ls hl
    rw [f7_which_b18] at h0
    refine lv_iload_n hx hb d7_which_18 rfl (lv_at hl 3 rfl) ?_
    refine lv_aload_n hx hb d7_which_19 rfl (lv_at hl 0 rfl) ?_
    refine g7_13 S hK hR d7_which_20 ?_
    refine lv_iconst (v := 0) hx hb d7_which_23 (by decide) ?_
    refine q_ld (k := 0) S hK hR (by decide) (eM_102 w _) (vin (by decide)) (by decide) d7_which_24 ?_
    refine lv_icmp_ge (tgt := 56) hx hb d7_which_25 (by decide) (fun hc1 => ?_) (fun hc1 => ?_)
    · have h0 := og_t hc1 h0
      refine lv_iload_n hx hb d7_which_56 rfl (lv_at hl 2 rfl) ?_
      exact q_ipure S hr hlk h0 d7_which_57
    · have h0 := og_f hc1 h0
      refine lv_iload_n hx hb d7_which_28 rfl (lv_at hl 2 rfl) ?_
      refine lv_aload_n hx hb d7_which_29 rfl (lv_at hl 0 rfl) ?_
      refine lv_iload_n hx hb d7_which_30 rfl (lv_at hl 3 rfl) ?_
      obtain ⟨r2, hr2, h0⟩ := og_b h0
      refine k7_176 S hK hR  hr2 ⟨Nat.zero_le _, Nat.zero_le _⟩ ⟨Nat.le_of_ble_eq_true rfl, Nat.le_of_ble_eq_true rfl⟩ hl.1 (Nat.le_of_ble_eq_true rfl) d7_which_31 ?_
      refine lv_bipush (v := 6) hx hb d7_which_34 (by decide) ?_
      refine lv_idiv hx hb d7_which_36 (by decide) ?_
      refine lv_iload_n hx hb d7_which_37 rfl (lv_at hl 1 rfl) ?_
      refine lv_icmp_ne (tgt := 47) hx hb d7_which_38 (by decide) (fun hc3 => ?_) (fun hc3 => ?_)
      · have h0 := og_f hc3 h0
        refine lv_iconst (v := 0) hx hb d7_which_47 (by decide) ?_
        refine lv_ior hx hb d7_which_48 ?_
        refine lv_istore_n (lv' := [(2, .int (x2 ||| 0)), (0, .ref (w.2.2 0)), (1, .int x1), (3, .int x3)]) hx hb d7_which_49 rfl hl (by decide) rfl (fun ls hl => ?_)
        refine lv_iinc (v := x3 + 1) (lv' := [(3, .int (x3 + 1)), (2, .int (x2 ||| 0)), (0, .ref (w.2.2 0)), (1, .int x1)]) hx hb d7_which_50 hl (k := 3) rfl (ii1 _) (by decide) rfl (fun ls hl => ?_)
        refine lv_goto (tgt := 18) hx hb d7_which_53 (by decide) ?_
        exact ih x1 (x2 ||| 0) (x3 + 1) h0 _ (lv_sub hl [2, 3, 1, 0] rfl)
      · have h0 := og_t hc3 h0
        refine lv_iconst (v := 1) hx hb d7_which_41 (by decide) ?_
        refine lv_iload_n hx hb d7_which_42 rfl (lv_at hl 3 rfl) ?_
        refine lv_ishl hx hb d7_which_43 ?_
        refine lv_goto (tgt := 48) hx hb d7_which_44 (by decide) ?_
        refine lv_ior hx hb d7_which_48 ?_
        refine lv_istore_n (lv' := [(2, .int (x2 ||| (1 <<< (x3 &&& 31)))), (0, .ref (w.2.2 0)), (1, .int x1), (3, .int x3)]) hx hb d7_which_49 rfl hl (by decide) rfl (fun ls hl => ?_)
        refine lv_iinc (v := x3 + 1) (lv' := [(3, .int (x3 + 1)), (2, .int (x2 ||| (1 <<< (x3 &&& 31)))), (0, .ref (w.2.2 0)), (1, .int x1)]) hx hb d7_which_50 hl (k := 3) rfl (ii1 _) (by decide) rfl (fun ls hl => ?_)
        refine lv_goto (tgt := 18) hx hb d7_which_53 (by decide) ?_
        exact ih x1 (x2 ||| (1 <<< (x3 &&& 31))) (x3 + 1) h0 _ (lv_sub hl [2, 3, 1, 0] rfl)
def f7_which (σ : Mem) (x1 : Int32) : Option Int32 := Option.bind (f7_in x1.toInt64 (0 : Int64) (59 : Int64)) fun r1 => if r1 = 0 then some (-1) else f7_which_b18 σ 1000 x1 0 0
set_option maxHeartbeats 4000000 in
set_option maxRecDepth 100000 in
theorem c7_which (l : Launch) {w : WV} {σ : Mem} {x1 : Int32} {r : Int32} (h0 : f7_which σ x1 = some r) : Met l yX7_which (wy yX7_which cX7_which 4 (some .int)) rm7_which (Pw EM LM w [.ref (w.2.2 0), .int x1] σ) (Qp (.int r)) 0 0 (fun _ => False) := by
  refine mk_met (by decide) (Nat.le_of_ble_eq_true rfl) ?_
  intro p e s m below meth c S hr hlk hK hR ls hl
  obtain ⟨hx, hb, hml, hown, hts⟩ := id S
  have hl : lv_has ls 4 [(0, .ref (w.2.2 0)), (1, .int x1)] := hl
  unfold f7_which at h0
  refine lv_iload_n hx hb d7_which_0 rfl (lv_at hl 1 rfl) ?_
  refine lv_i2l hx hb d7_which_1 rfl ?_
  refine lv_lconst (v := 0) hx hb d7_which_2 (by decide) ?_
  refine lv_ldc2 (v := 59) hx hb hown (hts _ (gt_at 1216 (by decide +kernel) (by decide +kernel))) d7_which_3 ?_
  obtain ⟨r1, hr1, h0⟩ := og_b h0
  refine k7_113 S  hr1 ⟨Nat.zero_le _, Nat.zero_le _⟩ ⟨Nat.le_of_ble_eq_true rfl, Nat.le_of_ble_eq_true rfl⟩ hl.1 (Nat.le_of_ble_eq_true rfl) d7_which_6 ?_
  refine lv_if_ne (tgt := 14) hx hb d7_which_9 (by decide) (fun hc2 => ?_) (fun hc2 => ?_)
  · have h0 := og_f hc2 h0
    refine lv_iconst (v := 0) hx hb d7_which_14 (by decide) ?_
    refine lv_istore_n (lv' := [(2, .int 0), (0, .ref (w.2.2 0)), (1, .int x1)]) hx hb d7_which_15 rfl hl (by decide) rfl (fun ls hl => ?_)
    refine lv_iconst (v := 0) hx hb d7_which_16 (by decide) ?_
    refine lv_istore_n (lv' := [(3, .int 0), (2, .int 0), (0, .ref (w.2.2 0)), (1, .int x1)]) hx hb d7_which_17 rfl hl (by decide) rfl (fun ls hl => ?_)
    exact t7_which_b18 S hr hlk hK hR 1000 x1 0 0 h0 _ (lv_sub hl [2, 3, 1, 0] rfl)
  · have h0 := og_t hc2 h0
    refine lv_iconst (v := (-1)) hx hb d7_which_12 (by decide) ?_
    exact q_ipure S hr hlk h0 d7_which_13
/-! FourTenGatesModel.seen(II)I -/
abbrev rm7_seen : Room := { frames := 1, cells := 0, slots := 0, locals := 25 }
theorem d7_seen_0 : decode cX7_seen 0 = .ok (.iload_n 1, 1) := by decide +kernel
theorem d7_seen_1 : decode cX7_seen 1 = .ok (.i2l, 1) := by decide +kernel
theorem d7_seen_2 : decode cX7_seen 2 = .ok (.lconst 0, 1) := by decide +kernel
theorem d7_seen_3 : decode cX7_seen 3 = .ok (.ldc2_w 255, 3) := by decide +kernel
theorem d7_seen_6 : decode cX7_seen 6 = .ok (.invokestatic 113, 3) := by decide +kernel
theorem d7_seen_9 : decode cX7_seen 9 = .ok (.ifCond .eq 15, 3) := by decide +kernel
theorem d7_seen_12 : decode cX7_seen 12 = .ok (.iload_n 2, 1) := by decide +kernel
theorem d7_seen_13 : decode cX7_seen 13 = .ok (.i2l, 1) := by decide +kernel
theorem d7_seen_14 : decode cX7_seen 14 = .ok (.lconst 0, 1) := by decide +kernel
theorem d7_seen_15 : decode cX7_seen 15 = .ok (.ldc2_w 132, 3) := by decide +kernel
theorem d7_seen_18 : decode cX7_seen 18 = .ok (.invokestatic 113, 3) := by decide +kernel
theorem d7_seen_21 : decode cX7_seen 21 = .ok (.ifCond .ne 5, 3) := by decide +kernel
theorem d7_seen_24 : decode cX7_seen 24 = .ok (.iconst (-1), 1) := by decide +kernel
theorem d7_seen_25 : decode cX7_seen 25 = .ok (.ireturn, 1) := by decide +kernel
theorem d7_seen_26 : decode cX7_seen 26 = .ok (.aload_n 0, 1) := by decide +kernel
theorem d7_seen_27 : decode cX7_seen 27 = .ok (.getfield 165, 3) := by decide +kernel
theorem d7_seen_30 : decode cX7_seen 30 = .ok (.bipush 8, 2) := by decide +kernel
theorem d7_seen_32 : decode cX7_seen 32 = .ok (.if_icmp .ne 6, 3) := by decide +kernel
theorem d7_seen_35 : decode cX7_seen 35 = .ok (.bipush (-3), 2) := by decide +kernel
theorem d7_seen_37 : decode cX7_seen 37 = .ok (.ireturn, 1) := by decide +kernel
theorem d7_seen_38 : decode cX7_seen 38 = .ok (.aload_n 0, 1) := by decide +kernel
theorem d7_seen_39 : decode cX7_seen 39 = .ok (.getfield 64, 3) := by decide +kernel
theorem d7_seen_42 : decode cX7_seen 42 = .ok (.aload_n 0, 1) := by decide +kernel
theorem d7_seen_43 : decode cX7_seen 43 = .ok (.getfield 165, 3) := by decide +kernel
theorem d7_seen_46 : decode cX7_seen 46 = .ok (.iload_n 1, 1) := by decide +kernel
theorem d7_seen_47 : decode cX7_seen 47 = .ok (.iastore, 1) := by decide +kernel
theorem d7_seen_48 : decode cX7_seen 48 = .ok (.aload_n 0, 1) := by decide +kernel
theorem d7_seen_49 : decode cX7_seen 49 = .ok (.getfield 67, 3) := by decide +kernel
theorem d7_seen_52 : decode cX7_seen 52 = .ok (.aload_n 0, 1) := by decide +kernel
theorem d7_seen_53 : decode cX7_seen 53 = .ok (.getfield 165, 3) := by decide +kernel
theorem d7_seen_56 : decode cX7_seen 56 = .ok (.iload_n 2, 1) := by decide +kernel
theorem d7_seen_57 : decode cX7_seen 57 = .ok (.iastore, 1) := by decide +kernel
theorem d7_seen_58 : decode cX7_seen 58 = .ok (.aload_n 0, 1) := by decide +kernel
theorem d7_seen_59 : decode cX7_seen 59 = .ok (.dup, 1) := by decide +kernel
theorem d7_seen_60 : decode cX7_seen 60 = .ok (.getfield 165, 3) := by decide +kernel
theorem d7_seen_63 : decode cX7_seen 63 = .ok (.iconst 1, 1) := by decide +kernel
theorem d7_seen_64 : decode cX7_seen 64 = .ok (.iadd, 1) := by decide +kernel
theorem d7_seen_65 : decode cX7_seen 65 = .ok (.putfield 165, 3) := by decide +kernel
theorem d7_seen_68 : decode cX7_seen 68 = .ok (.aload_n 0, 1) := by decide +kernel
theorem d7_seen_69 : decode cX7_seen 69 = .ok (.getfield 165, 3) := by decide +kernel
theorem d7_seen_72 : decode cX7_seen 72 = .ok (.ireturn, 1) := by decide +kernel
def f7_seen (σ : Mem) (x1 : Int32) (x2 : Int32) : Option (Mem × Int32) := Option.bind (f7_in x1.toInt64 (0 : Int64) (359 : Int64)) fun r1 => if r1 = 0 then some (σ, (-1)) else Option.bind (f7_in x2.toInt64 (0 : Int64) (2 : Int64)) fun r3 => if r3 = 0 then some (σ, (-1)) else if (σ 0 21) = 8 then some (σ, (-3)) else if ¬ (σ 0 21 < 0 ∨ 8 ≤ (σ 0 21).toNatClampNeg) then (bm (mu σ 23 ((σ 0 21).toNatClampNeg) x1) fun σ7 => if ¬ (σ7 0 21 < 0 ∨ 8 ≤ (σ7 0 21).toNatClampNeg) then (bm (mu σ7 24 ((σ7 0 21).toNatClampNeg) x2) fun σ9 => bm (mu σ9 0 21 ((σ9 0 21) + 1)) fun σ10 => some (σ10, σ10 0 21)) else none) else none
set_option maxHeartbeats 4000000 in
set_option maxRecDepth 100000 in
theorem c7_seen (l : Launch) {w : WV} {σ : Mem} {x1 : Int32} {x2 : Int32} {σ' : Mem} {r : Int32} (h0 : f7_seen σ x1 x2 = some (σ', r)) : Met l yX7_seen (wy yX7_seen cX7_seen 3 (some .int)) rm7_seen (Pw EM LM w [.ref (w.2.2 0), .int x1, .int x2] σ) (Qw EM LM w σ' (some (.int r))) 0 0 (AW LM w) := by
  refine mk_met (by decide) (Nat.le_of_ble_eq_true rfl) ?_
  intro p e s m below meth c S hr hlk hK hR ls hl
  obtain ⟨hx, hb, hml, hown, hts⟩ := id S
  have hl : lv_has ls 3 [(0, .ref (w.2.2 0)), (1, .int x1), (2, .int x2)] := hl
  have hS : va_S (AW LM w) s.heap s.heap [] := va_S.rf
  unfold f7_seen at h0
  refine lv_iload_n hx hb d7_seen_0 rfl (lv_at hl 1 rfl) ?_
  refine lv_i2l hx hb d7_seen_1 rfl ?_
  refine lv_lconst (v := 0) hx hb d7_seen_2 (by decide) ?_
  refine lv_ldc2 (v := 359) hx hb hown (hts _ (gt_at 1110 (by decide +kernel) (by decide +kernel))) d7_seen_3 ?_
  obtain ⟨r1, hr1, h0⟩ := og_b h0
  refine k7_113 S  hr1 ⟨Nat.zero_le _, Nat.zero_le _⟩ ⟨Nat.le_of_ble_eq_true rfl, Nat.le_of_ble_eq_true rfl⟩ hl.1 (Nat.le_of_ble_eq_true rfl) d7_seen_6 ?_
  refine lv_if_eq (tgt := 24) hx hb d7_seen_9 (by decide) (fun hc2 => ?_) (fun hc2 => ?_)
  · have h0 := og_t hc2 h0
    refine lv_iconst (v := (-1)) hx hb d7_seen_24 (by decide) ?_
    exact q_iret S hr hlk hR hS h0 d7_seen_25
  · have h0 := og_f hc2 h0
    refine lv_iload_n hx hb d7_seen_12 rfl (lv_at hl 2 rfl) ?_
    refine lv_i2l hx hb d7_seen_13 rfl ?_
    refine lv_lconst (v := 0) hx hb d7_seen_14 (by decide) ?_
    refine lv_ldc2 (v := 2) hx hb hown (hts _ (gt_at 1057 (by decide +kernel) (by decide +kernel))) d7_seen_15 ?_
    obtain ⟨r3, hr3, h0⟩ := og_b h0
    refine k7_113 S  hr3 ⟨Nat.zero_le _, Nat.zero_le _⟩ ⟨Nat.le_of_ble_eq_true rfl, Nat.le_of_ble_eq_true rfl⟩ hl.1 (Nat.le_of_ble_eq_true rfl) d7_seen_18 ?_
    refine lv_if_ne (tgt := 26) hx hb d7_seen_21 (by decide) (fun hc4 => ?_) (fun hc4 => ?_)
    · have h0 := og_f hc4 h0
      refine lv_aload_n hx hb d7_seen_26 rfl (lv_at hl 0 rfl) ?_
      refine g7_165 S hK hR d7_seen_27 ?_
      refine lv_bipush (v := 8) hx hb d7_seen_30 (by decide) ?_
      refine lv_icmp_ne (tgt := 38) hx hb d7_seen_32 (by decide) (fun hc5 => ?_) (fun hc5 => ?_)
      · have h0 := og_f hc5 h0
        refine lv_aload_n hx hb d7_seen_38 rfl (lv_at hl 0 rfl) ?_
        refine g7_64 S hK hR d7_seen_39 ?_
        refine lv_aload_n hx hb d7_seen_42 rfl (lv_at hl 0 rfl) ?_
        refine g7_165 S hK hR d7_seen_43 ?_
        refine lv_iload_n hx hb d7_seen_46 rfl (lv_at hl 1 rfl) ?_
        obtain ⟨hi6, h0⟩ := og_if h0
        obtain ⟨σ7, hm7, h0⟩ := og_m h0
        refine q_st S hK hR hS (by decide) (eM_122 w) hi6 rfl hm7 d7_seen_47 (fun H locs hR hS => ?_)
        refine lv_aload_n hx hb d7_seen_48 rfl (lv_at hl 0 rfl) ?_
        refine g7_67 S hK hR d7_seen_49 ?_
        refine lv_aload_n hx hb d7_seen_52 rfl (lv_at hl 0 rfl) ?_
        refine g7_165 S hK hR d7_seen_53 ?_
        refine lv_iload_n hx hb d7_seen_56 rfl (lv_at hl 2 rfl) ?_
        obtain ⟨hi8, h0⟩ := og_if h0
        obtain ⟨σ9, hm9, h0⟩ := og_m h0
        refine q_st S hK hR hS (by decide) (eM_123 w) hi8 rfl hm9 d7_seen_57 (fun H locs hR hS => ?_)
        refine lv_aload_n hx hb d7_seen_58 rfl (lv_at hl 0 rfl) ?_
        refine lv_dup hx hb d7_seen_59 rfl ?_
        refine g7_165 S hK hR d7_seen_60 ?_
        refine lv_iconst (v := 1) hx hb d7_seen_63 (by decide) ?_
        refine lv_iadd hx hb d7_seen_64 ?_
        obtain ⟨σ10, hm10, h0⟩ := og_m h0
        refine u7_165 S hK hR hS hm10 d7_seen_65 (fun H locs hR hS => ?_)
        refine lv_aload_n hx hb d7_seen_68 rfl (lv_at hl 0 rfl) ?_
        refine g7_165 S hK hR d7_seen_69 ?_
        exact q_iret S hr hlk hR hS h0 d7_seen_72
      · have h0 := og_t hc5 h0
        refine lv_bipush (v := (-3)) hx hb d7_seen_35 (by decide) ?_
        exact q_iret S hr hlk hR hS h0 d7_seen_37
    · have h0 := og_t hc4 h0
      refine lv_iconst (v := (-1)) hx hb d7_seen_24 (by decide) ?_
      exact q_iret S hr hlk hR hS h0 d7_seen_25
/-! FourTenGatesModel.forget()I -/
abbrev rm7_forget : Room := { frames := 0, cells := 0, slots := 0, locals := 0 }
theorem d7_forget_0 : decode cX7_forget 0 = .ok (.aload_n 0, 1) := by decide +kernel
theorem d7_forget_1 : decode cX7_forget 1 = .ok (.getfield 165, 3) := by decide +kernel
theorem d7_forget_4 : decode cX7_forget 4 = .ok (.istore_n 1, 1) := by decide +kernel
theorem d7_forget_5 : decode cX7_forget 5 = .ok (.aload_n 0, 1) := by decide +kernel
theorem d7_forget_6 : decode cX7_forget 6 = .ok (.iconst 0, 1) := by decide +kernel
theorem d7_forget_7 : decode cX7_forget 7 = .ok (.putfield 165, 3) := by decide +kernel
theorem d7_forget_10 : decode cX7_forget 10 = .ok (.iload_n 1, 1) := by decide +kernel
theorem d7_forget_11 : decode cX7_forget 11 = .ok (.ireturn, 1) := by decide +kernel
def f7_forget (σ : Mem) : Option (Mem × Int32) := bm (mu σ 0 21 0) fun σ1 => some (σ1, σ 0 21)
set_option maxHeartbeats 4000000 in
set_option maxRecDepth 100000 in
theorem c7_forget (l : Launch) {w : WV} {σ : Mem} {σ' : Mem} {r : Int32} (h0 : f7_forget σ = some (σ', r)) : Met l yX7_forget (wy yX7_forget cX7_forget 2 (some .int)) rm7_forget (Pw EM LM w [.ref (w.2.2 0)] σ) (Qw EM LM w σ' (some (.int r))) 0 0 (AW LM w) := by
  refine mk_met (by decide) (Nat.le_of_ble_eq_true rfl) ?_
  intro p e s m below meth c S hr hlk hK hR ls hl
  obtain ⟨hx, hb, hml, hown, hts⟩ := id S
  have hl : lv_has ls 2 [(0, .ref (w.2.2 0))] := hl
  have hS : va_S (AW LM w) s.heap s.heap [] := va_S.rf
  unfold f7_forget at h0
  refine lv_aload_n hx hb d7_forget_0 rfl (lv_at hl 0 rfl) ?_
  refine g7_165 S hK hR d7_forget_1 ?_
  refine lv_istore_n (lv' := [(1, .int (σ 0 21)), (0, .ref (w.2.2 0))]) hx hb d7_forget_4 rfl hl (by decide) rfl (fun ls hl => ?_)
  refine lv_aload_n hx hb d7_forget_5 rfl (lv_at hl 1 rfl) ?_
  refine lv_iconst (v := 0) hx hb d7_forget_6 (by decide) ?_
  obtain ⟨σ1, hm1, h0⟩ := og_m h0
  refine u7_165 S hK hR hS hm1 d7_forget_7 (fun H locs hR hS => ?_)
  refine lv_iload_n hx hb d7_forget_10 rfl (lv_at hl 0 rfl) ?_
  exact q_iret S hr hlk hR hS h0 d7_forget_11
/-! FourTenGatesModel.fits()I -/
abbrev rm7_fits : Room := { frames := 6, cells := 0, slots := 0, locals := 139 }
theorem d7_fits_0 : decode cX7_fits 0 = .ok (.iconst 0, 1) := by decide +kernel
theorem d7_fits_1 : decode cX7_fits 1 = .ok (.istore_n 1, 1) := by decide +kernel
theorem d7_fits_2 : decode cX7_fits 2 = .ok (.iconst 0, 1) := by decide +kernel
theorem d7_fits_3 : decode cX7_fits 3 = .ok (.istore_n 2, 1) := by decide +kernel
theorem d7_fits_4 : decode cX7_fits 4 = .ok (.iload_n 2, 1) := by decide +kernel
theorem d7_fits_5 : decode cX7_fits 5 = .ok (.iconst 4, 1) := by decide +kernel
theorem d7_fits_6 : decode cX7_fits 6 = .ok (.if_icmp .ge 81, 3) := by decide +kernel
theorem d7_fits_9 : decode cX7_fits 9 = .ok (.aload_n 0, 1) := by decide +kernel
theorem d7_fits_10 : decode cX7_fits 10 = .ok (.iload_n 2, 1) := by decide +kernel
theorem d7_fits_11 : decode cX7_fits 11 = .ok (.iconst 0, 1) := by decide +kernel
theorem d7_fits_12 : decode cX7_fits 12 = .ok (.invokevirtual 245, 3) := by decide +kernel
theorem d7_fits_15 : decode cX7_fits 15 = .ok (.iconst 1, 1) := by decide +kernel
theorem d7_fits_16 : decode cX7_fits 16 = .ok (.istore_n 3, 1) := by decide +kernel
theorem d7_fits_17 : decode cX7_fits 17 = .ok (.iconst 0, 1) := by decide +kernel
theorem d7_fits_18 : decode cX7_fits 18 = .ok (.istore 4, 2) := by decide +kernel
theorem d7_fits_20 : decode cX7_fits 20 = .ok (.iload 4, 2) := by decide +kernel
theorem d7_fits_22 : decode cX7_fits 22 = .ok (.aload_n 0, 1) := by decide +kernel
theorem d7_fits_23 : decode cX7_fits 23 = .ok (.getfield 165, 3) := by decide +kernel
theorem d7_fits_26 : decode cX7_fits 26 = .ok (.if_icmp .ge 41, 3) := by decide +kernel
theorem d7_fits_29 : decode cX7_fits 29 = .ok (.iload_n 3, 1) := by decide +kernel
theorem d7_fits_30 : decode cX7_fits 30 = .ok (.ifCond .eq 29, 3) := by decide +kernel
theorem d7_fits_33 : decode cX7_fits 33 = .ok (.aload_n 0, 1) := by decide +kernel
theorem d7_fits_34 : decode cX7_fits 34 = .ok (.getfield 73, 3) := by decide +kernel
theorem d7_fits_37 : decode cX7_fits 37 = .ok (.aload_n 0, 1) := by decide +kernel
theorem d7_fits_38 : decode cX7_fits 38 = .ok (.getfield 64, 3) := by decide +kernel
theorem d7_fits_41 : decode cX7_fits 41 = .ok (.iload 4, 2) := by decide +kernel
theorem d7_fits_43 : decode cX7_fits 43 = .ok (.iaload, 1) := by decide +kernel
theorem d7_fits_44 : decode cX7_fits 44 = .ok (.iaload, 1) := by decide +kernel
theorem d7_fits_45 : decode cX7_fits 45 = .ok (.aload_n 0, 1) := by decide +kernel
theorem d7_fits_46 : decode cX7_fits 46 = .ok (.getfield 67, 3) := by decide +kernel
theorem d7_fits_49 : decode cX7_fits 49 = .ok (.iload 4, 2) := by decide +kernel
theorem d7_fits_51 : decode cX7_fits 51 = .ok (.iaload, 1) := by decide +kernel
theorem d7_fits_52 : decode cX7_fits 52 = .ok (.if_icmp .ne 7, 3) := by decide +kernel
theorem d7_fits_55 : decode cX7_fits 55 = .ok (.iconst 1, 1) := by decide +kernel
theorem d7_fits_56 : decode cX7_fits 56 = .ok (.goto 4, 3) := by decide +kernel
theorem d7_fits_59 : decode cX7_fits 59 = .ok (.iconst 0, 1) := by decide +kernel
theorem d7_fits_60 : decode cX7_fits 60 = .ok (.istore_n 3, 1) := by decide +kernel
theorem d7_fits_61 : decode cX7_fits 61 = .ok (.iinc 4 1, 3) := by decide +kernel
theorem d7_fits_64 : decode cX7_fits 64 = .ok (.goto (-44), 3) := by decide +kernel
theorem d7_fits_67 : decode cX7_fits 67 = .ok (.iload_n 1, 1) := by decide +kernel
theorem d7_fits_68 : decode cX7_fits 68 = .ok (.iload_n 3, 1) := by decide +kernel
theorem d7_fits_69 : decode cX7_fits 69 = .ok (.ifCond .eq 9, 3) := by decide +kernel
theorem d7_fits_72 : decode cX7_fits 72 = .ok (.iconst 1, 1) := by decide +kernel
theorem d7_fits_73 : decode cX7_fits 73 = .ok (.iload_n 2, 1) := by decide +kernel
theorem d7_fits_74 : decode cX7_fits 74 = .ok (.ishl, 1) := by decide +kernel
theorem d7_fits_75 : decode cX7_fits 75 = .ok (.goto 4, 3) := by decide +kernel
theorem d7_fits_78 : decode cX7_fits 78 = .ok (.iconst 0, 1) := by decide +kernel
theorem d7_fits_79 : decode cX7_fits 79 = .ok (.ior, 1) := by decide +kernel
theorem d7_fits_80 : decode cX7_fits 80 = .ok (.istore_n 1, 1) := by decide +kernel
theorem d7_fits_81 : decode cX7_fits 81 = .ok (.iinc 2 1, 3) := by decide +kernel
theorem d7_fits_84 : decode cX7_fits 84 = .ok (.goto (-80), 3) := by decide +kernel
theorem d7_fits_87 : decode cX7_fits 87 = .ok (.iload_n 1, 1) := by decide +kernel
theorem d7_fits_88 : decode cX7_fits 88 = .ok (.ireturn, 1) := by decide +kernel
def f7_fits_b20 (k4 : Mem → Int32 → Int32 → Option (Mem × Int32)) : Nat → Mem → Int32 → Int32 → Int32 → Int32 → Option (Mem × Int32)
  | 0, _, _, _, _, _ => none
  | n + 1, σ, x1, x2, x3, x4 => if (σ 0 21) ≤ x4 then if x3 = 0 then k4 σ (x1 ||| 0) (x2 + 1) else k4 σ (x1 ||| (1 <<< (x2 &&& 31))) (x2 + 1) else if x3 = 0 then f7_fits_b20 k4 n σ x1 x2 0 (x4 + 1) else if ¬ (x4 < 0 ∨ 8 ≤ x4.toNatClampNeg) then if ¬ (σ 23 x4.toNatClampNeg < 0 ∨ 360 ≤ (σ 23 x4.toNatClampNeg).toNatClampNeg) then if ¬ (x4 < 0 ∨ 8 ≤ x4.toNatClampNeg) then if (σ 27 ((σ 23 x4.toNatClampNeg).toNatClampNeg)) = (σ 24 x4.toNatClampNeg) then f7_fits_b20 k4 n σ x1 x2 1 (x4 + 1) else f7_fits_b20 k4 n σ x1 x2 0 (x4 + 1) else none else none else none
set_option maxHeartbeats 4000000 in
set_option maxRecDepth 100000 in
theorem t7_fits_b20 {p : Program} {l : Launch} {e : Env} {s : State} {m : MethodId} {args : Array Value} {below : List Frame} {meth : Method} {c : Code} {w : WV} {σ' : Mem} {r : Int32} {k4 : Mem → Int32 → Int32 → Option (Mem × Int32)} (S : CallFix p m c cX7_fits 5 s args gtbl RX7) (hr : meth.sig.returnType = (some .int)) (hlk : meth.locks = false) (hK : KS LM w s) (hk4 : ∀ (σ : Mem) (x1 : Int32) (x2 : Int32), k4 σ x1 x2 = some (σ', r) → ∀ (H : Heap) (locs : List Loc), Rp EM LM w σ H → va_S (AW LM w) s.heap H locs → ∀ (ls : Array Slot), lv_has ls 5 [(0, .ref (w.2.2 0)), (1, .int x1), (2, .int x2)] → W p l e rm7_fits s m args below meth c H locs 0 0 (MQ below (Qw EM LM w σ' (some (.int r))) args s 0 0 (AW LM w)) (F0 m 4 ls [])) : ∀ (n : Nat), ∀ (σ : Mem) (x1 : Int32) (x2 : Int32) (x3 : Int32) (x4 : Int32), f7_fits_b20 k4 n σ x1 x2 x3 x4 = some (σ', r) → ∀ (H : Heap) (locs : List Loc), Rp EM LM w σ H → va_S (AW LM w) s.heap H locs → ∀ (ls : Array Slot), lv_has ls 5 [(0, .ref (w.2.2 0)), (1, .int x1), (2, .int x2), (3, .int x3), (4, .int x4)] → W p l e rm7_fits s m args below meth c H locs 0 0 (MQ below (Qw EM LM w σ' (some (.int r))) args s 0 0 (AW LM w)) (F0 m 20 ls []) := by
  obtain ⟨hx, hb, hml, hown, hts⟩ := id S
  intro n
  induction n with
  | zero =>
    intro σ x1 x2 x3 x4 h0
    cases (show none = _ from h0)
  | succ n ih =>
    intro σ x1 x2 x3 x4 h0 H locs hR hS ls hl
    rw [f7_fits_b20] at h0
    refine lv_iload hx hb d7_fits_20 (lv_at hl 4 rfl) ?_
    refine lv_aload_n hx hb d7_fits_22 rfl (lv_at hl 0 rfl) ?_
    refine g7_165 S hK hR d7_fits_23 ?_
    refine lv_icmp_ge (tgt := 67) hx hb d7_fits_26 (by decide) (fun hc1 => ?_) (fun hc1 => ?_)
    · have h0 := og_t hc1 h0
      refine lv_iload_n hx hb d7_fits_67 rfl (lv_at hl 1 rfl) ?_
      refine lv_iload_n hx hb d7_fits_68 rfl (lv_at hl 3 rfl) ?_
      refine lv_if_eq (tgt := 78) hx hb d7_fits_69 (by decide) (fun hc2 => ?_) (fun hc2 => ?_)
      · have h0 := og_t hc2 h0
        refine lv_iconst (v := 0) hx hb d7_fits_78 (by decide) ?_
        refine lv_ior hx hb d7_fits_79 ?_
        refine lv_istore_n (lv' := [(1, .int (x1 ||| 0)), (0, .ref (w.2.2 0)), (2, .int x2), (3, .int x3), (4, .int x4)]) hx hb d7_fits_80 rfl hl (by decide) rfl (fun ls hl => ?_)
        refine lv_iinc (v := x2 + 1) (lv' := [(2, .int (x2 + 1)), (1, .int (x1 ||| 0)), (0, .ref (w.2.2 0)), (3, .int x3), (4, .int x4)]) hx hb d7_fits_81 hl (k := 2) rfl (ii1 _) (by decide) rfl (fun ls hl => ?_)
        refine lv_goto (tgt := 4) hx hb d7_fits_84 (by decide) ?_
        exact hk4 σ (x1 ||| 0) (x2 + 1) h0 _ _ hR hS _ (lv_sub hl [2, 1, 0] rfl)
      · have h0 := og_f hc2 h0
        refine lv_iconst (v := 1) hx hb d7_fits_72 (by decide) ?_
        refine lv_iload_n hx hb d7_fits_73 rfl (lv_at hl 2 rfl) ?_
        refine lv_ishl hx hb d7_fits_74 ?_
        refine lv_goto (tgt := 79) hx hb d7_fits_75 (by decide) ?_
        refine lv_ior hx hb d7_fits_79 ?_
        refine lv_istore_n (lv' := [(1, .int (x1 ||| (1 <<< (x2 &&& 31)))), (0, .ref (w.2.2 0)), (2, .int x2), (3, .int x3), (4, .int x4)]) hx hb d7_fits_80 rfl hl (by decide) rfl (fun ls hl => ?_)
        refine lv_iinc (v := x2 + 1) (lv' := [(2, .int (x2 + 1)), (1, .int (x1 ||| (1 <<< (x2 &&& 31)))), (0, .ref (w.2.2 0)), (3, .int x3), (4, .int x4)]) hx hb d7_fits_81 hl (k := 2) rfl (ii1 _) (by decide) rfl (fun ls hl => ?_)
        refine lv_goto (tgt := 4) hx hb d7_fits_84 (by decide) ?_
        exact hk4 σ (x1 ||| (1 <<< (x2 &&& 31))) (x2 + 1) h0 _ _ hR hS _ (lv_sub hl [2, 1, 0] rfl)
    · have h0 := og_f hc1 h0
      refine lv_iload_n hx hb d7_fits_29 rfl (lv_at hl 3 rfl) ?_
      refine lv_if_eq (tgt := 59) hx hb d7_fits_30 (by decide) (fun hc2 => ?_) (fun hc2 => ?_)
      · have h0 := og_t hc2 h0
        refine lv_iconst (v := 0) hx hb d7_fits_59 (by decide) ?_
        refine lv_istore_n (lv' := [(3, .int 0), (0, .ref (w.2.2 0)), (1, .int x1), (2, .int x2), (4, .int x4)]) hx hb d7_fits_60 rfl hl (by decide) rfl (fun ls hl => ?_)
        refine lv_iinc (v := x4 + 1) (lv' := [(4, .int (x4 + 1)), (3, .int 0), (0, .ref (w.2.2 0)), (1, .int x1), (2, .int x2)]) hx hb d7_fits_61 hl (k := 4) rfl (ii1 _) (by decide) rfl (fun ls hl => ?_)
        refine lv_goto (tgt := 20) hx hb d7_fits_64 (by decide) ?_
        exact ih σ x1 x2 0 (x4 + 1) h0 _ _ hR hS _ (lv_sub hl [2, 3, 4, 1, 0] rfl)
      · have h0 := og_f hc2 h0
        refine lv_aload_n hx hb d7_fits_33 rfl (lv_at hl 0 rfl) ?_
        refine g7_73 S hK hR d7_fits_34 ?_
        refine lv_aload_n hx hb d7_fits_37 rfl (lv_at hl 0 rfl) ?_
        refine g7_64 S hK hR d7_fits_38 ?_
        refine lv_iload hx hb d7_fits_41 (lv_at hl 4 rfl) ?_
        obtain ⟨hi3, h0⟩ := og_if h0
        refine q_ld (k := x4.toNatClampNeg) S hK hR (by decide) (eM_122 w _) hi3 rfl d7_fits_43 ?_
        obtain ⟨hi4, h0⟩ := og_if h0
        refine q_ld (k := ((σ 23 x4.toNatClampNeg).toNatClampNeg)) S hK hR (by decide) (eM_126 w _) hi4 rfl d7_fits_44 ?_
        refine lv_aload_n hx hb d7_fits_45 rfl (lv_at hl 0 rfl) ?_
        refine g7_67 S hK hR d7_fits_46 ?_
        refine lv_iload hx hb d7_fits_49 (lv_at hl 4 rfl) ?_
        obtain ⟨hi5, h0⟩ := og_if h0
        refine q_ld (k := x4.toNatClampNeg) S hK hR (by decide) (eM_123 w _) hi5 rfl d7_fits_51 ?_
        refine lv_icmp_ne (tgt := 59) hx hb d7_fits_52 (by decide) (fun hc6 => ?_) (fun hc6 => ?_)
        · have h0 := og_f hc6 h0
          refine lv_iconst (v := 0) hx hb d7_fits_59 (by decide) ?_
          refine lv_istore_n (lv' := [(3, .int 0), (0, .ref (w.2.2 0)), (1, .int x1), (2, .int x2), (4, .int x4)]) hx hb d7_fits_60 rfl hl (by decide) rfl (fun ls hl => ?_)
          refine lv_iinc (v := x4 + 1) (lv' := [(4, .int (x4 + 1)), (3, .int 0), (0, .ref (w.2.2 0)), (1, .int x1), (2, .int x2)]) hx hb d7_fits_61 hl (k := 4) rfl (ii1 _) (by decide) rfl (fun ls hl => ?_)
          refine lv_goto (tgt := 20) hx hb d7_fits_64 (by decide) ?_
          exact ih σ x1 x2 0 (x4 + 1) h0 _ _ hR hS _ (lv_sub hl [2, 3, 4, 1, 0] rfl)
        · have h0 := og_t hc6 h0
          refine lv_iconst (v := 1) hx hb d7_fits_55 (by decide) ?_
          refine lv_goto (tgt := 60) hx hb d7_fits_56 (by decide) ?_
          refine lv_istore_n (lv' := [(3, .int 1), (0, .ref (w.2.2 0)), (1, .int x1), (2, .int x2), (4, .int x4)]) hx hb d7_fits_60 rfl hl (by decide) rfl (fun ls hl => ?_)
          refine lv_iinc (v := x4 + 1) (lv' := [(4, .int (x4 + 1)), (3, .int 1), (0, .ref (w.2.2 0)), (1, .int x1), (2, .int x2)]) hx hb d7_fits_61 hl (k := 4) rfl (ii1 _) (by decide) rfl (fun ls hl => ?_)
          refine lv_goto (tgt := 20) hx hb d7_fits_64 (by decide) ?_
          exact ih σ x1 x2 1 (x4 + 1) h0 _ _ hR hS _ (lv_sub hl [2, 3, 4, 1, 0] rfl)
def f7_fits_b4 : Nat → Mem → Int32 → Int32 → Option (Mem × Int32)
  | 0, _, _, _ => none
  | n + 1, σ, x1, x2 => if 4 ≤ x2 then some (σ, x1) else Option.bind (f7_goHour σ x2 0) fun σ2 => f7_fits_b20 (f7_fits_b4 n) 1000 σ2 x1 x2 1 0
set_option maxHeartbeats 4000000 in
set_option maxRecDepth 100000 in
theorem t7_fits_b4 {p : Program} {l : Launch} {e : Env} {s : State} {m : MethodId} {args : Array Value} {below : List Frame} {meth : Method} {c : Code} {w : WV} {σ' : Mem} {r : Int32} (S : CallFix p m c cX7_fits 5 s args gtbl RX7) (hr : meth.sig.returnType = (some .int)) (hlk : meth.locks = false) (hK : KS LM w s) : ∀ (n : Nat), ∀ (σ : Mem) (x1 : Int32) (x2 : Int32), f7_fits_b4  n σ x1 x2 = some (σ', r) → ∀ (H : Heap) (locs : List Loc), Rp EM LM w σ H → va_S (AW LM w) s.heap H locs → ∀ (ls : Array Slot), lv_has ls 5 [(0, .ref (w.2.2 0)), (1, .int x1), (2, .int x2)] → W p l e rm7_fits s m args below meth c H locs 0 0 (MQ below (Qw EM LM w σ' (some (.int r))) args s 0 0 (AW LM w)) (F0 m 4 ls []) := by
  obtain ⟨hx, hb, hml, hown, hts⟩ := id S
  intro n
  induction n with
  | zero =>
    intro σ x1 x2 h0
    cases (show none = _ from h0)
  | succ n ih =>
    intro σ x1 x2 h0 H locs hR hS ls hl
    rw [f7_fits_b4] at h0
    refine lv_iload_n hx hb d7_fits_4 rfl (lv_at hl 2 rfl) ?_
    refine lv_iconst (v := 4) hx hb d7_fits_5 (by decide) ?_
    refine lv_icmp_ge (tgt := 87) hx hb d7_fits_6 (by decide) (fun hc1 => ?_) (fun hc1 => ?_)
    · have h0 := og_t hc1 h0
      refine lv_iload_n hx hb d7_fits_87 rfl (lv_at hl 1 rfl) ?_
      exact q_iret S hr hlk hR hS h0 d7_fits_88
    · have h0 := og_f hc1 h0
      refine lv_aload_n hx hb d7_fits_9 rfl (lv_at hl 0 rfl) ?_
      refine lv_iload_n hx hb d7_fits_10 rfl (lv_at hl 2 rfl) ?_
      refine lv_iconst (v := 0) hx hb d7_fits_11 (by decide) ?_
      obtain ⟨σ2, hr2, h0⟩ := og_b h0
      refine k7_245 S hK hR hS  hr2 ⟨Nat.zero_le _, Nat.zero_le _⟩ ⟨Nat.le_of_ble_eq_true rfl, Nat.le_of_ble_eq_true rfl⟩ hl.1 (Nat.le_of_ble_eq_true rfl) d7_fits_12 (fun H locs hR hS => ?_)
      refine lv_iconst (v := 1) hx hb d7_fits_15 (by decide) ?_
      refine lv_istore_n (lv' := [(3, .int 1), (0, .ref (w.2.2 0)), (1, .int x1), (2, .int x2)]) hx hb d7_fits_16 rfl hl (by decide) rfl (fun ls hl => ?_)
      refine lv_iconst (v := 0) hx hb d7_fits_17 (by decide) ?_
      refine lv_istore (lv' := [(4, .int 0), (3, .int 1), (0, .ref (w.2.2 0)), (1, .int x1), (2, .int x2)]) hx hb d7_fits_18 hl (by decide) rfl (fun ls hl => ?_)
      exact t7_fits_b20 S hr hlk hK ih 1000 σ2 x1 x2 1 0 h0 _ _ hR hS _ (lv_sub hl [2, 3, 4, 1, 0] rfl)
def f7_fits (σ : Mem) : Option (Mem × Int32) := f7_fits_b4 1000 σ 0 0
set_option maxHeartbeats 4000000 in
set_option maxRecDepth 100000 in
theorem c7_fits (l : Launch) {w : WV} {σ : Mem} {σ' : Mem} {r : Int32} (h0 : f7_fits σ = some (σ', r)) : Met l yX7_fits (wy yX7_fits cX7_fits 5 (some .int)) rm7_fits (Pw EM LM w [.ref (w.2.2 0)] σ) (Qw EM LM w σ' (some (.int r))) 0 0 (AW LM w) := by
  refine mk_met (by decide) (Nat.le_of_ble_eq_true rfl) ?_
  intro p e s m below meth c S hr hlk hK hR ls hl
  obtain ⟨hx, hb, hml, hown, hts⟩ := id S
  have hl : lv_has ls 5 [(0, .ref (w.2.2 0))] := hl
  have hS : va_S (AW LM w) s.heap s.heap [] := va_S.rf
  unfold f7_fits at h0
  refine lv_iconst (v := 0) hx hb d7_fits_0 (by decide) ?_
  refine lv_istore_n (lv' := [(1, .int 0), (0, .ref (w.2.2 0))]) hx hb d7_fits_1 rfl hl (by decide) rfl (fun ls hl => ?_)
  refine lv_iconst (v := 0) hx hb d7_fits_2 (by decide) ?_
  refine lv_istore_n (lv' := [(2, .int 0), (1, .int 0), (0, .ref (w.2.2 0))]) hx hb d7_fits_3 rfl hl (by decide) rfl (fun ls hl => ?_)
  exact t7_fits_b4 S hr hlk hK 1000 σ 0 0 h0 _ _ hR hS _ (lv_sub hl [2, 1, 0] rfl)
/-! FourTenGatesModel.bridge(II)I -/
abbrev rm7_bridge : Room := { frames := 7, cells := 0, slots := 0, locals := 161 }
theorem d7_bridge_0 : decode cX7_bridge 0 = .ok (.iload_n 1, 1) := by decide +kernel
theorem d7_bridge_1 : decode cX7_bridge 1 = .ok (.invokestatic 252, 3) := by decide +kernel
theorem d7_bridge_4 : decode cX7_bridge 4 = .ok (.ifCond .eq 15, 3) := by decide +kernel
theorem d7_bridge_7 : decode cX7_bridge 7 = .ok (.iload_n 2, 1) := by decide +kernel
theorem d7_bridge_8 : decode cX7_bridge 8 = .ok (.i2l, 1) := by decide +kernel
theorem d7_bridge_9 : decode cX7_bridge 9 = .ok (.lconst 1, 1) := by decide +kernel
theorem d7_bridge_10 : decode cX7_bridge 10 = .ok (.ldc2_w 276, 3) := by decide +kernel
theorem d7_bridge_13 : decode cX7_bridge 13 = .ok (.invokestatic 113, 3) := by decide +kernel
theorem d7_bridge_16 : decode cX7_bridge 16 = .ok (.ifCond .ne 5, 3) := by decide +kernel
theorem d7_bridge_19 : decode cX7_bridge 19 = .ok (.iconst (-1), 1) := by decide +kernel
theorem d7_bridge_20 : decode cX7_bridge 20 = .ok (.ireturn, 1) := by decide +kernel
theorem d7_bridge_21 : decode cX7_bridge 21 = .ok (.aload_n 0, 1) := by decide +kernel
theorem d7_bridge_22 : decode cX7_bridge 22 = .ok (.iload_n 1, 1) := by decide +kernel
theorem d7_bridge_23 : decode cX7_bridge 23 = .ok (.iconst 0, 1) := by decide +kernel
theorem d7_bridge_24 : decode cX7_bridge 24 = .ok (.invokevirtual 257, 3) := by decide +kernel
theorem d7_bridge_27 : decode cX7_bridge 27 = .ok (.istore_n 3, 1) := by decide +kernel
theorem d7_bridge_28 : decode cX7_bridge 28 = .ok (.iload_n 3, 1) := by decide +kernel
theorem d7_bridge_29 : decode cX7_bridge 29 = .ok (.ifCond .ne 9, 3) := by decide +kernel
theorem d7_bridge_32 : decode cX7_bridge 32 = .ok (.sipush 1000, 3) := by decide +kernel
theorem d7_bridge_35 : decode cX7_bridge 35 = .ok (.goto 13, 3) := by decide +kernel
theorem d7_bridge_38 : decode cX7_bridge 38 = .ok (.bipush 100, 2) := by decide +kernel
theorem d7_bridge_40 : decode cX7_bridge 40 = .ok (.iload_n 2, 1) := by decide +kernel
theorem d7_bridge_41 : decode cX7_bridge 41 = .ok (.imul, 1) := by decide +kernel
theorem d7_bridge_42 : decode cX7_bridge 42 = .ok (.iload_n 3, 1) := by decide +kernel
theorem d7_bridge_43 : decode cX7_bridge 43 = .ok (.iadd, 1) := by decide +kernel
theorem d7_bridge_44 : decode cX7_bridge 44 = .ok (.iconst 1, 1) := by decide +kernel
theorem d7_bridge_45 : decode cX7_bridge 45 = .ok (.isub, 1) := by decide +kernel
theorem d7_bridge_46 : decode cX7_bridge 46 = .ok (.iload_n 3, 1) := by decide +kernel
theorem d7_bridge_47 : decode cX7_bridge 47 = .ok (.idiv, 1) := by decide +kernel
theorem d7_bridge_48 : decode cX7_bridge 48 = .ok (.istore 4, 2) := by decide +kernel
theorem d7_bridge_50 : decode cX7_bridge 50 = .ok (.iload 4, 2) := by decide +kernel
theorem d7_bridge_52 : decode cX7_bridge 52 = .ok (.sipush 999, 3) := by decide +kernel
theorem d7_bridge_55 : decode cX7_bridge 55 = .ok (.if_icmp .le 8, 3) := by decide +kernel
theorem d7_bridge_58 : decode cX7_bridge 58 = .ok (.bipush (-4), 2) := by decide +kernel
theorem d7_bridge_60 : decode cX7_bridge 60 = .ok (.goto 5, 3) := by decide +kernel
theorem d7_bridge_63 : decode cX7_bridge 63 = .ok (.iload 4, 2) := by decide +kernel
theorem d7_bridge_65 : decode cX7_bridge 65 = .ok (.ireturn, 1) := by decide +kernel
def f7_bridge_b48 (σ : Mem) (s0 : Int32) : Option (Mem × Int32) := if s0 ≤ 999 then some (σ, s0) else some (σ, (-4))
set_option maxHeartbeats 4000000 in
set_option maxRecDepth 100000 in
theorem t7_bridge_b48 {p : Program} {l : Launch} {e : Env} {s : State} {m : MethodId} {args : Array Value} {below : List Frame} {meth : Method} {c : Code} {w : WV} {σ' : Mem} {r : Int32} (S : CallFix p m c cX7_bridge 5 s args gtbl RX7) (hr : meth.sig.returnType = (some .int)) (hlk : meth.locks = false) (hK : KS LM w s) : ∀ (σ : Mem) (s0 : Int32), f7_bridge_b48  σ s0 = some (σ', r) → ∀ (H : Heap) (locs : List Loc), Rp EM LM w σ H → va_S (AW LM w) s.heap H locs → ∀ (ls : Array Slot), lv_has ls 5 [] → W p l e rm7_bridge s m args below meth c H locs 0 0 (MQ below (Qw EM LM w σ' (some (.int r))) args s 0 0 (AW LM w)) (F0 m 48 ls [.int s0]) := by
  obtain ⟨hx, hb, hml, hown, hts⟩ := id S
  intro σ s0 h0 H locs hR hS ls hl
  unfold f7_bridge_b48 at h0
  refine lv_istore (lv' := [(4, .int s0)]) hx hb d7_bridge_48 hl (by decide) rfl (fun ls hl => ?_)
  refine lv_iload hx hb d7_bridge_50 (lv_at hl 0 rfl) ?_
  refine lv_sipush (v := 999) hx hb d7_bridge_52 (by decide) ?_
  refine lv_icmp_le (tgt := 63) hx hb d7_bridge_55 (by decide) (fun hc1 => ?_) (fun hc1 => ?_)
  · have h0 := og_t hc1 h0
    refine lv_iload hx hb d7_bridge_63 (lv_at hl 0 rfl) ?_
    exact q_iret S hr hlk hR hS h0 d7_bridge_65
  · have h0 := og_f hc1 h0
    refine lv_bipush (v := (-4)) hx hb d7_bridge_58 (by decide) ?_
    refine lv_goto (tgt := 65) hx hb d7_bridge_60 (by decide) ?_
    exact q_iret S hr hlk hR hS h0 d7_bridge_65
def f7_bridge (σ : Mem) (x1 : Int32) (x2 : Int32) : Option (Mem × Int32) := Option.bind (f7_isRule x1) fun r1 => if r1 = 0 then some (σ, (-1)) else Option.bind (f7_in x2.toInt64 (1 : Int64) (99 : Int64)) fun r3 => if r3 = 0 then some (σ, (-1)) else ob (f7_costBy σ x1 0) fun σ5 r5 => if r5 = 0 then f7_bridge_b48 σ5 1000 else if ¬ r5 = 0 then f7_bridge_b48 σ5 ((((100 * x2) + r5) - 1) / r5) else none
set_option maxHeartbeats 4000000 in
set_option maxRecDepth 100000 in
theorem c7_bridge (l : Launch) {w : WV} {σ : Mem} {x1 : Int32} {x2 : Int32} {σ' : Mem} {r : Int32} (h0 : f7_bridge σ x1 x2 = some (σ', r)) : Met l yX7_bridge (wy yX7_bridge cX7_bridge 5 (some .int)) rm7_bridge (Pw EM LM w [.ref (w.2.2 0), .int x1, .int x2] σ) (Qw EM LM w σ' (some (.int r))) 0 0 (AW LM w) := by
  refine mk_met (by decide) (Nat.le_of_ble_eq_true rfl) ?_
  intro p e s m below meth c S hr hlk hK hR ls hl
  obtain ⟨hx, hb, hml, hown, hts⟩ := id S
  have hl : lv_has ls 5 [(0, .ref (w.2.2 0)), (1, .int x1), (2, .int x2)] := hl
  have hS : va_S (AW LM w) s.heap s.heap [] := va_S.rf
  unfold f7_bridge at h0
  refine lv_iload_n hx hb d7_bridge_0 rfl (lv_at hl 1 rfl) ?_
  obtain ⟨r1, hr1, h0⟩ := og_b h0
  refine k7_252 S  hr1 ⟨Nat.zero_le _, Nat.zero_le _⟩ ⟨Nat.le_of_ble_eq_true rfl, Nat.le_of_ble_eq_true rfl⟩ hl.1 (Nat.le_of_ble_eq_true rfl) d7_bridge_1 ?_
  refine lv_if_eq (tgt := 19) hx hb d7_bridge_4 (by decide) (fun hc2 => ?_) (fun hc2 => ?_)
  · have h0 := og_t hc2 h0
    refine lv_iconst (v := (-1)) hx hb d7_bridge_19 (by decide) ?_
    exact q_iret S hr hlk hR hS h0 d7_bridge_20
  · have h0 := og_f hc2 h0
    refine lv_iload_n hx hb d7_bridge_7 rfl (lv_at hl 2 rfl) ?_
    refine lv_i2l hx hb d7_bridge_8 rfl ?_
    refine lv_lconst (v := 1) hx hb d7_bridge_9 (by decide) ?_
    refine lv_ldc2 (v := 99) hx hb hown (hts _ (gt_at 1271 (by decide +kernel) (by decide +kernel))) d7_bridge_10 ?_
    obtain ⟨r3, hr3, h0⟩ := og_b h0
    refine k7_113 S  hr3 ⟨Nat.zero_le _, Nat.zero_le _⟩ ⟨Nat.le_of_ble_eq_true rfl, Nat.le_of_ble_eq_true rfl⟩ hl.1 (Nat.le_of_ble_eq_true rfl) d7_bridge_13 ?_
    refine lv_if_ne (tgt := 21) hx hb d7_bridge_16 (by decide) (fun hc4 => ?_) (fun hc4 => ?_)
    · have h0 := og_f hc4 h0
      refine lv_aload_n hx hb d7_bridge_21 rfl (lv_at hl 0 rfl) ?_
      refine lv_iload_n hx hb d7_bridge_22 rfl (lv_at hl 1 rfl) ?_
      refine lv_iconst (v := 0) hx hb d7_bridge_23 (by decide) ?_
      obtain ⟨σ5, r5, hr5, h0⟩ := og_o h0
      refine k7_257 S hK hR hS  hr5 ⟨Nat.zero_le _, Nat.zero_le _⟩ ⟨Nat.le_of_ble_eq_true rfl, Nat.le_of_ble_eq_true rfl⟩ hl.1 (Nat.le_of_ble_eq_true rfl) d7_bridge_24 (fun H locs hR hS => ?_)
      refine lv_istore_n (lv' := [(3, .int r5), (0, .ref (w.2.2 0)), (1, .int x1), (2, .int x2)]) hx hb d7_bridge_27 rfl hl (by decide) rfl (fun ls hl => ?_)
      refine lv_iload_n hx hb d7_bridge_28 rfl (lv_at hl 0 rfl) ?_
      refine lv_if_ne (tgt := 38) hx hb d7_bridge_29 (by decide) (fun hc6 => ?_) (fun hc6 => ?_)
      · have h0 := og_f hc6 h0
        refine lv_bipush (v := 100) hx hb d7_bridge_38 (by decide) ?_
        refine lv_iload_n hx hb d7_bridge_40 rfl (lv_at hl 3 rfl) ?_
        refine lv_imul hx hb d7_bridge_41 ?_
        refine lv_iload_n hx hb d7_bridge_42 rfl (lv_at hl 0 rfl) ?_
        refine lv_iadd hx hb d7_bridge_43 ?_
        refine lv_iconst (v := 1) hx hb d7_bridge_44 (by decide) ?_
        refine lv_isub hx hb d7_bridge_45 ?_
        refine lv_iload_n hx hb d7_bridge_46 rfl (lv_at hl 0 rfl) ?_
        obtain ⟨hi7, h0⟩ := og_if h0
        refine lv_idiv hx hb d7_bridge_47 hi7 ?_
        exact t7_bridge_b48 S hr hlk hK σ5 ((((100 * x2) + r5) - 1) / r5) h0 _ _ hR hS _ (lv_sub hl [] rfl)
      · have h0 := og_t hc6 h0
        refine lv_sipush (v := 1000) hx hb d7_bridge_32 (by decide) ?_
        refine lv_goto (tgt := 48) hx hb d7_bridge_35 (by decide) ?_
        exact t7_bridge_b48 S hr hlk hK σ5 1000 h0 _ _ hR hS _ (lv_sub hl [] rfl)
    · have h0 := og_t hc4 h0
      refine lv_iconst (v := (-1)) hx hb d7_bridge_19 (by decide) ?_
      exact q_iret S hr hlk hR hS h0 d7_bridge_20
/-! FourTenGatesModel.mean(III)I -/
abbrev rm7_mean : Room := { frames := 7, cells := 0, slots := 0, locals := 161 }
theorem d7_mean_0 : decode cX7_mean 0 = .ok (.iload_n 1, 1) := by decide +kernel
theorem d7_mean_1 : decode cX7_mean 1 = .ok (.invokestatic 252, 3) := by decide +kernel
theorem d7_mean_4 : decode cX7_mean 4 = .ok (.ifCond .eq 21, 3) := by decide +kernel
theorem d7_mean_7 : decode cX7_mean 7 = .ok (.aload_n 0, 1) := by decide +kernel
theorem d7_mean_8 : decode cX7_mean 8 = .ok (.iload_n 2, 1) := by decide +kernel
theorem d7_mean_9 : decode cX7_mean 9 = .ok (.invokevirtual 173, 3) := by decide +kernel
theorem d7_mean_12 : decode cX7_mean 12 = .ok (.ifCond .eq 13, 3) := by decide +kernel
theorem d7_mean_15 : decode cX7_mean 15 = .ok (.iload_n 3, 1) := by decide +kernel
theorem d7_mean_16 : decode cX7_mean 16 = .ok (.i2l, 1) := by decide +kernel
theorem d7_mean_17 : decode cX7_mean 17 = .ok (.lconst 0, 1) := by decide +kernel
theorem d7_mean_18 : decode cX7_mean 18 = .ok (.lconst 1, 1) := by decide +kernel
theorem d7_mean_19 : decode cX7_mean 19 = .ok (.invokestatic 113, 3) := by decide +kernel
theorem d7_mean_22 : decode cX7_mean 22 = .ok (.ifCond .ne 5, 3) := by decide +kernel
theorem d7_mean_25 : decode cX7_mean 25 = .ok (.iconst (-1), 1) := by decide +kernel
theorem d7_mean_26 : decode cX7_mean 26 = .ok (.ireturn, 1) := by decide +kernel
theorem d7_mean_27 : decode cX7_mean 27 = .ok (.aload_n 0, 1) := by decide +kernel
theorem d7_mean_28 : decode cX7_mean 28 = .ok (.getfield 46, 3) := by decide +kernel
theorem d7_mean_31 : decode cX7_mean 31 = .ok (.iconst 0, 1) := by decide +kernel
theorem d7_mean_32 : decode cX7_mean 32 = .ok (.iaload, 1) := by decide +kernel
theorem d7_mean_33 : decode cX7_mean 33 = .ok (.ifCond .ne 6, 3) := by decide +kernel
theorem d7_mean_36 : decode cX7_mean 36 = .ok (.bipush (-4), 2) := by decide +kernel
theorem d7_mean_38 : decode cX7_mean 38 = .ok (.ireturn, 1) := by decide +kernel
theorem d7_mean_39 : decode cX7_mean 39 = .ok (.aload_n 0, 1) := by decide +kernel
theorem d7_mean_40 : decode cX7_mean 40 = .ok (.getfield 55, 3) := by decide +kernel
theorem d7_mean_43 : decode cX7_mean 43 = .ok (.iload_n 2, 1) := by decide +kernel
theorem d7_mean_44 : decode cX7_mean 44 = .ok (.iaload, 1) := by decide +kernel
theorem d7_mean_45 : decode cX7_mean 45 = .ok (.istore 4, 2) := by decide +kernel
theorem d7_mean_47 : decode cX7_mean 47 = .ok (.iconst 0, 1) := by decide +kernel
theorem d7_mean_48 : decode cX7_mean 48 = .ok (.istore 5, 2) := by decide +kernel
theorem d7_mean_50 : decode cX7_mean 50 = .ok (.iconst 0, 1) := by decide +kernel
theorem d7_mean_51 : decode cX7_mean 51 = .ok (.istore 6, 2) := by decide +kernel
theorem d7_mean_53 : decode cX7_mean 53 = .ok (.iload 6, 2) := by decide +kernel
theorem d7_mean_55 : decode cX7_mean 55 = .ok (.aload_n 0, 1) := by decide +kernel
theorem d7_mean_56 : decode cX7_mean 56 = .ok (.getfield 46, 3) := by decide +kernel
theorem d7_mean_59 : decode cX7_mean 59 = .ok (.iconst 0, 1) := by decide +kernel
theorem d7_mean_60 : decode cX7_mean 60 = .ok (.iaload, 1) := by decide +kernel
theorem d7_mean_61 : decode cX7_mean 61 = .ok (.if_icmp .ge 41, 3) := by decide +kernel
theorem d7_mean_64 : decode cX7_mean 64 = .ok (.aload_n 0, 1) := by decide +kernel
theorem d7_mean_65 : decode cX7_mean 65 = .ok (.getfield 55, 3) := by decide +kernel
theorem d7_mean_68 : decode cX7_mean 68 = .ok (.iload_n 2, 1) := by decide +kernel
theorem d7_mean_69 : decode cX7_mean 69 = .ok (.aload_n 0, 1) := by decide +kernel
theorem d7_mean_70 : decode cX7_mean 70 = .ok (.getfield 49, 3) := by decide +kernel
theorem d7_mean_73 : decode cX7_mean 73 = .ok (.iload 6, 2) := by decide +kernel
theorem d7_mean_75 : decode cX7_mean 75 = .ok (.iaload, 1) := by decide +kernel
theorem d7_mean_76 : decode cX7_mean 76 = .ok (.iastore, 1) := by decide +kernel
theorem d7_mean_77 : decode cX7_mean 77 = .ok (.iload 5, 2) := by decide +kernel
theorem d7_mean_79 : decode cX7_mean 79 = .ok (.aload_n 0, 1) := by decide +kernel
theorem d7_mean_80 : decode cX7_mean 80 = .ok (.getfield 52, 3) := by decide +kernel
theorem d7_mean_83 : decode cX7_mean 83 = .ok (.iload 6, 2) := by decide +kernel
theorem d7_mean_85 : decode cX7_mean 85 = .ok (.iaload, 1) := by decide +kernel
theorem d7_mean_86 : decode cX7_mean 86 = .ok (.aload_n 0, 1) := by decide +kernel
theorem d7_mean_87 : decode cX7_mean 87 = .ok (.iload_n 1, 1) := by decide +kernel
theorem d7_mean_88 : decode cX7_mean 88 = .ok (.iconst 0, 1) := by decide +kernel
theorem d7_mean_89 : decode cX7_mean 89 = .ok (.invokevirtual 257, 3) := by decide +kernel
theorem d7_mean_92 : decode cX7_mean 92 = .ok (.imul, 1) := by decide +kernel
theorem d7_mean_93 : decode cX7_mean 93 = .ok (.iadd, 1) := by decide +kernel
theorem d7_mean_94 : decode cX7_mean 94 = .ok (.istore 5, 2) := by decide +kernel
theorem d7_mean_96 : decode cX7_mean 96 = .ok (.iinc 6 1, 3) := by decide +kernel
theorem d7_mean_99 : decode cX7_mean 99 = .ok (.goto (-46), 3) := by decide +kernel
theorem d7_mean_102 : decode cX7_mean 102 = .ok (.aload_n 0, 1) := by decide +kernel
theorem d7_mean_103 : decode cX7_mean 103 = .ok (.getfield 55, 3) := by decide +kernel
theorem d7_mean_106 : decode cX7_mean 106 = .ok (.iload_n 2, 1) := by decide +kernel
theorem d7_mean_107 : decode cX7_mean 107 = .ok (.iload 4, 2) := by decide +kernel
theorem d7_mean_109 : decode cX7_mean 109 = .ok (.iastore, 1) := by decide +kernel
theorem d7_mean_110 : decode cX7_mean 110 = .ok (.iload 5, 2) := by decide +kernel
theorem d7_mean_112 : decode cX7_mean 112 = .ok (.bipush 10, 2) := by decide +kernel
theorem d7_mean_114 : decode cX7_mean 114 = .ok (.invokestatic 273, 3) := by decide +kernel
theorem d7_mean_117 : decode cX7_mean 117 = .ok (.istore 6, 2) := by decide +kernel
theorem d7_mean_119 : decode cX7_mean 119 = .ok (.iload_n 3, 1) := by decide +kernel
theorem d7_mean_120 : decode cX7_mean 120 = .ok (.ifCond .ne 11, 3) := by decide +kernel
theorem d7_mean_123 : decode cX7_mean 123 = .ok (.iload 5, 2) := by decide +kernel
theorem d7_mean_125 : decode cX7_mean 125 = .ok (.iload 6, 2) := by decide +kernel
theorem d7_mean_127 : decode cX7_mean 127 = .ok (.idiv, 1) := by decide +kernel
theorem d7_mean_128 : decode cX7_mean 128 = .ok (.goto 8, 3) := by decide +kernel
theorem d7_mean_131 : decode cX7_mean 131 = .ok (.bipush 10, 2) := by decide +kernel
theorem d7_mean_133 : decode cX7_mean 133 = .ok (.iload 6, 2) := by decide +kernel
theorem d7_mean_135 : decode cX7_mean 135 = .ok (.idiv, 1) := by decide +kernel
theorem d7_mean_136 : decode cX7_mean 136 = .ok (.ireturn, 1) := by decide +kernel
def f7_mean_b53 : Nat → Mem → Int32 → Int32 → Int32 → Int32 → Int32 → Int32 → Option (Mem × Int32)
  | 0, _, _, _, _, _, _, _ => none
  | n + 1, σ, x1, x2, x3, x4, x5, x6 => if (σ 14 0) ≤ x6 then if ¬ (x2 < 0 ∨ 19 ≤ x2.toNatClampNeg) then (bm (mu σ 17 x2.toNatClampNeg x4) fun σ3 => Option.bind (f7_common x5 10) fun r4 => if x3 = 0 then if ¬ r4 = 0 then some (σ3, x5 / r4) else none else if ¬ r4 = 0 then some (σ3, 10 / r4) else none) else none else if ¬ (x6 < 0 ∨ 10 ≤ x6.toNatClampNeg) then if ¬ (x2 < 0 ∨ 19 ≤ x2.toNatClampNeg) then (bm (mu σ 17 x2.toNatClampNeg (σ 15 x6.toNatClampNeg)) fun σ4 => if ¬ (x6 < 0 ∨ 10 ≤ x6.toNatClampNeg) then ob (f7_costBy σ4 x1 0) fun σ6 r6 => f7_mean_b53 n σ6 x1 x2 x3 x4 (x5 + ((σ4 16 x6.toNatClampNeg) * r6)) (x6 + 1) else none) else none else none
set_option maxHeartbeats 4000000 in
set_option maxRecDepth 100000 in
theorem t7_mean_b53 {p : Program} {l : Launch} {e : Env} {s : State} {m : MethodId} {args : Array Value} {below : List Frame} {meth : Method} {c : Code} {w : WV} {σ' : Mem} {r : Int32} (S : CallFix p m c cX7_mean 7 s args gtbl RX7) (hr : meth.sig.returnType = (some .int)) (hlk : meth.locks = false) (hK : KS LM w s) : ∀ (n : Nat), ∀ (σ : Mem) (x1 : Int32) (x2 : Int32) (x3 : Int32) (x4 : Int32) (x5 : Int32) (x6 : Int32), f7_mean_b53  n σ x1 x2 x3 x4 x5 x6 = some (σ', r) → ∀ (H : Heap) (locs : List Loc), Rp EM LM w σ H → va_S (AW LM w) s.heap H locs → ∀ (ls : Array Slot), lv_has ls 7 [(0, .ref (w.2.2 0)), (1, .int x1), (2, .int x2), (3, .int x3), (4, .int x4), (5, .int x5), (6, .int x6)] → W p l e rm7_mean s m args below meth c H locs 0 0 (MQ below (Qw EM LM w σ' (some (.int r))) args s 0 0 (AW LM w)) (F0 m 53 ls []) := by
  obtain ⟨hx, hb, hml, hown, hts⟩ := id S
  intro n
  induction n with
  | zero =>
    intro σ x1 x2 x3 x4 x5 x6 h0
    cases (show none = _ from h0)
  | succ n ih =>
    intro σ x1 x2 x3 x4 x5 x6 h0 H locs hR hS ls hl
    rw [f7_mean_b53] at h0
    refine lv_iload hx hb d7_mean_53 (lv_at hl 6 rfl) ?_
    refine lv_aload_n hx hb d7_mean_55 rfl (lv_at hl 0 rfl) ?_
    refine g7_46 S hK hR d7_mean_56 ?_
    refine lv_iconst (v := 0) hx hb d7_mean_59 (by decide) ?_
    refine q_ld (k := 0) S hK hR (by decide) (eM_113 w _) (vin (by decide)) (by decide) d7_mean_60 ?_
    refine lv_icmp_ge (tgt := 102) hx hb d7_mean_61 (by decide) (fun hc1 => ?_) (fun hc1 => ?_)
    · have h0 := og_t hc1 h0
      refine lv_aload_n hx hb d7_mean_102 rfl (lv_at hl 0 rfl) ?_
      refine g7_55 S hK hR d7_mean_103 ?_
      refine lv_iload_n hx hb d7_mean_106 rfl (lv_at hl 2 rfl) ?_
      refine lv_iload hx hb d7_mean_107 (lv_at hl 4 rfl) ?_
      obtain ⟨hi2, h0⟩ := og_if h0
      obtain ⟨σ3, hm3, h0⟩ := og_m h0
      refine q_st S hK hR hS (by decide) (eM_116 w) hi2 rfl hm3 d7_mean_109 (fun H locs hR hS => ?_)
      refine lv_iload hx hb d7_mean_110 (lv_at hl 5 rfl) ?_
      refine lv_bipush (v := 10) hx hb d7_mean_112 (by decide) ?_
      obtain ⟨r4, hr4, h0⟩ := og_b h0
      refine k7_273 S  hr4 ⟨Nat.zero_le _, Nat.zero_le _⟩ ⟨Nat.le_of_ble_eq_true rfl, Nat.le_of_ble_eq_true rfl⟩ hl.1 (Nat.le_of_ble_eq_true rfl) d7_mean_114 ?_
      refine lv_istore (lv' := [(6, .int r4), (0, .ref (w.2.2 0)), (1, .int x1), (2, .int x2), (3, .int x3), (4, .int x4), (5, .int x5)]) hx hb d7_mean_117 hl (by decide) rfl (fun ls hl => ?_)
      refine lv_iload_n hx hb d7_mean_119 rfl (lv_at hl 4 rfl) ?_
      refine lv_if_ne (tgt := 131) hx hb d7_mean_120 (by decide) (fun hc5 => ?_) (fun hc5 => ?_)
      · have h0 := og_f hc5 h0
        refine lv_bipush (v := 10) hx hb d7_mean_131 (by decide) ?_
        refine lv_iload hx hb d7_mean_133 (lv_at hl 0 rfl) ?_
        obtain ⟨hi6, h0⟩ := og_if h0
        refine lv_idiv hx hb d7_mean_135 hi6 ?_
        exact q_iret S hr hlk hR hS h0 d7_mean_136
      · have h0 := og_t hc5 h0
        refine lv_iload hx hb d7_mean_123 (lv_at hl 6 rfl) ?_
        refine lv_iload hx hb d7_mean_125 (lv_at hl 0 rfl) ?_
        obtain ⟨hi6, h0⟩ := og_if h0
        refine lv_idiv hx hb d7_mean_127 hi6 ?_
        refine lv_goto (tgt := 136) hx hb d7_mean_128 (by decide) ?_
        exact q_iret S hr hlk hR hS h0 d7_mean_136
    · have h0 := og_f hc1 h0
      refine lv_aload_n hx hb d7_mean_64 rfl (lv_at hl 0 rfl) ?_
      refine g7_55 S hK hR d7_mean_65 ?_
      refine lv_iload_n hx hb d7_mean_68 rfl (lv_at hl 2 rfl) ?_
      refine lv_aload_n hx hb d7_mean_69 rfl (lv_at hl 0 rfl) ?_
      refine g7_49 S hK hR d7_mean_70 ?_
      refine lv_iload hx hb d7_mean_73 (lv_at hl 6 rfl) ?_
      obtain ⟨hi2, h0⟩ := og_if h0
      refine q_ld (k := x6.toNatClampNeg) S hK hR (by decide) (eM_114 w _) hi2 rfl d7_mean_75 ?_
      obtain ⟨hi3, h0⟩ := og_if h0
      obtain ⟨σ4, hm4, h0⟩ := og_m h0
      refine q_st S hK hR hS (by decide) (eM_116 w) hi3 rfl hm4 d7_mean_76 (fun H locs hR hS => ?_)
      refine lv_iload hx hb d7_mean_77 (lv_at hl 5 rfl) ?_
      refine lv_aload_n hx hb d7_mean_79 rfl (lv_at hl 0 rfl) ?_
      refine g7_52 S hK hR d7_mean_80 ?_
      refine lv_iload hx hb d7_mean_83 (lv_at hl 6 rfl) ?_
      obtain ⟨hi5, h0⟩ := og_if h0
      refine q_ld (k := x6.toNatClampNeg) S hK hR (by decide) (eM_115 w _) hi5 rfl d7_mean_85 ?_
      refine lv_aload_n hx hb d7_mean_86 rfl (lv_at hl 0 rfl) ?_
      refine lv_iload_n hx hb d7_mean_87 rfl (lv_at hl 1 rfl) ?_
      refine lv_iconst (v := 0) hx hb d7_mean_88 (by decide) ?_
      obtain ⟨σ6, r6, hr6, h0⟩ := og_o h0
      refine k7_257 S hK hR hS  hr6 ⟨Nat.zero_le _, Nat.zero_le _⟩ ⟨Nat.le_of_ble_eq_true rfl, Nat.le_of_ble_eq_true rfl⟩ hl.1 (Nat.le_of_ble_eq_true rfl) d7_mean_89 (fun H locs hR hS => ?_)
      refine lv_imul hx hb d7_mean_92 ?_
      refine lv_iadd hx hb d7_mean_93 ?_
      refine lv_istore (lv' := [(5, .int (x5 + ((σ4 16 x6.toNatClampNeg) * r6))), (0, .ref (w.2.2 0)), (1, .int x1), (2, .int x2), (3, .int x3), (4, .int x4), (6, .int x6)]) hx hb d7_mean_94 hl (by decide) rfl (fun ls hl => ?_)
      refine lv_iinc (v := x6 + 1) (lv' := [(6, .int (x6 + 1)), (5, .int (x5 + ((σ4 16 x6.toNatClampNeg) * r6))), (0, .ref (w.2.2 0)), (1, .int x1), (2, .int x2), (3, .int x3), (4, .int x4)]) hx hb d7_mean_96 hl (k := 6) rfl (ii1 _) (by decide) rfl (fun ls hl => ?_)
      refine lv_goto (tgt := 53) hx hb d7_mean_99 (by decide) ?_
      exact ih σ6 x1 x2 x3 x4 (x5 + ((σ4 16 x6.toNatClampNeg) * r6)) (x6 + 1) h0 _ _ hR hS _ (lv_sub hl [2, 3, 4, 5, 6, 1, 0] rfl)
def f7_mean (σ : Mem) (x1 : Int32) (x2 : Int32) (x3 : Int32) : Option (Mem × Int32) := Option.bind (f7_isRule x1) fun r1 => if r1 = 0 then some (σ, (-1)) else Option.bind (f7_isTrain σ x2) fun r3 => if r3 = 0 then some (σ, (-1)) else Option.bind (f7_in x3.toInt64 (0 : Int64) (1 : Int64)) fun r5 => if r5 = 0 then some (σ, (-1)) else if (σ 14 0) = 0 then some (σ, (-4)) else if ¬ (x2 < 0 ∨ 19 ≤ x2.toNatClampNeg) then f7_mean_b53 1000 σ x1 x2 x3 (σ 17 x2.toNatClampNeg) 0 0 else none
set_option maxHeartbeats 4000000 in
set_option maxRecDepth 100000 in
theorem c7_mean (l : Launch) {w : WV} {σ : Mem} {x1 : Int32} {x2 : Int32} {x3 : Int32} {σ' : Mem} {r : Int32} (h0 : f7_mean σ x1 x2 x3 = some (σ', r)) : Met l yX7_mean (wy yX7_mean cX7_mean 7 (some .int)) rm7_mean (Pw EM LM w [.ref (w.2.2 0), .int x1, .int x2, .int x3] σ) (Qw EM LM w σ' (some (.int r))) 0 0 (AW LM w) := by
  refine mk_met (by decide) (Nat.le_of_ble_eq_true rfl) ?_
  intro p e s m below meth c S hr hlk hK hR ls hl
  obtain ⟨hx, hb, hml, hown, hts⟩ := id S
  have hl : lv_has ls 7 [(0, .ref (w.2.2 0)), (1, .int x1), (2, .int x2), (3, .int x3)] := hl
  have hS : va_S (AW LM w) s.heap s.heap [] := va_S.rf
  unfold f7_mean at h0
  refine lv_iload_n hx hb d7_mean_0 rfl (lv_at hl 1 rfl) ?_
  obtain ⟨r1, hr1, h0⟩ := og_b h0
  refine k7_252 S  hr1 ⟨Nat.zero_le _, Nat.zero_le _⟩ ⟨Nat.le_of_ble_eq_true rfl, Nat.le_of_ble_eq_true rfl⟩ hl.1 (Nat.le_of_ble_eq_true rfl) d7_mean_1 ?_
  refine lv_if_eq (tgt := 25) hx hb d7_mean_4 (by decide) (fun hc2 => ?_) (fun hc2 => ?_)
  · have h0 := og_t hc2 h0
    refine lv_iconst (v := (-1)) hx hb d7_mean_25 (by decide) ?_
    exact q_iret S hr hlk hR hS h0 d7_mean_26
  · have h0 := og_f hc2 h0
    refine lv_aload_n hx hb d7_mean_7 rfl (lv_at hl 0 rfl) ?_
    refine lv_iload_n hx hb d7_mean_8 rfl (lv_at hl 2 rfl) ?_
    obtain ⟨r3, hr3, h0⟩ := og_b h0
    refine k7_173 S hK hR  hr3 ⟨Nat.zero_le _, Nat.zero_le _⟩ ⟨Nat.le_of_ble_eq_true rfl, Nat.le_of_ble_eq_true rfl⟩ hl.1 (Nat.le_of_ble_eq_true rfl) d7_mean_9 ?_
    refine lv_if_eq (tgt := 25) hx hb d7_mean_12 (by decide) (fun hc4 => ?_) (fun hc4 => ?_)
    · have h0 := og_t hc4 h0
      refine lv_iconst (v := (-1)) hx hb d7_mean_25 (by decide) ?_
      exact q_iret S hr hlk hR hS h0 d7_mean_26
    · have h0 := og_f hc4 h0
      refine lv_iload_n hx hb d7_mean_15 rfl (lv_at hl 3 rfl) ?_
      refine lv_i2l hx hb d7_mean_16 rfl ?_
      refine lv_lconst (v := 0) hx hb d7_mean_17 (by decide) ?_
      refine lv_lconst (v := 1) hx hb d7_mean_18 (by decide) ?_
      obtain ⟨r5, hr5, h0⟩ := og_b h0
      refine k7_113 S  hr5 ⟨Nat.zero_le _, Nat.zero_le _⟩ ⟨Nat.le_of_ble_eq_true rfl, Nat.le_of_ble_eq_true rfl⟩ hl.1 (Nat.le_of_ble_eq_true rfl) d7_mean_19 ?_
      refine lv_if_ne (tgt := 27) hx hb d7_mean_22 (by decide) (fun hc6 => ?_) (fun hc6 => ?_)
      · have h0 := og_f hc6 h0
        refine lv_aload_n hx hb d7_mean_27 rfl (lv_at hl 0 rfl) ?_
        refine g7_46 S hK hR d7_mean_28 ?_
        refine lv_iconst (v := 0) hx hb d7_mean_31 (by decide) ?_
        refine q_ld (k := 0) S hK hR (by decide) (eM_113 w _) (vin (by decide)) (by decide) d7_mean_32 ?_
        refine lv_if_ne (tgt := 39) hx hb d7_mean_33 (by decide) (fun hc7 => ?_) (fun hc7 => ?_)
        · have h0 := og_f hc7 h0
          refine lv_aload_n hx hb d7_mean_39 rfl (lv_at hl 0 rfl) ?_
          refine g7_55 S hK hR d7_mean_40 ?_
          refine lv_iload_n hx hb d7_mean_43 rfl (lv_at hl 2 rfl) ?_
          obtain ⟨hi8, h0⟩ := og_if h0
          refine q_ld (k := x2.toNatClampNeg) S hK hR (by decide) (eM_116 w _) hi8 rfl d7_mean_44 ?_
          refine lv_istore (lv' := [(4, .int (σ 17 x2.toNatClampNeg)), (0, .ref (w.2.2 0)), (1, .int x1), (2, .int x2), (3, .int x3)]) hx hb d7_mean_45 hl (by decide) rfl (fun ls hl => ?_)
          refine lv_iconst (v := 0) hx hb d7_mean_47 (by decide) ?_
          refine lv_istore (lv' := [(5, .int 0), (4, .int (σ 17 x2.toNatClampNeg)), (0, .ref (w.2.2 0)), (1, .int x1), (2, .int x2), (3, .int x3)]) hx hb d7_mean_48 hl (by decide) rfl (fun ls hl => ?_)
          refine lv_iconst (v := 0) hx hb d7_mean_50 (by decide) ?_
          refine lv_istore (lv' := [(6, .int 0), (5, .int 0), (4, .int (σ 17 x2.toNatClampNeg)), (0, .ref (w.2.2 0)), (1, .int x1), (2, .int x2), (3, .int x3)]) hx hb d7_mean_51 hl (by decide) rfl (fun ls hl => ?_)
          exact t7_mean_b53 S hr hlk hK 1000 σ x1 x2 x3 (σ 17 x2.toNatClampNeg) 0 0 h0 _ _ hR hS _ (lv_sub hl [3, 4, 5, 6, 2, 1, 0] rfl)
        · have h0 := og_t hc7 h0
          refine lv_bipush (v := (-4)) hx hb d7_mean_36 (by decide) ?_
          exact q_iret S hr hlk hR hS h0 d7_mean_38
      · have h0 := og_t hc6 h0
        refine lv_iconst (v := (-1)) hx hb d7_mean_25 (by decide) ?_
        exact q_iret S hr hlk hR hS h0 d7_mean_26
/-! FourTenGatesModel.day(III)I -/
abbrev rm7_day : Room := { frames := 7, cells := 0, slots := 0, locals := 161 }
theorem d7_day_0 : decode cX7_day 0 = .ok (.iload_n 1, 1) := by decide +kernel
theorem d7_day_1 : decode cX7_day 1 = .ok (.invokestatic 252, 3) := by decide +kernel
theorem d7_day_4 : decode cX7_day 4 = .ok (.ifCond .eq 25, 3) := by decide +kernel
theorem d7_day_7 : decode cX7_day 7 = .ok (.iload_n 2, 1) := by decide +kernel
theorem d7_day_8 : decode cX7_day 8 = .ok (.i2l, 1) := by decide +kernel
theorem d7_day_9 : decode cX7_day 9 = .ok (.lconst 0, 1) := by decide +kernel
theorem d7_day_10 : decode cX7_day 10 = .ok (.ldc2_w 278, 3) := by decide +kernel
theorem d7_day_13 : decode cX7_day 13 = .ok (.invokestatic 113, 3) := by decide +kernel
theorem d7_day_16 : decode cX7_day 16 = .ok (.ifCond .eq 13, 3) := by decide +kernel
theorem d7_day_19 : decode cX7_day 19 = .ok (.iload_n 3, 1) := by decide +kernel
theorem d7_day_20 : decode cX7_day 20 = .ok (.i2l, 1) := by decide +kernel
theorem d7_day_21 : decode cX7_day 21 = .ok (.lconst 0, 1) := by decide +kernel
theorem d7_day_22 : decode cX7_day 22 = .ok (.lconst 1, 1) := by decide +kernel
theorem d7_day_23 : decode cX7_day 23 = .ok (.invokestatic 113, 3) := by decide +kernel
theorem d7_day_26 : decode cX7_day 26 = .ok (.ifCond .ne 5, 3) := by decide +kernel
theorem d7_day_29 : decode cX7_day 29 = .ok (.iconst (-1), 1) := by decide +kernel
theorem d7_day_30 : decode cX7_day 30 = .ok (.ireturn, 1) := by decide +kernel
theorem d7_day_31 : decode cX7_day 31 = .ok (.iconst 0, 1) := by decide +kernel
theorem d7_day_32 : decode cX7_day 32 = .ok (.istore 4, 2) := by decide +kernel
theorem d7_day_34 : decode cX7_day 34 = .ok (.iload 4, 2) := by decide +kernel
theorem d7_day_36 : decode cX7_day 36 = .ok (.bipush 6, 2) := by decide +kernel
theorem d7_day_38 : decode cX7_day 38 = .ok (.if_icmp .ge 62, 3) := by decide +kernel
theorem d7_day_41 : decode cX7_day 41 = .ok (.aload_n 0, 1) := by decide +kernel
theorem d7_day_42 : decode cX7_day 42 = .ok (.getfield 92, 3) := by decide +kernel
theorem d7_day_45 : decode cX7_day 45 = .ok (.iload 4, 2) := by decide +kernel
theorem d7_day_47 : decode cX7_day 47 = .ok (.aload_n 0, 1) := by decide +kernel
theorem d7_day_48 : decode cX7_day 48 = .ok (.getfield 55, 3) := by decide +kernel
theorem d7_day_51 : decode cX7_day 51 = .ok (.iload 4, 2) := by decide +kernel
theorem d7_day_53 : decode cX7_day 53 = .ok (.iaload, 1) := by decide +kernel
theorem d7_day_54 : decode cX7_day 54 = .ok (.iastore, 1) := by decide +kernel
theorem d7_day_55 : decode cX7_day 55 = .ok (.ldc2_w 280, 3) := by decide +kernel
theorem d7_day_58 : decode cX7_day 58 = .ok (.iload_n 2, 1) := by decide +kernel
theorem d7_day_59 : decode cX7_day 59 = .ok (.i2l, 1) := by decide +kernel
theorem d7_day_60 : decode cX7_day 60 = .ok (.lmul, 1) := by decide +kernel
theorem d7_day_61 : decode cX7_day 61 = .ok (.ldc2_w 282, 3) := by decide +kernel
theorem d7_day_64 : decode cX7_day 64 = .ok (.iload 4, 2) := by decide +kernel
theorem d7_day_66 : decode cX7_day 66 = .ok (.i2l, 1) := by decide +kernel
theorem d7_day_67 : decode cX7_day 67 = .ok (.lmul, 1) := by decide +kernel
theorem d7_day_68 : decode cX7_day 68 = .ok (.ladd, 1) := by decide +kernel
theorem d7_day_69 : decode cX7_day 69 = .ok (.lconst 1, 1) := by decide +kernel
theorem d7_day_70 : decode cX7_day 70 = .ok (.ladd, 1) := by decide +kernel
theorem d7_day_71 : decode cX7_day 71 = .ok (.lstore 5, 2) := by decide +kernel
theorem d7_day_73 : decode cX7_day 73 = .ok (.aload_n 0, 1) := by decide +kernel
theorem d7_day_74 : decode cX7_day 74 = .ok (.getfield 55, 3) := by decide +kernel
theorem d7_day_77 : decode cX7_day 77 = .ok (.iload 4, 2) := by decide +kernel
theorem d7_day_79 : decode cX7_day 79 = .ok (.lload 5, 2) := by decide +kernel
theorem d7_day_81 : decode cX7_day 81 = .ok (.lload 5, 2) := by decide +kernel
theorem d7_day_83 : decode cX7_day 83 = .ok (.lmul, 1) := by decide +kernel
theorem d7_day_84 : decode cX7_day 84 = .ok (.ldc2_w 284, 3) := by decide +kernel
theorem d7_day_87 : decode cX7_day 87 = .ok (.lrem, 1) := by decide +kernel
theorem d7_day_88 : decode cX7_day 88 = .ok (.ldc2_w 286, 3) := by decide +kernel
theorem d7_day_91 : decode cX7_day 91 = .ok (.lrem, 1) := by decide +kernel
theorem d7_day_92 : decode cX7_day 92 = .ok (.l2i, 1) := by decide +kernel
theorem d7_day_93 : decode cX7_day 93 = .ok (.iastore, 1) := by decide +kernel
theorem d7_day_94 : decode cX7_day 94 = .ok (.iinc 4 1, 3) := by decide +kernel
theorem d7_day_97 : decode cX7_day 97 = .ok (.goto (-63), 3) := by decide +kernel
theorem d7_day_100 : decode cX7_day 100 = .ok (.aload_n 0, 1) := by decide +kernel
theorem d7_day_101 : decode cX7_day 101 = .ok (.iload_n 1, 1) := by decide +kernel
theorem d7_day_102 : decode cX7_day 102 = .ok (.iconst 0, 1) := by decide +kernel
theorem d7_day_103 : decode cX7_day 103 = .ok (.invokevirtual 257, 3) := by decide +kernel
theorem d7_day_106 : decode cX7_day 106 = .ok (.istore 4, 2) := by decide +kernel
theorem d7_day_108 : decode cX7_day 108 = .ok (.iconst 0, 1) := by decide +kernel
theorem d7_day_109 : decode cX7_day 109 = .ok (.istore 5, 2) := by decide +kernel
theorem d7_day_111 : decode cX7_day 111 = .ok (.iconst 0, 1) := by decide +kernel
theorem d7_day_112 : decode cX7_day 112 = .ok (.istore 6, 2) := by decide +kernel
theorem d7_day_114 : decode cX7_day 114 = .ok (.iload 6, 2) := by decide +kernel
theorem d7_day_116 : decode cX7_day 116 = .ok (.bipush 6, 2) := by decide +kernel
theorem d7_day_118 : decode cX7_day 118 = .ok (.if_icmp .ge 35, 3) := by decide +kernel
theorem d7_day_121 : decode cX7_day 121 = .ok (.aload_n 0, 1) := by decide +kernel
theorem d7_day_122 : decode cX7_day 122 = .ok (.getfield 55, 3) := by decide +kernel
theorem d7_day_125 : decode cX7_day 125 = .ok (.iload 6, 2) := by decide +kernel
theorem d7_day_127 : decode cX7_day 127 = .ok (.aload_n 0, 1) := by decide +kernel
theorem d7_day_128 : decode cX7_day 128 = .ok (.getfield 92, 3) := by decide +kernel
theorem d7_day_131 : decode cX7_day 131 = .ok (.iload 6, 2) := by decide +kernel
theorem d7_day_133 : decode cX7_day 133 = .ok (.iaload, 1) := by decide +kernel
theorem d7_day_134 : decode cX7_day 134 = .ok (.iastore, 1) := by decide +kernel
theorem d7_day_135 : decode cX7_day 135 = .ok (.iload 5, 2) := by decide +kernel
theorem d7_day_137 : decode cX7_day 137 = .ok (.aload_n 0, 1) := by decide +kernel
theorem d7_day_138 : decode cX7_day 138 = .ok (.getfield 79, 3) := by decide +kernel
theorem d7_day_141 : decode cX7_day 141 = .ok (.iload 6, 2) := by decide +kernel
theorem d7_day_143 : decode cX7_day 143 = .ok (.iaload, 1) := by decide +kernel
theorem d7_day_144 : decode cX7_day 144 = .ok (.iadd, 1) := by decide +kernel
theorem d7_day_145 : decode cX7_day 145 = .ok (.istore 5, 2) := by decide +kernel
theorem d7_day_147 : decode cX7_day 147 = .ok (.iinc 6 1, 3) := by decide +kernel
theorem d7_day_150 : decode cX7_day 150 = .ok (.goto (-36), 3) := by decide +kernel
theorem d7_day_153 : decode cX7_day 153 = .ok (.iload_n 3, 1) := by decide +kernel
theorem d7_day_154 : decode cX7_day 154 = .ok (.ifCond .ne 8, 3) := by decide +kernel
theorem d7_day_157 : decode cX7_day 157 = .ok (.iload 4, 2) := by decide +kernel
theorem d7_day_159 : decode cX7_day 159 = .ok (.goto 5, 3) := by decide +kernel
theorem d7_day_162 : decode cX7_day 162 = .ok (.iload 5, 2) := by decide +kernel
theorem d7_day_164 : decode cX7_day 164 = .ok (.ireturn, 1) := by decide +kernel
def f7_day_b114 : Nat → Mem → Int32 → Int32 → Int32 → Int32 → Option (Mem × Int32)
  | 0, _, _, _, _, _ => none
  | n + 1, σ, x3, x4, x5, x6 => if 6 ≤ x6 then if x3 = 0 then some (σ, x4) else some (σ, x5) else if ¬ (x6 < 0 ∨ 6 ≤ x6.toNatClampNeg) then if ¬ (x6 < 0 ∨ 19 ≤ x6.toNatClampNeg) then (bm (mu σ 17 x6.toNatClampNeg (σ 38 x6.toNatClampNeg)) fun σ4 => if ¬ (x6 < 0 ∨ 6 ≤ x6.toNatClampNeg) then f7_day_b114 n σ4 x3 x4 (x5 + (σ4 29 x6.toNatClampNeg)) (x6 + 1) else none) else none else none
set_option maxHeartbeats 4000000 in
set_option maxRecDepth 100000 in
theorem t7_day_b114 {p : Program} {l : Launch} {e : Env} {s : State} {m : MethodId} {args : Array Value} {below : List Frame} {meth : Method} {c : Code} {w : WV} {σ' : Mem} {r : Int32} (S : CallFix p m c cX7_day 7 s args gtbl RX7) (hr : meth.sig.returnType = (some .int)) (hlk : meth.locks = false) (hK : KS LM w s) : ∀ (n : Nat), ∀ (σ : Mem) (x3 : Int32) (x4 : Int32) (x5 : Int32) (x6 : Int32), f7_day_b114  n σ x3 x4 x5 x6 = some (σ', r) → ∀ (H : Heap) (locs : List Loc), Rp EM LM w σ H → va_S (AW LM w) s.heap H locs → ∀ (ls : Array Slot), lv_has ls 7 [(0, .ref (w.2.2 0)), (3, .int x3), (4, .int x4), (5, .int x5), (6, .int x6)] → W p l e rm7_day s m args below meth c H locs 0 0 (MQ below (Qw EM LM w σ' (some (.int r))) args s 0 0 (AW LM w)) (F0 m 114 ls []) := by
  obtain ⟨hx, hb, hml, hown, hts⟩ := id S
  intro n
  induction n with
  | zero =>
    intro σ x3 x4 x5 x6 h0
    cases (show none = _ from h0)
  | succ n ih =>
    intro σ x3 x4 x5 x6 h0 H locs hR hS ls hl
    rw [f7_day_b114] at h0
    refine lv_iload hx hb d7_day_114 (lv_at hl 4 rfl) ?_
    refine lv_bipush (v := 6) hx hb d7_day_116 (by decide) ?_
    refine lv_icmp_ge (tgt := 153) hx hb d7_day_118 (by decide) (fun hc1 => ?_) (fun hc1 => ?_)
    · have h0 := og_t hc1 h0
      refine lv_iload_n hx hb d7_day_153 rfl (lv_at hl 1 rfl) ?_
      refine lv_if_ne (tgt := 162) hx hb d7_day_154 (by decide) (fun hc2 => ?_) (fun hc2 => ?_)
      · have h0 := og_f hc2 h0
        refine lv_iload hx hb d7_day_162 (lv_at hl 3 rfl) ?_
        exact q_iret S hr hlk hR hS h0 d7_day_164
      · have h0 := og_t hc2 h0
        refine lv_iload hx hb d7_day_157 (lv_at hl 2 rfl) ?_
        refine lv_goto (tgt := 164) hx hb d7_day_159 (by decide) ?_
        exact q_iret S hr hlk hR hS h0 d7_day_164
    · have h0 := og_f hc1 h0
      refine lv_aload_n hx hb d7_day_121 rfl (lv_at hl 0 rfl) ?_
      refine g7_55 S hK hR d7_day_122 ?_
      refine lv_iload hx hb d7_day_125 (lv_at hl 4 rfl) ?_
      refine lv_aload_n hx hb d7_day_127 rfl (lv_at hl 0 rfl) ?_
      refine g7_92 S hK hR d7_day_128 ?_
      refine lv_iload hx hb d7_day_131 (lv_at hl 4 rfl) ?_
      obtain ⟨hi2, h0⟩ := og_if h0
      refine q_ld (k := x6.toNatClampNeg) S hK hR (by decide) (eM_137 w _) hi2 rfl d7_day_133 ?_
      obtain ⟨hi3, h0⟩ := og_if h0
      obtain ⟨σ4, hm4, h0⟩ := og_m h0
      refine q_st S hK hR hS (by decide) (eM_116 w) hi3 rfl hm4 d7_day_134 (fun H locs hR hS => ?_)
      refine lv_iload hx hb d7_day_135 (lv_at hl 3 rfl) ?_
      refine lv_aload_n hx hb d7_day_137 rfl (lv_at hl 0 rfl) ?_
      refine g7_79 S hK hR d7_day_138 ?_
      refine lv_iload hx hb d7_day_141 (lv_at hl 4 rfl) ?_
      obtain ⟨hi5, h0⟩ := og_if h0
      refine q_ld (k := x6.toNatClampNeg) S hK hR (by decide) (eM_128 w _) hi5 rfl d7_day_143 ?_
      refine lv_iadd hx hb d7_day_144 ?_
      refine lv_istore (lv' := [(5, .int (x5 + (σ4 29 x6.toNatClampNeg))), (0, .ref (w.2.2 0)), (3, .int x3), (4, .int x4), (6, .int x6)]) hx hb d7_day_145 hl (by decide) rfl (fun ls hl => ?_)
      refine lv_iinc (v := x6 + 1) (lv' := [(6, .int (x6 + 1)), (5, .int (x5 + (σ4 29 x6.toNatClampNeg))), (0, .ref (w.2.2 0)), (3, .int x3), (4, .int x4)]) hx hb d7_day_147 hl (k := 4) rfl (ii1 _) (by decide) rfl (fun ls hl => ?_)
      refine lv_goto (tgt := 114) hx hb d7_day_150 (by decide) ?_
      exact ih σ4 x3 x4 (x5 + (σ4 29 x6.toNatClampNeg)) (x6 + 1) h0 _ _ hR hS _ (lv_sub hl [2, 3, 4, 1, 0] rfl)
def f7_day_b34 : Nat → Mem → Int32 → Int32 → Int32 → Int32 → Option (Mem × Int32)
  | 0, _, _, _, _, _ => none
  | n + 1, σ, x1, x2, x3, x4 => if 6 ≤ x4 then ob (f7_costBy σ x1 0) fun σ2 r2 => f7_day_b114 1000 σ2 x3 r2 0 0 else if ¬ (x4 < 0 ∨ 19 ≤ x4.toNatClampNeg) then if ¬ (x4 < 0 ∨ 6 ≤ x4.toNatClampNeg) then (bm (mu σ 38 x4.toNatClampNeg (σ 17 x4.toNatClampNeg)) fun σ4 => if ¬ (x4 < 0 ∨ 19 ≤ x4.toNatClampNeg) then (bm (mu σ4 17 x4.toNatClampNeg ((((((((7919 : Int64) * x2.toInt64) + ((6151 : Int64) * x4.toInt64)) + (1 : Int64)) * ((((7919 : Int64) * x2.toInt64) + ((6151 : Int64) * x4.toInt64)) + (1 : Int64))) - (((((7919 : Int64) * x2.toInt64) + ((6151 : Int64) * x4.toInt64)) + (1 : Int64)) * ((((7919 : Int64) * x2.toInt64) + ((6151 : Int64) * x4.toInt64)) + (1 : Int64))) / (65521 : Int64) * (65521 : Int64)) - ((((((7919 : Int64) * x2.toInt64) + ((6151 : Int64) * x4.toInt64)) + (1 : Int64)) * ((((7919 : Int64) * x2.toInt64) + ((6151 : Int64) * x4.toInt64)) + (1 : Int64))) - (((((7919 : Int64) * x2.toInt64) + ((6151 : Int64) * x4.toInt64)) + (1 : Int64)) * ((((7919 : Int64) * x2.toInt64) + ((6151 : Int64) * x4.toInt64)) + (1 : Int64))) / (65521 : Int64) * (65521 : Int64)) / (6 : Int64) * (6 : Int64)).toInt32)) fun σ6 => f7_day_b34 n σ6 x1 x2 x3 (x4 + 1)) else none) else none else none
set_option maxHeartbeats 4000000 in
set_option maxRecDepth 100000 in
theorem t7_day_b34 {p : Program} {l : Launch} {e : Env} {s : State} {m : MethodId} {args : Array Value} {below : List Frame} {meth : Method} {c : Code} {w : WV} {σ' : Mem} {r : Int32} (S : CallFix p m c cX7_day 7 s args gtbl RX7) (hr : meth.sig.returnType = (some .int)) (hlk : meth.locks = false) (hK : KS LM w s) : ∀ (n : Nat), ∀ (σ : Mem) (x1 : Int32) (x2 : Int32) (x3 : Int32) (x4 : Int32), f7_day_b34  n σ x1 x2 x3 x4 = some (σ', r) → ∀ (H : Heap) (locs : List Loc), Rp EM LM w σ H → va_S (AW LM w) s.heap H locs → ∀ (ls : Array Slot), lv_has ls 7 [(0, .ref (w.2.2 0)), (1, .int x1), (2, .int x2), (3, .int x3), (4, .int x4)] → W p l e rm7_day s m args below meth c H locs 0 0 (MQ below (Qw EM LM w σ' (some (.int r))) args s 0 0 (AW LM w)) (F0 m 34 ls []) := by
  obtain ⟨hx, hb, hml, hown, hts⟩ := id S
  intro n
  induction n with
  | zero =>
    intro σ x1 x2 x3 x4 h0
    cases (show none = _ from h0)
  | succ n ih =>
    intro σ x1 x2 x3 x4 h0 H locs hR hS ls hl
    rw [f7_day_b34] at h0
    refine lv_iload hx hb d7_day_34 (lv_at hl 4 rfl) ?_
    refine lv_bipush (v := 6) hx hb d7_day_36 (by decide) ?_
    refine lv_icmp_ge (tgt := 100) hx hb d7_day_38 (by decide) (fun hc1 => ?_) (fun hc1 => ?_)
    · have h0 := og_t hc1 h0
      refine lv_aload_n hx hb d7_day_100 rfl (lv_at hl 0 rfl) ?_
      refine lv_iload_n hx hb d7_day_101 rfl (lv_at hl 1 rfl) ?_
      refine lv_iconst (v := 0) hx hb d7_day_102 (by decide) ?_
      obtain ⟨σ2, r2, hr2, h0⟩ := og_o h0
      refine k7_257 S hK hR hS  hr2 ⟨Nat.zero_le _, Nat.zero_le _⟩ ⟨Nat.le_of_ble_eq_true rfl, Nat.le_of_ble_eq_true rfl⟩ hl.1 (Nat.le_of_ble_eq_true rfl) d7_day_103 (fun H locs hR hS => ?_)
      refine lv_istore (lv' := [(4, .int r2), (0, .ref (w.2.2 0)), (1, .int x1), (2, .int x2), (3, .int x3)]) hx hb d7_day_106 hl (by decide) rfl (fun ls hl => ?_)
      refine lv_iconst (v := 0) hx hb d7_day_108 (by decide) ?_
      refine lv_istore (lv' := [(5, .int 0), (4, .int r2), (0, .ref (w.2.2 0)), (1, .int x1), (2, .int x2), (3, .int x3)]) hx hb d7_day_109 hl (by decide) rfl (fun ls hl => ?_)
      refine lv_iconst (v := 0) hx hb d7_day_111 (by decide) ?_
      refine lv_istore (lv' := [(6, .int 0), (5, .int 0), (4, .int r2), (0, .ref (w.2.2 0)), (1, .int x1), (2, .int x2), (3, .int x3)]) hx hb d7_day_112 hl (by decide) rfl (fun ls hl => ?_)
      exact t7_day_b114 S hr hlk hK 1000 σ2 x3 r2 0 0 h0 _ _ hR hS _ (lv_sub hl [3, 6, 2, 1, 0] rfl)
    · have h0 := og_f hc1 h0
      refine lv_aload_n hx hb d7_day_41 rfl (lv_at hl 0 rfl) ?_
      refine g7_92 S hK hR d7_day_42 ?_
      refine lv_iload hx hb d7_day_45 (lv_at hl 4 rfl) ?_
      refine lv_aload_n hx hb d7_day_47 rfl (lv_at hl 0 rfl) ?_
      refine g7_55 S hK hR d7_day_48 ?_
      refine lv_iload hx hb d7_day_51 (lv_at hl 4 rfl) ?_
      obtain ⟨hi2, h0⟩ := og_if h0
      refine q_ld (k := x4.toNatClampNeg) S hK hR (by decide) (eM_116 w _) hi2 rfl d7_day_53 ?_
      obtain ⟨hi3, h0⟩ := og_if h0
      obtain ⟨σ4, hm4, h0⟩ := og_m h0
      refine q_st S hK hR hS (by decide) (eM_137 w) hi3 rfl hm4 d7_day_54 (fun H locs hR hS => ?_)
      refine lv_ldc2 (v := 7919) hx hb hown (hts _ (gt_at 1281 (by decide +kernel) (by decide +kernel))) d7_day_55 ?_
      refine lv_iload_n hx hb d7_day_58 rfl (lv_at hl 2 rfl) ?_
      refine lv_i2l hx hb d7_day_59 rfl ?_
      refine lv_lmul hx hb d7_day_60 ?_
      refine lv_ldc2 (v := 6151) hx hb hown (hts _ (gt_at 1282 (by decide +kernel) (by decide +kernel))) d7_day_61 ?_
      refine lv_iload hx hb d7_day_64 (lv_at hl 4 rfl) ?_
      refine lv_i2l hx hb d7_day_66 rfl ?_
      refine lv_lmul hx hb d7_day_67 ?_
      refine lv_ladd hx hb d7_day_68 ?_
      refine lv_lconst (v := 1) hx hb d7_day_69 (by decide) ?_
      refine lv_ladd hx hb d7_day_70 ?_
      refine lv_lstore (lv' := [(5, .long ((((7919 : Int64) * x2.toInt64) + ((6151 : Int64) * x4.toInt64)) + (1 : Int64))), (0, .ref (w.2.2 0)), (1, .int x1), (2, .int x2), (3, .int x3), (4, .int x4)]) hx hb d7_day_71 hl (by decide) rfl (fun ls hl => ?_)
      refine lv_aload_n hx hb d7_day_73 rfl (lv_at hl 1 rfl) ?_
      refine g7_55 S hK hR d7_day_74 ?_
      refine lv_iload hx hb d7_day_77 (lv_at hl 5 rfl) ?_
      refine lv_lload hx hb d7_day_79 (lv_at hl 0 rfl) ?_
      refine lv_lload hx hb d7_day_81 (lv_at hl 0 rfl) ?_
      refine lv_lmul hx hb d7_day_83 ?_
      refine lv_ldc2 (v := 65521) hx hb hown (hts _ (gt_at 1283 (by decide +kernel) (by decide +kernel))) d7_day_84 ?_
      refine lv_lrem hx hb d7_day_87 (by decide) ?_
      refine lv_ldc2 (v := 6) hx hb hown (hts _ (gt_at 1284 (by decide +kernel) (by decide +kernel))) d7_day_88 ?_
      refine lv_lrem hx hb d7_day_91 (by decide) ?_
      refine lv_l2i hx hb d7_day_92 rfl ?_
      obtain ⟨hi5, h0⟩ := og_if h0
      obtain ⟨σ6, hm6, h0⟩ := og_m h0
      refine q_st S hK hR hS (by decide) (eM_116 w) hi5 rfl hm6 d7_day_93 (fun H locs hR hS => ?_)
      refine lv_iinc (v := x4 + 1) (lv' := [(4, .int (x4 + 1)), (5, .long ((((7919 : Int64) * x2.toInt64) + ((6151 : Int64) * x4.toInt64)) + (1 : Int64))), (0, .ref (w.2.2 0)), (1, .int x1), (2, .int x2), (3, .int x3)]) hx hb d7_day_94 hl (k := 5) rfl (ii1 _) (by decide) rfl (fun ls hl => ?_)
      refine lv_goto (tgt := 34) hx hb d7_day_97 (by decide) ?_
      exact ih σ6 x1 x2 x3 (x4 + 1) h0 _ _ hR hS _ (lv_sub hl [2, 3, 4, 5, 0] rfl)
def f7_day (σ : Mem) (x1 : Int32) (x2 : Int32) (x3 : Int32) : Option (Mem × Int32) := Option.bind (f7_isRule x1) fun r1 => if r1 = 0 then some (σ, (-1)) else Option.bind (f7_in x2.toInt64 (0 : Int64) (9999 : Int64)) fun r3 => if r3 = 0 then some (σ, (-1)) else Option.bind (f7_in x3.toInt64 (0 : Int64) (1 : Int64)) fun r5 => if r5 = 0 then some (σ, (-1)) else f7_day_b34 1000 σ x1 x2 x3 0
set_option maxHeartbeats 4000000 in
set_option maxRecDepth 100000 in
theorem c7_day (l : Launch) {w : WV} {σ : Mem} {x1 : Int32} {x2 : Int32} {x3 : Int32} {σ' : Mem} {r : Int32} (h0 : f7_day σ x1 x2 x3 = some (σ', r)) : Met l yX7_day (wy yX7_day cX7_day 7 (some .int)) rm7_day (Pw EM LM w [.ref (w.2.2 0), .int x1, .int x2, .int x3] σ) (Qw EM LM w σ' (some (.int r))) 0 0 (AW LM w) := by
  refine mk_met (by decide) (Nat.le_of_ble_eq_true rfl) ?_
  intro p e s m below meth c S hr hlk hK hR ls hl
  obtain ⟨hx, hb, hml, hown, hts⟩ := id S
  have hl : lv_has ls 7 [(0, .ref (w.2.2 0)), (1, .int x1), (2, .int x2), (3, .int x3)] := hl
  have hS : va_S (AW LM w) s.heap s.heap [] := va_S.rf
  unfold f7_day at h0
  refine lv_iload_n hx hb d7_day_0 rfl (lv_at hl 1 rfl) ?_
  obtain ⟨r1, hr1, h0⟩ := og_b h0
  refine k7_252 S  hr1 ⟨Nat.zero_le _, Nat.zero_le _⟩ ⟨Nat.le_of_ble_eq_true rfl, Nat.le_of_ble_eq_true rfl⟩ hl.1 (Nat.le_of_ble_eq_true rfl) d7_day_1 ?_
  refine lv_if_eq (tgt := 29) hx hb d7_day_4 (by decide) (fun hc2 => ?_) (fun hc2 => ?_)
  · have h0 := og_t hc2 h0
    refine lv_iconst (v := (-1)) hx hb d7_day_29 (by decide) ?_
    exact q_iret S hr hlk hR hS h0 d7_day_30
  · have h0 := og_f hc2 h0
    refine lv_iload_n hx hb d7_day_7 rfl (lv_at hl 2 rfl) ?_
    refine lv_i2l hx hb d7_day_8 rfl ?_
    refine lv_lconst (v := 0) hx hb d7_day_9 (by decide) ?_
    refine lv_ldc2 (v := 9999) hx hb hown (hts _ (gt_at 1280 (by decide +kernel) (by decide +kernel))) d7_day_10 ?_
    obtain ⟨r3, hr3, h0⟩ := og_b h0
    refine k7_113 S  hr3 ⟨Nat.zero_le _, Nat.zero_le _⟩ ⟨Nat.le_of_ble_eq_true rfl, Nat.le_of_ble_eq_true rfl⟩ hl.1 (Nat.le_of_ble_eq_true rfl) d7_day_13 ?_
    refine lv_if_eq (tgt := 29) hx hb d7_day_16 (by decide) (fun hc4 => ?_) (fun hc4 => ?_)
    · have h0 := og_t hc4 h0
      refine lv_iconst (v := (-1)) hx hb d7_day_29 (by decide) ?_
      exact q_iret S hr hlk hR hS h0 d7_day_30
    · have h0 := og_f hc4 h0
      refine lv_iload_n hx hb d7_day_19 rfl (lv_at hl 3 rfl) ?_
      refine lv_i2l hx hb d7_day_20 rfl ?_
      refine lv_lconst (v := 0) hx hb d7_day_21 (by decide) ?_
      refine lv_lconst (v := 1) hx hb d7_day_22 (by decide) ?_
      obtain ⟨r5, hr5, h0⟩ := og_b h0
      refine k7_113 S  hr5 ⟨Nat.zero_le _, Nat.zero_le _⟩ ⟨Nat.le_of_ble_eq_true rfl, Nat.le_of_ble_eq_true rfl⟩ hl.1 (Nat.le_of_ble_eq_true rfl) d7_day_23 ?_
      refine lv_if_ne (tgt := 31) hx hb d7_day_26 (by decide) (fun hc6 => ?_) (fun hc6 => ?_)
      · have h0 := og_f hc6 h0
        refine lv_iconst (v := 0) hx hb d7_day_31 (by decide) ?_
        refine lv_istore (lv' := [(4, .int 0), (0, .ref (w.2.2 0)), (1, .int x1), (2, .int x2), (3, .int x3)]) hx hb d7_day_32 hl (by decide) rfl (fun ls hl => ?_)
        exact t7_day_b34 S hr hlk hK 1000 σ x1 x2 x3 0 h0 _ _ hR hS _ (lv_sub hl [1, 2, 3, 4, 0] rfl)
      · have h0 := og_t hc6 h0
        refine lv_iconst (v := (-1)) hx hb d7_day_29 (by decide) ?_
        exact q_iret S hr hlk hR hS h0 d7_day_30
/-! FourTenGatesModel.keep()I -/
abbrev rm7_keep : Room := { frames := 0, cells := 0, slots := 0, locals := 0 }
theorem d7_keep_0 : decode cX7_keep 0 = .ok (.aload_n 0, 1) := by decide +kernel
theorem d7_keep_1 : decode cX7_keep 1 = .ok (.getfield 162, 3) := by decide +kernel
theorem d7_keep_4 : decode cX7_keep 4 = .ok (.iconst 2, 1) := by decide +kernel
theorem d7_keep_5 : decode cX7_keep 5 = .ok (.if_icmp .ne 6, 3) := by decide +kernel
theorem d7_keep_8 : decode cX7_keep 8 = .ok (.bipush (-3), 2) := by decide +kernel
theorem d7_keep_10 : decode cX7_keep 10 = .ok (.ireturn, 1) := by decide +kernel
theorem d7_keep_11 : decode cX7_keep 11 = .ok (.iconst 0, 1) := by decide +kernel
theorem d7_keep_12 : decode cX7_keep 12 = .ok (.istore_n 1, 1) := by decide +kernel
theorem d7_keep_13 : decode cX7_keep 13 = .ok (.iload_n 1, 1) := by decide +kernel
theorem d7_keep_14 : decode cX7_keep 14 = .ok (.bipush 19, 2) := by decide +kernel
theorem d7_keep_16 : decode cX7_keep 16 = .ok (.if_icmp .ge 29, 3) := by decide +kernel
theorem d7_keep_19 : decode cX7_keep 19 = .ok (.aload_n 0, 1) := by decide +kernel
theorem d7_keep_20 : decode cX7_keep 20 = .ok (.getfield 61, 3) := by decide +kernel
theorem d7_keep_23 : decode cX7_keep 23 = .ok (.bipush 19, 2) := by decide +kernel
theorem d7_keep_25 : decode cX7_keep 25 = .ok (.aload_n 0, 1) := by decide +kernel
theorem d7_keep_26 : decode cX7_keep 26 = .ok (.getfield 162, 3) := by decide +kernel
theorem d7_keep_29 : decode cX7_keep 29 = .ok (.imul, 1) := by decide +kernel
theorem d7_keep_30 : decode cX7_keep 30 = .ok (.iload_n 1, 1) := by decide +kernel
theorem d7_keep_31 : decode cX7_keep 31 = .ok (.iadd, 1) := by decide +kernel
theorem d7_keep_32 : decode cX7_keep 32 = .ok (.aload_n 0, 1) := by decide +kernel
theorem d7_keep_33 : decode cX7_keep 33 = .ok (.getfield 55, 3) := by decide +kernel
theorem d7_keep_36 : decode cX7_keep 36 = .ok (.iload_n 1, 1) := by decide +kernel
theorem d7_keep_37 : decode cX7_keep 37 = .ok (.iaload, 1) := by decide +kernel
theorem d7_keep_38 : decode cX7_keep 38 = .ok (.iastore, 1) := by decide +kernel
theorem d7_keep_39 : decode cX7_keep 39 = .ok (.iinc 1 1, 3) := by decide +kernel
theorem d7_keep_42 : decode cX7_keep 42 = .ok (.goto (-29), 3) := by decide +kernel
theorem d7_keep_45 : decode cX7_keep 45 = .ok (.aload_n 0, 1) := by decide +kernel
theorem d7_keep_46 : decode cX7_keep 46 = .ok (.dup, 1) := by decide +kernel
theorem d7_keep_47 : decode cX7_keep 47 = .ok (.getfield 162, 3) := by decide +kernel
theorem d7_keep_50 : decode cX7_keep 50 = .ok (.iconst 1, 1) := by decide +kernel
theorem d7_keep_51 : decode cX7_keep 51 = .ok (.iadd, 1) := by decide +kernel
theorem d7_keep_52 : decode cX7_keep 52 = .ok (.putfield 162, 3) := by decide +kernel
theorem d7_keep_55 : decode cX7_keep 55 = .ok (.aload_n 0, 1) := by decide +kernel
theorem d7_keep_56 : decode cX7_keep 56 = .ok (.getfield 162, 3) := by decide +kernel
theorem d7_keep_59 : decode cX7_keep 59 = .ok (.ireturn, 1) := by decide +kernel
def f7_keep_b13 : Nat → Mem → Int32 → Option (Mem × Int32)
  | 0, _, _ => none
  | n + 1, σ, x1 => if 19 ≤ x1 then bm (mu σ 0 20 ((σ 0 20) + 1)) fun σ2 => some (σ2, σ2 0 20) else if ¬ (x1 < 0 ∨ 19 ≤ x1.toNatClampNeg) then if ¬ ((19 * (σ 0 20)) + x1 < 0 ∨ 38 ≤ ((19 * (σ 0 20)) + x1).toNatClampNeg) then (bm (mu σ 20 (((19 * (σ 0 20)) + x1).toNatClampNeg) (σ 17 x1.toNatClampNeg)) fun σ4 => f7_keep_b13 n σ4 (x1 + 1)) else none else none
set_option maxHeartbeats 4000000 in
set_option maxRecDepth 100000 in
theorem t7_keep_b13 {p : Program} {l : Launch} {e : Env} {s : State} {m : MethodId} {args : Array Value} {below : List Frame} {meth : Method} {c : Code} {w : WV} {σ' : Mem} {r : Int32} (S : CallFix p m c cX7_keep 2 s args gtbl RX7) (hr : meth.sig.returnType = (some .int)) (hlk : meth.locks = false) (hK : KS LM w s) : ∀ (n : Nat), ∀ (σ : Mem) (x1 : Int32), f7_keep_b13  n σ x1 = some (σ', r) → ∀ (H : Heap) (locs : List Loc), Rp EM LM w σ H → va_S (AW LM w) s.heap H locs → ∀ (ls : Array Slot), lv_has ls 2 [(0, .ref (w.2.2 0)), (1, .int x1)] → W p l e rm7_keep s m args below meth c H locs 0 0 (MQ below (Qw EM LM w σ' (some (.int r))) args s 0 0 (AW LM w)) (F0 m 13 ls []) := by
  obtain ⟨hx, hb, hml, hown, hts⟩ := id S
  intro n
  induction n with
  | zero =>
    intro σ x1 h0
    cases (show none = _ from h0)
  | succ n ih =>
    intro σ x1 h0 H locs hR hS ls hl
    rw [f7_keep_b13] at h0
    refine lv_iload_n hx hb d7_keep_13 rfl (lv_at hl 1 rfl) ?_
    refine lv_bipush (v := 19) hx hb d7_keep_14 (by decide) ?_
    refine lv_icmp_ge (tgt := 45) hx hb d7_keep_16 (by decide) (fun hc1 => ?_) (fun hc1 => ?_)
    · have h0 := og_t hc1 h0
      refine lv_aload_n hx hb d7_keep_45 rfl (lv_at hl 0 rfl) ?_
      refine lv_dup hx hb d7_keep_46 rfl ?_
      refine g7_162 S hK hR d7_keep_47 ?_
      refine lv_iconst (v := 1) hx hb d7_keep_50 (by decide) ?_
      refine lv_iadd hx hb d7_keep_51 ?_
      obtain ⟨σ2, hm2, h0⟩ := og_m h0
      refine u7_162 S hK hR hS hm2 d7_keep_52 (fun H locs hR hS => ?_)
      refine lv_aload_n hx hb d7_keep_55 rfl (lv_at hl 0 rfl) ?_
      refine g7_162 S hK hR d7_keep_56 ?_
      exact q_iret S hr hlk hR hS h0 d7_keep_59
    · have h0 := og_f hc1 h0
      refine lv_aload_n hx hb d7_keep_19 rfl (lv_at hl 0 rfl) ?_
      refine g7_61 S hK hR d7_keep_20 ?_
      refine lv_bipush (v := 19) hx hb d7_keep_23 (by decide) ?_
      refine lv_aload_n hx hb d7_keep_25 rfl (lv_at hl 0 rfl) ?_
      refine g7_162 S hK hR d7_keep_26 ?_
      refine lv_imul hx hb d7_keep_29 ?_
      refine lv_iload_n hx hb d7_keep_30 rfl (lv_at hl 1 rfl) ?_
      refine lv_iadd hx hb d7_keep_31 ?_
      refine lv_aload_n hx hb d7_keep_32 rfl (lv_at hl 0 rfl) ?_
      refine g7_55 S hK hR d7_keep_33 ?_
      refine lv_iload_n hx hb d7_keep_36 rfl (lv_at hl 1 rfl) ?_
      obtain ⟨hi2, h0⟩ := og_if h0
      refine q_ld (k := x1.toNatClampNeg) S hK hR (by decide) (eM_116 w _) hi2 rfl d7_keep_37 ?_
      obtain ⟨hi3, h0⟩ := og_if h0
      obtain ⟨σ4, hm4, h0⟩ := og_m h0
      refine q_st S hK hR hS (by decide) (eM_119 w) hi3 rfl hm4 d7_keep_38 (fun H locs hR hS => ?_)
      refine lv_iinc (v := x1 + 1) (lv' := [(1, .int (x1 + 1)), (0, .ref (w.2.2 0))]) hx hb d7_keep_39 hl (k := 1) rfl (ii1 _) (by decide) rfl (fun ls hl => ?_)
      refine lv_goto (tgt := 13) hx hb d7_keep_42 (by decide) ?_
      exact ih σ4 (x1 + 1) h0 _ _ hR hS _ (lv_sub hl [1, 0] rfl)
def f7_keep (σ : Mem) : Option (Mem × Int32) := if (σ 0 20) = 2 then some (σ, (-3)) else f7_keep_b13 1000 σ 0
set_option maxHeartbeats 4000000 in
set_option maxRecDepth 100000 in
theorem c7_keep (l : Launch) {w : WV} {σ : Mem} {σ' : Mem} {r : Int32} (h0 : f7_keep σ = some (σ', r)) : Met l yX7_keep (wy yX7_keep cX7_keep 2 (some .int)) rm7_keep (Pw EM LM w [.ref (w.2.2 0)] σ) (Qw EM LM w σ' (some (.int r))) 0 0 (AW LM w) := by
  refine mk_met (by decide) (Nat.le_of_ble_eq_true rfl) ?_
  intro p e s m below meth c S hr hlk hK hR ls hl
  obtain ⟨hx, hb, hml, hown, hts⟩ := id S
  have hl : lv_has ls 2 [(0, .ref (w.2.2 0))] := hl
  have hS : va_S (AW LM w) s.heap s.heap [] := va_S.rf
  unfold f7_keep at h0
  refine lv_aload_n hx hb d7_keep_0 rfl (lv_at hl 0 rfl) ?_
  refine g7_162 S hK hR d7_keep_1 ?_
  refine lv_iconst (v := 2) hx hb d7_keep_4 (by decide) ?_
  refine lv_icmp_ne (tgt := 11) hx hb d7_keep_5 (by decide) (fun hc1 => ?_) (fun hc1 => ?_)
  · have h0 := og_f hc1 h0
    refine lv_iconst (v := 0) hx hb d7_keep_11 (by decide) ?_
    refine lv_istore_n (lv' := [(1, .int 0), (0, .ref (w.2.2 0))]) hx hb d7_keep_12 rfl hl (by decide) rfl (fun ls hl => ?_)
    exact t7_keep_b13 S hr hlk hK 1000 σ 0 h0 _ _ hR hS _ (lv_sub hl [1, 0] rfl)
  · have h0 := og_t hc1 h0
    refine lv_bipush (v := (-3)) hx hb d7_keep_8 (by decide) ?_
    exact q_iret S hr hlk hR hS h0 d7_keep_10
