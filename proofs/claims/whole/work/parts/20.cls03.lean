/-! FourTenGates$Pairs.remove(I)V -/
abbrev rm2_remove : Room := { frames := 1, cells := 0, slots := 0, locals := 22 }
theorem d2_remove_0 : decode cX2_remove 0 = .ok (.iload_n 1, 1) := by decide +kernel
theorem d2_remove_1 : decode cX2_remove 1 = .ok (.iconst 0, 1) := by decide +kernel
theorem d2_remove_2 : decode cX2_remove 2 = .ok (.aload_n 0, 1) := by decide +kernel
theorem d2_remove_3 : decode cX2_remove 3 = .ok (.getfield 18, 3) := by decide +kernel
theorem d2_remove_6 : decode cX2_remove 6 = .ok (.iconst 1, 1) := by decide +kernel
theorem d2_remove_7 : decode cX2_remove 7 = .ok (.isub, 1) := by decide +kernel
theorem d2_remove_8 : decode cX2_remove 8 = .ok (.invokestatic 35, 3) := by decide +kernel
theorem d2_remove_11 : decode cX2_remove 11 = .ok (.ifCond .ne 4, 3) := by decide +kernel
theorem d2_remove_14 : decode cX2_remove 14 = .ok (.return_, 1) := by decide +kernel
theorem d2_remove_15 : decode cX2_remove 15 = .ok (.iload_n 1, 1) := by decide +kernel
theorem d2_remove_16 : decode cX2_remove 16 = .ok (.istore_n 2, 1) := by decide +kernel
theorem d2_remove_17 : decode cX2_remove 17 = .ok (.iload_n 2, 1) := by decide +kernel
theorem d2_remove_18 : decode cX2_remove 18 = .ok (.iconst 1, 1) := by decide +kernel
theorem d2_remove_19 : decode cX2_remove 19 = .ok (.iadd, 1) := by decide +kernel
theorem d2_remove_20 : decode cX2_remove 20 = .ok (.aload_n 0, 1) := by decide +kernel
theorem d2_remove_21 : decode cX2_remove 21 = .ok (.getfield 18, 3) := by decide +kernel
theorem d2_remove_24 : decode cX2_remove 24 = .ok (.if_icmp .ge 37, 3) := by decide +kernel
theorem d2_remove_27 : decode cX2_remove 27 = .ok (.aload_n 0, 1) := by decide +kernel
theorem d2_remove_28 : decode cX2_remove 28 = .ok (.getfield 9, 3) := by decide +kernel
theorem d2_remove_31 : decode cX2_remove 31 = .ok (.iload_n 2, 1) := by decide +kernel
theorem d2_remove_32 : decode cX2_remove 32 = .ok (.aload_n 0, 1) := by decide +kernel
theorem d2_remove_33 : decode cX2_remove 33 = .ok (.getfield 9, 3) := by decide +kernel
theorem d2_remove_36 : decode cX2_remove 36 = .ok (.iload_n 2, 1) := by decide +kernel
theorem d2_remove_37 : decode cX2_remove 37 = .ok (.iconst 1, 1) := by decide +kernel
theorem d2_remove_38 : decode cX2_remove 38 = .ok (.iadd, 1) := by decide +kernel
theorem d2_remove_39 : decode cX2_remove 39 = .ok (.iaload, 1) := by decide +kernel
theorem d2_remove_40 : decode cX2_remove 40 = .ok (.iastore, 1) := by decide +kernel
theorem d2_remove_41 : decode cX2_remove 41 = .ok (.aload_n 0, 1) := by decide +kernel
theorem d2_remove_42 : decode cX2_remove 42 = .ok (.getfield 15, 3) := by decide +kernel
theorem d2_remove_45 : decode cX2_remove 45 = .ok (.iload_n 2, 1) := by decide +kernel
theorem d2_remove_46 : decode cX2_remove 46 = .ok (.aload_n 0, 1) := by decide +kernel
theorem d2_remove_47 : decode cX2_remove 47 = .ok (.getfield 15, 3) := by decide +kernel
theorem d2_remove_50 : decode cX2_remove 50 = .ok (.iload_n 2, 1) := by decide +kernel
theorem d2_remove_51 : decode cX2_remove 51 = .ok (.iconst 1, 1) := by decide +kernel
theorem d2_remove_52 : decode cX2_remove 52 = .ok (.iadd, 1) := by decide +kernel
theorem d2_remove_53 : decode cX2_remove 53 = .ok (.iaload, 1) := by decide +kernel
theorem d2_remove_54 : decode cX2_remove 54 = .ok (.iastore, 1) := by decide +kernel
theorem d2_remove_55 : decode cX2_remove 55 = .ok (.iinc 2 1, 3) := by decide +kernel
theorem d2_remove_58 : decode cX2_remove 58 = .ok (.goto (-41), 3) := by decide +kernel
theorem d2_remove_61 : decode cX2_remove 61 = .ok (.aload_n 0, 1) := by decide +kernel
theorem d2_remove_62 : decode cX2_remove 62 = .ok (.dup, 1) := by decide +kernel
theorem d2_remove_63 : decode cX2_remove 63 = .ok (.getfield 18, 3) := by decide +kernel
theorem d2_remove_66 : decode cX2_remove 66 = .ok (.iconst 1, 1) := by decide +kernel
theorem d2_remove_67 : decode cX2_remove 67 = .ok (.isub, 1) := by decide +kernel
theorem d2_remove_68 : decode cX2_remove 68 = .ok (.putfield 18, 3) := by decide +kernel
theorem d2_remove_71 : decode cX2_remove 71 = .ok (.return_, 1) := by decide +kernel
def f2_remove_b17 (h : Nat) : Nat → Mem → Int32 → Option Mem
  | 0, _, _ => none
  | n + 1, σ, x2 => if (σ h 3) ≤ (x2 + 1) then bm (mu σ h 3 ((σ h 3) - 1)) fun σ2 => some σ2 else if ¬ (x2 + 1 < 0 ∨ 8 ≤ (x2 + 1).toNatClampNeg) then if ¬ (x2 < 0 ∨ 8 ≤ x2.toNatClampNeg) then (bm (mu σ (h + 1) x2.toNatClampNeg (σ (h + 1) ((x2 + 1).toNatClampNeg))) fun σ4 => if ¬ (x2 + 1 < 0 ∨ 8 ≤ (x2 + 1).toNatClampNeg) then if ¬ (x2 < 0 ∨ 8 ≤ x2.toNatClampNeg) then (bm (mu σ4 (h + 2) x2.toNatClampNeg (σ4 (h + 2) ((x2 + 1).toNatClampNeg))) fun σ7 => f2_remove_b17 h n σ7 (x2 + 1)) else none else none) else none else none
set_option maxHeartbeats 4000000 in
set_option maxRecDepth 100000 in
theorem t2_remove_b17 {p : Program} {l : Launch} {e : Env} {s : State} {m : MethodId} {args : Array Value} {below : List Frame} {meth : Method} {c : Code} {w : WV} {h : Nat} {σ' : Mem} (S : CallFix p m c cX2_remove 3 s args gtbl RX2) (hr : meth.sig.returnType = none) (hlk : meth.locks = false) (hK : KS LC w s) (hh : h ∈ pairsL) : ∀ (n : Nat), ∀ (σ : Mem) (x2 : Int32), f2_remove_b17 h n σ x2 = some σ' → ∀ (H : Heap) (locs : List Loc), Rp EC LC w σ H → va_S (AW LC w) s.heap H locs → ∀ (ls : Array Slot), lv_has ls 3 [(0, .ref (w.2.2 h)), (2, .int x2)] → W p l e rm2_remove s m args below meth c H locs 0 0 (MQ below (Qw EC LC w σ' none) args s 0 0 (AW LC w)) (F0 m 17 ls []) := by
  obtain ⟨hx, hb, hml, hown, hts⟩ := id S
  intro n
  induction n with
  | zero =>
    intro σ x2 h0
    cases (show none = _ from h0)
  | succ n ih =>
    intro σ x2 h0 H locs hR hS ls hl
    rw [f2_remove_b17] at h0
    refine lv_iload_n hx hb d2_remove_17 rfl (lv_at hl 1 rfl) ?_
    refine lv_iconst (v := 1) hx hb d2_remove_18 (by decide) ?_
    refine lv_iadd hx hb d2_remove_19 ?_
    refine lv_aload_n hx hb d2_remove_20 rfl (lv_at hl 0 rfl) ?_
    refine g2_18 S hK hR hh d2_remove_21 ?_
    refine lv_icmp_ge (tgt := 61) hx hb d2_remove_24 (by decide) (fun hc1 => ?_) (fun hc1 => ?_)
    · have h0 := og_t hc1 h0
      refine lv_aload_n hx hb d2_remove_61 rfl (lv_at hl 0 rfl) ?_
      refine lv_dup hx hb d2_remove_62 rfl ?_
      refine g2_18 S hK hR hh d2_remove_63 ?_
      refine lv_iconst (v := 1) hx hb d2_remove_66 (by decide) ?_
      refine lv_isub hx hb d2_remove_67 ?_
      obtain ⟨σ2, hm2, h0⟩ := og_m h0
      refine u2_18 S hK hR hS hh hm2 d2_remove_68 (fun H locs hR hS => ?_)
      exact q_vret S hr hlk hR hS h0 d2_remove_71
    · have h0 := og_f hc1 h0
      refine lv_aload_n hx hb d2_remove_27 rfl (lv_at hl 0 rfl) ?_
      refine g2_9 S hK hR hh rfl d2_remove_28 ?_
      refine lv_iload_n hx hb d2_remove_31 rfl (lv_at hl 1 rfl) ?_
      refine lv_aload_n hx hb d2_remove_32 rfl (lv_at hl 0 rfl) ?_
      refine g2_9 S hK hR hh rfl d2_remove_33 ?_
      refine lv_iload_n hx hb d2_remove_36 rfl (lv_at hl 1 rfl) ?_
      refine lv_iconst (v := 1) hx hb d2_remove_37 (by decide) ?_
      refine lv_iadd hx hb d2_remove_38 ?_
      obtain ⟨hi2, h0⟩ := og_if h0
      refine q_ld (k := ((x2 + 1).toNatClampNeg)) S hK hR (oa_2_0 _ hh) (ea_2_0 _ hh w _) hi2 rfl d2_remove_39 ?_
      obtain ⟨hi3, h0⟩ := og_if h0
      obtain ⟨σ4, hm4, h0⟩ := og_m h0
      refine q_st S hK hR hS (oa_2_0 _ hh) (ea_2_0 _ hh w) hi3 rfl hm4 d2_remove_40 (fun H locs hR hS => ?_)
      refine lv_aload_n hx hb d2_remove_41 rfl (lv_at hl 0 rfl) ?_
      refine g2_15 S hK hR hh rfl d2_remove_42 ?_
      refine lv_iload_n hx hb d2_remove_45 rfl (lv_at hl 1 rfl) ?_
      refine lv_aload_n hx hb d2_remove_46 rfl (lv_at hl 0 rfl) ?_
      refine g2_15 S hK hR hh rfl d2_remove_47 ?_
      refine lv_iload_n hx hb d2_remove_50 rfl (lv_at hl 1 rfl) ?_
      refine lv_iconst (v := 1) hx hb d2_remove_51 (by decide) ?_
      refine lv_iadd hx hb d2_remove_52 ?_
      obtain ⟨hi5, h0⟩ := og_if h0
      refine q_ld (k := ((x2 + 1).toNatClampNeg)) S hK hR (oa_2_1 _ hh) (ea_2_1 _ hh w _) hi5 rfl d2_remove_53 ?_
      obtain ⟨hi6, h0⟩ := og_if h0
      obtain ⟨σ7, hm7, h0⟩ := og_m h0
      refine q_st S hK hR hS (oa_2_1 _ hh) (ea_2_1 _ hh w) hi6 rfl hm7 d2_remove_54 (fun H locs hR hS => ?_)
      refine lv_iinc (v := x2 + 1) (lv' := [(2, .int (x2 + 1)), (0, .ref (w.2.2 h))]) hx hb d2_remove_55 hl (k := 1) rfl (ii1 _) (by decide) rfl (fun ls hl => ?_)
      refine lv_goto (tgt := 17) hx hb d2_remove_58 (by decide) ?_
      exact ih σ7 (x2 + 1) h0 _ _ hR hS _ (lv_sub hl [1, 0] rfl)
def f2_remove (σ : Mem) (h : Nat) (x1 : Int32) : Option Mem := Option.bind (f6_between x1 0 ((σ h 3) - 1)) fun r1 => if r1 = 0 then some σ else f2_remove_b17 h 1000 σ x1
set_option maxHeartbeats 4000000 in
set_option maxRecDepth 100000 in
theorem c2_remove (l : Launch) {w : WV} {σ : Mem} {h : Nat} {x1 : Int32} {σ' : Mem} (hh : h ∈ pairsL) (h0 : f2_remove σ h x1 = some σ') : Met l yX2_remove (wy yX2_remove cX2_remove 3 none) rm2_remove (Pw EC LC w [.ref (w.2.2 h), .int x1] σ) (Qw EC LC w σ' none) 0 0 (AW LC w) := by
  refine mk_met (by decide) (Nat.le_of_ble_eq_true rfl) ?_
  intro p e s m below meth c S hr hlk hK hR ls hl
  obtain ⟨hx, hb, hml, hown, hts⟩ := id S
  have hl : lv_has ls 3 [(0, .ref (w.2.2 h)), (1, .int x1)] := hl
  have hS : va_S (AW LC w) s.heap s.heap [] := va_S.rf
  unfold f2_remove at h0
  refine lv_iload_n hx hb d2_remove_0 rfl (lv_at hl 1 rfl) ?_
  refine lv_iconst (v := 0) hx hb d2_remove_1 (by decide) ?_
  refine lv_aload_n hx hb d2_remove_2 rfl (lv_at hl 0 rfl) ?_
  refine g2_18 S hK hR hh d2_remove_3 ?_
  refine lv_iconst (v := 1) hx hb d2_remove_6 (by decide) ?_
  refine lv_isub hx hb d2_remove_7 ?_
  obtain ⟨r1, hr1, h0⟩ := og_b h0
  refine k2_35 S hK  hr1 ⟨Nat.zero_le _, Nat.zero_le _⟩ ⟨Nat.le_of_ble_eq_true rfl, Nat.le_of_ble_eq_true rfl⟩ hl.1 (Nat.le_of_ble_eq_true rfl) d2_remove_8 ?_
  refine lv_if_ne (tgt := 15) hx hb d2_remove_11 (by decide) (fun hc2 => ?_) (fun hc2 => ?_)
  · have h0 := og_f hc2 h0
    refine lv_iload_n hx hb d2_remove_15 rfl (lv_at hl 1 rfl) ?_
    refine lv_istore_n (lv' := [(2, .int x1), (0, .ref (w.2.2 h)), (1, .int x1)]) hx hb d2_remove_16 rfl hl (by decide) rfl (fun ls hl => ?_)
    exact t2_remove_b17 S hr hlk hK hh 1000 σ x1 h0 _ _ hR hS _ (lv_sub hl [1, 0] rfl)
  · have h0 := og_t hc2 h0
    exact q_vret S hr hlk hR hS h0 d2_remove_14
set_option maxHeartbeats 4000000 in
set_option maxRecDepth 100000 in
theorem k6_186 {p : Program} {l : Launch} {e : Env} {R : Room} {s : State} {m : MethodId} {args : Array Value} {below : List Frame} {meth : Method} {c : Code} {H : Heap} {locs : List Loc} {cells slots : Nat} {Q : State → Prop} {cc : ByteArray} {pc nL : Nat} {ls : Array Slot} {rest : List Value} {w : WV} {σ : Mem} {h : Nat} {x1 : Int32} {σ1 : Mem} (S : CallFix p m c cc nL s args gtbl RX6) (hK : KS LC w s) (hR : Rp EC LC w σ H) (hS : va_S (AW LC w) s.heap H locs) (hh : h ∈ pairsL) (h0 : f2_remove σ h x1 = some σ1) (hf : cells + 0 ≤ R.cells ∧ slots + 0 ≤ R.slots) (hRm : rm2_remove.frames + 1 ≤ R.frames ∧ 8 + (3 + 11) + rm2_remove.locals ≤ R.locals) (hl : ls.size = nL) (hW : (rest.map fun v => v.category).sum ≤ 8) (hdg : decode cc pc = .ok (.invokevirtual 186, 3)) (kk : ∀ (H1 : Heap) (locs1 : List Loc), Rp EC LC w σ1 H1 → va_S (AW LC w) s.heap H1 locs1 → W p l e R s m args below meth c H1 locs1 cells slots Q (F0 m (pc + 3) ls (rest))) : W p l e R s m args below meth c H locs cells slots Q (F0 m pc ls (.int x1 :: .ref (w.2.2 h) :: rest)) := r_end hS (run_V (n := 1) (As := [.int x1]) S hK hR (ok_2 _ hh) (eC_2 _ hh w _) rfl (gw_V (gt_at 776 (by decide +kernel) (by decide +kernel)) (gt_at 777 (by decide +kernel) (by decide +kernel)) (gt_at 778 (by decide +kernel) (by decide +kernel)) (gt_at 77 (by decide +kernel) (by decide +kernel)) (gt_at 779 (by decide +kernel) (by decide +kernel))) (by decide +kernel) rfl (c2_remove l hh h0) ⟨rfl, rfl⟩ hRm hf hl rfl hW hdg) kk
/-! FourTenGates$Pile.size()I -/
abbrev rm3_size : Room := { frames := 0, cells := 0, slots := 0, locals := 0 }
theorem d3_size_0 : decode cX3_size 0 = .ok (.aload_n 0, 1) := by decide +kernel
theorem d3_size_1 : decode cX3_size 1 = .ok (.getfield 7, 3) := by decide +kernel
theorem d3_size_4 : decode cX3_size 4 = .ok (.ireturn, 1) := by decide +kernel
def f3_size (σ : Mem) (h : Nat) : Option Int32 := some (σ h 1)
set_option maxHeartbeats 4000000 in
set_option maxRecDepth 100000 in
theorem c3_size (l : Launch) {w : WV} {σ : Mem} {h : Nat} {r : Int32} (hh : h ∈ pileL) (h0 : f3_size σ h = some r) : Met l yX3_size (wy yX3_size cX3_size 1 (some .int)) rm3_size (Pw EC LC w [.ref (w.2.2 h)] σ) (Qp (.int r)) 0 0 (fun _ => False) := by
  refine mk_met (by decide) (Nat.le_of_ble_eq_true rfl) ?_
  intro p e s m below meth c S hr hlk hK hR ls hl
  obtain ⟨hx, hb, hml, hown, hts⟩ := id S
  have hl : lv_has ls 1 [(0, .ref (w.2.2 h))] := hl
  unfold f3_size at h0
  refine lv_aload_n hx hb d3_size_0 rfl (lv_at hl 0 rfl) ?_
  refine g3_7 S hK hR hh d3_size_1 ?_
  exact q_ipure S hr hlk h0 d3_size_4
set_option maxHeartbeats 4000000 in
set_option maxRecDepth 100000 in
theorem k6_196 {p : Program} {l : Launch} {e : Env} {R : Room} {s : State} {m : MethodId} {args : Array Value} {below : List Frame} {meth : Method} {c : Code} {H : Heap} {locs : List Loc} {cells slots : Nat} {Q : State → Prop} {cc : ByteArray} {pc nL : Nat} {ls : Array Slot} {rest : List Value} {w : WV} {σ : Mem} {h : Nat} {r : Int32} (S : CallFix p m c cc nL s args gtbl RX6) (hK : KS LC w s) (hR : Rp EC LC w σ H) (hh : h ∈ pileL) (h0 : f3_size σ h = some r) (hf : cells + 0 ≤ R.cells ∧ slots + 0 ≤ R.slots) (hRm : rm3_size.frames + 1 ≤ R.frames ∧ 8 + (1 + 11) + rm3_size.locals ≤ R.locals) (hl : ls.size = nL) (hW : (rest.map fun v => v.category).sum ≤ 8) (hdg : decode cc pc = .ok (.invokevirtual 196, 3)) (kk : W p l e R s m args below meth c H locs cells slots Q (F0 m (pc + 3) ls (.int r :: rest))) : W p l e R s m args below meth c H locs cells slots Q (F0 m pc ls (.ref (w.2.2 h) :: rest)) := r_endp (run_V (n := 0) (As := []) S hK hR (ok_3 _ hh) (eC_3 _ hh w _) rfl (gw_V (gt_at 789 (by decide +kernel) (by decide +kernel)) (gt_at 790 (by decide +kernel) (by decide +kernel)) (gt_at 791 (by decide +kernel) (by decide +kernel)) (gt_at 81 (by decide +kernel) (by decide +kernel)) (gt_at 792 (by decide +kernel) (by decide +kernel))) (by decide +kernel) rfl (c3_size l hh h0) ⟨rfl, rfl⟩ hRm hf hl rfl hW hdg) kk
/-! FourTenGates$Pile.isFull()Z -/
abbrev rm3_isFull : Room := { frames := 0, cells := 0, slots := 0, locals := 0 }
theorem d3_isFull_0 : decode cX3_isFull 0 = .ok (.aload_n 0, 1) := by decide +kernel
theorem d3_isFull_1 : decode cX3_isFull 1 = .ok (.getfield 7, 3) := by decide +kernel
theorem d3_isFull_4 : decode cX3_isFull 4 = .ok (.aload_n 0, 1) := by decide +kernel
theorem d3_isFull_5 : decode cX3_isFull 5 = .ok (.getfield 21, 3) := by decide +kernel
theorem d3_isFull_8 : decode cX3_isFull 8 = .ok (.arraylength, 1) := by decide +kernel
theorem d3_isFull_9 : decode cX3_isFull 9 = .ok (.if_icmp .lt 7, 3) := by decide +kernel
theorem d3_isFull_12 : decode cX3_isFull 12 = .ok (.iconst 1, 1) := by decide +kernel
theorem d3_isFull_13 : decode cX3_isFull 13 = .ok (.goto 4, 3) := by decide +kernel
theorem d3_isFull_16 : decode cX3_isFull 16 = .ok (.iconst 0, 1) := by decide +kernel
theorem d3_isFull_17 : decode cX3_isFull 17 = .ok (.ireturn, 1) := by decide +kernel
def f3_isFull (σ : Mem) (h : Nat) : Option Int32 := if (σ h 1) < (Int32.ofNat (lnC (h + 1))) then some 0 else some 1
set_option maxHeartbeats 4000000 in
set_option maxRecDepth 100000 in
theorem c3_isFull (l : Launch) {w : WV} {σ : Mem} {h : Nat} {r : Int32} (hh : h ∈ pileL) (h0 : f3_isFull σ h = some r) : Met l yX3_isFull (wy yX3_isFull cX3_isFull 1 (some .boolean)) rm3_isFull (Pw EC LC w [.ref (w.2.2 h)] σ) (Qp (.int r)) 0 0 (fun _ => False) := by
  refine mk_met (by decide) (Nat.le_of_ble_eq_true rfl) ?_
  intro p e s m below meth c S hr hlk hK hR ls hl
  obtain ⟨hx, hb, hml, hown, hts⟩ := id S
  have hl : lv_has ls 1 [(0, .ref (w.2.2 h))] := hl
  unfold f3_isFull at h0
  refine lv_aload_n hx hb d3_isFull_0 rfl (lv_at hl 0 rfl) ?_
  refine g3_7 S hK hR hh d3_isFull_1 ?_
  refine lv_aload_n hx hb d3_isFull_4 rfl (lv_at hl 0 rfl) ?_
  refine g3_21 S hK hR hh rfl d3_isFull_5 ?_
  refine r_len (t0 := 3) S hK hR (oa_3_0 _ hh) (ea_3_0 _ hh w _) rfl rfl d3_isFull_8 ?_
  refine lv_icmp_lt (tgt := 16) hx hb d3_isFull_9 (by decide) (fun hc1 => ?_) (fun hc1 => ?_)
  · have h0 := og_t hc1 h0
    refine lv_iconst (v := 0) hx hb d3_isFull_16 (by decide) ?_
    exact q_zpure S hr hlk (Or.inl rfl) h0 d3_isFull_17
  · have h0 := og_f hc1 h0
    refine lv_iconst (v := 1) hx hb d3_isFull_12 (by decide) ?_
    refine lv_goto (tgt := 17) hx hb d3_isFull_13 (by decide) ?_
    exact q_zpure S hr hlk (Or.inr rfl) h0 d3_isFull_17
set_option maxHeartbeats 4000000 in
set_option maxRecDepth 100000 in
theorem k3_26 {p : Program} {l : Launch} {e : Env} {R : Room} {s : State} {m : MethodId} {args : Array Value} {below : List Frame} {meth : Method} {c : Code} {H : Heap} {locs : List Loc} {cells slots : Nat} {Q : State → Prop} {cc : ByteArray} {pc nL : Nat} {ls : Array Slot} {rest : List Value} {w : WV} {σ : Mem} {h : Nat} {r : Int32} (S : CallFix p m c cc nL s args gtbl RX3) (hK : KS LC w s) (hR : Rp EC LC w σ H) (hh : h ∈ pileL) (h0 : f3_isFull σ h = some r) (hf : cells + 0 ≤ R.cells ∧ slots + 0 ≤ R.slots) (hRm : rm3_isFull.frames + 1 ≤ R.frames ∧ 8 + (1 + 11) + rm3_isFull.locals ≤ R.locals) (hl : ls.size = nL) (hW : (rest.map fun v => v.category).sum ≤ 8) (hdg : decode cc pc = .ok (.invokevirtual 26, 3)) (kk : W p l e R s m args below meth c H locs cells slots Q (F0 m (pc + 3) ls (.int r :: rest))) : W p l e R s m args below meth c H locs cells slots Q (F0 m pc ls (.ref (w.2.2 h) :: rest)) := r_endp (run_V (n := 0) (As := []) S hK hR (ok_3 _ hh) (eC_3 _ hh w _) rfl (gw_V (gt_at 749 (by decide +kernel) (by decide +kernel)) (gt_at 750 (by decide +kernel) (by decide +kernel)) (gt_at 751 (by decide +kernel) (by decide +kernel)) (gt_at 81 (by decide +kernel) (by decide +kernel)) (gt_at 752 (by decide +kernel) (by decide +kernel))) (by decide +kernel) rfl (c3_isFull l hh h0) ⟨rfl, rfl⟩ hRm hf hl rfl hW hdg) kk
set_option maxHeartbeats 4000000 in
set_option maxRecDepth 100000 in
theorem k6_238 {p : Program} {l : Launch} {e : Env} {R : Room} {s : State} {m : MethodId} {args : Array Value} {below : List Frame} {meth : Method} {c : Code} {H : Heap} {locs : List Loc} {cells slots : Nat} {Q : State → Prop} {cc : ByteArray} {pc nL : Nat} {ls : Array Slot} {rest : List Value} {w : WV} {σ : Mem} {h : Nat} {r : Int32} (S : CallFix p m c cc nL s args gtbl RX6) (hK : KS LC w s) (hR : Rp EC LC w σ H) (hh : h ∈ pileL) (h0 : f3_isFull σ h = some r) (hf : cells + 0 ≤ R.cells ∧ slots + 0 ≤ R.slots) (hRm : rm3_isFull.frames + 1 ≤ R.frames ∧ 8 + (1 + 11) + rm3_isFull.locals ≤ R.locals) (hl : ls.size = nL) (hW : (rest.map fun v => v.category).sum ≤ 8) (hdg : decode cc pc = .ok (.invokevirtual 238, 3)) (kk : W p l e R s m args below meth c H locs cells slots Q (F0 m (pc + 3) ls (.int r :: rest))) : W p l e R s m args below meth c H locs cells slots Q (F0 m pc ls (.ref (w.2.2 h) :: rest)) := r_endp (run_V (n := 0) (As := []) S hK hR (ok_3 _ hh) (eC_3 _ hh w _) rfl (gw_V (gt_at 875 (by decide +kernel) (by decide +kernel)) (gt_at 750 (by decide +kernel) (by decide +kernel)) (gt_at 751 (by decide +kernel) (by decide +kernel)) (gt_at 81 (by decide +kernel) (by decide +kernel)) (gt_at 752 (by decide +kernel) (by decide +kernel))) (by decide +kernel) rfl (c3_isFull l hh h0) ⟨rfl, rfl⟩ hRm hf hl rfl hW hdg) kk
/-! FourTenGates$Pile.empty()V -/
abbrev rm3_empty : Room := { frames := 0, cells := 0, slots := 0, locals := 0 }
theorem d3_empty_0 : decode cX3_empty 0 = .ok (.aload_n 0, 1) := by decide +kernel
theorem d3_empty_1 : decode cX3_empty 1 = .ok (.iconst 0, 1) := by decide +kernel
theorem d3_empty_2 : decode cX3_empty 2 = .ok (.putfield 7, 3) := by decide +kernel
theorem d3_empty_5 : decode cX3_empty 5 = .ok (.return_, 1) := by decide +kernel
def f3_empty (σ : Mem) (h : Nat) : Option Mem := bm (mu σ h 1 0) fun σ1 => some σ1
set_option maxHeartbeats 4000000 in
set_option maxRecDepth 100000 in
theorem c3_empty (l : Launch) {w : WV} {σ : Mem} {h : Nat} {σ' : Mem} (hh : h ∈ pileL) (h0 : f3_empty σ h = some σ') : Met l yX3_empty (wy yX3_empty cX3_empty 1 none) rm3_empty (Pw EC LC w [.ref (w.2.2 h)] σ) (Qw EC LC w σ' none) 0 0 (AW LC w) := by
  refine mk_met (by decide) (Nat.le_of_ble_eq_true rfl) ?_
  intro p e s m below meth c S hr hlk hK hR ls hl
  obtain ⟨hx, hb, hml, hown, hts⟩ := id S
  have hl : lv_has ls 1 [(0, .ref (w.2.2 h))] := hl
  have hS : va_S (AW LC w) s.heap s.heap [] := va_S.rf
  unfold f3_empty at h0
  refine lv_aload_n hx hb d3_empty_0 rfl (lv_at hl 0 rfl) ?_
  refine lv_iconst (v := 0) hx hb d3_empty_1 (by decide) ?_
  obtain ⟨σ1, hm1, h0⟩ := og_m h0
  refine u3_7 S hK hR hS hh hm1 d3_empty_2 (fun H locs hR hS => ?_)
  exact q_vret S hr hlk hR hS h0 d3_empty_5
set_option maxHeartbeats 4000000 in
set_option maxRecDepth 100000 in
theorem k6_242 {p : Program} {l : Launch} {e : Env} {R : Room} {s : State} {m : MethodId} {args : Array Value} {below : List Frame} {meth : Method} {c : Code} {H : Heap} {locs : List Loc} {cells slots : Nat} {Q : State → Prop} {cc : ByteArray} {pc nL : Nat} {ls : Array Slot} {rest : List Value} {w : WV} {σ : Mem} {h : Nat} {σ1 : Mem} (S : CallFix p m c cc nL s args gtbl RX6) (hK : KS LC w s) (hR : Rp EC LC w σ H) (hS : va_S (AW LC w) s.heap H locs) (hh : h ∈ pileL) (h0 : f3_empty σ h = some σ1) (hf : cells + 0 ≤ R.cells ∧ slots + 0 ≤ R.slots) (hRm : rm3_empty.frames + 1 ≤ R.frames ∧ 8 + (1 + 11) + rm3_empty.locals ≤ R.locals) (hl : ls.size = nL) (hW : (rest.map fun v => v.category).sum ≤ 8) (hdg : decode cc pc = .ok (.invokevirtual 242, 3)) (kk : ∀ (H1 : Heap) (locs1 : List Loc), Rp EC LC w σ1 H1 → va_S (AW LC w) s.heap H1 locs1 → W p l e R s m args below meth c H1 locs1 cells slots Q (F0 m (pc + 3) ls (rest))) : W p l e R s m args below meth c H locs cells slots Q (F0 m pc ls (.ref (w.2.2 h) :: rest)) := r_end hS (run_V (n := 0) (As := []) S hK hR (ok_3 _ hh) (eC_3 _ hh w _) rfl (gw_V (gt_at 457 (by decide +kernel) (by decide +kernel)) (gt_at 458 (by decide +kernel) (by decide +kernel)) (gt_at 459 (by decide +kernel) (by decide +kernel)) (gt_at 81 (by decide +kernel) (by decide +kernel)) (gt_at 460 (by decide +kernel) (by decide +kernel))) (by decide +kernel) rfl (c3_empty l hh h0) ⟨rfl, rfl⟩ hRm hf hl rfl hW hdg) kk
/-! FourTenGates$Pile.dropLowest()V -/
abbrev rm3_dropLowest : Room := { frames := 0, cells := 0, slots := 0, locals := 0 }
theorem d3_dropLowest_0 : decode cX3_dropLowest 0 = .ok (.aload_n 0, 1) := by decide +kernel
theorem d3_dropLowest_1 : decode cX3_dropLowest 1 = .ok (.getfield 21, 3) := by decide +kernel
theorem d3_dropLowest_4 : decode cX3_dropLowest 4 = .ok (.iconst 0, 1) := by decide +kernel
theorem d3_dropLowest_5 : decode cX3_dropLowest 5 = .ok (.aaload, 1) := by decide +kernel
theorem d3_dropLowest_6 : decode cX3_dropLowest 6 = .ok (.astore_n 1, 1) := by decide +kernel
theorem d3_dropLowest_7 : decode cX3_dropLowest 7 = .ok (.iconst 0, 1) := by decide +kernel
theorem d3_dropLowest_8 : decode cX3_dropLowest 8 = .ok (.istore_n 2, 1) := by decide +kernel
theorem d3_dropLowest_9 : decode cX3_dropLowest 9 = .ok (.iload_n 2, 1) := by decide +kernel
theorem d3_dropLowest_10 : decode cX3_dropLowest 10 = .ok (.iconst 1, 1) := by decide +kernel
theorem d3_dropLowest_11 : decode cX3_dropLowest 11 = .ok (.iadd, 1) := by decide +kernel
theorem d3_dropLowest_12 : decode cX3_dropLowest 12 = .ok (.aload_n 0, 1) := by decide +kernel
theorem d3_dropLowest_13 : decode cX3_dropLowest 13 = .ok (.getfield 21, 3) := by decide +kernel
theorem d3_dropLowest_16 : decode cX3_dropLowest 16 = .ok (.arraylength, 1) := by decide +kernel
theorem d3_dropLowest_17 : decode cX3_dropLowest 17 = .ok (.if_icmp .ge 23, 3) := by decide +kernel
theorem d3_dropLowest_20 : decode cX3_dropLowest 20 = .ok (.aload_n 0, 1) := by decide +kernel
theorem d3_dropLowest_21 : decode cX3_dropLowest 21 = .ok (.getfield 21, 3) := by decide +kernel
theorem d3_dropLowest_24 : decode cX3_dropLowest 24 = .ok (.iload_n 2, 1) := by decide +kernel
theorem d3_dropLowest_25 : decode cX3_dropLowest 25 = .ok (.aload_n 0, 1) := by decide +kernel
theorem d3_dropLowest_26 : decode cX3_dropLowest 26 = .ok (.getfield 21, 3) := by decide +kernel
theorem d3_dropLowest_29 : decode cX3_dropLowest 29 = .ok (.iload_n 2, 1) := by decide +kernel
theorem d3_dropLowest_30 : decode cX3_dropLowest 30 = .ok (.iconst 1, 1) := by decide +kernel
theorem d3_dropLowest_31 : decode cX3_dropLowest 31 = .ok (.iadd, 1) := by decide +kernel
theorem d3_dropLowest_32 : decode cX3_dropLowest 32 = .ok (.aaload, 1) := by decide +kernel
theorem d3_dropLowest_33 : decode cX3_dropLowest 33 = .ok (.aastore, 1) := by decide +kernel
theorem d3_dropLowest_34 : decode cX3_dropLowest 34 = .ok (.iinc 2 1, 3) := by decide +kernel
theorem d3_dropLowest_37 : decode cX3_dropLowest 37 = .ok (.goto (-28), 3) := by decide +kernel
theorem d3_dropLowest_40 : decode cX3_dropLowest 40 = .ok (.aload_n 0, 1) := by decide +kernel
theorem d3_dropLowest_41 : decode cX3_dropLowest 41 = .ok (.getfield 21, 3) := by decide +kernel
theorem d3_dropLowest_44 : decode cX3_dropLowest 44 = .ok (.aload_n 0, 1) := by decide +kernel
theorem d3_dropLowest_45 : decode cX3_dropLowest 45 = .ok (.getfield 21, 3) := by decide +kernel
theorem d3_dropLowest_48 : decode cX3_dropLowest 48 = .ok (.arraylength, 1) := by decide +kernel
theorem d3_dropLowest_49 : decode cX3_dropLowest 49 = .ok (.iconst 1, 1) := by decide +kernel
theorem d3_dropLowest_50 : decode cX3_dropLowest 50 = .ok (.isub, 1) := by decide +kernel
theorem d3_dropLowest_51 : decode cX3_dropLowest 51 = .ok (.aload_n 1, 1) := by decide +kernel
theorem d3_dropLowest_52 : decode cX3_dropLowest 52 = .ok (.aastore, 1) := by decide +kernel
theorem d3_dropLowest_53 : decode cX3_dropLowest 53 = .ok (.aload_n 0, 1) := by decide +kernel
theorem d3_dropLowest_54 : decode cX3_dropLowest 54 = .ok (.dup, 1) := by decide +kernel
theorem d3_dropLowest_55 : decode cX3_dropLowest 55 = .ok (.getfield 7, 3) := by decide +kernel
theorem d3_dropLowest_58 : decode cX3_dropLowest 58 = .ok (.iconst 1, 1) := by decide +kernel
theorem d3_dropLowest_59 : decode cX3_dropLowest 59 = .ok (.isub, 1) := by decide +kernel
theorem d3_dropLowest_60 : decode cX3_dropLowest 60 = .ok (.putfield 7, 3) := by decide +kernel
theorem d3_dropLowest_63 : decode cX3_dropLowest 63 = .ok (.return_, 1) := by decide +kernel
def f3_dropLowest_b9 (h : Nat) : Nat → Mem → Int32 → Int32 → Option Mem
  | 0, _, _, _ => none
  | n + 1, σ, c1, x2 => if (Int32.ofNat (lnC (h + 1))) ≤ (x2 + 1) then if ¬ ((Int32.ofNat (lnC (h + 1))) - 1 < 0 ∨ lnC (h + 1) ≤ ((Int32.ofNat (lnC (h + 1))) - 1).toNatClampNeg) then (bm (mu σ (h + 1) (((Int32.ofNat (lnC (h + 1))) - 1).toNatClampNeg) c1) fun σ3 => bm (mu σ3 h 1 ((σ3 h 1) - 1)) fun σ4 => some σ4) else none else if ¬ (x2 + 1 < 0 ∨ lnC (h + 1) ≤ (x2 + 1).toNatClampNeg) then if (σ (h + 1) ((x2 + 1).toNatClampNeg)).toNatClampNeg ∈ standL then if ¬ (x2 < 0 ∨ lnC (h + 1) ≤ x2.toNatClampNeg) then (bm (mu σ (h + 1) x2.toNatClampNeg (σ (h + 1) ((x2 + 1).toNatClampNeg))) fun σ5 => f3_dropLowest_b9 h n σ5 c1 (x2 + 1)) else none else none else none
set_option maxHeartbeats 4000000 in
set_option maxRecDepth 100000 in
theorem t3_dropLowest_b9 {p : Program} {l : Launch} {e : Env} {s : State} {m : MethodId} {args : Array Value} {below : List Frame} {meth : Method} {c : Code} {w : WV} {h : Nat} {σ' : Mem} (S : CallFix p m c cX3_dropLowest 3 s args gtbl RX3) (hr : meth.sig.returnType = none) (hlk : meth.locks = false) (hK : KS LC w s) (hh : h ∈ pileL) : ∀ (n : Nat), ∀ (σ : Mem) (c1 : Int32) (hq1 : c1.toNatClampNeg ∈ standL) (x2 : Int32), f3_dropLowest_b9 h n σ c1 x2 = some σ' → ∀ (H : Heap) (locs : List Loc), Rp EC LC w σ H → va_S (AW LC w) s.heap H locs → ∀ (ls : Array Slot), lv_has ls 3 [(0, .ref (w.2.2 h)), (1, .ref (w.2.2 c1.toNatClampNeg)), (2, .int x2)] → W p l e rm3_dropLowest s m args below meth c H locs 0 0 (MQ below (Qw EC LC w σ' none) args s 0 0 (AW LC w)) (F0 m 9 ls []) := by
  obtain ⟨hx, hb, hml, hown, hts⟩ := id S
  intro n
  induction n with
  | zero =>
    intro σ c1 hq1 x2 h0
    cases (show none = _ from h0)
  | succ n ih =>
    intro σ c1 hq1 x2 h0 H locs hR hS ls hl
    rw [f3_dropLowest_b9] at h0
    refine lv_iload_n hx hb d3_dropLowest_9 rfl (lv_at hl 2 rfl) ?_
    refine lv_iconst (v := 1) hx hb d3_dropLowest_10 (by decide) ?_
    refine lv_iadd hx hb d3_dropLowest_11 ?_
    refine lv_aload_n hx hb d3_dropLowest_12 rfl (lv_at hl 0 rfl) ?_
    refine g3_21 S hK hR hh rfl d3_dropLowest_13 ?_
    refine r_len (t0 := 3) S hK hR (oa_3_0 _ hh) (ea_3_0 _ hh w _) rfl rfl d3_dropLowest_16 ?_
    refine lv_icmp_ge (tgt := 40) hx hb d3_dropLowest_17 (by decide) (fun hc1 => ?_) (fun hc1 => ?_)
    · have h0 := og_t hc1 h0
      refine lv_aload_n hx hb d3_dropLowest_40 rfl (lv_at hl 0 rfl) ?_
      refine g3_21 S hK hR hh rfl d3_dropLowest_41 ?_
      refine lv_aload_n hx hb d3_dropLowest_44 rfl (lv_at hl 0 rfl) ?_
      refine g3_21 S hK hR hh rfl d3_dropLowest_45 ?_
      refine r_len (t0 := 3) S hK hR (oa_3_0 _ hh) (ea_3_0 _ hh w _) rfl rfl d3_dropLowest_48 ?_
      refine lv_iconst (v := 1) hx hb d3_dropLowest_49 (by decide) ?_
      refine lv_isub hx hb d3_dropLowest_50 ?_
      refine lv_aload_n hx hb d3_dropLowest_51 rfl (lv_at hl 1 rfl) ?_
      obtain ⟨hi2, h0⟩ := og_if h0
      obtain ⟨σ3, hm3, h0⟩ := og_m h0
      refine q_ast (t0 := 3) (ci := 4) S hK hR hS (oa_3_0 _ hh) (ea_3_0 _ hh w) rfl rfl (ok_4 _ hq1) (eC_4 _ hq1 w _) rfl hi2 hm3 d3_dropLowest_52 (fun H locs hR hS => ?_)
      refine lv_aload_n hx hb d3_dropLowest_53 rfl (lv_at hl 0 rfl) ?_
      refine lv_dup hx hb d3_dropLowest_54 rfl ?_
      refine g3_7 S hK hR hh d3_dropLowest_55 ?_
      refine lv_iconst (v := 1) hx hb d3_dropLowest_58 (by decide) ?_
      refine lv_isub hx hb d3_dropLowest_59 ?_
      obtain ⟨σ4, hm4, h0⟩ := og_m h0
      refine u3_7 S hK hR hS hh hm4 d3_dropLowest_60 (fun H locs hR hS => ?_)
      exact q_vret S hr hlk hR hS h0 d3_dropLowest_63
    · have h0 := og_f hc1 h0
      refine lv_aload_n hx hb d3_dropLowest_20 rfl (lv_at hl 0 rfl) ?_
      refine g3_21 S hK hR hh rfl d3_dropLowest_21 ?_
      refine lv_iload_n hx hb d3_dropLowest_24 rfl (lv_at hl 2 rfl) ?_
      refine lv_aload_n hx hb d3_dropLowest_25 rfl (lv_at hl 0 rfl) ?_
      refine g3_21 S hK hR hh rfl d3_dropLowest_26 ?_
      refine lv_iload_n hx hb d3_dropLowest_29 rfl (lv_at hl 2 rfl) ?_
      refine lv_iconst (v := 1) hx hb d3_dropLowest_30 (by decide) ?_
      refine lv_iadd hx hb d3_dropLowest_31 ?_
      obtain ⟨hi2, h0⟩ := og_if h0
      obtain ⟨hq103, h0⟩ := og_if h0
      refine r_ald (t0 := 3) (f := fun i => (σ (h + 1) i).toNatClampNeg) S hK hR (oa_3_0 _ hh) (ea_3_0 _ hh w _) rfl hi2 d3_dropLowest_32 ?_
      obtain ⟨hi4, h0⟩ := og_if h0
      obtain ⟨σ5, hm5, h0⟩ := og_m h0
      refine q_ast (t0 := 3) (ci := 4) S hK hR hS (oa_3_0 _ hh) (ea_3_0 _ hh w) rfl rfl (ok_4 _ hq103) (eC_4 _ hq103 w _) rfl hi4 hm5 d3_dropLowest_33 (fun H locs hR hS => ?_)
      refine lv_iinc (v := x2 + 1) (lv' := [(2, .int (x2 + 1)), (0, .ref (w.2.2 h)), (1, .ref (w.2.2 c1.toNatClampNeg))]) hx hb d3_dropLowest_34 hl (k := 2) rfl (ii1 _) (by decide) rfl (fun ls hl => ?_)
      refine lv_goto (tgt := 9) hx hb d3_dropLowest_37 (by decide) ?_
      exact ih σ5 c1 hq1 (x2 + 1) h0 _ _ hR hS _ (lv_sub hl [1, 2, 0] rfl)
def f3_dropLowest (σ : Mem) (h : Nat) : Option Mem := if ¬ ((0 : Int32) < 0 ∨ lnC (h + 1) ≤ (0 : Int32).toNatClampNeg) then if (σ (h + 1) ((0 : Int32).toNatClampNeg)).toNatClampNeg ∈ standL then f3_dropLowest_b9 h 1000 σ (σ (h + 1) ((0 : Int32).toNatClampNeg)) 0 else none else none
set_option maxHeartbeats 4000000 in
set_option maxRecDepth 100000 in
theorem c3_dropLowest (l : Launch) {w : WV} {σ : Mem} {h : Nat} {σ' : Mem} (hh : h ∈ pileL) (h0 : f3_dropLowest σ h = some σ') : Met l yX3_dropLowest (wy yX3_dropLowest cX3_dropLowest 3 none) rm3_dropLowest (Pw EC LC w [.ref (w.2.2 h)] σ) (Qw EC LC w σ' none) 0 0 (AW LC w) := by
  refine mk_met (by decide) (Nat.le_of_ble_eq_true rfl) ?_
  intro p e s m below meth c S hr hlk hK hR ls hl
  obtain ⟨hx, hb, hml, hown, hts⟩ := id S
  have hl : lv_has ls 3 [(0, .ref (w.2.2 h))] := hl
  have hS : va_S (AW LC w) s.heap s.heap [] := va_S.rf
  unfold f3_dropLowest at h0
  refine lv_aload_n hx hb d3_dropLowest_0 rfl (lv_at hl 0 rfl) ?_
  refine g3_21 S hK hR hh rfl d3_dropLowest_1 ?_
  refine lv_iconst (v := 0) hx hb d3_dropLowest_4 (by decide) ?_
  obtain ⟨hi1, h0⟩ := og_if h0
  obtain ⟨hq102, h0⟩ := og_if h0
  refine r_ald (t0 := 3) (f := fun i => (σ (h + 1) i).toNatClampNeg) S hK hR (oa_3_0 _ hh) (ea_3_0 _ hh w _) rfl hi1 d3_dropLowest_5 ?_
  refine lv_astore_n (lv' := [(1, .ref (w.2.2 ((σ (h + 1) ((0 : Int32).toNatClampNeg)).toNatClampNeg))), (0, .ref (w.2.2 h))]) hx hb d3_dropLowest_6 rfl hl (by decide) rfl (fun ls hl => ?_)
  refine lv_iconst (v := 0) hx hb d3_dropLowest_7 (by decide) ?_
  refine lv_istore_n (lv' := [(2, .int 0), (1, .ref (w.2.2 ((σ (h + 1) ((0 : Int32).toNatClampNeg)).toNatClampNeg))), (0, .ref (w.2.2 h))]) hx hb d3_dropLowest_8 rfl hl (by decide) rfl (fun ls hl => ?_)
  exact t3_dropLowest_b9 S hr hlk hK hh 1000 σ (σ (h + 1) ((0 : Int32).toNatClampNeg)) hq102 0 h0 _ _ hR hS _ (lv_sub hl [2, 1, 0] rfl)
set_option maxHeartbeats 4000000 in
set_option maxRecDepth 100000 in
theorem k3_30 {p : Program} {l : Launch} {e : Env} {R : Room} {s : State} {m : MethodId} {args : Array Value} {below : List Frame} {meth : Method} {c : Code} {H : Heap} {locs : List Loc} {cells slots : Nat} {Q : State → Prop} {cc : ByteArray} {pc nL : Nat} {ls : Array Slot} {rest : List Value} {w : WV} {σ : Mem} {h : Nat} {σ1 : Mem} (S : CallFix p m c cc nL s args gtbl RX3) (hK : KS LC w s) (hR : Rp EC LC w σ H) (hS : va_S (AW LC w) s.heap H locs) (hh : h ∈ pileL) (h0 : f3_dropLowest σ h = some σ1) (hf : cells + 0 ≤ R.cells ∧ slots + 0 ≤ R.slots) (hRm : rm3_dropLowest.frames + 1 ≤ R.frames ∧ 8 + (3 + 11) + rm3_dropLowest.locals ≤ R.locals) (hl : ls.size = nL) (hW : (rest.map fun v => v.category).sum ≤ 8) (hdg : decode cc pc = .ok (.invokevirtual 30, 3)) (kk : ∀ (H1 : Heap) (locs1 : List Loc), Rp EC LC w σ1 H1 → va_S (AW LC w) s.heap H1 locs1 → W p l e R s m args below meth c H1 locs1 cells slots Q (F0 m (pc + 3) ls (rest))) : W p l e R s m args below meth c H locs cells slots Q (F0 m pc ls (.ref (w.2.2 h) :: rest)) := r_end hS (run_V (n := 0) (As := []) S hK hR (ok_3 _ hh) (eC_3 _ hh w _) rfl (gw_V (gt_at 753 (by decide +kernel) (by decide +kernel)) (gt_at 755 (by decide +kernel) (by decide +kernel)) (gt_at 34 (by decide +kernel) (by decide +kernel)) (gt_at 81 (by decide +kernel) (by decide +kernel)) (gt_at 756 (by decide +kernel) (by decide +kernel))) (by decide +kernel) rfl (c3_dropLowest l hh h0) ⟨rfl, rfl⟩ hRm hf hl rfl hW hdg) kk
/-! FourTenGates$Stand.copy(LFourTenGates$Stand;)V -/
abbrev rm4_copy : Room := { frames := 3, cells := 0, slots := 0, locals := 64 }
theorem d4_copy_0 : decode cX4_copy 0 = .ok (.aload_n 0, 1) := by decide +kernel
theorem d4_copy_1 : decode cX4_copy 1 = .ok (.getfield 14, 3) := by decide +kernel
theorem d4_copy_4 : decode cX4_copy 4 = .ok (.aload_n 1, 1) := by decide +kernel
theorem d4_copy_5 : decode cX4_copy 5 = .ok (.getfield 14, 3) := by decide +kernel
theorem d4_copy_8 : decode cX4_copy 8 = .ok (.invokevirtual 24, 3) := by decide +kernel
theorem d4_copy_11 : decode cX4_copy 11 = .ok (.iconst 0, 1) := by decide +kernel
theorem d4_copy_12 : decode cX4_copy 12 = .ok (.istore_n 2, 1) := by decide +kernel
theorem d4_copy_13 : decode cX4_copy 13 = .ok (.iload_n 2, 1) := by decide +kernel
theorem d4_copy_14 : decode cX4_copy 14 = .ok (.bipush 6, 2) := by decide +kernel
theorem d4_copy_16 : decode cX4_copy 16 = .ok (.if_icmp .ge 20, 3) := by decide +kernel
theorem d4_copy_19 : decode cX4_copy 19 = .ok (.aload_n 0, 1) := by decide +kernel
theorem d4_copy_20 : decode cX4_copy 20 = .ok (.getfield 20, 3) := by decide +kernel
theorem d4_copy_23 : decode cX4_copy 23 = .ok (.iload_n 2, 1) := by decide +kernel
theorem d4_copy_24 : decode cX4_copy 24 = .ok (.aload_n 1, 1) := by decide +kernel
theorem d4_copy_25 : decode cX4_copy 25 = .ok (.iload_n 2, 1) := by decide +kernel
theorem d4_copy_26 : decode cX4_copy 26 = .ok (.invokevirtual 28, 3) := by decide +kernel
theorem d4_copy_29 : decode cX4_copy 29 = .ok (.iastore, 1) := by decide +kernel
theorem d4_copy_30 : decode cX4_copy 30 = .ok (.iinc 2 1, 3) := by decide +kernel
theorem d4_copy_33 : decode cX4_copy 33 = .ok (.goto (-20), 3) := by decide +kernel
theorem d4_copy_36 : decode cX4_copy 36 = .ok (.return_, 1) := by decide +kernel
def f4_copy_b13 (h : Nat) (o1 : Nat) : Nat → Mem → Int32 → Option Mem
  | 0, _, _ => none
  | n + 1, σ, x2 => if 6 ≤ x2 then some σ else Option.bind (f4_lateOf σ o1 x2) fun r2 => if ¬ (x2 < 0 ∨ 6 ≤ x2.toNatClampNeg) then (bm (mu σ (h + 4) x2.toNatClampNeg r2) fun σ4 => f4_copy_b13 h o1 n σ4 (x2 + 1)) else none
set_option maxHeartbeats 4000000 in
set_option maxRecDepth 100000 in
theorem t4_copy_b13 {p : Program} {l : Launch} {e : Env} {s : State} {m : MethodId} {args : Array Value} {below : List Frame} {meth : Method} {c : Code} {w : WV} {h : Nat} {o1 : Nat} {σ' : Mem} (S : CallFix p m c cX4_copy 3 s args gtbl RX4) (hr : meth.sig.returnType = none) (hlk : meth.locks = false) (hK : KS LC w s) (hh : h ∈ standL) (ho1 : o1 ∈ standL) : ∀ (n : Nat), ∀ (σ : Mem) (x2 : Int32), f4_copy_b13 h o1 n σ x2 = some σ' → ∀ (H : Heap) (locs : List Loc), Rp EC LC w σ H → va_S (AW LC w) s.heap H locs → ∀ (ls : Array Slot), lv_has ls 3 [(0, .ref (w.2.2 h)), (1, .ref (w.2.2 o1)), (2, .int x2)] → W p l e rm4_copy s m args below meth c H locs 0 0 (MQ below (Qw EC LC w σ' none) args s 0 0 (AW LC w)) (F0 m 13 ls []) := by
  obtain ⟨hx, hb, hml, hown, hts⟩ := id S
  intro n
  induction n with
  | zero =>
    intro σ x2 h0
    cases (show none = _ from h0)
  | succ n ih =>
    intro σ x2 h0 H locs hR hS ls hl
    rw [f4_copy_b13] at h0
    refine lv_iload_n hx hb d4_copy_13 rfl (lv_at hl 2 rfl) ?_
    refine lv_bipush (v := 6) hx hb d4_copy_14 (by decide) ?_
    refine lv_icmp_ge (tgt := 36) hx hb d4_copy_16 (by decide) (fun hc1 => ?_) (fun hc1 => ?_)
    · have h0 := og_t hc1 h0
      exact q_vret S hr hlk hR hS h0 d4_copy_36
    · have h0 := og_f hc1 h0
      refine lv_aload_n hx hb d4_copy_19 rfl (lv_at hl 0 rfl) ?_
      refine g4_20 S hK hR hh rfl d4_copy_20 ?_
      refine lv_iload_n hx hb d4_copy_23 rfl (lv_at hl 2 rfl) ?_
      refine lv_aload_n hx hb d4_copy_24 rfl (lv_at hl 1 rfl) ?_
      refine lv_iload_n hx hb d4_copy_25 rfl (lv_at hl 2 rfl) ?_
      obtain ⟨r2, hr2, h0⟩ := og_b h0
      refine k4_28 S hK hR ho1 hr2 ⟨Nat.zero_le _, Nat.zero_le _⟩ ⟨Nat.le_of_ble_eq_true rfl, Nat.le_of_ble_eq_true rfl⟩ hl.1 (Nat.le_of_ble_eq_true rfl) d4_copy_26 ?_
      obtain ⟨hi3, h0⟩ := og_if h0
      obtain ⟨σ4, hm4, h0⟩ := og_m h0
      refine q_st S hK hR hS (oa_4_1 _ hh) (ea_4_1 _ hh w) hi3 rfl hm4 d4_copy_29 (fun H locs hR hS => ?_)
      refine lv_iinc (v := x2 + 1) (lv' := [(2, .int (x2 + 1)), (0, .ref (w.2.2 h)), (1, .ref (w.2.2 o1))]) hx hb d4_copy_30 hl (k := 2) rfl (ii1 _) (by decide) rfl (fun ls hl => ?_)
      refine lv_goto (tgt := 13) hx hb d4_copy_33 (by decide) ?_
      exact ih σ4 (x2 + 1) h0 _ _ hR hS _ (lv_sub hl [1, 2, 0] rfl)
def f4_copy (σ : Mem) (h : Nat) (o1 : Nat) : Option Mem := Option.bind (f2_copy σ (h + 1) (o1 + 1)) fun σ1 => f4_copy_b13 h o1 1000 σ1 0
set_option maxHeartbeats 4000000 in
set_option maxRecDepth 100000 in
theorem c4_copy (l : Launch) {w : WV} {σ : Mem} {h : Nat} {o1 : Nat} {σ' : Mem} (hh : h ∈ standL) (ho1 : o1 ∈ standL) (h0 : f4_copy σ h o1 = some σ') : Met l yX4_copy (wy yX4_copy cX4_copy 3 none) rm4_copy (Pw EC LC w [.ref (w.2.2 h), .ref (w.2.2 o1)] σ) (Qw EC LC w σ' none) 0 0 (AW LC w) := by
  refine mk_met (by decide) (Nat.le_of_ble_eq_true rfl) ?_
  intro p e s m below meth c S hr hlk hK hR ls hl
  obtain ⟨hx, hb, hml, hown, hts⟩ := id S
  have hl : lv_has ls 3 [(0, .ref (w.2.2 h)), (1, .ref (w.2.2 o1))] := hl
  have hS : va_S (AW LC w) s.heap s.heap [] := va_S.rf
  unfold f4_copy at h0
  refine lv_aload_n hx hb d4_copy_0 rfl (lv_at hl 0 rfl) ?_
  refine g4_14 S hK hR hh rfl d4_copy_1 ?_
  refine lv_aload_n hx hb d4_copy_4 rfl (lv_at hl 1 rfl) ?_
  refine g4_14 S hK hR ho1 rfl d4_copy_5 ?_
  obtain ⟨σ1, hr1, h0⟩ := og_b h0
  refine k4_24 S hK hR hS (in_4_0 _ hh) (in_4_0 _ ho1) hr1 ⟨Nat.zero_le _, Nat.zero_le _⟩ ⟨Nat.le_of_ble_eq_true rfl, Nat.le_of_ble_eq_true rfl⟩ hl.1 (Nat.le_of_ble_eq_true rfl) d4_copy_8 (fun H locs hR hS => ?_)
  refine lv_iconst (v := 0) hx hb d4_copy_11 (by decide) ?_
  refine lv_istore_n (lv' := [(2, .int 0), (0, .ref (w.2.2 h)), (1, .ref (w.2.2 o1))]) hx hb d4_copy_12 rfl hl (by decide) rfl (fun ls hl => ?_)
  exact t4_copy_b13 S hr hlk hK hh ho1 1000 σ1 0 h0 _ _ hR hS _ (lv_sub hl [1, 2, 0] rfl)
set_option maxHeartbeats 4000000 in
set_option maxRecDepth 100000 in
theorem k3_33 {p : Program} {l : Launch} {e : Env} {R : Room} {s : State} {m : MethodId} {args : Array Value} {below : List Frame} {meth : Method} {c : Code} {H : Heap} {locs : List Loc} {cells slots : Nat} {Q : State → Prop} {cc : ByteArray} {pc nL : Nat} {ls : Array Slot} {rest : List Value} {w : WV} {σ : Mem} {h : Nat} {o1 : Nat} {σ1 : Mem} (S : CallFix p m c cc nL s args gtbl RX3) (hK : KS LC w s) (hR : Rp EC LC w σ H) (hS : va_S (AW LC w) s.heap H locs) (hh : h ∈ standL) (ho1 : o1 ∈ standL) (h0 : f4_copy σ h o1 = some σ1) (hf : cells + 0 ≤ R.cells ∧ slots + 0 ≤ R.slots) (hRm : rm4_copy.frames + 1 ≤ R.frames ∧ 8 + (3 + 11) + rm4_copy.locals ≤ R.locals) (hl : ls.size = nL) (hW : (rest.map fun v => v.category).sum ≤ 8) (hdg : decode cc pc = .ok (.invokevirtual 33, 3)) (kk : ∀ (H1 : Heap) (locs1 : List Loc), Rp EC LC w σ1 H1 → va_S (AW LC w) s.heap H1 locs1 → W p l e R s m args below meth c H1 locs1 cells slots Q (F0 m (pc + 3) ls (rest))) : W p l e R s m args below meth c H locs cells slots Q (F0 m pc ls (.ref (w.2.2 o1) :: .ref (w.2.2 h) :: rest)) := r_end hS (run_V (n := 1) (As := [.ref (w.2.2 o1)]) S hK hR (ok_4 _ hh) (eC_4 _ hh w _) rfl (gw_V (gt_at 757 (by decide +kernel) (by decide +kernel)) (gt_at 758 (by decide +kernel) (by decide +kernel)) (gt_at 759 (by decide +kernel) (by decide +kernel)) (gt_at 79 (by decide +kernel) (by decide +kernel)) (gt_at 760 (by decide +kernel) (by decide +kernel))) (by decide +kernel) rfl (c4_copy l hh ho1 h0) ⟨rfl, rfl⟩ hRm hf hl rfl hW hdg) kk
set_option maxHeartbeats 4000000 in
set_option maxRecDepth 100000 in
theorem k6_222 {p : Program} {l : Launch} {e : Env} {R : Room} {s : State} {m : MethodId} {args : Array Value} {below : List Frame} {meth : Method} {c : Code} {H : Heap} {locs : List Loc} {cells slots : Nat} {Q : State → Prop} {cc : ByteArray} {pc nL : Nat} {ls : Array Slot} {rest : List Value} {w : WV} {σ : Mem} {h : Nat} {o1 : Nat} {σ1 : Mem} (S : CallFix p m c cc nL s args gtbl RX6) (hK : KS LC w s) (hR : Rp EC LC w σ H) (hS : va_S (AW LC w) s.heap H locs) (hh : h ∈ standL) (ho1 : o1 ∈ standL) (h0 : f4_copy σ h o1 = some σ1) (hf : cells + 0 ≤ R.cells ∧ slots + 0 ≤ R.slots) (hRm : rm4_copy.frames + 1 ≤ R.frames ∧ 8 + (3 + 11) + rm4_copy.locals ≤ R.locals) (hl : ls.size = nL) (hW : (rest.map fun v => v.category).sum ≤ 8) (hdg : decode cc pc = .ok (.invokevirtual 222, 3)) (kk : ∀ (H1 : Heap) (locs1 : List Loc), Rp EC LC w σ1 H1 → va_S (AW LC w) s.heap H1 locs1 → W p l e R s m args below meth c H1 locs1 cells slots Q (F0 m (pc + 3) ls (rest))) : W p l e R s m args below meth c H locs cells slots Q (F0 m pc ls (.ref (w.2.2 o1) :: .ref (w.2.2 h) :: rest)) := r_end hS (run_V (n := 1) (As := [.ref (w.2.2 o1)]) S hK hR (ok_4 _ hh) (eC_4 _ hh w _) rfl (gw_V (gt_at 805 (by decide +kernel) (by decide +kernel)) (gt_at 758 (by decide +kernel) (by decide +kernel)) (gt_at 759 (by decide +kernel) (by decide +kernel)) (gt_at 79 (by decide +kernel) (by decide +kernel)) (gt_at 760 (by decide +kernel) (by decide +kernel))) (by decide +kernel) rfl (c4_copy l hh ho1 h0) ⟨rfl, rfl⟩ hRm hf hl rfl hW hdg) kk
/-! FourTenGates$Pile.push(LFourTenGates$Stand;)V -/
abbrev rm3_push : Room := { frames := 4, cells := 0, slots := 0, locals := 86 }
theorem d3_push_0 : decode cX3_push 0 = .ok (.aload_n 0, 1) := by decide +kernel
theorem d3_push_1 : decode cX3_push 1 = .ok (.invokevirtual 26, 3) := by decide +kernel
theorem d3_push_4 : decode cX3_push 4 = .ok (.ifCond .eq 7, 3) := by decide +kernel
theorem d3_push_7 : decode cX3_push 7 = .ok (.aload_n 0, 1) := by decide +kernel
theorem d3_push_8 : decode cX3_push 8 = .ok (.invokevirtual 30, 3) := by decide +kernel
theorem d3_push_11 : decode cX3_push 11 = .ok (.aload_n 0, 1) := by decide +kernel
theorem d3_push_12 : decode cX3_push 12 = .ok (.getfield 21, 3) := by decide +kernel
theorem d3_push_15 : decode cX3_push 15 = .ok (.aload_n 0, 1) := by decide +kernel
theorem d3_push_16 : decode cX3_push 16 = .ok (.getfield 7, 3) := by decide +kernel
theorem d3_push_19 : decode cX3_push 19 = .ok (.aaload, 1) := by decide +kernel
theorem d3_push_20 : decode cX3_push 20 = .ok (.aload_n 1, 1) := by decide +kernel
theorem d3_push_21 : decode cX3_push 21 = .ok (.invokevirtual 33, 3) := by decide +kernel
theorem d3_push_24 : decode cX3_push 24 = .ok (.aload_n 0, 1) := by decide +kernel
theorem d3_push_25 : decode cX3_push 25 = .ok (.dup, 1) := by decide +kernel
theorem d3_push_26 : decode cX3_push 26 = .ok (.getfield 7, 3) := by decide +kernel
theorem d3_push_29 : decode cX3_push 29 = .ok (.iconst 1, 1) := by decide +kernel
theorem d3_push_30 : decode cX3_push 30 = .ok (.iadd, 1) := by decide +kernel
theorem d3_push_31 : decode cX3_push 31 = .ok (.putfield 7, 3) := by decide +kernel
theorem d3_push_34 : decode cX3_push 34 = .ok (.return_, 1) := by decide +kernel
def f3_push_b11 (h : Nat) (o1 : Nat) (σ : Mem) : Option Mem := if ¬ (σ h 1 < 0 ∨ lnC (h + 1) ≤ (σ h 1).toNatClampNeg) then if (σ (h + 1) ((σ h 1).toNatClampNeg)).toNatClampNeg ∈ standL then Option.bind (f4_copy σ ((σ (h + 1) ((σ h 1).toNatClampNeg)).toNatClampNeg) o1) fun σ3 => bm (mu σ3 h 1 ((σ3 h 1) + 1)) fun σ4 => some σ4 else none else none
set_option maxHeartbeats 4000000 in
set_option maxRecDepth 100000 in
theorem t3_push_b11 {p : Program} {l : Launch} {e : Env} {s : State} {m : MethodId} {args : Array Value} {below : List Frame} {meth : Method} {c : Code} {w : WV} {h : Nat} {o1 : Nat} {σ' : Mem} (S : CallFix p m c cX3_push 2 s args gtbl RX3) (hr : meth.sig.returnType = none) (hlk : meth.locks = false) (hK : KS LC w s) (hh : h ∈ pileL) (ho1 : o1 ∈ standL) : ∀ (σ : Mem), f3_push_b11 h o1 σ = some σ' → ∀ (H : Heap) (locs : List Loc), Rp EC LC w σ H → va_S (AW LC w) s.heap H locs → ∀ (ls : Array Slot), lv_has ls 2 [(0, .ref (w.2.2 h)), (1, .ref (w.2.2 o1))] → W p l e rm3_push s m args below meth c H locs 0 0 (MQ below (Qw EC LC w σ' none) args s 0 0 (AW LC w)) (F0 m 11 ls []) := by
  obtain ⟨hx, hb, hml, hown, hts⟩ := id S
  intro σ h0 H locs hR hS ls hl
  unfold f3_push_b11 at h0
  refine lv_aload_n hx hb d3_push_11 rfl (lv_at hl 0 rfl) ?_
  refine g3_21 S hK hR hh rfl d3_push_12 ?_
  refine lv_aload_n hx hb d3_push_15 rfl (lv_at hl 0 rfl) ?_
  refine g3_7 S hK hR hh d3_push_16 ?_
  obtain ⟨hi1, h0⟩ := og_if h0
  obtain ⟨hq102, h0⟩ := og_if h0
  refine r_ald (t0 := 3) (f := fun i => (σ (h + 1) i).toNatClampNeg) S hK hR (oa_3_0 _ hh) (ea_3_0 _ hh w _) rfl hi1 d3_push_19 ?_
  refine lv_aload_n hx hb d3_push_20 rfl (lv_at hl 1 rfl) ?_
  obtain ⟨σ3, hr3, h0⟩ := og_b h0
  refine k3_33 S hK hR hS hq102 ho1 hr3 ⟨Nat.zero_le _, Nat.zero_le _⟩ ⟨Nat.le_of_ble_eq_true rfl, Nat.le_of_ble_eq_true rfl⟩ hl.1 (Nat.le_of_ble_eq_true rfl) d3_push_21 (fun H locs hR hS => ?_)
  refine lv_aload_n hx hb d3_push_24 rfl (lv_at hl 0 rfl) ?_
  refine lv_dup hx hb d3_push_25 rfl ?_
  refine g3_7 S hK hR hh d3_push_26 ?_
  refine lv_iconst (v := 1) hx hb d3_push_29 (by decide) ?_
  refine lv_iadd hx hb d3_push_30 ?_
  obtain ⟨σ4, hm4, h0⟩ := og_m h0
  refine u3_7 S hK hR hS hh hm4 d3_push_31 (fun H locs hR hS => ?_)
  exact q_vret S hr hlk hR hS h0 d3_push_34
def f3_push (σ : Mem) (h : Nat) (o1 : Nat) : Option Mem := Option.bind (f3_isFull σ h) fun r1 => if r1 = 0 then f3_push_b11 h o1 σ else Option.bind (f3_dropLowest σ h) fun σ3 => f3_push_b11 h o1 σ3
set_option maxHeartbeats 4000000 in
set_option maxRecDepth 100000 in
theorem c3_push (l : Launch) {w : WV} {σ : Mem} {h : Nat} {o1 : Nat} {σ' : Mem} (hh : h ∈ pileL) (ho1 : o1 ∈ standL) (h0 : f3_push σ h o1 = some σ') : Met l yX3_push (wy yX3_push cX3_push 2 none) rm3_push (Pw EC LC w [.ref (w.2.2 h), .ref (w.2.2 o1)] σ) (Qw EC LC w σ' none) 0 0 (AW LC w) := by
  refine mk_met (by decide) (Nat.le_of_ble_eq_true rfl) ?_
  intro p e s m below meth c S hr hlk hK hR ls hl
  obtain ⟨hx, hb, hml, hown, hts⟩ := id S
  have hl : lv_has ls 2 [(0, .ref (w.2.2 h)), (1, .ref (w.2.2 o1))] := hl
  have hS : va_S (AW LC w) s.heap s.heap [] := va_S.rf
  unfold f3_push at h0
  refine lv_aload_n hx hb d3_push_0 rfl (lv_at hl 0 rfl) ?_
  obtain ⟨r1, hr1, h0⟩ := og_b h0
  refine k3_26 S hK hR hh hr1 ⟨Nat.zero_le _, Nat.zero_le _⟩ ⟨Nat.le_of_ble_eq_true rfl, Nat.le_of_ble_eq_true rfl⟩ hl.1 (Nat.le_of_ble_eq_true rfl) d3_push_1 ?_
  refine lv_if_eq (tgt := 11) hx hb d3_push_4 (by decide) (fun hc2 => ?_) (fun hc2 => ?_)
  · have h0 := og_t hc2 h0
    exact t3_push_b11 S hr hlk hK hh ho1 σ h0 _ _ hR hS _ (lv_sub hl [0, 1] rfl)
  · have h0 := og_f hc2 h0
    refine lv_aload_n hx hb d3_push_7 rfl (lv_at hl 0 rfl) ?_
    obtain ⟨σ3, hr3, h0⟩ := og_b h0
    refine k3_30 S hK hR hS hh hr3 ⟨Nat.zero_le _, Nat.zero_le _⟩ ⟨Nat.le_of_ble_eq_true rfl, Nat.le_of_ble_eq_true rfl⟩ hl.1 (Nat.le_of_ble_eq_true rfl) d3_push_8 (fun H locs hR hS => ?_)
    exact t3_push_b11 S hr hlk hK hh ho1 σ3 h0 _ _ hR hS _ (lv_sub hl [0, 1] rfl)
set_option maxHeartbeats 4000000 in
set_option maxRecDepth 100000 in
theorem k6_239 {p : Program} {l : Launch} {e : Env} {R : Room} {s : State} {m : MethodId} {args : Array Value} {below : List Frame} {meth : Method} {c : Code} {H : Heap} {locs : List Loc} {cells slots : Nat} {Q : State → Prop} {cc : ByteArray} {pc nL : Nat} {ls : Array Slot} {rest : List Value} {w : WV} {σ : Mem} {h : Nat} {o1 : Nat} {σ1 : Mem} (S : CallFix p m c cc nL s args gtbl RX6) (hK : KS LC w s) (hR : Rp EC LC w σ H) (hS : va_S (AW LC w) s.heap H locs) (hh : h ∈ pileL) (ho1 : o1 ∈ standL) (h0 : f3_push σ h o1 = some σ1) (hf : cells + 0 ≤ R.cells ∧ slots + 0 ≤ R.slots) (hRm : rm3_push.frames + 1 ≤ R.frames ∧ 8 + (2 + 11) + rm3_push.locals ≤ R.locals) (hl : ls.size = nL) (hW : (rest.map fun v => v.category).sum ≤ 8) (hdg : decode cc pc = .ok (.invokevirtual 239, 3)) (kk : ∀ (H1 : Heap) (locs1 : List Loc), Rp EC LC w σ1 H1 → va_S (AW LC w) s.heap H1 locs1 → W p l e R s m args below meth c H1 locs1 cells slots Q (F0 m (pc + 3) ls (rest))) : W p l e R s m args below meth c H locs cells slots Q (F0 m pc ls (.ref (w.2.2 o1) :: .ref (w.2.2 h) :: rest)) := r_end hS (run_V (n := 1) (As := [.ref (w.2.2 o1)]) S hK hR (ok_3 _ hh) (eC_3 _ hh w _) rfl (gw_V (gt_at 745 (by decide +kernel) (by decide +kernel)) (gt_at 746 (by decide +kernel) (by decide +kernel)) (gt_at 747 (by decide +kernel) (by decide +kernel)) (gt_at 81 (by decide +kernel) (by decide +kernel)) (gt_at 748 (by decide +kernel) (by decide +kernel))) (by decide +kernel) rfl (c3_push l hh ho1 h0) ⟨rfl, rfl⟩ hRm hf hl rfl hW hdg) kk
/-! FourTenGates$Pile.pop(LFourTenGates$Stand;)Z -/
abbrev rm3_pop : Room := { frames := 4, cells := 0, slots := 0, locals := 86 }
theorem d3_pop_0 : decode cX3_pop 0 = .ok (.aload_n 0, 1) := by decide +kernel
theorem d3_pop_1 : decode cX3_pop 1 = .ok (.getfield 7, 3) := by decide +kernel
theorem d3_pop_4 : decode cX3_pop 4 = .ok (.ifCond .gt 5, 3) := by decide +kernel
theorem d3_pop_7 : decode cX3_pop 7 = .ok (.iconst 0, 1) := by decide +kernel
theorem d3_pop_8 : decode cX3_pop 8 = .ok (.ireturn, 1) := by decide +kernel
theorem d3_pop_9 : decode cX3_pop 9 = .ok (.aload_n 0, 1) := by decide +kernel
theorem d3_pop_10 : decode cX3_pop 10 = .ok (.dup, 1) := by decide +kernel
theorem d3_pop_11 : decode cX3_pop 11 = .ok (.getfield 7, 3) := by decide +kernel
theorem d3_pop_14 : decode cX3_pop 14 = .ok (.iconst 1, 1) := by decide +kernel
theorem d3_pop_15 : decode cX3_pop 15 = .ok (.isub, 1) := by decide +kernel
theorem d3_pop_16 : decode cX3_pop 16 = .ok (.putfield 7, 3) := by decide +kernel
theorem d3_pop_19 : decode cX3_pop 19 = .ok (.aload_n 1, 1) := by decide +kernel
theorem d3_pop_20 : decode cX3_pop 20 = .ok (.aload_n 0, 1) := by decide +kernel
theorem d3_pop_21 : decode cX3_pop 21 = .ok (.getfield 21, 3) := by decide +kernel
theorem d3_pop_24 : decode cX3_pop 24 = .ok (.aload_n 0, 1) := by decide +kernel
theorem d3_pop_25 : decode cX3_pop 25 = .ok (.getfield 7, 3) := by decide +kernel
theorem d3_pop_28 : decode cX3_pop 28 = .ok (.aaload, 1) := by decide +kernel
theorem d3_pop_29 : decode cX3_pop 29 = .ok (.invokevirtual 33, 3) := by decide +kernel
theorem d3_pop_32 : decode cX3_pop 32 = .ok (.iconst 1, 1) := by decide +kernel
theorem d3_pop_33 : decode cX3_pop 33 = .ok (.ireturn, 1) := by decide +kernel
def f3_pop (σ : Mem) (h : Nat) (o1 : Nat) : Option (Mem × Int32) := if 0 < (σ h 1) then bm (mu σ h 1 ((σ h 1) - 1)) fun σ2 => if ¬ (σ2 h 1 < 0 ∨ lnC (h + 1) ≤ (σ2 h 1).toNatClampNeg) then if (σ2 (h + 1) ((σ2 h 1).toNatClampNeg)).toNatClampNeg ∈ standL then Option.bind (f4_copy σ2 o1 ((σ2 (h + 1) ((σ2 h 1).toNatClampNeg)).toNatClampNeg)) fun σ5 => some (σ5, 1) else none else none else some (σ, 0)
set_option maxHeartbeats 4000000 in
set_option maxRecDepth 100000 in
theorem c3_pop (l : Launch) {w : WV} {σ : Mem} {h : Nat} {o1 : Nat} {σ' : Mem} {r : Int32} (hh : h ∈ pileL) (ho1 : o1 ∈ standL) (h0 : f3_pop σ h o1 = some (σ', r)) : Met l yX3_pop (wy yX3_pop cX3_pop 2 (some .boolean)) rm3_pop (Pw EC LC w [.ref (w.2.2 h), .ref (w.2.2 o1)] σ) (Qw EC LC w σ' (some (.int r))) 0 0 (AW LC w) := by
  refine mk_met (by decide) (Nat.le_of_ble_eq_true rfl) ?_
  intro p e s m below meth c S hr hlk hK hR ls hl
  obtain ⟨hx, hb, hml, hown, hts⟩ := id S
  have hl : lv_has ls 2 [(0, .ref (w.2.2 h)), (1, .ref (w.2.2 o1))] := hl
  have hS : va_S (AW LC w) s.heap s.heap [] := va_S.rf
  unfold f3_pop at h0
  refine lv_aload_n hx hb d3_pop_0 rfl (lv_at hl 0 rfl) ?_
  refine g3_7 S hK hR hh d3_pop_1 ?_
  refine lv_if_gt (tgt := 9) hx hb d3_pop_4 (by decide) (fun hc1 => ?_) (fun hc1 => ?_)
  · have h0 := og_t hc1 h0
    refine lv_aload_n hx hb d3_pop_9 rfl (lv_at hl 0 rfl) ?_
    refine lv_dup hx hb d3_pop_10 rfl ?_
    refine g3_7 S hK hR hh d3_pop_11 ?_
    refine lv_iconst (v := 1) hx hb d3_pop_14 (by decide) ?_
    refine lv_isub hx hb d3_pop_15 ?_
    obtain ⟨σ2, hm2, h0⟩ := og_m h0
    refine u3_7 S hK hR hS hh hm2 d3_pop_16 (fun H locs hR hS => ?_)
    refine lv_aload_n hx hb d3_pop_19 rfl (lv_at hl 1 rfl) ?_
    refine lv_aload_n hx hb d3_pop_20 rfl (lv_at hl 0 rfl) ?_
    refine g3_21 S hK hR hh rfl d3_pop_21 ?_
    refine lv_aload_n hx hb d3_pop_24 rfl (lv_at hl 0 rfl) ?_
    refine g3_7 S hK hR hh d3_pop_25 ?_
    obtain ⟨hi3, h0⟩ := og_if h0
    obtain ⟨hq104, h0⟩ := og_if h0
    refine r_ald (t0 := 3) (f := fun i => (σ2 (h + 1) i).toNatClampNeg) S hK hR (oa_3_0 _ hh) (ea_3_0 _ hh w _) rfl hi3 d3_pop_28 ?_
    obtain ⟨σ5, hr5, h0⟩ := og_b h0
    refine k3_33 S hK hR hS ho1 hq104 hr5 ⟨Nat.zero_le _, Nat.zero_le _⟩ ⟨Nat.le_of_ble_eq_true rfl, Nat.le_of_ble_eq_true rfl⟩ hl.1 (Nat.le_of_ble_eq_true rfl) d3_pop_29 (fun H locs hR hS => ?_)
    refine lv_iconst (v := 1) hx hb d3_pop_32 (by decide) ?_
    exact q_zret S hr hlk hR hS (Or.inr rfl) h0 d3_pop_33
  · have h0 := og_f hc1 h0
    refine lv_iconst (v := 0) hx hb d3_pop_7 (by decide) ?_
    exact q_zret S hr hlk hR hS (Or.inl rfl) h0 d3_pop_8
set_option maxHeartbeats 4000000 in
set_option maxRecDepth 100000 in
theorem k6_189 {p : Program} {l : Launch} {e : Env} {R : Room} {s : State} {m : MethodId} {args : Array Value} {below : List Frame} {meth : Method} {c : Code} {H : Heap} {locs : List Loc} {cells slots : Nat} {Q : State → Prop} {cc : ByteArray} {pc nL : Nat} {ls : Array Slot} {rest : List Value} {w : WV} {σ : Mem} {h : Nat} {o1 : Nat} {σ1 : Mem} {r : Int32} (S : CallFix p m c cc nL s args gtbl RX6) (hK : KS LC w s) (hR : Rp EC LC w σ H) (hS : va_S (AW LC w) s.heap H locs) (hh : h ∈ pileL) (ho1 : o1 ∈ standL) (h0 : f3_pop σ h o1 = some (σ1, r)) (hf : cells + 0 ≤ R.cells ∧ slots + 0 ≤ R.slots) (hRm : rm3_pop.frames + 1 ≤ R.frames ∧ 8 + (2 + 11) + rm3_pop.locals ≤ R.locals) (hl : ls.size = nL) (hW : (rest.map fun v => v.category).sum ≤ 8) (hdg : decode cc pc = .ok (.invokevirtual 189, 3)) (kk : ∀ (H1 : Heap) (locs1 : List Loc), Rp EC LC w σ1 H1 → va_S (AW LC w) s.heap H1 locs1 → W p l e R s m args below meth c H1 locs1 cells slots Q (F0 m (pc + 3) ls (.int r :: rest))) : W p l e R s m args below meth c H locs cells slots Q (F0 m pc ls (.ref (w.2.2 o1) :: .ref (w.2.2 h) :: rest)) := r_end hS (run_V (n := 1) (As := [.ref (w.2.2 o1)]) S hK hR (ok_3 _ hh) (eC_3 _ hh w _) rfl (gw_V (gt_at 785 (by decide +kernel) (by decide +kernel)) (gt_at 786 (by decide +kernel) (by decide +kernel)) (gt_at 787 (by decide +kernel) (by decide +kernel)) (gt_at 81 (by decide +kernel) (by decide +kernel)) (gt_at 788 (by decide +kernel) (by decide +kernel))) (by decide +kernel) rfl (c3_pop l hh ho1 h0) ⟨rfl, rfl⟩ hRm hf hl rfl hW hdg) kk
/-! FourTenGates$Stand.begin(LFourTenGates$Pairs;)V -/
abbrev rm4_begin : Room := { frames := 3, cells := 0, slots := 0, locals := 64 }
theorem d4_begin_0 : decode cX4_begin 0 = .ok (.aload_n 0, 1) := by decide +kernel
theorem d4_begin_1 : decode cX4_begin 1 = .ok (.getfield 14, 3) := by decide +kernel
theorem d4_begin_4 : decode cX4_begin 4 = .ok (.aload_n 1, 1) := by decide +kernel
theorem d4_begin_5 : decode cX4_begin 5 = .ok (.invokevirtual 24, 3) := by decide +kernel
theorem d4_begin_8 : decode cX4_begin 8 = .ok (.iconst 0, 1) := by decide +kernel
theorem d4_begin_9 : decode cX4_begin 9 = .ok (.istore_n 2, 1) := by decide +kernel
theorem d4_begin_10 : decode cX4_begin 10 = .ok (.iload_n 2, 1) := by decide +kernel
theorem d4_begin_11 : decode cX4_begin 11 = .ok (.bipush 6, 2) := by decide +kernel
theorem d4_begin_13 : decode cX4_begin 13 = .ok (.if_icmp .ge 16, 3) := by decide +kernel
theorem d4_begin_16 : decode cX4_begin 16 = .ok (.aload_n 0, 1) := by decide +kernel
theorem d4_begin_17 : decode cX4_begin 17 = .ok (.getfield 20, 3) := by decide +kernel
theorem d4_begin_20 : decode cX4_begin 20 = .ok (.iload_n 2, 1) := by decide +kernel
theorem d4_begin_21 : decode cX4_begin 21 = .ok (.iconst 0, 1) := by decide +kernel
theorem d4_begin_22 : decode cX4_begin 22 = .ok (.iastore, 1) := by decide +kernel
theorem d4_begin_23 : decode cX4_begin 23 = .ok (.iinc 2 1, 3) := by decide +kernel
theorem d4_begin_26 : decode cX4_begin 26 = .ok (.goto (-16), 3) := by decide +kernel
theorem d4_begin_29 : decode cX4_begin 29 = .ok (.return_, 1) := by decide +kernel
def f4_begin_b10 (h : Nat) (o1 : Nat) : Nat → Mem → Int32 → Option Mem
  | 0, _, _ => none
  | n + 1, σ, x2 => if 6 ≤ x2 then some σ else if ¬ (x2 < 0 ∨ 6 ≤ x2.toNatClampNeg) then (bm (mu σ (h + 4) x2.toNatClampNeg 0) fun σ3 => f4_begin_b10 h o1 n σ3 (x2 + 1)) else none
set_option maxHeartbeats 4000000 in
set_option maxRecDepth 100000 in
theorem t4_begin_b10 {p : Program} {l : Launch} {e : Env} {s : State} {m : MethodId} {args : Array Value} {below : List Frame} {meth : Method} {c : Code} {w : WV} {h : Nat} {o1 : Nat} {σ' : Mem} (S : CallFix p m c cX4_begin 3 s args gtbl RX4) (hr : meth.sig.returnType = none) (hlk : meth.locks = false) (hK : KS LC w s) (hh : h ∈ standL) (ho1 : o1 ∈ pairsL) : ∀ (n : Nat), ∀ (σ : Mem) (x2 : Int32), f4_begin_b10 h o1 n σ x2 = some σ' → ∀ (H : Heap) (locs : List Loc), Rp EC LC w σ H → va_S (AW LC w) s.heap H locs → ∀ (ls : Array Slot), lv_has ls 3 [(0, .ref (w.2.2 h)), (2, .int x2)] → W p l e rm4_begin s m args below meth c H locs 0 0 (MQ below (Qw EC LC w σ' none) args s 0 0 (AW LC w)) (F0 m 10 ls []) := by
  obtain ⟨hx, hb, hml, hown, hts⟩ := id S
  intro n
  induction n with
  | zero =>
    intro σ x2 h0
    cases (show none = _ from h0)
  | succ n ih =>
    intro σ x2 h0 H locs hR hS ls hl
    rw [f4_begin_b10] at h0
    refine lv_iload_n hx hb d4_begin_10 rfl (lv_at hl 1 rfl) ?_
    refine lv_bipush (v := 6) hx hb d4_begin_11 (by decide) ?_
    refine lv_icmp_ge (tgt := 29) hx hb d4_begin_13 (by decide) (fun hc1 => ?_) (fun hc1 => ?_)
    · have h0 := og_t hc1 h0
      exact q_vret S hr hlk hR hS h0 d4_begin_29
    · have h0 := og_f hc1 h0
      refine lv_aload_n hx hb d4_begin_16 rfl (lv_at hl 0 rfl) ?_
      refine g4_20 S hK hR hh rfl d4_begin_17 ?_
      refine lv_iload_n hx hb d4_begin_20 rfl (lv_at hl 1 rfl) ?_
      refine lv_iconst (v := 0) hx hb d4_begin_21 (by decide) ?_
      obtain ⟨hi2, h0⟩ := og_if h0
      obtain ⟨σ3, hm3, h0⟩ := og_m h0
      refine q_st S hK hR hS (oa_4_1 _ hh) (ea_4_1 _ hh w) hi2 rfl hm3 d4_begin_22 (fun H locs hR hS => ?_)
      refine lv_iinc (v := x2 + 1) (lv' := [(2, .int (x2 + 1)), (0, .ref (w.2.2 h))]) hx hb d4_begin_23 hl (k := 1) rfl (ii1 _) (by decide) rfl (fun ls hl => ?_)
      refine lv_goto (tgt := 10) hx hb d4_begin_26 (by decide) ?_
      exact ih σ3 (x2 + 1) h0 _ _ hR hS _ (lv_sub hl [1, 0] rfl)
def f4_begin (σ : Mem) (h : Nat) (o1 : Nat) : Option Mem := Option.bind (f2_copy σ (h + 1) o1) fun σ1 => f4_begin_b10 h o1 1000 σ1 0
set_option maxHeartbeats 4000000 in
set_option maxRecDepth 100000 in
theorem c4_begin (l : Launch) {w : WV} {σ : Mem} {h : Nat} {o1 : Nat} {σ' : Mem} (hh : h ∈ standL) (ho1 : o1 ∈ pairsL) (h0 : f4_begin σ h o1 = some σ') : Met l yX4_begin (wy yX4_begin cX4_begin 3 none) rm4_begin (Pw EC LC w [.ref (w.2.2 h), .ref (w.2.2 o1)] σ) (Qw EC LC w σ' none) 0 0 (AW LC w) := by
  refine mk_met (by decide) (Nat.le_of_ble_eq_true rfl) ?_
  intro p e s m below meth c S hr hlk hK hR ls hl
  obtain ⟨hx, hb, hml, hown, hts⟩ := id S
  have hl : lv_has ls 3 [(0, .ref (w.2.2 h)), (1, .ref (w.2.2 o1))] := hl
  have hS : va_S (AW LC w) s.heap s.heap [] := va_S.rf
  unfold f4_begin at h0
  refine lv_aload_n hx hb d4_begin_0 rfl (lv_at hl 0 rfl) ?_
  refine g4_14 S hK hR hh rfl d4_begin_1 ?_
  refine lv_aload_n hx hb d4_begin_4 rfl (lv_at hl 1 rfl) ?_
  obtain ⟨σ1, hr1, h0⟩ := og_b h0
  refine k4_24 S hK hR hS (in_4_0 _ hh) ho1 hr1 ⟨Nat.zero_le _, Nat.zero_le _⟩ ⟨Nat.le_of_ble_eq_true rfl, Nat.le_of_ble_eq_true rfl⟩ hl.1 (Nat.le_of_ble_eq_true rfl) d4_begin_5 (fun H locs hR hS => ?_)
  refine lv_iconst (v := 0) hx hb d4_begin_8 (by decide) ?_
  refine lv_istore_n (lv' := [(2, .int 0), (0, .ref (w.2.2 h)), (1, .ref (w.2.2 o1))]) hx hb d4_begin_9 rfl hl (by decide) rfl (fun ls hl => ?_)
  exact t4_begin_b10 S hr hlk hK hh ho1 1000 σ1 0 h0 _ _ hR hS _ (lv_sub hl [1, 0] rfl)
set_option maxHeartbeats 4000000 in
set_option maxRecDepth 100000 in
theorem k6_251 {p : Program} {l : Launch} {e : Env} {R : Room} {s : State} {m : MethodId} {args : Array Value} {below : List Frame} {meth : Method} {c : Code} {H : Heap} {locs : List Loc} {cells slots : Nat} {Q : State → Prop} {cc : ByteArray} {pc nL : Nat} {ls : Array Slot} {rest : List Value} {w : WV} {σ : Mem} {h : Nat} {o1 : Nat} {σ1 : Mem} (S : CallFix p m c cc nL s args gtbl RX6) (hK : KS LC w s) (hR : Rp EC LC w σ H) (hS : va_S (AW LC w) s.heap H locs) (hh : h ∈ standL) (ho1 : o1 ∈ pairsL) (h0 : f4_begin σ h o1 = some σ1) (hf : cells + 0 ≤ R.cells ∧ slots + 0 ≤ R.slots) (hRm : rm4_begin.frames + 1 ≤ R.frames ∧ 8 + (3 + 11) + rm4_begin.locals ≤ R.locals) (hl : ls.size = nL) (hW : (rest.map fun v => v.category).sum ≤ 8) (hdg : decode cc pc = .ok (.invokevirtual 251, 3)) (kk : ∀ (H1 : Heap) (locs1 : List Loc), Rp EC LC w σ1 H1 → va_S (AW LC w) s.heap H1 locs1 → W p l e R s m args below meth c H1 locs1 cells slots Q (F0 m (pc + 3) ls (rest))) : W p l e R s m args below meth c H locs cells slots Q (F0 m pc ls (.ref (w.2.2 o1) :: .ref (w.2.2 h) :: rest)) := r_end hS (run_V (n := 1) (As := [.ref (w.2.2 o1)]) S hK hR (ok_4 _ hh) (eC_4 _ hh w _) rfl (gw_V (gt_at 451 (by decide +kernel) (by decide +kernel)) (gt_at 452 (by decide +kernel) (by decide +kernel)) (gt_at 453 (by decide +kernel) (by decide +kernel)) (gt_at 79 (by decide +kernel) (by decide +kernel)) (gt_at 454 (by decide +kernel) (by decide +kernel))) (by decide +kernel) rfl (c4_begin l hh ho1 h0) ⟨rfl, rfl⟩ hRm hf hl rfl hW hdg) kk
/-! FourTenGates$Stand.makeLate(II)V -/
abbrev rm4_makeLate : Room := { frames := 1, cells := 0, slots := 0, locals := 22 }
theorem d4_makeLate_0 : decode cX4_makeLate 0 = .ok (.iload_n 1, 1) := by decide +kernel
theorem d4_makeLate_1 : decode cX4_makeLate 1 = .ok (.iconst 0, 1) := by decide +kernel
theorem d4_makeLate_2 : decode cX4_makeLate 2 = .ok (.iconst 5, 1) := by decide +kernel
theorem d4_makeLate_3 : decode cX4_makeLate 3 = .ok (.invokestatic 32, 3) := by decide +kernel
theorem d4_makeLate_6 : decode cX4_makeLate 6 = .ok (.ifCond .eq 10, 3) := by decide +kernel
theorem d4_makeLate_9 : decode cX4_makeLate 9 = .ok (.aload_n 0, 1) := by decide +kernel
theorem d4_makeLate_10 : decode cX4_makeLate 10 = .ok (.getfield 20, 3) := by decide +kernel
theorem d4_makeLate_13 : decode cX4_makeLate 13 = .ok (.iload_n 1, 1) := by decide +kernel
theorem d4_makeLate_14 : decode cX4_makeLate 14 = .ok (.iload_n 2, 1) := by decide +kernel
theorem d4_makeLate_15 : decode cX4_makeLate 15 = .ok (.iastore, 1) := by decide +kernel
theorem d4_makeLate_16 : decode cX4_makeLate 16 = .ok (.return_, 1) := by decide +kernel
def f4_makeLate (σ : Mem) (h : Nat) (x1 : Int32) (x2 : Int32) : Option Mem := Option.bind (f6_between x1 0 5) fun r1 => if r1 = 0 then some σ else if ¬ (x1 < 0 ∨ 6 ≤ x1.toNatClampNeg) then (bm (mu σ (h + 4) x1.toNatClampNeg x2) fun σ4 => some σ4) else none
set_option maxHeartbeats 4000000 in
set_option maxRecDepth 100000 in
theorem c4_makeLate (l : Launch) {w : WV} {σ : Mem} {h : Nat} {x1 : Int32} {x2 : Int32} {σ' : Mem} (hh : h ∈ standL) (h0 : f4_makeLate σ h x1 x2 = some σ') : Met l yX4_makeLate (wy yX4_makeLate cX4_makeLate 3 none) rm4_makeLate (Pw EC LC w [.ref (w.2.2 h), .int x1, .int x2] σ) (Qw EC LC w σ' none) 0 0 (AW LC w) := by
  refine mk_met (by decide) (Nat.le_of_ble_eq_true rfl) ?_
  intro p e s m below meth c S hr hlk hK hR ls hl
  obtain ⟨hx, hb, hml, hown, hts⟩ := id S
  have hl : lv_has ls 3 [(0, .ref (w.2.2 h)), (1, .int x1), (2, .int x2)] := hl
  have hS : va_S (AW LC w) s.heap s.heap [] := va_S.rf
  unfold f4_makeLate at h0
  refine lv_iload_n hx hb d4_makeLate_0 rfl (lv_at hl 1 rfl) ?_
  refine lv_iconst (v := 0) hx hb d4_makeLate_1 (by decide) ?_
  refine lv_iconst (v := 5) hx hb d4_makeLate_2 (by decide) ?_
  obtain ⟨r1, hr1, h0⟩ := og_b h0
  refine k4_32 S hK  hr1 ⟨Nat.zero_le _, Nat.zero_le _⟩ ⟨Nat.le_of_ble_eq_true rfl, Nat.le_of_ble_eq_true rfl⟩ hl.1 (Nat.le_of_ble_eq_true rfl) d4_makeLate_3 ?_
  refine lv_if_eq (tgt := 16) hx hb d4_makeLate_6 (by decide) (fun hc2 => ?_) (fun hc2 => ?_)
  · have h0 := og_t hc2 h0
    exact q_vret S hr hlk hR hS h0 d4_makeLate_16
  · have h0 := og_f hc2 h0
    refine lv_aload_n hx hb d4_makeLate_9 rfl (lv_at hl 0 rfl) ?_
    refine g4_20 S hK hR hh rfl d4_makeLate_10 ?_
    refine lv_iload_n hx hb d4_makeLate_13 rfl (lv_at hl 1 rfl) ?_
    refine lv_iload_n hx hb d4_makeLate_14 rfl (lv_at hl 2 rfl) ?_
    obtain ⟨hi3, h0⟩ := og_if h0
    obtain ⟨σ4, hm4, h0⟩ := og_m h0
    refine q_st S hK hR hS (oa_4_1 _ hh) (ea_4_1 _ hh w) hi3 rfl hm4 d4_makeLate_15 (fun H locs hR hS => ?_)
    exact q_vret S hr hlk hR hS h0 d4_makeLate_16
set_option maxHeartbeats 4000000 in
set_option maxRecDepth 100000 in
theorem k6_170 {p : Program} {l : Launch} {e : Env} {R : Room} {s : State} {m : MethodId} {args : Array Value} {below : List Frame} {meth : Method} {c : Code} {H : Heap} {locs : List Loc} {cells slots : Nat} {Q : State → Prop} {cc : ByteArray} {pc nL : Nat} {ls : Array Slot} {rest : List Value} {w : WV} {σ : Mem} {h : Nat} {x1 : Int32} {x2 : Int32} {σ1 : Mem} (S : CallFix p m c cc nL s args gtbl RX6) (hK : KS LC w s) (hR : Rp EC LC w σ H) (hS : va_S (AW LC w) s.heap H locs) (hh : h ∈ standL) (h0 : f4_makeLate σ h x1 x2 = some σ1) (hf : cells + 0 ≤ R.cells ∧ slots + 0 ≤ R.slots) (hRm : rm4_makeLate.frames + 1 ≤ R.frames ∧ 8 + (3 + 11) + rm4_makeLate.locals ≤ R.locals) (hl : ls.size = nL) (hW : (rest.map fun v => v.category).sum ≤ 8) (hdg : decode cc pc = .ok (.invokevirtual 170, 3)) (kk : ∀ (H1 : Heap) (locs1 : List Loc), Rp EC LC w σ1 H1 → va_S (AW LC w) s.heap H1 locs1 → W p l e R s m args below meth c H1 locs1 cells slots Q (F0 m (pc + 3) ls (rest))) : W p l e R s m args below meth c H locs cells slots Q (F0 m pc ls (.int x2 :: .int x1 :: .ref (w.2.2 h) :: rest)) := r_end hS (run_V (n := 2) (As := [.int x1, .int x2]) S hK hR (ok_4 _ hh) (eC_4 _ hh w _) rfl (gw_V (gt_at 761 (by decide +kernel) (by decide +kernel)) (gt_at 762 (by decide +kernel) (by decide +kernel)) (gt_at 763 (by decide +kernel) (by decide +kernel)) (gt_at 79 (by decide +kernel) (by decide +kernel)) (gt_at 764 (by decide +kernel) (by decide +kernel))) (by decide +kernel) rfl (c4_makeLate l hh h0) ⟨rfl, rfl⟩ hRm hf hl rfl hW hdg) kk
/-! FourTenGates$Text.size()I -/
abbrev rm5_size : Room := { frames := 0, cells := 0, slots := 0, locals := 0 }
theorem d5_size_0 : decode cX5_size 0 = .ok (.aload_n 0, 1) := by decide +kernel
theorem d5_size_1 : decode cX5_size 1 = .ok (.getfield 15, 3) := by decide +kernel
theorem d5_size_4 : decode cX5_size 4 = .ok (.ireturn, 1) := by decide +kernel
def f5_size (σ : Mem) (h : Nat) : Option Int32 := some (σ h 1)
set_option maxHeartbeats 4000000 in
set_option maxRecDepth 100000 in
theorem c5_size (l : Launch) {w : WV} {σ : Mem} {h : Nat} {r : Int32} (hh : h ∈ textL) (h0 : f5_size σ h = some r) : Met l yX5_size (wy yX5_size cX5_size 1 (some .int)) rm5_size (Pw EC LC w [.ref (w.2.2 h)] σ) (Qp (.int r)) 0 0 (fun _ => False) := by
  refine mk_met (by decide) (Nat.le_of_ble_eq_true rfl) ?_
  intro p e s m below meth c S hr hlk hK hR ls hl
  obtain ⟨hx, hb, hml, hown, hts⟩ := id S
  have hl : lv_has ls 1 [(0, .ref (w.2.2 h))] := hl
  unfold f5_size at h0
  refine lv_aload_n hx hb d5_size_0 rfl (lv_at hl 0 rfl) ?_
  refine g5_15 S hK hR hh d5_size_1 ?_
  exact q_ipure S hr hlk h0 d5_size_4
set_option maxHeartbeats 4000000 in
set_option maxRecDepth 100000 in
theorem k6_106 {p : Program} {l : Launch} {e : Env} {R : Room} {s : State} {m : MethodId} {args : Array Value} {below : List Frame} {meth : Method} {c : Code} {H : Heap} {locs : List Loc} {cells slots : Nat} {Q : State → Prop} {cc : ByteArray} {pc nL : Nat} {ls : Array Slot} {rest : List Value} {w : WV} {σ : Mem} {h : Nat} {r : Int32} (S : CallFix p m c cc nL s args gtbl RX6) (hK : KS LC w s) (hR : Rp EC LC w σ H) (hh : h ∈ textL) (h0 : f5_size σ h = some r) (hf : cells + 0 ≤ R.cells ∧ slots + 0 ≤ R.slots) (hRm : rm5_size.frames + 1 ≤ R.frames ∧ 8 + (1 + 11) + rm5_size.locals ≤ R.locals) (hl : ls.size = nL) (hW : (rest.map fun v => v.category).sum ≤ 8) (hdg : decode cc pc = .ok (.invokevirtual 106, 3)) (kk : W p l e R s m args below meth c H locs cells slots Q (F0 m (pc + 3) ls (.int r :: rest))) : W p l e R s m args below meth c H locs cells slots Q (F0 m pc ls (.ref (w.2.2 h) :: rest)) := r_endp (run_V (n := 0) (As := []) S hK hR (ok_5 _ hh) (eC_5 _ hh w _) rfl (gw_V (gt_at 518 (by decide +kernel) (by decide +kernel)) (gt_at 519 (by decide +kernel) (by decide +kernel)) (gt_at 520 (by decide +kernel) (by decide +kernel)) (gt_at 75 (by decide +kernel) (by decide +kernel)) (gt_at 521 (by decide +kernel) (by decide +kernel))) (by decide +kernel) rfl (c5_size l hh h0) ⟨rfl, rfl⟩ hRm hf hl rfl hW hdg) kk
/-! FourTenGates$Text.add(I)Z -/
abbrev rm5_add : Room := { frames := 0, cells := 0, slots := 0, locals := 0 }
theorem d5_add_0 : decode cX5_add 0 = .ok (.aload_n 0, 1) := by decide +kernel
theorem d5_add_1 : decode cX5_add 1 = .ok (.getfield 15, 3) := by decide +kernel
theorem d5_add_4 : decode cX5_add 4 = .ok (.sipush 200, 3) := by decide +kernel
theorem d5_add_7 : decode cX5_add 7 = .ok (.if_icmp .lt 5, 3) := by decide +kernel
theorem d5_add_10 : decode cX5_add 10 = .ok (.iconst 0, 1) := by decide +kernel
theorem d5_add_11 : decode cX5_add 11 = .ok (.ireturn, 1) := by decide +kernel
theorem d5_add_12 : decode cX5_add 12 = .ok (.aload_n 0, 1) := by decide +kernel
theorem d5_add_13 : decode cX5_add 13 = .ok (.getfield 9, 3) := by decide +kernel
theorem d5_add_16 : decode cX5_add 16 = .ok (.aload_n 0, 1) := by decide +kernel
theorem d5_add_17 : decode cX5_add 17 = .ok (.getfield 15, 3) := by decide +kernel
theorem d5_add_20 : decode cX5_add 20 = .ok (.iload_n 1, 1) := by decide +kernel
theorem d5_add_21 : decode cX5_add 21 = .ok (.iastore, 1) := by decide +kernel
theorem d5_add_22 : decode cX5_add 22 = .ok (.aload_n 0, 1) := by decide +kernel
theorem d5_add_23 : decode cX5_add 23 = .ok (.dup, 1) := by decide +kernel
theorem d5_add_24 : decode cX5_add 24 = .ok (.getfield 15, 3) := by decide +kernel
theorem d5_add_27 : decode cX5_add 27 = .ok (.iconst 1, 1) := by decide +kernel
theorem d5_add_28 : decode cX5_add 28 = .ok (.iadd, 1) := by decide +kernel
theorem d5_add_29 : decode cX5_add 29 = .ok (.putfield 15, 3) := by decide +kernel
theorem d5_add_32 : decode cX5_add 32 = .ok (.iconst 1, 1) := by decide +kernel
theorem d5_add_33 : decode cX5_add 33 = .ok (.ireturn, 1) := by decide +kernel
def f5_add (σ : Mem) (h : Nat) (x1 : Int32) : Option (Mem × Int32) := if (σ h 1) < 200 then if ¬ (σ h 1 < 0 ∨ 200 ≤ (σ h 1).toNatClampNeg) then (bm (mu σ (h + 1) ((σ h 1).toNatClampNeg) x1) fun σ3 => bm (mu σ3 h 1 ((σ3 h 1) + 1)) fun σ4 => some (σ4, 1)) else none else some (σ, 0)
set_option maxHeartbeats 4000000 in
set_option maxRecDepth 100000 in
theorem c5_add (l : Launch) {w : WV} {σ : Mem} {h : Nat} {x1 : Int32} {σ' : Mem} {r : Int32} (hh : h ∈ textL) (h0 : f5_add σ h x1 = some (σ', r)) : Met l yX5_add (wy yX5_add cX5_add 2 (some .boolean)) rm5_add (Pw EC LC w [.ref (w.2.2 h), .int x1] σ) (Qw EC LC w σ' (some (.int r))) 0 0 (AW LC w) := by
  refine mk_met (by decide) (Nat.le_of_ble_eq_true rfl) ?_
  intro p e s m below meth c S hr hlk hK hR ls hl
  obtain ⟨hx, hb, hml, hown, hts⟩ := id S
  have hl : lv_has ls 2 [(0, .ref (w.2.2 h)), (1, .int x1)] := hl
  have hS : va_S (AW LC w) s.heap s.heap [] := va_S.rf
  unfold f5_add at h0
  refine lv_aload_n hx hb d5_add_0 rfl (lv_at hl 0 rfl) ?_
  refine g5_15 S hK hR hh d5_add_1 ?_
  refine lv_sipush (v := 200) hx hb d5_add_4 (by decide) ?_
  refine lv_icmp_lt (tgt := 12) hx hb d5_add_7 (by decide) (fun hc1 => ?_) (fun hc1 => ?_)
  · have h0 := og_t hc1 h0
    refine lv_aload_n hx hb d5_add_12 rfl (lv_at hl 0 rfl) ?_
    refine g5_9 S hK hR hh rfl d5_add_13 ?_
    refine lv_aload_n hx hb d5_add_16 rfl (lv_at hl 0 rfl) ?_
    refine g5_15 S hK hR hh d5_add_17 ?_
    refine lv_iload_n hx hb d5_add_20 rfl (lv_at hl 1 rfl) ?_
    obtain ⟨hi2, h0⟩ := og_if h0
    obtain ⟨σ3, hm3, h0⟩ := og_m h0
    refine q_st S hK hR hS (oa_5_0 _ hh) (ea_5_0 _ hh w) hi2 rfl hm3 d5_add_21 (fun H locs hR hS => ?_)
    refine lv_aload_n hx hb d5_add_22 rfl (lv_at hl 0 rfl) ?_
    refine lv_dup hx hb d5_add_23 rfl ?_
    refine g5_15 S hK hR hh d5_add_24 ?_
    refine lv_iconst (v := 1) hx hb d5_add_27 (by decide) ?_
    refine lv_iadd hx hb d5_add_28 ?_
    obtain ⟨σ4, hm4, h0⟩ := og_m h0
    refine u5_15 S hK hR hS hh hm4 d5_add_29 (fun H locs hR hS => ?_)
    refine lv_iconst (v := 1) hx hb d5_add_32 (by decide) ?_
    exact q_zret S hr hlk hR hS (Or.inr rfl) h0 d5_add_33
  · have h0 := og_f hc1 h0
    refine lv_iconst (v := 0) hx hb d5_add_10 (by decide) ?_
    exact q_zret S hr hlk hR hS (Or.inl rfl) h0 d5_add_11
set_option maxHeartbeats 4000000 in
set_option maxRecDepth 100000 in
theorem k6_91 {p : Program} {l : Launch} {e : Env} {R : Room} {s : State} {m : MethodId} {args : Array Value} {below : List Frame} {meth : Method} {c : Code} {H : Heap} {locs : List Loc} {cells slots : Nat} {Q : State → Prop} {cc : ByteArray} {pc nL : Nat} {ls : Array Slot} {rest : List Value} {w : WV} {σ : Mem} {h : Nat} {x1 : Int32} {σ1 : Mem} {r : Int32} (S : CallFix p m c cc nL s args gtbl RX6) (hK : KS LC w s) (hR : Rp EC LC w σ H) (hS : va_S (AW LC w) s.heap H locs) (hh : h ∈ textL) (h0 : f5_add σ h x1 = some (σ1, r)) (hf : cells + 0 ≤ R.cells ∧ slots + 0 ≤ R.slots) (hRm : rm5_add.frames + 1 ≤ R.frames ∧ 8 + (2 + 11) + rm5_add.locals ≤ R.locals) (hl : ls.size = nL) (hW : (rest.map fun v => v.category).sum ≤ 8) (hdg : decode cc pc = .ok (.invokevirtual 91, 3)) (kk : ∀ (H1 : Heap) (locs1 : List Loc), Rp EC LC w σ1 H1 → va_S (AW LC w) s.heap H1 locs1 → W p l e R s m args below meth c H1 locs1 cells slots Q (F0 m (pc + 3) ls (.int r :: rest))) : W p l e R s m args below meth c H locs cells slots Q (F0 m pc ls (.int x1 :: .ref (w.2.2 h) :: rest)) := r_end hS (run_V (n := 1) (As := [.int x1]) S hK hR (ok_5 _ hh) (eC_5 _ hh w _) rfl (gw_V (gt_at 325 (by decide +kernel) (by decide +kernel)) (gt_at 326 (by decide +kernel) (by decide +kernel)) (gt_at 327 (by decide +kernel) (by decide +kernel)) (gt_at 75 (by decide +kernel) (by decide +kernel)) (gt_at 328 (by decide +kernel) (by decide +kernel))) (by decide +kernel) rfl (c5_add l hh h0) ⟨rfl, rfl⟩ hRm hf hl rfl hW hdg) kk
/-! FourTenGates$Text.empty()I -/
abbrev rm5_empty : Room := { frames := 0, cells := 0, slots := 0, locals := 0 }
theorem d5_empty_0 : decode cX5_empty 0 = .ok (.aload_n 0, 1) := by decide +kernel
theorem d5_empty_1 : decode cX5_empty 1 = .ok (.getfield 15, 3) := by decide +kernel
theorem d5_empty_4 : decode cX5_empty 4 = .ok (.istore_n 1, 1) := by decide +kernel
theorem d5_empty_5 : decode cX5_empty 5 = .ok (.aload_n 0, 1) := by decide +kernel
theorem d5_empty_6 : decode cX5_empty 6 = .ok (.iconst 0, 1) := by decide +kernel
theorem d5_empty_7 : decode cX5_empty 7 = .ok (.putfield 15, 3) := by decide +kernel
theorem d5_empty_10 : decode cX5_empty 10 = .ok (.iload_n 1, 1) := by decide +kernel
theorem d5_empty_11 : decode cX5_empty 11 = .ok (.ireturn, 1) := by decide +kernel
def f5_empty (σ : Mem) (h : Nat) : Option (Mem × Int32) := bm (mu σ h 1 0) fun σ1 => some (σ1, σ h 1)
set_option maxHeartbeats 4000000 in
set_option maxRecDepth 100000 in
theorem c5_empty (l : Launch) {w : WV} {σ : Mem} {h : Nat} {σ' : Mem} {r : Int32} (hh : h ∈ textL) (h0 : f5_empty σ h = some (σ', r)) : Met l yX5_empty (wy yX5_empty cX5_empty 2 (some .int)) rm5_empty (Pw EC LC w [.ref (w.2.2 h)] σ) (Qw EC LC w σ' (some (.int r))) 0 0 (AW LC w) := by
  refine mk_met (by decide) (Nat.le_of_ble_eq_true rfl) ?_
  intro p e s m below meth c S hr hlk hK hR ls hl
  obtain ⟨hx, hb, hml, hown, hts⟩ := id S
  have hl : lv_has ls 2 [(0, .ref (w.2.2 h))] := hl
  have hS : va_S (AW LC w) s.heap s.heap [] := va_S.rf
  unfold f5_empty at h0
  refine lv_aload_n hx hb d5_empty_0 rfl (lv_at hl 0 rfl) ?_
  refine g5_15 S hK hR hh d5_empty_1 ?_
  refine lv_istore_n (lv' := [(1, .int (σ h 1)), (0, .ref (w.2.2 h))]) hx hb d5_empty_4 rfl hl (by decide) rfl (fun ls hl => ?_)
  refine lv_aload_n hx hb d5_empty_5 rfl (lv_at hl 1 rfl) ?_
  refine lv_iconst (v := 0) hx hb d5_empty_6 (by decide) ?_
  obtain ⟨σ1, hm1, h0⟩ := og_m h0
  refine u5_15 S hK hR hS hh hm1 d5_empty_7 (fun H locs hR hS => ?_)
  refine lv_iload_n hx hb d5_empty_10 rfl (lv_at hl 0 rfl) ?_
  exact q_iret S hr hlk hR hS h0 d5_empty_11
set_option maxHeartbeats 4000000 in
set_option maxRecDepth 100000 in
theorem k6_99 {p : Program} {l : Launch} {e : Env} {R : Room} {s : State} {m : MethodId} {args : Array Value} {below : List Frame} {meth : Method} {c : Code} {H : Heap} {locs : List Loc} {cells slots : Nat} {Q : State → Prop} {cc : ByteArray} {pc nL : Nat} {ls : Array Slot} {rest : List Value} {w : WV} {σ : Mem} {h : Nat} {σ1 : Mem} {r : Int32} (S : CallFix p m c cc nL s args gtbl RX6) (hK : KS LC w s) (hR : Rp EC LC w σ H) (hS : va_S (AW LC w) s.heap H locs) (hh : h ∈ textL) (h0 : f5_empty σ h = some (σ1, r)) (hf : cells + 0 ≤ R.cells ∧ slots + 0 ≤ R.slots) (hRm : rm5_empty.frames + 1 ≤ R.frames ∧ 8 + (2 + 11) + rm5_empty.locals ≤ R.locals) (hl : ls.size = nL) (hW : (rest.map fun v => v.category).sum ≤ 8) (hdg : decode cc pc = .ok (.invokevirtual 99, 3)) (kk : ∀ (H1 : Heap) (locs1 : List Loc), Rp EC LC w σ1 H1 → va_S (AW LC w) s.heap H1 locs1 → W p l e R s m args below meth c H1 locs1 cells slots Q (F0 m (pc + 3) ls (.int r :: rest))) : W p l e R s m args below meth c H locs cells slots Q (F0 m pc ls (.ref (w.2.2 h) :: rest)) := r_end hS (run_V (n := 0) (As := []) S hK hR (ok_5 _ hh) (eC_5 _ hh w _) rfl (gw_V (gt_at 469 (by decide +kernel) (by decide +kernel)) (gt_at 470 (by decide +kernel) (by decide +kernel)) (gt_at 471 (by decide +kernel) (by decide +kernel)) (gt_at 75 (by decide +kernel) (by decide +kernel)) (gt_at 472 (by decide +kernel) (by decide +kernel))) (by decide +kernel) rfl (c5_empty l hh h0) ⟨rfl, rfl⟩ hRm hf hl rfl hW hdg) kk
/-! FourTenGates$Text.letterAt(I)I -/
abbrev rm5_letterAt : Room := { frames := 0, cells := 0, slots := 0, locals := 0 }
theorem d5_letterAt_0 : decode cX5_letterAt 0 = .ok (.iload_n 1, 1) := by decide +kernel
theorem d5_letterAt_1 : decode cX5_letterAt 1 = .ok (.ifCond .lt 20, 3) := by decide +kernel
theorem d5_letterAt_4 : decode cX5_letterAt 4 = .ok (.iload_n 1, 1) := by decide +kernel
theorem d5_letterAt_5 : decode cX5_letterAt 5 = .ok (.aload_n 0, 1) := by decide +kernel
theorem d5_letterAt_6 : decode cX5_letterAt 6 = .ok (.getfield 15, 3) := by decide +kernel
theorem d5_letterAt_9 : decode cX5_letterAt 9 = .ok (.if_icmp .ge 12, 3) := by decide +kernel
theorem d5_letterAt_12 : decode cX5_letterAt 12 = .ok (.aload_n 0, 1) := by decide +kernel
theorem d5_letterAt_13 : decode cX5_letterAt 13 = .ok (.getfield 9, 3) := by decide +kernel
theorem d5_letterAt_16 : decode cX5_letterAt 16 = .ok (.iload_n 1, 1) := by decide +kernel
theorem d5_letterAt_17 : decode cX5_letterAt 17 = .ok (.iaload, 1) := by decide +kernel
theorem d5_letterAt_18 : decode cX5_letterAt 18 = .ok (.goto 4, 3) := by decide +kernel
theorem d5_letterAt_21 : decode cX5_letterAt 21 = .ok (.iconst 0, 1) := by decide +kernel
theorem d5_letterAt_22 : decode cX5_letterAt 22 = .ok (.ireturn, 1) := by decide +kernel
def f5_letterAt (σ : Mem) (h : Nat) (x1 : Int32) : Option Int32 := if x1 < 0 then some 0 else if (σ h 1) ≤ x1 then some 0 else if ¬ (x1 < 0 ∨ 200 ≤ x1.toNatClampNeg) then some (σ (h + 1) x1.toNatClampNeg) else none
set_option maxHeartbeats 4000000 in
set_option maxRecDepth 100000 in
theorem c5_letterAt (l : Launch) {w : WV} {σ : Mem} {h : Nat} {x1 : Int32} {r : Int32} (hh : h ∈ textL) (h0 : f5_letterAt σ h x1 = some r) : Met l yX5_letterAt (wy yX5_letterAt cX5_letterAt 2 (some .int)) rm5_letterAt (Pw EC LC w [.ref (w.2.2 h), .int x1] σ) (Qp (.int r)) 0 0 (fun _ => False) := by
  refine mk_met (by decide) (Nat.le_of_ble_eq_true rfl) ?_
  intro p e s m below meth c S hr hlk hK hR ls hl
  obtain ⟨hx, hb, hml, hown, hts⟩ := id S
  have hl : lv_has ls 2 [(0, .ref (w.2.2 h)), (1, .int x1)] := hl
  unfold f5_letterAt at h0
  refine lv_iload_n hx hb d5_letterAt_0 rfl (lv_at hl 1 rfl) ?_
  refine lv_if_lt (tgt := 21) hx hb d5_letterAt_1 (by decide) (fun hc1 => ?_) (fun hc1 => ?_)
  · have h0 := og_t hc1 h0
    refine lv_iconst (v := 0) hx hb d5_letterAt_21 (by decide) ?_
    exact q_ipure S hr hlk h0 d5_letterAt_22
  · have h0 := og_f hc1 h0
    refine lv_iload_n hx hb d5_letterAt_4 rfl (lv_at hl 1 rfl) ?_
    refine lv_aload_n hx hb d5_letterAt_5 rfl (lv_at hl 0 rfl) ?_
    refine g5_15 S hK hR hh d5_letterAt_6 ?_
    refine lv_icmp_ge (tgt := 21) hx hb d5_letterAt_9 (by decide) (fun hc2 => ?_) (fun hc2 => ?_)
    · have h0 := og_t hc2 h0
      refine lv_iconst (v := 0) hx hb d5_letterAt_21 (by decide) ?_
      exact q_ipure S hr hlk h0 d5_letterAt_22
    · have h0 := og_f hc2 h0
      refine lv_aload_n hx hb d5_letterAt_12 rfl (lv_at hl 0 rfl) ?_
      refine g5_9 S hK hR hh rfl d5_letterAt_13 ?_
      refine lv_iload_n hx hb d5_letterAt_16 rfl (lv_at hl 1 rfl) ?_
      obtain ⟨hi3, h0⟩ := og_if h0
      refine q_ld (k := x1.toNatClampNeg) S hK hR (oa_5_0 _ hh) (ea_5_0 _ hh w _) hi3 rfl d5_letterAt_17 ?_
      refine lv_goto (tgt := 22) hx hb d5_letterAt_18 (by decide) ?_
      exact q_ipure S hr hlk h0 d5_letterAt_22
set_option maxHeartbeats 4000000 in
set_option maxRecDepth 100000 in
theorem k5_31 {p : Program} {l : Launch} {e : Env} {R : Room} {s : State} {m : MethodId} {args : Array Value} {below : List Frame} {meth : Method} {c : Code} {H : Heap} {locs : List Loc} {cells slots : Nat} {Q : State → Prop} {cc : ByteArray} {pc nL : Nat} {ls : Array Slot} {rest : List Value} {w : WV} {σ : Mem} {h : Nat} {x1 : Int32} {r : Int32} (S : CallFix p m c cc nL s args gtbl RX5) (hK : KS LC w s) (hR : Rp EC LC w σ H) (hh : h ∈ textL) (h0 : f5_letterAt σ h x1 = some r) (hf : cells + 0 ≤ R.cells ∧ slots + 0 ≤ R.slots) (hRm : rm5_letterAt.frames + 1 ≤ R.frames ∧ 8 + (2 + 11) + rm5_letterAt.locals ≤ R.locals) (hl : ls.size = nL) (hW : (rest.map fun v => v.category).sum ≤ 8) (hdg : decode cc pc = .ok (.invokevirtual 31, 3)) (kk : W p l e R s m args below meth c H locs cells slots Q (F0 m (pc + 3) ls (.int r :: rest))) : W p l e R s m args below meth c H locs cells slots Q (F0 m pc ls (.int x1 :: .ref (w.2.2 h) :: rest)) := r_endp (run_V (n := 1) (As := [.int x1]) S hK hR (ok_5 _ hh) (eC_5 _ hh w _) rfl (gw_V (gt_at 349 (by decide +kernel) (by decide +kernel)) (gt_at 351 (by decide +kernel) (by decide +kernel)) (gt_at 2 (by decide +kernel) (by decide +kernel)) (gt_at 75 (by decide +kernel) (by decide +kernel)) (gt_at 352 (by decide +kernel) (by decide +kernel))) (by decide +kernel) rfl (c5_letterAt l hh h0) ⟨rfl, rfl⟩ hRm hf hl rfl hW hdg) kk
/-! FourTenGates$Text.isFigure(I)Z -/
abbrev rm5_isFigure : Room := { frames := 1, cells := 0, slots := 0, locals := 22 }
theorem d5_isFigure_0 : decode cX5_isFigure 0 = .ok (.aload_n 0, 1) := by decide +kernel
theorem d5_isFigure_1 : decode cX5_isFigure 1 = .ok (.iload_n 1, 1) := by decide +kernel
theorem d5_isFigure_2 : decode cX5_isFigure 2 = .ok (.invokevirtual 31, 3) := by decide +kernel
theorem d5_isFigure_5 : decode cX5_isFigure 5 = .ok (.bipush 48, 2) := by decide +kernel
theorem d5_isFigure_7 : decode cX5_isFigure 7 = .ok (.bipush 57, 2) := by decide +kernel
theorem d5_isFigure_9 : decode cX5_isFigure 9 = .ok (.invokestatic 46, 3) := by decide +kernel
theorem d5_isFigure_12 : decode cX5_isFigure 12 = .ok (.ireturn, 1) := by decide +kernel
def f5_isFigure (σ : Mem) (h : Nat) (x1 : Int32) : Option Int32 := Option.bind (f5_letterAt σ h x1) fun r1 => Option.bind (f6_between r1 48 57) fun r2 => if r2 = 0 ∨ r2 = 1 then some r2 else none
set_option maxHeartbeats 4000000 in
set_option maxRecDepth 100000 in
theorem c5_isFigure (l : Launch) {w : WV} {σ : Mem} {h : Nat} {x1 : Int32} {r : Int32} (hh : h ∈ textL) (h0 : f5_isFigure σ h x1 = some r) : Met l yX5_isFigure (wy yX5_isFigure cX5_isFigure 2 (some .boolean)) rm5_isFigure (Pw EC LC w [.ref (w.2.2 h), .int x1] σ) (Qp (.int r)) 0 0 (fun _ => False) := by
  refine mk_met (by decide) (Nat.le_of_ble_eq_true rfl) ?_
  intro p e s m below meth c S hr hlk hK hR ls hl
  obtain ⟨hx, hb, hml, hown, hts⟩ := id S
  have hl : lv_has ls 2 [(0, .ref (w.2.2 h)), (1, .int x1)] := hl
  unfold f5_isFigure at h0
  refine lv_aload_n hx hb d5_isFigure_0 rfl (lv_at hl 0 rfl) ?_
  refine lv_iload_n hx hb d5_isFigure_1 rfl (lv_at hl 1 rfl) ?_
  obtain ⟨r1, hr1, h0⟩ := og_b h0
  refine k5_31 S hK hR hh hr1 ⟨Nat.zero_le _, Nat.zero_le _⟩ ⟨Nat.le_of_ble_eq_true rfl, Nat.le_of_ble_eq_true rfl⟩ hl.1 (Nat.le_of_ble_eq_true rfl) d5_isFigure_2 ?_
  refine lv_bipush (v := 48) hx hb d5_isFigure_5 (by decide) ?_
  refine lv_bipush (v := 57) hx hb d5_isFigure_7 (by decide) ?_
  obtain ⟨r2, hr2, h0⟩ := og_b h0
  refine k5_46 S hK  hr2 ⟨Nat.zero_le _, Nat.zero_le _⟩ ⟨Nat.le_of_ble_eq_true rfl, Nat.le_of_ble_eq_true rfl⟩ hl.1 (Nat.le_of_ble_eq_true rfl) d5_isFigure_9 ?_
  obtain ⟨hb0, h0⟩ := og_if h0
  exact q_zpure S hr hlk hb0 h0 d5_isFigure_12
set_option maxHeartbeats 4000000 in
set_option maxRecDepth 100000 in
theorem k5_42 {p : Program} {l : Launch} {e : Env} {R : Room} {s : State} {m : MethodId} {args : Array Value} {below : List Frame} {meth : Method} {c : Code} {H : Heap} {locs : List Loc} {cells slots : Nat} {Q : State → Prop} {cc : ByteArray} {pc nL : Nat} {ls : Array Slot} {rest : List Value} {w : WV} {σ : Mem} {h : Nat} {x1 : Int32} {r : Int32} (S : CallFix p m c cc nL s args gtbl RX5) (hK : KS LC w s) (hR : Rp EC LC w σ H) (hh : h ∈ textL) (h0 : f5_isFigure σ h x1 = some r) (hf : cells + 0 ≤ R.cells ∧ slots + 0 ≤ R.slots) (hRm : rm5_isFigure.frames + 1 ≤ R.frames ∧ 8 + (2 + 11) + rm5_isFigure.locals ≤ R.locals) (hl : ls.size = nL) (hW : (rest.map fun v => v.category).sum ≤ 8) (hdg : decode cc pc = .ok (.invokevirtual 42, 3)) (kk : W p l e R s m args below meth c H locs cells slots Q (F0 m (pc + 3) ls (.int r :: rest))) : W p l e R s m args below meth c H locs cells slots Q (F0 m pc ls (.int x1 :: .ref (w.2.2 h) :: rest)) := r_endp (run_V (n := 1) (As := [.int x1]) S hK hR (ok_5 _ hh) (eC_5 _ hh w _) rfl (gw_V (gt_at 357 (by decide +kernel) (by decide +kernel)) (gt_at 359 (by decide +kernel) (by decide +kernel)) (gt_at 4 (by decide +kernel) (by decide +kernel)) (gt_at 75 (by decide +kernel) (by decide +kernel)) (gt_at 360 (by decide +kernel) (by decide +kernel))) (by decide +kernel) rfl (c5_isFigure l hh h0) ⟨rfl, rfl⟩ hRm hf hl rfl hW hdg) kk
/-! FourTenGates$Text.readNumber(I)I -/
abbrev rm5_readNumber : Room := { frames := 2, cells := 0, slots := 0, locals := 43 }
theorem d5_readNumber_0 : decode cX5_readNumber 0 = .ok (.aload_n 0, 1) := by decide +kernel
theorem d5_readNumber_1 : decode cX5_readNumber 1 = .ok (.iload_n 1, 1) := by decide +kernel
theorem d5_readNumber_2 : decode cX5_readNumber 2 = .ok (.invokevirtual 42, 3) := by decide +kernel
theorem d5_readNumber_5 : decode cX5_readNumber 5 = .ok (.ifCond .ne 6, 3) := by decide +kernel
theorem d5_readNumber_8 : decode cX5_readNumber 8 = .ok (.bipush (-4), 2) := by decide +kernel
theorem d5_readNumber_10 : decode cX5_readNumber 10 = .ok (.ireturn, 1) := by decide +kernel
theorem d5_readNumber_11 : decode cX5_readNumber 11 = .ok (.aload_n 0, 1) := by decide +kernel
theorem d5_readNumber_12 : decode cX5_readNumber 12 = .ok (.aload_n 0, 1) := by decide +kernel
theorem d5_readNumber_13 : decode cX5_readNumber 13 = .ok (.iload_n 1, 1) := by decide +kernel
theorem d5_readNumber_14 : decode cX5_readNumber 14 = .ok (.invokevirtual 31, 3) := by decide +kernel
theorem d5_readNumber_17 : decode cX5_readNumber 17 = .ok (.bipush 48, 2) := by decide +kernel
theorem d5_readNumber_19 : decode cX5_readNumber 19 = .ok (.isub, 1) := by decide +kernel
theorem d5_readNumber_20 : decode cX5_readNumber 20 = .ok (.putfield 19, 3) := by decide +kernel
theorem d5_readNumber_23 : decode cX5_readNumber 23 = .ok (.aload_n 0, 1) := by decide +kernel
theorem d5_readNumber_24 : decode cX5_readNumber 24 = .ok (.iload_n 1, 1) := by decide +kernel
theorem d5_readNumber_25 : decode cX5_readNumber 25 = .ok (.iconst 1, 1) := by decide +kernel
theorem d5_readNumber_26 : decode cX5_readNumber 26 = .ok (.iadd, 1) := by decide +kernel
theorem d5_readNumber_27 : decode cX5_readNumber 27 = .ok (.invokevirtual 42, 3) := by decide +kernel
theorem d5_readNumber_30 : decode cX5_readNumber 30 = .ok (.ifCond .ne 7, 3) := by decide +kernel
theorem d5_readNumber_33 : decode cX5_readNumber 33 = .ok (.iload_n 1, 1) := by decide +kernel
theorem d5_readNumber_34 : decode cX5_readNumber 34 = .ok (.iconst 1, 1) := by decide +kernel
theorem d5_readNumber_35 : decode cX5_readNumber 35 = .ok (.iadd, 1) := by decide +kernel
theorem d5_readNumber_36 : decode cX5_readNumber 36 = .ok (.ireturn, 1) := by decide +kernel
theorem d5_readNumber_37 : decode cX5_readNumber 37 = .ok (.aload_n 0, 1) := by decide +kernel
theorem d5_readNumber_38 : decode cX5_readNumber 38 = .ok (.aload_n 0, 1) := by decide +kernel
theorem d5_readNumber_39 : decode cX5_readNumber 39 = .ok (.getfield 19, 3) := by decide +kernel
theorem d5_readNumber_42 : decode cX5_readNumber 42 = .ok (.bipush 10, 2) := by decide +kernel
theorem d5_readNumber_44 : decode cX5_readNumber 44 = .ok (.imul, 1) := by decide +kernel
theorem d5_readNumber_45 : decode cX5_readNumber 45 = .ok (.aload_n 0, 1) := by decide +kernel
theorem d5_readNumber_46 : decode cX5_readNumber 46 = .ok (.iload_n 1, 1) := by decide +kernel
theorem d5_readNumber_47 : decode cX5_readNumber 47 = .ok (.iconst 1, 1) := by decide +kernel
theorem d5_readNumber_48 : decode cX5_readNumber 48 = .ok (.iadd, 1) := by decide +kernel
theorem d5_readNumber_49 : decode cX5_readNumber 49 = .ok (.invokevirtual 31, 3) := by decide +kernel
theorem d5_readNumber_52 : decode cX5_readNumber 52 = .ok (.iadd, 1) := by decide +kernel
theorem d5_readNumber_53 : decode cX5_readNumber 53 = .ok (.bipush 48, 2) := by decide +kernel
theorem d5_readNumber_55 : decode cX5_readNumber 55 = .ok (.isub, 1) := by decide +kernel
theorem d5_readNumber_56 : decode cX5_readNumber 56 = .ok (.putfield 19, 3) := by decide +kernel
theorem d5_readNumber_59 : decode cX5_readNumber 59 = .ok (.iload_n 1, 1) := by decide +kernel
theorem d5_readNumber_60 : decode cX5_readNumber 60 = .ok (.iconst 2, 1) := by decide +kernel
theorem d5_readNumber_61 : decode cX5_readNumber 61 = .ok (.iadd, 1) := by decide +kernel
theorem d5_readNumber_62 : decode cX5_readNumber 62 = .ok (.ireturn, 1) := by decide +kernel
def f5_readNumber (σ : Mem) (h : Nat) (x1 : Int32) : Option (Mem × Int32) := Option.bind (f5_isFigure σ h x1) fun r1 => if r1 = 0 then some (σ, (-4)) else Option.bind (f5_letterAt σ h x1) fun r3 => bm (mu σ h 2 (r3 - 48)) fun σ4 => Option.bind (f5_isFigure σ4 h (x1 + 1)) fun r5 => if r5 = 0 then some (σ4, x1 + 1) else Option.bind (f5_letterAt σ4 h (x1 + 1)) fun r7 => bm (mu σ4 h 2 ((((σ4 h 2) * 10) + r7) - 48)) fun σ8 => some (σ8, x1 + 2)
set_option maxHeartbeats 4000000 in
set_option maxRecDepth 100000 in
theorem c5_readNumber (l : Launch) {w : WV} {σ : Mem} {h : Nat} {x1 : Int32} {σ' : Mem} {r : Int32} (hh : h ∈ textL) (h0 : f5_readNumber σ h x1 = some (σ', r)) : Met l yX5_readNumber (wy yX5_readNumber cX5_readNumber 2 (some .int)) rm5_readNumber (Pw EC LC w [.ref (w.2.2 h), .int x1] σ) (Qw EC LC w σ' (some (.int r))) 0 0 (AW LC w) := by
  refine mk_met (by decide) (Nat.le_of_ble_eq_true rfl) ?_
  intro p e s m below meth c S hr hlk hK hR ls hl
  obtain ⟨hx, hb, hml, hown, hts⟩ := id S
  have hl : lv_has ls 2 [(0, .ref (w.2.2 h)), (1, .int x1)] := hl
  have hS : va_S (AW LC w) s.heap s.heap [] := va_S.rf
  unfold f5_readNumber at h0
  refine lv_aload_n hx hb d5_readNumber_0 rfl (lv_at hl 0 rfl) ?_
  refine lv_iload_n hx hb d5_readNumber_1 rfl (lv_at hl 1 rfl) ?_
  obtain ⟨r1, hr1, h0⟩ := og_b h0
  refine k5_42 S hK hR hh hr1 ⟨Nat.zero_le _, Nat.zero_le _⟩ ⟨Nat.le_of_ble_eq_true rfl, Nat.le_of_ble_eq_true rfl⟩ hl.1 (Nat.le_of_ble_eq_true rfl) d5_readNumber_2 ?_
  refine lv_if_ne (tgt := 11) hx hb d5_readNumber_5 (by decide) (fun hc2 => ?_) (fun hc2 => ?_)
  · have h0 := og_f hc2 h0
    refine lv_aload_n hx hb d5_readNumber_11 rfl (lv_at hl 0 rfl) ?_
    refine lv_aload_n hx hb d5_readNumber_12 rfl (lv_at hl 0 rfl) ?_
    refine lv_iload_n hx hb d5_readNumber_13 rfl (lv_at hl 1 rfl) ?_
    obtain ⟨r3, hr3, h0⟩ := og_b h0
    refine k5_31 S hK hR hh hr3 ⟨Nat.zero_le _, Nat.zero_le _⟩ ⟨Nat.le_of_ble_eq_true rfl, Nat.le_of_ble_eq_true rfl⟩ hl.1 (Nat.le_of_ble_eq_true rfl) d5_readNumber_14 ?_
    refine lv_bipush (v := 48) hx hb d5_readNumber_17 (by decide) ?_
    refine lv_isub hx hb d5_readNumber_19 ?_
    obtain ⟨σ4, hm4, h0⟩ := og_m h0
    refine u5_19 S hK hR hS hh hm4 d5_readNumber_20 (fun H locs hR hS => ?_)
    refine lv_aload_n hx hb d5_readNumber_23 rfl (lv_at hl 0 rfl) ?_
    refine lv_iload_n hx hb d5_readNumber_24 rfl (lv_at hl 1 rfl) ?_
    refine lv_iconst (v := 1) hx hb d5_readNumber_25 (by decide) ?_
    refine lv_iadd hx hb d5_readNumber_26 ?_
    obtain ⟨r5, hr5, h0⟩ := og_b h0
    refine k5_42 S hK hR hh hr5 ⟨Nat.zero_le _, Nat.zero_le _⟩ ⟨Nat.le_of_ble_eq_true rfl, Nat.le_of_ble_eq_true rfl⟩ hl.1 (Nat.le_of_ble_eq_true rfl) d5_readNumber_27 ?_
    refine lv_if_ne (tgt := 37) hx hb d5_readNumber_30 (by decide) (fun hc6 => ?_) (fun hc6 => ?_)
    · have h0 := og_f hc6 h0
      refine lv_aload_n hx hb d5_readNumber_37 rfl (lv_at hl 0 rfl) ?_
      refine lv_aload_n hx hb d5_readNumber_38 rfl (lv_at hl 0 rfl) ?_
      refine g5_19 S hK hR hh d5_readNumber_39 ?_
      refine lv_bipush (v := 10) hx hb d5_readNumber_42 (by decide) ?_
      refine lv_imul hx hb d5_readNumber_44 ?_
      refine lv_aload_n hx hb d5_readNumber_45 rfl (lv_at hl 0 rfl) ?_
      refine lv_iload_n hx hb d5_readNumber_46 rfl (lv_at hl 1 rfl) ?_
      refine lv_iconst (v := 1) hx hb d5_readNumber_47 (by decide) ?_
      refine lv_iadd hx hb d5_readNumber_48 ?_
      obtain ⟨r7, hr7, h0⟩ := og_b h0
      refine k5_31 S hK hR hh hr7 ⟨Nat.zero_le _, Nat.zero_le _⟩ ⟨Nat.le_of_ble_eq_true rfl, Nat.le_of_ble_eq_true rfl⟩ hl.1 (Nat.le_of_ble_eq_true rfl) d5_readNumber_49 ?_
      refine lv_iadd hx hb d5_readNumber_52 ?_
      refine lv_bipush (v := 48) hx hb d5_readNumber_53 (by decide) ?_
      refine lv_isub hx hb d5_readNumber_55 ?_
      obtain ⟨σ8, hm8, h0⟩ := og_m h0
      refine u5_19 S hK hR hS hh hm8 d5_readNumber_56 (fun H locs hR hS => ?_)
      refine lv_iload_n hx hb d5_readNumber_59 rfl (lv_at hl 1 rfl) ?_
      refine lv_iconst (v := 2) hx hb d5_readNumber_60 (by decide) ?_
      refine lv_iadd hx hb d5_readNumber_61 ?_
      exact q_iret S hr hlk hR hS h0 d5_readNumber_62
    · have h0 := og_t hc6 h0
      refine lv_iload_n hx hb d5_readNumber_33 rfl (lv_at hl 1 rfl) ?_
      refine lv_iconst (v := 1) hx hb d5_readNumber_34 (by decide) ?_
      refine lv_iadd hx hb d5_readNumber_35 ?_
      exact q_iret S hr hlk hR hS h0 d5_readNumber_36
  · have h0 := og_t hc2 h0
    refine lv_bipush (v := (-4)) hx hb d5_readNumber_8 (by decide) ?_
    exact q_iret S hr hlk hR hS h0 d5_readNumber_10
set_option maxHeartbeats 4000000 in
set_option maxRecDepth 100000 in
theorem k5_35 {p : Program} {l : Launch} {e : Env} {R : Room} {s : State} {m : MethodId} {args : Array Value} {below : List Frame} {meth : Method} {c : Code} {H : Heap} {locs : List Loc} {cells slots : Nat} {Q : State → Prop} {cc : ByteArray} {pc nL : Nat} {ls : Array Slot} {rest : List Value} {w : WV} {σ : Mem} {h : Nat} {x1 : Int32} {σ1 : Mem} {r : Int32} (S : CallFix p m c cc nL s args gtbl RX5) (hK : KS LC w s) (hR : Rp EC LC w σ H) (hS : va_S (AW LC w) s.heap H locs) (hh : h ∈ textL) (h0 : f5_readNumber σ h x1 = some (σ1, r)) (hf : cells + 0 ≤ R.cells ∧ slots + 0 ≤ R.slots) (hRm : rm5_readNumber.frames + 1 ≤ R.frames ∧ 8 + (2 + 11) + rm5_readNumber.locals ≤ R.locals) (hl : ls.size = nL) (hW : (rest.map fun v => v.category).sum ≤ 8) (hdg : decode cc pc = .ok (.invokevirtual 35, 3)) (kk : ∀ (H1 : Heap) (locs1 : List Loc), Rp EC LC w σ1 H1 → va_S (AW LC w) s.heap H1 locs1 → W p l e R s m args below meth c H1 locs1 cells slots Q (F0 m (pc + 3) ls (.int r :: rest))) : W p l e R s m args below meth c H locs cells slots Q (F0 m pc ls (.int x1 :: .ref (w.2.2 h) :: rest)) := r_end hS (run_V (n := 1) (As := [.int x1]) S hK hR (ok_5 _ hh) (eC_5 _ hh w _) rfl (gw_V (gt_at 353 (by decide +kernel) (by decide +kernel)) (gt_at 355 (by decide +kernel) (by decide +kernel)) (gt_at 3 (by decide +kernel) (by decide +kernel)) (gt_at 75 (by decide +kernel) (by decide +kernel)) (gt_at 356 (by decide +kernel) (by decide +kernel))) (by decide +kernel) rfl (c5_readNumber l hh h0) ⟨rfl, rfl⟩ hRm hf hl rfl hW hdg) kk
/-! FourTenGates$Text.readItem(ILFourTenGates$Book;)I -/
abbrev rm5_readItem : Room := { frames := 3, cells := 0, slots := 0, locals := 67 }
theorem d5_readItem_0 : decode cX5_readItem 0 = .ok (.aload_n 0, 1) := by decide +kernel
theorem d5_readItem_1 : decode cX5_readItem 1 = .ok (.iload_n 1, 1) := by decide +kernel
theorem d5_readItem_2 : decode cX5_readItem 2 = .ok (.invokevirtual 31, 3) := by decide +kernel
theorem d5_readItem_5 : decode cX5_readItem 5 = .ok (.istore_n 3, 1) := by decide +kernel
theorem d5_readItem_6 : decode cX5_readItem 6 = .ok (.iload_n 3, 1) := by decide +kernel
theorem d5_readItem_7 : decode cX5_readItem 7 = .ok (.bipush 103, 2) := by decide +kernel
theorem d5_readItem_9 : decode cX5_readItem 9 = .ok (.if_icmp .eq 9, 3) := by decide +kernel
theorem d5_readItem_12 : decode cX5_readItem 12 = .ok (.iload_n 3, 1) := by decide +kernel
theorem d5_readItem_13 : decode cX5_readItem 13 = .ok (.bipush 99, 2) := by decide +kernel
theorem d5_readItem_15 : decode cX5_readItem 15 = .ok (.if_icmp .ne 7, 3) := by decide +kernel
theorem d5_readItem_18 : decode cX5_readItem 18 = .ok (.iconst 1, 1) := by decide +kernel
theorem d5_readItem_19 : decode cX5_readItem 19 = .ok (.goto 4, 3) := by decide +kernel
theorem d5_readItem_22 : decode cX5_readItem 22 = .ok (.iconst 0, 1) := by decide +kernel
theorem d5_readItem_23 : decode cX5_readItem 23 = .ok (.istore 4, 2) := by decide +kernel
theorem d5_readItem_25 : decode cX5_readItem 25 = .ok (.aload_n 0, 1) := by decide +kernel
theorem d5_readItem_26 : decode cX5_readItem 26 = .ok (.iload_n 1, 1) := by decide +kernel
theorem d5_readItem_27 : decode cX5_readItem 27 = .ok (.iconst 1, 1) := by decide +kernel
theorem d5_readItem_28 : decode cX5_readItem 28 = .ok (.iadd, 1) := by decide +kernel
theorem d5_readItem_29 : decode cX5_readItem 29 = .ok (.invokevirtual 35, 3) := by decide +kernel
theorem d5_readItem_32 : decode cX5_readItem 32 = .ok (.istore 5, 2) := by decide +kernel
theorem d5_readItem_34 : decode cX5_readItem 34 = .ok (.aload_n 0, 1) := by decide +kernel
theorem d5_readItem_35 : decode cX5_readItem 35 = .ok (.getfield 19, 3) := by decide +kernel
theorem d5_readItem_38 : decode cX5_readItem 38 = .ok (.istore 6, 2) := by decide +kernel
theorem d5_readItem_40 : decode cX5_readItem 40 = .ok (.iconst 0, 1) := by decide +kernel
theorem d5_readItem_41 : decode cX5_readItem 41 = .ok (.istore 7, 2) := by decide +kernel
theorem d5_readItem_43 : decode cX5_readItem 43 = .ok (.iload 4, 2) := by decide +kernel
theorem d5_readItem_45 : decode cX5_readItem 45 = .ok (.ifCond .ne 42, 3) := by decide +kernel
theorem d5_readItem_48 : decode cX5_readItem 48 = .ok (.iload 5, 2) := by decide +kernel
theorem d5_readItem_50 : decode cX5_readItem 50 = .ok (.bipush (-4), 2) := by decide +kernel
theorem d5_readItem_52 : decode cX5_readItem 52 = .ok (.if_icmp .eq 35, 3) := by decide +kernel
theorem d5_readItem_55 : decode cX5_readItem 55 = .ok (.aload_n 0, 1) := by decide +kernel
theorem d5_readItem_56 : decode cX5_readItem 56 = .ok (.iload 5, 2) := by decide +kernel
theorem d5_readItem_58 : decode cX5_readItem 58 = .ok (.invokevirtual 31, 3) := by decide +kernel
theorem d5_readItem_61 : decode cX5_readItem 61 = .ok (.bipush 44, 2) := by decide +kernel
theorem d5_readItem_63 : decode cX5_readItem 63 = .ok (.if_icmp .ne 14, 3) := by decide +kernel
theorem d5_readItem_66 : decode cX5_readItem 66 = .ok (.aload_n 0, 1) := by decide +kernel
theorem d5_readItem_67 : decode cX5_readItem 67 = .ok (.iload 5, 2) := by decide +kernel
theorem d5_readItem_69 : decode cX5_readItem 69 = .ok (.iconst 1, 1) := by decide +kernel
theorem d5_readItem_70 : decode cX5_readItem 70 = .ok (.iadd, 1) := by decide +kernel
theorem d5_readItem_71 : decode cX5_readItem 71 = .ok (.invokevirtual 35, 3) := by decide +kernel
theorem d5_readItem_74 : decode cX5_readItem 74 = .ok (.goto 5, 3) := by decide +kernel
theorem d5_readItem_77 : decode cX5_readItem 77 = .ok (.bipush (-4), 2) := by decide +kernel
theorem d5_readItem_79 : decode cX5_readItem 79 = .ok (.istore 5, 2) := by decide +kernel
theorem d5_readItem_81 : decode cX5_readItem 81 = .ok (.aload_n 0, 1) := by decide +kernel
theorem d5_readItem_82 : decode cX5_readItem 82 = .ok (.getfield 19, 3) := by decide +kernel
theorem d5_readItem_85 : decode cX5_readItem 85 = .ok (.istore 7, 2) := by decide +kernel
theorem d5_readItem_87 : decode cX5_readItem 87 = .ok (.iload 5, 2) := by decide +kernel
theorem d5_readItem_89 : decode cX5_readItem 89 = .ok (.bipush (-4), 2) := by decide +kernel
theorem d5_readItem_91 : decode cX5_readItem 91 = .ok (.if_icmp .eq 14, 3) := by decide +kernel
theorem d5_readItem_94 : decode cX5_readItem 94 = .ok (.aload_n 0, 1) := by decide +kernel
theorem d5_readItem_95 : decode cX5_readItem 95 = .ok (.iload 5, 2) := by decide +kernel
theorem d5_readItem_97 : decode cX5_readItem 97 = .ok (.invokevirtual 31, 3) := by decide +kernel
theorem d5_readItem_100 : decode cX5_readItem 100 = .ok (.bipush 59, 2) := by decide +kernel
theorem d5_readItem_102 : decode cX5_readItem 102 = .ok (.if_icmp .eq 6, 3) := by decide +kernel
theorem d5_readItem_105 : decode cX5_readItem 105 = .ok (.bipush (-4), 2) := by decide +kernel
theorem d5_readItem_107 : decode cX5_readItem 107 = .ok (.ireturn, 1) := by decide +kernel
theorem d5_readItem_108 : decode cX5_readItem 108 = .ok (.aload_n 2, 1) := by decide +kernel
theorem d5_readItem_109 : decode cX5_readItem 109 = .ok (.iload_n 3, 1) := by decide +kernel
theorem d5_readItem_110 : decode cX5_readItem 110 = .ok (.iload 6, 2) := by decide +kernel
theorem d5_readItem_112 : decode cX5_readItem 112 = .ok (.iload 7, 2) := by decide +kernel
theorem d5_readItem_114 : decode cX5_readItem 114 = .ok (.invokevirtual 38, 3) := by decide +kernel
theorem d5_readItem_117 : decode cX5_readItem 117 = .ok (.ifCond .eq 10, 3) := by decide +kernel
theorem d5_readItem_120 : decode cX5_readItem 120 = .ok (.iload 5, 2) := by decide +kernel
theorem d5_readItem_122 : decode cX5_readItem 122 = .ok (.iconst 1, 1) := by decide +kernel
theorem d5_readItem_123 : decode cX5_readItem 123 = .ok (.iadd, 1) := by decide +kernel
theorem d5_readItem_124 : decode cX5_readItem 124 = .ok (.goto 5, 3) := by decide +kernel
theorem d5_readItem_127 : decode cX5_readItem 127 = .ok (.bipush (-4), 2) := by decide +kernel
theorem d5_readItem_129 : decode cX5_readItem 129 = .ok (.ireturn, 1) := by decide +kernel
def f5_readItem_b87 (h : Nat) (o2 : Nat) (σ : Mem) (x3 : Int32) (x5 : Int32) (x6 : Int32) (x7 : Int32) : Option (Mem × Int32) := if x5 = (-4) then some (σ, (-4)) else Option.bind (f5_letterAt σ h x5) fun r2 => if r2 = 59 then ob (f0_take σ o2 x3 x6 x7) fun σ4 r4 => if r4 = 0 then some (σ4, (-4)) else some (σ4, x5 + 1) else some (σ, (-4))
set_option maxHeartbeats 4000000 in
set_option maxRecDepth 100000 in
theorem t5_readItem_b87 {p : Program} {l : Launch} {e : Env} {s : State} {m : MethodId} {args : Array Value} {below : List Frame} {meth : Method} {c : Code} {w : WV} {h : Nat} {o2 : Nat} {σ' : Mem} {r : Int32} (S : CallFix p m c cX5_readItem 8 s args gtbl RX5) (hr : meth.sig.returnType = (some .int)) (hlk : meth.locks = false) (hK : KS LC w s) (hh : h ∈ textL) (ho2 : o2 ∈ bookL) : ∀ (σ : Mem) (x3 : Int32) (x5 : Int32) (x6 : Int32) (x7 : Int32), f5_readItem_b87 h o2 σ x3 x5 x6 x7 = some (σ', r) → ∀ (H : Heap) (locs : List Loc), Rp EC LC w σ H → va_S (AW LC w) s.heap H locs → ∀ (ls : Array Slot), lv_has ls 8 [(0, .ref (w.2.2 h)), (2, .ref (w.2.2 o2)), (3, .int x3), (5, .int x5), (6, .int x6), (7, .int x7)] → W p l e rm5_readItem s m args below meth c H locs 0 0 (MQ below (Qw EC LC w σ' (some (.int r))) args s 0 0 (AW LC w)) (F0 m 87 ls []) := by
  obtain ⟨hx, hb, hml, hown, hts⟩ := id S
  intro σ x3 x5 x6 x7 h0 H locs hR hS ls hl
  unfold f5_readItem_b87 at h0
  refine lv_iload hx hb d5_readItem_87 (lv_at hl 3 rfl) ?_
  refine lv_bipush (v := (-4)) hx hb d5_readItem_89 (by decide) ?_
  refine lv_icmp_eq (tgt := 105) hx hb d5_readItem_91 (by decide) (fun hc1 => ?_) (fun hc1 => ?_)
  · have h0 := og_t hc1 h0
    refine lv_bipush (v := (-4)) hx hb d5_readItem_105 (by decide) ?_
    exact q_iret S hr hlk hR hS h0 d5_readItem_107
  · have h0 := og_f hc1 h0
    refine lv_aload_n hx hb d5_readItem_94 rfl (lv_at hl 0 rfl) ?_
    refine lv_iload hx hb d5_readItem_95 (lv_at hl 3 rfl) ?_
    obtain ⟨r2, hr2, h0⟩ := og_b h0
    refine k5_31 S hK hR hh hr2 ⟨Nat.zero_le _, Nat.zero_le _⟩ ⟨Nat.le_of_ble_eq_true rfl, Nat.le_of_ble_eq_true rfl⟩ hl.1 (Nat.le_of_ble_eq_true rfl) d5_readItem_97 ?_
    refine lv_bipush (v := 59) hx hb d5_readItem_100 (by decide) ?_
    refine lv_icmp_eq (tgt := 108) hx hb d5_readItem_102 (by decide) (fun hc3 => ?_) (fun hc3 => ?_)
    · have h0 := og_t hc3 h0
      refine lv_aload_n hx hb d5_readItem_108 rfl (lv_at hl 1 rfl) ?_
      refine lv_iload_n hx hb d5_readItem_109 rfl (lv_at hl 2 rfl) ?_
      refine lv_iload hx hb d5_readItem_110 (lv_at hl 4 rfl) ?_
      refine lv_iload hx hb d5_readItem_112 (lv_at hl 5 rfl) ?_
      obtain ⟨σ4, r4, hr4, h0⟩ := og_o h0
      refine k5_38 S hK hR hS ho2 hr4 ⟨Nat.zero_le _, Nat.zero_le _⟩ ⟨Nat.le_of_ble_eq_true rfl, Nat.le_of_ble_eq_true rfl⟩ hl.1 (Nat.le_of_ble_eq_true rfl) d5_readItem_114 (fun H locs hR hS => ?_)
      refine lv_if_eq (tgt := 127) hx hb d5_readItem_117 (by decide) (fun hc5 => ?_) (fun hc5 => ?_)
      · have h0 := og_t hc5 h0
        refine lv_bipush (v := (-4)) hx hb d5_readItem_127 (by decide) ?_
        exact q_iret S hr hlk hR hS h0 d5_readItem_129
      · have h0 := og_f hc5 h0
        refine lv_iload hx hb d5_readItem_120 (lv_at hl 3 rfl) ?_
        refine lv_iconst (v := 1) hx hb d5_readItem_122 (by decide) ?_
        refine lv_iadd hx hb d5_readItem_123 ?_
        refine lv_goto (tgt := 129) hx hb d5_readItem_124 (by decide) ?_
        exact q_iret S hr hlk hR hS h0 d5_readItem_129
    · have h0 := og_f hc3 h0
      refine lv_bipush (v := (-4)) hx hb d5_readItem_105 (by decide) ?_
      exact q_iret S hr hlk hR hS h0 d5_readItem_107
def f5_readItem_b79 (h : Nat) (o2 : Nat) (σ : Mem) (x3 : Int32) (x6 : Int32) (s0 : Int32) : Option (Mem × Int32) := f5_readItem_b87 h o2 σ x3 s0 x6 (σ h 2)
set_option maxHeartbeats 4000000 in
set_option maxRecDepth 100000 in
theorem t5_readItem_b79 {p : Program} {l : Launch} {e : Env} {s : State} {m : MethodId} {args : Array Value} {below : List Frame} {meth : Method} {c : Code} {w : WV} {h : Nat} {o2 : Nat} {σ' : Mem} {r : Int32} (S : CallFix p m c cX5_readItem 8 s args gtbl RX5) (hr : meth.sig.returnType = (some .int)) (hlk : meth.locks = false) (hK : KS LC w s) (hh : h ∈ textL) (ho2 : o2 ∈ bookL) : ∀ (σ : Mem) (x3 : Int32) (x6 : Int32) (s0 : Int32), f5_readItem_b79 h o2 σ x3 x6 s0 = some (σ', r) → ∀ (H : Heap) (locs : List Loc), Rp EC LC w σ H → va_S (AW LC w) s.heap H locs → ∀ (ls : Array Slot), lv_has ls 8 [(0, .ref (w.2.2 h)), (2, .ref (w.2.2 o2)), (3, .int x3), (6, .int x6)] → W p l e rm5_readItem s m args below meth c H locs 0 0 (MQ below (Qw EC LC w σ' (some (.int r))) args s 0 0 (AW LC w)) (F0 m 79 ls [.int s0]) := by
  obtain ⟨hx, hb, hml, hown, hts⟩ := id S
  intro σ x3 x6 s0 h0 H locs hR hS ls hl
  unfold f5_readItem_b79 at h0
  refine lv_istore (lv' := [(5, .int s0), (0, .ref (w.2.2 h)), (2, .ref (w.2.2 o2)), (3, .int x3), (6, .int x6)]) hx hb d5_readItem_79 hl (by decide) rfl (fun ls hl => ?_)
  refine lv_aload_n hx hb d5_readItem_81 rfl (lv_at hl 1 rfl) ?_
  refine g5_19 S hK hR hh d5_readItem_82 ?_
  refine lv_istore (lv' := [(7, .int (σ h 2)), (5, .int s0), (0, .ref (w.2.2 h)), (2, .ref (w.2.2 o2)), (3, .int x3), (6, .int x6)]) hx hb d5_readItem_85 hl (by decide) rfl (fun ls hl => ?_)
  exact t5_readItem_b87 S hr hlk hK hh ho2 σ x3 s0 x6 (σ h 2) h0 _ _ hR hS _ (lv_sub hl [2, 3, 4, 1, 5, 0] rfl)
def f5_readItem_b23 (h : Nat) (o2 : Nat) (σ : Mem) (x1 : Int32) (x3 : Int32) (s0 : Int32) : Option (Mem × Int32) := ob (f5_readNumber σ h (x1 + 1)) fun σ1 r1 => if s0 = 0 then if r1 = (-4) then f5_readItem_b87 h o2 σ1 x3 r1 (σ1 h 2) 0 else Option.bind (f5_letterAt σ1 h r1) fun r4 => if r4 = 44 then ob (f5_readNumber σ1 h (r1 + 1)) fun σ6 r6 => f5_readItem_b79 h o2 σ6 x3 (σ1 h 2) r6 else f5_readItem_b79 h o2 σ1 x3 (σ1 h 2) (-4) else f5_readItem_b87 h o2 σ1 x3 r1 (σ1 h 2) 0
set_option maxHeartbeats 4000000 in
set_option maxRecDepth 100000 in
theorem t5_readItem_b23 {p : Program} {l : Launch} {e : Env} {s : State} {m : MethodId} {args : Array Value} {below : List Frame} {meth : Method} {c : Code} {w : WV} {h : Nat} {o2 : Nat} {σ' : Mem} {r : Int32} (S : CallFix p m c cX5_readItem 8 s args gtbl RX5) (hr : meth.sig.returnType = (some .int)) (hlk : meth.locks = false) (hK : KS LC w s) (hh : h ∈ textL) (ho2 : o2 ∈ bookL) : ∀ (σ : Mem) (x1 : Int32) (x3 : Int32) (s0 : Int32), f5_readItem_b23 h o2 σ x1 x3 s0 = some (σ', r) → ∀ (H : Heap) (locs : List Loc), Rp EC LC w σ H → va_S (AW LC w) s.heap H locs → ∀ (ls : Array Slot), lv_has ls 8 [(0, .ref (w.2.2 h)), (1, .int x1), (2, .ref (w.2.2 o2)), (3, .int x3)] → W p l e rm5_readItem s m args below meth c H locs 0 0 (MQ below (Qw EC LC w σ' (some (.int r))) args s 0 0 (AW LC w)) (F0 m 23 ls [.int s0]) := by
  obtain ⟨hx, hb, hml, hown, hts⟩ := id S
  intro σ x1 x3 s0 h0 H locs hR hS ls hl
  unfold f5_readItem_b23 at h0
  refine lv_istore (lv' := [(4, .int s0), (0, .ref (w.2.2 h)), (1, .int x1), (2, .ref (w.2.2 o2)), (3, .int x3)]) hx hb d5_readItem_23 hl (by decide) rfl (fun ls hl => ?_)
  refine lv_aload_n hx hb d5_readItem_25 rfl (lv_at hl 1 rfl) ?_
  refine lv_iload_n hx hb d5_readItem_26 rfl (lv_at hl 2 rfl) ?_
  refine lv_iconst (v := 1) hx hb d5_readItem_27 (by decide) ?_
  refine lv_iadd hx hb d5_readItem_28 ?_
  obtain ⟨σ1, r1, hr1, h0⟩ := og_o h0
  refine k5_35 S hK hR hS hh hr1 ⟨Nat.zero_le _, Nat.zero_le _⟩ ⟨Nat.le_of_ble_eq_true rfl, Nat.le_of_ble_eq_true rfl⟩ hl.1 (Nat.le_of_ble_eq_true rfl) d5_readItem_29 (fun H locs hR hS => ?_)
  refine lv_istore (lv' := [(5, .int r1), (4, .int s0), (0, .ref (w.2.2 h)), (1, .int x1), (2, .ref (w.2.2 o2)), (3, .int x3)]) hx hb d5_readItem_32 hl (by decide) rfl (fun ls hl => ?_)
  refine lv_aload_n hx hb d5_readItem_34 rfl (lv_at hl 2 rfl) ?_
  refine g5_19 S hK hR hh d5_readItem_35 ?_
  refine lv_istore (lv' := [(6, .int (σ1 h 2)), (5, .int r1), (4, .int s0), (0, .ref (w.2.2 h)), (1, .int x1), (2, .ref (w.2.2 o2)), (3, .int x3)]) hx hb d5_readItem_38 hl (by decide) rfl (fun ls hl => ?_)
  refine lv_iconst (v := 0) hx hb d5_readItem_40 (by decide) ?_
  refine lv_istore (lv' := [(7, .int 0), (6, .int (σ1 h 2)), (5, .int r1), (4, .int s0), (0, .ref (w.2.2 h)), (1, .int x1), (2, .ref (w.2.2 o2)), (3, .int x3)]) hx hb d5_readItem_41 hl (by decide) rfl (fun ls hl => ?_)
  refine lv_iload hx hb d5_readItem_43 (lv_at hl 3 rfl) ?_
  refine lv_if_ne (tgt := 87) hx hb d5_readItem_45 (by decide) (fun hc2 => ?_) (fun hc2 => ?_)
  · have h0 := og_f hc2 h0
    exact t5_readItem_b87 S hr hlk hK hh ho2 σ1 x3 r1 (σ1 h 2) 0 h0 _ _ hR hS _ (lv_sub hl [4, 6, 7, 2, 1, 0] rfl)
  · have h0 := og_t hc2 h0
    refine lv_iload hx hb d5_readItem_48 (lv_at hl 2 rfl) ?_
    refine lv_bipush (v := (-4)) hx hb d5_readItem_50 (by decide) ?_
    refine lv_icmp_eq (tgt := 87) hx hb d5_readItem_52 (by decide) (fun hc3 => ?_) (fun hc3 => ?_)
    · have h0 := og_t hc3 h0
      exact t5_readItem_b87 S hr hlk hK hh ho2 σ1 x3 r1 (σ1 h 2) 0 h0 _ _ hR hS _ (lv_sub hl [4, 6, 7, 2, 1, 0] rfl)
    · have h0 := og_f hc3 h0
      refine lv_aload_n hx hb d5_readItem_55 rfl (lv_at hl 4 rfl) ?_
      refine lv_iload hx hb d5_readItem_56 (lv_at hl 2 rfl) ?_
      obtain ⟨r4, hr4, h0⟩ := og_b h0
      refine k5_31 S hK hR hh hr4 ⟨Nat.zero_le _, Nat.zero_le _⟩ ⟨Nat.le_of_ble_eq_true rfl, Nat.le_of_ble_eq_true rfl⟩ hl.1 (Nat.le_of_ble_eq_true rfl) d5_readItem_58 ?_
      refine lv_bipush (v := 44) hx hb d5_readItem_61 (by decide) ?_
      refine lv_icmp_ne (tgt := 77) hx hb d5_readItem_63 (by decide) (fun hc5 => ?_) (fun hc5 => ?_)
      · have h0 := og_f hc5 h0
        refine lv_bipush (v := (-4)) hx hb d5_readItem_77 (by decide) ?_
        exact t5_readItem_b79 S hr hlk hK hh ho2 σ1 x3 (σ1 h 2) (-4) h0 _ _ hR hS _ (lv_sub hl [4, 6, 7, 1] rfl)
      · have h0 := og_t hc5 h0
        refine lv_aload_n hx hb d5_readItem_66 rfl (lv_at hl 4 rfl) ?_
        refine lv_iload hx hb d5_readItem_67 (lv_at hl 2 rfl) ?_
        refine lv_iconst (v := 1) hx hb d5_readItem_69 (by decide) ?_
        refine lv_iadd hx hb d5_readItem_70 ?_
        obtain ⟨σ6, r6, hr6, h0⟩ := og_o h0
        refine k5_35 S hK hR hS hh hr6 ⟨Nat.zero_le _, Nat.zero_le _⟩ ⟨Nat.le_of_ble_eq_true rfl, Nat.le_of_ble_eq_true rfl⟩ hl.1 (Nat.le_of_ble_eq_true rfl) d5_readItem_71 (fun H locs hR hS => ?_)
        refine lv_goto (tgt := 79) hx hb d5_readItem_74 (by decide) ?_
        exact t5_readItem_b79 S hr hlk hK hh ho2 σ6 x3 (σ1 h 2) r6 h0 _ _ hR hS _ (lv_sub hl [4, 6, 7, 1] rfl)
def f5_readItem_b18 (h : Nat) (o2 : Nat) (σ : Mem) (x1 : Int32) (x3 : Int32) : Option (Mem × Int32) := f5_readItem_b23 h o2 σ x1 x3 1
set_option maxHeartbeats 4000000 in
set_option maxRecDepth 100000 in
theorem t5_readItem_b18 {p : Program} {l : Launch} {e : Env} {s : State} {m : MethodId} {args : Array Value} {below : List Frame} {meth : Method} {c : Code} {w : WV} {h : Nat} {o2 : Nat} {σ' : Mem} {r : Int32} (S : CallFix p m c cX5_readItem 8 s args gtbl RX5) (hr : meth.sig.returnType = (some .int)) (hlk : meth.locks = false) (hK : KS LC w s) (hh : h ∈ textL) (ho2 : o2 ∈ bookL) : ∀ (σ : Mem) (x1 : Int32) (x3 : Int32), f5_readItem_b18 h o2 σ x1 x3 = some (σ', r) → ∀ (H : Heap) (locs : List Loc), Rp EC LC w σ H → va_S (AW LC w) s.heap H locs → ∀ (ls : Array Slot), lv_has ls 8 [(0, .ref (w.2.2 h)), (1, .int x1), (2, .ref (w.2.2 o2)), (3, .int x3)] → W p l e rm5_readItem s m args below meth c H locs 0 0 (MQ below (Qw EC LC w σ' (some (.int r))) args s 0 0 (AW LC w)) (F0 m 18 ls []) := by
  obtain ⟨hx, hb, hml, hown, hts⟩ := id S
  intro σ x1 x3 h0 H locs hR hS ls hl
  unfold f5_readItem_b18 at h0
  refine lv_iconst (v := 1) hx hb d5_readItem_18 (by decide) ?_
  refine lv_goto (tgt := 23) hx hb d5_readItem_19 (by decide) ?_
  exact t5_readItem_b23 S hr hlk hK hh ho2 σ x1 x3 1 h0 _ _ hR hS _ (lv_sub hl [0, 1, 2, 3] rfl)
def f5_readItem (σ : Mem) (h : Nat) (o2 : Nat) (x1 : Int32) : Option (Mem × Int32) := Option.bind (f5_letterAt σ h x1) fun r1 => if r1 = 103 then f5_readItem_b18 h o2 σ x1 r1 else if r1 = 99 then f5_readItem_b18 h o2 σ x1 r1 else f5_readItem_b23 h o2 σ x1 r1 0
set_option maxHeartbeats 4000000 in
set_option maxRecDepth 100000 in
theorem c5_readItem (l : Launch) {w : WV} {σ : Mem} {h : Nat} {o2 : Nat} {x1 : Int32} {σ' : Mem} {r : Int32} (hh : h ∈ textL) (ho2 : o2 ∈ bookL) (h0 : f5_readItem σ h o2 x1 = some (σ', r)) : Met l yX5_readItem (wy yX5_readItem cX5_readItem 8 (some .int)) rm5_readItem (Pw EC LC w [.ref (w.2.2 h), .int x1, .ref (w.2.2 o2)] σ) (Qw EC LC w σ' (some (.int r))) 0 0 (AW LC w) := by
  refine mk_met (by decide) (Nat.le_of_ble_eq_true rfl) ?_
  intro p e s m below meth c S hr hlk hK hR ls hl
  obtain ⟨hx, hb, hml, hown, hts⟩ := id S
  have hl : lv_has ls 8 [(0, .ref (w.2.2 h)), (1, .int x1), (2, .ref (w.2.2 o2))] := hl
  have hS : va_S (AW LC w) s.heap s.heap [] := va_S.rf
  unfold f5_readItem at h0
  refine lv_aload_n hx hb d5_readItem_0 rfl (lv_at hl 0 rfl) ?_
  refine lv_iload_n hx hb d5_readItem_1 rfl (lv_at hl 1 rfl) ?_
  obtain ⟨r1, hr1, h0⟩ := og_b h0
  refine k5_31 S hK hR hh hr1 ⟨Nat.zero_le _, Nat.zero_le _⟩ ⟨Nat.le_of_ble_eq_true rfl, Nat.le_of_ble_eq_true rfl⟩ hl.1 (Nat.le_of_ble_eq_true rfl) d5_readItem_2 ?_
  refine lv_istore_n (lv' := [(3, .int r1), (0, .ref (w.2.2 h)), (1, .int x1), (2, .ref (w.2.2 o2))]) hx hb d5_readItem_5 rfl hl (by decide) rfl (fun ls hl => ?_)
  refine lv_iload_n hx hb d5_readItem_6 rfl (lv_at hl 0 rfl) ?_
  refine lv_bipush (v := 103) hx hb d5_readItem_7 (by decide) ?_
  refine lv_icmp_eq (tgt := 18) hx hb d5_readItem_9 (by decide) (fun hc2 => ?_) (fun hc2 => ?_)
  · have h0 := og_t hc2 h0
    exact t5_readItem_b18 S hr hlk hK hh ho2 σ x1 r1 h0 _ _ hR hS _ (lv_sub hl [1, 2, 3, 0] rfl)
  · have h0 := og_f hc2 h0
    refine lv_iload_n hx hb d5_readItem_12 rfl (lv_at hl 0 rfl) ?_
    refine lv_bipush (v := 99) hx hb d5_readItem_13 (by decide) ?_
    refine lv_icmp_ne (tgt := 22) hx hb d5_readItem_15 (by decide) (fun hc3 => ?_) (fun hc3 => ?_)
    · have h0 := og_f hc3 h0
      refine lv_iconst (v := 0) hx hb d5_readItem_22 (by decide) ?_
      exact t5_readItem_b23 S hr hlk hK hh ho2 σ x1 r1 0 h0 _ _ hR hS _ (lv_sub hl [1, 2, 3, 0] rfl)
    · have h0 := og_t hc3 h0
      exact t5_readItem_b18 S hr hlk hK hh ho2 σ x1 r1 h0 _ _ hR hS _ (lv_sub hl [1, 2, 3, 0] rfl)
set_option maxHeartbeats 4000000 in
set_option maxRecDepth 100000 in
theorem k5_27 {p : Program} {l : Launch} {e : Env} {R : Room} {s : State} {m : MethodId} {args : Array Value} {below : List Frame} {meth : Method} {c : Code} {H : Heap} {locs : List Loc} {cells slots : Nat} {Q : State → Prop} {cc : ByteArray} {pc nL : Nat} {ls : Array Slot} {rest : List Value} {w : WV} {σ : Mem} {h : Nat} {o2 : Nat} {x1 : Int32} {σ1 : Mem} {r : Int32} (S : CallFix p m c cc nL s args gtbl RX5) (hK : KS LC w s) (hR : Rp EC LC w σ H) (hS : va_S (AW LC w) s.heap H locs) (hh : h ∈ textL) (ho2 : o2 ∈ bookL) (h0 : f5_readItem σ h o2 x1 = some (σ1, r)) (hf : cells + 0 ≤ R.cells ∧ slots + 0 ≤ R.slots) (hRm : rm5_readItem.frames + 1 ≤ R.frames ∧ 8 + (8 + 11) + rm5_readItem.locals ≤ R.locals) (hl : ls.size = nL) (hW : (rest.map fun v => v.category).sum ≤ 8) (hdg : decode cc pc = .ok (.invokevirtual 27, 3)) (kk : ∀ (H1 : Heap) (locs1 : List Loc), Rp EC LC w σ1 H1 → va_S (AW LC w) s.heap H1 locs1 → W p l e R s m args below meth c H1 locs1 cells slots Q (F0 m (pc + 3) ls (.int r :: rest))) : W p l e R s m args below meth c H locs cells slots Q (F0 m pc ls (.ref (w.2.2 o2) :: .int x1 :: .ref (w.2.2 h) :: rest)) := r_end hS (run_V (n := 2) (As := [.int x1, .ref (w.2.2 o2)]) S hK hR (ok_5 _ hh) (eC_5 _ hh w _) rfl (gw_V (gt_at 345 (by decide +kernel) (by decide +kernel)) (gt_at 347 (by decide +kernel) (by decide +kernel)) (gt_at 1 (by decide +kernel) (by decide +kernel)) (gt_at 75 (by decide +kernel) (by decide +kernel)) (gt_at 348 (by decide +kernel) (by decide +kernel))) (by decide +kernel) rfl (c5_readItem l hh ho2 h0) ⟨rfl, rfl⟩ hRm hf hl rfl hW hdg) kk
/-! FourTenGates$Text.readInto(LFourTenGates$Book;)I -/
abbrev rm5_readInto : Room := { frames := 4, cells := 0, slots := 0, locals := 94 }
theorem d5_readInto_0 : decode cX5_readInto 0 = .ok (.aload_n 1, 1) := by decide +kernel
theorem d5_readInto_1 : decode cX5_readInto 1 = .ok (.invokevirtual 22, 3) := by decide +kernel
theorem d5_readInto_4 : decode cX5_readInto 4 = .ok (.iconst 0, 1) := by decide +kernel
theorem d5_readInto_5 : decode cX5_readInto 5 = .ok (.istore_n 2, 1) := by decide +kernel
theorem d5_readInto_6 : decode cX5_readInto 6 = .ok (.iconst 0, 1) := by decide +kernel
theorem d5_readInto_7 : decode cX5_readInto 7 = .ok (.istore_n 3, 1) := by decide +kernel
theorem d5_readInto_8 : decode cX5_readInto 8 = .ok (.iload_n 3, 1) := by decide +kernel
theorem d5_readInto_9 : decode cX5_readInto 9 = .ok (.sipush 200, 3) := by decide +kernel
theorem d5_readInto_12 : decode cX5_readInto 12 = .ok (.if_icmp .ge 37, 3) := by decide +kernel
theorem d5_readInto_15 : decode cX5_readInto 15 = .ok (.iload_n 2, 1) := by decide +kernel
theorem d5_readInto_16 : decode cX5_readInto 16 = .ok (.aload_n 0, 1) := by decide +kernel
theorem d5_readInto_17 : decode cX5_readInto 17 = .ok (.getfield 15, 3) := by decide +kernel
theorem d5_readInto_20 : decode cX5_readInto 20 = .ok (.if_icmp .ge 29, 3) := by decide +kernel
theorem d5_readInto_23 : decode cX5_readInto 23 = .ok (.aload_n 0, 1) := by decide +kernel
theorem d5_readInto_24 : decode cX5_readInto 24 = .ok (.iload_n 2, 1) := by decide +kernel
theorem d5_readInto_25 : decode cX5_readInto 25 = .ok (.aload_n 1, 1) := by decide +kernel
theorem d5_readInto_26 : decode cX5_readInto 26 = .ok (.invokevirtual 27, 3) := by decide +kernel
theorem d5_readInto_29 : decode cX5_readInto 29 = .ok (.istore 4, 2) := by decide +kernel
theorem d5_readInto_31 : decode cX5_readInto 31 = .ok (.iload 4, 2) := by decide +kernel
theorem d5_readInto_33 : decode cX5_readInto 33 = .ok (.bipush (-4), 2) := by decide +kernel
theorem d5_readInto_35 : decode cX5_readInto 35 = .ok (.if_icmp .ne 5, 3) := by decide +kernel
theorem d5_readInto_38 : decode cX5_readInto 38 = .ok (.iload_n 2, 1) := by decide +kernel
theorem d5_readInto_39 : decode cX5_readInto 39 = .ok (.ireturn, 1) := by decide +kernel
theorem d5_readInto_40 : decode cX5_readInto 40 = .ok (.iload 4, 2) := by decide +kernel
theorem d5_readInto_42 : decode cX5_readInto 42 = .ok (.istore_n 2, 1) := by decide +kernel
theorem d5_readInto_43 : decode cX5_readInto 43 = .ok (.iinc 3 1, 3) := by decide +kernel
theorem d5_readInto_46 : decode cX5_readInto 46 = .ok (.goto (-38), 3) := by decide +kernel
theorem d5_readInto_49 : decode cX5_readInto 49 = .ok (.bipush (-4), 2) := by decide +kernel
theorem d5_readInto_51 : decode cX5_readInto 51 = .ok (.ireturn, 1) := by decide +kernel
def f5_readInto_b8 (h : Nat) (o1 : Nat) : Nat → Mem → Int32 → Int32 → Option (Mem × Int32)
  | 0, _, _, _ => none
  | n + 1, σ, x2, x3 => if 200 ≤ x3 then some (σ, (-4)) else if (σ h 1) ≤ x2 then some (σ, (-4)) else ob (f5_readItem σ h o1 x2) fun σ3 r3 => if r3 = (-4) then some (σ3, x2) else f5_readInto_b8 h o1 n σ3 r3 (x3 + 1)
set_option maxHeartbeats 4000000 in
set_option maxRecDepth 100000 in
theorem t5_readInto_b8 {p : Program} {l : Launch} {e : Env} {s : State} {m : MethodId} {args : Array Value} {below : List Frame} {meth : Method} {c : Code} {w : WV} {h : Nat} {o1 : Nat} {σ' : Mem} {r : Int32} (S : CallFix p m c cX5_readInto 5 s args gtbl RX5) (hr : meth.sig.returnType = (some .int)) (hlk : meth.locks = false) (hK : KS LC w s) (hh : h ∈ textL) (ho1 : o1 ∈ bookL) : ∀ (n : Nat), ∀ (σ : Mem) (x2 : Int32) (x3 : Int32), f5_readInto_b8 h o1 n σ x2 x3 = some (σ', r) → ∀ (H : Heap) (locs : List Loc), Rp EC LC w σ H → va_S (AW LC w) s.heap H locs → ∀ (ls : Array Slot), lv_has ls 5 [(0, .ref (w.2.2 h)), (1, .ref (w.2.2 o1)), (2, .int x2), (3, .int x3)] → W p l e rm5_readInto s m args below meth c H locs 0 0 (MQ below (Qw EC LC w σ' (some (.int r))) args s 0 0 (AW LC w)) (F0 m 8 ls []) := by
  obtain ⟨hx, hb, hml, hown, hts⟩ := id S
  intro n
  induction n with
  | zero =>
    intro σ x2 x3 h0
    cases (show none = _ from h0)
  | succ n ih =>
    intro σ x2 x3 h0 H locs hR hS ls hl
    rw [f5_readInto_b8] at h0
    refine lv_iload_n hx hb d5_readInto_8 rfl (lv_at hl 3 rfl) ?_
    refine lv_sipush (v := 200) hx hb d5_readInto_9 (by decide) ?_
    refine lv_icmp_ge (tgt := 49) hx hb d5_readInto_12 (by decide) (fun hc1 => ?_) (fun hc1 => ?_)
    · have h0 := og_t hc1 h0
      refine lv_bipush (v := (-4)) hx hb d5_readInto_49 (by decide) ?_
      exact q_iret S hr hlk hR hS h0 d5_readInto_51
    · have h0 := og_f hc1 h0
      refine lv_iload_n hx hb d5_readInto_15 rfl (lv_at hl 2 rfl) ?_
      refine lv_aload_n hx hb d5_readInto_16 rfl (lv_at hl 0 rfl) ?_
      refine g5_15 S hK hR hh d5_readInto_17 ?_
      refine lv_icmp_ge (tgt := 49) hx hb d5_readInto_20 (by decide) (fun hc2 => ?_) (fun hc2 => ?_)
      · have h0 := og_t hc2 h0
        refine lv_bipush (v := (-4)) hx hb d5_readInto_49 (by decide) ?_
        exact q_iret S hr hlk hR hS h0 d5_readInto_51
      · have h0 := og_f hc2 h0
        refine lv_aload_n hx hb d5_readInto_23 rfl (lv_at hl 0 rfl) ?_
        refine lv_iload_n hx hb d5_readInto_24 rfl (lv_at hl 2 rfl) ?_
        refine lv_aload_n hx hb d5_readInto_25 rfl (lv_at hl 1 rfl) ?_
        obtain ⟨σ3, r3, hr3, h0⟩ := og_o h0
        refine k5_27 S hK hR hS hh ho1 hr3 ⟨Nat.zero_le _, Nat.zero_le _⟩ ⟨Nat.le_of_ble_eq_true rfl, Nat.le_of_ble_eq_true rfl⟩ hl.1 (Nat.le_of_ble_eq_true rfl) d5_readInto_26 (fun H locs hR hS => ?_)
        refine lv_istore (lv' := [(4, .int r3), (0, .ref (w.2.2 h)), (1, .ref (w.2.2 o1)), (2, .int x2), (3, .int x3)]) hx hb d5_readInto_29 hl (by decide) rfl (fun ls hl => ?_)
        refine lv_iload hx hb d5_readInto_31 (lv_at hl 0 rfl) ?_
        refine lv_bipush (v := (-4)) hx hb d5_readInto_33 (by decide) ?_
        refine lv_icmp_ne (tgt := 40) hx hb d5_readInto_35 (by decide) (fun hc4 => ?_) (fun hc4 => ?_)
        · have h0 := og_f hc4 h0
          refine lv_iload hx hb d5_readInto_40 (lv_at hl 0 rfl) ?_
          refine lv_istore_n (lv' := [(2, .int r3), (4, .int r3), (0, .ref (w.2.2 h)), (1, .ref (w.2.2 o1)), (3, .int x3)]) hx hb d5_readInto_42 rfl hl (by decide) rfl (fun ls hl => ?_)
          refine lv_iinc (v := x3 + 1) (lv' := [(3, .int (x3 + 1)), (2, .int r3), (4, .int r3), (0, .ref (w.2.2 h)), (1, .ref (w.2.2 o1))]) hx hb d5_readInto_43 hl (k := 4) rfl (ii1 _) (by decide) rfl (fun ls hl => ?_)
          refine lv_goto (tgt := 8) hx hb d5_readInto_46 (by decide) ?_
          exact ih σ3 r3 (x3 + 1) h0 _ _ hR hS _ (lv_sub hl [3, 4, 1, 0] rfl)
        · have h0 := og_t hc4 h0
          refine lv_iload_n hx hb d5_readInto_38 rfl (lv_at hl 3 rfl) ?_
          exact q_iret S hr hlk hR hS h0 d5_readInto_39
def f5_readInto (σ : Mem) (h : Nat) (o1 : Nat) : Option (Mem × Int32) := Option.bind (f0_begin σ o1) fun σ1 => f5_readInto_b8 h o1 1000 σ1 0 0
set_option maxHeartbeats 4000000 in
set_option maxRecDepth 100000 in
theorem c5_readInto (l : Launch) {w : WV} {σ : Mem} {h : Nat} {o1 : Nat} {σ' : Mem} {r : Int32} (hh : h ∈ textL) (ho1 : o1 ∈ bookL) (h0 : f5_readInto σ h o1 = some (σ', r)) : Met l yX5_readInto (wy yX5_readInto cX5_readInto 5 (some .int)) rm5_readInto (Pw EC LC w [.ref (w.2.2 h), .ref (w.2.2 o1)] σ) (Qw EC LC w σ' (some (.int r))) 0 0 (AW LC w) := by
  refine mk_met (by decide) (Nat.le_of_ble_eq_true rfl) ?_
  intro p e s m below meth c S hr hlk hK hR ls hl
  obtain ⟨hx, hb, hml, hown, hts⟩ := id S
  have hl : lv_has ls 5 [(0, .ref (w.2.2 h)), (1, .ref (w.2.2 o1))] := hl
  have hS : va_S (AW LC w) s.heap s.heap [] := va_S.rf
  unfold f5_readInto at h0
  refine lv_aload_n hx hb d5_readInto_0 rfl (lv_at hl 1 rfl) ?_
  obtain ⟨σ1, hr1, h0⟩ := og_b h0
  refine k5_22 S hK hR hS ho1 hr1 ⟨Nat.zero_le _, Nat.zero_le _⟩ ⟨Nat.le_of_ble_eq_true rfl, Nat.le_of_ble_eq_true rfl⟩ hl.1 (Nat.le_of_ble_eq_true rfl) d5_readInto_1 (fun H locs hR hS => ?_)
  refine lv_iconst (v := 0) hx hb d5_readInto_4 (by decide) ?_
  refine lv_istore_n (lv' := [(2, .int 0), (0, .ref (w.2.2 h)), (1, .ref (w.2.2 o1))]) hx hb d5_readInto_5 rfl hl (by decide) rfl (fun ls hl => ?_)
  refine lv_iconst (v := 0) hx hb d5_readInto_6 (by decide) ?_
  refine lv_istore_n (lv' := [(3, .int 0), (2, .int 0), (0, .ref (w.2.2 h)), (1, .ref (w.2.2 o1))]) hx hb d5_readInto_7 rfl hl (by decide) rfl (fun ls hl => ?_)
  exact t5_readInto_b8 S hr hlk hK hh ho1 1000 σ1 0 0 h0 _ _ hR hS _ (lv_sub hl [2, 3, 1, 0] rfl)
set_option maxHeartbeats 4000000 in
set_option maxRecDepth 100000 in
theorem k6_109 {p : Program} {l : Launch} {e : Env} {R : Room} {s : State} {m : MethodId} {args : Array Value} {below : List Frame} {meth : Method} {c : Code} {H : Heap} {locs : List Loc} {cells slots : Nat} {Q : State → Prop} {cc : ByteArray} {pc nL : Nat} {ls : Array Slot} {rest : List Value} {w : WV} {σ : Mem} {h : Nat} {o1 : Nat} {σ1 : Mem} {r : Int32} (S : CallFix p m c cc nL s args gtbl RX6) (hK : KS LC w s) (hR : Rp EC LC w σ H) (hS : va_S (AW LC w) s.heap H locs) (hh : h ∈ textL) (ho1 : o1 ∈ bookL) (h0 : f5_readInto σ h o1 = some (σ1, r)) (hf : cells + 0 ≤ R.cells ∧ slots + 0 ≤ R.slots) (hRm : rm5_readInto.frames + 1 ≤ R.frames ∧ 8 + (5 + 11) + rm5_readInto.locals ≤ R.locals) (hl : ls.size = nL) (hW : (rest.map fun v => v.category).sum ≤ 8) (hdg : decode cc pc = .ok (.invokevirtual 109, 3)) (kk : ∀ (H1 : Heap) (locs1 : List Loc), Rp EC LC w σ1 H1 → va_S (AW LC w) s.heap H1 locs1 → W p l e R s m args below meth c H1 locs1 cells slots Q (F0 m (pc + 3) ls (.int r :: rest))) : W p l e R s m args below meth c H locs cells slots Q (F0 m pc ls (.ref (w.2.2 o1) :: .ref (w.2.2 h) :: rest)) := r_end hS (run_V (n := 1) (As := [.ref (w.2.2 o1)]) S hK hR (ok_5 _ hh) (eC_5 _ hh w _) rfl (gw_V (gt_at 333 (by decide +kernel) (by decide +kernel)) (gt_at 334 (by decide +kernel) (by decide +kernel)) (gt_at 335 (by decide +kernel) (by decide +kernel)) (gt_at 75 (by decide +kernel) (by decide +kernel)) (gt_at 336 (by decide +kernel) (by decide +kernel))) (by decide +kernel) rfl (c5_readInto l hh ho1 h0) ⟨rfl, rfl⟩ hRm hf hl rfl hW hdg) kk
/-! FourTenGates.outdateHours()V -/
abbrev rm6_outdateHours : Room := { frames := 1, cells := 0, slots := 0, locals := 20 }
theorem d6_outdateHours_0 : decode cX6_outdateHours 0 = .ok (.iconst 0, 1) := by decide +kernel
theorem d6_outdateHours_1 : decode cX6_outdateHours 1 = .ok (.istore_n 1, 1) := by decide +kernel
theorem d6_outdateHours_2 : decode cX6_outdateHours 2 = .ok (.iload_n 1, 1) := by decide +kernel
theorem d6_outdateHours_3 : decode cX6_outdateHours 3 = .ok (.iconst 4, 1) := by decide +kernel
theorem d6_outdateHours_4 : decode cX6_outdateHours 4 = .ok (.if_icmp .ge 18, 3) := by decide +kernel
theorem d6_outdateHours_7 : decode cX6_outdateHours 7 = .ok (.aload_n 0, 1) := by decide +kernel
theorem d6_outdateHours_8 : decode cX6_outdateHours 8 = .ok (.getfield 38, 3) := by decide +kernel
theorem d6_outdateHours_11 : decode cX6_outdateHours 11 = .ok (.iload_n 1, 1) := by decide +kernel
theorem d6_outdateHours_12 : decode cX6_outdateHours 12 = .ok (.aaload, 1) := by decide +kernel
theorem d6_outdateHours_13 : decode cX6_outdateHours 13 = .ok (.invokevirtual 255, 3) := by decide +kernel
theorem d6_outdateHours_16 : decode cX6_outdateHours 16 = .ok (.iinc 1 1, 3) := by decide +kernel
theorem d6_outdateHours_19 : decode cX6_outdateHours 19 = .ok (.goto (-17), 3) := by decide +kernel
theorem d6_outdateHours_22 : decode cX6_outdateHours 22 = .ok (.aload_n 0, 1) := by decide +kernel
theorem d6_outdateHours_23 : decode cX6_outdateHours 23 = .ok (.iconst 0, 1) := by decide +kernel
theorem d6_outdateHours_24 : decode cX6_outdateHours 24 = .ok (.putfield 68, 3) := by decide +kernel
theorem d6_outdateHours_27 : decode cX6_outdateHours 27 = .ok (.return_, 1) := by decide +kernel
def f6_outdateHours_b2 : Nat → Mem → Int32 → Option Mem
  | 0, _, _ => none
  | n + 1, σ, x1 => if 4 ≤ x1 then bm (mu σ 0 10 0) fun σ2 => some σ2 else if ¬ (x1 < 0 ∨ 4 ≤ x1.toNatClampNeg) then Option.bind (f1_outdate σ (42 + 8 * x1.toNatClampNeg)) fun σ3 => f6_outdateHours_b2 n σ3 (x1 + 1) else none
set_option maxHeartbeats 4000000 in
set_option maxRecDepth 100000 in
theorem t6_outdateHours_b2 {p : Program} {l : Launch} {e : Env} {s : State} {m : MethodId} {args : Array Value} {below : List Frame} {meth : Method} {c : Code} {w : WV} {σ' : Mem} (S : CallFix p m c cX6_outdateHours 2 s args gtbl RX6) (hr : meth.sig.returnType = none) (hlk : meth.locks = false) (hK : KS LC w s) : ∀ (n : Nat), ∀ (σ : Mem) (x1 : Int32), f6_outdateHours_b2  n σ x1 = some σ' → ∀ (H : Heap) (locs : List Loc), Rp EC LC w σ H → va_S (AW LC w) s.heap H locs → ∀ (ls : Array Slot), lv_has ls 2 [(0, .ref (w.2.2 0)), (1, .int x1)] → W p l e rm6_outdateHours s m args below meth c H locs 0 0 (MQ below (Qw EC LC w σ' none) args s 0 0 (AW LC w)) (F0 m 2 ls []) := by
  obtain ⟨hx, hb, hml, hown, hts⟩ := id S
  intro n
  induction n with
  | zero =>
    intro σ x1 h0
    cases (show none = _ from h0)
  | succ n ih =>
    intro σ x1 h0 H locs hR hS ls hl
    rw [f6_outdateHours_b2] at h0
    refine lv_iload_n hx hb d6_outdateHours_2 rfl (lv_at hl 1 rfl) ?_
    refine lv_iconst (v := 4) hx hb d6_outdateHours_3 (by decide) ?_
    refine lv_icmp_ge (tgt := 22) hx hb d6_outdateHours_4 (by decide) (fun hc1 => ?_) (fun hc1 => ?_)
    · have h0 := og_t hc1 h0
      refine lv_aload_n hx hb d6_outdateHours_22 rfl (lv_at hl 0 rfl) ?_
      refine lv_iconst (v := 0) hx hb d6_outdateHours_23 (by decide) ?_
      obtain ⟨σ2, hm2, h0⟩ := og_m h0
      refine u6_68 S hK hR hS (Or.inl rfl) hm2 d6_outdateHours_24 (fun H locs hR hS => ?_)
      exact q_vret S hr hlk hR hS h0 d6_outdateHours_27
    · have h0 := og_f hc1 h0
      refine lv_aload_n hx hb d6_outdateHours_7 rfl (lv_at hl 0 rfl) ?_
      refine g6_38 S hK hR d6_outdateHours_8 ?_
      refine lv_iload_n hx hb d6_outdateHours_11 rfl (lv_at hl 1 rfl) ?_
      obtain ⟨hi2, h0⟩ := og_if h0
      refine r_ald (t0 := 2) (f := fun i => 42 + 8 * i) S hK hR (by decide) (ea_6_5 w _) rfl hi2 d6_outdateHours_12 ?_
      obtain ⟨σ3, hr3, h0⟩ := og_b h0
      refine k6_255 S hK hR hS (in_hours hi2) hr3 ⟨Nat.zero_le _, Nat.zero_le _⟩ ⟨Nat.le_of_ble_eq_true rfl, Nat.le_of_ble_eq_true rfl⟩ hl.1 (Nat.le_of_ble_eq_true rfl) d6_outdateHours_13 (fun H locs hR hS => ?_)
      refine lv_iinc (v := x1 + 1) (lv' := [(1, .int (x1 + 1)), (0, .ref (w.2.2 0))]) hx hb d6_outdateHours_16 hl (k := 1) rfl (ii1 _) (by decide) rfl (fun ls hl => ?_)
      refine lv_goto (tgt := 2) hx hb d6_outdateHours_19 (by decide) ?_
      exact ih σ3 (x1 + 1) h0 _ _ hR hS _ (lv_sub hl [1, 0] rfl)
def f6_outdateHours (σ : Mem) : Option Mem := f6_outdateHours_b2 1000 σ 0
set_option maxHeartbeats 4000000 in
set_option maxRecDepth 100000 in
theorem c6_outdateHours (l : Launch) {w : WV} {σ : Mem} {σ' : Mem} (h0 : f6_outdateHours σ = some σ') : Met l yX6_outdateHours (wy yX6_outdateHours cX6_outdateHours 2 none) rm6_outdateHours (Pw EC LC w [.ref (w.2.2 0)] σ) (Qw EC LC w σ' none) 0 0 (AW LC w) := by
  refine mk_met (by decide) (Nat.le_of_ble_eq_true rfl) ?_
  intro p e s m below meth c S hr hlk hK hR ls hl
  obtain ⟨hx, hb, hml, hown, hts⟩ := id S
  have hl : lv_has ls 2 [(0, .ref (w.2.2 0))] := hl
  have hS : va_S (AW LC w) s.heap s.heap [] := va_S.rf
  unfold f6_outdateHours at h0
  refine lv_iconst (v := 0) hx hb d6_outdateHours_0 (by decide) ?_
  refine lv_istore_n (lv' := [(1, .int 0), (0, .ref (w.2.2 0))]) hx hb d6_outdateHours_1 rfl hl (by decide) rfl (fun ls hl => ?_)
  exact t6_outdateHours_b2 S hr hlk hK 1000 σ 0 h0 _ _ hR hS _ (lv_sub hl [1, 0] rfl)
set_option maxHeartbeats 4000000 in
set_option maxRecDepth 100000 in
theorem k6_193 {p : Program} {l : Launch} {e : Env} {R : Room} {s : State} {m : MethodId} {args : Array Value} {below : List Frame} {meth : Method} {c : Code} {H : Heap} {locs : List Loc} {cells slots : Nat} {Q : State → Prop} {cc : ByteArray} {pc nL : Nat} {ls : Array Slot} {rest : List Value} {w : WV} {σ : Mem} {σ1 : Mem} (S : CallFix p m c cc nL s args gtbl RX6) (hK : KS LC w s) (hR : Rp EC LC w σ H) (hS : va_S (AW LC w) s.heap H locs) (h0 : f6_outdateHours σ = some σ1) (hf : cells + 0 ≤ R.cells ∧ slots + 0 ≤ R.slots) (hRm : rm6_outdateHours.frames + 1 ≤ R.frames ∧ 8 + (2 + 11) + rm6_outdateHours.locals ≤ R.locals) (hl : ls.size = nL) (hW : (rest.map fun v => v.category).sum ≤ 8) (hdg : decode cc pc = .ok (.invokevirtual 193, 3)) (kk : ∀ (H1 : Heap) (locs1 : List Loc), Rp EC LC w σ1 H1 → va_S (AW LC w) s.heap H1 locs1 → W p l e R s m args below meth c H1 locs1 cells slots Q (F0 m (pc + 3) ls (rest))) : W p l e R s m args below meth c H locs cells slots Q (F0 m pc ls (.ref (w.2.2 0) :: rest)) := r_end hS (run_V (n := 0) (As := []) S hK hR (by decide) (eC_6 w _) rfl (gw_V (gt_at 461 (by decide +kernel) (by decide +kernel)) (gt_at 463 (by decide +kernel) (by decide +kernel)) (gt_at 9 (by decide +kernel) (by decide +kernel)) (gt_at 74 (by decide +kernel) (by decide +kernel)) (gt_at 464 (by decide +kernel) (by decide +kernel))) (by decide +kernel) rfl (c6_outdateHours l h0) ⟨rfl, rfl⟩ hRm hf hl rfl hW hdg) kk
/-! FourTenGates.layText()Z -/
abbrev rm6_layText : Room := { frames := 5, cells := 0, slots := 0, locals := 118 }
theorem d6_layText_0 : decode cX6_layText 0 = .ok (.aload_n 0, 1) := by decide +kernel
theorem d6_layText_1 : decode cX6_layText 1 = .ok (.getfield 10, 3) := by decide +kernel
theorem d6_layText_4 : decode cX6_layText 4 = .ok (.aload_n 0, 1) := by decide +kernel
theorem d6_layText_5 : decode cX6_layText 5 = .ok (.getfield 23, 3) := by decide +kernel
theorem d6_layText_8 : decode cX6_layText 8 = .ok (.invokevirtual 109, 3) := by decide +kernel
theorem d6_layText_11 : decode cX6_layText 11 = .ok (.bipush (-4), 2) := by decide +kernel
theorem d6_layText_13 : decode cX6_layText 13 = .ok (.if_icmp .ne 13, 3) := by decide +kernel
theorem d6_layText_16 : decode cX6_layText 16 = .ok (.aload_n 0, 1) := by decide +kernel
theorem d6_layText_17 : decode cX6_layText 17 = .ok (.getfield 23, 3) := by decide +kernel
theorem d6_layText_20 : decode cX6_layText 20 = .ok (.invokevirtual 244, 3) := by decide +kernel
theorem d6_layText_23 : decode cX6_layText 23 = .ok (.ifCond .ne 5, 3) := by decide +kernel
theorem d6_layText_26 : decode cX6_layText 26 = .ok (.iconst 0, 1) := by decide +kernel
theorem d6_layText_27 : decode cX6_layText 27 = .ok (.ireturn, 1) := by decide +kernel
theorem d6_layText_28 : decode cX6_layText 28 = .ok (.aload_n 0, 1) := by decide +kernel
theorem d6_layText_29 : decode cX6_layText 29 = .ok (.getfield 19, 3) := by decide +kernel
theorem d6_layText_32 : decode cX6_layText 32 = .ok (.aload_n 0, 1) := by decide +kernel
theorem d6_layText_33 : decode cX6_layText 33 = .ok (.getfield 23, 3) := by decide +kernel
theorem d6_layText_36 : decode cX6_layText 36 = .ok (.invokevirtual 247, 3) := by decide +kernel
theorem d6_layText_39 : decode cX6_layText 39 = .ok (.aload_n 0, 1) := by decide +kernel
theorem d6_layText_40 : decode cX6_layText 40 = .ok (.getfield 29, 3) := by decide +kernel
theorem d6_layText_43 : decode cX6_layText 43 = .ok (.aload_n 0, 1) := by decide +kernel
theorem d6_layText_44 : decode cX6_layText 44 = .ok (.getfield 19, 3) := by decide +kernel
theorem d6_layText_47 : decode cX6_layText 47 = .ok (.getfield 250, 3) := by decide +kernel
theorem d6_layText_50 : decode cX6_layText 50 = .ok (.invokevirtual 251, 3) := by decide +kernel
theorem d6_layText_53 : decode cX6_layText 53 = .ok (.aload_n 0, 1) := by decide +kernel
theorem d6_layText_54 : decode cX6_layText 54 = .ok (.getfield 64, 3) := by decide +kernel
theorem d6_layText_57 : decode cX6_layText 57 = .ok (.invokevirtual 217, 3) := by decide +kernel
theorem d6_layText_60 : decode cX6_layText 60 = .ok (.pop, 1) := by decide +kernel
theorem d6_layText_61 : decode cX6_layText 61 = .ok (.aload_n 0, 1) := by decide +kernel
theorem d6_layText_62 : decode cX6_layText 62 = .ok (.getfield 54, 3) := by decide +kernel
theorem d6_layText_65 : decode cX6_layText 65 = .ok (.invokevirtual 242, 3) := by decide +kernel
theorem d6_layText_68 : decode cX6_layText 68 = .ok (.aload_n 0, 1) := by decide +kernel
theorem d6_layText_69 : decode cX6_layText 69 = .ok (.getfield 58, 3) := by decide +kernel
theorem d6_layText_72 : decode cX6_layText 72 = .ok (.invokevirtual 242, 3) := by decide +kernel
theorem d6_layText_75 : decode cX6_layText 75 = .ok (.aload_n 0, 1) := by decide +kernel
theorem d6_layText_76 : decode cX6_layText 76 = .ok (.invokevirtual 193, 3) := by decide +kernel
theorem d6_layText_79 : decode cX6_layText 79 = .ok (.iconst 1, 1) := by decide +kernel
theorem d6_layText_80 : decode cX6_layText 80 = .ok (.ireturn, 1) := by decide +kernel
def f6_layText (σ : Mem) : Option (Mem × Int32) := ob (f5_readInto σ 1 17) fun σ1 r1 => if r1 = (-4) then Option.bind (f0_canBeLaid σ1 17) fun r3 => if r3 = 0 then some (σ1, 0) else Option.bind (f0_copy σ1 3 17) fun σ5 => Option.bind (f4_begin σ5 31 10) fun σ6 => ob (f2_empty σ6 136) fun σ7 r7 => Option.bind (f3_empty σ7 82) fun σ8 => Option.bind (f3_empty σ8 124) fun σ9 => Option.bind (f6_outdateHours σ9) fun σ10 => some (σ10, 1) else some (σ1, 0)
set_option maxHeartbeats 4000000 in
set_option maxRecDepth 100000 in
theorem c6_layText (l : Launch) {w : WV} {σ : Mem} {σ' : Mem} {r : Int32} (h0 : f6_layText σ = some (σ', r)) : Met l yX6_layText (wy yX6_layText cX6_layText 1 (some .boolean)) rm6_layText (Pw EC LC w [.ref (w.2.2 0)] σ) (Qw EC LC w σ' (some (.int r))) 0 0 (AW LC w) := by
  refine mk_met (by decide) (Nat.le_of_ble_eq_true rfl) ?_
  intro p e s m below meth c S hr hlk hK hR ls hl
  obtain ⟨hx, hb, hml, hown, hts⟩ := id S
  have hl : lv_has ls 1 [(0, .ref (w.2.2 0))] := hl
  have hS : va_S (AW LC w) s.heap s.heap [] := va_S.rf
  unfold f6_layText at h0
  refine lv_aload_n hx hb d6_layText_0 rfl (lv_at hl 0 rfl) ?_
  refine g6_10 S hK hR d6_layText_1 ?_
  refine lv_aload_n hx hb d6_layText_4 rfl (lv_at hl 0 rfl) ?_
  refine g6_23 S hK hR d6_layText_5 ?_
  obtain ⟨σ1, r1, hr1, h0⟩ := og_o h0
  refine k6_109 S hK hR hS (by decide) (by decide) hr1 ⟨Nat.zero_le _, Nat.zero_le _⟩ ⟨Nat.le_of_ble_eq_true rfl, Nat.le_of_ble_eq_true rfl⟩ hl.1 (Nat.le_of_ble_eq_true rfl) d6_layText_8 (fun H locs hR hS => ?_)
  refine lv_bipush (v := (-4)) hx hb d6_layText_11 (by decide) ?_
  refine lv_icmp_ne (tgt := 26) hx hb d6_layText_13 (by decide) (fun hc2 => ?_) (fun hc2 => ?_)
  · have h0 := og_f hc2 h0
    refine lv_iconst (v := 0) hx hb d6_layText_26 (by decide) ?_
    exact q_zret S hr hlk hR hS (Or.inl rfl) h0 d6_layText_27
  · have h0 := og_t hc2 h0
    refine lv_aload_n hx hb d6_layText_16 rfl (lv_at hl 0 rfl) ?_
    refine g6_23 S hK hR d6_layText_17 ?_
    obtain ⟨r3, hr3, h0⟩ := og_b h0
    refine k6_244 S hK hR (by decide) hr3 ⟨Nat.zero_le _, Nat.zero_le _⟩ ⟨Nat.le_of_ble_eq_true rfl, Nat.le_of_ble_eq_true rfl⟩ hl.1 (Nat.le_of_ble_eq_true rfl) d6_layText_20 ?_
    refine lv_if_ne (tgt := 28) hx hb d6_layText_23 (by decide) (fun hc4 => ?_) (fun hc4 => ?_)
    · have h0 := og_f hc4 h0
      refine lv_aload_n hx hb d6_layText_28 rfl (lv_at hl 0 rfl) ?_
      refine g6_19 S hK hR d6_layText_29 ?_
      refine lv_aload_n hx hb d6_layText_32 rfl (lv_at hl 0 rfl) ?_
      refine g6_23 S hK hR d6_layText_33 ?_
      obtain ⟨σ5, hr5, h0⟩ := og_b h0
      refine k6_247 S hK hR hS (by decide) (by decide) hr5 ⟨Nat.zero_le _, Nat.zero_le _⟩ ⟨Nat.le_of_ble_eq_true rfl, Nat.le_of_ble_eq_true rfl⟩ hl.1 (Nat.le_of_ble_eq_true rfl) d6_layText_36 (fun H locs hR hS => ?_)
      refine lv_aload_n hx hb d6_layText_39 rfl (lv_at hl 0 rfl) ?_
      refine g6_29 S hK hR d6_layText_40 ?_
      refine lv_aload_n hx hb d6_layText_43 rfl (lv_at hl 0 rfl) ?_
      refine g6_19 S hK hR d6_layText_44 ?_
      refine g6_250 S hK hR (by decide) rfl d6_layText_47 ?_
      obtain ⟨σ6, hr6, h0⟩ := og_b h0
      refine k6_251 S hK hR hS (by decide) (by decide) hr6 ⟨Nat.zero_le _, Nat.zero_le _⟩ ⟨Nat.le_of_ble_eq_true rfl, Nat.le_of_ble_eq_true rfl⟩ hl.1 (Nat.le_of_ble_eq_true rfl) d6_layText_50 (fun H locs hR hS => ?_)
      refine lv_aload_n hx hb d6_layText_53 rfl (lv_at hl 0 rfl) ?_
      refine g6_64 S hK hR d6_layText_54 ?_
      obtain ⟨σ7, r7, hr7, h0⟩ := og_o h0
      refine k6_217 S hK hR hS (by decide) hr7 ⟨Nat.zero_le _, Nat.zero_le _⟩ ⟨Nat.le_of_ble_eq_true rfl, Nat.le_of_ble_eq_true rfl⟩ hl.1 (Nat.le_of_ble_eq_true rfl) d6_layText_57 (fun H locs hR hS => ?_)
      refine lv_pop hx hb d6_layText_60 rfl ?_
      refine lv_aload_n hx hb d6_layText_61 rfl (lv_at hl 0 rfl) ?_
      refine g6_54 S hK hR d6_layText_62 ?_
      obtain ⟨σ8, hr8, h0⟩ := og_b h0
      refine k6_242 S hK hR hS (by decide) hr8 ⟨Nat.zero_le _, Nat.zero_le _⟩ ⟨Nat.le_of_ble_eq_true rfl, Nat.le_of_ble_eq_true rfl⟩ hl.1 (Nat.le_of_ble_eq_true rfl) d6_layText_65 (fun H locs hR hS => ?_)
      refine lv_aload_n hx hb d6_layText_68 rfl (lv_at hl 0 rfl) ?_
      refine g6_58 S hK hR d6_layText_69 ?_
      obtain ⟨σ9, hr9, h0⟩ := og_b h0
      refine k6_242 S hK hR hS (by decide) hr9 ⟨Nat.zero_le _, Nat.zero_le _⟩ ⟨Nat.le_of_ble_eq_true rfl, Nat.le_of_ble_eq_true rfl⟩ hl.1 (Nat.le_of_ble_eq_true rfl) d6_layText_72 (fun H locs hR hS => ?_)
      refine lv_aload_n hx hb d6_layText_75 rfl (lv_at hl 0 rfl) ?_
      obtain ⟨σ10, hr10, h0⟩ := og_b h0
      refine k6_193 S hK hR hS  hr10 ⟨Nat.zero_le _, Nat.zero_le _⟩ ⟨Nat.le_of_ble_eq_true rfl, Nat.le_of_ble_eq_true rfl⟩ hl.1 (Nat.le_of_ble_eq_true rfl) d6_layText_76 (fun H locs hR hS => ?_)
      refine lv_iconst (v := 1) hx hb d6_layText_79 (by decide) ?_
      exact q_zret S hr hlk hR hS (Or.inr rfl) h0 d6_layText_80
    · have h0 := og_t hc4 h0
      refine lv_iconst (v := 0) hx hb d6_layText_26 (by decide) ?_
      exact q_zret S hr hlk hR hS (Or.inl rfl) h0 d6_layText_27
set_option maxHeartbeats 4000000 in
set_option maxRecDepth 100000 in
theorem k6_95 {p : Program} {l : Launch} {e : Env} {R : Room} {s : State} {m : MethodId} {args : Array Value} {below : List Frame} {meth : Method} {c : Code} {H : Heap} {locs : List Loc} {cells slots : Nat} {Q : State → Prop} {cc : ByteArray} {pc nL : Nat} {ls : Array Slot} {rest : List Value} {w : WV} {σ : Mem} {σ1 : Mem} {r : Int32} (S : CallFix p m c cc nL s args gtbl RX6) (hK : KS LC w s) (hR : Rp EC LC w σ H) (hS : va_S (AW LC w) s.heap H locs) (h0 : f6_layText σ = some (σ1, r)) (hf : cells + 0 ≤ R.cells ∧ slots + 0 ≤ R.slots) (hRm : rm6_layText.frames + 1 ≤ R.frames ∧ 8 + (1 + 11) + rm6_layText.locals ≤ R.locals) (hl : ls.size = nL) (hW : (rest.map fun v => v.category).sum ≤ 8) (hdg : decode cc pc = .ok (.invokevirtual 95, 3)) (kk : ∀ (H1 : Heap) (locs1 : List Loc), Rp EC LC w σ1 H1 → va_S (AW LC w) s.heap H1 locs1 → W p l e R s m args below meth c H1 locs1 cells slots Q (F0 m (pc + 3) ls (.int r :: rest))) : W p l e R s m args below meth c H locs cells slots Q (F0 m pc ls (.ref (w.2.2 0) :: rest)) := r_end hS (run_V (n := 0) (As := []) S hK hR (by decide) (eC_6 w _) rfl (gw_V (gt_at 329 (by decide +kernel) (by decide +kernel)) (gt_at 331 (by decide +kernel) (by decide +kernel)) (gt_at 0 (by decide +kernel) (by decide +kernel)) (gt_at 74 (by decide +kernel) (by decide +kernel)) (gt_at 332 (by decide +kernel) (by decide +kernel))) (by decide +kernel) rfl (c6_layText l h0) ⟨rfl, rfl⟩ hRm hf hl rfl hW hdg) kk
/-! FourTenGates.write(I)I -/
abbrev rm6_write : Room := { frames := 1, cells := 0, slots := 0, locals := 22 }
theorem d6_write_0 : decode cX6_write 0 = .ok (.iload_n 1, 1) := by decide +kernel
theorem d6_write_1 : decode cX6_write 1 = .ok (.bipush 32, 2) := by decide +kernel
theorem d6_write_3 : decode cX6_write 3 = .ok (.bipush 126, 2) := by decide +kernel
theorem d6_write_5 : decode cX6_write 5 = .ok (.invokestatic 102, 3) := by decide +kernel
theorem d6_write_8 : decode cX6_write 8 = .ok (.ifCond .ne 5, 3) := by decide +kernel
theorem d6_write_11 : decode cX6_write 11 = .ok (.iconst (-1), 1) := by decide +kernel
theorem d6_write_12 : decode cX6_write 12 = .ok (.ireturn, 1) := by decide +kernel
theorem d6_write_13 : decode cX6_write 13 = .ok (.aload_n 0, 1) := by decide +kernel
theorem d6_write_14 : decode cX6_write 14 = .ok (.getfield 10, 3) := by decide +kernel
theorem d6_write_17 : decode cX6_write 17 = .ok (.iload_n 1, 1) := by decide +kernel
theorem d6_write_18 : decode cX6_write 18 = .ok (.invokevirtual 91, 3) := by decide +kernel
theorem d6_write_21 : decode cX6_write 21 = .ok (.ifCond .eq 13, 3) := by decide +kernel
theorem d6_write_24 : decode cX6_write 24 = .ok (.aload_n 0, 1) := by decide +kernel
theorem d6_write_25 : decode cX6_write 25 = .ok (.getfield 10, 3) := by decide +kernel
theorem d6_write_28 : decode cX6_write 28 = .ok (.invokevirtual 106, 3) := by decide +kernel
theorem d6_write_31 : decode cX6_write 31 = .ok (.goto 5, 3) := by decide +kernel
theorem d6_write_34 : decode cX6_write 34 = .ok (.bipush (-3), 2) := by decide +kernel
theorem d6_write_36 : decode cX6_write 36 = .ok (.ireturn, 1) := by decide +kernel
def f6_write (σ : Mem) (x1 : Int32) : Option (Mem × Int32) := Option.bind (f6_between x1 32 126) fun r1 => if r1 = 0 then some (σ, (-1)) else ob (f5_add σ 1 x1) fun σ3 r3 => if r3 = 0 then some (σ3, (-3)) else Option.bind (f5_size σ3 1) fun r5 => some (σ3, r5)
set_option maxHeartbeats 4000000 in
set_option maxRecDepth 100000 in
theorem c6_write (l : Launch) {w : WV} {σ : Mem} {x1 : Int32} {σ' : Mem} {r : Int32} (h0 : f6_write σ x1 = some (σ', r)) : Met l yX6_write (wy yX6_write cX6_write 2 (some .int)) rm6_write (Pw EC LC w [.ref (w.2.2 0), .int x1] σ) (Qw EC LC w σ' (some (.int r))) 0 0 (AW LC w) := by
  refine mk_met (by decide) (Nat.le_of_ble_eq_true rfl) ?_
  intro p e s m below meth c S hr hlk hK hR ls hl
  obtain ⟨hx, hb, hml, hown, hts⟩ := id S
  have hl : lv_has ls 2 [(0, .ref (w.2.2 0)), (1, .int x1)] := hl
  have hS : va_S (AW LC w) s.heap s.heap [] := va_S.rf
  unfold f6_write at h0
  refine lv_iload_n hx hb d6_write_0 rfl (lv_at hl 1 rfl) ?_
  refine lv_bipush (v := 32) hx hb d6_write_1 (by decide) ?_
  refine lv_bipush (v := 126) hx hb d6_write_3 (by decide) ?_
  obtain ⟨r1, hr1, h0⟩ := og_b h0
  refine k6_102 S  hr1 ⟨Nat.zero_le _, Nat.zero_le _⟩ ⟨Nat.le_of_ble_eq_true rfl, Nat.le_of_ble_eq_true rfl⟩ hl.1 (Nat.le_of_ble_eq_true rfl) d6_write_5 ?_
  refine lv_if_ne (tgt := 13) hx hb d6_write_8 (by decide) (fun hc2 => ?_) (fun hc2 => ?_)
  · have h0 := og_f hc2 h0
    refine lv_aload_n hx hb d6_write_13 rfl (lv_at hl 0 rfl) ?_
    refine g6_10 S hK hR d6_write_14 ?_
    refine lv_iload_n hx hb d6_write_17 rfl (lv_at hl 1 rfl) ?_
    obtain ⟨σ3, r3, hr3, h0⟩ := og_o h0
    refine k6_91 S hK hR hS (by decide) hr3 ⟨Nat.zero_le _, Nat.zero_le _⟩ ⟨Nat.le_of_ble_eq_true rfl, Nat.le_of_ble_eq_true rfl⟩ hl.1 (Nat.le_of_ble_eq_true rfl) d6_write_18 (fun H locs hR hS => ?_)
    refine lv_if_eq (tgt := 34) hx hb d6_write_21 (by decide) (fun hc4 => ?_) (fun hc4 => ?_)
    · have h0 := og_t hc4 h0
      refine lv_bipush (v := (-3)) hx hb d6_write_34 (by decide) ?_
      exact q_iret S hr hlk hR hS h0 d6_write_36
    · have h0 := og_f hc4 h0
      refine lv_aload_n hx hb d6_write_24 rfl (lv_at hl 0 rfl) ?_
      refine g6_10 S hK hR d6_write_25 ?_
      obtain ⟨r5, hr5, h0⟩ := og_b h0
      refine k6_106 S hK hR (by decide) hr5 ⟨Nat.zero_le _, Nat.zero_le _⟩ ⟨Nat.le_of_ble_eq_true rfl, Nat.le_of_ble_eq_true rfl⟩ hl.1 (Nat.le_of_ble_eq_true rfl) d6_write_28 ?_
      refine lv_goto (tgt := 36) hx hb d6_write_31 (by decide) ?_
      exact q_iret S hr hlk hR hS h0 d6_write_36
  · have h0 := og_t hc2 h0
    refine lv_iconst (v := (-1)) hx hb d6_write_11 (by decide) ?_
    exact q_iret S hr hlk hR hS h0 d6_write_12
/-! FourTenGates.wipe()I -/
abbrev rm6_wipe : Room := { frames := 1, cells := 0, slots := 0, locals := 21 }
theorem d6_wipe_0 : decode cX6_wipe 0 = .ok (.aload_n 0, 1) := by decide +kernel
theorem d6_wipe_1 : decode cX6_wipe 1 = .ok (.getfield 10, 3) := by decide +kernel
theorem d6_wipe_4 : decode cX6_wipe 4 = .ok (.invokevirtual 99, 3) := by decide +kernel
theorem d6_wipe_7 : decode cX6_wipe 7 = .ok (.ireturn, 1) := by decide +kernel
def f6_wipe (σ : Mem) : Option (Mem × Int32) := ob (f5_empty σ 1) fun σ1 r1 => some (σ1, r1)
set_option maxHeartbeats 4000000 in
set_option maxRecDepth 100000 in
theorem c6_wipe (l : Launch) {w : WV} {σ : Mem} {σ' : Mem} {r : Int32} (h0 : f6_wipe σ = some (σ', r)) : Met l yX6_wipe (wy yX6_wipe cX6_wipe 1 (some .int)) rm6_wipe (Pw EC LC w [.ref (w.2.2 0)] σ) (Qw EC LC w σ' (some (.int r))) 0 0 (AW LC w) := by
  refine mk_met (by decide) (Nat.le_of_ble_eq_true rfl) ?_
  intro p e s m below meth c S hr hlk hK hR ls hl
  obtain ⟨hx, hb, hml, hown, hts⟩ := id S
  have hl : lv_has ls 1 [(0, .ref (w.2.2 0))] := hl
  have hS : va_S (AW LC w) s.heap s.heap [] := va_S.rf
  unfold f6_wipe at h0
  refine lv_aload_n hx hb d6_wipe_0 rfl (lv_at hl 0 rfl) ?_
  refine g6_10 S hK hR d6_wipe_1 ?_
  obtain ⟨σ1, r1, hr1, h0⟩ := og_o h0
  refine k6_99 S hK hR hS (by decide) hr1 ⟨Nat.zero_le _, Nat.zero_le _⟩ ⟨Nat.le_of_ble_eq_true rfl, Nat.le_of_ble_eq_true rfl⟩ hl.1 (Nat.le_of_ble_eq_true rfl) d6_wipe_4 (fun H locs hR hS => ?_)
  exact q_iret S hr hlk hR hS h0 d6_wipe_7
/-! FourTenGates.fault()I -/
abbrev rm6_fault : Room := { frames := 5, cells := 0, slots := 0, locals := 118 }
theorem d6_fault_0 : decode cX6_fault 0 = .ok (.aload_n 0, 1) := by decide +kernel
theorem d6_fault_1 : decode cX6_fault 1 = .ok (.getfield 10, 3) := by decide +kernel
theorem d6_fault_4 : decode cX6_fault 4 = .ok (.aload_n 0, 1) := by decide +kernel
theorem d6_fault_5 : decode cX6_fault 5 = .ok (.getfield 23, 3) := by decide +kernel
theorem d6_fault_8 : decode cX6_fault 8 = .ok (.invokevirtual 109, 3) := by decide +kernel
theorem d6_fault_11 : decode cX6_fault 11 = .ok (.ireturn, 1) := by decide +kernel
def f6_fault (σ : Mem) : Option (Mem × Int32) := ob (f5_readInto σ 1 17) fun σ1 r1 => some (σ1, r1)
set_option maxHeartbeats 4000000 in
set_option maxRecDepth 100000 in
theorem c6_fault (l : Launch) {w : WV} {σ : Mem} {σ' : Mem} {r : Int32} (h0 : f6_fault σ = some (σ', r)) : Met l yX6_fault (wy yX6_fault cX6_fault 1 (some .int)) rm6_fault (Pw EC LC w [.ref (w.2.2 0)] σ) (Qw EC LC w σ' (some (.int r))) 0 0 (AW LC w) := by
  refine mk_met (by decide) (Nat.le_of_ble_eq_true rfl) ?_
  intro p e s m below meth c S hr hlk hK hR ls hl
  obtain ⟨hx, hb, hml, hown, hts⟩ := id S
  have hl : lv_has ls 1 [(0, .ref (w.2.2 0))] := hl
  have hS : va_S (AW LC w) s.heap s.heap [] := va_S.rf
  unfold f6_fault at h0
  refine lv_aload_n hx hb d6_fault_0 rfl (lv_at hl 0 rfl) ?_
  refine g6_10 S hK hR d6_fault_1 ?_
  refine lv_aload_n hx hb d6_fault_4 rfl (lv_at hl 0 rfl) ?_
  refine g6_23 S hK hR d6_fault_5 ?_
  obtain ⟨σ1, r1, hr1, h0⟩ := og_o h0
  refine k6_109 S hK hR hS (by decide) (by decide) hr1 ⟨Nat.zero_le _, Nat.zero_le _⟩ ⟨Nat.le_of_ble_eq_true rfl, Nat.le_of_ble_eq_true rfl⟩ hl.1 (Nat.le_of_ble_eq_true rfl) d6_fault_8 (fun H locs hR hS => ?_)
  exact q_iret S hr hlk hR hS h0 d6_fault_11
/-! FourTenGates.lay()I -/
abbrev rm6_lay : Room := { frames := 6, cells := 0, slots := 0, locals := 138 }
theorem d6_lay_0 : decode cX6_lay 0 = .ok (.aload_n 0, 1) := by decide +kernel
theorem d6_lay_1 : decode cX6_lay 1 = .ok (.invokevirtual 95, 3) := by decide +kernel
theorem d6_lay_4 : decode cX6_lay 4 = .ok (.ifCond .eq 16, 3) := by decide +kernel
theorem d6_lay_7 : decode cX6_lay 7 = .ok (.aload_n 0, 1) := by decide +kernel
theorem d6_lay_8 : decode cX6_lay 8 = .ok (.getfield 19, 3) := by decide +kernel
theorem d6_lay_11 : decode cX6_lay 11 = .ok (.getfield 113, 3) := by decide +kernel
theorem d6_lay_14 : decode cX6_lay 14 = .ok (.invokevirtual 116, 3) := by decide +kernel
theorem d6_lay_17 : decode cX6_lay 17 = .ok (.goto 5, 3) := by decide +kernel
theorem d6_lay_20 : decode cX6_lay 20 = .ok (.bipush (-2), 2) := by decide +kernel
theorem d6_lay_22 : decode cX6_lay 22 = .ok (.ireturn, 1) := by decide +kernel
def f6_lay (σ : Mem) : Option (Mem × Int32) := ob (f6_layText σ) fun σ1 r1 => if r1 = 0 then some (σ1, (-2)) else Option.bind (f2_size σ1 4) fun r3 => some (σ1, r3)
set_option maxHeartbeats 4000000 in
set_option maxRecDepth 100000 in
theorem c6_lay (l : Launch) {w : WV} {σ : Mem} {σ' : Mem} {r : Int32} (h0 : f6_lay σ = some (σ', r)) : Met l yX6_lay (wy yX6_lay cX6_lay 1 (some .int)) rm6_lay (Pw EC LC w [.ref (w.2.2 0)] σ) (Qw EC LC w σ' (some (.int r))) 0 0 (AW LC w) := by
  refine mk_met (by decide) (Nat.le_of_ble_eq_true rfl) ?_
  intro p e s m below meth c S hr hlk hK hR ls hl
  obtain ⟨hx, hb, hml, hown, hts⟩ := id S
  have hl : lv_has ls 1 [(0, .ref (w.2.2 0))] := hl
  have hS : va_S (AW LC w) s.heap s.heap [] := va_S.rf
  unfold f6_lay at h0
  refine lv_aload_n hx hb d6_lay_0 rfl (lv_at hl 0 rfl) ?_
  obtain ⟨σ1, r1, hr1, h0⟩ := og_o h0
  refine k6_95 S hK hR hS  hr1 ⟨Nat.zero_le _, Nat.zero_le _⟩ ⟨Nat.le_of_ble_eq_true rfl, Nat.le_of_ble_eq_true rfl⟩ hl.1 (Nat.le_of_ble_eq_true rfl) d6_lay_1 (fun H locs hR hS => ?_)
  refine lv_if_eq (tgt := 20) hx hb d6_lay_4 (by decide) (fun hc2 => ?_) (fun hc2 => ?_)
  · have h0 := og_t hc2 h0
    refine lv_bipush (v := (-2)) hx hb d6_lay_20 (by decide) ?_
    exact q_iret S hr hlk hR hS h0 d6_lay_22
  · have h0 := og_f hc2 h0
    refine lv_aload_n hx hb d6_lay_7 rfl (lv_at hl 0 rfl) ?_
    refine g6_19 S hK hR d6_lay_8 ?_
    refine g6_113 S hK hR (by decide) rfl d6_lay_11 ?_
    obtain ⟨r3, hr3, h0⟩ := og_b h0
    refine k6_116 S hK hR (by decide) hr3 ⟨Nat.zero_le _, Nat.zero_le _⟩ ⟨Nat.le_of_ble_eq_true rfl, Nat.le_of_ble_eq_true rfl⟩ hl.1 (Nat.le_of_ble_eq_true rfl) d6_lay_14 ?_
    refine lv_goto (tgt := 22) hx hb d6_lay_17 (by decide) ?_
    exact q_iret S hr hlk hR hS h0 d6_lay_22
