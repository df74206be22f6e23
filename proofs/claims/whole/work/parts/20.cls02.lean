/-! FourTenGates$Hour.isTrainAwaited(I)Z -/
abbrev rm1_isTrainAwaited : Room := { frames := 1, cells := 0, slots := 0, locals := 22 }
theorem d1_isTrainAwaited_0 : decode cX1_isTrainAwaited 0 = .ok (.iconst 0, 1) := by decide +kernel
theorem d1_isTrainAwaited_1 : decode cX1_isTrainAwaited 1 = .ok (.istore_n 2, 1) := by decide +kernel
theorem d1_isTrainAwaited_2 : decode cX1_isTrainAwaited 2 = .ok (.iload_n 2, 1) := by decide +kernel
theorem d1_isTrainAwaited_3 : decode cX1_isTrainAwaited 3 = .ok (.bipush 6, 2) := by decide +kernel
theorem d1_isTrainAwaited_5 : decode cX1_isTrainAwaited 5 = .ok (.if_icmp .ge 30, 3) := by decide +kernel
theorem d1_isTrainAwaited_8 : decode cX1_isTrainAwaited 8 = .ok (.iload_n 1, 1) := by decide +kernel
theorem d1_isTrainAwaited_9 : decode cX1_isTrainAwaited 9 = .ok (.aload_n 0, 1) := by decide +kernel
theorem d1_isTrainAwaited_10 : decode cX1_isTrainAwaited 10 = .ok (.getfield 18, 3) := by decide +kernel
theorem d1_isTrainAwaited_13 : decode cX1_isTrainAwaited 13 = .ok (.iload_n 2, 1) := by decide +kernel
theorem d1_isTrainAwaited_14 : decode cX1_isTrainAwaited 14 = .ok (.iaload, 1) := by decide +kernel
theorem d1_isTrainAwaited_15 : decode cX1_isTrainAwaited 15 = .ok (.if_icmp .lt 14, 3) := by decide +kernel
theorem d1_isTrainAwaited_18 : decode cX1_isTrainAwaited 18 = .ok (.aload_n 0, 1) := by decide +kernel
theorem d1_isTrainAwaited_19 : decode cX1_isTrainAwaited 19 = .ok (.iload_n 2, 1) := by decide +kernel
theorem d1_isTrainAwaited_20 : decode cX1_isTrainAwaited 20 = .ok (.iload_n 1, 1) := by decide +kernel
theorem d1_isTrainAwaited_21 : decode cX1_isTrainAwaited 21 = .ok (.invokevirtual 144, 3) := by decide +kernel
theorem d1_isTrainAwaited_24 : decode cX1_isTrainAwaited 24 = .ok (.ifCond .ne 5, 3) := by decide +kernel
theorem d1_isTrainAwaited_27 : decode cX1_isTrainAwaited 27 = .ok (.iconst 1, 1) := by decide +kernel
theorem d1_isTrainAwaited_28 : decode cX1_isTrainAwaited 28 = .ok (.ireturn, 1) := by decide +kernel
theorem d1_isTrainAwaited_29 : decode cX1_isTrainAwaited 29 = .ok (.iinc 2 1, 3) := by decide +kernel
theorem d1_isTrainAwaited_32 : decode cX1_isTrainAwaited 32 = .ok (.goto (-30), 3) := by decide +kernel
theorem d1_isTrainAwaited_35 : decode cX1_isTrainAwaited 35 = .ok (.iconst 0, 1) := by decide +kernel
theorem d1_isTrainAwaited_36 : decode cX1_isTrainAwaited 36 = .ok (.ireturn, 1) := by decide +kernel
def f1_isTrainAwaited_b2 (σ : Mem) (h : Nat) : Nat → Int32 → Int32 → Option Int32
  | 0, _, _ => none
  | n + 1, x1, x2 => if 6 ≤ x2 then some 0 else if ¬ (x2 < 0 ∨ 6 ≤ x2.toNatClampNeg) then if x1 < (σ (h + 3) x2.toNatClampNeg) then f1_isTrainAwaited_b2 σ h n x1 (x2 + 1) else Option.bind (f1_hasPassed σ h x2 x1) fun r4 => if r4 = 0 then some 1 else f1_isTrainAwaited_b2 σ h n x1 (x2 + 1) else none
set_option maxHeartbeats 4000000 in
set_option maxRecDepth 100000 in
theorem t1_isTrainAwaited_b2 {p : Program} {l : Launch} {e : Env} {s : State} {m : MethodId} {args : Array Value} {below : List Frame} {meth : Method} {c : Code} {w : WV} {σ : Mem} {h : Nat} {r : Int32} (S : CallFix p m c cX1_isTrainAwaited 3 s args gtbl RX1) (hr : meth.sig.returnType = (some .boolean)) (hlk : meth.locks = false) (hK : KS LC w s) (hR : Rp EC LC w σ s.heap) (hh : h ∈ hourL) : ∀ (n : Nat), ∀ (x1 : Int32) (x2 : Int32), f1_isTrainAwaited_b2 σ h n x1 x2 = some r → ∀ (ls : Array Slot), lv_has ls 3 [(0, .ref (w.2.2 h)), (1, .int x1), (2, .int x2)] → W p l e rm1_isTrainAwaited s m args below meth c s.heap [] 0 0 (MQ below (Qp (.int r)) args s 0 0 (fun _ => False)) (F0 m 2 ls []) := by
  obtain ⟨hx, hb, hml, hown, hts⟩ := id S
  intro n
  induction n with
  | zero =>
    intro x1 x2 h0
    cases (show none = _ from h0)
  | succ n ih =>
    intro x1 x2 h0 ls hl
    rw [f1_isTrainAwaited_b2] at h0
    refine lv_iload_n hx hb d1_isTrainAwaited_2 rfl (lv_at hl 2 rfl) ?_
    refine lv_bipush (v := 6) hx hb d1_isTrainAwaited_3 (by decide) ?_
    refine lv_icmp_ge (tgt := 35) hx hb d1_isTrainAwaited_5 (by decide) (fun hc1 => ?_) (fun hc1 => ?_)
    · have h0 := og_t hc1 h0
      refine lv_iconst (v := 0) hx hb d1_isTrainAwaited_35 (by decide) ?_
      exact q_zpure S hr hlk (Or.inl rfl) h0 d1_isTrainAwaited_36
    · have h0 := og_f hc1 h0
      refine lv_iload_n hx hb d1_isTrainAwaited_8 rfl (lv_at hl 1 rfl) ?_
      refine lv_aload_n hx hb d1_isTrainAwaited_9 rfl (lv_at hl 0 rfl) ?_
      refine g1_18 S hK hR hh rfl d1_isTrainAwaited_10 ?_
      refine lv_iload_n hx hb d1_isTrainAwaited_13 rfl (lv_at hl 2 rfl) ?_
      obtain ⟨hi2, h0⟩ := og_if h0
      refine q_ld (k := x2.toNatClampNeg) S hK hR (oa_1_4 _ hh) (ea_1_4 _ hh w _) hi2 rfl d1_isTrainAwaited_14 ?_
      refine lv_icmp_lt (tgt := 29) hx hb d1_isTrainAwaited_15 (by decide) (fun hc3 => ?_) (fun hc3 => ?_)
      · have h0 := og_t hc3 h0
        refine lv_iinc (v := x2 + 1) (lv' := [(2, .int (x2 + 1)), (0, .ref (w.2.2 h)), (1, .int x1)]) hx hb d1_isTrainAwaited_29 hl (k := 2) rfl (ii1 _) (by decide) rfl (fun ls hl => ?_)
        refine lv_goto (tgt := 2) hx hb d1_isTrainAwaited_32 (by decide) ?_
        exact ih x1 (x2 + 1) h0 _ (lv_sub hl [1, 2, 0] rfl)
      · have h0 := og_f hc3 h0
        refine lv_aload_n hx hb d1_isTrainAwaited_18 rfl (lv_at hl 0 rfl) ?_
        refine lv_iload_n hx hb d1_isTrainAwaited_19 rfl (lv_at hl 2 rfl) ?_
        refine lv_iload_n hx hb d1_isTrainAwaited_20 rfl (lv_at hl 1 rfl) ?_
        obtain ⟨r4, hr4, h0⟩ := og_b h0
        refine k1_144 S hK hR hh hr4 ⟨Nat.zero_le _, Nat.zero_le _⟩ ⟨Nat.le_of_ble_eq_true rfl, Nat.le_of_ble_eq_true rfl⟩ hl.1 (Nat.le_of_ble_eq_true rfl) d1_isTrainAwaited_21 ?_
        refine lv_if_ne (tgt := 29) hx hb d1_isTrainAwaited_24 (by decide) (fun hc5 => ?_) (fun hc5 => ?_)
        · have h0 := og_f hc5 h0
          refine lv_iinc (v := x2 + 1) (lv' := [(2, .int (x2 + 1)), (0, .ref (w.2.2 h)), (1, .int x1)]) hx hb d1_isTrainAwaited_29 hl (k := 2) rfl (ii1 _) (by decide) rfl (fun ls hl => ?_)
          refine lv_goto (tgt := 2) hx hb d1_isTrainAwaited_32 (by decide) ?_
          exact ih x1 (x2 + 1) h0 _ (lv_sub hl [1, 2, 0] rfl)
        · have h0 := og_t hc5 h0
          refine lv_iconst (v := 1) hx hb d1_isTrainAwaited_27 (by decide) ?_
          exact q_zpure S hr hlk (Or.inr rfl) h0 d1_isTrainAwaited_28
def f1_isTrainAwaited (σ : Mem) (h : Nat) (x1 : Int32) : Option Int32 := f1_isTrainAwaited_b2 σ h 1000 x1 0
set_option maxHeartbeats 4000000 in
set_option maxRecDepth 100000 in
theorem c1_isTrainAwaited (l : Launch) {w : WV} {σ : Mem} {h : Nat} {x1 : Int32} {r : Int32} (hh : h ∈ hourL) (h0 : f1_isTrainAwaited σ h x1 = some r) : Met l yX1_isTrainAwaited (wy yX1_isTrainAwaited cX1_isTrainAwaited 3 (some .boolean)) rm1_isTrainAwaited (Pw EC LC w [.ref (w.2.2 h), .int x1] σ) (Qp (.int r)) 0 0 (fun _ => False) := by
  refine mk_met (by decide) (Nat.le_of_ble_eq_true rfl) ?_
  intro p e s m below meth c S hr hlk hK hR ls hl
  obtain ⟨hx, hb, hml, hown, hts⟩ := id S
  have hl : lv_has ls 3 [(0, .ref (w.2.2 h)), (1, .int x1)] := hl
  unfold f1_isTrainAwaited at h0
  refine lv_iconst (v := 0) hx hb d1_isTrainAwaited_0 (by decide) ?_
  refine lv_istore_n (lv' := [(2, .int 0), (0, .ref (w.2.2 h)), (1, .int x1)]) hx hb d1_isTrainAwaited_1 rfl hl (by decide) rfl (fun ls hl => ?_)
  exact t1_isTrainAwaited_b2 S hr hlk hK hR hh 1000 x1 0 h0 _ (lv_sub hl [1, 2, 0] rfl)
set_option maxHeartbeats 4000000 in
set_option maxRecDepth 100000 in
theorem k1_138 {p : Program} {l : Launch} {e : Env} {R : Room} {s : State} {m : MethodId} {args : Array Value} {below : List Frame} {meth : Method} {c : Code} {H : Heap} {locs : List Loc} {cells slots : Nat} {Q : State → Prop} {cc : ByteArray} {pc nL : Nat} {ls : Array Slot} {rest : List Value} {w : WV} {σ : Mem} {h : Nat} {x1 : Int32} {r : Int32} (S : CallFix p m c cc nL s args gtbl RX1) (hK : KS LC w s) (hR : Rp EC LC w σ H) (hh : h ∈ hourL) (h0 : f1_isTrainAwaited σ h x1 = some r) (hf : cells + 0 ≤ R.cells ∧ slots + 0 ≤ R.slots) (hRm : rm1_isTrainAwaited.frames + 1 ≤ R.frames ∧ 8 + (3 + 11) + rm1_isTrainAwaited.locals ≤ R.locals) (hl : ls.size = nL) (hW : (rest.map fun v => v.category).sum ≤ 8) (hdg : decode cc pc = .ok (.invokevirtual 138, 3)) (kk : W p l e R s m args below meth c H locs cells slots Q (F0 m (pc + 3) ls (.int r :: rest))) : W p l e R s m args below meth c H locs cells slots Q (F0 m pc ls (.int x1 :: .ref (w.2.2 h) :: rest)) := r_endp (run_V (n := 1) (As := [.int x1]) S hK hR (ok_1 _ hh) (eC_1 _ hh w _) rfl (gw_V (gt_at 636 (by decide +kernel) (by decide +kernel)) (gt_at 638 (by decide +kernel) (by decide +kernel)) (gt_at 21 (by decide +kernel) (by decide +kernel)) (gt_at 80 (by decide +kernel) (by decide +kernel)) (gt_at 639 (by decide +kernel) (by decide +kernel))) (by decide +kernel) rfl (c1_isTrainAwaited l hh h0) ⟨rfl, rfl⟩ hRm hf hl rfl hW hdg) kk
/-! FourTenGates$Hour.isTrainDueByBook(I)Z -/
abbrev rm1_isTrainDueByBook : Room := { frames := 1, cells := 0, slots := 0, locals := 22 }
theorem d1_isTrainDueByBook_0 : decode cX1_isTrainDueByBook 0 = .ok (.iconst 0, 1) := by decide +kernel
theorem d1_isTrainDueByBook_1 : decode cX1_isTrainDueByBook 1 = .ok (.istore_n 2, 1) := by decide +kernel
theorem d1_isTrainDueByBook_2 : decode cX1_isTrainDueByBook 2 = .ok (.iload_n 2, 1) := by decide +kernel
theorem d1_isTrainDueByBook_3 : decode cX1_isTrainDueByBook 3 = .ok (.aload_n 0, 1) := by decide +kernel
theorem d1_isTrainDueByBook_4 : decode cX1_isTrainDueByBook 4 = .ok (.getfield 65, 3) := by decide +kernel
theorem d1_isTrainDueByBook_7 : decode cX1_isTrainDueByBook 7 = .ok (.getfield 95, 3) := by decide +kernel
theorem d1_isTrainDueByBook_10 : decode cX1_isTrainDueByBook 10 = .ok (.invokevirtual 101, 3) := by decide +kernel
theorem d1_isTrainDueByBook_13 : decode cX1_isTrainDueByBook 13 = .ok (.if_icmp .ge 62, 3) := by decide +kernel
theorem d1_isTrainDueByBook_16 : decode cX1_isTrainDueByBook 16 = .ok (.aload_n 0, 1) := by decide +kernel
theorem d1_isTrainDueByBook_17 : decode cX1_isTrainDueByBook 17 = .ok (.getfield 65, 3) := by decide +kernel
theorem d1_isTrainDueByBook_20 : decode cX1_isTrainDueByBook 20 = .ok (.getfield 95, 3) := by decide +kernel
theorem d1_isTrainDueByBook_23 : decode cX1_isTrainDueByBook 23 = .ok (.iload_n 2, 1) := by decide +kernel
theorem d1_isTrainDueByBook_24 : decode cX1_isTrainDueByBook 24 = .ok (.invokevirtual 148, 3) := by decide +kernel
theorem d1_isTrainDueByBook_27 : decode cX1_isTrainDueByBook 27 = .ok (.bipush 6, 2) := by decide +kernel
theorem d1_isTrainDueByBook_29 : decode cX1_isTrainDueByBook 29 = .ok (.imul, 1) := by decide +kernel
theorem d1_isTrainDueByBook_30 : decode cX1_isTrainDueByBook 30 = .ok (.istore_n 3, 1) := by decide +kernel
theorem d1_isTrainDueByBook_31 : decode cX1_isTrainDueByBook 31 = .ok (.aload_n 0, 1) := by decide +kernel
theorem d1_isTrainDueByBook_32 : decode cX1_isTrainDueByBook 32 = .ok (.getfield 65, 3) := by decide +kernel
theorem d1_isTrainDueByBook_35 : decode cX1_isTrainDueByBook 35 = .ok (.getfield 95, 3) := by decide +kernel
theorem d1_isTrainDueByBook_38 : decode cX1_isTrainDueByBook 38 = .ok (.iload_n 2, 1) := by decide +kernel
theorem d1_isTrainDueByBook_39 : decode cX1_isTrainDueByBook 39 = .ok (.invokevirtual 114, 3) := by decide +kernel
theorem d1_isTrainDueByBook_42 : decode cX1_isTrainDueByBook 42 = .ok (.iconst 2, 1) := by decide +kernel
theorem d1_isTrainDueByBook_43 : decode cX1_isTrainDueByBook 43 = .ok (.if_icmp .eq 26, 3) := by decide +kernel
theorem d1_isTrainDueByBook_46 : decode cX1_isTrainDueByBook 46 = .ok (.iload_n 3, 1) := by decide +kernel
theorem d1_isTrainDueByBook_47 : decode cX1_isTrainDueByBook 47 = .ok (.iload_n 1, 1) := by decide +kernel
theorem d1_isTrainDueByBook_48 : decode cX1_isTrainDueByBook 48 = .ok (.iload_n 1, 1) := by decide +kernel
theorem d1_isTrainDueByBook_49 : decode cX1_isTrainDueByBook 49 = .ok (.bipush 24, 2) := by decide +kernel
theorem d1_isTrainDueByBook_51 : decode cX1_isTrainDueByBook 51 = .ok (.iadd, 1) := by decide +kernel
theorem d1_isTrainDueByBook_52 : decode cX1_isTrainDueByBook 52 = .ok (.invokestatic 151, 3) := by decide +kernel
theorem d1_isTrainDueByBook_55 : decode cX1_isTrainDueByBook 55 = .ok (.ifCond .eq 14, 3) := by decide +kernel
theorem d1_isTrainDueByBook_58 : decode cX1_isTrainDueByBook 58 = .ok (.aload_n 0, 1) := by decide +kernel
theorem d1_isTrainDueByBook_59 : decode cX1_isTrainDueByBook 59 = .ok (.iload_n 2, 1) := by decide +kernel
theorem d1_isTrainDueByBook_60 : decode cX1_isTrainDueByBook 60 = .ok (.iload_n 1, 1) := by decide +kernel
theorem d1_isTrainDueByBook_61 : decode cX1_isTrainDueByBook 61 = .ok (.invokevirtual 144, 3) := by decide +kernel
theorem d1_isTrainDueByBook_64 : decode cX1_isTrainDueByBook 64 = .ok (.ifCond .ne 5, 3) := by decide +kernel
theorem d1_isTrainDueByBook_67 : decode cX1_isTrainDueByBook 67 = .ok (.iconst 1, 1) := by decide +kernel
theorem d1_isTrainDueByBook_68 : decode cX1_isTrainDueByBook 68 = .ok (.ireturn, 1) := by decide +kernel
theorem d1_isTrainDueByBook_69 : decode cX1_isTrainDueByBook 69 = .ok (.iinc 2 1, 3) := by decide +kernel
theorem d1_isTrainDueByBook_72 : decode cX1_isTrainDueByBook 72 = .ok (.goto (-70), 3) := by decide +kernel
theorem d1_isTrainDueByBook_75 : decode cX1_isTrainDueByBook 75 = .ok (.iconst 0, 1) := by decide +kernel
theorem d1_isTrainDueByBook_76 : decode cX1_isTrainDueByBook 76 = .ok (.ireturn, 1) := by decide +kernel
def f1_isTrainDueByBook_b2 (σ : Mem) (h : Nat) : Nat → Int32 → Int32 → Option Int32
  | 0, _, _ => none
  | n + 1, x1, x2 => Option.bind (f2_size σ 4) fun r1 => if r1 ≤ x2 then some 0 else Option.bind (f2_first σ 4 x2) fun r3 => Option.bind (f2_second σ 4 x2) fun r4 => if r4 = 2 then f1_isTrainDueByBook_b2 σ h n x1 (x2 + 1) else Option.bind (f6_between (r3 * 6) x1 (x1 + 24)) fun r6 => if r6 = 0 then f1_isTrainDueByBook_b2 σ h n x1 (x2 + 1) else Option.bind (f1_hasPassed σ h x2 x1) fun r8 => if r8 = 0 then some 1 else f1_isTrainDueByBook_b2 σ h n x1 (x2 + 1)
set_option maxHeartbeats 4000000 in
set_option maxRecDepth 100000 in
theorem t1_isTrainDueByBook_b2 {p : Program} {l : Launch} {e : Env} {s : State} {m : MethodId} {args : Array Value} {below : List Frame} {meth : Method} {c : Code} {w : WV} {σ : Mem} {h : Nat} {r : Int32} (S : CallFix p m c cX1_isTrainDueByBook 4 s args gtbl RX1) (hr : meth.sig.returnType = (some .boolean)) (hlk : meth.locks = false) (hK : KS LC w s) (hR : Rp EC LC w σ s.heap) (hh : h ∈ hourL) : ∀ (n : Nat), ∀ (x1 : Int32) (x2 : Int32), f1_isTrainDueByBook_b2 σ h n x1 x2 = some r → ∀ (ls : Array Slot), lv_has ls 4 [(0, .ref (w.2.2 h)), (1, .int x1), (2, .int x2)] → W p l e rm1_isTrainDueByBook s m args below meth c s.heap [] 0 0 (MQ below (Qp (.int r)) args s 0 0 (fun _ => False)) (F0 m 2 ls []) := by
  obtain ⟨hx, hb, hml, hown, hts⟩ := id S
  intro n
  induction n with
  | zero =>
    intro x1 x2 h0
    cases (show none = _ from h0)
  | succ n ih =>
    intro x1 x2 h0 ls hl
    rw [f1_isTrainDueByBook_b2] at h0
    refine lv_iload_n hx hb d1_isTrainDueByBook_2 rfl (lv_at hl 2 rfl) ?_
    refine lv_aload_n hx hb d1_isTrainDueByBook_3 rfl (lv_at hl 0 rfl) ?_
    refine g1_65 S hK hR hh d1_isTrainDueByBook_4 ?_
    refine g1_95 S hK hR (by decide) rfl d1_isTrainDueByBook_7 ?_
    obtain ⟨r1, hr1, h0⟩ := og_b h0
    refine k1_101 S hK hR (by decide) hr1 ⟨Nat.zero_le _, Nat.zero_le _⟩ ⟨Nat.le_of_ble_eq_true rfl, Nat.le_of_ble_eq_true rfl⟩ hl.1 (Nat.le_of_ble_eq_true rfl) d1_isTrainDueByBook_10 ?_
    refine lv_icmp_ge (tgt := 75) hx hb d1_isTrainDueByBook_13 (by decide) (fun hc2 => ?_) (fun hc2 => ?_)
    · have h0 := og_t hc2 h0
      refine lv_iconst (v := 0) hx hb d1_isTrainDueByBook_75 (by decide) ?_
      exact q_zpure S hr hlk (Or.inl rfl) h0 d1_isTrainDueByBook_76
    · have h0 := og_f hc2 h0
      refine lv_aload_n hx hb d1_isTrainDueByBook_16 rfl (lv_at hl 0 rfl) ?_
      refine g1_65 S hK hR hh d1_isTrainDueByBook_17 ?_
      refine g1_95 S hK hR (by decide) rfl d1_isTrainDueByBook_20 ?_
      refine lv_iload_n hx hb d1_isTrainDueByBook_23 rfl (lv_at hl 2 rfl) ?_
      obtain ⟨r3, hr3, h0⟩ := og_b h0
      refine k1_148 S hK hR (by decide) hr3 ⟨Nat.zero_le _, Nat.zero_le _⟩ ⟨Nat.le_of_ble_eq_true rfl, Nat.le_of_ble_eq_true rfl⟩ hl.1 (Nat.le_of_ble_eq_true rfl) d1_isTrainDueByBook_24 ?_
      refine lv_bipush (v := 6) hx hb d1_isTrainDueByBook_27 (by decide) ?_
      refine lv_imul hx hb d1_isTrainDueByBook_29 ?_
      refine lv_istore_n (lv' := [(3, .int (r3 * 6)), (0, .ref (w.2.2 h)), (1, .int x1), (2, .int x2)]) hx hb d1_isTrainDueByBook_30 rfl hl (by decide) rfl (fun ls hl => ?_)
      refine lv_aload_n hx hb d1_isTrainDueByBook_31 rfl (lv_at hl 1 rfl) ?_
      refine g1_65 S hK hR hh d1_isTrainDueByBook_32 ?_
      refine g1_95 S hK hR (by decide) rfl d1_isTrainDueByBook_35 ?_
      refine lv_iload_n hx hb d1_isTrainDueByBook_38 rfl (lv_at hl 3 rfl) ?_
      obtain ⟨r4, hr4, h0⟩ := og_b h0
      refine k1_114 S hK hR (by decide) hr4 ⟨Nat.zero_le _, Nat.zero_le _⟩ ⟨Nat.le_of_ble_eq_true rfl, Nat.le_of_ble_eq_true rfl⟩ hl.1 (Nat.le_of_ble_eq_true rfl) d1_isTrainDueByBook_39 ?_
      refine lv_iconst (v := 2) hx hb d1_isTrainDueByBook_42 (by decide) ?_
      refine lv_icmp_eq (tgt := 69) hx hb d1_isTrainDueByBook_43 (by decide) (fun hc5 => ?_) (fun hc5 => ?_)
      · have h0 := og_t hc5 h0
        refine lv_iinc (v := x2 + 1) (lv' := [(2, .int (x2 + 1)), (3, .int (r3 * 6)), (0, .ref (w.2.2 h)), (1, .int x1)]) hx hb d1_isTrainDueByBook_69 hl (k := 3) rfl (ii1 _) (by decide) rfl (fun ls hl => ?_)
        refine lv_goto (tgt := 2) hx hb d1_isTrainDueByBook_72 (by decide) ?_
        exact ih x1 (x2 + 1) h0 _ (lv_sub hl [2, 3, 0] rfl)
      · have h0 := og_f hc5 h0
        refine lv_iload_n hx hb d1_isTrainDueByBook_46 rfl (lv_at hl 0 rfl) ?_
        refine lv_iload_n hx hb d1_isTrainDueByBook_47 rfl (lv_at hl 2 rfl) ?_
        refine lv_iload_n hx hb d1_isTrainDueByBook_48 rfl (lv_at hl 2 rfl) ?_
        refine lv_bipush (v := 24) hx hb d1_isTrainDueByBook_49 (by decide) ?_
        refine lv_iadd hx hb d1_isTrainDueByBook_51 ?_
        obtain ⟨r6, hr6, h0⟩ := og_b h0
        refine k1_151 S hK  hr6 ⟨Nat.zero_le _, Nat.zero_le _⟩ ⟨Nat.le_of_ble_eq_true rfl, Nat.le_of_ble_eq_true rfl⟩ hl.1 (Nat.le_of_ble_eq_true rfl) d1_isTrainDueByBook_52 ?_
        refine lv_if_eq (tgt := 69) hx hb d1_isTrainDueByBook_55 (by decide) (fun hc7 => ?_) (fun hc7 => ?_)
        · have h0 := og_t hc7 h0
          refine lv_iinc (v := x2 + 1) (lv' := [(2, .int (x2 + 1)), (3, .int (r3 * 6)), (0, .ref (w.2.2 h)), (1, .int x1)]) hx hb d1_isTrainDueByBook_69 hl (k := 3) rfl (ii1 _) (by decide) rfl (fun ls hl => ?_)
          refine lv_goto (tgt := 2) hx hb d1_isTrainDueByBook_72 (by decide) ?_
          exact ih x1 (x2 + 1) h0 _ (lv_sub hl [2, 3, 0] rfl)
        · have h0 := og_f hc7 h0
          refine lv_aload_n hx hb d1_isTrainDueByBook_58 rfl (lv_at hl 1 rfl) ?_
          refine lv_iload_n hx hb d1_isTrainDueByBook_59 rfl (lv_at hl 3 rfl) ?_
          refine lv_iload_n hx hb d1_isTrainDueByBook_60 rfl (lv_at hl 2 rfl) ?_
          obtain ⟨r8, hr8, h0⟩ := og_b h0
          refine k1_144 S hK hR hh hr8 ⟨Nat.zero_le _, Nat.zero_le _⟩ ⟨Nat.le_of_ble_eq_true rfl, Nat.le_of_ble_eq_true rfl⟩ hl.1 (Nat.le_of_ble_eq_true rfl) d1_isTrainDueByBook_61 ?_
          refine lv_if_ne (tgt := 69) hx hb d1_isTrainDueByBook_64 (by decide) (fun hc9 => ?_) (fun hc9 => ?_)
          · have h0 := og_f hc9 h0
            refine lv_iinc (v := x2 + 1) (lv' := [(2, .int (x2 + 1)), (3, .int (r3 * 6)), (0, .ref (w.2.2 h)), (1, .int x1)]) hx hb d1_isTrainDueByBook_69 hl (k := 3) rfl (ii1 _) (by decide) rfl (fun ls hl => ?_)
            refine lv_goto (tgt := 2) hx hb d1_isTrainDueByBook_72 (by decide) ?_
            exact ih x1 (x2 + 1) h0 _ (lv_sub hl [2, 3, 0] rfl)
          · have h0 := og_t hc9 h0
            refine lv_iconst (v := 1) hx hb d1_isTrainDueByBook_67 (by decide) ?_
            exact q_zpure S hr hlk (Or.inr rfl) h0 d1_isTrainDueByBook_68
def f1_isTrainDueByBook (σ : Mem) (h : Nat) (x1 : Int32) : Option Int32 := f1_isTrainDueByBook_b2 σ h 1000 x1 0
set_option maxHeartbeats 4000000 in
set_option maxRecDepth 100000 in
theorem c1_isTrainDueByBook (l : Launch) {w : WV} {σ : Mem} {h : Nat} {x1 : Int32} {r : Int32} (hh : h ∈ hourL) (h0 : f1_isTrainDueByBook σ h x1 = some r) : Met l yX1_isTrainDueByBook (wy yX1_isTrainDueByBook cX1_isTrainDueByBook 4 (some .boolean)) rm1_isTrainDueByBook (Pw EC LC w [.ref (w.2.2 h), .int x1] σ) (Qp (.int r)) 0 0 (fun _ => False) := by
  refine mk_met (by decide) (Nat.le_of_ble_eq_true rfl) ?_
  intro p e s m below meth c S hr hlk hK hR ls hl
  obtain ⟨hx, hb, hml, hown, hts⟩ := id S
  have hl : lv_has ls 4 [(0, .ref (w.2.2 h)), (1, .int x1)] := hl
  unfold f1_isTrainDueByBook at h0
  refine lv_iconst (v := 0) hx hb d1_isTrainDueByBook_0 (by decide) ?_
  refine lv_istore_n (lv' := [(2, .int 0), (0, .ref (w.2.2 h)), (1, .int x1)]) hx hb d1_isTrainDueByBook_1 rfl hl (by decide) rfl (fun ls hl => ?_)
  exact t1_isTrainDueByBook_b2 S hr hlk hK hR hh 1000 x1 0 h0 _ (lv_sub hl [1, 2, 0] rfl)
set_option maxHeartbeats 4000000 in
set_option maxRecDepth 100000 in
theorem k1_141 {p : Program} {l : Launch} {e : Env} {R : Room} {s : State} {m : MethodId} {args : Array Value} {below : List Frame} {meth : Method} {c : Code} {H : Heap} {locs : List Loc} {cells slots : Nat} {Q : State → Prop} {cc : ByteArray} {pc nL : Nat} {ls : Array Slot} {rest : List Value} {w : WV} {σ : Mem} {h : Nat} {x1 : Int32} {r : Int32} (S : CallFix p m c cc nL s args gtbl RX1) (hK : KS LC w s) (hR : Rp EC LC w σ H) (hh : h ∈ hourL) (h0 : f1_isTrainDueByBook σ h x1 = some r) (hf : cells + 0 ≤ R.cells ∧ slots + 0 ≤ R.slots) (hRm : rm1_isTrainDueByBook.frames + 1 ≤ R.frames ∧ 8 + (4 + 11) + rm1_isTrainDueByBook.locals ≤ R.locals) (hl : ls.size = nL) (hW : (rest.map fun v => v.category).sum ≤ 8) (hdg : decode cc pc = .ok (.invokevirtual 141, 3)) (kk : W p l e R s m args below meth c H locs cells slots Q (F0 m (pc + 3) ls (.int r :: rest))) : W p l e R s m args below meth c H locs cells slots Q (F0 m pc ls (.int x1 :: .ref (w.2.2 h) :: rest)) := r_endp (run_V (n := 1) (As := [.int x1]) S hK hR (ok_1 _ hh) (eC_1 _ hh w _) rfl (gw_V (gt_at 644 (by decide +kernel) (by decide +kernel)) (gt_at 646 (by decide +kernel) (by decide +kernel)) (gt_at 23 (by decide +kernel) (by decide +kernel)) (gt_at 80 (by decide +kernel) (by decide +kernel)) (gt_at 647 (by decide +kernel) (by decide +kernel))) (by decide +kernel) rfl (c1_isTrainDueByBook l hh h0) ⟨rfl, rfl⟩ hRm hf hl rfl hW hdg) kk
/-! FourTenGates$Hour.wantsShut(I)Z -/
abbrev rm1_wantsShut : Room := { frames := 2, cells := 0, slots := 0, locals := 45 }
theorem d1_wantsShut_0 : decode cX1_wantsShut 0 = .ok (.aload_n 0, 1) := by decide +kernel
theorem d1_wantsShut_1 : decode cX1_wantsShut 1 = .ok (.getfield 41, 3) := by decide +kernel
theorem d1_wantsShut_4 : decode cX1_wantsShut 4 = .ok (.tableswitch 81 0 4 #[36, 81, 45, 51, 81], 36) := by decide +kernel
theorem d1_wantsShut_40 : decode cX1_wantsShut 40 = .ok (.aload_n 0, 1) := by decide +kernel
theorem d1_wantsShut_41 : decode cX1_wantsShut 41 = .ok (.getfield 69, 3) := by decide +kernel
theorem d1_wantsShut_44 : decode cX1_wantsShut 44 = .ok (.iload_n 1, 1) := by decide +kernel
theorem d1_wantsShut_45 : decode cX1_wantsShut 45 = .ok (.invokevirtual 135, 3) := by decide +kernel
theorem d1_wantsShut_48 : decode cX1_wantsShut 48 = .ok (.ireturn, 1) := by decide +kernel
theorem d1_wantsShut_49 : decode cX1_wantsShut 49 = .ok (.aload_n 0, 1) := by decide +kernel
theorem d1_wantsShut_50 : decode cX1_wantsShut 50 = .ok (.iload_n 1, 1) := by decide +kernel
theorem d1_wantsShut_51 : decode cX1_wantsShut 51 = .ok (.invokevirtual 132, 3) := by decide +kernel
theorem d1_wantsShut_54 : decode cX1_wantsShut 54 = .ok (.ireturn, 1) := by decide +kernel
theorem d1_wantsShut_55 : decode cX1_wantsShut 55 = .ok (.aload_n 0, 1) := by decide +kernel
theorem d1_wantsShut_56 : decode cX1_wantsShut 56 = .ok (.iload_n 1, 1) := by decide +kernel
theorem d1_wantsShut_57 : decode cX1_wantsShut 57 = .ok (.invokevirtual 138, 3) := by decide +kernel
theorem d1_wantsShut_60 : decode cX1_wantsShut 60 = .ok (.ifCond .ne 19, 3) := by decide +kernel
theorem d1_wantsShut_63 : decode cX1_wantsShut 63 = .ok (.aload_n 0, 1) := by decide +kernel
theorem d1_wantsShut_64 : decode cX1_wantsShut 64 = .ok (.iload_n 1, 1) := by decide +kernel
theorem d1_wantsShut_65 : decode cX1_wantsShut 65 = .ok (.invokevirtual 132, 3) := by decide +kernel
theorem d1_wantsShut_68 : decode cX1_wantsShut 68 = .ok (.ifCond .ne 11, 3) := by decide +kernel
theorem d1_wantsShut_71 : decode cX1_wantsShut 71 = .ok (.aload_n 0, 1) := by decide +kernel
theorem d1_wantsShut_72 : decode cX1_wantsShut 72 = .ok (.iload_n 1, 1) := by decide +kernel
theorem d1_wantsShut_73 : decode cX1_wantsShut 73 = .ok (.invokevirtual 141, 3) := by decide +kernel
theorem d1_wantsShut_76 : decode cX1_wantsShut 76 = .ok (.ifCond .eq 7, 3) := by decide +kernel
theorem d1_wantsShut_79 : decode cX1_wantsShut 79 = .ok (.iconst 1, 1) := by decide +kernel
theorem d1_wantsShut_80 : decode cX1_wantsShut 80 = .ok (.goto 4, 3) := by decide +kernel
theorem d1_wantsShut_83 : decode cX1_wantsShut 83 = .ok (.iconst 0, 1) := by decide +kernel
theorem d1_wantsShut_84 : decode cX1_wantsShut 84 = .ok (.ireturn, 1) := by decide +kernel
theorem d1_wantsShut_85 : decode cX1_wantsShut 85 = .ok (.aload_n 0, 1) := by decide +kernel
theorem d1_wantsShut_86 : decode cX1_wantsShut 86 = .ok (.iload_n 1, 1) := by decide +kernel
theorem d1_wantsShut_87 : decode cX1_wantsShut 87 = .ok (.invokevirtual 138, 3) := by decide +kernel
theorem d1_wantsShut_90 : decode cX1_wantsShut 90 = .ok (.ireturn, 1) := by decide +kernel
def f1_wantsShut (σ : Mem) (h : Nat) (x1 : Int32) : Option Int32 := if (σ h 11) = 0 then Option.bind (f4_isPlannedShut σ (hst h) x1) fun r2 => if r2 = 0 ∨ r2 = 1 then some r2 else none else if (σ h 11) = 2 then Option.bind (f1_isTrainInSight σ h x1) fun r3 => if r3 = 0 ∨ r3 = 1 then some r3 else none else if (σ h 11) = 3 then Option.bind (f1_isTrainAwaited σ h x1) fun r4 => if r4 = 0 then Option.bind (f1_isTrainInSight σ h x1) fun r6 => if r6 = 0 then Option.bind (f1_isTrainDueByBook σ h x1) fun r8 => if r8 = 0 then some 0 else some 1 else some 1 else some 1 else Option.bind (f1_isTrainAwaited σ h x1) fun r4 => if r4 = 0 ∨ r4 = 1 then some r4 else none
set_option maxHeartbeats 4000000 in
set_option maxRecDepth 100000 in
theorem c1_wantsShut (l : Launch) {w : WV} {σ : Mem} {h : Nat} {x1 : Int32} {r : Int32} (hh : h ∈ hourL) (h0 : f1_wantsShut σ h x1 = some r) : Met l yX1_wantsShut (wy yX1_wantsShut cX1_wantsShut 2 (some .boolean)) rm1_wantsShut (Pw EC LC w [.ref (w.2.2 h), .int x1] σ) (Qp (.int r)) 0 0 (fun _ => False) := by
  refine mk_met (by decide) (Nat.le_of_ble_eq_true rfl) ?_
  intro p e s m below meth c S hr hlk hK hR ls hl
  obtain ⟨hx, hb, hml, hown, hts⟩ := id S
  have hl : lv_has ls 2 [(0, .ref (w.2.2 h)), (1, .int x1)] := hl
  unfold f1_wantsShut at h0
  refine lv_aload_n hx hb d1_wantsShut_0 rfl (lv_at hl 0 rfl) ?_
  refine g1_41 S hK hR hh d1_wantsShut_1 ?_
  by_cases hc1 : (σ h 11) = 0
  · have h0 := og_t hc1 h0
    refine q_tabI (off := 36) (tgt := 40) S d1_wantsShut_4 hc1 (by decide) (by decide) (by decide) (by decide) ?_
    refine lv_aload_n hx hb d1_wantsShut_40 rfl (lv_at hl 0 rfl) ?_
    refine g1_69 S hK hR hh d1_wantsShut_41 ?_
    refine lv_iload_n hx hb d1_wantsShut_44 rfl (lv_at hl 1 rfl) ?_
    obtain ⟨r2, hr2, h0⟩ := og_b h0
    refine k1_135 S hK hR (in_1_1 _ hh) hr2 ⟨Nat.zero_le _, Nat.zero_le _⟩ ⟨Nat.le_of_ble_eq_true rfl, Nat.le_of_ble_eq_true rfl⟩ hl.1 (Nat.le_of_ble_eq_true rfl) d1_wantsShut_45 ?_
    obtain ⟨hb0, h0⟩ := og_if h0
    exact q_zpure S hr hlk hb0 h0 d1_wantsShut_48
  · have h0 := og_f hc1 h0
    by_cases hc2 : (σ h 11) = 2
    · have h0 := og_t hc2 h0
      refine q_tabI (off := 45) (tgt := 49) S d1_wantsShut_4 hc2 (by decide) (by decide) (by decide) (by decide) ?_
      refine lv_aload_n hx hb d1_wantsShut_49 rfl (lv_at hl 0 rfl) ?_
      refine lv_iload_n hx hb d1_wantsShut_50 rfl (lv_at hl 1 rfl) ?_
      obtain ⟨r3, hr3, h0⟩ := og_b h0
      refine k1_132 S hK hR hh hr3 ⟨Nat.zero_le _, Nat.zero_le _⟩ ⟨Nat.le_of_ble_eq_true rfl, Nat.le_of_ble_eq_true rfl⟩ hl.1 (Nat.le_of_ble_eq_true rfl) d1_wantsShut_51 ?_
      obtain ⟨hb0, h0⟩ := og_if h0
      exact q_zpure S hr hlk hb0 h0 d1_wantsShut_54
    · have h0 := og_f hc2 h0
      by_cases hc3 : (σ h 11) = 3
      · have h0 := og_t hc3 h0
        refine q_tabI (off := 51) (tgt := 55) S d1_wantsShut_4 hc3 (by decide) (by decide) (by decide) (by decide) ?_
        refine lv_aload_n hx hb d1_wantsShut_55 rfl (lv_at hl 0 rfl) ?_
        refine lv_iload_n hx hb d1_wantsShut_56 rfl (lv_at hl 1 rfl) ?_
        obtain ⟨r4, hr4, h0⟩ := og_b h0
        refine k1_138 S hK hR hh hr4 ⟨Nat.zero_le _, Nat.zero_le _⟩ ⟨Nat.le_of_ble_eq_true rfl, Nat.le_of_ble_eq_true rfl⟩ hl.1 (Nat.le_of_ble_eq_true rfl) d1_wantsShut_57 ?_
        refine lv_if_ne (tgt := 79) hx hb d1_wantsShut_60 (by decide) (fun hc5 => ?_) (fun hc5 => ?_)
        · have h0 := og_f hc5 h0
          refine lv_iconst (v := 1) hx hb d1_wantsShut_79 (by decide) ?_
          refine lv_goto (tgt := 84) hx hb d1_wantsShut_80 (by decide) ?_
          exact q_zpure S hr hlk (Or.inr rfl) h0 d1_wantsShut_84
        · have h0 := og_t hc5 h0
          refine lv_aload_n hx hb d1_wantsShut_63 rfl (lv_at hl 0 rfl) ?_
          refine lv_iload_n hx hb d1_wantsShut_64 rfl (lv_at hl 1 rfl) ?_
          obtain ⟨r6, hr6, h0⟩ := og_b h0
          refine k1_132 S hK hR hh hr6 ⟨Nat.zero_le _, Nat.zero_le _⟩ ⟨Nat.le_of_ble_eq_true rfl, Nat.le_of_ble_eq_true rfl⟩ hl.1 (Nat.le_of_ble_eq_true rfl) d1_wantsShut_65 ?_
          refine lv_if_ne (tgt := 79) hx hb d1_wantsShut_68 (by decide) (fun hc7 => ?_) (fun hc7 => ?_)
          · have h0 := og_f hc7 h0
            refine lv_iconst (v := 1) hx hb d1_wantsShut_79 (by decide) ?_
            refine lv_goto (tgt := 84) hx hb d1_wantsShut_80 (by decide) ?_
            exact q_zpure S hr hlk (Or.inr rfl) h0 d1_wantsShut_84
          · have h0 := og_t hc7 h0
            refine lv_aload_n hx hb d1_wantsShut_71 rfl (lv_at hl 0 rfl) ?_
            refine lv_iload_n hx hb d1_wantsShut_72 rfl (lv_at hl 1 rfl) ?_
            obtain ⟨r8, hr8, h0⟩ := og_b h0
            refine k1_141 S hK hR hh hr8 ⟨Nat.zero_le _, Nat.zero_le _⟩ ⟨Nat.le_of_ble_eq_true rfl, Nat.le_of_ble_eq_true rfl⟩ hl.1 (Nat.le_of_ble_eq_true rfl) d1_wantsShut_73 ?_
            refine lv_if_eq (tgt := 83) hx hb d1_wantsShut_76 (by decide) (fun hc9 => ?_) (fun hc9 => ?_)
            · have h0 := og_t hc9 h0
              refine lv_iconst (v := 0) hx hb d1_wantsShut_83 (by decide) ?_
              exact q_zpure S hr hlk (Or.inl rfl) h0 d1_wantsShut_84
            · have h0 := og_f hc9 h0
              refine lv_iconst (v := 1) hx hb d1_wantsShut_79 (by decide) ?_
              refine lv_goto (tgt := 84) hx hb d1_wantsShut_80 (by decide) ?_
              exact q_zpure S hr hlk (Or.inr rfl) h0 d1_wantsShut_84
      · have h0 := og_f hc3 h0
        refine q_tabD (tgt := 85) S d1_wantsShut_4 [0, 2, 3] (by decide) (by decide) (List.forall_mem_cons.mpr ⟨ne_toInt hc1 (by decide), List.forall_mem_cons.mpr ⟨ne_toInt hc2 (by decide), List.forall_mem_cons.mpr ⟨ne_toInt hc3 (by decide), fun _ hq => absurd hq List.not_mem_nil⟩⟩⟩) (by decide) ?_
        refine lv_aload_n hx hb d1_wantsShut_85 rfl (lv_at hl 0 rfl) ?_
        refine lv_iload_n hx hb d1_wantsShut_86 rfl (lv_at hl 1 rfl) ?_
        obtain ⟨r4, hr4, h0⟩ := og_b h0
        refine k1_138 S hK hR hh hr4 ⟨Nat.zero_le _, Nat.zero_le _⟩ ⟨Nat.le_of_ble_eq_true rfl, Nat.le_of_ble_eq_true rfl⟩ hl.1 (Nat.le_of_ble_eq_true rfl) d1_wantsShut_87 ?_
        obtain ⟨hb0, h0⟩ := og_if h0
        exact q_zpure S hr hlk hb0 h0 d1_wantsShut_90
set_option maxHeartbeats 4000000 in
set_option maxRecDepth 100000 in
theorem k1_125 {p : Program} {l : Launch} {e : Env} {R : Room} {s : State} {m : MethodId} {args : Array Value} {below : List Frame} {meth : Method} {c : Code} {H : Heap} {locs : List Loc} {cells slots : Nat} {Q : State → Prop} {cc : ByteArray} {pc nL : Nat} {ls : Array Slot} {rest : List Value} {w : WV} {σ : Mem} {h : Nat} {x1 : Int32} {r : Int32} (S : CallFix p m c cc nL s args gtbl RX1) (hK : KS LC w s) (hR : Rp EC LC w σ H) (hh : h ∈ hourL) (h0 : f1_wantsShut σ h x1 = some r) (hf : cells + 0 ≤ R.cells ∧ slots + 0 ≤ R.slots) (hRm : rm1_wantsShut.frames + 1 ≤ R.frames ∧ 8 + (2 + 11) + rm1_wantsShut.locals ≤ R.locals) (hl : ls.size = nL) (hW : (rest.map fun v => v.category).sum ≤ 8) (hdg : decode cc pc = .ok (.invokevirtual 125, 3)) (kk : W p l e R s m args below meth c H locs cells slots Q (F0 m (pc + 3) ls (.int r :: rest))) : W p l e R s m args below meth c H locs cells slots Q (F0 m pc ls (.int x1 :: .ref (w.2.2 h) :: rest)) := r_endp (run_V (n := 1) (As := [.int x1]) S hK hR (ok_1 _ hh) (eC_1 _ hh w _) rfl (gw_V (gt_at 622 (by decide +kernel) (by decide +kernel)) (gt_at 624 (by decide +kernel) (by decide +kernel)) (gt_at 19 (by decide +kernel) (by decide +kernel)) (gt_at 80 (by decide +kernel) (by decide +kernel)) (gt_at 625 (by decide +kernel) (by decide +kernel))) (by decide +kernel) rfl (c1_wantsShut l hh h0) ⟨rfl, rfl⟩ hRm hf hl rfl hW hdg) kk
/-! FourTenGates$Hour.startMoving(I)V -/
abbrev rm1_startMoving : Room := { frames := 0, cells := 0, slots := 0, locals := 0 }
theorem d1_startMoving_0 : decode cX1_startMoving 0 = .ok (.aload_n 0, 1) := by decide +kernel
theorem d1_startMoving_1 : decode cX1_startMoving 1 = .ok (.iconst 1, 1) := by decide +kernel
theorem d1_startMoving_2 : decode cX1_startMoving 2 = .ok (.putfield 47, 3) := by decide +kernel
theorem d1_startMoving_5 : decode cX1_startMoving 5 = .ok (.aload_n 0, 1) := by decide +kernel
theorem d1_startMoving_6 : decode cX1_startMoving 6 = .ok (.iload_n 1, 1) := by decide +kernel
theorem d1_startMoving_7 : decode cX1_startMoving 7 = .ok (.putfield 50, 3) := by decide +kernel
theorem d1_startMoving_10 : decode cX1_startMoving 10 = .ok (.aload_n 0, 1) := by decide +kernel
theorem d1_startMoving_11 : decode cX1_startMoving 11 = .ok (.iconst 0, 1) := by decide +kernel
theorem d1_startMoving_12 : decode cX1_startMoving 12 = .ok (.putfield 53, 3) := by decide +kernel
theorem d1_startMoving_15 : decode cX1_startMoving 15 = .ok (.return_, 1) := by decide +kernel
def f1_startMoving (σ : Mem) (h : Nat) (x1 : Int32) : Option Mem := bm (mu σ h 13 1) fun σ1 => bm (mu σ1 h 14 x1) fun σ2 => bm (mu σ2 h 15 0) fun σ3 => some σ3
set_option maxHeartbeats 4000000 in
set_option maxRecDepth 100000 in
theorem c1_startMoving (l : Launch) {w : WV} {σ : Mem} {h : Nat} {x1 : Int32} {σ' : Mem} (hh : h ∈ hourL) (h0 : f1_startMoving σ h x1 = some σ') : Met l yX1_startMoving (wy yX1_startMoving cX1_startMoving 2 none) rm1_startMoving (Pw EC LC w [.ref (w.2.2 h), .int x1] σ) (Qw EC LC w σ' none) 0 0 (AW LC w) := by
  refine mk_met (by decide) (Nat.le_of_ble_eq_true rfl) ?_
  intro p e s m below meth c S hr hlk hK hR ls hl
  obtain ⟨hx, hb, hml, hown, hts⟩ := id S
  have hl : lv_has ls 2 [(0, .ref (w.2.2 h)), (1, .int x1)] := hl
  have hS : va_S (AW LC w) s.heap s.heap [] := va_S.rf
  unfold f1_startMoving at h0
  refine lv_aload_n hx hb d1_startMoving_0 rfl (lv_at hl 0 rfl) ?_
  refine lv_iconst (v := 1) hx hb d1_startMoving_1 (by decide) ?_
  obtain ⟨σ1, hm1, h0⟩ := og_m h0
  refine u1_47 S hK hR hS hh hm1 d1_startMoving_2 (fun H locs hR hS => ?_)
  refine lv_aload_n hx hb d1_startMoving_5 rfl (lv_at hl 0 rfl) ?_
  refine lv_iload_n hx hb d1_startMoving_6 rfl (lv_at hl 1 rfl) ?_
  obtain ⟨σ2, hm2, h0⟩ := og_m h0
  refine u1_50 S hK hR hS hh hm2 d1_startMoving_7 (fun H locs hR hS => ?_)
  refine lv_aload_n hx hb d1_startMoving_10 rfl (lv_at hl 0 rfl) ?_
  refine lv_iconst (v := 0) hx hb d1_startMoving_11 (by decide) ?_
  obtain ⟨σ3, hm3, h0⟩ := og_m h0
  refine u1_53 S hK hR hS hh hm3 d1_startMoving_12 (fun H locs hR hS => ?_)
  exact q_vret S hr hlk hR hS h0 d1_startMoving_15
set_option maxHeartbeats 4000000 in
set_option maxRecDepth 100000 in
theorem k1_129 {p : Program} {l : Launch} {e : Env} {R : Room} {s : State} {m : MethodId} {args : Array Value} {below : List Frame} {meth : Method} {c : Code} {H : Heap} {locs : List Loc} {cells slots : Nat} {Q : State → Prop} {cc : ByteArray} {pc nL : Nat} {ls : Array Slot} {rest : List Value} {w : WV} {σ : Mem} {h : Nat} {x1 : Int32} {σ1 : Mem} (S : CallFix p m c cc nL s args gtbl RX1) (hK : KS LC w s) (hR : Rp EC LC w σ H) (hS : va_S (AW LC w) s.heap H locs) (hh : h ∈ hourL) (h0 : f1_startMoving σ h x1 = some σ1) (hf : cells + 0 ≤ R.cells ∧ slots + 0 ≤ R.slots) (hRm : rm1_startMoving.frames + 1 ≤ R.frames ∧ 8 + (2 + 11) + rm1_startMoving.locals ≤ R.locals) (hl : ls.size = nL) (hW : (rest.map fun v => v.category).sum ≤ 8) (hdg : decode cc pc = .ok (.invokevirtual 129, 3)) (kk : ∀ (H1 : Heap) (locs1 : List Loc), Rp EC LC w σ1 H1 → va_S (AW LC w) s.heap H1 locs1 → W p l e R s m args below meth c H1 locs1 cells slots Q (F0 m (pc + 3) ls (rest))) : W p l e R s m args below meth c H locs cells slots Q (F0 m pc ls (.int x1 :: .ref (w.2.2 h) :: rest)) := r_end hS (run_V (n := 1) (As := [.int x1]) S hK hR (ok_1 _ hh) (eC_1 _ hh w _) rfl (gw_V (gt_at 650 (by decide +kernel) (by decide +kernel)) (gt_at 652 (by decide +kernel) (by decide +kernel)) (gt_at 24 (by decide +kernel) (by decide +kernel)) (gt_at 80 (by decide +kernel) (by decide +kernel)) (gt_at 653 (by decide +kernel) (by decide +kernel))) (by decide +kernel) rfl (c1_startMoving l hh h0) ⟨rfl, rfl⟩ hRm hf hl rfl hW hdg) kk
/-! FourTenGates$Hour.turnGates(I)V -/
abbrev rm1_turnGates : Room := { frames := 3, cells := 0, slots := 0, locals := 66 }
theorem d1_turnGates_0 : decode cX1_turnGates 0 = .ok (.aload_n 0, 1) := by decide +kernel
theorem d1_turnGates_1 : decode cX1_turnGates 1 = .ok (.getfield 47, 3) := by decide +kernel
theorem d1_turnGates_4 : decode cX1_turnGates 4 = .ok (.ifCond .ne 27, 3) := by decide +kernel
theorem d1_turnGates_7 : decode cX1_turnGates 7 = .ok (.iload_n 1, 1) := by decide +kernel
theorem d1_turnGates_8 : decode cX1_turnGates 8 = .ok (.aload_n 0, 1) := by decide +kernel
theorem d1_turnGates_9 : decode cX1_turnGates 9 = .ok (.getfield 56, 3) := by decide +kernel
theorem d1_turnGates_12 : decode cX1_turnGates 12 = .ok (.if_icmp .lt 19, 3) := by decide +kernel
theorem d1_turnGates_15 : decode cX1_turnGates 15 = .ok (.aload_n 0, 1) := by decide +kernel
theorem d1_turnGates_16 : decode cX1_turnGates 16 = .ok (.iload_n 1, 1) := by decide +kernel
theorem d1_turnGates_17 : decode cX1_turnGates 17 = .ok (.invokevirtual 125, 3) := by decide +kernel
theorem d1_turnGates_20 : decode cX1_turnGates 20 = .ok (.ifCond .eq 11, 3) := by decide +kernel
theorem d1_turnGates_23 : decode cX1_turnGates 23 = .ok (.aload_n 0, 1) := by decide +kernel
theorem d1_turnGates_24 : decode cX1_turnGates 24 = .ok (.iconst 2, 1) := by decide +kernel
theorem d1_turnGates_25 : decode cX1_turnGates 25 = .ok (.invokevirtual 129, 3) := by decide +kernel
theorem d1_turnGates_28 : decode cX1_turnGates 28 = .ok (.goto 32, 3) := by decide +kernel
theorem d1_turnGates_31 : decode cX1_turnGates 31 = .ok (.aload_n 0, 1) := by decide +kernel
theorem d1_turnGates_32 : decode cX1_turnGates 32 = .ok (.getfield 47, 3) := by decide +kernel
theorem d1_turnGates_35 : decode cX1_turnGates 35 = .ok (.iconst 2, 1) := by decide +kernel
theorem d1_turnGates_36 : decode cX1_turnGates 36 = .ok (.if_icmp .ne 24, 3) := by decide +kernel
theorem d1_turnGates_39 : decode cX1_turnGates 39 = .ok (.aload_n 0, 1) := by decide +kernel
theorem d1_turnGates_40 : decode cX1_turnGates 40 = .ok (.iload_n 1, 1) := by decide +kernel
theorem d1_turnGates_41 : decode cX1_turnGates 41 = .ok (.invokevirtual 132, 3) := by decide +kernel
theorem d1_turnGates_44 : decode cX1_turnGates 44 = .ok (.ifCond .ne 16, 3) := by decide +kernel
theorem d1_turnGates_47 : decode cX1_turnGates 47 = .ok (.aload_n 0, 1) := by decide +kernel
theorem d1_turnGates_48 : decode cX1_turnGates 48 = .ok (.iload_n 1, 1) := by decide +kernel
theorem d1_turnGates_49 : decode cX1_turnGates 49 = .ok (.invokevirtual 125, 3) := by decide +kernel
theorem d1_turnGates_52 : decode cX1_turnGates 52 = .ok (.ifCond .ne 8, 3) := by decide +kernel
theorem d1_turnGates_55 : decode cX1_turnGates 55 = .ok (.aload_n 0, 1) := by decide +kernel
theorem d1_turnGates_56 : decode cX1_turnGates 56 = .ok (.iconst 0, 1) := by decide +kernel
theorem d1_turnGates_57 : decode cX1_turnGates 57 = .ok (.invokevirtual 129, 3) := by decide +kernel
theorem d1_turnGates_60 : decode cX1_turnGates 60 = .ok (.return_, 1) := by decide +kernel
def f1_turnGates_b31 (h : Nat) (σ : Mem) (x1 : Int32) : Option Mem := if (σ h 13) = 2 then Option.bind (f1_isTrainInSight σ h x1) fun r2 => if r2 = 0 then Option.bind (f1_wantsShut σ h x1) fun r4 => if r4 = 0 then Option.bind (f1_startMoving σ h 0) fun σ6 => some σ6 else some σ else some σ else some σ
set_option maxHeartbeats 4000000 in
set_option maxRecDepth 100000 in
theorem t1_turnGates_b31 {p : Program} {l : Launch} {e : Env} {s : State} {m : MethodId} {args : Array Value} {below : List Frame} {meth : Method} {c : Code} {w : WV} {h : Nat} {σ' : Mem} (S : CallFix p m c cX1_turnGates 2 s args gtbl RX1) (hr : meth.sig.returnType = none) (hlk : meth.locks = false) (hK : KS LC w s) (hh : h ∈ hourL) : ∀ (σ : Mem) (x1 : Int32), f1_turnGates_b31 h σ x1 = some σ' → ∀ (H : Heap) (locs : List Loc), Rp EC LC w σ H → va_S (AW LC w) s.heap H locs → ∀ (ls : Array Slot), lv_has ls 2 [(0, .ref (w.2.2 h)), (1, .int x1)] → W p l e rm1_turnGates s m args below meth c H locs 0 0 (MQ below (Qw EC LC w σ' none) args s 0 0 (AW LC w)) (F0 m 31 ls []) := by
  obtain ⟨hx, hb, hml, hown, hts⟩ := id S
  intro σ x1 h0 H locs hR hS ls hl
  unfold f1_turnGates_b31 at h0
  refine lv_aload_n hx hb d1_turnGates_31 rfl (lv_at hl 0 rfl) ?_
  refine g1_47 S hK hR hh d1_turnGates_32 ?_
  refine lv_iconst (v := 2) hx hb d1_turnGates_35 (by decide) ?_
  refine lv_icmp_ne (tgt := 60) hx hb d1_turnGates_36 (by decide) (fun hc1 => ?_) (fun hc1 => ?_)
  · have h0 := og_f hc1 h0
    exact q_vret S hr hlk hR hS h0 d1_turnGates_60
  · have h0 := og_t hc1 h0
    refine lv_aload_n hx hb d1_turnGates_39 rfl (lv_at hl 0 rfl) ?_
    refine lv_iload_n hx hb d1_turnGates_40 rfl (lv_at hl 1 rfl) ?_
    obtain ⟨r2, hr2, h0⟩ := og_b h0
    refine k1_132 S hK hR hh hr2 ⟨Nat.zero_le _, Nat.zero_le _⟩ ⟨Nat.le_of_ble_eq_true rfl, Nat.le_of_ble_eq_true rfl⟩ hl.1 (Nat.le_of_ble_eq_true rfl) d1_turnGates_41 ?_
    refine lv_if_ne (tgt := 60) hx hb d1_turnGates_44 (by decide) (fun hc3 => ?_) (fun hc3 => ?_)
    · have h0 := og_f hc3 h0
      exact q_vret S hr hlk hR hS h0 d1_turnGates_60
    · have h0 := og_t hc3 h0
      refine lv_aload_n hx hb d1_turnGates_47 rfl (lv_at hl 0 rfl) ?_
      refine lv_iload_n hx hb d1_turnGates_48 rfl (lv_at hl 1 rfl) ?_
      obtain ⟨r4, hr4, h0⟩ := og_b h0
      refine k1_125 S hK hR hh hr4 ⟨Nat.zero_le _, Nat.zero_le _⟩ ⟨Nat.le_of_ble_eq_true rfl, Nat.le_of_ble_eq_true rfl⟩ hl.1 (Nat.le_of_ble_eq_true rfl) d1_turnGates_49 ?_
      refine lv_if_ne (tgt := 60) hx hb d1_turnGates_52 (by decide) (fun hc5 => ?_) (fun hc5 => ?_)
      · have h0 := og_f hc5 h0
        exact q_vret S hr hlk hR hS h0 d1_turnGates_60
      · have h0 := og_t hc5 h0
        refine lv_aload_n hx hb d1_turnGates_55 rfl (lv_at hl 0 rfl) ?_
        refine lv_iconst (v := 0) hx hb d1_turnGates_56 (by decide) ?_
        obtain ⟨σ6, hr6, h0⟩ := og_b h0
        refine k1_129 S hK hR hS hh hr6 ⟨Nat.zero_le _, Nat.zero_le _⟩ ⟨Nat.le_of_ble_eq_true rfl, Nat.le_of_ble_eq_true rfl⟩ hl.1 (Nat.le_of_ble_eq_true rfl) d1_turnGates_57 (fun H locs hR hS => ?_)
        exact q_vret S hr hlk hR hS h0 d1_turnGates_60
def f1_turnGates (σ : Mem) (h : Nat) (x1 : Int32) : Option Mem := if (σ h 13) = 0 then if x1 < (σ h 16) then f1_turnGates_b31 h σ x1 else Option.bind (f1_wantsShut σ h x1) fun r3 => if r3 = 0 then f1_turnGates_b31 h σ x1 else Option.bind (f1_startMoving σ h 2) fun σ5 => some σ5 else f1_turnGates_b31 h σ x1
set_option maxHeartbeats 4000000 in
set_option maxRecDepth 100000 in
theorem c1_turnGates (l : Launch) {w : WV} {σ : Mem} {h : Nat} {x1 : Int32} {σ' : Mem} (hh : h ∈ hourL) (h0 : f1_turnGates σ h x1 = some σ') : Met l yX1_turnGates (wy yX1_turnGates cX1_turnGates 2 none) rm1_turnGates (Pw EC LC w [.ref (w.2.2 h), .int x1] σ) (Qw EC LC w σ' none) 0 0 (AW LC w) := by
  refine mk_met (by decide) (Nat.le_of_ble_eq_true rfl) ?_
  intro p e s m below meth c S hr hlk hK hR ls hl
  obtain ⟨hx, hb, hml, hown, hts⟩ := id S
  have hl : lv_has ls 2 [(0, .ref (w.2.2 h)), (1, .int x1)] := hl
  have hS : va_S (AW LC w) s.heap s.heap [] := va_S.rf
  unfold f1_turnGates at h0
  refine lv_aload_n hx hb d1_turnGates_0 rfl (lv_at hl 0 rfl) ?_
  refine g1_47 S hK hR hh d1_turnGates_1 ?_
  refine lv_if_ne (tgt := 31) hx hb d1_turnGates_4 (by decide) (fun hc1 => ?_) (fun hc1 => ?_)
  · have h0 := og_f hc1 h0
    exact t1_turnGates_b31 S hr hlk hK hh σ x1 h0 _ _ hR hS _ (lv_sub hl [0, 1] rfl)
  · have h0 := og_t hc1 h0
    refine lv_iload_n hx hb d1_turnGates_7 rfl (lv_at hl 1 rfl) ?_
    refine lv_aload_n hx hb d1_turnGates_8 rfl (lv_at hl 0 rfl) ?_
    refine g1_56 S hK hR hh d1_turnGates_9 ?_
    refine lv_icmp_lt (tgt := 31) hx hb d1_turnGates_12 (by decide) (fun hc2 => ?_) (fun hc2 => ?_)
    · have h0 := og_t hc2 h0
      exact t1_turnGates_b31 S hr hlk hK hh σ x1 h0 _ _ hR hS _ (lv_sub hl [0, 1] rfl)
    · have h0 := og_f hc2 h0
      refine lv_aload_n hx hb d1_turnGates_15 rfl (lv_at hl 0 rfl) ?_
      refine lv_iload_n hx hb d1_turnGates_16 rfl (lv_at hl 1 rfl) ?_
      obtain ⟨r3, hr3, h0⟩ := og_b h0
      refine k1_125 S hK hR hh hr3 ⟨Nat.zero_le _, Nat.zero_le _⟩ ⟨Nat.le_of_ble_eq_true rfl, Nat.le_of_ble_eq_true rfl⟩ hl.1 (Nat.le_of_ble_eq_true rfl) d1_turnGates_17 ?_
      refine lv_if_eq (tgt := 31) hx hb d1_turnGates_20 (by decide) (fun hc4 => ?_) (fun hc4 => ?_)
      · have h0 := og_t hc4 h0
        exact t1_turnGates_b31 S hr hlk hK hh σ x1 h0 _ _ hR hS _ (lv_sub hl [0, 1] rfl)
      · have h0 := og_f hc4 h0
        refine lv_aload_n hx hb d1_turnGates_23 rfl (lv_at hl 0 rfl) ?_
        refine lv_iconst (v := 2) hx hb d1_turnGates_24 (by decide) ?_
        obtain ⟨σ5, hr5, h0⟩ := og_b h0
        refine k1_129 S hK hR hS hh hr5 ⟨Nat.zero_le _, Nat.zero_le _⟩ ⟨Nat.le_of_ble_eq_true rfl, Nat.le_of_ble_eq_true rfl⟩ hl.1 (Nat.le_of_ble_eq_true rfl) d1_turnGates_25 (fun H locs hR hS => ?_)
        refine lv_goto (tgt := 60) hx hb d1_turnGates_28 (by decide) ?_
        exact q_vret S hr hlk hR hS h0 d1_turnGates_60
set_option maxHeartbeats 4000000 in
set_option maxRecDepth 100000 in
theorem k1_86 {p : Program} {l : Launch} {e : Env} {R : Room} {s : State} {m : MethodId} {args : Array Value} {below : List Frame} {meth : Method} {c : Code} {H : Heap} {locs : List Loc} {cells slots : Nat} {Q : State → Prop} {cc : ByteArray} {pc nL : Nat} {ls : Array Slot} {rest : List Value} {w : WV} {σ : Mem} {h : Nat} {x1 : Int32} {σ1 : Mem} (S : CallFix p m c cc nL s args gtbl RX1) (hK : KS LC w s) (hR : Rp EC LC w σ H) (hS : va_S (AW LC w) s.heap H locs) (hh : h ∈ hourL) (h0 : f1_turnGates σ h x1 = some σ1) (hf : cells + 0 ≤ R.cells ∧ slots + 0 ≤ R.slots) (hRm : rm1_turnGates.frames + 1 ≤ R.frames ∧ 8 + (2 + 11) + rm1_turnGates.locals ≤ R.locals) (hl : ls.size = nL) (hW : (rest.map fun v => v.category).sum ≤ 8) (hdg : decode cc pc = .ok (.invokevirtual 86, 3)) (kk : ∀ (H1 : Heap) (locs1 : List Loc), Rp EC LC w σ1 H1 → va_S (AW LC w) s.heap H1 locs1 → W p l e R s m args below meth c H1 locs1 cells slots Q (F0 m (pc + 3) ls (rest))) : W p l e R s m args below meth c H locs cells slots Q (F0 m pc ls (.int x1 :: .ref (w.2.2 h) :: rest)) := r_end hS (run_V (n := 1) (As := [.int x1]) S hK hR (ok_1 _ hh) (eC_1 _ hh w _) rfl (gw_V (gt_at 618 (by decide +kernel) (by decide +kernel)) (gt_at 620 (by decide +kernel) (by decide +kernel)) (gt_at 18 (by decide +kernel) (by decide +kernel)) (gt_at 80 (by decide +kernel) (by decide +kernel)) (gt_at 621 (by decide +kernel) (by decide +kernel))) (by decide +kernel) rfl (c1_turnGates l hh h0) ⟨rfl, rfl⟩ hRm hf hl rfl hW hdg) kk
/-! FourTenGates$Hour.runTrains(I)V -/
abbrev rm1_runTrains : Room := { frames := 1, cells := 0, slots := 0, locals := 20 }
theorem d1_runTrains_0 : decode cX1_runTrains 0 = .ok (.aload_n 0, 1) := by decide +kernel
theorem d1_runTrains_1 : decode cX1_runTrains 1 = .ok (.iconst 0, 1) := by decide +kernel
theorem d1_runTrains_2 : decode cX1_runTrains 2 = .ok (.putfield 62, 3) := by decide +kernel
theorem d1_runTrains_5 : decode cX1_runTrains 5 = .ok (.iconst 0, 1) := by decide +kernel
theorem d1_runTrains_6 : decode cX1_runTrains 6 = .ok (.istore_n 2, 1) := by decide +kernel
theorem d1_runTrains_7 : decode cX1_runTrains 7 = .ok (.iload_n 2, 1) := by decide +kernel
theorem d1_runTrains_8 : decode cX1_runTrains 8 = .ok (.bipush 6, 2) := by decide +kernel
theorem d1_runTrains_10 : decode cX1_runTrains 10 = .ok (.if_icmp .ge 104, 3) := by decide +kernel
theorem d1_runTrains_13 : decode cX1_runTrains 13 = .ok (.iload_n 1, 1) := by decide +kernel
theorem d1_runTrains_14 : decode cX1_runTrains 14 = .ok (.aload_n 0, 1) := by decide +kernel
theorem d1_runTrains_15 : decode cX1_runTrains 15 = .ok (.getfield 15, 3) := by decide +kernel
theorem d1_runTrains_18 : decode cX1_runTrains 18 = .ok (.iload_n 2, 1) := by decide +kernel
theorem d1_runTrains_19 : decode cX1_runTrains 19 = .ok (.iaload, 1) := by decide +kernel
theorem d1_runTrains_20 : decode cX1_runTrains 20 = .ok (.if_icmp .lt 88, 3) := by decide +kernel
theorem d1_runTrains_23 : decode cX1_runTrains 23 = .ok (.aload_n 0, 1) := by decide +kernel
theorem d1_runTrains_24 : decode cX1_runTrains 24 = .ok (.getfield 21, 3) := by decide +kernel
theorem d1_runTrains_27 : decode cX1_runTrains 27 = .ok (.iload_n 2, 1) := by decide +kernel
theorem d1_runTrains_28 : decode cX1_runTrains 28 = .ok (.iaload, 1) := by decide +kernel
theorem d1_runTrains_29 : decode cX1_runTrains 29 = .ok (.iload_n 1, 1) := by decide +kernel
theorem d1_runTrains_30 : decode cX1_runTrains 30 = .ok (.if_icmp .gt 6, 3) := by decide +kernel
theorem d1_runTrains_33 : decode cX1_runTrains 33 = .ok (.goto 75, 3) := by decide +kernel
theorem d1_runTrains_36 : decode cX1_runTrains 36 = .ok (.aload_n 0, 1) := by decide +kernel
theorem d1_runTrains_37 : decode cX1_runTrains 37 = .ok (.getfield 47, 3) := by decide +kernel
theorem d1_runTrains_40 : decode cX1_runTrains 40 = .ok (.iconst 2, 1) := by decide +kernel
theorem d1_runTrains_41 : decode cX1_runTrains 41 = .ok (.if_icmp .ne 36, 3) := by decide +kernel
theorem d1_runTrains_44 : decode cX1_runTrains 44 = .ok (.iload_n 1, 1) := by decide +kernel
theorem d1_runTrains_45 : decode cX1_runTrains 45 = .ok (.aload_n 0, 1) := by decide +kernel
theorem d1_runTrains_46 : decode cX1_runTrains 46 = .ok (.getfield 59, 3) := by decide +kernel
theorem d1_runTrains_49 : decode cX1_runTrains 49 = .ok (.if_icmp .lt 28, 3) := by decide +kernel
theorem d1_runTrains_52 : decode cX1_runTrains 52 = .ok (.iload_n 1, 1) := by decide +kernel
theorem d1_runTrains_53 : decode cX1_runTrains 53 = .ok (.aload_n 0, 1) := by decide +kernel
theorem d1_runTrains_54 : decode cX1_runTrains 54 = .ok (.getfield 56, 3) := by decide +kernel
theorem d1_runTrains_57 : decode cX1_runTrains 57 = .ok (.if_icmp .lt 20, 3) := by decide +kernel
theorem d1_runTrains_60 : decode cX1_runTrains 60 = .ok (.aload_n 0, 1) := by decide +kernel
theorem d1_runTrains_61 : decode cX1_runTrains 61 = .ok (.getfield 21, 3) := by decide +kernel
theorem d1_runTrains_64 : decode cX1_runTrains 64 = .ok (.iload_n 2, 1) := by decide +kernel
theorem d1_runTrains_65 : decode cX1_runTrains 65 = .ok (.iload_n 1, 1) := by decide +kernel
theorem d1_runTrains_66 : decode cX1_runTrains 66 = .ok (.iastore, 1) := by decide +kernel
theorem d1_runTrains_67 : decode cX1_runTrains 67 = .ok (.aload_n 0, 1) := by decide +kernel
theorem d1_runTrains_68 : decode cX1_runTrains 68 = .ok (.iload_n 1, 1) := by decide +kernel
theorem d1_runTrains_69 : decode cX1_runTrains 69 = .ok (.iconst 3, 1) := by decide +kernel
theorem d1_runTrains_70 : decode cX1_runTrains 70 = .ok (.iadd, 1) := by decide +kernel
theorem d1_runTrains_71 : decode cX1_runTrains 71 = .ok (.putfield 59, 3) := by decide +kernel
theorem d1_runTrains_74 : decode cX1_runTrains 74 = .ok (.goto 34, 3) := by decide +kernel
theorem d1_runTrains_77 : decode cX1_runTrains 77 = .ok (.aload_n 0, 1) := by decide +kernel
theorem d1_runTrains_78 : decode cX1_runTrains 78 = .ok (.getfield 24, 3) := by decide +kernel
theorem d1_runTrains_81 : decode cX1_runTrains 81 = .ok (.iload_n 2, 1) := by decide +kernel
theorem d1_runTrains_82 : decode cX1_runTrains 82 = .ok (.dup2, 1) := by decide +kernel
theorem d1_runTrains_83 : decode cX1_runTrains 83 = .ok (.iaload, 1) := by decide +kernel
theorem d1_runTrains_84 : decode cX1_runTrains 84 = .ok (.iconst 1, 1) := by decide +kernel
theorem d1_runTrains_85 : decode cX1_runTrains 85 = .ok (.iadd, 1) := by decide +kernel
theorem d1_runTrains_86 : decode cX1_runTrains 86 = .ok (.iastore, 1) := by decide +kernel
theorem d1_runTrains_87 : decode cX1_runTrains 87 = .ok (.aload_n 0, 1) := by decide +kernel
theorem d1_runTrains_88 : decode cX1_runTrains 88 = .ok (.dup, 1) := by decide +kernel
theorem d1_runTrains_89 : decode cX1_runTrains 89 = .ok (.getfield 44, 3) := by decide +kernel
theorem d1_runTrains_92 : decode cX1_runTrains 92 = .ok (.aload_n 0, 1) := by decide +kernel
theorem d1_runTrains_93 : decode cX1_runTrains 93 = .ok (.getfield 65, 3) := by decide +kernel
theorem d1_runTrains_96 : decode cX1_runTrains 96 = .ok (.invokevirtual 155, 3) := by decide +kernel
theorem d1_runTrains_99 : decode cX1_runTrains 99 = .ok (.iadd, 1) := by decide +kernel
theorem d1_runTrains_100 : decode cX1_runTrains 100 = .ok (.putfield 44, 3) := by decide +kernel
theorem d1_runTrains_103 : decode cX1_runTrains 103 = .ok (.aload_n 0, 1) := by decide +kernel
theorem d1_runTrains_104 : decode cX1_runTrains 104 = .ok (.iconst 1, 1) := by decide +kernel
theorem d1_runTrains_105 : decode cX1_runTrains 105 = .ok (.putfield 62, 3) := by decide +kernel
theorem d1_runTrains_108 : decode cX1_runTrains 108 = .ok (.iinc 2 1, 3) := by decide +kernel
theorem d1_runTrains_111 : decode cX1_runTrains 111 = .ok (.goto (-104), 3) := by decide +kernel
theorem d1_runTrains_114 : decode cX1_runTrains 114 = .ok (.return_, 1) := by decide +kernel
def f1_runTrains_b77 (h : Nat) (k7 : Mem → Int32 → Int32 → Option Mem) (σ : Mem) (x1 : Int32) (x2 : Int32) : Option Mem := if ¬ (x2 < 0 ∨ 6 ≤ x2.toNatClampNeg) then if ¬ (x2 < 0 ∨ 6 ≤ x2.toNatClampNeg) then (bm (mu σ (h + 5) x2.toNatClampNeg ((σ (h + 5) x2.toNatClampNeg) + 1)) fun σ3 => Option.bind (f0_stopCost σ3 3) fun r4 => bm (mu σ3 h 12 ((σ3 h 12) + r4)) fun σ5 => bm (mu σ5 h 18 1) fun σ6 => k7 σ6 x1 (x2 + 1)) else none else none
set_option maxHeartbeats 4000000 in
set_option maxRecDepth 100000 in
theorem t1_runTrains_b77 {p : Program} {l : Launch} {e : Env} {s : State} {m : MethodId} {args : Array Value} {below : List Frame} {meth : Method} {c : Code} {w : WV} {h : Nat} {σ' : Mem} {k7 : Mem → Int32 → Int32 → Option Mem} (S : CallFix p m c cX1_runTrains 3 s args gtbl RX1) (hr : meth.sig.returnType = none) (hlk : meth.locks = false) (hK : KS LC w s) (hh : h ∈ hourL) (hk7 : ∀ (σ : Mem) (x1 : Int32) (x2 : Int32), k7 σ x1 x2 = some σ' → ∀ (H : Heap) (locs : List Loc), Rp EC LC w σ H → va_S (AW LC w) s.heap H locs → ∀ (ls : Array Slot), lv_has ls 3 [(0, .ref (w.2.2 h)), (1, .int x1), (2, .int x2)] → W p l e rm1_runTrains s m args below meth c H locs 0 0 (MQ below (Qw EC LC w σ' none) args s 0 0 (AW LC w)) (F0 m 7 ls [])) : ∀ (σ : Mem) (x1 : Int32) (x2 : Int32), f1_runTrains_b77 h k7 σ x1 x2 = some σ' → ∀ (H : Heap) (locs : List Loc), Rp EC LC w σ H → va_S (AW LC w) s.heap H locs → ∀ (ls : Array Slot), lv_has ls 3 [(0, .ref (w.2.2 h)), (1, .int x1), (2, .int x2)] → W p l e rm1_runTrains s m args below meth c H locs 0 0 (MQ below (Qw EC LC w σ' none) args s 0 0 (AW LC w)) (F0 m 77 ls []) := by
  obtain ⟨hx, hb, hml, hown, hts⟩ := id S
  intro σ x1 x2 h0 H locs hR hS ls hl
  unfold f1_runTrains_b77 at h0
  refine lv_aload_n hx hb d1_runTrains_77 rfl (lv_at hl 0 rfl) ?_
  refine g1_24 S hK hR hh rfl d1_runTrains_78 ?_
  refine lv_iload_n hx hb d1_runTrains_81 rfl (lv_at hl 2 rfl) ?_
  refine lv_dup2_11 hx hb d1_runTrains_82 rfl rfl ?_
  obtain ⟨hi1, h0⟩ := og_if h0
  refine q_ld (k := x2.toNatClampNeg) S hK hR (oa_1_6 _ hh) (ea_1_6 _ hh w _) hi1 rfl d1_runTrains_83 ?_
  refine lv_iconst (v := 1) hx hb d1_runTrains_84 (by decide) ?_
  refine lv_iadd hx hb d1_runTrains_85 ?_
  obtain ⟨hi2, h0⟩ := og_if h0
  obtain ⟨σ3, hm3, h0⟩ := og_m h0
  refine q_st S hK hR hS (oa_1_6 _ hh) (ea_1_6 _ hh w) hi2 rfl hm3 d1_runTrains_86 (fun H locs hR hS => ?_)
  refine lv_aload_n hx hb d1_runTrains_87 rfl (lv_at hl 0 rfl) ?_
  refine lv_dup hx hb d1_runTrains_88 rfl ?_
  refine g1_44 S hK hR hh d1_runTrains_89 ?_
  refine lv_aload_n hx hb d1_runTrains_92 rfl (lv_at hl 0 rfl) ?_
  refine g1_65 S hK hR hh d1_runTrains_93 ?_
  obtain ⟨r4, hr4, h0⟩ := og_b h0
  refine k1_155 S hK hR (by decide) hr4 ⟨Nat.zero_le _, Nat.zero_le _⟩ ⟨Nat.le_of_ble_eq_true rfl, Nat.le_of_ble_eq_true rfl⟩ hl.1 (Nat.le_of_ble_eq_true rfl) d1_runTrains_96 ?_
  refine lv_iadd hx hb d1_runTrains_99 ?_
  obtain ⟨σ5, hm5, h0⟩ := og_m h0
  refine u1_44 S hK hR hS hh hm5 d1_runTrains_100 (fun H locs hR hS => ?_)
  refine lv_aload_n hx hb d1_runTrains_103 rfl (lv_at hl 0 rfl) ?_
  refine lv_iconst (v := 1) hx hb d1_runTrains_104 (by decide) ?_
  obtain ⟨σ6, hm6, h0⟩ := og_m h0
  refine u1_62 S hK hR hS hh (Or.inr rfl) hm6 d1_runTrains_105 (fun H locs hR hS => ?_)
  refine lv_iinc (v := x2 + 1) (lv' := [(2, .int (x2 + 1)), (0, .ref (w.2.2 h)), (1, .int x1)]) hx hb d1_runTrains_108 hl (k := 2) rfl (ii1 _) (by decide) rfl (fun ls hl => ?_)
  refine lv_goto (tgt := 7) hx hb d1_runTrains_111 (by decide) ?_
  exact hk7 σ6 x1 (x2 + 1) h0 _ _ hR hS _ (lv_sub hl [1, 2, 0] rfl)
def f1_runTrains_b7 (h : Nat) : Nat → Mem → Int32 → Int32 → Option Mem
  | 0, _, _, _ => none
  | n + 1, σ, x1, x2 => if 6 ≤ x2 then some σ else if ¬ (x2 < 0 ∨ 6 ≤ x2.toNatClampNeg) then if x1 < (σ (h + 2) x2.toNatClampNeg) then f1_runTrains_b7 h n σ x1 (x2 + 1) else if ¬ (x2 < 0 ∨ 6 ≤ x2.toNatClampNeg) then if x1 < (σ (h + 4) x2.toNatClampNeg) then if (σ h 13) = 2 then if x1 < (σ h 17) then f1_runTrains_b77 h (f1_runTrains_b7 h n) σ x1 x2 else if x1 < (σ h 16) then f1_runTrains_b77 h (f1_runTrains_b7 h n) σ x1 x2 else if ¬ (x2 < 0 ∨ 6 ≤ x2.toNatClampNeg) then (bm (mu σ (h + 4) x2.toNatClampNeg x1) fun σ10 => bm (mu σ10 h 17 (x1 + 3)) fun σ11 => f1_runTrains_b7 h n σ11 x1 (x2 + 1)) else none else f1_runTrains_b77 h (f1_runTrains_b7 h n) σ x1 x2 else f1_runTrains_b7 h n σ x1 (x2 + 1) else none else none
set_option maxHeartbeats 4000000 in
set_option maxRecDepth 100000 in
theorem t1_runTrains_b7 {p : Program} {l : Launch} {e : Env} {s : State} {m : MethodId} {args : Array Value} {below : List Frame} {meth : Method} {c : Code} {w : WV} {h : Nat} {σ' : Mem} (S : CallFix p m c cX1_runTrains 3 s args gtbl RX1) (hr : meth.sig.returnType = none) (hlk : meth.locks = false) (hK : KS LC w s) (hh : h ∈ hourL) : ∀ (n : Nat), ∀ (σ : Mem) (x1 : Int32) (x2 : Int32), f1_runTrains_b7 h n σ x1 x2 = some σ' → ∀ (H : Heap) (locs : List Loc), Rp EC LC w σ H → va_S (AW LC w) s.heap H locs → ∀ (ls : Array Slot), lv_has ls 3 [(0, .ref (w.2.2 h)), (1, .int x1), (2, .int x2)] → W p l e rm1_runTrains s m args below meth c H locs 0 0 (MQ below (Qw EC LC w σ' none) args s 0 0 (AW LC w)) (F0 m 7 ls []) := by
  obtain ⟨hx, hb, hml, hown, hts⟩ := id S
  intro n
  induction n with
  | zero =>
    intro σ x1 x2 h0
    cases (show none = _ from h0)
  | succ n ih =>
    intro σ x1 x2 h0 H locs hR hS ls hl
    rw [f1_runTrains_b7] at h0
    refine lv_iload_n hx hb d1_runTrains_7 rfl (lv_at hl 2 rfl) ?_
    refine lv_bipush (v := 6) hx hb d1_runTrains_8 (by decide) ?_
    refine lv_icmp_ge (tgt := 114) hx hb d1_runTrains_10 (by decide) (fun hc1 => ?_) (fun hc1 => ?_)
    · have h0 := og_t hc1 h0
      exact q_vret S hr hlk hR hS h0 d1_runTrains_114
    · have h0 := og_f hc1 h0
      refine lv_iload_n hx hb d1_runTrains_13 rfl (lv_at hl 1 rfl) ?_
      refine lv_aload_n hx hb d1_runTrains_14 rfl (lv_at hl 0 rfl) ?_
      refine g1_15 S hK hR hh rfl d1_runTrains_15 ?_
      refine lv_iload_n hx hb d1_runTrains_18 rfl (lv_at hl 2 rfl) ?_
      obtain ⟨hi2, h0⟩ := og_if h0
      refine q_ld (k := x2.toNatClampNeg) S hK hR (oa_1_3 _ hh) (ea_1_3 _ hh w _) hi2 rfl d1_runTrains_19 ?_
      refine lv_icmp_lt (tgt := 108) hx hb d1_runTrains_20 (by decide) (fun hc3 => ?_) (fun hc3 => ?_)
      · have h0 := og_t hc3 h0
        refine lv_iinc (v := x2 + 1) (lv' := [(2, .int (x2 + 1)), (0, .ref (w.2.2 h)), (1, .int x1)]) hx hb d1_runTrains_108 hl (k := 2) rfl (ii1 _) (by decide) rfl (fun ls hl => ?_)
        refine lv_goto (tgt := 7) hx hb d1_runTrains_111 (by decide) ?_
        exact ih σ x1 (x2 + 1) h0 _ _ hR hS _ (lv_sub hl [1, 2, 0] rfl)
      · have h0 := og_f hc3 h0
        refine lv_aload_n hx hb d1_runTrains_23 rfl (lv_at hl 0 rfl) ?_
        refine g1_21 S hK hR hh rfl d1_runTrains_24 ?_
        refine lv_iload_n hx hb d1_runTrains_27 rfl (lv_at hl 2 rfl) ?_
        obtain ⟨hi4, h0⟩ := og_if h0
        refine q_ld (k := x2.toNatClampNeg) S hK hR (oa_1_5 _ hh) (ea_1_5 _ hh w _) hi4 rfl d1_runTrains_28 ?_
        refine lv_iload_n hx hb d1_runTrains_29 rfl (lv_at hl 1 rfl) ?_
        refine lv_icmp_gt (tgt := 36) hx hb d1_runTrains_30 (by decide) (fun hc5 => ?_) (fun hc5 => ?_)
        · have h0 := og_t hc5 h0
          refine lv_aload_n hx hb d1_runTrains_36 rfl (lv_at hl 0 rfl) ?_
          refine g1_47 S hK hR hh d1_runTrains_37 ?_
          refine lv_iconst (v := 2) hx hb d1_runTrains_40 (by decide) ?_
          refine lv_icmp_ne (tgt := 77) hx hb d1_runTrains_41 (by decide) (fun hc6 => ?_) (fun hc6 => ?_)
          · have h0 := og_f hc6 h0
            exact t1_runTrains_b77 S hr hlk hK hh ih σ x1 x2 h0 _ _ hR hS _ (lv_sub hl [0, 1, 2] rfl)
          · have h0 := og_t hc6 h0
            refine lv_iload_n hx hb d1_runTrains_44 rfl (lv_at hl 1 rfl) ?_
            refine lv_aload_n hx hb d1_runTrains_45 rfl (lv_at hl 0 rfl) ?_
            refine g1_59 S hK hR hh d1_runTrains_46 ?_
            refine lv_icmp_lt (tgt := 77) hx hb d1_runTrains_49 (by decide) (fun hc7 => ?_) (fun hc7 => ?_)
            · have h0 := og_t hc7 h0
              exact t1_runTrains_b77 S hr hlk hK hh ih σ x1 x2 h0 _ _ hR hS _ (lv_sub hl [0, 1, 2] rfl)
            · have h0 := og_f hc7 h0
              refine lv_iload_n hx hb d1_runTrains_52 rfl (lv_at hl 1 rfl) ?_
              refine lv_aload_n hx hb d1_runTrains_53 rfl (lv_at hl 0 rfl) ?_
              refine g1_56 S hK hR hh d1_runTrains_54 ?_
              refine lv_icmp_lt (tgt := 77) hx hb d1_runTrains_57 (by decide) (fun hc8 => ?_) (fun hc8 => ?_)
              · have h0 := og_t hc8 h0
                exact t1_runTrains_b77 S hr hlk hK hh ih σ x1 x2 h0 _ _ hR hS _ (lv_sub hl [0, 1, 2] rfl)
              · have h0 := og_f hc8 h0
                refine lv_aload_n hx hb d1_runTrains_60 rfl (lv_at hl 0 rfl) ?_
                refine g1_21 S hK hR hh rfl d1_runTrains_61 ?_
                refine lv_iload_n hx hb d1_runTrains_64 rfl (lv_at hl 2 rfl) ?_
                refine lv_iload_n hx hb d1_runTrains_65 rfl (lv_at hl 1 rfl) ?_
                obtain ⟨hi9, h0⟩ := og_if h0
                obtain ⟨σ10, hm10, h0⟩ := og_m h0
                refine q_st S hK hR hS (oa_1_5 _ hh) (ea_1_5 _ hh w) hi9 rfl hm10 d1_runTrains_66 (fun H locs hR hS => ?_)
                refine lv_aload_n hx hb d1_runTrains_67 rfl (lv_at hl 0 rfl) ?_
                refine lv_iload_n hx hb d1_runTrains_68 rfl (lv_at hl 1 rfl) ?_
                refine lv_iconst (v := 3) hx hb d1_runTrains_69 (by decide) ?_
                refine lv_iadd hx hb d1_runTrains_70 ?_
                obtain ⟨σ11, hm11, h0⟩ := og_m h0
                refine u1_59 S hK hR hS hh hm11 d1_runTrains_71 (fun H locs hR hS => ?_)
                refine lv_goto (tgt := 108) hx hb d1_runTrains_74 (by decide) ?_
                refine lv_iinc (v := x2 + 1) (lv' := [(2, .int (x2 + 1)), (0, .ref (w.2.2 h)), (1, .int x1)]) hx hb d1_runTrains_108 hl (k := 2) rfl (ii1 _) (by decide) rfl (fun ls hl => ?_)
                refine lv_goto (tgt := 7) hx hb d1_runTrains_111 (by decide) ?_
                exact ih σ11 x1 (x2 + 1) h0 _ _ hR hS _ (lv_sub hl [1, 2, 0] rfl)
        · have h0 := og_f hc5 h0
          refine lv_goto (tgt := 108) hx hb d1_runTrains_33 (by decide) ?_
          refine lv_iinc (v := x2 + 1) (lv' := [(2, .int (x2 + 1)), (0, .ref (w.2.2 h)), (1, .int x1)]) hx hb d1_runTrains_108 hl (k := 2) rfl (ii1 _) (by decide) rfl (fun ls hl => ?_)
          refine lv_goto (tgt := 7) hx hb d1_runTrains_111 (by decide) ?_
          exact ih σ x1 (x2 + 1) h0 _ _ hR hS _ (lv_sub hl [1, 2, 0] rfl)
def f1_runTrains (σ : Mem) (h : Nat) (x1 : Int32) : Option Mem := bm (mu σ h 18 0) fun σ1 => f1_runTrains_b7 h 1000 σ1 x1 0
set_option maxHeartbeats 4000000 in
set_option maxRecDepth 100000 in
theorem c1_runTrains (l : Launch) {w : WV} {σ : Mem} {h : Nat} {x1 : Int32} {σ' : Mem} (hh : h ∈ hourL) (h0 : f1_runTrains σ h x1 = some σ') : Met l yX1_runTrains (wy yX1_runTrains cX1_runTrains 3 none) rm1_runTrains (Pw EC LC w [.ref (w.2.2 h), .int x1] σ) (Qw EC LC w σ' none) 0 0 (AW LC w) := by
  refine mk_met (by decide) (Nat.le_of_ble_eq_true rfl) ?_
  intro p e s m below meth c S hr hlk hK hR ls hl
  obtain ⟨hx, hb, hml, hown, hts⟩ := id S
  have hl : lv_has ls 3 [(0, .ref (w.2.2 h)), (1, .int x1)] := hl
  have hS : va_S (AW LC w) s.heap s.heap [] := va_S.rf
  unfold f1_runTrains at h0
  refine lv_aload_n hx hb d1_runTrains_0 rfl (lv_at hl 0 rfl) ?_
  refine lv_iconst (v := 0) hx hb d1_runTrains_1 (by decide) ?_
  obtain ⟨σ1, hm1, h0⟩ := og_m h0
  refine u1_62 S hK hR hS hh (Or.inl rfl) hm1 d1_runTrains_2 (fun H locs hR hS => ?_)
  refine lv_iconst (v := 0) hx hb d1_runTrains_5 (by decide) ?_
  refine lv_istore_n (lv' := [(2, .int 0), (0, .ref (w.2.2 h)), (1, .int x1)]) hx hb d1_runTrains_6 rfl hl (by decide) rfl (fun ls hl => ?_)
  exact t1_runTrains_b7 S hr hlk hK hh 1000 σ1 x1 0 h0 _ _ hR hS _ (lv_sub hl [1, 2, 0] rfl)
set_option maxHeartbeats 4000000 in
set_option maxRecDepth 100000 in
theorem k1_89 {p : Program} {l : Launch} {e : Env} {R : Room} {s : State} {m : MethodId} {args : Array Value} {below : List Frame} {meth : Method} {c : Code} {H : Heap} {locs : List Loc} {cells slots : Nat} {Q : State → Prop} {cc : ByteArray} {pc nL : Nat} {ls : Array Slot} {rest : List Value} {w : WV} {σ : Mem} {h : Nat} {x1 : Int32} {σ1 : Mem} (S : CallFix p m c cc nL s args gtbl RX1) (hK : KS LC w s) (hR : Rp EC LC w σ H) (hS : va_S (AW LC w) s.heap H locs) (hh : h ∈ hourL) (h0 : f1_runTrains σ h x1 = some σ1) (hf : cells + 0 ≤ R.cells ∧ slots + 0 ≤ R.slots) (hRm : rm1_runTrains.frames + 1 ≤ R.frames ∧ 8 + (3 + 11) + rm1_runTrains.locals ≤ R.locals) (hl : ls.size = nL) (hW : (rest.map fun v => v.category).sum ≤ 8) (hdg : decode cc pc = .ok (.invokevirtual 89, 3)) (kk : ∀ (H1 : Heap) (locs1 : List Loc), Rp EC LC w σ1 H1 → va_S (AW LC w) s.heap H1 locs1 → W p l e R s m args below meth c H1 locs1 cells slots Q (F0 m (pc + 3) ls (rest))) : W p l e R s m args below meth c H locs cells slots Q (F0 m pc ls (.int x1 :: .ref (w.2.2 h) :: rest)) := r_end hS (run_V (n := 1) (As := [.int x1]) S hK hR (ok_1 _ hh) (eC_1 _ hh w _) rfl (gw_V (gt_at 654 (by decide +kernel) (by decide +kernel)) (gt_at 656 (by decide +kernel) (by decide +kernel)) (gt_at 25 (by decide +kernel) (by decide +kernel)) (gt_at 80 (by decide +kernel) (by decide +kernel)) (gt_at 657 (by decide +kernel) (by decide +kernel))) (by decide +kernel) rfl (c1_runTrains l hh h0) ⟨rfl, rfl⟩ hRm hf hl rfl hW hdg) kk
/-! FourTenGates$Hour.meetUsers(I)V -/
abbrev rm1_meetUsers : Room := { frames := 1, cells := 0, slots := 0, locals := 21 }
theorem d1_meetUsers_0 : decode cX1_meetUsers 0 = .ok (.iconst 0, 1) := by decide +kernel
theorem d1_meetUsers_1 : decode cX1_meetUsers 1 = .ok (.istore_n 2, 1) := by decide +kernel
theorem d1_meetUsers_2 : decode cX1_meetUsers 2 = .ok (.iload_n 2, 1) := by decide +kernel
theorem d1_meetUsers_3 : decode cX1_meetUsers 3 = .ok (.aload_n 0, 1) := by decide +kernel
theorem d1_meetUsers_4 : decode cX1_meetUsers 4 = .ok (.getfield 65, 3) := by decide +kernel
theorem d1_meetUsers_7 : decode cX1_meetUsers 7 = .ok (.getfield 174, 3) := by decide +kernel
theorem d1_meetUsers_10 : decode cX1_meetUsers 10 = .ok (.invokevirtual 101, 3) := by decide +kernel
theorem d1_meetUsers_13 : decode cX1_meetUsers 13 = .ok (.if_icmp .ge 36, 3) := by decide +kernel
theorem d1_meetUsers_16 : decode cX1_meetUsers 16 = .ok (.aload_n 0, 1) := by decide +kernel
theorem d1_meetUsers_17 : decode cX1_meetUsers 17 = .ok (.getfield 65, 3) := by decide +kernel
theorem d1_meetUsers_20 : decode cX1_meetUsers 20 = .ok (.getfield 174, 3) := by decide +kernel
theorem d1_meetUsers_23 : decode cX1_meetUsers 23 = .ok (.iload_n 2, 1) := by decide +kernel
theorem d1_meetUsers_24 : decode cX1_meetUsers 24 = .ok (.invokevirtual 148, 3) := by decide +kernel
theorem d1_meetUsers_27 : decode cX1_meetUsers 27 = .ok (.iload_n 1, 1) := by decide +kernel
theorem d1_meetUsers_28 : decode cX1_meetUsers 28 = .ok (.if_icmp .ne 15, 3) := by decide +kernel
theorem d1_meetUsers_31 : decode cX1_meetUsers 31 = .ok (.aload_n 0, 1) := by decide +kernel
theorem d1_meetUsers_32 : decode cX1_meetUsers 32 = .ok (.dup, 1) := by decide +kernel
theorem d1_meetUsers_33 : decode cX1_meetUsers 33 = .ok (.getfield 33, 3) := by decide +kernel
theorem d1_meetUsers_36 : decode cX1_meetUsers 36 = .ok (.iconst 1, 1) := by decide +kernel
theorem d1_meetUsers_37 : decode cX1_meetUsers 37 = .ok (.iload_n 2, 1) := by decide +kernel
theorem d1_meetUsers_38 : decode cX1_meetUsers 38 = .ok (.ishl, 1) := by decide +kernel
theorem d1_meetUsers_39 : decode cX1_meetUsers 39 = .ok (.ior, 1) := by decide +kernel
theorem d1_meetUsers_40 : decode cX1_meetUsers 40 = .ok (.putfield 33, 3) := by decide +kernel
theorem d1_meetUsers_43 : decode cX1_meetUsers 43 = .ok (.iinc 2 1, 3) := by decide +kernel
theorem d1_meetUsers_46 : decode cX1_meetUsers 46 = .ok (.goto (-44), 3) := by decide +kernel
theorem d1_meetUsers_49 : decode cX1_meetUsers 49 = .ok (.return_, 1) := by decide +kernel
def f1_meetUsers_b2 (h : Nat) : Nat → Mem → Int32 → Int32 → Option Mem
  | 0, _, _, _ => none
  | n + 1, σ, x1, x2 => Option.bind (f2_size σ 7) fun r1 => if r1 ≤ x2 then some σ else Option.bind (f2_first σ 7 x2) fun r3 => if r3 = x1 then bm (mu σ h 9 ((σ h 9) ||| (1 <<< (x2 &&& 31)))) fun σ5 => f1_meetUsers_b2 h n σ5 x1 (x2 + 1) else f1_meetUsers_b2 h n σ x1 (x2 + 1)
set_option maxHeartbeats 4000000 in
set_option maxRecDepth 100000 in
theorem t1_meetUsers_b2 {p : Program} {l : Launch} {e : Env} {s : State} {m : MethodId} {args : Array Value} {below : List Frame} {meth : Method} {c : Code} {w : WV} {h : Nat} {σ' : Mem} (S : CallFix p m c cX1_meetUsers 3 s args gtbl RX1) (hr : meth.sig.returnType = none) (hlk : meth.locks = false) (hK : KS LC w s) (hh : h ∈ hourL) : ∀ (n : Nat), ∀ (σ : Mem) (x1 : Int32) (x2 : Int32), f1_meetUsers_b2 h n σ x1 x2 = some σ' → ∀ (H : Heap) (locs : List Loc), Rp EC LC w σ H → va_S (AW LC w) s.heap H locs → ∀ (ls : Array Slot), lv_has ls 3 [(0, .ref (w.2.2 h)), (1, .int x1), (2, .int x2)] → W p l e rm1_meetUsers s m args below meth c H locs 0 0 (MQ below (Qw EC LC w σ' none) args s 0 0 (AW LC w)) (F0 m 2 ls []) := by
  obtain ⟨hx, hb, hml, hown, hts⟩ := id S
  intro n
  induction n with
  | zero =>
    intro σ x1 x2 h0
    cases (show none = _ from h0)
  | succ n ih =>
    intro σ x1 x2 h0 H locs hR hS ls hl
    rw [f1_meetUsers_b2] at h0
    refine lv_iload_n hx hb d1_meetUsers_2 rfl (lv_at hl 2 rfl) ?_
    refine lv_aload_n hx hb d1_meetUsers_3 rfl (lv_at hl 0 rfl) ?_
    refine g1_65 S hK hR hh d1_meetUsers_4 ?_
    refine g1_174 S hK hR (by decide) rfl d1_meetUsers_7 ?_
    obtain ⟨r1, hr1, h0⟩ := og_b h0
    refine k1_101 S hK hR (by decide) hr1 ⟨Nat.zero_le _, Nat.zero_le _⟩ ⟨Nat.le_of_ble_eq_true rfl, Nat.le_of_ble_eq_true rfl⟩ hl.1 (Nat.le_of_ble_eq_true rfl) d1_meetUsers_10 ?_
    refine lv_icmp_ge (tgt := 49) hx hb d1_meetUsers_13 (by decide) (fun hc2 => ?_) (fun hc2 => ?_)
    · have h0 := og_t hc2 h0
      exact q_vret S hr hlk hR hS h0 d1_meetUsers_49
    · have h0 := og_f hc2 h0
      refine lv_aload_n hx hb d1_meetUsers_16 rfl (lv_at hl 0 rfl) ?_
      refine g1_65 S hK hR hh d1_meetUsers_17 ?_
      refine g1_174 S hK hR (by decide) rfl d1_meetUsers_20 ?_
      refine lv_iload_n hx hb d1_meetUsers_23 rfl (lv_at hl 2 rfl) ?_
      obtain ⟨r3, hr3, h0⟩ := og_b h0
      refine k1_148 S hK hR (by decide) hr3 ⟨Nat.zero_le _, Nat.zero_le _⟩ ⟨Nat.le_of_ble_eq_true rfl, Nat.le_of_ble_eq_true rfl⟩ hl.1 (Nat.le_of_ble_eq_true rfl) d1_meetUsers_24 ?_
      refine lv_iload_n hx hb d1_meetUsers_27 rfl (lv_at hl 1 rfl) ?_
      refine lv_icmp_ne (tgt := 43) hx hb d1_meetUsers_28 (by decide) (fun hc4 => ?_) (fun hc4 => ?_)
      · have h0 := og_f hc4 h0
        refine lv_iinc (v := x2 + 1) (lv' := [(2, .int (x2 + 1)), (0, .ref (w.2.2 h)), (1, .int x1)]) hx hb d1_meetUsers_43 hl (k := 2) rfl (ii1 _) (by decide) rfl (fun ls hl => ?_)
        refine lv_goto (tgt := 2) hx hb d1_meetUsers_46 (by decide) ?_
        exact ih σ x1 (x2 + 1) h0 _ _ hR hS _ (lv_sub hl [1, 2, 0] rfl)
      · have h0 := og_t hc4 h0
        refine lv_aload_n hx hb d1_meetUsers_31 rfl (lv_at hl 0 rfl) ?_
        refine lv_dup hx hb d1_meetUsers_32 rfl ?_
        refine g1_33 S hK hR hh d1_meetUsers_33 ?_
        refine lv_iconst (v := 1) hx hb d1_meetUsers_36 (by decide) ?_
        refine lv_iload_n hx hb d1_meetUsers_37 rfl (lv_at hl 2 rfl) ?_
        refine lv_ishl hx hb d1_meetUsers_38 ?_
        refine lv_ior hx hb d1_meetUsers_39 ?_
        obtain ⟨σ5, hm5, h0⟩ := og_m h0
        refine u1_33 S hK hR hS hh hm5 d1_meetUsers_40 (fun H locs hR hS => ?_)
        refine lv_iinc (v := x2 + 1) (lv' := [(2, .int (x2 + 1)), (0, .ref (w.2.2 h)), (1, .int x1)]) hx hb d1_meetUsers_43 hl (k := 2) rfl (ii1 _) (by decide) rfl (fun ls hl => ?_)
        refine lv_goto (tgt := 2) hx hb d1_meetUsers_46 (by decide) ?_
        exact ih σ5 x1 (x2 + 1) h0 _ _ hR hS _ (lv_sub hl [1, 2, 0] rfl)
def f1_meetUsers (σ : Mem) (h : Nat) (x1 : Int32) : Option Mem := f1_meetUsers_b2 h 1000 σ x1 0
set_option maxHeartbeats 4000000 in
set_option maxRecDepth 100000 in
theorem c1_meetUsers (l : Launch) {w : WV} {σ : Mem} {h : Nat} {x1 : Int32} {σ' : Mem} (hh : h ∈ hourL) (h0 : f1_meetUsers σ h x1 = some σ') : Met l yX1_meetUsers (wy yX1_meetUsers cX1_meetUsers 3 none) rm1_meetUsers (Pw EC LC w [.ref (w.2.2 h), .int x1] σ) (Qw EC LC w σ' none) 0 0 (AW LC w) := by
  refine mk_met (by decide) (Nat.le_of_ble_eq_true rfl) ?_
  intro p e s m below meth c S hr hlk hK hR ls hl
  obtain ⟨hx, hb, hml, hown, hts⟩ := id S
  have hl : lv_has ls 3 [(0, .ref (w.2.2 h)), (1, .int x1)] := hl
  have hS : va_S (AW LC w) s.heap s.heap [] := va_S.rf
  unfold f1_meetUsers at h0
  refine lv_iconst (v := 0) hx hb d1_meetUsers_0 (by decide) ?_
  refine lv_istore_n (lv' := [(2, .int 0), (0, .ref (w.2.2 h)), (1, .int x1)]) hx hb d1_meetUsers_1 rfl hl (by decide) rfl (fun ls hl => ?_)
  exact t1_meetUsers_b2 S hr hlk hK hh 1000 σ x1 0 h0 _ _ hR hS _ (lv_sub hl [1, 2, 0] rfl)
set_option maxHeartbeats 4000000 in
set_option maxRecDepth 100000 in
theorem k1_158 {p : Program} {l : Launch} {e : Env} {R : Room} {s : State} {m : MethodId} {args : Array Value} {below : List Frame} {meth : Method} {c : Code} {H : Heap} {locs : List Loc} {cells slots : Nat} {Q : State → Prop} {cc : ByteArray} {pc nL : Nat} {ls : Array Slot} {rest : List Value} {w : WV} {σ : Mem} {h : Nat} {x1 : Int32} {σ1 : Mem} (S : CallFix p m c cc nL s args gtbl RX1) (hK : KS LC w s) (hR : Rp EC LC w σ H) (hS : va_S (AW LC w) s.heap H locs) (hh : h ∈ hourL) (h0 : f1_meetUsers σ h x1 = some σ1) (hf : cells + 0 ≤ R.cells ∧ slots + 0 ≤ R.slots) (hRm : rm1_meetUsers.frames + 1 ≤ R.frames ∧ 8 + (3 + 11) + rm1_meetUsers.locals ≤ R.locals) (hl : ls.size = nL) (hW : (rest.map fun v => v.category).sum ≤ 8) (hdg : decode cc pc = .ok (.invokevirtual 158, 3)) (kk : ∀ (H1 : Heap) (locs1 : List Loc), Rp EC LC w σ1 H1 → va_S (AW LC w) s.heap H1 locs1 → W p l e R s m args below meth c H1 locs1 cells slots Q (F0 m (pc + 3) ls (rest))) : W p l e R s m args below meth c H locs cells slots Q (F0 m pc ls (.int x1 :: .ref (w.2.2 h) :: rest)) := r_end hS (run_V (n := 1) (As := [.int x1]) S hK hR (ok_1 _ hh) (eC_1 _ hh w _) rfl (gw_V (gt_at 663 (by decide +kernel) (by decide +kernel)) (gt_at 665 (by decide +kernel) (by decide +kernel)) (gt_at 27 (by decide +kernel) (by decide +kernel)) (gt_at 80 (by decide +kernel) (by decide +kernel)) (gt_at 666 (by decide +kernel) (by decide +kernel))) (by decide +kernel) rfl (c1_meetUsers l hh h0) ⟨rfl, rfl⟩ hRm hf hl rfl hW hdg) kk
/-! FourTenGates$Hour.isWaiting(I)Z -/
abbrev rm1_isWaiting : Room := { frames := 0, cells := 0, slots := 0, locals := 0 }
theorem d1_isWaiting_0 : decode cX1_isWaiting 0 = .ok (.aload_n 0, 1) := by decide +kernel
theorem d1_isWaiting_1 : decode cX1_isWaiting 1 = .ok (.getfield 33, 3) := by decide +kernel
theorem d1_isWaiting_4 : decode cX1_isWaiting 4 = .ok (.iconst 1, 1) := by decide +kernel
theorem d1_isWaiting_5 : decode cX1_isWaiting 5 = .ok (.iload_n 1, 1) := by decide +kernel
theorem d1_isWaiting_6 : decode cX1_isWaiting 6 = .ok (.ishl, 1) := by decide +kernel
theorem d1_isWaiting_7 : decode cX1_isWaiting 7 = .ok (.iand, 1) := by decide +kernel
theorem d1_isWaiting_8 : decode cX1_isWaiting 8 = .ok (.ifCond .eq 7, 3) := by decide +kernel
theorem d1_isWaiting_11 : decode cX1_isWaiting 11 = .ok (.iconst 1, 1) := by decide +kernel
theorem d1_isWaiting_12 : decode cX1_isWaiting 12 = .ok (.goto 4, 3) := by decide +kernel
theorem d1_isWaiting_15 : decode cX1_isWaiting 15 = .ok (.iconst 0, 1) := by decide +kernel
theorem d1_isWaiting_16 : decode cX1_isWaiting 16 = .ok (.ireturn, 1) := by decide +kernel
def f1_isWaiting (σ : Mem) (h : Nat) (x1 : Int32) : Option Int32 := if ((σ h 9) &&& (1 <<< (x1 &&& 31))) = 0 then some 0 else some 1
set_option maxHeartbeats 4000000 in
set_option maxRecDepth 100000 in
theorem c1_isWaiting (l : Launch) {w : WV} {σ : Mem} {h : Nat} {x1 : Int32} {r : Int32} (hh : h ∈ hourL) (h0 : f1_isWaiting σ h x1 = some r) : Met l yX1_isWaiting (wy yX1_isWaiting cX1_isWaiting 2 (some .boolean)) rm1_isWaiting (Pw EC LC w [.ref (w.2.2 h), .int x1] σ) (Qp (.int r)) 0 0 (fun _ => False) := by
  refine mk_met (by decide) (Nat.le_of_ble_eq_true rfl) ?_
  intro p e s m below meth c S hr hlk hK hR ls hl
  obtain ⟨hx, hb, hml, hown, hts⟩ := id S
  have hl : lv_has ls 2 [(0, .ref (w.2.2 h)), (1, .int x1)] := hl
  unfold f1_isWaiting at h0
  refine lv_aload_n hx hb d1_isWaiting_0 rfl (lv_at hl 0 rfl) ?_
  refine g1_33 S hK hR hh d1_isWaiting_1 ?_
  refine lv_iconst (v := 1) hx hb d1_isWaiting_4 (by decide) ?_
  refine lv_iload_n hx hb d1_isWaiting_5 rfl (lv_at hl 1 rfl) ?_
  refine lv_ishl hx hb d1_isWaiting_6 ?_
  refine lv_iand hx hb d1_isWaiting_7 ?_
  refine lv_if_eq (tgt := 15) hx hb d1_isWaiting_8 (by decide) (fun hc1 => ?_) (fun hc1 => ?_)
  · have h0 := og_t hc1 h0
    refine lv_iconst (v := 0) hx hb d1_isWaiting_15 (by decide) ?_
    exact q_zpure S hr hlk (Or.inl rfl) h0 d1_isWaiting_16
  · have h0 := og_f hc1 h0
    refine lv_iconst (v := 1) hx hb d1_isWaiting_11 (by decide) ?_
    refine lv_goto (tgt := 16) hx hb d1_isWaiting_12 (by decide) ?_
    exact q_zpure S hr hlk (Or.inr rfl) h0 d1_isWaiting_16
set_option maxHeartbeats 4000000 in
set_option maxRecDepth 100000 in
theorem k1_168 {p : Program} {l : Launch} {e : Env} {R : Room} {s : State} {m : MethodId} {args : Array Value} {below : List Frame} {meth : Method} {c : Code} {H : Heap} {locs : List Loc} {cells slots : Nat} {Q : State → Prop} {cc : ByteArray} {pc nL : Nat} {ls : Array Slot} {rest : List Value} {w : WV} {σ : Mem} {h : Nat} {x1 : Int32} {r : Int32} (S : CallFix p m c cc nL s args gtbl RX1) (hK : KS LC w s) (hR : Rp EC LC w σ H) (hh : h ∈ hourL) (h0 : f1_isWaiting σ h x1 = some r) (hf : cells + 0 ≤ R.cells ∧ slots + 0 ≤ R.slots) (hRm : rm1_isWaiting.frames + 1 ≤ R.frames ∧ 8 + (2 + 11) + rm1_isWaiting.locals ≤ R.locals) (hl : ls.size = nL) (hW : (rest.map fun v => v.category).sum ≤ 8) (hdg : decode cc pc = .ok (.invokevirtual 168, 3)) (kk : W p l e R s m args below meth c H locs cells slots Q (F0 m (pc + 3) ls (.int r :: rest))) : W p l e R s m args below meth c H locs cells slots Q (F0 m pc ls (.int x1 :: .ref (w.2.2 h) :: rest)) := r_endp (run_V (n := 1) (As := [.int x1]) S hK hR (ok_1 _ hh) (eC_1 _ hh w _) rfl (gw_V (gt_at 671 (by decide +kernel) (by decide +kernel)) (gt_at 673 (by decide +kernel) (by decide +kernel)) (gt_at 29 (by decide +kernel) (by decide +kernel)) (gt_at 80 (by decide +kernel) (by decide +kernel)) (gt_at 674 (by decide +kernel) (by decide +kernel))) (by decide +kernel) rfl (c1_isWaiting l hh h0) ⟨rfl, rfl⟩ hRm hf hl rfl hW hdg) kk
/-! FourTenGates$Hour.canCross(I)Z -/
abbrev rm1_canCross : Room := { frames := 0, cells := 0, slots := 0, locals := 0 }
theorem d1_canCross_0 : decode cX1_canCross 0 = .ok (.aload_n 0, 1) := by decide +kernel
theorem d1_canCross_1 : decode cX1_canCross 1 = .ok (.getfield 47, 3) := by decide +kernel
theorem d1_canCross_4 : decode cX1_canCross 4 = .ok (.ifCond .eq 16, 3) := by decide +kernel
theorem d1_canCross_7 : decode cX1_canCross 7 = .ok (.aload_n 0, 1) := by decide +kernel
theorem d1_canCross_8 : decode cX1_canCross 8 = .ok (.getfield 47, 3) := by decide +kernel
theorem d1_canCross_11 : decode cX1_canCross 11 = .ok (.iconst 1, 1) := by decide +kernel
theorem d1_canCross_12 : decode cX1_canCross 12 = .ok (.if_icmp .ne 12, 3) := by decide +kernel
theorem d1_canCross_15 : decode cX1_canCross 15 = .ok (.iload_n 1, 1) := by decide +kernel
theorem d1_canCross_16 : decode cX1_canCross 16 = .ok (.iconst 3, 1) := by decide +kernel
theorem d1_canCross_17 : decode cX1_canCross 17 = .ok (.if_icmp .ne 7, 3) := by decide +kernel
theorem d1_canCross_20 : decode cX1_canCross 20 = .ok (.iconst 1, 1) := by decide +kernel
theorem d1_canCross_21 : decode cX1_canCross 21 = .ok (.goto 4, 3) := by decide +kernel
theorem d1_canCross_24 : decode cX1_canCross 24 = .ok (.iconst 0, 1) := by decide +kernel
theorem d1_canCross_25 : decode cX1_canCross 25 = .ok (.ireturn, 1) := by decide +kernel
def f1_canCross (σ : Mem) (h : Nat) (x1 : Int32) : Option Int32 := if (σ h 13) = 0 then some 1 else if (σ h 13) = 1 then if x1 = 3 then some 1 else some 0 else some 0
set_option maxHeartbeats 4000000 in
set_option maxRecDepth 100000 in
theorem c1_canCross (l : Launch) {w : WV} {σ : Mem} {h : Nat} {x1 : Int32} {r : Int32} (hh : h ∈ hourL) (h0 : f1_canCross σ h x1 = some r) : Met l yX1_canCross (wy yX1_canCross cX1_canCross 2 (some .boolean)) rm1_canCross (Pw EC LC w [.ref (w.2.2 h), .int x1] σ) (Qp (.int r)) 0 0 (fun _ => False) := by
  refine mk_met (by decide) (Nat.le_of_ble_eq_true rfl) ?_
  intro p e s m below meth c S hr hlk hK hR ls hl
  obtain ⟨hx, hb, hml, hown, hts⟩ := id S
  have hl : lv_has ls 2 [(0, .ref (w.2.2 h)), (1, .int x1)] := hl
  unfold f1_canCross at h0
  refine lv_aload_n hx hb d1_canCross_0 rfl (lv_at hl 0 rfl) ?_
  refine g1_47 S hK hR hh d1_canCross_1 ?_
  refine lv_if_eq (tgt := 20) hx hb d1_canCross_4 (by decide) (fun hc1 => ?_) (fun hc1 => ?_)
  · have h0 := og_t hc1 h0
    refine lv_iconst (v := 1) hx hb d1_canCross_20 (by decide) ?_
    refine lv_goto (tgt := 25) hx hb d1_canCross_21 (by decide) ?_
    exact q_zpure S hr hlk (Or.inr rfl) h0 d1_canCross_25
  · have h0 := og_f hc1 h0
    refine lv_aload_n hx hb d1_canCross_7 rfl (lv_at hl 0 rfl) ?_
    refine g1_47 S hK hR hh d1_canCross_8 ?_
    refine lv_iconst (v := 1) hx hb d1_canCross_11 (by decide) ?_
    refine lv_icmp_ne (tgt := 24) hx hb d1_canCross_12 (by decide) (fun hc2 => ?_) (fun hc2 => ?_)
    · have h0 := og_f hc2 h0
      refine lv_iconst (v := 0) hx hb d1_canCross_24 (by decide) ?_
      exact q_zpure S hr hlk (Or.inl rfl) h0 d1_canCross_25
    · have h0 := og_t hc2 h0
      refine lv_iload_n hx hb d1_canCross_15 rfl (lv_at hl 1 rfl) ?_
      refine lv_iconst (v := 3) hx hb d1_canCross_16 (by decide) ?_
      refine lv_icmp_ne (tgt := 24) hx hb d1_canCross_17 (by decide) (fun hc3 => ?_) (fun hc3 => ?_)
      · have h0 := og_f hc3 h0
        refine lv_iconst (v := 0) hx hb d1_canCross_24 (by decide) ?_
        exact q_zpure S hr hlk (Or.inl rfl) h0 d1_canCross_25
      · have h0 := og_t hc3 h0
        refine lv_iconst (v := 1) hx hb d1_canCross_20 (by decide) ?_
        refine lv_goto (tgt := 25) hx hb d1_canCross_21 (by decide) ?_
        exact q_zpure S hr hlk (Or.inr rfl) h0 d1_canCross_25
set_option maxHeartbeats 4000000 in
set_option maxRecDepth 100000 in
theorem k1_177 {p : Program} {l : Launch} {e : Env} {R : Room} {s : State} {m : MethodId} {args : Array Value} {below : List Frame} {meth : Method} {c : Code} {H : Heap} {locs : List Loc} {cells slots : Nat} {Q : State → Prop} {cc : ByteArray} {pc nL : Nat} {ls : Array Slot} {rest : List Value} {w : WV} {σ : Mem} {h : Nat} {x1 : Int32} {r : Int32} (S : CallFix p m c cc nL s args gtbl RX1) (hK : KS LC w s) (hR : Rp EC LC w σ H) (hh : h ∈ hourL) (h0 : f1_canCross σ h x1 = some r) (hf : cells + 0 ≤ R.cells ∧ slots + 0 ≤ R.slots) (hRm : rm1_canCross.frames + 1 ≤ R.frames ∧ 8 + (2 + 11) + rm1_canCross.locals ≤ R.locals) (hl : ls.size = nL) (hW : (rest.map fun v => v.category).sum ≤ 8) (hdg : decode cc pc = .ok (.invokevirtual 177, 3)) (kk : W p l e R s m args below meth c H locs cells slots Q (F0 m (pc + 3) ls (.int r :: rest))) : W p l e R s m args below meth c H locs cells slots Q (F0 m pc ls (.int x1 :: .ref (w.2.2 h) :: rest)) := r_endp (run_V (n := 1) (As := [.int x1]) S hK hR (ok_1 _ hh) (eC_1 _ hh w _) rfl (gw_V (gt_at 675 (by decide +kernel) (by decide +kernel)) (gt_at 677 (by decide +kernel) (by decide +kernel)) (gt_at 30 (by decide +kernel) (by decide +kernel)) (gt_at 80 (by decide +kernel) (by decide +kernel)) (gt_at 678 (by decide +kernel) (by decide +kernel))) (by decide +kernel) rfl (c1_canCross l hh h0) ⟨rfl, rfl⟩ hRm hf hl rfl hW hdg) kk
/-! FourTenGates$Hour.firstToCross()I -/
abbrev rm1_firstToCross : Room := { frames := 1, cells := 0, slots := 0, locals := 21 }
theorem d1_firstToCross_0 : decode cX1_firstToCross 0 = .ok (.bipush (-4), 2) := by decide +kernel
theorem d1_firstToCross_2 : decode cX1_firstToCross 2 = .ok (.istore_n 1, 1) := by decide +kernel
theorem d1_firstToCross_3 : decode cX1_firstToCross 3 = .ok (.iconst 0, 1) := by decide +kernel
theorem d1_firstToCross_4 : decode cX1_firstToCross 4 = .ok (.istore_n 2, 1) := by decide +kernel
theorem d1_firstToCross_5 : decode cX1_firstToCross 5 = .ok (.iload_n 2, 1) := by decide +kernel
theorem d1_firstToCross_6 : decode cX1_firstToCross 6 = .ok (.bipush 8, 2) := by decide +kernel
theorem d1_firstToCross_8 : decode cX1_firstToCross 8 = .ok (.if_icmp .ge 63, 3) := by decide +kernel
theorem d1_firstToCross_11 : decode cX1_firstToCross 11 = .ok (.aload_n 0, 1) := by decide +kernel
theorem d1_firstToCross_12 : decode cX1_firstToCross 12 = .ok (.iload_n 2, 1) := by decide +kernel
theorem d1_firstToCross_13 : decode cX1_firstToCross 13 = .ok (.invokevirtual 168, 3) := by decide +kernel
theorem d1_firstToCross_16 : decode cX1_firstToCross 16 = .ok (.ifCond .eq 49, 3) := by decide +kernel
theorem d1_firstToCross_19 : decode cX1_firstToCross 19 = .ok (.aload_n 0, 1) := by decide +kernel
theorem d1_firstToCross_20 : decode cX1_firstToCross 20 = .ok (.aload_n 0, 1) := by decide +kernel
theorem d1_firstToCross_21 : decode cX1_firstToCross 21 = .ok (.getfield 65, 3) := by decide +kernel
theorem d1_firstToCross_24 : decode cX1_firstToCross 24 = .ok (.getfield 174, 3) := by decide +kernel
theorem d1_firstToCross_27 : decode cX1_firstToCross 27 = .ok (.iload_n 2, 1) := by decide +kernel
theorem d1_firstToCross_28 : decode cX1_firstToCross 28 = .ok (.invokevirtual 114, 3) := by decide +kernel
theorem d1_firstToCross_31 : decode cX1_firstToCross 31 = .ok (.invokevirtual 177, 3) := by decide +kernel
theorem d1_firstToCross_34 : decode cX1_firstToCross 34 = .ok (.ifCond .ne 6, 3) := by decide +kernel
theorem d1_firstToCross_37 : decode cX1_firstToCross 37 = .ok (.goto 28, 3) := by decide +kernel
theorem d1_firstToCross_40 : decode cX1_firstToCross 40 = .ok (.aload_n 0, 1) := by decide +kernel
theorem d1_firstToCross_41 : decode cX1_firstToCross 41 = .ok (.getfield 65, 3) := by decide +kernel
theorem d1_firstToCross_44 : decode cX1_firstToCross 44 = .ok (.getfield 174, 3) := by decide +kernel
theorem d1_firstToCross_47 : decode cX1_firstToCross 47 = .ok (.iload_n 2, 1) := by decide +kernel
theorem d1_firstToCross_48 : decode cX1_firstToCross 48 = .ok (.invokevirtual 114, 3) := by decide +kernel
theorem d1_firstToCross_51 : decode cX1_firstToCross 51 = .ok (.iconst 2, 1) := by decide +kernel
theorem d1_firstToCross_52 : decode cX1_firstToCross 52 = .ok (.if_icmp .ne 5, 3) := by decide +kernel
theorem d1_firstToCross_55 : decode cX1_firstToCross 55 = .ok (.iload_n 2, 1) := by decide +kernel
theorem d1_firstToCross_56 : decode cX1_firstToCross 56 = .ok (.ireturn, 1) := by decide +kernel
theorem d1_firstToCross_57 : decode cX1_firstToCross 57 = .ok (.iload_n 1, 1) := by decide +kernel
theorem d1_firstToCross_58 : decode cX1_firstToCross 58 = .ok (.bipush (-4), 2) := by decide +kernel
theorem d1_firstToCross_60 : decode cX1_firstToCross 60 = .ok (.if_icmp .ne 5, 3) := by decide +kernel
theorem d1_firstToCross_63 : decode cX1_firstToCross 63 = .ok (.iload_n 2, 1) := by decide +kernel
theorem d1_firstToCross_64 : decode cX1_firstToCross 64 = .ok (.istore_n 1, 1) := by decide +kernel
theorem d1_firstToCross_65 : decode cX1_firstToCross 65 = .ok (.iinc 2 1, 3) := by decide +kernel
theorem d1_firstToCross_68 : decode cX1_firstToCross 68 = .ok (.goto (-63), 3) := by decide +kernel
theorem d1_firstToCross_71 : decode cX1_firstToCross 71 = .ok (.iload_n 1, 1) := by decide +kernel
theorem d1_firstToCross_72 : decode cX1_firstToCross 72 = .ok (.ireturn, 1) := by decide +kernel
def f1_firstToCross_b5 (σ : Mem) (h : Nat) : Nat → Int32 → Int32 → Option Int32
  | 0, _, _ => none
  | n + 1, x1, x2 => if 8 ≤ x2 then some x1 else Option.bind (f1_isWaiting σ h x2) fun r2 => if r2 = 0 then f1_firstToCross_b5 σ h n x1 (x2 + 1) else Option.bind (f2_second σ 7 x2) fun r4 => Option.bind (f1_canCross σ h r4) fun r5 => if r5 = 0 then f1_firstToCross_b5 σ h n x1 (x2 + 1) else Option.bind (f2_second σ 7 x2) fun r7 => if r7 = 2 then some x2 else if x1 = (-4) then f1_firstToCross_b5 σ h n x2 (x2 + 1) else f1_firstToCross_b5 σ h n x1 (x2 + 1)
set_option maxHeartbeats 4000000 in
set_option maxRecDepth 100000 in
theorem t1_firstToCross_b5 {p : Program} {l : Launch} {e : Env} {s : State} {m : MethodId} {args : Array Value} {below : List Frame} {meth : Method} {c : Code} {w : WV} {σ : Mem} {h : Nat} {r : Int32} (S : CallFix p m c cX1_firstToCross 3 s args gtbl RX1) (hr : meth.sig.returnType = (some .int)) (hlk : meth.locks = false) (hK : KS LC w s) (hR : Rp EC LC w σ s.heap) (hh : h ∈ hourL) : ∀ (n : Nat), ∀ (x1 : Int32) (x2 : Int32), f1_firstToCross_b5 σ h n x1 x2 = some r → ∀ (ls : Array Slot), lv_has ls 3 [(0, .ref (w.2.2 h)), (1, .int x1), (2, .int x2)] → W p l e rm1_firstToCross s m args below meth c s.heap [] 0 0 (MQ below (Qp (.int r)) args s 0 0 (fun _ => False)) (F0 m 5 ls []) := by
  obtain ⟨hx, hb, hml, hown, hts⟩ := id S
  intro n
  induction n with
  | zero =>
    intro x1 x2 h0
    cases (show none = _ from h0)
  | succ n ih =>
    intro x1 x2 h0 ls hl
    rw [f1_firstToCross_b5] at h0
    refine lv_iload_n hx hb d1_firstToCross_5 rfl (lv_at hl 2 rfl) ?_
    refine lv_bipush (v := 8) hx hb d1_firstToCross_6 (by decide) ?_
    refine lv_icmp_ge (tgt := 71) hx hb d1_firstToCross_8 (by decide) (fun hc1 => ?_) (fun hc1 => ?_)
    · have h0 := og_t hc1 h0
      refine lv_iload_n hx hb d1_firstToCross_71 rfl (lv_at hl 1 rfl) ?_
      exact q_ipure S hr hlk h0 d1_firstToCross_72
    · have h0 := og_f hc1 h0
      refine lv_aload_n hx hb d1_firstToCross_11 rfl (lv_at hl 0 rfl) ?_
      refine lv_iload_n hx hb d1_firstToCross_12 rfl (lv_at hl 2 rfl) ?_
      obtain ⟨r2, hr2, h0⟩ := og_b h0
      refine k1_168 S hK hR hh hr2 ⟨Nat.zero_le _, Nat.zero_le _⟩ ⟨Nat.le_of_ble_eq_true rfl, Nat.le_of_ble_eq_true rfl⟩ hl.1 (Nat.le_of_ble_eq_true rfl) d1_firstToCross_13 ?_
      refine lv_if_eq (tgt := 65) hx hb d1_firstToCross_16 (by decide) (fun hc3 => ?_) (fun hc3 => ?_)
      · have h0 := og_t hc3 h0
        refine lv_iinc (v := x2 + 1) (lv' := [(2, .int (x2 + 1)), (0, .ref (w.2.2 h)), (1, .int x1)]) hx hb d1_firstToCross_65 hl (k := 2) rfl (ii1 _) (by decide) rfl (fun ls hl => ?_)
        refine lv_goto (tgt := 5) hx hb d1_firstToCross_68 (by decide) ?_
        exact ih x1 (x2 + 1) h0 _ (lv_sub hl [1, 2, 0] rfl)
      · have h0 := og_f hc3 h0
        refine lv_aload_n hx hb d1_firstToCross_19 rfl (lv_at hl 0 rfl) ?_
        refine lv_aload_n hx hb d1_firstToCross_20 rfl (lv_at hl 0 rfl) ?_
        refine g1_65 S hK hR hh d1_firstToCross_21 ?_
        refine g1_174 S hK hR (by decide) rfl d1_firstToCross_24 ?_
        refine lv_iload_n hx hb d1_firstToCross_27 rfl (lv_at hl 2 rfl) ?_
        obtain ⟨r4, hr4, h0⟩ := og_b h0
        refine k1_114 S hK hR (by decide) hr4 ⟨Nat.zero_le _, Nat.zero_le _⟩ ⟨Nat.le_of_ble_eq_true rfl, Nat.le_of_ble_eq_true rfl⟩ hl.1 (Nat.le_of_ble_eq_true rfl) d1_firstToCross_28 ?_
        obtain ⟨r5, hr5, h0⟩ := og_b h0
        refine k1_177 S hK hR hh hr5 ⟨Nat.zero_le _, Nat.zero_le _⟩ ⟨Nat.le_of_ble_eq_true rfl, Nat.le_of_ble_eq_true rfl⟩ hl.1 (Nat.le_of_ble_eq_true rfl) d1_firstToCross_31 ?_
        refine lv_if_ne (tgt := 40) hx hb d1_firstToCross_34 (by decide) (fun hc6 => ?_) (fun hc6 => ?_)
        · have h0 := og_f hc6 h0
          refine lv_aload_n hx hb d1_firstToCross_40 rfl (lv_at hl 0 rfl) ?_
          refine g1_65 S hK hR hh d1_firstToCross_41 ?_
          refine g1_174 S hK hR (by decide) rfl d1_firstToCross_44 ?_
          refine lv_iload_n hx hb d1_firstToCross_47 rfl (lv_at hl 2 rfl) ?_
          obtain ⟨r7, hr7, h0⟩ := og_b h0
          refine k1_114 S hK hR (by decide) hr7 ⟨Nat.zero_le _, Nat.zero_le _⟩ ⟨Nat.le_of_ble_eq_true rfl, Nat.le_of_ble_eq_true rfl⟩ hl.1 (Nat.le_of_ble_eq_true rfl) d1_firstToCross_48 ?_
          refine lv_iconst (v := 2) hx hb d1_firstToCross_51 (by decide) ?_
          refine lv_icmp_ne (tgt := 57) hx hb d1_firstToCross_52 (by decide) (fun hc8 => ?_) (fun hc8 => ?_)
          · have h0 := og_f hc8 h0
            refine lv_iload_n hx hb d1_firstToCross_57 rfl (lv_at hl 1 rfl) ?_
            refine lv_bipush (v := (-4)) hx hb d1_firstToCross_58 (by decide) ?_
            refine lv_icmp_ne (tgt := 65) hx hb d1_firstToCross_60 (by decide) (fun hc9 => ?_) (fun hc9 => ?_)
            · have h0 := og_f hc9 h0
              refine lv_iinc (v := x2 + 1) (lv' := [(2, .int (x2 + 1)), (0, .ref (w.2.2 h)), (1, .int x1)]) hx hb d1_firstToCross_65 hl (k := 2) rfl (ii1 _) (by decide) rfl (fun ls hl => ?_)
              refine lv_goto (tgt := 5) hx hb d1_firstToCross_68 (by decide) ?_
              exact ih x1 (x2 + 1) h0 _ (lv_sub hl [1, 2, 0] rfl)
            · have h0 := og_t hc9 h0
              refine lv_iload_n hx hb d1_firstToCross_63 rfl (lv_at hl 2 rfl) ?_
              refine lv_istore_n (lv' := [(1, .int x2), (0, .ref (w.2.2 h)), (2, .int x2)]) hx hb d1_firstToCross_64 rfl hl (by decide) rfl (fun ls hl => ?_)
              refine lv_iinc (v := x2 + 1) (lv' := [(2, .int (x2 + 1)), (1, .int x2), (0, .ref (w.2.2 h))]) hx hb d1_firstToCross_65 hl (k := 2) rfl (ii1 _) (by decide) rfl (fun ls hl => ?_)
              refine lv_goto (tgt := 5) hx hb d1_firstToCross_68 (by decide) ?_
              exact ih x2 (x2 + 1) h0 _ (lv_sub hl [2, 1, 0] rfl)
          · have h0 := og_t hc8 h0
            refine lv_iload_n hx hb d1_firstToCross_55 rfl (lv_at hl 2 rfl) ?_
            exact q_ipure S hr hlk h0 d1_firstToCross_56
        · have h0 := og_t hc6 h0
          refine lv_goto (tgt := 65) hx hb d1_firstToCross_37 (by decide) ?_
          refine lv_iinc (v := x2 + 1) (lv' := [(2, .int (x2 + 1)), (0, .ref (w.2.2 h)), (1, .int x1)]) hx hb d1_firstToCross_65 hl (k := 2) rfl (ii1 _) (by decide) rfl (fun ls hl => ?_)
          refine lv_goto (tgt := 5) hx hb d1_firstToCross_68 (by decide) ?_
          exact ih x1 (x2 + 1) h0 _ (lv_sub hl [1, 2, 0] rfl)
def f1_firstToCross (σ : Mem) (h : Nat) : Option Int32 := f1_firstToCross_b5 σ h 1000 (-4) 0
set_option maxHeartbeats 4000000 in
set_option maxRecDepth 100000 in
theorem c1_firstToCross (l : Launch) {w : WV} {σ : Mem} {h : Nat} {r : Int32} (hh : h ∈ hourL) (h0 : f1_firstToCross σ h = some r) : Met l yX1_firstToCross (wy yX1_firstToCross cX1_firstToCross 3 (some .int)) rm1_firstToCross (Pw EC LC w [.ref (w.2.2 h)] σ) (Qp (.int r)) 0 0 (fun _ => False) := by
  refine mk_met (by decide) (Nat.le_of_ble_eq_true rfl) ?_
  intro p e s m below meth c S hr hlk hK hR ls hl
  obtain ⟨hx, hb, hml, hown, hts⟩ := id S
  have hl : lv_has ls 3 [(0, .ref (w.2.2 h))] := hl
  unfold f1_firstToCross at h0
  refine lv_bipush (v := (-4)) hx hb d1_firstToCross_0 (by decide) ?_
  refine lv_istore_n (lv' := [(1, .int (-4)), (0, .ref (w.2.2 h))]) hx hb d1_firstToCross_2 rfl hl (by decide) rfl (fun ls hl => ?_)
  refine lv_iconst (v := 0) hx hb d1_firstToCross_3 (by decide) ?_
  refine lv_istore_n (lv' := [(2, .int 0), (1, .int (-4)), (0, .ref (w.2.2 h))]) hx hb d1_firstToCross_4 rfl hl (by decide) rfl (fun ls hl => ?_)
  exact t1_firstToCross_b5 S hr hlk hK hR hh 1000 (-4) 0 h0 _ (lv_sub hl [2, 1, 0] rfl)
set_option maxHeartbeats 4000000 in
set_option maxRecDepth 100000 in
theorem k1_161 {p : Program} {l : Launch} {e : Env} {R : Room} {s : State} {m : MethodId} {args : Array Value} {below : List Frame} {meth : Method} {c : Code} {H : Heap} {locs : List Loc} {cells slots : Nat} {Q : State → Prop} {cc : ByteArray} {pc nL : Nat} {ls : Array Slot} {rest : List Value} {w : WV} {σ : Mem} {h : Nat} {r : Int32} (S : CallFix p m c cc nL s args gtbl RX1) (hK : KS LC w s) (hR : Rp EC LC w σ H) (hh : h ∈ hourL) (h0 : f1_firstToCross σ h = some r) (hf : cells + 0 ≤ R.cells ∧ slots + 0 ≤ R.slots) (hRm : rm1_firstToCross.frames + 1 ≤ R.frames ∧ 8 + (3 + 11) + rm1_firstToCross.locals ≤ R.locals) (hl : ls.size = nL) (hW : (rest.map fun v => v.category).sum ≤ 8) (hdg : decode cc pc = .ok (.invokevirtual 161, 3)) (kk : W p l e R s m args below meth c H locs cells slots Q (F0 m (pc + 3) ls (.int r :: rest))) : W p l e R s m args below meth c H locs cells slots Q (F0 m pc ls (.ref (w.2.2 h) :: rest)) := r_endp (run_V (n := 0) (As := []) S hK hR (ok_1 _ hh) (eC_1 _ hh w _) rfl (gw_V (gt_at 667 (by decide +kernel) (by decide +kernel)) (gt_at 669 (by decide +kernel) (by decide +kernel)) (gt_at 28 (by decide +kernel) (by decide +kernel)) (gt_at 80 (by decide +kernel) (by decide +kernel)) (gt_at 670 (by decide +kernel) (by decide +kernel))) (by decide +kernel) rfl (c1_firstToCross l hh h0) ⟨rfl, rfl⟩ hRm hf hl rfl hW hdg) kk
/-! FourTenGates$Hour.beatsOnRoad(I)I -/
abbrev rm1_beatsOnRoad : Room := { frames := 0, cells := 0, slots := 0, locals := 0 }
theorem d1_beatsOnRoad_0 : decode cX1_beatsOnRoad 0 = .ok (.iload_n 0, 1) := by decide +kernel
theorem d1_beatsOnRoad_1 : decode cX1_beatsOnRoad 1 = .ok (.lookupswitch 32 #[(0, 27), (1, 29)], 27) := by decide +kernel
theorem d1_beatsOnRoad_28 : decode cX1_beatsOnRoad 28 = .ok (.iconst 2, 1) := by decide +kernel
theorem d1_beatsOnRoad_29 : decode cX1_beatsOnRoad 29 = .ok (.ireturn, 1) := by decide +kernel
theorem d1_beatsOnRoad_30 : decode cX1_beatsOnRoad 30 = .ok (.bipush 30, 2) := by decide +kernel
theorem d1_beatsOnRoad_32 : decode cX1_beatsOnRoad 32 = .ok (.ireturn, 1) := by decide +kernel
theorem d1_beatsOnRoad_33 : decode cX1_beatsOnRoad 33 = .ok (.iconst 1, 1) := by decide +kernel
theorem d1_beatsOnRoad_34 : decode cX1_beatsOnRoad 34 = .ok (.ireturn, 1) := by decide +kernel
def f1_beatsOnRoad (x0 : Int32) : Option Int32 := if x0 = 0 then some 2 else if x0 = 1 then some 30 else some 1
set_option maxHeartbeats 4000000 in
set_option maxRecDepth 100000 in
theorem c1_beatsOnRoad (l : Launch) {x0 : Int32} {r : Int32} (h0 : f1_beatsOnRoad x0 = some r) : Met l yX1_beatsOnRoad (wy yX1_beatsOnRoad cX1_beatsOnRoad 1 (some .int)) rm1_beatsOnRoad (Ps [.int x0]) (Qp (.int r)) 0 0 (fun _ => False) := by
  refine mk_mets (by decide) (Nat.le_of_ble_eq_true rfl) ?_
  intro p e s m below meth c S hr hlk ls hl
  obtain ⟨hx, hb, hml, hown, hts⟩ := id S
  have hl : lv_has ls 1 [(0, .int x0)] := hl
  unfold f1_beatsOnRoad at h0
  refine lv_iload_n hx hb d1_beatsOnRoad_0 rfl (lv_at hl 0 rfl) ?_
  by_cases hc1 : x0 = 0
  · have h0 := og_t hc1 h0
    refine q_lokI (off := 27) (tgt := 28) S d1_beatsOnRoad_1 hc1 (by decide) (by decide) (by decide) ?_
    refine lv_iconst (v := 2) hx hb d1_beatsOnRoad_28 (by decide) ?_
    exact q_ipure S hr hlk h0 d1_beatsOnRoad_29
  · have h0 := og_f hc1 h0
    by_cases hc2 : x0 = 1
    · have h0 := og_t hc2 h0
      refine q_lokI (off := 29) (tgt := 30) S d1_beatsOnRoad_1 hc2 (by decide) (by decide) (by decide) ?_
      refine lv_bipush (v := 30) hx hb d1_beatsOnRoad_30 (by decide) ?_
      exact q_ipure S hr hlk h0 d1_beatsOnRoad_32
    · have h0 := og_f hc2 h0
      refine q_lokD2 (tgt := 33) S d1_beatsOnRoad_1 (by decide) (ne_toInt hc1 (by decide)) (ne_toInt hc2 (by decide)) (by decide) ?_
      refine lv_iconst (v := 1) hx hb d1_beatsOnRoad_33 (by decide) ?_
      exact q_ipure S hr hlk h0 d1_beatsOnRoad_34
set_option maxHeartbeats 4000000 in
set_option maxRecDepth 100000 in
theorem k1_180 {p : Program} {l : Launch} {e : Env} {R : Room} {s : State} {m : MethodId} {args : Array Value} {below : List Frame} {meth : Method} {c : Code} {H : Heap} {locs : List Loc} {cells slots : Nat} {Q : State → Prop} {cc : ByteArray} {pc nL : Nat} {ls : Array Slot} {rest : List Value} {x0 : Int32} {r : Int32} (S : CallFix p m c cc nL s args gtbl RX1) (h0 : f1_beatsOnRoad x0 = some r) (hf : cells + 0 ≤ R.cells ∧ slots + 0 ≤ R.slots) (hRm : rm1_beatsOnRoad.frames + 1 ≤ R.frames ∧ 8 + (1 + 11) + rm1_beatsOnRoad.locals ≤ R.locals) (hl : ls.size = nL) (hW : (rest.map fun v => v.category).sum ≤ 8) (hdg : decode cc pc = .ok (.invokestatic 180, 3)) (kk : W p l e R s m args below meth c H locs cells slots Q (F0 m (pc + 3) ls (.int r :: rest))) : W p l e R s m args below meth c H locs cells slots Q (F0 m pc ls (.int x0 :: rest)) := r_endp (run_S (n := 1) (As := [.int x0]) S (gw_S (gt_at 683 (by decide +kernel) (by decide +kernel)) (gt_at 684 (by decide +kernel) (by decide +kernel)) (gt_at 80 (by decide +kernel) (by decide +kernel)) (gt_at 685 (by decide +kernel) (by decide +kernel))) (by decide +kernel) rfl (c1_beatsOnRoad l h0) ⟨rfl, rfl⟩ hRm hf hl rfl hW hdg) kk
/-! FourTenGates$Hour.letCross(II)V -/
abbrev rm1_letCross : Room := { frames := 1, cells := 0, slots := 0, locals := 21 }
theorem d1_letCross_0 : decode cX1_letCross 0 = .ok (.iload_n 1, 1) := by decide +kernel
theorem d1_letCross_1 : decode cX1_letCross 1 = .ok (.ifCond .lt 9, 3) := by decide +kernel
theorem d1_letCross_4 : decode cX1_letCross 4 = .ok (.iload_n 1, 1) := by decide +kernel
theorem d1_letCross_5 : decode cX1_letCross 5 = .ok (.bipush 8, 2) := by decide +kernel
theorem d1_letCross_7 : decode cX1_letCross 7 = .ok (.if_icmp .lt 4, 3) := by decide +kernel
theorem d1_letCross_10 : decode cX1_letCross 10 = .ok (.return_, 1) := by decide +kernel
theorem d1_letCross_11 : decode cX1_letCross 11 = .ok (.aload_n 0, 1) := by decide +kernel
theorem d1_letCross_12 : decode cX1_letCross 12 = .ok (.dup, 1) := by decide +kernel
theorem d1_letCross_13 : decode cX1_letCross 13 = .ok (.getfield 33, 3) := by decide +kernel
theorem d1_letCross_16 : decode cX1_letCross 16 = .ok (.iconst 1, 1) := by decide +kernel
theorem d1_letCross_17 : decode cX1_letCross 17 = .ok (.iload_n 1, 1) := by decide +kernel
theorem d1_letCross_18 : decode cX1_letCross 18 = .ok (.ishl, 1) := by decide +kernel
theorem d1_letCross_19 : decode cX1_letCross 19 = .ok (.iconst (-1), 1) := by decide +kernel
theorem d1_letCross_20 : decode cX1_letCross 20 = .ok (.ixor, 1) := by decide +kernel
theorem d1_letCross_21 : decode cX1_letCross 21 = .ok (.iand, 1) := by decide +kernel
theorem d1_letCross_22 : decode cX1_letCross 22 = .ok (.putfield 33, 3) := by decide +kernel
theorem d1_letCross_25 : decode cX1_letCross 25 = .ok (.aload_n 0, 1) := by decide +kernel
theorem d1_letCross_26 : decode cX1_letCross 26 = .ok (.getfield 27, 3) := by decide +kernel
theorem d1_letCross_29 : decode cX1_letCross 29 = .ok (.iload_n 1, 1) := by decide +kernel
theorem d1_letCross_30 : decode cX1_letCross 30 = .ok (.iload_n 2, 1) := by decide +kernel
theorem d1_letCross_31 : decode cX1_letCross 31 = .ok (.iastore, 1) := by decide +kernel
theorem d1_letCross_32 : decode cX1_letCross 32 = .ok (.aload_n 0, 1) := by decide +kernel
theorem d1_letCross_33 : decode cX1_letCross 33 = .ok (.iload_n 2, 1) := by decide +kernel
theorem d1_letCross_34 : decode cX1_letCross 34 = .ok (.aload_n 0, 1) := by decide +kernel
theorem d1_letCross_35 : decode cX1_letCross 35 = .ok (.getfield 65, 3) := by decide +kernel
theorem d1_letCross_38 : decode cX1_letCross 38 = .ok (.getfield 174, 3) := by decide +kernel
theorem d1_letCross_41 : decode cX1_letCross 41 = .ok (.iload_n 1, 1) := by decide +kernel
theorem d1_letCross_42 : decode cX1_letCross 42 = .ok (.invokevirtual 114, 3) := by decide +kernel
theorem d1_letCross_45 : decode cX1_letCross 45 = .ok (.invokestatic 180, 3) := by decide +kernel
theorem d1_letCross_48 : decode cX1_letCross 48 = .ok (.iadd, 1) := by decide +kernel
theorem d1_letCross_49 : decode cX1_letCross 49 = .ok (.putfield 56, 3) := by decide +kernel
theorem d1_letCross_52 : decode cX1_letCross 52 = .ok (.return_, 1) := by decide +kernel
def f1_letCross (σ : Mem) (h : Nat) (x1 : Int32) (x2 : Int32) : Option Mem := if x1 < 0 then some σ else if x1 < 8 then bm (mu σ h 9 ((σ h 9) &&& ((1 <<< (x1 &&& 31)) ^^^ (-1)))) fun σ3 => if ¬ (x1 < 0 ∨ 8 ≤ x1.toNatClampNeg) then (bm (mu σ3 (h + 6) x1.toNatClampNeg x2) fun σ5 => Option.bind (f2_second σ5 7 x1) fun r6 => Option.bind (f1_beatsOnRoad r6) fun r7 => bm (mu σ5 h 16 (x2 + r7)) fun σ8 => some σ8) else none else some σ
set_option maxHeartbeats 4000000 in
set_option maxRecDepth 100000 in
theorem c1_letCross (l : Launch) {w : WV} {σ : Mem} {h : Nat} {x1 : Int32} {x2 : Int32} {σ' : Mem} (hh : h ∈ hourL) (h0 : f1_letCross σ h x1 x2 = some σ') : Met l yX1_letCross (wy yX1_letCross cX1_letCross 3 none) rm1_letCross (Pw EC LC w [.ref (w.2.2 h), .int x1, .int x2] σ) (Qw EC LC w σ' none) 0 0 (AW LC w) := by
  refine mk_met (by decide) (Nat.le_of_ble_eq_true rfl) ?_
  intro p e s m below meth c S hr hlk hK hR ls hl
  obtain ⟨hx, hb, hml, hown, hts⟩ := id S
  have hl : lv_has ls 3 [(0, .ref (w.2.2 h)), (1, .int x1), (2, .int x2)] := hl
  have hS : va_S (AW LC w) s.heap s.heap [] := va_S.rf
  unfold f1_letCross at h0
  refine lv_iload_n hx hb d1_letCross_0 rfl (lv_at hl 1 rfl) ?_
  refine lv_if_lt (tgt := 10) hx hb d1_letCross_1 (by decide) (fun hc1 => ?_) (fun hc1 => ?_)
  · have h0 := og_t hc1 h0
    exact q_vret S hr hlk hR hS h0 d1_letCross_10
  · have h0 := og_f hc1 h0
    refine lv_iload_n hx hb d1_letCross_4 rfl (lv_at hl 1 rfl) ?_
    refine lv_bipush (v := 8) hx hb d1_letCross_5 (by decide) ?_
    refine lv_icmp_lt (tgt := 11) hx hb d1_letCross_7 (by decide) (fun hc2 => ?_) (fun hc2 => ?_)
    · have h0 := og_t hc2 h0
      refine lv_aload_n hx hb d1_letCross_11 rfl (lv_at hl 0 rfl) ?_
      refine lv_dup hx hb d1_letCross_12 rfl ?_
      refine g1_33 S hK hR hh d1_letCross_13 ?_
      refine lv_iconst (v := 1) hx hb d1_letCross_16 (by decide) ?_
      refine lv_iload_n hx hb d1_letCross_17 rfl (lv_at hl 1 rfl) ?_
      refine lv_ishl hx hb d1_letCross_18 ?_
      refine lv_iconst (v := (-1)) hx hb d1_letCross_19 (by decide) ?_
      refine lv_ixor hx hb d1_letCross_20 ?_
      refine lv_iand hx hb d1_letCross_21 ?_
      obtain ⟨σ3, hm3, h0⟩ := og_m h0
      refine u1_33 S hK hR hS hh hm3 d1_letCross_22 (fun H locs hR hS => ?_)
      refine lv_aload_n hx hb d1_letCross_25 rfl (lv_at hl 0 rfl) ?_
      refine g1_27 S hK hR hh rfl d1_letCross_26 ?_
      refine lv_iload_n hx hb d1_letCross_29 rfl (lv_at hl 1 rfl) ?_
      refine lv_iload_n hx hb d1_letCross_30 rfl (lv_at hl 2 rfl) ?_
      obtain ⟨hi4, h0⟩ := og_if h0
      obtain ⟨σ5, hm5, h0⟩ := og_m h0
      refine q_st S hK hR hS (oa_1_7 _ hh) (ea_1_7 _ hh w) hi4 rfl hm5 d1_letCross_31 (fun H locs hR hS => ?_)
      refine lv_aload_n hx hb d1_letCross_32 rfl (lv_at hl 0 rfl) ?_
      refine lv_iload_n hx hb d1_letCross_33 rfl (lv_at hl 2 rfl) ?_
      refine lv_aload_n hx hb d1_letCross_34 rfl (lv_at hl 0 rfl) ?_
      refine g1_65 S hK hR hh d1_letCross_35 ?_
      refine g1_174 S hK hR (by decide) rfl d1_letCross_38 ?_
      refine lv_iload_n hx hb d1_letCross_41 rfl (lv_at hl 1 rfl) ?_
      obtain ⟨r6, hr6, h0⟩ := og_b h0
      refine k1_114 S hK hR (by decide) hr6 ⟨Nat.zero_le _, Nat.zero_le _⟩ ⟨Nat.le_of_ble_eq_true rfl, Nat.le_of_ble_eq_true rfl⟩ hl.1 (Nat.le_of_ble_eq_true rfl) d1_letCross_42 ?_
      obtain ⟨r7, hr7, h0⟩ := og_b h0
      refine k1_180 S  hr7 ⟨Nat.zero_le _, Nat.zero_le _⟩ ⟨Nat.le_of_ble_eq_true rfl, Nat.le_of_ble_eq_true rfl⟩ hl.1 (Nat.le_of_ble_eq_true rfl) d1_letCross_45 ?_
      refine lv_iadd hx hb d1_letCross_48 ?_
      obtain ⟨σ8, hm8, h0⟩ := og_m h0
      refine u1_56 S hK hR hS hh hm8 d1_letCross_49 (fun H locs hR hS => ?_)
      exact q_vret S hr hlk hR hS h0 d1_letCross_52
    · have h0 := og_f hc2 h0
      exact q_vret S hr hlk hR hS h0 d1_letCross_10
set_option maxHeartbeats 4000000 in
set_option maxRecDepth 100000 in
theorem k1_164 {p : Program} {l : Launch} {e : Env} {R : Room} {s : State} {m : MethodId} {args : Array Value} {below : List Frame} {meth : Method} {c : Code} {H : Heap} {locs : List Loc} {cells slots : Nat} {Q : State → Prop} {cc : ByteArray} {pc nL : Nat} {ls : Array Slot} {rest : List Value} {w : WV} {σ : Mem} {h : Nat} {x1 : Int32} {x2 : Int32} {σ1 : Mem} (S : CallFix p m c cc nL s args gtbl RX1) (hK : KS LC w s) (hR : Rp EC LC w σ H) (hS : va_S (AW LC w) s.heap H locs) (hh : h ∈ hourL) (h0 : f1_letCross σ h x1 x2 = some σ1) (hf : cells + 0 ≤ R.cells ∧ slots + 0 ≤ R.slots) (hRm : rm1_letCross.frames + 1 ≤ R.frames ∧ 8 + (3 + 11) + rm1_letCross.locals ≤ R.locals) (hl : ls.size = nL) (hW : (rest.map fun v => v.category).sum ≤ 8) (hdg : decode cc pc = .ok (.invokevirtual 164, 3)) (kk : ∀ (H1 : Heap) (locs1 : List Loc), Rp EC LC w σ1 H1 → va_S (AW LC w) s.heap H1 locs1 → W p l e R s m args below meth c H1 locs1 cells slots Q (F0 m (pc + 3) ls (rest))) : W p l e R s m args below meth c H locs cells slots Q (F0 m pc ls (.int x2 :: .int x1 :: .ref (w.2.2 h) :: rest)) := r_end hS (run_V (n := 2) (As := [.int x1, .int x2]) S hK hR (ok_1 _ hh) (eC_1 _ hh w _) rfl (gw_V (gt_at 679 (by decide +kernel) (by decide +kernel)) (gt_at 681 (by decide +kernel) (by decide +kernel)) (gt_at 31 (by decide +kernel) (by decide +kernel)) (gt_at 80 (by decide +kernel) (by decide +kernel)) (gt_at 682 (by decide +kernel) (by decide +kernel))) (by decide +kernel) rfl (c1_letCross l hh h0) ⟨rfl, rfl⟩ hRm hf hl rfl hW hdg) kk
/-! FourTenGates$Hour.payForWait(II)V -/
abbrev rm1_payForWait : Room := { frames := 2, cells := 0, slots := 0, locals := 43 }
theorem d1_payForWait_0 : decode cX1_payForWait 0 = .ok (.aload_n 0, 1) := by decide +kernel
theorem d1_payForWait_1 : decode cX1_payForWait 1 = .ok (.dup, 1) := by decide +kernel
theorem d1_payForWait_2 : decode cX1_payForWait 2 = .ok (.getfield 44, 3) := by decide +kernel
theorem d1_payForWait_5 : decode cX1_payForWait 5 = .ok (.aload_n 0, 1) := by decide +kernel
theorem d1_payForWait_6 : decode cX1_payForWait 6 = .ok (.getfield 65, 3) := by decide +kernel
theorem d1_payForWait_9 : decode cX1_payForWait 9 = .ok (.aload_n 0, 1) := by decide +kernel
theorem d1_payForWait_10 : decode cX1_payForWait 10 = .ok (.getfield 65, 3) := by decide +kernel
theorem d1_payForWait_13 : decode cX1_payForWait 13 = .ok (.getfield 174, 3) := by decide +kernel
theorem d1_payForWait_16 : decode cX1_payForWait 16 = .ok (.iload_n 1, 1) := by decide +kernel
theorem d1_payForWait_17 : decode cX1_payForWait 17 = .ok (.invokevirtual 114, 3) := by decide +kernel
theorem d1_payForWait_20 : decode cX1_payForWait 20 = .ok (.invokevirtual 183, 3) := by decide +kernel
theorem d1_payForWait_23 : decode cX1_payForWait 23 = .ok (.iadd, 1) := by decide +kernel
theorem d1_payForWait_24 : decode cX1_payForWait 24 = .ok (.putfield 44, 3) := by decide +kernel
theorem d1_payForWait_27 : decode cX1_payForWait 27 = .ok (.iload_n 2, 1) := by decide +kernel
theorem d1_payForWait_28 : decode cX1_payForWait 28 = .ok (.aload_n 0, 1) := by decide +kernel
theorem d1_payForWait_29 : decode cX1_payForWait 29 = .ok (.getfield 65, 3) := by decide +kernel
theorem d1_payForWait_32 : decode cX1_payForWait 32 = .ok (.invokevirtual 186, 3) := by decide +kernel
theorem d1_payForWait_35 : decode cX1_payForWait 35 = .ok (.if_icmp .lt 33, 3) := by decide +kernel
theorem d1_payForWait_38 : decode cX1_payForWait 38 = .ok (.aload_n 0, 1) := by decide +kernel
theorem d1_payForWait_39 : decode cX1_payForWait 39 = .ok (.dup, 1) := by decide +kernel
theorem d1_payForWait_40 : decode cX1_payForWait 40 = .ok (.getfield 33, 3) := by decide +kernel
theorem d1_payForWait_43 : decode cX1_payForWait 43 = .ok (.iconst 1, 1) := by decide +kernel
theorem d1_payForWait_44 : decode cX1_payForWait 44 = .ok (.iload_n 1, 1) := by decide +kernel
theorem d1_payForWait_45 : decode cX1_payForWait 45 = .ok (.ishl, 1) := by decide +kernel
theorem d1_payForWait_46 : decode cX1_payForWait 46 = .ok (.iconst (-1), 1) := by decide +kernel
theorem d1_payForWait_47 : decode cX1_payForWait 47 = .ok (.ixor, 1) := by decide +kernel
theorem d1_payForWait_48 : decode cX1_payForWait 48 = .ok (.iand, 1) := by decide +kernel
theorem d1_payForWait_49 : decode cX1_payForWait 49 = .ok (.putfield 33, 3) := by decide +kernel
theorem d1_payForWait_52 : decode cX1_payForWait 52 = .ok (.aload_n 0, 1) := by decide +kernel
theorem d1_payForWait_53 : decode cX1_payForWait 53 = .ok (.dup, 1) := by decide +kernel
theorem d1_payForWait_54 : decode cX1_payForWait 54 = .ok (.getfield 44, 3) := by decide +kernel
theorem d1_payForWait_57 : decode cX1_payForWait 57 = .ok (.aload_n 0, 1) := by decide +kernel
theorem d1_payForWait_58 : decode cX1_payForWait 58 = .ok (.getfield 65, 3) := by decide +kernel
theorem d1_payForWait_61 : decode cX1_payForWait 61 = .ok (.invokevirtual 189, 3) := by decide +kernel
theorem d1_payForWait_64 : decode cX1_payForWait 64 = .ok (.iadd, 1) := by decide +kernel
theorem d1_payForWait_65 : decode cX1_payForWait 65 = .ok (.putfield 44, 3) := by decide +kernel
theorem d1_payForWait_68 : decode cX1_payForWait 68 = .ok (.return_, 1) := by decide +kernel
def f1_payForWait (σ : Mem) (h : Nat) (x1 : Int32) (x2 : Int32) : Option Mem := Option.bind (f2_second σ 7 x1) fun r1 => Option.bind (f0_waitCost σ 3 r1) fun r2 => bm (mu σ h 12 ((σ h 12) + r2)) fun σ3 => Option.bind (f0_patience σ3 3) fun r4 => if x2 < r4 then some σ3 else bm (mu σ3 h 9 ((σ3 h 9) &&& ((1 <<< (x1 &&& 31)) ^^^ (-1)))) fun σ6 => Option.bind (f0_roundCost σ6 3) fun r7 => bm (mu σ6 h 12 ((σ6 h 12) + r7)) fun σ8 => some σ8
set_option maxHeartbeats 4000000 in
set_option maxRecDepth 100000 in
theorem c1_payForWait (l : Launch) {w : WV} {σ : Mem} {h : Nat} {x1 : Int32} {x2 : Int32} {σ' : Mem} (hh : h ∈ hourL) (h0 : f1_payForWait σ h x1 x2 = some σ') : Met l yX1_payForWait (wy yX1_payForWait cX1_payForWait 3 none) rm1_payForWait (Pw EC LC w [.ref (w.2.2 h), .int x1, .int x2] σ) (Qw EC LC w σ' none) 0 0 (AW LC w) := by
  refine mk_met (by decide) (Nat.le_of_ble_eq_true rfl) ?_
  intro p e s m below meth c S hr hlk hK hR ls hl
  obtain ⟨hx, hb, hml, hown, hts⟩ := id S
  have hl : lv_has ls 3 [(0, .ref (w.2.2 h)), (1, .int x1), (2, .int x2)] := hl
  have hS : va_S (AW LC w) s.heap s.heap [] := va_S.rf
  unfold f1_payForWait at h0
  refine lv_aload_n hx hb d1_payForWait_0 rfl (lv_at hl 0 rfl) ?_
  refine lv_dup hx hb d1_payForWait_1 rfl ?_
  refine g1_44 S hK hR hh d1_payForWait_2 ?_
  refine lv_aload_n hx hb d1_payForWait_5 rfl (lv_at hl 0 rfl) ?_
  refine g1_65 S hK hR hh d1_payForWait_6 ?_
  refine lv_aload_n hx hb d1_payForWait_9 rfl (lv_at hl 0 rfl) ?_
  refine g1_65 S hK hR hh d1_payForWait_10 ?_
  refine g1_174 S hK hR (by decide) rfl d1_payForWait_13 ?_
  refine lv_iload_n hx hb d1_payForWait_16 rfl (lv_at hl 1 rfl) ?_
  obtain ⟨r1, hr1, h0⟩ := og_b h0
  refine k1_114 S hK hR (by decide) hr1 ⟨Nat.zero_le _, Nat.zero_le _⟩ ⟨Nat.le_of_ble_eq_true rfl, Nat.le_of_ble_eq_true rfl⟩ hl.1 (Nat.le_of_ble_eq_true rfl) d1_payForWait_17 ?_
  obtain ⟨r2, hr2, h0⟩ := og_b h0
  refine k1_183 S hK hR (by decide) hr2 ⟨Nat.zero_le _, Nat.zero_le _⟩ ⟨Nat.le_of_ble_eq_true rfl, Nat.le_of_ble_eq_true rfl⟩ hl.1 (Nat.le_of_ble_eq_true rfl) d1_payForWait_20 ?_
  refine lv_iadd hx hb d1_payForWait_23 ?_
  obtain ⟨σ3, hm3, h0⟩ := og_m h0
  refine u1_44 S hK hR hS hh hm3 d1_payForWait_24 (fun H locs hR hS => ?_)
  refine lv_iload_n hx hb d1_payForWait_27 rfl (lv_at hl 2 rfl) ?_
  refine lv_aload_n hx hb d1_payForWait_28 rfl (lv_at hl 0 rfl) ?_
  refine g1_65 S hK hR hh d1_payForWait_29 ?_
  obtain ⟨r4, hr4, h0⟩ := og_b h0
  refine k1_186 S hK hR (by decide) hr4 ⟨Nat.zero_le _, Nat.zero_le _⟩ ⟨Nat.le_of_ble_eq_true rfl, Nat.le_of_ble_eq_true rfl⟩ hl.1 (Nat.le_of_ble_eq_true rfl) d1_payForWait_32 ?_
  refine lv_icmp_lt (tgt := 68) hx hb d1_payForWait_35 (by decide) (fun hc5 => ?_) (fun hc5 => ?_)
  · have h0 := og_t hc5 h0
    exact q_vret S hr hlk hR hS h0 d1_payForWait_68
  · have h0 := og_f hc5 h0
    refine lv_aload_n hx hb d1_payForWait_38 rfl (lv_at hl 0 rfl) ?_
    refine lv_dup hx hb d1_payForWait_39 rfl ?_
    refine g1_33 S hK hR hh d1_payForWait_40 ?_
    refine lv_iconst (v := 1) hx hb d1_payForWait_43 (by decide) ?_
    refine lv_iload_n hx hb d1_payForWait_44 rfl (lv_at hl 1 rfl) ?_
    refine lv_ishl hx hb d1_payForWait_45 ?_
    refine lv_iconst (v := (-1)) hx hb d1_payForWait_46 (by decide) ?_
    refine lv_ixor hx hb d1_payForWait_47 ?_
    refine lv_iand hx hb d1_payForWait_48 ?_
    obtain ⟨σ6, hm6, h0⟩ := og_m h0
    refine u1_33 S hK hR hS hh hm6 d1_payForWait_49 (fun H locs hR hS => ?_)
    refine lv_aload_n hx hb d1_payForWait_52 rfl (lv_at hl 0 rfl) ?_
    refine lv_dup hx hb d1_payForWait_53 rfl ?_
    refine g1_44 S hK hR hh d1_payForWait_54 ?_
    refine lv_aload_n hx hb d1_payForWait_57 rfl (lv_at hl 0 rfl) ?_
    refine g1_65 S hK hR hh d1_payForWait_58 ?_
    obtain ⟨r7, hr7, h0⟩ := og_b h0
    refine k1_189 S hK hR (by decide) hr7 ⟨Nat.zero_le _, Nat.zero_le _⟩ ⟨Nat.le_of_ble_eq_true rfl, Nat.le_of_ble_eq_true rfl⟩ hl.1 (Nat.le_of_ble_eq_true rfl) d1_payForWait_61 ?_
    refine lv_iadd hx hb d1_payForWait_64 ?_
    obtain ⟨σ8, hm8, h0⟩ := og_m h0
    refine u1_44 S hK hR hS hh hm8 d1_payForWait_65 (fun H locs hR hS => ?_)
    exact q_vret S hr hlk hR hS h0 d1_payForWait_68
set_option maxHeartbeats 4000000 in
set_option maxRecDepth 100000 in
theorem k1_171 {p : Program} {l : Launch} {e : Env} {R : Room} {s : State} {m : MethodId} {args : Array Value} {below : List Frame} {meth : Method} {c : Code} {H : Heap} {locs : List Loc} {cells slots : Nat} {Q : State → Prop} {cc : ByteArray} {pc nL : Nat} {ls : Array Slot} {rest : List Value} {w : WV} {σ : Mem} {h : Nat} {x1 : Int32} {x2 : Int32} {σ1 : Mem} (S : CallFix p m c cc nL s args gtbl RX1) (hK : KS LC w s) (hR : Rp EC LC w σ H) (hS : va_S (AW LC w) s.heap H locs) (hh : h ∈ hourL) (h0 : f1_payForWait σ h x1 x2 = some σ1) (hf : cells + 0 ≤ R.cells ∧ slots + 0 ≤ R.slots) (hRm : rm1_payForWait.frames + 1 ≤ R.frames ∧ 8 + (3 + 11) + rm1_payForWait.locals ≤ R.locals) (hl : ls.size = nL) (hW : (rest.map fun v => v.category).sum ≤ 8) (hdg : decode cc pc = .ok (.invokevirtual 171, 3)) (kk : ∀ (H1 : Heap) (locs1 : List Loc), Rp EC LC w σ1 H1 → va_S (AW LC w) s.heap H1 locs1 → W p l e R s m args below meth c H1 locs1 cells slots Q (F0 m (pc + 3) ls (rest))) : W p l e R s m args below meth c H locs cells slots Q (F0 m pc ls (.int x2 :: .int x1 :: .ref (w.2.2 h) :: rest)) := r_end hS (run_V (n := 2) (As := [.int x1, .int x2]) S hK hR (ok_1 _ hh) (eC_1 _ hh w _) rfl (gw_V (gt_at 686 (by decide +kernel) (by decide +kernel)) (gt_at 688 (by decide +kernel) (by decide +kernel)) (gt_at 32 (by decide +kernel) (by decide +kernel)) (gt_at 80 (by decide +kernel) (by decide +kernel)) (gt_at 689 (by decide +kernel) (by decide +kernel))) (by decide +kernel) rfl (c1_payForWait l hh h0) ⟨rfl, rfl⟩ hRm hf hl rfl hW hdg) kk
/-! FourTenGates$Hour.runUsers(I)V -/
abbrev rm1_runUsers : Room := { frames := 3, cells := 0, slots := 0, locals := 65 }
theorem d1_runUsers_0 : decode cX1_runUsers 0 = .ok (.iload_n 1, 1) := by decide +kernel
theorem d1_runUsers_1 : decode cX1_runUsers 1 = .ok (.bipush 6, 2) := by decide +kernel
theorem d1_runUsers_3 : decode cX1_runUsers 3 = .ok (.irem, 1) := by decide +kernel
theorem d1_runUsers_4 : decode cX1_runUsers 4 = .ok (.ifCond .ne 11, 3) := by decide +kernel
theorem d1_runUsers_7 : decode cX1_runUsers 7 = .ok (.aload_n 0, 1) := by decide +kernel
theorem d1_runUsers_8 : decode cX1_runUsers 8 = .ok (.iload_n 1, 1) := by decide +kernel
theorem d1_runUsers_9 : decode cX1_runUsers 9 = .ok (.bipush 6, 2) := by decide +kernel
theorem d1_runUsers_11 : decode cX1_runUsers 11 = .ok (.idiv, 1) := by decide +kernel
theorem d1_runUsers_12 : decode cX1_runUsers 12 = .ok (.invokevirtual 158, 3) := by decide +kernel
theorem d1_runUsers_15 : decode cX1_runUsers 15 = .ok (.aload_n 0, 1) := by decide +kernel
theorem d1_runUsers_16 : decode cX1_runUsers 16 = .ok (.getfield 33, 3) := by decide +kernel
theorem d1_runUsers_19 : decode cX1_runUsers 19 = .ok (.ifCond .ne 4, 3) := by decide +kernel
theorem d1_runUsers_22 : decode cX1_runUsers 22 = .ok (.return_, 1) := by decide +kernel
theorem d1_runUsers_23 : decode cX1_runUsers 23 = .ok (.iload_n 1, 1) := by decide +kernel
theorem d1_runUsers_24 : decode cX1_runUsers 24 = .ok (.aload_n 0, 1) := by decide +kernel
theorem d1_runUsers_25 : decode cX1_runUsers 25 = .ok (.getfield 56, 3) := by decide +kernel
theorem d1_runUsers_28 : decode cX1_runUsers 28 = .ok (.if_icmp .lt 20, 3) := by decide +kernel
theorem d1_runUsers_31 : decode cX1_runUsers 31 = .ok (.iload_n 1, 1) := by decide +kernel
theorem d1_runUsers_32 : decode cX1_runUsers 32 = .ok (.aload_n 0, 1) := by decide +kernel
theorem d1_runUsers_33 : decode cX1_runUsers 33 = .ok (.getfield 59, 3) := by decide +kernel
theorem d1_runUsers_36 : decode cX1_runUsers 36 = .ok (.if_icmp .lt 12, 3) := by decide +kernel
theorem d1_runUsers_39 : decode cX1_runUsers 39 = .ok (.aload_n 0, 1) := by decide +kernel
theorem d1_runUsers_40 : decode cX1_runUsers 40 = .ok (.aload_n 0, 1) := by decide +kernel
theorem d1_runUsers_41 : decode cX1_runUsers 41 = .ok (.invokevirtual 161, 3) := by decide +kernel
theorem d1_runUsers_44 : decode cX1_runUsers 44 = .ok (.iload_n 1, 1) := by decide +kernel
theorem d1_runUsers_45 : decode cX1_runUsers 45 = .ok (.invokevirtual 164, 3) := by decide +kernel
theorem d1_runUsers_48 : decode cX1_runUsers 48 = .ok (.iconst 0, 1) := by decide +kernel
theorem d1_runUsers_49 : decode cX1_runUsers 49 = .ok (.istore_n 2, 1) := by decide +kernel
theorem d1_runUsers_50 : decode cX1_runUsers 50 = .ok (.iload_n 2, 1) := by decide +kernel
theorem d1_runUsers_51 : decode cX1_runUsers 51 = .ok (.bipush 8, 2) := by decide +kernel
theorem d1_runUsers_53 : decode cX1_runUsers 53 = .ok (.if_icmp .ge 38, 3) := by decide +kernel
theorem d1_runUsers_56 : decode cX1_runUsers 56 = .ok (.aload_n 0, 1) := by decide +kernel
theorem d1_runUsers_57 : decode cX1_runUsers 57 = .ok (.iload_n 2, 1) := by decide +kernel
theorem d1_runUsers_58 : decode cX1_runUsers 58 = .ok (.invokevirtual 168, 3) := by decide +kernel
theorem d1_runUsers_61 : decode cX1_runUsers 61 = .ok (.ifCond .eq 24, 3) := by decide +kernel
theorem d1_runUsers_64 : decode cX1_runUsers 64 = .ok (.aload_n 0, 1) := by decide +kernel
theorem d1_runUsers_65 : decode cX1_runUsers 65 = .ok (.getfield 30, 3) := by decide +kernel
theorem d1_runUsers_68 : decode cX1_runUsers 68 = .ok (.iload_n 2, 1) := by decide +kernel
theorem d1_runUsers_69 : decode cX1_runUsers 69 = .ok (.dup2, 1) := by decide +kernel
theorem d1_runUsers_70 : decode cX1_runUsers 70 = .ok (.iaload, 1) := by decide +kernel
theorem d1_runUsers_71 : decode cX1_runUsers 71 = .ok (.iconst 1, 1) := by decide +kernel
theorem d1_runUsers_72 : decode cX1_runUsers 72 = .ok (.iadd, 1) := by decide +kernel
theorem d1_runUsers_73 : decode cX1_runUsers 73 = .ok (.iastore, 1) := by decide +kernel
theorem d1_runUsers_74 : decode cX1_runUsers 74 = .ok (.aload_n 0, 1) := by decide +kernel
theorem d1_runUsers_75 : decode cX1_runUsers 75 = .ok (.iload_n 2, 1) := by decide +kernel
theorem d1_runUsers_76 : decode cX1_runUsers 76 = .ok (.aload_n 0, 1) := by decide +kernel
theorem d1_runUsers_77 : decode cX1_runUsers 77 = .ok (.getfield 30, 3) := by decide +kernel
theorem d1_runUsers_80 : decode cX1_runUsers 80 = .ok (.iload_n 2, 1) := by decide +kernel
theorem d1_runUsers_81 : decode cX1_runUsers 81 = .ok (.iaload, 1) := by decide +kernel
theorem d1_runUsers_82 : decode cX1_runUsers 82 = .ok (.invokevirtual 171, 3) := by decide +kernel
theorem d1_runUsers_85 : decode cX1_runUsers 85 = .ok (.iinc 2 1, 3) := by decide +kernel
theorem d1_runUsers_88 : decode cX1_runUsers 88 = .ok (.goto (-38), 3) := by decide +kernel
theorem d1_runUsers_91 : decode cX1_runUsers 91 = .ok (.return_, 1) := by decide +kernel
def f1_runUsers_b50 (h : Nat) : Nat → Mem → Int32 → Option Mem
  | 0, _, _ => none
  | n + 1, σ, x2 => if 8 ≤ x2 then some σ else Option.bind (f1_isWaiting σ h x2) fun r2 => if r2 = 0 then f1_runUsers_b50 h n σ (x2 + 1) else if ¬ (x2 < 0 ∨ 8 ≤ x2.toNatClampNeg) then if ¬ (x2 < 0 ∨ 8 ≤ x2.toNatClampNeg) then (bm (mu σ (h + 7) x2.toNatClampNeg ((σ (h + 7) x2.toNatClampNeg) + 1)) fun σ6 => if ¬ (x2 < 0 ∨ 8 ≤ x2.toNatClampNeg) then Option.bind (f1_payForWait σ6 h x2 (σ6 (h + 7) x2.toNatClampNeg)) fun σ8 => f1_runUsers_b50 h n σ8 (x2 + 1) else none) else none else none
set_option maxHeartbeats 4000000 in
set_option maxRecDepth 100000 in
theorem t1_runUsers_b50 {p : Program} {l : Launch} {e : Env} {s : State} {m : MethodId} {args : Array Value} {below : List Frame} {meth : Method} {c : Code} {w : WV} {h : Nat} {σ' : Mem} (S : CallFix p m c cX1_runUsers 3 s args gtbl RX1) (hr : meth.sig.returnType = none) (hlk : meth.locks = false) (hK : KS LC w s) (hh : h ∈ hourL) : ∀ (n : Nat), ∀ (σ : Mem) (x2 : Int32), f1_runUsers_b50 h n σ x2 = some σ' → ∀ (H : Heap) (locs : List Loc), Rp EC LC w σ H → va_S (AW LC w) s.heap H locs → ∀ (ls : Array Slot), lv_has ls 3 [(0, .ref (w.2.2 h)), (2, .int x2)] → W p l e rm1_runUsers s m args below meth c H locs 0 0 (MQ below (Qw EC LC w σ' none) args s 0 0 (AW LC w)) (F0 m 50 ls []) := by
  obtain ⟨hx, hb, hml, hown, hts⟩ := id S
  intro n
  induction n with
  | zero =>
    intro σ x2 h0
    cases (show none = _ from h0)
  | succ n ih =>
    intro σ x2 h0 H locs hR hS ls hl
    rw [f1_runUsers_b50] at h0
    refine lv_iload_n hx hb d1_runUsers_50 rfl (lv_at hl 1 rfl) ?_
    refine lv_bipush (v := 8) hx hb d1_runUsers_51 (by decide) ?_
    refine lv_icmp_ge (tgt := 91) hx hb d1_runUsers_53 (by decide) (fun hc1 => ?_) (fun hc1 => ?_)
    · have h0 := og_t hc1 h0
      exact q_vret S hr hlk hR hS h0 d1_runUsers_91
    · have h0 := og_f hc1 h0
      refine lv_aload_n hx hb d1_runUsers_56 rfl (lv_at hl 0 rfl) ?_
      refine lv_iload_n hx hb d1_runUsers_57 rfl (lv_at hl 1 rfl) ?_
      obtain ⟨r2, hr2, h0⟩ := og_b h0
      refine k1_168 S hK hR hh hr2 ⟨Nat.zero_le _, Nat.zero_le _⟩ ⟨Nat.le_of_ble_eq_true rfl, Nat.le_of_ble_eq_true rfl⟩ hl.1 (Nat.le_of_ble_eq_true rfl) d1_runUsers_58 ?_
      refine lv_if_eq (tgt := 85) hx hb d1_runUsers_61 (by decide) (fun hc3 => ?_) (fun hc3 => ?_)
      · have h0 := og_t hc3 h0
        refine lv_iinc (v := x2 + 1) (lv' := [(2, .int (x2 + 1)), (0, .ref (w.2.2 h))]) hx hb d1_runUsers_85 hl (k := 1) rfl (ii1 _) (by decide) rfl (fun ls hl => ?_)
        refine lv_goto (tgt := 50) hx hb d1_runUsers_88 (by decide) ?_
        exact ih σ (x2 + 1) h0 _ _ hR hS _ (lv_sub hl [1, 0] rfl)
      · have h0 := og_f hc3 h0
        refine lv_aload_n hx hb d1_runUsers_64 rfl (lv_at hl 0 rfl) ?_
        refine g1_30 S hK hR hh rfl d1_runUsers_65 ?_
        refine lv_iload_n hx hb d1_runUsers_68 rfl (lv_at hl 1 rfl) ?_
        refine lv_dup2_11 hx hb d1_runUsers_69 rfl rfl ?_
        obtain ⟨hi4, h0⟩ := og_if h0
        refine q_ld (k := x2.toNatClampNeg) S hK hR (oa_1_8 _ hh) (ea_1_8 _ hh w _) hi4 rfl d1_runUsers_70 ?_
        refine lv_iconst (v := 1) hx hb d1_runUsers_71 (by decide) ?_
        refine lv_iadd hx hb d1_runUsers_72 ?_
        obtain ⟨hi5, h0⟩ := og_if h0
        obtain ⟨σ6, hm6, h0⟩ := og_m h0
        refine q_st S hK hR hS (oa_1_8 _ hh) (ea_1_8 _ hh w) hi5 rfl hm6 d1_runUsers_73 (fun H locs hR hS => ?_)
        refine lv_aload_n hx hb d1_runUsers_74 rfl (lv_at hl 0 rfl) ?_
        refine lv_iload_n hx hb d1_runUsers_75 rfl (lv_at hl 1 rfl) ?_
        refine lv_aload_n hx hb d1_runUsers_76 rfl (lv_at hl 0 rfl) ?_
        refine g1_30 S hK hR hh rfl d1_runUsers_77 ?_
        refine lv_iload_n hx hb d1_runUsers_80 rfl (lv_at hl 1 rfl) ?_
        obtain ⟨hi7, h0⟩ := og_if h0
        refine q_ld (k := x2.toNatClampNeg) S hK hR (oa_1_8 _ hh) (ea_1_8 _ hh w _) hi7 rfl d1_runUsers_81 ?_
        obtain ⟨σ8, hr8, h0⟩ := og_b h0
        refine k1_171 S hK hR hS hh hr8 ⟨Nat.zero_le _, Nat.zero_le _⟩ ⟨Nat.le_of_ble_eq_true rfl, Nat.le_of_ble_eq_true rfl⟩ hl.1 (Nat.le_of_ble_eq_true rfl) d1_runUsers_82 (fun H locs hR hS => ?_)
        refine lv_iinc (v := x2 + 1) (lv' := [(2, .int (x2 + 1)), (0, .ref (w.2.2 h))]) hx hb d1_runUsers_85 hl (k := 1) rfl (ii1 _) (by decide) rfl (fun ls hl => ?_)
        refine lv_goto (tgt := 50) hx hb d1_runUsers_88 (by decide) ?_
        exact ih σ8 (x2 + 1) h0 _ _ hR hS _ (lv_sub hl [1, 0] rfl)
def f1_runUsers_b15 (h : Nat) (σ : Mem) (x1 : Int32) : Option Mem := if (σ h 9) = 0 then some σ else if x1 < (σ h 16) then f1_runUsers_b50 h 1000 σ 0 else if x1 < (σ h 17) then f1_runUsers_b50 h 1000 σ 0 else Option.bind (f1_firstToCross σ h) fun r4 => Option.bind (f1_letCross σ h r4 x1) fun σ5 => f1_runUsers_b50 h 1000 σ5 0
set_option maxHeartbeats 4000000 in
set_option maxRecDepth 100000 in
theorem t1_runUsers_b15 {p : Program} {l : Launch} {e : Env} {s : State} {m : MethodId} {args : Array Value} {below : List Frame} {meth : Method} {c : Code} {w : WV} {h : Nat} {σ' : Mem} (S : CallFix p m c cX1_runUsers 3 s args gtbl RX1) (hr : meth.sig.returnType = none) (hlk : meth.locks = false) (hK : KS LC w s) (hh : h ∈ hourL) : ∀ (σ : Mem) (x1 : Int32), f1_runUsers_b15 h σ x1 = some σ' → ∀ (H : Heap) (locs : List Loc), Rp EC LC w σ H → va_S (AW LC w) s.heap H locs → ∀ (ls : Array Slot), lv_has ls 3 [(0, .ref (w.2.2 h)), (1, .int x1)] → W p l e rm1_runUsers s m args below meth c H locs 0 0 (MQ below (Qw EC LC w σ' none) args s 0 0 (AW LC w)) (F0 m 15 ls []) := by
  obtain ⟨hx, hb, hml, hown, hts⟩ := id S
  intro σ x1 h0 H locs hR hS ls hl
  unfold f1_runUsers_b15 at h0
  refine lv_aload_n hx hb d1_runUsers_15 rfl (lv_at hl 0 rfl) ?_
  refine g1_33 S hK hR hh d1_runUsers_16 ?_
  refine lv_if_ne (tgt := 23) hx hb d1_runUsers_19 (by decide) (fun hc1 => ?_) (fun hc1 => ?_)
  · have h0 := og_f hc1 h0
    refine lv_iload_n hx hb d1_runUsers_23 rfl (lv_at hl 1 rfl) ?_
    refine lv_aload_n hx hb d1_runUsers_24 rfl (lv_at hl 0 rfl) ?_
    refine g1_56 S hK hR hh d1_runUsers_25 ?_
    refine lv_icmp_lt (tgt := 48) hx hb d1_runUsers_28 (by decide) (fun hc2 => ?_) (fun hc2 => ?_)
    · have h0 := og_t hc2 h0
      refine lv_iconst (v := 0) hx hb d1_runUsers_48 (by decide) ?_
      refine lv_istore_n (lv' := [(2, .int 0), (0, .ref (w.2.2 h)), (1, .int x1)]) hx hb d1_runUsers_49 rfl hl (by decide) rfl (fun ls hl => ?_)
      exact t1_runUsers_b50 S hr hlk hK hh 1000 σ 0 h0 _ _ hR hS _ (lv_sub hl [1, 0] rfl)
    · have h0 := og_f hc2 h0
      refine lv_iload_n hx hb d1_runUsers_31 rfl (lv_at hl 1 rfl) ?_
      refine lv_aload_n hx hb d1_runUsers_32 rfl (lv_at hl 0 rfl) ?_
      refine g1_59 S hK hR hh d1_runUsers_33 ?_
      refine lv_icmp_lt (tgt := 48) hx hb d1_runUsers_36 (by decide) (fun hc3 => ?_) (fun hc3 => ?_)
      · have h0 := og_t hc3 h0
        refine lv_iconst (v := 0) hx hb d1_runUsers_48 (by decide) ?_
        refine lv_istore_n (lv' := [(2, .int 0), (0, .ref (w.2.2 h)), (1, .int x1)]) hx hb d1_runUsers_49 rfl hl (by decide) rfl (fun ls hl => ?_)
        exact t1_runUsers_b50 S hr hlk hK hh 1000 σ 0 h0 _ _ hR hS _ (lv_sub hl [1, 0] rfl)
      · have h0 := og_f hc3 h0
        refine lv_aload_n hx hb d1_runUsers_39 rfl (lv_at hl 0 rfl) ?_
        refine lv_aload_n hx hb d1_runUsers_40 rfl (lv_at hl 0 rfl) ?_
        obtain ⟨r4, hr4, h0⟩ := og_b h0
        refine k1_161 S hK hR hh hr4 ⟨Nat.zero_le _, Nat.zero_le _⟩ ⟨Nat.le_of_ble_eq_true rfl, Nat.le_of_ble_eq_true rfl⟩ hl.1 (Nat.le_of_ble_eq_true rfl) d1_runUsers_41 ?_
        refine lv_iload_n hx hb d1_runUsers_44 rfl (lv_at hl 1 rfl) ?_
        obtain ⟨σ5, hr5, h0⟩ := og_b h0
        refine k1_164 S hK hR hS hh hr5 ⟨Nat.zero_le _, Nat.zero_le _⟩ ⟨Nat.le_of_ble_eq_true rfl, Nat.le_of_ble_eq_true rfl⟩ hl.1 (Nat.le_of_ble_eq_true rfl) d1_runUsers_45 (fun H locs hR hS => ?_)
        refine lv_iconst (v := 0) hx hb d1_runUsers_48 (by decide) ?_
        refine lv_istore_n (lv' := [(2, .int 0), (0, .ref (w.2.2 h)), (1, .int x1)]) hx hb d1_runUsers_49 rfl hl (by decide) rfl (fun ls hl => ?_)
        exact t1_runUsers_b50 S hr hlk hK hh 1000 σ5 0 h0 _ _ hR hS _ (lv_sub hl [1, 0] rfl)
  · have h0 := og_t hc1 h0
    exact q_vret S hr hlk hR hS h0 d1_runUsers_22
def f1_runUsers (σ : Mem) (h : Nat) (x1 : Int32) : Option Mem := if (x1 - x1 / 6 * 6) = 0 then Option.bind (f1_meetUsers σ h (x1 / 6)) fun σ2 => f1_runUsers_b15 h σ2 x1 else f1_runUsers_b15 h σ x1
set_option maxHeartbeats 4000000 in
set_option maxRecDepth 100000 in
theorem c1_runUsers (l : Launch) {w : WV} {σ : Mem} {h : Nat} {x1 : Int32} {σ' : Mem} (hh : h ∈ hourL) (h0 : f1_runUsers σ h x1 = some σ') : Met l yX1_runUsers (wy yX1_runUsers cX1_runUsers 3 none) rm1_runUsers (Pw EC LC w [.ref (w.2.2 h), .int x1] σ) (Qw EC LC w σ' none) 0 0 (AW LC w) := by
  refine mk_met (by decide) (Nat.le_of_ble_eq_true rfl) ?_
  intro p e s m below meth c S hr hlk hK hR ls hl
  obtain ⟨hx, hb, hml, hown, hts⟩ := id S
  have hl : lv_has ls 3 [(0, .ref (w.2.2 h)), (1, .int x1)] := hl
  have hS : va_S (AW LC w) s.heap s.heap [] := va_S.rf
  unfold f1_runUsers at h0
  refine lv_iload_n hx hb d1_runUsers_0 rfl (lv_at hl 1 rfl) ?_
  refine lv_bipush (v := 6) hx hb d1_runUsers_1 (by decide) ?_
  refine lv_irem hx hb d1_runUsers_3 (by decide) ?_
  refine lv_if_ne (tgt := 15) hx hb d1_runUsers_4 (by decide) (fun hc1 => ?_) (fun hc1 => ?_)
  · have h0 := og_f hc1 h0
    exact t1_runUsers_b15 S hr hlk hK hh σ x1 h0 _ _ hR hS _ (lv_sub hl [0, 1] rfl)
  · have h0 := og_t hc1 h0
    refine lv_aload_n hx hb d1_runUsers_7 rfl (lv_at hl 0 rfl) ?_
    refine lv_iload_n hx hb d1_runUsers_8 rfl (lv_at hl 1 rfl) ?_
    refine lv_bipush (v := 6) hx hb d1_runUsers_9 (by decide) ?_
    refine lv_idiv hx hb d1_runUsers_11 (by decide) ?_
    obtain ⟨σ2, hr2, h0⟩ := og_b h0
    refine k1_158 S hK hR hS hh hr2 ⟨Nat.zero_le _, Nat.zero_le _⟩ ⟨Nat.le_of_ble_eq_true rfl, Nat.le_of_ble_eq_true rfl⟩ hl.1 (Nat.le_of_ble_eq_true rfl) d1_runUsers_12 (fun H locs hR hS => ?_)
    exact t1_runUsers_b15 S hr hlk hK hh σ2 x1 h0 _ _ hR hS _ (lv_sub hl [0, 1] rfl)
set_option maxHeartbeats 4000000 in
set_option maxRecDepth 100000 in
theorem k1_92 {p : Program} {l : Launch} {e : Env} {R : Room} {s : State} {m : MethodId} {args : Array Value} {below : List Frame} {meth : Method} {c : Code} {H : Heap} {locs : List Loc} {cells slots : Nat} {Q : State → Prop} {cc : ByteArray} {pc nL : Nat} {ls : Array Slot} {rest : List Value} {w : WV} {σ : Mem} {h : Nat} {x1 : Int32} {σ1 : Mem} (S : CallFix p m c cc nL s args gtbl RX1) (hK : KS LC w s) (hR : Rp EC LC w σ H) (hS : va_S (AW LC w) s.heap H locs) (hh : h ∈ hourL) (h0 : f1_runUsers σ h x1 = some σ1) (hf : cells + 0 ≤ R.cells ∧ slots + 0 ≤ R.slots) (hRm : rm1_runUsers.frames + 1 ≤ R.frames ∧ 8 + (3 + 11) + rm1_runUsers.locals ≤ R.locals) (hl : ls.size = nL) (hW : (rest.map fun v => v.category).sum ≤ 8) (hdg : decode cc pc = .ok (.invokevirtual 92, 3)) (kk : ∀ (H1 : Heap) (locs1 : List Loc), Rp EC LC w σ1 H1 → va_S (AW LC w) s.heap H1 locs1 → W p l e R s m args below meth c H1 locs1 cells slots Q (F0 m (pc + 3) ls (rest))) : W p l e R s m args below meth c H locs cells slots Q (F0 m pc ls (.int x1 :: .ref (w.2.2 h) :: rest)) := r_end hS (run_V (n := 1) (As := [.int x1]) S hK hR (ok_1 _ hh) (eC_1 _ hh w _) rfl (gw_V (gt_at 659 (by decide +kernel) (by decide +kernel)) (gt_at 661 (by decide +kernel) (by decide +kernel)) (gt_at 26 (by decide +kernel) (by decide +kernel)) (gt_at 80 (by decide +kernel) (by decide +kernel)) (gt_at 662 (by decide +kernel) (by decide +kernel))) (by decide +kernel) rfl (c1_runUsers l hh h0) ⟨rfl, rfl⟩ hRm hf hl rfl hW hdg) kk
/-! FourTenGates$Hour.run(III)V -/
abbrev rm1_run : Room := { frames := 4, cells := 0, slots := 0, locals := 87 }
theorem d1_run_0 : decode cX1_run 0 = .ok (.aload_n 0, 1) := by decide +kernel
theorem d1_run_1 : decode cX1_run 1 = .ok (.iload_n 1, 1) := by decide +kernel
theorem d1_run_2 : decode cX1_run 2 = .ok (.putfield 41, 3) := by decide +kernel
theorem d1_run_5 : decode cX1_run 5 = .ok (.aload_n 0, 1) := by decide +kernel
theorem d1_run_6 : decode cX1_run 6 = .ok (.iload_n 2, 1) := by decide +kernel
theorem d1_run_7 : decode cX1_run 7 = .ok (.invokevirtual 73, 3) := by decide +kernel
theorem d1_run_10 : decode cX1_run 10 = .ok (.aload_n 0, 1) := by decide +kernel
theorem d1_run_11 : decode cX1_run 11 = .ok (.invokevirtual 77, 3) := by decide +kernel
theorem d1_run_14 : decode cX1_run 14 = .ok (.aload_n 0, 1) := by decide +kernel
theorem d1_run_15 : decode cX1_run 15 = .ok (.invokevirtual 80, 3) := by decide +kernel
theorem d1_run_18 : decode cX1_run 18 = .ok (.iconst 0, 1) := by decide +kernel
theorem d1_run_19 : decode cX1_run 19 = .ok (.istore 4, 2) := by decide +kernel
theorem d1_run_21 : decode cX1_run 21 = .ok (.iload 4, 2) := by decide +kernel
theorem d1_run_23 : decode cX1_run 23 = .ok (.sipush 360, 3) := by decide +kernel
theorem d1_run_26 : decode cX1_run 26 = .ok (.if_icmp .ge 50, 3) := by decide +kernel
theorem d1_run_29 : decode cX1_run 29 = .ok (.aload_n 0, 1) := by decide +kernel
theorem d1_run_30 : decode cX1_run 30 = .ok (.getfield 44, 3) := by decide +kernel
theorem d1_run_33 : decode cX1_run 33 = .ok (.iload_n 3, 1) := by decide +kernel
theorem d1_run_34 : decode cX1_run 34 = .ok (.if_icmp .ge 42, 3) := by decide +kernel
theorem d1_run_37 : decode cX1_run 37 = .ok (.aload_n 0, 1) := by decide +kernel
theorem d1_run_38 : decode cX1_run 38 = .ok (.invokevirtual 83, 3) := by decide +kernel
theorem d1_run_41 : decode cX1_run 41 = .ok (.aload_n 0, 1) := by decide +kernel
theorem d1_run_42 : decode cX1_run 42 = .ok (.iload 4, 2) := by decide +kernel
theorem d1_run_44 : decode cX1_run 44 = .ok (.invokevirtual 86, 3) := by decide +kernel
theorem d1_run_47 : decode cX1_run 47 = .ok (.aload_n 0, 1) := by decide +kernel
theorem d1_run_48 : decode cX1_run 48 = .ok (.iload 4, 2) := by decide +kernel
theorem d1_run_50 : decode cX1_run 50 = .ok (.invokevirtual 89, 3) := by decide +kernel
theorem d1_run_53 : decode cX1_run 53 = .ok (.aload_n 0, 1) := by decide +kernel
theorem d1_run_54 : decode cX1_run 54 = .ok (.iload 4, 2) := by decide +kernel
theorem d1_run_56 : decode cX1_run 56 = .ok (.invokevirtual 92, 3) := by decide +kernel
theorem d1_run_59 : decode cX1_run 59 = .ok (.aload_n 0, 1) := by decide +kernel
theorem d1_run_60 : decode cX1_run 60 = .ok (.getfield 9, 3) := by decide +kernel
theorem d1_run_63 : decode cX1_run 63 = .ok (.iload 4, 2) := by decide +kernel
theorem d1_run_65 : decode cX1_run 65 = .ok (.aload_n 0, 1) := by decide +kernel
theorem d1_run_66 : decode cX1_run 66 = .ok (.getfield 47, 3) := by decide +kernel
theorem d1_run_69 : decode cX1_run 69 = .ok (.iastore, 1) := by decide +kernel
theorem d1_run_70 : decode cX1_run 70 = .ok (.iinc 4 1, 3) := by decide +kernel
theorem d1_run_73 : decode cX1_run 73 = .ok (.goto (-52), 3) := by decide +kernel
theorem d1_run_76 : decode cX1_run 76 = .ok (.aload_n 0, 1) := by decide +kernel
theorem d1_run_77 : decode cX1_run 77 = .ok (.iconst 1, 1) := by decide +kernel
theorem d1_run_78 : decode cX1_run 78 = .ok (.putfield 37, 3) := by decide +kernel
theorem d1_run_81 : decode cX1_run 81 = .ok (.return_, 1) := by decide +kernel
def f1_run_b76 (h : Nat) (σ : Mem) : Option Mem := bm (mu σ h 10 1) fun σ1 => some σ1
set_option maxHeartbeats 4000000 in
set_option maxRecDepth 100000 in
theorem t1_run_b76 {p : Program} {l : Launch} {e : Env} {s : State} {m : MethodId} {args : Array Value} {below : List Frame} {meth : Method} {c : Code} {w : WV} {h : Nat} {σ' : Mem} (S : CallFix p m c cX1_run 5 s args gtbl RX1) (hr : meth.sig.returnType = none) (hlk : meth.locks = false) (hK : KS LC w s) (hh : h ∈ hourL) : ∀ (σ : Mem), f1_run_b76 h σ = some σ' → ∀ (H : Heap) (locs : List Loc), Rp EC LC w σ H → va_S (AW LC w) s.heap H locs → ∀ (ls : Array Slot), lv_has ls 5 [(0, .ref (w.2.2 h))] → W p l e rm1_run s m args below meth c H locs 0 0 (MQ below (Qw EC LC w σ' none) args s 0 0 (AW LC w)) (F0 m 76 ls []) := by
  obtain ⟨hx, hb, hml, hown, hts⟩ := id S
  intro σ h0 H locs hR hS ls hl
  unfold f1_run_b76 at h0
  refine lv_aload_n hx hb d1_run_76 rfl (lv_at hl 0 rfl) ?_
  refine lv_iconst (v := 1) hx hb d1_run_77 (by decide) ?_
  obtain ⟨σ1, hm1, h0⟩ := og_m h0
  refine u1_37 S hK hR hS hh (Or.inr rfl) hm1 d1_run_78 (fun H locs hR hS => ?_)
  exact q_vret S hr hlk hR hS h0 d1_run_81
def f1_run_b21 (h : Nat) : Nat → Mem → Int32 → Int32 → Option Mem
  | 0, _, _, _ => none
  | n + 1, σ, x3, x4 => if 360 ≤ x4 then f1_run_b76 h σ else if x3 ≤ (σ h 12) then f1_run_b76 h σ else Option.bind (f1_moveGates σ h) fun σ3 => Option.bind (f1_turnGates σ3 h x4) fun σ4 => Option.bind (f1_runTrains σ4 h x4) fun σ5 => Option.bind (f1_runUsers σ5 h x4) fun σ6 => if ¬ (x4 < 0 ∨ 360 ≤ x4.toNatClampNeg) then (bm (mu σ6 (h + 1) x4.toNatClampNeg (σ6 h 13)) fun σ8 => f1_run_b21 h n σ8 x3 (x4 + 1)) else none
set_option maxHeartbeats 4000000 in
set_option maxRecDepth 100000 in
theorem t1_run_b21 {p : Program} {l : Launch} {e : Env} {s : State} {m : MethodId} {args : Array Value} {below : List Frame} {meth : Method} {c : Code} {w : WV} {h : Nat} {σ' : Mem} (S : CallFix p m c cX1_run 5 s args gtbl RX1) (hr : meth.sig.returnType = none) (hlk : meth.locks = false) (hK : KS LC w s) (hh : h ∈ hourL) : ∀ (n : Nat), ∀ (σ : Mem) (x3 : Int32) (x4 : Int32), f1_run_b21 h n σ x3 x4 = some σ' → ∀ (H : Heap) (locs : List Loc), Rp EC LC w σ H → va_S (AW LC w) s.heap H locs → ∀ (ls : Array Slot), lv_has ls 5 [(0, .ref (w.2.2 h)), (3, .int x3), (4, .int x4)] → W p l e rm1_run s m args below meth c H locs 0 0 (MQ below (Qw EC LC w σ' none) args s 0 0 (AW LC w)) (F0 m 21 ls []) := by
  obtain ⟨hx, hb, hml, hown, hts⟩ := id S
  intro n
  induction n with
  | zero =>
    intro σ x3 x4 h0
    cases (show none = _ from h0)
  | succ n ih =>
    intro σ x3 x4 h0 H locs hR hS ls hl
    rw [f1_run_b21] at h0
    refine lv_iload hx hb d1_run_21 (lv_at hl 2 rfl) ?_
    refine lv_sipush (v := 360) hx hb d1_run_23 (by decide) ?_
    refine lv_icmp_ge (tgt := 76) hx hb d1_run_26 (by decide) (fun hc1 => ?_) (fun hc1 => ?_)
    · have h0 := og_t hc1 h0
      exact t1_run_b76 S hr hlk hK hh σ h0 _ _ hR hS _ (lv_sub hl [0] rfl)
    · have h0 := og_f hc1 h0
      refine lv_aload_n hx hb d1_run_29 rfl (lv_at hl 0 rfl) ?_
      refine g1_44 S hK hR hh d1_run_30 ?_
      refine lv_iload_n hx hb d1_run_33 rfl (lv_at hl 1 rfl) ?_
      refine lv_icmp_ge (tgt := 76) hx hb d1_run_34 (by decide) (fun hc2 => ?_) (fun hc2 => ?_)
      · have h0 := og_t hc2 h0
        exact t1_run_b76 S hr hlk hK hh σ h0 _ _ hR hS _ (lv_sub hl [0] rfl)
      · have h0 := og_f hc2 h0
        refine lv_aload_n hx hb d1_run_37 rfl (lv_at hl 0 rfl) ?_
        obtain ⟨σ3, hr3, h0⟩ := og_b h0
        refine k1_83 S hK hR hS hh hr3 ⟨Nat.zero_le _, Nat.zero_le _⟩ ⟨Nat.le_of_ble_eq_true rfl, Nat.le_of_ble_eq_true rfl⟩ hl.1 (Nat.le_of_ble_eq_true rfl) d1_run_38 (fun H locs hR hS => ?_)
        refine lv_aload_n hx hb d1_run_41 rfl (lv_at hl 0 rfl) ?_
        refine lv_iload hx hb d1_run_42 (lv_at hl 2 rfl) ?_
        obtain ⟨σ4, hr4, h0⟩ := og_b h0
        refine k1_86 S hK hR hS hh hr4 ⟨Nat.zero_le _, Nat.zero_le _⟩ ⟨Nat.le_of_ble_eq_true rfl, Nat.le_of_ble_eq_true rfl⟩ hl.1 (Nat.le_of_ble_eq_true rfl) d1_run_44 (fun H locs hR hS => ?_)
        refine lv_aload_n hx hb d1_run_47 rfl (lv_at hl 0 rfl) ?_
        refine lv_iload hx hb d1_run_48 (lv_at hl 2 rfl) ?_
        obtain ⟨σ5, hr5, h0⟩ := og_b h0
        refine k1_89 S hK hR hS hh hr5 ⟨Nat.zero_le _, Nat.zero_le _⟩ ⟨Nat.le_of_ble_eq_true rfl, Nat.le_of_ble_eq_true rfl⟩ hl.1 (Nat.le_of_ble_eq_true rfl) d1_run_50 (fun H locs hR hS => ?_)
        refine lv_aload_n hx hb d1_run_53 rfl (lv_at hl 0 rfl) ?_
        refine lv_iload hx hb d1_run_54 (lv_at hl 2 rfl) ?_
        obtain ⟨σ6, hr6, h0⟩ := og_b h0
        refine k1_92 S hK hR hS hh hr6 ⟨Nat.zero_le _, Nat.zero_le _⟩ ⟨Nat.le_of_ble_eq_true rfl, Nat.le_of_ble_eq_true rfl⟩ hl.1 (Nat.le_of_ble_eq_true rfl) d1_run_56 (fun H locs hR hS => ?_)
        refine lv_aload_n hx hb d1_run_59 rfl (lv_at hl 0 rfl) ?_
        refine g1_9 S hK hR hh rfl d1_run_60 ?_
        refine lv_iload hx hb d1_run_63 (lv_at hl 2 rfl) ?_
        refine lv_aload_n hx hb d1_run_65 rfl (lv_at hl 0 rfl) ?_
        refine g1_47 S hK hR hh d1_run_66 ?_
        obtain ⟨hi7, h0⟩ := og_if h0
        obtain ⟨σ8, hm8, h0⟩ := og_m h0
        refine q_st S hK hR hS (oa_1_2 _ hh) (ea_1_2 _ hh w) hi7 rfl hm8 d1_run_69 (fun H locs hR hS => ?_)
        refine lv_iinc (v := x4 + 1) (lv' := [(4, .int (x4 + 1)), (0, .ref (w.2.2 h)), (3, .int x3)]) hx hb d1_run_70 hl (k := 2) rfl (ii1 _) (by decide) rfl (fun ls hl => ?_)
        refine lv_goto (tgt := 21) hx hb d1_run_73 (by decide) ?_
        exact ih σ8 x3 (x4 + 1) h0 _ _ hR hS _ (lv_sub hl [1, 2, 0] rfl)
def f1_run (σ : Mem) (h : Nat) (x1 : Int32) (x2 : Int32) (x3 : Int32) : Option Mem := bm (mu σ h 11 x1) fun σ1 => Option.bind (f1_beginTrains σ1 h x2) fun σ2 => Option.bind (f1_beginUsers σ2 h) fun σ3 => Option.bind (f1_beginGates σ3 h) fun σ4 => f1_run_b21 h 1000 σ4 x3 0
set_option maxHeartbeats 4000000 in
set_option maxRecDepth 100000 in
theorem c1_run (l : Launch) {w : WV} {σ : Mem} {h : Nat} {x1 : Int32} {x2 : Int32} {x3 : Int32} {σ' : Mem} (hh : h ∈ hourL) (h0 : f1_run σ h x1 x2 x3 = some σ') : Met l yX1_run (wy yX1_run cX1_run 5 none) rm1_run (Pw EC LC w [.ref (w.2.2 h), .int x1, .int x2, .int x3] σ) (Qw EC LC w σ' none) 0 0 (AW LC w) := by
  refine mk_met (by decide) (Nat.le_of_ble_eq_true rfl) ?_
  intro p e s m below meth c S hr hlk hK hR ls hl
  obtain ⟨hx, hb, hml, hown, hts⟩ := id S
  have hl : lv_has ls 5 [(0, .ref (w.2.2 h)), (1, .int x1), (2, .int x2), (3, .int x3)] := hl
  have hS : va_S (AW LC w) s.heap s.heap [] := va_S.rf
  unfold f1_run at h0
  refine lv_aload_n hx hb d1_run_0 rfl (lv_at hl 0 rfl) ?_
  refine lv_iload_n hx hb d1_run_1 rfl (lv_at hl 1 rfl) ?_
  obtain ⟨σ1, hm1, h0⟩ := og_m h0
  refine u1_41 S hK hR hS hh hm1 d1_run_2 (fun H locs hR hS => ?_)
  refine lv_aload_n hx hb d1_run_5 rfl (lv_at hl 0 rfl) ?_
  refine lv_iload_n hx hb d1_run_6 rfl (lv_at hl 2 rfl) ?_
  obtain ⟨σ2, hr2, h0⟩ := og_b h0
  refine k1_73 S hK hR hS hh hr2 ⟨Nat.zero_le _, Nat.zero_le _⟩ ⟨Nat.le_of_ble_eq_true rfl, Nat.le_of_ble_eq_true rfl⟩ hl.1 (Nat.le_of_ble_eq_true rfl) d1_run_7 (fun H locs hR hS => ?_)
  refine lv_aload_n hx hb d1_run_10 rfl (lv_at hl 0 rfl) ?_
  obtain ⟨σ3, hr3, h0⟩ := og_b h0
  refine k1_77 S hK hR hS hh hr3 ⟨Nat.zero_le _, Nat.zero_le _⟩ ⟨Nat.le_of_ble_eq_true rfl, Nat.le_of_ble_eq_true rfl⟩ hl.1 (Nat.le_of_ble_eq_true rfl) d1_run_11 (fun H locs hR hS => ?_)
  refine lv_aload_n hx hb d1_run_14 rfl (lv_at hl 0 rfl) ?_
  obtain ⟨σ4, hr4, h0⟩ := og_b h0
  refine k1_80 S hK hR hS hh hr4 ⟨Nat.zero_le _, Nat.zero_le _⟩ ⟨Nat.le_of_ble_eq_true rfl, Nat.le_of_ble_eq_true rfl⟩ hl.1 (Nat.le_of_ble_eq_true rfl) d1_run_15 (fun H locs hR hS => ?_)
  refine lv_iconst (v := 0) hx hb d1_run_18 (by decide) ?_
  refine lv_istore (lv' := [(4, .int 0), (0, .ref (w.2.2 h)), (1, .int x1), (2, .int x2), (3, .int x3)]) hx hb d1_run_19 hl (by decide) rfl (fun ls hl => ?_)
  exact t1_run_b21 S hr hlk hK hh 1000 σ4 x3 0 h0 _ _ hR hS _ (lv_sub hl [1, 4, 0] rfl)
set_option maxHeartbeats 4000000 in
set_option maxRecDepth 100000 in
theorem k6_231 {p : Program} {l : Launch} {e : Env} {R : Room} {s : State} {m : MethodId} {args : Array Value} {below : List Frame} {meth : Method} {c : Code} {H : Heap} {locs : List Loc} {cells slots : Nat} {Q : State → Prop} {cc : ByteArray} {pc nL : Nat} {ls : Array Slot} {rest : List Value} {w : WV} {σ : Mem} {h : Nat} {x1 : Int32} {x2 : Int32} {x3 : Int32} {σ1 : Mem} (S : CallFix p m c cc nL s args gtbl RX6) (hK : KS LC w s) (hR : Rp EC LC w σ H) (hS : va_S (AW LC w) s.heap H locs) (hh : h ∈ hourL) (h0 : f1_run σ h x1 x2 x3 = some σ1) (hf : cells + 0 ≤ R.cells ∧ slots + 0 ≤ R.slots) (hRm : rm1_run.frames + 1 ≤ R.frames ∧ 8 + (5 + 11) + rm1_run.locals ≤ R.locals) (hl : ls.size = nL) (hW : (rest.map fun v => v.category).sum ≤ 8) (hdg : decode cc pc = .ok (.invokevirtual 231, 3)) (kk : ∀ (H1 : Heap) (locs1 : List Loc), Rp EC LC w σ1 H1 → va_S (AW LC w) s.heap H1 locs1 → W p l e R s m args below meth c H1 locs1 cells slots Q (F0 m (pc + 3) ls (rest))) : W p l e R s m args below meth c H locs cells slots Q (F0 m pc ls (.int x3 :: .int x2 :: .int x1 :: .ref (w.2.2 h) :: rest)) := r_end hS (run_V (n := 3) (As := [.int x1, .int x2, .int x3]) S hK hR (ok_1 _ hh) (eC_1 _ hh w _) rfl (gw_V (gt_at 592 (by decide +kernel) (by decide +kernel)) (gt_at 593 (by decide +kernel) (by decide +kernel)) (gt_at 594 (by decide +kernel) (by decide +kernel)) (gt_at 80 (by decide +kernel) (by decide +kernel)) (gt_at 595 (by decide +kernel) (by decide +kernel))) (by decide +kernel) rfl (c1_run l hh h0) ⟨rfl, rfl⟩ hRm hf hl rfl hW hdg) kk
