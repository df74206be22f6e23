/-! FourTenGatesModel.isPassing(I)Z -/
abbrev rm7_isPassing : Room := { frames := 0, cells := 0, slots := 0, locals := 0 }
theorem d7_isPassing_0 : decode cX7_isPassing 0 = .ok (.iconst 0, 1) := by decide +kernel
theorem d7_isPassing_1 : decode cX7_isPassing 1 = .ok (.istore_n 2, 1) := by decide +kernel
theorem d7_isPassing_2 : decode cX7_isPassing 2 = .ok (.iconst 0, 1) := by decide +kernel
theorem d7_isPassing_3 : decode cX7_isPassing 3 = .ok (.istore_n 3, 1) := by decide +kernel
theorem d7_isPassing_4 : decode cX7_isPassing 4 = .ok (.iload_n 3, 1) := by decide +kernel
theorem d7_isPassing_5 : decode cX7_isPassing 5 = .ok (.aload_n 0, 1) := by decide +kernel
theorem d7_isPassing_6 : decode cX7_isPassing 6 = .ok (.getfield 13, 3) := by decide +kernel
theorem d7_isPassing_9 : decode cX7_isPassing 9 = .ok (.iconst 0, 1) := by decide +kernel
theorem d7_isPassing_10 : decode cX7_isPassing 10 = .ok (.iaload, 1) := by decide +kernel
theorem d7_isPassing_11 : decode cX7_isPassing 11 = .ok (.if_icmp .ge 40, 3) := by decide +kernel
theorem d7_isPassing_14 : decode cX7_isPassing 14 = .ok (.iload_n 2, 1) := by decide +kernel
theorem d7_isPassing_15 : decode cX7_isPassing 15 = .ok (.ifCond .ne 24, 3) := by decide +kernel
theorem d7_isPassing_18 : decode cX7_isPassing 18 = .ok (.aload_n 0, 1) := by decide +kernel
theorem d7_isPassing_19 : decode cX7_isPassing 19 = .ok (.getfield 76, 3) := by decide +kernel
theorem d7_isPassing_22 : decode cX7_isPassing 22 = .ok (.iload_n 3, 1) := by decide +kernel
theorem d7_isPassing_23 : decode cX7_isPassing 23 = .ok (.iaload, 1) := by decide +kernel
theorem d7_isPassing_24 : decode cX7_isPassing 24 = .ok (.ifCond .lt 19, 3) := by decide +kernel
theorem d7_isPassing_27 : decode cX7_isPassing 27 = .ok (.iload_n 1, 1) := by decide +kernel
theorem d7_isPassing_28 : decode cX7_isPassing 28 = .ok (.aload_n 0, 1) := by decide +kernel
theorem d7_isPassing_29 : decode cX7_isPassing 29 = .ok (.getfield 76, 3) := by decide +kernel
theorem d7_isPassing_32 : decode cX7_isPassing 32 = .ok (.iload_n 3, 1) := by decide +kernel
theorem d7_isPassing_33 : decode cX7_isPassing 33 = .ok (.iaload, 1) := by decide +kernel
theorem d7_isPassing_34 : decode cX7_isPassing 34 = .ok (.iconst 2, 1) := by decide +kernel
theorem d7_isPassing_35 : decode cX7_isPassing 35 = .ok (.iadd, 1) := by decide +kernel
theorem d7_isPassing_36 : decode cX7_isPassing 36 = .ok (.if_icmp .gt 7, 3) := by decide +kernel
theorem d7_isPassing_39 : decode cX7_isPassing 39 = .ok (.iconst 1, 1) := by decide +kernel
theorem d7_isPassing_40 : decode cX7_isPassing 40 = .ok (.goto 4, 3) := by decide +kernel
theorem d7_isPassing_43 : decode cX7_isPassing 43 = .ok (.iconst 0, 1) := by decide +kernel
theorem d7_isPassing_44 : decode cX7_isPassing 44 = .ok (.istore_n 2, 1) := by decide +kernel
theorem d7_isPassing_45 : decode cX7_isPassing 45 = .ok (.iinc 3 1, 3) := by decide +kernel
theorem d7_isPassing_48 : decode cX7_isPassing 48 = .ok (.goto (-44), 3) := by decide +kernel
theorem d7_isPassing_51 : decode cX7_isPassing 51 = .ok (.iload_n 2, 1) := by decide +kernel
theorem d7_isPassing_52 : decode cX7_isPassing 52 = .ok (.ireturn, 1) := by decide +kernel
def f7_isPassing_b4 (σ : Mem) : Nat → Int32 → Int32 → Int32 → Option Int32
  | 0, _, _, _ => none
  | n + 1, x1, x2, x3 => if (σ 3 0) ≤ x3 then if x2 = 0 ∨ x2 = 1 then some x2 else none else if x2 = 0 then if ¬ (x3 < 0 ∨ 6 ≤ x3.toNatClampNeg) then if (σ 28 x3.toNatClampNeg) < 0 then f7_isPassing_b4 σ n x1 0 (x3 + 1) else if ¬ (x3 < 0 ∨ 6 ≤ x3.toNatClampNeg) then if ((σ 28 x3.toNatClampNeg) + 2) < x1 then f7_isPassing_b4 σ n x1 0 (x3 + 1) else f7_isPassing_b4 σ n x1 1 (x3 + 1) else none else none else f7_isPassing_b4 σ n x1 1 (x3 + 1)
set_option maxHeartbeats 4000000 in
set_option maxRecDepth 100000 in
theorem t7_isPassing_b4 {p : Program} {l : Launch} {e : Env} {s : State} {m : MethodId} {args : Array Value} {below : List Frame} {meth : Method} {c : Code} {w : WV} {σ : Mem} {r : Int32} (S : CallFix p m c cX7_isPassing 4 s args gtbl RX7) (hr : meth.sig.returnType = (some .boolean)) (hlk : meth.locks = false) (hK : KS LM w s) (hR : Rp EM LM w σ s.heap) : ∀ (n : Nat), ∀ (x1 : Int32) (x2 : Int32) (x3 : Int32), f7_isPassing_b4 σ n x1 x2 x3 = some r → ∀ (ls : Array Slot), lv_has ls 4 [(0, .ref (w.2.2 0)), (1, .int x1), (2, .int x2), (3, .int x3)] → W p l e rm7_isPassing s m args below meth c s.heap [] 0 0 (MQ below (Qp (.int r)) args s 0 0 (fun _ => False)) (F0 m 4 ls []) := by
  obtain ⟨hx, hb, hml, hown, hts⟩ := id S
  intro n
  induction n with
  | zero =>
    intro x1 x2 x3 h0
    cases (show none = _ from h0)
  | succ n ih =>
    intro x1 x2 x3 h0 ls hl
    rw [f7_isPassing_b4] at h0
    refine lv_iload_n hx hb d7_isPassing_4 rfl (lv_at hl 3 rfl) ?_
    refine lv_aload_n hx hb d7_isPassing_5 rfl (lv_at hl 0 rfl) ?_
    refine g7_13 S hK hR d7_isPassing_6 ?_
    refine lv_iconst (v := 0) hx hb d7_isPassing_9 (by decide) ?_
    refine q_ld (k := 0) S hK hR (by decide) (eM_102 w _) (vin (by decide)) (by decide) d7_isPassing_10 ?_
    refine lv_icmp_ge (tgt := 51) hx hb d7_isPassing_11 (by decide) (fun hc1 => ?_) (fun hc1 => ?_)
    · have h0 := og_t hc1 h0
      refine lv_iload_n hx hb d7_isPassing_51 rfl (lv_at hl 2 rfl) ?_
      obtain ⟨hb0, h0⟩ := og_if h0
      exact q_zpure S hr hlk hb0 h0 d7_isPassing_52
    · have h0 := og_f hc1 h0
      refine lv_iload_n hx hb d7_isPassing_14 rfl (lv_at hl 2 rfl) ?_
      refine lv_if_ne (tgt := 39) hx hb d7_isPassing_15 (by decide) (fun hc2 => ?_) (fun hc2 => ?_)
      · have h0 := og_f hc2 h0
        refine lv_iconst (v := 1) hx hb d7_isPassing_39 (by decide) ?_
        refine lv_goto (tgt := 44) hx hb d7_isPassing_40 (by decide) ?_
        refine lv_istore_n (lv' := [(2, .int 1), (0, .ref (w.2.2 0)), (1, .int x1), (3, .int x3)]) hx hb d7_isPassing_44 rfl hl (by decide) rfl (fun ls hl => ?_)
        refine lv_iinc (v := x3 + 1) (lv' := [(3, .int (x3 + 1)), (2, .int 1), (0, .ref (w.2.2 0)), (1, .int x1)]) hx hb d7_isPassing_45 hl (k := 3) rfl (ii1 _) (by decide) rfl (fun ls hl => ?_)
        refine lv_goto (tgt := 4) hx hb d7_isPassing_48 (by decide) ?_
        exact ih x1 1 (x3 + 1) h0 _ (lv_sub hl [2, 3, 1, 0] rfl)
      · have h0 := og_t hc2 h0
        refine lv_aload_n hx hb d7_isPassing_18 rfl (lv_at hl 0 rfl) ?_
        refine g7_76 S hK hR d7_isPassing_19 ?_
        refine lv_iload_n hx hb d7_isPassing_22 rfl (lv_at hl 3 rfl) ?_
        obtain ⟨hi3, h0⟩ := og_if h0
        refine q_ld (k := x3.toNatClampNeg) S hK hR (by decide) (eM_127 w _) hi3 rfl d7_isPassing_23 ?_
        refine lv_if_lt (tgt := 43) hx hb d7_isPassing_24 (by decide) (fun hc4 => ?_) (fun hc4 => ?_)
        · have h0 := og_t hc4 h0
          refine lv_iconst (v := 0) hx hb d7_isPassing_43 (by decide) ?_
          refine lv_istore_n (lv' := [(2, .int 0), (0, .ref (w.2.2 0)), (1, .int x1), (3, .int x3)]) hx hb d7_isPassing_44 rfl hl (by decide) rfl (fun ls hl => ?_)
          refine lv_iinc (v := x3 + 1) (lv' := [(3, .int (x3 + 1)), (2, .int 0), (0, .ref (w.2.2 0)), (1, .int x1)]) hx hb d7_isPassing_45 hl (k := 3) rfl (ii1 _) (by decide) rfl (fun ls hl => ?_)
          refine lv_goto (tgt := 4) hx hb d7_isPassing_48 (by decide) ?_
          exact ih x1 0 (x3 + 1) h0 _ (lv_sub hl [2, 3, 1, 0] rfl)
        · have h0 := og_f hc4 h0
          refine lv_iload_n hx hb d7_isPassing_27 rfl (lv_at hl 1 rfl) ?_
          refine lv_aload_n hx hb d7_isPassing_28 rfl (lv_at hl 0 rfl) ?_
          refine g7_76 S hK hR d7_isPassing_29 ?_
          refine lv_iload_n hx hb d7_isPassing_32 rfl (lv_at hl 3 rfl) ?_
          obtain ⟨hi5, h0⟩ := og_if h0
          refine q_ld (k := x3.toNatClampNeg) S hK hR (by decide) (eM_127 w _) hi5 rfl d7_isPassing_33 ?_
          refine lv_iconst (v := 2) hx hb d7_isPassing_34 (by decide) ?_
          refine lv_iadd hx hb d7_isPassing_35 ?_
          refine lv_icmp_gt (tgt := 43) hx hb d7_isPassing_36 (by decide) (fun hc6 => ?_) (fun hc6 => ?_)
          · have h0 := og_t hc6 h0
            refine lv_iconst (v := 0) hx hb d7_isPassing_43 (by decide) ?_
            refine lv_istore_n (lv' := [(2, .int 0), (0, .ref (w.2.2 0)), (1, .int x1), (3, .int x3)]) hx hb d7_isPassing_44 rfl hl (by decide) rfl (fun ls hl => ?_)
            refine lv_iinc (v := x3 + 1) (lv' := [(3, .int (x3 + 1)), (2, .int 0), (0, .ref (w.2.2 0)), (1, .int x1)]) hx hb d7_isPassing_45 hl (k := 3) rfl (ii1 _) (by decide) rfl (fun ls hl => ?_)
            refine lv_goto (tgt := 4) hx hb d7_isPassing_48 (by decide) ?_
            exact ih x1 0 (x3 + 1) h0 _ (lv_sub hl [2, 3, 1, 0] rfl)
          · have h0 := og_f hc6 h0
            refine lv_iconst (v := 1) hx hb d7_isPassing_39 (by decide) ?_
            refine lv_goto (tgt := 44) hx hb d7_isPassing_40 (by decide) ?_
            refine lv_istore_n (lv' := [(2, .int 1), (0, .ref (w.2.2 0)), (1, .int x1), (3, .int x3)]) hx hb d7_isPassing_44 rfl hl (by decide) rfl (fun ls hl => ?_)
            refine lv_iinc (v := x3 + 1) (lv' := [(3, .int (x3 + 1)), (2, .int 1), (0, .ref (w.2.2 0)), (1, .int x1)]) hx hb d7_isPassing_45 hl (k := 3) rfl (ii1 _) (by decide) rfl (fun ls hl => ?_)
            refine lv_goto (tgt := 4) hx hb d7_isPassing_48 (by decide) ?_
            exact ih x1 1 (x3 + 1) h0 _ (lv_sub hl [2, 3, 1, 0] rfl)
def f7_isPassing (σ : Mem) (x1 : Int32) : Option Int32 := f7_isPassing_b4 σ 1000 x1 0 0
set_option maxHeartbeats 4000000 in
set_option maxRecDepth 100000 in
theorem c7_isPassing (l : Launch) {w : WV} {σ : Mem} {x1 : Int32} {r : Int32} (h0 : f7_isPassing σ x1 = some r) : Met l yX7_isPassing (wy yX7_isPassing cX7_isPassing 4 (some .boolean)) rm7_isPassing (Pw EM LM w [.ref (w.2.2 0), .int x1] σ) (Qp (.int r)) 0 0 (fun _ => False) := by
  refine mk_met (by decide) (Nat.le_of_ble_eq_true rfl) ?_
  intro p e s m below meth c S hr hlk hK hR ls hl
  obtain ⟨hx, hb, hml, hown, hts⟩ := id S
  have hl : lv_has ls 4 [(0, .ref (w.2.2 0)), (1, .int x1)] := hl
  unfold f7_isPassing at h0
  refine lv_iconst (v := 0) hx hb d7_isPassing_0 (by decide) ?_
  refine lv_istore_n (lv' := [(2, .int 0), (0, .ref (w.2.2 0)), (1, .int x1)]) hx hb d7_isPassing_1 rfl hl (by decide) rfl (fun ls hl => ?_)
  refine lv_iconst (v := 0) hx hb d7_isPassing_2 (by decide) ?_
  refine lv_istore_n (lv' := [(3, .int 0), (2, .int 0), (0, .ref (w.2.2 0)), (1, .int x1)]) hx hb d7_isPassing_3 rfl hl (by decide) rfl (fun ls hl => ?_)
  exact t7_isPassing_b4 S hr hlk hK hR 1000 x1 0 0 h0 _ (lv_sub hl [2, 3, 1, 0] rfl)
set_option maxHeartbeats 4000000 in
set_option maxRecDepth 100000 in
theorem k7_199 {p : Program} {l : Launch} {e : Env} {R : Room} {s : State} {m : MethodId} {args : Array Value} {below : List Frame} {meth : Method} {c : Code} {H : Heap} {locs : List Loc} {cells slots : Nat} {Q : State → Prop} {cc : ByteArray} {pc nL : Nat} {ls : Array Slot} {rest : List Value} {w : WV} {σ : Mem} {x1 : Int32} {r : Int32} (S : CallFix p m c cc nL s args gtbl RX7) (hK : KS LM w s) (hR : Rp EM LM w σ H) (h0 : f7_isPassing σ x1 = some r) (hf : cells + 0 ≤ R.cells ∧ slots + 0 ≤ R.slots) (hRm : rm7_isPassing.frames + 1 ≤ R.frames ∧ 8 + (4 + 11) + rm7_isPassing.locals ≤ R.locals) (hl : ls.size = nL) (hW : (rest.map fun v => v.category).sum ≤ 8) (hdg : decode cc pc = .ok (.invokevirtual 199, 3)) (kk : W p l e R s m args below meth c H locs cells slots Q (F0 m (pc + 3) ls (.int r :: rest))) : W p l e R s m args below meth c H locs cells slots Q (F0 m pc ls (.int x1 :: .ref (w.2.2 0) :: rest)) := r_endp (run_V (n := 1) (As := [.int x1]) S hK hR (by decide) (eM_7 w _) rfl (gw_V (gt_at 1143 (by decide +kernel) (by decide +kernel)) (gt_at 1145 (by decide +kernel) (by decide +kernel)) (gt_at 62 (by decide +kernel) (by decide +kernel)) (gt_at 86 (by decide +kernel) (by decide +kernel)) (gt_at 1146 (by decide +kernel) (by decide +kernel))) (by decide +kernel) rfl (c7_isPassing l h0) ⟨rfl, rfl⟩ hRm hf hl rfl hW hdg) kk
/-! FourTenGatesModel.hasPassed(II)Z -/
abbrev rm7_hasPassed : Room := { frames := 0, cells := 0, slots := 0, locals := 0 }
theorem d7_hasPassed_0 : decode cX7_hasPassed 0 = .ok (.aload_n 0, 1) := by decide +kernel
theorem d7_hasPassed_1 : decode cX7_hasPassed 1 = .ok (.getfield 76, 3) := by decide +kernel
theorem d7_hasPassed_4 : decode cX7_hasPassed 4 = .ok (.iload_n 1, 1) := by decide +kernel
theorem d7_hasPassed_5 : decode cX7_hasPassed 5 = .ok (.iaload, 1) := by decide +kernel
theorem d7_hasPassed_6 : decode cX7_hasPassed 6 = .ok (.ifCond .lt 19, 3) := by decide +kernel
theorem d7_hasPassed_9 : decode cX7_hasPassed 9 = .ok (.iload_n 2, 1) := by decide +kernel
theorem d7_hasPassed_10 : decode cX7_hasPassed 10 = .ok (.aload_n 0, 1) := by decide +kernel
theorem d7_hasPassed_11 : decode cX7_hasPassed 11 = .ok (.getfield 76, 3) := by decide +kernel
theorem d7_hasPassed_14 : decode cX7_hasPassed 14 = .ok (.iload_n 1, 1) := by decide +kernel
theorem d7_hasPassed_15 : decode cX7_hasPassed 15 = .ok (.iaload, 1) := by decide +kernel
theorem d7_hasPassed_16 : decode cX7_hasPassed 16 = .ok (.iconst 2, 1) := by decide +kernel
theorem d7_hasPassed_17 : decode cX7_hasPassed 17 = .ok (.iadd, 1) := by decide +kernel
theorem d7_hasPassed_18 : decode cX7_hasPassed 18 = .ok (.if_icmp .le 7, 3) := by decide +kernel
theorem d7_hasPassed_21 : decode cX7_hasPassed 21 = .ok (.iconst 1, 1) := by decide +kernel
theorem d7_hasPassed_22 : decode cX7_hasPassed 22 = .ok (.goto 4, 3) := by decide +kernel
theorem d7_hasPassed_25 : decode cX7_hasPassed 25 = .ok (.iconst 0, 1) := by decide +kernel
theorem d7_hasPassed_26 : decode cX7_hasPassed 26 = .ok (.ireturn, 1) := by decide +kernel
def f7_hasPassed (σ : Mem) (x1 : Int32) (x2 : Int32) : Option Int32 := if ¬ (x1 < 0 ∨ 6 ≤ x1.toNatClampNeg) then if (σ 28 x1.toNatClampNeg) < 0 then some 0 else if ¬ (x1 < 0 ∨ 6 ≤ x1.toNatClampNeg) then if x2 ≤ ((σ 28 x1.toNatClampNeg) + 2) then some 0 else some 1 else none else none
set_option maxHeartbeats 4000000 in
set_option maxRecDepth 100000 in
theorem c7_hasPassed (l : Launch) {w : WV} {σ : Mem} {x1 : Int32} {x2 : Int32} {r : Int32} (h0 : f7_hasPassed σ x1 x2 = some r) : Met l yX7_hasPassed (wy yX7_hasPassed cX7_hasPassed 3 (some .boolean)) rm7_hasPassed (Pw EM LM w [.ref (w.2.2 0), .int x1, .int x2] σ) (Qp (.int r)) 0 0 (fun _ => False) := by
  refine mk_met (by decide) (Nat.le_of_ble_eq_true rfl) ?_
  intro p e s m below meth c S hr hlk hK hR ls hl
  obtain ⟨hx, hb, hml, hown, hts⟩ := id S
  have hl : lv_has ls 3 [(0, .ref (w.2.2 0)), (1, .int x1), (2, .int x2)] := hl
  unfold f7_hasPassed at h0
  refine lv_aload_n hx hb d7_hasPassed_0 rfl (lv_at hl 0 rfl) ?_
  refine g7_76 S hK hR d7_hasPassed_1 ?_
  refine lv_iload_n hx hb d7_hasPassed_4 rfl (lv_at hl 1 rfl) ?_
  obtain ⟨hi1, h0⟩ := og_if h0
  refine q_ld (k := x1.toNatClampNeg) S hK hR (by decide) (eM_127 w _) hi1 rfl d7_hasPassed_5 ?_
  refine lv_if_lt (tgt := 25) hx hb d7_hasPassed_6 (by decide) (fun hc2 => ?_) (fun hc2 => ?_)
  · have h0 := og_t hc2 h0
    refine lv_iconst (v := 0) hx hb d7_hasPassed_25 (by decide) ?_
    exact q_zpure S hr hlk (Or.inl rfl) h0 d7_hasPassed_26
  · have h0 := og_f hc2 h0
    refine lv_iload_n hx hb d7_hasPassed_9 rfl (lv_at hl 2 rfl) ?_
    refine lv_aload_n hx hb d7_hasPassed_10 rfl (lv_at hl 0 rfl) ?_
    refine g7_76 S hK hR d7_hasPassed_11 ?_
    refine lv_iload_n hx hb d7_hasPassed_14 rfl (lv_at hl 1 rfl) ?_
    obtain ⟨hi3, h0⟩ := og_if h0
    refine q_ld (k := x1.toNatClampNeg) S hK hR (by decide) (eM_127 w _) hi3 rfl d7_hasPassed_15 ?_
    refine lv_iconst (v := 2) hx hb d7_hasPassed_16 (by decide) ?_
    refine lv_iadd hx hb d7_hasPassed_17 ?_
    refine lv_icmp_le (tgt := 25) hx hb d7_hasPassed_18 (by decide) (fun hc4 => ?_) (fun hc4 => ?_)
    · have h0 := og_t hc4 h0
      refine lv_iconst (v := 0) hx hb d7_hasPassed_25 (by decide) ?_
      exact q_zpure S hr hlk (Or.inl rfl) h0 d7_hasPassed_26
    · have h0 := og_f hc4 h0
      refine lv_iconst (v := 1) hx hb d7_hasPassed_21 (by decide) ?_
      refine lv_goto (tgt := 26) hx hb d7_hasPassed_22 (by decide) ?_
      exact q_zpure S hr hlk (Or.inr rfl) h0 d7_hasPassed_26
set_option maxHeartbeats 4000000 in
set_option maxRecDepth 100000 in
theorem k7_195 {p : Program} {l : Launch} {e : Env} {R : Room} {s : State} {m : MethodId} {args : Array Value} {below : List Frame} {meth : Method} {c : Code} {H : Heap} {locs : List Loc} {cells slots : Nat} {Q : State → Prop} {cc : ByteArray} {pc nL : Nat} {ls : Array Slot} {rest : List Value} {w : WV} {σ : Mem} {x1 : Int32} {x2 : Int32} {r : Int32} (S : CallFix p m c cc nL s args gtbl RX7) (hK : KS LM w s) (hR : Rp EM LM w σ H) (h0 : f7_hasPassed σ x1 x2 = some r) (hf : cells + 0 ≤ R.cells ∧ slots + 0 ≤ R.slots) (hRm : rm7_hasPassed.frames + 1 ≤ R.frames ∧ 8 + (3 + 11) + rm7_hasPassed.locals ≤ R.locals) (hl : ls.size = nL) (hW : (rest.map fun v => v.category).sum ≤ 8) (hdg : decode cc pc = .ok (.invokevirtual 195, 3)) (kk : W p l e R s m args below meth c H locs cells slots Q (F0 m (pc + 3) ls (.int r :: rest))) : W p l e R s m args below meth c H locs cells slots Q (F0 m pc ls (.int x2 :: .int x1 :: .ref (w.2.2 0) :: rest)) := r_endp (run_V (n := 2) (As := [.int x1, .int x2]) S hK hR (by decide) (eM_7 w _) rfl (gw_V (gt_at 1135 (by decide +kernel) (by decide +kernel)) (gt_at 1137 (by decide +kernel) (by decide +kernel)) (gt_at 60 (by decide +kernel) (by decide +kernel)) (gt_at 86 (by decide +kernel) (by decide +kernel)) (gt_at 1138 (by decide +kernel) (by decide +kernel))) (by decide +kernel) rfl (c7_hasPassed l h0) ⟨rfl, rfl⟩ hRm hf hl rfl hW hdg) kk
/-! FourTenGatesModel.inPlan(I)Z -/
abbrev rm7_inPlan : Room := { frames := 0, cells := 0, slots := 0, locals := 0 }
theorem d7_inPlan_0 : decode cX7_inPlan 0 = .ok (.iconst 0, 1) := by decide +kernel
theorem d7_inPlan_1 : decode cX7_inPlan 1 = .ok (.istore_n 2, 1) := by decide +kernel
theorem d7_inPlan_2 : decode cX7_inPlan 2 = .ok (.iconst 0, 1) := by decide +kernel
theorem d7_inPlan_3 : decode cX7_inPlan 3 = .ok (.istore_n 3, 1) := by decide +kernel
theorem d7_inPlan_4 : decode cX7_inPlan 4 = .ok (.iload_n 3, 1) := by decide +kernel
theorem d7_inPlan_5 : decode cX7_inPlan 5 = .ok (.aload_n 0, 1) := by decide +kernel
theorem d7_inPlan_6 : decode cX7_inPlan 6 = .ok (.getfield 55, 3) := by decide +kernel
theorem d7_inPlan_9 : decode cX7_inPlan 9 = .ok (.bipush 6, 2) := by decide +kernel
theorem d7_inPlan_11 : decode cX7_inPlan 11 = .ok (.iaload, 1) := by decide +kernel
theorem d7_inPlan_12 : decode cX7_inPlan 12 = .ok (.if_icmp .ge 51, 3) := by decide +kernel
theorem d7_inPlan_15 : decode cX7_inPlan 15 = .ok (.iload_n 2, 1) := by decide +kernel
theorem d7_inPlan_16 : decode cX7_inPlan 16 = .ok (.ifCond .ne 35, 3) := by decide +kernel
theorem d7_inPlan_19 : decode cX7_inPlan 19 = .ok (.iload_n 1, 1) := by decide +kernel
theorem d7_inPlan_20 : decode cX7_inPlan 20 = .ok (.bipush 6, 2) := by decide +kernel
theorem d7_inPlan_22 : decode cX7_inPlan 22 = .ok (.aload_n 0, 1) := by decide +kernel
theorem d7_inPlan_23 : decode cX7_inPlan 23 = .ok (.getfield 55, 3) := by decide +kernel
theorem d7_inPlan_26 : decode cX7_inPlan 26 = .ok (.bipush 7, 2) := by decide +kernel
theorem d7_inPlan_28 : decode cX7_inPlan 28 = .ok (.iload_n 3, 1) := by decide +kernel
theorem d7_inPlan_29 : decode cX7_inPlan 29 = .ok (.iadd, 1) := by decide +kernel
theorem d7_inPlan_30 : decode cX7_inPlan 30 = .ok (.iaload, 1) := by decide +kernel
theorem d7_inPlan_31 : decode cX7_inPlan 31 = .ok (.imul, 1) := by decide +kernel
theorem d7_inPlan_32 : decode cX7_inPlan 32 = .ok (.if_icmp .lt 23, 3) := by decide +kernel
theorem d7_inPlan_35 : decode cX7_inPlan 35 = .ok (.iload_n 1, 1) := by decide +kernel
theorem d7_inPlan_36 : decode cX7_inPlan 36 = .ok (.bipush 6, 2) := by decide +kernel
theorem d7_inPlan_38 : decode cX7_inPlan 38 = .ok (.aload_n 0, 1) := by decide +kernel
theorem d7_inPlan_39 : decode cX7_inPlan 39 = .ok (.getfield 55, 3) := by decide +kernel
theorem d7_inPlan_42 : decode cX7_inPlan 42 = .ok (.bipush 13, 2) := by decide +kernel
theorem d7_inPlan_44 : decode cX7_inPlan 44 = .ok (.iload_n 3, 1) := by decide +kernel
theorem d7_inPlan_45 : decode cX7_inPlan 45 = .ok (.iadd, 1) := by decide +kernel
theorem d7_inPlan_46 : decode cX7_inPlan 46 = .ok (.iaload, 1) := by decide +kernel
theorem d7_inPlan_47 : decode cX7_inPlan 47 = .ok (.imul, 1) := by decide +kernel
theorem d7_inPlan_48 : decode cX7_inPlan 48 = .ok (.if_icmp .ge 7, 3) := by decide +kernel
theorem d7_inPlan_51 : decode cX7_inPlan 51 = .ok (.iconst 1, 1) := by decide +kernel
theorem d7_inPlan_52 : decode cX7_inPlan 52 = .ok (.goto 4, 3) := by decide +kernel
theorem d7_inPlan_55 : decode cX7_inPlan 55 = .ok (.iconst 0, 1) := by decide +kernel
theorem d7_inPlan_56 : decode cX7_inPlan 56 = .ok (.istore_n 2, 1) := by decide +kernel
theorem d7_inPlan_57 : decode cX7_inPlan 57 = .ok (.iinc 3 1, 3) := by decide +kernel
theorem d7_inPlan_60 : decode cX7_inPlan 60 = .ok (.goto (-56), 3) := by decide +kernel
theorem d7_inPlan_63 : decode cX7_inPlan 63 = .ok (.iload_n 2, 1) := by decide +kernel
theorem d7_inPlan_64 : decode cX7_inPlan 64 = .ok (.ireturn, 1) := by decide +kernel
def f7_inPlan_b4 (σ : Mem) : Nat → Int32 → Int32 → Int32 → Option Int32
  | 0, _, _, _ => none
  | n + 1, x1, x2, x3 => if (σ 17 6) ≤ x3 then if x2 = 0 ∨ x2 = 1 then some x2 else none else if x2 = 0 then if ¬ (7 + x3 < 0 ∨ 19 ≤ (7 + x3).toNatClampNeg) then if x1 < (6 * (σ 17 ((7 + x3).toNatClampNeg))) then f7_inPlan_b4 σ n x1 0 (x3 + 1) else if ¬ (13 + x3 < 0 ∨ 19 ≤ (13 + x3).toNatClampNeg) then if (6 * (σ 17 ((13 + x3).toNatClampNeg))) ≤ x1 then f7_inPlan_b4 σ n x1 0 (x3 + 1) else f7_inPlan_b4 σ n x1 1 (x3 + 1) else none else none else f7_inPlan_b4 σ n x1 1 (x3 + 1)
set_option maxHeartbeats 4000000 in
set_option maxRecDepth 100000 in
theorem t7_inPlan_b4 {p : Program} {l : Launch} {e : Env} {s : State} {m : MethodId} {args : Array Value} {below : List Frame} {meth : Method} {c : Code} {w : WV} {σ : Mem} {r : Int32} (S : CallFix p m c cX7_inPlan 4 s args gtbl RX7) (hr : meth.sig.returnType = (some .boolean)) (hlk : meth.locks = false) (hK : KS LM w s) (hR : Rp EM LM w σ s.heap) : ∀ (n : Nat), ∀ (x1 : Int32) (x2 : Int32) (x3 : Int32), f7_inPlan_b4 σ n x1 x2 x3 = some r → ∀ (ls : Array Slot), lv_has ls 4 [(0, .ref (w.2.2 0)), (1, .int x1), (2, .int x2), (3, .int x3)] → W p l e rm7_inPlan s m args below meth c s.heap [] 0 0 (MQ below (Qp (.int r)) args s 0 0 (fun _ => False)) (F0 m 4 ls []) := by
  obtain ⟨hx, hb, hml, hown, hts⟩ := id S
  intro n
  induction n with
  | zero =>
    intro x1 x2 x3 h0
    cases (show none = _ from h0)
  | succ n ih =>
    intro x1 x2 x3 h0 ls hl
    rw [f7_inPlan_b4] at h0
    refine lv_iload_n hx hb d7_inPlan_4 rfl (lv_at hl 3 rfl) ?_
    refine lv_aload_n hx hb d7_inPlan_5 rfl (lv_at hl 0 rfl) ?_
    refine g7_55 S hK hR d7_inPlan_6 ?_
    refine lv_bipush (v := 6) hx hb d7_inPlan_9 (by decide) ?_
    refine q_ld (k := 6) S hK hR (by decide) (eM_116 w _) (vin (by decide)) (by decide) d7_inPlan_11 ?_
    refine lv_icmp_ge (tgt := 63) hx hb d7_inPlan_12 (by decide) (fun hc1 => ?_) (fun hc1 => ?_)
    · have h0 := og_t hc1 h0
      refine lv_iload_n hx hb d7_inPlan_63 rfl (lv_at hl 2 rfl) ?_
      obtain ⟨hb0, h0⟩ := og_if h0
      exact q_zpure S hr hlk hb0 h0 d7_inPlan_64
    · have h0 := og_f hc1 h0
      refine lv_iload_n hx hb d7_inPlan_15 rfl (lv_at hl 2 rfl) ?_
      refine lv_if_ne (tgt := 51) hx hb d7_inPlan_16 (by decide) (fun hc2 => ?_) (fun hc2 => ?_)
      · have h0 := og_f hc2 h0
        refine lv_iconst (v := 1) hx hb d7_inPlan_51 (by decide) ?_
        refine lv_goto (tgt := 56) hx hb d7_inPlan_52 (by decide) ?_
        refine lv_istore_n (lv' := [(2, .int 1), (0, .ref (w.2.2 0)), (1, .int x1), (3, .int x3)]) hx hb d7_inPlan_56 rfl hl (by decide) rfl (fun ls hl => ?_)
        refine lv_iinc (v := x3 + 1) (lv' := [(3, .int (x3 + 1)), (2, .int 1), (0, .ref (w.2.2 0)), (1, .int x1)]) hx hb d7_inPlan_57 hl (k := 3) rfl (ii1 _) (by decide) rfl (fun ls hl => ?_)
        refine lv_goto (tgt := 4) hx hb d7_inPlan_60 (by decide) ?_
        exact ih x1 1 (x3 + 1) h0 _ (lv_sub hl [2, 3, 1, 0] rfl)
      · have h0 := og_t hc2 h0
        refine lv_iload_n hx hb d7_inPlan_19 rfl (lv_at hl 1 rfl) ?_
        refine lv_bipush (v := 6) hx hb d7_inPlan_20 (by decide) ?_
        refine lv_aload_n hx hb d7_inPlan_22 rfl (lv_at hl 0 rfl) ?_
        refine g7_55 S hK hR d7_inPlan_23 ?_
        refine lv_bipush (v := 7) hx hb d7_inPlan_26 (by decide) ?_
        refine lv_iload_n hx hb d7_inPlan_28 rfl (lv_at hl 3 rfl) ?_
        refine lv_iadd hx hb d7_inPlan_29 ?_
        obtain ⟨hi3, h0⟩ := og_if h0
        refine q_ld (k := ((7 + x3).toNatClampNeg)) S hK hR (by decide) (eM_116 w _) hi3 rfl d7_inPlan_30 ?_
        refine lv_imul hx hb d7_inPlan_31 ?_
        refine lv_icmp_lt (tgt := 55) hx hb d7_inPlan_32 (by decide) (fun hc4 => ?_) (fun hc4 => ?_)
        · have h0 := og_t hc4 h0
          refine lv_iconst (v := 0) hx hb d7_inPlan_55 (by decide) ?_
          refine lv_istore_n (lv' := [(2, .int 0), (0, .ref (w.2.2 0)), (1, .int x1), (3, .int x3)]) hx hb d7_inPlan_56 rfl hl (by decide) rfl (fun ls hl => ?_)
          refine lv_iinc (v := x3 + 1) (lv' := [(3, .int (x3 + 1)), (2, .int 0), (0, .ref (w.2.2 0)), (1, .int x1)]) hx hb d7_inPlan_57 hl (k := 3) rfl (ii1 _) (by decide) rfl (fun ls hl => ?_)
          refine lv_goto (tgt := 4) hx hb d7_inPlan_60 (by decide) ?_
          exact ih x1 0 (x3 + 1) h0 _ (lv_sub hl [2, 3, 1, 0] rfl)
        · have h0 := og_f hc4 h0
          refine lv_iload_n hx hb d7_inPlan_35 rfl (lv_at hl 1 rfl) ?_
          refine lv_bipush (v := 6) hx hb d7_inPlan_36 (by decide) ?_
          refine lv_aload_n hx hb d7_inPlan_38 rfl (lv_at hl 0 rfl) ?_
          refine g7_55 S hK hR d7_inPlan_39 ?_
          refine lv_bipush (v := 13) hx hb d7_inPlan_42 (by decide) ?_
          refine lv_iload_n hx hb d7_inPlan_44 rfl (lv_at hl 3 rfl) ?_
          refine lv_iadd hx hb d7_inPlan_45 ?_
          obtain ⟨hi5, h0⟩ := og_if h0
          refine q_ld (k := ((13 + x3).toNatClampNeg)) S hK hR (by decide) (eM_116 w _) hi5 rfl d7_inPlan_46 ?_
          refine lv_imul hx hb d7_inPlan_47 ?_
          refine lv_icmp_ge (tgt := 55) hx hb d7_inPlan_48 (by decide) (fun hc6 => ?_) (fun hc6 => ?_)
          · have h0 := og_t hc6 h0
            refine lv_iconst (v := 0) hx hb d7_inPlan_55 (by decide) ?_
            refine lv_istore_n (lv' := [(2, .int 0), (0, .ref (w.2.2 0)), (1, .int x1), (3, .int x3)]) hx hb d7_inPlan_56 rfl hl (by decide) rfl (fun ls hl => ?_)
            refine lv_iinc (v := x3 + 1) (lv' := [(3, .int (x3 + 1)), (2, .int 0), (0, .ref (w.2.2 0)), (1, .int x1)]) hx hb d7_inPlan_57 hl (k := 3) rfl (ii1 _) (by decide) rfl (fun ls hl => ?_)
            refine lv_goto (tgt := 4) hx hb d7_inPlan_60 (by decide) ?_
            exact ih x1 0 (x3 + 1) h0 _ (lv_sub hl [2, 3, 1, 0] rfl)
          · have h0 := og_f hc6 h0
            refine lv_iconst (v := 1) hx hb d7_inPlan_51 (by decide) ?_
            refine lv_goto (tgt := 56) hx hb d7_inPlan_52 (by decide) ?_
            refine lv_istore_n (lv' := [(2, .int 1), (0, .ref (w.2.2 0)), (1, .int x1), (3, .int x3)]) hx hb d7_inPlan_56 rfl hl (by decide) rfl (fun ls hl => ?_)
            refine lv_iinc (v := x3 + 1) (lv' := [(3, .int (x3 + 1)), (2, .int 1), (0, .ref (w.2.2 0)), (1, .int x1)]) hx hb d7_inPlan_57 hl (k := 3) rfl (ii1 _) (by decide) rfl (fun ls hl => ?_)
            refine lv_goto (tgt := 4) hx hb d7_inPlan_60 (by decide) ?_
            exact ih x1 1 (x3 + 1) h0 _ (lv_sub hl [2, 3, 1, 0] rfl)
def f7_inPlan (σ : Mem) (x1 : Int32) : Option Int32 := f7_inPlan_b4 σ 1000 x1 0 0
set_option maxHeartbeats 4000000 in
set_option maxRecDepth 100000 in
theorem c7_inPlan (l : Launch) {w : WV} {σ : Mem} {x1 : Int32} {r : Int32} (h0 : f7_inPlan σ x1 = some r) : Met l yX7_inPlan (wy yX7_inPlan cX7_inPlan 4 (some .boolean)) rm7_inPlan (Pw EM LM w [.ref (w.2.2 0), .int x1] σ) (Qp (.int r)) 0 0 (fun _ => False) := by
  refine mk_met (by decide) (Nat.le_of_ble_eq_true rfl) ?_
  intro p e s m below meth c S hr hlk hK hR ls hl
  obtain ⟨hx, hb, hml, hown, hts⟩ := id S
  have hl : lv_has ls 4 [(0, .ref (w.2.2 0)), (1, .int x1)] := hl
  unfold f7_inPlan at h0
  refine lv_iconst (v := 0) hx hb d7_inPlan_0 (by decide) ?_
  refine lv_istore_n (lv' := [(2, .int 0), (0, .ref (w.2.2 0)), (1, .int x1)]) hx hb d7_inPlan_1 rfl hl (by decide) rfl (fun ls hl => ?_)
  refine lv_iconst (v := 0) hx hb d7_inPlan_2 (by decide) ?_
  refine lv_istore_n (lv' := [(3, .int 0), (2, .int 0), (0, .ref (w.2.2 0)), (1, .int x1)]) hx hb d7_inPlan_3 rfl hl (by decide) rfl (fun ls hl => ?_)
  exact t7_inPlan_b4 S hr hlk hK hR 1000 x1 0 0 h0 _ (lv_sub hl [2, 3, 1, 0] rfl)
set_option maxHeartbeats 4000000 in
set_option maxRecDepth 100000 in
theorem k7_202 {p : Program} {l : Launch} {e : Env} {R : Room} {s : State} {m : MethodId} {args : Array Value} {below : List Frame} {meth : Method} {c : Code} {H : Heap} {locs : List Loc} {cells slots : Nat} {Q : State → Prop} {cc : ByteArray} {pc nL : Nat} {ls : Array Slot} {rest : List Value} {w : WV} {σ : Mem} {x1 : Int32} {r : Int32} (S : CallFix p m c cc nL s args gtbl RX7) (hK : KS LM w s) (hR : Rp EM LM w σ H) (h0 : f7_inPlan σ x1 = some r) (hf : cells + 0 ≤ R.cells ∧ slots + 0 ≤ R.slots) (hRm : rm7_inPlan.frames + 1 ≤ R.frames ∧ 8 + (4 + 11) + rm7_inPlan.locals ≤ R.locals) (hl : ls.size = nL) (hW : (rest.map fun v => v.category).sum ≤ 8) (hdg : decode cc pc = .ok (.invokevirtual 202, 3)) (kk : W p l e R s m args below meth c H locs cells slots Q (F0 m (pc + 3) ls (.int r :: rest))) : W p l e R s m args below meth c H locs cells slots Q (F0 m pc ls (.int x1 :: .ref (w.2.2 0) :: rest)) := r_endp (run_V (n := 1) (As := [.int x1]) S hK hR (by decide) (eM_7 w _) rfl (gw_V (gt_at 1127 (by decide +kernel) (by decide +kernel)) (gt_at 1129 (by decide +kernel) (by decide +kernel)) (gt_at 58 (by decide +kernel) (by decide +kernel)) (gt_at 86 (by decide +kernel) (by decide +kernel)) (gt_at 1130 (by decide +kernel) (by decide +kernel))) (by decide +kernel) rfl (c7_inPlan l h0) ⟨rfl, rfl⟩ hRm hf hl rfl hW hdg) kk
/-! FourTenGatesModel.inBell(I)Z -/
abbrev rm7_inBell : Room := { frames := 2, cells := 0, slots := 0, locals := 44 }
theorem d7_inBell_0 : decode cX7_inBell 0 = .ok (.iconst 0, 1) := by decide +kernel
theorem d7_inBell_1 : decode cX7_inBell 1 = .ok (.istore_n 2, 1) := by decide +kernel
theorem d7_inBell_2 : decode cX7_inBell 2 = .ok (.iconst 0, 1) := by decide +kernel
theorem d7_inBell_3 : decode cX7_inBell 3 = .ok (.istore_n 3, 1) := by decide +kernel
theorem d7_inBell_4 : decode cX7_inBell 4 = .ok (.iload_n 3, 1) := by decide +kernel
theorem d7_inBell_5 : decode cX7_inBell 5 = .ok (.aload_n 0, 1) := by decide +kernel
theorem d7_inBell_6 : decode cX7_inBell 6 = .ok (.getfield 13, 3) := by decide +kernel
theorem d7_inBell_9 : decode cX7_inBell 9 = .ok (.iconst 0, 1) := by decide +kernel
theorem d7_inBell_10 : decode cX7_inBell 10 = .ok (.iaload, 1) := by decide +kernel
theorem d7_inBell_11 : decode cX7_inBell 11 = .ok (.if_icmp .ge 37, 3) := by decide +kernel
theorem d7_inBell_14 : decode cX7_inBell 14 = .ok (.iload_n 2, 1) := by decide +kernel
theorem d7_inBell_15 : decode cX7_inBell 15 = .ok (.ifCond .ne 21, 3) := by decide +kernel
theorem d7_inBell_18 : decode cX7_inBell 18 = .ok (.aload_n 0, 1) := by decide +kernel
theorem d7_inBell_19 : decode cX7_inBell 19 = .ok (.iload_n 3, 1) := by decide +kernel
theorem d7_inBell_20 : decode cX7_inBell 20 = .ok (.invokevirtual 176, 3) := by decide +kernel
theorem d7_inBell_23 : decode cX7_inBell 23 = .ok (.iload_n 1, 1) := by decide +kernel
theorem d7_inBell_24 : decode cX7_inBell 24 = .ok (.if_icmp .gt 16, 3) := by decide +kernel
theorem d7_inBell_27 : decode cX7_inBell 27 = .ok (.aload_n 0, 1) := by decide +kernel
theorem d7_inBell_28 : decode cX7_inBell 28 = .ok (.iload_n 3, 1) := by decide +kernel
theorem d7_inBell_29 : decode cX7_inBell 29 = .ok (.iload_n 1, 1) := by decide +kernel
theorem d7_inBell_30 : decode cX7_inBell 30 = .ok (.invokevirtual 195, 3) := by decide +kernel
theorem d7_inBell_33 : decode cX7_inBell 33 = .ok (.ifCond .ne 7, 3) := by decide +kernel
theorem d7_inBell_36 : decode cX7_inBell 36 = .ok (.iconst 1, 1) := by decide +kernel
theorem d7_inBell_37 : decode cX7_inBell 37 = .ok (.goto 4, 3) := by decide +kernel
theorem d7_inBell_40 : decode cX7_inBell 40 = .ok (.iconst 0, 1) := by decide +kernel
theorem d7_inBell_41 : decode cX7_inBell 41 = .ok (.istore_n 2, 1) := by decide +kernel
theorem d7_inBell_42 : decode cX7_inBell 42 = .ok (.iinc 3 1, 3) := by decide +kernel
theorem d7_inBell_45 : decode cX7_inBell 45 = .ok (.goto (-41), 3) := by decide +kernel
theorem d7_inBell_48 : decode cX7_inBell 48 = .ok (.iload_n 2, 1) := by decide +kernel
theorem d7_inBell_49 : decode cX7_inBell 49 = .ok (.ireturn, 1) := by decide +kernel
def f7_inBell_b4 (σ : Mem) : Nat → Int32 → Int32 → Int32 → Option Int32
  | 0, _, _, _ => none
  | n + 1, x1, x2, x3 => if (σ 3 0) ≤ x3 then if x2 = 0 ∨ x2 = 1 then some x2 else none else if x2 = 0 then Option.bind (f7_bellOf σ x3) fun r3 => if x1 < r3 then f7_inBell_b4 σ n x1 0 (x3 + 1) else Option.bind (f7_hasPassed σ x3 x1) fun r5 => if r5 = 0 then f7_inBell_b4 σ n x1 1 (x3 + 1) else f7_inBell_b4 σ n x1 0 (x3 + 1) else f7_inBell_b4 σ n x1 1 (x3 + 1)
set_option maxHeartbeats 4000000 in
set_option maxRecDepth 100000 in
theorem t7_inBell_b4 {p : Program} {l : Launch} {e : Env} {s : State} {m : MethodId} {args : Array Value} {below : List Frame} {meth : Method} {c : Code} {w : WV} {σ : Mem} {r : Int32} (S : CallFix p m c cX7_inBell 4 s args gtbl RX7) (hr : meth.sig.returnType = (some .boolean)) (hlk : meth.locks = false) (hK : KS LM w s) (hR : Rp EM LM w σ s.heap) : ∀ (n : Nat), ∀ (x1 : Int32) (x2 : Int32) (x3 : Int32), f7_inBell_b4 σ n x1 x2 x3 = some r → ∀ (ls : Array Slot), lv_has ls 4 [(0, .ref (w.2.2 0)), (1, .int x1), (2, .int x2), (3, .int x3)] → W p l e rm7_inBell s m args below meth c s.heap [] 0 0 (MQ below (Qp (.int r)) args s 0 0 (fun _ => False)) (F0 m 4 ls []) := by
  obtain ⟨hx, hb, hml, hown, hts⟩ := id S
  intro n
  induction n with
  | zero =>
    intro x1 x2 x3 h0
    cases (show none = _ from h0)
  | succ n ih =>
    intro x1 x2 x3 h0 ls hl
    rw [f7_inBell_b4] at h0
    refine lv_iload_n hx hb d7_inBell_4 rfl (lv_at hl 3 rfl) ?_
    refine lv_aload_n hx hb d7_inBell_5 rfl (lv_at hl 0 rfl) ?_
    refine g7_13 S hK hR d7_inBell_6 ?_
    refine lv_iconst (v := 0) hx hb d7_inBell_9 (by decide) ?_
    refine q_ld (k := 0) S hK hR (by decide) (eM_102 w _) (vin (by decide)) (by decide) d7_inBell_10 ?_
    refine lv_icmp_ge (tgt := 48) hx hb d7_inBell_11 (by decide) (fun hc1 => ?_) (fun hc1 => ?_)
    · have h0 := og_t hc1 h0
      refine lv_iload_n hx hb d7_inBell_48 rfl (lv_at hl 2 rfl) ?_
      obtain ⟨hb0, h0⟩ := og_if h0
      exact q_zpure S hr hlk hb0 h0 d7_inBell_49
    · have h0 := og_f hc1 h0
      refine lv_iload_n hx hb d7_inBell_14 rfl (lv_at hl 2 rfl) ?_
      refine lv_if_ne (tgt := 36) hx hb d7_inBell_15 (by decide) (fun hc2 => ?_) (fun hc2 => ?_)
      · have h0 := og_f hc2 h0
        refine lv_iconst (v := 1) hx hb d7_inBell_36 (by decide) ?_
        refine lv_goto (tgt := 41) hx hb d7_inBell_37 (by decide) ?_
        refine lv_istore_n (lv' := [(2, .int 1), (0, .ref (w.2.2 0)), (1, .int x1), (3, .int x3)]) hx hb d7_inBell_41 rfl hl (by decide) rfl (fun ls hl => ?_)
        refine lv_iinc (v := x3 + 1) (lv' := [(3, .int (x3 + 1)), (2, .int 1), (0, .ref (w.2.2 0)), (1, .int x1)]) hx hb d7_inBell_42 hl (k := 3) rfl (ii1 _) (by decide) rfl (fun ls hl => ?_)
        refine lv_goto (tgt := 4) hx hb d7_inBell_45 (by decide) ?_
        exact ih x1 1 (x3 + 1) h0 _ (lv_sub hl [2, 3, 1, 0] rfl)
      · have h0 := og_t hc2 h0
        refine lv_aload_n hx hb d7_inBell_18 rfl (lv_at hl 0 rfl) ?_
        refine lv_iload_n hx hb d7_inBell_19 rfl (lv_at hl 3 rfl) ?_
        obtain ⟨r3, hr3, h0⟩ := og_b h0
        refine k7_176 S hK hR  hr3 ⟨Nat.zero_le _, Nat.zero_le _⟩ ⟨Nat.le_of_ble_eq_true rfl, Nat.le_of_ble_eq_true rfl⟩ hl.1 (Nat.le_of_ble_eq_true rfl) d7_inBell_20 ?_
        refine lv_iload_n hx hb d7_inBell_23 rfl (lv_at hl 1 rfl) ?_
        refine lv_icmp_gt (tgt := 40) hx hb d7_inBell_24 (by decide) (fun hc4 => ?_) (fun hc4 => ?_)
        · have h0 := og_t hc4 h0
          refine lv_iconst (v := 0) hx hb d7_inBell_40 (by decide) ?_
          refine lv_istore_n (lv' := [(2, .int 0), (0, .ref (w.2.2 0)), (1, .int x1), (3, .int x3)]) hx hb d7_inBell_41 rfl hl (by decide) rfl (fun ls hl => ?_)
          refine lv_iinc (v := x3 + 1) (lv' := [(3, .int (x3 + 1)), (2, .int 0), (0, .ref (w.2.2 0)), (1, .int x1)]) hx hb d7_inBell_42 hl (k := 3) rfl (ii1 _) (by decide) rfl (fun ls hl => ?_)
          refine lv_goto (tgt := 4) hx hb d7_inBell_45 (by decide) ?_
          exact ih x1 0 (x3 + 1) h0 _ (lv_sub hl [2, 3, 1, 0] rfl)
        · have h0 := og_f hc4 h0
          refine lv_aload_n hx hb d7_inBell_27 rfl (lv_at hl 0 rfl) ?_
          refine lv_iload_n hx hb d7_inBell_28 rfl (lv_at hl 3 rfl) ?_
          refine lv_iload_n hx hb d7_inBell_29 rfl (lv_at hl 1 rfl) ?_
          obtain ⟨r5, hr5, h0⟩ := og_b h0
          refine k7_195 S hK hR  hr5 ⟨Nat.zero_le _, Nat.zero_le _⟩ ⟨Nat.le_of_ble_eq_true rfl, Nat.le_of_ble_eq_true rfl⟩ hl.1 (Nat.le_of_ble_eq_true rfl) d7_inBell_30 ?_
          refine lv_if_ne (tgt := 40) hx hb d7_inBell_33 (by decide) (fun hc6 => ?_) (fun hc6 => ?_)
          · have h0 := og_f hc6 h0
            refine lv_iconst (v := 0) hx hb d7_inBell_40 (by decide) ?_
            refine lv_istore_n (lv' := [(2, .int 0), (0, .ref (w.2.2 0)), (1, .int x1), (3, .int x3)]) hx hb d7_inBell_41 rfl hl (by decide) rfl (fun ls hl => ?_)
            refine lv_iinc (v := x3 + 1) (lv' := [(3, .int (x3 + 1)), (2, .int 0), (0, .ref (w.2.2 0)), (1, .int x1)]) hx hb d7_inBell_42 hl (k := 3) rfl (ii1 _) (by decide) rfl (fun ls hl => ?_)
            refine lv_goto (tgt := 4) hx hb d7_inBell_45 (by decide) ?_
            exact ih x1 0 (x3 + 1) h0 _ (lv_sub hl [2, 3, 1, 0] rfl)
          · have h0 := og_t hc6 h0
            refine lv_iconst (v := 1) hx hb d7_inBell_36 (by decide) ?_
            refine lv_goto (tgt := 41) hx hb d7_inBell_37 (by decide) ?_
            refine lv_istore_n (lv' := [(2, .int 1), (0, .ref (w.2.2 0)), (1, .int x1), (3, .int x3)]) hx hb d7_inBell_41 rfl hl (by decide) rfl (fun ls hl => ?_)
            refine lv_iinc (v := x3 + 1) (lv' := [(3, .int (x3 + 1)), (2, .int 1), (0, .ref (w.2.2 0)), (1, .int x1)]) hx hb d7_inBell_42 hl (k := 3) rfl (ii1 _) (by decide) rfl (fun ls hl => ?_)
            refine lv_goto (tgt := 4) hx hb d7_inBell_45 (by decide) ?_
            exact ih x1 1 (x3 + 1) h0 _ (lv_sub hl [2, 3, 1, 0] rfl)
def f7_inBell (σ : Mem) (x1 : Int32) : Option Int32 := f7_inBell_b4 σ 1000 x1 0 0
set_option maxHeartbeats 4000000 in
set_option maxRecDepth 100000 in
theorem c7_inBell (l : Launch) {w : WV} {σ : Mem} {x1 : Int32} {r : Int32} (h0 : f7_inBell σ x1 = some r) : Met l yX7_inBell (wy yX7_inBell cX7_inBell 4 (some .boolean)) rm7_inBell (Pw EM LM w [.ref (w.2.2 0), .int x1] σ) (Qp (.int r)) 0 0 (fun _ => False) := by
  refine mk_met (by decide) (Nat.le_of_ble_eq_true rfl) ?_
  intro p e s m below meth c S hr hlk hK hR ls hl
  obtain ⟨hx, hb, hml, hown, hts⟩ := id S
  have hl : lv_has ls 4 [(0, .ref (w.2.2 0)), (1, .int x1)] := hl
  unfold f7_inBell at h0
  refine lv_iconst (v := 0) hx hb d7_inBell_0 (by decide) ?_
  refine lv_istore_n (lv' := [(2, .int 0), (0, .ref (w.2.2 0)), (1, .int x1)]) hx hb d7_inBell_1 rfl hl (by decide) rfl (fun ls hl => ?_)
  refine lv_iconst (v := 0) hx hb d7_inBell_2 (by decide) ?_
  refine lv_istore_n (lv' := [(3, .int 0), (2, .int 0), (0, .ref (w.2.2 0)), (1, .int x1)]) hx hb d7_inBell_3 rfl hl (by decide) rfl (fun ls hl => ?_)
  exact t7_inBell_b4 S hr hlk hK hR 1000 x1 0 0 h0 _ (lv_sub hl [2, 3, 1, 0] rfl)
set_option maxHeartbeats 4000000 in
set_option maxRecDepth 100000 in
theorem k7_205 {p : Program} {l : Launch} {e : Env} {R : Room} {s : State} {m : MethodId} {args : Array Value} {below : List Frame} {meth : Method} {c : Code} {H : Heap} {locs : List Loc} {cells slots : Nat} {Q : State → Prop} {cc : ByteArray} {pc nL : Nat} {ls : Array Slot} {rest : List Value} {w : WV} {σ : Mem} {x1 : Int32} {r : Int32} (S : CallFix p m c cc nL s args gtbl RX7) (hK : KS LM w s) (hR : Rp EM LM w σ H) (h0 : f7_inBell σ x1 = some r) (hf : cells + 0 ≤ R.cells ∧ slots + 0 ≤ R.slots) (hRm : rm7_inBell.frames + 1 ≤ R.frames ∧ 8 + (4 + 11) + rm7_inBell.locals ≤ R.locals) (hl : ls.size = nL) (hW : (rest.map fun v => v.category).sum ≤ 8) (hdg : decode cc pc = .ok (.invokevirtual 205, 3)) (kk : W p l e R s m args below meth c H locs cells slots Q (F0 m (pc + 3) ls (.int r :: rest))) : W p l e R s m args below meth c H locs cells slots Q (F0 m pc ls (.int x1 :: .ref (w.2.2 0) :: rest)) := r_endp (run_V (n := 1) (As := [.int x1]) S hK hR (by decide) (eM_7 w _) rfl (gw_V (gt_at 1131 (by decide +kernel) (by decide +kernel)) (gt_at 1133 (by decide +kernel) (by decide +kernel)) (gt_at 59 (by decide +kernel) (by decide +kernel)) (gt_at 86 (by decide +kernel) (by decide +kernel)) (gt_at 1134 (by decide +kernel) (by decide +kernel))) (by decide +kernel) rfl (c7_inBell l h0) ⟨rfl, rfl⟩ hRm hf hl rfl hW hdg) kk
/-! FourTenGatesModel.inSight(I)Z -/
abbrev rm7_inSight : Room := { frames := 1, cells := 0, slots := 0, locals := 23 }
theorem d7_inSight_0 : decode cX7_inSight 0 = .ok (.aload_n 0, 1) := by decide +kernel
theorem d7_inSight_1 : decode cX7_inSight 1 = .ok (.iload_n 1, 1) := by decide +kernel
theorem d7_inSight_2 : decode cX7_inSight 2 = .ok (.invokevirtual 199, 3) := by decide +kernel
theorem d7_inSight_5 : decode cX7_inSight 5 = .ok (.ifCond .ne 10, 3) := by decide +kernel
theorem d7_inSight_8 : decode cX7_inSight 8 = .ok (.aload_n 0, 1) := by decide +kernel
theorem d7_inSight_9 : decode cX7_inSight 9 = .ok (.getfield 188, 3) := by decide +kernel
theorem d7_inSight_12 : decode cX7_inSight 12 = .ok (.ifCond .eq 7, 3) := by decide +kernel
theorem d7_inSight_15 : decode cX7_inSight 15 = .ok (.iconst 1, 1) := by decide +kernel
theorem d7_inSight_16 : decode cX7_inSight 16 = .ok (.goto 4, 3) := by decide +kernel
theorem d7_inSight_19 : decode cX7_inSight 19 = .ok (.iconst 0, 1) := by decide +kernel
theorem d7_inSight_20 : decode cX7_inSight 20 = .ok (.ireturn, 1) := by decide +kernel
def f7_inSight (σ : Mem) (x1 : Int32) : Option Int32 := Option.bind (f7_isPassing σ x1) fun r1 => if r1 = 0 then if (σ 0 35) = 0 then some 0 else some 1 else some 1
set_option maxHeartbeats 4000000 in
set_option maxRecDepth 100000 in
theorem c7_inSight (l : Launch) {w : WV} {σ : Mem} {x1 : Int32} {r : Int32} (h0 : f7_inSight σ x1 = some r) : Met l yX7_inSight (wy yX7_inSight cX7_inSight 2 (some .boolean)) rm7_inSight (Pw EM LM w [.ref (w.2.2 0), .int x1] σ) (Qp (.int r)) 0 0 (fun _ => False) := by
  refine mk_met (by decide) (Nat.le_of_ble_eq_true rfl) ?_
  intro p e s m below meth c S hr hlk hK hR ls hl
  obtain ⟨hx, hb, hml, hown, hts⟩ := id S
  have hl : lv_has ls 2 [(0, .ref (w.2.2 0)), (1, .int x1)] := hl
  unfold f7_inSight at h0
  refine lv_aload_n hx hb d7_inSight_0 rfl (lv_at hl 0 rfl) ?_
  refine lv_iload_n hx hb d7_inSight_1 rfl (lv_at hl 1 rfl) ?_
  obtain ⟨r1, hr1, h0⟩ := og_b h0
  refine k7_199 S hK hR  hr1 ⟨Nat.zero_le _, Nat.zero_le _⟩ ⟨Nat.le_of_ble_eq_true rfl, Nat.le_of_ble_eq_true rfl⟩ hl.1 (Nat.le_of_ble_eq_true rfl) d7_inSight_2 ?_
  refine lv_if_ne (tgt := 15) hx hb d7_inSight_5 (by decide) (fun hc2 => ?_) (fun hc2 => ?_)
  · have h0 := og_f hc2 h0
    refine lv_iconst (v := 1) hx hb d7_inSight_15 (by decide) ?_
    refine lv_goto (tgt := 20) hx hb d7_inSight_16 (by decide) ?_
    exact q_zpure S hr hlk (Or.inr rfl) h0 d7_inSight_20
  · have h0 := og_t hc2 h0
    refine lv_aload_n hx hb d7_inSight_8 rfl (lv_at hl 0 rfl) ?_
    refine g7_188 S hK hR d7_inSight_9 ?_
    refine lv_if_eq (tgt := 19) hx hb d7_inSight_12 (by decide) (fun hc3 => ?_) (fun hc3 => ?_)
    · have h0 := og_t hc3 h0
      refine lv_iconst (v := 0) hx hb d7_inSight_19 (by decide) ?_
      exact q_zpure S hr hlk (Or.inl rfl) h0 d7_inSight_20
    · have h0 := og_f hc3 h0
      refine lv_iconst (v := 1) hx hb d7_inSight_15 (by decide) ?_
      refine lv_goto (tgt := 20) hx hb d7_inSight_16 (by decide) ?_
      exact q_zpure S hr hlk (Or.inr rfl) h0 d7_inSight_20
set_option maxHeartbeats 4000000 in
set_option maxRecDepth 100000 in
theorem k7_208 {p : Program} {l : Launch} {e : Env} {R : Room} {s : State} {m : MethodId} {args : Array Value} {below : List Frame} {meth : Method} {c : Code} {H : Heap} {locs : List Loc} {cells slots : Nat} {Q : State → Prop} {cc : ByteArray} {pc nL : Nat} {ls : Array Slot} {rest : List Value} {w : WV} {σ : Mem} {x1 : Int32} {r : Int32} (S : CallFix p m c cc nL s args gtbl RX7) (hK : KS LM w s) (hR : Rp EM LM w σ H) (h0 : f7_inSight σ x1 = some r) (hf : cells + 0 ≤ R.cells ∧ slots + 0 ≤ R.slots) (hRm : rm7_inSight.frames + 1 ≤ R.frames ∧ 8 + (2 + 11) + rm7_inSight.locals ≤ R.locals) (hl : ls.size = nL) (hW : (rest.map fun v => v.category).sum ≤ 8) (hdg : decode cc pc = .ok (.invokevirtual 208, 3)) (kk : W p l e R s m args below meth c H locs cells slots Q (F0 m (pc + 3) ls (.int r :: rest))) : W p l e R s m args below meth c H locs cells slots Q (F0 m pc ls (.int x1 :: .ref (w.2.2 0) :: rest)) := r_endp (run_V (n := 1) (As := [.int x1]) S hK hR (by decide) (eM_7 w _) rfl (gw_V (gt_at 1139 (by decide +kernel) (by decide +kernel)) (gt_at 1141 (by decide +kernel) (by decide +kernel)) (gt_at 61 (by decide +kernel) (by decide +kernel)) (gt_at 86 (by decide +kernel) (by decide +kernel)) (gt_at 1142 (by decide +kernel) (by decide +kernel))) (by decide +kernel) rfl (c7_inSight l h0) ⟨rfl, rfl⟩ hRm hf hl rfl hW hdg) kk
/-! FourTenGatesModel.inWait(I)Z -/
abbrev rm7_inWait : Room := { frames := 1, cells := 0, slots := 0, locals := 25 }
theorem d7_inWait_0 : decode cX7_inWait 0 = .ok (.iconst 0, 1) := by decide +kernel
theorem d7_inWait_1 : decode cX7_inWait 1 = .ok (.istore_n 2, 1) := by decide +kernel
theorem d7_inWait_2 : decode cX7_inWait 2 = .ok (.iconst 0, 1) := by decide +kernel
theorem d7_inWait_3 : decode cX7_inWait 3 = .ok (.istore_n 3, 1) := by decide +kernel
theorem d7_inWait_4 : decode cX7_inWait 4 = .ok (.iload_n 3, 1) := by decide +kernel
theorem d7_inWait_5 : decode cX7_inWait 5 = .ok (.aload_n 0, 1) := by decide +kernel
theorem d7_inWait_6 : decode cX7_inWait 6 = .ok (.getfield 13, 3) := by decide +kernel
theorem d7_inWait_9 : decode cX7_inWait 9 = .ok (.iconst 0, 1) := by decide +kernel
theorem d7_inWait_10 : decode cX7_inWait 10 = .ok (.iaload, 1) := by decide +kernel
theorem d7_inWait_11 : decode cX7_inWait 11 = .ok (.if_icmp .ge 61, 3) := by decide +kernel
theorem d7_inWait_14 : decode cX7_inWait 14 = .ok (.iload_n 2, 1) := by decide +kernel
theorem d7_inWait_15 : decode cX7_inWait 15 = .ok (.ifCond .ne 45, 3) := by decide +kernel
theorem d7_inWait_18 : decode cX7_inWait 18 = .ok (.aload_n 0, 1) := by decide +kernel
theorem d7_inWait_19 : decode cX7_inWait 19 = .ok (.getfield 19, 3) := by decide +kernel
theorem d7_inWait_22 : decode cX7_inWait 22 = .ok (.iload_n 3, 1) := by decide +kernel
theorem d7_inWait_23 : decode cX7_inWait 23 = .ok (.iaload, 1) := by decide +kernel
theorem d7_inWait_24 : decode cX7_inWait 24 = .ok (.iconst 2, 1) := by decide +kernel
theorem d7_inWait_25 : decode cX7_inWait 25 = .ok (.if_icmp .eq 39, 3) := by decide +kernel
theorem d7_inWait_28 : decode cX7_inWait 28 = .ok (.aload_n 0, 1) := by decide +kernel
theorem d7_inWait_29 : decode cX7_inWait 29 = .ok (.iload_n 3, 1) := by decide +kernel
theorem d7_inWait_30 : decode cX7_inWait 30 = .ok (.iload_n 1, 1) := by decide +kernel
theorem d7_inWait_31 : decode cX7_inWait 31 = .ok (.invokevirtual 195, 3) := by decide +kernel
theorem d7_inWait_34 : decode cX7_inWait 34 = .ok (.ifCond .ne 30, 3) := by decide +kernel
theorem d7_inWait_37 : decode cX7_inWait 37 = .ok (.bipush 6, 2) := by decide +kernel
theorem d7_inWait_39 : decode cX7_inWait 39 = .ok (.aload_n 0, 1) := by decide +kernel
theorem d7_inWait_40 : decode cX7_inWait 40 = .ok (.getfield 16, 3) := by decide +kernel
theorem d7_inWait_43 : decode cX7_inWait 43 = .ok (.iload_n 3, 1) := by decide +kernel
theorem d7_inWait_44 : decode cX7_inWait 44 = .ok (.iaload, 1) := by decide +kernel
theorem d7_inWait_45 : decode cX7_inWait 45 = .ok (.imul, 1) := by decide +kernel
theorem d7_inWait_46 : decode cX7_inWait 46 = .ok (.i2l, 1) := by decide +kernel
theorem d7_inWait_47 : decode cX7_inWait 47 = .ok (.iload_n 1, 1) := by decide +kernel
theorem d7_inWait_48 : decode cX7_inWait 48 = .ok (.i2l, 1) := by decide +kernel
theorem d7_inWait_49 : decode cX7_inWait 49 = .ok (.iload_n 1, 1) := by decide +kernel
theorem d7_inWait_50 : decode cX7_inWait 50 = .ok (.bipush 24, 2) := by decide +kernel
theorem d7_inWait_52 : decode cX7_inWait 52 = .ok (.iadd, 1) := by decide +kernel
theorem d7_inWait_53 : decode cX7_inWait 53 = .ok (.i2l, 1) := by decide +kernel
theorem d7_inWait_54 : decode cX7_inWait 54 = .ok (.invokestatic 113, 3) := by decide +kernel
theorem d7_inWait_57 : decode cX7_inWait 57 = .ok (.ifCond .eq 7, 3) := by decide +kernel
theorem d7_inWait_60 : decode cX7_inWait 60 = .ok (.iconst 1, 1) := by decide +kernel
theorem d7_inWait_61 : decode cX7_inWait 61 = .ok (.goto 4, 3) := by decide +kernel
theorem d7_inWait_64 : decode cX7_inWait 64 = .ok (.iconst 0, 1) := by decide +kernel
theorem d7_inWait_65 : decode cX7_inWait 65 = .ok (.istore_n 2, 1) := by decide +kernel
theorem d7_inWait_66 : decode cX7_inWait 66 = .ok (.iinc 3 1, 3) := by decide +kernel
theorem d7_inWait_69 : decode cX7_inWait 69 = .ok (.goto (-65), 3) := by decide +kernel
theorem d7_inWait_72 : decode cX7_inWait 72 = .ok (.iload_n 2, 1) := by decide +kernel
theorem d7_inWait_73 : decode cX7_inWait 73 = .ok (.ireturn, 1) := by decide +kernel
def f7_inWait_b4 (σ : Mem) : Nat → Int32 → Int32 → Int32 → Option Int32
  | 0, _, _, _ => none
  | n + 1, x1, x2, x3 => if (σ 3 0) ≤ x3 then if x2 = 0 ∨ x2 = 1 then some x2 else none else if x2 = 0 then if ¬ (x3 < 0 ∨ 12 ≤ x3.toNatClampNeg) then if (σ 5 x3.toNatClampNeg) = 2 then f7_inWait_b4 σ n x1 0 (x3 + 1) else Option.bind (f7_hasPassed σ x3 x1) fun r5 => if r5 = 0 then if ¬ (x3 < 0 ∨ 12 ≤ x3.toNatClampNeg) then Option.bind (f7_in ((6 * (σ 4 x3.toNatClampNeg)).toInt64) x1.toInt64 ((x1 + 24).toInt64)) fun r8 => if r8 = 0 then f7_inWait_b4 σ n x1 0 (x3 + 1) else f7_inWait_b4 σ n x1 1 (x3 + 1) else none else f7_inWait_b4 σ n x1 0 (x3 + 1) else none else f7_inWait_b4 σ n x1 1 (x3 + 1)
set_option maxHeartbeats 4000000 in
set_option maxRecDepth 100000 in
theorem t7_inWait_b4 {p : Program} {l : Launch} {e : Env} {s : State} {m : MethodId} {args : Array Value} {below : List Frame} {meth : Method} {c : Code} {w : WV} {σ : Mem} {r : Int32} (S : CallFix p m c cX7_inWait 4 s args gtbl RX7) (hr : meth.sig.returnType = (some .boolean)) (hlk : meth.locks = false) (hK : KS LM w s) (hR : Rp EM LM w σ s.heap) : ∀ (n : Nat), ∀ (x1 : Int32) (x2 : Int32) (x3 : Int32), f7_inWait_b4 σ n x1 x2 x3 = some r → ∀ (ls : Array Slot), lv_has ls 4 [(0, .ref (w.2.2 0)), (1, .int x1), (2, .int x2), (3, .int x3)] → W p l e rm7_inWait s m args below meth c s.heap [] 0 0 (MQ below (Qp (.int r)) args s 0 0 (fun _ => False)) (F0 m 4 ls []) := by
  obtain ⟨hx, hb, hml, hown, hts⟩ := id S
  intro n
  induction n with
  | zero =>
    intro x1 x2 x3 h0
    cases (show none = _ from h0)
  | succ n ih =>
    intro x1 x2 x3 h0 ls hl
    rw [f7_inWait_b4] at h0
    refine lv_iload_n hx hb d7_inWait_4 rfl (lv_at hl 3 rfl) ?_
    refine lv_aload_n hx hb d7_inWait_5 rfl (lv_at hl 0 rfl) ?_
    refine g7_13 S hK hR d7_inWait_6 ?_
    refine lv_iconst (v := 0) hx hb d7_inWait_9 (by decide) ?_
    refine q_ld (k := 0) S hK hR (by decide) (eM_102 w _) (vin (by decide)) (by decide) d7_inWait_10 ?_
    refine lv_icmp_ge (tgt := 72) hx hb d7_inWait_11 (by decide) (fun hc1 => ?_) (fun hc1 => ?_)
    · have h0 := og_t hc1 h0
      refine lv_iload_n hx hb d7_inWait_72 rfl (lv_at hl 2 rfl) ?_
      obtain ⟨hb0, h0⟩ := og_if h0
      exact q_zpure S hr hlk hb0 h0 d7_inWait_73
    · have h0 := og_f hc1 h0
      refine lv_iload_n hx hb d7_inWait_14 rfl (lv_at hl 2 rfl) ?_
      refine lv_if_ne (tgt := 60) hx hb d7_inWait_15 (by decide) (fun hc2 => ?_) (fun hc2 => ?_)
      · have h0 := og_f hc2 h0
        refine lv_iconst (v := 1) hx hb d7_inWait_60 (by decide) ?_
        refine lv_goto (tgt := 65) hx hb d7_inWait_61 (by decide) ?_
        refine lv_istore_n (lv' := [(2, .int 1), (0, .ref (w.2.2 0)), (1, .int x1), (3, .int x3)]) hx hb d7_inWait_65 rfl hl (by decide) rfl (fun ls hl => ?_)
        refine lv_iinc (v := x3 + 1) (lv' := [(3, .int (x3 + 1)), (2, .int 1), (0, .ref (w.2.2 0)), (1, .int x1)]) hx hb d7_inWait_66 hl (k := 3) rfl (ii1 _) (by decide) rfl (fun ls hl => ?_)
        refine lv_goto (tgt := 4) hx hb d7_inWait_69 (by decide) ?_
        exact ih x1 1 (x3 + 1) h0 _ (lv_sub hl [2, 3, 1, 0] rfl)
      · have h0 := og_t hc2 h0
        refine lv_aload_n hx hb d7_inWait_18 rfl (lv_at hl 0 rfl) ?_
        refine g7_19 S hK hR d7_inWait_19 ?_
        refine lv_iload_n hx hb d7_inWait_22 rfl (lv_at hl 3 rfl) ?_
        obtain ⟨hi3, h0⟩ := og_if h0
        refine q_ld (k := x3.toNatClampNeg) S hK hR (by decide) (eM_104 w _) hi3 rfl d7_inWait_23 ?_
        refine lv_iconst (v := 2) hx hb d7_inWait_24 (by decide) ?_
        refine lv_icmp_eq (tgt := 64) hx hb d7_inWait_25 (by decide) (fun hc4 => ?_) (fun hc4 => ?_)
        · have h0 := og_t hc4 h0
          refine lv_iconst (v := 0) hx hb d7_inWait_64 (by decide) ?_
          refine lv_istore_n (lv' := [(2, .int 0), (0, .ref (w.2.2 0)), (1, .int x1), (3, .int x3)]) hx hb d7_inWait_65 rfl hl (by decide) rfl (fun ls hl => ?_)
          refine lv_iinc (v := x3 + 1) (lv' := [(3, .int (x3 + 1)), (2, .int 0), (0, .ref (w.2.2 0)), (1, .int x1)]) hx hb d7_inWait_66 hl (k := 3) rfl (ii1 _) (by decide) rfl (fun ls hl => ?_)
          refine lv_goto (tgt := 4) hx hb d7_inWait_69 (by decide) ?_
          exact ih x1 0 (x3 + 1) h0 _ (lv_sub hl [2, 3, 1, 0] rfl)
        · have h0 := og_f hc4 h0
          refine lv_aload_n hx hb d7_inWait_28 rfl (lv_at hl 0 rfl) ?_
          refine lv_iload_n hx hb d7_inWait_29 rfl (lv_at hl 3 rfl) ?_
          refine lv_iload_n hx hb d7_inWait_30 rfl (lv_at hl 1 rfl) ?_
          obtain ⟨r5, hr5, h0⟩ := og_b h0
          refine k7_195 S hK hR  hr5 ⟨Nat.zero_le _, Nat.zero_le _⟩ ⟨Nat.le_of_ble_eq_true rfl, Nat.le_of_ble_eq_true rfl⟩ hl.1 (Nat.le_of_ble_eq_true rfl) d7_inWait_31 ?_
          refine lv_if_ne (tgt := 64) hx hb d7_inWait_34 (by decide) (fun hc6 => ?_) (fun hc6 => ?_)
          · have h0 := og_f hc6 h0
            refine lv_iconst (v := 0) hx hb d7_inWait_64 (by decide) ?_
            refine lv_istore_n (lv' := [(2, .int 0), (0, .ref (w.2.2 0)), (1, .int x1), (3, .int x3)]) hx hb d7_inWait_65 rfl hl (by decide) rfl (fun ls hl => ?_)
            refine lv_iinc (v := x3 + 1) (lv' := [(3, .int (x3 + 1)), (2, .int 0), (0, .ref (w.2.2 0)), (1, .int x1)]) hx hb d7_inWait_66 hl (k := 3) rfl (ii1 _) (by decide) rfl (fun ls hl => ?_)
            refine lv_goto (tgt := 4) hx hb d7_inWait_69 (by decide) ?_
            exact ih x1 0 (x3 + 1) h0 _ (lv_sub hl [2, 3, 1, 0] rfl)
          · have h0 := og_t hc6 h0
            refine lv_bipush (v := 6) hx hb d7_inWait_37 (by decide) ?_
            refine lv_aload_n hx hb d7_inWait_39 rfl (lv_at hl 0 rfl) ?_
            refine g7_16 S hK hR d7_inWait_40 ?_
            refine lv_iload_n hx hb d7_inWait_43 rfl (lv_at hl 3 rfl) ?_
            obtain ⟨hi7, h0⟩ := og_if h0
            refine q_ld (k := x3.toNatClampNeg) S hK hR (by decide) (eM_103 w _) hi7 rfl d7_inWait_44 ?_
            refine lv_imul hx hb d7_inWait_45 ?_
            refine lv_i2l hx hb d7_inWait_46 rfl ?_
            refine lv_iload_n hx hb d7_inWait_47 rfl (lv_at hl 1 rfl) ?_
            refine lv_i2l hx hb d7_inWait_48 rfl ?_
            refine lv_iload_n hx hb d7_inWait_49 rfl (lv_at hl 1 rfl) ?_
            refine lv_bipush (v := 24) hx hb d7_inWait_50 (by decide) ?_
            refine lv_iadd hx hb d7_inWait_52 ?_
            refine lv_i2l hx hb d7_inWait_53 rfl ?_
            obtain ⟨r8, hr8, h0⟩ := og_b h0
            refine k7_113 S  hr8 ⟨Nat.zero_le _, Nat.zero_le _⟩ ⟨Nat.le_of_ble_eq_true rfl, Nat.le_of_ble_eq_true rfl⟩ hl.1 (Nat.le_of_ble_eq_true rfl) d7_inWait_54 ?_
            refine lv_if_eq (tgt := 64) hx hb d7_inWait_57 (by decide) (fun hc9 => ?_) (fun hc9 => ?_)
            · have h0 := og_t hc9 h0
              refine lv_iconst (v := 0) hx hb d7_inWait_64 (by decide) ?_
              refine lv_istore_n (lv' := [(2, .int 0), (0, .ref (w.2.2 0)), (1, .int x1), (3, .int x3)]) hx hb d7_inWait_65 rfl hl (by decide) rfl (fun ls hl => ?_)
              refine lv_iinc (v := x3 + 1) (lv' := [(3, .int (x3 + 1)), (2, .int 0), (0, .ref (w.2.2 0)), (1, .int x1)]) hx hb d7_inWait_66 hl (k := 3) rfl (ii1 _) (by decide) rfl (fun ls hl => ?_)
              refine lv_goto (tgt := 4) hx hb d7_inWait_69 (by decide) ?_
              exact ih x1 0 (x3 + 1) h0 _ (lv_sub hl [2, 3, 1, 0] rfl)
            · have h0 := og_f hc9 h0
              refine lv_iconst (v := 1) hx hb d7_inWait_60 (by decide) ?_
              refine lv_goto (tgt := 65) hx hb d7_inWait_61 (by decide) ?_
              refine lv_istore_n (lv' := [(2, .int 1), (0, .ref (w.2.2 0)), (1, .int x1), (3, .int x3)]) hx hb d7_inWait_65 rfl hl (by decide) rfl (fun ls hl => ?_)
              refine lv_iinc (v := x3 + 1) (lv' := [(3, .int (x3 + 1)), (2, .int 1), (0, .ref (w.2.2 0)), (1, .int x1)]) hx hb d7_inWait_66 hl (k := 3) rfl (ii1 _) (by decide) rfl (fun ls hl => ?_)
              refine lv_goto (tgt := 4) hx hb d7_inWait_69 (by decide) ?_
              exact ih x1 1 (x3 + 1) h0 _ (lv_sub hl [2, 3, 1, 0] rfl)
def f7_inWait (σ : Mem) (x1 : Int32) : Option Int32 := f7_inWait_b4 σ 1000 x1 0 0
set_option maxHeartbeats 4000000 in
set_option maxRecDepth 100000 in
theorem c7_inWait (l : Launch) {w : WV} {σ : Mem} {x1 : Int32} {r : Int32} (h0 : f7_inWait σ x1 = some r) : Met l yX7_inWait (wy yX7_inWait cX7_inWait 4 (some .boolean)) rm7_inWait (Pw EM LM w [.ref (w.2.2 0), .int x1] σ) (Qp (.int r)) 0 0 (fun _ => False) := by
  refine mk_met (by decide) (Nat.le_of_ble_eq_true rfl) ?_
  intro p e s m below meth c S hr hlk hK hR ls hl
  obtain ⟨hx, hb, hml, hown, hts⟩ := id S
  have hl : lv_has ls 4 [(0, .ref (w.2.2 0)), (1, .int x1)] := hl
  unfold f7_inWait at h0
  refine lv_iconst (v := 0) hx hb d7_inWait_0 (by decide) ?_
  refine lv_istore_n (lv' := [(2, .int 0), (0, .ref (w.2.2 0)), (1, .int x1)]) hx hb d7_inWait_1 rfl hl (by decide) rfl (fun ls hl => ?_)
  refine lv_iconst (v := 0) hx hb d7_inWait_2 (by decide) ?_
  refine lv_istore_n (lv' := [(3, .int 0), (2, .int 0), (0, .ref (w.2.2 0)), (1, .int x1)]) hx hb d7_inWait_3 rfl hl (by decide) rfl (fun ls hl => ?_)
  exact t7_inWait_b4 S hr hlk hK hR 1000 x1 0 0 h0 _ (lv_sub hl [2, 3, 1, 0] rfl)
set_option maxHeartbeats 4000000 in
set_option maxRecDepth 100000 in
theorem k7_211 {p : Program} {l : Launch} {e : Env} {R : Room} {s : State} {m : MethodId} {args : Array Value} {below : List Frame} {meth : Method} {c : Code} {H : Heap} {locs : List Loc} {cells slots : Nat} {Q : State → Prop} {cc : ByteArray} {pc nL : Nat} {ls : Array Slot} {rest : List Value} {w : WV} {σ : Mem} {x1 : Int32} {r : Int32} (S : CallFix p m c cc nL s args gtbl RX7) (hK : KS LM w s) (hR : Rp EM LM w σ H) (h0 : f7_inWait σ x1 = some r) (hf : cells + 0 ≤ R.cells ∧ slots + 0 ≤ R.slots) (hRm : rm7_inWait.frames + 1 ≤ R.frames ∧ 8 + (4 + 11) + rm7_inWait.locals ≤ R.locals) (hl : ls.size = nL) (hW : (rest.map fun v => v.category).sum ≤ 8) (hdg : decode cc pc = .ok (.invokevirtual 211, 3)) (kk : W p l e R s m args below meth c H locs cells slots Q (F0 m (pc + 3) ls (.int r :: rest))) : W p l e R s m args below meth c H locs cells slots Q (F0 m pc ls (.int x1 :: .ref (w.2.2 0) :: rest)) := r_endp (run_V (n := 1) (As := [.int x1]) S hK hR (by decide) (eM_7 w _) rfl (gw_V (gt_at 1147 (by decide +kernel) (by decide +kernel)) (gt_at 1149 (by decide +kernel) (by decide +kernel)) (gt_at 63 (by decide +kernel) (by decide +kernel)) (gt_at 86 (by decide +kernel) (by decide +kernel)) (gt_at 1150 (by decide +kernel) (by decide +kernel))) (by decide +kernel) rfl (c7_inWait l h0) ⟨rfl, rfl⟩ hRm hf hl rfl hW hdg) kk
/-! FourTenGatesModel.inLead(II)Z -/
abbrev rm7_inLead : Room := { frames := 1, cells := 0, slots := 0, locals := 22 }
theorem d7_inLead_0 : decode cX7_inLead 0 = .ok (.iconst 0, 1) := by decide +kernel
theorem d7_inLead_1 : decode cX7_inLead 1 = .ok (.istore_n 3, 1) := by decide +kernel
theorem d7_inLead_2 : decode cX7_inLead 2 = .ok (.iconst 0, 1) := by decide +kernel
theorem d7_inLead_3 : decode cX7_inLead 3 = .ok (.istore 4, 2) := by decide +kernel
theorem d7_inLead_5 : decode cX7_inLead 5 = .ok (.iload 4, 2) := by decide +kernel
theorem d7_inLead_7 : decode cX7_inLead 7 = .ok (.aload_n 0, 1) := by decide +kernel
theorem d7_inLead_8 : decode cX7_inLead 8 = .ok (.getfield 13, 3) := by decide +kernel
theorem d7_inLead_11 : decode cX7_inLead 11 = .ok (.iconst 0, 1) := by decide +kernel
theorem d7_inLead_12 : decode cX7_inLead 12 = .ok (.iaload, 1) := by decide +kernel
theorem d7_inLead_13 : decode cX7_inLead 13 = .ok (.if_icmp .ge 41, 3) := by decide +kernel
theorem d7_inLead_16 : decode cX7_inLead 16 = .ok (.iload_n 3, 1) := by decide +kernel
theorem d7_inLead_17 : decode cX7_inLead 17 = .ok (.ifCond .ne 25, 3) := by decide +kernel
theorem d7_inLead_20 : decode cX7_inLead 20 = .ok (.aload_n 0, 1) := by decide +kernel
theorem d7_inLead_21 : decode cX7_inLead 21 = .ok (.iload 4, 2) := by decide +kernel
theorem d7_inLead_23 : decode cX7_inLead 23 = .ok (.invokevirtual 170, 3) := by decide +kernel
theorem d7_inLead_26 : decode cX7_inLead 26 = .ok (.iload_n 2, 1) := by decide +kernel
theorem d7_inLead_27 : decode cX7_inLead 27 = .ok (.isub, 1) := by decide +kernel
theorem d7_inLead_28 : decode cX7_inLead 28 = .ok (.iload_n 1, 1) := by decide +kernel
theorem d7_inLead_29 : decode cX7_inLead 29 = .ok (.if_icmp .gt 17, 3) := by decide +kernel
theorem d7_inLead_32 : decode cX7_inLead 32 = .ok (.aload_n 0, 1) := by decide +kernel
theorem d7_inLead_33 : decode cX7_inLead 33 = .ok (.iload 4, 2) := by decide +kernel
theorem d7_inLead_35 : decode cX7_inLead 35 = .ok (.iload_n 1, 1) := by decide +kernel
theorem d7_inLead_36 : decode cX7_inLead 36 = .ok (.invokevirtual 195, 3) := by decide +kernel
theorem d7_inLead_39 : decode cX7_inLead 39 = .ok (.ifCond .ne 7, 3) := by decide +kernel
theorem d7_inLead_42 : decode cX7_inLead 42 = .ok (.iconst 1, 1) := by decide +kernel
theorem d7_inLead_43 : decode cX7_inLead 43 = .ok (.goto 4, 3) := by decide +kernel
theorem d7_inLead_46 : decode cX7_inLead 46 = .ok (.iconst 0, 1) := by decide +kernel
theorem d7_inLead_47 : decode cX7_inLead 47 = .ok (.istore_n 3, 1) := by decide +kernel
theorem d7_inLead_48 : decode cX7_inLead 48 = .ok (.iinc 4 1, 3) := by decide +kernel
theorem d7_inLead_51 : decode cX7_inLead 51 = .ok (.goto (-46), 3) := by decide +kernel
theorem d7_inLead_54 : decode cX7_inLead 54 = .ok (.iload_n 3, 1) := by decide +kernel
theorem d7_inLead_55 : decode cX7_inLead 55 = .ok (.ireturn, 1) := by decide +kernel
def f7_inLead_b5 (σ : Mem) : Nat → Int32 → Int32 → Int32 → Int32 → Option Int32
  | 0, _, _, _, _ => none
  | n + 1, x1, x2, x3, x4 => if (σ 3 0) ≤ x4 then if x3 = 0 ∨ x3 = 1 then some x3 else none else if x3 = 0 then Option.bind (f7_comesAt σ x4) fun r3 => if x1 < (r3 - x2) then f7_inLead_b5 σ n x1 x2 0 (x4 + 1) else Option.bind (f7_hasPassed σ x4 x1) fun r5 => if r5 = 0 then f7_inLead_b5 σ n x1 x2 1 (x4 + 1) else f7_inLead_b5 σ n x1 x2 0 (x4 + 1) else f7_inLead_b5 σ n x1 x2 1 (x4 + 1)
set_option maxHeartbeats 4000000 in
set_option maxRecDepth 100000 in
theorem t7_inLead_b5 {p : Program} {l : Launch} {e : Env} {s : State} {m : MethodId} {args : Array Value} {below : List Frame} {meth : Method} {c : Code} {w : WV} {σ : Mem} {r : Int32} (S : CallFix p m c cX7_inLead 5 s args gtbl RX7) (hr : meth.sig.returnType = (some .boolean)) (hlk : meth.locks = false) (hK : KS LM w s) (hR : Rp EM LM w σ s.heap) : ∀ (n : Nat), ∀ (x1 : Int32) (x2 : Int32) (x3 : Int32) (x4 : Int32), f7_inLead_b5 σ n x1 x2 x3 x4 = some r → ∀ (ls : Array Slot), lv_has ls 5 [(0, .ref (w.2.2 0)), (1, .int x1), (2, .int x2), (3, .int x3), (4, .int x4)] → W p l e rm7_inLead s m args below meth c s.heap [] 0 0 (MQ below (Qp (.int r)) args s 0 0 (fun _ => False)) (F0 m 5 ls []) := by
  obtain ⟨hx, hb, hml, hown, hts⟩ := id S
  intro n
  induction n with
  | zero =>
    intro x1 x2 x3 x4 h0
    cases (show none = _ from h0)
  | succ n ih =>
    intro x1 x2 x3 x4 h0 ls hl
    rw [f7_inLead_b5] at h0
    refine lv_iload hx hb d7_inLead_5 (lv_at hl 4 rfl) ?_
    refine lv_aload_n hx hb d7_inLead_7 rfl (lv_at hl 0 rfl) ?_
    refine g7_13 S hK hR d7_inLead_8 ?_
    refine lv_iconst (v := 0) hx hb d7_inLead_11 (by decide) ?_
    refine q_ld (k := 0) S hK hR (by decide) (eM_102 w _) (vin (by decide)) (by decide) d7_inLead_12 ?_
    refine lv_icmp_ge (tgt := 54) hx hb d7_inLead_13 (by decide) (fun hc1 => ?_) (fun hc1 => ?_)
    · have h0 := og_t hc1 h0
      refine lv_iload_n hx hb d7_inLead_54 rfl (lv_at hl 3 rfl) ?_
      obtain ⟨hb0, h0⟩ := og_if h0
      exact q_zpure S hr hlk hb0 h0 d7_inLead_55
    · have h0 := og_f hc1 h0
      refine lv_iload_n hx hb d7_inLead_16 rfl (lv_at hl 3 rfl) ?_
      refine lv_if_ne (tgt := 42) hx hb d7_inLead_17 (by decide) (fun hc2 => ?_) (fun hc2 => ?_)
      · have h0 := og_f hc2 h0
        refine lv_iconst (v := 1) hx hb d7_inLead_42 (by decide) ?_
        refine lv_goto (tgt := 47) hx hb d7_inLead_43 (by decide) ?_
        refine lv_istore_n (lv' := [(3, .int 1), (0, .ref (w.2.2 0)), (1, .int x1), (2, .int x2), (4, .int x4)]) hx hb d7_inLead_47 rfl hl (by decide) rfl (fun ls hl => ?_)
        refine lv_iinc (v := x4 + 1) (lv' := [(4, .int (x4 + 1)), (3, .int 1), (0, .ref (w.2.2 0)), (1, .int x1), (2, .int x2)]) hx hb d7_inLead_48 hl (k := 4) rfl (ii1 _) (by decide) rfl (fun ls hl => ?_)
        refine lv_goto (tgt := 5) hx hb d7_inLead_51 (by decide) ?_
        exact ih x1 x2 1 (x4 + 1) h0 _ (lv_sub hl [2, 3, 4, 1, 0] rfl)
      · have h0 := og_t hc2 h0
        refine lv_aload_n hx hb d7_inLead_20 rfl (lv_at hl 0 rfl) ?_
        refine lv_iload hx hb d7_inLead_21 (lv_at hl 4 rfl) ?_
        obtain ⟨r3, hr3, h0⟩ := og_b h0
        refine k7_170 S hK hR  hr3 ⟨Nat.zero_le _, Nat.zero_le _⟩ ⟨Nat.le_of_ble_eq_true rfl, Nat.le_of_ble_eq_true rfl⟩ hl.1 (Nat.le_of_ble_eq_true rfl) d7_inLead_23 ?_
        refine lv_iload_n hx hb d7_inLead_26 rfl (lv_at hl 2 rfl) ?_
        refine lv_isub hx hb d7_inLead_27 ?_
        refine lv_iload_n hx hb d7_inLead_28 rfl (lv_at hl 1 rfl) ?_
        refine lv_icmp_gt (tgt := 46) hx hb d7_inLead_29 (by decide) (fun hc4 => ?_) (fun hc4 => ?_)
        · have h0 := og_t hc4 h0
          refine lv_iconst (v := 0) hx hb d7_inLead_46 (by decide) ?_
          refine lv_istore_n (lv' := [(3, .int 0), (0, .ref (w.2.2 0)), (1, .int x1), (2, .int x2), (4, .int x4)]) hx hb d7_inLead_47 rfl hl (by decide) rfl (fun ls hl => ?_)
          refine lv_iinc (v := x4 + 1) (lv' := [(4, .int (x4 + 1)), (3, .int 0), (0, .ref (w.2.2 0)), (1, .int x1), (2, .int x2)]) hx hb d7_inLead_48 hl (k := 4) rfl (ii1 _) (by decide) rfl (fun ls hl => ?_)
          refine lv_goto (tgt := 5) hx hb d7_inLead_51 (by decide) ?_
          exact ih x1 x2 0 (x4 + 1) h0 _ (lv_sub hl [2, 3, 4, 1, 0] rfl)
        · have h0 := og_f hc4 h0
          refine lv_aload_n hx hb d7_inLead_32 rfl (lv_at hl 0 rfl) ?_
          refine lv_iload hx hb d7_inLead_33 (lv_at hl 4 rfl) ?_
          refine lv_iload_n hx hb d7_inLead_35 rfl (lv_at hl 1 rfl) ?_
          obtain ⟨r5, hr5, h0⟩ := og_b h0
          refine k7_195 S hK hR  hr5 ⟨Nat.zero_le _, Nat.zero_le _⟩ ⟨Nat.le_of_ble_eq_true rfl, Nat.le_of_ble_eq_true rfl⟩ hl.1 (Nat.le_of_ble_eq_true rfl) d7_inLead_36 ?_
          refine lv_if_ne (tgt := 46) hx hb d7_inLead_39 (by decide) (fun hc6 => ?_) (fun hc6 => ?_)
          · have h0 := og_f hc6 h0
            refine lv_iconst (v := 0) hx hb d7_inLead_46 (by decide) ?_
            refine lv_istore_n (lv' := [(3, .int 0), (0, .ref (w.2.2 0)), (1, .int x1), (2, .int x2), (4, .int x4)]) hx hb d7_inLead_47 rfl hl (by decide) rfl (fun ls hl => ?_)
            refine lv_iinc (v := x4 + 1) (lv' := [(4, .int (x4 + 1)), (3, .int 0), (0, .ref (w.2.2 0)), (1, .int x1), (2, .int x2)]) hx hb d7_inLead_48 hl (k := 4) rfl (ii1 _) (by decide) rfl (fun ls hl => ?_)
            refine lv_goto (tgt := 5) hx hb d7_inLead_51 (by decide) ?_
            exact ih x1 x2 0 (x4 + 1) h0 _ (lv_sub hl [2, 3, 4, 1, 0] rfl)
          · have h0 := og_t hc6 h0
            refine lv_iconst (v := 1) hx hb d7_inLead_42 (by decide) ?_
            refine lv_goto (tgt := 47) hx hb d7_inLead_43 (by decide) ?_
            refine lv_istore_n (lv' := [(3, .int 1), (0, .ref (w.2.2 0)), (1, .int x1), (2, .int x2), (4, .int x4)]) hx hb d7_inLead_47 rfl hl (by decide) rfl (fun ls hl => ?_)
            refine lv_iinc (v := x4 + 1) (lv' := [(4, .int (x4 + 1)), (3, .int 1), (0, .ref (w.2.2 0)), (1, .int x1), (2, .int x2)]) hx hb d7_inLead_48 hl (k := 4) rfl (ii1 _) (by decide) rfl (fun ls hl => ?_)
            refine lv_goto (tgt := 5) hx hb d7_inLead_51 (by decide) ?_
            exact ih x1 x2 1 (x4 + 1) h0 _ (lv_sub hl [2, 3, 4, 1, 0] rfl)
def f7_inLead (σ : Mem) (x1 : Int32) (x2 : Int32) : Option Int32 := f7_inLead_b5 σ 1000 x1 x2 0 0
set_option maxHeartbeats 4000000 in
set_option maxRecDepth 100000 in
theorem c7_inLead (l : Launch) {w : WV} {σ : Mem} {x1 : Int32} {x2 : Int32} {r : Int32} (h0 : f7_inLead σ x1 x2 = some r) : Met l yX7_inLead (wy yX7_inLead cX7_inLead 5 (some .boolean)) rm7_inLead (Pw EM LM w [.ref (w.2.2 0), .int x1, .int x2] σ) (Qp (.int r)) 0 0 (fun _ => False) := by
  refine mk_met (by decide) (Nat.le_of_ble_eq_true rfl) ?_
  intro p e s m below meth c S hr hlk hK hR ls hl
  obtain ⟨hx, hb, hml, hown, hts⟩ := id S
  have hl : lv_has ls 5 [(0, .ref (w.2.2 0)), (1, .int x1), (2, .int x2)] := hl
  unfold f7_inLead at h0
  refine lv_iconst (v := 0) hx hb d7_inLead_0 (by decide) ?_
  refine lv_istore_n (lv' := [(3, .int 0), (0, .ref (w.2.2 0)), (1, .int x1), (2, .int x2)]) hx hb d7_inLead_1 rfl hl (by decide) rfl (fun ls hl => ?_)
  refine lv_iconst (v := 0) hx hb d7_inLead_2 (by decide) ?_
  refine lv_istore (lv' := [(4, .int 0), (3, .int 0), (0, .ref (w.2.2 0)), (1, .int x1), (2, .int x2)]) hx hb d7_inLead_3 hl (by decide) rfl (fun ls hl => ?_)
  exact t7_inLead_b5 S hr hlk hK hR 1000 x1 x2 0 0 h0 _ (lv_sub hl [2, 3, 4, 1, 0] rfl)
set_option maxHeartbeats 4000000 in
set_option maxRecDepth 100000 in
theorem k7_214 {p : Program} {l : Launch} {e : Env} {R : Room} {s : State} {m : MethodId} {args : Array Value} {below : List Frame} {meth : Method} {c : Code} {H : Heap} {locs : List Loc} {cells slots : Nat} {Q : State → Prop} {cc : ByteArray} {pc nL : Nat} {ls : Array Slot} {rest : List Value} {w : WV} {σ : Mem} {x1 : Int32} {x2 : Int32} {r : Int32} (S : CallFix p m c cc nL s args gtbl RX7) (hK : KS LM w s) (hR : Rp EM LM w σ H) (h0 : f7_inLead σ x1 x2 = some r) (hf : cells + 0 ≤ R.cells ∧ slots + 0 ≤ R.slots) (hRm : rm7_inLead.frames + 1 ≤ R.frames ∧ 8 + (5 + 11) + rm7_inLead.locals ≤ R.locals) (hl : ls.size = nL) (hW : (rest.map fun v => v.category).sum ≤ 8) (hdg : decode cc pc = .ok (.invokevirtual 214, 3)) (kk : W p l e R s m args below meth c H locs cells slots Q (F0 m (pc + 3) ls (.int r :: rest))) : W p l e R s m args below meth c H locs cells slots Q (F0 m pc ls (.int x2 :: .int x1 :: .ref (w.2.2 0) :: rest)) := r_endp (run_V (n := 2) (As := [.int x1, .int x2]) S hK hR (by decide) (eM_7 w _) rfl (gw_V (gt_at 1151 (by decide +kernel) (by decide +kernel)) (gt_at 1153 (by decide +kernel) (by decide +kernel)) (gt_at 64 (by decide +kernel) (by decide +kernel)) (gt_at 86 (by decide +kernel) (by decide +kernel)) (gt_at 1154 (by decide +kernel) (by decide +kernel))) (by decide +kernel) rfl (c7_inLead l h0) ⟨rfl, rfl⟩ hRm hf hl rfl hW hdg) kk
/-! FourTenGatesModel.wantsShut(III)Z -/
abbrev rm7_wantsShut : Room := { frames := 3, cells := 0, slots := 0, locals := 67 }
theorem d7_wantsShut_0 : decode cX7_wantsShut 0 = .ok (.iload_n 1, 1) := by decide +kernel
theorem d7_wantsShut_1 : decode cX7_wantsShut 1 = .ok (.tableswitch 79 0 3 #[31, 37, 43, 49], 31) := by decide +kernel
theorem d7_wantsShut_32 : decode cX7_wantsShut 32 = .ok (.aload_n 0, 1) := by decide +kernel
theorem d7_wantsShut_33 : decode cX7_wantsShut 33 = .ok (.iload_n 3, 1) := by decide +kernel
theorem d7_wantsShut_34 : decode cX7_wantsShut 34 = .ok (.invokevirtual 202, 3) := by decide +kernel
theorem d7_wantsShut_37 : decode cX7_wantsShut 37 = .ok (.ireturn, 1) := by decide +kernel
theorem d7_wantsShut_38 : decode cX7_wantsShut 38 = .ok (.aload_n 0, 1) := by decide +kernel
theorem d7_wantsShut_39 : decode cX7_wantsShut 39 = .ok (.iload_n 3, 1) := by decide +kernel
theorem d7_wantsShut_40 : decode cX7_wantsShut 40 = .ok (.invokevirtual 205, 3) := by decide +kernel
theorem d7_wantsShut_43 : decode cX7_wantsShut 43 = .ok (.ireturn, 1) := by decide +kernel
theorem d7_wantsShut_44 : decode cX7_wantsShut 44 = .ok (.aload_n 0, 1) := by decide +kernel
theorem d7_wantsShut_45 : decode cX7_wantsShut 45 = .ok (.iload_n 3, 1) := by decide +kernel
theorem d7_wantsShut_46 : decode cX7_wantsShut 46 = .ok (.invokevirtual 208, 3) := by decide +kernel
theorem d7_wantsShut_49 : decode cX7_wantsShut 49 = .ok (.ireturn, 1) := by decide +kernel
theorem d7_wantsShut_50 : decode cX7_wantsShut 50 = .ok (.aload_n 0, 1) := by decide +kernel
theorem d7_wantsShut_51 : decode cX7_wantsShut 51 = .ok (.iload_n 3, 1) := by decide +kernel
theorem d7_wantsShut_52 : decode cX7_wantsShut 52 = .ok (.invokevirtual 205, 3) := by decide +kernel
theorem d7_wantsShut_55 : decode cX7_wantsShut 55 = .ok (.ifCond .ne 19, 3) := by decide +kernel
theorem d7_wantsShut_58 : decode cX7_wantsShut 58 = .ok (.aload_n 0, 1) := by decide +kernel
theorem d7_wantsShut_59 : decode cX7_wantsShut 59 = .ok (.iload_n 3, 1) := by decide +kernel
theorem d7_wantsShut_60 : decode cX7_wantsShut 60 = .ok (.invokevirtual 208, 3) := by decide +kernel
theorem d7_wantsShut_63 : decode cX7_wantsShut 63 = .ok (.ifCond .ne 11, 3) := by decide +kernel
theorem d7_wantsShut_66 : decode cX7_wantsShut 66 = .ok (.aload_n 0, 1) := by decide +kernel
theorem d7_wantsShut_67 : decode cX7_wantsShut 67 = .ok (.iload_n 3, 1) := by decide +kernel
theorem d7_wantsShut_68 : decode cX7_wantsShut 68 = .ok (.invokevirtual 211, 3) := by decide +kernel
theorem d7_wantsShut_71 : decode cX7_wantsShut 71 = .ok (.ifCond .eq 7, 3) := by decide +kernel
theorem d7_wantsShut_74 : decode cX7_wantsShut 74 = .ok (.iconst 1, 1) := by decide +kernel
theorem d7_wantsShut_75 : decode cX7_wantsShut 75 = .ok (.goto 4, 3) := by decide +kernel
theorem d7_wantsShut_78 : decode cX7_wantsShut 78 = .ok (.iconst 0, 1) := by decide +kernel
theorem d7_wantsShut_79 : decode cX7_wantsShut 79 = .ok (.ireturn, 1) := by decide +kernel
theorem d7_wantsShut_80 : decode cX7_wantsShut 80 = .ok (.aload_n 0, 1) := by decide +kernel
theorem d7_wantsShut_81 : decode cX7_wantsShut 81 = .ok (.iload_n 3, 1) := by decide +kernel
theorem d7_wantsShut_82 : decode cX7_wantsShut 82 = .ok (.iload_n 2, 1) := by decide +kernel
theorem d7_wantsShut_83 : decode cX7_wantsShut 83 = .ok (.invokevirtual 214, 3) := by decide +kernel
theorem d7_wantsShut_86 : decode cX7_wantsShut 86 = .ok (.ireturn, 1) := by decide +kernel
def f7_wantsShut (σ : Mem) (x1 : Int32) (x2 : Int32) (x3 : Int32) : Option Int32 := if x1 = 0 then Option.bind (f7_inPlan σ x3) fun r2 => if r2 = 0 ∨ r2 = 1 then some r2 else none else if x1 = 1 then Option.bind (f7_inBell σ x3) fun r3 => if r3 = 0 ∨ r3 = 1 then some r3 else none else if x1 = 2 then Option.bind (f7_inSight σ x3) fun r4 => if r4 = 0 ∨ r4 = 1 then some r4 else none else if x1 = 3 then Option.bind (f7_inBell σ x3) fun r5 => if r5 = 0 then Option.bind (f7_inSight σ x3) fun r7 => if r7 = 0 then Option.bind (f7_inWait σ x3) fun r9 => if r9 = 0 then some 0 else some 1 else some 1 else some 1 else Option.bind (f7_inLead σ x3 x2) fun r5 => if r5 = 0 ∨ r5 = 1 then some r5 else none
set_option maxHeartbeats 4000000 in
set_option maxRecDepth 100000 in
theorem c7_wantsShut (l : Launch) {w : WV} {σ : Mem} {x1 : Int32} {x2 : Int32} {x3 : Int32} {r : Int32} (h0 : f7_wantsShut σ x1 x2 x3 = some r) : Met l yX7_wantsShut (wy yX7_wantsShut cX7_wantsShut 4 (some .boolean)) rm7_wantsShut (Pw EM LM w [.ref (w.2.2 0), .int x1, .int x2, .int x3] σ) (Qp (.int r)) 0 0 (fun _ => False) := by
  refine mk_met (by decide) (Nat.le_of_ble_eq_true rfl) ?_
  intro p e s m below meth c S hr hlk hK hR ls hl
  obtain ⟨hx, hb, hml, hown, hts⟩ := id S
  have hl : lv_has ls 4 [(0, .ref (w.2.2 0)), (1, .int x1), (2, .int x2), (3, .int x3)] := hl
  unfold f7_wantsShut at h0
  refine lv_iload_n hx hb d7_wantsShut_0 rfl (lv_at hl 1 rfl) ?_
  by_cases hc1 : x1 = 0
  · have h0 := og_t hc1 h0
    refine q_tabI (off := 31) (tgt := 32) S d7_wantsShut_1 hc1 (by decide) (by decide) (by decide) (by decide) ?_
    refine lv_aload_n hx hb d7_wantsShut_32 rfl (lv_at hl 0 rfl) ?_
    refine lv_iload_n hx hb d7_wantsShut_33 rfl (lv_at hl 3 rfl) ?_
    obtain ⟨r2, hr2, h0⟩ := og_b h0
    refine k7_202 S hK hR  hr2 ⟨Nat.zero_le _, Nat.zero_le _⟩ ⟨Nat.le_of_ble_eq_true rfl, Nat.le_of_ble_eq_true rfl⟩ hl.1 (Nat.le_of_ble_eq_true rfl) d7_wantsShut_34 ?_
    obtain ⟨hb0, h0⟩ := og_if h0
    exact q_zpure S hr hlk hb0 h0 d7_wantsShut_37
  · have h0 := og_f hc1 h0
    by_cases hc2 : x1 = 1
    · have h0 := og_t hc2 h0
      refine q_tabI (off := 37) (tgt := 38) S d7_wantsShut_1 hc2 (by decide) (by decide) (by decide) (by decide) ?_
      refine lv_aload_n hx hb d7_wantsShut_38 rfl (lv_at hl 0 rfl) ?_
      refine lv_iload_n hx hb d7_wantsShut_39 rfl (lv_at hl 3 rfl) ?_
      obtain ⟨r3, hr3, h0⟩ := og_b h0
      refine k7_205 S hK hR  hr3 ⟨Nat.zero_le _, Nat.zero_le _⟩ ⟨Nat.le_of_ble_eq_true rfl, Nat.le_of_ble_eq_true rfl⟩ hl.1 (Nat.le_of_ble_eq_true rfl) d7_wantsShut_40 ?_
      obtain ⟨hb0, h0⟩ := og_if h0
      exact q_zpure S hr hlk hb0 h0 d7_wantsShut_43
    · have h0 := og_f hc2 h0
      by_cases hc3 : x1 = 2
      · have h0 := og_t hc3 h0
        refine q_tabI (off := 43) (tgt := 44) S d7_wantsShut_1 hc3 (by decide) (by decide) (by decide) (by decide) ?_
        refine lv_aload_n hx hb d7_wantsShut_44 rfl (lv_at hl 0 rfl) ?_
        refine lv_iload_n hx hb d7_wantsShut_45 rfl (lv_at hl 3 rfl) ?_
        obtain ⟨r4, hr4, h0⟩ := og_b h0
        refine k7_208 S hK hR  hr4 ⟨Nat.zero_le _, Nat.zero_le _⟩ ⟨Nat.le_of_ble_eq_true rfl, Nat.le_of_ble_eq_true rfl⟩ hl.1 (Nat.le_of_ble_eq_true rfl) d7_wantsShut_46 ?_
        obtain ⟨hb0, h0⟩ := og_if h0
        exact q_zpure S hr hlk hb0 h0 d7_wantsShut_49
      · have h0 := og_f hc3 h0
        by_cases hc4 : x1 = 3
        · have h0 := og_t hc4 h0
          refine q_tabI (off := 49) (tgt := 50) S d7_wantsShut_1 hc4 (by decide) (by decide) (by decide) (by decide) ?_
          refine lv_aload_n hx hb d7_wantsShut_50 rfl (lv_at hl 0 rfl) ?_
          refine lv_iload_n hx hb d7_wantsShut_51 rfl (lv_at hl 3 rfl) ?_
          obtain ⟨r5, hr5, h0⟩ := og_b h0
          refine k7_205 S hK hR  hr5 ⟨Nat.zero_le _, Nat.zero_le _⟩ ⟨Nat.le_of_ble_eq_true rfl, Nat.le_of_ble_eq_true rfl⟩ hl.1 (Nat.le_of_ble_eq_true rfl) d7_wantsShut_52 ?_
          refine lv_if_ne (tgt := 74) hx hb d7_wantsShut_55 (by decide) (fun hc6 => ?_) (fun hc6 => ?_)
          · have h0 := og_f hc6 h0
            refine lv_iconst (v := 1) hx hb d7_wantsShut_74 (by decide) ?_
            refine lv_goto (tgt := 79) hx hb d7_wantsShut_75 (by decide) ?_
            exact q_zpure S hr hlk (Or.inr rfl) h0 d7_wantsShut_79
          · have h0 := og_t hc6 h0
            refine lv_aload_n hx hb d7_wantsShut_58 rfl (lv_at hl 0 rfl) ?_
            refine lv_iload_n hx hb d7_wantsShut_59 rfl (lv_at hl 3 rfl) ?_
            obtain ⟨r7, hr7, h0⟩ := og_b h0
            refine k7_208 S hK hR  hr7 ⟨Nat.zero_le _, Nat.zero_le _⟩ ⟨Nat.le_of_ble_eq_true rfl, Nat.le_of_ble_eq_true rfl⟩ hl.1 (Nat.le_of_ble_eq_true rfl) d7_wantsShut_60 ?_
            refine lv_if_ne (tgt := 74) hx hb d7_wantsShut_63 (by decide) (fun hc8 => ?_) (fun hc8 => ?_)
            · have h0 := og_f hc8 h0
              refine lv_iconst (v := 1) hx hb d7_wantsShut_74 (by decide) ?_
              refine lv_goto (tgt := 79) hx hb d7_wantsShut_75 (by decide) ?_
              exact q_zpure S hr hlk (Or.inr rfl) h0 d7_wantsShut_79
            · have h0 := og_t hc8 h0
              refine lv_aload_n hx hb d7_wantsShut_66 rfl (lv_at hl 0 rfl) ?_
              refine lv_iload_n hx hb d7_wantsShut_67 rfl (lv_at hl 3 rfl) ?_
              obtain ⟨r9, hr9, h0⟩ := og_b h0
              refine k7_211 S hK hR  hr9 ⟨Nat.zero_le _, Nat.zero_le _⟩ ⟨Nat.le_of_ble_eq_true rfl, Nat.le_of_ble_eq_true rfl⟩ hl.1 (Nat.le_of_ble_eq_true rfl) d7_wantsShut_68 ?_
              refine lv_if_eq (tgt := 78) hx hb d7_wantsShut_71 (by decide) (fun hc10 => ?_) (fun hc10 => ?_)
              · have h0 := og_t hc10 h0
                refine lv_iconst (v := 0) hx hb d7_wantsShut_78 (by decide) ?_
                exact q_zpure S hr hlk (Or.inl rfl) h0 d7_wantsShut_79
              · have h0 := og_f hc10 h0
                refine lv_iconst (v := 1) hx hb d7_wantsShut_74 (by decide) ?_
                refine lv_goto (tgt := 79) hx hb d7_wantsShut_75 (by decide) ?_
                exact q_zpure S hr hlk (Or.inr rfl) h0 d7_wantsShut_79
        · have h0 := og_f hc4 h0
          refine q_tabD (tgt := 80) S d7_wantsShut_1 [0, 1, 2, 3] (by decide) (by decide) (List.forall_mem_cons.mpr ⟨ne_toInt hc1 (by decide), List.forall_mem_cons.mpr ⟨ne_toInt hc2 (by decide), List.forall_mem_cons.mpr ⟨ne_toInt hc3 (by decide), List.forall_mem_cons.mpr ⟨ne_toInt hc4 (by decide), fun _ hq => absurd hq List.not_mem_nil⟩⟩⟩⟩) (by decide) ?_
          refine lv_aload_n hx hb d7_wantsShut_80 rfl (lv_at hl 0 rfl) ?_
          refine lv_iload_n hx hb d7_wantsShut_81 rfl (lv_at hl 3 rfl) ?_
          refine lv_iload_n hx hb d7_wantsShut_82 rfl (lv_at hl 2 rfl) ?_
          obtain ⟨r5, hr5, h0⟩ := og_b h0
          refine k7_214 S hK hR  hr5 ⟨Nat.zero_le _, Nat.zero_le _⟩ ⟨Nat.le_of_ble_eq_true rfl, Nat.le_of_ble_eq_true rfl⟩ hl.1 (Nat.le_of_ble_eq_true rfl) d7_wantsShut_83 ?_
          obtain ⟨hb0, h0⟩ := og_if h0
          exact q_zpure S hr hlk hb0 h0 d7_wantsShut_86
set_option maxHeartbeats 4000000 in
set_option maxRecDepth 100000 in
theorem k7_220 {p : Program} {l : Launch} {e : Env} {R : Room} {s : State} {m : MethodId} {args : Array Value} {below : List Frame} {meth : Method} {c : Code} {H : Heap} {locs : List Loc} {cells slots : Nat} {Q : State → Prop} {cc : ByteArray} {pc nL : Nat} {ls : Array Slot} {rest : List Value} {w : WV} {σ : Mem} {x1 : Int32} {x2 : Int32} {x3 : Int32} {r : Int32} (S : CallFix p m c cc nL s args gtbl RX7) (hK : KS LM w s) (hR : Rp EM LM w σ H) (h0 : f7_wantsShut σ x1 x2 x3 = some r) (hf : cells + 0 ≤ R.cells ∧ slots + 0 ≤ R.slots) (hRm : rm7_wantsShut.frames + 1 ≤ R.frames ∧ 8 + (4 + 11) + rm7_wantsShut.locals ≤ R.locals) (hl : ls.size = nL) (hW : (rest.map fun v => v.category).sum ≤ 8) (hdg : decode cc pc = .ok (.invokevirtual 220, 3)) (kk : W p l e R s m args below meth c H locs cells slots Q (F0 m (pc + 3) ls (.int r :: rest))) : W p l e R s m args below meth c H locs cells slots Q (F0 m pc ls (.int x3 :: .int x2 :: .int x1 :: .ref (w.2.2 0) :: rest)) := r_endp (run_V (n := 3) (As := [.int x1, .int x2, .int x3]) S hK hR (by decide) (eM_7 w _) rfl (gw_V (gt_at 1123 (by decide +kernel) (by decide +kernel)) (gt_at 1125 (by decide +kernel) (by decide +kernel)) (gt_at 57 (by decide +kernel) (by decide +kernel)) (gt_at 86 (by decide +kernel) (by decide +kernel)) (gt_at 1126 (by decide +kernel) (by decide +kernel))) (by decide +kernel) rfl (c7_wantsShut l h0) ⟨rfl, rfl⟩ hRm hf hl rfl hW hdg) kk
/-! FourTenGatesModel.moveGates(III)V -/
abbrev rm7_moveGates : Room := { frames := 4, cells := 0, slots := 0, locals := 90 }
theorem d7_moveGates_0 : decode cX7_moveGates 0 = .ok (.aload_n 0, 1) := by decide +kernel
theorem d7_moveGates_1 : decode cX7_moveGates 1 = .ok (.getfield 182, 3) := by decide +kernel
theorem d7_moveGates_4 : decode cX7_moveGates 4 = .ok (.iconst 1, 1) := by decide +kernel
theorem d7_moveGates_5 : decode cX7_moveGates 5 = .ok (.if_icmp .ne 46, 3) := by decide +kernel
theorem d7_moveGates_8 : decode cX7_moveGates 8 = .ok (.aload_n 0, 1) := by decide +kernel
theorem d7_moveGates_9 : decode cX7_moveGates 9 = .ok (.dup, 1) := by decide +kernel
theorem d7_moveGates_10 : decode cX7_moveGates 10 = .ok (.getfield 185, 3) := by decide +kernel
theorem d7_moveGates_13 : decode cX7_moveGates 13 = .ok (.iconst 1, 1) := by decide +kernel
theorem d7_moveGates_14 : decode cX7_moveGates 14 = .ok (.iadd, 1) := by decide +kernel
theorem d7_moveGates_15 : decode cX7_moveGates 15 = .ok (.putfield 185, 3) := by decide +kernel
theorem d7_moveGates_18 : decode cX7_moveGates 18 = .ok (.aload_n 0, 1) := by decide +kernel
theorem d7_moveGates_19 : decode cX7_moveGates 19 = .ok (.aload_n 0, 1) := by decide +kernel
theorem d7_moveGates_20 : decode cX7_moveGates 20 = .ok (.getfield 185, 3) := by decide +kernel
theorem d7_moveGates_23 : decode cX7_moveGates 23 = .ok (.aload_n 0, 1) := by decide +kernel
theorem d7_moveGates_24 : decode cX7_moveGates 24 = .ok (.getfield 31, 3) := by decide +kernel
theorem d7_moveGates_27 : decode cX7_moveGates 27 = .ok (.iconst 0, 1) := by decide +kernel
theorem d7_moveGates_28 : decode cX7_moveGates 28 = .ok (.iaload, 1) := by decide +kernel
theorem d7_moveGates_29 : decode cX7_moveGates 29 = .ok (.if_icmp .ge 7, 3) := by decide +kernel
theorem d7_moveGates_32 : decode cX7_moveGates 32 = .ok (.iconst 1, 1) := by decide +kernel
theorem d7_moveGates_33 : decode cX7_moveGates 33 = .ok (.goto 15, 3) := by decide +kernel
theorem d7_moveGates_36 : decode cX7_moveGates 36 = .ok (.aload_n 0, 1) := by decide +kernel
theorem d7_moveGates_37 : decode cX7_moveGates 37 = .ok (.getfield 217, 3) := by decide +kernel
theorem d7_moveGates_40 : decode cX7_moveGates 40 = .ok (.ifCond .eq 7, 3) := by decide +kernel
theorem d7_moveGates_43 : decode cX7_moveGates 43 = .ok (.iconst 2, 1) := by decide +kernel
theorem d7_moveGates_44 : decode cX7_moveGates 44 = .ok (.goto 4, 3) := by decide +kernel
theorem d7_moveGates_47 : decode cX7_moveGates 47 = .ok (.iconst 0, 1) := by decide +kernel
theorem d7_moveGates_48 : decode cX7_moveGates 48 = .ok (.putfield 182, 3) := by decide +kernel
theorem d7_moveGates_51 : decode cX7_moveGates 51 = .ok (.aload_n 0, 1) := by decide +kernel
theorem d7_moveGates_52 : decode cX7_moveGates 52 = .ok (.iload_n 1, 1) := by decide +kernel
theorem d7_moveGates_53 : decode cX7_moveGates 53 = .ok (.iload_n 2, 1) := by decide +kernel
theorem d7_moveGates_54 : decode cX7_moveGates 54 = .ok (.iload_n 3, 1) := by decide +kernel
theorem d7_moveGates_55 : decode cX7_moveGates 55 = .ok (.invokevirtual 220, 3) := by decide +kernel
theorem d7_moveGates_58 : decode cX7_moveGates 58 = .ok (.istore 4, 2) := by decide +kernel
theorem d7_moveGates_60 : decode cX7_moveGates 60 = .ok (.aload_n 0, 1) := by decide +kernel
theorem d7_moveGates_61 : decode cX7_moveGates 61 = .ok (.getfield 182, 3) := by decide +kernel
theorem d7_moveGates_64 : decode cX7_moveGates 64 = .ok (.ifCond .ne 20, 3) := by decide +kernel
theorem d7_moveGates_67 : decode cX7_moveGates 67 = .ok (.iload 4, 2) := by decide +kernel
theorem d7_moveGates_69 : decode cX7_moveGates 69 = .ok (.ifCond .eq 15, 3) := by decide +kernel
theorem d7_moveGates_72 : decode cX7_moveGates 72 = .ok (.iload_n 3, 1) := by decide +kernel
theorem d7_moveGates_73 : decode cX7_moveGates 73 = .ok (.aload_n 0, 1) := by decide +kernel
theorem d7_moveGates_74 : decode cX7_moveGates 74 = .ok (.getfield 192, 3) := by decide +kernel
theorem d7_moveGates_77 : decode cX7_moveGates 77 = .ok (.if_icmp .lt 7, 3) := by decide +kernel
theorem d7_moveGates_80 : decode cX7_moveGates 80 = .ok (.iconst 1, 1) := by decide +kernel
theorem d7_moveGates_81 : decode cX7_moveGates 81 = .ok (.goto 4, 3) := by decide +kernel
theorem d7_moveGates_84 : decode cX7_moveGates 84 = .ok (.iconst 0, 1) := by decide +kernel
theorem d7_moveGates_85 : decode cX7_moveGates 85 = .ok (.istore 5, 2) := by decide +kernel
theorem d7_moveGates_87 : decode cX7_moveGates 87 = .ok (.aload_n 0, 1) := by decide +kernel
theorem d7_moveGates_88 : decode cX7_moveGates 88 = .ok (.getfield 182, 3) := by decide +kernel
theorem d7_moveGates_91 : decode cX7_moveGates 91 = .ok (.iconst 2, 1) := by decide +kernel
theorem d7_moveGates_92 : decode cX7_moveGates 92 = .ok (.if_icmp .ne 27, 3) := by decide +kernel
theorem d7_moveGates_95 : decode cX7_moveGates 95 = .ok (.iload 4, 2) := by decide +kernel
theorem d7_moveGates_97 : decode cX7_moveGates 97 = .ok (.ifCond .ne 22, 3) := by decide +kernel
theorem d7_moveGates_100 : decode cX7_moveGates 100 = .ok (.aload_n 0, 1) := by decide +kernel
theorem d7_moveGates_101 : decode cX7_moveGates 101 = .ok (.iload_n 3, 1) := by decide +kernel
theorem d7_moveGates_102 : decode cX7_moveGates 102 = .ok (.invokevirtual 199, 3) := by decide +kernel
theorem d7_moveGates_105 : decode cX7_moveGates 105 = .ok (.ifCond .ne 14, 3) := by decide +kernel
theorem d7_moveGates_108 : decode cX7_moveGates 108 = .ok (.aload_n 0, 1) := by decide +kernel
theorem d7_moveGates_109 : decode cX7_moveGates 109 = .ok (.getfield 188, 3) := by decide +kernel
theorem d7_moveGates_112 : decode cX7_moveGates 112 = .ok (.ifCond .ne 7, 3) := by decide +kernel
theorem d7_moveGates_115 : decode cX7_moveGates 115 = .ok (.iconst 1, 1) := by decide +kernel
theorem d7_moveGates_116 : decode cX7_moveGates 116 = .ok (.goto 4, 3) := by decide +kernel
theorem d7_moveGates_119 : decode cX7_moveGates 119 = .ok (.iconst 0, 1) := by decide +kernel
theorem d7_moveGates_120 : decode cX7_moveGates 120 = .ok (.istore 6, 2) := by decide +kernel
theorem d7_moveGates_122 : decode cX7_moveGates 122 = .ok (.iload 5, 2) := by decide +kernel
theorem d7_moveGates_124 : decode cX7_moveGates 124 = .ok (.ifCond .ne 8, 3) := by decide +kernel
theorem d7_moveGates_127 : decode cX7_moveGates 127 = .ok (.iload 6, 2) := by decide +kernel
theorem d7_moveGates_129 : decode cX7_moveGates 129 = .ok (.ifCond .eq 19, 3) := by decide +kernel
theorem d7_moveGates_132 : decode cX7_moveGates 132 = .ok (.aload_n 0, 1) := by decide +kernel
theorem d7_moveGates_133 : decode cX7_moveGates 133 = .ok (.iconst 1, 1) := by decide +kernel
theorem d7_moveGates_134 : decode cX7_moveGates 134 = .ok (.putfield 182, 3) := by decide +kernel
theorem d7_moveGates_137 : decode cX7_moveGates 137 = .ok (.aload_n 0, 1) := by decide +kernel
theorem d7_moveGates_138 : decode cX7_moveGates 138 = .ok (.iconst 0, 1) := by decide +kernel
theorem d7_moveGates_139 : decode cX7_moveGates 139 = .ok (.putfield 185, 3) := by decide +kernel
theorem d7_moveGates_142 : decode cX7_moveGates 142 = .ok (.aload_n 0, 1) := by decide +kernel
theorem d7_moveGates_143 : decode cX7_moveGates 143 = .ok (.iload 5, 2) := by decide +kernel
theorem d7_moveGates_145 : decode cX7_moveGates 145 = .ok (.putfield 217, 3) := by decide +kernel
theorem d7_moveGates_148 : decode cX7_moveGates 148 = .ok (.return_, 1) := by decide +kernel
def f7_moveGates_b132 (σ : Mem) (x5 : Int32) : Option Mem := bm (mu σ 0 32 1) fun σ1 => bm (mu σ1 0 33 0) fun σ2 => if x5 = 0 ∨ x5 = 1 then (bm (mu σ2 0 34 x5) fun σ3 => some σ3) else none
set_option maxHeartbeats 4000000 in
set_option maxRecDepth 100000 in
theorem t7_moveGates_b132 {p : Program} {l : Launch} {e : Env} {s : State} {m : MethodId} {args : Array Value} {below : List Frame} {meth : Method} {c : Code} {w : WV} {σ' : Mem} (S : CallFix p m c cX7_moveGates 7 s args gtbl RX7) (hr : meth.sig.returnType = none) (hlk : meth.locks = false) (hK : KS LM w s) : ∀ (σ : Mem) (x5 : Int32), f7_moveGates_b132  σ x5 = some σ' → ∀ (H : Heap) (locs : List Loc), Rp EM LM w σ H → va_S (AW LM w) s.heap H locs → ∀ (ls : Array Slot), lv_has ls 7 [(0, .ref (w.2.2 0)), (5, .int x5)] → W p l e rm7_moveGates s m args below meth c H locs 0 0 (MQ below (Qw EM LM w σ' none) args s 0 0 (AW LM w)) (F0 m 132 ls []) := by
  obtain ⟨hx, hb, hml, hown, hts⟩ := id S
  intro σ x5 h0 H locs hR hS ls hl
  unfold f7_moveGates_b132 at h0
  refine lv_aload_n hx hb d7_moveGates_132 rfl (lv_at hl 0 rfl) ?_
  refine lv_iconst (v := 1) hx hb d7_moveGates_133 (by decide) ?_
  obtain ⟨σ1, hm1, h0⟩ := og_m h0
  refine u7_182 S hK hR hS hm1 d7_moveGates_134 (fun H locs hR hS => ?_)
  refine lv_aload_n hx hb d7_moveGates_137 rfl (lv_at hl 0 rfl) ?_
  refine lv_iconst (v := 0) hx hb d7_moveGates_138 (by decide) ?_
  obtain ⟨σ2, hm2, h0⟩ := og_m h0
  refine u7_185 S hK hR hS hm2 d7_moveGates_139 (fun H locs hR hS => ?_)
  refine lv_aload_n hx hb d7_moveGates_142 rfl (lv_at hl 0 rfl) ?_
  refine lv_iload hx hb d7_moveGates_143 (lv_at hl 1 rfl) ?_
  obtain ⟨hb4, h0⟩ := og_if h0
  obtain ⟨σ3, hm3, h0⟩ := og_m h0
  refine u7_217 S hK hR hS hb4 hm3 d7_moveGates_145 (fun H locs hR hS => ?_)
  exact q_vret S hr hlk hR hS h0 d7_moveGates_148
def f7_moveGates_b120 (σ : Mem) (x5 : Int32) (s0 : Int32) : Option Mem := if x5 = 0 then if s0 = 0 then some σ else f7_moveGates_b132 σ x5 else f7_moveGates_b132 σ x5
set_option maxHeartbeats 4000000 in
set_option maxRecDepth 100000 in
theorem t7_moveGates_b120 {p : Program} {l : Launch} {e : Env} {s : State} {m : MethodId} {args : Array Value} {below : List Frame} {meth : Method} {c : Code} {w : WV} {σ' : Mem} (S : CallFix p m c cX7_moveGates 7 s args gtbl RX7) (hr : meth.sig.returnType = none) (hlk : meth.locks = false) (hK : KS LM w s) : ∀ (σ : Mem) (x5 : Int32) (s0 : Int32), f7_moveGates_b120  σ x5 s0 = some σ' → ∀ (H : Heap) (locs : List Loc), Rp EM LM w σ H → va_S (AW LM w) s.heap H locs → ∀ (ls : Array Slot), lv_has ls 7 [(0, .ref (w.2.2 0)), (5, .int x5)] → W p l e rm7_moveGates s m args below meth c H locs 0 0 (MQ below (Qw EM LM w σ' none) args s 0 0 (AW LM w)) (F0 m 120 ls [.int s0]) := by
  obtain ⟨hx, hb, hml, hown, hts⟩ := id S
  intro σ x5 s0 h0 H locs hR hS ls hl
  unfold f7_moveGates_b120 at h0
  refine lv_istore (lv' := [(6, .int s0), (0, .ref (w.2.2 0)), (5, .int x5)]) hx hb d7_moveGates_120 hl (by decide) rfl (fun ls hl => ?_)
  refine lv_iload hx hb d7_moveGates_122 (lv_at hl 2 rfl) ?_
  refine lv_if_ne (tgt := 132) hx hb d7_moveGates_124 (by decide) (fun hc1 => ?_) (fun hc1 => ?_)
  · have h0 := og_f hc1 h0
    exact t7_moveGates_b132 S hr hlk hK σ x5 h0 _ _ hR hS _ (lv_sub hl [1, 2] rfl)
  · have h0 := og_t hc1 h0
    refine lv_iload hx hb d7_moveGates_127 (lv_at hl 0 rfl) ?_
    refine lv_if_eq (tgt := 148) hx hb d7_moveGates_129 (by decide) (fun hc2 => ?_) (fun hc2 => ?_)
    · have h0 := og_t hc2 h0
      exact q_vret S hr hlk hR hS h0 d7_moveGates_148
    · have h0 := og_f hc2 h0
      exact t7_moveGates_b132 S hr hlk hK σ x5 h0 _ _ hR hS _ (lv_sub hl [1, 2] rfl)
def f7_moveGates_b119 (σ : Mem) (x5 : Int32) : Option Mem := f7_moveGates_b120 σ x5 0
set_option maxHeartbeats 4000000 in
set_option maxRecDepth 100000 in
theorem t7_moveGates_b119 {p : Program} {l : Launch} {e : Env} {s : State} {m : MethodId} {args : Array Value} {below : List Frame} {meth : Method} {c : Code} {w : WV} {σ' : Mem} (S : CallFix p m c cX7_moveGates 7 s args gtbl RX7) (hr : meth.sig.returnType = none) (hlk : meth.locks = false) (hK : KS LM w s) : ∀ (σ : Mem) (x5 : Int32), f7_moveGates_b119  σ x5 = some σ' → ∀ (H : Heap) (locs : List Loc), Rp EM LM w σ H → va_S (AW LM w) s.heap H locs → ∀ (ls : Array Slot), lv_has ls 7 [(0, .ref (w.2.2 0)), (5, .int x5)] → W p l e rm7_moveGates s m args below meth c H locs 0 0 (MQ below (Qw EM LM w σ' none) args s 0 0 (AW LM w)) (F0 m 119 ls []) := by
  obtain ⟨hx, hb, hml, hown, hts⟩ := id S
  intro σ x5 h0 H locs hR hS ls hl
  unfold f7_moveGates_b119 at h0
  refine lv_iconst (v := 0) hx hb d7_moveGates_119 (by decide) ?_
  exact t7_moveGates_b120 S hr hlk hK σ x5 0 h0 _ _ hR hS _ (lv_sub hl [0, 1] rfl)
def f7_moveGates_b85 (σ : Mem) (x3 : Int32) (x4 : Int32) (s0 : Int32) : Option Mem := if (σ 0 32) = 2 then if x4 = 0 then Option.bind (f7_isPassing σ x3) fun r3 => if r3 = 0 then if (σ 0 35) = 0 then f7_moveGates_b120 σ s0 1 else f7_moveGates_b119 σ s0 else f7_moveGates_b119 σ s0 else f7_moveGates_b119 σ s0 else f7_moveGates_b119 σ s0
set_option maxHeartbeats 4000000 in
set_option maxRecDepth 100000 in
theorem t7_moveGates_b85 {p : Program} {l : Launch} {e : Env} {s : State} {m : MethodId} {args : Array Value} {below : List Frame} {meth : Method} {c : Code} {w : WV} {σ' : Mem} (S : CallFix p m c cX7_moveGates 7 s args gtbl RX7) (hr : meth.sig.returnType = none) (hlk : meth.locks = false) (hK : KS LM w s) : ∀ (σ : Mem) (x3 : Int32) (x4 : Int32) (s0 : Int32), f7_moveGates_b85  σ x3 x4 s0 = some σ' → ∀ (H : Heap) (locs : List Loc), Rp EM LM w σ H → va_S (AW LM w) s.heap H locs → ∀ (ls : Array Slot), lv_has ls 7 [(0, .ref (w.2.2 0)), (3, .int x3), (4, .int x4)] → W p l e rm7_moveGates s m args below meth c H locs 0 0 (MQ below (Qw EM LM w σ' none) args s 0 0 (AW LM w)) (F0 m 85 ls [.int s0]) := by
  obtain ⟨hx, hb, hml, hown, hts⟩ := id S
  intro σ x3 x4 s0 h0 H locs hR hS ls hl
  unfold f7_moveGates_b85 at h0
  refine lv_istore (lv' := [(5, .int s0), (0, .ref (w.2.2 0)), (3, .int x3), (4, .int x4)]) hx hb d7_moveGates_85 hl (by decide) rfl (fun ls hl => ?_)
  refine lv_aload_n hx hb d7_moveGates_87 rfl (lv_at hl 1 rfl) ?_
  refine g7_182 S hK hR d7_moveGates_88 ?_
  refine lv_iconst (v := 2) hx hb d7_moveGates_91 (by decide) ?_
  refine lv_icmp_ne (tgt := 119) hx hb d7_moveGates_92 (by decide) (fun hc1 => ?_) (fun hc1 => ?_)
  · have h0 := og_f hc1 h0
    exact t7_moveGates_b119 S hr hlk hK σ s0 h0 _ _ hR hS _ (lv_sub hl [1, 0] rfl)
  · have h0 := og_t hc1 h0
    refine lv_iload hx hb d7_moveGates_95 (lv_at hl 3 rfl) ?_
    refine lv_if_ne (tgt := 119) hx hb d7_moveGates_97 (by decide) (fun hc2 => ?_) (fun hc2 => ?_)
    · have h0 := og_f hc2 h0
      exact t7_moveGates_b119 S hr hlk hK σ s0 h0 _ _ hR hS _ (lv_sub hl [1, 0] rfl)
    · have h0 := og_t hc2 h0
      refine lv_aload_n hx hb d7_moveGates_100 rfl (lv_at hl 1 rfl) ?_
      refine lv_iload_n hx hb d7_moveGates_101 rfl (lv_at hl 2 rfl) ?_
      obtain ⟨r3, hr3, h0⟩ := og_b h0
      refine k7_199 S hK hR  hr3 ⟨Nat.zero_le _, Nat.zero_le _⟩ ⟨Nat.le_of_ble_eq_true rfl, Nat.le_of_ble_eq_true rfl⟩ hl.1 (Nat.le_of_ble_eq_true rfl) d7_moveGates_102 ?_
      refine lv_if_ne (tgt := 119) hx hb d7_moveGates_105 (by decide) (fun hc4 => ?_) (fun hc4 => ?_)
      · have h0 := og_f hc4 h0
        exact t7_moveGates_b119 S hr hlk hK σ s0 h0 _ _ hR hS _ (lv_sub hl [1, 0] rfl)
      · have h0 := og_t hc4 h0
        refine lv_aload_n hx hb d7_moveGates_108 rfl (lv_at hl 1 rfl) ?_
        refine g7_188 S hK hR d7_moveGates_109 ?_
        refine lv_if_ne (tgt := 119) hx hb d7_moveGates_112 (by decide) (fun hc5 => ?_) (fun hc5 => ?_)
        · have h0 := og_f hc5 h0
          exact t7_moveGates_b119 S hr hlk hK σ s0 h0 _ _ hR hS _ (lv_sub hl [1, 0] rfl)
        · have h0 := og_t hc5 h0
          refine lv_iconst (v := 1) hx hb d7_moveGates_115 (by decide) ?_
          refine lv_goto (tgt := 120) hx hb d7_moveGates_116 (by decide) ?_
          exact t7_moveGates_b120 S hr hlk hK σ s0 1 h0 _ _ hR hS _ (lv_sub hl [1, 0] rfl)
def f7_moveGates_b84 (σ : Mem) (x3 : Int32) (x4 : Int32) : Option Mem := f7_moveGates_b85 σ x3 x4 0
set_option maxHeartbeats 4000000 in
set_option maxRecDepth 100000 in
theorem t7_moveGates_b84 {p : Program} {l : Launch} {e : Env} {s : State} {m : MethodId} {args : Array Value} {below : List Frame} {meth : Method} {c : Code} {w : WV} {σ' : Mem} (S : CallFix p m c cX7_moveGates 7 s args gtbl RX7) (hr : meth.sig.returnType = none) (hlk : meth.locks = false) (hK : KS LM w s) : ∀ (σ : Mem) (x3 : Int32) (x4 : Int32), f7_moveGates_b84  σ x3 x4 = some σ' → ∀ (H : Heap) (locs : List Loc), Rp EM LM w σ H → va_S (AW LM w) s.heap H locs → ∀ (ls : Array Slot), lv_has ls 7 [(0, .ref (w.2.2 0)), (3, .int x3), (4, .int x4)] → W p l e rm7_moveGates s m args below meth c H locs 0 0 (MQ below (Qw EM LM w σ' none) args s 0 0 (AW LM w)) (F0 m 84 ls []) := by
  obtain ⟨hx, hb, hml, hown, hts⟩ := id S
  intro σ x3 x4 h0 H locs hR hS ls hl
  unfold f7_moveGates_b84 at h0
  refine lv_iconst (v := 0) hx hb d7_moveGates_84 (by decide) ?_
  exact t7_moveGates_b85 S hr hlk hK σ x3 x4 0 h0 _ _ hR hS _ (lv_sub hl [0, 1, 2] rfl)
def f7_moveGates_b51 (σ : Mem) (x1 : Int32) (x2 : Int32) (x3 : Int32) : Option Mem := Option.bind (f7_wantsShut σ x1 x2 x3) fun r1 => if (σ 0 32) = 0 then if r1 = 0 then f7_moveGates_b84 σ x3 r1 else if x3 < (σ 0 36) then f7_moveGates_b84 σ x3 r1 else f7_moveGates_b85 σ x3 r1 1 else f7_moveGates_b84 σ x3 r1
set_option maxHeartbeats 4000000 in
set_option maxRecDepth 100000 in
theorem t7_moveGates_b51 {p : Program} {l : Launch} {e : Env} {s : State} {m : MethodId} {args : Array Value} {below : List Frame} {meth : Method} {c : Code} {w : WV} {σ' : Mem} (S : CallFix p m c cX7_moveGates 7 s args gtbl RX7) (hr : meth.sig.returnType = none) (hlk : meth.locks = false) (hK : KS LM w s) : ∀ (σ : Mem) (x1 : Int32) (x2 : Int32) (x3 : Int32), f7_moveGates_b51  σ x1 x2 x3 = some σ' → ∀ (H : Heap) (locs : List Loc), Rp EM LM w σ H → va_S (AW LM w) s.heap H locs → ∀ (ls : Array Slot), lv_has ls 7 [(0, .ref (w.2.2 0)), (1, .int x1), (2, .int x2), (3, .int x3)] → W p l e rm7_moveGates s m args below meth c H locs 0 0 (MQ below (Qw EM LM w σ' none) args s 0 0 (AW LM w)) (F0 m 51 ls []) := by
  obtain ⟨hx, hb, hml, hown, hts⟩ := id S
  intro σ x1 x2 x3 h0 H locs hR hS ls hl
  unfold f7_moveGates_b51 at h0
  refine lv_aload_n hx hb d7_moveGates_51 rfl (lv_at hl 0 rfl) ?_
  refine lv_iload_n hx hb d7_moveGates_52 rfl (lv_at hl 1 rfl) ?_
  refine lv_iload_n hx hb d7_moveGates_53 rfl (lv_at hl 2 rfl) ?_
  refine lv_iload_n hx hb d7_moveGates_54 rfl (lv_at hl 3 rfl) ?_
  obtain ⟨r1, hr1, h0⟩ := og_b h0
  refine k7_220 S hK hR  hr1 ⟨Nat.zero_le _, Nat.zero_le _⟩ ⟨Nat.le_of_ble_eq_true rfl, Nat.le_of_ble_eq_true rfl⟩ hl.1 (Nat.le_of_ble_eq_true rfl) d7_moveGates_55 ?_
  refine lv_istore (lv' := [(4, .int r1), (0, .ref (w.2.2 0)), (1, .int x1), (2, .int x2), (3, .int x3)]) hx hb d7_moveGates_58 hl (by decide) rfl (fun ls hl => ?_)
  refine lv_aload_n hx hb d7_moveGates_60 rfl (lv_at hl 1 rfl) ?_
  refine g7_182 S hK hR d7_moveGates_61 ?_
  refine lv_if_ne (tgt := 84) hx hb d7_moveGates_64 (by decide) (fun hc2 => ?_) (fun hc2 => ?_)
  · have h0 := og_f hc2 h0
    exact t7_moveGates_b84 S hr hlk hK σ x3 r1 h0 _ _ hR hS _ (lv_sub hl [1, 4, 0] rfl)
  · have h0 := og_t hc2 h0
    refine lv_iload hx hb d7_moveGates_67 (lv_at hl 0 rfl) ?_
    refine lv_if_eq (tgt := 84) hx hb d7_moveGates_69 (by decide) (fun hc3 => ?_) (fun hc3 => ?_)
    · have h0 := og_t hc3 h0
      exact t7_moveGates_b84 S hr hlk hK σ x3 r1 h0 _ _ hR hS _ (lv_sub hl [1, 4, 0] rfl)
    · have h0 := og_f hc3 h0
      refine lv_iload_n hx hb d7_moveGates_72 rfl (lv_at hl 4 rfl) ?_
      refine lv_aload_n hx hb d7_moveGates_73 rfl (lv_at hl 1 rfl) ?_
      refine g7_192 S hK hR d7_moveGates_74 ?_
      refine lv_icmp_lt (tgt := 84) hx hb d7_moveGates_77 (by decide) (fun hc4 => ?_) (fun hc4 => ?_)
      · have h0 := og_t hc4 h0
        exact t7_moveGates_b84 S hr hlk hK σ x3 r1 h0 _ _ hR hS _ (lv_sub hl [1, 4, 0] rfl)
      · have h0 := og_f hc4 h0
        refine lv_iconst (v := 1) hx hb d7_moveGates_80 (by decide) ?_
        refine lv_goto (tgt := 85) hx hb d7_moveGates_81 (by decide) ?_
        exact t7_moveGates_b85 S hr hlk hK σ x3 r1 1 h0 _ _ hR hS _ (lv_sub hl [1, 4, 0] rfl)
def f7_moveGates_b48 (σ : Mem) (x1 : Int32) (x2 : Int32) (x3 : Int32) (s1 : Int32) : Option Mem := bm (mu σ 0 32 s1) fun σ1 => f7_moveGates_b51 σ1 x1 x2 x3
set_option maxHeartbeats 4000000 in
set_option maxRecDepth 100000 in
theorem t7_moveGates_b48 {p : Program} {l : Launch} {e : Env} {s : State} {m : MethodId} {args : Array Value} {below : List Frame} {meth : Method} {c : Code} {w : WV} {σ' : Mem} (S : CallFix p m c cX7_moveGates 7 s args gtbl RX7) (hr : meth.sig.returnType = none) (hlk : meth.locks = false) (hK : KS LM w s) : ∀ (σ : Mem) (x1 : Int32) (x2 : Int32) (x3 : Int32) (s1 : Int32), f7_moveGates_b48  σ x1 x2 x3 s1 = some σ' → ∀ (H : Heap) (locs : List Loc), Rp EM LM w σ H → va_S (AW LM w) s.heap H locs → ∀ (ls : Array Slot), lv_has ls 7 [(0, .ref (w.2.2 0)), (1, .int x1), (2, .int x2), (3, .int x3)] → W p l e rm7_moveGates s m args below meth c H locs 0 0 (MQ below (Qw EM LM w σ' none) args s 0 0 (AW LM w)) (F0 m 48 ls [.int s1, .ref (w.2.2 0)]) := by
  obtain ⟨hx, hb, hml, hown, hts⟩ := id S
  intro σ x1 x2 x3 s1 h0 H locs hR hS ls hl
  unfold f7_moveGates_b48 at h0
  obtain ⟨σ1, hm1, h0⟩ := og_m h0
  refine u7_182 S hK hR hS hm1 d7_moveGates_48 (fun H locs hR hS => ?_)
  exact t7_moveGates_b51 S hr hlk hK σ1 x1 x2 x3 h0 _ _ hR hS _ (lv_sub hl [0, 1, 2, 3] rfl)
def f7_moveGates (σ : Mem) (x1 : Int32) (x2 : Int32) (x3 : Int32) : Option Mem := if (σ 0 32) = 1 then bm (mu σ 0 33 ((σ 0 33) + 1)) fun σ2 => if (σ2 9 0) ≤ (σ2 0 33) then if (σ2 0 34) = 0 then f7_moveGates_b48 σ2 x1 x2 x3 0 else f7_moveGates_b48 σ2 x1 x2 x3 2 else f7_moveGates_b48 σ2 x1 x2 x3 1 else f7_moveGates_b51 σ x1 x2 x3
set_option maxHeartbeats 4000000 in
set_option maxRecDepth 100000 in
theorem c7_moveGates (l : Launch) {w : WV} {σ : Mem} {x1 : Int32} {x2 : Int32} {x3 : Int32} {σ' : Mem} (h0 : f7_moveGates σ x1 x2 x3 = some σ') : Met l yX7_moveGates (wy yX7_moveGates cX7_moveGates 7 none) rm7_moveGates (Pw EM LM w [.ref (w.2.2 0), .int x1, .int x2, .int x3] σ) (Qw EM LM w σ' none) 0 0 (AW LM w) := by
  refine mk_met (by decide) (Nat.le_of_ble_eq_true rfl) ?_
  intro p e s m below meth c S hr hlk hK hR ls hl
  obtain ⟨hx, hb, hml, hown, hts⟩ := id S
  have hl : lv_has ls 7 [(0, .ref (w.2.2 0)), (1, .int x1), (2, .int x2), (3, .int x3)] := hl
  have hS : va_S (AW LM w) s.heap s.heap [] := va_S.rf
  unfold f7_moveGates at h0
  refine lv_aload_n hx hb d7_moveGates_0 rfl (lv_at hl 0 rfl) ?_
  refine g7_182 S hK hR d7_moveGates_1 ?_
  refine lv_iconst (v := 1) hx hb d7_moveGates_4 (by decide) ?_
  refine lv_icmp_ne (tgt := 51) hx hb d7_moveGates_5 (by decide) (fun hc1 => ?_) (fun hc1 => ?_)
  · have h0 := og_f hc1 h0
    exact t7_moveGates_b51 S hr hlk hK σ x1 x2 x3 h0 _ _ hR hS _ (lv_sub hl [0, 1, 2, 3] rfl)
  · have h0 := og_t hc1 h0
    refine lv_aload_n hx hb d7_moveGates_8 rfl (lv_at hl 0 rfl) ?_
    refine lv_dup hx hb d7_moveGates_9 rfl ?_
    refine g7_185 S hK hR d7_moveGates_10 ?_
    refine lv_iconst (v := 1) hx hb d7_moveGates_13 (by decide) ?_
    refine lv_iadd hx hb d7_moveGates_14 ?_
    obtain ⟨σ2, hm2, h0⟩ := og_m h0
    refine u7_185 S hK hR hS hm2 d7_moveGates_15 (fun H locs hR hS => ?_)
    refine lv_aload_n hx hb d7_moveGates_18 rfl (lv_at hl 0 rfl) ?_
    refine lv_aload_n hx hb d7_moveGates_19 rfl (lv_at hl 0 rfl) ?_
    refine g7_185 S hK hR d7_moveGates_20 ?_
    refine lv_aload_n hx hb d7_moveGates_23 rfl (lv_at hl 0 rfl) ?_
    refine g7_31 S hK hR d7_moveGates_24 ?_
    refine lv_iconst (v := 0) hx hb d7_moveGates_27 (by decide) ?_
    refine q_ld (k := 0) S hK hR (by decide) (eM_108 w _) (vin (by decide)) (by decide) d7_moveGates_28 ?_
    refine lv_icmp_ge (tgt := 36) hx hb d7_moveGates_29 (by decide) (fun hc3 => ?_) (fun hc3 => ?_)
    · have h0 := og_t hc3 h0
      refine lv_aload_n hx hb d7_moveGates_36 rfl (lv_at hl 0 rfl) ?_
      refine g7_217 S hK hR d7_moveGates_37 ?_
      refine lv_if_eq (tgt := 47) hx hb d7_moveGates_40 (by decide) (fun hc4 => ?_) (fun hc4 => ?_)
      · have h0 := og_t hc4 h0
        refine lv_iconst (v := 0) hx hb d7_moveGates_47 (by decide) ?_
        exact t7_moveGates_b48 S hr hlk hK σ2 x1 x2 x3 0 h0 _ _ hR hS _ (lv_sub hl [0, 1, 2, 3] rfl)
      · have h0 := og_f hc4 h0
        refine lv_iconst (v := 2) hx hb d7_moveGates_43 (by decide) ?_
        refine lv_goto (tgt := 48) hx hb d7_moveGates_44 (by decide) ?_
        exact t7_moveGates_b48 S hr hlk hK σ2 x1 x2 x3 2 h0 _ _ hR hS _ (lv_sub hl [0, 1, 2, 3] rfl)
    · have h0 := og_f hc3 h0
      refine lv_iconst (v := 1) hx hb d7_moveGates_32 (by decide) ?_
      refine lv_goto (tgt := 48) hx hb d7_moveGates_33 (by decide) ?_
      exact t7_moveGates_b48 S hr hlk hK σ2 x1 x2 x3 1 h0 _ _ hR hS _ (lv_sub hl [0, 1, 2, 3] rfl)
set_option maxHeartbeats 4000000 in
set_option maxRecDepth 100000 in
theorem k7_236 {p : Program} {l : Launch} {e : Env} {R : Room} {s : State} {m : MethodId} {args : Array Value} {below : List Frame} {meth : Method} {c : Code} {H : Heap} {locs : List Loc} {cells slots : Nat} {Q : State → Prop} {cc : ByteArray} {pc nL : Nat} {ls : Array Slot} {rest : List Value} {w : WV} {σ : Mem} {x1 : Int32} {x2 : Int32} {x3 : Int32} {σ1 : Mem} (S : CallFix p m c cc nL s args gtbl RX7) (hK : KS LM w s) (hR : Rp EM LM w σ H) (hS : va_S (AW LM w) s.heap H locs) (h0 : f7_moveGates σ x1 x2 x3 = some σ1) (hf : cells + 0 ≤ R.cells ∧ slots + 0 ≤ R.slots) (hRm : rm7_moveGates.frames + 1 ≤ R.frames ∧ 8 + (7 + 11) + rm7_moveGates.locals ≤ R.locals) (hl : ls.size = nL) (hW : (rest.map fun v => v.category).sum ≤ 8) (hdg : decode cc pc = .ok (.invokevirtual 236, 3)) (kk : ∀ (H1 : Heap) (locs1 : List Loc), Rp EM LM w σ1 H1 → va_S (AW LM w) s.heap H1 locs1 → W p l e R s m args below meth c H1 locs1 cells slots Q (F0 m (pc + 3) ls (rest))) : W p l e R s m args below meth c H locs cells slots Q (F0 m pc ls (.int x3 :: .int x2 :: .int x1 :: .ref (w.2.2 0) :: rest)) := r_end hS (run_V (n := 3) (As := [.int x1, .int x2, .int x3]) S hK hR (by decide) (eM_7 w _) rfl (gw_V (gt_at 1119 (by decide +kernel) (by decide +kernel)) (gt_at 1121 (by decide +kernel) (by decide +kernel)) (gt_at 56 (by decide +kernel) (by decide +kernel)) (gt_at 86 (by decide +kernel) (by decide +kernel)) (gt_at 1122 (by decide +kernel) (by decide +kernel))) (by decide +kernel) rfl (c7_moveGates l h0) ⟨rfl, rfl⟩ hRm hf hl rfl hW hdg) kk
/-! FourTenGatesModel.goTrains(I)V -/
abbrev rm7_goTrains : Room := { frames := 1, cells := 0, slots := 0, locals := 23 }
theorem d7_goTrains_0 : decode cX7_goTrains 0 = .ok (.aload_n 0, 1) := by decide +kernel
theorem d7_goTrains_1 : decode cX7_goTrains 1 = .ok (.iconst 0, 1) := by decide +kernel
theorem d7_goTrains_2 : decode cX7_goTrains 2 = .ok (.putfield 188, 3) := by decide +kernel
theorem d7_goTrains_5 : decode cX7_goTrains 5 = .ok (.iconst 0, 1) := by decide +kernel
theorem d7_goTrains_6 : decode cX7_goTrains 6 = .ok (.istore_n 2, 1) := by decide +kernel
theorem d7_goTrains_7 : decode cX7_goTrains 7 = .ok (.iload_n 2, 1) := by decide +kernel
theorem d7_goTrains_8 : decode cX7_goTrains 8 = .ok (.aload_n 0, 1) := by decide +kernel
theorem d7_goTrains_9 : decode cX7_goTrains 9 = .ok (.getfield 13, 3) := by decide +kernel
theorem d7_goTrains_12 : decode cX7_goTrains 12 = .ok (.iconst 0, 1) := by decide +kernel
theorem d7_goTrains_13 : decode cX7_goTrains 13 = .ok (.iaload, 1) := by decide +kernel
theorem d7_goTrains_14 : decode cX7_goTrains 14 = .ok (.if_icmp .ge 76, 3) := by decide +kernel
theorem d7_goTrains_17 : decode cX7_goTrains 17 = .ok (.aload_n 0, 1) := by decide +kernel
theorem d7_goTrains_18 : decode cX7_goTrains 18 = .ok (.iload_n 2, 1) := by decide +kernel
theorem d7_goTrains_19 : decode cX7_goTrains 19 = .ok (.invokevirtual 170, 3) := by decide +kernel
theorem d7_goTrains_22 : decode cX7_goTrains 22 = .ok (.iload_n 1, 1) := by decide +kernel
theorem d7_goTrains_23 : decode cX7_goTrains 23 = .ok (.if_icmp .gt 61, 3) := by decide +kernel
theorem d7_goTrains_26 : decode cX7_goTrains 26 = .ok (.aload_n 0, 1) := by decide +kernel
theorem d7_goTrains_27 : decode cX7_goTrains 27 = .ok (.getfield 76, 3) := by decide +kernel
theorem d7_goTrains_30 : decode cX7_goTrains 30 = .ok (.iload_n 2, 1) := by decide +kernel
theorem d7_goTrains_31 : decode cX7_goTrains 31 = .ok (.iaload, 1) := by decide +kernel
theorem d7_goTrains_32 : decode cX7_goTrains 32 = .ok (.ifCond .ge 52, 3) := by decide +kernel
theorem d7_goTrains_35 : decode cX7_goTrains 35 = .ok (.aload_n 0, 1) := by decide +kernel
theorem d7_goTrains_36 : decode cX7_goTrains 36 = .ok (.getfield 182, 3) := by decide +kernel
theorem d7_goTrains_39 : decode cX7_goTrains 39 = .ok (.iconst 2, 1) := by decide +kernel
theorem d7_goTrains_40 : decode cX7_goTrains 40 = .ok (.if_icmp .ne 29, 3) := by decide +kernel
theorem d7_goTrains_43 : decode cX7_goTrains 43 = .ok (.aload_n 0, 1) := by decide +kernel
theorem d7_goTrains_44 : decode cX7_goTrains 44 = .ok (.iload_n 1, 1) := by decide +kernel
theorem d7_goTrains_45 : decode cX7_goTrains 45 = .ok (.invokevirtual 199, 3) := by decide +kernel
theorem d7_goTrains_48 : decode cX7_goTrains 48 = .ok (.ifCond .ne 21, 3) := by decide +kernel
theorem d7_goTrains_51 : decode cX7_goTrains 51 = .ok (.iload_n 1, 1) := by decide +kernel
theorem d7_goTrains_52 : decode cX7_goTrains 52 = .ok (.aload_n 0, 1) := by decide +kernel
theorem d7_goTrains_53 : decode cX7_goTrains 53 = .ok (.getfield 192, 3) := by decide +kernel
theorem d7_goTrains_56 : decode cX7_goTrains 56 = .ok (.if_icmp .lt 13, 3) := by decide +kernel
theorem d7_goTrains_59 : decode cX7_goTrains 59 = .ok (.aload_n 0, 1) := by decide +kernel
theorem d7_goTrains_60 : decode cX7_goTrains 60 = .ok (.getfield 76, 3) := by decide +kernel
theorem d7_goTrains_63 : decode cX7_goTrains 63 = .ok (.iload_n 2, 1) := by decide +kernel
theorem d7_goTrains_64 : decode cX7_goTrains 64 = .ok (.iload_n 1, 1) := by decide +kernel
theorem d7_goTrains_65 : decode cX7_goTrains 65 = .ok (.iastore, 1) := by decide +kernel
theorem d7_goTrains_66 : decode cX7_goTrains 66 = .ok (.goto 18, 3) := by decide +kernel
theorem d7_goTrains_69 : decode cX7_goTrains 69 = .ok (.aload_n 0, 1) := by decide +kernel
theorem d7_goTrains_70 : decode cX7_goTrains 70 = .ok (.getfield 79, 3) := by decide +kernel
theorem d7_goTrains_73 : decode cX7_goTrains 73 = .ok (.iload_n 2, 1) := by decide +kernel
theorem d7_goTrains_74 : decode cX7_goTrains 74 = .ok (.dup2, 1) := by decide +kernel
theorem d7_goTrains_75 : decode cX7_goTrains 75 = .ok (.iaload, 1) := by decide +kernel
theorem d7_goTrains_76 : decode cX7_goTrains 76 = .ok (.iconst 1, 1) := by decide +kernel
theorem d7_goTrains_77 : decode cX7_goTrains 77 = .ok (.iadd, 1) := by decide +kernel
theorem d7_goTrains_78 : decode cX7_goTrains 78 = .ok (.iastore, 1) := by decide +kernel
theorem d7_goTrains_79 : decode cX7_goTrains 79 = .ok (.aload_n 0, 1) := by decide +kernel
theorem d7_goTrains_80 : decode cX7_goTrains 80 = .ok (.iconst 1, 1) := by decide +kernel
theorem d7_goTrains_81 : decode cX7_goTrains 81 = .ok (.putfield 188, 3) := by decide +kernel
theorem d7_goTrains_84 : decode cX7_goTrains 84 = .ok (.iinc 2 1, 3) := by decide +kernel
theorem d7_goTrains_87 : decode cX7_goTrains 87 = .ok (.goto (-80), 3) := by decide +kernel
theorem d7_goTrains_90 : decode cX7_goTrains 90 = .ok (.return_, 1) := by decide +kernel
def f7_goTrains_b69 (k7 : Mem → Int32 → Int32 → Option Mem) (σ : Mem) (x1 : Int32) (x2 : Int32) : Option Mem := if ¬ (x2 < 0 ∨ 6 ≤ x2.toNatClampNeg) then if ¬ (x2 < 0 ∨ 6 ≤ x2.toNatClampNeg) then (bm (mu σ 29 x2.toNatClampNeg ((σ 29 x2.toNatClampNeg) + 1)) fun σ3 => bm (mu σ3 0 35 1) fun σ4 => k7 σ4 x1 (x2 + 1)) else none else none
set_option maxHeartbeats 4000000 in
set_option maxRecDepth 100000 in
theorem t7_goTrains_b69 {p : Program} {l : Launch} {e : Env} {s : State} {m : MethodId} {args : Array Value} {below : List Frame} {meth : Method} {c : Code} {w : WV} {σ' : Mem} {k7 : Mem → Int32 → Int32 → Option Mem} (S : CallFix p m c cX7_goTrains 3 s args gtbl RX7) (hr : meth.sig.returnType = none) (hlk : meth.locks = false) (hK : KS LM w s) (hk7 : ∀ (σ : Mem) (x1 : Int32) (x2 : Int32), k7 σ x1 x2 = some σ' → ∀ (H : Heap) (locs : List Loc), Rp EM LM w σ H → va_S (AW LM w) s.heap H locs → ∀ (ls : Array Slot), lv_has ls 3 [(0, .ref (w.2.2 0)), (1, .int x1), (2, .int x2)] → W p l e rm7_goTrains s m args below meth c H locs 0 0 (MQ below (Qw EM LM w σ' none) args s 0 0 (AW LM w)) (F0 m 7 ls [])) : ∀ (σ : Mem) (x1 : Int32) (x2 : Int32), f7_goTrains_b69 k7 σ x1 x2 = some σ' → ∀ (H : Heap) (locs : List Loc), Rp EM LM w σ H → va_S (AW LM w) s.heap H locs → ∀ (ls : Array Slot), lv_has ls 3 [(0, .ref (w.2.2 0)), (1, .int x1), (2, .int x2)] → W p l e rm7_goTrains s m args below meth c H locs 0 0 (MQ below (Qw EM LM w σ' none) args s 0 0 (AW LM w)) (F0 m 69 ls []) := by
  obtain ⟨hx, hb, hml, hown, hts⟩ := id S
  intro σ x1 x2 h0 H locs hR hS ls hl
  unfold f7_goTrains_b69 at h0
  refine lv_aload_n hx hb d7_goTrains_69 rfl (lv_at hl 0 rfl) ?_
  refine g7_79 S hK hR d7_goTrains_70 ?_
  refine lv_iload_n hx hb d7_goTrains_73 rfl (lv_at hl 2 rfl) ?_
  refine lv_dup2_11 hx hb d7_goTrains_74 rfl rfl ?_
  obtain ⟨hi1, h0⟩ := og_if h0
  refine q_ld (k := x2.toNatClampNeg) S hK hR (by decide) (eM_128 w _) hi1 rfl d7_goTrains_75 ?_
  refine lv_iconst (v := 1) hx hb d7_goTrains_76 (by decide) ?_
  refine lv_iadd hx hb d7_goTrains_77 ?_
  obtain ⟨hi2, h0⟩ := og_if h0
  obtain ⟨σ3, hm3, h0⟩ := og_m h0
  refine q_st S hK hR hS (by decide) (eM_128 w) hi2 rfl hm3 d7_goTrains_78 (fun H locs hR hS => ?_)
  refine lv_aload_n hx hb d7_goTrains_79 rfl (lv_at hl 0 rfl) ?_
  refine lv_iconst (v := 1) hx hb d7_goTrains_80 (by decide) ?_
  obtain ⟨σ4, hm4, h0⟩ := og_m h0
  refine u7_188 S hK hR hS (Or.inr rfl) hm4 d7_goTrains_81 (fun H locs hR hS => ?_)
  refine lv_iinc (v := x2 + 1) (lv' := [(2, .int (x2 + 1)), (0, .ref (w.2.2 0)), (1, .int x1)]) hx hb d7_goTrains_84 hl (k := 2) rfl (ii1 _) (by decide) rfl (fun ls hl => ?_)
  refine lv_goto (tgt := 7) hx hb d7_goTrains_87 (by decide) ?_
  exact hk7 σ4 x1 (x2 + 1) h0 _ _ hR hS _ (lv_sub hl [1, 2, 0] rfl)
def f7_goTrains_b7 : Nat → Mem → Int32 → Int32 → Option Mem
  | 0, _, _, _ => none
  | n + 1, σ, x1, x2 => if (σ 3 0) ≤ x2 then some σ else Option.bind (f7_comesAt σ x2) fun r2 => if x1 < r2 then f7_goTrains_b7 n σ x1 (x2 + 1) else if ¬ (x2 < 0 ∨ 6 ≤ x2.toNatClampNeg) then if 0 ≤ (σ 28 x2.toNatClampNeg) then f7_goTrains_b7 n σ x1 (x2 + 1) else if (σ 0 32) = 2 then Option.bind (f7_isPassing σ x1) fun r7 => if r7 = 0 then if x1 < (σ 0 36) then f7_goTrains_b69 (f7_goTrains_b7 n) σ x1 x2 else if ¬ (x2 < 0 ∨ 6 ≤ x2.toNatClampNeg) then (bm (mu σ 28 x2.toNatClampNeg x1) fun σ11 => f7_goTrains_b7 n σ11 x1 (x2 + 1)) else none else f7_goTrains_b69 (f7_goTrains_b7 n) σ x1 x2 else f7_goTrains_b69 (f7_goTrains_b7 n) σ x1 x2 else none
set_option maxHeartbeats 4000000 in
set_option maxRecDepth 100000 in
theorem t7_goTrains_b7 {p : Program} {l : Launch} {e : Env} {s : State} {m : MethodId} {args : Array Value} {below : List Frame} {meth : Method} {c : Code} {w : WV} {σ' : Mem} (S : CallFix p m c cX7_goTrains 3 s args gtbl RX7) (hr : meth.sig.returnType = none) (hlk : meth.locks = false) (hK : KS LM w s) : ∀ (n : Nat), ∀ (σ : Mem) (x1 : Int32) (x2 : Int32), f7_goTrains_b7  n σ x1 x2 = some σ' → ∀ (H : Heap) (locs : List Loc), Rp EM LM w σ H → va_S (AW LM w) s.heap H locs → ∀ (ls : Array Slot), lv_has ls 3 [(0, .ref (w.2.2 0)), (1, .int x1), (2, .int x2)] → W p l e rm7_goTrains s m args below meth c H locs 0 0 (MQ below (Qw EM LM w σ' none) args s 0 0 (AW LM w)) (F0 m 7 ls []) := by
  obtain ⟨hx, hb, hml, hown, hts⟩ := id S
  intro n
  induction n with
  | zero =>
    intro σ x1 x2 h0
    cases (show none = _ from h0)
  | succ n ih =>
    intro σ x1 x2 h0 H locs hR hS ls hl
    rw [f7_goTrains_b7] at h0
    refine lv_iload_n hx hb d7_goTrains_7 rfl (lv_at hl 2 rfl) ?_
    refine lv_aload_n hx hb d7_goTrains_8 rfl (lv_at hl 0 rfl) ?_
    refine g7_13 S hK hR d7_goTrains_9 ?_
    refine lv_iconst (v := 0) hx hb d7_goTrains_12 (by decide) ?_
    refine q_ld (k := 0) S hK hR (by decide) (eM_102 w _) (vin (by decide)) (by decide) d7_goTrains_13 ?_
    refine lv_icmp_ge (tgt := 90) hx hb d7_goTrains_14 (by decide) (fun hc1 => ?_) (fun hc1 => ?_)
    · have h0 := og_t hc1 h0
      exact q_vret S hr hlk hR hS h0 d7_goTrains_90
    · have h0 := og_f hc1 h0
      refine lv_aload_n hx hb d7_goTrains_17 rfl (lv_at hl 0 rfl) ?_
      refine lv_iload_n hx hb d7_goTrains_18 rfl (lv_at hl 2 rfl) ?_
      obtain ⟨r2, hr2, h0⟩ := og_b h0
      refine k7_170 S hK hR  hr2 ⟨Nat.zero_le _, Nat.zero_le _⟩ ⟨Nat.le_of_ble_eq_true rfl, Nat.le_of_ble_eq_true rfl⟩ hl.1 (Nat.le_of_ble_eq_true rfl) d7_goTrains_19 ?_
      refine lv_iload_n hx hb d7_goTrains_22 rfl (lv_at hl 1 rfl) ?_
      refine lv_icmp_gt (tgt := 84) hx hb d7_goTrains_23 (by decide) (fun hc3 => ?_) (fun hc3 => ?_)
      · have h0 := og_t hc3 h0
        refine lv_iinc (v := x2 + 1) (lv' := [(2, .int (x2 + 1)), (0, .ref (w.2.2 0)), (1, .int x1)]) hx hb d7_goTrains_84 hl (k := 2) rfl (ii1 _) (by decide) rfl (fun ls hl => ?_)
        refine lv_goto (tgt := 7) hx hb d7_goTrains_87 (by decide) ?_
        exact ih σ x1 (x2 + 1) h0 _ _ hR hS _ (lv_sub hl [1, 2, 0] rfl)
      · have h0 := og_f hc3 h0
        refine lv_aload_n hx hb d7_goTrains_26 rfl (lv_at hl 0 rfl) ?_
        refine g7_76 S hK hR d7_goTrains_27 ?_
        refine lv_iload_n hx hb d7_goTrains_30 rfl (lv_at hl 2 rfl) ?_
        obtain ⟨hi4, h0⟩ := og_if h0
        refine q_ld (k := x2.toNatClampNeg) S hK hR (by decide) (eM_127 w _) hi4 rfl d7_goTrains_31 ?_
        refine lv_if_ge (tgt := 84) hx hb d7_goTrains_32 (by decide) (fun hc5 => ?_) (fun hc5 => ?_)
        · have h0 := og_t hc5 h0
          refine lv_iinc (v := x2 + 1) (lv' := [(2, .int (x2 + 1)), (0, .ref (w.2.2 0)), (1, .int x1)]) hx hb d7_goTrains_84 hl (k := 2) rfl (ii1 _) (by decide) rfl (fun ls hl => ?_)
          refine lv_goto (tgt := 7) hx hb d7_goTrains_87 (by decide) ?_
          exact ih σ x1 (x2 + 1) h0 _ _ hR hS _ (lv_sub hl [1, 2, 0] rfl)
        · have h0 := og_f hc5 h0
          refine lv_aload_n hx hb d7_goTrains_35 rfl (lv_at hl 0 rfl) ?_
          refine g7_182 S hK hR d7_goTrains_36 ?_
          refine lv_iconst (v := 2) hx hb d7_goTrains_39 (by decide) ?_
          refine lv_icmp_ne (tgt := 69) hx hb d7_goTrains_40 (by decide) (fun hc6 => ?_) (fun hc6 => ?_)
          · have h0 := og_f hc6 h0
            exact t7_goTrains_b69 S hr hlk hK ih σ x1 x2 h0 _ _ hR hS _ (lv_sub hl [0, 1, 2] rfl)
          · have h0 := og_t hc6 h0
            refine lv_aload_n hx hb d7_goTrains_43 rfl (lv_at hl 0 rfl) ?_
            refine lv_iload_n hx hb d7_goTrains_44 rfl (lv_at hl 1 rfl) ?_
            obtain ⟨r7, hr7, h0⟩ := og_b h0
            refine k7_199 S hK hR  hr7 ⟨Nat.zero_le _, Nat.zero_le _⟩ ⟨Nat.le_of_ble_eq_true rfl, Nat.le_of_ble_eq_true rfl⟩ hl.1 (Nat.le_of_ble_eq_true rfl) d7_goTrains_45 ?_
            refine lv_if_ne (tgt := 69) hx hb d7_goTrains_48 (by decide) (fun hc8 => ?_) (fun hc8 => ?_)
            · have h0 := og_f hc8 h0
              exact t7_goTrains_b69 S hr hlk hK ih σ x1 x2 h0 _ _ hR hS _ (lv_sub hl [0, 1, 2] rfl)
            · have h0 := og_t hc8 h0
              refine lv_iload_n hx hb d7_goTrains_51 rfl (lv_at hl 1 rfl) ?_
              refine lv_aload_n hx hb d7_goTrains_52 rfl (lv_at hl 0 rfl) ?_
              refine g7_192 S hK hR d7_goTrains_53 ?_
              refine lv_icmp_lt (tgt := 69) hx hb d7_goTrains_56 (by decide) (fun hc9 => ?_) (fun hc9 => ?_)
              · have h0 := og_t hc9 h0
                exact t7_goTrains_b69 S hr hlk hK ih σ x1 x2 h0 _ _ hR hS _ (lv_sub hl [0, 1, 2] rfl)
              · have h0 := og_f hc9 h0
                refine lv_aload_n hx hb d7_goTrains_59 rfl (lv_at hl 0 rfl) ?_
                refine g7_76 S hK hR d7_goTrains_60 ?_
                refine lv_iload_n hx hb d7_goTrains_63 rfl (lv_at hl 2 rfl) ?_
                refine lv_iload_n hx hb d7_goTrains_64 rfl (lv_at hl 1 rfl) ?_
                obtain ⟨hi10, h0⟩ := og_if h0
                obtain ⟨σ11, hm11, h0⟩ := og_m h0
                refine q_st S hK hR hS (by decide) (eM_127 w) hi10 rfl hm11 d7_goTrains_65 (fun H locs hR hS => ?_)
                refine lv_goto (tgt := 84) hx hb d7_goTrains_66 (by decide) ?_
                refine lv_iinc (v := x2 + 1) (lv' := [(2, .int (x2 + 1)), (0, .ref (w.2.2 0)), (1, .int x1)]) hx hb d7_goTrains_84 hl (k := 2) rfl (ii1 _) (by decide) rfl (fun ls hl => ?_)
                refine lv_goto (tgt := 7) hx hb d7_goTrains_87 (by decide) ?_
                exact ih σ11 x1 (x2 + 1) h0 _ _ hR hS _ (lv_sub hl [1, 2, 0] rfl)
def f7_goTrains (σ : Mem) (x1 : Int32) : Option Mem := bm (mu σ 0 35 0) fun σ1 => f7_goTrains_b7 1000 σ1 x1 0
set_option maxHeartbeats 4000000 in
set_option maxRecDepth 100000 in
theorem c7_goTrains (l : Launch) {w : WV} {σ : Mem} {x1 : Int32} {σ' : Mem} (h0 : f7_goTrains σ x1 = some σ') : Met l yX7_goTrains (wy yX7_goTrains cX7_goTrains 3 none) rm7_goTrains (Pw EM LM w [.ref (w.2.2 0), .int x1] σ) (Qw EM LM w σ' none) 0 0 (AW LM w) := by
  refine mk_met (by decide) (Nat.le_of_ble_eq_true rfl) ?_
  intro p e s m below meth c S hr hlk hK hR ls hl
  obtain ⟨hx, hb, hml, hown, hts⟩ := id S
  have hl : lv_has ls 3 [(0, .ref (w.2.2 0)), (1, .int x1)] := hl
  have hS : va_S (AW LM w) s.heap s.heap [] := va_S.rf
  unfold f7_goTrains at h0
  refine lv_aload_n hx hb d7_goTrains_0 rfl (lv_at hl 0 rfl) ?_
  refine lv_iconst (v := 0) hx hb d7_goTrains_1 (by decide) ?_
  obtain ⟨σ1, hm1, h0⟩ := og_m h0
  refine u7_188 S hK hR hS (Or.inl rfl) hm1 d7_goTrains_2 (fun H locs hR hS => ?_)
  refine lv_iconst (v := 0) hx hb d7_goTrains_5 (by decide) ?_
  refine lv_istore_n (lv' := [(2, .int 0), (0, .ref (w.2.2 0)), (1, .int x1)]) hx hb d7_goTrains_6 rfl hl (by decide) rfl (fun ls hl => ?_)
  exact t7_goTrains_b7 S hr hlk hK 1000 σ1 x1 0 h0 _ _ hR hS _ (lv_sub hl [1, 2, 0] rfl)
set_option maxHeartbeats 4000000 in
set_option maxRecDepth 100000 in
theorem k7_239 {p : Program} {l : Launch} {e : Env} {R : Room} {s : State} {m : MethodId} {args : Array Value} {below : List Frame} {meth : Method} {c : Code} {H : Heap} {locs : List Loc} {cells slots : Nat} {Q : State → Prop} {cc : ByteArray} {pc nL : Nat} {ls : Array Slot} {rest : List Value} {w : WV} {σ : Mem} {x1 : Int32} {σ1 : Mem} (S : CallFix p m c cc nL s args gtbl RX7) (hK : KS LM w s) (hR : Rp EM LM w σ H) (hS : va_S (AW LM w) s.heap H locs) (h0 : f7_goTrains σ x1 = some σ1) (hf : cells + 0 ≤ R.cells ∧ slots + 0 ≤ R.slots) (hRm : rm7_goTrains.frames + 1 ≤ R.frames ∧ 8 + (3 + 11) + rm7_goTrains.locals ≤ R.locals) (hl : ls.size = nL) (hW : (rest.map fun v => v.category).sum ≤ 8) (hdg : decode cc pc = .ok (.invokevirtual 239, 3)) (kk : ∀ (H1 : Heap) (locs1 : List Loc), Rp EM LM w σ1 H1 → va_S (AW LM w) s.heap H1 locs1 → W p l e R s m args below meth c H1 locs1 cells slots Q (F0 m (pc + 3) ls (rest))) : W p l e R s m args below meth c H locs cells slots Q (F0 m pc ls (.int x1 :: .ref (w.2.2 0) :: rest)) := r_end hS (run_V (n := 1) (As := [.int x1]) S hK hR (by decide) (eM_7 w _) rfl (gw_V (gt_at 1155 (by decide +kernel) (by decide +kernel)) (gt_at 1157 (by decide +kernel) (by decide +kernel)) (gt_at 65 (by decide +kernel) (by decide +kernel)) (gt_at 86 (by decide +kernel) (by decide +kernel)) (gt_at 1158 (by decide +kernel) (by decide +kernel))) (by decide +kernel) rfl (c7_goTrains l h0) ⟨rfl, rfl⟩ hRm hf hl rfl hW hdg) kk
/-! FourTenGatesModel.isWaiting(II)Z -/
abbrev rm7_isWaiting : Room := { frames := 0, cells := 0, slots := 0, locals := 0 }
theorem d7_isWaiting_0 : decode cX7_isWaiting 0 = .ok (.bipush 6, 2) := by decide +kernel
theorem d7_isWaiting_2 : decode cX7_isWaiting 2 = .ok (.aload_n 0, 1) := by decide +kernel
theorem d7_isWaiting_3 : decode cX7_isWaiting 3 = .ok (.getfield 25, 3) := by decide +kernel
theorem d7_isWaiting_6 : decode cX7_isWaiting 6 = .ok (.iload_n 1, 1) := by decide +kernel
theorem d7_isWaiting_7 : decode cX7_isWaiting 7 = .ok (.iaload, 1) := by decide +kernel
theorem d7_isWaiting_8 : decode cX7_isWaiting 8 = .ok (.imul, 1) := by decide +kernel
theorem d7_isWaiting_9 : decode cX7_isWaiting 9 = .ok (.iload_n 2, 1) := by decide +kernel
theorem d7_isWaiting_10 : decode cX7_isWaiting 10 = .ok (.if_icmp .gt 25, 3) := by decide +kernel
theorem d7_isWaiting_13 : decode cX7_isWaiting 13 = .ok (.aload_n 0, 1) := by decide +kernel
theorem d7_isWaiting_14 : decode cX7_isWaiting 14 = .ok (.getfield 82, 3) := by decide +kernel
theorem d7_isWaiting_17 : decode cX7_isWaiting 17 = .ok (.iload_n 1, 1) := by decide +kernel
theorem d7_isWaiting_18 : decode cX7_isWaiting 18 = .ok (.iaload, 1) := by decide +kernel
theorem d7_isWaiting_19 : decode cX7_isWaiting 19 = .ok (.ifCond .ge 16, 3) := by decide +kernel
theorem d7_isWaiting_22 : decode cX7_isWaiting 22 = .ok (.aload_n 0, 1) := by decide +kernel
theorem d7_isWaiting_23 : decode cX7_isWaiting 23 = .ok (.getfield 88, 3) := by decide +kernel
theorem d7_isWaiting_26 : decode cX7_isWaiting 26 = .ok (.iload_n 1, 1) := by decide +kernel
theorem d7_isWaiting_27 : decode cX7_isWaiting 27 = .ok (.baload, 1) := by decide +kernel
theorem d7_isWaiting_28 : decode cX7_isWaiting 28 = .ok (.ifCond .ne 7, 3) := by decide +kernel
theorem d7_isWaiting_31 : decode cX7_isWaiting 31 = .ok (.iconst 1, 1) := by decide +kernel
theorem d7_isWaiting_32 : decode cX7_isWaiting 32 = .ok (.goto 4, 3) := by decide +kernel
theorem d7_isWaiting_35 : decode cX7_isWaiting 35 = .ok (.iconst 0, 1) := by decide +kernel
theorem d7_isWaiting_36 : decode cX7_isWaiting 36 = .ok (.ireturn, 1) := by decide +kernel
def f7_isWaiting (σ : Mem) (x1 : Int32) (x2 : Int32) : Option Int32 := if ¬ (x1 < 0 ∨ 16 ≤ x1.toNatClampNeg) then if x2 < (6 * (σ 7 x1.toNatClampNeg)) then some 0 else if ¬ (x1 < 0 ∨ 8 ≤ x1.toNatClampNeg) then if 0 ≤ (σ 30 x1.toNatClampNeg) then some 0 else if ¬ (x1 < 0 ∨ 8 ≤ x1.toNatClampNeg) then if (σ 32 x1.toNatClampNeg) = 0 then some 1 else some 0 else none else none else none
set_option maxHeartbeats 4000000 in
set_option maxRecDepth 100000 in
theorem c7_isWaiting (l : Launch) {w : WV} {σ : Mem} {x1 : Int32} {x2 : Int32} {r : Int32} (h0 : f7_isWaiting σ x1 x2 = some r) : Met l yX7_isWaiting (wy yX7_isWaiting cX7_isWaiting 3 (some .boolean)) rm7_isWaiting (Pw EM LM w [.ref (w.2.2 0), .int x1, .int x2] σ) (Qp (.int r)) 0 0 (fun _ => False) := by
  refine mk_met (by decide) (Nat.le_of_ble_eq_true rfl) ?_
  intro p e s m below meth c S hr hlk hK hR ls hl
  obtain ⟨hx, hb, hml, hown, hts⟩ := id S
  have hl : lv_has ls 3 [(0, .ref (w.2.2 0)), (1, .int x1), (2, .int x2)] := hl
  unfold f7_isWaiting at h0
  refine lv_bipush (v := 6) hx hb d7_isWaiting_0 (by decide) ?_
  refine lv_aload_n hx hb d7_isWaiting_2 rfl (lv_at hl 0 rfl) ?_
  refine g7_25 S hK hR d7_isWaiting_3 ?_
  refine lv_iload_n hx hb d7_isWaiting_6 rfl (lv_at hl 1 rfl) ?_
  obtain ⟨hi1, h0⟩ := og_if h0
  refine q_ld (k := x1.toNatClampNeg) S hK hR (by decide) (eM_106 w _) hi1 rfl d7_isWaiting_7 ?_
  refine lv_imul hx hb d7_isWaiting_8 ?_
  refine lv_iload_n hx hb d7_isWaiting_9 rfl (lv_at hl 2 rfl) ?_
  refine lv_icmp_gt (tgt := 35) hx hb d7_isWaiting_10 (by decide) (fun hc2 => ?_) (fun hc2 => ?_)
  · have h0 := og_t hc2 h0
    refine lv_iconst (v := 0) hx hb d7_isWaiting_35 (by decide) ?_
    exact q_zpure S hr hlk (Or.inl rfl) h0 d7_isWaiting_36
  · have h0 := og_f hc2 h0
    refine lv_aload_n hx hb d7_isWaiting_13 rfl (lv_at hl 0 rfl) ?_
    refine g7_82 S hK hR d7_isWaiting_14 ?_
    refine lv_iload_n hx hb d7_isWaiting_17 rfl (lv_at hl 1 rfl) ?_
    obtain ⟨hi3, h0⟩ := og_if h0
    refine q_ld (k := x1.toNatClampNeg) S hK hR (by decide) (eM_129 w _) hi3 rfl d7_isWaiting_18 ?_
    refine lv_if_ge (tgt := 35) hx hb d7_isWaiting_19 (by decide) (fun hc4 => ?_) (fun hc4 => ?_)
    · have h0 := og_t hc4 h0
      refine lv_iconst (v := 0) hx hb d7_isWaiting_35 (by decide) ?_
      exact q_zpure S hr hlk (Or.inl rfl) h0 d7_isWaiting_36
    · have h0 := og_f hc4 h0
      refine lv_aload_n hx hb d7_isWaiting_22 rfl (lv_at hl 0 rfl) ?_
      refine g7_88 S hK hR d7_isWaiting_23 ?_
      refine lv_iload_n hx hb d7_isWaiting_26 rfl (lv_at hl 1 rfl) ?_
      obtain ⟨hi5, h0⟩ := og_if h0
      refine r_zld S hK hR (by decide) (eM_131 w _) hi5 d7_isWaiting_27 ?_
      refine lv_if_ne (tgt := 35) hx hb d7_isWaiting_28 (by decide) (fun hc6 => ?_) (fun hc6 => ?_)
      · have h0 := og_f hc6 h0
        refine lv_iconst (v := 0) hx hb d7_isWaiting_35 (by decide) ?_
        exact q_zpure S hr hlk (Or.inl rfl) h0 d7_isWaiting_36
      · have h0 := og_t hc6 h0
        refine lv_iconst (v := 1) hx hb d7_isWaiting_31 (by decide) ?_
        refine lv_goto (tgt := 36) hx hb d7_isWaiting_32 (by decide) ?_
        exact q_zpure S hr hlk (Or.inr rfl) h0 d7_isWaiting_36
set_option maxHeartbeats 4000000 in
set_option maxRecDepth 100000 in
theorem k7_224 {p : Program} {l : Launch} {e : Env} {R : Room} {s : State} {m : MethodId} {args : Array Value} {below : List Frame} {meth : Method} {c : Code} {H : Heap} {locs : List Loc} {cells slots : Nat} {Q : State → Prop} {cc : ByteArray} {pc nL : Nat} {ls : Array Slot} {rest : List Value} {w : WV} {σ : Mem} {x1 : Int32} {x2 : Int32} {r : Int32} (S : CallFix p m c cc nL s args gtbl RX7) (hK : KS LM w s) (hR : Rp EM LM w σ H) (h0 : f7_isWaiting σ x1 x2 = some r) (hf : cells + 0 ≤ R.cells ∧ slots + 0 ≤ R.slots) (hRm : rm7_isWaiting.frames + 1 ≤ R.frames ∧ 8 + (3 + 11) + rm7_isWaiting.locals ≤ R.locals) (hl : ls.size = nL) (hW : (rest.map fun v => v.category).sum ≤ 8) (hdg : decode cc pc = .ok (.invokevirtual 224, 3)) (kk : W p l e R s m args below meth c H locs cells slots Q (F0 m (pc + 3) ls (.int r :: rest))) : W p l e R s m args below meth c H locs cells slots Q (F0 m pc ls (.int x2 :: .int x1 :: .ref (w.2.2 0) :: rest)) := r_endp (run_V (n := 2) (As := [.int x1, .int x2]) S hK hR (by decide) (eM_7 w _) rfl (gw_V (gt_at 1167 (by decide +kernel) (by decide +kernel)) (gt_at 1169 (by decide +kernel) (by decide +kernel)) (gt_at 68 (by decide +kernel) (by decide +kernel)) (gt_at 86 (by decide +kernel) (by decide +kernel)) (gt_at 1170 (by decide +kernel) (by decide +kernel))) (by decide +kernel) rfl (c7_isWaiting l h0) ⟨rfl, rfl⟩ hRm hf hl rfl hW hdg) kk
/-! FourTenGatesModel.canCross(I)Z -/
abbrev rm7_canCross : Room := { frames := 0, cells := 0, slots := 0, locals := 0 }
theorem d7_canCross_0 : decode cX7_canCross 0 = .ok (.aload_n 0, 1) := by decide +kernel
theorem d7_canCross_1 : decode cX7_canCross 1 = .ok (.getfield 182, 3) := by decide +kernel
theorem d7_canCross_4 : decode cX7_canCross 4 = .ok (.ifCond .eq 21, 3) := by decide +kernel
theorem d7_canCross_7 : decode cX7_canCross 7 = .ok (.aload_n 0, 1) := by decide +kernel
theorem d7_canCross_8 : decode cX7_canCross 8 = .ok (.getfield 182, 3) := by decide +kernel
theorem d7_canCross_11 : decode cX7_canCross 11 = .ok (.iconst 1, 1) := by decide +kernel
theorem d7_canCross_12 : decode cX7_canCross 12 = .ok (.if_icmp .ne 17, 3) := by decide +kernel
theorem d7_canCross_15 : decode cX7_canCross 15 = .ok (.aload_n 0, 1) := by decide +kernel
theorem d7_canCross_16 : decode cX7_canCross 16 = .ok (.getfield 28, 3) := by decide +kernel
theorem d7_canCross_19 : decode cX7_canCross 19 = .ok (.iload_n 1, 1) := by decide +kernel
theorem d7_canCross_20 : decode cX7_canCross 20 = .ok (.iaload, 1) := by decide +kernel
theorem d7_canCross_21 : decode cX7_canCross 21 = .ok (.iconst 3, 1) := by decide +kernel
theorem d7_canCross_22 : decode cX7_canCross 22 = .ok (.if_icmp .ne 7, 3) := by decide +kernel
theorem d7_canCross_25 : decode cX7_canCross 25 = .ok (.iconst 1, 1) := by decide +kernel
theorem d7_canCross_26 : decode cX7_canCross 26 = .ok (.goto 4, 3) := by decide +kernel
theorem d7_canCross_29 : decode cX7_canCross 29 = .ok (.iconst 0, 1) := by decide +kernel
theorem d7_canCross_30 : decode cX7_canCross 30 = .ok (.ireturn, 1) := by decide +kernel
def f7_canCross (σ : Mem) (x1 : Int32) : Option Int32 := if (σ 0 32) = 0 then some 1 else if (σ 0 32) = 1 then if ¬ (x1 < 0 ∨ 16 ≤ x1.toNatClampNeg) then if (σ 8 x1.toNatClampNeg) = 3 then some 1 else some 0 else none else some 0
set_option maxHeartbeats 4000000 in
set_option maxRecDepth 100000 in
theorem c7_canCross (l : Launch) {w : WV} {σ : Mem} {x1 : Int32} {r : Int32} (h0 : f7_canCross σ x1 = some r) : Met l yX7_canCross (wy yX7_canCross cX7_canCross 2 (some .boolean)) rm7_canCross (Pw EM LM w [.ref (w.2.2 0), .int x1] σ) (Qp (.int r)) 0 0 (fun _ => False) := by
  refine mk_met (by decide) (Nat.le_of_ble_eq_true rfl) ?_
  intro p e s m below meth c S hr hlk hK hR ls hl
  obtain ⟨hx, hb, hml, hown, hts⟩ := id S
  have hl : lv_has ls 2 [(0, .ref (w.2.2 0)), (1, .int x1)] := hl
  unfold f7_canCross at h0
  refine lv_aload_n hx hb d7_canCross_0 rfl (lv_at hl 0 rfl) ?_
  refine g7_182 S hK hR d7_canCross_1 ?_
  refine lv_if_eq (tgt := 25) hx hb d7_canCross_4 (by decide) (fun hc1 => ?_) (fun hc1 => ?_)
  · have h0 := og_t hc1 h0
    refine lv_iconst (v := 1) hx hb d7_canCross_25 (by decide) ?_
    refine lv_goto (tgt := 30) hx hb d7_canCross_26 (by decide) ?_
    exact q_zpure S hr hlk (Or.inr rfl) h0 d7_canCross_30
  · have h0 := og_f hc1 h0
    refine lv_aload_n hx hb d7_canCross_7 rfl (lv_at hl 0 rfl) ?_
    refine g7_182 S hK hR d7_canCross_8 ?_
    refine lv_iconst (v := 1) hx hb d7_canCross_11 (by decide) ?_
    refine lv_icmp_ne (tgt := 29) hx hb d7_canCross_12 (by decide) (fun hc2 => ?_) (fun hc2 => ?_)
    · have h0 := og_f hc2 h0
      refine lv_iconst (v := 0) hx hb d7_canCross_29 (by decide) ?_
      exact q_zpure S hr hlk (Or.inl rfl) h0 d7_canCross_30
    · have h0 := og_t hc2 h0
      refine lv_aload_n hx hb d7_canCross_15 rfl (lv_at hl 0 rfl) ?_
      refine g7_28 S hK hR d7_canCross_16 ?_
      refine lv_iload_n hx hb d7_canCross_19 rfl (lv_at hl 1 rfl) ?_
      obtain ⟨hi3, h0⟩ := og_if h0
      refine q_ld (k := x1.toNatClampNeg) S hK hR (by decide) (eM_107 w _) hi3 rfl d7_canCross_20 ?_
      refine lv_iconst (v := 3) hx hb d7_canCross_21 (by decide) ?_
      refine lv_icmp_ne (tgt := 29) hx hb d7_canCross_22 (by decide) (fun hc4 => ?_) (fun hc4 => ?_)
      · have h0 := og_f hc4 h0
        refine lv_iconst (v := 0) hx hb d7_canCross_29 (by decide) ?_
        exact q_zpure S hr hlk (Or.inl rfl) h0 d7_canCross_30
      · have h0 := og_t hc4 h0
        refine lv_iconst (v := 1) hx hb d7_canCross_25 (by decide) ?_
        refine lv_goto (tgt := 30) hx hb d7_canCross_26 (by decide) ?_
        exact q_zpure S hr hlk (Or.inr rfl) h0 d7_canCross_30
set_option maxHeartbeats 4000000 in
set_option maxRecDepth 100000 in
theorem k7_227 {p : Program} {l : Launch} {e : Env} {R : Room} {s : State} {m : MethodId} {args : Array Value} {below : List Frame} {meth : Method} {c : Code} {H : Heap} {locs : List Loc} {cells slots : Nat} {Q : State → Prop} {cc : ByteArray} {pc nL : Nat} {ls : Array Slot} {rest : List Value} {w : WV} {σ : Mem} {x1 : Int32} {r : Int32} (S : CallFix p m c cc nL s args gtbl RX7) (hK : KS LM w s) (hR : Rp EM LM w σ H) (h0 : f7_canCross σ x1 = some r) (hf : cells + 0 ≤ R.cells ∧ slots + 0 ≤ R.slots) (hRm : rm7_canCross.frames + 1 ≤ R.frames ∧ 8 + (2 + 11) + rm7_canCross.locals ≤ R.locals) (hl : ls.size = nL) (hW : (rest.map fun v => v.category).sum ≤ 8) (hdg : decode cc pc = .ok (.invokevirtual 227, 3)) (kk : W p l e R s m args below meth c H locs cells slots Q (F0 m (pc + 3) ls (.int r :: rest))) : W p l e R s m args below meth c H locs cells slots Q (F0 m pc ls (.int x1 :: .ref (w.2.2 0) :: rest)) := r_endp (run_V (n := 1) (As := [.int x1]) S hK hR (by decide) (eM_7 w _) rfl (gw_V (gt_at 1171 (by decide +kernel) (by decide +kernel)) (gt_at 1173 (by decide +kernel) (by decide +kernel)) (gt_at 69 (by decide +kernel) (by decide +kernel)) (gt_at 86 (by decide +kernel) (by decide +kernel)) (gt_at 1174 (by decide +kernel) (by decide +kernel))) (by decide +kernel) rfl (c7_canCross l h0) ⟨rfl, rfl⟩ hRm hf hl rfl hW hdg) kk
/-! FourTenGatesModel.nextUser(I)I -/
abbrev rm7_nextUser : Room := { frames := 1, cells := 0, slots := 0, locals := 22 }
theorem d7_nextUser_0 : decode cX7_nextUser 0 = .ok (.bipush (-4), 2) := by decide +kernel
theorem d7_nextUser_2 : decode cX7_nextUser 2 = .ok (.istore_n 2, 1) := by decide +kernel
theorem d7_nextUser_3 : decode cX7_nextUser 3 = .ok (.iconst 0, 1) := by decide +kernel
theorem d7_nextUser_4 : decode cX7_nextUser 4 = .ok (.istore_n 3, 1) := by decide +kernel
theorem d7_nextUser_5 : decode cX7_nextUser 5 = .ok (.iload_n 3, 1) := by decide +kernel
theorem d7_nextUser_6 : decode cX7_nextUser 6 = .ok (.aload_n 0, 1) := by decide +kernel
theorem d7_nextUser_7 : decode cX7_nextUser 7 = .ok (.getfield 22, 3) := by decide +kernel
theorem d7_nextUser_10 : decode cX7_nextUser 10 = .ok (.iconst 0, 1) := by decide +kernel
theorem d7_nextUser_11 : decode cX7_nextUser 11 = .ok (.iaload, 1) := by decide +kernel
theorem d7_nextUser_12 : decode cX7_nextUser 12 = .ok (.if_icmp .ge 52, 3) := by decide +kernel
theorem d7_nextUser_15 : decode cX7_nextUser 15 = .ok (.aload_n 0, 1) := by decide +kernel
theorem d7_nextUser_16 : decode cX7_nextUser 16 = .ok (.iload_n 3, 1) := by decide +kernel
theorem d7_nextUser_17 : decode cX7_nextUser 17 = .ok (.iload_n 1, 1) := by decide +kernel
theorem d7_nextUser_18 : decode cX7_nextUser 18 = .ok (.invokevirtual 224, 3) := by decide +kernel
theorem d7_nextUser_21 : decode cX7_nextUser 21 = .ok (.ifCond .eq 37, 3) := by decide +kernel
theorem d7_nextUser_24 : decode cX7_nextUser 24 = .ok (.aload_n 0, 1) := by decide +kernel
theorem d7_nextUser_25 : decode cX7_nextUser 25 = .ok (.iload_n 3, 1) := by decide +kernel
theorem d7_nextUser_26 : decode cX7_nextUser 26 = .ok (.invokevirtual 227, 3) := by decide +kernel
theorem d7_nextUser_29 : decode cX7_nextUser 29 = .ok (.ifCond .eq 29, 3) := by decide +kernel
theorem d7_nextUser_32 : decode cX7_nextUser 32 = .ok (.iload_n 2, 1) := by decide +kernel
theorem d7_nextUser_33 : decode cX7_nextUser 33 = .ok (.ifCond .lt 23, 3) := by decide +kernel
theorem d7_nextUser_36 : decode cX7_nextUser 36 = .ok (.aload_n 0, 1) := by decide +kernel
theorem d7_nextUser_37 : decode cX7_nextUser 37 = .ok (.getfield 28, 3) := by decide +kernel
theorem d7_nextUser_40 : decode cX7_nextUser 40 = .ok (.iload_n 3, 1) := by decide +kernel
theorem d7_nextUser_41 : decode cX7_nextUser 41 = .ok (.iaload, 1) := by decide +kernel
theorem d7_nextUser_42 : decode cX7_nextUser 42 = .ok (.iconst 2, 1) := by decide +kernel
theorem d7_nextUser_43 : decode cX7_nextUser 43 = .ok (.if_icmp .ne 15, 3) := by decide +kernel
theorem d7_nextUser_46 : decode cX7_nextUser 46 = .ok (.aload_n 0, 1) := by decide +kernel
theorem d7_nextUser_47 : decode cX7_nextUser 47 = .ok (.getfield 28, 3) := by decide +kernel
theorem d7_nextUser_50 : decode cX7_nextUser 50 = .ok (.iload_n 2, 1) := by decide +kernel
theorem d7_nextUser_51 : decode cX7_nextUser 51 = .ok (.iaload, 1) := by decide +kernel
theorem d7_nextUser_52 : decode cX7_nextUser 52 = .ok (.iconst 2, 1) := by decide +kernel
theorem d7_nextUser_53 : decode cX7_nextUser 53 = .ok (.if_icmp .eq 5, 3) := by decide +kernel
theorem d7_nextUser_56 : decode cX7_nextUser 56 = .ok (.iload_n 3, 1) := by decide +kernel
theorem d7_nextUser_57 : decode cX7_nextUser 57 = .ok (.istore_n 2, 1) := by decide +kernel
theorem d7_nextUser_58 : decode cX7_nextUser 58 = .ok (.iinc 3 1, 3) := by decide +kernel
theorem d7_nextUser_61 : decode cX7_nextUser 61 = .ok (.goto (-56), 3) := by decide +kernel
theorem d7_nextUser_64 : decode cX7_nextUser 64 = .ok (.iload_n 2, 1) := by decide +kernel
theorem d7_nextUser_65 : decode cX7_nextUser 65 = .ok (.ireturn, 1) := by decide +kernel
def f7_nextUser_b5 (σ : Mem) : Nat → Int32 → Int32 → Int32 → Option Int32
  | 0, _, _, _ => none
  | n + 1, x1, x2, x3 => if (σ 6 0) ≤ x3 then some x2 else Option.bind (f7_isWaiting σ x3 x1) fun r2 => if r2 = 0 then f7_nextUser_b5 σ n x1 x2 (x3 + 1) else Option.bind (f7_canCross σ x3) fun r4 => if r4 = 0 then f7_nextUser_b5 σ n x1 x2 (x3 + 1) else if x2 < 0 then f7_nextUser_b5 σ n x1 x3 (x3 + 1) else if ¬ (x3 < 0 ∨ 16 ≤ x3.toNatClampNeg) then if (σ 8 x3.toNatClampNeg) = 2 then if ¬ (x2 < 0 ∨ 16 ≤ x2.toNatClampNeg) then if (σ 8 x2.toNatClampNeg) = 2 then f7_nextUser_b5 σ n x1 x2 (x3 + 1) else f7_nextUser_b5 σ n x1 x3 (x3 + 1) else none else f7_nextUser_b5 σ n x1 x2 (x3 + 1) else none
set_option maxHeartbeats 4000000 in
set_option maxRecDepth 100000 in
theorem t7_nextUser_b5 {p : Program} {l : Launch} {e : Env} {s : State} {m : MethodId} {args : Array Value} {below : List Frame} {meth : Method} {c : Code} {w : WV} {σ : Mem} {r : Int32} (S : CallFix p m c cX7_nextUser 4 s args gtbl RX7) (hr : meth.sig.returnType = (some .int)) (hlk : meth.locks = false) (hK : KS LM w s) (hR : Rp EM LM w σ s.heap) : ∀ (n : Nat), ∀ (x1 : Int32) (x2 : Int32) (x3 : Int32), f7_nextUser_b5 σ n x1 x2 x3 = some r → ∀ (ls : Array Slot), lv_has ls 4 [(0, .ref (w.2.2 0)), (1, .int x1), (2, .int x2), (3, .int x3)] → W p l e rm7_nextUser s m args below meth c s.heap [] 0 0 (MQ below (Qp (.int r)) args s 0 0 (fun _ => False)) (F0 m 5 ls []) := by
  obtain ⟨hx, hb, hml, hown, hts⟩ := id S
  intro n
  induction n with
  | zero =>
    intro x1 x2 x3 h0
    cases (show none = _ from h0)
  | succ n ih =>
    intro x1 x2 x3 h0 ls hl
    rw [f7_nextUser_b5] at h0
    refine lv_iload_n hx hb d7_nextUser_5 rfl (lv_at hl 3 rfl) ?_
    refine lv_aload_n hx hb d7_nextUser_6 rfl (lv_at hl 0 rfl) ?_
    refine g7_22 S hK hR d7_nextUser_7 ?_
    refine lv_iconst (v := 0) hx hb d7_nextUser_10 (by decide) ?_
    refine q_ld (k := 0) S hK hR (by decide) (eM_105 w _) (vin (by decide)) (by decide) d7_nextUser_11 ?_
    refine lv_icmp_ge (tgt := 64) hx hb d7_nextUser_12 (by decide) (fun hc1 => ?_) (fun hc1 => ?_)
    · have h0 := og_t hc1 h0
      refine lv_iload_n hx hb d7_nextUser_64 rfl (lv_at hl 2 rfl) ?_
      exact q_ipure S hr hlk h0 d7_nextUser_65
    · have h0 := og_f hc1 h0
      refine lv_aload_n hx hb d7_nextUser_15 rfl (lv_at hl 0 rfl) ?_
      refine lv_iload_n hx hb d7_nextUser_16 rfl (lv_at hl 3 rfl) ?_
      refine lv_iload_n hx hb d7_nextUser_17 rfl (lv_at hl 1 rfl) ?_
      obtain ⟨r2, hr2, h0⟩ := og_b h0
      refine k7_224 S hK hR  hr2 ⟨Nat.zero_le _, Nat.zero_le _⟩ ⟨Nat.le_of_ble_eq_true rfl, Nat.le_of_ble_eq_true rfl⟩ hl.1 (Nat.le_of_ble_eq_true rfl) d7_nextUser_18 ?_
      refine lv_if_eq (tgt := 58) hx hb d7_nextUser_21 (by decide) (fun hc3 => ?_) (fun hc3 => ?_)
      · have h0 := og_t hc3 h0
        refine lv_iinc (v := x3 + 1) (lv' := [(3, .int (x3 + 1)), (0, .ref (w.2.2 0)), (1, .int x1), (2, .int x2)]) hx hb d7_nextUser_58 hl (k := 3) rfl (ii1 _) (by decide) rfl (fun ls hl => ?_)
        refine lv_goto (tgt := 5) hx hb d7_nextUser_61 (by decide) ?_
        exact ih x1 x2 (x3 + 1) h0 _ (lv_sub hl [1, 2, 3, 0] rfl)
      · have h0 := og_f hc3 h0
        refine lv_aload_n hx hb d7_nextUser_24 rfl (lv_at hl 0 rfl) ?_
        refine lv_iload_n hx hb d7_nextUser_25 rfl (lv_at hl 3 rfl) ?_
        obtain ⟨r4, hr4, h0⟩ := og_b h0
        refine k7_227 S hK hR  hr4 ⟨Nat.zero_le _, Nat.zero_le _⟩ ⟨Nat.le_of_ble_eq_true rfl, Nat.le_of_ble_eq_true rfl⟩ hl.1 (Nat.le_of_ble_eq_true rfl) d7_nextUser_26 ?_
        refine lv_if_eq (tgt := 58) hx hb d7_nextUser_29 (by decide) (fun hc5 => ?_) (fun hc5 => ?_)
        · have h0 := og_t hc5 h0
          refine lv_iinc (v := x3 + 1) (lv' := [(3, .int (x3 + 1)), (0, .ref (w.2.2 0)), (1, .int x1), (2, .int x2)]) hx hb d7_nextUser_58 hl (k := 3) rfl (ii1 _) (by decide) rfl (fun ls hl => ?_)
          refine lv_goto (tgt := 5) hx hb d7_nextUser_61 (by decide) ?_
          exact ih x1 x2 (x3 + 1) h0 _ (lv_sub hl [1, 2, 3, 0] rfl)
        · have h0 := og_f hc5 h0
          refine lv_iload_n hx hb d7_nextUser_32 rfl (lv_at hl 2 rfl) ?_
          refine lv_if_lt (tgt := 56) hx hb d7_nextUser_33 (by decide) (fun hc6 => ?_) (fun hc6 => ?_)
          · have h0 := og_t hc6 h0
            refine lv_iload_n hx hb d7_nextUser_56 rfl (lv_at hl 3 rfl) ?_
            refine lv_istore_n (lv' := [(2, .int x3), (0, .ref (w.2.2 0)), (1, .int x1), (3, .int x3)]) hx hb d7_nextUser_57 rfl hl (by decide) rfl (fun ls hl => ?_)
            refine lv_iinc (v := x3 + 1) (lv' := [(3, .int (x3 + 1)), (2, .int x3), (0, .ref (w.2.2 0)), (1, .int x1)]) hx hb d7_nextUser_58 hl (k := 3) rfl (ii1 _) (by decide) rfl (fun ls hl => ?_)
            refine lv_goto (tgt := 5) hx hb d7_nextUser_61 (by decide) ?_
            exact ih x1 x3 (x3 + 1) h0 _ (lv_sub hl [2, 3, 1, 0] rfl)
          · have h0 := og_f hc6 h0
            refine lv_aload_n hx hb d7_nextUser_36 rfl (lv_at hl 0 rfl) ?_
            refine g7_28 S hK hR d7_nextUser_37 ?_
            refine lv_iload_n hx hb d7_nextUser_40 rfl (lv_at hl 3 rfl) ?_
            obtain ⟨hi7, h0⟩ := og_if h0
            refine q_ld (k := x3.toNatClampNeg) S hK hR (by decide) (eM_107 w _) hi7 rfl d7_nextUser_41 ?_
            refine lv_iconst (v := 2) hx hb d7_nextUser_42 (by decide) ?_
            refine lv_icmp_ne (tgt := 58) hx hb d7_nextUser_43 (by decide) (fun hc8 => ?_) (fun hc8 => ?_)
            · have h0 := og_f hc8 h0
              refine lv_iinc (v := x3 + 1) (lv' := [(3, .int (x3 + 1)), (0, .ref (w.2.2 0)), (1, .int x1), (2, .int x2)]) hx hb d7_nextUser_58 hl (k := 3) rfl (ii1 _) (by decide) rfl (fun ls hl => ?_)
              refine lv_goto (tgt := 5) hx hb d7_nextUser_61 (by decide) ?_
              exact ih x1 x2 (x3 + 1) h0 _ (lv_sub hl [1, 2, 3, 0] rfl)
            · have h0 := og_t hc8 h0
              refine lv_aload_n hx hb d7_nextUser_46 rfl (lv_at hl 0 rfl) ?_
              refine g7_28 S hK hR d7_nextUser_47 ?_
              refine lv_iload_n hx hb d7_nextUser_50 rfl (lv_at hl 2 rfl) ?_
              obtain ⟨hi9, h0⟩ := og_if h0
              refine q_ld (k := x2.toNatClampNeg) S hK hR (by decide) (eM_107 w _) hi9 rfl d7_nextUser_51 ?_
              refine lv_iconst (v := 2) hx hb d7_nextUser_52 (by decide) ?_
              refine lv_icmp_eq (tgt := 58) hx hb d7_nextUser_53 (by decide) (fun hc10 => ?_) (fun hc10 => ?_)
              · have h0 := og_t hc10 h0
                refine lv_iinc (v := x3 + 1) (lv' := [(3, .int (x3 + 1)), (0, .ref (w.2.2 0)), (1, .int x1), (2, .int x2)]) hx hb d7_nextUser_58 hl (k := 3) rfl (ii1 _) (by decide) rfl (fun ls hl => ?_)
                refine lv_goto (tgt := 5) hx hb d7_nextUser_61 (by decide) ?_
                exact ih x1 x2 (x3 + 1) h0 _ (lv_sub hl [1, 2, 3, 0] rfl)
              · have h0 := og_f hc10 h0
                refine lv_iload_n hx hb d7_nextUser_56 rfl (lv_at hl 3 rfl) ?_
                refine lv_istore_n (lv' := [(2, .int x3), (0, .ref (w.2.2 0)), (1, .int x1), (3, .int x3)]) hx hb d7_nextUser_57 rfl hl (by decide) rfl (fun ls hl => ?_)
                refine lv_iinc (v := x3 + 1) (lv' := [(3, .int (x3 + 1)), (2, .int x3), (0, .ref (w.2.2 0)), (1, .int x1)]) hx hb d7_nextUser_58 hl (k := 3) rfl (ii1 _) (by decide) rfl (fun ls hl => ?_)
                refine lv_goto (tgt := 5) hx hb d7_nextUser_61 (by decide) ?_
                exact ih x1 x3 (x3 + 1) h0 _ (lv_sub hl [2, 3, 1, 0] rfl)
def f7_nextUser (σ : Mem) (x1 : Int32) : Option Int32 := f7_nextUser_b5 σ 1000 x1 (-4) 0
set_option maxHeartbeats 4000000 in
set_option maxRecDepth 100000 in
theorem c7_nextUser (l : Launch) {w : WV} {σ : Mem} {x1 : Int32} {r : Int32} (h0 : f7_nextUser σ x1 = some r) : Met l yX7_nextUser (wy yX7_nextUser cX7_nextUser 4 (some .int)) rm7_nextUser (Pw EM LM w [.ref (w.2.2 0), .int x1] σ) (Qp (.int r)) 0 0 (fun _ => False) := by
  refine mk_met (by decide) (Nat.le_of_ble_eq_true rfl) ?_
  intro p e s m below meth c S hr hlk hK hR ls hl
  obtain ⟨hx, hb, hml, hown, hts⟩ := id S
  have hl : lv_has ls 4 [(0, .ref (w.2.2 0)), (1, .int x1)] := hl
  unfold f7_nextUser at h0
  refine lv_bipush (v := (-4)) hx hb d7_nextUser_0 (by decide) ?_
  refine lv_istore_n (lv' := [(2, .int (-4)), (0, .ref (w.2.2 0)), (1, .int x1)]) hx hb d7_nextUser_2 rfl hl (by decide) rfl (fun ls hl => ?_)
  refine lv_iconst (v := 0) hx hb d7_nextUser_3 (by decide) ?_
  refine lv_istore_n (lv' := [(3, .int 0), (2, .int (-4)), (0, .ref (w.2.2 0)), (1, .int x1)]) hx hb d7_nextUser_4 rfl hl (by decide) rfl (fun ls hl => ?_)
  exact t7_nextUser_b5 S hr hlk hK hR 1000 x1 (-4) 0 h0 _ (lv_sub hl [2, 3, 1, 0] rfl)
set_option maxHeartbeats 4000000 in
set_option maxRecDepth 100000 in
theorem k7_230 {p : Program} {l : Launch} {e : Env} {R : Room} {s : State} {m : MethodId} {args : Array Value} {below : List Frame} {meth : Method} {c : Code} {H : Heap} {locs : List Loc} {cells slots : Nat} {Q : State → Prop} {cc : ByteArray} {pc nL : Nat} {ls : Array Slot} {rest : List Value} {w : WV} {σ : Mem} {x1 : Int32} {r : Int32} (S : CallFix p m c cc nL s args gtbl RX7) (hK : KS LM w s) (hR : Rp EM LM w σ H) (h0 : f7_nextUser σ x1 = some r) (hf : cells + 0 ≤ R.cells ∧ slots + 0 ≤ R.slots) (hRm : rm7_nextUser.frames + 1 ≤ R.frames ∧ 8 + (4 + 11) + rm7_nextUser.locals ≤ R.locals) (hl : ls.size = nL) (hW : (rest.map fun v => v.category).sum ≤ 8) (hdg : decode cc pc = .ok (.invokevirtual 230, 3)) (kk : W p l e R s m args below meth c H locs cells slots Q (F0 m (pc + 3) ls (.int r :: rest))) : W p l e R s m args below meth c H locs cells slots Q (F0 m pc ls (.int x1 :: .ref (w.2.2 0) :: rest)) := r_endp (run_V (n := 1) (As := [.int x1]) S hK hR (by decide) (eM_7 w _) rfl (gw_V (gt_at 1163 (by decide +kernel) (by decide +kernel)) (gt_at 1165 (by decide +kernel) (by decide +kernel)) (gt_at 67 (by decide +kernel) (by decide +kernel)) (gt_at 86 (by decide +kernel) (by decide +kernel)) (gt_at 1166 (by decide +kernel) (by decide +kernel))) (by decide +kernel) rfl (c7_nextUser l h0) ⟨rfl, rfl⟩ hRm hf hl rfl hW hdg) kk
