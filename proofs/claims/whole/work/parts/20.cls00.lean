/-! FourTenGates$Book.gateBeats()I -/
abbrev rm0_gateBeats : Room := { frames := 0, cells := 0, slots := 0, locals := 0 }
theorem d0_gateBeats_0 : decode cX0_gateBeats 0 = .ok (.aload_n 0, 1) := by decide +kernel
theorem d0_gateBeats_1 : decode cX0_gateBeats 1 = .ok (.getfield 33, 3) := by decide +kernel
theorem d0_gateBeats_4 : decode cX0_gateBeats 4 = .ok (.ireturn, 1) := by decide +kernel
def f0_gateBeats (σ : Mem) (h : Nat) : Option Int32 := some (σ h 5)
set_option maxHeartbeats 4000000 in
set_option maxRecDepth 100000 in
theorem c0_gateBeats (l : Launch) {w : WV} {σ : Mem} {h : Nat} {r : Int32} (hh : h ∈ bookL) (h0 : f0_gateBeats σ h = some r) : Met l yX0_gateBeats (wy yX0_gateBeats cX0_gateBeats 1 (some .int)) rm0_gateBeats (Pw EC LC w [.ref (w.2.2 h)] σ) (Qp (.int r)) 0 0 (fun _ => False) := by
  refine mk_met (by decide) (Nat.le_of_ble_eq_true rfl) ?_
  intro p e s m below meth c S hr hlk hK hR ls hl
  obtain ⟨hx, hb, hml, hown, hts⟩ := id S
  have hl : lv_has ls 1 [(0, .ref (w.2.2 h))] := hl
  unfold f0_gateBeats at h0
  refine lv_aload_n hx hb d0_gateBeats_0 rfl (lv_at hl 0 rfl) ?_
  refine g0_33 S hK hR hh d0_gateBeats_1 ?_
  exact q_ipure S hr hlk h0 d0_gateBeats_4
set_option maxHeartbeats 4000000 in
set_option maxRecDepth 100000 in
theorem k0_62 {p : Program} {l : Launch} {e : Env} {R : Room} {s : State} {m : MethodId} {args : Array Value} {below : List Frame} {meth : Method} {c : Code} {H : Heap} {locs : List Loc} {cells slots : Nat} {Q : State → Prop} {cc : ByteArray} {pc nL : Nat} {ls : Array Slot} {rest : List Value} {w : WV} {σ : Mem} {h : Nat} {r : Int32} (S : CallFix p m c cc nL s args gtbl RX0) (hK : KS LC w s) (hR : Rp EC LC w σ H) (hh : h ∈ bookL) (h0 : f0_gateBeats σ h = some r) (hf : cells + 0 ≤ R.cells ∧ slots + 0 ≤ R.slots) (hRm : rm0_gateBeats.frames + 1 ≤ R.frames ∧ 8 + (1 + 11) + rm0_gateBeats.locals ≤ R.locals) (hl : ls.size = nL) (hW : (rest.map fun v => v.category).sum ≤ 8) (hdg : decode cc pc = .ok (.invokevirtual 62, 3)) (kk : W p l e R s m args below meth c H locs cells slots Q (F0 m (pc + 3) ls (.int r :: rest))) : W p l e R s m args below meth c H locs cells slots Q (F0 m pc ls (.ref (w.2.2 h) :: rest)) := r_endp (run_V (n := 0) (As := []) S hK hR (ok_0 _ hh) (eC_0 _ hh w _) rfl (gw_V (gt_at 435 (by decide +kernel) (by decide +kernel)) (gt_at 436 (by decide +kernel) (by decide +kernel)) (gt_at 437 (by decide +kernel) (by decide +kernel)) (gt_at 76 (by decide +kernel) (by decide +kernel)) (gt_at 438 (by decide +kernel) (by decide +kernel))) (by decide +kernel) rfl (c0_gateBeats l hh h0) ⟨rfl, rfl⟩ hRm hf hl rfl hW hdg) kk
set_option maxHeartbeats 4000000 in
set_option maxRecDepth 100000 in
theorem k1_122 {p : Program} {l : Launch} {e : Env} {R : Room} {s : State} {m : MethodId} {args : Array Value} {below : List Frame} {meth : Method} {c : Code} {H : Heap} {locs : List Loc} {cells slots : Nat} {Q : State → Prop} {cc : ByteArray} {pc nL : Nat} {ls : Array Slot} {rest : List Value} {w : WV} {σ : Mem} {h : Nat} {r : Int32} (S : CallFix p m c cc nL s args gtbl RX1) (hK : KS LC w s) (hR : Rp EC LC w σ H) (hh : h ∈ bookL) (h0 : f0_gateBeats σ h = some r) (hf : cells + 0 ≤ R.cells ∧ slots + 0 ≤ R.slots) (hRm : rm0_gateBeats.frames + 1 ≤ R.frames ∧ 8 + (1 + 11) + rm0_gateBeats.locals ≤ R.locals) (hl : ls.size = nL) (hW : (rest.map fun v => v.category).sum ≤ 8) (hdg : decode cc pc = .ok (.invokevirtual 122, 3)) (kk : W p l e R s m args below meth c H locs cells slots Q (F0 m (pc + 3) ls (.int r :: rest))) : W p l e R s m args below meth c H locs cells slots Q (F0 m pc ls (.ref (w.2.2 h) :: rest)) := r_endp (run_V (n := 0) (As := []) S hK hR (ok_0 _ hh) (eC_0 _ hh w _) rfl (gw_V (gt_at 617 (by decide +kernel) (by decide +kernel)) (gt_at 436 (by decide +kernel) (by decide +kernel)) (gt_at 437 (by decide +kernel) (by decide +kernel)) (gt_at 76 (by decide +kernel) (by decide +kernel)) (gt_at 438 (by decide +kernel) (by decide +kernel))) (by decide +kernel) rfl (c0_gateBeats l hh h0) ⟨rfl, rfl⟩ hRm hf hl rfl hW hdg) kk
/-! FourTenGates$Book.stopCost()I -/
abbrev rm0_stopCost : Room := { frames := 0, cells := 0, slots := 0, locals := 0 }
theorem d0_stopCost_0 : decode cX0_stopCost 0 = .ok (.aload_n 0, 1) := by decide +kernel
theorem d0_stopCost_1 : decode cX0_stopCost 1 = .ok (.getfield 37, 3) := by decide +kernel
theorem d0_stopCost_4 : decode cX0_stopCost 4 = .ok (.ireturn, 1) := by decide +kernel
def f0_stopCost (σ : Mem) (h : Nat) : Option Int32 := some (σ h 6)
set_option maxHeartbeats 4000000 in
set_option maxRecDepth 100000 in
theorem c0_stopCost (l : Launch) {w : WV} {σ : Mem} {h : Nat} {r : Int32} (hh : h ∈ bookL) (h0 : f0_stopCost σ h = some r) : Met l yX0_stopCost (wy yX0_stopCost cX0_stopCost 1 (some .int)) rm0_stopCost (Pw EC LC w [.ref (w.2.2 h)] σ) (Qp (.int r)) 0 0 (fun _ => False) := by
  refine mk_met (by decide) (Nat.le_of_ble_eq_true rfl) ?_
  intro p e s m below meth c S hr hlk hK hR ls hl
  obtain ⟨hx, hb, hml, hown, hts⟩ := id S
  have hl : lv_has ls 1 [(0, .ref (w.2.2 h))] := hl
  unfold f0_stopCost at h0
  refine lv_aload_n hx hb d0_stopCost_0 rfl (lv_at hl 0 rfl) ?_
  refine g0_37 S hK hR hh d0_stopCost_1 ?_
  exact q_ipure S hr hlk h0 d0_stopCost_4
set_option maxHeartbeats 4000000 in
set_option maxRecDepth 100000 in
theorem k0_64 {p : Program} {l : Launch} {e : Env} {R : Room} {s : State} {m : MethodId} {args : Array Value} {below : List Frame} {meth : Method} {c : Code} {H : Heap} {locs : List Loc} {cells slots : Nat} {Q : State → Prop} {cc : ByteArray} {pc nL : Nat} {ls : Array Slot} {rest : List Value} {w : WV} {σ : Mem} {h : Nat} {r : Int32} (S : CallFix p m c cc nL s args gtbl RX0) (hK : KS LC w s) (hR : Rp EC LC w σ H) (hh : h ∈ bookL) (h0 : f0_stopCost σ h = some r) (hf : cells + 0 ≤ R.cells ∧ slots + 0 ≤ R.slots) (hRm : rm0_stopCost.frames + 1 ≤ R.frames ∧ 8 + (1 + 11) + rm0_stopCost.locals ≤ R.locals) (hl : ls.size = nL) (hW : (rest.map fun v => v.category).sum ≤ 8) (hdg : decode cc pc = .ok (.invokevirtual 64, 3)) (kk : W p l e R s m args below meth c H locs cells slots Q (F0 m (pc + 3) ls (.int r :: rest))) : W p l e R s m args below meth c H locs cells slots Q (F0 m pc ls (.ref (w.2.2 h) :: rest)) := r_endp (run_V (n := 0) (As := []) S hK hR (ok_0 _ hh) (eC_0 _ hh w _) rfl (gw_V (gt_at 439 (by decide +kernel) (by decide +kernel)) (gt_at 440 (by decide +kernel) (by decide +kernel)) (gt_at 441 (by decide +kernel) (by decide +kernel)) (gt_at 76 (by decide +kernel) (by decide +kernel)) (gt_at 442 (by decide +kernel) (by decide +kernel))) (by decide +kernel) rfl (c0_stopCost l hh h0) ⟨rfl, rfl⟩ hRm hf hl rfl hW hdg) kk
set_option maxHeartbeats 4000000 in
set_option maxRecDepth 100000 in
theorem k1_155 {p : Program} {l : Launch} {e : Env} {R : Room} {s : State} {m : MethodId} {args : Array Value} {below : List Frame} {meth : Method} {c : Code} {H : Heap} {locs : List Loc} {cells slots : Nat} {Q : State → Prop} {cc : ByteArray} {pc nL : Nat} {ls : Array Slot} {rest : List Value} {w : WV} {σ : Mem} {h : Nat} {r : Int32} (S : CallFix p m c cc nL s args gtbl RX1) (hK : KS LC w s) (hR : Rp EC LC w σ H) (hh : h ∈ bookL) (h0 : f0_stopCost σ h = some r) (hf : cells + 0 ≤ R.cells ∧ slots + 0 ≤ R.slots) (hRm : rm0_stopCost.frames + 1 ≤ R.frames ∧ 8 + (1 + 11) + rm0_stopCost.locals ≤ R.locals) (hl : ls.size = nL) (hW : (rest.map fun v => v.category).sum ≤ 8) (hdg : decode cc pc = .ok (.invokevirtual 155, 3)) (kk : W p l e R s m args below meth c H locs cells slots Q (F0 m (pc + 3) ls (.int r :: rest))) : W p l e R s m args below meth c H locs cells slots Q (F0 m pc ls (.ref (w.2.2 h) :: rest)) := r_endp (run_V (n := 0) (As := []) S hK hR (ok_0 _ hh) (eC_0 _ hh w _) rfl (gw_V (gt_at 658 (by decide +kernel) (by decide +kernel)) (gt_at 440 (by decide +kernel) (by decide +kernel)) (gt_at 441 (by decide +kernel) (by decide +kernel)) (gt_at 76 (by decide +kernel) (by decide +kernel)) (gt_at 442 (by decide +kernel) (by decide +kernel))) (by decide +kernel) rfl (c0_stopCost l hh h0) ⟨rfl, rfl⟩ hRm hf hl rfl hW hdg) kk
/-! FourTenGates.between(III)Z -/
abbrev rm6_between : Room := { frames := 0, cells := 0, slots := 0, locals := 0 }
theorem d6_between_0 : decode cX6_between 0 = .ok (.iload_n 0, 1) := by decide +kernel
theorem d6_between_1 : decode cX6_between 1 = .ok (.iload_n 1, 1) := by decide +kernel
theorem d6_between_2 : decode cX6_between 2 = .ok (.if_icmp .lt 12, 3) := by decide +kernel
theorem d6_between_5 : decode cX6_between 5 = .ok (.iload_n 0, 1) := by decide +kernel
theorem d6_between_6 : decode cX6_between 6 = .ok (.iload_n 2, 1) := by decide +kernel
theorem d6_between_7 : decode cX6_between 7 = .ok (.if_icmp .gt 7, 3) := by decide +kernel
theorem d6_between_10 : decode cX6_between 10 = .ok (.iconst 1, 1) := by decide +kernel
theorem d6_between_11 : decode cX6_between 11 = .ok (.goto 4, 3) := by decide +kernel
theorem d6_between_14 : decode cX6_between 14 = .ok (.iconst 0, 1) := by decide +kernel
theorem d6_between_15 : decode cX6_between 15 = .ok (.ireturn, 1) := by decide +kernel
def f6_between (x0 : Int32) (x1 : Int32) (x2 : Int32) : Option Int32 := if x0 < x1 then some 0 else if x2 < x0 then some 0 else some 1
set_option maxHeartbeats 4000000 in
set_option maxRecDepth 100000 in
theorem c6_between (l : Launch) {x0 : Int32} {x1 : Int32} {x2 : Int32} {r : Int32} (h0 : f6_between x0 x1 x2 = some r) : Met l yX6_between (wy yX6_between cX6_between 3 (some .boolean)) rm6_between (Ps [.int x0, .int x1, .int x2]) (Qp (.int r)) 0 0 (fun _ => False) := by
  refine mk_mets (by decide) (Nat.le_of_ble_eq_true rfl) ?_
  intro p e s m below meth c S hr hlk ls hl
  obtain ⟨hx, hb, hml, hown, hts⟩ := id S
  have hl : lv_has ls 3 [(0, .int x0), (1, .int x1), (2, .int x2)] := hl
  unfold f6_between at h0
  refine lv_iload_n hx hb d6_between_0 rfl (lv_at hl 0 rfl) ?_
  refine lv_iload_n hx hb d6_between_1 rfl (lv_at hl 1 rfl) ?_
  refine lv_icmp_lt (tgt := 14) hx hb d6_between_2 (by decide) (fun hc1 => ?_) (fun hc1 => ?_)
  · have h0 := og_t hc1 h0
    refine lv_iconst (v := 0) hx hb d6_between_14 (by decide) ?_
    exact q_zpure S hr hlk (Or.inl rfl) h0 d6_between_15
  · have h0 := og_f hc1 h0
    refine lv_iload_n hx hb d6_between_5 rfl (lv_at hl 0 rfl) ?_
    refine lv_iload_n hx hb d6_between_6 rfl (lv_at hl 2 rfl) ?_
    refine lv_icmp_gt (tgt := 14) hx hb d6_between_7 (by decide) (fun hc2 => ?_) (fun hc2 => ?_)
    · have h0 := og_t hc2 h0
      refine lv_iconst (v := 0) hx hb d6_between_14 (by decide) ?_
      exact q_zpure S hr hlk (Or.inl rfl) h0 d6_between_15
    · have h0 := og_f hc2 h0
      refine lv_iconst (v := 1) hx hb d6_between_10 (by decide) ?_
      refine lv_goto (tgt := 15) hx hb d6_between_11 (by decide) ?_
      exact q_zpure S hr hlk (Or.inr rfl) h0 d6_between_15
set_option maxHeartbeats 4000000 in
set_option maxRecDepth 100000 in
theorem k6_102 {p : Program} {l : Launch} {e : Env} {R : Room} {s : State} {m : MethodId} {args : Array Value} {below : List Frame} {meth : Method} {c : Code} {H : Heap} {locs : List Loc} {cells slots : Nat} {Q : State → Prop} {cc : ByteArray} {pc nL : Nat} {ls : Array Slot} {rest : List Value} {x0 : Int32} {x1 : Int32} {x2 : Int32} {r : Int32} (S : CallFix p m c cc nL s args gtbl RX6) (h0 : f6_between x0 x1 x2 = some r) (hf : cells + 0 ≤ R.cells ∧ slots + 0 ≤ R.slots) (hRm : rm6_between.frames + 1 ≤ R.frames ∧ 8 + (3 + 11) + rm6_between.locals ≤ R.locals) (hl : ls.size = nL) (hW : (rest.map fun v => v.category).sum ≤ 8) (hdg : decode cc pc = .ok (.invokestatic 102, 3)) (kk : W p l e R s m args below meth c H locs cells slots Q (F0 m (pc + 3) ls (.int r :: rest))) : W p l e R s m args below meth c H locs cells slots Q (F0 m pc ls (.int x2 :: .int x1 :: .int x0 :: rest)) := r_endp (run_S (n := 3) (As := [.int x0, .int x1, .int x2]) S (gw_S (gt_at 371 (by decide +kernel) (by decide +kernel)) (gt_at 362 (by decide +kernel) (by decide +kernel)) (gt_at 74 (by decide +kernel) (by decide +kernel)) (gt_at 363 (by decide +kernel) (by decide +kernel))) (by decide +kernel) rfl (c6_between l h0) ⟨rfl, rfl⟩ hRm hf hl rfl hW hdg) kk
set_option maxHeartbeats 4000000 in
set_option maxRecDepth 100000 in
theorem k5_46 {p : Program} {l : Launch} {e : Env} {R : Room} {s : State} {m : MethodId} {args : Array Value} {below : List Frame} {meth : Method} {c : Code} {H : Heap} {locs : List Loc} {cells slots : Nat} {Q : State → Prop} {cc : ByteArray} {pc nL : Nat} {ls : Array Slot} {rest : List Value} {w : WV} {x0 : Int32} {x1 : Int32} {x2 : Int32} {r : Int32} (S : CallFix p m c cc nL s args gtbl RX5) (hK : KS LC w s) (h0 : f6_between x0 x1 x2 = some r) (hf : cells + 0 ≤ R.cells ∧ slots + 0 ≤ R.slots) (hRm : rm6_between.frames + 1 ≤ R.frames ∧ 8 + (3 + 11) + rm6_between.locals ≤ R.locals) (hl : ls.size = nL) (hW : (rest.map fun v => v.category).sum ≤ 8) (hdg : decode cc pc = .ok (.invokestatic 46, 3)) (kk : W p l e R s m args below meth c H locs cells slots Q (F0 m (pc + 3) ls (.int r :: rest))) : W p l e R s m args below meth c H locs cells slots Q (F0 m pc ls (.int x2 :: .int x1 :: .int x0 :: rest)) := r_endp (run_SN (n := 3) (As := [.int x0, .int x1, .int x2]) S hK (host := RX6) (by decide +kernel) (gt_at 362 (by decide +kernel) (by decide +kernel)) (gt_at 74 (by decide +kernel) (by decide +kernel)) (gt_at 363 (by decide +kernel) (by decide +kernel)) (by decide +kernel) rfl (c6_between l h0) ⟨rfl, rfl⟩ hRm hf hl rfl hW hdg) kk
set_option maxHeartbeats 4000000 in
set_option maxRecDepth 100000 in
theorem k0_46 {p : Program} {l : Launch} {e : Env} {R : Room} {s : State} {m : MethodId} {args : Array Value} {below : List Frame} {meth : Method} {c : Code} {H : Heap} {locs : List Loc} {cells slots : Nat} {Q : State → Prop} {cc : ByteArray} {pc nL : Nat} {ls : Array Slot} {rest : List Value} {w : WV} {x0 : Int32} {x1 : Int32} {x2 : Int32} {r : Int32} (S : CallFix p m c cc nL s args gtbl RX0) (hK : KS LC w s) (h0 : f6_between x0 x1 x2 = some r) (hf : cells + 0 ≤ R.cells ∧ slots + 0 ≤ R.slots) (hRm : rm6_between.frames + 1 ≤ R.frames ∧ 8 + (3 + 11) + rm6_between.locals ≤ R.locals) (hl : ls.size = nL) (hW : (rest.map fun v => v.category).sum ≤ 8) (hdg : decode cc pc = .ok (.invokestatic 46, 3)) (kk : W p l e R s m args below meth c H locs cells slots Q (F0 m (pc + 3) ls (.int r :: rest))) : W p l e R s m args below meth c H locs cells slots Q (F0 m pc ls (.int x2 :: .int x1 :: .int x0 :: rest)) := r_endp (run_SN (n := 3) (As := [.int x0, .int x1, .int x2]) S hK (host := RX6) (by decide +kernel) (gt_at 362 (by decide +kernel) (by decide +kernel)) (gt_at 74 (by decide +kernel) (by decide +kernel)) (gt_at 363 (by decide +kernel) (by decide +kernel)) (by decide +kernel) rfl (c6_between l h0) ⟨rfl, rfl⟩ hRm hf hl rfl hW hdg) kk
set_option maxHeartbeats 4000000 in
set_option maxRecDepth 100000 in
theorem k4_32 {p : Program} {l : Launch} {e : Env} {R : Room} {s : State} {m : MethodId} {args : Array Value} {below : List Frame} {meth : Method} {c : Code} {H : Heap} {locs : List Loc} {cells slots : Nat} {Q : State → Prop} {cc : ByteArray} {pc nL : Nat} {ls : Array Slot} {rest : List Value} {w : WV} {x0 : Int32} {x1 : Int32} {x2 : Int32} {r : Int32} (S : CallFix p m c cc nL s args gtbl RX4) (hK : KS LC w s) (h0 : f6_between x0 x1 x2 = some r) (hf : cells + 0 ≤ R.cells ∧ slots + 0 ≤ R.slots) (hRm : rm6_between.frames + 1 ≤ R.frames ∧ 8 + (3 + 11) + rm6_between.locals ≤ R.locals) (hl : ls.size = nL) (hW : (rest.map fun v => v.category).sum ≤ 8) (hdg : decode cc pc = .ok (.invokestatic 32, 3)) (kk : W p l e R s m args below meth c H locs cells slots Q (F0 m (pc + 3) ls (.int r :: rest))) : W p l e R s m args below meth c H locs cells slots Q (F0 m pc ls (.int x2 :: .int x1 :: .int x0 :: rest)) := r_endp (run_SN (n := 3) (As := [.int x0, .int x1, .int x2]) S hK (host := RX6) (by decide +kernel) (gt_at 362 (by decide +kernel) (by decide +kernel)) (gt_at 74 (by decide +kernel) (by decide +kernel)) (gt_at 363 (by decide +kernel) (by decide +kernel)) (by decide +kernel) rfl (c6_between l h0) ⟨rfl, rfl⟩ hRm hf hl rfl hW hdg) kk
set_option maxHeartbeats 4000000 in
set_option maxRecDepth 100000 in
theorem k1_151 {p : Program} {l : Launch} {e : Env} {R : Room} {s : State} {m : MethodId} {args : Array Value} {below : List Frame} {meth : Method} {c : Code} {H : Heap} {locs : List Loc} {cells slots : Nat} {Q : State → Prop} {cc : ByteArray} {pc nL : Nat} {ls : Array Slot} {rest : List Value} {w : WV} {x0 : Int32} {x1 : Int32} {x2 : Int32} {r : Int32} (S : CallFix p m c cc nL s args gtbl RX1) (hK : KS LC w s) (h0 : f6_between x0 x1 x2 = some r) (hf : cells + 0 ≤ R.cells ∧ slots + 0 ≤ R.slots) (hRm : rm6_between.frames + 1 ≤ R.frames ∧ 8 + (3 + 11) + rm6_between.locals ≤ R.locals) (hl : ls.size = nL) (hW : (rest.map fun v => v.category).sum ≤ 8) (hdg : decode cc pc = .ok (.invokestatic 151, 3)) (kk : W p l e R s m args below meth c H locs cells slots Q (F0 m (pc + 3) ls (.int r :: rest))) : W p l e R s m args below meth c H locs cells slots Q (F0 m pc ls (.int x2 :: .int x1 :: .int x0 :: rest)) := r_endp (run_SN (n := 3) (As := [.int x0, .int x1, .int x2]) S hK (host := RX6) (by decide +kernel) (gt_at 362 (by decide +kernel) (by decide +kernel)) (gt_at 74 (by decide +kernel) (by decide +kernel)) (gt_at 363 (by decide +kernel) (by decide +kernel)) (by decide +kernel) rfl (c6_between l h0) ⟨rfl, rfl⟩ hRm hf hl rfl hW hdg) kk
set_option maxHeartbeats 4000000 in
set_option maxRecDepth 100000 in
theorem k2_35 {p : Program} {l : Launch} {e : Env} {R : Room} {s : State} {m : MethodId} {args : Array Value} {below : List Frame} {meth : Method} {c : Code} {H : Heap} {locs : List Loc} {cells slots : Nat} {Q : State → Prop} {cc : ByteArray} {pc nL : Nat} {ls : Array Slot} {rest : List Value} {w : WV} {x0 : Int32} {x1 : Int32} {x2 : Int32} {r : Int32} (S : CallFix p m c cc nL s args gtbl RX2) (hK : KS LC w s) (h0 : f6_between x0 x1 x2 = some r) (hf : cells + 0 ≤ R.cells ∧ slots + 0 ≤ R.slots) (hRm : rm6_between.frames + 1 ≤ R.frames ∧ 8 + (3 + 11) + rm6_between.locals ≤ R.locals) (hl : ls.size = nL) (hW : (rest.map fun v => v.category).sum ≤ 8) (hdg : decode cc pc = .ok (.invokestatic 35, 3)) (kk : W p l e R s m args below meth c H locs cells slots Q (F0 m (pc + 3) ls (.int r :: rest))) : W p l e R s m args below meth c H locs cells slots Q (F0 m pc ls (.int x2 :: .int x1 :: .int x0 :: rest)) := r_endp (run_SN (n := 3) (As := [.int x0, .int x1, .int x2]) S hK (host := RX6) (by decide +kernel) (gt_at 362 (by decide +kernel) (by decide +kernel)) (gt_at 74 (by decide +kernel) (by decide +kernel)) (gt_at 363 (by decide +kernel) (by decide +kernel)) (by decide +kernel) rfl (c6_between l h0) ⟨rfl, rfl⟩ hRm hf hl rfl hW hdg) kk
/-! FourTenGates$Book.waitCost(I)I -/
abbrev rm0_waitCost : Room := { frames := 1, cells := 0, slots := 0, locals := 22 }
theorem d0_waitCost_0 : decode cX0_waitCost 0 = .ok (.iload_n 1, 1) := by decide +kernel
theorem d0_waitCost_1 : decode cX0_waitCost 1 = .ok (.iconst 0, 1) := by decide +kernel
theorem d0_waitCost_2 : decode cX0_waitCost 2 = .ok (.iconst 3, 1) := by decide +kernel
theorem d0_waitCost_3 : decode cX0_waitCost 3 = .ok (.invokestatic 46, 3) := by decide +kernel
theorem d0_waitCost_6 : decode cX0_waitCost 6 = .ok (.ifCond .eq 12, 3) := by decide +kernel
theorem d0_waitCost_9 : decode cX0_waitCost 9 = .ok (.aload_n 0, 1) := by decide +kernel
theorem d0_waitCost_10 : decode cX0_waitCost 10 = .ok (.getfield 29, 3) := by decide +kernel
theorem d0_waitCost_13 : decode cX0_waitCost 13 = .ok (.iload_n 1, 1) := by decide +kernel
theorem d0_waitCost_14 : decode cX0_waitCost 14 = .ok (.iaload, 1) := by decide +kernel
theorem d0_waitCost_15 : decode cX0_waitCost 15 = .ok (.goto 4, 3) := by decide +kernel
theorem d0_waitCost_18 : decode cX0_waitCost 18 = .ok (.iconst 0, 1) := by decide +kernel
theorem d0_waitCost_19 : decode cX0_waitCost 19 = .ok (.ireturn, 1) := by decide +kernel
def f0_waitCost (σ : Mem) (h : Nat) (x1 : Int32) : Option Int32 := Option.bind (f6_between x1 0 3) fun r1 => if r1 = 0 then some 0 else if ¬ (x1 < 0 ∨ 4 ≤ x1.toNatClampNeg) then some (σ (h + 13) x1.toNatClampNeg) else none
set_option maxHeartbeats 4000000 in
set_option maxRecDepth 100000 in
theorem c0_waitCost (l : Launch) {w : WV} {σ : Mem} {h : Nat} {x1 : Int32} {r : Int32} (hh : h ∈ bookL) (h0 : f0_waitCost σ h x1 = some r) : Met l yX0_waitCost (wy yX0_waitCost cX0_waitCost 2 (some .int)) rm0_waitCost (Pw EC LC w [.ref (w.2.2 h), .int x1] σ) (Qp (.int r)) 0 0 (fun _ => False) := by
  refine mk_met (by decide) (Nat.le_of_ble_eq_true rfl) ?_
  intro p e s m below meth c S hr hlk hK hR ls hl
  obtain ⟨hx, hb, hml, hown, hts⟩ := id S
  have hl : lv_has ls 2 [(0, .ref (w.2.2 h)), (1, .int x1)] := hl
  unfold f0_waitCost at h0
  refine lv_iload_n hx hb d0_waitCost_0 rfl (lv_at hl 1 rfl) ?_
  refine lv_iconst (v := 0) hx hb d0_waitCost_1 (by decide) ?_
  refine lv_iconst (v := 3) hx hb d0_waitCost_2 (by decide) ?_
  obtain ⟨r1, hr1, h0⟩ := og_b h0
  refine k0_46 S hK  hr1 ⟨Nat.zero_le _, Nat.zero_le _⟩ ⟨Nat.le_of_ble_eq_true rfl, Nat.le_of_ble_eq_true rfl⟩ hl.1 (Nat.le_of_ble_eq_true rfl) d0_waitCost_3 ?_
  refine lv_if_eq (tgt := 18) hx hb d0_waitCost_6 (by decide) (fun hc2 => ?_) (fun hc2 => ?_)
  · have h0 := og_t hc2 h0
    refine lv_iconst (v := 0) hx hb d0_waitCost_18 (by decide) ?_
    exact q_ipure S hr hlk h0 d0_waitCost_19
  · have h0 := og_f hc2 h0
    refine lv_aload_n hx hb d0_waitCost_9 rfl (lv_at hl 0 rfl) ?_
    refine g0_29 S hK hR hh rfl d0_waitCost_10 ?_
    refine lv_iload_n hx hb d0_waitCost_13 rfl (lv_at hl 1 rfl) ?_
    obtain ⟨hi3, h0⟩ := og_if h0
    refine q_ld (k := x1.toNatClampNeg) S hK hR (oa_0_4 _ hh) (ea_0_4 _ hh w _) hi3 rfl d0_waitCost_14 ?_
    refine lv_goto (tgt := 19) hx hb d0_waitCost_15 (by decide) ?_
    exact q_ipure S hr hlk h0 d0_waitCost_19
set_option maxHeartbeats 4000000 in
set_option maxRecDepth 100000 in
theorem k0_58 {p : Program} {l : Launch} {e : Env} {R : Room} {s : State} {m : MethodId} {args : Array Value} {below : List Frame} {meth : Method} {c : Code} {H : Heap} {locs : List Loc} {cells slots : Nat} {Q : State → Prop} {cc : ByteArray} {pc nL : Nat} {ls : Array Slot} {rest : List Value} {w : WV} {σ : Mem} {h : Nat} {x1 : Int32} {r : Int32} (S : CallFix p m c cc nL s args gtbl RX0) (hK : KS LC w s) (hR : Rp EC LC w σ H) (hh : h ∈ bookL) (h0 : f0_waitCost σ h x1 = some r) (hf : cells + 0 ≤ R.cells ∧ slots + 0 ≤ R.slots) (hRm : rm0_waitCost.frames + 1 ≤ R.frames ∧ 8 + (2 + 11) + rm0_waitCost.locals ≤ R.locals) (hl : ls.size = nL) (hW : (rest.map fun v => v.category).sum ≤ 8) (hdg : decode cc pc = .ok (.invokevirtual 58, 3)) (kk : W p l e R s m args below meth c H locs cells slots Q (F0 m (pc + 3) ls (.int r :: rest))) : W p l e R s m args below meth c H locs cells slots Q (F0 m pc ls (.int x1 :: .ref (w.2.2 h) :: rest)) := r_endp (run_V (n := 1) (As := [.int x1]) S hK hR (ok_0 _ hh) (eC_0 _ hh w _) rfl (gw_V (gt_at 431 (by decide +kernel) (by decide +kernel)) (gt_at 432 (by decide +kernel) (by decide +kernel)) (gt_at 433 (by decide +kernel) (by decide +kernel)) (gt_at 76 (by decide +kernel) (by decide +kernel)) (gt_at 434 (by decide +kernel) (by decide +kernel))) (by decide +kernel) rfl (c0_waitCost l hh h0) ⟨rfl, rfl⟩ hRm hf hl rfl hW hdg) kk
set_option maxHeartbeats 4000000 in
set_option maxRecDepth 100000 in
theorem k1_183 {p : Program} {l : Launch} {e : Env} {R : Room} {s : State} {m : MethodId} {args : Array Value} {below : List Frame} {meth : Method} {c : Code} {H : Heap} {locs : List Loc} {cells slots : Nat} {Q : State → Prop} {cc : ByteArray} {pc nL : Nat} {ls : Array Slot} {rest : List Value} {w : WV} {σ : Mem} {h : Nat} {x1 : Int32} {r : Int32} (S : CallFix p m c cc nL s args gtbl RX1) (hK : KS LC w s) (hR : Rp EC LC w σ H) (hh : h ∈ bookL) (h0 : f0_waitCost σ h x1 = some r) (hf : cells + 0 ≤ R.cells ∧ slots + 0 ≤ R.slots) (hRm : rm0_waitCost.frames + 1 ≤ R.frames ∧ 8 + (2 + 11) + rm0_waitCost.locals ≤ R.locals) (hl : ls.size = nL) (hW : (rest.map fun v => v.category).sum ≤ 8) (hdg : decode cc pc = .ok (.invokevirtual 183, 3)) (kk : W p l e R s m args below meth c H locs cells slots Q (F0 m (pc + 3) ls (.int r :: rest))) : W p l e R s m args below meth c H locs cells slots Q (F0 m pc ls (.int x1 :: .ref (w.2.2 h) :: rest)) := r_endp (run_V (n := 1) (As := [.int x1]) S hK hR (ok_0 _ hh) (eC_0 _ hh w _) rfl (gw_V (gt_at 690 (by decide +kernel) (by decide +kernel)) (gt_at 432 (by decide +kernel) (by decide +kernel)) (gt_at 433 (by decide +kernel) (by decide +kernel)) (gt_at 76 (by decide +kernel) (by decide +kernel)) (gt_at 434 (by decide +kernel) (by decide +kernel))) (by decide +kernel) rfl (c0_waitCost l hh h0) ⟨rfl, rfl⟩ hRm hf hl rfl hW hdg) kk
/-! FourTenGates$Book.patience()I -/
abbrev rm0_patience : Room := { frames := 0, cells := 0, slots := 0, locals := 0 }
theorem d0_patience_0 : decode cX0_patience 0 = .ok (.aload_n 0, 1) := by decide +kernel
theorem d0_patience_1 : decode cX0_patience 1 = .ok (.getfield 40, 3) := by decide +kernel
theorem d0_patience_4 : decode cX0_patience 4 = .ok (.ireturn, 1) := by decide +kernel
def f0_patience (σ : Mem) (h : Nat) : Option Int32 := some (σ h 7)
set_option maxHeartbeats 4000000 in
set_option maxRecDepth 100000 in
theorem c0_patience (l : Launch) {w : WV} {σ : Mem} {h : Nat} {r : Int32} (hh : h ∈ bookL) (h0 : f0_patience σ h = some r) : Met l yX0_patience (wy yX0_patience cX0_patience 1 (some .int)) rm0_patience (Pw EC LC w [.ref (w.2.2 h)] σ) (Qp (.int r)) 0 0 (fun _ => False) := by
  refine mk_met (by decide) (Nat.le_of_ble_eq_true rfl) ?_
  intro p e s m below meth c S hr hlk hK hR ls hl
  obtain ⟨hx, hb, hml, hown, hts⟩ := id S
  have hl : lv_has ls 1 [(0, .ref (w.2.2 h))] := hl
  unfold f0_patience at h0
  refine lv_aload_n hx hb d0_patience_0 rfl (lv_at hl 0 rfl) ?_
  refine g0_40 S hK hR hh d0_patience_1 ?_
  exact q_ipure S hr hlk h0 d0_patience_4
set_option maxHeartbeats 4000000 in
set_option maxRecDepth 100000 in
theorem k0_66 {p : Program} {l : Launch} {e : Env} {R : Room} {s : State} {m : MethodId} {args : Array Value} {below : List Frame} {meth : Method} {c : Code} {H : Heap} {locs : List Loc} {cells slots : Nat} {Q : State → Prop} {cc : ByteArray} {pc nL : Nat} {ls : Array Slot} {rest : List Value} {w : WV} {σ : Mem} {h : Nat} {r : Int32} (S : CallFix p m c cc nL s args gtbl RX0) (hK : KS LC w s) (hR : Rp EC LC w σ H) (hh : h ∈ bookL) (h0 : f0_patience σ h = some r) (hf : cells + 0 ≤ R.cells ∧ slots + 0 ≤ R.slots) (hRm : rm0_patience.frames + 1 ≤ R.frames ∧ 8 + (1 + 11) + rm0_patience.locals ≤ R.locals) (hl : ls.size = nL) (hW : (rest.map fun v => v.category).sum ≤ 8) (hdg : decode cc pc = .ok (.invokevirtual 66, 3)) (kk : W p l e R s m args below meth c H locs cells slots Q (F0 m (pc + 3) ls (.int r :: rest))) : W p l e R s m args below meth c H locs cells slots Q (F0 m pc ls (.ref (w.2.2 h) :: rest)) := r_endp (run_V (n := 0) (As := []) S hK hR (ok_0 _ hh) (eC_0 _ hh w _) rfl (gw_V (gt_at 443 (by decide +kernel) (by decide +kernel)) (gt_at 444 (by decide +kernel) (by decide +kernel)) (gt_at 445 (by decide +kernel) (by decide +kernel)) (gt_at 76 (by decide +kernel) (by decide +kernel)) (gt_at 446 (by decide +kernel) (by decide +kernel))) (by decide +kernel) rfl (c0_patience l hh h0) ⟨rfl, rfl⟩ hRm hf hl rfl hW hdg) kk
set_option maxHeartbeats 4000000 in
set_option maxRecDepth 100000 in
theorem k1_186 {p : Program} {l : Launch} {e : Env} {R : Room} {s : State} {m : MethodId} {args : Array Value} {below : List Frame} {meth : Method} {c : Code} {H : Heap} {locs : List Loc} {cells slots : Nat} {Q : State → Prop} {cc : ByteArray} {pc nL : Nat} {ls : Array Slot} {rest : List Value} {w : WV} {σ : Mem} {h : Nat} {r : Int32} (S : CallFix p m c cc nL s args gtbl RX1) (hK : KS LC w s) (hR : Rp EC LC w σ H) (hh : h ∈ bookL) (h0 : f0_patience σ h = some r) (hf : cells + 0 ≤ R.cells ∧ slots + 0 ≤ R.slots) (hRm : rm0_patience.frames + 1 ≤ R.frames ∧ 8 + (1 + 11) + rm0_patience.locals ≤ R.locals) (hl : ls.size = nL) (hW : (rest.map fun v => v.category).sum ≤ 8) (hdg : decode cc pc = .ok (.invokevirtual 186, 3)) (kk : W p l e R s m args below meth c H locs cells slots Q (F0 m (pc + 3) ls (.int r :: rest))) : W p l e R s m args below meth c H locs cells slots Q (F0 m pc ls (.ref (w.2.2 h) :: rest)) := r_endp (run_V (n := 0) (As := []) S hK hR (ok_0 _ hh) (eC_0 _ hh w _) rfl (gw_V (gt_at 691 (by decide +kernel) (by decide +kernel)) (gt_at 444 (by decide +kernel) (by decide +kernel)) (gt_at 445 (by decide +kernel) (by decide +kernel)) (gt_at 76 (by decide +kernel) (by decide +kernel)) (gt_at 446 (by decide +kernel) (by decide +kernel))) (by decide +kernel) rfl (c0_patience l hh h0) ⟨rfl, rfl⟩ hRm hf hl rfl hW hdg) kk
/-! FourTenGates$Book.roundCost()I -/
abbrev rm0_roundCost : Room := { frames := 0, cells := 0, slots := 0, locals := 0 }
theorem d0_roundCost_0 : decode cX0_roundCost 0 = .ok (.aload_n 0, 1) := by decide +kernel
theorem d0_roundCost_1 : decode cX0_roundCost 1 = .ok (.getfield 43, 3) := by decide +kernel
theorem d0_roundCost_4 : decode cX0_roundCost 4 = .ok (.ireturn, 1) := by decide +kernel
def f0_roundCost (σ : Mem) (h : Nat) : Option Int32 := some (σ h 8)
set_option maxHeartbeats 4000000 in
set_option maxRecDepth 100000 in
theorem c0_roundCost (l : Launch) {w : WV} {σ : Mem} {h : Nat} {r : Int32} (hh : h ∈ bookL) (h0 : f0_roundCost σ h = some r) : Met l yX0_roundCost (wy yX0_roundCost cX0_roundCost 1 (some .int)) rm0_roundCost (Pw EC LC w [.ref (w.2.2 h)] σ) (Qp (.int r)) 0 0 (fun _ => False) := by
  refine mk_met (by decide) (Nat.le_of_ble_eq_true rfl) ?_
  intro p e s m below meth c S hr hlk hK hR ls hl
  obtain ⟨hx, hb, hml, hown, hts⟩ := id S
  have hl : lv_has ls 1 [(0, .ref (w.2.2 h))] := hl
  unfold f0_roundCost at h0
  refine lv_aload_n hx hb d0_roundCost_0 rfl (lv_at hl 0 rfl) ?_
  refine g0_43 S hK hR hh d0_roundCost_1 ?_
  exact q_ipure S hr hlk h0 d0_roundCost_4
set_option maxHeartbeats 4000000 in
set_option maxRecDepth 100000 in
theorem k0_68 {p : Program} {l : Launch} {e : Env} {R : Room} {s : State} {m : MethodId} {args : Array Value} {below : List Frame} {meth : Method} {c : Code} {H : Heap} {locs : List Loc} {cells slots : Nat} {Q : State → Prop} {cc : ByteArray} {pc nL : Nat} {ls : Array Slot} {rest : List Value} {w : WV} {σ : Mem} {h : Nat} {r : Int32} (S : CallFix p m c cc nL s args gtbl RX0) (hK : KS LC w s) (hR : Rp EC LC w σ H) (hh : h ∈ bookL) (h0 : f0_roundCost σ h = some r) (hf : cells + 0 ≤ R.cells ∧ slots + 0 ≤ R.slots) (hRm : rm0_roundCost.frames + 1 ≤ R.frames ∧ 8 + (1 + 11) + rm0_roundCost.locals ≤ R.locals) (hl : ls.size = nL) (hW : (rest.map fun v => v.category).sum ≤ 8) (hdg : decode cc pc = .ok (.invokevirtual 68, 3)) (kk : W p l e R s m args below meth c H locs cells slots Q (F0 m (pc + 3) ls (.int r :: rest))) : W p l e R s m args below meth c H locs cells slots Q (F0 m pc ls (.ref (w.2.2 h) :: rest)) := r_endp (run_V (n := 0) (As := []) S hK hR (ok_0 _ hh) (eC_0 _ hh w _) rfl (gw_V (gt_at 447 (by decide +kernel) (by decide +kernel)) (gt_at 448 (by decide +kernel) (by decide +kernel)) (gt_at 449 (by decide +kernel) (by decide +kernel)) (gt_at 76 (by decide +kernel) (by decide +kernel)) (gt_at 450 (by decide +kernel) (by decide +kernel))) (by decide +kernel) rfl (c0_roundCost l hh h0) ⟨rfl, rfl⟩ hRm hf hl rfl hW hdg) kk
set_option maxHeartbeats 4000000 in
set_option maxRecDepth 100000 in
theorem k1_189 {p : Program} {l : Launch} {e : Env} {R : Room} {s : State} {m : MethodId} {args : Array Value} {below : List Frame} {meth : Method} {c : Code} {H : Heap} {locs : List Loc} {cells slots : Nat} {Q : State → Prop} {cc : ByteArray} {pc nL : Nat} {ls : Array Slot} {rest : List Value} {w : WV} {σ : Mem} {h : Nat} {r : Int32} (S : CallFix p m c cc nL s args gtbl RX1) (hK : KS LC w s) (hR : Rp EC LC w σ H) (hh : h ∈ bookL) (h0 : f0_roundCost σ h = some r) (hf : cells + 0 ≤ R.cells ∧ slots + 0 ≤ R.slots) (hRm : rm0_roundCost.frames + 1 ≤ R.frames ∧ 8 + (1 + 11) + rm0_roundCost.locals ≤ R.locals) (hl : ls.size = nL) (hW : (rest.map fun v => v.category).sum ≤ 8) (hdg : decode cc pc = .ok (.invokevirtual 189, 3)) (kk : W p l e R s m args below meth c H locs cells slots Q (F0 m (pc + 3) ls (.int r :: rest))) : W p l e R s m args below meth c H locs cells slots Q (F0 m pc ls (.ref (w.2.2 h) :: rest)) := r_endp (run_V (n := 0) (As := []) S hK hR (ok_0 _ hh) (eC_0 _ hh w _) rfl (gw_V (gt_at 692 (by decide +kernel) (by decide +kernel)) (gt_at 448 (by decide +kernel) (by decide +kernel)) (gt_at 449 (by decide +kernel) (by decide +kernel)) (gt_at 76 (by decide +kernel) (by decide +kernel)) (gt_at 450 (by decide +kernel) (by decide +kernel))) (by decide +kernel) rfl (c0_roundCost l hh h0) ⟨rfl, rfl⟩ hRm hf hl rfl hW hdg) kk
/-! FourTenGates$Pairs.empty()I -/
abbrev rm2_empty : Room := { frames := 0, cells := 0, slots := 0, locals := 0 }
theorem d2_empty_0 : decode cX2_empty 0 = .ok (.aload_n 0, 1) := by decide +kernel
theorem d2_empty_1 : decode cX2_empty 1 = .ok (.getfield 18, 3) := by decide +kernel
theorem d2_empty_4 : decode cX2_empty 4 = .ok (.istore_n 1, 1) := by decide +kernel
theorem d2_empty_5 : decode cX2_empty 5 = .ok (.aload_n 0, 1) := by decide +kernel
theorem d2_empty_6 : decode cX2_empty 6 = .ok (.iconst 0, 1) := by decide +kernel
theorem d2_empty_7 : decode cX2_empty 7 = .ok (.putfield 18, 3) := by decide +kernel
theorem d2_empty_10 : decode cX2_empty 10 = .ok (.iload_n 1, 1) := by decide +kernel
theorem d2_empty_11 : decode cX2_empty 11 = .ok (.ireturn, 1) := by decide +kernel
def f2_empty (σ : Mem) (h : Nat) : Option (Mem × Int32) := bm (mu σ h 3 0) fun σ1 => some (σ1, σ h 3)
set_option maxHeartbeats 4000000 in
set_option maxRecDepth 100000 in
theorem c2_empty (l : Launch) {w : WV} {σ : Mem} {h : Nat} {σ' : Mem} {r : Int32} (hh : h ∈ pairsL) (h0 : f2_empty σ h = some (σ', r)) : Met l yX2_empty (wy yX2_empty cX2_empty 2 (some .int)) rm2_empty (Pw EC LC w [.ref (w.2.2 h)] σ) (Qw EC LC w σ' (some (.int r))) 0 0 (AW LC w) := by
  refine mk_met (by decide) (Nat.le_of_ble_eq_true rfl) ?_
  intro p e s m below meth c S hr hlk hK hR ls hl
  obtain ⟨hx, hb, hml, hown, hts⟩ := id S
  have hl : lv_has ls 2 [(0, .ref (w.2.2 h))] := hl
  have hS : va_S (AW LC w) s.heap s.heap [] := va_S.rf
  unfold f2_empty at h0
  refine lv_aload_n hx hb d2_empty_0 rfl (lv_at hl 0 rfl) ?_
  refine g2_18 S hK hR hh d2_empty_1 ?_
  refine lv_istore_n (lv' := [(1, .int (σ h 3)), (0, .ref (w.2.2 h))]) hx hb d2_empty_4 rfl hl (by decide) rfl (fun ls hl => ?_)
  refine lv_aload_n hx hb d2_empty_5 rfl (lv_at hl 1 rfl) ?_
  refine lv_iconst (v := 0) hx hb d2_empty_6 (by decide) ?_
  obtain ⟨σ1, hm1, h0⟩ := og_m h0
  refine u2_18 S hK hR hS hh hm1 d2_empty_7 (fun H locs hR hS => ?_)
  refine lv_iload_n hx hb d2_empty_10 rfl (lv_at hl 0 rfl) ?_
  exact q_iret S hr hlk hR hS h0 d2_empty_11
set_option maxHeartbeats 4000000 in
set_option maxRecDepth 100000 in
theorem k0_50 {p : Program} {l : Launch} {e : Env} {R : Room} {s : State} {m : MethodId} {args : Array Value} {below : List Frame} {meth : Method} {c : Code} {H : Heap} {locs : List Loc} {cells slots : Nat} {Q : State → Prop} {cc : ByteArray} {pc nL : Nat} {ls : Array Slot} {rest : List Value} {w : WV} {σ : Mem} {h : Nat} {σ1 : Mem} {r : Int32} (S : CallFix p m c cc nL s args gtbl RX0) (hK : KS LC w s) (hR : Rp EC LC w σ H) (hS : va_S (AW LC w) s.heap H locs) (hh : h ∈ pairsL) (h0 : f2_empty σ h = some (σ1, r)) (hf : cells + 0 ≤ R.cells ∧ slots + 0 ≤ R.slots) (hRm : rm2_empty.frames + 1 ≤ R.frames ∧ 8 + (2 + 11) + rm2_empty.locals ≤ R.locals) (hl : ls.size = nL) (hW : (rest.map fun v => v.category).sum ≤ 8) (hdg : decode cc pc = .ok (.invokevirtual 50, 3)) (kk : ∀ (H1 : Heap) (locs1 : List Loc), Rp EC LC w σ1 H1 → va_S (AW LC w) s.heap H1 locs1 → W p l e R s m args below meth c H1 locs1 cells slots Q (F0 m (pc + 3) ls (.int r :: rest))) : W p l e R s m args below meth c H locs cells slots Q (F0 m pc ls (.ref (w.2.2 h) :: rest)) := r_end hS (run_V (n := 0) (As := []) S hK hR (ok_2 _ hh) (eC_2 _ hh w _) rfl (gw_V (gt_at 341 (by decide +kernel) (by decide +kernel)) (gt_at 342 (by decide +kernel) (by decide +kernel)) (gt_at 343 (by decide +kernel) (by decide +kernel)) (gt_at 77 (by decide +kernel) (by decide +kernel)) (gt_at 344 (by decide +kernel) (by decide +kernel))) (by decide +kernel) rfl (c2_empty l hh h0) ⟨rfl, rfl⟩ hRm hf hl rfl hW hdg) kk
set_option maxHeartbeats 4000000 in
set_option maxRecDepth 100000 in
theorem k2_39 {p : Program} {l : Launch} {e : Env} {R : Room} {s : State} {m : MethodId} {args : Array Value} {below : List Frame} {meth : Method} {c : Code} {H : Heap} {locs : List Loc} {cells slots : Nat} {Q : State → Prop} {cc : ByteArray} {pc nL : Nat} {ls : Array Slot} {rest : List Value} {w : WV} {σ : Mem} {h : Nat} {σ1 : Mem} {r : Int32} (S : CallFix p m c cc nL s args gtbl RX2) (hK : KS LC w s) (hR : Rp EC LC w σ H) (hS : va_S (AW LC w) s.heap H locs) (hh : h ∈ pairsL) (h0 : f2_empty σ h = some (σ1, r)) (hf : cells + 0 ≤ R.cells ∧ slots + 0 ≤ R.slots) (hRm : rm2_empty.frames + 1 ≤ R.frames ∧ 8 + (2 + 11) + rm2_empty.locals ≤ R.locals) (hl : ls.size = nL) (hW : (rest.map fun v => v.category).sum ≤ 8) (hdg : decode cc pc = .ok (.invokevirtual 39, 3)) (kk : ∀ (H1 : Heap) (locs1 : List Loc), Rp EC LC w σ1 H1 → va_S (AW LC w) s.heap H1 locs1 → W p l e R s m args below meth c H1 locs1 cells slots Q (F0 m (pc + 3) ls (.int r :: rest))) : W p l e R s m args below meth c H locs cells slots Q (F0 m pc ls (.ref (w.2.2 h) :: rest)) := r_end hS (run_V (n := 0) (As := []) S hK hR (ok_2 _ hh) (eC_2 _ hh w _) rfl (gw_V (gt_at 423 (by decide +kernel) (by decide +kernel)) (gt_at 342 (by decide +kernel) (by decide +kernel)) (gt_at 343 (by decide +kernel) (by decide +kernel)) (gt_at 77 (by decide +kernel) (by decide +kernel)) (gt_at 344 (by decide +kernel) (by decide +kernel))) (by decide +kernel) rfl (c2_empty l hh h0) ⟨rfl, rfl⟩ hRm hf hl rfl hW hdg) kk
set_option maxHeartbeats 4000000 in
set_option maxRecDepth 100000 in
theorem k6_217 {p : Program} {l : Launch} {e : Env} {R : Room} {s : State} {m : MethodId} {args : Array Value} {below : List Frame} {meth : Method} {c : Code} {H : Heap} {locs : List Loc} {cells slots : Nat} {Q : State → Prop} {cc : ByteArray} {pc nL : Nat} {ls : Array Slot} {rest : List Value} {w : WV} {σ : Mem} {h : Nat} {σ1 : Mem} {r : Int32} (S : CallFix p m c cc nL s args gtbl RX6) (hK : KS LC w s) (hR : Rp EC LC w σ H) (hS : va_S (AW LC w) s.heap H locs) (hh : h ∈ pairsL) (h0 : f2_empty σ h = some (σ1, r)) (hf : cells + 0 ≤ R.cells ∧ slots + 0 ≤ R.slots) (hRm : rm2_empty.frames + 1 ≤ R.frames ∧ 8 + (2 + 11) + rm2_empty.locals ≤ R.locals) (hl : ls.size = nL) (hW : (rest.map fun v => v.category).sum ≤ 8) (hdg : decode cc pc = .ok (.invokevirtual 217, 3)) (kk : ∀ (H1 : Heap) (locs1 : List Loc), Rp EC LC w σ1 H1 → va_S (AW LC w) s.heap H1 locs1 → W p l e R s m args below meth c H1 locs1 cells slots Q (F0 m (pc + 3) ls (.int r :: rest))) : W p l e R s m args below meth c H locs cells slots Q (F0 m pc ls (.ref (w.2.2 h) :: rest)) := r_end hS (run_V (n := 0) (As := []) S hK hR (ok_2 _ hh) (eC_2 _ hh w _) rfl (gw_V (gt_at 456 (by decide +kernel) (by decide +kernel)) (gt_at 342 (by decide +kernel) (by decide +kernel)) (gt_at 343 (by decide +kernel) (by decide +kernel)) (gt_at 77 (by decide +kernel) (by decide +kernel)) (gt_at 344 (by decide +kernel) (by decide +kernel))) (by decide +kernel) rfl (c2_empty l hh h0) ⟨rfl, rfl⟩ hRm hf hl rfl hW hdg) kk
/-! FourTenGates$Book.begin()V -/
abbrev rm0_begin : Room := { frames := 1, cells := 0, slots := 0, locals := 21 }
theorem d0_begin_0 : decode cX0_begin 0 = .ok (.aload_n 0, 1) := by decide +kernel
theorem d0_begin_1 : decode cX0_begin 1 = .ok (.getfield 14, 3) := by decide +kernel
theorem d0_begin_4 : decode cX0_begin 4 = .ok (.invokevirtual 50, 3) := by decide +kernel
theorem d0_begin_7 : decode cX0_begin 7 = .ok (.pop, 1) := by decide +kernel
theorem d0_begin_8 : decode cX0_begin 8 = .ok (.aload_n 0, 1) := by decide +kernel
theorem d0_begin_9 : decode cX0_begin 9 = .ok (.getfield 20, 3) := by decide +kernel
theorem d0_begin_12 : decode cX0_begin 12 = .ok (.invokevirtual 50, 3) := by decide +kernel
theorem d0_begin_15 : decode cX0_begin 15 = .ok (.pop, 1) := by decide +kernel
theorem d0_begin_16 : decode cX0_begin 16 = .ok (.aload_n 0, 1) := by decide +kernel
theorem d0_begin_17 : decode cX0_begin 17 = .ok (.getfield 23, 3) := by decide +kernel
theorem d0_begin_20 : decode cX0_begin 20 = .ok (.invokevirtual 50, 3) := by decide +kernel
theorem d0_begin_23 : decode cX0_begin 23 = .ok (.pop, 1) := by decide +kernel
theorem d0_begin_24 : decode cX0_begin 24 = .ok (.aload_n 0, 1) := by decide +kernel
theorem d0_begin_25 : decode cX0_begin 25 = .ok (.getfield 26, 3) := by decide +kernel
theorem d0_begin_28 : decode cX0_begin 28 = .ok (.invokevirtual 50, 3) := by decide +kernel
theorem d0_begin_31 : decode cX0_begin 31 = .ok (.pop, 1) := by decide +kernel
theorem d0_begin_32 : decode cX0_begin 32 = .ok (.iconst 0, 1) := by decide +kernel
theorem d0_begin_33 : decode cX0_begin 33 = .ok (.istore_n 1, 1) := by decide +kernel
theorem d0_begin_34 : decode cX0_begin 34 = .ok (.iload_n 1, 1) := by decide +kernel
theorem d0_begin_35 : decode cX0_begin 35 = .ok (.iconst 4, 1) := by decide +kernel
theorem d0_begin_36 : decode cX0_begin 36 = .ok (.if_icmp .ge 25, 3) := by decide +kernel
theorem d0_begin_39 : decode cX0_begin 39 = .ok (.aload_n 0, 1) := by decide +kernel
theorem d0_begin_40 : decode cX0_begin 40 = .ok (.getfield 29, 3) := by decide +kernel
theorem d0_begin_43 : decode cX0_begin 43 = .ok (.iload_n 1, 1) := by decide +kernel
theorem d0_begin_44 : decode cX0_begin 44 = .ok (.iload_n 1, 1) := by decide +kernel
theorem d0_begin_45 : decode cX0_begin 45 = .ok (.iconst 2, 1) := by decide +kernel
theorem d0_begin_46 : decode cX0_begin 46 = .ok (.if_icmp .ne 7, 3) := by decide +kernel
theorem d0_begin_49 : decode cX0_begin 49 = .ok (.iconst 5, 1) := by decide +kernel
theorem d0_begin_50 : decode cX0_begin 50 = .ok (.goto 4, 3) := by decide +kernel
theorem d0_begin_53 : decode cX0_begin 53 = .ok (.iconst 1, 1) := by decide +kernel
theorem d0_begin_54 : decode cX0_begin 54 = .ok (.iastore, 1) := by decide +kernel
theorem d0_begin_55 : decode cX0_begin 55 = .ok (.iinc 1 1, 3) := by decide +kernel
theorem d0_begin_58 : decode cX0_begin 58 = .ok (.goto (-24), 3) := by decide +kernel
theorem d0_begin_61 : decode cX0_begin 61 = .ok (.aload_n 0, 1) := by decide +kernel
theorem d0_begin_62 : decode cX0_begin 62 = .ok (.iconst 4, 1) := by decide +kernel
theorem d0_begin_63 : decode cX0_begin 63 = .ok (.putfield 33, 3) := by decide +kernel
theorem d0_begin_66 : decode cX0_begin 66 = .ok (.aload_n 0, 1) := by decide +kernel
theorem d0_begin_67 : decode cX0_begin 67 = .ok (.bipush 20, 2) := by decide +kernel
theorem d0_begin_69 : decode cX0_begin 69 = .ok (.putfield 37, 3) := by decide +kernel
theorem d0_begin_72 : decode cX0_begin 72 = .ok (.aload_n 0, 1) := by decide +kernel
theorem d0_begin_73 : decode cX0_begin 73 = .ok (.bipush 60, 2) := by decide +kernel
theorem d0_begin_75 : decode cX0_begin 75 = .ok (.putfield 40, 3) := by decide +kernel
theorem d0_begin_78 : decode cX0_begin 78 = .ok (.aload_n 0, 1) := by decide +kernel
theorem d0_begin_79 : decode cX0_begin 79 = .ok (.bipush 30, 2) := by decide +kernel
theorem d0_begin_81 : decode cX0_begin 81 = .ok (.putfield 43, 3) := by decide +kernel
theorem d0_begin_84 : decode cX0_begin 84 = .ok (.return_, 1) := by decide +kernel
def f0_begin_b54 (h : Nat) (k34 : Mem → Int32 → Option Mem) (σ : Mem) (x1 : Int32) (s1 : Int32) (s2 : Int32) : Option Mem := if ¬ (s1 < 0 ∨ 4 ≤ s1.toNatClampNeg) then (bm (mu σ (h + 13) s1.toNatClampNeg s2) fun σ2 => k34 σ2 (x1 + 1)) else none
set_option maxHeartbeats 4000000 in
set_option maxRecDepth 100000 in
theorem t0_begin_b54 {p : Program} {l : Launch} {e : Env} {s : State} {m : MethodId} {args : Array Value} {below : List Frame} {meth : Method} {c : Code} {w : WV} {h : Nat} {σ' : Mem} {k34 : Mem → Int32 → Option Mem} (S : CallFix p m c cX0_begin 2 s args gtbl RX0) (hr : meth.sig.returnType = none) (hlk : meth.locks = false) (hK : KS LC w s) (hh : h ∈ bookL) (hk34 : ∀ (σ : Mem) (x1 : Int32), k34 σ x1 = some σ' → ∀ (H : Heap) (locs : List Loc), Rp EC LC w σ H → va_S (AW LC w) s.heap H locs → ∀ (ls : Array Slot), lv_has ls 2 [(0, .ref (w.2.2 h)), (1, .int x1)] → W p l e rm0_begin s m args below meth c H locs 0 0 (MQ below (Qw EC LC w σ' none) args s 0 0 (AW LC w)) (F0 m 34 ls [])) : ∀ (σ : Mem) (x1 : Int32) (s1 : Int32) (s2 : Int32), f0_begin_b54 h k34 σ x1 s1 s2 = some σ' → ∀ (H : Heap) (locs : List Loc), Rp EC LC w σ H → va_S (AW LC w) s.heap H locs → ∀ (ls : Array Slot), lv_has ls 2 [(0, .ref (w.2.2 h)), (1, .int x1)] → W p l e rm0_begin s m args below meth c H locs 0 0 (MQ below (Qw EC LC w σ' none) args s 0 0 (AW LC w)) (F0 m 54 ls [.int s2, .int s1, .ref (w.2.2 (h + 13))]) := by
  obtain ⟨hx, hb, hml, hown, hts⟩ := id S
  intro σ x1 s1 s2 h0 H locs hR hS ls hl
  unfold f0_begin_b54 at h0
  obtain ⟨hi1, h0⟩ := og_if h0
  obtain ⟨σ2, hm2, h0⟩ := og_m h0
  refine q_st S hK hR hS (oa_0_4 _ hh) (ea_0_4 _ hh w) hi1 rfl hm2 d0_begin_54 (fun H locs hR hS => ?_)
  refine lv_iinc (v := x1 + 1) (lv' := [(1, .int (x1 + 1)), (0, .ref (w.2.2 h))]) hx hb d0_begin_55 hl (k := 1) rfl (ii1 _) (by decide) rfl (fun ls hl => ?_)
  refine lv_goto (tgt := 34) hx hb d0_begin_58 (by decide) ?_
  exact hk34 σ2 (x1 + 1) h0 _ _ hR hS _ (lv_sub hl [1, 0] rfl)
def f0_begin_b34 (h : Nat) : Nat → Mem → Int32 → Option Mem
  | 0, _, _ => none
  | n + 1, σ, x1 => if 4 ≤ x1 then bm (mu σ h 5 4) fun σ2 => bm (mu σ2 h 6 20) fun σ3 => bm (mu σ3 h 7 60) fun σ4 => bm (mu σ4 h 8 30) fun σ5 => some σ5 else if x1 = 2 then f0_begin_b54 h (f0_begin_b34 h n) σ x1 x1 5 else f0_begin_b54 h (f0_begin_b34 h n) σ x1 x1 1
set_option maxHeartbeats 4000000 in
set_option maxRecDepth 100000 in
theorem t0_begin_b34 {p : Program} {l : Launch} {e : Env} {s : State} {m : MethodId} {args : Array Value} {below : List Frame} {meth : Method} {c : Code} {w : WV} {h : Nat} {σ' : Mem} (S : CallFix p m c cX0_begin 2 s args gtbl RX0) (hr : meth.sig.returnType = none) (hlk : meth.locks = false) (hK : KS LC w s) (hh : h ∈ bookL) : ∀ (n : Nat), ∀ (σ : Mem) (x1 : Int32), f0_begin_b34 h n σ x1 = some σ' → ∀ (H : Heap) (locs : List Loc), Rp EC LC w σ H → va_S (AW LC w) s.heap H locs → ∀ (ls : Array Slot), lv_has ls 2 [(0, .ref (w.2.2 h)), (1, .int x1)] → W p l e rm0_begin s m args below meth c H locs 0 0 (MQ below (Qw EC LC w σ' none) args s 0 0 (AW LC w)) (F0 m 34 ls []) := by
  obtain ⟨hx, hb, hml, hown, hts⟩ := id S
  intro n
  induction n with
  | zero =>
    intro σ x1 h0
    cases (show none = _ from h0)
  | succ n ih =>
    intro σ x1 h0 H locs hR hS ls hl
    rw [f0_begin_b34] at h0
    refine lv_iload_n hx hb d0_begin_34 rfl (lv_at hl 1 rfl) ?_
    refine lv_iconst (v := 4) hx hb d0_begin_35 (by decide) ?_
    refine lv_icmp_ge (tgt := 61) hx hb d0_begin_36 (by decide) (fun hc1 => ?_) (fun hc1 => ?_)
    · have h0 := og_t hc1 h0
      refine lv_aload_n hx hb d0_begin_61 rfl (lv_at hl 0 rfl) ?_
      refine lv_iconst (v := 4) hx hb d0_begin_62 (by decide) ?_
      obtain ⟨σ2, hm2, h0⟩ := og_m h0
      refine u0_33 S hK hR hS hh hm2 d0_begin_63 (fun H locs hR hS => ?_)
      refine lv_aload_n hx hb d0_begin_66 rfl (lv_at hl 0 rfl) ?_
      refine lv_bipush (v := 20) hx hb d0_begin_67 (by decide) ?_
      obtain ⟨σ3, hm3, h0⟩ := og_m h0
      refine u0_37 S hK hR hS hh hm3 d0_begin_69 (fun H locs hR hS => ?_)
      refine lv_aload_n hx hb d0_begin_72 rfl (lv_at hl 0 rfl) ?_
      refine lv_bipush (v := 60) hx hb d0_begin_73 (by decide) ?_
      obtain ⟨σ4, hm4, h0⟩ := og_m h0
      refine u0_40 S hK hR hS hh hm4 d0_begin_75 (fun H locs hR hS => ?_)
      refine lv_aload_n hx hb d0_begin_78 rfl (lv_at hl 0 rfl) ?_
      refine lv_bipush (v := 30) hx hb d0_begin_79 (by decide) ?_
      obtain ⟨σ5, hm5, h0⟩ := og_m h0
      refine u0_43 S hK hR hS hh hm5 d0_begin_81 (fun H locs hR hS => ?_)
      exact q_vret S hr hlk hR hS h0 d0_begin_84
    · have h0 := og_f hc1 h0
      refine lv_aload_n hx hb d0_begin_39 rfl (lv_at hl 0 rfl) ?_
      refine g0_29 S hK hR hh rfl d0_begin_40 ?_
      refine lv_iload_n hx hb d0_begin_43 rfl (lv_at hl 1 rfl) ?_
      refine lv_iload_n hx hb d0_begin_44 rfl (lv_at hl 1 rfl) ?_
      refine lv_iconst (v := 2) hx hb d0_begin_45 (by decide) ?_
      refine lv_icmp_ne (tgt := 53) hx hb d0_begin_46 (by decide) (fun hc2 => ?_) (fun hc2 => ?_)
      · have h0 := og_f hc2 h0
        refine lv_iconst (v := 1) hx hb d0_begin_53 (by decide) ?_
        exact t0_begin_b54 S hr hlk hK hh ih σ x1 x1 1 h0 _ _ hR hS _ (lv_sub hl [0, 1] rfl)
      · have h0 := og_t hc2 h0
        refine lv_iconst (v := 5) hx hb d0_begin_49 (by decide) ?_
        refine lv_goto (tgt := 54) hx hb d0_begin_50 (by decide) ?_
        exact t0_begin_b54 S hr hlk hK hh ih σ x1 x1 5 h0 _ _ hR hS _ (lv_sub hl [0, 1] rfl)
def f0_begin (σ : Mem) (h : Nat) : Option Mem := ob (f2_empty σ (h + 1)) fun σ1 r1 => ob (f2_empty σ1 (h + 4)) fun σ2 r2 => ob (f2_empty σ2 (h + 7)) fun σ3 r3 => ob (f2_empty σ3 (h + 10)) fun σ4 r4 => f0_begin_b34 h 1000 σ4 0
set_option maxHeartbeats 4000000 in
set_option maxRecDepth 100000 in
theorem c0_begin (l : Launch) {w : WV} {σ : Mem} {h : Nat} {σ' : Mem} (hh : h ∈ bookL) (h0 : f0_begin σ h = some σ') : Met l yX0_begin (wy yX0_begin cX0_begin 2 none) rm0_begin (Pw EC LC w [.ref (w.2.2 h)] σ) (Qw EC LC w σ' none) 0 0 (AW LC w) := by
  refine mk_met (by decide) (Nat.le_of_ble_eq_true rfl) ?_
  intro p e s m below meth c S hr hlk hK hR ls hl
  obtain ⟨hx, hb, hml, hown, hts⟩ := id S
  have hl : lv_has ls 2 [(0, .ref (w.2.2 h))] := hl
  have hS : va_S (AW LC w) s.heap s.heap [] := va_S.rf
  unfold f0_begin at h0
  refine lv_aload_n hx hb d0_begin_0 rfl (lv_at hl 0 rfl) ?_
  refine g0_14 S hK hR hh rfl d0_begin_1 ?_
  obtain ⟨σ1, r1, hr1, h0⟩ := og_o h0
  refine k0_50 S hK hR hS (in_0_0 _ hh) hr1 ⟨Nat.zero_le _, Nat.zero_le _⟩ ⟨Nat.le_of_ble_eq_true rfl, Nat.le_of_ble_eq_true rfl⟩ hl.1 (Nat.le_of_ble_eq_true rfl) d0_begin_4 (fun H locs hR hS => ?_)
  refine lv_pop hx hb d0_begin_7 rfl ?_
  refine lv_aload_n hx hb d0_begin_8 rfl (lv_at hl 0 rfl) ?_
  refine g0_20 S hK hR hh rfl d0_begin_9 ?_
  obtain ⟨σ2, r2, hr2, h0⟩ := og_o h0
  refine k0_50 S hK hR hS (in_0_1 _ hh) hr2 ⟨Nat.zero_le _, Nat.zero_le _⟩ ⟨Nat.le_of_ble_eq_true rfl, Nat.le_of_ble_eq_true rfl⟩ hl.1 (Nat.le_of_ble_eq_true rfl) d0_begin_12 (fun H locs hR hS => ?_)
  refine lv_pop hx hb d0_begin_15 rfl ?_
  refine lv_aload_n hx hb d0_begin_16 rfl (lv_at hl 0 rfl) ?_
  refine g0_23 S hK hR hh rfl d0_begin_17 ?_
  obtain ⟨σ3, r3, hr3, h0⟩ := og_o h0
  refine k0_50 S hK hR hS (in_0_2 _ hh) hr3 ⟨Nat.zero_le _, Nat.zero_le _⟩ ⟨Nat.le_of_ble_eq_true rfl, Nat.le_of_ble_eq_true rfl⟩ hl.1 (Nat.le_of_ble_eq_true rfl) d0_begin_20 (fun H locs hR hS => ?_)
  refine lv_pop hx hb d0_begin_23 rfl ?_
  refine lv_aload_n hx hb d0_begin_24 rfl (lv_at hl 0 rfl) ?_
  refine g0_26 S hK hR hh rfl d0_begin_25 ?_
  obtain ⟨σ4, r4, hr4, h0⟩ := og_o h0
  refine k0_50 S hK hR hS (in_0_3 _ hh) hr4 ⟨Nat.zero_le _, Nat.zero_le _⟩ ⟨Nat.le_of_ble_eq_true rfl, Nat.le_of_ble_eq_true rfl⟩ hl.1 (Nat.le_of_ble_eq_true rfl) d0_begin_28 (fun H locs hR hS => ?_)
  refine lv_pop hx hb d0_begin_31 rfl ?_
  refine lv_iconst (v := 0) hx hb d0_begin_32 (by decide) ?_
  refine lv_istore_n (lv' := [(1, .int 0), (0, .ref (w.2.2 h))]) hx hb d0_begin_33 rfl hl (by decide) rfl (fun ls hl => ?_)
  exact t0_begin_b34 S hr hlk hK hh 1000 σ4 0 h0 _ _ hR hS _ (lv_sub hl [1, 0] rfl)
set_option maxHeartbeats 4000000 in
set_option maxRecDepth 100000 in
theorem k5_22 {p : Program} {l : Launch} {e : Env} {R : Room} {s : State} {m : MethodId} {args : Array Value} {below : List Frame} {meth : Method} {c : Code} {H : Heap} {locs : List Loc} {cells slots : Nat} {Q : State → Prop} {cc : ByteArray} {pc nL : Nat} {ls : Array Slot} {rest : List Value} {w : WV} {σ : Mem} {h : Nat} {σ1 : Mem} (S : CallFix p m c cc nL s args gtbl RX5) (hK : KS LC w s) (hR : Rp EC LC w σ H) (hS : va_S (AW LC w) s.heap H locs) (hh : h ∈ bookL) (h0 : f0_begin σ h = some σ1) (hf : cells + 0 ≤ R.cells ∧ slots + 0 ≤ R.slots) (hRm : rm0_begin.frames + 1 ≤ R.frames ∧ 8 + (2 + 11) + rm0_begin.locals ≤ R.locals) (hl : ls.size = nL) (hW : (rest.map fun v => v.category).sum ≤ 8) (hdg : decode cc pc = .ok (.invokevirtual 22, 3)) (kk : ∀ (H1 : Heap) (locs1 : List Loc), Rp EC LC w σ1 H1 → va_S (AW LC w) s.heap H1 locs1 → W p l e R s m args below meth c H1 locs1 cells slots Q (F0 m (pc + 3) ls (rest))) : W p l e R s m args below meth c H locs cells slots Q (F0 m pc ls (.ref (w.2.2 h) :: rest)) := r_end hS (run_V (n := 0) (As := []) S hK hR (ok_0 _ hh) (eC_0 _ hh w _) rfl (gw_V (gt_at 337 (by decide +kernel) (by decide +kernel)) (gt_at 338 (by decide +kernel) (by decide +kernel)) (gt_at 339 (by decide +kernel) (by decide +kernel)) (gt_at 76 (by decide +kernel) (by decide +kernel)) (gt_at 340 (by decide +kernel) (by decide +kernel))) (by decide +kernel) rfl (c0_begin l hh h0) ⟨rfl, rfl⟩ hRm hf hl rfl hW hdg) kk
/-! FourTenGates$Pairs.size()I -/
abbrev rm2_size : Room := { frames := 0, cells := 0, slots := 0, locals := 0 }
theorem d2_size_0 : decode cX2_size 0 = .ok (.aload_n 0, 1) := by decide +kernel
theorem d2_size_1 : decode cX2_size 1 = .ok (.getfield 18, 3) := by decide +kernel
theorem d2_size_4 : decode cX2_size 4 = .ok (.ireturn, 1) := by decide +kernel
def f2_size (σ : Mem) (h : Nat) : Option Int32 := some (σ h 3)
set_option maxHeartbeats 4000000 in
set_option maxRecDepth 100000 in
theorem c2_size (l : Launch) {w : WV} {σ : Mem} {h : Nat} {r : Int32} (hh : h ∈ pairsL) (h0 : f2_size σ h = some r) : Met l yX2_size (wy yX2_size cX2_size 1 (some .int)) rm2_size (Pw EC LC w [.ref (w.2.2 h)] σ) (Qp (.int r)) 0 0 (fun _ => False) := by
  refine mk_met (by decide) (Nat.le_of_ble_eq_true rfl) ?_
  intro p e s m below meth c S hr hlk hK hR ls hl
  obtain ⟨hx, hb, hml, hown, hts⟩ := id S
  have hl : lv_has ls 1 [(0, .ref (w.2.2 h))] := hl
  unfold f2_size at h0
  refine lv_aload_n hx hb d2_size_0 rfl (lv_at hl 0 rfl) ?_
  refine g2_18 S hK hR hh d2_size_1 ?_
  exact q_ipure S hr hlk h0 d2_size_4
set_option maxHeartbeats 4000000 in
set_option maxRecDepth 100000 in
theorem k0_70 {p : Program} {l : Launch} {e : Env} {R : Room} {s : State} {m : MethodId} {args : Array Value} {below : List Frame} {meth : Method} {c : Code} {H : Heap} {locs : List Loc} {cells slots : Nat} {Q : State → Prop} {cc : ByteArray} {pc nL : Nat} {ls : Array Slot} {rest : List Value} {w : WV} {σ : Mem} {h : Nat} {r : Int32} (S : CallFix p m c cc nL s args gtbl RX0) (hK : KS LC w s) (hR : Rp EC LC w σ H) (hh : h ∈ pairsL) (h0 : f2_size σ h = some r) (hf : cells + 0 ≤ R.cells ∧ slots + 0 ≤ R.slots) (hRm : rm2_size.frames + 1 ≤ R.frames ∧ 8 + (1 + 11) + rm2_size.locals ≤ R.locals) (hl : ls.size = nL) (hW : (rest.map fun v => v.category).sum ≤ 8) (hdg : decode cc pc = .ok (.invokevirtual 70, 3)) (kk : W p l e R s m args below meth c H locs cells slots Q (F0 m (pc + 3) ls (.int r :: rest))) : W p l e R s m args below meth c H locs cells slots Q (F0 m pc ls (.ref (w.2.2 h) :: rest)) := r_endp (run_V (n := 0) (As := []) S hK hR (ok_2 _ hh) (eC_2 _ hh w _) rfl (gw_V (gt_at 407 (by decide +kernel) (by decide +kernel)) (gt_at 408 (by decide +kernel) (by decide +kernel)) (gt_at 409 (by decide +kernel) (by decide +kernel)) (gt_at 77 (by decide +kernel) (by decide +kernel)) (gt_at 410 (by decide +kernel) (by decide +kernel))) (by decide +kernel) rfl (c2_size l hh h0) ⟨rfl, rfl⟩ hRm hf hl rfl hW hdg) kk
set_option maxHeartbeats 4000000 in
set_option maxRecDepth 100000 in
theorem k2_43 {p : Program} {l : Launch} {e : Env} {R : Room} {s : State} {m : MethodId} {args : Array Value} {below : List Frame} {meth : Method} {c : Code} {H : Heap} {locs : List Loc} {cells slots : Nat} {Q : State → Prop} {cc : ByteArray} {pc nL : Nat} {ls : Array Slot} {rest : List Value} {w : WV} {σ : Mem} {h : Nat} {r : Int32} (S : CallFix p m c cc nL s args gtbl RX2) (hK : KS LC w s) (hR : Rp EC LC w σ H) (hh : h ∈ pairsL) (h0 : f2_size σ h = some r) (hf : cells + 0 ≤ R.cells ∧ slots + 0 ≤ R.slots) (hRm : rm2_size.frames + 1 ≤ R.frames ∧ 8 + (1 + 11) + rm2_size.locals ≤ R.locals) (hl : ls.size = nL) (hW : (rest.map fun v => v.category).sum ≤ 8) (hdg : decode cc pc = .ok (.invokevirtual 43, 3)) (kk : W p l e R s m args below meth c H locs cells slots Q (F0 m (pc + 3) ls (.int r :: rest))) : W p l e R s m args below meth c H locs cells slots Q (F0 m pc ls (.ref (w.2.2 h) :: rest)) := r_endp (run_V (n := 0) (As := []) S hK hR (ok_2 _ hh) (eC_2 _ hh w _) rfl (gw_V (gt_at 424 (by decide +kernel) (by decide +kernel)) (gt_at 408 (by decide +kernel) (by decide +kernel)) (gt_at 409 (by decide +kernel) (by decide +kernel)) (gt_at 77 (by decide +kernel) (by decide +kernel)) (gt_at 410 (by decide +kernel) (by decide +kernel))) (by decide +kernel) rfl (c2_size l hh h0) ⟨rfl, rfl⟩ hRm hf hl rfl hW hdg) kk
set_option maxHeartbeats 4000000 in
set_option maxRecDepth 100000 in
theorem k6_116 {p : Program} {l : Launch} {e : Env} {R : Room} {s : State} {m : MethodId} {args : Array Value} {below : List Frame} {meth : Method} {c : Code} {H : Heap} {locs : List Loc} {cells slots : Nat} {Q : State → Prop} {cc : ByteArray} {pc nL : Nat} {ls : Array Slot} {rest : List Value} {w : WV} {σ : Mem} {h : Nat} {r : Int32} (S : CallFix p m c cc nL s args gtbl RX6) (hK : KS LC w s) (hR : Rp EC LC w σ H) (hh : h ∈ pairsL) (h0 : f2_size σ h = some r) (hf : cells + 0 ≤ R.cells ∧ slots + 0 ≤ R.slots) (hRm : rm2_size.frames + 1 ≤ R.frames ∧ 8 + (1 + 11) + rm2_size.locals ≤ R.locals) (hl : ls.size = nL) (hW : (rest.map fun v => v.category).sum ≤ 8) (hdg : decode cc pc = .ok (.invokevirtual 116, 3)) (kk : W p l e R s m args below meth c H locs cells slots Q (F0 m (pc + 3) ls (.int r :: rest))) : W p l e R s m args below meth c H locs cells slots Q (F0 m pc ls (.ref (w.2.2 h) :: rest)) := r_endp (run_V (n := 0) (As := []) S hK hR (ok_2 _ hh) (eC_2 _ hh w _) rfl (gw_V (gt_at 534 (by decide +kernel) (by decide +kernel)) (gt_at 408 (by decide +kernel) (by decide +kernel)) (gt_at 409 (by decide +kernel) (by decide +kernel)) (gt_at 77 (by decide +kernel) (by decide +kernel)) (gt_at 410 (by decide +kernel) (by decide +kernel))) (by decide +kernel) rfl (c2_size l hh h0) ⟨rfl, rfl⟩ hRm hf hl rfl hW hdg) kk
set_option maxHeartbeats 4000000 in
set_option maxRecDepth 100000 in
theorem k1_101 {p : Program} {l : Launch} {e : Env} {R : Room} {s : State} {m : MethodId} {args : Array Value} {below : List Frame} {meth : Method} {c : Code} {H : Heap} {locs : List Loc} {cells slots : Nat} {Q : State → Prop} {cc : ByteArray} {pc nL : Nat} {ls : Array Slot} {rest : List Value} {w : WV} {σ : Mem} {h : Nat} {r : Int32} (S : CallFix p m c cc nL s args gtbl RX1) (hK : KS LC w s) (hR : Rp EC LC w σ H) (hh : h ∈ pairsL) (h0 : f2_size σ h = some r) (hf : cells + 0 ≤ R.cells ∧ slots + 0 ≤ R.slots) (hRm : rm2_size.frames + 1 ≤ R.frames ∧ 8 + (1 + 11) + rm2_size.locals ≤ R.locals) (hl : ls.size = nL) (hW : (rest.map fun v => v.category).sum ≤ 8) (hdg : decode cc pc = .ok (.invokevirtual 101, 3)) (kk : W p l e R s m args below meth c H locs cells slots Q (F0 m (pc + 3) ls (.int r :: rest))) : W p l e R s m args below meth c H locs cells slots Q (F0 m pc ls (.ref (w.2.2 h) :: rest)) := r_endp (run_V (n := 0) (As := []) S hK hR (ok_2 _ hh) (eC_2 _ hh w _) rfl (gw_V (gt_at 600 (by decide +kernel) (by decide +kernel)) (gt_at 408 (by decide +kernel) (by decide +kernel)) (gt_at 409 (by decide +kernel) (by decide +kernel)) (gt_at 77 (by decide +kernel) (by decide +kernel)) (gt_at 410 (by decide +kernel) (by decide +kernel))) (by decide +kernel) rfl (c2_size l hh h0) ⟨rfl, rfl⟩ hRm hf hl rfl hW hdg) kk
set_option maxHeartbeats 4000000 in
set_option maxRecDepth 100000 in
theorem k4_39 {p : Program} {l : Launch} {e : Env} {R : Room} {s : State} {m : MethodId} {args : Array Value} {below : List Frame} {meth : Method} {c : Code} {H : Heap} {locs : List Loc} {cells slots : Nat} {Q : State → Prop} {cc : ByteArray} {pc nL : Nat} {ls : Array Slot} {rest : List Value} {w : WV} {σ : Mem} {h : Nat} {r : Int32} (S : CallFix p m c cc nL s args gtbl RX4) (hK : KS LC w s) (hR : Rp EC LC w σ H) (hh : h ∈ pairsL) (h0 : f2_size σ h = some r) (hf : cells + 0 ≤ R.cells ∧ slots + 0 ≤ R.slots) (hRm : rm2_size.frames + 1 ≤ R.frames ∧ 8 + (1 + 11) + rm2_size.locals ≤ R.locals) (hl : ls.size = nL) (hW : (rest.map fun v => v.category).sum ≤ 8) (hdg : decode cc pc = .ok (.invokevirtual 39, 3)) (kk : W p l e R s m args below meth c H locs cells slots Q (F0 m (pc + 3) ls (.int r :: rest))) : W p l e R s m args below meth c H locs cells slots Q (F0 m pc ls (.ref (w.2.2 h) :: rest)) := r_endp (run_V (n := 0) (As := []) S hK hR (ok_2 _ hh) (eC_2 _ hh w _) rfl (gw_V (gt_at 630 (by decide +kernel) (by decide +kernel)) (gt_at 408 (by decide +kernel) (by decide +kernel)) (gt_at 409 (by decide +kernel) (by decide +kernel)) (gt_at 77 (by decide +kernel) (by decide +kernel)) (gt_at 410 (by decide +kernel) (by decide +kernel))) (by decide +kernel) rfl (c2_size l hh h0) ⟨rfl, rfl⟩ hRm hf hl rfl hW hdg) kk
/-! FourTenGates$Pairs.first(I)I -/
abbrev rm2_first : Room := { frames := 0, cells := 0, slots := 0, locals := 0 }
theorem d2_first_0 : decode cX2_first 0 = .ok (.iload_n 1, 1) := by decide +kernel
theorem d2_first_1 : decode cX2_first 1 = .ok (.ifCond .lt 20, 3) := by decide +kernel
theorem d2_first_4 : decode cX2_first 4 = .ok (.iload_n 1, 1) := by decide +kernel
theorem d2_first_5 : decode cX2_first 5 = .ok (.aload_n 0, 1) := by decide +kernel
theorem d2_first_6 : decode cX2_first 6 = .ok (.getfield 18, 3) := by decide +kernel
theorem d2_first_9 : decode cX2_first 9 = .ok (.if_icmp .ge 12, 3) := by decide +kernel
theorem d2_first_12 : decode cX2_first 12 = .ok (.aload_n 0, 1) := by decide +kernel
theorem d2_first_13 : decode cX2_first 13 = .ok (.getfield 9, 3) := by decide +kernel
theorem d2_first_16 : decode cX2_first 16 = .ok (.iload_n 1, 1) := by decide +kernel
theorem d2_first_17 : decode cX2_first 17 = .ok (.iaload, 1) := by decide +kernel
theorem d2_first_18 : decode cX2_first 18 = .ok (.goto 4, 3) := by decide +kernel
theorem d2_first_21 : decode cX2_first 21 = .ok (.iconst 0, 1) := by decide +kernel
theorem d2_first_22 : decode cX2_first 22 = .ok (.ireturn, 1) := by decide +kernel
def f2_first (σ : Mem) (h : Nat) (x1 : Int32) : Option Int32 := if x1 < 0 then some 0 else if (σ h 3) ≤ x1 then some 0 else if ¬ (x1 < 0 ∨ 8 ≤ x1.toNatClampNeg) then some (σ (h + 1) x1.toNatClampNeg) else none
set_option maxHeartbeats 4000000 in
set_option maxRecDepth 100000 in
theorem c2_first (l : Launch) {w : WV} {σ : Mem} {h : Nat} {x1 : Int32} {r : Int32} (hh : h ∈ pairsL) (h0 : f2_first σ h x1 = some r) : Met l yX2_first (wy yX2_first cX2_first 2 (some .int)) rm2_first (Pw EC LC w [.ref (w.2.2 h), .int x1] σ) (Qp (.int r)) 0 0 (fun _ => False) := by
  refine mk_met (by decide) (Nat.le_of_ble_eq_true rfl) ?_
  intro p e s m below meth c S hr hlk hK hR ls hl
  obtain ⟨hx, hb, hml, hown, hts⟩ := id S
  have hl : lv_has ls 2 [(0, .ref (w.2.2 h)), (1, .int x1)] := hl
  unfold f2_first at h0
  refine lv_iload_n hx hb d2_first_0 rfl (lv_at hl 1 rfl) ?_
  refine lv_if_lt (tgt := 21) hx hb d2_first_1 (by decide) (fun hc1 => ?_) (fun hc1 => ?_)
  · have h0 := og_t hc1 h0
    refine lv_iconst (v := 0) hx hb d2_first_21 (by decide) ?_
    exact q_ipure S hr hlk h0 d2_first_22
  · have h0 := og_f hc1 h0
    refine lv_iload_n hx hb d2_first_4 rfl (lv_at hl 1 rfl) ?_
    refine lv_aload_n hx hb d2_first_5 rfl (lv_at hl 0 rfl) ?_
    refine g2_18 S hK hR hh d2_first_6 ?_
    refine lv_icmp_ge (tgt := 21) hx hb d2_first_9 (by decide) (fun hc2 => ?_) (fun hc2 => ?_)
    · have h0 := og_t hc2 h0
      refine lv_iconst (v := 0) hx hb d2_first_21 (by decide) ?_
      exact q_ipure S hr hlk h0 d2_first_22
    · have h0 := og_f hc2 h0
      refine lv_aload_n hx hb d2_first_12 rfl (lv_at hl 0 rfl) ?_
      refine g2_9 S hK hR hh rfl d2_first_13 ?_
      refine lv_iload_n hx hb d2_first_16 rfl (lv_at hl 1 rfl) ?_
      obtain ⟨hi3, h0⟩ := og_if h0
      refine q_ld (k := x1.toNatClampNeg) S hK hR (oa_2_0 _ hh) (ea_2_0 _ hh w _) hi3 rfl d2_first_17 ?_
      refine lv_goto (tgt := 22) hx hb d2_first_18 (by decide) ?_
      exact q_ipure S hr hlk h0 d2_first_22
set_option maxHeartbeats 4000000 in
set_option maxRecDepth 100000 in
theorem k2_45 {p : Program} {l : Launch} {e : Env} {R : Room} {s : State} {m : MethodId} {args : Array Value} {below : List Frame} {meth : Method} {c : Code} {H : Heap} {locs : List Loc} {cells slots : Nat} {Q : State → Prop} {cc : ByteArray} {pc nL : Nat} {ls : Array Slot} {rest : List Value} {w : WV} {σ : Mem} {h : Nat} {x1 : Int32} {r : Int32} (S : CallFix p m c cc nL s args gtbl RX2) (hK : KS LC w s) (hR : Rp EC LC w σ H) (hh : h ∈ pairsL) (h0 : f2_first σ h x1 = some r) (hf : cells + 0 ≤ R.cells ∧ slots + 0 ≤ R.slots) (hRm : rm2_first.frames + 1 ≤ R.frames ∧ 8 + (2 + 11) + rm2_first.locals ≤ R.locals) (hl : ls.size = nL) (hW : (rest.map fun v => v.category).sum ≤ 8) (hdg : decode cc pc = .ok (.invokevirtual 45, 3)) (kk : W p l e R s m args below meth c H locs cells slots Q (F0 m (pc + 3) ls (.int r :: rest))) : W p l e R s m args below meth c H locs cells slots Q (F0 m pc ls (.int x1 :: .ref (w.2.2 h) :: rest)) := r_endp (run_V (n := 1) (As := [.int x1]) S hK hR (ok_2 _ hh) (eC_2 _ hh w _) rfl (gw_V (gt_at 425 (by decide +kernel) (by decide +kernel)) (gt_at 426 (by decide +kernel) (by decide +kernel)) (gt_at 427 (by decide +kernel) (by decide +kernel)) (gt_at 77 (by decide +kernel) (by decide +kernel)) (gt_at 428 (by decide +kernel) (by decide +kernel))) (by decide +kernel) rfl (c2_first l hh h0) ⟨rfl, rfl⟩ hRm hf hl rfl hW hdg) kk
set_option maxHeartbeats 4000000 in
set_option maxRecDepth 100000 in
theorem k6_120 {p : Program} {l : Launch} {e : Env} {R : Room} {s : State} {m : MethodId} {args : Array Value} {below : List Frame} {meth : Method} {c : Code} {H : Heap} {locs : List Loc} {cells slots : Nat} {Q : State → Prop} {cc : ByteArray} {pc nL : Nat} {ls : Array Slot} {rest : List Value} {w : WV} {σ : Mem} {h : Nat} {x1 : Int32} {r : Int32} (S : CallFix p m c cc nL s args gtbl RX6) (hK : KS LC w s) (hR : Rp EC LC w σ H) (hh : h ∈ pairsL) (h0 : f2_first σ h x1 = some r) (hf : cells + 0 ≤ R.cells ∧ slots + 0 ≤ R.slots) (hRm : rm2_first.frames + 1 ≤ R.frames ∧ 8 + (2 + 11) + rm2_first.locals ≤ R.locals) (hl : ls.size = nL) (hW : (rest.map fun v => v.category).sum ≤ 8) (hdg : decode cc pc = .ok (.invokevirtual 120, 3)) (kk : W p l e R s m args below meth c H locs cells slots Q (F0 m (pc + 3) ls (.int r :: rest))) : W p l e R s m args below meth c H locs cells slots Q (F0 m pc ls (.int x1 :: .ref (w.2.2 h) :: rest)) := r_endp (run_V (n := 1) (As := [.int x1]) S hK hR (ok_2 _ hh) (eC_2 _ hh w _) rfl (gw_V (gt_at 543 (by decide +kernel) (by decide +kernel)) (gt_at 426 (by decide +kernel) (by decide +kernel)) (gt_at 427 (by decide +kernel) (by decide +kernel)) (gt_at 77 (by decide +kernel) (by decide +kernel)) (gt_at 428 (by decide +kernel) (by decide +kernel))) (by decide +kernel) rfl (c2_first l hh h0) ⟨rfl, rfl⟩ hRm hf hl rfl hW hdg) kk
set_option maxHeartbeats 4000000 in
set_option maxRecDepth 100000 in
theorem k4_36 {p : Program} {l : Launch} {e : Env} {R : Room} {s : State} {m : MethodId} {args : Array Value} {below : List Frame} {meth : Method} {c : Code} {H : Heap} {locs : List Loc} {cells slots : Nat} {Q : State → Prop} {cc : ByteArray} {pc nL : Nat} {ls : Array Slot} {rest : List Value} {w : WV} {σ : Mem} {h : Nat} {x1 : Int32} {r : Int32} (S : CallFix p m c cc nL s args gtbl RX4) (hK : KS LC w s) (hR : Rp EC LC w σ H) (hh : h ∈ pairsL) (h0 : f2_first σ h x1 = some r) (hf : cells + 0 ≤ R.cells ∧ slots + 0 ≤ R.slots) (hRm : rm2_first.frames + 1 ≤ R.frames ∧ 8 + (2 + 11) + rm2_first.locals ≤ R.locals) (hl : ls.size = nL) (hW : (rest.map fun v => v.category).sum ≤ 8) (hdg : decode cc pc = .ok (.invokevirtual 36, 3)) (kk : W p l e R s m args below meth c H locs cells slots Q (F0 m (pc + 3) ls (.int r :: rest))) : W p l e R s m args below meth c H locs cells slots Q (F0 m pc ls (.int x1 :: .ref (w.2.2 h) :: rest)) := r_endp (run_V (n := 1) (As := [.int x1]) S hK hR (ok_2 _ hh) (eC_2 _ hh w _) rfl (gw_V (gt_at 558 (by decide +kernel) (by decide +kernel)) (gt_at 426 (by decide +kernel) (by decide +kernel)) (gt_at 427 (by decide +kernel) (by decide +kernel)) (gt_at 77 (by decide +kernel) (by decide +kernel)) (gt_at 428 (by decide +kernel) (by decide +kernel))) (by decide +kernel) rfl (c2_first l hh h0) ⟨rfl, rfl⟩ hRm hf hl rfl hW hdg) kk
set_option maxHeartbeats 4000000 in
set_option maxRecDepth 100000 in
theorem k1_148 {p : Program} {l : Launch} {e : Env} {R : Room} {s : State} {m : MethodId} {args : Array Value} {below : List Frame} {meth : Method} {c : Code} {H : Heap} {locs : List Loc} {cells slots : Nat} {Q : State → Prop} {cc : ByteArray} {pc nL : Nat} {ls : Array Slot} {rest : List Value} {w : WV} {σ : Mem} {h : Nat} {x1 : Int32} {r : Int32} (S : CallFix p m c cc nL s args gtbl RX1) (hK : KS LC w s) (hR : Rp EC LC w σ H) (hh : h ∈ pairsL) (h0 : f2_first σ h x1 = some r) (hf : cells + 0 ≤ R.cells ∧ slots + 0 ≤ R.slots) (hRm : rm2_first.frames + 1 ≤ R.frames ∧ 8 + (2 + 11) + rm2_first.locals ≤ R.locals) (hl : ls.size = nL) (hW : (rest.map fun v => v.category).sum ≤ 8) (hdg : decode cc pc = .ok (.invokevirtual 148, 3)) (kk : W p l e R s m args below meth c H locs cells slots Q (F0 m (pc + 3) ls (.int r :: rest))) : W p l e R s m args below meth c H locs cells slots Q (F0 m pc ls (.int x1 :: .ref (w.2.2 h) :: rest)) := r_endp (run_V (n := 1) (As := [.int x1]) S hK hR (ok_2 _ hh) (eC_2 _ hh w _) rfl (gw_V (gt_at 648 (by decide +kernel) (by decide +kernel)) (gt_at 426 (by decide +kernel) (by decide +kernel)) (gt_at 427 (by decide +kernel) (by decide +kernel)) (gt_at 77 (by decide +kernel) (by decide +kernel)) (gt_at 428 (by decide +kernel) (by decide +kernel))) (by decide +kernel) rfl (c2_first l hh h0) ⟨rfl, rfl⟩ hRm hf hl rfl hW hdg) kk
/-! FourTenGates$Pairs.second(I)I -/
abbrev rm2_second : Room := { frames := 0, cells := 0, slots := 0, locals := 0 }
theorem d2_second_0 : decode cX2_second 0 = .ok (.iload_n 1, 1) := by decide +kernel
theorem d2_second_1 : decode cX2_second 1 = .ok (.ifCond .lt 20, 3) := by decide +kernel
theorem d2_second_4 : decode cX2_second 4 = .ok (.iload_n 1, 1) := by decide +kernel
theorem d2_second_5 : decode cX2_second 5 = .ok (.aload_n 0, 1) := by decide +kernel
theorem d2_second_6 : decode cX2_second 6 = .ok (.getfield 18, 3) := by decide +kernel
theorem d2_second_9 : decode cX2_second 9 = .ok (.if_icmp .ge 12, 3) := by decide +kernel
theorem d2_second_12 : decode cX2_second 12 = .ok (.aload_n 0, 1) := by decide +kernel
theorem d2_second_13 : decode cX2_second 13 = .ok (.getfield 15, 3) := by decide +kernel
theorem d2_second_16 : decode cX2_second 16 = .ok (.iload_n 1, 1) := by decide +kernel
theorem d2_second_17 : decode cX2_second 17 = .ok (.iaload, 1) := by decide +kernel
theorem d2_second_18 : decode cX2_second 18 = .ok (.goto 4, 3) := by decide +kernel
theorem d2_second_21 : decode cX2_second 21 = .ok (.iconst 0, 1) := by decide +kernel
theorem d2_second_22 : decode cX2_second 22 = .ok (.ireturn, 1) := by decide +kernel
def f2_second (σ : Mem) (h : Nat) (x1 : Int32) : Option Int32 := if x1 < 0 then some 0 else if (σ h 3) ≤ x1 then some 0 else if ¬ (x1 < 0 ∨ 8 ≤ x1.toNatClampNeg) then some (σ (h + 2) x1.toNatClampNeg) else none
set_option maxHeartbeats 4000000 in
set_option maxRecDepth 100000 in
theorem c2_second (l : Launch) {w : WV} {σ : Mem} {h : Nat} {x1 : Int32} {r : Int32} (hh : h ∈ pairsL) (h0 : f2_second σ h x1 = some r) : Met l yX2_second (wy yX2_second cX2_second 2 (some .int)) rm2_second (Pw EC LC w [.ref (w.2.2 h), .int x1] σ) (Qp (.int r)) 0 0 (fun _ => False) := by
  refine mk_met (by decide) (Nat.le_of_ble_eq_true rfl) ?_
  intro p e s m below meth c S hr hlk hK hR ls hl
  obtain ⟨hx, hb, hml, hown, hts⟩ := id S
  have hl : lv_has ls 2 [(0, .ref (w.2.2 h)), (1, .int x1)] := hl
  unfold f2_second at h0
  refine lv_iload_n hx hb d2_second_0 rfl (lv_at hl 1 rfl) ?_
  refine lv_if_lt (tgt := 21) hx hb d2_second_1 (by decide) (fun hc1 => ?_) (fun hc1 => ?_)
  · have h0 := og_t hc1 h0
    refine lv_iconst (v := 0) hx hb d2_second_21 (by decide) ?_
    exact q_ipure S hr hlk h0 d2_second_22
  · have h0 := og_f hc1 h0
    refine lv_iload_n hx hb d2_second_4 rfl (lv_at hl 1 rfl) ?_
    refine lv_aload_n hx hb d2_second_5 rfl (lv_at hl 0 rfl) ?_
    refine g2_18 S hK hR hh d2_second_6 ?_
    refine lv_icmp_ge (tgt := 21) hx hb d2_second_9 (by decide) (fun hc2 => ?_) (fun hc2 => ?_)
    · have h0 := og_t hc2 h0
      refine lv_iconst (v := 0) hx hb d2_second_21 (by decide) ?_
      exact q_ipure S hr hlk h0 d2_second_22
    · have h0 := og_f hc2 h0
      refine lv_aload_n hx hb d2_second_12 rfl (lv_at hl 0 rfl) ?_
      refine g2_15 S hK hR hh rfl d2_second_13 ?_
      refine lv_iload_n hx hb d2_second_16 rfl (lv_at hl 1 rfl) ?_
      obtain ⟨hi3, h0⟩ := og_if h0
      refine q_ld (k := x1.toNatClampNeg) S hK hR (oa_2_1 _ hh) (ea_2_1 _ hh w _) hi3 rfl d2_second_17 ?_
      refine lv_goto (tgt := 22) hx hb d2_second_18 (by decide) ?_
      exact q_ipure S hr hlk h0 d2_second_22
set_option maxHeartbeats 4000000 in
set_option maxRecDepth 100000 in
theorem k0_73 {p : Program} {l : Launch} {e : Env} {R : Room} {s : State} {m : MethodId} {args : Array Value} {below : List Frame} {meth : Method} {c : Code} {H : Heap} {locs : List Loc} {cells slots : Nat} {Q : State → Prop} {cc : ByteArray} {pc nL : Nat} {ls : Array Slot} {rest : List Value} {w : WV} {σ : Mem} {h : Nat} {x1 : Int32} {r : Int32} (S : CallFix p m c cc nL s args gtbl RX0) (hK : KS LC w s) (hR : Rp EC LC w σ H) (hh : h ∈ pairsL) (h0 : f2_second σ h x1 = some r) (hf : cells + 0 ≤ R.cells ∧ slots + 0 ≤ R.slots) (hRm : rm2_second.frames + 1 ≤ R.frames ∧ 8 + (2 + 11) + rm2_second.locals ≤ R.locals) (hl : ls.size = nL) (hW : (rest.map fun v => v.category).sum ≤ 8) (hdg : decode cc pc = .ok (.invokevirtual 73, 3)) (kk : W p l e R s m args below meth c H locs cells slots Q (F0 m (pc + 3) ls (.int r :: rest))) : W p l e R s m args below meth c H locs cells slots Q (F0 m pc ls (.int x1 :: .ref (w.2.2 h) :: rest)) := r_endp (run_V (n := 1) (As := [.int x1]) S hK hR (ok_2 _ hh) (eC_2 _ hh w _) rfl (gw_V (gt_at 411 (by decide +kernel) (by decide +kernel)) (gt_at 412 (by decide +kernel) (by decide +kernel)) (gt_at 413 (by decide +kernel) (by decide +kernel)) (gt_at 77 (by decide +kernel) (by decide +kernel)) (gt_at 414 (by decide +kernel) (by decide +kernel))) (by decide +kernel) rfl (c2_second l hh h0) ⟨rfl, rfl⟩ hRm hf hl rfl hW hdg) kk
set_option maxHeartbeats 4000000 in
set_option maxRecDepth 100000 in
theorem k2_49 {p : Program} {l : Launch} {e : Env} {R : Room} {s : State} {m : MethodId} {args : Array Value} {below : List Frame} {meth : Method} {c : Code} {H : Heap} {locs : List Loc} {cells slots : Nat} {Q : State → Prop} {cc : ByteArray} {pc nL : Nat} {ls : Array Slot} {rest : List Value} {w : WV} {σ : Mem} {h : Nat} {x1 : Int32} {r : Int32} (S : CallFix p m c cc nL s args gtbl RX2) (hK : KS LC w s) (hR : Rp EC LC w σ H) (hh : h ∈ pairsL) (h0 : f2_second σ h x1 = some r) (hf : cells + 0 ≤ R.cells ∧ slots + 0 ≤ R.slots) (hRm : rm2_second.frames + 1 ≤ R.frames ∧ 8 + (2 + 11) + rm2_second.locals ≤ R.locals) (hl : ls.size = nL) (hW : (rest.map fun v => v.category).sum ≤ 8) (hdg : decode cc pc = .ok (.invokevirtual 49, 3)) (kk : W p l e R s m args below meth c H locs cells slots Q (F0 m (pc + 3) ls (.int r :: rest))) : W p l e R s m args below meth c H locs cells slots Q (F0 m pc ls (.int x1 :: .ref (w.2.2 h) :: rest)) := r_endp (run_V (n := 1) (As := [.int x1]) S hK hR (ok_2 _ hh) (eC_2 _ hh w _) rfl (gw_V (gt_at 429 (by decide +kernel) (by decide +kernel)) (gt_at 412 (by decide +kernel) (by decide +kernel)) (gt_at 413 (by decide +kernel) (by decide +kernel)) (gt_at 77 (by decide +kernel) (by decide +kernel)) (gt_at 414 (by decide +kernel) (by decide +kernel))) (by decide +kernel) rfl (c2_second l hh h0) ⟨rfl, rfl⟩ hRm hf hl rfl hW hdg) kk
set_option maxHeartbeats 4000000 in
set_option maxRecDepth 100000 in
theorem k6_124 {p : Program} {l : Launch} {e : Env} {R : Room} {s : State} {m : MethodId} {args : Array Value} {below : List Frame} {meth : Method} {c : Code} {H : Heap} {locs : List Loc} {cells slots : Nat} {Q : State → Prop} {cc : ByteArray} {pc nL : Nat} {ls : Array Slot} {rest : List Value} {w : WV} {σ : Mem} {h : Nat} {x1 : Int32} {r : Int32} (S : CallFix p m c cc nL s args gtbl RX6) (hK : KS LC w s) (hR : Rp EC LC w σ H) (hh : h ∈ pairsL) (h0 : f2_second σ h x1 = some r) (hf : cells + 0 ≤ R.cells ∧ slots + 0 ≤ R.slots) (hRm : rm2_second.frames + 1 ≤ R.frames ∧ 8 + (2 + 11) + rm2_second.locals ≤ R.locals) (hl : ls.size = nL) (hW : (rest.map fun v => v.category).sum ≤ 8) (hdg : decode cc pc = .ok (.invokevirtual 124, 3)) (kk : W p l e R s m args below meth c H locs cells slots Q (F0 m (pc + 3) ls (.int r :: rest))) : W p l e R s m args below meth c H locs cells slots Q (F0 m pc ls (.int x1 :: .ref (w.2.2 h) :: rest)) := r_endp (run_V (n := 1) (As := [.int x1]) S hK hR (ok_2 _ hh) (eC_2 _ hh w _) rfl (gw_V (gt_at 544 (by decide +kernel) (by decide +kernel)) (gt_at 412 (by decide +kernel) (by decide +kernel)) (gt_at 413 (by decide +kernel) (by decide +kernel)) (gt_at 77 (by decide +kernel) (by decide +kernel)) (gt_at 414 (by decide +kernel) (by decide +kernel))) (by decide +kernel) rfl (c2_second l hh h0) ⟨rfl, rfl⟩ hRm hf hl rfl hW hdg) kk
set_option maxHeartbeats 4000000 in
set_option maxRecDepth 100000 in
theorem k1_114 {p : Program} {l : Launch} {e : Env} {R : Room} {s : State} {m : MethodId} {args : Array Value} {below : List Frame} {meth : Method} {c : Code} {H : Heap} {locs : List Loc} {cells slots : Nat} {Q : State → Prop} {cc : ByteArray} {pc nL : Nat} {ls : Array Slot} {rest : List Value} {w : WV} {σ : Mem} {h : Nat} {x1 : Int32} {r : Int32} (S : CallFix p m c cc nL s args gtbl RX1) (hK : KS LC w s) (hR : Rp EC LC w σ H) (hh : h ∈ pairsL) (h0 : f2_second σ h x1 = some r) (hf : cells + 0 ≤ R.cells ∧ slots + 0 ≤ R.slots) (hRm : rm2_second.frames + 1 ≤ R.frames ∧ 8 + (2 + 11) + rm2_second.locals ≤ R.locals) (hl : ls.size = nL) (hW : (rest.map fun v => v.category).sum ≤ 8) (hdg : decode cc pc = .ok (.invokevirtual 114, 3)) (kk : W p l e R s m args below meth c H locs cells slots Q (F0 m (pc + 3) ls (.int r :: rest))) : W p l e R s m args below meth c H locs cells slots Q (F0 m pc ls (.int x1 :: .ref (w.2.2 h) :: rest)) := r_endp (run_V (n := 1) (As := [.int x1]) S hK hR (ok_2 _ hh) (eC_2 _ hh w _) rfl (gw_V (gt_at 603 (by decide +kernel) (by decide +kernel)) (gt_at 412 (by decide +kernel) (by decide +kernel)) (gt_at 413 (by decide +kernel) (by decide +kernel)) (gt_at 77 (by decide +kernel) (by decide +kernel)) (gt_at 414 (by decide +kernel) (by decide +kernel))) (by decide +kernel) rfl (c2_second l hh h0) ⟨rfl, rfl⟩ hRm hf hl rfl hW hdg) kk
set_option maxHeartbeats 4000000 in
set_option maxRecDepth 100000 in
theorem k4_43 {p : Program} {l : Launch} {e : Env} {R : Room} {s : State} {m : MethodId} {args : Array Value} {below : List Frame} {meth : Method} {c : Code} {H : Heap} {locs : List Loc} {cells slots : Nat} {Q : State → Prop} {cc : ByteArray} {pc nL : Nat} {ls : Array Slot} {rest : List Value} {w : WV} {σ : Mem} {h : Nat} {x1 : Int32} {r : Int32} (S : CallFix p m c cc nL s args gtbl RX4) (hK : KS LC w s) (hR : Rp EC LC w σ H) (hh : h ∈ pairsL) (h0 : f2_second σ h x1 = some r) (hf : cells + 0 ≤ R.cells ∧ slots + 0 ≤ R.slots) (hRm : rm2_second.frames + 1 ≤ R.frames ∧ 8 + (2 + 11) + rm2_second.locals ≤ R.locals) (hl : ls.size = nL) (hW : (rest.map fun v => v.category).sum ≤ 8) (hdg : decode cc pc = .ok (.invokevirtual 43, 3)) (kk : W p l e R s m args below meth c H locs cells slots Q (F0 m (pc + 3) ls (.int r :: rest))) : W p l e R s m args below meth c H locs cells slots Q (F0 m pc ls (.int x1 :: .ref (w.2.2 h) :: rest)) := r_endp (run_V (n := 1) (As := [.int x1]) S hK hR (ok_2 _ hh) (eC_2 _ hh w _) rfl (gw_V (gt_at 631 (by decide +kernel) (by decide +kernel)) (gt_at 412 (by decide +kernel) (by decide +kernel)) (gt_at 413 (by decide +kernel) (by decide +kernel)) (gt_at 77 (by decide +kernel) (by decide +kernel)) (gt_at 414 (by decide +kernel) (by decide +kernel))) (by decide +kernel) rfl (c2_second l hh h0) ⟨rfl, rfl⟩ hRm hf hl rfl hW hdg) kk
/-! FourTenGates$Pairs.isFull()Z -/
abbrev rm2_isFull : Room := { frames := 0, cells := 0, slots := 0, locals := 0 }
theorem d2_isFull_0 : decode cX2_isFull 0 = .ok (.aload_n 0, 1) := by decide +kernel
theorem d2_isFull_1 : decode cX2_isFull 1 = .ok (.getfield 18, 3) := by decide +kernel
theorem d2_isFull_4 : decode cX2_isFull 4 = .ok (.aload_n 0, 1) := by decide +kernel
theorem d2_isFull_5 : decode cX2_isFull 5 = .ok (.getfield 28, 3) := by decide +kernel
theorem d2_isFull_8 : decode cX2_isFull 8 = .ok (.if_icmp .lt 7, 3) := by decide +kernel
theorem d2_isFull_11 : decode cX2_isFull 11 = .ok (.iconst 1, 1) := by decide +kernel
theorem d2_isFull_12 : decode cX2_isFull 12 = .ok (.goto 4, 3) := by decide +kernel
theorem d2_isFull_15 : decode cX2_isFull 15 = .ok (.iconst 0, 1) := by decide +kernel
theorem d2_isFull_16 : decode cX2_isFull 16 = .ok (.ireturn, 1) := by decide +kernel
def f2_isFull (σ : Mem) (h : Nat) : Option Int32 := if (σ h 3) < (σ h 2) then some 0 else some 1
set_option maxHeartbeats 4000000 in
set_option maxRecDepth 100000 in
theorem c2_isFull (l : Launch) {w : WV} {σ : Mem} {h : Nat} {r : Int32} (hh : h ∈ pairsL) (h0 : f2_isFull σ h = some r) : Met l yX2_isFull (wy yX2_isFull cX2_isFull 1 (some .boolean)) rm2_isFull (Pw EC LC w [.ref (w.2.2 h)] σ) (Qp (.int r)) 0 0 (fun _ => False) := by
  refine mk_met (by decide) (Nat.le_of_ble_eq_true rfl) ?_
  intro p e s m below meth c S hr hlk hK hR ls hl
  obtain ⟨hx, hb, hml, hown, hts⟩ := id S
  have hl : lv_has ls 1 [(0, .ref (w.2.2 h))] := hl
  unfold f2_isFull at h0
  refine lv_aload_n hx hb d2_isFull_0 rfl (lv_at hl 0 rfl) ?_
  refine g2_18 S hK hR hh d2_isFull_1 ?_
  refine lv_aload_n hx hb d2_isFull_4 rfl (lv_at hl 0 rfl) ?_
  refine g2_28 S hK hR hh d2_isFull_5 ?_
  refine lv_icmp_lt (tgt := 15) hx hb d2_isFull_8 (by decide) (fun hc1 => ?_) (fun hc1 => ?_)
  · have h0 := og_t hc1 h0
    refine lv_iconst (v := 0) hx hb d2_isFull_15 (by decide) ?_
    exact q_zpure S hr hlk (Or.inl rfl) h0 d2_isFull_16
  · have h0 := og_f hc1 h0
    refine lv_iconst (v := 1) hx hb d2_isFull_11 (by decide) ?_
    refine lv_goto (tgt := 16) hx hb d2_isFull_12 (by decide) ?_
    exact q_zpure S hr hlk (Or.inr rfl) h0 d2_isFull_16
set_option maxHeartbeats 4000000 in
set_option maxRecDepth 100000 in
theorem k2_31 {p : Program} {l : Launch} {e : Env} {R : Room} {s : State} {m : MethodId} {args : Array Value} {below : List Frame} {meth : Method} {c : Code} {H : Heap} {locs : List Loc} {cells slots : Nat} {Q : State → Prop} {cc : ByteArray} {pc nL : Nat} {ls : Array Slot} {rest : List Value} {w : WV} {σ : Mem} {h : Nat} {r : Int32} (S : CallFix p m c cc nL s args gtbl RX2) (hK : KS LC w s) (hR : Rp EC LC w σ H) (hh : h ∈ pairsL) (h0 : f2_isFull σ h = some r) (hf : cells + 0 ≤ R.cells ∧ slots + 0 ≤ R.slots) (hRm : rm2_isFull.frames + 1 ≤ R.frames ∧ 8 + (1 + 11) + rm2_isFull.locals ≤ R.locals) (hl : ls.size = nL) (hW : (rest.map fun v => v.category).sum ≤ 8) (hdg : decode cc pc = .ok (.invokevirtual 31, 3)) (kk : W p l e R s m args below meth c H locs cells slots Q (F0 m (pc + 3) ls (.int r :: rest))) : W p l e R s m args below meth c H locs cells slots Q (F0 m pc ls (.ref (w.2.2 h) :: rest)) := r_endp (run_V (n := 0) (As := []) S hK hR (ok_2 _ hh) (eC_2 _ hh w _) rfl (gw_V (gt_at 377 (by decide +kernel) (by decide +kernel)) (gt_at 378 (by decide +kernel) (by decide +kernel)) (gt_at 379 (by decide +kernel) (by decide +kernel)) (gt_at 77 (by decide +kernel) (by decide +kernel)) (gt_at 380 (by decide +kernel) (by decide +kernel))) (by decide +kernel) rfl (c2_isFull l hh h0) ⟨rfl, rfl⟩ hRm hf hl rfl hW hdg) kk
set_option maxHeartbeats 4000000 in
set_option maxRecDepth 100000 in
theorem k6_181 {p : Program} {l : Launch} {e : Env} {R : Room} {s : State} {m : MethodId} {args : Array Value} {below : List Frame} {meth : Method} {c : Code} {H : Heap} {locs : List Loc} {cells slots : Nat} {Q : State → Prop} {cc : ByteArray} {pc nL : Nat} {ls : Array Slot} {rest : List Value} {w : WV} {σ : Mem} {h : Nat} {r : Int32} (S : CallFix p m c cc nL s args gtbl RX6) (hK : KS LC w s) (hR : Rp EC LC w σ H) (hh : h ∈ pairsL) (h0 : f2_isFull σ h = some r) (hf : cells + 0 ≤ R.cells ∧ slots + 0 ≤ R.slots) (hRm : rm2_isFull.frames + 1 ≤ R.frames ∧ 8 + (1 + 11) + rm2_isFull.locals ≤ R.locals) (hl : ls.size = nL) (hW : (rest.map fun v => v.category).sum ≤ 8) (hdg : decode cc pc = .ok (.invokevirtual 181, 3)) (kk : W p l e R s m args below meth c H locs cells slots Q (F0 m (pc + 3) ls (.int r :: rest))) : W p l e R s m args below meth c H locs cells slots Q (F0 m pc ls (.ref (w.2.2 h) :: rest)) := r_endp (run_V (n := 0) (As := []) S hK hR (ok_2 _ hh) (eC_2 _ hh w _) rfl (gw_V (gt_at 770 (by decide +kernel) (by decide +kernel)) (gt_at 378 (by decide +kernel) (by decide +kernel)) (gt_at 379 (by decide +kernel) (by decide +kernel)) (gt_at 77 (by decide +kernel) (by decide +kernel)) (gt_at 380 (by decide +kernel) (by decide +kernel))) (by decide +kernel) rfl (c2_isFull l hh h0) ⟨rfl, rfl⟩ hRm hf hl rfl hW hdg) kk
/-! FourTenGates$Pairs.add(II)Z -/
abbrev rm2_add : Room := { frames := 1, cells := 0, slots := 0, locals := 20 }
theorem d2_add_0 : decode cX2_add 0 = .ok (.aload_n 0, 1) := by decide +kernel
theorem d2_add_1 : decode cX2_add 1 = .ok (.invokevirtual 31, 3) := by decide +kernel
theorem d2_add_4 : decode cX2_add 4 = .ok (.ifCond .eq 5, 3) := by decide +kernel
theorem d2_add_7 : decode cX2_add 7 = .ok (.iconst 0, 1) := by decide +kernel
theorem d2_add_8 : decode cX2_add 8 = .ok (.ireturn, 1) := by decide +kernel
theorem d2_add_9 : decode cX2_add 9 = .ok (.aload_n 0, 1) := by decide +kernel
theorem d2_add_10 : decode cX2_add 10 = .ok (.getfield 9, 3) := by decide +kernel
theorem d2_add_13 : decode cX2_add 13 = .ok (.aload_n 0, 1) := by decide +kernel
theorem d2_add_14 : decode cX2_add 14 = .ok (.getfield 18, 3) := by decide +kernel
theorem d2_add_17 : decode cX2_add 17 = .ok (.iload_n 1, 1) := by decide +kernel
theorem d2_add_18 : decode cX2_add 18 = .ok (.iastore, 1) := by decide +kernel
theorem d2_add_19 : decode cX2_add 19 = .ok (.aload_n 0, 1) := by decide +kernel
theorem d2_add_20 : decode cX2_add 20 = .ok (.getfield 15, 3) := by decide +kernel
theorem d2_add_23 : decode cX2_add 23 = .ok (.aload_n 0, 1) := by decide +kernel
theorem d2_add_24 : decode cX2_add 24 = .ok (.getfield 18, 3) := by decide +kernel
theorem d2_add_27 : decode cX2_add 27 = .ok (.iload_n 2, 1) := by decide +kernel
theorem d2_add_28 : decode cX2_add 28 = .ok (.iastore, 1) := by decide +kernel
theorem d2_add_29 : decode cX2_add 29 = .ok (.aload_n 0, 1) := by decide +kernel
theorem d2_add_30 : decode cX2_add 30 = .ok (.dup, 1) := by decide +kernel
theorem d2_add_31 : decode cX2_add 31 = .ok (.getfield 18, 3) := by decide +kernel
theorem d2_add_34 : decode cX2_add 34 = .ok (.iconst 1, 1) := by decide +kernel
theorem d2_add_35 : decode cX2_add 35 = .ok (.iadd, 1) := by decide +kernel
theorem d2_add_36 : decode cX2_add 36 = .ok (.putfield 18, 3) := by decide +kernel
theorem d2_add_39 : decode cX2_add 39 = .ok (.iconst 1, 1) := by decide +kernel
theorem d2_add_40 : decode cX2_add 40 = .ok (.ireturn, 1) := by decide +kernel
def f2_add (σ : Mem) (h : Nat) (x1 : Int32) (x2 : Int32) : Option (Mem × Int32) := Option.bind (f2_isFull σ h) fun r1 => if r1 = 0 then if ¬ (σ h 3 < 0 ∨ 8 ≤ (σ h 3).toNatClampNeg) then (bm (mu σ (h + 1) ((σ h 3).toNatClampNeg) x1) fun σ4 => if ¬ (σ4 h 3 < 0 ∨ 8 ≤ (σ4 h 3).toNatClampNeg) then (bm (mu σ4 (h + 2) ((σ4 h 3).toNatClampNeg) x2) fun σ6 => bm (mu σ6 h 3 ((σ6 h 3) + 1)) fun σ7 => some (σ7, 1)) else none) else none else some (σ, 0)
set_option maxHeartbeats 4000000 in
set_option maxRecDepth 100000 in
theorem c2_add (l : Launch) {w : WV} {σ : Mem} {h : Nat} {x1 : Int32} {x2 : Int32} {σ' : Mem} {r : Int32} (hh : h ∈ pairsL) (h0 : f2_add σ h x1 x2 = some (σ', r)) : Met l yX2_add (wy yX2_add cX2_add 3 (some .boolean)) rm2_add (Pw EC LC w [.ref (w.2.2 h), .int x1, .int x2] σ) (Qw EC LC w σ' (some (.int r))) 0 0 (AW LC w) := by
  refine mk_met (by decide) (Nat.le_of_ble_eq_true rfl) ?_
  intro p e s m below meth c S hr hlk hK hR ls hl
  obtain ⟨hx, hb, hml, hown, hts⟩ := id S
  have hl : lv_has ls 3 [(0, .ref (w.2.2 h)), (1, .int x1), (2, .int x2)] := hl
  have hS : va_S (AW LC w) s.heap s.heap [] := va_S.rf
  unfold f2_add at h0
  refine lv_aload_n hx hb d2_add_0 rfl (lv_at hl 0 rfl) ?_
  obtain ⟨r1, hr1, h0⟩ := og_b h0
  refine k2_31 S hK hR hh hr1 ⟨Nat.zero_le _, Nat.zero_le _⟩ ⟨Nat.le_of_ble_eq_true rfl, Nat.le_of_ble_eq_true rfl⟩ hl.1 (Nat.le_of_ble_eq_true rfl) d2_add_1 ?_
  refine lv_if_eq (tgt := 9) hx hb d2_add_4 (by decide) (fun hc2 => ?_) (fun hc2 => ?_)
  · have h0 := og_t hc2 h0
    refine lv_aload_n hx hb d2_add_9 rfl (lv_at hl 0 rfl) ?_
    refine g2_9 S hK hR hh rfl d2_add_10 ?_
    refine lv_aload_n hx hb d2_add_13 rfl (lv_at hl 0 rfl) ?_
    refine g2_18 S hK hR hh d2_add_14 ?_
    refine lv_iload_n hx hb d2_add_17 rfl (lv_at hl 1 rfl) ?_
    obtain ⟨hi3, h0⟩ := og_if h0
    obtain ⟨σ4, hm4, h0⟩ := og_m h0
    refine q_st S hK hR hS (oa_2_0 _ hh) (ea_2_0 _ hh w) hi3 rfl hm4 d2_add_18 (fun H locs hR hS => ?_)
    refine lv_aload_n hx hb d2_add_19 rfl (lv_at hl 0 rfl) ?_
    refine g2_15 S hK hR hh rfl d2_add_20 ?_
    refine lv_aload_n hx hb d2_add_23 rfl (lv_at hl 0 rfl) ?_
    refine g2_18 S hK hR hh d2_add_24 ?_
    refine lv_iload_n hx hb d2_add_27 rfl (lv_at hl 2 rfl) ?_
    obtain ⟨hi5, h0⟩ := og_if h0
    obtain ⟨σ6, hm6, h0⟩ := og_m h0
    refine q_st S hK hR hS (oa_2_1 _ hh) (ea_2_1 _ hh w) hi5 rfl hm6 d2_add_28 (fun H locs hR hS => ?_)
    refine lv_aload_n hx hb d2_add_29 rfl (lv_at hl 0 rfl) ?_
    refine lv_dup hx hb d2_add_30 rfl ?_
    refine g2_18 S hK hR hh d2_add_31 ?_
    refine lv_iconst (v := 1) hx hb d2_add_34 (by decide) ?_
    refine lv_iadd hx hb d2_add_35 ?_
    obtain ⟨σ7, hm7, h0⟩ := og_m h0
    refine u2_18 S hK hR hS hh hm7 d2_add_36 (fun H locs hR hS => ?_)
    refine lv_iconst (v := 1) hx hb d2_add_39 (by decide) ?_
    exact q_zret S hr hlk hR hS (Or.inr rfl) h0 d2_add_40
  · have h0 := og_f hc2 h0
    refine lv_iconst (v := 0) hx hb d2_add_7 (by decide) ?_
    exact q_zret S hr hlk hR hS (Or.inl rfl) h0 d2_add_8
set_option maxHeartbeats 4000000 in
set_option maxRecDepth 100000 in
theorem k0_80 {p : Program} {l : Launch} {e : Env} {R : Room} {s : State} {m : MethodId} {args : Array Value} {below : List Frame} {meth : Method} {c : Code} {H : Heap} {locs : List Loc} {cells slots : Nat} {Q : State → Prop} {cc : ByteArray} {pc nL : Nat} {ls : Array Slot} {rest : List Value} {w : WV} {σ : Mem} {h : Nat} {x1 : Int32} {x2 : Int32} {σ1 : Mem} {r : Int32} (S : CallFix p m c cc nL s args gtbl RX0) (hK : KS LC w s) (hR : Rp EC LC w σ H) (hS : va_S (AW LC w) s.heap H locs) (hh : h ∈ pairsL) (h0 : f2_add σ h x1 x2 = some (σ1, r)) (hf : cells + 0 ≤ R.cells ∧ slots + 0 ≤ R.slots) (hRm : rm2_add.frames + 1 ≤ R.frames ∧ 8 + (3 + 11) + rm2_add.locals ≤ R.locals) (hl : ls.size = nL) (hW : (rest.map fun v => v.category).sum ≤ 8) (hdg : decode cc pc = .ok (.invokevirtual 80, 3)) (kk : ∀ (H1 : Heap) (locs1 : List Loc), Rp EC LC w σ1 H1 → va_S (AW LC w) s.heap H1 locs1 → W p l e R s m args below meth c H1 locs1 cells slots Q (F0 m (pc + 3) ls (.int r :: rest))) : W p l e R s m args below meth c H locs cells slots Q (F0 m pc ls (.int x2 :: .int x1 :: .ref (w.2.2 h) :: rest)) := r_end hS (run_V (n := 2) (As := [.int x1, .int x2]) S hK hR (ok_2 _ hh) (eC_2 _ hh w _) rfl (gw_V (gt_at 373 (by decide +kernel) (by decide +kernel)) (gt_at 374 (by decide +kernel) (by decide +kernel)) (gt_at 375 (by decide +kernel) (by decide +kernel)) (gt_at 77 (by decide +kernel) (by decide +kernel)) (gt_at 376 (by decide +kernel) (by decide +kernel))) (by decide +kernel) rfl (c2_add l hh h0) ⟨rfl, rfl⟩ hRm hf hl rfl hW hdg) kk
set_option maxHeartbeats 4000000 in
set_option maxRecDepth 100000 in
theorem k2_52 {p : Program} {l : Launch} {e : Env} {R : Room} {s : State} {m : MethodId} {args : Array Value} {below : List Frame} {meth : Method} {c : Code} {H : Heap} {locs : List Loc} {cells slots : Nat} {Q : State → Prop} {cc : ByteArray} {pc nL : Nat} {ls : Array Slot} {rest : List Value} {w : WV} {σ : Mem} {h : Nat} {x1 : Int32} {x2 : Int32} {σ1 : Mem} {r : Int32} (S : CallFix p m c cc nL s args gtbl RX2) (hK : KS LC w s) (hR : Rp EC LC w σ H) (hS : va_S (AW LC w) s.heap H locs) (hh : h ∈ pairsL) (h0 : f2_add σ h x1 x2 = some (σ1, r)) (hf : cells + 0 ≤ R.cells ∧ slots + 0 ≤ R.slots) (hRm : rm2_add.frames + 1 ≤ R.frames ∧ 8 + (3 + 11) + rm2_add.locals ≤ R.locals) (hl : ls.size = nL) (hW : (rest.map fun v => v.category).sum ≤ 8) (hdg : decode cc pc = .ok (.invokevirtual 52, 3)) (kk : ∀ (H1 : Heap) (locs1 : List Loc), Rp EC LC w σ1 H1 → va_S (AW LC w) s.heap H1 locs1 → W p l e R s m args below meth c H1 locs1 cells slots Q (F0 m (pc + 3) ls (.int r :: rest))) : W p l e R s m args below meth c H locs cells slots Q (F0 m pc ls (.int x2 :: .int x1 :: .ref (w.2.2 h) :: rest)) := r_end hS (run_V (n := 2) (As := [.int x1, .int x2]) S hK hR (ok_2 _ hh) (eC_2 _ hh w _) rfl (gw_V (gt_at 430 (by decide +kernel) (by decide +kernel)) (gt_at 374 (by decide +kernel) (by decide +kernel)) (gt_at 375 (by decide +kernel) (by decide +kernel)) (gt_at 77 (by decide +kernel) (by decide +kernel)) (gt_at 376 (by decide +kernel) (by decide +kernel))) (by decide +kernel) rfl (c2_add l hh h0) ⟨rfl, rfl⟩ hRm hf hl rfl hW hdg) kk
set_option maxHeartbeats 4000000 in
set_option maxRecDepth 100000 in
theorem k6_184 {p : Program} {l : Launch} {e : Env} {R : Room} {s : State} {m : MethodId} {args : Array Value} {below : List Frame} {meth : Method} {c : Code} {H : Heap} {locs : List Loc} {cells slots : Nat} {Q : State → Prop} {cc : ByteArray} {pc nL : Nat} {ls : Array Slot} {rest : List Value} {w : WV} {σ : Mem} {h : Nat} {x1 : Int32} {x2 : Int32} {σ1 : Mem} {r : Int32} (S : CallFix p m c cc nL s args gtbl RX6) (hK : KS LC w s) (hR : Rp EC LC w σ H) (hS : va_S (AW LC w) s.heap H locs) (hh : h ∈ pairsL) (h0 : f2_add σ h x1 x2 = some (σ1, r)) (hf : cells + 0 ≤ R.cells ∧ slots + 0 ≤ R.slots) (hRm : rm2_add.frames + 1 ≤ R.frames ∧ 8 + (3 + 11) + rm2_add.locals ≤ R.locals) (hl : ls.size = nL) (hW : (rest.map fun v => v.category).sum ≤ 8) (hdg : decode cc pc = .ok (.invokevirtual 184, 3)) (kk : ∀ (H1 : Heap) (locs1 : List Loc), Rp EC LC w σ1 H1 → va_S (AW LC w) s.heap H1 locs1 → W p l e R s m args below meth c H1 locs1 cells slots Q (F0 m (pc + 3) ls (.int r :: rest))) : W p l e R s m args below meth c H locs cells slots Q (F0 m pc ls (.int x2 :: .int x1 :: .ref (w.2.2 h) :: rest)) := r_end hS (run_V (n := 2) (As := [.int x1, .int x2]) S hK hR (ok_2 _ hh) (eC_2 _ hh w _) rfl (gw_V (gt_at 771 (by decide +kernel) (by decide +kernel)) (gt_at 374 (by decide +kernel) (by decide +kernel)) (gt_at 375 (by decide +kernel) (by decide +kernel)) (gt_at 77 (by decide +kernel) (by decide +kernel)) (gt_at 376 (by decide +kernel) (by decide +kernel))) (by decide +kernel) rfl (c2_add l hh h0) ⟨rfl, rfl⟩ hRm hf hl rfl hW hdg) kk
/-! FourTenGates$Pairs.copy(LFourTenGates$Pairs;)V -/
abbrev rm2_copy : Room := { frames := 2, cells := 0, slots := 0, locals := 42 }
theorem d2_copy_0 : decode cX2_copy 0 = .ok (.aload_n 0, 1) := by decide +kernel
theorem d2_copy_1 : decode cX2_copy 1 = .ok (.invokevirtual 39, 3) := by decide +kernel
theorem d2_copy_4 : decode cX2_copy 4 = .ok (.pop, 1) := by decide +kernel
theorem d2_copy_5 : decode cX2_copy 5 = .ok (.iconst 0, 1) := by decide +kernel
theorem d2_copy_6 : decode cX2_copy 6 = .ok (.istore_n 2, 1) := by decide +kernel
theorem d2_copy_7 : decode cX2_copy 7 = .ok (.iload_n 2, 1) := by decide +kernel
theorem d2_copy_8 : decode cX2_copy 8 = .ok (.aload_n 1, 1) := by decide +kernel
theorem d2_copy_9 : decode cX2_copy 9 = .ok (.invokevirtual 43, 3) := by decide +kernel
theorem d2_copy_12 : decode cX2_copy 12 = .ok (.if_icmp .ge 24, 3) := by decide +kernel
theorem d2_copy_15 : decode cX2_copy 15 = .ok (.aload_n 0, 1) := by decide +kernel
theorem d2_copy_16 : decode cX2_copy 16 = .ok (.aload_n 1, 1) := by decide +kernel
theorem d2_copy_17 : decode cX2_copy 17 = .ok (.iload_n 2, 1) := by decide +kernel
theorem d2_copy_18 : decode cX2_copy 18 = .ok (.invokevirtual 45, 3) := by decide +kernel
theorem d2_copy_21 : decode cX2_copy 21 = .ok (.aload_n 1, 1) := by decide +kernel
theorem d2_copy_22 : decode cX2_copy 22 = .ok (.iload_n 2, 1) := by decide +kernel
theorem d2_copy_23 : decode cX2_copy 23 = .ok (.invokevirtual 49, 3) := by decide +kernel
theorem d2_copy_26 : decode cX2_copy 26 = .ok (.invokevirtual 52, 3) := by decide +kernel
theorem d2_copy_29 : decode cX2_copy 29 = .ok (.pop, 1) := by decide +kernel
theorem d2_copy_30 : decode cX2_copy 30 = .ok (.iinc 2 1, 3) := by decide +kernel
theorem d2_copy_33 : decode cX2_copy 33 = .ok (.goto (-26), 3) := by decide +kernel
theorem d2_copy_36 : decode cX2_copy 36 = .ok (.return_, 1) := by decide +kernel
def f2_copy_b7 (h : Nat) (o1 : Nat) : Nat → Mem → Int32 → Option Mem
  | 0, _, _ => none
  | n + 1, σ, x2 => Option.bind (f2_size σ o1) fun r1 => if r1 ≤ x2 then some σ else Option.bind (f2_first σ o1 x2) fun r3 => Option.bind (f2_second σ o1 x2) fun r4 => ob (f2_add σ h r3 r4) fun σ5 r5 => f2_copy_b7 h o1 n σ5 (x2 + 1)
set_option maxHeartbeats 4000000 in
set_option maxRecDepth 100000 in
theorem t2_copy_b7 {p : Program} {l : Launch} {e : Env} {s : State} {m : MethodId} {args : Array Value} {below : List Frame} {meth : Method} {c : Code} {w : WV} {h : Nat} {o1 : Nat} {σ' : Mem} (S : CallFix p m c cX2_copy 3 s args gtbl RX2) (hr : meth.sig.returnType = none) (hlk : meth.locks = false) (hK : KS LC w s) (hh : h ∈ pairsL) (ho1 : o1 ∈ pairsL) : ∀ (n : Nat), ∀ (σ : Mem) (x2 : Int32), f2_copy_b7 h o1 n σ x2 = some σ' → ∀ (H : Heap) (locs : List Loc), Rp EC LC w σ H → va_S (AW LC w) s.heap H locs → ∀ (ls : Array Slot), lv_has ls 3 [(0, .ref (w.2.2 h)), (1, .ref (w.2.2 o1)), (2, .int x2)] → W p l e rm2_copy s m args below meth c H locs 0 0 (MQ below (Qw EC LC w σ' none) args s 0 0 (AW LC w)) (F0 m 7 ls []) := by
  obtain ⟨hx, hb, hml, hown, hts⟩ := id S
  intro n
  induction n with
  | zero =>
    intro σ x2 h0
    cases (show none = _ from h0)
  | succ n ih =>
    intro σ x2 h0 H locs hR hS ls hl
    rw [f2_copy_b7] at h0
    refine lv_iload_n hx hb d2_copy_7 rfl (lv_at hl 2 rfl) ?_
    refine lv_aload_n hx hb d2_copy_8 rfl (lv_at hl 1 rfl) ?_
    obtain ⟨r1, hr1, h0⟩ := og_b h0
    refine k2_43 S hK hR ho1 hr1 ⟨Nat.zero_le _, Nat.zero_le _⟩ ⟨Nat.le_of_ble_eq_true rfl, Nat.le_of_ble_eq_true rfl⟩ hl.1 (Nat.le_of_ble_eq_true rfl) d2_copy_9 ?_
    refine lv_icmp_ge (tgt := 36) hx hb d2_copy_12 (by decide) (fun hc2 => ?_) (fun hc2 => ?_)
    · have h0 := og_t hc2 h0
      exact q_vret S hr hlk hR hS h0 d2_copy_36
    · have h0 := og_f hc2 h0
      refine lv_aload_n hx hb d2_copy_15 rfl (lv_at hl 0 rfl) ?_
      refine lv_aload_n hx hb d2_copy_16 rfl (lv_at hl 1 rfl) ?_
      refine lv_iload_n hx hb d2_copy_17 rfl (lv_at hl 2 rfl) ?_
      obtain ⟨r3, hr3, h0⟩ := og_b h0
      refine k2_45 S hK hR ho1 hr3 ⟨Nat.zero_le _, Nat.zero_le _⟩ ⟨Nat.le_of_ble_eq_true rfl, Nat.le_of_ble_eq_true rfl⟩ hl.1 (Nat.le_of_ble_eq_true rfl) d2_copy_18 ?_
      refine lv_aload_n hx hb d2_copy_21 rfl (lv_at hl 1 rfl) ?_
      refine lv_iload_n hx hb d2_copy_22 rfl (lv_at hl 2 rfl) ?_
      obtain ⟨r4, hr4, h0⟩ := og_b h0
      refine k2_49 S hK hR ho1 hr4 ⟨Nat.zero_le _, Nat.zero_le _⟩ ⟨Nat.le_of_ble_eq_true rfl, Nat.le_of_ble_eq_true rfl⟩ hl.1 (Nat.le_of_ble_eq_true rfl) d2_copy_23 ?_
      obtain ⟨σ5, r5, hr5, h0⟩ := og_o h0
      refine k2_52 S hK hR hS hh hr5 ⟨Nat.zero_le _, Nat.zero_le _⟩ ⟨Nat.le_of_ble_eq_true rfl, Nat.le_of_ble_eq_true rfl⟩ hl.1 (Nat.le_of_ble_eq_true rfl) d2_copy_26 (fun H locs hR hS => ?_)
      refine lv_pop hx hb d2_copy_29 rfl ?_
      refine lv_iinc (v := x2 + 1) (lv' := [(2, .int (x2 + 1)), (0, .ref (w.2.2 h)), (1, .ref (w.2.2 o1))]) hx hb d2_copy_30 hl (k := 2) rfl (ii1 _) (by decide) rfl (fun ls hl => ?_)
      refine lv_goto (tgt := 7) hx hb d2_copy_33 (by decide) ?_
      exact ih σ5 (x2 + 1) h0 _ _ hR hS _ (lv_sub hl [1, 2, 0] rfl)
def f2_copy (σ : Mem) (h : Nat) (o1 : Nat) : Option Mem := ob (f2_empty σ h) fun σ1 r1 => f2_copy_b7 h o1 1000 σ1 0
set_option maxHeartbeats 4000000 in
set_option maxRecDepth 100000 in
theorem c2_copy (l : Launch) {w : WV} {σ : Mem} {h : Nat} {o1 : Nat} {σ' : Mem} (hh : h ∈ pairsL) (ho1 : o1 ∈ pairsL) (h0 : f2_copy σ h o1 = some σ') : Met l yX2_copy (wy yX2_copy cX2_copy 3 none) rm2_copy (Pw EC LC w [.ref (w.2.2 h), .ref (w.2.2 o1)] σ) (Qw EC LC w σ' none) 0 0 (AW LC w) := by
  refine mk_met (by decide) (Nat.le_of_ble_eq_true rfl) ?_
  intro p e s m below meth c S hr hlk hK hR ls hl
  obtain ⟨hx, hb, hml, hown, hts⟩ := id S
  have hl : lv_has ls 3 [(0, .ref (w.2.2 h)), (1, .ref (w.2.2 o1))] := hl
  have hS : va_S (AW LC w) s.heap s.heap [] := va_S.rf
  unfold f2_copy at h0
  refine lv_aload_n hx hb d2_copy_0 rfl (lv_at hl 0 rfl) ?_
  obtain ⟨σ1, r1, hr1, h0⟩ := og_o h0
  refine k2_39 S hK hR hS hh hr1 ⟨Nat.zero_le _, Nat.zero_le _⟩ ⟨Nat.le_of_ble_eq_true rfl, Nat.le_of_ble_eq_true rfl⟩ hl.1 (Nat.le_of_ble_eq_true rfl) d2_copy_1 (fun H locs hR hS => ?_)
  refine lv_pop hx hb d2_copy_4 rfl ?_
  refine lv_iconst (v := 0) hx hb d2_copy_5 (by decide) ?_
  refine lv_istore_n (lv' := [(2, .int 0), (0, .ref (w.2.2 h)), (1, .ref (w.2.2 o1))]) hx hb d2_copy_6 rfl hl (by decide) rfl (fun ls hl => ?_)
  exact t2_copy_b7 S hr hlk hK hh ho1 1000 σ1 0 h0 _ _ hR hS _ (lv_sub hl [1, 2, 0] rfl)
set_option maxHeartbeats 4000000 in
set_option maxRecDepth 100000 in
theorem k0_54 {p : Program} {l : Launch} {e : Env} {R : Room} {s : State} {m : MethodId} {args : Array Value} {below : List Frame} {meth : Method} {c : Code} {H : Heap} {locs : List Loc} {cells slots : Nat} {Q : State → Prop} {cc : ByteArray} {pc nL : Nat} {ls : Array Slot} {rest : List Value} {w : WV} {σ : Mem} {h : Nat} {o1 : Nat} {σ1 : Mem} (S : CallFix p m c cc nL s args gtbl RX0) (hK : KS LC w s) (hR : Rp EC LC w σ H) (hS : va_S (AW LC w) s.heap H locs) (hh : h ∈ pairsL) (ho1 : o1 ∈ pairsL) (h0 : f2_copy σ h o1 = some σ1) (hf : cells + 0 ≤ R.cells ∧ slots + 0 ≤ R.slots) (hRm : rm2_copy.frames + 1 ≤ R.frames ∧ 8 + (3 + 11) + rm2_copy.locals ≤ R.locals) (hl : ls.size = nL) (hW : (rest.map fun v => v.category).sum ≤ 8) (hdg : decode cc pc = .ok (.invokevirtual 54, 3)) (kk : ∀ (H1 : Heap) (locs1 : List Loc), Rp EC LC w σ1 H1 → va_S (AW LC w) s.heap H1 locs1 → W p l e R s m args below meth c H1 locs1 cells slots Q (F0 m (pc + 3) ls (rest))) : W p l e R s m args below meth c H locs cells slots Q (F0 m pc ls (.ref (w.2.2 o1) :: .ref (w.2.2 h) :: rest)) := r_end hS (run_V (n := 1) (As := [.ref (w.2.2 o1)]) S hK hR (ok_2 _ hh) (eC_2 _ hh w _) rfl (gw_V (gt_at 419 (by decide +kernel) (by decide +kernel)) (gt_at 420 (by decide +kernel) (by decide +kernel)) (gt_at 421 (by decide +kernel) (by decide +kernel)) (gt_at 77 (by decide +kernel) (by decide +kernel)) (gt_at 422 (by decide +kernel) (by decide +kernel))) (by decide +kernel) rfl (c2_copy l hh ho1 h0) ⟨rfl, rfl⟩ hRm hf hl rfl hW hdg) kk
set_option maxHeartbeats 4000000 in
set_option maxRecDepth 100000 in
theorem k4_24 {p : Program} {l : Launch} {e : Env} {R : Room} {s : State} {m : MethodId} {args : Array Value} {below : List Frame} {meth : Method} {c : Code} {H : Heap} {locs : List Loc} {cells slots : Nat} {Q : State → Prop} {cc : ByteArray} {pc nL : Nat} {ls : Array Slot} {rest : List Value} {w : WV} {σ : Mem} {h : Nat} {o1 : Nat} {σ1 : Mem} (S : CallFix p m c cc nL s args gtbl RX4) (hK : KS LC w s) (hR : Rp EC LC w σ H) (hS : va_S (AW LC w) s.heap H locs) (hh : h ∈ pairsL) (ho1 : o1 ∈ pairsL) (h0 : f2_copy σ h o1 = some σ1) (hf : cells + 0 ≤ R.cells ∧ slots + 0 ≤ R.slots) (hRm : rm2_copy.frames + 1 ≤ R.frames ∧ 8 + (3 + 11) + rm2_copy.locals ≤ R.locals) (hl : ls.size = nL) (hW : (rest.map fun v => v.category).sum ≤ 8) (hdg : decode cc pc = .ok (.invokevirtual 24, 3)) (kk : ∀ (H1 : Heap) (locs1 : List Loc), Rp EC LC w σ1 H1 → va_S (AW LC w) s.heap H1 locs1 → W p l e R s m args below meth c H1 locs1 cells slots Q (F0 m (pc + 3) ls (rest))) : W p l e R s m args below meth c H locs cells slots Q (F0 m pc ls (.ref (w.2.2 o1) :: .ref (w.2.2 h) :: rest)) := r_end hS (run_V (n := 1) (As := [.ref (w.2.2 o1)]) S hK hR (ok_2 _ hh) (eC_2 _ hh w _) rfl (gw_V (gt_at 455 (by decide +kernel) (by decide +kernel)) (gt_at 420 (by decide +kernel) (by decide +kernel)) (gt_at 421 (by decide +kernel) (by decide +kernel)) (gt_at 77 (by decide +kernel) (by decide +kernel)) (gt_at 422 (by decide +kernel) (by decide +kernel))) (by decide +kernel) rfl (c2_copy l hh ho1 h0) ⟨rfl, rfl⟩ hRm hf hl rfl hW hdg) kk
/-! FourTenGates$Book.copy(LFourTenGates$Book;)V -/
abbrev rm0_copy : Room := { frames := 3, cells := 0, slots := 0, locals := 64 }
theorem d0_copy_0 : decode cX0_copy 0 = .ok (.aload_n 0, 1) := by decide +kernel
theorem d0_copy_1 : decode cX0_copy 1 = .ok (.getfield 14, 3) := by decide +kernel
theorem d0_copy_4 : decode cX0_copy 4 = .ok (.aload_n 1, 1) := by decide +kernel
theorem d0_copy_5 : decode cX0_copy 5 = .ok (.getfield 14, 3) := by decide +kernel
theorem d0_copy_8 : decode cX0_copy 8 = .ok (.invokevirtual 54, 3) := by decide +kernel
theorem d0_copy_11 : decode cX0_copy 11 = .ok (.aload_n 0, 1) := by decide +kernel
theorem d0_copy_12 : decode cX0_copy 12 = .ok (.getfield 20, 3) := by decide +kernel
theorem d0_copy_15 : decode cX0_copy 15 = .ok (.aload_n 1, 1) := by decide +kernel
theorem d0_copy_16 : decode cX0_copy 16 = .ok (.getfield 20, 3) := by decide +kernel
theorem d0_copy_19 : decode cX0_copy 19 = .ok (.invokevirtual 54, 3) := by decide +kernel
theorem d0_copy_22 : decode cX0_copy 22 = .ok (.aload_n 0, 1) := by decide +kernel
theorem d0_copy_23 : decode cX0_copy 23 = .ok (.getfield 23, 3) := by decide +kernel
theorem d0_copy_26 : decode cX0_copy 26 = .ok (.aload_n 1, 1) := by decide +kernel
theorem d0_copy_27 : decode cX0_copy 27 = .ok (.getfield 23, 3) := by decide +kernel
theorem d0_copy_30 : decode cX0_copy 30 = .ok (.invokevirtual 54, 3) := by decide +kernel
theorem d0_copy_33 : decode cX0_copy 33 = .ok (.aload_n 0, 1) := by decide +kernel
theorem d0_copy_34 : decode cX0_copy 34 = .ok (.getfield 26, 3) := by decide +kernel
theorem d0_copy_37 : decode cX0_copy 37 = .ok (.aload_n 1, 1) := by decide +kernel
theorem d0_copy_38 : decode cX0_copy 38 = .ok (.getfield 26, 3) := by decide +kernel
theorem d0_copy_41 : decode cX0_copy 41 = .ok (.invokevirtual 54, 3) := by decide +kernel
theorem d0_copy_44 : decode cX0_copy 44 = .ok (.iconst 0, 1) := by decide +kernel
theorem d0_copy_45 : decode cX0_copy 45 = .ok (.istore_n 2, 1) := by decide +kernel
theorem d0_copy_46 : decode cX0_copy 46 = .ok (.iload_n 2, 1) := by decide +kernel
theorem d0_copy_47 : decode cX0_copy 47 = .ok (.iconst 4, 1) := by decide +kernel
theorem d0_copy_48 : decode cX0_copy 48 = .ok (.if_icmp .ge 20, 3) := by decide +kernel
theorem d0_copy_51 : decode cX0_copy 51 = .ok (.aload_n 0, 1) := by decide +kernel
theorem d0_copy_52 : decode cX0_copy 52 = .ok (.getfield 29, 3) := by decide +kernel
theorem d0_copy_55 : decode cX0_copy 55 = .ok (.iload_n 2, 1) := by decide +kernel
theorem d0_copy_56 : decode cX0_copy 56 = .ok (.aload_n 1, 1) := by decide +kernel
theorem d0_copy_57 : decode cX0_copy 57 = .ok (.iload_n 2, 1) := by decide +kernel
theorem d0_copy_58 : decode cX0_copy 58 = .ok (.invokevirtual 58, 3) := by decide +kernel
theorem d0_copy_61 : decode cX0_copy 61 = .ok (.iastore, 1) := by decide +kernel
theorem d0_copy_62 : decode cX0_copy 62 = .ok (.iinc 2 1, 3) := by decide +kernel
theorem d0_copy_65 : decode cX0_copy 65 = .ok (.goto (-19), 3) := by decide +kernel
theorem d0_copy_68 : decode cX0_copy 68 = .ok (.aload_n 0, 1) := by decide +kernel
theorem d0_copy_69 : decode cX0_copy 69 = .ok (.aload_n 1, 1) := by decide +kernel
theorem d0_copy_70 : decode cX0_copy 70 = .ok (.invokevirtual 62, 3) := by decide +kernel
theorem d0_copy_73 : decode cX0_copy 73 = .ok (.putfield 33, 3) := by decide +kernel
theorem d0_copy_76 : decode cX0_copy 76 = .ok (.aload_n 0, 1) := by decide +kernel
theorem d0_copy_77 : decode cX0_copy 77 = .ok (.aload_n 1, 1) := by decide +kernel
theorem d0_copy_78 : decode cX0_copy 78 = .ok (.invokevirtual 64, 3) := by decide +kernel
theorem d0_copy_81 : decode cX0_copy 81 = .ok (.putfield 37, 3) := by decide +kernel
theorem d0_copy_84 : decode cX0_copy 84 = .ok (.aload_n 0, 1) := by decide +kernel
theorem d0_copy_85 : decode cX0_copy 85 = .ok (.aload_n 1, 1) := by decide +kernel
theorem d0_copy_86 : decode cX0_copy 86 = .ok (.invokevirtual 66, 3) := by decide +kernel
theorem d0_copy_89 : decode cX0_copy 89 = .ok (.putfield 40, 3) := by decide +kernel
theorem d0_copy_92 : decode cX0_copy 92 = .ok (.aload_n 0, 1) := by decide +kernel
theorem d0_copy_93 : decode cX0_copy 93 = .ok (.aload_n 1, 1) := by decide +kernel
theorem d0_copy_94 : decode cX0_copy 94 = .ok (.invokevirtual 68, 3) := by decide +kernel
theorem d0_copy_97 : decode cX0_copy 97 = .ok (.putfield 43, 3) := by decide +kernel
theorem d0_copy_100 : decode cX0_copy 100 = .ok (.return_, 1) := by decide +kernel
def f0_copy_b46 (h : Nat) (o1 : Nat) : Nat → Mem → Int32 → Option Mem
  | 0, _, _ => none
  | n + 1, σ, x2 => if 4 ≤ x2 then Option.bind (f0_gateBeats σ o1) fun r2 => bm (mu σ h 5 r2) fun σ3 => Option.bind (f0_stopCost σ3 o1) fun r4 => bm (mu σ3 h 6 r4) fun σ5 => Option.bind (f0_patience σ5 o1) fun r6 => bm (mu σ5 h 7 r6) fun σ7 => Option.bind (f0_roundCost σ7 o1) fun r8 => bm (mu σ7 h 8 r8) fun σ9 => some σ9 else Option.bind (f0_waitCost σ o1 x2) fun r2 => if ¬ (x2 < 0 ∨ 4 ≤ x2.toNatClampNeg) then (bm (mu σ (h + 13) x2.toNatClampNeg r2) fun σ4 => f0_copy_b46 h o1 n σ4 (x2 + 1)) else none
set_option maxHeartbeats 4000000 in
set_option maxRecDepth 100000 in
theorem t0_copy_b46 {p : Program} {l : Launch} {e : Env} {s : State} {m : MethodId} {args : Array Value} {below : List Frame} {meth : Method} {c : Code} {w : WV} {h : Nat} {o1 : Nat} {σ' : Mem} (S : CallFix p m c cX0_copy 3 s args gtbl RX0) (hr : meth.sig.returnType = none) (hlk : meth.locks = false) (hK : KS LC w s) (hh : h ∈ bookL) (ho1 : o1 ∈ bookL) : ∀ (n : Nat), ∀ (σ : Mem) (x2 : Int32), f0_copy_b46 h o1 n σ x2 = some σ' → ∀ (H : Heap) (locs : List Loc), Rp EC LC w σ H → va_S (AW LC w) s.heap H locs → ∀ (ls : Array Slot), lv_has ls 3 [(0, .ref (w.2.2 h)), (1, .ref (w.2.2 o1)), (2, .int x2)] → W p l e rm0_copy s m args below meth c H locs 0 0 (MQ below (Qw EC LC w σ' none) args s 0 0 (AW LC w)) (F0 m 46 ls []) := by
  obtain ⟨hx, hb, hml, hown, hts⟩ := id S
  intro n
  induction n with
  | zero =>
    intro σ x2 h0
    cases (show none = _ from h0)
  | succ n ih =>
    intro σ x2 h0 H locs hR hS ls hl
    rw [f0_copy_b46] at h0
    refine lv_iload_n hx hb d0_copy_46 rfl (lv_at hl 2 rfl) ?_
    refine lv_iconst (v := 4) hx hb d0_copy_47 (by decide) ?_
    refine lv_icmp_ge (tgt := 68) hx hb d0_copy_48 (by decide) (fun hc1 => ?_) (fun hc1 => ?_)
    · have h0 := og_t hc1 h0
      refine lv_aload_n hx hb d0_copy_68 rfl (lv_at hl 0 rfl) ?_
      refine lv_aload_n hx hb d0_copy_69 rfl (lv_at hl 1 rfl) ?_
      obtain ⟨r2, hr2, h0⟩ := og_b h0
      refine k0_62 S hK hR ho1 hr2 ⟨Nat.zero_le _, Nat.zero_le _⟩ ⟨Nat.le_of_ble_eq_true rfl, Nat.le_of_ble_eq_true rfl⟩ hl.1 (Nat.le_of_ble_eq_true rfl) d0_copy_70 ?_
      obtain ⟨σ3, hm3, h0⟩ := og_m h0
      refine u0_33 S hK hR hS hh hm3 d0_copy_73 (fun H locs hR hS => ?_)
      refine lv_aload_n hx hb d0_copy_76 rfl (lv_at hl 0 rfl) ?_
      refine lv_aload_n hx hb d0_copy_77 rfl (lv_at hl 1 rfl) ?_
      obtain ⟨r4, hr4, h0⟩ := og_b h0
      refine k0_64 S hK hR ho1 hr4 ⟨Nat.zero_le _, Nat.zero_le _⟩ ⟨Nat.le_of_ble_eq_true rfl, Nat.le_of_ble_eq_true rfl⟩ hl.1 (Nat.le_of_ble_eq_true rfl) d0_copy_78 ?_
      obtain ⟨σ5, hm5, h0⟩ := og_m h0
      refine u0_37 S hK hR hS hh hm5 d0_copy_81 (fun H locs hR hS => ?_)
      refine lv_aload_n hx hb d0_copy_84 rfl (lv_at hl 0 rfl) ?_
      refine lv_aload_n hx hb d0_copy_85 rfl (lv_at hl 1 rfl) ?_
      obtain ⟨r6, hr6, h0⟩ := og_b h0
      refine k0_66 S hK hR ho1 hr6 ⟨Nat.zero_le _, Nat.zero_le _⟩ ⟨Nat.le_of_ble_eq_true rfl, Nat.le_of_ble_eq_true rfl⟩ hl.1 (Nat.le_of_ble_eq_true rfl) d0_copy_86 ?_
      obtain ⟨σ7, hm7, h0⟩ := og_m h0
      refine u0_40 S hK hR hS hh hm7 d0_copy_89 (fun H locs hR hS => ?_)
      refine lv_aload_n hx hb d0_copy_92 rfl (lv_at hl 0 rfl) ?_
      refine lv_aload_n hx hb d0_copy_93 rfl (lv_at hl 1 rfl) ?_
      obtain ⟨r8, hr8, h0⟩ := og_b h0
      refine k0_68 S hK hR ho1 hr8 ⟨Nat.zero_le _, Nat.zero_le _⟩ ⟨Nat.le_of_ble_eq_true rfl, Nat.le_of_ble_eq_true rfl⟩ hl.1 (Nat.le_of_ble_eq_true rfl) d0_copy_94 ?_
      obtain ⟨σ9, hm9, h0⟩ := og_m h0
      refine u0_43 S hK hR hS hh hm9 d0_copy_97 (fun H locs hR hS => ?_)
      exact q_vret S hr hlk hR hS h0 d0_copy_100
    · have h0 := og_f hc1 h0
      refine lv_aload_n hx hb d0_copy_51 rfl (lv_at hl 0 rfl) ?_
      refine g0_29 S hK hR hh rfl d0_copy_52 ?_
      refine lv_iload_n hx hb d0_copy_55 rfl (lv_at hl 2 rfl) ?_
      refine lv_aload_n hx hb d0_copy_56 rfl (lv_at hl 1 rfl) ?_
      refine lv_iload_n hx hb d0_copy_57 rfl (lv_at hl 2 rfl) ?_
      obtain ⟨r2, hr2, h0⟩ := og_b h0
      refine k0_58 S hK hR ho1 hr2 ⟨Nat.zero_le _, Nat.zero_le _⟩ ⟨Nat.le_of_ble_eq_true rfl, Nat.le_of_ble_eq_true rfl⟩ hl.1 (Nat.le_of_ble_eq_true rfl) d0_copy_58 ?_
      obtain ⟨hi3, h0⟩ := og_if h0
      obtain ⟨σ4, hm4, h0⟩ := og_m h0
      refine q_st S hK hR hS (oa_0_4 _ hh) (ea_0_4 _ hh w) hi3 rfl hm4 d0_copy_61 (fun H locs hR hS => ?_)
      refine lv_iinc (v := x2 + 1) (lv' := [(2, .int (x2 + 1)), (0, .ref (w.2.2 h)), (1, .ref (w.2.2 o1))]) hx hb d0_copy_62 hl (k := 2) rfl (ii1 _) (by decide) rfl (fun ls hl => ?_)
      refine lv_goto (tgt := 46) hx hb d0_copy_65 (by decide) ?_
      exact ih σ4 (x2 + 1) h0 _ _ hR hS _ (lv_sub hl [1, 2, 0] rfl)
def f0_copy (σ : Mem) (h : Nat) (o1 : Nat) : Option Mem := Option.bind (f2_copy σ (h + 1) (o1 + 1)) fun σ1 => Option.bind (f2_copy σ1 (h + 4) (o1 + 4)) fun σ2 => Option.bind (f2_copy σ2 (h + 7) (o1 + 7)) fun σ3 => Option.bind (f2_copy σ3 (h + 10) (o1 + 10)) fun σ4 => f0_copy_b46 h o1 1000 σ4 0
set_option maxHeartbeats 4000000 in
set_option maxRecDepth 100000 in
theorem c0_copy (l : Launch) {w : WV} {σ : Mem} {h : Nat} {o1 : Nat} {σ' : Mem} (hh : h ∈ bookL) (ho1 : o1 ∈ bookL) (h0 : f0_copy σ h o1 = some σ') : Met l yX0_copy (wy yX0_copy cX0_copy 3 none) rm0_copy (Pw EC LC w [.ref (w.2.2 h), .ref (w.2.2 o1)] σ) (Qw EC LC w σ' none) 0 0 (AW LC w) := by
  refine mk_met (by decide) (Nat.le_of_ble_eq_true rfl) ?_
  intro p e s m below meth c S hr hlk hK hR ls hl
  obtain ⟨hx, hb, hml, hown, hts⟩ := id S
  have hl : lv_has ls 3 [(0, .ref (w.2.2 h)), (1, .ref (w.2.2 o1))] := hl
  have hS : va_S (AW LC w) s.heap s.heap [] := va_S.rf
  unfold f0_copy at h0
  refine lv_aload_n hx hb d0_copy_0 rfl (lv_at hl 0 rfl) ?_
  refine g0_14 S hK hR hh rfl d0_copy_1 ?_
  refine lv_aload_n hx hb d0_copy_4 rfl (lv_at hl 1 rfl) ?_
  refine g0_14 S hK hR ho1 rfl d0_copy_5 ?_
  obtain ⟨σ1, hr1, h0⟩ := og_b h0
  refine k0_54 S hK hR hS (in_0_0 _ hh) (in_0_0 _ ho1) hr1 ⟨Nat.zero_le _, Nat.zero_le _⟩ ⟨Nat.le_of_ble_eq_true rfl, Nat.le_of_ble_eq_true rfl⟩ hl.1 (Nat.le_of_ble_eq_true rfl) d0_copy_8 (fun H locs hR hS => ?_)
  refine lv_aload_n hx hb d0_copy_11 rfl (lv_at hl 0 rfl) ?_
  refine g0_20 S hK hR hh rfl d0_copy_12 ?_
  refine lv_aload_n hx hb d0_copy_15 rfl (lv_at hl 1 rfl) ?_
  refine g0_20 S hK hR ho1 rfl d0_copy_16 ?_
  obtain ⟨σ2, hr2, h0⟩ := og_b h0
  refine k0_54 S hK hR hS (in_0_1 _ hh) (in_0_1 _ ho1) hr2 ⟨Nat.zero_le _, Nat.zero_le _⟩ ⟨Nat.le_of_ble_eq_true rfl, Nat.le_of_ble_eq_true rfl⟩ hl.1 (Nat.le_of_ble_eq_true rfl) d0_copy_19 (fun H locs hR hS => ?_)
  refine lv_aload_n hx hb d0_copy_22 rfl (lv_at hl 0 rfl) ?_
  refine g0_23 S hK hR hh rfl d0_copy_23 ?_
  refine lv_aload_n hx hb d0_copy_26 rfl (lv_at hl 1 rfl) ?_
  refine g0_23 S hK hR ho1 rfl d0_copy_27 ?_
  obtain ⟨σ3, hr3, h0⟩ := og_b h0
  refine k0_54 S hK hR hS (in_0_2 _ hh) (in_0_2 _ ho1) hr3 ⟨Nat.zero_le _, Nat.zero_le _⟩ ⟨Nat.le_of_ble_eq_true rfl, Nat.le_of_ble_eq_true rfl⟩ hl.1 (Nat.le_of_ble_eq_true rfl) d0_copy_30 (fun H locs hR hS => ?_)
  refine lv_aload_n hx hb d0_copy_33 rfl (lv_at hl 0 rfl) ?_
  refine g0_26 S hK hR hh rfl d0_copy_34 ?_
  refine lv_aload_n hx hb d0_copy_37 rfl (lv_at hl 1 rfl) ?_
  refine g0_26 S hK hR ho1 rfl d0_copy_38 ?_
  obtain ⟨σ4, hr4, h0⟩ := og_b h0
  refine k0_54 S hK hR hS (in_0_3 _ hh) (in_0_3 _ ho1) hr4 ⟨Nat.zero_le _, Nat.zero_le _⟩ ⟨Nat.le_of_ble_eq_true rfl, Nat.le_of_ble_eq_true rfl⟩ hl.1 (Nat.le_of_ble_eq_true rfl) d0_copy_41 (fun H locs hR hS => ?_)
  refine lv_iconst (v := 0) hx hb d0_copy_44 (by decide) ?_
  refine lv_istore_n (lv' := [(2, .int 0), (0, .ref (w.2.2 h)), (1, .ref (w.2.2 o1))]) hx hb d0_copy_45 rfl hl (by decide) rfl (fun ls hl => ?_)
  exact t0_copy_b46 S hr hlk hK hh ho1 1000 σ4 0 h0 _ _ hR hS _ (lv_sub hl [1, 2, 0] rfl)
set_option maxHeartbeats 4000000 in
set_option maxRecDepth 100000 in
theorem k6_247 {p : Program} {l : Launch} {e : Env} {R : Room} {s : State} {m : MethodId} {args : Array Value} {below : List Frame} {meth : Method} {c : Code} {H : Heap} {locs : List Loc} {cells slots : Nat} {Q : State → Prop} {cc : ByteArray} {pc nL : Nat} {ls : Array Slot} {rest : List Value} {w : WV} {σ : Mem} {h : Nat} {o1 : Nat} {σ1 : Mem} (S : CallFix p m c cc nL s args gtbl RX6) (hK : KS LC w s) (hR : Rp EC LC w σ H) (hS : va_S (AW LC w) s.heap H locs) (hh : h ∈ bookL) (ho1 : o1 ∈ bookL) (h0 : f0_copy σ h o1 = some σ1) (hf : cells + 0 ≤ R.cells ∧ slots + 0 ≤ R.slots) (hRm : rm0_copy.frames + 1 ≤ R.frames ∧ 8 + (3 + 11) + rm0_copy.locals ≤ R.locals) (hl : ls.size = nL) (hW : (rest.map fun v => v.category).sum ≤ 8) (hdg : decode cc pc = .ok (.invokevirtual 247, 3)) (kk : ∀ (H1 : Heap) (locs1 : List Loc), Rp EC LC w σ1 H1 → va_S (AW LC w) s.heap H1 locs1 → W p l e R s m args below meth c H1 locs1 cells slots Q (F0 m (pc + 3) ls (rest))) : W p l e R s m args below meth c H locs cells slots Q (F0 m pc ls (.ref (w.2.2 o1) :: .ref (w.2.2 h) :: rest)) := r_end hS (run_V (n := 1) (As := [.ref (w.2.2 o1)]) S hK hR (ok_0 _ hh) (eC_0 _ hh w _) rfl (gw_V (gt_at 415 (by decide +kernel) (by decide +kernel)) (gt_at 416 (by decide +kernel) (by decide +kernel)) (gt_at 417 (by decide +kernel) (by decide +kernel)) (gt_at 76 (by decide +kernel) (by decide +kernel)) (gt_at 418 (by decide +kernel) (by decide +kernel))) (by decide +kernel) rfl (c0_copy l hh ho1 h0) ⟨rfl, rfl⟩ hRm hf hl rfl hW hdg) kk
/-! FourTenGates$Book.canBeLaid()Z -/
abbrev rm0_canBeLaid : Room := { frames := 1, cells := 0, slots := 0, locals := 21 }
theorem d0_canBeLaid_0 : decode cX0_canBeLaid 0 = .ok (.iconst 0, 1) := by decide +kernel
theorem d0_canBeLaid_1 : decode cX0_canBeLaid 1 = .ok (.istore_n 1, 1) := by decide +kernel
theorem d0_canBeLaid_2 : decode cX0_canBeLaid 2 = .ok (.iconst 0, 1) := by decide +kernel
theorem d0_canBeLaid_3 : decode cX0_canBeLaid 3 = .ok (.istore_n 2, 1) := by decide +kernel
theorem d0_canBeLaid_4 : decode cX0_canBeLaid 4 = .ok (.iload_n 2, 1) := by decide +kernel
theorem d0_canBeLaid_5 : decode cX0_canBeLaid 5 = .ok (.aload_n 0, 1) := by decide +kernel
theorem d0_canBeLaid_6 : decode cX0_canBeLaid 6 = .ok (.getfield 26, 3) := by decide +kernel
theorem d0_canBeLaid_9 : decode cX0_canBeLaid 9 = .ok (.invokevirtual 70, 3) := by decide +kernel
theorem d0_canBeLaid_12 : decode cX0_canBeLaid 12 = .ok (.if_icmp .ge 20, 3) := by decide +kernel
theorem d0_canBeLaid_15 : decode cX0_canBeLaid 15 = .ok (.iload_n 1, 1) := by decide +kernel
theorem d0_canBeLaid_16 : decode cX0_canBeLaid 16 = .ok (.aload_n 0, 1) := by decide +kernel
theorem d0_canBeLaid_17 : decode cX0_canBeLaid 17 = .ok (.getfield 26, 3) := by decide +kernel
theorem d0_canBeLaid_20 : decode cX0_canBeLaid 20 = .ok (.iload_n 2, 1) := by decide +kernel
theorem d0_canBeLaid_21 : decode cX0_canBeLaid 21 = .ok (.invokevirtual 73, 3) := by decide +kernel
theorem d0_canBeLaid_24 : decode cX0_canBeLaid 24 = .ok (.iadd, 1) := by decide +kernel
theorem d0_canBeLaid_25 : decode cX0_canBeLaid 25 = .ok (.istore_n 1, 1) := by decide +kernel
theorem d0_canBeLaid_26 : decode cX0_canBeLaid 26 = .ok (.iinc 2 1, 3) := by decide +kernel
theorem d0_canBeLaid_29 : decode cX0_canBeLaid 29 = .ok (.goto (-25), 3) := by decide +kernel
theorem d0_canBeLaid_32 : decode cX0_canBeLaid 32 = .ok (.aload_n 0, 1) := by decide +kernel
theorem d0_canBeLaid_33 : decode cX0_canBeLaid 33 = .ok (.getfield 14, 3) := by decide +kernel
theorem d0_canBeLaid_36 : decode cX0_canBeLaid 36 = .ok (.invokevirtual 70, 3) := by decide +kernel
theorem d0_canBeLaid_39 : decode cX0_canBeLaid 39 = .ok (.ifCond .le 23, 3) := by decide +kernel
theorem d0_canBeLaid_42 : decode cX0_canBeLaid 42 = .ok (.aload_n 0, 1) := by decide +kernel
theorem d0_canBeLaid_43 : decode cX0_canBeLaid 43 = .ok (.getfield 26, 3) := by decide +kernel
theorem d0_canBeLaid_46 : decode cX0_canBeLaid 46 = .ok (.invokevirtual 70, 3) := by decide +kernel
theorem d0_canBeLaid_49 : decode cX0_canBeLaid 49 = .ok (.ifCond .eq 9, 3) := by decide +kernel
theorem d0_canBeLaid_52 : decode cX0_canBeLaid 52 = .ok (.iload_n 1, 1) := by decide +kernel
theorem d0_canBeLaid_53 : decode cX0_canBeLaid 53 = .ok (.bipush 10, 2) := by decide +kernel
theorem d0_canBeLaid_55 : decode cX0_canBeLaid 55 = .ok (.if_icmp .ne 7, 3) := by decide +kernel
theorem d0_canBeLaid_58 : decode cX0_canBeLaid 58 = .ok (.iconst 1, 1) := by decide +kernel
theorem d0_canBeLaid_59 : decode cX0_canBeLaid 59 = .ok (.goto 4, 3) := by decide +kernel
theorem d0_canBeLaid_62 : decode cX0_canBeLaid 62 = .ok (.iconst 0, 1) := by decide +kernel
theorem d0_canBeLaid_63 : decode cX0_canBeLaid 63 = .ok (.ireturn, 1) := by decide +kernel
def f0_canBeLaid_b4 (σ : Mem) (h : Nat) : Nat → Int32 → Int32 → Option Int32
  | 0, _, _ => none
  | n + 1, x1, x2 => Option.bind (f2_size σ (h + 10)) fun r1 => if r1 ≤ x2 then Option.bind (f2_size σ (h + 1)) fun r3 => if r3 ≤ 0 then some 0 else Option.bind (f2_size σ (h + 10)) fun r5 => if r5 = 0 then some 1 else if x1 = 10 then some 1 else some 0 else Option.bind (f2_second σ (h + 10) x2) fun r3 => f0_canBeLaid_b4 σ h n (x1 + r3) (x2 + 1)
set_option maxHeartbeats 4000000 in
set_option maxRecDepth 100000 in
theorem t0_canBeLaid_b4 {p : Program} {l : Launch} {e : Env} {s : State} {m : MethodId} {args : Array Value} {below : List Frame} {meth : Method} {c : Code} {w : WV} {σ : Mem} {h : Nat} {r : Int32} (S : CallFix p m c cX0_canBeLaid 3 s args gtbl RX0) (hr : meth.sig.returnType = (some .boolean)) (hlk : meth.locks = false) (hK : KS LC w s) (hR : Rp EC LC w σ s.heap) (hh : h ∈ bookL) : ∀ (n : Nat), ∀ (x1 : Int32) (x2 : Int32), f0_canBeLaid_b4 σ h n x1 x2 = some r → ∀ (ls : Array Slot), lv_has ls 3 [(0, .ref (w.2.2 h)), (1, .int x1), (2, .int x2)] → W p l e rm0_canBeLaid s m args below meth c s.heap [] 0 0 (MQ below (Qp (.int r)) args s 0 0 (fun _ => False)) (F0 m 4 ls []) := by
  obtain ⟨hx, hb, hml, hown, hts⟩ := id S
  intro n
  induction n with
  | zero =>
    intro x1 x2 h0
    cases (show none = _ from h0)
  | succ n ih =>
    intro x1 x2 h0 ls hl
    rw [f0_canBeLaid_b4] at h0
    refine lv_iload_n hx hb d0_canBeLaid_4 rfl (lv_at hl 2 rfl) ?_
    refine lv_aload_n hx hb d0_canBeLaid_5 rfl (lv_at hl 0 rfl) ?_
    refine g0_26 S hK hR hh rfl d0_canBeLaid_6 ?_
    obtain ⟨r1, hr1, h0⟩ := og_b h0
    refine k0_70 S hK hR (in_0_3 _ hh) hr1 ⟨Nat.zero_le _, Nat.zero_le _⟩ ⟨Nat.le_of_ble_eq_true rfl, Nat.le_of_ble_eq_true rfl⟩ hl.1 (Nat.le_of_ble_eq_true rfl) d0_canBeLaid_9 ?_
    refine lv_icmp_ge (tgt := 32) hx hb d0_canBeLaid_12 (by decide) (fun hc2 => ?_) (fun hc2 => ?_)
    · have h0 := og_t hc2 h0
      refine lv_aload_n hx hb d0_canBeLaid_32 rfl (lv_at hl 0 rfl) ?_
      refine g0_14 S hK hR hh rfl d0_canBeLaid_33 ?_
      obtain ⟨r3, hr3, h0⟩ := og_b h0
      refine k0_70 S hK hR (in_0_0 _ hh) hr3 ⟨Nat.zero_le _, Nat.zero_le _⟩ ⟨Nat.le_of_ble_eq_true rfl, Nat.le_of_ble_eq_true rfl⟩ hl.1 (Nat.le_of_ble_eq_true rfl) d0_canBeLaid_36 ?_
      refine lv_if_le (tgt := 62) hx hb d0_canBeLaid_39 (by decide) (fun hc4 => ?_) (fun hc4 => ?_)
      · have h0 := og_t hc4 h0
        refine lv_iconst (v := 0) hx hb d0_canBeLaid_62 (by decide) ?_
        exact q_zpure S hr hlk (Or.inl rfl) h0 d0_canBeLaid_63
      · have h0 := og_f hc4 h0
        refine lv_aload_n hx hb d0_canBeLaid_42 rfl (lv_at hl 0 rfl) ?_
        refine g0_26 S hK hR hh rfl d0_canBeLaid_43 ?_
        obtain ⟨r5, hr5, h0⟩ := og_b h0
        refine k0_70 S hK hR (in_0_3 _ hh) hr5 ⟨Nat.zero_le _, Nat.zero_le _⟩ ⟨Nat.le_of_ble_eq_true rfl, Nat.le_of_ble_eq_true rfl⟩ hl.1 (Nat.le_of_ble_eq_true rfl) d0_canBeLaid_46 ?_
        refine lv_if_eq (tgt := 58) hx hb d0_canBeLaid_49 (by decide) (fun hc6 => ?_) (fun hc6 => ?_)
        · have h0 := og_t hc6 h0
          refine lv_iconst (v := 1) hx hb d0_canBeLaid_58 (by decide) ?_
          refine lv_goto (tgt := 63) hx hb d0_canBeLaid_59 (by decide) ?_
          exact q_zpure S hr hlk (Or.inr rfl) h0 d0_canBeLaid_63
        · have h0 := og_f hc6 h0
          refine lv_iload_n hx hb d0_canBeLaid_52 rfl (lv_at hl 1 rfl) ?_
          refine lv_bipush (v := 10) hx hb d0_canBeLaid_53 (by decide) ?_
          refine lv_icmp_ne (tgt := 62) hx hb d0_canBeLaid_55 (by decide) (fun hc7 => ?_) (fun hc7 => ?_)
          · have h0 := og_f hc7 h0
            refine lv_iconst (v := 0) hx hb d0_canBeLaid_62 (by decide) ?_
            exact q_zpure S hr hlk (Or.inl rfl) h0 d0_canBeLaid_63
          · have h0 := og_t hc7 h0
            refine lv_iconst (v := 1) hx hb d0_canBeLaid_58 (by decide) ?_
            refine lv_goto (tgt := 63) hx hb d0_canBeLaid_59 (by decide) ?_
            exact q_zpure S hr hlk (Or.inr rfl) h0 d0_canBeLaid_63
    · have h0 := og_f hc2 h0
      refine lv_iload_n hx hb d0_canBeLaid_15 rfl (lv_at hl 1 rfl) ?_
      refine lv_aload_n hx hb d0_canBeLaid_16 rfl (lv_at hl 0 rfl) ?_
      refine g0_26 S hK hR hh rfl d0_canBeLaid_17 ?_
      refine lv_iload_n hx hb d0_canBeLaid_20 rfl (lv_at hl 2 rfl) ?_
      obtain ⟨r3, hr3, h0⟩ := og_b h0
      refine k0_73 S hK hR (in_0_3 _ hh) hr3 ⟨Nat.zero_le _, Nat.zero_le _⟩ ⟨Nat.le_of_ble_eq_true rfl, Nat.le_of_ble_eq_true rfl⟩ hl.1 (Nat.le_of_ble_eq_true rfl) d0_canBeLaid_21 ?_
      refine lv_iadd hx hb d0_canBeLaid_24 ?_
      refine lv_istore_n (lv' := [(1, .int (x1 + r3)), (0, .ref (w.2.2 h)), (2, .int x2)]) hx hb d0_canBeLaid_25 rfl hl (by decide) rfl (fun ls hl => ?_)
      refine lv_iinc (v := x2 + 1) (lv' := [(2, .int (x2 + 1)), (1, .int (x1 + r3)), (0, .ref (w.2.2 h))]) hx hb d0_canBeLaid_26 hl (k := 2) rfl (ii1 _) (by decide) rfl (fun ls hl => ?_)
      refine lv_goto (tgt := 4) hx hb d0_canBeLaid_29 (by decide) ?_
      exact ih (x1 + r3) (x2 + 1) h0 _ (lv_sub hl [2, 1, 0] rfl)
def f0_canBeLaid (σ : Mem) (h : Nat) : Option Int32 := f0_canBeLaid_b4 σ h 1000 0 0
set_option maxHeartbeats 4000000 in
set_option maxRecDepth 100000 in
theorem c0_canBeLaid (l : Launch) {w : WV} {σ : Mem} {h : Nat} {r : Int32} (hh : h ∈ bookL) (h0 : f0_canBeLaid σ h = some r) : Met l yX0_canBeLaid (wy yX0_canBeLaid cX0_canBeLaid 3 (some .boolean)) rm0_canBeLaid (Pw EC LC w [.ref (w.2.2 h)] σ) (Qp (.int r)) 0 0 (fun _ => False) := by
  refine mk_met (by decide) (Nat.le_of_ble_eq_true rfl) ?_
  intro p e s m below meth c S hr hlk hK hR ls hl
  obtain ⟨hx, hb, hml, hown, hts⟩ := id S
  have hl : lv_has ls 3 [(0, .ref (w.2.2 h))] := hl
  unfold f0_canBeLaid at h0
  refine lv_iconst (v := 0) hx hb d0_canBeLaid_0 (by decide) ?_
  refine lv_istore_n (lv' := [(1, .int 0), (0, .ref (w.2.2 h))]) hx hb d0_canBeLaid_1 rfl hl (by decide) rfl (fun ls hl => ?_)
  refine lv_iconst (v := 0) hx hb d0_canBeLaid_2 (by decide) ?_
  refine lv_istore_n (lv' := [(2, .int 0), (1, .int 0), (0, .ref (w.2.2 h))]) hx hb d0_canBeLaid_3 rfl hl (by decide) rfl (fun ls hl => ?_)
  exact t0_canBeLaid_b4 S hr hlk hK hR hh 1000 0 0 h0 _ (lv_sub hl [2, 1, 0] rfl)
set_option maxHeartbeats 4000000 in
set_option maxRecDepth 100000 in
theorem k6_244 {p : Program} {l : Launch} {e : Env} {R : Room} {s : State} {m : MethodId} {args : Array Value} {below : List Frame} {meth : Method} {c : Code} {H : Heap} {locs : List Loc} {cells slots : Nat} {Q : State → Prop} {cc : ByteArray} {pc nL : Nat} {ls : Array Slot} {rest : List Value} {w : WV} {σ : Mem} {h : Nat} {r : Int32} (S : CallFix p m c cc nL s args gtbl RX6) (hK : KS LC w s) (hR : Rp EC LC w σ H) (hh : h ∈ bookL) (h0 : f0_canBeLaid σ h = some r) (hf : cells + 0 ≤ R.cells ∧ slots + 0 ≤ R.slots) (hRm : rm0_canBeLaid.frames + 1 ≤ R.frames ∧ 8 + (3 + 11) + rm0_canBeLaid.locals ≤ R.locals) (hl : ls.size = nL) (hW : (rest.map fun v => v.category).sum ≤ 8) (hdg : decode cc pc = .ok (.invokevirtual 244, 3)) (kk : W p l e R s m args below meth c H locs cells slots Q (F0 m (pc + 3) ls (.int r :: rest))) : W p l e R s m args below meth c H locs cells slots Q (F0 m pc ls (.ref (w.2.2 h) :: rest)) := r_endp (run_V (n := 0) (As := []) S hK hR (ok_0 _ hh) (eC_0 _ hh w _) rfl (gw_V (gt_at 403 (by decide +kernel) (by decide +kernel)) (gt_at 404 (by decide +kernel) (by decide +kernel)) (gt_at 405 (by decide +kernel) (by decide +kernel)) (gt_at 76 (by decide +kernel) (by decide +kernel)) (gt_at 406 (by decide +kernel) (by decide +kernel))) (by decide +kernel) rfl (c0_canBeLaid l hh h0) ⟨rfl, rfl⟩ hRm hf hl rfl hW hdg) kk
/-! FourTenGates.isMinute(I)Z -/
abbrev rm6_isMinute : Room := { frames := 1, cells := 0, slots := 0, locals := 22 }
theorem d6_isMinute_0 : decode cX6_isMinute 0 = .ok (.iload_n 0, 1) := by decide +kernel
theorem d6_isMinute_1 : decode cX6_isMinute 1 = .ok (.iconst 0, 1) := by decide +kernel
theorem d6_isMinute_2 : decode cX6_isMinute 2 = .ok (.bipush 59, 2) := by decide +kernel
theorem d6_isMinute_4 : decode cX6_isMinute 4 = .ok (.invokestatic 102, 3) := by decide +kernel
theorem d6_isMinute_7 : decode cX6_isMinute 7 = .ok (.ireturn, 1) := by decide +kernel
def f6_isMinute (x0 : Int32) : Option Int32 := Option.bind (f6_between x0 0 59) fun r1 => if r1 = 0 ∨ r1 = 1 then some r1 else none
set_option maxHeartbeats 4000000 in
set_option maxRecDepth 100000 in
theorem c6_isMinute (l : Launch) {x0 : Int32} {r : Int32} (h0 : f6_isMinute x0 = some r) : Met l yX6_isMinute (wy yX6_isMinute cX6_isMinute 1 (some .boolean)) rm6_isMinute (Ps [.int x0]) (Qp (.int r)) 0 0 (fun _ => False) := by
  refine mk_mets (by decide) (Nat.le_of_ble_eq_true rfl) ?_
  intro p e s m below meth c S hr hlk ls hl
  obtain ⟨hx, hb, hml, hown, hts⟩ := id S
  have hl : lv_has ls 1 [(0, .int x0)] := hl
  unfold f6_isMinute at h0
  refine lv_iload_n hx hb d6_isMinute_0 rfl (lv_at hl 0 rfl) ?_
  refine lv_iconst (v := 0) hx hb d6_isMinute_1 (by decide) ?_
  refine lv_bipush (v := 59) hx hb d6_isMinute_2 (by decide) ?_
  obtain ⟨r1, hr1, h0⟩ := og_b h0
  refine k6_102 S  hr1 ⟨Nat.zero_le _, Nat.zero_le _⟩ ⟨Nat.le_of_ble_eq_true rfl, Nat.le_of_ble_eq_true rfl⟩ hl.1 (Nat.le_of_ble_eq_true rfl) d6_isMinute_4 ?_
  obtain ⟨hb0, h0⟩ := og_if h0
  exact q_zpure S hr hlk hb0 h0 d6_isMinute_7
set_option maxHeartbeats 4000000 in
set_option maxRecDepth 100000 in
theorem k6_214 {p : Program} {l : Launch} {e : Env} {R : Room} {s : State} {m : MethodId} {args : Array Value} {below : List Frame} {meth : Method} {c : Code} {H : Heap} {locs : List Loc} {cells slots : Nat} {Q : State → Prop} {cc : ByteArray} {pc nL : Nat} {ls : Array Slot} {rest : List Value} {x0 : Int32} {r : Int32} (S : CallFix p m c cc nL s args gtbl RX6) (h0 : f6_isMinute x0 = some r) (hf : cells + 0 ≤ R.cells ∧ slots + 0 ≤ R.slots) (hRm : rm6_isMinute.frames + 1 ≤ R.frames ∧ 8 + (1 + 11) + rm6_isMinute.locals ≤ R.locals) (hl : ls.size = nL) (hW : (rest.map fun v => v.category).sum ≤ 8) (hdg : decode cc pc = .ok (.invokestatic 214, 3)) (kk : W p l e R s m args below meth c H locs cells slots Q (F0 m (pc + 3) ls (.int r :: rest))) : W p l e R s m args below meth c H locs cells slots Q (F0 m pc ls (.int x0 :: rest)) := r_endp (run_S (n := 1) (As := [.int x0]) S (gw_S (gt_at 831 (by decide +kernel) (by decide +kernel)) (gt_at 369 (by decide +kernel) (by decide +kernel)) (gt_at 74 (by decide +kernel) (by decide +kernel)) (gt_at 370 (by decide +kernel) (by decide +kernel))) (by decide +kernel) rfl (c6_isMinute l h0) ⟨rfl, rfl⟩ hRm hf hl rfl hW hdg) kk
set_option maxHeartbeats 4000000 in
set_option maxRecDepth 100000 in
theorem k0_76 {p : Program} {l : Launch} {e : Env} {R : Room} {s : State} {m : MethodId} {args : Array Value} {below : List Frame} {meth : Method} {c : Code} {H : Heap} {locs : List Loc} {cells slots : Nat} {Q : State → Prop} {cc : ByteArray} {pc nL : Nat} {ls : Array Slot} {rest : List Value} {w : WV} {x0 : Int32} {r : Int32} (S : CallFix p m c cc nL s args gtbl RX0) (hK : KS LC w s) (h0 : f6_isMinute x0 = some r) (hf : cells + 0 ≤ R.cells ∧ slots + 0 ≤ R.slots) (hRm : rm6_isMinute.frames + 1 ≤ R.frames ∧ 8 + (1 + 11) + rm6_isMinute.locals ≤ R.locals) (hl : ls.size = nL) (hW : (rest.map fun v => v.category).sum ≤ 8) (hdg : decode cc pc = .ok (.invokestatic 76, 3)) (kk : W p l e R s m args below meth c H locs cells slots Q (F0 m (pc + 3) ls (.int r :: rest))) : W p l e R s m args below meth c H locs cells slots Q (F0 m pc ls (.int x0 :: rest)) := r_endp (run_SN (n := 1) (As := [.int x0]) S hK (host := RX6) (by decide +kernel) (gt_at 369 (by decide +kernel) (by decide +kernel)) (gt_at 74 (by decide +kernel) (by decide +kernel)) (gt_at 370 (by decide +kernel) (by decide +kernel)) (by decide +kernel) rfl (c6_isMinute l h0) ⟨rfl, rfl⟩ hRm hf hl rfl hW hdg) kk
/-! FourTenGates$Book.takeGates(I)Z -/
abbrev rm0_takeGates : Room := { frames := 1, cells := 0, slots := 0, locals := 22 }
theorem d0_takeGates_0 : decode cX0_takeGates 0 = .ok (.iload_n 1, 1) := by decide +kernel
theorem d0_takeGates_1 : decode cX0_takeGates 1 = .ok (.iconst 1, 1) := by decide +kernel
theorem d0_takeGates_2 : decode cX0_takeGates 2 = .ok (.bipush 9, 2) := by decide +kernel
theorem d0_takeGates_4 : decode cX0_takeGates 4 = .ok (.invokestatic 46, 3) := by decide +kernel
theorem d0_takeGates_7 : decode cX0_takeGates 7 = .ok (.ifCond .ne 5, 3) := by decide +kernel
theorem d0_takeGates_10 : decode cX0_takeGates 10 = .ok (.iconst 0, 1) := by decide +kernel
theorem d0_takeGates_11 : decode cX0_takeGates 11 = .ok (.ireturn, 1) := by decide +kernel
theorem d0_takeGates_12 : decode cX0_takeGates 12 = .ok (.aload_n 0, 1) := by decide +kernel
theorem d0_takeGates_13 : decode cX0_takeGates 13 = .ok (.iload_n 1, 1) := by decide +kernel
theorem d0_takeGates_14 : decode cX0_takeGates 14 = .ok (.putfield 33, 3) := by decide +kernel
theorem d0_takeGates_17 : decode cX0_takeGates 17 = .ok (.iconst 1, 1) := by decide +kernel
theorem d0_takeGates_18 : decode cX0_takeGates 18 = .ok (.ireturn, 1) := by decide +kernel
def f0_takeGates (σ : Mem) (h : Nat) (x1 : Int32) : Option (Mem × Int32) := Option.bind (f6_between x1 1 9) fun r1 => if r1 = 0 then some (σ, 0) else bm (mu σ h 5 x1) fun σ3 => some (σ3, 1)
set_option maxHeartbeats 4000000 in
set_option maxRecDepth 100000 in
theorem c0_takeGates (l : Launch) {w : WV} {σ : Mem} {h : Nat} {x1 : Int32} {σ' : Mem} {r : Int32} (hh : h ∈ bookL) (h0 : f0_takeGates σ h x1 = some (σ', r)) : Met l yX0_takeGates (wy yX0_takeGates cX0_takeGates 2 (some .boolean)) rm0_takeGates (Pw EC LC w [.ref (w.2.2 h), .int x1] σ) (Qw EC LC w σ' (some (.int r))) 0 0 (AW LC w) := by
  refine mk_met (by decide) (Nat.le_of_ble_eq_true rfl) ?_
  intro p e s m below meth c S hr hlk hK hR ls hl
  obtain ⟨hx, hb, hml, hown, hts⟩ := id S
  have hl : lv_has ls 2 [(0, .ref (w.2.2 h)), (1, .int x1)] := hl
  have hS : va_S (AW LC w) s.heap s.heap [] := va_S.rf
  unfold f0_takeGates at h0
  refine lv_iload_n hx hb d0_takeGates_0 rfl (lv_at hl 1 rfl) ?_
  refine lv_iconst (v := 1) hx hb d0_takeGates_1 (by decide) ?_
  refine lv_bipush (v := 9) hx hb d0_takeGates_2 (by decide) ?_
  obtain ⟨r1, hr1, h0⟩ := og_b h0
  refine k0_46 S hK  hr1 ⟨Nat.zero_le _, Nat.zero_le _⟩ ⟨Nat.le_of_ble_eq_true rfl, Nat.le_of_ble_eq_true rfl⟩ hl.1 (Nat.le_of_ble_eq_true rfl) d0_takeGates_4 ?_
  refine lv_if_ne (tgt := 12) hx hb d0_takeGates_7 (by decide) (fun hc2 => ?_) (fun hc2 => ?_)
  · have h0 := og_f hc2 h0
    refine lv_aload_n hx hb d0_takeGates_12 rfl (lv_at hl 0 rfl) ?_
    refine lv_iload_n hx hb d0_takeGates_13 rfl (lv_at hl 1 rfl) ?_
    obtain ⟨σ3, hm3, h0⟩ := og_m h0
    refine u0_33 S hK hR hS hh hm3 d0_takeGates_14 (fun H locs hR hS => ?_)
    refine lv_iconst (v := 1) hx hb d0_takeGates_17 (by decide) ?_
    exact q_zret S hr hlk hR hS (Or.inr rfl) h0 d0_takeGates_18
  · have h0 := og_t hc2 h0
    refine lv_iconst (v := 0) hx hb d0_takeGates_10 (by decide) ?_
    exact q_zret S hr hlk hR hS (Or.inl rfl) h0 d0_takeGates_11
set_option maxHeartbeats 4000000 in
set_option maxRecDepth 100000 in
theorem k0_84 {p : Program} {l : Launch} {e : Env} {R : Room} {s : State} {m : MethodId} {args : Array Value} {below : List Frame} {meth : Method} {c : Code} {H : Heap} {locs : List Loc} {cells slots : Nat} {Q : State → Prop} {cc : ByteArray} {pc nL : Nat} {ls : Array Slot} {rest : List Value} {w : WV} {σ : Mem} {h : Nat} {x1 : Int32} {σ1 : Mem} {r : Int32} (S : CallFix p m c cc nL s args gtbl RX0) (hK : KS LC w s) (hR : Rp EC LC w σ H) (hS : va_S (AW LC w) s.heap H locs) (hh : h ∈ bookL) (h0 : f0_takeGates σ h x1 = some (σ1, r)) (hf : cells + 0 ≤ R.cells ∧ slots + 0 ≤ R.slots) (hRm : rm0_takeGates.frames + 1 ≤ R.frames ∧ 8 + (2 + 11) + rm0_takeGates.locals ≤ R.locals) (hl : ls.size = nL) (hW : (rest.map fun v => v.category).sum ≤ 8) (hdg : decode cc pc = .ok (.invokevirtual 84, 3)) (kk : ∀ (H1 : Heap) (locs1 : List Loc), Rp EC LC w σ1 H1 → va_S (AW LC w) s.heap H1 locs1 → W p l e R s m args below meth c H1 locs1 cells slots Q (F0 m (pc + 3) ls (.int r :: rest))) : W p l e R s m args below meth c H locs cells slots Q (F0 m pc ls (.int x1 :: .ref (w.2.2 h) :: rest)) := r_end hS (run_V (n := 1) (As := [.int x1]) S hK hR (ok_0 _ hh) (eC_0 _ hh w _) rfl (gw_V (gt_at 381 (by decide +kernel) (by decide +kernel)) (gt_at 383 (by decide +kernel) (by decide +kernel)) (gt_at 5 (by decide +kernel) (by decide +kernel)) (gt_at 76 (by decide +kernel) (by decide +kernel)) (gt_at 384 (by decide +kernel) (by decide +kernel))) (by decide +kernel) rfl (c0_takeGates l hh h0) ⟨rfl, rfl⟩ hRm hf hl rfl hW hdg) kk
/-! FourTenGates$Book.takeStopCost(I)Z -/
abbrev rm0_takeStopCost : Room := { frames := 1, cells := 0, slots := 0, locals := 22 }
theorem d0_takeStopCost_0 : decode cX0_takeStopCost 0 = .ok (.iload_n 1, 1) := by decide +kernel
theorem d0_takeStopCost_1 : decode cX0_takeStopCost 1 = .ok (.iconst 0, 1) := by decide +kernel
theorem d0_takeStopCost_2 : decode cX0_takeStopCost 2 = .ok (.bipush 99, 2) := by decide +kernel
theorem d0_takeStopCost_4 : decode cX0_takeStopCost 4 = .ok (.invokestatic 46, 3) := by decide +kernel
theorem d0_takeStopCost_7 : decode cX0_takeStopCost 7 = .ok (.ifCond .ne 5, 3) := by decide +kernel
theorem d0_takeStopCost_10 : decode cX0_takeStopCost 10 = .ok (.iconst 0, 1) := by decide +kernel
theorem d0_takeStopCost_11 : decode cX0_takeStopCost 11 = .ok (.ireturn, 1) := by decide +kernel
theorem d0_takeStopCost_12 : decode cX0_takeStopCost 12 = .ok (.aload_n 0, 1) := by decide +kernel
theorem d0_takeStopCost_13 : decode cX0_takeStopCost 13 = .ok (.iload_n 1, 1) := by decide +kernel
theorem d0_takeStopCost_14 : decode cX0_takeStopCost 14 = .ok (.putfield 37, 3) := by decide +kernel
theorem d0_takeStopCost_17 : decode cX0_takeStopCost 17 = .ok (.iconst 1, 1) := by decide +kernel
theorem d0_takeStopCost_18 : decode cX0_takeStopCost 18 = .ok (.ireturn, 1) := by decide +kernel
def f0_takeStopCost (σ : Mem) (h : Nat) (x1 : Int32) : Option (Mem × Int32) := Option.bind (f6_between x1 0 99) fun r1 => if r1 = 0 then some (σ, 0) else bm (mu σ h 6 x1) fun σ3 => some (σ3, 1)
set_option maxHeartbeats 4000000 in
set_option maxRecDepth 100000 in
theorem c0_takeStopCost (l : Launch) {w : WV} {σ : Mem} {h : Nat} {x1 : Int32} {σ' : Mem} {r : Int32} (hh : h ∈ bookL) (h0 : f0_takeStopCost σ h x1 = some (σ', r)) : Met l yX0_takeStopCost (wy yX0_takeStopCost cX0_takeStopCost 2 (some .boolean)) rm0_takeStopCost (Pw EC LC w [.ref (w.2.2 h), .int x1] σ) (Qw EC LC w σ' (some (.int r))) 0 0 (AW LC w) := by
  refine mk_met (by decide) (Nat.le_of_ble_eq_true rfl) ?_
  intro p e s m below meth c S hr hlk hK hR ls hl
  obtain ⟨hx, hb, hml, hown, hts⟩ := id S
  have hl : lv_has ls 2 [(0, .ref (w.2.2 h)), (1, .int x1)] := hl
  have hS : va_S (AW LC w) s.heap s.heap [] := va_S.rf
  unfold f0_takeStopCost at h0
  refine lv_iload_n hx hb d0_takeStopCost_0 rfl (lv_at hl 1 rfl) ?_
  refine lv_iconst (v := 0) hx hb d0_takeStopCost_1 (by decide) ?_
  refine lv_bipush (v := 99) hx hb d0_takeStopCost_2 (by decide) ?_
  obtain ⟨r1, hr1, h0⟩ := og_b h0
  refine k0_46 S hK  hr1 ⟨Nat.zero_le _, Nat.zero_le _⟩ ⟨Nat.le_of_ble_eq_true rfl, Nat.le_of_ble_eq_true rfl⟩ hl.1 (Nat.le_of_ble_eq_true rfl) d0_takeStopCost_4 ?_
  refine lv_if_ne (tgt := 12) hx hb d0_takeStopCost_7 (by decide) (fun hc2 => ?_) (fun hc2 => ?_)
  · have h0 := og_f hc2 h0
    refine lv_aload_n hx hb d0_takeStopCost_12 rfl (lv_at hl 0 rfl) ?_
    refine lv_iload_n hx hb d0_takeStopCost_13 rfl (lv_at hl 1 rfl) ?_
    obtain ⟨σ3, hm3, h0⟩ := og_m h0
    refine u0_37 S hK hR hS hh hm3 d0_takeStopCost_14 (fun H locs hR hS => ?_)
    refine lv_iconst (v := 1) hx hb d0_takeStopCost_17 (by decide) ?_
    exact q_zret S hr hlk hR hS (Or.inr rfl) h0 d0_takeStopCost_18
  · have h0 := og_t hc2 h0
    refine lv_iconst (v := 0) hx hb d0_takeStopCost_10 (by decide) ?_
    exact q_zret S hr hlk hR hS (Or.inl rfl) h0 d0_takeStopCost_11
set_option maxHeartbeats 4000000 in
set_option maxRecDepth 100000 in
theorem k0_87 {p : Program} {l : Launch} {e : Env} {R : Room} {s : State} {m : MethodId} {args : Array Value} {below : List Frame} {meth : Method} {c : Code} {H : Heap} {locs : List Loc} {cells slots : Nat} {Q : State → Prop} {cc : ByteArray} {pc nL : Nat} {ls : Array Slot} {rest : List Value} {w : WV} {σ : Mem} {h : Nat} {x1 : Int32} {σ1 : Mem} {r : Int32} (S : CallFix p m c cc nL s args gtbl RX0) (hK : KS LC w s) (hR : Rp EC LC w σ H) (hS : va_S (AW LC w) s.heap H locs) (hh : h ∈ bookL) (h0 : f0_takeStopCost σ h x1 = some (σ1, r)) (hf : cells + 0 ≤ R.cells ∧ slots + 0 ≤ R.slots) (hRm : rm0_takeStopCost.frames + 1 ≤ R.frames ∧ 8 + (2 + 11) + rm0_takeStopCost.locals ≤ R.locals) (hl : ls.size = nL) (hW : (rest.map fun v => v.category).sum ≤ 8) (hdg : decode cc pc = .ok (.invokevirtual 87, 3)) (kk : ∀ (H1 : Heap) (locs1 : List Loc), Rp EC LC w σ1 H1 → va_S (AW LC w) s.heap H1 locs1 → W p l e R s m args below meth c H1 locs1 cells slots Q (F0 m (pc + 3) ls (.int r :: rest))) : W p l e R s m args below meth c H locs cells slots Q (F0 m pc ls (.int x1 :: .ref (w.2.2 h) :: rest)) := r_end hS (run_V (n := 1) (As := [.int x1]) S hK hR (ok_0 _ hh) (eC_0 _ hh w _) rfl (gw_V (gt_at 385 (by decide +kernel) (by decide +kernel)) (gt_at 387 (by decide +kernel) (by decide +kernel)) (gt_at 6 (by decide +kernel) (by decide +kernel)) (gt_at 76 (by decide +kernel) (by decide +kernel)) (gt_at 388 (by decide +kernel) (by decide +kernel))) (by decide +kernel) rfl (c0_takeStopCost l hh h0) ⟨rfl, rfl⟩ hRm hf hl rfl hW hdg) kk
/-! FourTenGates$Book.takeWaitCost(II)Z -/
abbrev rm0_takeWaitCost : Room := { frames := 1, cells := 0, slots := 0, locals := 22 }
theorem d0_takeWaitCost_0 : decode cX0_takeWaitCost 0 = .ok (.iload_n 1, 1) := by decide +kernel
theorem d0_takeWaitCost_1 : decode cX0_takeWaitCost 1 = .ok (.iconst 0, 1) := by decide +kernel
theorem d0_takeWaitCost_2 : decode cX0_takeWaitCost 2 = .ok (.iconst 3, 1) := by decide +kernel
theorem d0_takeWaitCost_3 : decode cX0_takeWaitCost 3 = .ok (.invokestatic 46, 3) := by decide +kernel
theorem d0_takeWaitCost_6 : decode cX0_takeWaitCost 6 = .ok (.ifCond .eq 13, 3) := by decide +kernel
theorem d0_takeWaitCost_9 : decode cX0_takeWaitCost 9 = .ok (.iload_n 2, 1) := by decide +kernel
theorem d0_takeWaitCost_10 : decode cX0_takeWaitCost 10 = .ok (.iconst 0, 1) := by decide +kernel
theorem d0_takeWaitCost_11 : decode cX0_takeWaitCost 11 = .ok (.bipush 9, 2) := by decide +kernel
theorem d0_takeWaitCost_13 : decode cX0_takeWaitCost 13 = .ok (.invokestatic 46, 3) := by decide +kernel
theorem d0_takeWaitCost_16 : decode cX0_takeWaitCost 16 = .ok (.ifCond .ne 5, 3) := by decide +kernel
theorem d0_takeWaitCost_19 : decode cX0_takeWaitCost 19 = .ok (.iconst 0, 1) := by decide +kernel
theorem d0_takeWaitCost_20 : decode cX0_takeWaitCost 20 = .ok (.ireturn, 1) := by decide +kernel
theorem d0_takeWaitCost_21 : decode cX0_takeWaitCost 21 = .ok (.aload_n 0, 1) := by decide +kernel
theorem d0_takeWaitCost_22 : decode cX0_takeWaitCost 22 = .ok (.getfield 29, 3) := by decide +kernel
theorem d0_takeWaitCost_25 : decode cX0_takeWaitCost 25 = .ok (.iload_n 1, 1) := by decide +kernel
theorem d0_takeWaitCost_26 : decode cX0_takeWaitCost 26 = .ok (.iload_n 2, 1) := by decide +kernel
theorem d0_takeWaitCost_27 : decode cX0_takeWaitCost 27 = .ok (.iastore, 1) := by decide +kernel
theorem d0_takeWaitCost_28 : decode cX0_takeWaitCost 28 = .ok (.iconst 1, 1) := by decide +kernel
theorem d0_takeWaitCost_29 : decode cX0_takeWaitCost 29 = .ok (.ireturn, 1) := by decide +kernel
def f0_takeWaitCost (σ : Mem) (h : Nat) (x1 : Int32) (x2 : Int32) : Option (Mem × Int32) := Option.bind (f6_between x1 0 3) fun r1 => if r1 = 0 then some (σ, 0) else Option.bind (f6_between x2 0 9) fun r3 => if r3 = 0 then some (σ, 0) else if ¬ (x1 < 0 ∨ 4 ≤ x1.toNatClampNeg) then (bm (mu σ (h + 13) x1.toNatClampNeg x2) fun σ6 => some (σ6, 1)) else none
set_option maxHeartbeats 4000000 in
set_option maxRecDepth 100000 in
theorem c0_takeWaitCost (l : Launch) {w : WV} {σ : Mem} {h : Nat} {x1 : Int32} {x2 : Int32} {σ' : Mem} {r : Int32} (hh : h ∈ bookL) (h0 : f0_takeWaitCost σ h x1 x2 = some (σ', r)) : Met l yX0_takeWaitCost (wy yX0_takeWaitCost cX0_takeWaitCost 3 (some .boolean)) rm0_takeWaitCost (Pw EC LC w [.ref (w.2.2 h), .int x1, .int x2] σ) (Qw EC LC w σ' (some (.int r))) 0 0 (AW LC w) := by
  refine mk_met (by decide) (Nat.le_of_ble_eq_true rfl) ?_
  intro p e s m below meth c S hr hlk hK hR ls hl
  obtain ⟨hx, hb, hml, hown, hts⟩ := id S
  have hl : lv_has ls 3 [(0, .ref (w.2.2 h)), (1, .int x1), (2, .int x2)] := hl
  have hS : va_S (AW LC w) s.heap s.heap [] := va_S.rf
  unfold f0_takeWaitCost at h0
  refine lv_iload_n hx hb d0_takeWaitCost_0 rfl (lv_at hl 1 rfl) ?_
  refine lv_iconst (v := 0) hx hb d0_takeWaitCost_1 (by decide) ?_
  refine lv_iconst (v := 3) hx hb d0_takeWaitCost_2 (by decide) ?_
  obtain ⟨r1, hr1, h0⟩ := og_b h0
  refine k0_46 S hK  hr1 ⟨Nat.zero_le _, Nat.zero_le _⟩ ⟨Nat.le_of_ble_eq_true rfl, Nat.le_of_ble_eq_true rfl⟩ hl.1 (Nat.le_of_ble_eq_true rfl) d0_takeWaitCost_3 ?_
  refine lv_if_eq (tgt := 19) hx hb d0_takeWaitCost_6 (by decide) (fun hc2 => ?_) (fun hc2 => ?_)
  · have h0 := og_t hc2 h0
    refine lv_iconst (v := 0) hx hb d0_takeWaitCost_19 (by decide) ?_
    exact q_zret S hr hlk hR hS (Or.inl rfl) h0 d0_takeWaitCost_20
  · have h0 := og_f hc2 h0
    refine lv_iload_n hx hb d0_takeWaitCost_9 rfl (lv_at hl 2 rfl) ?_
    refine lv_iconst (v := 0) hx hb d0_takeWaitCost_10 (by decide) ?_
    refine lv_bipush (v := 9) hx hb d0_takeWaitCost_11 (by decide) ?_
    obtain ⟨r3, hr3, h0⟩ := og_b h0
    refine k0_46 S hK  hr3 ⟨Nat.zero_le _, Nat.zero_le _⟩ ⟨Nat.le_of_ble_eq_true rfl, Nat.le_of_ble_eq_true rfl⟩ hl.1 (Nat.le_of_ble_eq_true rfl) d0_takeWaitCost_13 ?_
    refine lv_if_ne (tgt := 21) hx hb d0_takeWaitCost_16 (by decide) (fun hc4 => ?_) (fun hc4 => ?_)
    · have h0 := og_f hc4 h0
      refine lv_aload_n hx hb d0_takeWaitCost_21 rfl (lv_at hl 0 rfl) ?_
      refine g0_29 S hK hR hh rfl d0_takeWaitCost_22 ?_
      refine lv_iload_n hx hb d0_takeWaitCost_25 rfl (lv_at hl 1 rfl) ?_
      refine lv_iload_n hx hb d0_takeWaitCost_26 rfl (lv_at hl 2 rfl) ?_
      obtain ⟨hi5, h0⟩ := og_if h0
      obtain ⟨σ6, hm6, h0⟩ := og_m h0
      refine q_st S hK hR hS (oa_0_4 _ hh) (ea_0_4 _ hh w) hi5 rfl hm6 d0_takeWaitCost_27 (fun H locs hR hS => ?_)
      refine lv_iconst (v := 1) hx hb d0_takeWaitCost_28 (by decide) ?_
      exact q_zret S hr hlk hR hS (Or.inr rfl) h0 d0_takeWaitCost_29
    · have h0 := og_t hc4 h0
      refine lv_iconst (v := 0) hx hb d0_takeWaitCost_19 (by decide) ?_
      exact q_zret S hr hlk hR hS (Or.inl rfl) h0 d0_takeWaitCost_20
set_option maxHeartbeats 4000000 in
set_option maxRecDepth 100000 in
theorem k0_90 {p : Program} {l : Launch} {e : Env} {R : Room} {s : State} {m : MethodId} {args : Array Value} {below : List Frame} {meth : Method} {c : Code} {H : Heap} {locs : List Loc} {cells slots : Nat} {Q : State → Prop} {cc : ByteArray} {pc nL : Nat} {ls : Array Slot} {rest : List Value} {w : WV} {σ : Mem} {h : Nat} {x1 : Int32} {x2 : Int32} {σ1 : Mem} {r : Int32} (S : CallFix p m c cc nL s args gtbl RX0) (hK : KS LC w s) (hR : Rp EC LC w σ H) (hS : va_S (AW LC w) s.heap H locs) (hh : h ∈ bookL) (h0 : f0_takeWaitCost σ h x1 x2 = some (σ1, r)) (hf : cells + 0 ≤ R.cells ∧ slots + 0 ≤ R.slots) (hRm : rm0_takeWaitCost.frames + 1 ≤ R.frames ∧ 8 + (3 + 11) + rm0_takeWaitCost.locals ≤ R.locals) (hl : ls.size = nL) (hW : (rest.map fun v => v.category).sum ≤ 8) (hdg : decode cc pc = .ok (.invokevirtual 90, 3)) (kk : ∀ (H1 : Heap) (locs1 : List Loc), Rp EC LC w σ1 H1 → va_S (AW LC w) s.heap H1 locs1 → W p l e R s m args below meth c H1 locs1 cells slots Q (F0 m (pc + 3) ls (.int r :: rest))) : W p l e R s m args below meth c H locs cells slots Q (F0 m pc ls (.int x2 :: .int x1 :: .ref (w.2.2 h) :: rest)) := r_end hS (run_V (n := 2) (As := [.int x1, .int x2]) S hK hR (ok_0 _ hh) (eC_0 _ hh w _) rfl (gw_V (gt_at 389 (by decide +kernel) (by decide +kernel)) (gt_at 391 (by decide +kernel) (by decide +kernel)) (gt_at 7 (by decide +kernel) (by decide +kernel)) (gt_at 76 (by decide +kernel) (by decide +kernel)) (gt_at 392 (by decide +kernel) (by decide +kernel))) (by decide +kernel) rfl (c0_takeWaitCost l hh h0) ⟨rfl, rfl⟩ hRm hf hl rfl hW hdg) kk
/-! FourTenGates$Book.takePatience(II)Z -/
abbrev rm0_takePatience : Room := { frames := 1, cells := 0, slots := 0, locals := 22 }
theorem d0_takePatience_0 : decode cX0_takePatience 0 = .ok (.iload_n 1, 1) := by decide +kernel
theorem d0_takePatience_1 : decode cX0_takePatience 1 = .ok (.iconst 1, 1) := by decide +kernel
theorem d0_takePatience_2 : decode cX0_takePatience 2 = .ok (.bipush 99, 2) := by decide +kernel
theorem d0_takePatience_4 : decode cX0_takePatience 4 = .ok (.invokestatic 46, 3) := by decide +kernel
theorem d0_takePatience_7 : decode cX0_takePatience 7 = .ok (.ifCond .eq 13, 3) := by decide +kernel
theorem d0_takePatience_10 : decode cX0_takePatience 10 = .ok (.iload_n 2, 1) := by decide +kernel
theorem d0_takePatience_11 : decode cX0_takePatience 11 = .ok (.iconst 0, 1) := by decide +kernel
theorem d0_takePatience_12 : decode cX0_takePatience 12 = .ok (.bipush 99, 2) := by decide +kernel
theorem d0_takePatience_14 : decode cX0_takePatience 14 = .ok (.invokestatic 46, 3) := by decide +kernel
theorem d0_takePatience_17 : decode cX0_takePatience 17 = .ok (.ifCond .ne 5, 3) := by decide +kernel
theorem d0_takePatience_20 : decode cX0_takePatience 20 = .ok (.iconst 0, 1) := by decide +kernel
theorem d0_takePatience_21 : decode cX0_takePatience 21 = .ok (.ireturn, 1) := by decide +kernel
theorem d0_takePatience_22 : decode cX0_takePatience 22 = .ok (.aload_n 0, 1) := by decide +kernel
theorem d0_takePatience_23 : decode cX0_takePatience 23 = .ok (.iload_n 1, 1) := by decide +kernel
theorem d0_takePatience_24 : decode cX0_takePatience 24 = .ok (.putfield 40, 3) := by decide +kernel
theorem d0_takePatience_27 : decode cX0_takePatience 27 = .ok (.aload_n 0, 1) := by decide +kernel
theorem d0_takePatience_28 : decode cX0_takePatience 28 = .ok (.iload_n 2, 1) := by decide +kernel
theorem d0_takePatience_29 : decode cX0_takePatience 29 = .ok (.putfield 43, 3) := by decide +kernel
theorem d0_takePatience_32 : decode cX0_takePatience 32 = .ok (.iconst 1, 1) := by decide +kernel
theorem d0_takePatience_33 : decode cX0_takePatience 33 = .ok (.ireturn, 1) := by decide +kernel
def f0_takePatience (σ : Mem) (h : Nat) (x1 : Int32) (x2 : Int32) : Option (Mem × Int32) := Option.bind (f6_between x1 1 99) fun r1 => if r1 = 0 then some (σ, 0) else Option.bind (f6_between x2 0 99) fun r3 => if r3 = 0 then some (σ, 0) else bm (mu σ h 7 x1) fun σ5 => bm (mu σ5 h 8 x2) fun σ6 => some (σ6, 1)
set_option maxHeartbeats 4000000 in
set_option maxRecDepth 100000 in
theorem c0_takePatience (l : Launch) {w : WV} {σ : Mem} {h : Nat} {x1 : Int32} {x2 : Int32} {σ' : Mem} {r : Int32} (hh : h ∈ bookL) (h0 : f0_takePatience σ h x1 x2 = some (σ', r)) : Met l yX0_takePatience (wy yX0_takePatience cX0_takePatience 3 (some .boolean)) rm0_takePatience (Pw EC LC w [.ref (w.2.2 h), .int x1, .int x2] σ) (Qw EC LC w σ' (some (.int r))) 0 0 (AW LC w) := by
  refine mk_met (by decide) (Nat.le_of_ble_eq_true rfl) ?_
  intro p e s m below meth c S hr hlk hK hR ls hl
  obtain ⟨hx, hb, hml, hown, hts⟩ := id S
  have hl : lv_has ls 3 [(0, .ref (w.2.2 h)), (1, .int x1), (2, .int x2)] := hl
  have hS : va_S (AW LC w) s.heap s.heap [] := va_S.rf
  unfold f0_takePatience at h0
  refine lv_iload_n hx hb d0_takePatience_0 rfl (lv_at hl 1 rfl) ?_
  refine lv_iconst (v := 1) hx hb d0_takePatience_1 (by decide) ?_
  refine lv_bipush (v := 99) hx hb d0_takePatience_2 (by decide) ?_
  obtain ⟨r1, hr1, h0⟩ := og_b h0
  refine k0_46 S hK  hr1 ⟨Nat.zero_le _, Nat.zero_le _⟩ ⟨Nat.le_of_ble_eq_true rfl, Nat.le_of_ble_eq_true rfl⟩ hl.1 (Nat.le_of_ble_eq_true rfl) d0_takePatience_4 ?_
  refine lv_if_eq (tgt := 20) hx hb d0_takePatience_7 (by decide) (fun hc2 => ?_) (fun hc2 => ?_)
  · have h0 := og_t hc2 h0
    refine lv_iconst (v := 0) hx hb d0_takePatience_20 (by decide) ?_
    exact q_zret S hr hlk hR hS (Or.inl rfl) h0 d0_takePatience_21
  · have h0 := og_f hc2 h0
    refine lv_iload_n hx hb d0_takePatience_10 rfl (lv_at hl 2 rfl) ?_
    refine lv_iconst (v := 0) hx hb d0_takePatience_11 (by decide) ?_
    refine lv_bipush (v := 99) hx hb d0_takePatience_12 (by decide) ?_
    obtain ⟨r3, hr3, h0⟩ := og_b h0
    refine k0_46 S hK  hr3 ⟨Nat.zero_le _, Nat.zero_le _⟩ ⟨Nat.le_of_ble_eq_true rfl, Nat.le_of_ble_eq_true rfl⟩ hl.1 (Nat.le_of_ble_eq_true rfl) d0_takePatience_14 ?_
    refine lv_if_ne (tgt := 22) hx hb d0_takePatience_17 (by decide) (fun hc4 => ?_) (fun hc4 => ?_)
    · have h0 := og_f hc4 h0
      refine lv_aload_n hx hb d0_takePatience_22 rfl (lv_at hl 0 rfl) ?_
      refine lv_iload_n hx hb d0_takePatience_23 rfl (lv_at hl 1 rfl) ?_
      obtain ⟨σ5, hm5, h0⟩ := og_m h0
      refine u0_40 S hK hR hS hh hm5 d0_takePatience_24 (fun H locs hR hS => ?_)
      refine lv_aload_n hx hb d0_takePatience_27 rfl (lv_at hl 0 rfl) ?_
      refine lv_iload_n hx hb d0_takePatience_28 rfl (lv_at hl 2 rfl) ?_
      obtain ⟨σ6, hm6, h0⟩ := og_m h0
      refine u0_43 S hK hR hS hh hm6 d0_takePatience_29 (fun H locs hR hS => ?_)
      refine lv_iconst (v := 1) hx hb d0_takePatience_32 (by decide) ?_
      exact q_zret S hr hlk hR hS (Or.inr rfl) h0 d0_takePatience_33
    · have h0 := og_t hc4 h0
      refine lv_iconst (v := 0) hx hb d0_takePatience_20 (by decide) ?_
      exact q_zret S hr hlk hR hS (Or.inl rfl) h0 d0_takePatience_21
set_option maxHeartbeats 4000000 in
set_option maxRecDepth 100000 in
theorem k0_93 {p : Program} {l : Launch} {e : Env} {R : Room} {s : State} {m : MethodId} {args : Array Value} {below : List Frame} {meth : Method} {c : Code} {H : Heap} {locs : List Loc} {cells slots : Nat} {Q : State → Prop} {cc : ByteArray} {pc nL : Nat} {ls : Array Slot} {rest : List Value} {w : WV} {σ : Mem} {h : Nat} {x1 : Int32} {x2 : Int32} {σ1 : Mem} {r : Int32} (S : CallFix p m c cc nL s args gtbl RX0) (hK : KS LC w s) (hR : Rp EC LC w σ H) (hS : va_S (AW LC w) s.heap H locs) (hh : h ∈ bookL) (h0 : f0_takePatience σ h x1 x2 = some (σ1, r)) (hf : cells + 0 ≤ R.cells ∧ slots + 0 ≤ R.slots) (hRm : rm0_takePatience.frames + 1 ≤ R.frames ∧ 8 + (3 + 11) + rm0_takePatience.locals ≤ R.locals) (hl : ls.size = nL) (hW : (rest.map fun v => v.category).sum ≤ 8) (hdg : decode cc pc = .ok (.invokevirtual 93, 3)) (kk : ∀ (H1 : Heap) (locs1 : List Loc), Rp EC LC w σ1 H1 → va_S (AW LC w) s.heap H1 locs1 → W p l e R s m args below meth c H1 locs1 cells slots Q (F0 m (pc + 3) ls (.int r :: rest))) : W p l e R s m args below meth c H locs cells slots Q (F0 m pc ls (.int x2 :: .int x1 :: .ref (w.2.2 h) :: rest)) := r_end hS (run_V (n := 2) (As := [.int x1, .int x2]) S hK hR (ok_0 _ hh) (eC_0 _ hh w _) rfl (gw_V (gt_at 393 (by decide +kernel) (by decide +kernel)) (gt_at 395 (by decide +kernel) (by decide +kernel)) (gt_at 8 (by decide +kernel) (by decide +kernel)) (gt_at 76 (by decide +kernel) (by decide +kernel)) (gt_at 396 (by decide +kernel) (by decide +kernel))) (by decide +kernel) rfl (c0_takePatience l hh h0) ⟨rfl, rfl⟩ hRm hf hl rfl hW hdg) kk
