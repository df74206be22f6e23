/-! THE CLAIM OUT OF ONE WALK OF THE LAW'S BODY. Your part is whole_start (and what it stands on); all else here is the same for every law, but numbers. -/
def R_law : String := "FourTenGatesLaw"
def lw_P (b : Addr) (xs : List Int32) (args : Array Value) (s : State) : Prop := args = #[.ref b] ∧ s.IntsAt b xs ∧ xs.length ≤ 2048 ∧ (Jvm.Cond.and given_1 narrow_1).before args s = true
def lw_Q (_ : Array Value) (s : State) (o : Outcome) (t : State) : Prop := o = .returned (some (.int 1)) ∧ Framed s o t [] 600000 7302250
def lw_Z (below : List Frame) (a : Array Value) (s : State) : State → Prop := fun t => ∃ o, t.status = .running ∧ Ended t below o ∧ lw_Q a s o t
/-- the law's own end, with 1 on the stack, nothing written that was there before, its room as the claim has it -/
theorem lw_ret {p : Program} {l : Launch} {e : Env} {s : State} {m : MethodId} {below : List Frame} {meth : Method} {c : Code} {b : Nat} (hx : p.tables.exec = Jvm.exec) (hb : c.code = code) (hr : meth.sig.returnType = ret) (hlocks : meth.locks = false) {pc : Nat} {H : Heap} {ls : Array Slot} (hdg : decode code pc = .ok (.ireturn, 1)) : W p l e room_1 s m #[Value.ref b] below meth c H [] 600000 7302250 (lw_Z below #[Value.ref b] s) (F0 m pc ls [.int 1]) := by
  intro T hT X
  obtain ⟨fs, hret, hrun, hended, hW, hframe⟩ := X.leave (v := some (.int 1)) (hlocks := hlocks) (fun h => by rw [hr] at h; cases h)
  have hmeth' : T.vm.method? m = some meth := X.method'
  refine ⟨T.setFrames fs, ?_, .returned (some (.int 1)), hrun, hended, rfl, ⟨_, rfl⟩, hW, hframe⟩
  jvm_step X.here [X.here.top, hx, hb, hdg, hmeth', hr, ret, narrow_b1]
  (try refine ⟨rfl, ?_⟩); (try refine ⟨rfl, ?_⟩)
  first | (intro acts; rw [hret _ acts rfl rfl rfl]) | rw [hret _ _ rfl rfl rfl]
  exact Steps.refl _
/-- what holds at the law's entry: the machine, the code, the tables' words (any of lw_tbl by 'hts w (by decide +kernel)'), the script of L ints xs at the cell b, what the Statement gives of the start (any of its parts by flat_of_before) -/
def lw_At (p : Program) (s : State) (m : MethodId) (meth : Method) (c : Code) (b L : Nat) (xs : Nat → Int32) : Prop :=
  p.tables.exec = Jvm.exec ∧ c.code = code ∧ meth.sig.returnType = ret ∧ c.maxLocals = 4 ∧ s.vm.findClass R_law = some m.cls ∧ (∀ w ∈ lw_tbl, w.before #[Value.ref b] s = true) ∧ va_X b L xs s s.heap ∧ b < s.heap.size ∧ meth.locks = false ∧ (Jvm.Cond.and given_1 narrow_1).before #[Value.ref b] s = true
theorem ii4 (x : Int32) : x + Int32.ofInt 4 = x + 4 := rfl
theorem Rp.kept {E : EV} {L L2 : List Nat} {w w2 : WV} {σ : Mem} {H H1 : Heap} (hR : Rp E L w σ H) (hk : ∀ q, q < H.size → ¬ AW L2 w2 q → H1[q]? = H[q]?) (hd : ∀ j, j ∈ L → ¬ AW L2 w2 (w.2.2 j)) : Rp E L w σ H1 := by
  refine va_P.kept hR (fun k q hq => ?_)
  obtain ⟨j, -, hj, rfl⟩ := wl_get hq
  exact hk _ (hR k _ hq).lt (hd j hj)
section LawRows
variable {p : Program} {l : Launch} {e : Env} {R : Room} {s : State} {m : MethodId} {args : Array Value} {below : List Frame} {meth : Method} {c : Code} {H : Heap} {locs : List Loc} {cells slots : Nat} {Q : State → Prop}
variable {cc : ByteArray} {pc nL : Nat} {ls : Array Slot} {rest : List Value} {E : EV} {L : List Nat} {w : WV} {σ : Mem} {own : String} {j : Nat} {A0 : Nat → Prop}
theorem r_end2 {st0 : List Value} {σ' : Mem} {v : Option Value} {a : Array Value} (hS : va_S A0 s.heap H locs) (hsub : ∀ q, AW L w q → A0 q) (hr : va_Run p l e R s m args below meth c H locs cells slots 0 0 (F0 m pc ls st0) rest (Qw E L w σ' v a) (AW L w))
    (kk : ∀ (H1 : Heap) (locs1 : List Loc), Rp E L w σ' H1 → (∀ q : Nat, q < H.size → ¬ AW L w q → H1[q]? = H[q]?) → va_S A0 s.heap H1 locs1 → W p l e R s m args below meth c H1 locs1 cells slots Q (F0 m (pc + 3) ls (v.toList ++ rest))) : W p l e R s m args below meth c H locs cells slots Q (F0 m pc ls st0) := by
  intro T hT X
  obtain ⟨v1, st₀, t, T', L1, h0, X', hL, e1, e2, ⟨hv, hb, hz, hk⟩, st⟩ := hr T hT X
  cases hv
  rw [h0] at hz hk
  obtain ⟨t2, a1, b1⟩ := kk T'.heap (locs ++ L1) (by rw [e1]; exact hb) (fun q h1 h2 => by rw [e1]; exact hk q h1 h2)
    ⟨Nat.le_trans hS.1 (by rw [e1]; exact hz), fun q h1 h2 => by rw [e1, hk q (Nat.lt_of_lt_of_le h1 hS.1) (fun z => h2 (hsub q z))]; exact hS.2.1 q h1 h2, fun q hq => by
      rcases List.mem_append.mp hq with h | h
      · exact hS.2.2 q h
      · exact hsub _ (hL q h)⟩ T' rfl X'
  exact ⟨t2, st t2 a1, b1⟩
theorem q_sld (S : CallFix p m c cc nL s args gtbl own) {b N : Nat} {xs : Nat → Int32} (hX : va_X b N xs s s.heap) (hbl : b < s.heap.size) (hbA : ¬ A0 b) (hS : va_S A0 s.heap H locs) {x : Int32} {k : Nat} (hx : x = nI k) (hk : k < N) (hN : N ≤ 2048) (hdg : decode cc pc = .ok (.iaload, 1))
    (kk : W p l e R s m args below meth c H locs cells slots Q (F0 m (pc + 1) ls (.int (xs k) :: rest))) : W p l e R s m args below meth c H locs cells slots Q (F0 m pc ls (.int x :: .ref b :: rest)) := by
  subst hx
  have h1 : (nI k).toNatClampNeg = k := nI_clamp (by omega)
  refine va_sld S.1 S.2.1 hX hbl hbA hS (vp_in_nI hk (by omega)) hdg ?_
  rw [h1]
  exact kk
end LawRows
theorem nI_a1 (i : Nat) : nI i + 1 = nI (i + 1) := nI_1 i
theorem nI_a2 (i : Nat) : nI i + 2 = nI (i + 2) := nI_add i 2
theorem nI_a3 (i : Nat) : nI i + 3 = nI (i + 3) := nI_add i 3
theorem nI_a4 (i : Nat) : nI i + 4 = nI (i + 4) := nI_add i 4
set_option maxHeartbeats 4000000 in
set_option maxRecDepth 100000 in
theorem kL_13 {p : Program} {l : Launch} {e : Env} {R : Room} {s : State} {m : MethodId} {args : Array Value} {below : List Frame} {meth : Method} {c : Code} {H : Heap} {locs : List Loc} {cells slots : Nat} {Q : State → Prop} {cc : ByteArray} {pc nL : Nat} {ls : Array Slot} {rest : List Value} {w : WV} {σ : Mem} {x1 : Int32} {σ1 : Mem} {A0 : Nat → Prop} {r : Int32} (S : CallFix p m c cc nL s args gtbl R_law) (hK : KS LC w s) (hR : Rp EC LC w σ H) (hS : va_S A0 s.heap H locs) (hsub : ∀ q, AW LC w q → A0 q) (h0 : f6_write σ x1 = some (σ1, r)) (hf : cells + 0 ≤ R.cells ∧ slots + 0 ≤ R.slots) (hRm : rm6_write.frames + 1 ≤ R.frames ∧ 8 + (2 + 11) + rm6_write.locals ≤ R.locals) (hl : ls.size = nL) (hW : (rest.map fun v => v.category).sum ≤ 8) (hdg : decode cc pc = .ok (.invokevirtual 13, 3)) (kk : ∀ (H1 : Heap) (locs1 : List Loc), Rp EC LC w σ1 H1 → (∀ q : Nat, q < H.size → ¬ AW LC w q → H1[q]? = H[q]?) → va_S A0 s.heap H1 locs1 → W p l e R s m args below meth c H1 locs1 cells slots Q (F0 m (pc + 3) ls (.int r :: rest))) : W p l e R s m args below meth c H locs cells slots Q (F0 m pc ls (.int x1 :: .ref (w.2.2 0) :: rest)) := r_end2 hS hsub (run_V (n := 1) (As := [.int x1]) S hK hR (by decide) (eC_6 w _) rfl (gw_V (gt_at 514 (by decide +kernel) (by decide +kernel)) (gt_at 515 (by decide +kernel) (by decide +kernel)) (gt_at 516 (by decide +kernel) (by decide +kernel)) (gt_at 74 (by decide +kernel) (by decide +kernel)) (gt_at 517 (by decide +kernel) (by decide +kernel))) (by decide +kernel) rfl (c6_write l h0) ⟨rfl, rfl⟩ hRm hf hl rfl hW hdg) kk
set_option maxHeartbeats 4000000 in
set_option maxRecDepth 100000 in
theorem kL_18 {p : Program} {l : Launch} {e : Env} {R : Room} {s : State} {m : MethodId} {args : Array Value} {below : List Frame} {meth : Method} {c : Code} {H : Heap} {locs : List Loc} {cells slots : Nat} {Q : State → Prop} {cc : ByteArray} {pc nL : Nat} {ls : Array Slot} {rest : List Value} {w : WV} {σ : Mem} {σ1 : Mem} {A0 : Nat → Prop} {r : Int32} (S : CallFix p m c cc nL s args gtbl R_law) (hK : KS LC w s) (hR : Rp EC LC w σ H) (hS : va_S A0 s.heap H locs) (hsub : ∀ q, AW LC w q → A0 q) (h0 : f6_wipe σ = some (σ1, r)) (hf : cells + 0 ≤ R.cells ∧ slots + 0 ≤ R.slots) (hRm : rm6_wipe.frames + 1 ≤ R.frames ∧ 8 + (1 + 11) + rm6_wipe.locals ≤ R.locals) (hl : ls.size = nL) (hW : (rest.map fun v => v.category).sum ≤ 8) (hdg : decode cc pc = .ok (.invokevirtual 18, 3)) (kk : ∀ (H1 : Heap) (locs1 : List Loc), Rp EC LC w σ1 H1 → (∀ q : Nat, q < H.size → ¬ AW LC w q → H1[q]? = H[q]?) → va_S A0 s.heap H1 locs1 → W p l e R s m args below meth c H1 locs1 cells slots Q (F0 m (pc + 3) ls (.int r :: rest))) : W p l e R s m args below meth c H locs cells slots Q (F0 m pc ls (.ref (w.2.2 0) :: rest)) := r_end2 hS hsub (run_V (n := 0) (As := []) S hK hR (by decide) (eC_6 w _) rfl (gw_V (gt_at 522 (by decide +kernel) (by decide +kernel)) (gt_at 523 (by decide +kernel) (by decide +kernel)) (gt_at 524 (by decide +kernel) (by decide +kernel)) (gt_at 74 (by decide +kernel) (by decide +kernel)) (gt_at 525 (by decide +kernel) (by decide +kernel))) (by decide +kernel) rfl (c6_wipe l h0) ⟨rfl, rfl⟩ hRm hf hl rfl hW hdg) kk
set_option maxHeartbeats 4000000 in
set_option maxRecDepth 100000 in
theorem kL_23 {p : Program} {l : Launch} {e : Env} {R : Room} {s : State} {m : MethodId} {args : Array Value} {below : List Frame} {meth : Method} {c : Code} {H : Heap} {locs : List Loc} {cells slots : Nat} {Q : State → Prop} {cc : ByteArray} {pc nL : Nat} {ls : Array Slot} {rest : List Value} {w : WV} {σ : Mem} {σ1 : Mem} {A0 : Nat → Prop} {r : Int32} (S : CallFix p m c cc nL s args gtbl R_law) (hK : KS LC w s) (hR : Rp EC LC w σ H) (hS : va_S A0 s.heap H locs) (hsub : ∀ q, AW LC w q → A0 q) (h0 : f6_fault σ = some (σ1, r)) (hf : cells + 0 ≤ R.cells ∧ slots + 0 ≤ R.slots) (hRm : rm6_fault.frames + 1 ≤ R.frames ∧ 8 + (1 + 11) + rm6_fault.locals ≤ R.locals) (hl : ls.size = nL) (hW : (rest.map fun v => v.category).sum ≤ 8) (hdg : decode cc pc = .ok (.invokevirtual 23, 3)) (kk : ∀ (H1 : Heap) (locs1 : List Loc), Rp EC LC w σ1 H1 → (∀ q : Nat, q < H.size → ¬ AW LC w q → H1[q]? = H[q]?) → va_S A0 s.heap H1 locs1 → W p l e R s m args below meth c H1 locs1 cells slots Q (F0 m (pc + 3) ls (.int r :: rest))) : W p l e R s m args below meth c H locs cells slots Q (F0 m pc ls (.ref (w.2.2 0) :: rest)) := r_end2 hS hsub (run_V (n := 0) (As := []) S hK hR (by decide) (eC_6 w _) rfl (gw_V (gt_at 526 (by decide +kernel) (by decide +kernel)) (gt_at 527 (by decide +kernel) (by decide +kernel)) (gt_at 528 (by decide +kernel) (by decide +kernel)) (gt_at 74 (by decide +kernel) (by decide +kernel)) (gt_at 529 (by decide +kernel) (by decide +kernel))) (by decide +kernel) rfl (c6_fault l h0) ⟨rfl, rfl⟩ hRm hf hl rfl hW hdg) kk
set_option maxHeartbeats 4000000 in
set_option maxRecDepth 100000 in
theorem kL_27 {p : Program} {l : Launch} {e : Env} {R : Room} {s : State} {m : MethodId} {args : Array Value} {below : List Frame} {meth : Method} {c : Code} {H : Heap} {locs : List Loc} {cells slots : Nat} {Q : State → Prop} {cc : ByteArray} {pc nL : Nat} {ls : Array Slot} {rest : List Value} {w : WV} {σ : Mem} {σ1 : Mem} {A0 : Nat → Prop} {r : Int32} (S : CallFix p m c cc nL s args gtbl R_law) (hK : KS LC w s) (hR : Rp EC LC w σ H) (hS : va_S A0 s.heap H locs) (hsub : ∀ q, AW LC w q → A0 q) (h0 : f6_lay σ = some (σ1, r)) (hf : cells + 0 ≤ R.cells ∧ slots + 0 ≤ R.slots) (hRm : rm6_lay.frames + 1 ≤ R.frames ∧ 8 + (1 + 11) + rm6_lay.locals ≤ R.locals) (hl : ls.size = nL) (hW : (rest.map fun v => v.category).sum ≤ 8) (hdg : decode cc pc = .ok (.invokevirtual 27, 3)) (kk : ∀ (H1 : Heap) (locs1 : List Loc), Rp EC LC w σ1 H1 → (∀ q : Nat, q < H.size → ¬ AW LC w q → H1[q]? = H[q]?) → va_S A0 s.heap H1 locs1 → W p l e R s m args below meth c H1 locs1 cells slots Q (F0 m (pc + 3) ls (.int r :: rest))) : W p l e R s m args below meth c H locs cells slots Q (F0 m pc ls (.ref (w.2.2 0) :: rest)) := r_end2 hS hsub (run_V (n := 0) (As := []) S hK hR (by decide) (eC_6 w _) rfl (gw_V (gt_at 530 (by decide +kernel) (by decide +kernel)) (gt_at 531 (by decide +kernel) (by decide +kernel)) (gt_at 532 (by decide +kernel) (by decide +kernel)) (gt_at 74 (by decide +kernel) (by decide +kernel)) (gt_at 533 (by decide +kernel) (by decide +kernel))) (by decide +kernel) rfl (c6_lay l h0) ⟨rfl, rfl⟩ hRm hf hl rfl hW hdg) kk
set_option maxHeartbeats 4000000 in
set_option maxRecDepth 100000 in
theorem kL_31 {p : Program} {l : Launch} {e : Env} {R : Room} {s : State} {m : MethodId} {args : Array Value} {below : List Frame} {meth : Method} {c : Code} {H : Heap} {locs : List Loc} {cells slots : Nat} {Q : State → Prop} {cc : ByteArray} {pc nL : Nat} {ls : Array Slot} {rest : List Value} {w : WV} {σ : Mem} {x1 : Int32} {x2 : Int32} {r : Int32} (S : CallFix p m c cc nL s args gtbl R_law) (hK : KS LC w s) (hR : Rp EC LC w σ H) (h0 : f6_train σ x1 x2 = some r) (hf : cells + 0 ≤ R.cells ∧ slots + 0 ≤ R.slots) (hRm : rm6_train.frames + 1 ≤ R.frames ∧ 8 + (3 + 11) + rm6_train.locals ≤ R.locals) (hl : ls.size = nL) (hW : (rest.map fun v => v.category).sum ≤ 8) (hdg : decode cc pc = .ok (.invokevirtual 31, 3)) (kk : W p l e R s m args below meth c H locs cells slots Q (F0 m (pc + 3) ls (.int r :: rest))) : W p l e R s m args below meth c H locs cells slots Q (F0 m pc ls (.int x2 :: .int x1 :: .ref (w.2.2 0) :: rest)) := r_endp (run_V (n := 2) (As := [.int x1, .int x2]) S hK hR (by decide) (eC_6 w _) rfl (gw_V (gt_at 535 (by decide +kernel) (by decide +kernel)) (gt_at 536 (by decide +kernel) (by decide +kernel)) (gt_at 537 (by decide +kernel) (by decide +kernel)) (gt_at 74 (by decide +kernel) (by decide +kernel)) (gt_at 538 (by decide +kernel) (by decide +kernel))) (by decide +kernel) rfl (c6_train l h0) ⟨rfl, rfl⟩ hRm hf hl rfl hW hdg) kk
set_option maxHeartbeats 4000000 in
set_option maxRecDepth 100000 in
theorem kL_36 {p : Program} {l : Launch} {e : Env} {R : Room} {s : State} {m : MethodId} {args : Array Value} {below : List Frame} {meth : Method} {c : Code} {H : Heap} {locs : List Loc} {cells slots : Nat} {Q : State → Prop} {cc : ByteArray} {pc nL : Nat} {ls : Array Slot} {rest : List Value} {w : WV} {σ : Mem} {x1 : Int32} {x2 : Int32} {r : Int32} (S : CallFix p m c cc nL s args gtbl R_law) (hK : KS LC w s) (hR : Rp EC LC w σ H) (h0 : f6_user σ x1 x2 = some r) (hf : cells + 0 ≤ R.cells ∧ slots + 0 ≤ R.slots) (hRm : rm6_user.frames + 1 ≤ R.frames ∧ 8 + (3 + 11) + rm6_user.locals ≤ R.locals) (hl : ls.size = nL) (hW : (rest.map fun v => v.category).sum ≤ 8) (hdg : decode cc pc = .ok (.invokevirtual 36, 3)) (kk : W p l e R s m args below meth c H locs cells slots Q (F0 m (pc + 3) ls (.int r :: rest))) : W p l e R s m args below meth c H locs cells slots Q (F0 m pc ls (.int x2 :: .int x1 :: .ref (w.2.2 0) :: rest)) := r_endp (run_V (n := 2) (As := [.int x1, .int x2]) S hK hR (by decide) (eC_6 w _) rfl (gw_V (gt_at 565 (by decide +kernel) (by decide +kernel)) (gt_at 566 (by decide +kernel) (by decide +kernel)) (gt_at 567 (by decide +kernel) (by decide +kernel)) (gt_at 74 (by decide +kernel) (by decide +kernel)) (gt_at 568 (by decide +kernel) (by decide +kernel))) (by decide +kernel) rfl (c6_user l h0) ⟨rfl, rfl⟩ hRm hf hl rfl hW hdg) kk
set_option maxHeartbeats 4000000 in
set_option maxRecDepth 100000 in
theorem kL_40 {p : Program} {l : Launch} {e : Env} {R : Room} {s : State} {m : MethodId} {args : Array Value} {below : List Frame} {meth : Method} {c : Code} {H : Heap} {locs : List Loc} {cells slots : Nat} {Q : State → Prop} {cc : ByteArray} {pc nL : Nat} {ls : Array Slot} {rest : List Value} {w : WV} {σ : Mem} {x1 : Int32} {x2 : Int32} {σ1 : Mem} {A0 : Nat → Prop} {r : Int32} (S : CallFix p m c cc nL s args gtbl R_law) (hK : KS LC w s) (hR : Rp EC LC w σ H) (hS : va_S A0 s.heap H locs) (hsub : ∀ q, AW LC w q → A0 q) (h0 : f6_gates σ x1 x2 = some (σ1, r)) (hf : cells + 0 ≤ R.cells ∧ slots + 0 ≤ R.slots) (hRm : rm6_gates.frames + 1 ≤ R.frames ∧ 8 + (3 + 11) + rm6_gates.locals ≤ R.locals) (hl : ls.size = nL) (hW : (rest.map fun v => v.category).sum ≤ 8) (hdg : decode cc pc = .ok (.invokevirtual 40, 3)) (kk : ∀ (H1 : Heap) (locs1 : List Loc), Rp EC LC w σ1 H1 → (∀ q : Nat, q < H.size → ¬ AW LC w q → H1[q]? = H[q]?) → va_S A0 s.heap H1 locs1 → W p l e R s m args below meth c H1 locs1 cells slots Q (F0 m (pc + 3) ls (.int r :: rest))) : W p l e R s m args below meth c H locs cells slots Q (F0 m pc ls (.int x2 :: .int x1 :: .ref (w.2.2 0) :: rest)) := r_end2 hS hsub (run_V (n := 2) (As := [.int x1, .int x2]) S hK hR (by decide) (eC_6 w _) rfl (gw_V (gt_at 573 (by decide +kernel) (by decide +kernel)) (gt_at 574 (by decide +kernel) (by decide +kernel)) (gt_at 575 (by decide +kernel) (by decide +kernel)) (gt_at 74 (by decide +kernel) (by decide +kernel)) (gt_at 576 (by decide +kernel) (by decide +kernel))) (by decide +kernel) rfl (c6_gates l h0) ⟨rfl, rfl⟩ hRm hf hl rfl hW hdg) kk
set_option maxHeartbeats 4000000 in
set_option maxRecDepth 100000 in
theorem kL_44 {p : Program} {l : Launch} {e : Env} {R : Room} {s : State} {m : MethodId} {args : Array Value} {below : List Frame} {meth : Method} {c : Code} {H : Heap} {locs : List Loc} {cells slots : Nat} {Q : State → Prop} {cc : ByteArray} {pc nL : Nat} {ls : Array Slot} {rest : List Value} {w : WV} {σ : Mem} {x1 : Int32} {x2 : Int32} {σ1 : Mem} {A0 : Nat → Prop} {r : Int32} (S : CallFix p m c cc nL s args gtbl R_law) (hK : KS LC w s) (hR : Rp EC LC w σ H) (hS : va_S A0 s.heap H locs) (hsub : ∀ q, AW LC w q → A0 q) (h0 : f6_passed σ x1 x2 = some (σ1, r)) (hf : cells + 0 ≤ R.cells ∧ slots + 0 ≤ R.slots) (hRm : rm6_passed.frames + 1 ≤ R.frames ∧ 8 + (3 + 11) + rm6_passed.locals ≤ R.locals) (hl : ls.size = nL) (hW : (rest.map fun v => v.category).sum ≤ 8) (hdg : decode cc pc = .ok (.invokevirtual 44, 3)) (kk : ∀ (H1 : Heap) (locs1 : List Loc), Rp EC LC w σ1 H1 → (∀ q : Nat, q < H.size → ¬ AW LC w q → H1[q]? = H[q]?) → va_S A0 s.heap H1 locs1 → W p l e R s m args below meth c H1 locs1 cells slots Q (F0 m (pc + 3) ls (.int r :: rest))) : W p l e R s m args below meth c H locs cells slots Q (F0 m pc ls (.int x2 :: .int x1 :: .ref (w.2.2 0) :: rest)) := r_end2 hS hsub (run_V (n := 2) (As := [.int x1, .int x2]) S hK hR (by decide) (eC_6 w _) rfl (gw_V (gt_at 697 (by decide +kernel) (by decide +kernel)) (gt_at 698 (by decide +kernel) (by decide +kernel)) (gt_at 699 (by decide +kernel) (by decide +kernel)) (gt_at 74 (by decide +kernel) (by decide +kernel)) (gt_at 700 (by decide +kernel) (by decide +kernel))) (by decide +kernel) rfl (c6_passed l h0) ⟨rfl, rfl⟩ hRm hf hl rfl hW hdg) kk
set_option maxHeartbeats 4000000 in
set_option maxRecDepth 100000 in
theorem kL_48 {p : Program} {l : Launch} {e : Env} {R : Room} {s : State} {m : MethodId} {args : Array Value} {below : List Frame} {meth : Method} {c : Code} {H : Heap} {locs : List Loc} {cells slots : Nat} {Q : State → Prop} {cc : ByteArray} {pc nL : Nat} {ls : Array Slot} {rest : List Value} {w : WV} {σ : Mem} {x1 : Int32} {x2 : Int32} {σ1 : Mem} {A0 : Nat → Prop} {r : Int32} (S : CallFix p m c cc nL s args gtbl R_law) (hK : KS LC w s) (hR : Rp EC LC w σ H) (hS : va_S A0 s.heap H locs) (hsub : ∀ q, AW LC w q → A0 q) (h0 : f6_stopped σ x1 x2 = some (σ1, r)) (hf : cells + 0 ≤ R.cells ∧ slots + 0 ≤ R.slots) (hRm : rm6_stopped.frames + 1 ≤ R.frames ∧ 8 + (3 + 11) + rm6_stopped.locals ≤ R.locals) (hl : ls.size = nL) (hW : (rest.map fun v => v.category).sum ≤ 8) (hdg : decode cc pc = .ok (.invokevirtual 48, 3)) (kk : ∀ (H1 : Heap) (locs1 : List Loc), Rp EC LC w σ1 H1 → (∀ q : Nat, q < H.size → ¬ AW LC w q → H1[q]? = H[q]?) → va_S A0 s.heap H1 locs1 → W p l e R s m args below meth c H1 locs1 cells slots Q (F0 m (pc + 3) ls (.int r :: rest))) : W p l e R s m args below meth c H locs cells slots Q (F0 m pc ls (.int x2 :: .int x1 :: .ref (w.2.2 0) :: rest)) := r_end2 hS hsub (run_V (n := 2) (As := [.int x1, .int x2]) S hK hR (by decide) (eC_6 w _) rfl (gw_V (gt_at 705 (by decide +kernel) (by decide +kernel)) (gt_at 706 (by decide +kernel) (by decide +kernel)) (gt_at 707 (by decide +kernel) (by decide +kernel)) (gt_at 74 (by decide +kernel) (by decide +kernel)) (gt_at 708 (by decide +kernel) (by decide +kernel))) (by decide +kernel) rfl (c6_stopped l h0) ⟨rfl, rfl⟩ hRm hf hl rfl hW hdg) kk
set_option maxHeartbeats 4000000 in
set_option maxRecDepth 100000 in
theorem kL_52 {p : Program} {l : Launch} {e : Env} {R : Room} {s : State} {m : MethodId} {args : Array Value} {below : List Frame} {meth : Method} {c : Code} {H : Heap} {locs : List Loc} {cells slots : Nat} {Q : State → Prop} {cc : ByteArray} {pc nL : Nat} {ls : Array Slot} {rest : List Value} {w : WV} {σ : Mem} {x1 : Int32} {x2 : Int32} {σ1 : Mem} {A0 : Nat → Prop} {r : Int32} (S : CallFix p m c cc nL s args gtbl R_law) (hK : KS LC w s) (hR : Rp EC LC w σ H) (hS : va_S A0 s.heap H locs) (hsub : ∀ q, AW LC w q → A0 q) (h0 : f6_crossed σ x1 x2 = some (σ1, r)) (hf : cells + 0 ≤ R.cells ∧ slots + 0 ≤ R.slots) (hRm : rm6_crossed.frames + 1 ≤ R.frames ∧ 8 + (3 + 11) + rm6_crossed.locals ≤ R.locals) (hl : ls.size = nL) (hW : (rest.map fun v => v.category).sum ≤ 8) (hdg : decode cc pc = .ok (.invokevirtual 52, 3)) (kk : ∀ (H1 : Heap) (locs1 : List Loc), Rp EC LC w σ1 H1 → (∀ q : Nat, q < H.size → ¬ AW LC w q → H1[q]? = H[q]?) → va_S A0 s.heap H1 locs1 → W p l e R s m args below meth c H1 locs1 cells slots Q (F0 m (pc + 3) ls (.int r :: rest))) : W p l e R s m args below meth c H locs cells slots Q (F0 m pc ls (.int x2 :: .int x1 :: .ref (w.2.2 0) :: rest)) := r_end2 hS hsub (run_V (n := 2) (As := [.int x1, .int x2]) S hK hR (by decide) (eC_6 w _) rfl (gw_V (gt_at 713 (by decide +kernel) (by decide +kernel)) (gt_at 714 (by decide +kernel) (by decide +kernel)) (gt_at 715 (by decide +kernel) (by decide +kernel)) (gt_at 74 (by decide +kernel) (by decide +kernel)) (gt_at 716 (by decide +kernel) (by decide +kernel))) (by decide +kernel) rfl (c6_crossed l h0) ⟨rfl, rfl⟩ hRm hf hl rfl hW hdg) kk
set_option maxHeartbeats 4000000 in
set_option maxRecDepth 100000 in
theorem kL_56 {p : Program} {l : Launch} {e : Env} {R : Room} {s : State} {m : MethodId} {args : Array Value} {below : List Frame} {meth : Method} {c : Code} {H : Heap} {locs : List Loc} {cells slots : Nat} {Q : State → Prop} {cc : ByteArray} {pc nL : Nat} {ls : Array Slot} {rest : List Value} {w : WV} {σ : Mem} {x1 : Int32} {x2 : Int32} {σ1 : Mem} {A0 : Nat → Prop} {r : Int32} (S : CallFix p m c cc nL s args gtbl R_law) (hK : KS LC w s) (hR : Rp EC LC w σ H) (hS : va_S A0 s.heap H locs) (hsub : ∀ q, AW LC w q → A0 q) (h0 : f6_waited σ x1 x2 = some (σ1, r)) (hf : cells + 0 ≤ R.cells ∧ slots + 0 ≤ R.slots) (hRm : rm6_waited.frames + 1 ≤ R.frames ∧ 8 + (3 + 11) + rm6_waited.locals ≤ R.locals) (hl : ls.size = nL) (hW : (rest.map fun v => v.category).sum ≤ 8) (hdg : decode cc pc = .ok (.invokevirtual 56, 3)) (kk : ∀ (H1 : Heap) (locs1 : List Loc), Rp EC LC w σ1 H1 → (∀ q : Nat, q < H.size → ¬ AW LC w q → H1[q]? = H[q]?) → va_S A0 s.heap H1 locs1 → W p l e R s m args below meth c H1 locs1 cells slots Q (F0 m (pc + 3) ls (.int r :: rest))) : W p l e R s m args below meth c H locs cells slots Q (F0 m pc ls (.int x2 :: .int x1 :: .ref (w.2.2 0) :: rest)) := r_end2 hS hsub (run_V (n := 2) (As := [.int x1, .int x2]) S hK hR (by decide) (eC_6 w _) rfl (gw_V (gt_at 721 (by decide +kernel) (by decide +kernel)) (gt_at 722 (by decide +kernel) (by decide +kernel)) (gt_at 723 (by decide +kernel) (by decide +kernel)) (gt_at 74 (by decide +kernel) (by decide +kernel)) (gt_at 724 (by decide +kernel) (by decide +kernel))) (by decide +kernel) rfl (c6_waited l h0) ⟨rfl, rfl⟩ hRm hf hl rfl hW hdg) kk
set_option maxHeartbeats 4000000 in
set_option maxRecDepth 100000 in
theorem kL_60 {p : Program} {l : Launch} {e : Env} {R : Room} {s : State} {m : MethodId} {args : Array Value} {below : List Frame} {meth : Method} {c : Code} {H : Heap} {locs : List Loc} {cells slots : Nat} {Q : State → Prop} {cc : ByteArray} {pc nL : Nat} {ls : Array Slot} {rest : List Value} {w : WV} {σ : Mem} {x1 : Int32} {σ1 : Mem} {A0 : Nat → Prop} {r : Int32} (S : CallFix p m c cc nL s args gtbl R_law) (hK : KS LC w s) (hR : Rp EC LC w σ H) (hS : va_S A0 s.heap H locs) (hsub : ∀ q, AW LC w q → A0 q) (h0 : f6_cost σ x1 = some (σ1, r)) (hf : cells + 0 ≤ R.cells ∧ slots + 0 ≤ R.slots) (hRm : rm6_cost.frames + 1 ≤ R.frames ∧ 8 + (2 + 11) + rm6_cost.locals ≤ R.locals) (hl : ls.size = nL) (hW : (rest.map fun v => v.category).sum ≤ 8) (hdg : decode cc pc = .ok (.invokevirtual 60, 3)) (kk : ∀ (H1 : Heap) (locs1 : List Loc), Rp EC LC w σ1 H1 → (∀ q : Nat, q < H.size → ¬ AW LC w q → H1[q]? = H[q]?) → va_S A0 s.heap H1 locs1 → W p l e R s m args below meth c H1 locs1 cells slots Q (F0 m (pc + 3) ls (.int r :: rest))) : W p l e R s m args below meth c H locs cells slots Q (F0 m pc ls (.int x1 :: .ref (w.2.2 0) :: rest)) := r_end2 hS hsub (run_V (n := 1) (As := [.int x1]) S hK hR (by decide) (eC_6 w _) rfl (gw_V (gt_at 729 (by decide +kernel) (by decide +kernel)) (gt_at 730 (by decide +kernel) (by decide +kernel)) (gt_at 731 (by decide +kernel) (by decide +kernel)) (gt_at 74 (by decide +kernel) (by decide +kernel)) (gt_at 732 (by decide +kernel) (by decide +kernel))) (by decide +kernel) rfl (c6_cost l h0) ⟨rfl, rfl⟩ hRm hf hl rfl hW hdg) kk
set_option maxHeartbeats 4000000 in
set_option maxRecDepth 100000 in
theorem kL_64 {p : Program} {l : Launch} {e : Env} {R : Room} {s : State} {m : MethodId} {args : Array Value} {below : List Frame} {meth : Method} {c : Code} {H : Heap} {locs : List Loc} {cells slots : Nat} {Q : State → Prop} {cc : ByteArray} {pc nL : Nat} {ls : Array Slot} {rest : List Value} {w : WV} {σ : Mem} {x1 : Int32} {x2 : Int32} {σ1 : Mem} {A0 : Nat → Prop} {r : Int32} (S : CallFix p m c cc nL s args gtbl R_law) (hK : KS LC w s) (hR : Rp EC LC w σ H) (hS : va_S A0 s.heap H locs) (hsub : ∀ q, AW LC w q → A0 q) (h0 : f6_late σ x1 x2 = some (σ1, r)) (hf : cells + 0 ≤ R.cells ∧ slots + 0 ≤ R.slots) (hRm : rm6_late.frames + 1 ≤ R.frames ∧ 8 + (4 + 11) + rm6_late.locals ≤ R.locals) (hl : ls.size = nL) (hW : (rest.map fun v => v.category).sum ≤ 8) (hdg : decode cc pc = .ok (.invokevirtual 64, 3)) (kk : ∀ (H1 : Heap) (locs1 : List Loc), Rp EC LC w σ1 H1 → (∀ q : Nat, q < H.size → ¬ AW LC w q → H1[q]? = H[q]?) → va_S A0 s.heap H1 locs1 → W p l e R s m args below meth c H1 locs1 cells slots Q (F0 m (pc + 3) ls (.int r :: rest))) : W p l e R s m args below meth c H locs cells slots Q (F0 m pc ls (.int x2 :: .int x1 :: .ref (w.2.2 0) :: rest)) := r_end2 hS hsub (run_V (n := 2) (As := [.int x1, .int x2]) S hK hR (by decide) (eC_6 w _) rfl (gw_V (gt_at 737 (by decide +kernel) (by decide +kernel)) (gt_at 738 (by decide +kernel) (by decide +kernel)) (gt_at 739 (by decide +kernel) (by decide +kernel)) (gt_at 74 (by decide +kernel) (by decide +kernel)) (gt_at 740 (by decide +kernel) (by decide +kernel))) (by decide +kernel) rfl (c6_late l h0) ⟨rfl, rfl⟩ hRm hf hl rfl hW hdg) kk
set_option maxHeartbeats 4000000 in
set_option maxRecDepth 100000 in
theorem kL_68 {p : Program} {l : Launch} {e : Env} {R : Room} {s : State} {m : MethodId} {args : Array Value} {below : List Frame} {meth : Method} {c : Code} {H : Heap} {locs : List Loc} {cells slots : Nat} {Q : State → Prop} {cc : ByteArray} {pc nL : Nat} {ls : Array Slot} {rest : List Value} {w : WV} {σ : Mem} {x1 : Int32} {x2 : Int32} {σ1 : Mem} {A0 : Nat → Prop} {r : Int32} (S : CallFix p m c cc nL s args gtbl R_law) (hK : KS LC w s) (hR : Rp EC LC w σ H) (hS : va_S A0 s.heap H locs) (hsub : ∀ q, AW LC w q → A0 q) (h0 : f6_shut σ x1 x2 = some (σ1, r)) (hf : cells + 0 ≤ R.cells ∧ slots + 0 ≤ R.slots) (hRm : rm6_shut.frames + 1 ≤ R.frames ∧ 8 + (3 + 11) + rm6_shut.locals ≤ R.locals) (hl : ls.size = nL) (hW : (rest.map fun v => v.category).sum ≤ 8) (hdg : decode cc pc = .ok (.invokevirtual 68, 3)) (kk : ∀ (H1 : Heap) (locs1 : List Loc), Rp EC LC w σ1 H1 → (∀ q : Nat, q < H.size → ¬ AW LC w q → H1[q]? = H[q]?) → va_S A0 s.heap H1 locs1 → W p l e R s m args below meth c H1 locs1 cells slots Q (F0 m (pc + 3) ls (.int r :: rest))) : W p l e R s m args below meth c H locs cells slots Q (F0 m pc ls (.int x2 :: .int x1 :: .ref (w.2.2 0) :: rest)) := r_end2 hS hsub (run_V (n := 2) (As := [.int x1, .int x2]) S hK hR (by decide) (eC_6 w _) rfl (gw_V (gt_at 765 (by decide +kernel) (by decide +kernel)) (gt_at 766 (by decide +kernel) (by decide +kernel)) (gt_at 767 (by decide +kernel) (by decide +kernel)) (gt_at 74 (by decide +kernel) (by decide +kernel)) (gt_at 768 (by decide +kernel) (by decide +kernel))) (by decide +kernel) rfl (c6_shut l h0) ⟨rfl, rfl⟩ hRm hf hl rfl hW hdg) kk
set_option maxHeartbeats 4000000 in
set_option maxRecDepth 100000 in
theorem kL_72 {p : Program} {l : Launch} {e : Env} {R : Room} {s : State} {m : MethodId} {args : Array Value} {below : List Frame} {meth : Method} {c : Code} {H : Heap} {locs : List Loc} {cells slots : Nat} {Q : State → Prop} {cc : ByteArray} {pc nL : Nat} {ls : Array Slot} {rest : List Value} {w : WV} {σ : Mem} {x1 : Int32} {σ1 : Mem} {A0 : Nat → Prop} {r : Int32} (S : CallFix p m c cc nL s args gtbl R_law) (hK : KS LC w s) (hR : Rp EC LC w σ H) (hS : va_S A0 s.heap H locs) (hsub : ∀ q, AW LC w q → A0 q) (h0 : f6_leave σ x1 = some (σ1, r)) (hf : cells + 0 ≤ R.cells ∧ slots + 0 ≤ R.slots) (hRm : rm6_leave.frames + 1 ≤ R.frames ∧ 8 + (2 + 11) + rm6_leave.locals ≤ R.locals) (hl : ls.size = nL) (hW : (rest.map fun v => v.category).sum ≤ 8) (hdg : decode cc pc = .ok (.invokevirtual 72, 3)) (kk : ∀ (H1 : Heap) (locs1 : List Loc), Rp EC LC w σ1 H1 → (∀ q : Nat, q < H.size → ¬ AW LC w q → H1[q]? = H[q]?) → va_S A0 s.heap H1 locs1 → W p l e R s m args below meth c H1 locs1 cells slots Q (F0 m (pc + 3) ls (.int r :: rest))) : W p l e R s m args below meth c H locs cells slots Q (F0 m pc ls (.int x1 :: .ref (w.2.2 0) :: rest)) := r_end2 hS hsub (run_V (n := 1) (As := [.int x1]) S hK hR (by decide) (eC_6 w _) rfl (gw_V (gt_at 772 (by decide +kernel) (by decide +kernel)) (gt_at 773 (by decide +kernel) (by decide +kernel)) (gt_at 774 (by decide +kernel) (by decide +kernel)) (gt_at 74 (by decide +kernel) (by decide +kernel)) (gt_at 775 (by decide +kernel) (by decide +kernel))) (by decide +kernel) rfl (c6_leave l h0) ⟨rfl, rfl⟩ hRm hf hl rfl hW hdg) kk
set_option maxHeartbeats 4000000 in
set_option maxRecDepth 100000 in
theorem kL_76 {p : Program} {l : Launch} {e : Env} {R : Room} {s : State} {m : MethodId} {args : Array Value} {below : List Frame} {meth : Method} {c : Code} {H : Heap} {locs : List Loc} {cells slots : Nat} {Q : State → Prop} {cc : ByteArray} {pc nL : Nat} {ls : Array Slot} {rest : List Value} {w : WV} {σ : Mem} {σ1 : Mem} {A0 : Nat → Prop} {r : Int32} (S : CallFix p m c cc nL s args gtbl R_law) (hK : KS LC w s) (hR : Rp EC LC w σ H) (hS : va_S A0 s.heap H locs) (hsub : ∀ q, AW LC w q → A0 q) (h0 : f6_undo σ = some (σ1, r)) (hf : cells + 0 ≤ R.cells ∧ slots + 0 ≤ R.slots) (hRm : rm6_undo.frames + 1 ≤ R.frames ∧ 8 + (1 + 11) + rm6_undo.locals ≤ R.locals) (hl : ls.size = nL) (hW : (rest.map fun v => v.category).sum ≤ 8) (hdg : decode cc pc = .ok (.invokevirtual 76, 3)) (kk : ∀ (H1 : Heap) (locs1 : List Loc), Rp EC LC w σ1 H1 → (∀ q : Nat, q < H.size → ¬ AW LC w q → H1[q]? = H[q]?) → va_S A0 s.heap H1 locs1 → W p l e R s m args below meth c H1 locs1 cells slots Q (F0 m (pc + 3) ls (.int r :: rest))) : W p l e R s m args below meth c H locs cells slots Q (F0 m pc ls (.ref (w.2.2 0) :: rest)) := r_end2 hS hsub (run_V (n := 0) (As := []) S hK hR (by decide) (eC_6 w _) rfl (gw_V (gt_at 781 (by decide +kernel) (by decide +kernel)) (gt_at 782 (by decide +kernel) (by decide +kernel)) (gt_at 783 (by decide +kernel) (by decide +kernel)) (gt_at 74 (by decide +kernel) (by decide +kernel)) (gt_at 784 (by decide +kernel) (by decide +kernel))) (by decide +kernel) rfl (c6_undo l h0) ⟨rfl, rfl⟩ hRm hf hl rfl hW hdg) kk
set_option maxHeartbeats 4000000 in
set_option maxRecDepth 100000 in
theorem kL_80 {p : Program} {l : Launch} {e : Env} {R : Room} {s : State} {m : MethodId} {args : Array Value} {below : List Frame} {meth : Method} {c : Code} {H : Heap} {locs : List Loc} {cells slots : Nat} {Q : State → Prop} {cc : ByteArray} {pc nL : Nat} {ls : Array Slot} {rest : List Value} {w : WV} {σ : Mem} {x1 : Int32} {σ1 : Mem} {A0 : Nat → Prop} {r : Int32} (S : CallFix p m c cc nL s args gtbl R_law) (hK : KS LC w s) (hR : Rp EC LC w σ H) (hS : va_S A0 s.heap H locs) (hsub : ∀ q, AW LC w q → A0 q) (h0 : f6_cheapest σ x1 = some (σ1, r)) (hf : cells + 0 ≤ R.cells ∧ slots + 0 ≤ R.slots) (hRm : rm6_cheapest.frames + 1 ≤ R.frames ∧ 8 + (4 + 11) + rm6_cheapest.locals ≤ R.locals) (hl : ls.size = nL) (hW : (rest.map fun v => v.category).sum ≤ 8) (hdg : decode cc pc = .ok (.invokevirtual 80, 3)) (kk : ∀ (H1 : Heap) (locs1 : List Loc), Rp EC LC w σ1 H1 → (∀ q : Nat, q < H.size → ¬ AW LC w q → H1[q]? = H[q]?) → va_S A0 s.heap H1 locs1 → W p l e R s m args below meth c H1 locs1 cells slots Q (F0 m (pc + 3) ls (.int r :: rest))) : W p l e R s m args below meth c H locs cells slots Q (F0 m pc ls (.int x1 :: .ref (w.2.2 0) :: rest)) := r_end2 hS hsub (run_V (n := 1) (As := [.int x1]) S hK hR (by decide) (eC_6 w _) rfl (gw_V (gt_at 793 (by decide +kernel) (by decide +kernel)) (gt_at 794 (by decide +kernel) (by decide +kernel)) (gt_at 795 (by decide +kernel) (by decide +kernel)) (gt_at 74 (by decide +kernel) (by decide +kernel)) (gt_at 796 (by decide +kernel) (by decide +kernel))) (by decide +kernel) rfl (c6_cheapest l h0) ⟨rfl, rfl⟩ hRm hf hl rfl hW hdg) kk
set_option maxHeartbeats 4000000 in
set_option maxRecDepth 100000 in
theorem kL_84 {p : Program} {l : Launch} {e : Env} {R : Room} {s : State} {m : MethodId} {args : Array Value} {below : List Frame} {meth : Method} {c : Code} {H : Heap} {locs : List Loc} {cells slots : Nat} {Q : State → Prop} {cc : ByteArray} {pc nL : Nat} {ls : Array Slot} {rest : List Value} {w : WV} {σ : Mem} {x1 : Int32} {σ1 : Mem} {A0 : Nat → Prop} {r : Int32} (S : CallFix p m c cc nL s args gtbl R_law) (hK : KS LC w s) (hR : Rp EC LC w σ H) (hS : va_S A0 s.heap H locs) (hsub : ∀ q, AW LC w q → A0 q) (h0 : f6_lead σ x1 = some (σ1, r)) (hf : cells + 0 ≤ R.cells ∧ slots + 0 ≤ R.slots) (hRm : rm6_lead.frames + 1 ≤ R.frames ∧ 8 + (2 + 11) + rm6_lead.locals ≤ R.locals) (hl : ls.size = nL) (hW : (rest.map fun v => v.category).sum ≤ 8) (hdg : decode cc pc = .ok (.invokevirtual 84, 3)) (kk : ∀ (H1 : Heap) (locs1 : List Loc), Rp EC LC w σ1 H1 → (∀ q : Nat, q < H.size → ¬ AW LC w q → H1[q]? = H[q]?) → va_S A0 s.heap H1 locs1 → W p l e R s m args below meth c H1 locs1 cells slots Q (F0 m (pc + 3) ls (.int r :: rest))) : W p l e R s m args below meth c H locs cells slots Q (F0 m pc ls (.int x1 :: .ref (w.2.2 0) :: rest)) := r_end2 hS hsub (run_V (n := 1) (As := [.int x1]) S hK hR (by decide) (eC_6 w _) rfl (gw_V (gt_at 797 (by decide +kernel) (by decide +kernel)) (gt_at 798 (by decide +kernel) (by decide +kernel)) (gt_at 799 (by decide +kernel) (by decide +kernel)) (gt_at 74 (by decide +kernel) (by decide +kernel)) (gt_at 800 (by decide +kernel) (by decide +kernel))) (by decide +kernel) rfl (c6_lead l h0) ⟨rfl, rfl⟩ hRm hf hl rfl hW hdg) kk
set_option maxHeartbeats 4000000 in
set_option maxRecDepth 100000 in
theorem kL_88 {p : Program} {l : Launch} {e : Env} {R : Room} {s : State} {m : MethodId} {args : Array Value} {below : List Frame} {meth : Method} {c : Code} {H : Heap} {locs : List Loc} {cells slots : Nat} {Q : State → Prop} {cc : ByteArray} {pc nL : Nat} {ls : Array Slot} {rest : List Value} {w : WV} {σ : Mem} {x1 : Int32} {x2 : Int32} {x3 : Int32} {σ1 : Mem} {A0 : Nat → Prop} {r : Int32} (S : CallFix p m c cc nL s args gtbl R_law) (hK : KS LC w s) (hR : Rp EC LC w σ H) (hS : va_S A0 s.heap H locs) (hsub : ∀ q, AW LC w q → A0 q) (h0 : f6_more σ x1 x2 x3 = some (σ1, r)) (hf : cells + 0 ≤ R.cells ∧ slots + 0 ≤ R.slots) (hRm : rm6_more.frames + 1 ≤ R.frames ∧ 8 + (5 + 11) + rm6_more.locals ≤ R.locals) (hl : ls.size = nL) (hW : (rest.map fun v => v.category).sum ≤ 8) (hdg : decode cc pc = .ok (.invokevirtual 88, 3)) (kk : ∀ (H1 : Heap) (locs1 : List Loc), Rp EC LC w σ1 H1 → (∀ q : Nat, q < H.size → ¬ AW LC w q → H1[q]? = H[q]?) → va_S A0 s.heap H1 locs1 → W p l e R s m args below meth c H1 locs1 cells slots Q (F0 m (pc + 3) ls (.int r :: rest))) : W p l e R s m args below meth c H locs cells slots Q (F0 m pc ls (.int x3 :: .int x2 :: .int x1 :: .ref (w.2.2 0) :: rest)) := r_end2 hS hsub (run_V (n := 3) (As := [.int x1, .int x2, .int x3]) S hK hR (by decide) (eC_6 w _) rfl (gw_V (gt_at 806 (by decide +kernel) (by decide +kernel)) (gt_at 807 (by decide +kernel) (by decide +kernel)) (gt_at 808 (by decide +kernel) (by decide +kernel)) (gt_at 74 (by decide +kernel) (by decide +kernel)) (gt_at 809 (by decide +kernel) (by decide +kernel))) (by decide +kernel) rfl (c6_more l h0) ⟨rfl, rfl⟩ hRm hf hl rfl hW hdg) kk
set_option maxHeartbeats 4000000 in
set_option maxRecDepth 100000 in
theorem kL_93 {p : Program} {l : Launch} {e : Env} {R : Room} {s : State} {m : MethodId} {args : Array Value} {below : List Frame} {meth : Method} {c : Code} {H : Heap} {locs : List Loc} {cells slots : Nat} {Q : State → Prop} {cc : ByteArray} {pc nL : Nat} {ls : Array Slot} {rest : List Value} {w : WV} {σ : Mem} {x1 : Int32} {x2 : Int32} {σ1 : Mem} {A0 : Nat → Prop} {r : Int32} (S : CallFix p m c cc nL s args gtbl R_law) (hK : KS LC w s) (hR : Rp EC LC w σ H) (hS : va_S A0 s.heap H locs) (hsub : ∀ q, AW LC w q → A0 q) (h0 : f6_dinner σ x1 x2 = some (σ1, r)) (hf : cells + 0 ≤ R.cells ∧ slots + 0 ≤ R.slots) (hRm : rm6_dinner.frames + 1 ≤ R.frames ∧ 8 + (8 + 11) + rm6_dinner.locals ≤ R.locals) (hl : ls.size = nL) (hW : (rest.map fun v => v.category).sum ≤ 8) (hdg : decode cc pc = .ok (.invokevirtual 93, 3)) (kk : ∀ (H1 : Heap) (locs1 : List Loc), Rp EC LC w σ1 H1 → (∀ q : Nat, q < H.size → ¬ AW LC w q → H1[q]? = H[q]?) → va_S A0 s.heap H1 locs1 → W p l e R s m args below meth c H1 locs1 cells slots Q (F0 m (pc + 3) ls (.int r :: rest))) : W p l e R s m args below meth c H locs cells slots Q (F0 m pc ls (.int x2 :: .int x1 :: .ref (w.2.2 0) :: rest)) := r_end2 hS hsub (run_V (n := 2) (As := [.int x1, .int x2]) S hK hR (by decide) (eC_6 w _) rfl (gw_V (gt_at 815 (by decide +kernel) (by decide +kernel)) (gt_at 816 (by decide +kernel) (by decide +kernel)) (gt_at 817 (by decide +kernel) (by decide +kernel)) (gt_at 74 (by decide +kernel) (by decide +kernel)) (gt_at 818 (by decide +kernel) (by decide +kernel))) (by decide +kernel) rfl (c6_dinner l h0) ⟨rfl, rfl⟩ hRm hf hl rfl hW hdg) kk
set_option maxHeartbeats 4000000 in
set_option maxRecDepth 100000 in
theorem kL_97 {p : Program} {l : Launch} {e : Env} {R : Room} {s : State} {m : MethodId} {args : Array Value} {below : List Frame} {meth : Method} {c : Code} {H : Heap} {locs : List Loc} {cells slots : Nat} {Q : State → Prop} {cc : ByteArray} {pc nL : Nat} {ls : Array Slot} {rest : List Value} {w : WV} {σ : Mem} {x1 : Int32} {x2 : Int32} {x3 : Int32} {r : Int32} (S : CallFix p m c cc nL s args gtbl R_law) (hK : KS LC w s) (hR : Rp EC LC w σ H) (h0 : f6_byNow σ x1 x2 x3 = some r) (hf : cells + 0 ≤ R.cells ∧ slots + 0 ≤ R.slots) (hRm : rm6_byNow.frames + 1 ≤ R.frames ∧ 8 + (8 + 11) + rm6_byNow.locals ≤ R.locals) (hl : ls.size = nL) (hW : (rest.map fun v => v.category).sum ≤ 8) (hdg : decode cc pc = .ok (.invokevirtual 97, 3)) (kk : W p l e R s m args below meth c H locs cells slots Q (F0 m (pc + 3) ls (.int r :: rest))) : W p l e R s m args below meth c H locs cells slots Q (F0 m pc ls (.int x3 :: .int x2 :: .int x1 :: .ref (w.2.2 0) :: rest)) := r_endp (run_V (n := 3) (As := [.int x1, .int x2, .int x3]) S hK hR (by decide) (eC_6 w _) rfl (gw_V (gt_at 819 (by decide +kernel) (by decide +kernel)) (gt_at 820 (by decide +kernel) (by decide +kernel)) (gt_at 821 (by decide +kernel) (by decide +kernel)) (gt_at 74 (by decide +kernel) (by decide +kernel)) (gt_at 822 (by decide +kernel) (by decide +kernel))) (by decide +kernel) rfl (c6_byNow l h0) ⟨rfl, rfl⟩ hRm hf hl rfl hW hdg) kk
set_option maxHeartbeats 4000000 in
set_option maxRecDepth 100000 in
theorem kL_101 {p : Program} {l : Launch} {e : Env} {R : Room} {s : State} {m : MethodId} {args : Array Value} {below : List Frame} {meth : Method} {c : Code} {H : Heap} {locs : List Loc} {cells slots : Nat} {Q : State → Prop} {cc : ByteArray} {pc nL : Nat} {ls : Array Slot} {rest : List Value} {w : WV} {σ : Mem} {x1 : Int32} {r : Int32} (S : CallFix p m c cc nL s args gtbl R_law) (hK : KS LC w s) (hR : Rp EC LC w σ H) (h0 : f6_which σ x1 = some r) (hf : cells + 0 ≤ R.cells ∧ slots + 0 ≤ R.slots) (hRm : rm6_which.frames + 1 ≤ R.frames ∧ 8 + (5 + 11) + rm6_which.locals ≤ R.locals) (hl : ls.size = nL) (hW : (rest.map fun v => v.category).sum ≤ 8) (hdg : decode cc pc = .ok (.invokevirtual 101, 3)) (kk : W p l e R s m args below meth c H locs cells slots Q (F0 m (pc + 3) ls (.int r :: rest))) : W p l e R s m args below meth c H locs cells slots Q (F0 m pc ls (.int x1 :: .ref (w.2.2 0) :: rest)) := r_endp (run_V (n := 1) (As := [.int x1]) S hK hR (by decide) (eC_6 w _) rfl (gw_V (gt_at 827 (by decide +kernel) (by decide +kernel)) (gt_at 828 (by decide +kernel) (by decide +kernel)) (gt_at 829 (by decide +kernel) (by decide +kernel)) (gt_at 74 (by decide +kernel) (by decide +kernel)) (gt_at 830 (by decide +kernel) (by decide +kernel))) (by decide +kernel) rfl (c6_which l h0) ⟨rfl, rfl⟩ hRm hf hl rfl hW hdg) kk
set_option maxHeartbeats 4000000 in
set_option maxRecDepth 100000 in
theorem kL_105 {p : Program} {l : Launch} {e : Env} {R : Room} {s : State} {m : MethodId} {args : Array Value} {below : List Frame} {meth : Method} {c : Code} {H : Heap} {locs : List Loc} {cells slots : Nat} {Q : State → Prop} {cc : ByteArray} {pc nL : Nat} {ls : Array Slot} {rest : List Value} {w : WV} {σ : Mem} {x1 : Int32} {x2 : Int32} {σ1 : Mem} {A0 : Nat → Prop} {r : Int32} (S : CallFix p m c cc nL s args gtbl R_law) (hK : KS LC w s) (hR : Rp EC LC w σ H) (hS : va_S A0 s.heap H locs) (hsub : ∀ q, AW LC w q → A0 q) (h0 : f6_seen σ x1 x2 = some (σ1, r)) (hf : cells + 0 ≤ R.cells ∧ slots + 0 ≤ R.slots) (hRm : rm6_seen.frames + 1 ≤ R.frames ∧ 8 + (3 + 11) + rm6_seen.locals ≤ R.locals) (hl : ls.size = nL) (hW : (rest.map fun v => v.category).sum ≤ 8) (hdg : decode cc pc = .ok (.invokevirtual 105, 3)) (kk : ∀ (H1 : Heap) (locs1 : List Loc), Rp EC LC w σ1 H1 → (∀ q : Nat, q < H.size → ¬ AW LC w q → H1[q]? = H[q]?) → va_S A0 s.heap H1 locs1 → W p l e R s m args below meth c H1 locs1 cells slots Q (F0 m (pc + 3) ls (.int r :: rest))) : W p l e R s m args below meth c H locs cells slots Q (F0 m pc ls (.int x2 :: .int x1 :: .ref (w.2.2 0) :: rest)) := r_end2 hS hsub (run_V (n := 2) (As := [.int x1, .int x2]) S hK hR (by decide) (eC_6 w _) rfl (gw_V (gt_at 832 (by decide +kernel) (by decide +kernel)) (gt_at 833 (by decide +kernel) (by decide +kernel)) (gt_at 834 (by decide +kernel) (by decide +kernel)) (gt_at 74 (by decide +kernel) (by decide +kernel)) (gt_at 835 (by decide +kernel) (by decide +kernel))) (by decide +kernel) rfl (c6_seen l h0) ⟨rfl, rfl⟩ hRm hf hl rfl hW hdg) kk
set_option maxHeartbeats 4000000 in
set_option maxRecDepth 100000 in
theorem kL_109 {p : Program} {l : Launch} {e : Env} {R : Room} {s : State} {m : MethodId} {args : Array Value} {below : List Frame} {meth : Method} {c : Code} {H : Heap} {locs : List Loc} {cells slots : Nat} {Q : State → Prop} {cc : ByteArray} {pc nL : Nat} {ls : Array Slot} {rest : List Value} {w : WV} {σ : Mem} {σ1 : Mem} {A0 : Nat → Prop} {r : Int32} (S : CallFix p m c cc nL s args gtbl R_law) (hK : KS LC w s) (hR : Rp EC LC w σ H) (hS : va_S A0 s.heap H locs) (hsub : ∀ q, AW LC w q → A0 q) (h0 : f6_forget σ = some (σ1, r)) (hf : cells + 0 ≤ R.cells ∧ slots + 0 ≤ R.slots) (hRm : rm6_forget.frames + 1 ≤ R.frames ∧ 8 + (1 + 11) + rm6_forget.locals ≤ R.locals) (hl : ls.size = nL) (hW : (rest.map fun v => v.category).sum ≤ 8) (hdg : decode cc pc = .ok (.invokevirtual 109, 3)) (kk : ∀ (H1 : Heap) (locs1 : List Loc), Rp EC LC w σ1 H1 → (∀ q : Nat, q < H.size → ¬ AW LC w q → H1[q]? = H[q]?) → va_S A0 s.heap H1 locs1 → W p l e R s m args below meth c H1 locs1 cells slots Q (F0 m (pc + 3) ls (.int r :: rest))) : W p l e R s m args below meth c H locs cells slots Q (F0 m pc ls (.ref (w.2.2 0) :: rest)) := r_end2 hS hsub (run_V (n := 0) (As := []) S hK hR (by decide) (eC_6 w _) rfl (gw_V (gt_at 836 (by decide +kernel) (by decide +kernel)) (gt_at 837 (by decide +kernel) (by decide +kernel)) (gt_at 838 (by decide +kernel) (by decide +kernel)) (gt_at 74 (by decide +kernel) (by decide +kernel)) (gt_at 839 (by decide +kernel) (by decide +kernel))) (by decide +kernel) rfl (c6_forget l h0) ⟨rfl, rfl⟩ hRm hf hl rfl hW hdg) kk
set_option maxHeartbeats 4000000 in
set_option maxRecDepth 100000 in
theorem kL_113 {p : Program} {l : Launch} {e : Env} {R : Room} {s : State} {m : MethodId} {args : Array Value} {below : List Frame} {meth : Method} {c : Code} {H : Heap} {locs : List Loc} {cells slots : Nat} {Q : State → Prop} {cc : ByteArray} {pc nL : Nat} {ls : Array Slot} {rest : List Value} {w : WV} {σ : Mem} {σ1 : Mem} {A0 : Nat → Prop} {r : Int32} (S : CallFix p m c cc nL s args gtbl R_law) (hK : KS LC w s) (hR : Rp EC LC w σ H) (hS : va_S A0 s.heap H locs) (hsub : ∀ q, AW LC w q → A0 q) (h0 : f6_fits σ = some (σ1, r)) (hf : cells + 0 ≤ R.cells ∧ slots + 0 ≤ R.slots) (hRm : rm6_fits.frames + 1 ≤ R.frames ∧ 8 + (3 + 11) + rm6_fits.locals ≤ R.locals) (hl : ls.size = nL) (hW : (rest.map fun v => v.category).sum ≤ 8) (hdg : decode cc pc = .ok (.invokevirtual 113, 3)) (kk : ∀ (H1 : Heap) (locs1 : List Loc), Rp EC LC w σ1 H1 → (∀ q : Nat, q < H.size → ¬ AW LC w q → H1[q]? = H[q]?) → va_S A0 s.heap H1 locs1 → W p l e R s m args below meth c H1 locs1 cells slots Q (F0 m (pc + 3) ls (.int r :: rest))) : W p l e R s m args below meth c H locs cells slots Q (F0 m pc ls (.ref (w.2.2 0) :: rest)) := r_end2 hS hsub (run_V (n := 0) (As := []) S hK hR (by decide) (eC_6 w _) rfl (gw_V (gt_at 840 (by decide +kernel) (by decide +kernel)) (gt_at 841 (by decide +kernel) (by decide +kernel)) (gt_at 842 (by decide +kernel) (by decide +kernel)) (gt_at 74 (by decide +kernel) (by decide +kernel)) (gt_at 843 (by decide +kernel) (by decide +kernel))) (by decide +kernel) rfl (c6_fits l h0) ⟨rfl, rfl⟩ hRm hf hl rfl hW hdg) kk
set_option maxHeartbeats 4000000 in
set_option maxRecDepth 100000 in
theorem kL_117 {p : Program} {l : Launch} {e : Env} {R : Room} {s : State} {m : MethodId} {args : Array Value} {below : List Frame} {meth : Method} {c : Code} {H : Heap} {locs : List Loc} {cells slots : Nat} {Q : State → Prop} {cc : ByteArray} {pc nL : Nat} {ls : Array Slot} {rest : List Value} {w : WV} {σ : Mem} {x1 : Int32} {x2 : Int32} {σ1 : Mem} {A0 : Nat → Prop} {r : Int32} (S : CallFix p m c cc nL s args gtbl R_law) (hK : KS LC w s) (hR : Rp EC LC w σ H) (hS : va_S A0 s.heap H locs) (hsub : ∀ q, AW LC w q → A0 q) (h0 : f6_bridge σ x1 x2 = some (σ1, r)) (hf : cells + 0 ≤ R.cells ∧ slots + 0 ≤ R.slots) (hRm : rm6_bridge.frames + 1 ≤ R.frames ∧ 8 + (5 + 11) + rm6_bridge.locals ≤ R.locals) (hl : ls.size = nL) (hW : (rest.map fun v => v.category).sum ≤ 8) (hdg : decode cc pc = .ok (.invokevirtual 117, 3)) (kk : ∀ (H1 : Heap) (locs1 : List Loc), Rp EC LC w σ1 H1 → (∀ q : Nat, q < H.size → ¬ AW LC w q → H1[q]? = H[q]?) → va_S A0 s.heap H1 locs1 → W p l e R s m args below meth c H1 locs1 cells slots Q (F0 m (pc + 3) ls (.int r :: rest))) : W p l e R s m args below meth c H locs cells slots Q (F0 m pc ls (.int x2 :: .int x1 :: .ref (w.2.2 0) :: rest)) := r_end2 hS hsub (run_V (n := 2) (As := [.int x1, .int x2]) S hK hR (by decide) (eC_6 w _) rfl (gw_V (gt_at 848 (by decide +kernel) (by decide +kernel)) (gt_at 849 (by decide +kernel) (by decide +kernel)) (gt_at 850 (by decide +kernel) (by decide +kernel)) (gt_at 74 (by decide +kernel) (by decide +kernel)) (gt_at 851 (by decide +kernel) (by decide +kernel))) (by decide +kernel) rfl (c6_bridge l h0) ⟨rfl, rfl⟩ hRm hf hl rfl hW hdg) kk
set_option maxHeartbeats 4000000 in
set_option maxRecDepth 100000 in
theorem kL_121 {p : Program} {l : Launch} {e : Env} {R : Room} {s : State} {m : MethodId} {args : Array Value} {below : List Frame} {meth : Method} {c : Code} {H : Heap} {locs : List Loc} {cells slots : Nat} {Q : State → Prop} {cc : ByteArray} {pc nL : Nat} {ls : Array Slot} {rest : List Value} {w : WV} {σ : Mem} {x1 : Int32} {x2 : Int32} {x3 : Int32} {σ1 : Mem} {A0 : Nat → Prop} {r : Int32} (S : CallFix p m c cc nL s args gtbl R_law) (hK : KS LC w s) (hR : Rp EC LC w σ H) (hS : va_S A0 s.heap H locs) (hsub : ∀ q, AW LC w q → A0 q) (h0 : f6_mean σ x1 x2 x3 = some (σ1, r)) (hf : cells + 0 ≤ R.cells ∧ slots + 0 ≤ R.slots) (hRm : rm6_mean.frames + 1 ≤ R.frames ∧ 8 + (7 + 11) + rm6_mean.locals ≤ R.locals) (hl : ls.size = nL) (hW : (rest.map fun v => v.category).sum ≤ 8) (hdg : decode cc pc = .ok (.invokevirtual 121, 3)) (kk : ∀ (H1 : Heap) (locs1 : List Loc), Rp EC LC w σ1 H1 → (∀ q : Nat, q < H.size → ¬ AW LC w q → H1[q]? = H[q]?) → va_S A0 s.heap H1 locs1 → W p l e R s m args below meth c H1 locs1 cells slots Q (F0 m (pc + 3) ls (.int r :: rest))) : W p l e R s m args below meth c H locs cells slots Q (F0 m pc ls (.int x3 :: .int x2 :: .int x1 :: .ref (w.2.2 0) :: rest)) := r_end2 hS hsub (run_V (n := 3) (As := [.int x1, .int x2, .int x3]) S hK hR (by decide) (eC_6 w _) rfl (gw_V (gt_at 852 (by decide +kernel) (by decide +kernel)) (gt_at 853 (by decide +kernel) (by decide +kernel)) (gt_at 854 (by decide +kernel) (by decide +kernel)) (gt_at 74 (by decide +kernel) (by decide +kernel)) (gt_at 855 (by decide +kernel) (by decide +kernel))) (by decide +kernel) rfl (c6_mean l h0) ⟨rfl, rfl⟩ hRm hf hl rfl hW hdg) kk
set_option maxHeartbeats 4000000 in
set_option maxRecDepth 100000 in
theorem kL_125 {p : Program} {l : Launch} {e : Env} {R : Room} {s : State} {m : MethodId} {args : Array Value} {below : List Frame} {meth : Method} {c : Code} {H : Heap} {locs : List Loc} {cells slots : Nat} {Q : State → Prop} {cc : ByteArray} {pc nL : Nat} {ls : Array Slot} {rest : List Value} {w : WV} {σ : Mem} {x1 : Int32} {x2 : Int32} {x3 : Int32} {σ1 : Mem} {A0 : Nat → Prop} {r : Int32} (S : CallFix p m c cc nL s args gtbl R_law) (hK : KS LC w s) (hR : Rp EC LC w σ H) (hS : va_S A0 s.heap H locs) (hsub : ∀ q, AW LC w q → A0 q) (h0 : f6_day σ x1 x2 x3 = some (σ1, r)) (hf : cells + 0 ≤ R.cells ∧ slots + 0 ≤ R.slots) (hRm : rm6_day.frames + 1 ≤ R.frames ∧ 8 + (5 + 11) + rm6_day.locals ≤ R.locals) (hl : ls.size = nL) (hW : (rest.map fun v => v.category).sum ≤ 8) (hdg : decode cc pc = .ok (.invokevirtual 125, 3)) (kk : ∀ (H1 : Heap) (locs1 : List Loc), Rp EC LC w σ1 H1 → (∀ q : Nat, q < H.size → ¬ AW LC w q → H1[q]? = H[q]?) → va_S A0 s.heap H1 locs1 → W p l e R s m args below meth c H1 locs1 cells slots Q (F0 m (pc + 3) ls (.int r :: rest))) : W p l e R s m args below meth c H locs cells slots Q (F0 m pc ls (.int x3 :: .int x2 :: .int x1 :: .ref (w.2.2 0) :: rest)) := r_end2 hS hsub (run_V (n := 3) (As := [.int x1, .int x2, .int x3]) S hK hR (by decide) (eC_6 w _) rfl (gw_V (gt_at 856 (by decide +kernel) (by decide +kernel)) (gt_at 857 (by decide +kernel) (by decide +kernel)) (gt_at 858 (by decide +kernel) (by decide +kernel)) (gt_at 74 (by decide +kernel) (by decide +kernel)) (gt_at 859 (by decide +kernel) (by decide +kernel))) (by decide +kernel) rfl (c6_day l h0) ⟨rfl, rfl⟩ hRm hf hl rfl hW hdg) kk
set_option maxHeartbeats 4000000 in
set_option maxRecDepth 100000 in
theorem kL_129 {p : Program} {l : Launch} {e : Env} {R : Room} {s : State} {m : MethodId} {args : Array Value} {below : List Frame} {meth : Method} {c : Code} {H : Heap} {locs : List Loc} {cells slots : Nat} {Q : State → Prop} {cc : ByteArray} {pc nL : Nat} {ls : Array Slot} {rest : List Value} {w : WV} {σ : Mem} {σ1 : Mem} {A0 : Nat → Prop} {r : Int32} (S : CallFix p m c cc nL s args gtbl R_law) (hK : KS LC w s) (hR : Rp EC LC w σ H) (hS : va_S A0 s.heap H locs) (hsub : ∀ q, AW LC w q → A0 q) (h0 : f6_keep σ = some (σ1, r)) (hf : cells + 0 ≤ R.cells ∧ slots + 0 ≤ R.slots) (hRm : rm6_keep.frames + 1 ≤ R.frames ∧ 8 + (1 + 11) + rm6_keep.locals ≤ R.locals) (hl : ls.size = nL) (hW : (rest.map fun v => v.category).sum ≤ 8) (hdg : decode cc pc = .ok (.invokevirtual 129, 3)) (kk : ∀ (H1 : Heap) (locs1 : List Loc), Rp EC LC w σ1 H1 → (∀ q : Nat, q < H.size → ¬ AW LC w q → H1[q]? = H[q]?) → va_S A0 s.heap H1 locs1 → W p l e R s m args below meth c H1 locs1 cells slots Q (F0 m (pc + 3) ls (.int r :: rest))) : W p l e R s m args below meth c H locs cells slots Q (F0 m pc ls (.ref (w.2.2 0) :: rest)) := r_end2 hS hsub (run_V (n := 0) (As := []) S hK hR (by decide) (eC_6 w _) rfl (gw_V (gt_at 871 (by decide +kernel) (by decide +kernel)) (gt_at 872 (by decide +kernel) (by decide +kernel)) (gt_at 873 (by decide +kernel) (by decide +kernel)) (gt_at 74 (by decide +kernel) (by decide +kernel)) (gt_at 874 (by decide +kernel) (by decide +kernel))) (by decide +kernel) rfl (c6_keep l h0) ⟨rfl, rfl⟩ hRm hf hl rfl hW hdg) kk
set_option maxHeartbeats 4000000 in
set_option maxRecDepth 100000 in
theorem kL_133 {p : Program} {l : Launch} {e : Env} {R : Room} {s : State} {m : MethodId} {args : Array Value} {below : List Frame} {meth : Method} {c : Code} {H : Heap} {locs : List Loc} {cells slots : Nat} {Q : State → Prop} {cc : ByteArray} {pc nL : Nat} {ls : Array Slot} {rest : List Value} {w : WV} {σ : Mem} {σ1 : Mem} {A0 : Nat → Prop} {r : Int32} (S : CallFix p m c cc nL s args gtbl R_law) (hK : KS LC w s) (hR : Rp EC LC w σ H) (hS : va_S A0 s.heap H locs) (hsub : ∀ q, AW LC w q → A0 q) (h0 : f6_back σ = some (σ1, r)) (hf : cells + 0 ≤ R.cells ∧ slots + 0 ≤ R.slots) (hRm : rm6_back.frames + 1 ≤ R.frames ∧ 8 + (1 + 11) + rm6_back.locals ≤ R.locals) (hl : ls.size = nL) (hW : (rest.map fun v => v.category).sum ≤ 8) (hdg : decode cc pc = .ok (.invokevirtual 133, 3)) (kk : ∀ (H1 : Heap) (locs1 : List Loc), Rp EC LC w σ1 H1 → (∀ q : Nat, q < H.size → ¬ AW LC w q → H1[q]? = H[q]?) → va_S A0 s.heap H1 locs1 → W p l e R s m args below meth c H1 locs1 cells slots Q (F0 m (pc + 3) ls (.int r :: rest))) : W p l e R s m args below meth c H locs cells slots Q (F0 m pc ls (.ref (w.2.2 0) :: rest)) := r_end2 hS hsub (run_V (n := 0) (As := []) S hK hR (by decide) (eC_6 w _) rfl (gw_V (gt_at 876 (by decide +kernel) (by decide +kernel)) (gt_at 877 (by decide +kernel) (by decide +kernel)) (gt_at 878 (by decide +kernel) (by decide +kernel)) (gt_at 74 (by decide +kernel) (by decide +kernel)) (gt_at 879 (by decide +kernel) (by decide +kernel))) (by decide +kernel) rfl (c6_back l h0) ⟨rfl, rfl⟩ hRm hf hl rfl hW hdg) kk
set_option maxHeartbeats 4000000 in
set_option maxRecDepth 100000 in
theorem kL_137 {p : Program} {l : Launch} {e : Env} {R : Room} {s : State} {m : MethodId} {args : Array Value} {below : List Frame} {meth : Method} {c : Code} {H : Heap} {locs : List Loc} {cells slots : Nat} {Q : State → Prop} {cc : ByteArray} {pc nL : Nat} {ls : Array Slot} {rest : List Value} {w : WV} {σ : Mem} {x1 : Int32} {r : Int32} (S : CallFix p m c cc nL s args gtbl R_law) (hK : KS LC w s) (hR : Rp EC LC w σ H) (h0 : f6_count σ x1 = some r) (hf : cells + 0 ≤ R.cells ∧ slots + 0 ≤ R.slots) (hRm : rm6_count.frames + 1 ≤ R.frames ∧ 8 + (2 + 11) + rm6_count.locals ≤ R.locals) (hl : ls.size = nL) (hW : (rest.map fun v => v.category).sum ≤ 8) (hdg : decode cc pc = .ok (.invokevirtual 137, 3)) (kk : W p l e R s m args below meth c H locs cells slots Q (F0 m (pc + 3) ls (.int r :: rest))) : W p l e R s m args below meth c H locs cells slots Q (F0 m pc ls (.int x1 :: .ref (w.2.2 0) :: rest)) := r_endp (run_V (n := 1) (As := [.int x1]) S hK hR (by decide) (eC_6 w _) rfl (gw_V (gt_at 880 (by decide +kernel) (by decide +kernel)) (gt_at 881 (by decide +kernel) (by decide +kernel)) (gt_at 882 (by decide +kernel) (by decide +kernel)) (gt_at 74 (by decide +kernel) (by decide +kernel)) (gt_at 883 (by decide +kernel) (by decide +kernel))) (by decide +kernel) rfl (c6_count l h0) ⟨rfl, rfl⟩ hRm hf hl rfl hW hdg) kk
set_option maxHeartbeats 4000000 in
set_option maxRecDepth 100000 in
theorem kL_17 {p : Program} {l : Launch} {e : Env} {R : Room} {s : State} {m : MethodId} {args : Array Value} {below : List Frame} {meth : Method} {c : Code} {H : Heap} {locs : List Loc} {cells slots : Nat} {Q : State → Prop} {cc : ByteArray} {pc nL : Nat} {ls : Array Slot} {rest : List Value} {w : WV} {σ : Mem} {x1 : Int32} {σ1 : Mem} {A0 : Nat → Prop} {r : Int32} (S : CallFix p m c cc nL s args gtbl R_law) (hK : KS LM w s) (hR : Rp EM LM w σ H) (hS : va_S A0 s.heap H locs) (hsub : ∀ q, AW LM w q → A0 q) (h0 : f7_write σ x1 = some (σ1, r)) (hf : cells + 0 ≤ R.cells ∧ slots + 0 ≤ R.slots) (hRm : rm7_write.frames + 1 ≤ R.frames ∧ 8 + (2 + 11) + rm7_write.locals ≤ R.locals) (hl : ls.size = nL) (hW : (rest.map fun v => v.category).sum ≤ 8) (hdg : decode cc pc = .ok (.invokevirtual 17, 3)) (kk : ∀ (H1 : Heap) (locs1 : List Loc), Rp EM LM w σ1 H1 → (∀ q : Nat, q < H.size → ¬ AW LM w q → H1[q]? = H[q]?) → va_S A0 s.heap H1 locs1 → W p l e R s m args below meth c H1 locs1 cells slots Q (F0 m (pc + 3) ls (.int r :: rest))) : W p l e R s m args below meth c H locs cells slots Q (F0 m pc ls (.int x1 :: .ref (w.2.2 0) :: rest)) := r_end2 hS hsub (run_V (n := 1) (As := [.int x1]) S hK hR (by decide) (eM_7 w _) rfl (gw_V (gt_at 1022 (by decide +kernel) (by decide +kernel)) (gt_at 1023 (by decide +kernel) (by decide +kernel)) (gt_at 1024 (by decide +kernel) (by decide +kernel)) (gt_at 86 (by decide +kernel) (by decide +kernel)) (gt_at 1025 (by decide +kernel) (by decide +kernel))) (by decide +kernel) rfl (c7_write l h0) ⟨rfl, rfl⟩ hRm hf hl rfl hW hdg) kk
set_option maxHeartbeats 4000000 in
set_option maxRecDepth 100000 in
theorem kL_22 {p : Program} {l : Launch} {e : Env} {R : Room} {s : State} {m : MethodId} {args : Array Value} {below : List Frame} {meth : Method} {c : Code} {H : Heap} {locs : List Loc} {cells slots : Nat} {Q : State → Prop} {cc : ByteArray} {pc nL : Nat} {ls : Array Slot} {rest : List Value} {w : WV} {σ : Mem} {σ1 : Mem} {A0 : Nat → Prop} {r : Int32} (S : CallFix p m c cc nL s args gtbl R_law) (hK : KS LM w s) (hR : Rp EM LM w σ H) (hS : va_S A0 s.heap H locs) (hsub : ∀ q, AW LM w q → A0 q) (h0 : f7_wipe σ = some (σ1, r)) (hf : cells + 0 ≤ R.cells ∧ slots + 0 ≤ R.slots) (hRm : rm7_wipe.frames + 1 ≤ R.frames ∧ 8 + (2 + 11) + rm7_wipe.locals ≤ R.locals) (hl : ls.size = nL) (hW : (rest.map fun v => v.category).sum ≤ 8) (hdg : decode cc pc = .ok (.invokevirtual 22, 3)) (kk : ∀ (H1 : Heap) (locs1 : List Loc), Rp EM LM w σ1 H1 → (∀ q : Nat, q < H.size → ¬ AW LM w q → H1[q]? = H[q]?) → va_S A0 s.heap H1 locs1 → W p l e R s m args below meth c H1 locs1 cells slots Q (F0 m (pc + 3) ls (.int r :: rest))) : W p l e R s m args below meth c H locs cells slots Q (F0 m pc ls (.ref (w.2.2 0) :: rest)) := r_end2 hS hsub (run_V (n := 0) (As := []) S hK hR (by decide) (eM_7 w _) rfl (gw_V (gt_at 1031 (by decide +kernel) (by decide +kernel)) (gt_at 1032 (by decide +kernel) (by decide +kernel)) (gt_at 1033 (by decide +kernel) (by decide +kernel)) (gt_at 86 (by decide +kernel) (by decide +kernel)) (gt_at 1034 (by decide +kernel) (by decide +kernel))) (by decide +kernel) rfl (c7_wipe l h0) ⟨rfl, rfl⟩ hRm hf hl rfl hW hdg) kk
set_option maxHeartbeats 4000000 in
set_option maxRecDepth 100000 in
theorem kL_26 {p : Program} {l : Launch} {e : Env} {R : Room} {s : State} {m : MethodId} {args : Array Value} {below : List Frame} {meth : Method} {c : Code} {H : Heap} {locs : List Loc} {cells slots : Nat} {Q : State → Prop} {cc : ByteArray} {pc nL : Nat} {ls : Array Slot} {rest : List Value} {w : WV} {σ : Mem} {σ1 : Mem} {A0 : Nat → Prop} {r : Int32} (S : CallFix p m c cc nL s args gtbl R_law) (hK : KS LM w s) (hR : Rp EM LM w σ H) (hS : va_S A0 s.heap H locs) (hsub : ∀ q, AW LM w q → A0 q) (h0 : f7_fault σ = some (σ1, r)) (hf : cells + 0 ≤ R.cells ∧ slots + 0 ≤ R.slots) (hRm : rm7_fault.frames + 1 ≤ R.frames ∧ 8 + (1 + 11) + rm7_fault.locals ≤ R.locals) (hl : ls.size = nL) (hW : (rest.map fun v => v.category).sum ≤ 8) (hdg : decode cc pc = .ok (.invokevirtual 26, 3)) (kk : ∀ (H1 : Heap) (locs1 : List Loc), Rp EM LM w σ1 H1 → (∀ q : Nat, q < H.size → ¬ AW LM w q → H1[q]? = H[q]?) → va_S A0 s.heap H1 locs1 → W p l e R s m args below meth c H1 locs1 cells slots Q (F0 m (pc + 3) ls (.int r :: rest))) : W p l e R s m args below meth c H locs cells slots Q (F0 m pc ls (.ref (w.2.2 0) :: rest)) := r_end2 hS hsub (run_V (n := 0) (As := []) S hK hR (by decide) (eM_7 w _) rfl (gw_V (gt_at 1035 (by decide +kernel) (by decide +kernel)) (gt_at 1036 (by decide +kernel) (by decide +kernel)) (gt_at 1037 (by decide +kernel) (by decide +kernel)) (gt_at 86 (by decide +kernel) (by decide +kernel)) (gt_at 1038 (by decide +kernel) (by decide +kernel))) (by decide +kernel) rfl (c7_fault l h0) ⟨rfl, rfl⟩ hRm hf hl rfl hW hdg) kk
set_option maxHeartbeats 4000000 in
set_option maxRecDepth 100000 in
theorem kL_30 {p : Program} {l : Launch} {e : Env} {R : Room} {s : State} {m : MethodId} {args : Array Value} {below : List Frame} {meth : Method} {c : Code} {H : Heap} {locs : List Loc} {cells slots : Nat} {Q : State → Prop} {cc : ByteArray} {pc nL : Nat} {ls : Array Slot} {rest : List Value} {w : WV} {σ : Mem} {σ1 : Mem} {A0 : Nat → Prop} {r : Int32} (S : CallFix p m c cc nL s args gtbl R_law) (hK : KS LM w s) (hR : Rp EM LM w σ H) (hS : va_S A0 s.heap H locs) (hsub : ∀ q, AW LM w q → A0 q) (h0 : f7_lay σ = some (σ1, r)) (hf : cells + 0 ≤ R.cells ∧ slots + 0 ≤ R.slots) (hRm : rm7_lay.frames + 1 ≤ R.frames ∧ 8 + (2 + 11) + rm7_lay.locals ≤ R.locals) (hl : ls.size = nL) (hW : (rest.map fun v => v.category).sum ≤ 8) (hdg : decode cc pc = .ok (.invokevirtual 30, 3)) (kk : ∀ (H1 : Heap) (locs1 : List Loc), Rp EM LM w σ1 H1 → (∀ q : Nat, q < H.size → ¬ AW LM w q → H1[q]? = H[q]?) → va_S A0 s.heap H1 locs1 → W p l e R s m args below meth c H1 locs1 cells slots Q (F0 m (pc + 3) ls (.int r :: rest))) : W p l e R s m args below meth c H locs cells slots Q (F0 m pc ls (.ref (w.2.2 0) :: rest)) := r_end2 hS hsub (run_V (n := 0) (As := []) S hK hR (by decide) (eM_7 w _) rfl (gw_V (gt_at 1070 (by decide +kernel) (by decide +kernel)) (gt_at 1071 (by decide +kernel) (by decide +kernel)) (gt_at 1072 (by decide +kernel) (by decide +kernel)) (gt_at 86 (by decide +kernel) (by decide +kernel)) (gt_at 1073 (by decide +kernel) (by decide +kernel))) (by decide +kernel) rfl (c7_lay l h0) ⟨rfl, rfl⟩ hRm hf hl rfl hW hdg) kk
set_option maxHeartbeats 4000000 in
set_option maxRecDepth 100000 in
theorem kL_35 {p : Program} {l : Launch} {e : Env} {R : Room} {s : State} {m : MethodId} {args : Array Value} {below : List Frame} {meth : Method} {c : Code} {H : Heap} {locs : List Loc} {cells slots : Nat} {Q : State → Prop} {cc : ByteArray} {pc nL : Nat} {ls : Array Slot} {rest : List Value} {w : WV} {σ : Mem} {x1 : Int32} {x2 : Int32} {r : Int32} (S : CallFix p m c cc nL s args gtbl R_law) (hK : KS LM w s) (hR : Rp EM LM w σ H) (h0 : f7_train σ x1 x2 = some r) (hf : cells + 0 ≤ R.cells ∧ slots + 0 ≤ R.slots) (hRm : rm7_train.frames + 1 ≤ R.frames ∧ 8 + (4 + 11) + rm7_train.locals ≤ R.locals) (hl : ls.size = nL) (hW : (rest.map fun v => v.category).sum ≤ 8) (hdg : decode cc pc = .ok (.invokevirtual 35, 3)) (kk : W p l e R s m args below meth c H locs cells slots Q (F0 m (pc + 3) ls (.int r :: rest))) : W p l e R s m args below meth c H locs cells slots Q (F0 m pc ls (.int x2 :: .int x1 :: .ref (w.2.2 0) :: rest)) := r_endp (run_V (n := 2) (As := [.int x1, .int x2]) S hK hR (by decide) (eM_7 w _) rfl (gw_V (gt_at 1078 (by decide +kernel) (by decide +kernel)) (gt_at 1079 (by decide +kernel) (by decide +kernel)) (gt_at 1080 (by decide +kernel) (by decide +kernel)) (gt_at 86 (by decide +kernel) (by decide +kernel)) (gt_at 1081 (by decide +kernel) (by decide +kernel))) (by decide +kernel) rfl (c7_train l h0) ⟨rfl, rfl⟩ hRm hf hl rfl hW hdg) kk
set_option maxHeartbeats 4000000 in
set_option maxRecDepth 100000 in
theorem kL_39 {p : Program} {l : Launch} {e : Env} {R : Room} {s : State} {m : MethodId} {args : Array Value} {below : List Frame} {meth : Method} {c : Code} {H : Heap} {locs : List Loc} {cells slots : Nat} {Q : State → Prop} {cc : ByteArray} {pc nL : Nat} {ls : Array Slot} {rest : List Value} {w : WV} {σ : Mem} {x1 : Int32} {x2 : Int32} {r : Int32} (S : CallFix p m c cc nL s args gtbl R_law) (hK : KS LM w s) (hR : Rp EM LM w σ H) (h0 : f7_user σ x1 x2 = some r) (hf : cells + 0 ≤ R.cells ∧ slots + 0 ≤ R.slots) (hRm : rm7_user.frames + 1 ≤ R.frames ∧ 8 + (3 + 11) + rm7_user.locals ≤ R.locals) (hl : ls.size = nL) (hW : (rest.map fun v => v.category).sum ≤ 8) (hdg : decode cc pc = .ok (.invokevirtual 39, 3)) (kk : W p l e R s m args below meth c H locs cells slots Q (F0 m (pc + 3) ls (.int r :: rest))) : W p l e R s m args below meth c H locs cells slots Q (F0 m pc ls (.int x2 :: .int x1 :: .ref (w.2.2 0) :: rest)) := r_endp (run_V (n := 2) (As := [.int x1, .int x2]) S hK hR (by decide) (eM_7 w _) rfl (gw_V (gt_at 1095 (by decide +kernel) (by decide +kernel)) (gt_at 1096 (by decide +kernel) (by decide +kernel)) (gt_at 1097 (by decide +kernel) (by decide +kernel)) (gt_at 86 (by decide +kernel) (by decide +kernel)) (gt_at 1098 (by decide +kernel) (by decide +kernel))) (by decide +kernel) rfl (c7_user l h0) ⟨rfl, rfl⟩ hRm hf hl rfl hW hdg) kk
set_option maxHeartbeats 4000000 in
set_option maxRecDepth 100000 in
theorem kL_43 {p : Program} {l : Launch} {e : Env} {R : Room} {s : State} {m : MethodId} {args : Array Value} {below : List Frame} {meth : Method} {c : Code} {H : Heap} {locs : List Loc} {cells slots : Nat} {Q : State → Prop} {cc : ByteArray} {pc nL : Nat} {ls : Array Slot} {rest : List Value} {w : WV} {σ : Mem} {x1 : Int32} {x2 : Int32} {σ1 : Mem} {A0 : Nat → Prop} {r : Int32} (S : CallFix p m c cc nL s args gtbl R_law) (hK : KS LM w s) (hR : Rp EM LM w σ H) (hS : va_S A0 s.heap H locs) (hsub : ∀ q, AW LM w q → A0 q) (h0 : f7_gates σ x1 x2 = some (σ1, r)) (hf : cells + 0 ≤ R.cells ∧ slots + 0 ≤ R.slots) (hRm : rm7_gates.frames + 1 ≤ R.frames ∧ 8 + (3 + 11) + rm7_gates.locals ≤ R.locals) (hl : ls.size = nL) (hW : (rest.map fun v => v.category).sum ≤ 8) (hdg : decode cc pc = .ok (.invokevirtual 43, 3)) (kk : ∀ (H1 : Heap) (locs1 : List Loc), Rp EM LM w σ1 H1 → (∀ q : Nat, q < H.size → ¬ AW LM w q → H1[q]? = H[q]?) → va_S A0 s.heap H1 locs1 → W p l e R s m args below meth c H1 locs1 cells slots Q (F0 m (pc + 3) ls (.int r :: rest))) : W p l e R s m args below meth c H locs cells slots Q (F0 m pc ls (.int x2 :: .int x1 :: .ref (w.2.2 0) :: rest)) := r_end2 hS hsub (run_V (n := 2) (As := [.int x1, .int x2]) S hK hR (by decide) (eM_7 w _) rfl (gw_V (gt_at 1103 (by decide +kernel) (by decide +kernel)) (gt_at 1104 (by decide +kernel) (by decide +kernel)) (gt_at 1105 (by decide +kernel) (by decide +kernel)) (gt_at 86 (by decide +kernel) (by decide +kernel)) (gt_at 1106 (by decide +kernel) (by decide +kernel))) (by decide +kernel) rfl (c7_gates l h0) ⟨rfl, rfl⟩ hRm hf hl rfl hW hdg) kk
set_option maxHeartbeats 4000000 in
set_option maxRecDepth 100000 in
theorem kL_47 {p : Program} {l : Launch} {e : Env} {R : Room} {s : State} {m : MethodId} {args : Array Value} {below : List Frame} {meth : Method} {c : Code} {H : Heap} {locs : List Loc} {cells slots : Nat} {Q : State → Prop} {cc : ByteArray} {pc nL : Nat} {ls : Array Slot} {rest : List Value} {w : WV} {σ : Mem} {x1 : Int32} {x2 : Int32} {σ1 : Mem} {A0 : Nat → Prop} {r : Int32} (S : CallFix p m c cc nL s args gtbl R_law) (hK : KS LM w s) (hR : Rp EM LM w σ H) (hS : va_S A0 s.heap H locs) (hsub : ∀ q, AW LM w q → A0 q) (h0 : f7_passed σ x1 x2 = some (σ1, r)) (hf : cells + 0 ≤ R.cells ∧ slots + 0 ≤ R.slots) (hRm : rm7_passed.frames + 1 ≤ R.frames ∧ 8 + (3 + 11) + rm7_passed.locals ≤ R.locals) (hl : ls.size = nL) (hW : (rest.map fun v => v.category).sum ≤ 8) (hdg : decode cc pc = .ok (.invokevirtual 47, 3)) (kk : ∀ (H1 : Heap) (locs1 : List Loc), Rp EM LM w σ1 H1 → (∀ q : Nat, q < H.size → ¬ AW LM w q → H1[q]? = H[q]?) → va_S A0 s.heap H1 locs1 → W p l e R s m args below meth c H1 locs1 cells slots Q (F0 m (pc + 3) ls (.int r :: rest))) : W p l e R s m args below meth c H locs cells slots Q (F0 m pc ls (.int x2 :: .int x1 :: .ref (w.2.2 0) :: rest)) := r_end2 hS hsub (run_V (n := 2) (As := [.int x1, .int x2]) S hK hR (by decide) (eM_7 w _) rfl (gw_V (gt_at 1175 (by decide +kernel) (by decide +kernel)) (gt_at 1176 (by decide +kernel) (by decide +kernel)) (gt_at 1177 (by decide +kernel) (by decide +kernel)) (gt_at 86 (by decide +kernel) (by decide +kernel)) (gt_at 1178 (by decide +kernel) (by decide +kernel))) (by decide +kernel) rfl (c7_passed l h0) ⟨rfl, rfl⟩ hRm hf hl rfl hW hdg) kk
set_option maxHeartbeats 4000000 in
set_option maxRecDepth 100000 in
theorem kL_51 {p : Program} {l : Launch} {e : Env} {R : Room} {s : State} {m : MethodId} {args : Array Value} {below : List Frame} {meth : Method} {c : Code} {H : Heap} {locs : List Loc} {cells slots : Nat} {Q : State → Prop} {cc : ByteArray} {pc nL : Nat} {ls : Array Slot} {rest : List Value} {w : WV} {σ : Mem} {x1 : Int32} {x2 : Int32} {σ1 : Mem} {A0 : Nat → Prop} {r : Int32} (S : CallFix p m c cc nL s args gtbl R_law) (hK : KS LM w s) (hR : Rp EM LM w σ H) (hS : va_S A0 s.heap H locs) (hsub : ∀ q, AW LM w q → A0 q) (h0 : f7_stopped σ x1 x2 = some (σ1, r)) (hf : cells + 0 ≤ R.cells ∧ slots + 0 ≤ R.slots) (hRm : rm7_stopped.frames + 1 ≤ R.frames ∧ 8 + (3 + 11) + rm7_stopped.locals ≤ R.locals) (hl : ls.size = nL) (hW : (rest.map fun v => v.category).sum ≤ 8) (hdg : decode cc pc = .ok (.invokevirtual 51, 3)) (kk : ∀ (H1 : Heap) (locs1 : List Loc), Rp EM LM w σ1 H1 → (∀ q : Nat, q < H.size → ¬ AW LM w q → H1[q]? = H[q]?) → va_S A0 s.heap H1 locs1 → W p l e R s m args below meth c H1 locs1 cells slots Q (F0 m (pc + 3) ls (.int r :: rest))) : W p l e R s m args below meth c H locs cells slots Q (F0 m pc ls (.int x2 :: .int x1 :: .ref (w.2.2 0) :: rest)) := r_end2 hS hsub (run_V (n := 2) (As := [.int x1, .int x2]) S hK hR (by decide) (eM_7 w _) rfl (gw_V (gt_at 1179 (by decide +kernel) (by decide +kernel)) (gt_at 1180 (by decide +kernel) (by decide +kernel)) (gt_at 1181 (by decide +kernel) (by decide +kernel)) (gt_at 86 (by decide +kernel) (by decide +kernel)) (gt_at 1182 (by decide +kernel) (by decide +kernel))) (by decide +kernel) rfl (c7_stopped l h0) ⟨rfl, rfl⟩ hRm hf hl rfl hW hdg) kk
set_option maxHeartbeats 4000000 in
set_option maxRecDepth 100000 in
theorem kL_55 {p : Program} {l : Launch} {e : Env} {R : Room} {s : State} {m : MethodId} {args : Array Value} {below : List Frame} {meth : Method} {c : Code} {H : Heap} {locs : List Loc} {cells slots : Nat} {Q : State → Prop} {cc : ByteArray} {pc nL : Nat} {ls : Array Slot} {rest : List Value} {w : WV} {σ : Mem} {x1 : Int32} {x2 : Int32} {σ1 : Mem} {A0 : Nat → Prop} {r : Int32} (S : CallFix p m c cc nL s args gtbl R_law) (hK : KS LM w s) (hR : Rp EM LM w σ H) (hS : va_S A0 s.heap H locs) (hsub : ∀ q, AW LM w q → A0 q) (h0 : f7_crossed σ x1 x2 = some (σ1, r)) (hf : cells + 0 ≤ R.cells ∧ slots + 0 ≤ R.slots) (hRm : rm7_crossed.frames + 1 ≤ R.frames ∧ 8 + (3 + 11) + rm7_crossed.locals ≤ R.locals) (hl : ls.size = nL) (hW : (rest.map fun v => v.category).sum ≤ 8) (hdg : decode cc pc = .ok (.invokevirtual 55, 3)) (kk : ∀ (H1 : Heap) (locs1 : List Loc), Rp EM LM w σ1 H1 → (∀ q : Nat, q < H.size → ¬ AW LM w q → H1[q]? = H[q]?) → va_S A0 s.heap H1 locs1 → W p l e R s m args below meth c H1 locs1 cells slots Q (F0 m (pc + 3) ls (.int r :: rest))) : W p l e R s m args below meth c H locs cells slots Q (F0 m pc ls (.int x2 :: .int x1 :: .ref (w.2.2 0) :: rest)) := r_end2 hS hsub (run_V (n := 2) (As := [.int x1, .int x2]) S hK hR (by decide) (eM_7 w _) rfl (gw_V (gt_at 1183 (by decide +kernel) (by decide +kernel)) (gt_at 1184 (by decide +kernel) (by decide +kernel)) (gt_at 1185 (by decide +kernel) (by decide +kernel)) (gt_at 86 (by decide +kernel) (by decide +kernel)) (gt_at 1186 (by decide +kernel) (by decide +kernel))) (by decide +kernel) rfl (c7_crossed l h0) ⟨rfl, rfl⟩ hRm hf hl rfl hW hdg) kk
set_option maxHeartbeats 4000000 in
set_option maxRecDepth 100000 in
theorem kL_59 {p : Program} {l : Launch} {e : Env} {R : Room} {s : State} {m : MethodId} {args : Array Value} {below : List Frame} {meth : Method} {c : Code} {H : Heap} {locs : List Loc} {cells slots : Nat} {Q : State → Prop} {cc : ByteArray} {pc nL : Nat} {ls : Array Slot} {rest : List Value} {w : WV} {σ : Mem} {x1 : Int32} {x2 : Int32} {σ1 : Mem} {A0 : Nat → Prop} {r : Int32} (S : CallFix p m c cc nL s args gtbl R_law) (hK : KS LM w s) (hR : Rp EM LM w σ H) (hS : va_S A0 s.heap H locs) (hsub : ∀ q, AW LM w q → A0 q) (h0 : f7_waited σ x1 x2 = some (σ1, r)) (hf : cells + 0 ≤ R.cells ∧ slots + 0 ≤ R.slots) (hRm : rm7_waited.frames + 1 ≤ R.frames ∧ 8 + (3 + 11) + rm7_waited.locals ≤ R.locals) (hl : ls.size = nL) (hW : (rest.map fun v => v.category).sum ≤ 8) (hdg : decode cc pc = .ok (.invokevirtual 59, 3)) (kk : ∀ (H1 : Heap) (locs1 : List Loc), Rp EM LM w σ1 H1 → (∀ q : Nat, q < H.size → ¬ AW LM w q → H1[q]? = H[q]?) → va_S A0 s.heap H1 locs1 → W p l e R s m args below meth c H1 locs1 cells slots Q (F0 m (pc + 3) ls (.int r :: rest))) : W p l e R s m args below meth c H locs cells slots Q (F0 m pc ls (.int x2 :: .int x1 :: .ref (w.2.2 0) :: rest)) := r_end2 hS hsub (run_V (n := 2) (As := [.int x1, .int x2]) S hK hR (by decide) (eM_7 w _) rfl (gw_V (gt_at 1187 (by decide +kernel) (by decide +kernel)) (gt_at 1188 (by decide +kernel) (by decide +kernel)) (gt_at 1189 (by decide +kernel) (by decide +kernel)) (gt_at 86 (by decide +kernel) (by decide +kernel)) (gt_at 1190 (by decide +kernel) (by decide +kernel))) (by decide +kernel) rfl (c7_waited l h0) ⟨rfl, rfl⟩ hRm hf hl rfl hW hdg) kk
set_option maxHeartbeats 4000000 in
set_option maxRecDepth 100000 in
theorem kL_63 {p : Program} {l : Launch} {e : Env} {R : Room} {s : State} {m : MethodId} {args : Array Value} {below : List Frame} {meth : Method} {c : Code} {H : Heap} {locs : List Loc} {cells slots : Nat} {Q : State → Prop} {cc : ByteArray} {pc nL : Nat} {ls : Array Slot} {rest : List Value} {w : WV} {σ : Mem} {x1 : Int32} {σ1 : Mem} {A0 : Nat → Prop} {r : Int32} (S : CallFix p m c cc nL s args gtbl R_law) (hK : KS LM w s) (hR : Rp EM LM w σ H) (hS : va_S A0 s.heap H locs) (hsub : ∀ q, AW LM w q → A0 q) (h0 : f7_cost σ x1 = some (σ1, r)) (hf : cells + 0 ≤ R.cells ∧ slots + 0 ≤ R.slots) (hRm : rm7_cost.frames + 1 ≤ R.frames ∧ 8 + (2 + 11) + rm7_cost.locals ≤ R.locals) (hl : ls.size = nL) (hW : (rest.map fun v => v.category).sum ≤ 8) (hdg : decode cc pc = .ok (.invokevirtual 63, 3)) (kk : ∀ (H1 : Heap) (locs1 : List Loc), Rp EM LM w σ1 H1 → (∀ q : Nat, q < H.size → ¬ AW LM w q → H1[q]? = H[q]?) → va_S A0 s.heap H1 locs1 → W p l e R s m args below meth c H1 locs1 cells slots Q (F0 m (pc + 3) ls (.int r :: rest))) : W p l e R s m args below meth c H locs cells slots Q (F0 m pc ls (.int x1 :: .ref (w.2.2 0) :: rest)) := r_end2 hS hsub (run_V (n := 1) (As := [.int x1]) S hK hR (by decide) (eM_7 w _) rfl (gw_V (gt_at 1191 (by decide +kernel) (by decide +kernel)) (gt_at 1192 (by decide +kernel) (by decide +kernel)) (gt_at 1193 (by decide +kernel) (by decide +kernel)) (gt_at 86 (by decide +kernel) (by decide +kernel)) (gt_at 1194 (by decide +kernel) (by decide +kernel))) (by decide +kernel) rfl (c7_cost l h0) ⟨rfl, rfl⟩ hRm hf hl rfl hW hdg) kk
set_option maxHeartbeats 4000000 in
set_option maxRecDepth 100000 in
theorem kL_67 {p : Program} {l : Launch} {e : Env} {R : Room} {s : State} {m : MethodId} {args : Array Value} {below : List Frame} {meth : Method} {c : Code} {H : Heap} {locs : List Loc} {cells slots : Nat} {Q : State → Prop} {cc : ByteArray} {pc nL : Nat} {ls : Array Slot} {rest : List Value} {w : WV} {σ : Mem} {x1 : Int32} {x2 : Int32} {σ1 : Mem} {A0 : Nat → Prop} {r : Int32} (S : CallFix p m c cc nL s args gtbl R_law) (hK : KS LM w s) (hR : Rp EM LM w σ H) (hS : va_S A0 s.heap H locs) (hsub : ∀ q, AW LM w q → A0 q) (h0 : f7_late σ x1 x2 = some (σ1, r)) (hf : cells + 0 ≤ R.cells ∧ slots + 0 ≤ R.slots) (hRm : rm7_late.frames + 1 ≤ R.frames ∧ 8 + (4 + 11) + rm7_late.locals ≤ R.locals) (hl : ls.size = nL) (hW : (rest.map fun v => v.category).sum ≤ 8) (hdg : decode cc pc = .ok (.invokevirtual 67, 3)) (kk : ∀ (H1 : Heap) (locs1 : List Loc), Rp EM LM w σ1 H1 → (∀ q : Nat, q < H.size → ¬ AW LM w q → H1[q]? = H[q]?) → va_S A0 s.heap H1 locs1 → W p l e R s m args below meth c H1 locs1 cells slots Q (F0 m (pc + 3) ls (.int r :: rest))) : W p l e R s m args below meth c H locs cells slots Q (F0 m pc ls (.int x2 :: .int x1 :: .ref (w.2.2 0) :: rest)) := r_end2 hS hsub (run_V (n := 2) (As := [.int x1, .int x2]) S hK hR (by decide) (eM_7 w _) rfl (gw_V (gt_at 1203 (by decide +kernel) (by decide +kernel)) (gt_at 1204 (by decide +kernel) (by decide +kernel)) (gt_at 1205 (by decide +kernel) (by decide +kernel)) (gt_at 86 (by decide +kernel) (by decide +kernel)) (gt_at 1206 (by decide +kernel) (by decide +kernel))) (by decide +kernel) rfl (c7_late l h0) ⟨rfl, rfl⟩ hRm hf hl rfl hW hdg) kk
set_option maxHeartbeats 4000000 in
set_option maxRecDepth 100000 in
theorem kL_71 {p : Program} {l : Launch} {e : Env} {R : Room} {s : State} {m : MethodId} {args : Array Value} {below : List Frame} {meth : Method} {c : Code} {H : Heap} {locs : List Loc} {cells slots : Nat} {Q : State → Prop} {cc : ByteArray} {pc nL : Nat} {ls : Array Slot} {rest : List Value} {w : WV} {σ : Mem} {x1 : Int32} {x2 : Int32} {σ1 : Mem} {A0 : Nat → Prop} {r : Int32} (S : CallFix p m c cc nL s args gtbl R_law) (hK : KS LM w s) (hR : Rp EM LM w σ H) (hS : va_S A0 s.heap H locs) (hsub : ∀ q, AW LM w q → A0 q) (h0 : f7_shut σ x1 x2 = some (σ1, r)) (hf : cells + 0 ≤ R.cells ∧ slots + 0 ≤ R.slots) (hRm : rm7_shut.frames + 1 ≤ R.frames ∧ 8 + (3 + 11) + rm7_shut.locals ≤ R.locals) (hl : ls.size = nL) (hW : (rest.map fun v => v.category).sum ≤ 8) (hdg : decode cc pc = .ok (.invokevirtual 71, 3)) (kk : ∀ (H1 : Heap) (locs1 : List Loc), Rp EM LM w σ1 H1 → (∀ q : Nat, q < H.size → ¬ AW LM w q → H1[q]? = H[q]?) → va_S A0 s.heap H1 locs1 → W p l e R s m args below meth c H1 locs1 cells slots Q (F0 m (pc + 3) ls (.int r :: rest))) : W p l e R s m args below meth c H locs cells slots Q (F0 m pc ls (.int x2 :: .int x1 :: .ref (w.2.2 0) :: rest)) := r_end2 hS hsub (run_V (n := 2) (As := [.int x1, .int x2]) S hK hR (by decide) (eM_7 w _) rfl (gw_V (gt_at 1212 (by decide +kernel) (by decide +kernel)) (gt_at 1213 (by decide +kernel) (by decide +kernel)) (gt_at 1214 (by decide +kernel) (by decide +kernel)) (gt_at 86 (by decide +kernel) (by decide +kernel)) (gt_at 1215 (by decide +kernel) (by decide +kernel))) (by decide +kernel) rfl (c7_shut l h0) ⟨rfl, rfl⟩ hRm hf hl rfl hW hdg) kk
set_option maxHeartbeats 4000000 in
set_option maxRecDepth 100000 in
theorem kL_75 {p : Program} {l : Launch} {e : Env} {R : Room} {s : State} {m : MethodId} {args : Array Value} {below : List Frame} {meth : Method} {c : Code} {H : Heap} {locs : List Loc} {cells slots : Nat} {Q : State → Prop} {cc : ByteArray} {pc nL : Nat} {ls : Array Slot} {rest : List Value} {w : WV} {σ : Mem} {x1 : Int32} {σ1 : Mem} {A0 : Nat → Prop} {r : Int32} (S : CallFix p m c cc nL s args gtbl R_law) (hK : KS LM w s) (hR : Rp EM LM w σ H) (hS : va_S A0 s.heap H locs) (hsub : ∀ q, AW LM w q → A0 q) (h0 : f7_leave σ x1 = some (σ1, r)) (hf : cells + 0 ≤ R.cells ∧ slots + 0 ≤ R.slots) (hRm : rm7_leave.frames + 1 ≤ R.frames ∧ 8 + (3 + 11) + rm7_leave.locals ≤ R.locals) (hl : ls.size = nL) (hW : (rest.map fun v => v.category).sum ≤ 8) (hdg : decode cc pc = .ok (.invokevirtual 75, 3)) (kk : ∀ (H1 : Heap) (locs1 : List Loc), Rp EM LM w σ1 H1 → (∀ q : Nat, q < H.size → ¬ AW LM w q → H1[q]? = H[q]?) → va_S A0 s.heap H1 locs1 → W p l e R s m args below meth c H1 locs1 cells slots Q (F0 m (pc + 3) ls (.int r :: rest))) : W p l e R s m args below meth c H locs cells slots Q (F0 m pc ls (.int x1 :: .ref (w.2.2 0) :: rest)) := r_end2 hS hsub (run_V (n := 1) (As := [.int x1]) S hK hR (by decide) (eM_7 w _) rfl (gw_V (gt_at 1218 (by decide +kernel) (by decide +kernel)) (gt_at 1219 (by decide +kernel) (by decide +kernel)) (gt_at 1220 (by decide +kernel) (by decide +kernel)) (gt_at 86 (by decide +kernel) (by decide +kernel)) (gt_at 1221 (by decide +kernel) (by decide +kernel))) (by decide +kernel) rfl (c7_leave l h0) ⟨rfl, rfl⟩ hRm hf hl rfl hW hdg) kk
set_option maxHeartbeats 4000000 in
set_option maxRecDepth 100000 in
theorem kL_79 {p : Program} {l : Launch} {e : Env} {R : Room} {s : State} {m : MethodId} {args : Array Value} {below : List Frame} {meth : Method} {c : Code} {H : Heap} {locs : List Loc} {cells slots : Nat} {Q : State → Prop} {cc : ByteArray} {pc nL : Nat} {ls : Array Slot} {rest : List Value} {w : WV} {σ : Mem} {σ1 : Mem} {A0 : Nat → Prop} {r : Int32} (S : CallFix p m c cc nL s args gtbl R_law) (hK : KS LM w s) (hR : Rp EM LM w σ H) (hS : va_S A0 s.heap H locs) (hsub : ∀ q, AW LM w q → A0 q) (h0 : f7_undo σ = some (σ1, r)) (hf : cells + 0 ≤ R.cells ∧ slots + 0 ≤ R.slots) (hRm : rm7_undo.frames + 1 ≤ R.frames ∧ 8 + (2 + 11) + rm7_undo.locals ≤ R.locals) (hl : ls.size = nL) (hW : (rest.map fun v => v.category).sum ≤ 8) (hdg : decode cc pc = .ok (.invokevirtual 79, 3)) (kk : ∀ (H1 : Heap) (locs1 : List Loc), Rp EM LM w σ1 H1 → (∀ q : Nat, q < H.size → ¬ AW LM w q → H1[q]? = H[q]?) → va_S A0 s.heap H1 locs1 → W p l e R s m args below meth c H1 locs1 cells slots Q (F0 m (pc + 3) ls (.int r :: rest))) : W p l e R s m args below meth c H locs cells slots Q (F0 m pc ls (.ref (w.2.2 0) :: rest)) := r_end2 hS hsub (run_V (n := 0) (As := []) S hK hR (by decide) (eM_7 w _) rfl (gw_V (gt_at 1222 (by decide +kernel) (by decide +kernel)) (gt_at 1223 (by decide +kernel) (by decide +kernel)) (gt_at 1224 (by decide +kernel) (by decide +kernel)) (gt_at 86 (by decide +kernel) (by decide +kernel)) (gt_at 1225 (by decide +kernel) (by decide +kernel))) (by decide +kernel) rfl (c7_undo l h0) ⟨rfl, rfl⟩ hRm hf hl rfl hW hdg) kk
set_option maxHeartbeats 4000000 in
set_option maxRecDepth 100000 in
theorem kL_83 {p : Program} {l : Launch} {e : Env} {R : Room} {s : State} {m : MethodId} {args : Array Value} {below : List Frame} {meth : Method} {c : Code} {H : Heap} {locs : List Loc} {cells slots : Nat} {Q : State → Prop} {cc : ByteArray} {pc nL : Nat} {ls : Array Slot} {rest : List Value} {w : WV} {σ : Mem} {x1 : Int32} {σ1 : Mem} {A0 : Nat → Prop} {r : Int32} (S : CallFix p m c cc nL s args gtbl R_law) (hK : KS LM w s) (hR : Rp EM LM w σ H) (hS : va_S A0 s.heap H locs) (hsub : ∀ q, AW LM w q → A0 q) (h0 : f7_cheapest σ x1 = some (σ1, r)) (hf : cells + 0 ≤ R.cells ∧ slots + 0 ≤ R.slots) (hRm : rm7_cheapest.frames + 1 ≤ R.frames ∧ 8 + (6 + 11) + rm7_cheapest.locals ≤ R.locals) (hl : ls.size = nL) (hW : (rest.map fun v => v.category).sum ≤ 8) (hdg : decode cc pc = .ok (.invokevirtual 83, 3)) (kk : ∀ (H1 : Heap) (locs1 : List Loc), Rp EM LM w σ1 H1 → (∀ q : Nat, q < H.size → ¬ AW LM w q → H1[q]? = H[q]?) → va_S A0 s.heap H1 locs1 → W p l e R s m args below meth c H1 locs1 cells slots Q (F0 m (pc + 3) ls (.int r :: rest))) : W p l e R s m args below meth c H locs cells slots Q (F0 m pc ls (.int x1 :: .ref (w.2.2 0) :: rest)) := r_end2 hS hsub (run_V (n := 1) (As := [.int x1]) S hK hR (by decide) (eM_7 w _) rfl (gw_V (gt_at 1226 (by decide +kernel) (by decide +kernel)) (gt_at 1227 (by decide +kernel) (by decide +kernel)) (gt_at 1228 (by decide +kernel) (by decide +kernel)) (gt_at 86 (by decide +kernel) (by decide +kernel)) (gt_at 1229 (by decide +kernel) (by decide +kernel))) (by decide +kernel) rfl (c7_cheapest l h0) ⟨rfl, rfl⟩ hRm hf hl rfl hW hdg) kk
set_option maxHeartbeats 4000000 in
set_option maxRecDepth 100000 in
theorem kL_87 {p : Program} {l : Launch} {e : Env} {R : Room} {s : State} {m : MethodId} {args : Array Value} {below : List Frame} {meth : Method} {c : Code} {H : Heap} {locs : List Loc} {cells slots : Nat} {Q : State → Prop} {cc : ByteArray} {pc nL : Nat} {ls : Array Slot} {rest : List Value} {w : WV} {σ : Mem} {x1 : Int32} {σ1 : Mem} {A0 : Nat → Prop} {r : Int32} (S : CallFix p m c cc nL s args gtbl R_law) (hK : KS LM w s) (hR : Rp EM LM w σ H) (hS : va_S A0 s.heap H locs) (hsub : ∀ q, AW LM w q → A0 q) (h0 : f7_lead σ x1 = some (σ1, r)) (hf : cells + 0 ≤ R.cells ∧ slots + 0 ≤ R.slots) (hRm : rm7_lead.frames + 1 ≤ R.frames ∧ 8 + (6 + 11) + rm7_lead.locals ≤ R.locals) (hl : ls.size = nL) (hW : (rest.map fun v => v.category).sum ≤ 8) (hdg : decode cc pc = .ok (.invokevirtual 87, 3)) (kk : ∀ (H1 : Heap) (locs1 : List Loc), Rp EM LM w σ1 H1 → (∀ q : Nat, q < H.size → ¬ AW LM w q → H1[q]? = H[q]?) → va_S A0 s.heap H1 locs1 → W p l e R s m args below meth c H1 locs1 cells slots Q (F0 m (pc + 3) ls (.int r :: rest))) : W p l e R s m args below meth c H locs cells slots Q (F0 m pc ls (.int x1 :: .ref (w.2.2 0) :: rest)) := r_end2 hS hsub (run_V (n := 1) (As := [.int x1]) S hK hR (by decide) (eM_7 w _) rfl (gw_V (gt_at 1230 (by decide +kernel) (by decide +kernel)) (gt_at 1231 (by decide +kernel) (by decide +kernel)) (gt_at 1232 (by decide +kernel) (by decide +kernel)) (gt_at 86 (by decide +kernel) (by decide +kernel)) (gt_at 1233 (by decide +kernel) (by decide +kernel))) (by decide +kernel) rfl (c7_lead l h0) ⟨rfl, rfl⟩ hRm hf hl rfl hW hdg) kk
set_option maxHeartbeats 4000000 in
set_option maxRecDepth 100000 in
theorem kL_92 {p : Program} {l : Launch} {e : Env} {R : Room} {s : State} {m : MethodId} {args : Array Value} {below : List Frame} {meth : Method} {c : Code} {H : Heap} {locs : List Loc} {cells slots : Nat} {Q : State → Prop} {cc : ByteArray} {pc nL : Nat} {ls : Array Slot} {rest : List Value} {w : WV} {σ : Mem} {x1 : Int32} {x2 : Int32} {x3 : Int32} {σ1 : Mem} {A0 : Nat → Prop} {r : Int32} (S : CallFix p m c cc nL s args gtbl R_law) (hK : KS LM w s) (hR : Rp EM LM w σ H) (hS : va_S A0 s.heap H locs) (hsub : ∀ q, AW LM w q → A0 q) (h0 : f7_more σ x1 x2 x3 = some (σ1, r)) (hf : cells + 0 ≤ R.cells ∧ slots + 0 ≤ R.slots) (hRm : rm7_more.frames + 1 ≤ R.frames ∧ 8 + (6 + 11) + rm7_more.locals ≤ R.locals) (hl : ls.size = nL) (hW : (rest.map fun v => v.category).sum ≤ 8) (hdg : decode cc pc = .ok (.invokevirtual 92, 3)) (kk : ∀ (H1 : Heap) (locs1 : List Loc), Rp EM LM w σ1 H1 → (∀ q : Nat, q < H.size → ¬ AW LM w q → H1[q]? = H[q]?) → va_S A0 s.heap H1 locs1 → W p l e R s m args below meth c H1 locs1 cells slots Q (F0 m (pc + 3) ls (.int r :: rest))) : W p l e R s m args below meth c H locs cells slots Q (F0 m pc ls (.int x3 :: .int x2 :: .int x1 :: .ref (w.2.2 0) :: rest)) := r_end2 hS hsub (run_V (n := 3) (As := [.int x1, .int x2, .int x3]) S hK hR (by decide) (eM_7 w _) rfl (gw_V (gt_at 1234 (by decide +kernel) (by decide +kernel)) (gt_at 1235 (by decide +kernel) (by decide +kernel)) (gt_at 1236 (by decide +kernel) (by decide +kernel)) (gt_at 86 (by decide +kernel) (by decide +kernel)) (gt_at 1237 (by decide +kernel) (by decide +kernel))) (by decide +kernel) rfl (c7_more l h0) ⟨rfl, rfl⟩ hRm hf hl rfl hW hdg) kk
set_option maxHeartbeats 4000000 in
set_option maxRecDepth 100000 in
theorem kL_96 {p : Program} {l : Launch} {e : Env} {R : Room} {s : State} {m : MethodId} {args : Array Value} {below : List Frame} {meth : Method} {c : Code} {H : Heap} {locs : List Loc} {cells slots : Nat} {Q : State → Prop} {cc : ByteArray} {pc nL : Nat} {ls : Array Slot} {rest : List Value} {w : WV} {σ : Mem} {x1 : Int32} {x2 : Int32} {σ1 : Mem} {A0 : Nat → Prop} {r : Int32} (S : CallFix p m c cc nL s args gtbl R_law) (hK : KS LM w s) (hR : Rp EM LM w σ H) (hS : va_S A0 s.heap H locs) (hsub : ∀ q, AW LM w q → A0 q) (h0 : f7_dinner σ x1 x2 = some (σ1, r)) (hf : cells + 0 ≤ R.cells ∧ slots + 0 ≤ R.slots) (hRm : rm7_dinner.frames + 1 ≤ R.frames ∧ 8 + (7 + 11) + rm7_dinner.locals ≤ R.locals) (hl : ls.size = nL) (hW : (rest.map fun v => v.category).sum ≤ 8) (hdg : decode cc pc = .ok (.invokevirtual 96, 3)) (kk : ∀ (H1 : Heap) (locs1 : List Loc), Rp EM LM w σ1 H1 → (∀ q : Nat, q < H.size → ¬ AW LM w q → H1[q]? = H[q]?) → va_S A0 s.heap H1 locs1 → W p l e R s m args below meth c H1 locs1 cells slots Q (F0 m (pc + 3) ls (.int r :: rest))) : W p l e R s m args below meth c H locs cells slots Q (F0 m pc ls (.int x2 :: .int x1 :: .ref (w.2.2 0) :: rest)) := r_end2 hS hsub (run_V (n := 2) (As := [.int x1, .int x2]) S hK hR (by decide) (eM_7 w _) rfl (gw_V (gt_at 1240 (by decide +kernel) (by decide +kernel)) (gt_at 1241 (by decide +kernel) (by decide +kernel)) (gt_at 1242 (by decide +kernel) (by decide +kernel)) (gt_at 86 (by decide +kernel) (by decide +kernel)) (gt_at 1243 (by decide +kernel) (by decide +kernel))) (by decide +kernel) rfl (c7_dinner l h0) ⟨rfl, rfl⟩ hRm hf hl rfl hW hdg) kk
set_option maxHeartbeats 4000000 in
set_option maxRecDepth 100000 in
theorem kL_100 {p : Program} {l : Launch} {e : Env} {R : Room} {s : State} {m : MethodId} {args : Array Value} {below : List Frame} {meth : Method} {c : Code} {H : Heap} {locs : List Loc} {cells slots : Nat} {Q : State → Prop} {cc : ByteArray} {pc nL : Nat} {ls : Array Slot} {rest : List Value} {w : WV} {σ : Mem} {x1 : Int32} {x2 : Int32} {x3 : Int32} {r : Int32} (S : CallFix p m c cc nL s args gtbl R_law) (hK : KS LM w s) (hR : Rp EM LM w σ H) (h0 : f7_byNow σ x1 x2 x3 = some r) (hf : cells + 0 ≤ R.cells ∧ slots + 0 ≤ R.slots) (hRm : rm7_byNow.frames + 1 ≤ R.frames ∧ 8 + (8 + 11) + rm7_byNow.locals ≤ R.locals) (hl : ls.size = nL) (hW : (rest.map fun v => v.category).sum ≤ 8) (hdg : decode cc pc = .ok (.invokevirtual 100, 3)) (kk : W p l e R s m args below meth c H locs cells slots Q (F0 m (pc + 3) ls (.int r :: rest))) : W p l e R s m args below meth c H locs cells slots Q (F0 m pc ls (.int x3 :: .int x2 :: .int x1 :: .ref (w.2.2 0) :: rest)) := r_endp (run_V (n := 3) (As := [.int x1, .int x2, .int x3]) S hK hR (by decide) (eM_7 w _) rfl (gw_V (gt_at 1244 (by decide +kernel) (by decide +kernel)) (gt_at 1245 (by decide +kernel) (by decide +kernel)) (gt_at 1246 (by decide +kernel) (by decide +kernel)) (gt_at 86 (by decide +kernel) (by decide +kernel)) (gt_at 1247 (by decide +kernel) (by decide +kernel))) (by decide +kernel) rfl (c7_byNow l h0) ⟨rfl, rfl⟩ hRm hf hl rfl hW hdg) kk
set_option maxHeartbeats 4000000 in
set_option maxRecDepth 100000 in
theorem kL_104 {p : Program} {l : Launch} {e : Env} {R : Room} {s : State} {m : MethodId} {args : Array Value} {below : List Frame} {meth : Method} {c : Code} {H : Heap} {locs : List Loc} {cells slots : Nat} {Q : State → Prop} {cc : ByteArray} {pc nL : Nat} {ls : Array Slot} {rest : List Value} {w : WV} {σ : Mem} {x1 : Int32} {r : Int32} (S : CallFix p m c cc nL s args gtbl R_law) (hK : KS LM w s) (hR : Rp EM LM w σ H) (h0 : f7_which σ x1 = some r) (hf : cells + 0 ≤ R.cells ∧ slots + 0 ≤ R.slots) (hRm : rm7_which.frames + 1 ≤ R.frames ∧ 8 + (4 + 11) + rm7_which.locals ≤ R.locals) (hl : ls.size = nL) (hW : (rest.map fun v => v.category).sum ≤ 8) (hdg : decode cc pc = .ok (.invokevirtual 104, 3)) (kk : W p l e R s m args below meth c H locs cells slots Q (F0 m (pc + 3) ls (.int r :: rest))) : W p l e R s m args below meth c H locs cells slots Q (F0 m pc ls (.int x1 :: .ref (w.2.2 0) :: rest)) := r_endp (run_V (n := 1) (As := [.int x1]) S hK hR (by decide) (eM_7 w _) rfl (gw_V (gt_at 1251 (by decide +kernel) (by decide +kernel)) (gt_at 1252 (by decide +kernel) (by decide +kernel)) (gt_at 1253 (by decide +kernel) (by decide +kernel)) (gt_at 86 (by decide +kernel) (by decide +kernel)) (gt_at 1254 (by decide +kernel) (by decide +kernel))) (by decide +kernel) rfl (c7_which l h0) ⟨rfl, rfl⟩ hRm hf hl rfl hW hdg) kk
set_option maxHeartbeats 4000000 in
set_option maxRecDepth 100000 in
theorem kL_108 {p : Program} {l : Launch} {e : Env} {R : Room} {s : State} {m : MethodId} {args : Array Value} {below : List Frame} {meth : Method} {c : Code} {H : Heap} {locs : List Loc} {cells slots : Nat} {Q : State → Prop} {cc : ByteArray} {pc nL : Nat} {ls : Array Slot} {rest : List Value} {w : WV} {σ : Mem} {x1 : Int32} {x2 : Int32} {σ1 : Mem} {A0 : Nat → Prop} {r : Int32} (S : CallFix p m c cc nL s args gtbl R_law) (hK : KS LM w s) (hR : Rp EM LM w σ H) (hS : va_S A0 s.heap H locs) (hsub : ∀ q, AW LM w q → A0 q) (h0 : f7_seen σ x1 x2 = some (σ1, r)) (hf : cells + 0 ≤ R.cells ∧ slots + 0 ≤ R.slots) (hRm : rm7_seen.frames + 1 ≤ R.frames ∧ 8 + (3 + 11) + rm7_seen.locals ≤ R.locals) (hl : ls.size = nL) (hW : (rest.map fun v => v.category).sum ≤ 8) (hdg : decode cc pc = .ok (.invokevirtual 108, 3)) (kk : ∀ (H1 : Heap) (locs1 : List Loc), Rp EM LM w σ1 H1 → (∀ q : Nat, q < H.size → ¬ AW LM w q → H1[q]? = H[q]?) → va_S A0 s.heap H1 locs1 → W p l e R s m args below meth c H1 locs1 cells slots Q (F0 m (pc + 3) ls (.int r :: rest))) : W p l e R s m args below meth c H locs cells slots Q (F0 m pc ls (.int x2 :: .int x1 :: .ref (w.2.2 0) :: rest)) := r_end2 hS hsub (run_V (n := 2) (As := [.int x1, .int x2]) S hK hR (by decide) (eM_7 w _) rfl (gw_V (gt_at 1255 (by decide +kernel) (by decide +kernel)) (gt_at 1256 (by decide +kernel) (by decide +kernel)) (gt_at 1257 (by decide +kernel) (by decide +kernel)) (gt_at 86 (by decide +kernel) (by decide +kernel)) (gt_at 1258 (by decide +kernel) (by decide +kernel))) (by decide +kernel) rfl (c7_seen l h0) ⟨rfl, rfl⟩ hRm hf hl rfl hW hdg) kk
set_option maxHeartbeats 4000000 in
set_option maxRecDepth 100000 in
theorem kL_112 {p : Program} {l : Launch} {e : Env} {R : Room} {s : State} {m : MethodId} {args : Array Value} {below : List Frame} {meth : Method} {c : Code} {H : Heap} {locs : List Loc} {cells slots : Nat} {Q : State → Prop} {cc : ByteArray} {pc nL : Nat} {ls : Array Slot} {rest : List Value} {w : WV} {σ : Mem} {σ1 : Mem} {A0 : Nat → Prop} {r : Int32} (S : CallFix p m c cc nL s args gtbl R_law) (hK : KS LM w s) (hR : Rp EM LM w σ H) (hS : va_S A0 s.heap H locs) (hsub : ∀ q, AW LM w q → A0 q) (h0 : f7_forget σ = some (σ1, r)) (hf : cells + 0 ≤ R.cells ∧ slots + 0 ≤ R.slots) (hRm : rm7_forget.frames + 1 ≤ R.frames ∧ 8 + (2 + 11) + rm7_forget.locals ≤ R.locals) (hl : ls.size = nL) (hW : (rest.map fun v => v.category).sum ≤ 8) (hdg : decode cc pc = .ok (.invokevirtual 112, 3)) (kk : ∀ (H1 : Heap) (locs1 : List Loc), Rp EM LM w σ1 H1 → (∀ q : Nat, q < H.size → ¬ AW LM w q → H1[q]? = H[q]?) → va_S A0 s.heap H1 locs1 → W p l e R s m args below meth c H1 locs1 cells slots Q (F0 m (pc + 3) ls (.int r :: rest))) : W p l e R s m args below meth c H locs cells slots Q (F0 m pc ls (.ref (w.2.2 0) :: rest)) := r_end2 hS hsub (run_V (n := 0) (As := []) S hK hR (by decide) (eM_7 w _) rfl (gw_V (gt_at 1259 (by decide +kernel) (by decide +kernel)) (gt_at 1260 (by decide +kernel) (by decide +kernel)) (gt_at 1261 (by decide +kernel) (by decide +kernel)) (gt_at 86 (by decide +kernel) (by decide +kernel)) (gt_at 1262 (by decide +kernel) (by decide +kernel))) (by decide +kernel) rfl (c7_forget l h0) ⟨rfl, rfl⟩ hRm hf hl rfl hW hdg) kk
set_option maxHeartbeats 4000000 in
set_option maxRecDepth 100000 in
theorem kL_116 {p : Program} {l : Launch} {e : Env} {R : Room} {s : State} {m : MethodId} {args : Array Value} {below : List Frame} {meth : Method} {c : Code} {H : Heap} {locs : List Loc} {cells slots : Nat} {Q : State → Prop} {cc : ByteArray} {pc nL : Nat} {ls : Array Slot} {rest : List Value} {w : WV} {σ : Mem} {σ1 : Mem} {A0 : Nat → Prop} {r : Int32} (S : CallFix p m c cc nL s args gtbl R_law) (hK : KS LM w s) (hR : Rp EM LM w σ H) (hS : va_S A0 s.heap H locs) (hsub : ∀ q, AW LM w q → A0 q) (h0 : f7_fits σ = some (σ1, r)) (hf : cells + 0 ≤ R.cells ∧ slots + 0 ≤ R.slots) (hRm : rm7_fits.frames + 1 ≤ R.frames ∧ 8 + (5 + 11) + rm7_fits.locals ≤ R.locals) (hl : ls.size = nL) (hW : (rest.map fun v => v.category).sum ≤ 8) (hdg : decode cc pc = .ok (.invokevirtual 116, 3)) (kk : ∀ (H1 : Heap) (locs1 : List Loc), Rp EM LM w σ1 H1 → (∀ q : Nat, q < H.size → ¬ AW LM w q → H1[q]? = H[q]?) → va_S A0 s.heap H1 locs1 → W p l e R s m args below meth c H1 locs1 cells slots Q (F0 m (pc + 3) ls (.int r :: rest))) : W p l e R s m args below meth c H locs cells slots Q (F0 m pc ls (.ref (w.2.2 0) :: rest)) := r_end2 hS hsub (run_V (n := 0) (As := []) S hK hR (by decide) (eM_7 w _) rfl (gw_V (gt_at 1263 (by decide +kernel) (by decide +kernel)) (gt_at 1264 (by decide +kernel) (by decide +kernel)) (gt_at 1265 (by decide +kernel) (by decide +kernel)) (gt_at 86 (by decide +kernel) (by decide +kernel)) (gt_at 1266 (by decide +kernel) (by decide +kernel))) (by decide +kernel) rfl (c7_fits l h0) ⟨rfl, rfl⟩ hRm hf hl rfl hW hdg) kk
set_option maxHeartbeats 4000000 in
set_option maxRecDepth 100000 in
theorem kL_120 {p : Program} {l : Launch} {e : Env} {R : Room} {s : State} {m : MethodId} {args : Array Value} {below : List Frame} {meth : Method} {c : Code} {H : Heap} {locs : List Loc} {cells slots : Nat} {Q : State → Prop} {cc : ByteArray} {pc nL : Nat} {ls : Array Slot} {rest : List Value} {w : WV} {σ : Mem} {x1 : Int32} {x2 : Int32} {σ1 : Mem} {A0 : Nat → Prop} {r : Int32} (S : CallFix p m c cc nL s args gtbl R_law) (hK : KS LM w s) (hR : Rp EM LM w σ H) (hS : va_S A0 s.heap H locs) (hsub : ∀ q, AW LM w q → A0 q) (h0 : f7_bridge σ x1 x2 = some (σ1, r)) (hf : cells + 0 ≤ R.cells ∧ slots + 0 ≤ R.slots) (hRm : rm7_bridge.frames + 1 ≤ R.frames ∧ 8 + (5 + 11) + rm7_bridge.locals ≤ R.locals) (hl : ls.size = nL) (hW : (rest.map fun v => v.category).sum ≤ 8) (hdg : decode cc pc = .ok (.invokevirtual 120, 3)) (kk : ∀ (H1 : Heap) (locs1 : List Loc), Rp EM LM w σ1 H1 → (∀ q : Nat, q < H.size → ¬ AW LM w q → H1[q]? = H[q]?) → va_S A0 s.heap H1 locs1 → W p l e R s m args below meth c H1 locs1 cells slots Q (F0 m (pc + 3) ls (.int r :: rest))) : W p l e R s m args below meth c H locs cells slots Q (F0 m pc ls (.int x2 :: .int x1 :: .ref (w.2.2 0) :: rest)) := r_end2 hS hsub (run_V (n := 2) (As := [.int x1, .int x2]) S hK hR (by decide) (eM_7 w _) rfl (gw_V (gt_at 1267 (by decide +kernel) (by decide +kernel)) (gt_at 1268 (by decide +kernel) (by decide +kernel)) (gt_at 1269 (by decide +kernel) (by decide +kernel)) (gt_at 86 (by decide +kernel) (by decide +kernel)) (gt_at 1270 (by decide +kernel) (by decide +kernel))) (by decide +kernel) rfl (c7_bridge l h0) ⟨rfl, rfl⟩ hRm hf hl rfl hW hdg) kk
set_option maxHeartbeats 4000000 in
set_option maxRecDepth 100000 in
theorem kL_124 {p : Program} {l : Launch} {e : Env} {R : Room} {s : State} {m : MethodId} {args : Array Value} {below : List Frame} {meth : Method} {c : Code} {H : Heap} {locs : List Loc} {cells slots : Nat} {Q : State → Prop} {cc : ByteArray} {pc nL : Nat} {ls : Array Slot} {rest : List Value} {w : WV} {σ : Mem} {x1 : Int32} {x2 : Int32} {x3 : Int32} {σ1 : Mem} {A0 : Nat → Prop} {r : Int32} (S : CallFix p m c cc nL s args gtbl R_law) (hK : KS LM w s) (hR : Rp EM LM w σ H) (hS : va_S A0 s.heap H locs) (hsub : ∀ q, AW LM w q → A0 q) (h0 : f7_mean σ x1 x2 x3 = some (σ1, r)) (hf : cells + 0 ≤ R.cells ∧ slots + 0 ≤ R.slots) (hRm : rm7_mean.frames + 1 ≤ R.frames ∧ 8 + (7 + 11) + rm7_mean.locals ≤ R.locals) (hl : ls.size = nL) (hW : (rest.map fun v => v.category).sum ≤ 8) (hdg : decode cc pc = .ok (.invokevirtual 124, 3)) (kk : ∀ (H1 : Heap) (locs1 : List Loc), Rp EM LM w σ1 H1 → (∀ q : Nat, q < H.size → ¬ AW LM w q → H1[q]? = H[q]?) → va_S A0 s.heap H1 locs1 → W p l e R s m args below meth c H1 locs1 cells slots Q (F0 m (pc + 3) ls (.int r :: rest))) : W p l e R s m args below meth c H locs cells slots Q (F0 m pc ls (.int x3 :: .int x2 :: .int x1 :: .ref (w.2.2 0) :: rest)) := r_end2 hS hsub (run_V (n := 3) (As := [.int x1, .int x2, .int x3]) S hK hR (by decide) (eM_7 w _) rfl (gw_V (gt_at 1272 (by decide +kernel) (by decide +kernel)) (gt_at 1273 (by decide +kernel) (by decide +kernel)) (gt_at 1274 (by decide +kernel) (by decide +kernel)) (gt_at 86 (by decide +kernel) (by decide +kernel)) (gt_at 1275 (by decide +kernel) (by decide +kernel))) (by decide +kernel) rfl (c7_mean l h0) ⟨rfl, rfl⟩ hRm hf hl rfl hW hdg) kk
set_option maxHeartbeats 4000000 in
set_option maxRecDepth 100000 in
theorem kL_128 {p : Program} {l : Launch} {e : Env} {R : Room} {s : State} {m : MethodId} {args : Array Value} {below : List Frame} {meth : Method} {c : Code} {H : Heap} {locs : List Loc} {cells slots : Nat} {Q : State → Prop} {cc : ByteArray} {pc nL : Nat} {ls : Array Slot} {rest : List Value} {w : WV} {σ : Mem} {x1 : Int32} {x2 : Int32} {x3 : Int32} {σ1 : Mem} {A0 : Nat → Prop} {r : Int32} (S : CallFix p m c cc nL s args gtbl R_law) (hK : KS LM w s) (hR : Rp EM LM w σ H) (hS : va_S A0 s.heap H locs) (hsub : ∀ q, AW LM w q → A0 q) (h0 : f7_day σ x1 x2 x3 = some (σ1, r)) (hf : cells + 0 ≤ R.cells ∧ slots + 0 ≤ R.slots) (hRm : rm7_day.frames + 1 ≤ R.frames ∧ 8 + (7 + 11) + rm7_day.locals ≤ R.locals) (hl : ls.size = nL) (hW : (rest.map fun v => v.category).sum ≤ 8) (hdg : decode cc pc = .ok (.invokevirtual 128, 3)) (kk : ∀ (H1 : Heap) (locs1 : List Loc), Rp EM LM w σ1 H1 → (∀ q : Nat, q < H.size → ¬ AW LM w q → H1[q]? = H[q]?) → va_S A0 s.heap H1 locs1 → W p l e R s m args below meth c H1 locs1 cells slots Q (F0 m (pc + 3) ls (.int r :: rest))) : W p l e R s m args below meth c H locs cells slots Q (F0 m pc ls (.int x3 :: .int x2 :: .int x1 :: .ref (w.2.2 0) :: rest)) := r_end2 hS hsub (run_V (n := 3) (As := [.int x1, .int x2, .int x3]) S hK hR (by decide) (eM_7 w _) rfl (gw_V (gt_at 1276 (by decide +kernel) (by decide +kernel)) (gt_at 1277 (by decide +kernel) (by decide +kernel)) (gt_at 1278 (by decide +kernel) (by decide +kernel)) (gt_at 86 (by decide +kernel) (by decide +kernel)) (gt_at 1279 (by decide +kernel) (by decide +kernel))) (by decide +kernel) rfl (c7_day l h0) ⟨rfl, rfl⟩ hRm hf hl rfl hW hdg) kk
set_option maxHeartbeats 4000000 in
set_option maxRecDepth 100000 in
theorem kL_132 {p : Program} {l : Launch} {e : Env} {R : Room} {s : State} {m : MethodId} {args : Array Value} {below : List Frame} {meth : Method} {c : Code} {H : Heap} {locs : List Loc} {cells slots : Nat} {Q : State → Prop} {cc : ByteArray} {pc nL : Nat} {ls : Array Slot} {rest : List Value} {w : WV} {σ : Mem} {σ1 : Mem} {A0 : Nat → Prop} {r : Int32} (S : CallFix p m c cc nL s args gtbl R_law) (hK : KS LM w s) (hR : Rp EM LM w σ H) (hS : va_S A0 s.heap H locs) (hsub : ∀ q, AW LM w q → A0 q) (h0 : f7_keep σ = some (σ1, r)) (hf : cells + 0 ≤ R.cells ∧ slots + 0 ≤ R.slots) (hRm : rm7_keep.frames + 1 ≤ R.frames ∧ 8 + (2 + 11) + rm7_keep.locals ≤ R.locals) (hl : ls.size = nL) (hW : (rest.map fun v => v.category).sum ≤ 8) (hdg : decode cc pc = .ok (.invokevirtual 132, 3)) (kk : ∀ (H1 : Heap) (locs1 : List Loc), Rp EM LM w σ1 H1 → (∀ q : Nat, q < H.size → ¬ AW LM w q → H1[q]? = H[q]?) → va_S A0 s.heap H1 locs1 → W p l e R s m args below meth c H1 locs1 cells slots Q (F0 m (pc + 3) ls (.int r :: rest))) : W p l e R s m args below meth c H locs cells slots Q (F0 m pc ls (.ref (w.2.2 0) :: rest)) := r_end2 hS hsub (run_V (n := 0) (As := []) S hK hR (by decide) (eM_7 w _) rfl (gw_V (gt_at 1285 (by decide +kernel) (by decide +kernel)) (gt_at 1286 (by decide +kernel) (by decide +kernel)) (gt_at 1287 (by decide +kernel) (by decide +kernel)) (gt_at 86 (by decide +kernel) (by decide +kernel)) (gt_at 1288 (by decide +kernel) (by decide +kernel))) (by decide +kernel) rfl (c7_keep l h0) ⟨rfl, rfl⟩ hRm hf hl rfl hW hdg) kk
set_option maxHeartbeats 4000000 in
set_option maxRecDepth 100000 in
theorem kL_136 {p : Program} {l : Launch} {e : Env} {R : Room} {s : State} {m : MethodId} {args : Array Value} {below : List Frame} {meth : Method} {c : Code} {H : Heap} {locs : List Loc} {cells slots : Nat} {Q : State → Prop} {cc : ByteArray} {pc nL : Nat} {ls : Array Slot} {rest : List Value} {w : WV} {σ : Mem} {σ1 : Mem} {A0 : Nat → Prop} {r : Int32} (S : CallFix p m c cc nL s args gtbl R_law) (hK : KS LM w s) (hR : Rp EM LM w σ H) (hS : va_S A0 s.heap H locs) (hsub : ∀ q, AW LM w q → A0 q) (h0 : f7_back σ = some (σ1, r)) (hf : cells + 0 ≤ R.cells ∧ slots + 0 ≤ R.slots) (hRm : rm7_back.frames + 1 ≤ R.frames ∧ 8 + (2 + 11) + rm7_back.locals ≤ R.locals) (hl : ls.size = nL) (hW : (rest.map fun v => v.category).sum ≤ 8) (hdg : decode cc pc = .ok (.invokevirtual 136, 3)) (kk : ∀ (H1 : Heap) (locs1 : List Loc), Rp EM LM w σ1 H1 → (∀ q : Nat, q < H.size → ¬ AW LM w q → H1[q]? = H[q]?) → va_S A0 s.heap H1 locs1 → W p l e R s m args below meth c H1 locs1 cells slots Q (F0 m (pc + 3) ls (.int r :: rest))) : W p l e R s m args below meth c H locs cells slots Q (F0 m pc ls (.ref (w.2.2 0) :: rest)) := r_end2 hS hsub (run_V (n := 0) (As := []) S hK hR (by decide) (eM_7 w _) rfl (gw_V (gt_at 1289 (by decide +kernel) (by decide +kernel)) (gt_at 1290 (by decide +kernel) (by decide +kernel)) (gt_at 1291 (by decide +kernel) (by decide +kernel)) (gt_at 86 (by decide +kernel) (by decide +kernel)) (gt_at 1292 (by decide +kernel) (by decide +kernel))) (by decide +kernel) rfl (c7_back l h0) ⟨rfl, rfl⟩ hRm hf hl rfl hW hdg) kk
set_option maxHeartbeats 4000000 in
set_option maxRecDepth 100000 in
theorem kL_140 {p : Program} {l : Launch} {e : Env} {R : Room} {s : State} {m : MethodId} {args : Array Value} {below : List Frame} {meth : Method} {c : Code} {H : Heap} {locs : List Loc} {cells slots : Nat} {Q : State → Prop} {cc : ByteArray} {pc nL : Nat} {ls : Array Slot} {rest : List Value} {w : WV} {σ : Mem} {x1 : Int32} {r : Int32} (S : CallFix p m c cc nL s args gtbl R_law) (hK : KS LM w s) (hR : Rp EM LM w σ H) (h0 : f7_count σ x1 = some r) (hf : cells + 0 ≤ R.cells ∧ slots + 0 ≤ R.slots) (hRm : rm7_count.frames + 1 ≤ R.frames ∧ 8 + (2 + 11) + rm7_count.locals ≤ R.locals) (hl : ls.size = nL) (hW : (rest.map fun v => v.category).sum ≤ 8) (hdg : decode cc pc = .ok (.invokevirtual 140, 3)) (kk : W p l e R s m args below meth c H locs cells slots Q (F0 m (pc + 3) ls (.int r :: rest))) : W p l e R s m args below meth c H locs cells slots Q (F0 m pc ls (.int x1 :: .ref (w.2.2 0) :: rest)) := r_endp (run_V (n := 1) (As := [.int x1]) S hK hR (by decide) (eM_7 w _) rfl (gw_V (gt_at 1293 (by decide +kernel) (by decide +kernel)) (gt_at 1294 (by decide +kernel) (by decide +kernel)) (gt_at 1295 (by decide +kernel) (by decide +kernel)) (gt_at 86 (by decide +kernel) (by decide +kernel)) (gt_at 1296 (by decide +kernel) (by decide +kernel))) (by decide +kernel) rfl (c7_count l h0) ⟨rfl, rfl⟩ hRm hf hl rfl hW hdg) kk
set_option maxHeartbeats 4000000 in
set_option maxRecDepth 100000 in
theorem lc_0 {p : Program} {l : Launch} {e : Env} {s : State} {m : MethodId} {args : Array Value} {below : List Frame} {meth : Method} {c : Code} {H : Heap} {locs : List Loc} {Q : State → Prop} {ls : Array Slot} {wC wM : WV} {b L i : Nat} {xs : Nat → Int32} {σc σm : Mem} {σc1 : Mem} {σm1 : Mem} {r : Int32} (S : CallFix p m c code 4 s args gtbl R_law) (hKC : KS LC wC s) (hKM : KS LM wM s) (hsC : ∀ q, AW LC wC q → s.heap.size ≤ q) (hsM : ∀ q, AW LM wM q → s.heap.size ≤ q) (hdCM : ∀ j, j ∈ LC → ¬ AW LM wM (wC.2.2 j)) (hdMC : ∀ j, j ∈ LM → ¬ AW LC wC (wM.2.2 j)) (hX : va_X b L xs s s.heap) (hbl : b < s.heap.size) (hL : L ≤ 2048) (hi : i + 4 ≤ L) (hRC : Rp EC LC wC σc H) (hRM : Rp EM LM wM σm H) (hS : va_S (fun q => s.heap.size ≤ q) s.heap H locs) (hl : lv_has ls 4 [(0, .ref b), (1, .ref (wC.2.2 0)), (2, .ref (wM.2.2 0)), (3, .int (nI i))]) (h1 : f6_write σc (xs (i + 1)) = some (σc1, r)) (h2 : f7_write σm (xs (i + 1)) = some (σm1, r)) (kk : ∀ (H1 : Heap) (locs1 : List Loc), Rp EC LC wC σc1 H1 → Rp EM LM wM σm1 H1 → va_S (fun q => s.heap.size ≤ q) s.heap H1 locs1 → W p l e room_1 s m args below meth c H1 locs1 600000 7302250 Q (F0 m 1005 ls [])) : W p l e room_1 s m args below meth c H locs 600000 7302250 Q (F0 m 172 ls []) := by
  obtain ⟨hx, hb, hml, hown, hts⟩ := id S
  have hbA : ¬ (fun q => s.heap.size ≤ q) b := Nat.not_le.mpr hbl
  refine lv_aload_n hx hb dL_172 rfl (lv_at hl 1 rfl) ?_
  refine lv_aload_n hx hb dL_173 rfl (lv_at hl 0 rfl) ?_
  refine lv_iload_n hx hb dL_174 rfl (lv_at hl 3 rfl) ?_
  refine lv_iconst (v := 1) hx hb dL_175 (by decide) ?_
  refine lv_iadd hx hb dL_176 ?_
  refine q_sld (k := i + 1) S hX hbl hbA hS (nI_a1 i) (by omega) hL dL_177 ?_
  refine kL_13 S hKC hRC hS hsC h1 ⟨Nat.le_of_ble_eq_true rfl, Nat.le_of_ble_eq_true rfl⟩ ⟨Nat.le_of_ble_eq_true rfl, Nat.le_of_ble_eq_true rfl⟩ hl.1 (Nat.le_of_ble_eq_true rfl) dL_178 (fun H1 locs1 hRC hk hS => ?_)
  have hRM := hRM.kept hk hdMC
  refine lv_aload_n hx hb dL_181 rfl (lv_at hl 2 rfl) ?_
  refine lv_aload_n hx hb dL_182 rfl (lv_at hl 0 rfl) ?_
  refine lv_iload_n hx hb dL_183 rfl (lv_at hl 3 rfl) ?_
  refine lv_iconst (v := 1) hx hb dL_184 (by decide) ?_
  refine lv_iadd hx hb dL_185 ?_
  refine q_sld (k := i + 1) S hX hbl hbA hS (nI_a1 i) (by omega) hL dL_186 ?_
  refine kL_17 S hKM hRM hS hsM h2 ⟨Nat.le_of_ble_eq_true rfl, Nat.le_of_ble_eq_true rfl⟩ ⟨Nat.le_of_ble_eq_true rfl, Nat.le_of_ble_eq_true rfl⟩ hl.1 (Nat.le_of_ble_eq_true rfl) dL_187 (fun H1 locs1 hRM hk hS => ?_)
  have hRC := hRC.kept hk hdCM
  refine lv_icmp_eq (tgt := 1005) hx hb dL_190 (by decide) (fun _ => ?_) (fun hne => absurd rfl hne)
  exact kk _ _ hRC hRM hS
set_option maxHeartbeats 4000000 in
set_option maxRecDepth 100000 in
theorem lc_1 {p : Program} {l : Launch} {e : Env} {s : State} {m : MethodId} {args : Array Value} {below : List Frame} {meth : Method} {c : Code} {H : Heap} {locs : List Loc} {Q : State → Prop} {ls : Array Slot} {wC wM : WV} {b L i : Nat} {xs : Nat → Int32} {σc σm : Mem} {σc1 : Mem} {σm1 : Mem} {r : Int32} (S : CallFix p m c code 4 s args gtbl R_law) (hKC : KS LC wC s) (hKM : KS LM wM s) (hsC : ∀ q, AW LC wC q → s.heap.size ≤ q) (hsM : ∀ q, AW LM wM q → s.heap.size ≤ q) (hdCM : ∀ j, j ∈ LC → ¬ AW LM wM (wC.2.2 j)) (hdMC : ∀ j, j ∈ LM → ¬ AW LC wC (wM.2.2 j)) (hX : va_X b L xs s s.heap) (hbl : b < s.heap.size) (hL : L ≤ 2048) (hi : i + 4 ≤ L) (hRC : Rp EC LC wC σc H) (hRM : Rp EM LM wM σm H) (hS : va_S (fun q => s.heap.size ≤ q) s.heap H locs) (hl : lv_has ls 4 [(0, .ref b), (1, .ref (wC.2.2 0)), (2, .ref (wM.2.2 0)), (3, .int (nI i))]) (h1 : f6_wipe σc  = some (σc1, r)) (h2 : f7_wipe σm  = some (σm1, r)) (kk : ∀ (H1 : Heap) (locs1 : List Loc), Rp EC LC wC σc1 H1 → Rp EM LM wM σm1 H1 → va_S (fun q => s.heap.size ≤ q) s.heap H1 locs1 → W p l e room_1 s m args below meth c H1 locs1 600000 7302250 Q (F0 m 1005 ls [])) : W p l e room_1 s m args below meth c H locs 600000 7302250 Q (F0 m 195 ls []) := by
  obtain ⟨hx, hb, hml, hown, hts⟩ := id S
  have hbA : ¬ (fun q => s.heap.size ≤ q) b := Nat.not_le.mpr hbl
  refine lv_aload_n hx hb dL_195 rfl (lv_at hl 1 rfl) ?_
  refine kL_18 S hKC hRC hS hsC h1 ⟨Nat.le_of_ble_eq_true rfl, Nat.le_of_ble_eq_true rfl⟩ ⟨Nat.le_of_ble_eq_true rfl, Nat.le_of_ble_eq_true rfl⟩ hl.1 (Nat.le_of_ble_eq_true rfl) dL_196 (fun H1 locs1 hRC hk hS => ?_)
  have hRM := hRM.kept hk hdMC
  refine lv_aload_n hx hb dL_199 rfl (lv_at hl 2 rfl) ?_
  refine kL_22 S hKM hRM hS hsM h2 ⟨Nat.le_of_ble_eq_true rfl, Nat.le_of_ble_eq_true rfl⟩ ⟨Nat.le_of_ble_eq_true rfl, Nat.le_of_ble_eq_true rfl⟩ hl.1 (Nat.le_of_ble_eq_true rfl) dL_200 (fun H1 locs1 hRM hk hS => ?_)
  have hRC := hRC.kept hk hdCM
  refine lv_icmp_eq (tgt := 1005) hx hb dL_203 (by decide) (fun _ => ?_) (fun hne => absurd rfl hne)
  exact kk _ _ hRC hRM hS
set_option maxHeartbeats 4000000 in
set_option maxRecDepth 100000 in
theorem lc_2 {p : Program} {l : Launch} {e : Env} {s : State} {m : MethodId} {args : Array Value} {below : List Frame} {meth : Method} {c : Code} {H : Heap} {locs : List Loc} {Q : State → Prop} {ls : Array Slot} {wC wM : WV} {b L i : Nat} {xs : Nat → Int32} {σc σm : Mem} {σc1 : Mem} {σm1 : Mem} {r : Int32} (S : CallFix p m c code 4 s args gtbl R_law) (hKC : KS LC wC s) (hKM : KS LM wM s) (hsC : ∀ q, AW LC wC q → s.heap.size ≤ q) (hsM : ∀ q, AW LM wM q → s.heap.size ≤ q) (hdCM : ∀ j, j ∈ LC → ¬ AW LM wM (wC.2.2 j)) (hdMC : ∀ j, j ∈ LM → ¬ AW LC wC (wM.2.2 j)) (hX : va_X b L xs s s.heap) (hbl : b < s.heap.size) (hL : L ≤ 2048) (hi : i + 4 ≤ L) (hRC : Rp EC LC wC σc H) (hRM : Rp EM LM wM σm H) (hS : va_S (fun q => s.heap.size ≤ q) s.heap H locs) (hl : lv_has ls 4 [(0, .ref b), (1, .ref (wC.2.2 0)), (2, .ref (wM.2.2 0)), (3, .int (nI i))]) (h1 : f6_fault σc  = some (σc1, r)) (h2 : f7_fault σm  = some (σm1, r)) (kk : ∀ (H1 : Heap) (locs1 : List Loc), Rp EC LC wC σc1 H1 → Rp EM LM wM σm1 H1 → va_S (fun q => s.heap.size ≤ q) s.heap H1 locs1 → W p l e room_1 s m args below meth c H1 locs1 600000 7302250 Q (F0 m 1005 ls [])) : W p l e room_1 s m args below meth c H locs 600000 7302250 Q (F0 m 208 ls []) := by
  obtain ⟨hx, hb, hml, hown, hts⟩ := id S
  have hbA : ¬ (fun q => s.heap.size ≤ q) b := Nat.not_le.mpr hbl
  refine lv_aload_n hx hb dL_208 rfl (lv_at hl 1 rfl) ?_
  refine kL_23 S hKC hRC hS hsC h1 ⟨Nat.le_of_ble_eq_true rfl, Nat.le_of_ble_eq_true rfl⟩ ⟨Nat.le_of_ble_eq_true rfl, Nat.le_of_ble_eq_true rfl⟩ hl.1 (Nat.le_of_ble_eq_true rfl) dL_209 (fun H1 locs1 hRC hk hS => ?_)
  have hRM := hRM.kept hk hdMC
  refine lv_aload_n hx hb dL_212 rfl (lv_at hl 2 rfl) ?_
  refine kL_26 S hKM hRM hS hsM h2 ⟨Nat.le_of_ble_eq_true rfl, Nat.le_of_ble_eq_true rfl⟩ ⟨Nat.le_of_ble_eq_true rfl, Nat.le_of_ble_eq_true rfl⟩ hl.1 (Nat.le_of_ble_eq_true rfl) dL_213 (fun H1 locs1 hRM hk hS => ?_)
  have hRC := hRC.kept hk hdCM
  refine lv_icmp_eq (tgt := 1005) hx hb dL_216 (by decide) (fun _ => ?_) (fun hne => absurd rfl hne)
  exact kk _ _ hRC hRM hS
set_option maxHeartbeats 4000000 in
set_option maxRecDepth 100000 in
theorem lc_3 {p : Program} {l : Launch} {e : Env} {s : State} {m : MethodId} {args : Array Value} {below : List Frame} {meth : Method} {c : Code} {H : Heap} {locs : List Loc} {Q : State → Prop} {ls : Array Slot} {wC wM : WV} {b L i : Nat} {xs : Nat → Int32} {σc σm : Mem} {σc1 : Mem} {σm1 : Mem} {r : Int32} (S : CallFix p m c code 4 s args gtbl R_law) (hKC : KS LC wC s) (hKM : KS LM wM s) (hsC : ∀ q, AW LC wC q → s.heap.size ≤ q) (hsM : ∀ q, AW LM wM q → s.heap.size ≤ q) (hdCM : ∀ j, j ∈ LC → ¬ AW LM wM (wC.2.2 j)) (hdMC : ∀ j, j ∈ LM → ¬ AW LC wC (wM.2.2 j)) (hX : va_X b L xs s s.heap) (hbl : b < s.heap.size) (hL : L ≤ 2048) (hi : i + 4 ≤ L) (hRC : Rp EC LC wC σc H) (hRM : Rp EM LM wM σm H) (hS : va_S (fun q => s.heap.size ≤ q) s.heap H locs) (hl : lv_has ls 4 [(0, .ref b), (1, .ref (wC.2.2 0)), (2, .ref (wM.2.2 0)), (3, .int (nI i))]) (h1 : f6_lay σc  = some (σc1, r)) (h2 : f7_lay σm  = some (σm1, r)) (kk : ∀ (H1 : Heap) (locs1 : List Loc), Rp EC LC wC σc1 H1 → Rp EM LM wM σm1 H1 → va_S (fun q => s.heap.size ≤ q) s.heap H1 locs1 → W p l e room_1 s m args below meth c H1 locs1 600000 7302250 Q (F0 m 1005 ls [])) : W p l e room_1 s m args below meth c H locs 600000 7302250 Q (F0 m 221 ls []) := by
  obtain ⟨hx, hb, hml, hown, hts⟩ := id S
  have hbA : ¬ (fun q => s.heap.size ≤ q) b := Nat.not_le.mpr hbl
  refine lv_aload_n hx hb dL_221 rfl (lv_at hl 1 rfl) ?_
  refine kL_27 S hKC hRC hS hsC h1 ⟨Nat.le_of_ble_eq_true rfl, Nat.le_of_ble_eq_true rfl⟩ ⟨Nat.le_of_ble_eq_true rfl, Nat.le_of_ble_eq_true rfl⟩ hl.1 (Nat.le_of_ble_eq_true rfl) dL_222 (fun H1 locs1 hRC hk hS => ?_)
  have hRM := hRM.kept hk hdMC
  refine lv_aload_n hx hb dL_225 rfl (lv_at hl 2 rfl) ?_
  refine kL_30 S hKM hRM hS hsM h2 ⟨Nat.le_of_ble_eq_true rfl, Nat.le_of_ble_eq_true rfl⟩ ⟨Nat.le_of_ble_eq_true rfl, Nat.le_of_ble_eq_true rfl⟩ hl.1 (Nat.le_of_ble_eq_true rfl) dL_226 (fun H1 locs1 hRM hk hS => ?_)
  have hRC := hRC.kept hk hdCM
  refine lv_icmp_eq (tgt := 1005) hx hb dL_229 (by decide) (fun _ => ?_) (fun hne => absurd rfl hne)
  exact kk _ _ hRC hRM hS
set_option maxHeartbeats 4000000 in
set_option maxRecDepth 100000 in
theorem lc_4 {p : Program} {l : Launch} {e : Env} {s : State} {m : MethodId} {args : Array Value} {below : List Frame} {meth : Method} {c : Code} {H : Heap} {locs : List Loc} {Q : State → Prop} {ls : Array Slot} {wC wM : WV} {b L i : Nat} {xs : Nat → Int32} {σc σm : Mem} {r : Int32} (S : CallFix p m c code 4 s args gtbl R_law) (hKC : KS LC wC s) (hKM : KS LM wM s) (hsC : ∀ q, AW LC wC q → s.heap.size ≤ q) (hsM : ∀ q, AW LM wM q → s.heap.size ≤ q) (hdCM : ∀ j, j ∈ LC → ¬ AW LM wM (wC.2.2 j)) (hdMC : ∀ j, j ∈ LM → ¬ AW LC wC (wM.2.2 j)) (hX : va_X b L xs s s.heap) (hbl : b < s.heap.size) (hL : L ≤ 2048) (hi : i + 4 ≤ L) (hRC : Rp EC LC wC σc H) (hRM : Rp EM LM wM σm H) (hS : va_S (fun q => s.heap.size ≤ q) s.heap H locs) (hl : lv_has ls 4 [(0, .ref b), (1, .ref (wC.2.2 0)), (2, .ref (wM.2.2 0)), (3, .int (nI i))]) (h1 : f6_train σc (xs (i + 1)) (xs (i + 2)) = some r) (h2 : f7_train σm (xs (i + 1)) (xs (i + 2)) = some r) (kk : ∀ (H1 : Heap) (locs1 : List Loc), Rp EC LC wC σc H1 → Rp EM LM wM σm H1 → va_S (fun q => s.heap.size ≤ q) s.heap H1 locs1 → W p l e room_1 s m args below meth c H1 locs1 600000 7302250 Q (F0 m 1005 ls [])) : W p l e room_1 s m args below meth c H locs 600000 7302250 Q (F0 m 234 ls []) := by
  obtain ⟨hx, hb, hml, hown, hts⟩ := id S
  have hbA : ¬ (fun q => s.heap.size ≤ q) b := Nat.not_le.mpr hbl
  refine lv_aload_n hx hb dL_234 rfl (lv_at hl 1 rfl) ?_
  refine lv_aload_n hx hb dL_235 rfl (lv_at hl 0 rfl) ?_
  refine lv_iload_n hx hb dL_236 rfl (lv_at hl 3 rfl) ?_
  refine lv_iconst (v := 1) hx hb dL_237 (by decide) ?_
  refine lv_iadd hx hb dL_238 ?_
  refine q_sld (k := i + 1) S hX hbl hbA hS (nI_a1 i) (by omega) hL dL_239 ?_
  refine lv_aload_n hx hb dL_240 rfl (lv_at hl 0 rfl) ?_
  refine lv_iload_n hx hb dL_241 rfl (lv_at hl 3 rfl) ?_
  refine lv_iconst (v := 2) hx hb dL_242 (by decide) ?_
  refine lv_iadd hx hb dL_243 ?_
  refine q_sld (k := i + 2) S hX hbl hbA hS (nI_a2 i) (by omega) hL dL_244 ?_
  refine kL_31 S hKC hRC h1 ⟨Nat.le_of_ble_eq_true rfl, Nat.le_of_ble_eq_true rfl⟩ ⟨Nat.le_of_ble_eq_true rfl, Nat.le_of_ble_eq_true rfl⟩ hl.1 (Nat.le_of_ble_eq_true rfl) dL_245 ?_
  refine lv_aload_n hx hb dL_248 rfl (lv_at hl 2 rfl) ?_
  refine lv_aload_n hx hb dL_249 rfl (lv_at hl 0 rfl) ?_
  refine lv_iload_n hx hb dL_250 rfl (lv_at hl 3 rfl) ?_
  refine lv_iconst (v := 1) hx hb dL_251 (by decide) ?_
  refine lv_iadd hx hb dL_252 ?_
  refine q_sld (k := i + 1) S hX hbl hbA hS (nI_a1 i) (by omega) hL dL_253 ?_
  refine lv_aload_n hx hb dL_254 rfl (lv_at hl 0 rfl) ?_
  refine lv_iload_n hx hb dL_255 rfl (lv_at hl 3 rfl) ?_
  refine lv_iconst (v := 2) hx hb dL_256 (by decide) ?_
  refine lv_iadd hx hb dL_257 ?_
  refine q_sld (k := i + 2) S hX hbl hbA hS (nI_a2 i) (by omega) hL dL_258 ?_
  refine kL_35 S hKM hRM h2 ⟨Nat.le_of_ble_eq_true rfl, Nat.le_of_ble_eq_true rfl⟩ ⟨Nat.le_of_ble_eq_true rfl, Nat.le_of_ble_eq_true rfl⟩ hl.1 (Nat.le_of_ble_eq_true rfl) dL_259 ?_
  refine lv_icmp_eq (tgt := 1005) hx hb dL_262 (by decide) (fun _ => ?_) (fun hne => absurd rfl hne)
  exact kk _ _ hRC hRM hS
set_option maxHeartbeats 4000000 in
set_option maxRecDepth 100000 in
theorem lc_5 {p : Program} {l : Launch} {e : Env} {s : State} {m : MethodId} {args : Array Value} {below : List Frame} {meth : Method} {c : Code} {H : Heap} {locs : List Loc} {Q : State → Prop} {ls : Array Slot} {wC wM : WV} {b L i : Nat} {xs : Nat → Int32} {σc σm : Mem} {r : Int32} (S : CallFix p m c code 4 s args gtbl R_law) (hKC : KS LC wC s) (hKM : KS LM wM s) (hsC : ∀ q, AW LC wC q → s.heap.size ≤ q) (hsM : ∀ q, AW LM wM q → s.heap.size ≤ q) (hdCM : ∀ j, j ∈ LC → ¬ AW LM wM (wC.2.2 j)) (hdMC : ∀ j, j ∈ LM → ¬ AW LC wC (wM.2.2 j)) (hX : va_X b L xs s s.heap) (hbl : b < s.heap.size) (hL : L ≤ 2048) (hi : i + 4 ≤ L) (hRC : Rp EC LC wC σc H) (hRM : Rp EM LM wM σm H) (hS : va_S (fun q => s.heap.size ≤ q) s.heap H locs) (hl : lv_has ls 4 [(0, .ref b), (1, .ref (wC.2.2 0)), (2, .ref (wM.2.2 0)), (3, .int (nI i))]) (h1 : f6_user σc (xs (i + 1)) (xs (i + 2)) = some r) (h2 : f7_user σm (xs (i + 1)) (xs (i + 2)) = some r) (kk : ∀ (H1 : Heap) (locs1 : List Loc), Rp EC LC wC σc H1 → Rp EM LM wM σm H1 → va_S (fun q => s.heap.size ≤ q) s.heap H1 locs1 → W p l e room_1 s m args below meth c H1 locs1 600000 7302250 Q (F0 m 1005 ls [])) : W p l e room_1 s m args below meth c H locs 600000 7302250 Q (F0 m 267 ls []) := by
  obtain ⟨hx, hb, hml, hown, hts⟩ := id S
  have hbA : ¬ (fun q => s.heap.size ≤ q) b := Nat.not_le.mpr hbl
  refine lv_aload_n hx hb dL_267 rfl (lv_at hl 1 rfl) ?_
  refine lv_aload_n hx hb dL_268 rfl (lv_at hl 0 rfl) ?_
  refine lv_iload_n hx hb dL_269 rfl (lv_at hl 3 rfl) ?_
  refine lv_iconst (v := 1) hx hb dL_270 (by decide) ?_
  refine lv_iadd hx hb dL_271 ?_
  refine q_sld (k := i + 1) S hX hbl hbA hS (nI_a1 i) (by omega) hL dL_272 ?_
  refine lv_aload_n hx hb dL_273 rfl (lv_at hl 0 rfl) ?_
  refine lv_iload_n hx hb dL_274 rfl (lv_at hl 3 rfl) ?_
  refine lv_iconst (v := 2) hx hb dL_275 (by decide) ?_
  refine lv_iadd hx hb dL_276 ?_
  refine q_sld (k := i + 2) S hX hbl hbA hS (nI_a2 i) (by omega) hL dL_277 ?_
  refine kL_36 S hKC hRC h1 ⟨Nat.le_of_ble_eq_true rfl, Nat.le_of_ble_eq_true rfl⟩ ⟨Nat.le_of_ble_eq_true rfl, Nat.le_of_ble_eq_true rfl⟩ hl.1 (Nat.le_of_ble_eq_true rfl) dL_278 ?_
  refine lv_aload_n hx hb dL_281 rfl (lv_at hl 2 rfl) ?_
  refine lv_aload_n hx hb dL_282 rfl (lv_at hl 0 rfl) ?_
  refine lv_iload_n hx hb dL_283 rfl (lv_at hl 3 rfl) ?_
  refine lv_iconst (v := 1) hx hb dL_284 (by decide) ?_
  refine lv_iadd hx hb dL_285 ?_
  refine q_sld (k := i + 1) S hX hbl hbA hS (nI_a1 i) (by omega) hL dL_286 ?_
  refine lv_aload_n hx hb dL_287 rfl (lv_at hl 0 rfl) ?_
  refine lv_iload_n hx hb dL_288 rfl (lv_at hl 3 rfl) ?_
  refine lv_iconst (v := 2) hx hb dL_289 (by decide) ?_
  refine lv_iadd hx hb dL_290 ?_
  refine q_sld (k := i + 2) S hX hbl hbA hS (nI_a2 i) (by omega) hL dL_291 ?_
  refine kL_39 S hKM hRM h2 ⟨Nat.le_of_ble_eq_true rfl, Nat.le_of_ble_eq_true rfl⟩ ⟨Nat.le_of_ble_eq_true rfl, Nat.le_of_ble_eq_true rfl⟩ hl.1 (Nat.le_of_ble_eq_true rfl) dL_292 ?_
  refine lv_icmp_eq (tgt := 1005) hx hb dL_295 (by decide) (fun _ => ?_) (fun hne => absurd rfl hne)
  exact kk _ _ hRC hRM hS
set_option maxHeartbeats 4000000 in
set_option maxRecDepth 100000 in
theorem lc_6 {p : Program} {l : Launch} {e : Env} {s : State} {m : MethodId} {args : Array Value} {below : List Frame} {meth : Method} {c : Code} {H : Heap} {locs : List Loc} {Q : State → Prop} {ls : Array Slot} {wC wM : WV} {b L i : Nat} {xs : Nat → Int32} {σc σm : Mem} {σc1 : Mem} {σm1 : Mem} {r : Int32} (S : CallFix p m c code 4 s args gtbl R_law) (hKC : KS LC wC s) (hKM : KS LM wM s) (hsC : ∀ q, AW LC wC q → s.heap.size ≤ q) (hsM : ∀ q, AW LM wM q → s.heap.size ≤ q) (hdCM : ∀ j, j ∈ LC → ¬ AW LM wM (wC.2.2 j)) (hdMC : ∀ j, j ∈ LM → ¬ AW LC wC (wM.2.2 j)) (hX : va_X b L xs s s.heap) (hbl : b < s.heap.size) (hL : L ≤ 2048) (hi : i + 4 ≤ L) (hRC : Rp EC LC wC σc H) (hRM : Rp EM LM wM σm H) (hS : va_S (fun q => s.heap.size ≤ q) s.heap H locs) (hl : lv_has ls 4 [(0, .ref b), (1, .ref (wC.2.2 0)), (2, .ref (wM.2.2 0)), (3, .int (nI i))]) (h1 : f6_gates σc (xs (i + 1)) (xs (i + 2)) = some (σc1, r)) (h2 : f7_gates σm (xs (i + 1)) (xs (i + 2)) = some (σm1, r)) (kk : ∀ (H1 : Heap) (locs1 : List Loc), Rp EC LC wC σc1 H1 → Rp EM LM wM σm1 H1 → va_S (fun q => s.heap.size ≤ q) s.heap H1 locs1 → W p l e room_1 s m args below meth c H1 locs1 600000 7302250 Q (F0 m 1005 ls [])) : W p l e room_1 s m args below meth c H locs 600000 7302250 Q (F0 m 300 ls []) := by
  obtain ⟨hx, hb, hml, hown, hts⟩ := id S
  have hbA : ¬ (fun q => s.heap.size ≤ q) b := Nat.not_le.mpr hbl
  refine lv_aload_n hx hb dL_300 rfl (lv_at hl 1 rfl) ?_
  refine lv_aload_n hx hb dL_301 rfl (lv_at hl 0 rfl) ?_
  refine lv_iload_n hx hb dL_302 rfl (lv_at hl 3 rfl) ?_
  refine lv_iconst (v := 1) hx hb dL_303 (by decide) ?_
  refine lv_iadd hx hb dL_304 ?_
  refine q_sld (k := i + 1) S hX hbl hbA hS (nI_a1 i) (by omega) hL dL_305 ?_
  refine lv_aload_n hx hb dL_306 rfl (lv_at hl 0 rfl) ?_
  refine lv_iload_n hx hb dL_307 rfl (lv_at hl 3 rfl) ?_
  refine lv_iconst (v := 2) hx hb dL_308 (by decide) ?_
  refine lv_iadd hx hb dL_309 ?_
  refine q_sld (k := i + 2) S hX hbl hbA hS (nI_a2 i) (by omega) hL dL_310 ?_
  refine kL_40 S hKC hRC hS hsC h1 ⟨Nat.le_of_ble_eq_true rfl, Nat.le_of_ble_eq_true rfl⟩ ⟨Nat.le_of_ble_eq_true rfl, Nat.le_of_ble_eq_true rfl⟩ hl.1 (Nat.le_of_ble_eq_true rfl) dL_311 (fun H1 locs1 hRC hk hS => ?_)
  have hRM := hRM.kept hk hdMC
  refine lv_aload_n hx hb dL_314 rfl (lv_at hl 2 rfl) ?_
  refine lv_aload_n hx hb dL_315 rfl (lv_at hl 0 rfl) ?_
  refine lv_iload_n hx hb dL_316 rfl (lv_at hl 3 rfl) ?_
  refine lv_iconst (v := 1) hx hb dL_317 (by decide) ?_
  refine lv_iadd hx hb dL_318 ?_
  refine q_sld (k := i + 1) S hX hbl hbA hS (nI_a1 i) (by omega) hL dL_319 ?_
  refine lv_aload_n hx hb dL_320 rfl (lv_at hl 0 rfl) ?_
  refine lv_iload_n hx hb dL_321 rfl (lv_at hl 3 rfl) ?_
  refine lv_iconst (v := 2) hx hb dL_322 (by decide) ?_
  refine lv_iadd hx hb dL_323 ?_
  refine q_sld (k := i + 2) S hX hbl hbA hS (nI_a2 i) (by omega) hL dL_324 ?_
  refine kL_43 S hKM hRM hS hsM h2 ⟨Nat.le_of_ble_eq_true rfl, Nat.le_of_ble_eq_true rfl⟩ ⟨Nat.le_of_ble_eq_true rfl, Nat.le_of_ble_eq_true rfl⟩ hl.1 (Nat.le_of_ble_eq_true rfl) dL_325 (fun H1 locs1 hRM hk hS => ?_)
  have hRC := hRC.kept hk hdCM
  refine lv_icmp_eq (tgt := 1005) hx hb dL_328 (by decide) (fun _ => ?_) (fun hne => absurd rfl hne)
  exact kk _ _ hRC hRM hS
set_option maxHeartbeats 4000000 in
set_option maxRecDepth 100000 in
theorem lc_7 {p : Program} {l : Launch} {e : Env} {s : State} {m : MethodId} {args : Array Value} {below : List Frame} {meth : Method} {c : Code} {H : Heap} {locs : List Loc} {Q : State → Prop} {ls : Array Slot} {wC wM : WV} {b L i : Nat} {xs : Nat → Int32} {σc σm : Mem} {σc1 : Mem} {σm1 : Mem} {r : Int32} (S : CallFix p m c code 4 s args gtbl R_law) (hKC : KS LC wC s) (hKM : KS LM wM s) (hsC : ∀ q, AW LC wC q → s.heap.size ≤ q) (hsM : ∀ q, AW LM wM q → s.heap.size ≤ q) (hdCM : ∀ j, j ∈ LC → ¬ AW LM wM (wC.2.2 j)) (hdMC : ∀ j, j ∈ LM → ¬ AW LC wC (wM.2.2 j)) (hX : va_X b L xs s s.heap) (hbl : b < s.heap.size) (hL : L ≤ 2048) (hi : i + 4 ≤ L) (hRC : Rp EC LC wC σc H) (hRM : Rp EM LM wM σm H) (hS : va_S (fun q => s.heap.size ≤ q) s.heap H locs) (hl : lv_has ls 4 [(0, .ref b), (1, .ref (wC.2.2 0)), (2, .ref (wM.2.2 0)), (3, .int (nI i))]) (h1 : f6_passed σc (xs (i + 1)) (xs (i + 2)) = some (σc1, r)) (h2 : f7_passed σm (xs (i + 1)) (xs (i + 2)) = some (σm1, r)) (kk : ∀ (H1 : Heap) (locs1 : List Loc), Rp EC LC wC σc1 H1 → Rp EM LM wM σm1 H1 → va_S (fun q => s.heap.size ≤ q) s.heap H1 locs1 → W p l e room_1 s m args below meth c H1 locs1 600000 7302250 Q (F0 m 1005 ls [])) : W p l e room_1 s m args below meth c H locs 600000 7302250 Q (F0 m 333 ls []) := by
  obtain ⟨hx, hb, hml, hown, hts⟩ := id S
  have hbA : ¬ (fun q => s.heap.size ≤ q) b := Nat.not_le.mpr hbl
  refine lv_aload_n hx hb dL_333 rfl (lv_at hl 1 rfl) ?_
  refine lv_aload_n hx hb dL_334 rfl (lv_at hl 0 rfl) ?_
  refine lv_iload_n hx hb dL_335 rfl (lv_at hl 3 rfl) ?_
  refine lv_iconst (v := 1) hx hb dL_336 (by decide) ?_
  refine lv_iadd hx hb dL_337 ?_
  refine q_sld (k := i + 1) S hX hbl hbA hS (nI_a1 i) (by omega) hL dL_338 ?_
  refine lv_aload_n hx hb dL_339 rfl (lv_at hl 0 rfl) ?_
  refine lv_iload_n hx hb dL_340 rfl (lv_at hl 3 rfl) ?_
  refine lv_iconst (v := 2) hx hb dL_341 (by decide) ?_
  refine lv_iadd hx hb dL_342 ?_
  refine q_sld (k := i + 2) S hX hbl hbA hS (nI_a2 i) (by omega) hL dL_343 ?_
  refine kL_44 S hKC hRC hS hsC h1 ⟨Nat.le_of_ble_eq_true rfl, Nat.le_of_ble_eq_true rfl⟩ ⟨Nat.le_of_ble_eq_true rfl, Nat.le_of_ble_eq_true rfl⟩ hl.1 (Nat.le_of_ble_eq_true rfl) dL_344 (fun H1 locs1 hRC hk hS => ?_)
  have hRM := hRM.kept hk hdMC
  refine lv_aload_n hx hb dL_347 rfl (lv_at hl 2 rfl) ?_
  refine lv_aload_n hx hb dL_348 rfl (lv_at hl 0 rfl) ?_
  refine lv_iload_n hx hb dL_349 rfl (lv_at hl 3 rfl) ?_
  refine lv_iconst (v := 1) hx hb dL_350 (by decide) ?_
  refine lv_iadd hx hb dL_351 ?_
  refine q_sld (k := i + 1) S hX hbl hbA hS (nI_a1 i) (by omega) hL dL_352 ?_
  refine lv_aload_n hx hb dL_353 rfl (lv_at hl 0 rfl) ?_
  refine lv_iload_n hx hb dL_354 rfl (lv_at hl 3 rfl) ?_
  refine lv_iconst (v := 2) hx hb dL_355 (by decide) ?_
  refine lv_iadd hx hb dL_356 ?_
  refine q_sld (k := i + 2) S hX hbl hbA hS (nI_a2 i) (by omega) hL dL_357 ?_
  refine kL_47 S hKM hRM hS hsM h2 ⟨Nat.le_of_ble_eq_true rfl, Nat.le_of_ble_eq_true rfl⟩ ⟨Nat.le_of_ble_eq_true rfl, Nat.le_of_ble_eq_true rfl⟩ hl.1 (Nat.le_of_ble_eq_true rfl) dL_358 (fun H1 locs1 hRM hk hS => ?_)
  have hRC := hRC.kept hk hdCM
  refine lv_icmp_eq (tgt := 1005) hx hb dL_361 (by decide) (fun _ => ?_) (fun hne => absurd rfl hne)
  exact kk _ _ hRC hRM hS
set_option maxHeartbeats 4000000 in
set_option maxRecDepth 100000 in
theorem lc_8 {p : Program} {l : Launch} {e : Env} {s : State} {m : MethodId} {args : Array Value} {below : List Frame} {meth : Method} {c : Code} {H : Heap} {locs : List Loc} {Q : State → Prop} {ls : Array Slot} {wC wM : WV} {b L i : Nat} {xs : Nat → Int32} {σc σm : Mem} {σc1 : Mem} {σm1 : Mem} {r : Int32} (S : CallFix p m c code 4 s args gtbl R_law) (hKC : KS LC wC s) (hKM : KS LM wM s) (hsC : ∀ q, AW LC wC q → s.heap.size ≤ q) (hsM : ∀ q, AW LM wM q → s.heap.size ≤ q) (hdCM : ∀ j, j ∈ LC → ¬ AW LM wM (wC.2.2 j)) (hdMC : ∀ j, j ∈ LM → ¬ AW LC wC (wM.2.2 j)) (hX : va_X b L xs s s.heap) (hbl : b < s.heap.size) (hL : L ≤ 2048) (hi : i + 4 ≤ L) (hRC : Rp EC LC wC σc H) (hRM : Rp EM LM wM σm H) (hS : va_S (fun q => s.heap.size ≤ q) s.heap H locs) (hl : lv_has ls 4 [(0, .ref b), (1, .ref (wC.2.2 0)), (2, .ref (wM.2.2 0)), (3, .int (nI i))]) (h1 : f6_stopped σc (xs (i + 1)) (xs (i + 2)) = some (σc1, r)) (h2 : f7_stopped σm (xs (i + 1)) (xs (i + 2)) = some (σm1, r)) (kk : ∀ (H1 : Heap) (locs1 : List Loc), Rp EC LC wC σc1 H1 → Rp EM LM wM σm1 H1 → va_S (fun q => s.heap.size ≤ q) s.heap H1 locs1 → W p l e room_1 s m args below meth c H1 locs1 600000 7302250 Q (F0 m 1005 ls [])) : W p l e room_1 s m args below meth c H locs 600000 7302250 Q (F0 m 366 ls []) := by
  obtain ⟨hx, hb, hml, hown, hts⟩ := id S
  have hbA : ¬ (fun q => s.heap.size ≤ q) b := Nat.not_le.mpr hbl
  refine lv_aload_n hx hb dL_366 rfl (lv_at hl 1 rfl) ?_
  refine lv_aload_n hx hb dL_367 rfl (lv_at hl 0 rfl) ?_
  refine lv_iload_n hx hb dL_368 rfl (lv_at hl 3 rfl) ?_
  refine lv_iconst (v := 1) hx hb dL_369 (by decide) ?_
  refine lv_iadd hx hb dL_370 ?_
  refine q_sld (k := i + 1) S hX hbl hbA hS (nI_a1 i) (by omega) hL dL_371 ?_
  refine lv_aload_n hx hb dL_372 rfl (lv_at hl 0 rfl) ?_
  refine lv_iload_n hx hb dL_373 rfl (lv_at hl 3 rfl) ?_
  refine lv_iconst (v := 2) hx hb dL_374 (by decide) ?_
  refine lv_iadd hx hb dL_375 ?_
  refine q_sld (k := i + 2) S hX hbl hbA hS (nI_a2 i) (by omega) hL dL_376 ?_
  refine kL_48 S hKC hRC hS hsC h1 ⟨Nat.le_of_ble_eq_true rfl, Nat.le_of_ble_eq_true rfl⟩ ⟨Nat.le_of_ble_eq_true rfl, Nat.le_of_ble_eq_true rfl⟩ hl.1 (Nat.le_of_ble_eq_true rfl) dL_377 (fun H1 locs1 hRC hk hS => ?_)
  have hRM := hRM.kept hk hdMC
  refine lv_aload_n hx hb dL_380 rfl (lv_at hl 2 rfl) ?_
  refine lv_aload_n hx hb dL_381 rfl (lv_at hl 0 rfl) ?_
  refine lv_iload_n hx hb dL_382 rfl (lv_at hl 3 rfl) ?_
  refine lv_iconst (v := 1) hx hb dL_383 (by decide) ?_
  refine lv_iadd hx hb dL_384 ?_
  refine q_sld (k := i + 1) S hX hbl hbA hS (nI_a1 i) (by omega) hL dL_385 ?_
  refine lv_aload_n hx hb dL_386 rfl (lv_at hl 0 rfl) ?_
  refine lv_iload_n hx hb dL_387 rfl (lv_at hl 3 rfl) ?_
  refine lv_iconst (v := 2) hx hb dL_388 (by decide) ?_
  refine lv_iadd hx hb dL_389 ?_
  refine q_sld (k := i + 2) S hX hbl hbA hS (nI_a2 i) (by omega) hL dL_390 ?_
  refine kL_51 S hKM hRM hS hsM h2 ⟨Nat.le_of_ble_eq_true rfl, Nat.le_of_ble_eq_true rfl⟩ ⟨Nat.le_of_ble_eq_true rfl, Nat.le_of_ble_eq_true rfl⟩ hl.1 (Nat.le_of_ble_eq_true rfl) dL_391 (fun H1 locs1 hRM hk hS => ?_)
  have hRC := hRC.kept hk hdCM
  refine lv_icmp_eq (tgt := 1005) hx hb dL_394 (by decide) (fun _ => ?_) (fun hne => absurd rfl hne)
  exact kk _ _ hRC hRM hS
set_option maxHeartbeats 4000000 in
set_option maxRecDepth 100000 in
theorem lc_9 {p : Program} {l : Launch} {e : Env} {s : State} {m : MethodId} {args : Array Value} {below : List Frame} {meth : Method} {c : Code} {H : Heap} {locs : List Loc} {Q : State → Prop} {ls : Array Slot} {wC wM : WV} {b L i : Nat} {xs : Nat → Int32} {σc σm : Mem} {σc1 : Mem} {σm1 : Mem} {r : Int32} (S : CallFix p m c code 4 s args gtbl R_law) (hKC : KS LC wC s) (hKM : KS LM wM s) (hsC : ∀ q, AW LC wC q → s.heap.size ≤ q) (hsM : ∀ q, AW LM wM q → s.heap.size ≤ q) (hdCM : ∀ j, j ∈ LC → ¬ AW LM wM (wC.2.2 j)) (hdMC : ∀ j, j ∈ LM → ¬ AW LC wC (wM.2.2 j)) (hX : va_X b L xs s s.heap) (hbl : b < s.heap.size) (hL : L ≤ 2048) (hi : i + 4 ≤ L) (hRC : Rp EC LC wC σc H) (hRM : Rp EM LM wM σm H) (hS : va_S (fun q => s.heap.size ≤ q) s.heap H locs) (hl : lv_has ls 4 [(0, .ref b), (1, .ref (wC.2.2 0)), (2, .ref (wM.2.2 0)), (3, .int (nI i))]) (h1 : f6_crossed σc (xs (i + 1)) (xs (i + 2)) = some (σc1, r)) (h2 : f7_crossed σm (xs (i + 1)) (xs (i + 2)) = some (σm1, r)) (kk : ∀ (H1 : Heap) (locs1 : List Loc), Rp EC LC wC σc1 H1 → Rp EM LM wM σm1 H1 → va_S (fun q => s.heap.size ≤ q) s.heap H1 locs1 → W p l e room_1 s m args below meth c H1 locs1 600000 7302250 Q (F0 m 1005 ls [])) : W p l e room_1 s m args below meth c H locs 600000 7302250 Q (F0 m 399 ls []) := by
  obtain ⟨hx, hb, hml, hown, hts⟩ := id S
  have hbA : ¬ (fun q => s.heap.size ≤ q) b := Nat.not_le.mpr hbl
  refine lv_aload_n hx hb dL_399 rfl (lv_at hl 1 rfl) ?_
  refine lv_aload_n hx hb dL_400 rfl (lv_at hl 0 rfl) ?_
  refine lv_iload_n hx hb dL_401 rfl (lv_at hl 3 rfl) ?_
  refine lv_iconst (v := 1) hx hb dL_402 (by decide) ?_
  refine lv_iadd hx hb dL_403 ?_
  refine q_sld (k := i + 1) S hX hbl hbA hS (nI_a1 i) (by omega) hL dL_404 ?_
  refine lv_aload_n hx hb dL_405 rfl (lv_at hl 0 rfl) ?_
  refine lv_iload_n hx hb dL_406 rfl (lv_at hl 3 rfl) ?_
  refine lv_iconst (v := 2) hx hb dL_407 (by decide) ?_
  refine lv_iadd hx hb dL_408 ?_
  refine q_sld (k := i + 2) S hX hbl hbA hS (nI_a2 i) (by omega) hL dL_409 ?_
  refine kL_52 S hKC hRC hS hsC h1 ⟨Nat.le_of_ble_eq_true rfl, Nat.le_of_ble_eq_true rfl⟩ ⟨Nat.le_of_ble_eq_true rfl, Nat.le_of_ble_eq_true rfl⟩ hl.1 (Nat.le_of_ble_eq_true rfl) dL_410 (fun H1 locs1 hRC hk hS => ?_)
  have hRM := hRM.kept hk hdMC
  refine lv_aload_n hx hb dL_413 rfl (lv_at hl 2 rfl) ?_
  refine lv_aload_n hx hb dL_414 rfl (lv_at hl 0 rfl) ?_
  refine lv_iload_n hx hb dL_415 rfl (lv_at hl 3 rfl) ?_
  refine lv_iconst (v := 1) hx hb dL_416 (by decide) ?_
  refine lv_iadd hx hb dL_417 ?_
  refine q_sld (k := i + 1) S hX hbl hbA hS (nI_a1 i) (by omega) hL dL_418 ?_
  refine lv_aload_n hx hb dL_419 rfl (lv_at hl 0 rfl) ?_
  refine lv_iload_n hx hb dL_420 rfl (lv_at hl 3 rfl) ?_
  refine lv_iconst (v := 2) hx hb dL_421 (by decide) ?_
  refine lv_iadd hx hb dL_422 ?_
  refine q_sld (k := i + 2) S hX hbl hbA hS (nI_a2 i) (by omega) hL dL_423 ?_
  refine kL_55 S hKM hRM hS hsM h2 ⟨Nat.le_of_ble_eq_true rfl, Nat.le_of_ble_eq_true rfl⟩ ⟨Nat.le_of_ble_eq_true rfl, Nat.le_of_ble_eq_true rfl⟩ hl.1 (Nat.le_of_ble_eq_true rfl) dL_424 (fun H1 locs1 hRM hk hS => ?_)
  have hRC := hRC.kept hk hdCM
  refine lv_icmp_eq (tgt := 1005) hx hb dL_427 (by decide) (fun _ => ?_) (fun hne => absurd rfl hne)
  exact kk _ _ hRC hRM hS
set_option maxHeartbeats 4000000 in
set_option maxRecDepth 100000 in
theorem lc_10 {p : Program} {l : Launch} {e : Env} {s : State} {m : MethodId} {args : Array Value} {below : List Frame} {meth : Method} {c : Code} {H : Heap} {locs : List Loc} {Q : State → Prop} {ls : Array Slot} {wC wM : WV} {b L i : Nat} {xs : Nat → Int32} {σc σm : Mem} {σc1 : Mem} {σm1 : Mem} {r : Int32} (S : CallFix p m c code 4 s args gtbl R_law) (hKC : KS LC wC s) (hKM : KS LM wM s) (hsC : ∀ q, AW LC wC q → s.heap.size ≤ q) (hsM : ∀ q, AW LM wM q → s.heap.size ≤ q) (hdCM : ∀ j, j ∈ LC → ¬ AW LM wM (wC.2.2 j)) (hdMC : ∀ j, j ∈ LM → ¬ AW LC wC (wM.2.2 j)) (hX : va_X b L xs s s.heap) (hbl : b < s.heap.size) (hL : L ≤ 2048) (hi : i + 4 ≤ L) (hRC : Rp EC LC wC σc H) (hRM : Rp EM LM wM σm H) (hS : va_S (fun q => s.heap.size ≤ q) s.heap H locs) (hl : lv_has ls 4 [(0, .ref b), (1, .ref (wC.2.2 0)), (2, .ref (wM.2.2 0)), (3, .int (nI i))]) (h1 : f6_waited σc (xs (i + 1)) (xs (i + 2)) = some (σc1, r)) (h2 : f7_waited σm (xs (i + 1)) (xs (i + 2)) = some (σm1, r)) (kk : ∀ (H1 : Heap) (locs1 : List Loc), Rp EC LC wC σc1 H1 → Rp EM LM wM σm1 H1 → va_S (fun q => s.heap.size ≤ q) s.heap H1 locs1 → W p l e room_1 s m args below meth c H1 locs1 600000 7302250 Q (F0 m 1005 ls [])) : W p l e room_1 s m args below meth c H locs 600000 7302250 Q (F0 m 432 ls []) := by
  obtain ⟨hx, hb, hml, hown, hts⟩ := id S
  have hbA : ¬ (fun q => s.heap.size ≤ q) b := Nat.not_le.mpr hbl
  refine lv_aload_n hx hb dL_432 rfl (lv_at hl 1 rfl) ?_
  refine lv_aload_n hx hb dL_433 rfl (lv_at hl 0 rfl) ?_
  refine lv_iload_n hx hb dL_434 rfl (lv_at hl 3 rfl) ?_
  refine lv_iconst (v := 1) hx hb dL_435 (by decide) ?_
  refine lv_iadd hx hb dL_436 ?_
  refine q_sld (k := i + 1) S hX hbl hbA hS (nI_a1 i) (by omega) hL dL_437 ?_
  refine lv_aload_n hx hb dL_438 rfl (lv_at hl 0 rfl) ?_
  refine lv_iload_n hx hb dL_439 rfl (lv_at hl 3 rfl) ?_
  refine lv_iconst (v := 2) hx hb dL_440 (by decide) ?_
  refine lv_iadd hx hb dL_441 ?_
  refine q_sld (k := i + 2) S hX hbl hbA hS (nI_a2 i) (by omega) hL dL_442 ?_
  refine kL_56 S hKC hRC hS hsC h1 ⟨Nat.le_of_ble_eq_true rfl, Nat.le_of_ble_eq_true rfl⟩ ⟨Nat.le_of_ble_eq_true rfl, Nat.le_of_ble_eq_true rfl⟩ hl.1 (Nat.le_of_ble_eq_true rfl) dL_443 (fun H1 locs1 hRC hk hS => ?_)
  have hRM := hRM.kept hk hdMC
  refine lv_aload_n hx hb dL_446 rfl (lv_at hl 2 rfl) ?_
  refine lv_aload_n hx hb dL_447 rfl (lv_at hl 0 rfl) ?_
  refine lv_iload_n hx hb dL_448 rfl (lv_at hl 3 rfl) ?_
  refine lv_iconst (v := 1) hx hb dL_449 (by decide) ?_
  refine lv_iadd hx hb dL_450 ?_
  refine q_sld (k := i + 1) S hX hbl hbA hS (nI_a1 i) (by omega) hL dL_451 ?_
  refine lv_aload_n hx hb dL_452 rfl (lv_at hl 0 rfl) ?_
  refine lv_iload_n hx hb dL_453 rfl (lv_at hl 3 rfl) ?_
  refine lv_iconst (v := 2) hx hb dL_454 (by decide) ?_
  refine lv_iadd hx hb dL_455 ?_
  refine q_sld (k := i + 2) S hX hbl hbA hS (nI_a2 i) (by omega) hL dL_456 ?_
  refine kL_59 S hKM hRM hS hsM h2 ⟨Nat.le_of_ble_eq_true rfl, Nat.le_of_ble_eq_true rfl⟩ ⟨Nat.le_of_ble_eq_true rfl, Nat.le_of_ble_eq_true rfl⟩ hl.1 (Nat.le_of_ble_eq_true rfl) dL_457 (fun H1 locs1 hRM hk hS => ?_)
  have hRC := hRC.kept hk hdCM
  refine lv_icmp_eq (tgt := 1005) hx hb dL_460 (by decide) (fun _ => ?_) (fun hne => absurd rfl hne)
  exact kk _ _ hRC hRM hS
set_option maxHeartbeats 4000000 in
set_option maxRecDepth 100000 in
theorem lc_11 {p : Program} {l : Launch} {e : Env} {s : State} {m : MethodId} {args : Array Value} {below : List Frame} {meth : Method} {c : Code} {H : Heap} {locs : List Loc} {Q : State → Prop} {ls : Array Slot} {wC wM : WV} {b L i : Nat} {xs : Nat → Int32} {σc σm : Mem} {σc1 : Mem} {σm1 : Mem} {r : Int32} (S : CallFix p m c code 4 s args gtbl R_law) (hKC : KS LC wC s) (hKM : KS LM wM s) (hsC : ∀ q, AW LC wC q → s.heap.size ≤ q) (hsM : ∀ q, AW LM wM q → s.heap.size ≤ q) (hdCM : ∀ j, j ∈ LC → ¬ AW LM wM (wC.2.2 j)) (hdMC : ∀ j, j ∈ LM → ¬ AW LC wC (wM.2.2 j)) (hX : va_X b L xs s s.heap) (hbl : b < s.heap.size) (hL : L ≤ 2048) (hi : i + 4 ≤ L) (hRC : Rp EC LC wC σc H) (hRM : Rp EM LM wM σm H) (hS : va_S (fun q => s.heap.size ≤ q) s.heap H locs) (hl : lv_has ls 4 [(0, .ref b), (1, .ref (wC.2.2 0)), (2, .ref (wM.2.2 0)), (3, .int (nI i))]) (h1 : f6_cost σc (xs (i + 1)) = some (σc1, r)) (h2 : f7_cost σm (xs (i + 1)) = some (σm1, r)) (kk : ∀ (H1 : Heap) (locs1 : List Loc), Rp EC LC wC σc1 H1 → Rp EM LM wM σm1 H1 → va_S (fun q => s.heap.size ≤ q) s.heap H1 locs1 → W p l e room_1 s m args below meth c H1 locs1 600000 7302250 Q (F0 m 1005 ls [])) : W p l e room_1 s m args below meth c H locs 600000 7302250 Q (F0 m 465 ls []) := by
  obtain ⟨hx, hb, hml, hown, hts⟩ := id S
  have hbA : ¬ (fun q => s.heap.size ≤ q) b := Nat.not_le.mpr hbl
  refine lv_aload_n hx hb dL_465 rfl (lv_at hl 1 rfl) ?_
  refine lv_aload_n hx hb dL_466 rfl (lv_at hl 0 rfl) ?_
  refine lv_iload_n hx hb dL_467 rfl (lv_at hl 3 rfl) ?_
  refine lv_iconst (v := 1) hx hb dL_468 (by decide) ?_
  refine lv_iadd hx hb dL_469 ?_
  refine q_sld (k := i + 1) S hX hbl hbA hS (nI_a1 i) (by omega) hL dL_470 ?_
  refine kL_60 S hKC hRC hS hsC h1 ⟨Nat.le_of_ble_eq_true rfl, Nat.le_of_ble_eq_true rfl⟩ ⟨Nat.le_of_ble_eq_true rfl, Nat.le_of_ble_eq_true rfl⟩ hl.1 (Nat.le_of_ble_eq_true rfl) dL_471 (fun H1 locs1 hRC hk hS => ?_)
  have hRM := hRM.kept hk hdMC
  refine lv_aload_n hx hb dL_474 rfl (lv_at hl 2 rfl) ?_
  refine lv_aload_n hx hb dL_475 rfl (lv_at hl 0 rfl) ?_
  refine lv_iload_n hx hb dL_476 rfl (lv_at hl 3 rfl) ?_
  refine lv_iconst (v := 1) hx hb dL_477 (by decide) ?_
  refine lv_iadd hx hb dL_478 ?_
  refine q_sld (k := i + 1) S hX hbl hbA hS (nI_a1 i) (by omega) hL dL_479 ?_
  refine kL_63 S hKM hRM hS hsM h2 ⟨Nat.le_of_ble_eq_true rfl, Nat.le_of_ble_eq_true rfl⟩ ⟨Nat.le_of_ble_eq_true rfl, Nat.le_of_ble_eq_true rfl⟩ hl.1 (Nat.le_of_ble_eq_true rfl) dL_480 (fun H1 locs1 hRM hk hS => ?_)
  have hRC := hRC.kept hk hdCM
  refine lv_icmp_eq (tgt := 1005) hx hb dL_483 (by decide) (fun _ => ?_) (fun hne => absurd rfl hne)
  exact kk _ _ hRC hRM hS
set_option maxHeartbeats 4000000 in
set_option maxRecDepth 100000 in
theorem lc_12 {p : Program} {l : Launch} {e : Env} {s : State} {m : MethodId} {args : Array Value} {below : List Frame} {meth : Method} {c : Code} {H : Heap} {locs : List Loc} {Q : State → Prop} {ls : Array Slot} {wC wM : WV} {b L i : Nat} {xs : Nat → Int32} {σc σm : Mem} {σc1 : Mem} {σm1 : Mem} {r : Int32} (S : CallFix p m c code 4 s args gtbl R_law) (hKC : KS LC wC s) (hKM : KS LM wM s) (hsC : ∀ q, AW LC wC q → s.heap.size ≤ q) (hsM : ∀ q, AW LM wM q → s.heap.size ≤ q) (hdCM : ∀ j, j ∈ LC → ¬ AW LM wM (wC.2.2 j)) (hdMC : ∀ j, j ∈ LM → ¬ AW LC wC (wM.2.2 j)) (hX : va_X b L xs s s.heap) (hbl : b < s.heap.size) (hL : L ≤ 2048) (hi : i + 4 ≤ L) (hRC : Rp EC LC wC σc H) (hRM : Rp EM LM wM σm H) (hS : va_S (fun q => s.heap.size ≤ q) s.heap H locs) (hl : lv_has ls 4 [(0, .ref b), (1, .ref (wC.2.2 0)), (2, .ref (wM.2.2 0)), (3, .int (nI i))]) (h1 : f6_late σc (xs (i + 1)) (xs (i + 2)) = some (σc1, r)) (h2 : f7_late σm (xs (i + 1)) (xs (i + 2)) = some (σm1, r)) (kk : ∀ (H1 : Heap) (locs1 : List Loc), Rp EC LC wC σc1 H1 → Rp EM LM wM σm1 H1 → va_S (fun q => s.heap.size ≤ q) s.heap H1 locs1 → W p l e room_1 s m args below meth c H1 locs1 600000 7302250 Q (F0 m 1005 ls [])) : W p l e room_1 s m args below meth c H locs 600000 7302250 Q (F0 m 488 ls []) := by
  obtain ⟨hx, hb, hml, hown, hts⟩ := id S
  have hbA : ¬ (fun q => s.heap.size ≤ q) b := Nat.not_le.mpr hbl
  refine lv_aload_n hx hb dL_488 rfl (lv_at hl 1 rfl) ?_
  refine lv_aload_n hx hb dL_489 rfl (lv_at hl 0 rfl) ?_
  refine lv_iload_n hx hb dL_490 rfl (lv_at hl 3 rfl) ?_
  refine lv_iconst (v := 1) hx hb dL_491 (by decide) ?_
  refine lv_iadd hx hb dL_492 ?_
  refine q_sld (k := i + 1) S hX hbl hbA hS (nI_a1 i) (by omega) hL dL_493 ?_
  refine lv_aload_n hx hb dL_494 rfl (lv_at hl 0 rfl) ?_
  refine lv_iload_n hx hb dL_495 rfl (lv_at hl 3 rfl) ?_
  refine lv_iconst (v := 2) hx hb dL_496 (by decide) ?_
  refine lv_iadd hx hb dL_497 ?_
  refine q_sld (k := i + 2) S hX hbl hbA hS (nI_a2 i) (by omega) hL dL_498 ?_
  refine kL_64 S hKC hRC hS hsC h1 ⟨Nat.le_of_ble_eq_true rfl, Nat.le_of_ble_eq_true rfl⟩ ⟨Nat.le_of_ble_eq_true rfl, Nat.le_of_ble_eq_true rfl⟩ hl.1 (Nat.le_of_ble_eq_true rfl) dL_499 (fun H1 locs1 hRC hk hS => ?_)
  have hRM := hRM.kept hk hdMC
  refine lv_aload_n hx hb dL_502 rfl (lv_at hl 2 rfl) ?_
  refine lv_aload_n hx hb dL_503 rfl (lv_at hl 0 rfl) ?_
  refine lv_iload_n hx hb dL_504 rfl (lv_at hl 3 rfl) ?_
  refine lv_iconst (v := 1) hx hb dL_505 (by decide) ?_
  refine lv_iadd hx hb dL_506 ?_
  refine q_sld (k := i + 1) S hX hbl hbA hS (nI_a1 i) (by omega) hL dL_507 ?_
  refine lv_aload_n hx hb dL_508 rfl (lv_at hl 0 rfl) ?_
  refine lv_iload_n hx hb dL_509 rfl (lv_at hl 3 rfl) ?_
  refine lv_iconst (v := 2) hx hb dL_510 (by decide) ?_
  refine lv_iadd hx hb dL_511 ?_
  refine q_sld (k := i + 2) S hX hbl hbA hS (nI_a2 i) (by omega) hL dL_512 ?_
  refine kL_67 S hKM hRM hS hsM h2 ⟨Nat.le_of_ble_eq_true rfl, Nat.le_of_ble_eq_true rfl⟩ ⟨Nat.le_of_ble_eq_true rfl, Nat.le_of_ble_eq_true rfl⟩ hl.1 (Nat.le_of_ble_eq_true rfl) dL_513 (fun H1 locs1 hRM hk hS => ?_)
  have hRC := hRC.kept hk hdCM
  refine lv_icmp_eq (tgt := 1005) hx hb dL_516 (by decide) (fun _ => ?_) (fun hne => absurd rfl hne)
  exact kk _ _ hRC hRM hS
set_option maxHeartbeats 4000000 in
set_option maxRecDepth 100000 in
theorem lc_13 {p : Program} {l : Launch} {e : Env} {s : State} {m : MethodId} {args : Array Value} {below : List Frame} {meth : Method} {c : Code} {H : Heap} {locs : List Loc} {Q : State → Prop} {ls : Array Slot} {wC wM : WV} {b L i : Nat} {xs : Nat → Int32} {σc σm : Mem} {σc1 : Mem} {σm1 : Mem} {r : Int32} (S : CallFix p m c code 4 s args gtbl R_law) (hKC : KS LC wC s) (hKM : KS LM wM s) (hsC : ∀ q, AW LC wC q → s.heap.size ≤ q) (hsM : ∀ q, AW LM wM q → s.heap.size ≤ q) (hdCM : ∀ j, j ∈ LC → ¬ AW LM wM (wC.2.2 j)) (hdMC : ∀ j, j ∈ LM → ¬ AW LC wC (wM.2.2 j)) (hX : va_X b L xs s s.heap) (hbl : b < s.heap.size) (hL : L ≤ 2048) (hi : i + 4 ≤ L) (hRC : Rp EC LC wC σc H) (hRM : Rp EM LM wM σm H) (hS : va_S (fun q => s.heap.size ≤ q) s.heap H locs) (hl : lv_has ls 4 [(0, .ref b), (1, .ref (wC.2.2 0)), (2, .ref (wM.2.2 0)), (3, .int (nI i))]) (h1 : f6_shut σc (xs (i + 1)) (xs (i + 2)) = some (σc1, r)) (h2 : f7_shut σm (xs (i + 1)) (xs (i + 2)) = some (σm1, r)) (kk : ∀ (H1 : Heap) (locs1 : List Loc), Rp EC LC wC σc1 H1 → Rp EM LM wM σm1 H1 → va_S (fun q => s.heap.size ≤ q) s.heap H1 locs1 → W p l e room_1 s m args below meth c H1 locs1 600000 7302250 Q (F0 m 1005 ls [])) : W p l e room_1 s m args below meth c H locs 600000 7302250 Q (F0 m 521 ls []) := by
  obtain ⟨hx, hb, hml, hown, hts⟩ := id S
  have hbA : ¬ (fun q => s.heap.size ≤ q) b := Nat.not_le.mpr hbl
  refine lv_aload_n hx hb dL_521 rfl (lv_at hl 1 rfl) ?_
  refine lv_aload_n hx hb dL_522 rfl (lv_at hl 0 rfl) ?_
  refine lv_iload_n hx hb dL_523 rfl (lv_at hl 3 rfl) ?_
  refine lv_iconst (v := 1) hx hb dL_524 (by decide) ?_
  refine lv_iadd hx hb dL_525 ?_
  refine q_sld (k := i + 1) S hX hbl hbA hS (nI_a1 i) (by omega) hL dL_526 ?_
  refine lv_aload_n hx hb dL_527 rfl (lv_at hl 0 rfl) ?_
  refine lv_iload_n hx hb dL_528 rfl (lv_at hl 3 rfl) ?_
  refine lv_iconst (v := 2) hx hb dL_529 (by decide) ?_
  refine lv_iadd hx hb dL_530 ?_
  refine q_sld (k := i + 2) S hX hbl hbA hS (nI_a2 i) (by omega) hL dL_531 ?_
  refine kL_68 S hKC hRC hS hsC h1 ⟨Nat.le_of_ble_eq_true rfl, Nat.le_of_ble_eq_true rfl⟩ ⟨Nat.le_of_ble_eq_true rfl, Nat.le_of_ble_eq_true rfl⟩ hl.1 (Nat.le_of_ble_eq_true rfl) dL_532 (fun H1 locs1 hRC hk hS => ?_)
  have hRM := hRM.kept hk hdMC
  refine lv_aload_n hx hb dL_535 rfl (lv_at hl 2 rfl) ?_
  refine lv_aload_n hx hb dL_536 rfl (lv_at hl 0 rfl) ?_
  refine lv_iload_n hx hb dL_537 rfl (lv_at hl 3 rfl) ?_
  refine lv_iconst (v := 1) hx hb dL_538 (by decide) ?_
  refine lv_iadd hx hb dL_539 ?_
  refine q_sld (k := i + 1) S hX hbl hbA hS (nI_a1 i) (by omega) hL dL_540 ?_
  refine lv_aload_n hx hb dL_541 rfl (lv_at hl 0 rfl) ?_
  refine lv_iload_n hx hb dL_542 rfl (lv_at hl 3 rfl) ?_
  refine lv_iconst (v := 2) hx hb dL_543 (by decide) ?_
  refine lv_iadd hx hb dL_544 ?_
  refine q_sld (k := i + 2) S hX hbl hbA hS (nI_a2 i) (by omega) hL dL_545 ?_
  refine kL_71 S hKM hRM hS hsM h2 ⟨Nat.le_of_ble_eq_true rfl, Nat.le_of_ble_eq_true rfl⟩ ⟨Nat.le_of_ble_eq_true rfl, Nat.le_of_ble_eq_true rfl⟩ hl.1 (Nat.le_of_ble_eq_true rfl) dL_546 (fun H1 locs1 hRM hk hS => ?_)
  have hRC := hRC.kept hk hdCM
  refine lv_icmp_eq (tgt := 1005) hx hb dL_549 (by decide) (fun _ => ?_) (fun hne => absurd rfl hne)
  exact kk _ _ hRC hRM hS
set_option maxHeartbeats 4000000 in
set_option maxRecDepth 100000 in
theorem lc_14 {p : Program} {l : Launch} {e : Env} {s : State} {m : MethodId} {args : Array Value} {below : List Frame} {meth : Method} {c : Code} {H : Heap} {locs : List Loc} {Q : State → Prop} {ls : Array Slot} {wC wM : WV} {b L i : Nat} {xs : Nat → Int32} {σc σm : Mem} {σc1 : Mem} {σm1 : Mem} {r : Int32} (S : CallFix p m c code 4 s args gtbl R_law) (hKC : KS LC wC s) (hKM : KS LM wM s) (hsC : ∀ q, AW LC wC q → s.heap.size ≤ q) (hsM : ∀ q, AW LM wM q → s.heap.size ≤ q) (hdCM : ∀ j, j ∈ LC → ¬ AW LM wM (wC.2.2 j)) (hdMC : ∀ j, j ∈ LM → ¬ AW LC wC (wM.2.2 j)) (hX : va_X b L xs s s.heap) (hbl : b < s.heap.size) (hL : L ≤ 2048) (hi : i + 4 ≤ L) (hRC : Rp EC LC wC σc H) (hRM : Rp EM LM wM σm H) (hS : va_S (fun q => s.heap.size ≤ q) s.heap H locs) (hl : lv_has ls 4 [(0, .ref b), (1, .ref (wC.2.2 0)), (2, .ref (wM.2.2 0)), (3, .int (nI i))]) (h1 : f6_leave σc (xs (i + 1)) = some (σc1, r)) (h2 : f7_leave σm (xs (i + 1)) = some (σm1, r)) (kk : ∀ (H1 : Heap) (locs1 : List Loc), Rp EC LC wC σc1 H1 → Rp EM LM wM σm1 H1 → va_S (fun q => s.heap.size ≤ q) s.heap H1 locs1 → W p l e room_1 s m args below meth c H1 locs1 600000 7302250 Q (F0 m 1005 ls [])) : W p l e room_1 s m args below meth c H locs 600000 7302250 Q (F0 m 554 ls []) := by
  obtain ⟨hx, hb, hml, hown, hts⟩ := id S
  have hbA : ¬ (fun q => s.heap.size ≤ q) b := Nat.not_le.mpr hbl
  refine lv_aload_n hx hb dL_554 rfl (lv_at hl 1 rfl) ?_
  refine lv_aload_n hx hb dL_555 rfl (lv_at hl 0 rfl) ?_
  refine lv_iload_n hx hb dL_556 rfl (lv_at hl 3 rfl) ?_
  refine lv_iconst (v := 1) hx hb dL_557 (by decide) ?_
  refine lv_iadd hx hb dL_558 ?_
  refine q_sld (k := i + 1) S hX hbl hbA hS (nI_a1 i) (by omega) hL dL_559 ?_
  refine kL_72 S hKC hRC hS hsC h1 ⟨Nat.le_of_ble_eq_true rfl, Nat.le_of_ble_eq_true rfl⟩ ⟨Nat.le_of_ble_eq_true rfl, Nat.le_of_ble_eq_true rfl⟩ hl.1 (Nat.le_of_ble_eq_true rfl) dL_560 (fun H1 locs1 hRC hk hS => ?_)
  have hRM := hRM.kept hk hdMC
  refine lv_aload_n hx hb dL_563 rfl (lv_at hl 2 rfl) ?_
  refine lv_aload_n hx hb dL_564 rfl (lv_at hl 0 rfl) ?_
  refine lv_iload_n hx hb dL_565 rfl (lv_at hl 3 rfl) ?_
  refine lv_iconst (v := 1) hx hb dL_566 (by decide) ?_
  refine lv_iadd hx hb dL_567 ?_
  refine q_sld (k := i + 1) S hX hbl hbA hS (nI_a1 i) (by omega) hL dL_568 ?_
  refine kL_75 S hKM hRM hS hsM h2 ⟨Nat.le_of_ble_eq_true rfl, Nat.le_of_ble_eq_true rfl⟩ ⟨Nat.le_of_ble_eq_true rfl, Nat.le_of_ble_eq_true rfl⟩ hl.1 (Nat.le_of_ble_eq_true rfl) dL_569 (fun H1 locs1 hRM hk hS => ?_)
  have hRC := hRC.kept hk hdCM
  refine lv_icmp_eq (tgt := 1005) hx hb dL_572 (by decide) (fun _ => ?_) (fun hne => absurd rfl hne)
  exact kk _ _ hRC hRM hS
set_option maxHeartbeats 4000000 in
set_option maxRecDepth 100000 in
theorem lc_15 {p : Program} {l : Launch} {e : Env} {s : State} {m : MethodId} {args : Array Value} {below : List Frame} {meth : Method} {c : Code} {H : Heap} {locs : List Loc} {Q : State → Prop} {ls : Array Slot} {wC wM : WV} {b L i : Nat} {xs : Nat → Int32} {σc σm : Mem} {σc1 : Mem} {σm1 : Mem} {r : Int32} (S : CallFix p m c code 4 s args gtbl R_law) (hKC : KS LC wC s) (hKM : KS LM wM s) (hsC : ∀ q, AW LC wC q → s.heap.size ≤ q) (hsM : ∀ q, AW LM wM q → s.heap.size ≤ q) (hdCM : ∀ j, j ∈ LC → ¬ AW LM wM (wC.2.2 j)) (hdMC : ∀ j, j ∈ LM → ¬ AW LC wC (wM.2.2 j)) (hX : va_X b L xs s s.heap) (hbl : b < s.heap.size) (hL : L ≤ 2048) (hi : i + 4 ≤ L) (hRC : Rp EC LC wC σc H) (hRM : Rp EM LM wM σm H) (hS : va_S (fun q => s.heap.size ≤ q) s.heap H locs) (hl : lv_has ls 4 [(0, .ref b), (1, .ref (wC.2.2 0)), (2, .ref (wM.2.2 0)), (3, .int (nI i))]) (h1 : f6_undo σc  = some (σc1, r)) (h2 : f7_undo σm  = some (σm1, r)) (kk : ∀ (H1 : Heap) (locs1 : List Loc), Rp EC LC wC σc1 H1 → Rp EM LM wM σm1 H1 → va_S (fun q => s.heap.size ≤ q) s.heap H1 locs1 → W p l e room_1 s m args below meth c H1 locs1 600000 7302250 Q (F0 m 1005 ls [])) : W p l e room_1 s m args below meth c H locs 600000 7302250 Q (F0 m 577 ls []) := by
  obtain ⟨hx, hb, hml, hown, hts⟩ := id S
  have hbA : ¬ (fun q => s.heap.size ≤ q) b := Nat.not_le.mpr hbl
  refine lv_aload_n hx hb dL_577 rfl (lv_at hl 1 rfl) ?_
  refine kL_76 S hKC hRC hS hsC h1 ⟨Nat.le_of_ble_eq_true rfl, Nat.le_of_ble_eq_true rfl⟩ ⟨Nat.le_of_ble_eq_true rfl, Nat.le_of_ble_eq_true rfl⟩ hl.1 (Nat.le_of_ble_eq_true rfl) dL_578 (fun H1 locs1 hRC hk hS => ?_)
  have hRM := hRM.kept hk hdMC
  refine lv_aload_n hx hb dL_581 rfl (lv_at hl 2 rfl) ?_
  refine kL_79 S hKM hRM hS hsM h2 ⟨Nat.le_of_ble_eq_true rfl, Nat.le_of_ble_eq_true rfl⟩ ⟨Nat.le_of_ble_eq_true rfl, Nat.le_of_ble_eq_true rfl⟩ hl.1 (Nat.le_of_ble_eq_true rfl) dL_582 (fun H1 locs1 hRM hk hS => ?_)
  have hRC := hRC.kept hk hdCM
  refine lv_icmp_eq (tgt := 1005) hx hb dL_585 (by decide) (fun _ => ?_) (fun hne => absurd rfl hne)
  exact kk _ _ hRC hRM hS
set_option maxHeartbeats 4000000 in
set_option maxRecDepth 100000 in
theorem lc_16 {p : Program} {l : Launch} {e : Env} {s : State} {m : MethodId} {args : Array Value} {below : List Frame} {meth : Method} {c : Code} {H : Heap} {locs : List Loc} {Q : State → Prop} {ls : Array Slot} {wC wM : WV} {b L i : Nat} {xs : Nat → Int32} {σc σm : Mem} {σc1 : Mem} {σm1 : Mem} {r : Int32} (S : CallFix p m c code 4 s args gtbl R_law) (hKC : KS LC wC s) (hKM : KS LM wM s) (hsC : ∀ q, AW LC wC q → s.heap.size ≤ q) (hsM : ∀ q, AW LM wM q → s.heap.size ≤ q) (hdCM : ∀ j, j ∈ LC → ¬ AW LM wM (wC.2.2 j)) (hdMC : ∀ j, j ∈ LM → ¬ AW LC wC (wM.2.2 j)) (hX : va_X b L xs s s.heap) (hbl : b < s.heap.size) (hL : L ≤ 2048) (hi : i + 4 ≤ L) (hRC : Rp EC LC wC σc H) (hRM : Rp EM LM wM σm H) (hS : va_S (fun q => s.heap.size ≤ q) s.heap H locs) (hl : lv_has ls 4 [(0, .ref b), (1, .ref (wC.2.2 0)), (2, .ref (wM.2.2 0)), (3, .int (nI i))]) (h1 : f6_cheapest σc (xs (i + 1)) = some (σc1, r)) (h2 : f7_cheapest σm (xs (i + 1)) = some (σm1, r)) (kk : ∀ (H1 : Heap) (locs1 : List Loc), Rp EC LC wC σc1 H1 → Rp EM LM wM σm1 H1 → va_S (fun q => s.heap.size ≤ q) s.heap H1 locs1 → W p l e room_1 s m args below meth c H1 locs1 600000 7302250 Q (F0 m 1005 ls [])) : W p l e room_1 s m args below meth c H locs 600000 7302250 Q (F0 m 590 ls []) := by
  obtain ⟨hx, hb, hml, hown, hts⟩ := id S
  have hbA : ¬ (fun q => s.heap.size ≤ q) b := Nat.not_le.mpr hbl
  refine lv_aload_n hx hb dL_590 rfl (lv_at hl 1 rfl) ?_
  refine lv_aload_n hx hb dL_591 rfl (lv_at hl 0 rfl) ?_
  refine lv_iload_n hx hb dL_592 rfl (lv_at hl 3 rfl) ?_
  refine lv_iconst (v := 1) hx hb dL_593 (by decide) ?_
  refine lv_iadd hx hb dL_594 ?_
  refine q_sld (k := i + 1) S hX hbl hbA hS (nI_a1 i) (by omega) hL dL_595 ?_
  refine kL_80 S hKC hRC hS hsC h1 ⟨Nat.le_of_ble_eq_true rfl, Nat.le_of_ble_eq_true rfl⟩ ⟨Nat.le_of_ble_eq_true rfl, Nat.le_of_ble_eq_true rfl⟩ hl.1 (Nat.le_of_ble_eq_true rfl) dL_596 (fun H1 locs1 hRC hk hS => ?_)
  have hRM := hRM.kept hk hdMC
  refine lv_aload_n hx hb dL_599 rfl (lv_at hl 2 rfl) ?_
  refine lv_aload_n hx hb dL_600 rfl (lv_at hl 0 rfl) ?_
  refine lv_iload_n hx hb dL_601 rfl (lv_at hl 3 rfl) ?_
  refine lv_iconst (v := 1) hx hb dL_602 (by decide) ?_
  refine lv_iadd hx hb dL_603 ?_
  refine q_sld (k := i + 1) S hX hbl hbA hS (nI_a1 i) (by omega) hL dL_604 ?_
  refine kL_83 S hKM hRM hS hsM h2 ⟨Nat.le_of_ble_eq_true rfl, Nat.le_of_ble_eq_true rfl⟩ ⟨Nat.le_of_ble_eq_true rfl, Nat.le_of_ble_eq_true rfl⟩ hl.1 (Nat.le_of_ble_eq_true rfl) dL_605 (fun H1 locs1 hRM hk hS => ?_)
  have hRC := hRC.kept hk hdCM
  refine lv_icmp_eq (tgt := 1005) hx hb dL_608 (by decide) (fun _ => ?_) (fun hne => absurd rfl hne)
  exact kk _ _ hRC hRM hS
set_option maxHeartbeats 4000000 in
set_option maxRecDepth 100000 in
theorem lc_17 {p : Program} {l : Launch} {e : Env} {s : State} {m : MethodId} {args : Array Value} {below : List Frame} {meth : Method} {c : Code} {H : Heap} {locs : List Loc} {Q : State → Prop} {ls : Array Slot} {wC wM : WV} {b L i : Nat} {xs : Nat → Int32} {σc σm : Mem} {σc1 : Mem} {σm1 : Mem} {r : Int32} (S : CallFix p m c code 4 s args gtbl R_law) (hKC : KS LC wC s) (hKM : KS LM wM s) (hsC : ∀ q, AW LC wC q → s.heap.size ≤ q) (hsM : ∀ q, AW LM wM q → s.heap.size ≤ q) (hdCM : ∀ j, j ∈ LC → ¬ AW LM wM (wC.2.2 j)) (hdMC : ∀ j, j ∈ LM → ¬ AW LC wC (wM.2.2 j)) (hX : va_X b L xs s s.heap) (hbl : b < s.heap.size) (hL : L ≤ 2048) (hi : i + 4 ≤ L) (hRC : Rp EC LC wC σc H) (hRM : Rp EM LM wM σm H) (hS : va_S (fun q => s.heap.size ≤ q) s.heap H locs) (hl : lv_has ls 4 [(0, .ref b), (1, .ref (wC.2.2 0)), (2, .ref (wM.2.2 0)), (3, .int (nI i))]) (h1 : f6_lead σc (xs (i + 1)) = some (σc1, r)) (h2 : f7_lead σm (xs (i + 1)) = some (σm1, r)) (kk : ∀ (H1 : Heap) (locs1 : List Loc), Rp EC LC wC σc1 H1 → Rp EM LM wM σm1 H1 → va_S (fun q => s.heap.size ≤ q) s.heap H1 locs1 → W p l e room_1 s m args below meth c H1 locs1 600000 7302250 Q (F0 m 1005 ls [])) : W p l e room_1 s m args below meth c H locs 600000 7302250 Q (F0 m 613 ls []) := by
  obtain ⟨hx, hb, hml, hown, hts⟩ := id S
  have hbA : ¬ (fun q => s.heap.size ≤ q) b := Nat.not_le.mpr hbl
  refine lv_aload_n hx hb dL_613 rfl (lv_at hl 1 rfl) ?_
  refine lv_aload_n hx hb dL_614 rfl (lv_at hl 0 rfl) ?_
  refine lv_iload_n hx hb dL_615 rfl (lv_at hl 3 rfl) ?_
  refine lv_iconst (v := 1) hx hb dL_616 (by decide) ?_
  refine lv_iadd hx hb dL_617 ?_
  refine q_sld (k := i + 1) S hX hbl hbA hS (nI_a1 i) (by omega) hL dL_618 ?_
  refine kL_84 S hKC hRC hS hsC h1 ⟨Nat.le_of_ble_eq_true rfl, Nat.le_of_ble_eq_true rfl⟩ ⟨Nat.le_of_ble_eq_true rfl, Nat.le_of_ble_eq_true rfl⟩ hl.1 (Nat.le_of_ble_eq_true rfl) dL_619 (fun H1 locs1 hRC hk hS => ?_)
  have hRM := hRM.kept hk hdMC
  refine lv_aload_n hx hb dL_622 rfl (lv_at hl 2 rfl) ?_
  refine lv_aload_n hx hb dL_623 rfl (lv_at hl 0 rfl) ?_
  refine lv_iload_n hx hb dL_624 rfl (lv_at hl 3 rfl) ?_
  refine lv_iconst (v := 1) hx hb dL_625 (by decide) ?_
  refine lv_iadd hx hb dL_626 ?_
  refine q_sld (k := i + 1) S hX hbl hbA hS (nI_a1 i) (by omega) hL dL_627 ?_
  refine kL_87 S hKM hRM hS hsM h2 ⟨Nat.le_of_ble_eq_true rfl, Nat.le_of_ble_eq_true rfl⟩ ⟨Nat.le_of_ble_eq_true rfl, Nat.le_of_ble_eq_true rfl⟩ hl.1 (Nat.le_of_ble_eq_true rfl) dL_628 (fun H1 locs1 hRM hk hS => ?_)
  have hRC := hRC.kept hk hdCM
  refine lv_icmp_eq (tgt := 1005) hx hb dL_631 (by decide) (fun _ => ?_) (fun hne => absurd rfl hne)
  exact kk _ _ hRC hRM hS
set_option maxHeartbeats 4000000 in
set_option maxRecDepth 100000 in
theorem lc_18 {p : Program} {l : Launch} {e : Env} {s : State} {m : MethodId} {args : Array Value} {below : List Frame} {meth : Method} {c : Code} {H : Heap} {locs : List Loc} {Q : State → Prop} {ls : Array Slot} {wC wM : WV} {b L i : Nat} {xs : Nat → Int32} {σc σm : Mem} {σc1 : Mem} {σm1 : Mem} {r : Int32} (S : CallFix p m c code 4 s args gtbl R_law) (hKC : KS LC wC s) (hKM : KS LM wM s) (hsC : ∀ q, AW LC wC q → s.heap.size ≤ q) (hsM : ∀ q, AW LM wM q → s.heap.size ≤ q) (hdCM : ∀ j, j ∈ LC → ¬ AW LM wM (wC.2.2 j)) (hdMC : ∀ j, j ∈ LM → ¬ AW LC wC (wM.2.2 j)) (hX : va_X b L xs s s.heap) (hbl : b < s.heap.size) (hL : L ≤ 2048) (hi : i + 4 ≤ L) (hRC : Rp EC LC wC σc H) (hRM : Rp EM LM wM σm H) (hS : va_S (fun q => s.heap.size ≤ q) s.heap H locs) (hl : lv_has ls 4 [(0, .ref b), (1, .ref (wC.2.2 0)), (2, .ref (wM.2.2 0)), (3, .int (nI i))]) (h1 : f6_more σc (xs (i + 1)) (xs (i + 2)) (xs (i + 3)) = some (σc1, r)) (h2 : f7_more σm (xs (i + 1)) (xs (i + 2)) (xs (i + 3)) = some (σm1, r)) (kk : ∀ (H1 : Heap) (locs1 : List Loc), Rp EC LC wC σc1 H1 → Rp EM LM wM σm1 H1 → va_S (fun q => s.heap.size ≤ q) s.heap H1 locs1 → W p l e room_1 s m args below meth c H1 locs1 600000 7302250 Q (F0 m 1005 ls [])) : W p l e room_1 s m args below meth c H locs 600000 7302250 Q (F0 m 636 ls []) := by
  obtain ⟨hx, hb, hml, hown, hts⟩ := id S
  have hbA : ¬ (fun q => s.heap.size ≤ q) b := Nat.not_le.mpr hbl
  refine lv_aload_n hx hb dL_636 rfl (lv_at hl 1 rfl) ?_
  refine lv_aload_n hx hb dL_637 rfl (lv_at hl 0 rfl) ?_
  refine lv_iload_n hx hb dL_638 rfl (lv_at hl 3 rfl) ?_
  refine lv_iconst (v := 1) hx hb dL_639 (by decide) ?_
  refine lv_iadd hx hb dL_640 ?_
  refine q_sld (k := i + 1) S hX hbl hbA hS (nI_a1 i) (by omega) hL dL_641 ?_
  refine lv_aload_n hx hb dL_642 rfl (lv_at hl 0 rfl) ?_
  refine lv_iload_n hx hb dL_643 rfl (lv_at hl 3 rfl) ?_
  refine lv_iconst (v := 2) hx hb dL_644 (by decide) ?_
  refine lv_iadd hx hb dL_645 ?_
  refine q_sld (k := i + 2) S hX hbl hbA hS (nI_a2 i) (by omega) hL dL_646 ?_
  refine lv_aload_n hx hb dL_647 rfl (lv_at hl 0 rfl) ?_
  refine lv_iload_n hx hb dL_648 rfl (lv_at hl 3 rfl) ?_
  refine lv_iconst (v := 3) hx hb dL_649 (by decide) ?_
  refine lv_iadd hx hb dL_650 ?_
  refine q_sld (k := i + 3) S hX hbl hbA hS (nI_a3 i) (by omega) hL dL_651 ?_
  refine kL_88 S hKC hRC hS hsC h1 ⟨Nat.le_of_ble_eq_true rfl, Nat.le_of_ble_eq_true rfl⟩ ⟨Nat.le_of_ble_eq_true rfl, Nat.le_of_ble_eq_true rfl⟩ hl.1 (Nat.le_of_ble_eq_true rfl) dL_652 (fun H1 locs1 hRC hk hS => ?_)
  have hRM := hRM.kept hk hdMC
  refine lv_aload_n hx hb dL_655 rfl (lv_at hl 2 rfl) ?_
  refine lv_aload_n hx hb dL_656 rfl (lv_at hl 0 rfl) ?_
  refine lv_iload_n hx hb dL_657 rfl (lv_at hl 3 rfl) ?_
  refine lv_iconst (v := 1) hx hb dL_658 (by decide) ?_
  refine lv_iadd hx hb dL_659 ?_
  refine q_sld (k := i + 1) S hX hbl hbA hS (nI_a1 i) (by omega) hL dL_660 ?_
  refine lv_aload_n hx hb dL_661 rfl (lv_at hl 0 rfl) ?_
  refine lv_iload_n hx hb dL_662 rfl (lv_at hl 3 rfl) ?_
  refine lv_iconst (v := 2) hx hb dL_663 (by decide) ?_
  refine lv_iadd hx hb dL_664 ?_
  refine q_sld (k := i + 2) S hX hbl hbA hS (nI_a2 i) (by omega) hL dL_665 ?_
  refine lv_aload_n hx hb dL_666 rfl (lv_at hl 0 rfl) ?_
  refine lv_iload_n hx hb dL_667 rfl (lv_at hl 3 rfl) ?_
  refine lv_iconst (v := 3) hx hb dL_668 (by decide) ?_
  refine lv_iadd hx hb dL_669 ?_
  refine q_sld (k := i + 3) S hX hbl hbA hS (nI_a3 i) (by omega) hL dL_670 ?_
  refine kL_92 S hKM hRM hS hsM h2 ⟨Nat.le_of_ble_eq_true rfl, Nat.le_of_ble_eq_true rfl⟩ ⟨Nat.le_of_ble_eq_true rfl, Nat.le_of_ble_eq_true rfl⟩ hl.1 (Nat.le_of_ble_eq_true rfl) dL_671 (fun H1 locs1 hRM hk hS => ?_)
  have hRC := hRC.kept hk hdCM
  refine lv_icmp_eq (tgt := 1005) hx hb dL_674 (by decide) (fun _ => ?_) (fun hne => absurd rfl hne)
  exact kk _ _ hRC hRM hS
set_option maxHeartbeats 4000000 in
set_option maxRecDepth 100000 in
theorem lc_19 {p : Program} {l : Launch} {e : Env} {s : State} {m : MethodId} {args : Array Value} {below : List Frame} {meth : Method} {c : Code} {H : Heap} {locs : List Loc} {Q : State → Prop} {ls : Array Slot} {wC wM : WV} {b L i : Nat} {xs : Nat → Int32} {σc σm : Mem} {σc1 : Mem} {σm1 : Mem} {r : Int32} (S : CallFix p m c code 4 s args gtbl R_law) (hKC : KS LC wC s) (hKM : KS LM wM s) (hsC : ∀ q, AW LC wC q → s.heap.size ≤ q) (hsM : ∀ q, AW LM wM q → s.heap.size ≤ q) (hdCM : ∀ j, j ∈ LC → ¬ AW LM wM (wC.2.2 j)) (hdMC : ∀ j, j ∈ LM → ¬ AW LC wC (wM.2.2 j)) (hX : va_X b L xs s s.heap) (hbl : b < s.heap.size) (hL : L ≤ 2048) (hi : i + 4 ≤ L) (hRC : Rp EC LC wC σc H) (hRM : Rp EM LM wM σm H) (hS : va_S (fun q => s.heap.size ≤ q) s.heap H locs) (hl : lv_has ls 4 [(0, .ref b), (1, .ref (wC.2.2 0)), (2, .ref (wM.2.2 0)), (3, .int (nI i))]) (h1 : f6_dinner σc (xs (i + 1)) (xs (i + 2)) = some (σc1, r)) (h2 : f7_dinner σm (xs (i + 1)) (xs (i + 2)) = some (σm1, r)) (kk : ∀ (H1 : Heap) (locs1 : List Loc), Rp EC LC wC σc1 H1 → Rp EM LM wM σm1 H1 → va_S (fun q => s.heap.size ≤ q) s.heap H1 locs1 → W p l e room_1 s m args below meth c H1 locs1 600000 7302250 Q (F0 m 1005 ls [])) : W p l e room_1 s m args below meth c H locs 600000 7302250 Q (F0 m 679 ls []) := by
  obtain ⟨hx, hb, hml, hown, hts⟩ := id S
  have hbA : ¬ (fun q => s.heap.size ≤ q) b := Nat.not_le.mpr hbl
  refine lv_aload_n hx hb dL_679 rfl (lv_at hl 1 rfl) ?_
  refine lv_aload_n hx hb dL_680 rfl (lv_at hl 0 rfl) ?_
  refine lv_iload_n hx hb dL_681 rfl (lv_at hl 3 rfl) ?_
  refine lv_iconst (v := 1) hx hb dL_682 (by decide) ?_
  refine lv_iadd hx hb dL_683 ?_
  refine q_sld (k := i + 1) S hX hbl hbA hS (nI_a1 i) (by omega) hL dL_684 ?_
  refine lv_aload_n hx hb dL_685 rfl (lv_at hl 0 rfl) ?_
  refine lv_iload_n hx hb dL_686 rfl (lv_at hl 3 rfl) ?_
  refine lv_iconst (v := 2) hx hb dL_687 (by decide) ?_
  refine lv_iadd hx hb dL_688 ?_
  refine q_sld (k := i + 2) S hX hbl hbA hS (nI_a2 i) (by omega) hL dL_689 ?_
  refine kL_93 S hKC hRC hS hsC h1 ⟨Nat.le_of_ble_eq_true rfl, Nat.le_of_ble_eq_true rfl⟩ ⟨Nat.le_of_ble_eq_true rfl, Nat.le_of_ble_eq_true rfl⟩ hl.1 (Nat.le_of_ble_eq_true rfl) dL_690 (fun H1 locs1 hRC hk hS => ?_)
  have hRM := hRM.kept hk hdMC
  refine lv_aload_n hx hb dL_693 rfl (lv_at hl 2 rfl) ?_
  refine lv_aload_n hx hb dL_694 rfl (lv_at hl 0 rfl) ?_
  refine lv_iload_n hx hb dL_695 rfl (lv_at hl 3 rfl) ?_
  refine lv_iconst (v := 1) hx hb dL_696 (by decide) ?_
  refine lv_iadd hx hb dL_697 ?_
  refine q_sld (k := i + 1) S hX hbl hbA hS (nI_a1 i) (by omega) hL dL_698 ?_
  refine lv_aload_n hx hb dL_699 rfl (lv_at hl 0 rfl) ?_
  refine lv_iload_n hx hb dL_700 rfl (lv_at hl 3 rfl) ?_
  refine lv_iconst (v := 2) hx hb dL_701 (by decide) ?_
  refine lv_iadd hx hb dL_702 ?_
  refine q_sld (k := i + 2) S hX hbl hbA hS (nI_a2 i) (by omega) hL dL_703 ?_
  refine kL_96 S hKM hRM hS hsM h2 ⟨Nat.le_of_ble_eq_true rfl, Nat.le_of_ble_eq_true rfl⟩ ⟨Nat.le_of_ble_eq_true rfl, Nat.le_of_ble_eq_true rfl⟩ hl.1 (Nat.le_of_ble_eq_true rfl) dL_704 (fun H1 locs1 hRM hk hS => ?_)
  have hRC := hRC.kept hk hdCM
  refine lv_icmp_eq (tgt := 1005) hx hb dL_707 (by decide) (fun _ => ?_) (fun hne => absurd rfl hne)
  exact kk _ _ hRC hRM hS
set_option maxHeartbeats 4000000 in
set_option maxRecDepth 100000 in
theorem lc_20 {p : Program} {l : Launch} {e : Env} {s : State} {m : MethodId} {args : Array Value} {below : List Frame} {meth : Method} {c : Code} {H : Heap} {locs : List Loc} {Q : State → Prop} {ls : Array Slot} {wC wM : WV} {b L i : Nat} {xs : Nat → Int32} {σc σm : Mem} {r : Int32} (S : CallFix p m c code 4 s args gtbl R_law) (hKC : KS LC wC s) (hKM : KS LM wM s) (hsC : ∀ q, AW LC wC q → s.heap.size ≤ q) (hsM : ∀ q, AW LM wM q → s.heap.size ≤ q) (hdCM : ∀ j, j ∈ LC → ¬ AW LM wM (wC.2.2 j)) (hdMC : ∀ j, j ∈ LM → ¬ AW LC wC (wM.2.2 j)) (hX : va_X b L xs s s.heap) (hbl : b < s.heap.size) (hL : L ≤ 2048) (hi : i + 4 ≤ L) (hRC : Rp EC LC wC σc H) (hRM : Rp EM LM wM σm H) (hS : va_S (fun q => s.heap.size ≤ q) s.heap H locs) (hl : lv_has ls 4 [(0, .ref b), (1, .ref (wC.2.2 0)), (2, .ref (wM.2.2 0)), (3, .int (nI i))]) (h1 : f6_byNow σc (xs (i + 1)) (xs (i + 2)) (xs (i + 3)) = some r) (h2 : f7_byNow σm (xs (i + 1)) (xs (i + 2)) (xs (i + 3)) = some r) (kk : ∀ (H1 : Heap) (locs1 : List Loc), Rp EC LC wC σc H1 → Rp EM LM wM σm H1 → va_S (fun q => s.heap.size ≤ q) s.heap H1 locs1 → W p l e room_1 s m args below meth c H1 locs1 600000 7302250 Q (F0 m 1005 ls [])) : W p l e room_1 s m args below meth c H locs 600000 7302250 Q (F0 m 712 ls []) := by
  obtain ⟨hx, hb, hml, hown, hts⟩ := id S
  have hbA : ¬ (fun q => s.heap.size ≤ q) b := Nat.not_le.mpr hbl
  refine lv_aload_n hx hb dL_712 rfl (lv_at hl 1 rfl) ?_
  refine lv_aload_n hx hb dL_713 rfl (lv_at hl 0 rfl) ?_
  refine lv_iload_n hx hb dL_714 rfl (lv_at hl 3 rfl) ?_
  refine lv_iconst (v := 1) hx hb dL_715 (by decide) ?_
  refine lv_iadd hx hb dL_716 ?_
  refine q_sld (k := i + 1) S hX hbl hbA hS (nI_a1 i) (by omega) hL dL_717 ?_
  refine lv_aload_n hx hb dL_718 rfl (lv_at hl 0 rfl) ?_
  refine lv_iload_n hx hb dL_719 rfl (lv_at hl 3 rfl) ?_
  refine lv_iconst (v := 2) hx hb dL_720 (by decide) ?_
  refine lv_iadd hx hb dL_721 ?_
  refine q_sld (k := i + 2) S hX hbl hbA hS (nI_a2 i) (by omega) hL dL_722 ?_
  refine lv_aload_n hx hb dL_723 rfl (lv_at hl 0 rfl) ?_
  refine lv_iload_n hx hb dL_724 rfl (lv_at hl 3 rfl) ?_
  refine lv_iconst (v := 3) hx hb dL_725 (by decide) ?_
  refine lv_iadd hx hb dL_726 ?_
  refine q_sld (k := i + 3) S hX hbl hbA hS (nI_a3 i) (by omega) hL dL_727 ?_
  refine kL_97 S hKC hRC h1 ⟨Nat.le_of_ble_eq_true rfl, Nat.le_of_ble_eq_true rfl⟩ ⟨Nat.le_of_ble_eq_true rfl, Nat.le_of_ble_eq_true rfl⟩ hl.1 (Nat.le_of_ble_eq_true rfl) dL_728 ?_
  refine lv_aload_n hx hb dL_731 rfl (lv_at hl 2 rfl) ?_
  refine lv_aload_n hx hb dL_732 rfl (lv_at hl 0 rfl) ?_
  refine lv_iload_n hx hb dL_733 rfl (lv_at hl 3 rfl) ?_
  refine lv_iconst (v := 1) hx hb dL_734 (by decide) ?_
  refine lv_iadd hx hb dL_735 ?_
  refine q_sld (k := i + 1) S hX hbl hbA hS (nI_a1 i) (by omega) hL dL_736 ?_
  refine lv_aload_n hx hb dL_737 rfl (lv_at hl 0 rfl) ?_
  refine lv_iload_n hx hb dL_738 rfl (lv_at hl 3 rfl) ?_
  refine lv_iconst (v := 2) hx hb dL_739 (by decide) ?_
  refine lv_iadd hx hb dL_740 ?_
  refine q_sld (k := i + 2) S hX hbl hbA hS (nI_a2 i) (by omega) hL dL_741 ?_
  refine lv_aload_n hx hb dL_742 rfl (lv_at hl 0 rfl) ?_
  refine lv_iload_n hx hb dL_743 rfl (lv_at hl 3 rfl) ?_
  refine lv_iconst (v := 3) hx hb dL_744 (by decide) ?_
  refine lv_iadd hx hb dL_745 ?_
  refine q_sld (k := i + 3) S hX hbl hbA hS (nI_a3 i) (by omega) hL dL_746 ?_
  refine kL_100 S hKM hRM h2 ⟨Nat.le_of_ble_eq_true rfl, Nat.le_of_ble_eq_true rfl⟩ ⟨Nat.le_of_ble_eq_true rfl, Nat.le_of_ble_eq_true rfl⟩ hl.1 (Nat.le_of_ble_eq_true rfl) dL_747 ?_
  refine lv_icmp_eq (tgt := 1005) hx hb dL_750 (by decide) (fun _ => ?_) (fun hne => absurd rfl hne)
  exact kk _ _ hRC hRM hS
set_option maxHeartbeats 4000000 in
set_option maxRecDepth 100000 in
theorem lc_21 {p : Program} {l : Launch} {e : Env} {s : State} {m : MethodId} {args : Array Value} {below : List Frame} {meth : Method} {c : Code} {H : Heap} {locs : List Loc} {Q : State → Prop} {ls : Array Slot} {wC wM : WV} {b L i : Nat} {xs : Nat → Int32} {σc σm : Mem} {r : Int32} (S : CallFix p m c code 4 s args gtbl R_law) (hKC : KS LC wC s) (hKM : KS LM wM s) (hsC : ∀ q, AW LC wC q → s.heap.size ≤ q) (hsM : ∀ q, AW LM wM q → s.heap.size ≤ q) (hdCM : ∀ j, j ∈ LC → ¬ AW LM wM (wC.2.2 j)) (hdMC : ∀ j, j ∈ LM → ¬ AW LC wC (wM.2.2 j)) (hX : va_X b L xs s s.heap) (hbl : b < s.heap.size) (hL : L ≤ 2048) (hi : i + 4 ≤ L) (hRC : Rp EC LC wC σc H) (hRM : Rp EM LM wM σm H) (hS : va_S (fun q => s.heap.size ≤ q) s.heap H locs) (hl : lv_has ls 4 [(0, .ref b), (1, .ref (wC.2.2 0)), (2, .ref (wM.2.2 0)), (3, .int (nI i))]) (h1 : f6_which σc (xs (i + 1)) = some r) (h2 : f7_which σm (xs (i + 1)) = some r) (kk : ∀ (H1 : Heap) (locs1 : List Loc), Rp EC LC wC σc H1 → Rp EM LM wM σm H1 → va_S (fun q => s.heap.size ≤ q) s.heap H1 locs1 → W p l e room_1 s m args below meth c H1 locs1 600000 7302250 Q (F0 m 1005 ls [])) : W p l e room_1 s m args below meth c H locs 600000 7302250 Q (F0 m 755 ls []) := by
  obtain ⟨hx, hb, hml, hown, hts⟩ := id S
  have hbA : ¬ (fun q => s.heap.size ≤ q) b := Nat.not_le.mpr hbl
  refine lv_aload_n hx hb dL_755 rfl (lv_at hl 1 rfl) ?_
  refine lv_aload_n hx hb dL_756 rfl (lv_at hl 0 rfl) ?_
  refine lv_iload_n hx hb dL_757 rfl (lv_at hl 3 rfl) ?_
  refine lv_iconst (v := 1) hx hb dL_758 (by decide) ?_
  refine lv_iadd hx hb dL_759 ?_
  refine q_sld (k := i + 1) S hX hbl hbA hS (nI_a1 i) (by omega) hL dL_760 ?_
  refine kL_101 S hKC hRC h1 ⟨Nat.le_of_ble_eq_true rfl, Nat.le_of_ble_eq_true rfl⟩ ⟨Nat.le_of_ble_eq_true rfl, Nat.le_of_ble_eq_true rfl⟩ hl.1 (Nat.le_of_ble_eq_true rfl) dL_761 ?_
  refine lv_aload_n hx hb dL_764 rfl (lv_at hl 2 rfl) ?_
  refine lv_aload_n hx hb dL_765 rfl (lv_at hl 0 rfl) ?_
  refine lv_iload_n hx hb dL_766 rfl (lv_at hl 3 rfl) ?_
  refine lv_iconst (v := 1) hx hb dL_767 (by decide) ?_
  refine lv_iadd hx hb dL_768 ?_
  refine q_sld (k := i + 1) S hX hbl hbA hS (nI_a1 i) (by omega) hL dL_769 ?_
  refine kL_104 S hKM hRM h2 ⟨Nat.le_of_ble_eq_true rfl, Nat.le_of_ble_eq_true rfl⟩ ⟨Nat.le_of_ble_eq_true rfl, Nat.le_of_ble_eq_true rfl⟩ hl.1 (Nat.le_of_ble_eq_true rfl) dL_770 ?_
  refine lv_icmp_eq (tgt := 1005) hx hb dL_773 (by decide) (fun _ => ?_) (fun hne => absurd rfl hne)
  exact kk _ _ hRC hRM hS
set_option maxHeartbeats 4000000 in
set_option maxRecDepth 100000 in
theorem lc_22 {p : Program} {l : Launch} {e : Env} {s : State} {m : MethodId} {args : Array Value} {below : List Frame} {meth : Method} {c : Code} {H : Heap} {locs : List Loc} {Q : State → Prop} {ls : Array Slot} {wC wM : WV} {b L i : Nat} {xs : Nat → Int32} {σc σm : Mem} {σc1 : Mem} {σm1 : Mem} {r : Int32} (S : CallFix p m c code 4 s args gtbl R_law) (hKC : KS LC wC s) (hKM : KS LM wM s) (hsC : ∀ q, AW LC wC q → s.heap.size ≤ q) (hsM : ∀ q, AW LM wM q → s.heap.size ≤ q) (hdCM : ∀ j, j ∈ LC → ¬ AW LM wM (wC.2.2 j)) (hdMC : ∀ j, j ∈ LM → ¬ AW LC wC (wM.2.2 j)) (hX : va_X b L xs s s.heap) (hbl : b < s.heap.size) (hL : L ≤ 2048) (hi : i + 4 ≤ L) (hRC : Rp EC LC wC σc H) (hRM : Rp EM LM wM σm H) (hS : va_S (fun q => s.heap.size ≤ q) s.heap H locs) (hl : lv_has ls 4 [(0, .ref b), (1, .ref (wC.2.2 0)), (2, .ref (wM.2.2 0)), (3, .int (nI i))]) (h1 : f6_seen σc (xs (i + 1)) (xs (i + 2)) = some (σc1, r)) (h2 : f7_seen σm (xs (i + 1)) (xs (i + 2)) = some (σm1, r)) (kk : ∀ (H1 : Heap) (locs1 : List Loc), Rp EC LC wC σc1 H1 → Rp EM LM wM σm1 H1 → va_S (fun q => s.heap.size ≤ q) s.heap H1 locs1 → W p l e room_1 s m args below meth c H1 locs1 600000 7302250 Q (F0 m 1005 ls [])) : W p l e room_1 s m args below meth c H locs 600000 7302250 Q (F0 m 778 ls []) := by
  obtain ⟨hx, hb, hml, hown, hts⟩ := id S
  have hbA : ¬ (fun q => s.heap.size ≤ q) b := Nat.not_le.mpr hbl
  refine lv_aload_n hx hb dL_778 rfl (lv_at hl 1 rfl) ?_
  refine lv_aload_n hx hb dL_779 rfl (lv_at hl 0 rfl) ?_
  refine lv_iload_n hx hb dL_780 rfl (lv_at hl 3 rfl) ?_
  refine lv_iconst (v := 1) hx hb dL_781 (by decide) ?_
  refine lv_iadd hx hb dL_782 ?_
  refine q_sld (k := i + 1) S hX hbl hbA hS (nI_a1 i) (by omega) hL dL_783 ?_
  refine lv_aload_n hx hb dL_784 rfl (lv_at hl 0 rfl) ?_
  refine lv_iload_n hx hb dL_785 rfl (lv_at hl 3 rfl) ?_
  refine lv_iconst (v := 2) hx hb dL_786 (by decide) ?_
  refine lv_iadd hx hb dL_787 ?_
  refine q_sld (k := i + 2) S hX hbl hbA hS (nI_a2 i) (by omega) hL dL_788 ?_
  refine kL_105 S hKC hRC hS hsC h1 ⟨Nat.le_of_ble_eq_true rfl, Nat.le_of_ble_eq_true rfl⟩ ⟨Nat.le_of_ble_eq_true rfl, Nat.le_of_ble_eq_true rfl⟩ hl.1 (Nat.le_of_ble_eq_true rfl) dL_789 (fun H1 locs1 hRC hk hS => ?_)
  have hRM := hRM.kept hk hdMC
  refine lv_aload_n hx hb dL_792 rfl (lv_at hl 2 rfl) ?_
  refine lv_aload_n hx hb dL_793 rfl (lv_at hl 0 rfl) ?_
  refine lv_iload_n hx hb dL_794 rfl (lv_at hl 3 rfl) ?_
  refine lv_iconst (v := 1) hx hb dL_795 (by decide) ?_
  refine lv_iadd hx hb dL_796 ?_
  refine q_sld (k := i + 1) S hX hbl hbA hS (nI_a1 i) (by omega) hL dL_797 ?_
  refine lv_aload_n hx hb dL_798 rfl (lv_at hl 0 rfl) ?_
  refine lv_iload_n hx hb dL_799 rfl (lv_at hl 3 rfl) ?_
  refine lv_iconst (v := 2) hx hb dL_800 (by decide) ?_
  refine lv_iadd hx hb dL_801 ?_
  refine q_sld (k := i + 2) S hX hbl hbA hS (nI_a2 i) (by omega) hL dL_802 ?_
  refine kL_108 S hKM hRM hS hsM h2 ⟨Nat.le_of_ble_eq_true rfl, Nat.le_of_ble_eq_true rfl⟩ ⟨Nat.le_of_ble_eq_true rfl, Nat.le_of_ble_eq_true rfl⟩ hl.1 (Nat.le_of_ble_eq_true rfl) dL_803 (fun H1 locs1 hRM hk hS => ?_)
  have hRC := hRC.kept hk hdCM
  refine lv_icmp_eq (tgt := 1005) hx hb dL_806 (by decide) (fun _ => ?_) (fun hne => absurd rfl hne)
  exact kk _ _ hRC hRM hS
set_option maxHeartbeats 4000000 in
set_option maxRecDepth 100000 in
theorem lc_23 {p : Program} {l : Launch} {e : Env} {s : State} {m : MethodId} {args : Array Value} {below : List Frame} {meth : Method} {c : Code} {H : Heap} {locs : List Loc} {Q : State → Prop} {ls : Array Slot} {wC wM : WV} {b L i : Nat} {xs : Nat → Int32} {σc σm : Mem} {σc1 : Mem} {σm1 : Mem} {r : Int32} (S : CallFix p m c code 4 s args gtbl R_law) (hKC : KS LC wC s) (hKM : KS LM wM s) (hsC : ∀ q, AW LC wC q → s.heap.size ≤ q) (hsM : ∀ q, AW LM wM q → s.heap.size ≤ q) (hdCM : ∀ j, j ∈ LC → ¬ AW LM wM (wC.2.2 j)) (hdMC : ∀ j, j ∈ LM → ¬ AW LC wC (wM.2.2 j)) (hX : va_X b L xs s s.heap) (hbl : b < s.heap.size) (hL : L ≤ 2048) (hi : i + 4 ≤ L) (hRC : Rp EC LC wC σc H) (hRM : Rp EM LM wM σm H) (hS : va_S (fun q => s.heap.size ≤ q) s.heap H locs) (hl : lv_has ls 4 [(0, .ref b), (1, .ref (wC.2.2 0)), (2, .ref (wM.2.2 0)), (3, .int (nI i))]) (h1 : f6_forget σc  = some (σc1, r)) (h2 : f7_forget σm  = some (σm1, r)) (kk : ∀ (H1 : Heap) (locs1 : List Loc), Rp EC LC wC σc1 H1 → Rp EM LM wM σm1 H1 → va_S (fun q => s.heap.size ≤ q) s.heap H1 locs1 → W p l e room_1 s m args below meth c H1 locs1 600000 7302250 Q (F0 m 1005 ls [])) : W p l e room_1 s m args below meth c H locs 600000 7302250 Q (F0 m 811 ls []) := by
  obtain ⟨hx, hb, hml, hown, hts⟩ := id S
  have hbA : ¬ (fun q => s.heap.size ≤ q) b := Nat.not_le.mpr hbl
  refine lv_aload_n hx hb dL_811 rfl (lv_at hl 1 rfl) ?_
  refine kL_109 S hKC hRC hS hsC h1 ⟨Nat.le_of_ble_eq_true rfl, Nat.le_of_ble_eq_true rfl⟩ ⟨Nat.le_of_ble_eq_true rfl, Nat.le_of_ble_eq_true rfl⟩ hl.1 (Nat.le_of_ble_eq_true rfl) dL_812 (fun H1 locs1 hRC hk hS => ?_)
  have hRM := hRM.kept hk hdMC
  refine lv_aload_n hx hb dL_815 rfl (lv_at hl 2 rfl) ?_
  refine kL_112 S hKM hRM hS hsM h2 ⟨Nat.le_of_ble_eq_true rfl, Nat.le_of_ble_eq_true rfl⟩ ⟨Nat.le_of_ble_eq_true rfl, Nat.le_of_ble_eq_true rfl⟩ hl.1 (Nat.le_of_ble_eq_true rfl) dL_816 (fun H1 locs1 hRM hk hS => ?_)
  have hRC := hRC.kept hk hdCM
  refine lv_icmp_eq (tgt := 1005) hx hb dL_819 (by decide) (fun _ => ?_) (fun hne => absurd rfl hne)
  exact kk _ _ hRC hRM hS
set_option maxHeartbeats 4000000 in
set_option maxRecDepth 100000 in
theorem lc_24 {p : Program} {l : Launch} {e : Env} {s : State} {m : MethodId} {args : Array Value} {below : List Frame} {meth : Method} {c : Code} {H : Heap} {locs : List Loc} {Q : State → Prop} {ls : Array Slot} {wC wM : WV} {b L i : Nat} {xs : Nat → Int32} {σc σm : Mem} {σc1 : Mem} {σm1 : Mem} {r : Int32} (S : CallFix p m c code 4 s args gtbl R_law) (hKC : KS LC wC s) (hKM : KS LM wM s) (hsC : ∀ q, AW LC wC q → s.heap.size ≤ q) (hsM : ∀ q, AW LM wM q → s.heap.size ≤ q) (hdCM : ∀ j, j ∈ LC → ¬ AW LM wM (wC.2.2 j)) (hdMC : ∀ j, j ∈ LM → ¬ AW LC wC (wM.2.2 j)) (hX : va_X b L xs s s.heap) (hbl : b < s.heap.size) (hL : L ≤ 2048) (hi : i + 4 ≤ L) (hRC : Rp EC LC wC σc H) (hRM : Rp EM LM wM σm H) (hS : va_S (fun q => s.heap.size ≤ q) s.heap H locs) (hl : lv_has ls 4 [(0, .ref b), (1, .ref (wC.2.2 0)), (2, .ref (wM.2.2 0)), (3, .int (nI i))]) (h1 : f6_fits σc  = some (σc1, r)) (h2 : f7_fits σm  = some (σm1, r)) (kk : ∀ (H1 : Heap) (locs1 : List Loc), Rp EC LC wC σc1 H1 → Rp EM LM wM σm1 H1 → va_S (fun q => s.heap.size ≤ q) s.heap H1 locs1 → W p l e room_1 s m args below meth c H1 locs1 600000 7302250 Q (F0 m 1005 ls [])) : W p l e room_1 s m args below meth c H locs 600000 7302250 Q (F0 m 824 ls []) := by
  obtain ⟨hx, hb, hml, hown, hts⟩ := id S
  have hbA : ¬ (fun q => s.heap.size ≤ q) b := Nat.not_le.mpr hbl
  refine lv_aload_n hx hb dL_824 rfl (lv_at hl 1 rfl) ?_
  refine kL_113 S hKC hRC hS hsC h1 ⟨Nat.le_of_ble_eq_true rfl, Nat.le_of_ble_eq_true rfl⟩ ⟨Nat.le_of_ble_eq_true rfl, Nat.le_of_ble_eq_true rfl⟩ hl.1 (Nat.le_of_ble_eq_true rfl) dL_825 (fun H1 locs1 hRC hk hS => ?_)
  have hRM := hRM.kept hk hdMC
  refine lv_aload_n hx hb dL_828 rfl (lv_at hl 2 rfl) ?_
  refine kL_116 S hKM hRM hS hsM h2 ⟨Nat.le_of_ble_eq_true rfl, Nat.le_of_ble_eq_true rfl⟩ ⟨Nat.le_of_ble_eq_true rfl, Nat.le_of_ble_eq_true rfl⟩ hl.1 (Nat.le_of_ble_eq_true rfl) dL_829 (fun H1 locs1 hRM hk hS => ?_)
  have hRC := hRC.kept hk hdCM
  refine lv_icmp_eq (tgt := 1005) hx hb dL_832 (by decide) (fun _ => ?_) (fun hne => absurd rfl hne)
  exact kk _ _ hRC hRM hS
set_option maxHeartbeats 4000000 in
set_option maxRecDepth 100000 in
theorem lc_25 {p : Program} {l : Launch} {e : Env} {s : State} {m : MethodId} {args : Array Value} {below : List Frame} {meth : Method} {c : Code} {H : Heap} {locs : List Loc} {Q : State → Prop} {ls : Array Slot} {wC wM : WV} {b L i : Nat} {xs : Nat → Int32} {σc σm : Mem} {σc1 : Mem} {σm1 : Mem} {r : Int32} (S : CallFix p m c code 4 s args gtbl R_law) (hKC : KS LC wC s) (hKM : KS LM wM s) (hsC : ∀ q, AW LC wC q → s.heap.size ≤ q) (hsM : ∀ q, AW LM wM q → s.heap.size ≤ q) (hdCM : ∀ j, j ∈ LC → ¬ AW LM wM (wC.2.2 j)) (hdMC : ∀ j, j ∈ LM → ¬ AW LC wC (wM.2.2 j)) (hX : va_X b L xs s s.heap) (hbl : b < s.heap.size) (hL : L ≤ 2048) (hi : i + 4 ≤ L) (hRC : Rp EC LC wC σc H) (hRM : Rp EM LM wM σm H) (hS : va_S (fun q => s.heap.size ≤ q) s.heap H locs) (hl : lv_has ls 4 [(0, .ref b), (1, .ref (wC.2.2 0)), (2, .ref (wM.2.2 0)), (3, .int (nI i))]) (h1 : f6_bridge σc (xs (i + 1)) (xs (i + 2)) = some (σc1, r)) (h2 : f7_bridge σm (xs (i + 1)) (xs (i + 2)) = some (σm1, r)) (kk : ∀ (H1 : Heap) (locs1 : List Loc), Rp EC LC wC σc1 H1 → Rp EM LM wM σm1 H1 → va_S (fun q => s.heap.size ≤ q) s.heap H1 locs1 → W p l e room_1 s m args below meth c H1 locs1 600000 7302250 Q (F0 m 1005 ls [])) : W p l e room_1 s m args below meth c H locs 600000 7302250 Q (F0 m 837 ls []) := by
  obtain ⟨hx, hb, hml, hown, hts⟩ := id S
  have hbA : ¬ (fun q => s.heap.size ≤ q) b := Nat.not_le.mpr hbl
  refine lv_aload_n hx hb dL_837 rfl (lv_at hl 1 rfl) ?_
  refine lv_aload_n hx hb dL_838 rfl (lv_at hl 0 rfl) ?_
  refine lv_iload_n hx hb dL_839 rfl (lv_at hl 3 rfl) ?_
  refine lv_iconst (v := 1) hx hb dL_840 (by decide) ?_
  refine lv_iadd hx hb dL_841 ?_
  refine q_sld (k := i + 1) S hX hbl hbA hS (nI_a1 i) (by omega) hL dL_842 ?_
  refine lv_aload_n hx hb dL_843 rfl (lv_at hl 0 rfl) ?_
  refine lv_iload_n hx hb dL_844 rfl (lv_at hl 3 rfl) ?_
  refine lv_iconst (v := 2) hx hb dL_845 (by decide) ?_
  refine lv_iadd hx hb dL_846 ?_
  refine q_sld (k := i + 2) S hX hbl hbA hS (nI_a2 i) (by omega) hL dL_847 ?_
  refine kL_117 S hKC hRC hS hsC h1 ⟨Nat.le_of_ble_eq_true rfl, Nat.le_of_ble_eq_true rfl⟩ ⟨Nat.le_of_ble_eq_true rfl, Nat.le_of_ble_eq_true rfl⟩ hl.1 (Nat.le_of_ble_eq_true rfl) dL_848 (fun H1 locs1 hRC hk hS => ?_)
  have hRM := hRM.kept hk hdMC
  refine lv_aload_n hx hb dL_851 rfl (lv_at hl 2 rfl) ?_
  refine lv_aload_n hx hb dL_852 rfl (lv_at hl 0 rfl) ?_
  refine lv_iload_n hx hb dL_853 rfl (lv_at hl 3 rfl) ?_
  refine lv_iconst (v := 1) hx hb dL_854 (by decide) ?_
  refine lv_iadd hx hb dL_855 ?_
  refine q_sld (k := i + 1) S hX hbl hbA hS (nI_a1 i) (by omega) hL dL_856 ?_
  refine lv_aload_n hx hb dL_857 rfl (lv_at hl 0 rfl) ?_
  refine lv_iload_n hx hb dL_858 rfl (lv_at hl 3 rfl) ?_
  refine lv_iconst (v := 2) hx hb dL_859 (by decide) ?_
  refine lv_iadd hx hb dL_860 ?_
  refine q_sld (k := i + 2) S hX hbl hbA hS (nI_a2 i) (by omega) hL dL_861 ?_
  refine kL_120 S hKM hRM hS hsM h2 ⟨Nat.le_of_ble_eq_true rfl, Nat.le_of_ble_eq_true rfl⟩ ⟨Nat.le_of_ble_eq_true rfl, Nat.le_of_ble_eq_true rfl⟩ hl.1 (Nat.le_of_ble_eq_true rfl) dL_862 (fun H1 locs1 hRM hk hS => ?_)
  have hRC := hRC.kept hk hdCM
  refine lv_icmp_eq (tgt := 1005) hx hb dL_865 (by decide) (fun _ => ?_) (fun hne => absurd rfl hne)
  exact kk _ _ hRC hRM hS
set_option maxHeartbeats 4000000 in
set_option maxRecDepth 100000 in
theorem lc_26 {p : Program} {l : Launch} {e : Env} {s : State} {m : MethodId} {args : Array Value} {below : List Frame} {meth : Method} {c : Code} {H : Heap} {locs : List Loc} {Q : State → Prop} {ls : Array Slot} {wC wM : WV} {b L i : Nat} {xs : Nat → Int32} {σc σm : Mem} {σc1 : Mem} {σm1 : Mem} {r : Int32} (S : CallFix p m c code 4 s args gtbl R_law) (hKC : KS LC wC s) (hKM : KS LM wM s) (hsC : ∀ q, AW LC wC q → s.heap.size ≤ q) (hsM : ∀ q, AW LM wM q → s.heap.size ≤ q) (hdCM : ∀ j, j ∈ LC → ¬ AW LM wM (wC.2.2 j)) (hdMC : ∀ j, j ∈ LM → ¬ AW LC wC (wM.2.2 j)) (hX : va_X b L xs s s.heap) (hbl : b < s.heap.size) (hL : L ≤ 2048) (hi : i + 4 ≤ L) (hRC : Rp EC LC wC σc H) (hRM : Rp EM LM wM σm H) (hS : va_S (fun q => s.heap.size ≤ q) s.heap H locs) (hl : lv_has ls 4 [(0, .ref b), (1, .ref (wC.2.2 0)), (2, .ref (wM.2.2 0)), (3, .int (nI i))]) (h1 : f6_mean σc (xs (i + 1)) (xs (i + 2)) (xs (i + 3)) = some (σc1, r)) (h2 : f7_mean σm (xs (i + 1)) (xs (i + 2)) (xs (i + 3)) = some (σm1, r)) (kk : ∀ (H1 : Heap) (locs1 : List Loc), Rp EC LC wC σc1 H1 → Rp EM LM wM σm1 H1 → va_S (fun q => s.heap.size ≤ q) s.heap H1 locs1 → W p l e room_1 s m args below meth c H1 locs1 600000 7302250 Q (F0 m 1005 ls [])) : W p l e room_1 s m args below meth c H locs 600000 7302250 Q (F0 m 870 ls []) := by
  obtain ⟨hx, hb, hml, hown, hts⟩ := id S
  have hbA : ¬ (fun q => s.heap.size ≤ q) b := Nat.not_le.mpr hbl
  refine lv_aload_n hx hb dL_870 rfl (lv_at hl 1 rfl) ?_
  refine lv_aload_n hx hb dL_871 rfl (lv_at hl 0 rfl) ?_
  refine lv_iload_n hx hb dL_872 rfl (lv_at hl 3 rfl) ?_
  refine lv_iconst (v := 1) hx hb dL_873 (by decide) ?_
  refine lv_iadd hx hb dL_874 ?_
  refine q_sld (k := i + 1) S hX hbl hbA hS (nI_a1 i) (by omega) hL dL_875 ?_
  refine lv_aload_n hx hb dL_876 rfl (lv_at hl 0 rfl) ?_
  refine lv_iload_n hx hb dL_877 rfl (lv_at hl 3 rfl) ?_
  refine lv_iconst (v := 2) hx hb dL_878 (by decide) ?_
  refine lv_iadd hx hb dL_879 ?_
  refine q_sld (k := i + 2) S hX hbl hbA hS (nI_a2 i) (by omega) hL dL_880 ?_
  refine lv_aload_n hx hb dL_881 rfl (lv_at hl 0 rfl) ?_
  refine lv_iload_n hx hb dL_882 rfl (lv_at hl 3 rfl) ?_
  refine lv_iconst (v := 3) hx hb dL_883 (by decide) ?_
  refine lv_iadd hx hb dL_884 ?_
  refine q_sld (k := i + 3) S hX hbl hbA hS (nI_a3 i) (by omega) hL dL_885 ?_
  refine kL_121 S hKC hRC hS hsC h1 ⟨Nat.le_of_ble_eq_true rfl, Nat.le_of_ble_eq_true rfl⟩ ⟨Nat.le_of_ble_eq_true rfl, Nat.le_of_ble_eq_true rfl⟩ hl.1 (Nat.le_of_ble_eq_true rfl) dL_886 (fun H1 locs1 hRC hk hS => ?_)
  have hRM := hRM.kept hk hdMC
  refine lv_aload_n hx hb dL_889 rfl (lv_at hl 2 rfl) ?_
  refine lv_aload_n hx hb dL_890 rfl (lv_at hl 0 rfl) ?_
  refine lv_iload_n hx hb dL_891 rfl (lv_at hl 3 rfl) ?_
  refine lv_iconst (v := 1) hx hb dL_892 (by decide) ?_
  refine lv_iadd hx hb dL_893 ?_
  refine q_sld (k := i + 1) S hX hbl hbA hS (nI_a1 i) (by omega) hL dL_894 ?_
  refine lv_aload_n hx hb dL_895 rfl (lv_at hl 0 rfl) ?_
  refine lv_iload_n hx hb dL_896 rfl (lv_at hl 3 rfl) ?_
  refine lv_iconst (v := 2) hx hb dL_897 (by decide) ?_
  refine lv_iadd hx hb dL_898 ?_
  refine q_sld (k := i + 2) S hX hbl hbA hS (nI_a2 i) (by omega) hL dL_899 ?_
  refine lv_aload_n hx hb dL_900 rfl (lv_at hl 0 rfl) ?_
  refine lv_iload_n hx hb dL_901 rfl (lv_at hl 3 rfl) ?_
  refine lv_iconst (v := 3) hx hb dL_902 (by decide) ?_
  refine lv_iadd hx hb dL_903 ?_
  refine q_sld (k := i + 3) S hX hbl hbA hS (nI_a3 i) (by omega) hL dL_904 ?_
  refine kL_124 S hKM hRM hS hsM h2 ⟨Nat.le_of_ble_eq_true rfl, Nat.le_of_ble_eq_true rfl⟩ ⟨Nat.le_of_ble_eq_true rfl, Nat.le_of_ble_eq_true rfl⟩ hl.1 (Nat.le_of_ble_eq_true rfl) dL_905 (fun H1 locs1 hRM hk hS => ?_)
  have hRC := hRC.kept hk hdCM
  refine lv_icmp_eq (tgt := 1005) hx hb dL_908 (by decide) (fun _ => ?_) (fun hne => absurd rfl hne)
  exact kk _ _ hRC hRM hS
set_option maxHeartbeats 4000000 in
set_option maxRecDepth 100000 in
theorem lc_27 {p : Program} {l : Launch} {e : Env} {s : State} {m : MethodId} {args : Array Value} {below : List Frame} {meth : Method} {c : Code} {H : Heap} {locs : List Loc} {Q : State → Prop} {ls : Array Slot} {wC wM : WV} {b L i : Nat} {xs : Nat → Int32} {σc σm : Mem} {σc1 : Mem} {σm1 : Mem} {r : Int32} (S : CallFix p m c code 4 s args gtbl R_law) (hKC : KS LC wC s) (hKM : KS LM wM s) (hsC : ∀ q, AW LC wC q → s.heap.size ≤ q) (hsM : ∀ q, AW LM wM q → s.heap.size ≤ q) (hdCM : ∀ j, j ∈ LC → ¬ AW LM wM (wC.2.2 j)) (hdMC : ∀ j, j ∈ LM → ¬ AW LC wC (wM.2.2 j)) (hX : va_X b L xs s s.heap) (hbl : b < s.heap.size) (hL : L ≤ 2048) (hi : i + 4 ≤ L) (hRC : Rp EC LC wC σc H) (hRM : Rp EM LM wM σm H) (hS : va_S (fun q => s.heap.size ≤ q) s.heap H locs) (hl : lv_has ls 4 [(0, .ref b), (1, .ref (wC.2.2 0)), (2, .ref (wM.2.2 0)), (3, .int (nI i))]) (h1 : f6_day σc (xs (i + 1)) (xs (i + 2)) (xs (i + 3)) = some (σc1, r)) (h2 : f7_day σm (xs (i + 1)) (xs (i + 2)) (xs (i + 3)) = some (σm1, r)) (kk : ∀ (H1 : Heap) (locs1 : List Loc), Rp EC LC wC σc1 H1 → Rp EM LM wM σm1 H1 → va_S (fun q => s.heap.size ≤ q) s.heap H1 locs1 → W p l e room_1 s m args below meth c H1 locs1 600000 7302250 Q (F0 m 1005 ls [])) : W p l e room_1 s m args below meth c H locs 600000 7302250 Q (F0 m 913 ls []) := by
  obtain ⟨hx, hb, hml, hown, hts⟩ := id S
  have hbA : ¬ (fun q => s.heap.size ≤ q) b := Nat.not_le.mpr hbl
  refine lv_aload_n hx hb dL_913 rfl (lv_at hl 1 rfl) ?_
  refine lv_aload_n hx hb dL_914 rfl (lv_at hl 0 rfl) ?_
  refine lv_iload_n hx hb dL_915 rfl (lv_at hl 3 rfl) ?_
  refine lv_iconst (v := 1) hx hb dL_916 (by decide) ?_
  refine lv_iadd hx hb dL_917 ?_
  refine q_sld (k := i + 1) S hX hbl hbA hS (nI_a1 i) (by omega) hL dL_918 ?_
  refine lv_aload_n hx hb dL_919 rfl (lv_at hl 0 rfl) ?_
  refine lv_iload_n hx hb dL_920 rfl (lv_at hl 3 rfl) ?_
  refine lv_iconst (v := 2) hx hb dL_921 (by decide) ?_
  refine lv_iadd hx hb dL_922 ?_
  refine q_sld (k := i + 2) S hX hbl hbA hS (nI_a2 i) (by omega) hL dL_923 ?_
  refine lv_aload_n hx hb dL_924 rfl (lv_at hl 0 rfl) ?_
  refine lv_iload_n hx hb dL_925 rfl (lv_at hl 3 rfl) ?_
  refine lv_iconst (v := 3) hx hb dL_926 (by decide) ?_
  refine lv_iadd hx hb dL_927 ?_
  refine q_sld (k := i + 3) S hX hbl hbA hS (nI_a3 i) (by omega) hL dL_928 ?_
  refine kL_125 S hKC hRC hS hsC h1 ⟨Nat.le_of_ble_eq_true rfl, Nat.le_of_ble_eq_true rfl⟩ ⟨Nat.le_of_ble_eq_true rfl, Nat.le_of_ble_eq_true rfl⟩ hl.1 (Nat.le_of_ble_eq_true rfl) dL_929 (fun H1 locs1 hRC hk hS => ?_)
  have hRM := hRM.kept hk hdMC
  refine lv_aload_n hx hb dL_932 rfl (lv_at hl 2 rfl) ?_
  refine lv_aload_n hx hb dL_933 rfl (lv_at hl 0 rfl) ?_
  refine lv_iload_n hx hb dL_934 rfl (lv_at hl 3 rfl) ?_
  refine lv_iconst (v := 1) hx hb dL_935 (by decide) ?_
  refine lv_iadd hx hb dL_936 ?_
  refine q_sld (k := i + 1) S hX hbl hbA hS (nI_a1 i) (by omega) hL dL_937 ?_
  refine lv_aload_n hx hb dL_938 rfl (lv_at hl 0 rfl) ?_
  refine lv_iload_n hx hb dL_939 rfl (lv_at hl 3 rfl) ?_
  refine lv_iconst (v := 2) hx hb dL_940 (by decide) ?_
  refine lv_iadd hx hb dL_941 ?_
  refine q_sld (k := i + 2) S hX hbl hbA hS (nI_a2 i) (by omega) hL dL_942 ?_
  refine lv_aload_n hx hb dL_943 rfl (lv_at hl 0 rfl) ?_
  refine lv_iload_n hx hb dL_944 rfl (lv_at hl 3 rfl) ?_
  refine lv_iconst (v := 3) hx hb dL_945 (by decide) ?_
  refine lv_iadd hx hb dL_946 ?_
  refine q_sld (k := i + 3) S hX hbl hbA hS (nI_a3 i) (by omega) hL dL_947 ?_
  refine kL_128 S hKM hRM hS hsM h2 ⟨Nat.le_of_ble_eq_true rfl, Nat.le_of_ble_eq_true rfl⟩ ⟨Nat.le_of_ble_eq_true rfl, Nat.le_of_ble_eq_true rfl⟩ hl.1 (Nat.le_of_ble_eq_true rfl) dL_948 (fun H1 locs1 hRM hk hS => ?_)
  have hRC := hRC.kept hk hdCM
  refine lv_icmp_eq (tgt := 1005) hx hb dL_951 (by decide) (fun _ => ?_) (fun hne => absurd rfl hne)
  exact kk _ _ hRC hRM hS
set_option maxHeartbeats 4000000 in
set_option maxRecDepth 100000 in
theorem lc_28 {p : Program} {l : Launch} {e : Env} {s : State} {m : MethodId} {args : Array Value} {below : List Frame} {meth : Method} {c : Code} {H : Heap} {locs : List Loc} {Q : State → Prop} {ls : Array Slot} {wC wM : WV} {b L i : Nat} {xs : Nat → Int32} {σc σm : Mem} {σc1 : Mem} {σm1 : Mem} {r : Int32} (S : CallFix p m c code 4 s args gtbl R_law) (hKC : KS LC wC s) (hKM : KS LM wM s) (hsC : ∀ q, AW LC wC q → s.heap.size ≤ q) (hsM : ∀ q, AW LM wM q → s.heap.size ≤ q) (hdCM : ∀ j, j ∈ LC → ¬ AW LM wM (wC.2.2 j)) (hdMC : ∀ j, j ∈ LM → ¬ AW LC wC (wM.2.2 j)) (hX : va_X b L xs s s.heap) (hbl : b < s.heap.size) (hL : L ≤ 2048) (hi : i + 4 ≤ L) (hRC : Rp EC LC wC σc H) (hRM : Rp EM LM wM σm H) (hS : va_S (fun q => s.heap.size ≤ q) s.heap H locs) (hl : lv_has ls 4 [(0, .ref b), (1, .ref (wC.2.2 0)), (2, .ref (wM.2.2 0)), (3, .int (nI i))]) (h1 : f6_keep σc  = some (σc1, r)) (h2 : f7_keep σm  = some (σm1, r)) (kk : ∀ (H1 : Heap) (locs1 : List Loc), Rp EC LC wC σc1 H1 → Rp EM LM wM σm1 H1 → va_S (fun q => s.heap.size ≤ q) s.heap H1 locs1 → W p l e room_1 s m args below meth c H1 locs1 600000 7302250 Q (F0 m 1005 ls [])) : W p l e room_1 s m args below meth c H locs 600000 7302250 Q (F0 m 956 ls []) := by
  obtain ⟨hx, hb, hml, hown, hts⟩ := id S
  have hbA : ¬ (fun q => s.heap.size ≤ q) b := Nat.not_le.mpr hbl
  refine lv_aload_n hx hb dL_956 rfl (lv_at hl 1 rfl) ?_
  refine kL_129 S hKC hRC hS hsC h1 ⟨Nat.le_of_ble_eq_true rfl, Nat.le_of_ble_eq_true rfl⟩ ⟨Nat.le_of_ble_eq_true rfl, Nat.le_of_ble_eq_true rfl⟩ hl.1 (Nat.le_of_ble_eq_true rfl) dL_957 (fun H1 locs1 hRC hk hS => ?_)
  have hRM := hRM.kept hk hdMC
  refine lv_aload_n hx hb dL_960 rfl (lv_at hl 2 rfl) ?_
  refine kL_132 S hKM hRM hS hsM h2 ⟨Nat.le_of_ble_eq_true rfl, Nat.le_of_ble_eq_true rfl⟩ ⟨Nat.le_of_ble_eq_true rfl, Nat.le_of_ble_eq_true rfl⟩ hl.1 (Nat.le_of_ble_eq_true rfl) dL_961 (fun H1 locs1 hRM hk hS => ?_)
  have hRC := hRC.kept hk hdCM
  refine lv_icmp_eq (tgt := 1005) hx hb dL_964 (by decide) (fun _ => ?_) (fun hne => absurd rfl hne)
  exact kk _ _ hRC hRM hS
set_option maxHeartbeats 4000000 in
set_option maxRecDepth 100000 in
theorem lc_29 {p : Program} {l : Launch} {e : Env} {s : State} {m : MethodId} {args : Array Value} {below : List Frame} {meth : Method} {c : Code} {H : Heap} {locs : List Loc} {Q : State → Prop} {ls : Array Slot} {wC wM : WV} {b L i : Nat} {xs : Nat → Int32} {σc σm : Mem} {σc1 : Mem} {σm1 : Mem} {r : Int32} (S : CallFix p m c code 4 s args gtbl R_law) (hKC : KS LC wC s) (hKM : KS LM wM s) (hsC : ∀ q, AW LC wC q → s.heap.size ≤ q) (hsM : ∀ q, AW LM wM q → s.heap.size ≤ q) (hdCM : ∀ j, j ∈ LC → ¬ AW LM wM (wC.2.2 j)) (hdMC : ∀ j, j ∈ LM → ¬ AW LC wC (wM.2.2 j)) (hX : va_X b L xs s s.heap) (hbl : b < s.heap.size) (hL : L ≤ 2048) (hi : i + 4 ≤ L) (hRC : Rp EC LC wC σc H) (hRM : Rp EM LM wM σm H) (hS : va_S (fun q => s.heap.size ≤ q) s.heap H locs) (hl : lv_has ls 4 [(0, .ref b), (1, .ref (wC.2.2 0)), (2, .ref (wM.2.2 0)), (3, .int (nI i))]) (h1 : f6_back σc  = some (σc1, r)) (h2 : f7_back σm  = some (σm1, r)) (kk : ∀ (H1 : Heap) (locs1 : List Loc), Rp EC LC wC σc1 H1 → Rp EM LM wM σm1 H1 → va_S (fun q => s.heap.size ≤ q) s.heap H1 locs1 → W p l e room_1 s m args below meth c H1 locs1 600000 7302250 Q (F0 m 1005 ls [])) : W p l e room_1 s m args below meth c H locs 600000 7302250 Q (F0 m 969 ls []) := by
  obtain ⟨hx, hb, hml, hown, hts⟩ := id S
  have hbA : ¬ (fun q => s.heap.size ≤ q) b := Nat.not_le.mpr hbl
  refine lv_aload_n hx hb dL_969 rfl (lv_at hl 1 rfl) ?_
  refine kL_133 S hKC hRC hS hsC h1 ⟨Nat.le_of_ble_eq_true rfl, Nat.le_of_ble_eq_true rfl⟩ ⟨Nat.le_of_ble_eq_true rfl, Nat.le_of_ble_eq_true rfl⟩ hl.1 (Nat.le_of_ble_eq_true rfl) dL_970 (fun H1 locs1 hRC hk hS => ?_)
  have hRM := hRM.kept hk hdMC
  refine lv_aload_n hx hb dL_973 rfl (lv_at hl 2 rfl) ?_
  refine kL_136 S hKM hRM hS hsM h2 ⟨Nat.le_of_ble_eq_true rfl, Nat.le_of_ble_eq_true rfl⟩ ⟨Nat.le_of_ble_eq_true rfl, Nat.le_of_ble_eq_true rfl⟩ hl.1 (Nat.le_of_ble_eq_true rfl) dL_974 (fun H1 locs1 hRM hk hS => ?_)
  have hRC := hRC.kept hk hdCM
  refine lv_icmp_eq (tgt := 1005) hx hb dL_977 (by decide) (fun _ => ?_) (fun hne => absurd rfl hne)
  exact kk _ _ hRC hRM hS
set_option maxHeartbeats 4000000 in
set_option maxRecDepth 100000 in
theorem lc_30 {p : Program} {l : Launch} {e : Env} {s : State} {m : MethodId} {args : Array Value} {below : List Frame} {meth : Method} {c : Code} {H : Heap} {locs : List Loc} {Q : State → Prop} {ls : Array Slot} {wC wM : WV} {b L i : Nat} {xs : Nat → Int32} {σc σm : Mem} {r : Int32} (S : CallFix p m c code 4 s args gtbl R_law) (hKC : KS LC wC s) (hKM : KS LM wM s) (hsC : ∀ q, AW LC wC q → s.heap.size ≤ q) (hsM : ∀ q, AW LM wM q → s.heap.size ≤ q) (hdCM : ∀ j, j ∈ LC → ¬ AW LM wM (wC.2.2 j)) (hdMC : ∀ j, j ∈ LM → ¬ AW LC wC (wM.2.2 j)) (hX : va_X b L xs s s.heap) (hbl : b < s.heap.size) (hL : L ≤ 2048) (hi : i + 4 ≤ L) (hRC : Rp EC LC wC σc H) (hRM : Rp EM LM wM σm H) (hS : va_S (fun q => s.heap.size ≤ q) s.heap H locs) (hl : lv_has ls 4 [(0, .ref b), (1, .ref (wC.2.2 0)), (2, .ref (wM.2.2 0)), (3, .int (nI i))]) (h1 : f6_count σc (xs (i + 1)) = some r) (h2 : f7_count σm (xs (i + 1)) = some r) (kk : ∀ (H1 : Heap) (locs1 : List Loc), Rp EC LC wC σc H1 → Rp EM LM wM σm H1 → va_S (fun q => s.heap.size ≤ q) s.heap H1 locs1 → W p l e room_1 s m args below meth c H1 locs1 600000 7302250 Q (F0 m 1005 ls [])) : W p l e room_1 s m args below meth c H locs 600000 7302250 Q (F0 m 982 ls []) := by
  obtain ⟨hx, hb, hml, hown, hts⟩ := id S
  have hbA : ¬ (fun q => s.heap.size ≤ q) b := Nat.not_le.mpr hbl
  refine lv_aload_n hx hb dL_982 rfl (lv_at hl 1 rfl) ?_
  refine lv_aload_n hx hb dL_983 rfl (lv_at hl 0 rfl) ?_
  refine lv_iload_n hx hb dL_984 rfl (lv_at hl 3 rfl) ?_
  refine lv_iconst (v := 1) hx hb dL_985 (by decide) ?_
  refine lv_iadd hx hb dL_986 ?_
  refine q_sld (k := i + 1) S hX hbl hbA hS (nI_a1 i) (by omega) hL dL_987 ?_
  refine kL_137 S hKC hRC h1 ⟨Nat.le_of_ble_eq_true rfl, Nat.le_of_ble_eq_true rfl⟩ ⟨Nat.le_of_ble_eq_true rfl, Nat.le_of_ble_eq_true rfl⟩ hl.1 (Nat.le_of_ble_eq_true rfl) dL_988 ?_
  refine lv_aload_n hx hb dL_991 rfl (lv_at hl 2 rfl) ?_
  refine lv_aload_n hx hb dL_992 rfl (lv_at hl 0 rfl) ?_
  refine lv_iload_n hx hb dL_993 rfl (lv_at hl 3 rfl) ?_
  refine lv_iconst (v := 1) hx hb dL_994 (by decide) ?_
  refine lv_iadd hx hb dL_995 ?_
  refine q_sld (k := i + 1) S hX hbl hbA hS (nI_a1 i) (by omega) hL dL_996 ?_
  refine kL_140 S hKM hRM h2 ⟨Nat.le_of_ble_eq_true rfl, Nat.le_of_ble_eq_true rfl⟩ ⟨Nat.le_of_ble_eq_true rfl, Nat.le_of_ble_eq_true rfl⟩ hl.1 (Nat.le_of_ble_eq_true rfl) dL_997 ?_
  refine lv_icmp_eq (tgt := 1005) hx hb dL_1000 (by decide) (fun _ => ?_) (fun hne => absurd rfl hne)
  exact kk _ _ hRC hRM hS
