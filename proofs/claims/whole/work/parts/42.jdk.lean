def yJ_len : MethodName := ⟨"java/lang/String", "length", "()I"⟩
theorem dJ_len_0 : decode prog_11_method_54_code 0 = .ok (.aload_n 0, 1) := by decide +kernel
theorem dJ_len_1 : decode prog_11_method_54_code 1 = .ok (.getfield 9, 3) := by decide +kernel
theorem dJ_len_4 : decode prog_11_method_54_code 4 = .ok (.arraylength, 1) := by decide +kernel
theorem dJ_len_5 : decode prog_11_method_54_code 5 = .ok (.aload_n 0, 1) := by decide +kernel
theorem dJ_len_6 : decode prog_11_method_54_code 6 = .ok (.invokevirtual 335, 3) := by decide +kernel
theorem dJ_len_9 : decode prog_11_method_54_code 9 = .ok (.ishr, 1) := by decide +kernel
theorem dJ_len_10 : decode prog_11_method_54_code 10 = .ok (.ireturn, 1) := by decide +kernel
def yJ_cha : MethodName := ⟨"java/lang/String", "charAt", "(I)C"⟩
theorem dJ_cha_0 : decode prog_11_method_56_code 0 = .ok (.aload_n 0, 1) := by decide +kernel
theorem dJ_cha_1 : decode prog_11_method_56_code 1 = .ok (.invokevirtual 492, 3) := by decide +kernel
theorem dJ_cha_4 : decode prog_11_method_56_code 4 = .ok (.ifCond .eq 12, 3) := by decide +kernel
theorem dJ_cha_7 : decode prog_11_method_56_code 7 = .ok (.aload_n 0, 1) := by decide +kernel
theorem dJ_cha_8 : decode prog_11_method_56_code 8 = .ok (.getfield 9, 3) := by decide +kernel
theorem dJ_cha_11 : decode prog_11_method_56_code 11 = .ok (.iload_n 1, 1) := by decide +kernel
theorem dJ_cha_12 : decode prog_11_method_56_code 12 = .ok (.invokestatic 495, 3) := by decide +kernel
theorem dJ_cha_15 : decode prog_11_method_56_code 15 = .ok (.ireturn, 1) := by decide +kernel
theorem dJ_cha_16 : decode prog_11_method_56_code 16 = .ok (.aload_n 0, 1) := by decide +kernel
theorem dJ_cha_17 : decode prog_11_method_56_code 17 = .ok (.getfield 9, 3) := by decide +kernel
theorem dJ_cha_20 : decode prog_11_method_56_code 20 = .ok (.iload_n 1, 1) := by decide +kernel
theorem dJ_cha_21 : decode prog_11_method_56_code 21 = .ok (.invokestatic 498, 3) := by decide +kernel
theorem dJ_cha_24 : decode prog_11_method_56_code 24 = .ok (.ireturn, 1) := by decide +kernel
def yJ_cod : MethodName := ⟨"java/lang/String", "coder", "()B"⟩
theorem dJ_cod_0 : decode prog_11_method_152_code 0 = .ok (.getstatic 38, 3) := by decide +kernel
theorem dJ_cod_3 : decode prog_11_method_152_code 3 = .ok (.ifCond .eq 10, 3) := by decide +kernel
theorem dJ_cod_6 : decode prog_11_method_152_code 6 = .ok (.aload_n 0, 1) := by decide +kernel
theorem dJ_cod_7 : decode prog_11_method_152_code 7 = .ok (.getfield 15, 3) := by decide +kernel
theorem dJ_cod_10 : decode prog_11_method_152_code 10 = .ok (.goto 4, 3) := by decide +kernel
theorem dJ_cod_13 : decode prog_11_method_152_code 13 = .ok (.iconst 1, 1) := by decide +kernel
theorem dJ_cod_14 : decode prog_11_method_152_code 14 = .ok (.ireturn, 1) := by decide +kernel
def yJ_lat : MethodName := ⟨"java/lang/String", "isLatin1", "()Z"⟩
theorem dJ_lat_0 : decode prog_11_method_154_code 0 = .ok (.getstatic 38, 3) := by decide +kernel
theorem dJ_lat_3 : decode prog_11_method_154_code 3 = .ok (.ifCond .eq 14, 3) := by decide +kernel
theorem dJ_lat_6 : decode prog_11_method_154_code 6 = .ok (.aload_n 0, 1) := by decide +kernel
theorem dJ_lat_7 : decode prog_11_method_154_code 7 = .ok (.getfield 15, 3) := by decide +kernel
theorem dJ_lat_10 : decode prog_11_method_154_code 10 = .ok (.ifCond .ne 7, 3) := by decide +kernel
theorem dJ_lat_13 : decode prog_11_method_154_code 13 = .ok (.iconst 1, 1) := by decide +kernel
theorem dJ_lat_14 : decode prog_11_method_154_code 14 = .ok (.goto 4, 3) := by decide +kernel
theorem dJ_lat_17 : decode prog_11_method_154_code 17 = .ok (.iconst 0, 1) := by decide +kernel
theorem dJ_lat_18 : decode prog_11_method_154_code 18 = .ok (.ireturn, 1) := by decide +kernel
def yJ_chk : MethodName := ⟨"java/lang/String", "checkIndex", "(II)V"⟩
theorem dJ_chk_0 : decode prog_11_method_155_code 0 = .ok (.iload_n 0, 1) := by decide +kernel
theorem dJ_chk_1 : decode prog_11_method_155_code 1 = .ok (.iload_n 1, 1) := by decide +kernel
theorem dJ_chk_2 : decode prog_11_method_155_code 2 = .ok (.getstatic 1053, 3) := by decide +kernel
theorem dJ_chk_5 : decode prog_11_method_155_code 5 = .ok (.invokestatic 1059, 3) := by decide +kernel
theorem dJ_chk_8 : decode prog_11_method_155_code 8 = .ok (.pop, 1) := by decide +kernel
theorem dJ_chk_9 : decode prog_11_method_155_code 9 = .ok (.return_, 1) := by decide +kernel
def yJ_l1c : MethodName := ⟨"java/lang/StringLatin1", "charAt", "([BI)C"⟩
theorem dJ_l1c_0 : decode prog_12_method_2_code 0 = .ok (.iload_n 1, 1) := by decide +kernel
theorem dJ_l1c_1 : decode prog_12_method_2_code 1 = .ok (.aload_n 0, 1) := by decide +kernel
theorem dJ_l1c_2 : decode prog_12_method_2_code 2 = .ok (.arraylength, 1) := by decide +kernel
theorem dJ_l1c_3 : decode prog_12_method_2_code 3 = .ok (.invokestatic 9, 3) := by decide +kernel
theorem dJ_l1c_6 : decode prog_12_method_2_code 6 = .ok (.aload_n 0, 1) := by decide +kernel
theorem dJ_l1c_7 : decode prog_12_method_2_code 7 = .ok (.iload_n 1, 1) := by decide +kernel
theorem dJ_l1c_8 : decode prog_12_method_2_code 8 = .ok (.baload, 1) := by decide +kernel
theorem dJ_l1c_9 : decode prog_12_method_2_code 9 = .ok (.sipush 255, 3) := by decide +kernel
theorem dJ_l1c_12 : decode prog_12_method_2_code 12 = .ok (.iand, 1) := by decide +kernel
theorem dJ_l1c_13 : decode prog_12_method_2_code 13 = .ok (.i2c, 1) := by decide +kernel
theorem dJ_l1c_14 : decode prog_12_method_2_code 14 = .ok (.ireturn, 1) := by decide +kernel
def yJ_pck : MethodName := ⟨"jdk/internal/util/Preconditions", "checkIndex", "(IILjava/util/function/BiFunction;)I"⟩
theorem dJ_pck_0 : decode prog_14_method_11_code 0 = .ok (.iload_n 0, 1) := by decide +kernel
theorem dJ_pck_1 : decode prog_14_method_11_code 1 = .ok (.ifCond .lt 8, 3) := by decide +kernel
theorem dJ_pck_4 : decode prog_14_method_11_code 4 = .ok (.iload_n 0, 1) := by decide +kernel
theorem dJ_pck_5 : decode prog_14_method_11_code 5 = .ok (.iload_n 1, 1) := by decide +kernel
theorem dJ_pck_6 : decode prog_14_method_11_code 6 = .ok (.if_icmp .lt 10, 3) := by decide +kernel
theorem dJ_pck_9 : decode prog_14_method_11_code 9 = .ok (.aload_n 2, 1) := by decide +kernel
theorem dJ_pck_10 : decode prog_14_method_11_code 10 = .ok (.iload_n 0, 1) := by decide +kernel
theorem dJ_pck_11 : decode prog_14_method_11_code 11 = .ok (.iload_n 1, 1) := by decide +kernel
theorem dJ_pck_12 : decode prog_14_method_11_code 12 = .ok (.invokestatic 95, 3) := by decide +kernel
theorem dJ_pck_15 : decode prog_14_method_11_code 15 = .ok (.athrow, 1) := by decide +kernel
theorem dJ_pck_16 : decode prog_14_method_11_code 16 = .ok (.iload_n 0, 1) := by decide +kernel
theorem dJ_pck_17 : decode prog_14_method_11_code 17 = .ok (.ireturn, 1) := by decide +kernel
def atB : List Int32 := [116, 49, 48, 44, 48, 59, 116, 49, 51, 44, 49, 59, 116, 51, 48, 44, 50, 59, 116, 52, 49, 44, 48, 59, 117, 56, 44, 48, 59, 117, 57, 44, 49, 59, 117, 49, 50, 44, 50, 59, 117, 50, 57, 44, 51, 59, 117, 51, 49, 44, 48, 59, 117, 52, 48, 44, 48, 59, 103, 52, 59, 99, 50, 48, 59, 97, 54, 48, 44, 51, 48, 59, 107, 54, 44, 49, 52, 59, 107, 50, 57, 44, 51, 50, 59, 107, 51, 56, 44, 52, 51, 59, 111, 48, 44, 53, 59, 111, 50, 44, 51, 59, 111, 53, 44, 50, 59]
theorem at_fix : ∀ k : Fin 107, ((atB.getD k.val 0 &&& 255).toUInt32 % 65536).toInt32 = atB.getD k.val 0 ∧ narrow .char (.int (atB.getD k.val 0)) = .int (atB.getD k.val 0) := by decide +kernel
abbrev rmJ_pck : Room := { frames := 0, cells := 0, slots := 0, locals := 0 }
abbrev rmJ_chk : Room := { frames := 1, cells := 0, slots := 0, locals := 22 }
abbrev rmJ_l1c : Room := { frames := 2, cells := 0, slots := 0, locals := 43 }
abbrev rmJ_lat : Room := { frames := 0, cells := 0, slots := 0, locals := 0 }
abbrev rmJ_cod : Room := { frames := 0, cells := 0, slots := 0, locals := 0 }
abbrev rmJ_len : Room := { frames := 1, cells := 0, slots := 0, locals := 20 }
abbrev rmJ_cha : Room := { frames := 3, cells := 0, slots := 0, locals := 64 }
/-- what the constant and the two statics hold, outside A -/
def SX (kq vq : Nat) (A : Nat → Prop) (U : State) : Prop := va_Z "java/lang/String" "COMPACT_STRINGS" "Z" (.int 1) A U U.heap ∧ va_Zq "jdk/internal/util/Preconditions" "SIOOBE_FORMATTER" "Ljava/util/function/BiFunction;" A U U.heap ∧ va_O "java/lang/String" kq A U U.heap ∧ va_OF "java/lang/String" "coder" "B" (.int 0) kq A U U.heap ∧ va_OF "java/lang/String" "value" "[B" (.ref vq) kq A U U.heap ∧ va_T .byte vq 107 (fun j => .int (atB.getD j 0)) A U U.heap
theorem SX.moved {kq vq : Nat} {A : Nat → Prop} {u U : State} (hvm : u.vm.Alike U.vm) (hh : U.heap = u.heap) (h : SX kq vq A u) : SX kq vq A U := by
  obtain ⟨h1, h2, h3, h4, h5, h6⟩ := h
  unfold SX
  rw [hh]
  exact ⟨h1.moved hvm, h2.moved hvm, h3.moved hvm, h4.moved hvm, h5.moved hvm, h6.moved hvm⟩
theorem SX.narrow {kq vq : Nat} {A B : Nat → Prop} {U : State} (h : SX kq vq A U) (hAB : ∀ q, B q → A q) : SX kq vq B U := by
  obtain ⟨h1, h2, h3, h4, h5, h6⟩ := h
  exact ⟨h1.narrow hAB, h2.narrow hAB, h3.narrow hAB, h4.narrow hAB, h5.narrow hAB, h6.narrow hAB⟩
theorem SX.to {kq vq : Nat} {A : Nat → Prop} {s U : State} {H : Heap} {locs : List Loc} (h : SX kq vq A s) (hS : va_S A s.heap H locs) (hU : U.heap = H) (hW : s.WarmedH U.vm) : SX kq vq A U := by
  obtain ⟨h1, h2, h3, h4, h5, h6⟩ := h
  unfold SX
  rw [hU]
  have hvm := hW.alike
  exact ⟨(h1.kept hS.2.1).moved hvm, (h2.kept hS.2.1).moved hvm, (h3.kept hS.2.1).moved hvm, (h4.kept hS.2.1).moved hvm, (h5.kept hS.2.1).moved hvm, (h6.kept hS.2.1).moved hvm⟩
def Px (As : List Value) (X : State → Prop) : Array Value → State → Prop := fun v U => v = As.toArray ∧ X U
def Qpv : Array Value → State → Outcome → State → Prop := fun _ st oc t => oc = .returned none ∧ t.heap = st.heap
theorem SX_blind {As : List Value} {kq vq : Nat} {A : Nat → Prop} : FrameBlind (Px As (SX kq vq A)) := fun a U g mk h => ⟨h.1, SX.moved (u := U) (U := U.calling g mk a) (Vm.Alike.refl U.vm) rfl h.2⟩
section JdkRows
variable {p : Program} {l : Launch} {e : Env} {R : Room} {s : State} {m : MethodId} {args : Array Value} {below : List Frame} {meth : Method} {c : Code} {H : Heap} {locs : List Loc} {cells slots : Nat} {Q : State → Prop}
variable {cc : ByteArray} {pc nL : Nat} {ls : Array Slot} {rest : List Value} {own : String} {A : Nat → Prop} {y : MethodName} {bytes : ByteArray} {maxL index n : Nat} {ret : Option FieldType} {rm : Room} {As st0 : List Value} {C : String} {Qc : Array Value → State → Outcome → State → Prop} {free : Addr → Prop} {kq vq a : Nat}
theorem mk_metx {X : State → Prop} (hy : plainName y.cls = true) (hlen : (lg_sl As).length ≤ maxL)
    (body : ∀ (p : Program) (e : Env) (s : State) (m : MethodId) (below : List Frame) (meth : Method) (c : Code), CallFix p m c cc maxL s As.toArray gtbl y.cls → meth.sig.returnType = ret → meth.locks = false → X s → ∀ ls : Array Slot, lv_has ls maxL (lv_args 0 As) → W p l e rm s m As.toArray below meth c s.heap [] 0 0 (MQ below Qc As.toArray s 0 0 free) (F0 m 0 ls [])) : Met l y (wy y cc maxL ret) rm (Px As X) Qc 0 0 free := by
  refine Met.ofW (cc := cc) (maxL := maxL) (ret := ret) hy rfl ?_
  intro p e s m args below meth c s₁ B hml hv
  obtain ⟨rfl, hX⟩ := hv
  have hts := atoms_spec (ws := wy y cc maxL ret) B.pre
  rw [lg_entry_eq]
  exact body p e s m below meth c ⟨B.exec, B.bytes, hml, findClass_of_methodNamed B.named, fun w hw => hts w (List.mem_cons_of_mem _ hw)⟩ B.returns B.notSynchronized hX _ (lv_entry As hlen)
theorem run_VX (S : CallFix p m c cc nL s args gtbl own) (hX : SX kq vq A s) (hS : va_S A s.heap H locs) (hrc : C = "java/lang/String") (g : GoodIn gtbl (wsV own index C y (wy y bytes maxL ret))) (hd : y.cls = C ∧ y.cls ≠ "java/lang/invoke/MethodHandle" ∧ y.cls ≠ "java/lang/invoke/VarHandle" ∧ (parseMethodDescriptor y.desc).map (fun d => d.parameters.length) = some n)
    (hn : As.length = n) (hM : Met l y (wy y bytes maxL ret) rm (Px (.ref kq :: As) (SX kq vq A)) Qc 0 0 free) (hz : rm.cells = 0 ∧ rm.slots = 0) (hRm : rm.frames + 1 ≤ R.frames ∧ 8 + (maxL + 11) + rm.locals ≤ R.locals) (hf : cells + 0 ≤ R.cells ∧ slots + 0 ≤ R.slots) (hl : ls.size = nL) (hst : st0 = As.reverse ++ .ref kq :: rest) (hW : (rest.map fun v => v.category).sum ≤ 8) (hdg : decode cc pc = .ok (.invokevirtual index, 3)) :
    va_Run p l e R s m args below meth c H locs cells slots 0 0 (F0 m pc ls st0) rest (Qc (Value.ref kq :: As).toArray) free := by
  have hcell : ∃ cellB : Cell, H[kq]? = some cellB ∧ cellB.vm.isStatics = false ∧ s.vm.findClass C = some cellB.cls := by
    obtain ⟨cell, h1, h2, h3, -⟩ := hX.2.2.1.kept hS.2.1
    exact ⟨cell, h1, h2, by rw [hrc]; exact h3⟩
  exact va_runV (g := F0 m pc ls st0) S hM (cwV n S.2.2.2.2 g rfl hz.1 hz.2 hd hRm) ⟨SX_blind, hcell, fun U hU hW => ⟨rfl, hX.to hS hU hW⟩⟩ rfl hn hl hst (lv_room hW) hdg hf
theorem run_SX {Pc : Array Value → State → Prop} (S : CallFix p m c cc nL s args gtbl own) (hp : PreS s H Pc As) (h1 : Cond.methodLink own index y ∈ gtbl) (h2 : Cond.static y ∈ gtbl) (h4 : Cond.initialized y.cls ∈ gtbl) (h5 : Cond.code y bytes maxL ret ∈ gtbl) (hd : y.cls ≠ "java/lang/invoke/MethodHandle" ∧ y.cls ≠ "java/lang/invoke/VarHandle" ∧ (parseMethodDescriptor y.desc).map (fun d => d.parameters.length) = some n)
    (hn : As.length = n) (hM : Met l y (wy y bytes maxL ret) rm Pc Qc 0 0 free) (hz : rm.cells = 0 ∧ rm.slots = 0) (hRm : rm.frames + 1 ≤ R.frames ∧ 8 + (maxL + 11) + rm.locals ≤ R.locals) (hf : cells + 0 ≤ R.cells ∧ slots + 0 ≤ R.slots) (hl : ls.size = nL) (hst : st0 = As.reverse ++ rest) (hW : (rest.map fun v => v.category).sum ≤ 8) (hdg : decode cc pc = .ok (.invokestatic index, 3)) :
    va_Run p l e R s m args below meth c H locs cells slots 0 0 (F0 m pc ls st0) rest (Qc As.toArray) free :=
  va_runS (g := F0 m pc ls st0) S hM ⟨callB_of n S.2.2.2.2 (gd_wy h5) rfl hz.1 hz.2 (S.2.2.2.2 _ h4) (S.2.2.2.2 _ h1) hd hRm, S.2.2.2.2 _ h2⟩ hp rfl hn hl hst (lv_room hW) hdg hf
theorem r_endv {a : Array Value} (hr : va_Run p l e R s m args below meth c H locs cells slots 0 0 (F0 m pc ls st0) rest (Qpv a) (fun _ => False))
    (kk : W p l e R s m args below meth c H locs cells slots Q (F0 m (pc + 3) ls rest)) : W p l e R s m args below meth c H locs cells slots Q (F0 m pc ls st0) := by
  intro T hT X
  obtain ⟨v1, st₀, t, T', L1, h0, X', hL, e1, e2, ⟨hv, hb⟩, st⟩ := hr T hT X
  cases hv
  have hL1 : L1 = [] := List.eq_nil_iff_forall_not_mem.mpr (fun q h => hL q h)
  subst hL1
  rw [List.append_nil] at X'
  obtain ⟨t2, a1, b1⟩ := kk T' (by rw [e1, hb, h0]) X'
  exact ⟨t2, st t2 a1, b1⟩
theorem q_any (S : CallFix p m c cc nL s args gtbl own) {ty : FieldType} {v : Int32} (hr : meth.sig.returnType = some ty) (hlk : meth.locks = false) (hn : narrow ty (.int v) = .int v) (hdg : decode cc pc = .ok (.ireturn, 1)) : W p l e R s m args below meth c s.heap [] cells slots (MQ below (Qp (.int v)) args s cells slots (fun _ => False)) (F0 m pc ls [.int v]) :=
  W.zret S.1 S.2.1 hr hn (fun t ht hW => ⟨rfl, ht⟩) (fun q hq => by cases hq) hdg hlk
end JdkRows
set_option maxHeartbeats 4000000 in
set_option maxRecDepth 100000 in
theorem cJ_pck (l : Launch) (i n : Int32) (v : Value) (hv : v = .null ∨ ∃ t, v = .ref t) (h1 : ¬ i < 0) (h2 : i < n) : Met l yJ_pck (wy yJ_pck prog_14_method_11_code 3 (some .int)) rmJ_pck (Ps [.int i, .int n, v]) (Qp (.int i)) 0 0 (fun _ => False) := by
  refine mk_mets (by decide) (by rcases hv with rfl | ⟨t, rfl⟩ <;> exact Nat.le_of_ble_eq_true rfl) ?_
  intro p e s m below meth c S hr hlk ls hl
  obtain ⟨hx, hb, hml, hown, hts⟩ := id S
  have hl : lv_has ls 3 [(0, .int i), (1, .int n)] := ⟨hl.1, hl.2.1, fun q hq => hl.2.2 q (by
    rcases hv with rfl | ⟨t, rfl⟩ <;> (simp only [lv_args, Value.category, List.mem_cons, List.not_mem_nil, or_false] at hq ⊢; rcases hq with rfl | rfl <;> simp))⟩
  refine lv_iload_n hx hb dJ_pck_0 rfl (lv_at hl 0 rfl) ?_
  refine lv_if_lt (tgt := 9) hx hb dJ_pck_1 (by decide) (fun hc => absurd hc h1) (fun _ => ?_)
  refine lv_iload_n hx hb dJ_pck_4 rfl (lv_at hl 0 rfl) ?_
  refine lv_iload_n hx hb dJ_pck_5 rfl (lv_at hl 1 rfl) ?_
  refine lv_icmp_lt (tgt := 16) hx hb dJ_pck_6 (by decide) (fun _ => ?_) (fun hc => absurd h2 hc)
  refine lv_iload_n hx hb dJ_pck_16 rfl (lv_at hl 0 rfl) ?_
  exact q_ipure S hr hlk rfl dJ_pck_17
set_option maxHeartbeats 4000000 in
set_option maxRecDepth 100000 in
theorem cJ_chk (l : Launch) (kq vq : Nat) (A : Nat → Prop) (i n : Int32) (h1 : ¬ i < 0) (h2 : i < n) : Met l yJ_chk (wy yJ_chk prog_11_method_155_code 2 none) rmJ_chk (Px [.int i, .int n] (SX kq vq A)) Qpv 0 0 (fun _ => False) := by
  refine mk_metx (by decide) (Nat.le_of_ble_eq_true rfl) ?_
  intro p e s m below meth c S hr hlk hX ls hl
  obtain ⟨hx, hb, hml, hown, hts⟩ := id S
  have hS : va_S A s.heap s.heap [] := va_S.rf
  have hl : lv_has ls 2 [(0, .int i), (1, .int n)] := hl
  have key : ∀ v : Value, (v = .null ∨ ∃ t, v = .ref t) → va_Z "jdk/internal/util/Preconditions" "SIOOBE_FORMATTER" "Ljava/util/function/BiFunction;" v A s s.heap → W p l e rmJ_chk s m [Value.int i, Value.int n].toArray below meth c s.heap [] 0 0 (MQ below Qpv [Value.int i, Value.int n].toArray s 0 0 (fun _ => False)) (F0 m 0 ls []) := by
    intro v hv hZ
    refine lv_iload_n hx hb dJ_chk_0 rfl (lv_at hl 0 rfl) ?_
    refine lv_iload_n hx hb dJ_chk_1 rfl (lv_at hl 1 rfl) ?_
    refine va_gets hx hb hZ hS hown (hts _ (gt_at 301 (by decide +kernel) (by decide +kernel))) (fun _ h => h) dJ_chk_2 ?_
    refine r_endp (run_SX (n := 3) (As := [.int i, .int n, v]) (rest := []) S ⟨Ps_blind, fun U hU hW => rfl⟩ (gt_at 303 (by decide +kernel) (by decide +kernel)) (gt_at 304 (by decide +kernel) (by decide +kernel)) (gt_at 84 (by decide +kernel) (by decide +kernel)) (gt_at 305 (by decide +kernel) (by decide +kernel)) (by decide +kernel) rfl (cJ_pck l i n v hv h1 h2) ⟨rfl, rfl⟩ ⟨Nat.le_of_ble_eq_true rfl, Nat.le_of_ble_eq_true rfl⟩ ⟨Nat.le_of_ble_eq_true rfl, Nat.le_of_ble_eq_true rfl⟩ hl.1 rfl (Nat.le_of_ble_eq_true rfl) dJ_chk_5) ?_
    refine lv_pop hx hb dJ_chk_8 rfl ?_
    exact W.vret hx hb hr (fun t ht hW => ⟨rfl, ht⟩) (fun q hq => by cases hq) dJ_chk_9 hlk
  rcases hX.2.1 with h | ⟨t, h⟩
  · exact key _ (Or.inl rfl) h
  · exact key _ (Or.inr ⟨t, rfl⟩) h
set_option maxHeartbeats 4000000 in
set_option maxRecDepth 100000 in
theorem cJ_l1c (l : Launch) (kq vq : Nat) (A : Nat → Prop) (k : Nat) (hk : k < 107) : Met l yJ_l1c (wy yJ_l1c prog_12_method_2_code 2 (some .char)) rmJ_l1c (Px [.ref vq, .int (nI k)] (SX kq vq A)) (Qp (.int (atB.getD k 0))) 0 0 (fun _ => False) := by
  refine mk_metx (by decide) (Nat.le_of_ble_eq_true rfl) ?_
  intro p e s m below meth c S hr hlk hX ls hl
  obtain ⟨hx, hb, hml, hown, hts⟩ := id S
  have hS : va_S A s.heap s.heap [] := va_S.rf
  have hl : lv_has ls 2 [(0, .ref vq), (1, .int (nI k))] := hl
  have hcl : (nI k).toNatClampNeg = k := nI_clamp (by omega)
  refine lv_iload_n hx hb dJ_l1c_0 rfl (lv_at hl 1 rfl) ?_
  refine lv_aload_n hx hb dJ_l1c_1 rfl (lv_at hl 0 rfl) ?_
  refine va_tlen (v := 107) hx hb hX.2.2.2.2.2 hS (by decide) dJ_l1c_2 ?_
  refine r_endv (run_SX (n := 2) (As := [.int (nI k), .int 107]) (rest := []) S ⟨SX_blind, fun U hU hW => ⟨rfl, hX.to hS hU hW⟩⟩ (gt_at 298 (by decide +kernel) (by decide +kernel)) (gt_at 299 (by decide +kernel) (by decide +kernel)) (gt_at 82 (by decide +kernel) (by decide +kernel)) (gt_at 300 (by decide +kernel) (by decide +kernel)) (by decide +kernel) rfl (cJ_chk l kq vq A (nI k) 107 (nI_pos (by omega)) (nI_lt (b := 107) hk (by decide))) ⟨rfl, rfl⟩ ⟨Nat.le_of_ble_eq_true rfl, Nat.le_of_ble_eq_true rfl⟩ ⟨Nat.le_of_ble_eq_true rfl, Nat.le_of_ble_eq_true rfl⟩ hl.1 rfl (Nat.le_of_ble_eq_true rfl) dJ_l1c_3) ?_
  refine lv_aload_n hx hb dJ_l1c_6 rfl (lv_at hl 0 rfl) ?_
  refine lv_iload_n hx hb dJ_l1c_7 rfl (lv_at hl 1 rfl) ?_
  refine va_tb (v := .int (atB.getD k 0)) hx hb hX.2.2.2.2.2 hS (vp_in_nI hk (by decide)) (by rw [hcl]) dJ_l1c_8 ?_
  refine lv_sipush (v := 255) hx hb dJ_l1c_9 (by decide) ?_
  refine lv_iand hx hb dJ_l1c_12 ?_
  refine lv_i2c hx hb dJ_l1c_13 (at_fix ⟨k, hk⟩).1 ?_
  exact q_any S hr hlk (at_fix ⟨k, hk⟩).2 dJ_l1c_14
set_option maxHeartbeats 4000000 in
set_option maxRecDepth 100000 in
theorem cJ_lat (l : Launch) (kq vq : Nat) (A : Nat → Prop) : Met l yJ_lat (wy yJ_lat prog_11_method_154_code 1 (some .boolean)) rmJ_lat (Px [.ref kq] (SX kq vq A)) (Qp (.int 1)) 0 0 (fun _ => False) := by
  refine mk_metx (by decide) (Nat.le_of_ble_eq_true rfl) ?_
  intro p e s m below meth c S hr hlk hX ls hl
  obtain ⟨hx, hb, hml, hown, hts⟩ := id S
  have hS : va_S A s.heap s.heap [] := va_S.rf
  have hl : lv_has ls 1 [(0, .ref kq)] := hl
  refine va_gets hx hb hX.1 hS hown (hts _ (gt_at 285 (by decide +kernel) (by decide +kernel))) (fun _ h => h) dJ_lat_0 ?_
  refine lv_if_eq (tgt := 17) hx hb dJ_lat_3 (by decide) (fun hc => absurd hc (by decide)) (fun _ => ?_)
  refine lv_aload_n hx hb dJ_lat_6 rfl (lv_at hl 0 rfl) ?_
  refine vk_getf hx hb hX.2.2.2.1 hS hown (hts _ (gt_at 1298 (by decide +kernel) (by decide +kernel))) (fun _ h => h) dJ_lat_7 ?_
  refine lv_if_ne (tgt := 17) hx hb dJ_lat_10 (by decide) (fun hc => absurd rfl hc) (fun _ => ?_)
  refine lv_iconst (v := 1) hx hb dJ_lat_13 (by decide) ?_
  refine lv_goto (tgt := 18) hx hb dJ_lat_14 (by decide) ?_
  exact q_any S hr hlk (nb_n (Or.inr rfl)) dJ_lat_18
set_option maxHeartbeats 4000000 in
set_option maxRecDepth 100000 in
theorem cJ_cod (l : Launch) (kq vq : Nat) (A : Nat → Prop) : Met l yJ_cod (wy yJ_cod prog_11_method_152_code 1 (some .byte)) rmJ_cod (Px [.ref kq] (SX kq vq A)) (Qp (.int 0)) 0 0 (fun _ => False) := by
  refine mk_metx (by decide) (Nat.le_of_ble_eq_true rfl) ?_
  intro p e s m below meth c S hr hlk hX ls hl
  obtain ⟨hx, hb, hml, hown, hts⟩ := id S
  have hS : va_S A s.heap s.heap [] := va_S.rf
  have hl : lv_has ls 1 [(0, .ref kq)] := hl
  refine va_gets hx hb hX.1 hS hown (hts _ (gt_at 285 (by decide +kernel) (by decide +kernel))) (fun _ h => h) dJ_cod_0 ?_
  refine lv_if_eq (tgt := 13) hx hb dJ_cod_3 (by decide) (fun hc => absurd hc (by decide)) (fun _ => ?_)
  refine lv_aload_n hx hb dJ_cod_6 rfl (lv_at hl 0 rfl) ?_
  refine vk_getf hx hb hX.2.2.2.1 hS hown (hts _ (gt_at 1298 (by decide +kernel) (by decide +kernel))) (fun _ h => h) dJ_cod_7 ?_
  refine lv_goto (tgt := 14) hx hb dJ_cod_10 (by decide) ?_
  exact q_any S hr hlk (by decide +kernel) dJ_cod_14
set_option maxHeartbeats 4000000 in
set_option maxRecDepth 100000 in
theorem cJ_len (l : Launch) (kq vq : Nat) (A : Nat → Prop) : Met l yJ_len (wy yJ_len prog_11_method_54_code 1 (some .int)) rmJ_len (Px [.ref kq] (SX kq vq A)) (Qp (.int 107)) 0 0 (fun _ => False) := by
  refine mk_metx (by decide) (Nat.le_of_ble_eq_true rfl) ?_
  intro p e s m below meth c S hr hlk hX ls hl
  obtain ⟨hx, hb, hml, hown, hts⟩ := id S
  have hS : va_S A s.heap s.heap [] := va_S.rf
  have hl : lv_has ls 1 [(0, .ref kq)] := hl
  refine lv_aload_n hx hb dJ_len_0 rfl (lv_at hl 0 rfl) ?_
  refine vk_getf hx hb hX.2.2.2.2.1 hS hown (hts _ (gt_at 1297 (by decide +kernel) (by decide +kernel))) (fun _ h => h) dJ_len_1 ?_
  refine va_tlen (v := 107) hx hb hX.2.2.2.2.2 hS (by decide) dJ_len_4 ?_
  refine lv_aload_n hx hb dJ_len_5 rfl (lv_at hl 0 rfl) ?_
  refine r_endp (run_VX (n := 0) (As := []) S hX hS rfl (gw_V (gt_at 281 (by decide +kernel) (by decide +kernel)) (gt_at 282 (by decide +kernel) (by decide +kernel)) (gt_at 283 (by decide +kernel) (by decide +kernel)) (gt_at 82 (by decide +kernel) (by decide +kernel)) (gt_at 284 (by decide +kernel) (by decide +kernel))) (by decide +kernel) rfl (cJ_cod l kq vq A) ⟨rfl, rfl⟩ ⟨Nat.le_of_ble_eq_true rfl, Nat.le_of_ble_eq_true rfl⟩ ⟨Nat.le_of_ble_eq_true rfl, Nat.le_of_ble_eq_true rfl⟩ hl.1 rfl (Nat.le_of_ble_eq_true rfl) dJ_len_6) ?_
  refine lv_ishr hx hb dJ_len_9 ?_
  refine lv_topi (fun z hz => ?_)
  have hz : z = 107 := by rw [hz]; decide
  subst hz
  exact q_ipure S hr hlk rfl dJ_len_10
set_option maxHeartbeats 4000000 in
set_option maxRecDepth 100000 in
theorem cJ_cha (l : Launch) (kq vq : Nat) (A : Nat → Prop) (k : Nat) (hk : k < 107) : Met l yJ_cha (wy yJ_cha prog_11_method_56_code 2 (some .char)) rmJ_cha (Px [.ref kq, .int (nI k)] (SX kq vq A)) (Qp (.int (atB.getD k 0))) 0 0 (fun _ => False) := by
  refine mk_metx (by decide) (Nat.le_of_ble_eq_true rfl) ?_
  intro p e s m below meth c S hr hlk hX ls hl
  obtain ⟨hx, hb, hml, hown, hts⟩ := id S
  have hS : va_S A s.heap s.heap [] := va_S.rf
  have hl : lv_has ls 2 [(0, .ref kq), (1, .int (nI k))] := hl
  refine lv_aload_n hx hb dJ_cha_0 rfl (lv_at hl 0 rfl) ?_
  refine r_endp (run_VX (n := 0) (As := []) S hX hS rfl (gw_V (gt_at 291 (by decide +kernel) (by decide +kernel)) (gt_at 292 (by decide +kernel) (by decide +kernel)) (gt_at 293 (by decide +kernel) (by decide +kernel)) (gt_at 82 (by decide +kernel) (by decide +kernel)) (gt_at 294 (by decide +kernel) (by decide +kernel))) (by decide +kernel) rfl (cJ_lat l kq vq A) ⟨rfl, rfl⟩ ⟨Nat.le_of_ble_eq_true rfl, Nat.le_of_ble_eq_true rfl⟩ ⟨Nat.le_of_ble_eq_true rfl, Nat.le_of_ble_eq_true rfl⟩ hl.1 rfl (Nat.le_of_ble_eq_true rfl) dJ_cha_1) ?_
  refine lv_if_eq (tgt := 16) hx hb dJ_cha_4 (by decide) (fun hc => absurd hc (by decide)) (fun _ => ?_)
  refine lv_aload_n hx hb dJ_cha_7 rfl (lv_at hl 0 rfl) ?_
  refine vk_getf hx hb hX.2.2.2.2.1 hS hown (hts _ (gt_at 1297 (by decide +kernel) (by decide +kernel))) (fun _ h => h) dJ_cha_8 ?_
  refine lv_iload_n hx hb dJ_cha_11 rfl (lv_at hl 1 rfl) ?_
  refine r_endp (run_SX (n := 2) (As := [.ref vq, .int (nI k)]) (rest := []) S ⟨SX_blind, fun U hU hW => ⟨rfl, hX.to hS hU hW⟩⟩ (gt_at 295 (by decide +kernel) (by decide +kernel)) (gt_at 296 (by decide +kernel) (by decide +kernel)) (gt_at 83 (by decide +kernel) (by decide +kernel)) (gt_at 297 (by decide +kernel) (by decide +kernel)) (by decide +kernel) rfl (cJ_l1c l kq vq A k hk) ⟨rfl, rfl⟩ ⟨Nat.le_of_ble_eq_true rfl, Nat.le_of_ble_eq_true rfl⟩ ⟨Nat.le_of_ble_eq_true rfl, Nat.le_of_ble_eq_true rfl⟩ hl.1 rfl (Nat.le_of_ble_eq_true rfl) dJ_cha_12) ?_
  exact q_any S hr hlk (at_fix ⟨k, hk⟩).2 dJ_cha_15
