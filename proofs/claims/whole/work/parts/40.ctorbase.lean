/-! CONSTRUCTORS: worlds as lists; a new object's cells come behind; the array classes are the world's own -/
def PcI (w : WV) (As : List Value) (sz : Nat) (ws : va_W) (X : State → Prop) : Array Value → State → Prop := va_Pc As (fun U => U.heap.size = sz ∧ va_P w.1 vwCl ws U.heap ∧ KW w U ∧ NW U ∧ va_D (fun _ => True) ws ∧ X U)
def QvI (w : WV) (lst : (Nat → Nat) → va_W) (a : Nat) (A : Nat → Prop) : Array Value → State → Outcome → State → Prop := va_Qv (fun u : Nat → Nat => u 0 = a) (fun u t => va_P w.1 vwCl (lst u) t.heap ∧ va_D A (lst u)) A
abbrev nx (_ : State) : Prop := True
theorem ra_inj {s : State} {c1 c2 : ClassId} {ty : FieldType} (h1 : va_RA s c1 ty) (h2 : va_RA s c2 ty) : c1 = c2 := by
  cases ty with
  | object C =>
    obtain ⟨_, _, _, _, _, e1⟩ := h1
    obtain ⟨_, _, _, _, _, e2⟩ := h2
    exact Option.some.inj (e1.symm.trans e2)
  | _ => exact Option.some.inj ((show s.vm.findClass _ = some c1 from h1).symm.trans (show s.vm.findClass _ = some c2 from h2))
theorem pick_last (wr : va_W) (x : Nat × va_E) : (List.range wr.length).map (fun i => (wr ++ [x])[i]?) = wr.map some := by
  apply List.ext_getElem?
  intro i
  by_cases hi : i < wr.length
  · rw [List.getElem?_map, List.getElem?_map, List.getElem?_range hi]
    show some ((wr ++ [x])[i]?) = _
    rw [List.getElem?_append_left hi]
    simp [hi]
  · rw [List.getElem?_map, List.getElem?_map]
    simp [hi, Nat.not_lt.mp hi]
theorem nd_range : ∀ n : Nat, va_nd (List.range n) = true := by
  have key : ∀ l : List Nat, l.Nodup → va_nd l = true := by
    intro l
    induction l with
    | nil => intro _; rfl
    | cons a l ih =>
      intro h
      have h2 := List.nodup_cons.mp h
      simp [va_nd, h2.1, ih h2.2]
  exact fun n => key _ List.nodup_range
section Ctor
variable {p : Program} {l : Launch} {e : Env} {R : Room} {s : State} {m : MethodId} {args : Array Value} {below : List Frame} {meth : Method} {c : Code} {H : Heap} {locs : List Loc} {cells slots : Nat} {Q : State → Prop}
variable {cc : ByteArray} {pc nL : Nat} {ls : Array Slot} {rest : List Value} {w : WV} {own : String} {A : Nat → Prop} {ws : va_W} {H0 : Heap}
theorem mk_meti {y : MethodName} {maxL : Nat} {ret : Option FieldType} {rm : Room} {As : List Value} {sz mc ms : Nat} {X : State → Prop} {Qc : Array Value → State → Outcome → State → Prop} {free : Addr → Prop} (hy : plainName y.cls = true) (hlen : (lg_sl As).length ≤ maxL)
    (body : ∀ (p : Program) (e : Env) (s : State) (m : MethodId) (below : List Frame) (meth : Method) (c : Code), CallFix p m c cc maxL s As.toArray gtbl y.cls → meth.sig.returnType = ret → meth.locks = false → meth.name = y.name → s.heap.size = sz → KW w s → NW s → va_P w.1 vwCl ws s.heap → va_D (fun _ => True) ws → X s → ∀ ls : Array Slot, lv_has ls maxL (lv_args 0 As) → W p l e rm s m As.toArray below meth c s.heap [] 0 0 (MQ below Qc As.toArray s mc ms free) (F0 m 0 ls [])) : Met l y (wy y cc maxL ret) rm (PcI w As sz ws X) Qc mc ms free := by
  refine Met.ofW (cc := cc) (maxL := maxL) (ret := ret) hy rfl ?_
  intro p e s m args below meth c s₁ B hml hv
  obtain ⟨rfl, hsz, hP, hK, hN, hD, hX⟩ := hv
  have hts := atoms_spec (ws := wy y cc maxL ret) B.pre
  rw [lg_entry_eq]
  exact body p e s m below meth c ⟨B.exec, B.bytes, hml, findClass_of_methodNamed B.named, fun w hw => hts w (List.mem_cons_of_mem _ hw)⟩ B.returns B.notSynchronized (name_of_methodNamed B.named B.method).1 hsz hK hN hP hD hX _ (lv_entry As hlen)
theorem x_newa (S : CallFix p m c cc nL s args gtbl own) (hK : KW w s) {atype : ArrayType} {ty : FieldType} {t0 : Nat} (hty : newarray.typeOf atype = ty) (harr : Cond.arrayClass (newarray.typeOf atype) ∈ gtbl) (ht : (tysW w)[t0]? = some (w.2.1 t0, ty)) (hP : va_P w.1 vwCl ws H) (hD : va_D A ws) (hS : va_S A H0 H locs) (hA : ∀ q, H0.size ≤ q → A q)
    {n : Int32} {N : Nat} (hdf : defaultValue ty = .int 0) (hn : ¬ n < 0) (hN : n.toNatClampNeg = N) (hbytes : N * componentBytes ty ≤ 536870912) (hcells : cells + 1 ≤ R.cells) (hslots : slots + N ≤ R.slots) (hdg : decode cc pc = .ok (.newarray atype, 2))
    (kk : ∀ (q : Nat) (H1 : Heap), va_P w.1 vwCl (ws ++ [(q, .inl (w.2.1 t0, N, .inl (fun _ => 0)))]) H1 → va_D A (ws ++ [(q, .inl (w.2.1 t0, N, .inl (fun _ => 0)))]) → va_S A H0 H1 locs → W p l e R s m args below meth c H1 locs (cells + 1) (slots + N) Q (F0 m (pc + 2) ls (.ref q :: rest))) : W p l e R s m args below meth c H locs cells slots Q (F0 m pc ls (.int n :: rest)) := by
  refine va_newa (atype := atype) (a0 := (N, .inl (fun _ => 0))) S.1 S.2.1 (S.2.2.2.2 _ harr) hty hK hP hD hS hA (fun cA => by rw [hdf]; rfl) hn hN hbytes hcells hslots hdg (fun q cA H1 hK1 hP1 hD1 hS1 => ?_)
  have h1 : va_RA s cA ty := (hK1.2 (tysW w).length (cA, ty) (by rw [List.getElem?_append_right (Nat.le_refl _), Nat.sub_self]; rfl)).2
  have h2 : va_RA s (w.2.1 t0) ty := (hK.2 t0 _ ht).2
  cases ra_inj h1 h2
  exact kk q H1 hP1 hD1 hS1
theorem x_newq (S : CallFix p m c cc nL s args gtbl own) (hK : KW w s) {C : String} {t0 index : Nat} (hcl : Cond.classLink own index C ∈ gtbl) (hov : va_AO C s) (ht : (tysW w)[t0]? = some (w.2.1 t0, .object C)) (hP : va_P w.1 vwCl ws H) (hD : va_D A ws) (hS : va_S A H0 H locs) (hA : ∀ q, H0.size ≤ q → A q)
    {n : Int32} {N : Nat} (hn : ¬ n < 0) (hN : n.toNatClampNeg = N) (hbytes : N * 4 ≤ 536870912) (hcells : cells + 1 ≤ R.cells) (hslots : slots + N ≤ R.slots) (hdg : decode cc pc = .ok (.anewarray index, 3))
    (kk : ∀ (q : Nat) (H1 : Heap), va_P w.1 vwCl (ws ++ [(q, .inl (w.2.1 t0, N, .inr (.inr (.inr (.inr (fun _ => none))))))]) H1 → va_D A (ws ++ [(q, .inl (w.2.1 t0, N, .inr (.inr (.inr (.inr (fun _ => none))))))]) → va_S A H0 H1 locs → W p l e R s m args below meth c H1 locs (cells + 1) (slots + N) Q (F0 m (pc + 3) ls (.ref q :: rest))) : W p l e R s m args below meth c H locs cells slots Q (F0 m pc ls (.int n :: rest)) := by
  refine va_newq S.1 S.2.1 S.2.2.2.1 (S.2.2.2.2 _ hcl) hov hK hP hD hS hA hn hN hbytes hcells hslots hdg (fun q cA H1 hK1 hP1 hD1 hS1 => ?_)
  have h1 : va_RA s cA (.object C) := (hK1.2 (tysW w).length (cA, .object C) (by rw [List.getElem?_append_right (Nat.le_refl _), Nat.sub_self]; rfl)).2
  have h2 : va_RA s (w.2.1 t0) (.object C) := (hK.2 t0 _ ht).2
  cases ra_inj h1 h2
  exact kk q H1 hP1 hD1 hS1
/-- a constructor's call on the last cell: its cells come in its place -/
theorem x_end {st0 : List Value} {wr : va_W} {a : Nat} {bl : va_E} {lst : (Nat → Nat) → va_W} {av : Array Value} {mc ms : Nat} (hP : va_P w.1 vwCl (wr ++ [(a, bl)]) H) (hD : va_D A (wr ++ [(a, bl)])) (hS : va_S A H0 H locs) (hA : ∀ q, H0.size ≤ q → A q)
    (hr : va_Run p l e R s m args below meth c H locs cells slots mc ms (F0 m pc ls st0) rest (QvI w lst a (va_A [(a, bl)] H.size) av) (va_A [(a, bl)] H.size))
    (kk : ∀ (u : Nat → Nat) (H1 : Heap) (locs1 : List Loc), u 0 = a → va_P w.1 vwCl (wr ++ lst u) H1 → va_D A (wr ++ lst u) → va_S A H0 H1 locs1 → W p l e R s m args below meth c H1 locs1 (cells + mc) (slots + ms) Q (F0 m (pc + 3) ls rest)) : W p l e R s m args below meth c H locs cells slots Q (F0 m pc ls st0) := by
  have hF : ∀ q, va_A [(a, bl)] H.size q → A q := va_free (wc := [(a, bl)]) hD hS hA [wr.length] (by simp)
  refine va_callv hr hS (fun q _ h => hF q h) hF (fun u t H1 locs1 ht hvm hw hB hz hk hS1 => ?_)
  obtain ⟨hP1, hD1⟩ := hB
  rw [ht] at hP1
  obtain ⟨h1, h2⟩ := va_join (wc := [(a, bl)]) (wr := wr) (w1 := lst u) hP hD [wr.length] (List.range wr.length) (by simp) (pick_last wr (a, bl)) (nd_range _) (fun i hi hj => by rw [List.mem_singleton] at hj; subst hj; exact Nat.lt_irrefl _ (List.mem_range.mp hi)) hk hF hP1 hD1
  exact kk u H1 locs1 hw h1 h2 hS1
variable {y : MethodName} {bytes : ByteArray} {maxL index n : Nat} {rm : Room} {As : List Value} {Qc : Array Value → State → Outcome → State → Prop} {free : Addr → Prop} {st0 : List Value} {mc ms a : Nat} {bl : va_E} {wr : va_W} {X : State → Prop}
theorem x_pre (hK : KW w s) (hN : NW s) (hP : va_P w.1 vwCl (wr ++ [(a, bl)]) H) (hXb : FrameBlind (fun _ U => X U)) (hX : ∀ U : State, U.heap = H → s.WarmedH U.vm → X U) : PreS s H (PcI w (.ref a :: As) H.size [(a, bl)] X) (.ref a :: As) := by
  refine ⟨fun b U g mk h => ?_, fun U hU hW => ?_⟩
  · obtain ⟨h1, h2, h3, h4, h5, h6, h7⟩ := h
    exact ⟨h1, h2, h3, va_K.moved (u := U) (U := U.calling g mk b) (Vm.Alike.refl U.vm) h4, fun q hq => va_Nw.same rfl rfl (h5 q hq), h6, hXb b U g mk h7⟩
  · refine ⟨rfl, by rw [hU], by rw [hU]; exact hP.sub [wr.length] (by simp), va_K.moved hW.alike hK, fun q hq => va_Nw.warmM hW (hN q hq), ?_, hX U hU hW⟩
    refine ⟨fun i j x y hi hj _ => ?_, fun _ _ _ => trivial⟩
    have h1 := (List.getElem?_eq_some_iff.mp hi).1
    have h2 := (List.getElem?_eq_some_iff.mp hj).1
    simp at h1 h2
    omega
theorem run_I (S : CallFix p m c cc nL s args gtbl own) (h1 : Cond.methodLink own index y ∈ gtbl) (h2 : Cond.instanceMethod y ∈ gtbl) (h4 : Cond.initialized y.cls ∈ gtbl) (h5 : Cond.code y bytes maxL none ∈ gtbl) (hd : y.cls ≠ "java/lang/invoke/MethodHandle" ∧ y.cls ≠ "java/lang/invoke/VarHandle" ∧ (parseMethodDescriptor y.desc).map (fun d => d.parameters.length) = some n) (hnm : y.name = "<init>")
    (hn : As.length = n) (hM : Met l y (wy y bytes maxL none) rm (PcI w (.ref a :: As) H.size [(a, bl)] X) Qc mc ms free) (hpre : PreS s H (PcI w (.ref a :: As) H.size [(a, bl)] X) (.ref a :: As)) (hz : rm.cells = mc ∧ rm.slots = ms) (hRm : rm.frames + 1 ≤ R.frames ∧ 8 + (maxL + 11) + rm.locals ≤ R.locals) (hf : cells + mc ≤ R.cells ∧ slots + ms ≤ R.slots) (hl : ls.size = nL) (hst : st0 = As.reverse ++ .ref a :: rest) (hW : (rest.map fun v => v.category).sum ≤ 8) (hdg : decode cc pc = .ok (.invokespecial index, 3)) :
    va_Run p l e R s m args below meth c H locs cells slots mc ms (F0 m pc ls st0) rest (Qc (Value.ref a :: As).toArray) free :=
  va_runI (g := F0 m pc ls st0) S hM ⟨callB_of n S.2.2.2.2 (gd_wy h5) rfl hz.1 hz.2 (S.2.2.2.2 _ h4) (S.2.2.2.2 _ h1) hd hRm, hnm, S.2.2.2.2 _ h2⟩ hpre rfl hn hl hst (lv_room hW) hdg hf
theorem run_IN (S : CallFix p m c cc nL s args gtbl own) (hN : NW s) {host : String} (h1 : (own, index, y, host) ∈ nestL) (h2 : Cond.instanceMethod y ∈ gtbl) (h4 : Cond.initialized y.cls ∈ gtbl) (h5 : Cond.code y bytes maxL none ∈ gtbl) (hd : y.cls ≠ "java/lang/invoke/MethodHandle" ∧ y.cls ≠ "java/lang/invoke/VarHandle" ∧ (parseMethodDescriptor y.desc).map (fun d => d.parameters.length) = some n) (hnm : y.name = "<init>")
    (hn : As.length = n) (hM : Met l y (wy y bytes maxL none) rm (PcI w (.ref a :: As) H.size [(a, bl)] X) Qc mc ms free) (hpre : PreS s H (PcI w (.ref a :: As) H.size [(a, bl)] X) (.ref a :: As)) (hz : rm.cells = mc ∧ rm.slots = ms) (hRm : rm.frames + 1 ≤ R.frames ∧ 8 + (maxL + 11) + rm.locals ≤ R.locals) (hf : cells + mc ≤ R.cells ∧ slots + ms ≤ R.slots) (hl : ls.size = nL) (hst : st0 = As.reverse ++ .ref a :: rest) (hW : (rest.map fun v => v.category).sum ≤ 8) (hdg : decode cc pc = .ok (.invokespecial index, 3)) :
    va_Run p l e R s m args below meth c H locs cells slots mc ms (F0 m pc ls st0) rest (Qc (Value.ref a :: As).toArray) free := by
  have hnw : va_Nw (.methodLinkNest own index y host) s := hN (own, index, y, host) h1
  have hcn := va_cnB (R := R) (ws := wy y bytes maxL none) (ws' := gtbl) (rm := rm) (mc := mc) (ms := ms) n S.2.2.2.2 (gd_wy h5) rfl hz.1 hz.2 hnw (S.2.2.2.2 _ h4) hd hRm
  have hin : (Cond.instanceMethod y).before args s = true := S.2.2.2.2 _ h2
  exact va_runIN (g := F0 m pc ls st0) S hM ⟨hcn, hnm, hin⟩ hpre rfl hn hl hst (lv_room hW) hdg hf
end Ctor
