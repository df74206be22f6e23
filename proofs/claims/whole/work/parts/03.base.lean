/-! THE WORLD AS A FLAT MEMORY: cell j holds σ j; refs are fixed by the cell's kind. -/
abbrev Mem : Type := Nat → Nat → Int32
def mu (σ : Mem) (j k : Nat) (x : Int32) : Mem := fun i => if i = j then upd (σ j) k x else σ i
/-- the classes' slots, the array classes (0 int, 1 boolean, 2 Hour, 3 Stand), the addresses of the cells -/
abbrev WV : Type := va_G × (Nat → ClassId) × (Nat → Nat)
abbrev EV : Type := WV → Nat → (Nat → Int32) → va_E
abbrev tysW (w : WV) : List (ClassId × FieldType) := [(w.2.1 0, .int), (w.2.1 1, .boolean), (w.2.1 2, .object RX1), (w.2.1 3, .object RX4)]
def KW (w : WV) (s : State) : Prop := va_K w.1 vwCl (tysW w) s
def wl (E : EV) (L : List Nat) (w : WV) (σ : Mem) : va_W := L.map (fun j => (w.2.2 j, E w j (σ j)))
def Rp (E : EV) (L : List Nat) (w : WV) (σ : Mem) (H : Heap) : Prop := va_P w.1 vwCl (wl E L w σ) H
def AW (L : List Nat) (w : WV) : Nat → Prop := fun q => ∃ j, j ∈ L ∧ q = w.2.2 j
def Inj (L : List Nat) (w : WV) : Prop := L.Nodup ∧ ∀ i, i ∈ L → ∀ j, j ∈ L → w.2.2 i = w.2.2 j → i = j
def NW (s : State) : Prop := ∀ q ∈ nestL, va_Nw (.methodLinkNest q.1 q.2.1 q.2.2.1 q.2.2.2) s
def KS (L : List Nat) (w : WV) (s : State) : Prop := KW w s ∧ Inj L w ∧ NW s
theorem wl_get {E : EV} {L : List Nat} {w : WV} {σ : Mem} {k : Nat} {q : Nat × va_E} (h : (wl E L w σ)[k]? = some q) : ∃ j, L[k]? = some j ∧ j ∈ L ∧ q = (w.2.2 j, E w j (σ j)) := by
  unfold wl at h
  rw [List.getElem?_map] at h
  cases hk : L[k]? with
  | none => rw [hk] at h; cases h
  | some j => rw [hk] at h; exact ⟨j, rfl, List.mem_of_getElem? hk, (Option.some.inj h).symm⟩
theorem wl_D {E : EV} {L : List Nat} {w : WV} {σ : Mem} (hI : Inj L w) : va_D (AW L w) (wl E L w σ) := by
  refine ⟨fun i j x y hi hj hxy => ?_, fun k q hk => ?_⟩
  · obtain ⟨a, a1, a2, rfl⟩ := wl_get hi
    obtain ⟨b, b1, b2, rfl⟩ := wl_get hj
    have hab := hI.2 a a2 b b2 hxy
    subst hab
    have h1 := (List.getElem?_eq_some_iff.mp a1).1
    exact (List.getElem?_inj h1 hI.1).mp (a1.trans b1.symm)
  · obtain ⟨a, a1, a2, rfl⟩ := wl_get hk
    exact ⟨a, a2, rfl⟩
theorem wl_at {E : EV} {L : List Nat} {w : WV} {σ : Mem} {j : Nat} (hj : j ∈ L) : ∃ q0 : Nat, (wl E L w σ)[q0]? = some (w.2.2 j, E w j (σ j)) ∧ (L.Nodup → ∀ s' : Nat → Int32, (wl E L w σ).set q0 (w.2.2 j, E w j s') = wl E L w (fun i => if i = j then s' else σ i)) := by
  obtain ⟨q0, hq⟩ := List.getElem?_of_mem hj
  refine ⟨q0, by unfold wl; rw [List.getElem?_map, hq]; rfl, fun hn s' => ?_⟩
  have hl := (List.getElem?_eq_some_iff.mp hq).1
  apply List.ext_getElem?
  intro i
  by_cases hi : i = q0
  · subst hi
    rw [List.getElem?_set_self (by unfold wl; rw [List.length_map]; exact hl)]
    unfold wl
    rw [List.getElem?_map, hq]
    simp
  · rw [List.getElem?_set_ne (Ne.symm hi)]
    unfold wl
    rw [List.getElem?_map, List.getElem?_map]
    cases hk : L[i]? with
    | none => rfl
    | some a =>
      have hne : a ≠ j := fun hx => hi ((List.getElem?_inj (List.getElem?_eq_some_iff.mp hk).1 hn).mp (by rw [hk, hq, hx]))
      simp [hne]
theorem KS.same {L : List Nat} {w : WV} {u U : State} (hvm : u.vm = U.vm) (h : KS L w u) : KS L w U := ⟨va_K.moved (by rw [hvm]; exact Vm.Alike.refl _) h.1, h.2.1, fun q hq => va_Nw.same rfl hvm (h.2.2 q hq)⟩
theorem KS.warm {L : List Nat} {w : WV} {u U : State} (hW : u.WarmedH U.vm) (h : KS L w u) : KS L w U := ⟨va_K.moved hW.alike h.1, h.2.1, fun q hq => va_Nw.warmM hW (h.2.2 q hq)⟩
/-- the words of a method: its own code, and the good words -/
abbrev wy (y : MethodName) (cc : ByteArray) (n : Nat) (ret : Option FieldType) : List Cond := Cond.code y cc n ret :: gtbl
theorem gd_tbl : GoodIn gtbl gtbl := fun w h => ⟨h, good_of_word (gt_good w h)⟩
theorem gd_wy {y : MethodName} {cc : ByteArray} {n : Nat} {ret : Option FieldType} (h : Cond.code y cc n ret ∈ gtbl) : GoodIn gtbl (wy y cc n ret) := fun w hw => (List.mem_cons.mp hw).elim (fun e => by rw [e]; exact gd_tbl _ h) (gd_tbl w)
def Pw (E : EV) (L : List Nat) (w : WV) (As : List Value) (σ : Mem) : Array Value → State → Prop := fun v U => v = As.toArray ∧ Rp E L w σ U.heap ∧ KS L w U
def Ps (As : List Value) : Array Value → State → Prop := fun v _ => v = As.toArray
def Qw (E : EV) (L : List Nat) (w : WV) (σ : Mem) (r : Option Value) : Array Value → State → Outcome → State → Prop := fun _ st oc t => oc = .returned r ∧ Rp E L w σ t.heap ∧ va_F (AW L w) st t
def Qp (r : Value) : Array Value → State → Outcome → State → Prop := fun _ st oc t => oc = .returned (some r) ∧ t.heap = st.heap
theorem Pw_blind {E : EV} {L : List Nat} {w : WV} {As : List Value} {σ : Mem} : FrameBlind (Pw E L w As σ) := fun a U g mk h => ⟨h.1, h.2.1, KS.same (u := U) (U := U.calling g mk a) rfl h.2.2⟩
theorem Ps_blind {As : List Value} : FrameBlind (Ps As) := fun _ _ _ _ h => h
/-- a method's body, from its entry -/
theorem mk_met {l : Launch} {y : MethodName} {cc : ByteArray} {maxL : Nat} {ret : Option FieldType} {rm : Room} {E : EV} {L : List Nat} {w : WV} {As : List Value} {σ : Mem} {Qc : Array Value → State → Outcome → State → Prop} {free : Addr → Prop} (hy : plainName y.cls = true) (hlen : (lg_sl As).length ≤ maxL)
    (body : ∀ (p : Program) (e : Env) (s : State) (m : MethodId) (below : List Frame) (meth : Method) (c : Code), CallFix p m c cc maxL s As.toArray gtbl y.cls → meth.sig.returnType = ret → meth.locks = false → KS L w s → Rp E L w σ s.heap → ∀ ls : Array Slot, lv_has ls maxL (lv_args 0 As) → W p l e rm s m As.toArray below meth c s.heap [] 0 0 (MQ below Qc As.toArray s 0 0 free) (F0 m 0 ls [])) : Met l y (wy y cc maxL ret) rm (Pw E L w As σ) Qc 0 0 free := by
  refine Met.ofW (cc := cc) (maxL := maxL) (ret := ret) hy rfl ?_
  intro p e s m args below meth c s₁ B hml hv
  obtain ⟨rfl, hR, hK⟩ := hv
  have hts := atoms_spec (ws := wy y cc maxL ret) B.pre
  rw [lg_entry_eq]
  exact body p e s m below meth c ⟨B.exec, B.bytes, hml, findClass_of_methodNamed B.named, fun w hw => hts w (List.mem_cons_of_mem _ hw)⟩ B.returns B.notSynchronized hK hR _ (lv_entry As hlen)
theorem mk_mets {l : Launch} {y : MethodName} {cc : ByteArray} {maxL : Nat} {ret : Option FieldType} {rm : Room} {As : List Value} {Qc : Array Value → State → Outcome → State → Prop} {free : Addr → Prop} (hy : plainName y.cls = true) (hlen : (lg_sl As).length ≤ maxL)
    (body : ∀ (p : Program) (e : Env) (s : State) (m : MethodId) (below : List Frame) (meth : Method) (c : Code), CallFix p m c cc maxL s As.toArray gtbl y.cls → meth.sig.returnType = ret → meth.locks = false → ∀ ls : Array Slot, lv_has ls maxL (lv_args 0 As) → W p l e rm s m As.toArray below meth c s.heap [] 0 0 (MQ below Qc As.toArray s 0 0 free) (F0 m 0 ls [])) : Met l y (wy y cc maxL ret) rm (Ps As) Qc 0 0 free := by
  refine Met.ofW (cc := cc) (maxL := maxL) (ret := ret) hy rfl ?_
  intro p e s m args below meth c s₁ B hml hv
  obtain rfl := hv
  have hts := atoms_spec (ws := wy y cc maxL ret) B.pre
  rw [lg_entry_eq]
  exact body p e s m below meth c ⟨B.exec, B.bytes, hml, findClass_of_methodNamed B.named, fun w hw => hts w (List.mem_cons_of_mem _ hw)⟩ B.returns B.notSynchronized _ (lv_entry As hlen)
/-- booleans -/
theorem nb_n {v : Int32} (h : v = 0 ∨ v = 1) : narrow .boolean (.int v) = .int v := by rcases h with rfl | rfl <;> decide +kernel
theorem nb_f {v : Int32} (h : v = 0 ∨ v = 1) : fits .boolean (.int v) = true := by rcases h with rfl | rfl <;> decide +kernel
theorem nb_v {v : Int32} (h : v = 0 ∨ v = 1) : vp_nar .boolean v = v := by rcases h with rfl | rfl <;> decide +kernel
/-- options -/
theorem og_if {α : Type} {P : Prop} [Decidable P] {x : Option α} {y : α} (h : (if P then x else none) = some y) : P ∧ x = some y := by
  by_cases hp : P
  · rw [if_pos hp] at h; exact ⟨hp, h⟩
  · rw [if_neg hp] at h; cases h
theorem og_t {α : Type} {P : Prop} [Decidable P] {x y z : α} (hp : P) (h : (if P then x else y) = z) : x = z := by rw [if_pos hp] at h; exact h
theorem og_f {α : Type} {P : Prop} [Decidable P] {x y z : α} (hp : ¬ P) (h : (if P then x else y) = z) : y = z := by rw [if_neg hp] at h; exact h
theorem og_b {α β : Type} {x : Option α} {f : α → Option β} {y : β} (h : Option.bind x f = some y) : ∃ a, x = some a ∧ f a = some y := by
  cases x with
  | none => cases h
  | some a => exact ⟨a, rfl, h⟩
section Rows
variable {p : Program} {l : Launch} {e : Env} {R : Room} {s : State} {m : MethodId} {args : Array Value} {below : List Frame} {meth : Method} {c : Code} {H : Heap} {locs : List Loc} {cells slots : Nat} {Q : State → Prop}
variable {cc : ByteArray} {pc nL : Nat} {ls : Array Slot} {rest : List Value} {E : EV} {L : List Nat} {w : WV} {σ : Mem} {own : String} {j : Nat}
theorem r_get (S : CallFix p m c cc nL s args gtbl own) (hK : KS L w s) (hR : Rp E L w σ H) (hj : j ∈ L) {C : String} {T : u_T} {N ci index : Nat} {fs : List Value} (hin : ∀ w ∈ u_ws C T N, w ∈ gtbl) (he : E w j (σ j) = .inr (ci, fs)) (hc : vwCl[ci]? = some (C, T, N)) (k : Nat) (hk : k < N) (hl : Cond.fieldLink own index (T k).1 (T k).2.1 (T k).2.2.1 ∈ gtbl) {v : Value} (hv : fs[k]? = some v) (hdg : decode cc pc = .ok (.getfield index, 3))
    (kk : W p l e R s m args below meth c H locs cells slots Q (F0 m (pc + 3) ls (v :: rest))) : W p l e R s m args below meth c H locs cells slots Q (F0 m pc ls (.ref (w.2.2 j) :: rest)) := by
  obtain ⟨q0, h0, -⟩ := wl_at (E := E) (L := L) (w := w) (σ := σ) hj
  rw [he] at h0
  exact va_get S.1 S.2.1 S.2.2.2.2 hin S.2.2.2.1 hK.1 hR q0 h0 hc k hk (S.2.2.2.2 _ hl) (fun _ h => h) hv hdg kk
theorem r_put (S : CallFix p m c cc nL s args gtbl own) (hK : KS L w s) (hR : Rp E L w σ H) (hS : va_S (AW L w) s.heap H locs) (hj : j ∈ L) {C : String} {T : u_T} {N ci index : Nat} {fs : List Value} (hin : ∀ w ∈ u_ws C T N, w ∈ gtbl) {ty0 : Nat → FieldType} (hty : ∀ k, k < N → parseFieldDescriptor (T k).2.2.1 = some (ty0 k)) (hnm : ∀ a, a < N → ∀ b, b < N → a ≠ b → (T a).2.1 ≠ (T b).2.1) (he : E w j (σ j) = .inr (ci, fs)) (hc : vwCl[ci]? = some (C, T, N)) (k : Nat) (hk : k < N) (hl : Cond.fieldLink own index (T k).1 (T k).2.1 (T k).2.2.1 ∈ gtbl) (hfin : (T k).2.2.2 = false) {x : Int32} (hn : narrow (ty0 k) (.int x) = .int x) (hfit : fits (ty0 k) (.int x) = true) (hlen : k < fs.length) (he2 : E w j (upd (σ j) k x) = .inr (ci, fs.set k (.int x))) (hdg : decode cc pc = .ok (.putfield index, 3))
    (kk : ∀ (H1 : Heap) (locs1 : List Loc), Rp E L w (mu σ j k x) H1 → va_S (AW L w) s.heap H1 locs1 → W p l e R s m args below meth c H1 locs1 cells slots Q (F0 m (pc + 3) ls rest)) : W p l e R s m args below meth c H locs cells slots Q (F0 m pc ls (.int x :: .ref (w.2.2 j) :: rest)) := by
  obtain ⟨q0, h0, h1⟩ := wl_at (E := E) (L := L) (w := w) (σ := σ) hj
  rw [he] at h0
  refine va_put S.1 S.2.1 S.2.2.2.2 hin ty0 hty hnm S.2.2.2.1 hK.1 hR (wl_D hK.2.1) hS q0 h0 hc k hk (S.2.2.2.2 _ hl) (fun _ h => h) hfin (hty k hk) hn hfit hlen hdg (fun H1 locs1 hP _ hS1 => kk H1 locs1 ?_ hS1)
  rw [← he2, h1 hK.2.1.1] at hP
  exact hP
theorem r_ild (S : CallFix p m c cc nL s args gtbl own) (hK : KS L w s) (hR : Rp E L w σ H) (hj : j ∈ L) {n : Nat} (he : E w j (σ j) = .inl (w.2.1 0, n, .inl (σ j))) {i : Int32} (hin : vp_in i n) (hdg : decode cc pc = .ok (.iaload, 1))
    (kk : W p l e R s m args below meth c H locs cells slots Q (F0 m (pc + 1) ls (.int (σ j i.toNatClampNeg) :: rest))) : W p l e R s m args below meth c H locs cells slots Q (F0 m pc ls (.int i :: .ref (w.2.2 j) :: rest)) := by
  obtain ⟨q0, h0, -⟩ := wl_at (E := E) (L := L) (w := w) (σ := σ) hj
  rw [he] at h0
  exact va_iald S.1 S.2.1 hK.1 hR q0 0 h0 rfl hin hdg kk
theorem r_zld (S : CallFix p m c cc nL s args gtbl own) (hK : KS L w s) (hR : Rp E L w σ H) (hj : j ∈ L) {n : Nat} (he : E w j (σ j) = .inl (w.2.1 1, n, .inl (σ j))) {i : Int32} (hin : vp_in i n) (hdg : decode cc pc = .ok (.baload, 1))
    (kk : W p l e R s m args below meth c H locs cells slots Q (F0 m (pc + 1) ls (.int (σ j i.toNatClampNeg) :: rest))) : W p l e R s m args below meth c H locs cells slots Q (F0 m pc ls (.int i :: .ref (w.2.2 j) :: rest)) := by
  obtain ⟨q0, h0, -⟩ := wl_at (E := E) (L := L) (w := w) (σ := σ) hj
  rw [he] at h0
  exact va_zald S.1 S.2.1 hK.1 hR q0 1 h0 rfl hin hdg kk
theorem r_ist (S : CallFix p m c cc nL s args gtbl own) (hK : KS L w s) (hR : Rp E L w σ H) (hS : va_S (AW L w) s.heap H locs) (hj : j ∈ L) {n : Nat} (he : ∀ f : Nat → Int32, E w j f = .inl (w.2.1 0, n, .inl f)) {i x : Int32} (hin : vp_in i n) (hdg : decode cc pc = .ok (.iastore, 1))
    (kk : ∀ (H1 : Heap) (locs1 : List Loc), Rp E L w (mu σ j i.toNatClampNeg x) H1 → va_S (AW L w) s.heap H1 locs1 → W p l e R s m args below meth c H1 locs1 cells slots Q (F0 m (pc + 1) ls rest)) : W p l e R s m args below meth c H locs cells slots Q (F0 m pc ls (.int x :: .int i :: .ref (w.2.2 j) :: rest)) := by
  obtain ⟨q0, h0, h1⟩ := wl_at (E := E) (L := L) (w := w) (σ := σ) hj
  rw [he] at h0
  refine va_iast S.1 S.2.1 hK.1 hR (wl_D hK.2.1) hS q0 0 h0 rfl hin hdg (fun H1 locs1 hP _ hS1 => kk H1 locs1 ?_ hS1)
  rw [← he, h1 hK.2.1.1] at hP
  exact hP
theorem r_zst (S : CallFix p m c cc nL s args gtbl own) (hK : KS L w s) (hR : Rp E L w σ H) (hS : va_S (AW L w) s.heap H locs) (hj : j ∈ L) {n : Nat} (he : ∀ f : Nat → Int32, E w j f = .inl (w.2.1 1, n, .inl f)) {i x : Int32} (hb : x = 0 ∨ x = 1) (hin : vp_in i n) (hdg : decode cc pc = .ok (.bastore, 1))
    (kk : ∀ (H1 : Heap) (locs1 : List Loc), Rp E L w (mu σ j i.toNatClampNeg x) H1 → va_S (AW L w) s.heap H1 locs1 → W p l e R s m args below meth c H1 locs1 cells slots Q (F0 m (pc + 1) ls rest)) : W p l e R s m args below meth c H locs cells slots Q (F0 m pc ls (.int x :: .int i :: .ref (w.2.2 j) :: rest)) := by
  obtain ⟨q0, h0, h1⟩ := wl_at (E := E) (L := L) (w := w) (σ := σ) hj
  rw [he] at h0
  refine va_zast S.1 S.2.1 hK.1 hR (wl_D hK.2.1) hS q0 1 h0 rfl hin hdg (fun H1 locs1 hP _ hS1 => kk H1 locs1 ?_ hS1)
  rw [nb_v hb, ← he, h1 hK.2.1.1] at hP
  exact hP
theorem r_ald (S : CallFix p m c cc nL s args gtbl own) (hK : KS L w s) (hR : Rp E L w σ H) (hj : j ∈ L) {n t0 : Nat} {C : String} {f : Nat → Nat} {cA : ClassId} (he : E w j (σ j) = .inl (cA, n, .inr (.inr (.inr (.inr (fun i => some (w.2.2 (f i)))))))) (ht : (tysW w)[t0]? = some (cA, .object C)) {i : Int32} (hin : vp_in i n) (hdg : decode cc pc = .ok (.aaload, 1))
    (kk : W p l e R s m args below meth c H locs cells slots Q (F0 m (pc + 1) ls (.ref (w.2.2 (f i.toNatClampNeg)) :: rest))) : W p l e R s m args below meth c H locs cells slots Q (F0 m pc ls (.int i :: .ref (w.2.2 j) :: rest)) := by
  obtain ⟨q0, h0, -⟩ := wl_at (E := E) (L := L) (w := w) (σ := σ) hj
  rw [he] at h0
  exact va_aldq S.1 S.2.1 hK.1 hR q0 t0 h0 ht hin hdg kk
theorem r_ast (S : CallFix p m c cc nL s args gtbl own) (hK : KS L w s) (hR : Rp E L w σ H) (hS : va_S (AW L w) s.heap H locs) (hj : j ∈ L) {n t0 ci v : Nat} {r : vw_C} {vs : List Value} {cA : ClassId} (he : ∀ f : Nat → Int32, E w j f = .inl (cA, n, .inr (.inr (.inr (.inr (fun i => some (w.2.2 ((f i).toNatClampNeg)))))))) (ht : (tysW w)[t0]? = some (cA, .object r.1)) {x : Int32} (hx : x.toNatClampNeg = v) (hv : v ∈ L) (hev : E w v (σ v) = .inr (ci, vs)) (hc : vwCl[ci]? = some r) {i : Int32} (hin : vp_in i n) (hdg : decode cc pc = .ok (.aastore, 1))
    (kk : ∀ (H1 : Heap) (locs1 : List Loc), Rp E L w (mu σ j i.toNatClampNeg x) H1 → va_S (AW L w) s.heap H1 locs1 → W p l e R s m args below meth c H1 locs1 cells slots Q (F0 m (pc + 1) ls rest)) : W p l e R s m args below meth c H locs cells slots Q (F0 m pc ls (.ref (w.2.2 v) :: .int i :: .ref (w.2.2 j) :: rest)) := by
  subst hx
  obtain ⟨q0, h0, h1⟩ := wl_at (E := E) (L := L) (w := w) (σ := σ) hj
  obtain ⟨qk, g0, -⟩ := wl_at (E := E) (L := L) (w := w) (σ := σ) hv
  rw [he] at h0
  rw [hev] at g0
  refine va_astq S.1 S.2.1 hK.1 hR (wl_D hK.2.1) hS q0 t0 qk ci h0 ht g0 hc hin hdg (fun H1 locs1 hP _ hS1 => kk H1 locs1 ?_ hS1)
  have hf : va_up (fun i => some (w.2.2 ((σ j i).toNatClampNeg))) i.toNatClampNeg (some (w.2.2 x.toNatClampNeg)) = fun k => some (w.2.2 ((upd (σ j) i.toNatClampNeg x k).toNatClampNeg)) := by
    funext k
    by_cases hk : k = i.toNatClampNeg
    · simp [va_up, upd, hk]
    · simp [va_up, upd, hk]
  rw [hf, ← he, h1 hK.2.1.1] at hP
  exact hP
theorem r_len (S : CallFix p m c cc nL s args gtbl own) (hK : KS L w s) (hR : Rp E L w σ H) (hj : j ∈ L) {t0 : Nat} {cA : ClassId} {xx : vp_A} (he : E w j (σ j) = .inl (cA, xx)) {ty : FieldType} (ht : (tysW w)[t0]? = some (cA, ty)) {v : Int32} (hv : Int32.ofNat xx.1 = v) (hdg : decode cc pc = .ok (.arraylength, 1))
    (kk : W p l e R s m args below meth c H locs cells slots Q (F0 m (pc + 1) ls (.int v :: rest))) : W p l e R s m args below meth c H locs cells slots Q (F0 m pc ls (.ref (w.2.2 j) :: rest)) := by
  obtain ⟨q0, h0, -⟩ := wl_at (E := E) (L := L) (w := w) (σ := σ) hj
  rw [he] at h0
  exact va_alen S.1 S.2.1 hK.1 hR q0 t0 h0 ht hv hdg kk
/-- a call's end: the memory as the contract says, nothing else changed -/
theorem r_end {st0 : List Value} {σ' : Mem} {v : Option Value} {a : Array Value} (hS : va_S (AW L w) s.heap H locs) (hr : va_Run p l e R s m args below meth c H locs cells slots 0 0 (F0 m pc ls st0) rest (Qw E L w σ' v a) (AW L w))
    (kk : ∀ (H1 : Heap) (locs1 : List Loc), Rp E L w σ' H1 → va_S (AW L w) s.heap H1 locs1 → W p l e R s m args below meth c H1 locs1 cells slots Q (F0 m (pc + 3) ls (v.toList ++ rest))) : W p l e R s m args below meth c H locs cells slots Q (F0 m pc ls st0) := by
  intro T hT X
  obtain ⟨v1, st₀, t, T', L1, h0, X', hL, e1, e2, ⟨hv, hb, hz, hk⟩, st⟩ := hr T hT X
  cases hv
  rw [h0] at hz hk
  obtain ⟨t2, a1, b1⟩ := kk T'.heap (locs ++ L1) (by rw [e1]; exact hb)
    ⟨Nat.le_trans hS.1 (by rw [e1]; exact hz), fun q h1 h2 => by rw [e1, hk q (Nat.lt_of_lt_of_le h1 hS.1) h2]; exact hS.2.1 q h1 h2, fun q hq => by
      rcases List.mem_append.mp hq with h | h
      · exact hS.2.2 q h
      · exact hL q h⟩ T' rfl X'
  exact ⟨t2, st t2 a1, b1⟩
theorem r_endp {st0 : List Value} {v : Value} {a : Array Value} (hr : va_Run p l e R s m args below meth c H locs cells slots 0 0 (F0 m pc ls st0) rest (Qp v a) (fun _ => False))
    (kk : W p l e R s m args below meth c H locs cells slots Q (F0 m (pc + 3) ls (v :: rest))) : W p l e R s m args below meth c H locs cells slots Q (F0 m pc ls st0) := by
  intro T hT X
  obtain ⟨v1, st₀, t, T', L1, h0, X', hL, e1, e2, ⟨hv, hb⟩, st⟩ := hr T hT X
  cases hv
  have hL1 : L1 = [] := List.eq_nil_iff_forall_not_mem.mpr (fun q h => hL q h)
  subst hL1
  rw [List.append_nil] at X'
  obtain ⟨t2, a1, b1⟩ := kk T' (by rw [e1, hb, h0]) X'
  exact ⟨t2, st t2 a1, b1⟩
theorem gw_V {index : Nat} {C : String} {y : MethodName} {bytes : ByteArray} {maxL : Nat} {ret : Option FieldType} (h1 : Cond.methodLink own index y ∈ gtbl) (h2 : Cond.instanceMethod y ∈ gtbl) (h3 : Cond.selects C y y ∈ gtbl) (h4 : Cond.initialized C ∈ gtbl) (h5 : Cond.code y bytes maxL ret ∈ gtbl) : GoodIn gtbl (wsV own index C y (wy y bytes maxL ret)) := by
  intro w hw
  rcases List.mem_append.mp hw with h | h
  · simp only [List.mem_cons, List.not_mem_nil, or_false] at h
    rcases h with rfl | rfl | rfl | rfl
    · exact gd_tbl _ h1
    · exact gd_tbl _ h2
    · exact gd_tbl _ h3
    · exact gd_tbl _ h4
  · exact gd_wy h5 w h
theorem gw_S {index : Nat} {y : MethodName} {bytes : ByteArray} {maxL : Nat} {ret : Option FieldType} (h1 : Cond.methodLink own index y ∈ gtbl) (h2 : Cond.static y ∈ gtbl) (h4 : Cond.initialized own ∈ gtbl) (h5 : Cond.code y bytes maxL ret ∈ gtbl) : GoodIn gtbl (wsS own index y (wy y bytes maxL ret)) := by
  intro w hw
  rcases List.mem_append.mp hw with h | h
  · simp only [List.mem_cons, List.not_mem_nil, or_false] at h
    rcases h with rfl | rfl | rfl
    · exact gd_tbl _ h1
    · exact gd_tbl _ h2
    · exact gd_tbl _ h4
  · exact gd_wy h5 w h
theorem rcv {C : String} {T : u_T} {N ci : Nat} {fs : List Value} (hK : KS L w s) (hR : Rp E L w σ H) (hj : j ∈ L) (he : E w j (σ j) = .inr (ci, fs)) (hc : vwCl[ci]? = some (C, T, N)) : ∃ cell : Cell, H[w.2.2 j]? = some cell ∧ cell.vm.isStatics = false ∧ s.vm.findClass C = some cell.cls := by
  obtain ⟨q0, h0, -⟩ := wl_at (E := E) (L := L) (w := w) (σ := σ) hj
  rw [he] at h0
  exact va_recv hK.1 hR hc h0
section Calls
variable {y : MethodName} {bytes : ByteArray} {maxL index n : Nat} {ret : Option FieldType} {rm : Room} {As st0 : List Value} {C : String} {Qc : Array Value → State → Outcome → State → Prop} {free : Addr → Prop}
theorem run_V (S : CallFix p m c cc nL s args gtbl own) (hK : KS L w s) (hR : Rp E L w σ H) {T : u_T} {N ci : Nat} {fs : List Value} (hj : j ∈ L) (he : E w j (σ j) = .inr (ci, fs)) (hc : vwCl[ci]? = some (C, T, N)) (g : GoodIn gtbl (wsV own index C y (wy y bytes maxL ret))) (hd : y.cls = C ∧ y.cls ≠ "java/lang/invoke/MethodHandle" ∧ y.cls ≠ "java/lang/invoke/VarHandle" ∧ (parseMethodDescriptor y.desc).map (fun d => d.parameters.length) = some n)
    (hn : As.length = n) (hM : Met l y (wy y bytes maxL ret) rm (Pw E L w (.ref (w.2.2 j) :: As) σ) Qc 0 0 free) (hz : rm.cells = 0 ∧ rm.slots = 0) (hRm : rm.frames + 1 ≤ R.frames ∧ 8 + (maxL + 11) + rm.locals ≤ R.locals) (hf : cells + 0 ≤ R.cells ∧ slots + 0 ≤ R.slots) (hl : ls.size = nL) (hst : st0 = As.reverse ++ .ref (w.2.2 j) :: rest) (hW : (rest.map fun v => v.category).sum ≤ 8) (hdg : decode cc pc = .ok (.invokevirtual index, 3)) :
    va_Run p l e R s m args below meth c H locs cells slots 0 0 (F0 m pc ls st0) rest (Qc (Value.ref (w.2.2 j) :: As).toArray) free :=
  va_runV (g := F0 m pc ls st0) S hM (cwV n S.2.2.2.2 g rfl hz.1 hz.2 hd hRm) ⟨Pw_blind, rcv hK hR hj he hc, fun U hU hW => ⟨rfl, by rw [hU]; exact hR, hK.warm hW⟩⟩ rfl hn hl hst (lv_room hW) hdg hf
theorem run_S (S : CallFix p m c cc nL s args gtbl own) (g : GoodIn gtbl (wsS own index y (wy y bytes maxL ret))) (hd : y.cls = own ∧ y.cls ≠ "java/lang/invoke/MethodHandle" ∧ y.cls ≠ "java/lang/invoke/VarHandle" ∧ (parseMethodDescriptor y.desc).map (fun d => d.parameters.length) = some n)
    (hn : As.length = n) (hM : Met l y (wy y bytes maxL ret) rm (Ps As) Qc 0 0 free) (hz : rm.cells = 0 ∧ rm.slots = 0) (hRm : rm.frames + 1 ≤ R.frames ∧ 8 + (maxL + 11) + rm.locals ≤ R.locals) (hf : cells + 0 ≤ R.cells ∧ slots + 0 ≤ R.slots) (hl : ls.size = nL) (hst : st0 = As.reverse ++ rest) (hW : (rest.map fun v => v.category).sum ≤ 8) (hdg : decode cc pc = .ok (.invokestatic index, 3)) :
    va_Run p l e R s m args below meth c H locs cells slots 0 0 (F0 m pc ls st0) rest (Qc As.toArray) free :=
  va_runS (g := F0 m pc ls st0) S hM (cwS n S.2.2.2.2 g rfl hz.1 hz.2 hd hRm) ⟨Ps_blind, fun U hU hW => rfl⟩ rfl hn hl hst (lv_room hW) hdg hf
theorem run_SN (S : CallFix p m c cc nL s args gtbl own) (hK : KS L w s) {host : String} (h1 : (own, index, y, host) ∈ nestL) (h2 : Cond.static y ∈ gtbl) (h4 : Cond.initialized y.cls ∈ gtbl) (h5 : Cond.code y bytes maxL ret ∈ gtbl) (hd : y.cls ≠ "java/lang/invoke/MethodHandle" ∧ y.cls ≠ "java/lang/invoke/VarHandle" ∧ (parseMethodDescriptor y.desc).map (fun d => d.parameters.length) = some n)
    (hn : As.length = n) (hM : Met l y (wy y bytes maxL ret) rm (Ps As) Qc 0 0 free) (hz : rm.cells = 0 ∧ rm.slots = 0) (hRm : rm.frames + 1 ≤ R.frames ∧ 8 + (maxL + 11) + rm.locals ≤ R.locals) (hf : cells + 0 ≤ R.cells ∧ slots + 0 ≤ R.slots) (hl : ls.size = nL) (hst : st0 = As.reverse ++ rest) (hW : (rest.map fun v => v.category).sum ≤ 8) (hdg : decode cc pc = .ok (.invokestatic index, 3)) :
    va_Run p l e R s m args below meth c H locs cells slots 0 0 (F0 m pc ls st0) rest (Qc As.toArray) free := by
  have hnw : va_Nw (.methodLinkNest own index y host) s := hK.2.2 (own, index, y, host) h1
  have hcn := va_cnB (R := R) (ws := wy y bytes maxL ret) (ws' := gtbl) (rm := rm) (mc := 0) (ms := 0) n S.2.2.2.2 (gd_wy h5) rfl hz.1 hz.2 hnw (S.2.2.2.2 _ h4) hd hRm
  have hst2 : (Cond.static y).before args s = true := S.2.2.2.2 _ h2
  have hpre : PreS s H (Ps As) As := ⟨Ps_blind, fun U hU hW => rfl⟩
  exact va_runSN (g := F0 m pc ls st0) S hM ⟨hcn, hst2, trivial⟩ hpre rfl hn hl hst (lv_room hW) hdg hf
end Calls
end Rows
