/-- an outer constructor's end: the world stands, with the memory σ1 -/
def QI (E : EV) (L : List Nat) (w : WV) (a : Nat) (σ1 : Mem) (A : Nat → Prop) : Array Value → State → Outcome → State → Prop := fun _ st oc t => oc = .returned none ∧ (∃ ad : Nat → Nat, ad 0 = a ∧ Rp E L (w.1, w.2.1, ad) σ1 t.heap ∧ Inj L (w.1, w.2.1, ad) ∧ ∀ q, AW L (w.1, w.2.1, ad) q → A q) ∧ va_F A st t
theorem Inj_of {E : EV} {L : List Nat} {w : WV} {σ : Mem} {A : Nat → Prop} (hn : L.Nodup) (hD : va_D A (wl E L w σ)) : Inj L w ∧ ∀ q, AW L w q → A q := by
  have at' : ∀ j : Nat, j ∈ L → ∃ k : Nat, L[k]? = some j ∧ (wl E L w σ)[k]? = some (w.2.2 j, E w j (σ j)) := by
    intro j hj
    obtain ⟨k, hk⟩ := List.getElem?_of_mem hj
    exact ⟨k, hk, by unfold wl; rw [List.getElem?_map, hk]; rfl⟩
  refine ⟨⟨hn, fun i hi j hj hij => ?_⟩, fun q hq => ?_⟩
  · obtain ⟨k1, a1, b1⟩ := at' i hi
    obtain ⟨k2, a2, b2⟩ := at' j hj
    have := hD.1 k1 k2 _ _ b1 b2 hij
    subst this
    exact Option.some.inj (a1.symm.trans a2)
  · obtain ⟨j, hj, rfl⟩ := hq
    obtain ⟨k1, a1, b1⟩ := at' j hj
    exact hD.2 k1 _ b1
section Tail
variable {p : Program} {l : Launch} {e : Env} {R : Room} {s : State} {m : MethodId} {args : Array Value} {below : List Frame} {meth : Method} {c : Code} {H : Heap} {locs : List Loc} {cells slots : Nat} {Q : State → Prop}
variable {cc : ByteArray} {pc nL : Nat} {ls : Array Slot} {rest : List Value} {E : EV} {L : List Nat} {w : WV} {σ σ' : Mem} {own : String} {j k : Nat} {A0 : Nat → Prop}
theorem q_st2 (S : CallFix p m c cc nL s args gtbl own) (hK : KS L w s) (hR : Rp E L w σ H) (hS : va_S A0 s.heap H locs) (hsub : ∀ q, AW L w q → A0 q) (hj : j ∈ L) {n : Nat} (he : ∀ f : Nat → Int32, E w j f = .inl (w.2.1 0, n, .inl f)) {i x : Int32} (hin : vp_in i n) (hk : i.toNatClampNeg = k) (hm : σ' = mu σ j k x) (hdg : decode cc pc = .ok (.iastore, 1))
    (kk : ∀ (H1 : Heap) (locs1 : List Loc), Rp E L w σ' H1 → va_S A0 s.heap H1 locs1 → W p l e R s m args below meth c H1 locs1 cells slots Q (F0 m (pc + 1) ls rest)) : W p l e R s m args below meth c H locs cells slots Q (F0 m pc ls (.int x :: .int i :: .ref (w.2.2 j) :: rest)) := by
  subst hk
  subst hm
  obtain ⟨q0, h0, h1⟩ := wl_at (E := E) (L := L) (w := w) (σ := σ) hj
  rw [he] at h0
  refine va_iast S.1 S.2.1 hK.1 hR ((wl_D hK.2.1).weaken (fun _ _ _ h => hsub _ h)) hS q0 0 h0 rfl hin hdg (fun H1 locs1 hP _ hS1 => kk H1 locs1 ?_ hS1)
  rw [← he, h1 hK.2.1.1] at hP
  exact hP
end Tail
set_option maxHeartbeats 4000000 in
set_option maxRecDepth 100000 in
theorem kT7_95 {p : Program} {l : Launch} {e : Env} {R : Room} {s : State} {m : MethodId} {args : Array Value} {below : List Frame} {meth : Method} {c : Code} {H : Heap} {locs : List Loc} {cells slots : Nat} {Q : State → Prop} {cc : ByteArray} {pc nL : Nat} {ls : Array Slot} {rest : List Value} {w : WV} {A0 : Nat → Prop} {σ : Mem} {x1 : Int32} {σ1 : Mem} (S : CallFix p m c cc nL s args gtbl RX7) (hK : KS LM w s) (hR : Rp EM LM w σ H) (hS : va_S A0 s.heap H locs) (hsub : ∀ q, AW LM w q → A0 q) (h0 : f7_noHour σ x1 = some σ1) (hf : cells + 0 ≤ R.cells ∧ slots + 0 ≤ R.slots) (hRm : rm7_noHour.frames + 1 ≤ R.frames ∧ 8 + (3 + 11) + rm7_noHour.locals ≤ R.locals) (hl : ls.size = nL) (hW : (rest.map fun v => v.category).sum ≤ 8) (hdg : decode cc pc = .ok (.invokevirtual 95, 3)) (kk : ∀ (H1 : Heap) (locs1 : List Loc), Rp EM LM w σ1 H1 → va_S A0 s.heap H1 locs1 → W p l e R s m args below meth c H1 locs1 cells slots Q (F0 m (pc + 3) ls (rest))) : W p l e R s m args below meth c H locs cells slots Q (F0 m pc ls (.int x1 :: .ref (w.2.2 0) :: rest)) := r_end2 hS hsub (run_V (n := 1) (As := [.int x1]) S hK hR (by decide) (eM_7 w _) rfl (gw_V (gt_at 890 (by decide +kernel) (by decide +kernel)) (gt_at 892 (by decide +kernel) (by decide +kernel)) (gt_at 38 (by decide +kernel) (by decide +kernel)) (gt_at 86 (by decide +kernel) (by decide +kernel)) (gt_at 893 (by decide +kernel) (by decide +kernel))) (by decide +kernel) rfl (c7_noHour l h0) ⟨rfl, rfl⟩ hRm hf hl rfl hW hdg) (fun H1 locs1 h1 _ h3 => kk H1 locs1 h1 h3)
set_option maxHeartbeats 4000000 in
set_option maxRecDepth 100000 in
theorem kT7_99 {p : Program} {l : Launch} {e : Env} {R : Room} {s : State} {m : MethodId} {args : Array Value} {below : List Frame} {meth : Method} {c : Code} {H : Heap} {locs : List Loc} {cells slots : Nat} {Q : State → Prop} {cc : ByteArray} {pc nL : Nat} {ls : Array Slot} {rest : List Value} {w : WV} {A0 : Nat → Prop} {σ : Mem} {x1 : Int32} {x2 : Int32} {x3 : Int32} {σ1 : Mem} (S : CallFix p m c cc nL s args gtbl RX7) (hK : KS LM w s) (hR : Rp EM LM w σ H) (hS : va_S A0 s.heap H locs) (hsub : ∀ q, AW LM w q → A0 q) (h0 : f7_addTrain σ x1 x2 x3 = some σ1) (hf : cells + 0 ≤ R.cells ∧ slots + 0 ≤ R.slots) (hRm : rm7_addTrain.frames + 1 ≤ R.frames ∧ 8 + (4 + 11) + rm7_addTrain.locals ≤ R.locals) (hl : ls.size = nL) (hW : (rest.map fun v => v.category).sum ≤ 8) (hdg : decode cc pc = .ok (.invokevirtual 99, 3)) (kk : ∀ (H1 : Heap) (locs1 : List Loc), Rp EM LM w σ1 H1 → va_S A0 s.heap H1 locs1 → W p l e R s m args below meth c H1 locs1 cells slots Q (F0 m (pc + 3) ls (rest))) : W p l e R s m args below meth c H locs cells slots Q (F0 m pc ls (.int x3 :: .int x2 :: .int x1 :: .ref (w.2.2 0) :: rest)) := r_end2 hS hsub (run_V (n := 3) (As := [.int x1, .int x2, .int x3]) S hK hR (by decide) (eM_7 w _) rfl (gw_V (gt_at 894 (by decide +kernel) (by decide +kernel)) (gt_at 896 (by decide +kernel) (by decide +kernel)) (gt_at 39 (by decide +kernel) (by decide +kernel)) (gt_at 86 (by decide +kernel) (by decide +kernel)) (gt_at 897 (by decide +kernel) (by decide +kernel))) (by decide +kernel) rfl (c7_addTrain l h0) ⟨rfl, rfl⟩ hRm hf hl rfl hW hdg) (fun H1 locs1 h1 _ h3 => kk H1 locs1 h1 h3)
set_option maxHeartbeats 4000000 in
set_option maxRecDepth 100000 in
theorem kT7_103 {p : Program} {l : Launch} {e : Env} {R : Room} {s : State} {m : MethodId} {args : Array Value} {below : List Frame} {meth : Method} {c : Code} {H : Heap} {locs : List Loc} {cells slots : Nat} {Q : State → Prop} {cc : ByteArray} {pc nL : Nat} {ls : Array Slot} {rest : List Value} {w : WV} {A0 : Nat → Prop} {σ : Mem} {x1 : Int32} {x2 : Int32} {x3 : Int32} {σ1 : Mem} (S : CallFix p m c cc nL s args gtbl RX7) (hK : KS LM w s) (hR : Rp EM LM w σ H) (hS : va_S A0 s.heap H locs) (hsub : ∀ q, AW LM w q → A0 q) (h0 : f7_addUser σ x1 x2 x3 = some σ1) (hf : cells + 0 ≤ R.cells ∧ slots + 0 ≤ R.slots) (hRm : rm7_addUser.frames + 1 ≤ R.frames ∧ 8 + (4 + 11) + rm7_addUser.locals ≤ R.locals) (hl : ls.size = nL) (hW : (rest.map fun v => v.category).sum ≤ 8) (hdg : decode cc pc = .ok (.invokevirtual 103, 3)) (kk : ∀ (H1 : Heap) (locs1 : List Loc), Rp EM LM w σ1 H1 → va_S A0 s.heap H1 locs1 → W p l e R s m args below meth c H1 locs1 cells slots Q (F0 m (pc + 3) ls (rest))) : W p l e R s m args below meth c H locs cells slots Q (F0 m pc ls (.int x3 :: .int x2 :: .int x1 :: .ref (w.2.2 0) :: rest)) := r_end2 hS hsub (run_V (n := 3) (As := [.int x1, .int x2, .int x3]) S hK hR (by decide) (eM_7 w _) rfl (gw_V (gt_at 898 (by decide +kernel) (by decide +kernel)) (gt_at 900 (by decide +kernel) (by decide +kernel)) (gt_at 40 (by decide +kernel) (by decide +kernel)) (gt_at 86 (by decide +kernel) (by decide +kernel)) (gt_at 901 (by decide +kernel) (by decide +kernel))) (by decide +kernel) rfl (c7_addUser l h0) ⟨rfl, rfl⟩ hRm hf hl rfl hW hdg) (fun H1 locs1 h1 _ h3 => kk H1 locs1 h1 h3)
set_option maxHeartbeats 4000000 in
set_option maxRecDepth 100000 in
theorem kT7_106 {p : Program} {l : Launch} {e : Env} {R : Room} {s : State} {m : MethodId} {args : Array Value} {below : List Frame} {meth : Method} {c : Code} {H : Heap} {locs : List Loc} {cells slots : Nat} {Q : State → Prop} {cc : ByteArray} {pc nL : Nat} {ls : Array Slot} {rest : List Value} {w : WV} {A0 : Nat → Prop} {σ : Mem} {σ1 : Mem} (S : CallFix p m c cc nL s args gtbl RX7) (hK : KS LM w s) (hR : Rp EM LM w σ H) (hS : va_S A0 s.heap H locs) (hsub : ∀ q, AW LM w q → A0 q) (h0 : f7_begin σ = some σ1) (hf : cells + 0 ≤ R.cells ∧ slots + 0 ≤ R.slots) (hRm : rm7_begin.frames + 1 ≤ R.frames ∧ 8 + (2 + 11) + rm7_begin.locals ≤ R.locals) (hl : ls.size = nL) (hW : (rest.map fun v => v.category).sum ≤ 8) (hdg : decode cc pc = .ok (.invokevirtual 106, 3)) (kk : ∀ (H1 : Heap) (locs1 : List Loc), Rp EM LM w σ1 H1 → va_S A0 s.heap H1 locs1 → W p l e R s m args below meth c H1 locs1 cells slots Q (F0 m (pc + 3) ls (rest))) : W p l e R s m args below meth c H locs cells slots Q (F0 m pc ls (.ref (w.2.2 0) :: rest)) := r_end2 hS hsub (run_V (n := 0) (As := []) S hK hR (by decide) (eM_7 w _) rfl (gw_V (gt_at 902 (by decide +kernel) (by decide +kernel)) (gt_at 904 (by decide +kernel) (by decide +kernel)) (gt_at 41 (by decide +kernel) (by decide +kernel)) (gt_at 86 (by decide +kernel) (by decide +kernel)) (gt_at 905 (by decide +kernel) (by decide +kernel))) (by decide +kernel) rfl (c7_begin l h0) ⟨rfl, rfl⟩ hRm hf hl rfl hW hdg) (fun H1 locs1 h1 _ h3 => kk H1 locs1 h1 h3)
theorem d7_init_0 : decode cX7_init 0 = .ok (.aload_n 0, 1) := by decide +kernel
theorem d7_init_1 : decode cX7_init 1 = .ok (.invokespecial 1, 3) := by decide +kernel
theorem d7_init_4 : decode cX7_init 4 = .ok (.aload_n 0, 1) := by decide +kernel
theorem d7_init_5 : decode cX7_init 5 = .ok (.sipush 200, 3) := by decide +kernel
theorem d7_init_8 : decode cX7_init 8 = .ok (.newarray .int, 2) := by decide +kernel
theorem d7_init_10 : decode cX7_init 10 = .ok (.putfield 7, 3) := by decide +kernel
theorem d7_init_13 : decode cX7_init 13 = .ok (.aload_n 0, 1) := by decide +kernel
theorem d7_init_14 : decode cX7_init 14 = .ok (.iconst 2, 1) := by decide +kernel
theorem d7_init_15 : decode cX7_init 15 = .ok (.newarray .int, 2) := by decide +kernel
theorem d7_init_17 : decode cX7_init 17 = .ok (.putfield 13, 3) := by decide +kernel
theorem d7_init_20 : decode cX7_init 20 = .ok (.aload_n 0, 1) := by decide +kernel
theorem d7_init_21 : decode cX7_init 21 = .ok (.bipush 12, 2) := by decide +kernel
theorem d7_init_23 : decode cX7_init 23 = .ok (.newarray .int, 2) := by decide +kernel
theorem d7_init_25 : decode cX7_init 25 = .ok (.putfield 16, 3) := by decide +kernel
theorem d7_init_28 : decode cX7_init 28 = .ok (.aload_n 0, 1) := by decide +kernel
theorem d7_init_29 : decode cX7_init 29 = .ok (.bipush 12, 2) := by decide +kernel
theorem d7_init_31 : decode cX7_init 31 = .ok (.newarray .int, 2) := by decide +kernel
theorem d7_init_33 : decode cX7_init 33 = .ok (.putfield 19, 3) := by decide +kernel
theorem d7_init_36 : decode cX7_init 36 = .ok (.aload_n 0, 1) := by decide +kernel
theorem d7_init_37 : decode cX7_init 37 = .ok (.iconst 2, 1) := by decide +kernel
theorem d7_init_38 : decode cX7_init 38 = .ok (.newarray .int, 2) := by decide +kernel
theorem d7_init_40 : decode cX7_init 40 = .ok (.putfield 22, 3) := by decide +kernel
theorem d7_init_43 : decode cX7_init 43 = .ok (.aload_n 0, 1) := by decide +kernel
theorem d7_init_44 : decode cX7_init 44 = .ok (.bipush 16, 2) := by decide +kernel
theorem d7_init_46 : decode cX7_init 46 = .ok (.newarray .int, 2) := by decide +kernel
theorem d7_init_48 : decode cX7_init 48 = .ok (.putfield 25, 3) := by decide +kernel
theorem d7_init_51 : decode cX7_init 51 = .ok (.aload_n 0, 1) := by decide +kernel
theorem d7_init_52 : decode cX7_init 52 = .ok (.bipush 16, 2) := by decide +kernel
theorem d7_init_54 : decode cX7_init 54 = .ok (.newarray .int, 2) := by decide +kernel
theorem d7_init_56 : decode cX7_init 56 = .ok (.putfield 28, 3) := by decide +kernel
theorem d7_init_59 : decode cX7_init 59 = .ok (.aload_n 0, 1) := by decide +kernel
theorem d7_init_60 : decode cX7_init 60 = .ok (.bipush 8, 2) := by decide +kernel
theorem d7_init_62 : decode cX7_init 62 = .ok (.newarray .int, 2) := by decide +kernel
theorem d7_init_64 : decode cX7_init 64 = .ok (.putfield 31, 3) := by decide +kernel
theorem d7_init_67 : decode cX7_init 67 = .ok (.aload_n 0, 1) := by decide +kernel
theorem d7_init_68 : decode cX7_init 68 = .ok (.bipush 8, 2) := by decide +kernel
theorem d7_init_70 : decode cX7_init 70 = .ok (.newarray .int, 2) := by decide +kernel
theorem d7_init_72 : decode cX7_init 72 = .ok (.putfield 34, 3) := by decide +kernel
theorem d7_init_75 : decode cX7_init 75 = .ok (.aload_n 0, 1) := by decide +kernel
theorem d7_init_76 : decode cX7_init 76 = .ok (.iconst 2, 1) := by decide +kernel
theorem d7_init_77 : decode cX7_init 77 = .ok (.newarray .int, 2) := by decide +kernel
theorem d7_init_79 : decode cX7_init 79 = .ok (.putfield 37, 3) := by decide +kernel
theorem d7_init_82 : decode cX7_init 82 = .ok (.aload_n 0, 1) := by decide +kernel
theorem d7_init_83 : decode cX7_init 83 = .ok (.bipush 12, 2) := by decide +kernel
theorem d7_init_85 : decode cX7_init 85 = .ok (.newarray .int, 2) := by decide +kernel
theorem d7_init_87 : decode cX7_init 87 = .ok (.putfield 40, 3) := by decide +kernel
theorem d7_init_90 : decode cX7_init 90 = .ok (.aload_n 0, 1) := by decide +kernel
theorem d7_init_91 : decode cX7_init 91 = .ok (.bipush 12, 2) := by decide +kernel
theorem d7_init_93 : decode cX7_init 93 = .ok (.newarray .int, 2) := by decide +kernel
theorem d7_init_95 : decode cX7_init 95 = .ok (.putfield 43, 3) := by decide +kernel
theorem d7_init_98 : decode cX7_init 98 = .ok (.aload_n 0, 1) := by decide +kernel
theorem d7_init_99 : decode cX7_init 99 = .ok (.iconst 2, 1) := by decide +kernel
theorem d7_init_100 : decode cX7_init 100 = .ok (.newarray .int, 2) := by decide +kernel
theorem d7_init_102 : decode cX7_init 102 = .ok (.putfield 46, 3) := by decide +kernel
theorem d7_init_105 : decode cX7_init 105 = .ok (.aload_n 0, 1) := by decide +kernel
theorem d7_init_106 : decode cX7_init 106 = .ok (.bipush 10, 2) := by decide +kernel
theorem d7_init_108 : decode cX7_init 108 = .ok (.newarray .int, 2) := by decide +kernel
theorem d7_init_110 : decode cX7_init 110 = .ok (.putfield 49, 3) := by decide +kernel
theorem d7_init_113 : decode cX7_init 113 = .ok (.aload_n 0, 1) := by decide +kernel
theorem d7_init_114 : decode cX7_init 114 = .ok (.bipush 10, 2) := by decide +kernel
theorem d7_init_116 : decode cX7_init 116 = .ok (.newarray .int, 2) := by decide +kernel
theorem d7_init_118 : decode cX7_init 118 = .ok (.putfield 52, 3) := by decide +kernel
theorem d7_init_121 : decode cX7_init 121 = .ok (.aload_n 0, 1) := by decide +kernel
theorem d7_init_122 : decode cX7_init 122 = .ok (.bipush 19, 2) := by decide +kernel
theorem d7_init_124 : decode cX7_init 124 = .ok (.newarray .int, 2) := by decide +kernel
theorem d7_init_126 : decode cX7_init 126 = .ok (.putfield 55, 3) := by decide +kernel
theorem d7_init_129 : decode cX7_init 129 = .ok (.aload_n 0, 1) := by decide +kernel
theorem d7_init_130 : decode cX7_init 130 = .ok (.sipush 152, 3) := by decide +kernel
theorem d7_init_133 : decode cX7_init 133 = .ok (.newarray .int, 2) := by decide +kernel
theorem d7_init_135 : decode cX7_init 135 = .ok (.putfield 58, 3) := by decide +kernel
theorem d7_init_138 : decode cX7_init 138 = .ok (.aload_n 0, 1) := by decide +kernel
theorem d7_init_139 : decode cX7_init 139 = .ok (.bipush 38, 2) := by decide +kernel
theorem d7_init_141 : decode cX7_init 141 = .ok (.newarray .int, 2) := by decide +kernel
theorem d7_init_143 : decode cX7_init 143 = .ok (.putfield 61, 3) := by decide +kernel
theorem d7_init_146 : decode cX7_init 146 = .ok (.aload_n 0, 1) := by decide +kernel
theorem d7_init_147 : decode cX7_init 147 = .ok (.bipush 8, 2) := by decide +kernel
theorem d7_init_149 : decode cX7_init 149 = .ok (.newarray .int, 2) := by decide +kernel
theorem d7_init_151 : decode cX7_init 151 = .ok (.putfield 64, 3) := by decide +kernel
theorem d7_init_154 : decode cX7_init 154 = .ok (.aload_n 0, 1) := by decide +kernel
theorem d7_init_155 : decode cX7_init 155 = .ok (.bipush 8, 2) := by decide +kernel
theorem d7_init_157 : decode cX7_init 157 = .ok (.newarray .int, 2) := by decide +kernel
theorem d7_init_159 : decode cX7_init 159 = .ok (.putfield 67, 3) := by decide +kernel
theorem d7_init_162 : decode cX7_init 162 = .ok (.aload_n 0, 1) := by decide +kernel
theorem d7_init_163 : decode cX7_init 163 = .ok (.iconst 2, 1) := by decide +kernel
theorem d7_init_164 : decode cX7_init 164 = .ok (.newarray .int, 2) := by decide +kernel
theorem d7_init_166 : decode cX7_init 166 = .ok (.putfield 70, 3) := by decide +kernel
theorem d7_init_169 : decode cX7_init 169 = .ok (.aload_n 0, 1) := by decide +kernel
theorem d7_init_170 : decode cX7_init 170 = .ok (.sipush 360, 3) := by decide +kernel
theorem d7_init_173 : decode cX7_init 173 = .ok (.newarray .int, 2) := by decide +kernel
theorem d7_init_175 : decode cX7_init 175 = .ok (.putfield 73, 3) := by decide +kernel
theorem d7_init_178 : decode cX7_init 178 = .ok (.aload_n 0, 1) := by decide +kernel
theorem d7_init_179 : decode cX7_init 179 = .ok (.bipush 6, 2) := by decide +kernel
theorem d7_init_181 : decode cX7_init 181 = .ok (.newarray .int, 2) := by decide +kernel
theorem d7_init_183 : decode cX7_init 183 = .ok (.putfield 76, 3) := by decide +kernel
theorem d7_init_186 : decode cX7_init 186 = .ok (.aload_n 0, 1) := by decide +kernel
theorem d7_init_187 : decode cX7_init 187 = .ok (.bipush 6, 2) := by decide +kernel
theorem d7_init_189 : decode cX7_init 189 = .ok (.newarray .int, 2) := by decide +kernel
theorem d7_init_191 : decode cX7_init 191 = .ok (.putfield 79, 3) := by decide +kernel
theorem d7_init_194 : decode cX7_init 194 = .ok (.aload_n 0, 1) := by decide +kernel
theorem d7_init_195 : decode cX7_init 195 = .ok (.bipush 8, 2) := by decide +kernel
theorem d7_init_197 : decode cX7_init 197 = .ok (.newarray .int, 2) := by decide +kernel
theorem d7_init_199 : decode cX7_init 199 = .ok (.putfield 82, 3) := by decide +kernel
theorem d7_init_202 : decode cX7_init 202 = .ok (.aload_n 0, 1) := by decide +kernel
theorem d7_init_203 : decode cX7_init 203 = .ok (.bipush 8, 2) := by decide +kernel
theorem d7_init_205 : decode cX7_init 205 = .ok (.newarray .int, 2) := by decide +kernel
theorem d7_init_207 : decode cX7_init 207 = .ok (.putfield 85, 3) := by decide +kernel
theorem d7_init_210 : decode cX7_init 210 = .ok (.aload_n 0, 1) := by decide +kernel
theorem d7_init_211 : decode cX7_init 211 = .ok (.bipush 8, 2) := by decide +kernel
theorem d7_init_213 : decode cX7_init 213 = .ok (.newarray .boolean, 2) := by decide +kernel
theorem d7_init_215 : decode cX7_init 215 = .ok (.putfield 88, 3) := by decide +kernel
theorem d7_init_218 : decode cX7_init 218 = .ok (.aload_n 0, 1) := by decide +kernel
theorem d7_init_219 : decode cX7_init 219 = .ok (.bipush 6, 2) := by decide +kernel
theorem d7_init_221 : decode cX7_init 221 = .ok (.newarray .int, 2) := by decide +kernel
theorem d7_init_223 : decode cX7_init 223 = .ok (.putfield 92, 3) := by decide +kernel
theorem d7_init_226 : decode cX7_init 226 = .ok (.aload_n 0, 1) := by decide +kernel
theorem d7_init_227 : decode cX7_init 227 = .ok (.iconst 0, 1) := by decide +kernel
theorem d7_init_228 : decode cX7_init 228 = .ok (.invokevirtual 95, 3) := by decide +kernel
theorem d7_init_231 : decode cX7_init 231 = .ok (.aload_n 0, 1) := by decide +kernel
theorem d7_init_232 : decode cX7_init 232 = .ok (.iconst 0, 1) := by decide +kernel
theorem d7_init_233 : decode cX7_init 233 = .ok (.bipush 10, 2) := by decide +kernel
theorem d7_init_235 : decode cX7_init 235 = .ok (.iconst 0, 1) := by decide +kernel
theorem d7_init_236 : decode cX7_init 236 = .ok (.invokevirtual 99, 3) := by decide +kernel
theorem d7_init_239 : decode cX7_init 239 = .ok (.aload_n 0, 1) := by decide +kernel
theorem d7_init_240 : decode cX7_init 240 = .ok (.iconst 0, 1) := by decide +kernel
theorem d7_init_241 : decode cX7_init 241 = .ok (.bipush 13, 2) := by decide +kernel
theorem d7_init_243 : decode cX7_init 243 = .ok (.iconst 1, 1) := by decide +kernel
theorem d7_init_244 : decode cX7_init 244 = .ok (.invokevirtual 99, 3) := by decide +kernel
theorem d7_init_247 : decode cX7_init 247 = .ok (.aload_n 0, 1) := by decide +kernel
theorem d7_init_248 : decode cX7_init 248 = .ok (.iconst 0, 1) := by decide +kernel
theorem d7_init_249 : decode cX7_init 249 = .ok (.bipush 30, 2) := by decide +kernel
theorem d7_init_251 : decode cX7_init 251 = .ok (.iconst 2, 1) := by decide +kernel
theorem d7_init_252 : decode cX7_init 252 = .ok (.invokevirtual 99, 3) := by decide +kernel
theorem d7_init_255 : decode cX7_init 255 = .ok (.aload_n 0, 1) := by decide +kernel
theorem d7_init_256 : decode cX7_init 256 = .ok (.iconst 0, 1) := by decide +kernel
theorem d7_init_257 : decode cX7_init 257 = .ok (.bipush 41, 2) := by decide +kernel
theorem d7_init_259 : decode cX7_init 259 = .ok (.iconst 0, 1) := by decide +kernel
theorem d7_init_260 : decode cX7_init 260 = .ok (.invokevirtual 99, 3) := by decide +kernel
theorem d7_init_263 : decode cX7_init 263 = .ok (.aload_n 0, 1) := by decide +kernel
theorem d7_init_264 : decode cX7_init 264 = .ok (.iconst 0, 1) := by decide +kernel
theorem d7_init_265 : decode cX7_init 265 = .ok (.bipush 8, 2) := by decide +kernel
theorem d7_init_267 : decode cX7_init 267 = .ok (.iconst 0, 1) := by decide +kernel
theorem d7_init_268 : decode cX7_init 268 = .ok (.invokevirtual 103, 3) := by decide +kernel
theorem d7_init_271 : decode cX7_init 271 = .ok (.aload_n 0, 1) := by decide +kernel
theorem d7_init_272 : decode cX7_init 272 = .ok (.iconst 0, 1) := by decide +kernel
theorem d7_init_273 : decode cX7_init 273 = .ok (.bipush 9, 2) := by decide +kernel
theorem d7_init_275 : decode cX7_init 275 = .ok (.iconst 1, 1) := by decide +kernel
theorem d7_init_276 : decode cX7_init 276 = .ok (.invokevirtual 103, 3) := by decide +kernel
theorem d7_init_279 : decode cX7_init 279 = .ok (.aload_n 0, 1) := by decide +kernel
theorem d7_init_280 : decode cX7_init 280 = .ok (.iconst 0, 1) := by decide +kernel
theorem d7_init_281 : decode cX7_init 281 = .ok (.bipush 12, 2) := by decide +kernel
theorem d7_init_283 : decode cX7_init 283 = .ok (.iconst 2, 1) := by decide +kernel
theorem d7_init_284 : decode cX7_init 284 = .ok (.invokevirtual 103, 3) := by decide +kernel
theorem d7_init_287 : decode cX7_init 287 = .ok (.aload_n 0, 1) := by decide +kernel
theorem d7_init_288 : decode cX7_init 288 = .ok (.iconst 0, 1) := by decide +kernel
theorem d7_init_289 : decode cX7_init 289 = .ok (.bipush 29, 2) := by decide +kernel
theorem d7_init_291 : decode cX7_init 291 = .ok (.iconst 3, 1) := by decide +kernel
theorem d7_init_292 : decode cX7_init 292 = .ok (.invokevirtual 103, 3) := by decide +kernel
theorem d7_init_295 : decode cX7_init 295 = .ok (.aload_n 0, 1) := by decide +kernel
theorem d7_init_296 : decode cX7_init 296 = .ok (.iconst 0, 1) := by decide +kernel
theorem d7_init_297 : decode cX7_init 297 = .ok (.bipush 31, 2) := by decide +kernel
theorem d7_init_299 : decode cX7_init 299 = .ok (.iconst 0, 1) := by decide +kernel
theorem d7_init_300 : decode cX7_init 300 = .ok (.invokevirtual 103, 3) := by decide +kernel
theorem d7_init_303 : decode cX7_init 303 = .ok (.aload_n 0, 1) := by decide +kernel
theorem d7_init_304 : decode cX7_init 304 = .ok (.iconst 0, 1) := by decide +kernel
theorem d7_init_305 : decode cX7_init 305 = .ok (.bipush 40, 2) := by decide +kernel
theorem d7_init_307 : decode cX7_init 307 = .ok (.iconst 0, 1) := by decide +kernel
theorem d7_init_308 : decode cX7_init 308 = .ok (.invokevirtual 103, 3) := by decide +kernel
theorem d7_init_311 : decode cX7_init 311 = .ok (.aload_n 0, 1) := by decide +kernel
theorem d7_init_312 : decode cX7_init 312 = .ok (.getfield 37, 3) := by decide +kernel
theorem d7_init_315 : decode cX7_init 315 = .ok (.iconst 0, 1) := by decide +kernel
theorem d7_init_316 : decode cX7_init 316 = .ok (.iconst 3, 1) := by decide +kernel
theorem d7_init_317 : decode cX7_init 317 = .ok (.iastore, 1) := by decide +kernel
theorem d7_init_318 : decode cX7_init 318 = .ok (.aload_n 0, 1) := by decide +kernel
theorem d7_init_319 : decode cX7_init 319 = .ok (.getfield 40, 3) := by decide +kernel
theorem d7_init_322 : decode cX7_init 322 = .ok (.iconst 0, 1) := by decide +kernel
theorem d7_init_323 : decode cX7_init 323 = .ok (.bipush 6, 2) := by decide +kernel
theorem d7_init_325 : decode cX7_init 325 = .ok (.iastore, 1) := by decide +kernel
theorem d7_init_326 : decode cX7_init 326 = .ok (.aload_n 0, 1) := by decide +kernel
theorem d7_init_327 : decode cX7_init 327 = .ok (.getfield 43, 3) := by decide +kernel
theorem d7_init_330 : decode cX7_init 330 = .ok (.iconst 0, 1) := by decide +kernel
theorem d7_init_331 : decode cX7_init 331 = .ok (.bipush 14, 2) := by decide +kernel
theorem d7_init_333 : decode cX7_init 333 = .ok (.iastore, 1) := by decide +kernel
theorem d7_init_334 : decode cX7_init 334 = .ok (.aload_n 0, 1) := by decide +kernel
theorem d7_init_335 : decode cX7_init 335 = .ok (.getfield 40, 3) := by decide +kernel
theorem d7_init_338 : decode cX7_init 338 = .ok (.iconst 1, 1) := by decide +kernel
theorem d7_init_339 : decode cX7_init 339 = .ok (.bipush 29, 2) := by decide +kernel
theorem d7_init_341 : decode cX7_init 341 = .ok (.iastore, 1) := by decide +kernel
theorem d7_init_342 : decode cX7_init 342 = .ok (.aload_n 0, 1) := by decide +kernel
theorem d7_init_343 : decode cX7_init 343 = .ok (.getfield 43, 3) := by decide +kernel
theorem d7_init_346 : decode cX7_init 346 = .ok (.iconst 1, 1) := by decide +kernel
theorem d7_init_347 : decode cX7_init 347 = .ok (.bipush 32, 2) := by decide +kernel
theorem d7_init_349 : decode cX7_init 349 = .ok (.iastore, 1) := by decide +kernel
theorem d7_init_350 : decode cX7_init 350 = .ok (.aload_n 0, 1) := by decide +kernel
theorem d7_init_351 : decode cX7_init 351 = .ok (.getfield 40, 3) := by decide +kernel
theorem d7_init_354 : decode cX7_init 354 = .ok (.iconst 2, 1) := by decide +kernel
theorem d7_init_355 : decode cX7_init 355 = .ok (.bipush 38, 2) := by decide +kernel
theorem d7_init_357 : decode cX7_init 357 = .ok (.iastore, 1) := by decide +kernel
theorem d7_init_358 : decode cX7_init 358 = .ok (.aload_n 0, 1) := by decide +kernel
theorem d7_init_359 : decode cX7_init 359 = .ok (.getfield 43, 3) := by decide +kernel
theorem d7_init_362 : decode cX7_init 362 = .ok (.iconst 2, 1) := by decide +kernel
theorem d7_init_363 : decode cX7_init 363 = .ok (.bipush 43, 2) := by decide +kernel
theorem d7_init_365 : decode cX7_init 365 = .ok (.iastore, 1) := by decide +kernel
theorem d7_init_366 : decode cX7_init 366 = .ok (.aload_n 0, 1) := by decide +kernel
theorem d7_init_367 : decode cX7_init 367 = .ok (.getfield 46, 3) := by decide +kernel
theorem d7_init_370 : decode cX7_init 370 = .ok (.iconst 0, 1) := by decide +kernel
theorem d7_init_371 : decode cX7_init 371 = .ok (.iconst 3, 1) := by decide +kernel
theorem d7_init_372 : decode cX7_init 372 = .ok (.iastore, 1) := by decide +kernel
theorem d7_init_373 : decode cX7_init 373 = .ok (.aload_n 0, 1) := by decide +kernel
theorem d7_init_374 : decode cX7_init 374 = .ok (.getfield 52, 3) := by decide +kernel
theorem d7_init_377 : decode cX7_init 377 = .ok (.iconst 0, 1) := by decide +kernel
theorem d7_init_378 : decode cX7_init 378 = .ok (.iconst 5, 1) := by decide +kernel
theorem d7_init_379 : decode cX7_init 379 = .ok (.iastore, 1) := by decide +kernel
theorem d7_init_380 : decode cX7_init 380 = .ok (.aload_n 0, 1) := by decide +kernel
theorem d7_init_381 : decode cX7_init 381 = .ok (.getfield 49, 3) := by decide +kernel
theorem d7_init_384 : decode cX7_init 384 = .ok (.iconst 1, 1) := by decide +kernel
theorem d7_init_385 : decode cX7_init 385 = .ok (.iconst 2, 1) := by decide +kernel
theorem d7_init_386 : decode cX7_init 386 = .ok (.iastore, 1) := by decide +kernel
theorem d7_init_387 : decode cX7_init 387 = .ok (.aload_n 0, 1) := by decide +kernel
theorem d7_init_388 : decode cX7_init 388 = .ok (.getfield 52, 3) := by decide +kernel
theorem d7_init_391 : decode cX7_init 391 = .ok (.iconst 1, 1) := by decide +kernel
theorem d7_init_392 : decode cX7_init 392 = .ok (.iconst 3, 1) := by decide +kernel
theorem d7_init_393 : decode cX7_init 393 = .ok (.iastore, 1) := by decide +kernel
theorem d7_init_394 : decode cX7_init 394 = .ok (.aload_n 0, 1) := by decide +kernel
theorem d7_init_395 : decode cX7_init 395 = .ok (.getfield 49, 3) := by decide +kernel
theorem d7_init_398 : decode cX7_init 398 = .ok (.iconst 2, 1) := by decide +kernel
theorem d7_init_399 : decode cX7_init 399 = .ok (.iconst 5, 1) := by decide +kernel
theorem d7_init_400 : decode cX7_init 400 = .ok (.iastore, 1) := by decide +kernel
theorem d7_init_401 : decode cX7_init 401 = .ok (.aload_n 0, 1) := by decide +kernel
theorem d7_init_402 : decode cX7_init 402 = .ok (.getfield 52, 3) := by decide +kernel
theorem d7_init_405 : decode cX7_init 405 = .ok (.iconst 2, 1) := by decide +kernel
theorem d7_init_406 : decode cX7_init 406 = .ok (.iconst 2, 1) := by decide +kernel
theorem d7_init_407 : decode cX7_init 407 = .ok (.iastore, 1) := by decide +kernel
theorem d7_init_408 : decode cX7_init 408 = .ok (.aload_n 0, 1) := by decide +kernel
theorem d7_init_409 : decode cX7_init 409 = .ok (.invokevirtual 106, 3) := by decide +kernel
theorem d7_init_412 : decode cX7_init 412 = .ok (.return_, 1) := by decide +kernel
/-- the reference's constructor behind its rows -/
def f7_init (σ : Mem) : Option Mem := Option.bind (f7_noHour σ 0) fun σ1 => Option.bind (f7_addTrain σ1 0 10 0) fun σ2 => Option.bind (f7_addTrain σ2 0 13 1) fun σ3 => Option.bind (f7_addTrain σ3 0 30 2) fun σ4 => Option.bind (f7_addTrain σ4 0 41 0) fun σ5 => Option.bind (f7_addUser σ5 0 8 0) fun σ6 => Option.bind (f7_addUser σ6 0 9 1) fun σ7 => Option.bind (f7_addUser σ7 0 12 2) fun σ8 => Option.bind (f7_addUser σ8 0 29 3) fun σ9 => Option.bind (f7_addUser σ9 0 31 0) fun σ10 => Option.bind (f7_addUser σ10 0 40 0) fun σ11 => bm (mu σ11 11 0 3) fun σ12 => bm (mu σ12 12 0 6) fun σ13 => bm (mu σ13 13 0 14) fun σ14 => bm (mu σ14 12 1 29) fun σ15 => bm (mu σ15 13 1 32) fun σ16 => bm (mu σ16 12 2 38) fun σ17 => bm (mu σ17 13 2 43) fun σ18 => bm (mu σ18 14 0 3) fun σ19 => bm (mu σ19 16 0 5) fun σ20 => bm (mu σ20 15 1 2) fun σ21 => bm (mu σ21 16 1 3) fun σ22 => bm (mu σ22 15 2 5) fun σ23 => bm (mu σ23 16 2 2) fun σ24 => Option.bind (f7_begin σ24) fun σ25 => some σ25
abbrev rmi_7 : Room := { frames := 1, cells := 28, slots := 953, locals := 23 }
set_option maxHeartbeats 1000000 in
set_option maxRecDepth 20000 in
theorem sgM (w : WV) (a q1 q2 q3 q4 q5 q6 q7 q8 q9 q10 q11 q12 q13 q14 q15 q16 q17 q18 q19 q20 q21 q22 q23 q24 q25 q26 q27 q28 : Nat) : wl EM LM (w.1, w.2.1, fun j => ([a, 0, q1, q2, q3, q4, q5, q6, q7, q8, q9, q10, q11, q12, q13, q14, q15, q16, q17, 0, q18, 0, 0, q19, q20, 0, q21, q22, q23, q24, q25, q26, q27, 0, 0, 0, 0, 0, q28] : List Nat).getD j 0) (fun _ _ => 0) = [(a, .inr (7, [.int 0, .ref q1, .ref q2, .ref q3, .ref q4, .ref q5, .ref q6, .ref q7, .ref q8, .ref q9, .ref q10, .ref q11, .ref q12, .ref q13, .ref q14, .ref q15, .ref q16, .ref q17, .int 0, .ref q18, .int 0, .int 0, .ref q19, .ref q20, .int 0, .ref q21, .ref q22, .ref q23, .ref q24, .ref q25, .ref q26, .ref q27, .int 0, .int 0, .int 0, .int 0, .int 0, .ref q28])), (q1, iar w 200), (q2, iar w 2), (q3, iar w 12), (q4, iar w 12), (q5, iar w 2), (q6, iar w 16), (q7, iar w 16), (q8, iar w 8), (q9, iar w 8), (q10, iar w 2), (q11, iar w 12), (q12, iar w 12), (q13, iar w 2), (q14, iar w 10), (q15, iar w 10), (q16, iar w 19), (q17, iar w 152), (q18, iar w 38), (q19, iar w 8), (q20, iar w 8), (q21, iar w 2), (q22, iar w 360), (q23, iar w 6), (q24, iar w 6), (q25, iar w 8), (q26, iar w 8), (q27, .inl (w.2.1 1, 8, .inl (fun _ => 0))), (q28, iar w 6)] := by
  unfold wl
  simp only [LM, List.map, eM_7, eM_101, eM_102, eM_103, eM_104, eM_105, eM_106, eM_107, eM_108, eM_109, eM_110, eM_111, eM_112, eM_113, eM_114, eM_115, eM_116, eM_117, eM_119, eM_122, eM_123, eM_125, eM_126, eM_127, eM_128, eM_129, eM_130, eM_131, eM_137]
  rfl
