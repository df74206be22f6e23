/-! FourTenGates.isClosing(II)Z -/
abbrev rm6_isClosing : Room := { frames := 1, cells := 0, slots := 0, locals := 22 }
theorem d6_isClosing_0 : decode cX6_isClosing 0 = .ok (.iload_n 0, 1) := by decide +kernel
theorem d6_isClosing_1 : decode cX6_isClosing 1 = .ok (.iconst 0, 1) := by decide +kernel
theorem d6_isClosing_2 : decode cX6_isClosing 2 = .ok (.bipush 60, 2) := by decide +kernel
theorem d6_isClosing_4 : decode cX6_isClosing 4 = .ok (.invokestatic 102, 3) := by decide +kernel
theorem d6_isClosing_7 : decode cX6_isClosing 7 = .ok (.ifCond .eq 22, 3) := by decide +kernel
theorem d6_isClosing_10 : decode cX6_isClosing 10 = .ok (.iload_n 1, 1) := by decide +kernel
theorem d6_isClosing_11 : decode cX6_isClosing 11 = .ok (.iconst 0, 1) := by decide +kernel
theorem d6_isClosing_12 : decode cX6_isClosing 12 = .ok (.bipush 60, 2) := by decide +kernel
theorem d6_isClosing_14 : decode cX6_isClosing 14 = .ok (.invokestatic 102, 3) := by decide +kernel
theorem d6_isClosing_17 : decode cX6_isClosing 17 = .ok (.ifCond .eq 12, 3) := by decide +kernel
theorem d6_isClosing_20 : decode cX6_isClosing 20 = .ok (.iload_n 0, 1) := by decide +kernel
theorem d6_isClosing_21 : decode cX6_isClosing 21 = .ok (.iload_n 1, 1) := by decide +kernel
theorem d6_isClosing_22 : decode cX6_isClosing 22 = .ok (.if_icmp .ge 7, 3) := by decide +kernel
theorem d6_isClosing_25 : decode cX6_isClosing 25 = .ok (.iconst 1, 1) := by decide +kernel
theorem d6_isClosing_26 : decode cX6_isClosing 26 = .ok (.goto 4, 3) := by decide +kernel
theorem d6_isClosing_29 : decode cX6_isClosing 29 = .ok (.iconst 0, 1) := by decide +kernel
theorem d6_isClosing_30 : decode cX6_isClosing 30 = .ok (.ireturn, 1) := by decide +kernel
def f6_isClosing (x0 : Int32) (x1 : Int32) : Option Int32 := Option.bind (f6_between x0 0 60) fun r1 => if r1 = 0 then some 0 else Option.bind (f6_between x1 0 60) fun r3 => if r3 = 0 then some 0 else if x1 ≤ x0 then some 0 else some 1
set_option maxHeartbeats 4000000 in
set_option maxRecDepth 100000 in
theorem c6_isClosing (l : Launch) {x0 : Int32} {x1 : Int32} {r : Int32} (h0 : f6_isClosing x0 x1 = some r) : Met l yX6_isClosing (wy yX6_isClosing cX6_isClosing 2 (some .boolean)) rm6_isClosing (Ps [.int x0, .int x1]) (Qp (.int r)) 0 0 (fun _ => False) := by
  refine mk_mets (by decide) (Nat.le_of_ble_eq_true rfl) ?_
  intro p e s m below meth c S hr hlk ls hl
  obtain ⟨hx, hb, hml, hown, hts⟩ := id S
  have hl : lv_has ls 2 [(0, .int x0), (1, .int x1)] := hl
  unfold f6_isClosing at h0
  refine lv_iload_n hx hb d6_isClosing_0 rfl (lv_at hl 0 rfl) ?_
  refine lv_iconst (v := 0) hx hb d6_isClosing_1 (by decide) ?_
  refine lv_bipush (v := 60) hx hb d6_isClosing_2 (by decide) ?_
  obtain ⟨r1, hr1, h0⟩ := og_b h0
  refine k6_102 S  hr1 ⟨Nat.zero_le _, Nat.zero_le _⟩ ⟨Nat.le_of_ble_eq_true rfl, Nat.le_of_ble_eq_true rfl⟩ hl.1 (Nat.le_of_ble_eq_true rfl) d6_isClosing_4 ?_
  refine lv_if_eq (tgt := 29) hx hb d6_isClosing_7 (by decide) (fun hc2 => ?_) (fun hc2 => ?_)
  · have h0 := og_t hc2 h0
    refine lv_iconst (v := 0) hx hb d6_isClosing_29 (by decide) ?_
    exact q_zpure S hr hlk (Or.inl rfl) h0 d6_isClosing_30
  · have h0 := og_f hc2 h0
    refine lv_iload_n hx hb d6_isClosing_10 rfl (lv_at hl 1 rfl) ?_
    refine lv_iconst (v := 0) hx hb d6_isClosing_11 (by decide) ?_
    refine lv_bipush (v := 60) hx hb d6_isClosing_12 (by decide) ?_
    obtain ⟨r3, hr3, h0⟩ := og_b h0
    refine k6_102 S  hr3 ⟨Nat.zero_le _, Nat.zero_le _⟩ ⟨Nat.le_of_ble_eq_true rfl, Nat.le_of_ble_eq_true rfl⟩ hl.1 (Nat.le_of_ble_eq_true rfl) d6_isClosing_14 ?_
    refine lv_if_eq (tgt := 29) hx hb d6_isClosing_17 (by decide) (fun hc4 => ?_) (fun hc4 => ?_)
    · have h0 := og_t hc4 h0
      refine lv_iconst (v := 0) hx hb d6_isClosing_29 (by decide) ?_
      exact q_zpure S hr hlk (Or.inl rfl) h0 d6_isClosing_30
    · have h0 := og_f hc4 h0
      refine lv_iload_n hx hb d6_isClosing_20 rfl (lv_at hl 0 rfl) ?_
      refine lv_iload_n hx hb d6_isClosing_21 rfl (lv_at hl 1 rfl) ?_
      refine lv_icmp_ge (tgt := 29) hx hb d6_isClosing_22 (by decide) (fun hc5 => ?_) (fun hc5 => ?_)
      · have h0 := og_t hc5 h0
        refine lv_iconst (v := 0) hx hb d6_isClosing_29 (by decide) ?_
        exact q_zpure S hr hlk (Or.inl rfl) h0 d6_isClosing_30
      · have h0 := og_f hc5 h0
        refine lv_iconst (v := 1) hx hb d6_isClosing_25 (by decide) ?_
        refine lv_goto (tgt := 30) hx hb d6_isClosing_26 (by decide) ?_
        exact q_zpure S hr hlk (Or.inr rfl) h0 d6_isClosing_30
set_option maxHeartbeats 4000000 in
set_option maxRecDepth 100000 in
theorem k6_174 {p : Program} {l : Launch} {e : Env} {R : Room} {s : State} {m : MethodId} {args : Array Value} {below : List Frame} {meth : Method} {c : Code} {H : Heap} {locs : List Loc} {cells slots : Nat} {Q : State → Prop} {cc : ByteArray} {pc nL : Nat} {ls : Array Slot} {rest : List Value} {x0 : Int32} {x1 : Int32} {r : Int32} (S : CallFix p m c cc nL s args gtbl RX6) (h0 : f6_isClosing x0 x1 = some r) (hf : cells + 0 ≤ R.cells ∧ slots + 0 ≤ R.slots) (hRm : rm6_isClosing.frames + 1 ≤ R.frames ∧ 8 + (2 + 11) + rm6_isClosing.locals ≤ R.locals) (hl : ls.size = nL) (hW : (rest.map fun v => v.category).sum ≤ 8) (hdg : decode cc pc = .ok (.invokestatic 174, 3)) (kk : W p l e R s m args below meth c H locs cells slots Q (F0 m (pc + 3) ls (.int r :: rest))) : W p l e R s m args below meth c H locs cells slots Q (F0 m pc ls (.int x1 :: .int x0 :: rest)) := r_endp (run_S (n := 2) (As := [.int x0, .int x1]) S (gw_S (gt_at 769 (by decide +kernel) (by decide +kernel)) (gt_at 398 (by decide +kernel) (by decide +kernel)) (gt_at 74 (by decide +kernel) (by decide +kernel)) (gt_at 399 (by decide +kernel) (by decide +kernel))) (by decide +kernel) rfl (c6_isClosing l h0) ⟨rfl, rfl⟩ hRm hf hl rfl hW hdg) kk
set_option maxHeartbeats 4000000 in
set_option maxRecDepth 100000 in
theorem k0_96 {p : Program} {l : Launch} {e : Env} {R : Room} {s : State} {m : MethodId} {args : Array Value} {below : List Frame} {meth : Method} {c : Code} {H : Heap} {locs : List Loc} {cells slots : Nat} {Q : State → Prop} {cc : ByteArray} {pc nL : Nat} {ls : Array Slot} {rest : List Value} {w : WV} {x0 : Int32} {x1 : Int32} {r : Int32} (S : CallFix p m c cc nL s args gtbl RX0) (hK : KS LC w s) (h0 : f6_isClosing x0 x1 = some r) (hf : cells + 0 ≤ R.cells ∧ slots + 0 ≤ R.slots) (hRm : rm6_isClosing.frames + 1 ≤ R.frames ∧ 8 + (2 + 11) + rm6_isClosing.locals ≤ R.locals) (hl : ls.size = nL) (hW : (rest.map fun v => v.category).sum ≤ 8) (hdg : decode cc pc = .ok (.invokestatic 96, 3)) (kk : W p l e R s m args below meth c H locs cells slots Q (F0 m (pc + 3) ls (.int r :: rest))) : W p l e R s m args below meth c H locs cells slots Q (F0 m pc ls (.int x1 :: .int x0 :: rest)) := r_endp (run_SN (n := 2) (As := [.int x0, .int x1]) S hK (host := RX6) (by decide +kernel) (gt_at 398 (by decide +kernel) (by decide +kernel)) (gt_at 74 (by decide +kernel) (by decide +kernel)) (gt_at 399 (by decide +kernel) (by decide +kernel)) (by decide +kernel) rfl (c6_isClosing l h0) ⟨rfl, rfl⟩ hRm hf hl rfl hW hdg) kk
/-! FourTenGates.isToldLateness(I)Z -/
abbrev rm6_isToldLateness : Room := { frames := 1, cells := 0, slots := 0, locals := 22 }
theorem d6_isToldLateness_0 : decode cX6_isToldLateness 0 = .ok (.iload_n 0, 1) := by decide +kernel
theorem d6_isToldLateness_1 : decode cX6_isToldLateness 1 = .ok (.iconst 0, 1) := by decide +kernel
theorem d6_isToldLateness_2 : decode cX6_isToldLateness 2 = .ok (.bipush 9, 2) := by decide +kernel
theorem d6_isToldLateness_4 : decode cX6_isToldLateness 4 = .ok (.invokestatic 102, 3) := by decide +kernel
theorem d6_isToldLateness_7 : decode cX6_isToldLateness 7 = .ok (.ireturn, 1) := by decide +kernel
def f6_isToldLateness (x0 : Int32) : Option Int32 := Option.bind (f6_between x0 0 9) fun r1 => if r1 = 0 ∨ r1 = 1 then some r1 else none
set_option maxHeartbeats 4000000 in
set_option maxRecDepth 100000 in
theorem c6_isToldLateness (l : Launch) {x0 : Int32} {r : Int32} (h0 : f6_isToldLateness x0 = some r) : Met l yX6_isToldLateness (wy yX6_isToldLateness cX6_isToldLateness 1 (some .boolean)) rm6_isToldLateness (Ps [.int x0]) (Qp (.int r)) 0 0 (fun _ => False) := by
  refine mk_mets (by decide) (Nat.le_of_ble_eq_true rfl) ?_
  intro p e s m below meth c S hr hlk ls hl
  obtain ⟨hx, hb, hml, hown, hts⟩ := id S
  have hl : lv_has ls 1 [(0, .int x0)] := hl
  unfold f6_isToldLateness at h0
  refine lv_iload_n hx hb d6_isToldLateness_0 rfl (lv_at hl 0 rfl) ?_
  refine lv_iconst (v := 0) hx hb d6_isToldLateness_1 (by decide) ?_
  refine lv_bipush (v := 9) hx hb d6_isToldLateness_2 (by decide) ?_
  obtain ⟨r1, hr1, h0⟩ := og_b h0
  refine k6_102 S  hr1 ⟨Nat.zero_le _, Nat.zero_le _⟩ ⟨Nat.le_of_ble_eq_true rfl, Nat.le_of_ble_eq_true rfl⟩ hl.1 (Nat.le_of_ble_eq_true rfl) d6_isToldLateness_4 ?_
  obtain ⟨hb0, h0⟩ := og_if h0
  exact q_zpure S hr hlk hb0 h0 d6_isToldLateness_7
set_option maxHeartbeats 4000000 in
set_option maxRecDepth 100000 in
theorem k6_205 {p : Program} {l : Launch} {e : Env} {R : Room} {s : State} {m : MethodId} {args : Array Value} {below : List Frame} {meth : Method} {c : Code} {H : Heap} {locs : List Loc} {cells slots : Nat} {Q : State → Prop} {cc : ByteArray} {pc nL : Nat} {ls : Array Slot} {rest : List Value} {x0 : Int32} {r : Int32} (S : CallFix p m c cc nL s args gtbl RX6) (h0 : f6_isToldLateness x0 = some r) (hf : cells + 0 ≤ R.cells ∧ slots + 0 ≤ R.slots) (hRm : rm6_isToldLateness.frames + 1 ≤ R.frames ∧ 8 + (1 + 11) + rm6_isToldLateness.locals ≤ R.locals) (hl : ls.size = nL) (hW : (rest.map fun v => v.category).sum ≤ 8) (hdg : decode cc pc = .ok (.invokestatic 205, 3)) (kk : W p l e R s m args below meth c H locs cells slots Q (F0 m (pc + 3) ls (.int r :: rest))) : W p l e R s m args below meth c H locs cells slots Q (F0 m pc ls (.int x0 :: rest)) := r_endp (run_S (n := 1) (As := [.int x0]) S (gw_S (gt_at 823 (by decide +kernel) (by decide +kernel)) (gt_at 401 (by decide +kernel) (by decide +kernel)) (gt_at 74 (by decide +kernel) (by decide +kernel)) (gt_at 402 (by decide +kernel) (by decide +kernel))) (by decide +kernel) rfl (c6_isToldLateness l h0) ⟨rfl, rfl⟩ hRm hf hl rfl hW hdg) kk
set_option maxHeartbeats 4000000 in
set_option maxRecDepth 100000 in
theorem k0_99 {p : Program} {l : Launch} {e : Env} {R : Room} {s : State} {m : MethodId} {args : Array Value} {below : List Frame} {meth : Method} {c : Code} {H : Heap} {locs : List Loc} {cells slots : Nat} {Q : State → Prop} {cc : ByteArray} {pc nL : Nat} {ls : Array Slot} {rest : List Value} {w : WV} {x0 : Int32} {r : Int32} (S : CallFix p m c cc nL s args gtbl RX0) (hK : KS LC w s) (h0 : f6_isToldLateness x0 = some r) (hf : cells + 0 ≤ R.cells ∧ slots + 0 ≤ R.slots) (hRm : rm6_isToldLateness.frames + 1 ≤ R.frames ∧ 8 + (1 + 11) + rm6_isToldLateness.locals ≤ R.locals) (hl : ls.size = nL) (hW : (rest.map fun v => v.category).sum ≤ 8) (hdg : decode cc pc = .ok (.invokestatic 99, 3)) (kk : W p l e R s m args below meth c H locs cells slots Q (F0 m (pc + 3) ls (.int r :: rest))) : W p l e R s m args below meth c H locs cells slots Q (F0 m pc ls (.int x0 :: rest)) := r_endp (run_SN (n := 1) (As := [.int x0]) S hK (host := RX6) (by decide +kernel) (gt_at 401 (by decide +kernel) (by decide +kernel)) (gt_at 74 (by decide +kernel) (by decide +kernel)) (gt_at 402 (by decide +kernel) (by decide +kernel)) (by decide +kernel) rfl (c6_isToldLateness l h0) ⟨rfl, rfl⟩ hRm hf hl rfl hW hdg) kk
/-! FourTenGates$Book.take(III)Z -/
abbrev rm0_take : Room := { frames := 2, cells := 0, slots := 0, locals := 44 }
theorem d0_take_0 : decode cX0_take 0 = .ok (.iload_n 1, 1) := by decide +kernel
theorem d0_take_1 : decode cX0_take 1 = .ok (.tableswitch 262 97 119 #[194, 262, 181, 262, 262, 262, 175, 262, 262, 262, 201, 262, 262, 262, 227, 262, 262, 262, 262, 107, 141, 262, 187], 107) := by decide +kernel
theorem d0_take_108 : decode cX0_take 108 = .ok (.iload_n 2, 1) := by decide +kernel
theorem d0_take_109 : decode cX0_take 109 = .ok (.invokestatic 76, 3) := by decide +kernel
theorem d0_take_112 : decode cX0_take 112 = .ok (.ifCond .eq 28, 3) := by decide +kernel
theorem d0_take_115 : decode cX0_take 115 = .ok (.iload_n 3, 1) := by decide +kernel
theorem d0_take_116 : decode cX0_take 116 = .ok (.iconst 0, 1) := by decide +kernel
theorem d0_take_117 : decode cX0_take 117 = .ok (.iconst 2, 1) := by decide +kernel
theorem d0_take_118 : decode cX0_take 118 = .ok (.invokestatic 46, 3) := by decide +kernel
theorem d0_take_121 : decode cX0_take 121 = .ok (.ifCond .eq 19, 3) := by decide +kernel
theorem d0_take_124 : decode cX0_take 124 = .ok (.aload_n 0, 1) := by decide +kernel
theorem d0_take_125 : decode cX0_take 125 = .ok (.getfield 14, 3) := by decide +kernel
theorem d0_take_128 : decode cX0_take 128 = .ok (.iload_n 2, 1) := by decide +kernel
theorem d0_take_129 : decode cX0_take 129 = .ok (.iload_n 3, 1) := by decide +kernel
theorem d0_take_130 : decode cX0_take 130 = .ok (.invokevirtual 80, 3) := by decide +kernel
theorem d0_take_133 : decode cX0_take 133 = .ok (.ifCond .eq 7, 3) := by decide +kernel
theorem d0_take_136 : decode cX0_take 136 = .ok (.iconst 1, 1) := by decide +kernel
theorem d0_take_137 : decode cX0_take 137 = .ok (.goto 4, 3) := by decide +kernel
theorem d0_take_140 : decode cX0_take 140 = .ok (.iconst 0, 1) := by decide +kernel
theorem d0_take_141 : decode cX0_take 141 = .ok (.ireturn, 1) := by decide +kernel
theorem d0_take_142 : decode cX0_take 142 = .ok (.iload_n 2, 1) := by decide +kernel
theorem d0_take_143 : decode cX0_take 143 = .ok (.invokestatic 76, 3) := by decide +kernel
theorem d0_take_146 : decode cX0_take 146 = .ok (.ifCond .eq 28, 3) := by decide +kernel
theorem d0_take_149 : decode cX0_take 149 = .ok (.iload_n 3, 1) := by decide +kernel
theorem d0_take_150 : decode cX0_take 150 = .ok (.iconst 0, 1) := by decide +kernel
theorem d0_take_151 : decode cX0_take 151 = .ok (.iconst 3, 1) := by decide +kernel
theorem d0_take_152 : decode cX0_take 152 = .ok (.invokestatic 46, 3) := by decide +kernel
theorem d0_take_155 : decode cX0_take 155 = .ok (.ifCond .eq 19, 3) := by decide +kernel
theorem d0_take_158 : decode cX0_take 158 = .ok (.aload_n 0, 1) := by decide +kernel
theorem d0_take_159 : decode cX0_take 159 = .ok (.getfield 20, 3) := by decide +kernel
theorem d0_take_162 : decode cX0_take 162 = .ok (.iload_n 2, 1) := by decide +kernel
theorem d0_take_163 : decode cX0_take 163 = .ok (.iload_n 3, 1) := by decide +kernel
theorem d0_take_164 : decode cX0_take 164 = .ok (.invokevirtual 80, 3) := by decide +kernel
theorem d0_take_167 : decode cX0_take 167 = .ok (.ifCond .eq 7, 3) := by decide +kernel
theorem d0_take_170 : decode cX0_take 170 = .ok (.iconst 1, 1) := by decide +kernel
theorem d0_take_171 : decode cX0_take 171 = .ok (.goto 4, 3) := by decide +kernel
theorem d0_take_174 : decode cX0_take 174 = .ok (.iconst 0, 1) := by decide +kernel
theorem d0_take_175 : decode cX0_take 175 = .ok (.ireturn, 1) := by decide +kernel
theorem d0_take_176 : decode cX0_take 176 = .ok (.aload_n 0, 1) := by decide +kernel
theorem d0_take_177 : decode cX0_take 177 = .ok (.iload_n 2, 1) := by decide +kernel
theorem d0_take_178 : decode cX0_take 178 = .ok (.invokevirtual 84, 3) := by decide +kernel
theorem d0_take_181 : decode cX0_take 181 = .ok (.ireturn, 1) := by decide +kernel
theorem d0_take_182 : decode cX0_take 182 = .ok (.aload_n 0, 1) := by decide +kernel
theorem d0_take_183 : decode cX0_take 183 = .ok (.iload_n 2, 1) := by decide +kernel
theorem d0_take_184 : decode cX0_take 184 = .ok (.invokevirtual 87, 3) := by decide +kernel
theorem d0_take_187 : decode cX0_take 187 = .ok (.ireturn, 1) := by decide +kernel
theorem d0_take_188 : decode cX0_take 188 = .ok (.aload_n 0, 1) := by decide +kernel
theorem d0_take_189 : decode cX0_take 189 = .ok (.iload_n 2, 1) := by decide +kernel
theorem d0_take_190 : decode cX0_take 190 = .ok (.iload_n 3, 1) := by decide +kernel
theorem d0_take_191 : decode cX0_take 191 = .ok (.invokevirtual 90, 3) := by decide +kernel
theorem d0_take_194 : decode cX0_take 194 = .ok (.ireturn, 1) := by decide +kernel
theorem d0_take_195 : decode cX0_take 195 = .ok (.aload_n 0, 1) := by decide +kernel
theorem d0_take_196 : decode cX0_take 196 = .ok (.iload_n 2, 1) := by decide +kernel
theorem d0_take_197 : decode cX0_take 197 = .ok (.iload_n 3, 1) := by decide +kernel
theorem d0_take_198 : decode cX0_take 198 = .ok (.invokevirtual 93, 3) := by decide +kernel
theorem d0_take_201 : decode cX0_take 201 = .ok (.ireturn, 1) := by decide +kernel
theorem d0_take_202 : decode cX0_take 202 = .ok (.iload_n 2, 1) := by decide +kernel
theorem d0_take_203 : decode cX0_take 203 = .ok (.iload_n 3, 1) := by decide +kernel
theorem d0_take_204 : decode cX0_take 204 = .ok (.invokestatic 96, 3) := by decide +kernel
theorem d0_take_207 : decode cX0_take 207 = .ok (.ifCond .eq 19, 3) := by decide +kernel
theorem d0_take_210 : decode cX0_take 210 = .ok (.aload_n 0, 1) := by decide +kernel
theorem d0_take_211 : decode cX0_take 211 = .ok (.getfield 23, 3) := by decide +kernel
theorem d0_take_214 : decode cX0_take 214 = .ok (.iload_n 2, 1) := by decide +kernel
theorem d0_take_215 : decode cX0_take 215 = .ok (.iload_n 3, 1) := by decide +kernel
theorem d0_take_216 : decode cX0_take 216 = .ok (.invokevirtual 80, 3) := by decide +kernel
theorem d0_take_219 : decode cX0_take 219 = .ok (.ifCond .eq 7, 3) := by decide +kernel
theorem d0_take_222 : decode cX0_take 222 = .ok (.iconst 1, 1) := by decide +kernel
theorem d0_take_223 : decode cX0_take 223 = .ok (.goto 4, 3) := by decide +kernel
theorem d0_take_226 : decode cX0_take 226 = .ok (.iconst 0, 1) := by decide +kernel
theorem d0_take_227 : decode cX0_take 227 = .ok (.ireturn, 1) := by decide +kernel
theorem d0_take_228 : decode cX0_take 228 = .ok (.iload_n 2, 1) := by decide +kernel
theorem d0_take_229 : decode cX0_take 229 = .ok (.invokestatic 99, 3) := by decide +kernel
theorem d0_take_232 : decode cX0_take 232 = .ok (.ifCond .eq 29, 3) := by decide +kernel
theorem d0_take_235 : decode cX0_take 235 = .ok (.iload_n 3, 1) := by decide +kernel
theorem d0_take_236 : decode cX0_take 236 = .ok (.iconst 0, 1) := by decide +kernel
theorem d0_take_237 : decode cX0_take 237 = .ok (.bipush 10, 2) := by decide +kernel
theorem d0_take_239 : decode cX0_take 239 = .ok (.invokestatic 46, 3) := by decide +kernel
theorem d0_take_242 : decode cX0_take 242 = .ok (.ifCond .eq 19, 3) := by decide +kernel
theorem d0_take_245 : decode cX0_take 245 = .ok (.aload_n 0, 1) := by decide +kernel
theorem d0_take_246 : decode cX0_take 246 = .ok (.getfield 26, 3) := by decide +kernel
theorem d0_take_249 : decode cX0_take 249 = .ok (.iload_n 2, 1) := by decide +kernel
theorem d0_take_250 : decode cX0_take 250 = .ok (.iload_n 3, 1) := by decide +kernel
theorem d0_take_251 : decode cX0_take 251 = .ok (.invokevirtual 80, 3) := by decide +kernel
theorem d0_take_254 : decode cX0_take 254 = .ok (.ifCond .eq 7, 3) := by decide +kernel
theorem d0_take_257 : decode cX0_take 257 = .ok (.iconst 1, 1) := by decide +kernel
theorem d0_take_258 : decode cX0_take 258 = .ok (.goto 4, 3) := by decide +kernel
theorem d0_take_261 : decode cX0_take 261 = .ok (.iconst 0, 1) := by decide +kernel
theorem d0_take_262 : decode cX0_take 262 = .ok (.ireturn, 1) := by decide +kernel
theorem d0_take_263 : decode cX0_take 263 = .ok (.iconst 0, 1) := by decide +kernel
theorem d0_take_264 : decode cX0_take 264 = .ok (.ireturn, 1) := by decide +kernel
def f0_take (σ : Mem) (h : Nat) (x1 : Int32) (x2 : Int32) (x3 : Int32) : Option (Mem × Int32) := if x1 = 97 then ob (f0_takePatience σ h x2 x3) fun σ2 r2 => if r2 = 0 ∨ r2 = 1 then some (σ2, r2) else none else if x1 = 99 then ob (f0_takeStopCost σ h x2) fun σ3 r3 => if r3 = 0 ∨ r3 = 1 then some (σ3, r3) else none else if x1 = 103 then ob (f0_takeGates σ h x2) fun σ4 r4 => if r4 = 0 ∨ r4 = 1 then some (σ4, r4) else none else if x1 = 107 then Option.bind (f6_isClosing x2 x3) fun r5 => if r5 = 0 then some (σ, 0) else ob (f2_add σ (h + 7) x2 x3) fun σ7 r7 => if r7 = 0 then some (σ7, 0) else some (σ7, 1) else if x1 = 111 then Option.bind (f6_isToldLateness x2) fun r6 => if r6 = 0 then some (σ, 0) else Option.bind (f6_between x3 0 10) fun r8 => if r8 = 0 then some (σ, 0) else ob (f2_add σ (h + 10) x2 x3) fun σ10 r10 => if r10 = 0 then some (σ10, 0) else some (σ10, 1) else if x1 = 116 then Option.bind (f6_isMinute x2) fun r7 => if r7 = 0 then some (σ, 0) else Option.bind (f6_between x3 0 2) fun r9 => if r9 = 0 then some (σ, 0) else ob (f2_add σ (h + 1) x2 x3) fun σ11 r11 => if r11 = 0 then some (σ11, 0) else some (σ11, 1) else if x1 = 117 then Option.bind (f6_isMinute x2) fun r8 => if r8 = 0 then some (σ, 0) else Option.bind (f6_between x3 0 3) fun r10 => if r10 = 0 then some (σ, 0) else ob (f2_add σ (h + 4) x2 x3) fun σ12 r12 => if r12 = 0 then some (σ12, 0) else some (σ12, 1) else if x1 = 119 then ob (f0_takeWaitCost σ h x2 x3) fun σ9 r9 => if r9 = 0 ∨ r9 = 1 then some (σ9, r9) else none else some (σ, 0)
set_option maxHeartbeats 4000000 in
set_option maxRecDepth 100000 in
theorem c0_take (l : Launch) {w : WV} {σ : Mem} {h : Nat} {x1 : Int32} {x2 : Int32} {x3 : Int32} {σ' : Mem} {r : Int32} (hh : h ∈ bookL) (h0 : f0_take σ h x1 x2 x3 = some (σ', r)) : Met l yX0_take (wy yX0_take cX0_take 4 (some .boolean)) rm0_take (Pw EC LC w [.ref (w.2.2 h), .int x1, .int x2, .int x3] σ) (Qw EC LC w σ' (some (.int r))) 0 0 (AW LC w) := by
  refine mk_met (by decide) (Nat.le_of_ble_eq_true rfl) ?_
  intro p e s m below meth c S hr hlk hK hR ls hl
  obtain ⟨hx, hb, hml, hown, hts⟩ := id S
  have hl : lv_has ls 4 [(0, .ref (w.2.2 h)), (1, .int x1), (2, .int x2), (3, .int x3)] := hl
  have hS : va_S (AW LC w) s.heap s.heap [] := va_S.rf
  unfold f0_take at h0
  refine lv_iload_n hx hb d0_take_0 rfl (lv_at hl 1 rfl) ?_
  by_cases hc1 : x1 = 97
  · have h0 := og_t hc1 h0
    refine q_tabI (off := 194) (tgt := 195) S d0_take_1 hc1 (by decide) (by decide) (by decide) (by decide) ?_
    refine lv_aload_n hx hb d0_take_195 rfl (lv_at hl 0 rfl) ?_
    refine lv_iload_n hx hb d0_take_196 rfl (lv_at hl 2 rfl) ?_
    refine lv_iload_n hx hb d0_take_197 rfl (lv_at hl 3 rfl) ?_
    obtain ⟨σ2, r2, hr2, h0⟩ := og_o h0
    refine k0_93 S hK hR hS hh hr2 ⟨Nat.zero_le _, Nat.zero_le _⟩ ⟨Nat.le_of_ble_eq_true rfl, Nat.le_of_ble_eq_true rfl⟩ hl.1 (Nat.le_of_ble_eq_true rfl) d0_take_198 (fun H locs hR hS => ?_)
    obtain ⟨hb0, h0⟩ := og_if h0
    exact q_zret S hr hlk hR hS hb0 h0 d0_take_201
  · have h0 := og_f hc1 h0
    by_cases hc2 : x1 = 99
    · have h0 := og_t hc2 h0
      refine q_tabI (off := 181) (tgt := 182) S d0_take_1 hc2 (by decide) (by decide) (by decide) (by decide) ?_
      refine lv_aload_n hx hb d0_take_182 rfl (lv_at hl 0 rfl) ?_
      refine lv_iload_n hx hb d0_take_183 rfl (lv_at hl 2 rfl) ?_
      obtain ⟨σ3, r3, hr3, h0⟩ := og_o h0
      refine k0_87 S hK hR hS hh hr3 ⟨Nat.zero_le _, Nat.zero_le _⟩ ⟨Nat.le_of_ble_eq_true rfl, Nat.le_of_ble_eq_true rfl⟩ hl.1 (Nat.le_of_ble_eq_true rfl) d0_take_184 (fun H locs hR hS => ?_)
      obtain ⟨hb0, h0⟩ := og_if h0
      exact q_zret S hr hlk hR hS hb0 h0 d0_take_187
    · have h0 := og_f hc2 h0
      by_cases hc3 : x1 = 103
      · have h0 := og_t hc3 h0
        refine q_tabI (off := 175) (tgt := 176) S d0_take_1 hc3 (by decide) (by decide) (by decide) (by decide) ?_
        refine lv_aload_n hx hb d0_take_176 rfl (lv_at hl 0 rfl) ?_
        refine lv_iload_n hx hb d0_take_177 rfl (lv_at hl 2 rfl) ?_
        obtain ⟨σ4, r4, hr4, h0⟩ := og_o h0
        refine k0_84 S hK hR hS hh hr4 ⟨Nat.zero_le _, Nat.zero_le _⟩ ⟨Nat.le_of_ble_eq_true rfl, Nat.le_of_ble_eq_true rfl⟩ hl.1 (Nat.le_of_ble_eq_true rfl) d0_take_178 (fun H locs hR hS => ?_)
        obtain ⟨hb0, h0⟩ := og_if h0
        exact q_zret S hr hlk hR hS hb0 h0 d0_take_181
      · have h0 := og_f hc3 h0
        by_cases hc4 : x1 = 107
        · have h0 := og_t hc4 h0
          refine q_tabI (off := 201) (tgt := 202) S d0_take_1 hc4 (by decide) (by decide) (by decide) (by decide) ?_
          refine lv_iload_n hx hb d0_take_202 rfl (lv_at hl 2 rfl) ?_
          refine lv_iload_n hx hb d0_take_203 rfl (lv_at hl 3 rfl) ?_
          obtain ⟨r5, hr5, h0⟩ := og_b h0
          refine k0_96 S hK  hr5 ⟨Nat.zero_le _, Nat.zero_le _⟩ ⟨Nat.le_of_ble_eq_true rfl, Nat.le_of_ble_eq_true rfl⟩ hl.1 (Nat.le_of_ble_eq_true rfl) d0_take_204 ?_
          refine lv_if_eq (tgt := 226) hx hb d0_take_207 (by decide) (fun hc6 => ?_) (fun hc6 => ?_)
          · have h0 := og_t hc6 h0
            refine lv_iconst (v := 0) hx hb d0_take_226 (by decide) ?_
            exact q_zret S hr hlk hR hS (Or.inl rfl) h0 d0_take_227
          · have h0 := og_f hc6 h0
            refine lv_aload_n hx hb d0_take_210 rfl (lv_at hl 0 rfl) ?_
            refine g0_23 S hK hR hh rfl d0_take_211 ?_
            refine lv_iload_n hx hb d0_take_214 rfl (lv_at hl 2 rfl) ?_
            refine lv_iload_n hx hb d0_take_215 rfl (lv_at hl 3 rfl) ?_
            obtain ⟨σ7, r7, hr7, h0⟩ := og_o h0
            refine k0_80 S hK hR hS (in_0_2 _ hh) hr7 ⟨Nat.zero_le _, Nat.zero_le _⟩ ⟨Nat.le_of_ble_eq_true rfl, Nat.le_of_ble_eq_true rfl⟩ hl.1 (Nat.le_of_ble_eq_true rfl) d0_take_216 (fun H locs hR hS => ?_)
            refine lv_if_eq (tgt := 226) hx hb d0_take_219 (by decide) (fun hc8 => ?_) (fun hc8 => ?_)
            · have h0 := og_t hc8 h0
              refine lv_iconst (v := 0) hx hb d0_take_226 (by decide) ?_
              exact q_zret S hr hlk hR hS (Or.inl rfl) h0 d0_take_227
            · have h0 := og_f hc8 h0
              refine lv_iconst (v := 1) hx hb d0_take_222 (by decide) ?_
              refine lv_goto (tgt := 227) hx hb d0_take_223 (by decide) ?_
              exact q_zret S hr hlk hR hS (Or.inr rfl) h0 d0_take_227
        · have h0 := og_f hc4 h0
          by_cases hc5 : x1 = 111
          · have h0 := og_t hc5 h0
            refine q_tabI (off := 227) (tgt := 228) S d0_take_1 hc5 (by decide) (by decide) (by decide) (by decide) ?_
            refine lv_iload_n hx hb d0_take_228 rfl (lv_at hl 2 rfl) ?_
            obtain ⟨r6, hr6, h0⟩ := og_b h0
            refine k0_99 S hK  hr6 ⟨Nat.zero_le _, Nat.zero_le _⟩ ⟨Nat.le_of_ble_eq_true rfl, Nat.le_of_ble_eq_true rfl⟩ hl.1 (Nat.le_of_ble_eq_true rfl) d0_take_229 ?_
            refine lv_if_eq (tgt := 261) hx hb d0_take_232 (by decide) (fun hc7 => ?_) (fun hc7 => ?_)
            · have h0 := og_t hc7 h0
              refine lv_iconst (v := 0) hx hb d0_take_261 (by decide) ?_
              exact q_zret S hr hlk hR hS (Or.inl rfl) h0 d0_take_262
            · have h0 := og_f hc7 h0
              refine lv_iload_n hx hb d0_take_235 rfl (lv_at hl 3 rfl) ?_
              refine lv_iconst (v := 0) hx hb d0_take_236 (by decide) ?_
              refine lv_bipush (v := 10) hx hb d0_take_237 (by decide) ?_
              obtain ⟨r8, hr8, h0⟩ := og_b h0
              refine k0_46 S hK  hr8 ⟨Nat.zero_le _, Nat.zero_le _⟩ ⟨Nat.le_of_ble_eq_true rfl, Nat.le_of_ble_eq_true rfl⟩ hl.1 (Nat.le_of_ble_eq_true rfl) d0_take_239 ?_
              refine lv_if_eq (tgt := 261) hx hb d0_take_242 (by decide) (fun hc9 => ?_) (fun hc9 => ?_)
              · have h0 := og_t hc9 h0
                refine lv_iconst (v := 0) hx hb d0_take_261 (by decide) ?_
                exact q_zret S hr hlk hR hS (Or.inl rfl) h0 d0_take_262
              · have h0 := og_f hc9 h0
                refine lv_aload_n hx hb d0_take_245 rfl (lv_at hl 0 rfl) ?_
                refine g0_26 S hK hR hh rfl d0_take_246 ?_
                refine lv_iload_n hx hb d0_take_249 rfl (lv_at hl 2 rfl) ?_
                refine lv_iload_n hx hb d0_take_250 rfl (lv_at hl 3 rfl) ?_
                obtain ⟨σ10, r10, hr10, h0⟩ := og_o h0
                refine k0_80 S hK hR hS (in_0_3 _ hh) hr10 ⟨Nat.zero_le _, Nat.zero_le _⟩ ⟨Nat.le_of_ble_eq_true rfl, Nat.le_of_ble_eq_true rfl⟩ hl.1 (Nat.le_of_ble_eq_true rfl) d0_take_251 (fun H locs hR hS => ?_)
                refine lv_if_eq (tgt := 261) hx hb d0_take_254 (by decide) (fun hc11 => ?_) (fun hc11 => ?_)
                · have h0 := og_t hc11 h0
                  refine lv_iconst (v := 0) hx hb d0_take_261 (by decide) ?_
                  exact q_zret S hr hlk hR hS (Or.inl rfl) h0 d0_take_262
                · have h0 := og_f hc11 h0
                  refine lv_iconst (v := 1) hx hb d0_take_257 (by decide) ?_
                  refine lv_goto (tgt := 262) hx hb d0_take_258 (by decide) ?_
                  exact q_zret S hr hlk hR hS (Or.inr rfl) h0 d0_take_262
          · have h0 := og_f hc5 h0
            by_cases hc6 : x1 = 116
            · have h0 := og_t hc6 h0
              refine q_tabI (off := 107) (tgt := 108) S d0_take_1 hc6 (by decide) (by decide) (by decide) (by decide) ?_
              refine lv_iload_n hx hb d0_take_108 rfl (lv_at hl 2 rfl) ?_
              obtain ⟨r7, hr7, h0⟩ := og_b h0
              refine k0_76 S hK  hr7 ⟨Nat.zero_le _, Nat.zero_le _⟩ ⟨Nat.le_of_ble_eq_true rfl, Nat.le_of_ble_eq_true rfl⟩ hl.1 (Nat.le_of_ble_eq_true rfl) d0_take_109 ?_
              refine lv_if_eq (tgt := 140) hx hb d0_take_112 (by decide) (fun hc8 => ?_) (fun hc8 => ?_)
              · have h0 := og_t hc8 h0
                refine lv_iconst (v := 0) hx hb d0_take_140 (by decide) ?_
                exact q_zret S hr hlk hR hS (Or.inl rfl) h0 d0_take_141
              · have h0 := og_f hc8 h0
                refine lv_iload_n hx hb d0_take_115 rfl (lv_at hl 3 rfl) ?_
                refine lv_iconst (v := 0) hx hb d0_take_116 (by decide) ?_
                refine lv_iconst (v := 2) hx hb d0_take_117 (by decide) ?_
                obtain ⟨r9, hr9, h0⟩ := og_b h0
                refine k0_46 S hK  hr9 ⟨Nat.zero_le _, Nat.zero_le _⟩ ⟨Nat.le_of_ble_eq_true rfl, Nat.le_of_ble_eq_true rfl⟩ hl.1 (Nat.le_of_ble_eq_true rfl) d0_take_118 ?_
                refine lv_if_eq (tgt := 140) hx hb d0_take_121 (by decide) (fun hc10 => ?_) (fun hc10 => ?_)
                · have h0 := og_t hc10 h0
                  refine lv_iconst (v := 0) hx hb d0_take_140 (by decide) ?_
                  exact q_zret S hr hlk hR hS (Or.inl rfl) h0 d0_take_141
                · have h0 := og_f hc10 h0
                  refine lv_aload_n hx hb d0_take_124 rfl (lv_at hl 0 rfl) ?_
                  refine g0_14 S hK hR hh rfl d0_take_125 ?_
                  refine lv_iload_n hx hb d0_take_128 rfl (lv_at hl 2 rfl) ?_
                  refine lv_iload_n hx hb d0_take_129 rfl (lv_at hl 3 rfl) ?_
                  obtain ⟨σ11, r11, hr11, h0⟩ := og_o h0
                  refine k0_80 S hK hR hS (in_0_0 _ hh) hr11 ⟨Nat.zero_le _, Nat.zero_le _⟩ ⟨Nat.le_of_ble_eq_true rfl, Nat.le_of_ble_eq_true rfl⟩ hl.1 (Nat.le_of_ble_eq_true rfl) d0_take_130 (fun H locs hR hS => ?_)
                  refine lv_if_eq (tgt := 140) hx hb d0_take_133 (by decide) (fun hc12 => ?_) (fun hc12 => ?_)
                  · have h0 := og_t hc12 h0
                    refine lv_iconst (v := 0) hx hb d0_take_140 (by decide) ?_
                    exact q_zret S hr hlk hR hS (Or.inl rfl) h0 d0_take_141
                  · have h0 := og_f hc12 h0
                    refine lv_iconst (v := 1) hx hb d0_take_136 (by decide) ?_
                    refine lv_goto (tgt := 141) hx hb d0_take_137 (by decide) ?_
                    exact q_zret S hr hlk hR hS (Or.inr rfl) h0 d0_take_141
            · have h0 := og_f hc6 h0
              by_cases hc7 : x1 = 117
              · have h0 := og_t hc7 h0
                refine q_tabI (off := 141) (tgt := 142) S d0_take_1 hc7 (by decide) (by decide) (by decide) (by decide) ?_
                refine lv_iload_n hx hb d0_take_142 rfl (lv_at hl 2 rfl) ?_
                obtain ⟨r8, hr8, h0⟩ := og_b h0
                refine k0_76 S hK  hr8 ⟨Nat.zero_le _, Nat.zero_le _⟩ ⟨Nat.le_of_ble_eq_true rfl, Nat.le_of_ble_eq_true rfl⟩ hl.1 (Nat.le_of_ble_eq_true rfl) d0_take_143 ?_
                refine lv_if_eq (tgt := 174) hx hb d0_take_146 (by decide) (fun hc9 => ?_) (fun hc9 => ?_)
                · have h0 := og_t hc9 h0
                  refine lv_iconst (v := 0) hx hb d0_take_174 (by decide) ?_
                  exact q_zret S hr hlk hR hS (Or.inl rfl) h0 d0_take_175
                · have h0 := og_f hc9 h0
                  refine lv_iload_n hx hb d0_take_149 rfl (lv_at hl 3 rfl) ?_
                  refine lv_iconst (v := 0) hx hb d0_take_150 (by decide) ?_
                  refine lv_iconst (v := 3) hx hb d0_take_151 (by decide) ?_
                  obtain ⟨r10, hr10, h0⟩ := og_b h0
                  refine k0_46 S hK  hr10 ⟨Nat.zero_le _, Nat.zero_le _⟩ ⟨Nat.le_of_ble_eq_true rfl, Nat.le_of_ble_eq_true rfl⟩ hl.1 (Nat.le_of_ble_eq_true rfl) d0_take_152 ?_
                  refine lv_if_eq (tgt := 174) hx hb d0_take_155 (by decide) (fun hc11 => ?_) (fun hc11 => ?_)
                  · have h0 := og_t hc11 h0
                    refine lv_iconst (v := 0) hx hb d0_take_174 (by decide) ?_
                    exact q_zret S hr hlk hR hS (Or.inl rfl) h0 d0_take_175
                  · have h0 := og_f hc11 h0
                    refine lv_aload_n hx hb d0_take_158 rfl (lv_at hl 0 rfl) ?_
                    refine g0_20 S hK hR hh rfl d0_take_159 ?_
                    refine lv_iload_n hx hb d0_take_162 rfl (lv_at hl 2 rfl) ?_
                    refine lv_iload_n hx hb d0_take_163 rfl (lv_at hl 3 rfl) ?_
                    obtain ⟨σ12, r12, hr12, h0⟩ := og_o h0
                    refine k0_80 S hK hR hS (in_0_1 _ hh) hr12 ⟨Nat.zero_le _, Nat.zero_le _⟩ ⟨Nat.le_of_ble_eq_true rfl, Nat.le_of_ble_eq_true rfl⟩ hl.1 (Nat.le_of_ble_eq_true rfl) d0_take_164 (fun H locs hR hS => ?_)
                    refine lv_if_eq (tgt := 174) hx hb d0_take_167 (by decide) (fun hc13 => ?_) (fun hc13 => ?_)
                    · have h0 := og_t hc13 h0
                      refine lv_iconst (v := 0) hx hb d0_take_174 (by decide) ?_
                      exact q_zret S hr hlk hR hS (Or.inl rfl) h0 d0_take_175
                    · have h0 := og_f hc13 h0
                      refine lv_iconst (v := 1) hx hb d0_take_170 (by decide) ?_
                      refine lv_goto (tgt := 175) hx hb d0_take_171 (by decide) ?_
                      exact q_zret S hr hlk hR hS (Or.inr rfl) h0 d0_take_175
              · have h0 := og_f hc7 h0
                by_cases hc8 : x1 = 119
                · have h0 := og_t hc8 h0
                  refine q_tabI (off := 187) (tgt := 188) S d0_take_1 hc8 (by decide) (by decide) (by decide) (by decide) ?_
                  refine lv_aload_n hx hb d0_take_188 rfl (lv_at hl 0 rfl) ?_
                  refine lv_iload_n hx hb d0_take_189 rfl (lv_at hl 2 rfl) ?_
                  refine lv_iload_n hx hb d0_take_190 rfl (lv_at hl 3 rfl) ?_
                  obtain ⟨σ9, r9, hr9, h0⟩ := og_o h0
                  refine k0_90 S hK hR hS hh hr9 ⟨Nat.zero_le _, Nat.zero_le _⟩ ⟨Nat.le_of_ble_eq_true rfl, Nat.le_of_ble_eq_true rfl⟩ hl.1 (Nat.le_of_ble_eq_true rfl) d0_take_191 (fun H locs hR hS => ?_)
                  obtain ⟨hb0, h0⟩ := og_if h0
                  exact q_zret S hr hlk hR hS hb0 h0 d0_take_194
                · have h0 := og_f hc8 h0
                  refine q_tabD (tgt := 263) S d0_take_1 [97, 99, 103, 107, 111, 116, 117, 119] (by decide) (by decide) (List.forall_mem_cons.mpr ⟨ne_toInt hc1 (by decide), List.forall_mem_cons.mpr ⟨ne_toInt hc2 (by decide), List.forall_mem_cons.mpr ⟨ne_toInt hc3 (by decide), List.forall_mem_cons.mpr ⟨ne_toInt hc4 (by decide), List.forall_mem_cons.mpr ⟨ne_toInt hc5 (by decide), List.forall_mem_cons.mpr ⟨ne_toInt hc6 (by decide), List.forall_mem_cons.mpr ⟨ne_toInt hc7 (by decide), List.forall_mem_cons.mpr ⟨ne_toInt hc8 (by decide), fun _ hq => absurd hq List.not_mem_nil⟩⟩⟩⟩⟩⟩⟩⟩) (by decide) ?_
                  refine lv_iconst (v := 0) hx hb d0_take_263 (by decide) ?_
                  exact q_zret S hr hlk hR hS (Or.inl rfl) h0 d0_take_264
set_option maxHeartbeats 4000000 in
set_option maxRecDepth 100000 in
theorem k5_38 {p : Program} {l : Launch} {e : Env} {R : Room} {s : State} {m : MethodId} {args : Array Value} {below : List Frame} {meth : Method} {c : Code} {H : Heap} {locs : List Loc} {cells slots : Nat} {Q : State → Prop} {cc : ByteArray} {pc nL : Nat} {ls : Array Slot} {rest : List Value} {w : WV} {σ : Mem} {h : Nat} {x1 : Int32} {x2 : Int32} {x3 : Int32} {σ1 : Mem} {r : Int32} (S : CallFix p m c cc nL s args gtbl RX5) (hK : KS LC w s) (hR : Rp EC LC w σ H) (hS : va_S (AW LC w) s.heap H locs) (hh : h ∈ bookL) (h0 : f0_take σ h x1 x2 x3 = some (σ1, r)) (hf : cells + 0 ≤ R.cells ∧ slots + 0 ≤ R.slots) (hRm : rm0_take.frames + 1 ≤ R.frames ∧ 8 + (4 + 11) + rm0_take.locals ≤ R.locals) (hl : ls.size = nL) (hW : (rest.map fun v => v.category).sum ≤ 8) (hdg : decode cc pc = .ok (.invokevirtual 38, 3)) (kk : ∀ (H1 : Heap) (locs1 : List Loc), Rp EC LC w σ1 H1 → va_S (AW LC w) s.heap H1 locs1 → W p l e R s m args below meth c H1 locs1 cells slots Q (F0 m (pc + 3) ls (.int r :: rest))) : W p l e R s m args below meth c H locs cells slots Q (F0 m pc ls (.int x3 :: .int x2 :: .int x1 :: .ref (w.2.2 h) :: rest)) := r_end hS (run_V (n := 3) (As := [.int x1, .int x2, .int x3]) S hK hR (ok_0 _ hh) (eC_0 _ hh w _) rfl (gw_V (gt_at 364 (by decide +kernel) (by decide +kernel)) (gt_at 365 (by decide +kernel) (by decide +kernel)) (gt_at 366 (by decide +kernel) (by decide +kernel)) (gt_at 76 (by decide +kernel) (by decide +kernel)) (gt_at 367 (by decide +kernel) (by decide +kernel))) (by decide +kernel) rfl (c0_take l hh h0) ⟨rfl, rfl⟩ hRm hf hl rfl hW hdg) kk
/-! FourTenGates$Hour.isUpToDate()Z -/
abbrev rm1_isUpToDate : Room := { frames := 0, cells := 0, slots := 0, locals := 0 }
theorem d1_isUpToDate_0 : decode cX1_isUpToDate 0 = .ok (.aload_n 0, 1) := by decide +kernel
theorem d1_isUpToDate_1 : decode cX1_isUpToDate 1 = .ok (.getfield 37, 3) := by decide +kernel
theorem d1_isUpToDate_4 : decode cX1_isUpToDate 4 = .ok (.ireturn, 1) := by decide +kernel
def f1_isUpToDate (σ : Mem) (h : Nat) : Option Int32 := if (σ h 10) = 0 ∨ (σ h 10) = 1 then some (σ h 10) else none
set_option maxHeartbeats 4000000 in
set_option maxRecDepth 100000 in
theorem c1_isUpToDate (l : Launch) {w : WV} {σ : Mem} {h : Nat} {r : Int32} (hh : h ∈ hourL) (h0 : f1_isUpToDate σ h = some r) : Met l yX1_isUpToDate (wy yX1_isUpToDate cX1_isUpToDate 1 (some .boolean)) rm1_isUpToDate (Pw EC LC w [.ref (w.2.2 h)] σ) (Qp (.int r)) 0 0 (fun _ => False) := by
  refine mk_met (by decide) (Nat.le_of_ble_eq_true rfl) ?_
  intro p e s m below meth c S hr hlk hK hR ls hl
  obtain ⟨hx, hb, hml, hown, hts⟩ := id S
  have hl : lv_has ls 1 [(0, .ref (w.2.2 h))] := hl
  unfold f1_isUpToDate at h0
  refine lv_aload_n hx hb d1_isUpToDate_0 rfl (lv_at hl 0 rfl) ?_
  refine g1_37 S hK hR hh d1_isUpToDate_1 ?_
  obtain ⟨hb0, h0⟩ := og_if h0
  exact q_zpure S hr hlk hb0 h0 d1_isUpToDate_4
set_option maxHeartbeats 4000000 in
set_option maxRecDepth 100000 in
theorem k6_266 {p : Program} {l : Launch} {e : Env} {R : Room} {s : State} {m : MethodId} {args : Array Value} {below : List Frame} {meth : Method} {c : Code} {H : Heap} {locs : List Loc} {cells slots : Nat} {Q : State → Prop} {cc : ByteArray} {pc nL : Nat} {ls : Array Slot} {rest : List Value} {w : WV} {σ : Mem} {h : Nat} {r : Int32} (S : CallFix p m c cc nL s args gtbl RX6) (hK : KS LC w s) (hR : Rp EC LC w σ H) (hh : h ∈ hourL) (h0 : f1_isUpToDate σ h = some r) (hf : cells + 0 ≤ R.cells ∧ slots + 0 ≤ R.slots) (hRm : rm1_isUpToDate.frames + 1 ≤ R.frames ∧ 8 + (1 + 11) + rm1_isUpToDate.locals ≤ R.locals) (hl : ls.size = nL) (hW : (rest.map fun v => v.category).sum ≤ 8) (hdg : decode cc pc = .ok (.invokevirtual 266, 3)) (kk : W p l e R s m args below meth c H locs cells slots Q (F0 m (pc + 3) ls (.int r :: rest))) : W p l e R s m args below meth c H locs cells slots Q (F0 m pc ls (.ref (w.2.2 h) :: rest)) := r_endp (run_V (n := 0) (As := []) S hK hR (ok_1 _ hh) (eC_1 _ hh w _) rfl (gw_V (gt_at 588 (by decide +kernel) (by decide +kernel)) (gt_at 589 (by decide +kernel) (by decide +kernel)) (gt_at 590 (by decide +kernel) (by decide +kernel)) (gt_at 80 (by decide +kernel) (by decide +kernel)) (gt_at 591 (by decide +kernel) (by decide +kernel))) (by decide +kernel) rfl (c1_isUpToDate l hh h0) ⟨rfl, rfl⟩ hRm hf hl rfl hW hdg) kk
/-! FourTenGates$Hour.outdate()V -/
abbrev rm1_outdate : Room := { frames := 0, cells := 0, slots := 0, locals := 0 }
theorem d1_outdate_0 : decode cX1_outdate 0 = .ok (.aload_n 0, 1) := by decide +kernel
theorem d1_outdate_1 : decode cX1_outdate 1 = .ok (.iconst 0, 1) := by decide +kernel
theorem d1_outdate_2 : decode cX1_outdate 2 = .ok (.putfield 37, 3) := by decide +kernel
theorem d1_outdate_5 : decode cX1_outdate 5 = .ok (.return_, 1) := by decide +kernel
def f1_outdate (σ : Mem) (h : Nat) : Option Mem := bm (mu σ h 10 0) fun σ1 => some σ1
set_option maxHeartbeats 4000000 in
set_option maxRecDepth 100000 in
theorem c1_outdate (l : Launch) {w : WV} {σ : Mem} {h : Nat} {σ' : Mem} (hh : h ∈ hourL) (h0 : f1_outdate σ h = some σ') : Met l yX1_outdate (wy yX1_outdate cX1_outdate 1 none) rm1_outdate (Pw EC LC w [.ref (w.2.2 h)] σ) (Qw EC LC w σ' none) 0 0 (AW LC w) := by
  refine mk_met (by decide) (Nat.le_of_ble_eq_true rfl) ?_
  intro p e s m below meth c S hr hlk hK hR ls hl
  obtain ⟨hx, hb, hml, hown, hts⟩ := id S
  have hl : lv_has ls 1 [(0, .ref (w.2.2 h))] := hl
  have hS : va_S (AW LC w) s.heap s.heap [] := va_S.rf
  unfold f1_outdate at h0
  refine lv_aload_n hx hb d1_outdate_0 rfl (lv_at hl 0 rfl) ?_
  refine lv_iconst (v := 0) hx hb d1_outdate_1 (by decide) ?_
  obtain ⟨σ1, hm1, h0⟩ := og_m h0
  refine u1_37 S hK hR hS hh (Or.inl rfl) hm1 d1_outdate_2 (fun H locs hR hS => ?_)
  exact q_vret S hr hlk hR hS h0 d1_outdate_5
set_option maxHeartbeats 4000000 in
set_option maxRecDepth 100000 in
theorem k6_255 {p : Program} {l : Launch} {e : Env} {R : Room} {s : State} {m : MethodId} {args : Array Value} {below : List Frame} {meth : Method} {c : Code} {H : Heap} {locs : List Loc} {cells slots : Nat} {Q : State → Prop} {cc : ByteArray} {pc nL : Nat} {ls : Array Slot} {rest : List Value} {w : WV} {σ : Mem} {h : Nat} {σ1 : Mem} (S : CallFix p m c cc nL s args gtbl RX6) (hK : KS LC w s) (hR : Rp EC LC w σ H) (hS : va_S (AW LC w) s.heap H locs) (hh : h ∈ hourL) (h0 : f1_outdate σ h = some σ1) (hf : cells + 0 ≤ R.cells ∧ slots + 0 ≤ R.slots) (hRm : rm1_outdate.frames + 1 ≤ R.frames ∧ 8 + (1 + 11) + rm1_outdate.locals ≤ R.locals) (hl : ls.size = nL) (hW : (rest.map fun v => v.category).sum ≤ 8) (hdg : decode cc pc = .ok (.invokevirtual 255, 3)) (kk : ∀ (H1 : Heap) (locs1 : List Loc), Rp EC LC w σ1 H1 → va_S (AW LC w) s.heap H1 locs1 → W p l e R s m args below meth c H1 locs1 cells slots Q (F0 m (pc + 3) ls (rest))) : W p l e R s m args below meth c H locs cells slots Q (F0 m pc ls (.ref (w.2.2 h) :: rest)) := r_end hS (run_V (n := 0) (As := []) S hK hR (ok_1 _ hh) (eC_1 _ hh w _) rfl (gw_V (gt_at 465 (by decide +kernel) (by decide +kernel)) (gt_at 466 (by decide +kernel) (by decide +kernel)) (gt_at 467 (by decide +kernel) (by decide +kernel)) (gt_at 80 (by decide +kernel) (by decide +kernel)) (gt_at 468 (by decide +kernel) (by decide +kernel))) (by decide +kernel) rfl (c1_outdate l hh h0) ⟨rfl, rfl⟩ hRm hf hl rfl hW hdg) kk
/-! FourTenGates$Hour.gatesAt(I)I -/
abbrev rm1_gatesAt : Room := { frames := 0, cells := 0, slots := 0, locals := 0 }
theorem d1_gatesAt_0 : decode cX1_gatesAt 0 = .ok (.iload_n 1, 1) := by decide +kernel
theorem d1_gatesAt_1 : decode cX1_gatesAt 1 = .ok (.ifCond .lt 19, 3) := by decide +kernel
theorem d1_gatesAt_4 : decode cX1_gatesAt 4 = .ok (.iload_n 1, 1) := by decide +kernel
theorem d1_gatesAt_5 : decode cX1_gatesAt 5 = .ok (.sipush 360, 3) := by decide +kernel
theorem d1_gatesAt_8 : decode cX1_gatesAt 8 = .ok (.if_icmp .ge 12, 3) := by decide +kernel
theorem d1_gatesAt_11 : decode cX1_gatesAt 11 = .ok (.aload_n 0, 1) := by decide +kernel
theorem d1_gatesAt_12 : decode cX1_gatesAt 12 = .ok (.getfield 9, 3) := by decide +kernel
theorem d1_gatesAt_15 : decode cX1_gatesAt 15 = .ok (.iload_n 1, 1) := by decide +kernel
theorem d1_gatesAt_16 : decode cX1_gatesAt 16 = .ok (.iaload, 1) := by decide +kernel
theorem d1_gatesAt_17 : decode cX1_gatesAt 17 = .ok (.goto 4, 3) := by decide +kernel
theorem d1_gatesAt_20 : decode cX1_gatesAt 20 = .ok (.iconst 0, 1) := by decide +kernel
theorem d1_gatesAt_21 : decode cX1_gatesAt 21 = .ok (.ireturn, 1) := by decide +kernel
def f1_gatesAt (σ : Mem) (h : Nat) (x1 : Int32) : Option Int32 := if x1 < 0 then some 0 else if 360 ≤ x1 then some 0 else if ¬ (x1 < 0 ∨ 360 ≤ x1.toNatClampNeg) then some (σ (h + 1) x1.toNatClampNeg) else none
set_option maxHeartbeats 4000000 in
set_option maxRecDepth 100000 in
theorem c1_gatesAt (l : Launch) {w : WV} {σ : Mem} {h : Nat} {x1 : Int32} {r : Int32} (hh : h ∈ hourL) (h0 : f1_gatesAt σ h x1 = some r) : Met l yX1_gatesAt (wy yX1_gatesAt cX1_gatesAt 2 (some .int)) rm1_gatesAt (Pw EC LC w [.ref (w.2.2 h), .int x1] σ) (Qp (.int r)) 0 0 (fun _ => False) := by
  refine mk_met (by decide) (Nat.le_of_ble_eq_true rfl) ?_
  intro p e s m below meth c S hr hlk hK hR ls hl
  obtain ⟨hx, hb, hml, hown, hts⟩ := id S
  have hl : lv_has ls 2 [(0, .ref (w.2.2 h)), (1, .int x1)] := hl
  unfold f1_gatesAt at h0
  refine lv_iload_n hx hb d1_gatesAt_0 rfl (lv_at hl 1 rfl) ?_
  refine lv_if_lt (tgt := 20) hx hb d1_gatesAt_1 (by decide) (fun hc1 => ?_) (fun hc1 => ?_)
  · have h0 := og_t hc1 h0
    refine lv_iconst (v := 0) hx hb d1_gatesAt_20 (by decide) ?_
    exact q_ipure S hr hlk h0 d1_gatesAt_21
  · have h0 := og_f hc1 h0
    refine lv_iload_n hx hb d1_gatesAt_4 rfl (lv_at hl 1 rfl) ?_
    refine lv_sipush (v := 360) hx hb d1_gatesAt_5 (by decide) ?_
    refine lv_icmp_ge (tgt := 20) hx hb d1_gatesAt_8 (by decide) (fun hc2 => ?_) (fun hc2 => ?_)
    · have h0 := og_t hc2 h0
      refine lv_iconst (v := 0) hx hb d1_gatesAt_20 (by decide) ?_
      exact q_ipure S hr hlk h0 d1_gatesAt_21
    · have h0 := og_f hc2 h0
      refine lv_aload_n hx hb d1_gatesAt_11 rfl (lv_at hl 0 rfl) ?_
      refine g1_9 S hK hR hh rfl d1_gatesAt_12 ?_
      refine lv_iload_n hx hb d1_gatesAt_15 rfl (lv_at hl 1 rfl) ?_
      obtain ⟨hi3, h0⟩ := og_if h0
      refine q_ld (k := x1.toNatClampNeg) S hK hR (oa_1_2 _ hh) (ea_1_2 _ hh w _) hi3 rfl d1_gatesAt_16 ?_
      refine lv_goto (tgt := 21) hx hb d1_gatesAt_17 (by decide) ?_
      exact q_ipure S hr hlk h0 d1_gatesAt_21
set_option maxHeartbeats 4000000 in
set_option maxRecDepth 100000 in
theorem k6_149 {p : Program} {l : Launch} {e : Env} {R : Room} {s : State} {m : MethodId} {args : Array Value} {below : List Frame} {meth : Method} {c : Code} {H : Heap} {locs : List Loc} {cells slots : Nat} {Q : State → Prop} {cc : ByteArray} {pc nL : Nat} {ls : Array Slot} {rest : List Value} {w : WV} {σ : Mem} {h : Nat} {x1 : Int32} {r : Int32} (S : CallFix p m c cc nL s args gtbl RX6) (hK : KS LC w s) (hR : Rp EC LC w σ H) (hh : h ∈ hourL) (h0 : f1_gatesAt σ h x1 = some r) (hf : cells + 0 ≤ R.cells ∧ slots + 0 ≤ R.slots) (hRm : rm1_gatesAt.frames + 1 ≤ R.frames ∧ 8 + (2 + 11) + rm1_gatesAt.locals ≤ R.locals) (hl : ls.size = nL) (hW : (rest.map fun v => v.category).sum ≤ 8) (hdg : decode cc pc = .ok (.invokevirtual 149, 3)) (kk : W p l e R s m args below meth c H locs cells slots Q (F0 m (pc + 3) ls (.int r :: rest))) : W p l e R s m args below meth c H locs cells slots Q (F0 m pc ls (.int x1 :: .ref (w.2.2 h) :: rest)) := r_endp (run_V (n := 1) (As := [.int x1]) S hK hR (ok_1 _ hh) (eC_1 _ hh w _) rfl (gw_V (gt_at 693 (by decide +kernel) (by decide +kernel)) (gt_at 694 (by decide +kernel) (by decide +kernel)) (gt_at 695 (by decide +kernel) (by decide +kernel)) (gt_at 80 (by decide +kernel) (by decide +kernel)) (gt_at 696 (by decide +kernel) (by decide +kernel))) (by decide +kernel) rfl (c1_gatesAt l hh h0) ⟨rfl, rfl⟩ hRm hf hl rfl hW hdg) kk
/-! FourTenGates$Hour.beginOf(I)I -/
abbrev rm1_beginOf : Room := { frames := 0, cells := 0, slots := 0, locals := 0 }
theorem d1_beginOf_0 : decode cX1_beginOf 0 = .ok (.iload_n 1, 1) := by decide +kernel
theorem d1_beginOf_1 : decode cX1_beginOf 1 = .ok (.ifCond .lt 30, 3) := by decide +kernel
theorem d1_beginOf_4 : decode cX1_beginOf 4 = .ok (.iload_n 1, 1) := by decide +kernel
theorem d1_beginOf_5 : decode cX1_beginOf 5 = .ok (.bipush 6, 2) := by decide +kernel
theorem d1_beginOf_7 : decode cX1_beginOf 7 = .ok (.if_icmp .ge 24, 3) := by decide +kernel
theorem d1_beginOf_10 : decode cX1_beginOf 10 = .ok (.aload_n 0, 1) := by decide +kernel
theorem d1_beginOf_11 : decode cX1_beginOf 11 = .ok (.getfield 21, 3) := by decide +kernel
theorem d1_beginOf_14 : decode cX1_beginOf 14 = .ok (.iload_n 1, 1) := by decide +kernel
theorem d1_beginOf_15 : decode cX1_beginOf 15 = .ok (.iaload, 1) := by decide +kernel
theorem d1_beginOf_16 : decode cX1_beginOf 16 = .ok (.sipush 360, 3) := by decide +kernel
theorem d1_beginOf_19 : decode cX1_beginOf 19 = .ok (.if_icmp .ge 12, 3) := by decide +kernel
theorem d1_beginOf_22 : decode cX1_beginOf 22 = .ok (.aload_n 0, 1) := by decide +kernel
theorem d1_beginOf_23 : decode cX1_beginOf 23 = .ok (.getfield 21, 3) := by decide +kernel
theorem d1_beginOf_26 : decode cX1_beginOf 26 = .ok (.iload_n 1, 1) := by decide +kernel
theorem d1_beginOf_27 : decode cX1_beginOf 27 = .ok (.iaload, 1) := by decide +kernel
theorem d1_beginOf_28 : decode cX1_beginOf 28 = .ok (.goto 5, 3) := by decide +kernel
theorem d1_beginOf_31 : decode cX1_beginOf 31 = .ok (.bipush (-4), 2) := by decide +kernel
theorem d1_beginOf_33 : decode cX1_beginOf 33 = .ok (.ireturn, 1) := by decide +kernel
def f1_beginOf (σ : Mem) (h : Nat) (x1 : Int32) : Option Int32 := if x1 < 0 then some (-4) else if 6 ≤ x1 then some (-4) else if ¬ (x1 < 0 ∨ 6 ≤ x1.toNatClampNeg) then if 360 ≤ (σ (h + 4) x1.toNatClampNeg) then some (-4) else if ¬ (x1 < 0 ∨ 6 ≤ x1.toNatClampNeg) then some (σ (h + 4) x1.toNatClampNeg) else none else none
set_option maxHeartbeats 4000000 in
set_option maxRecDepth 100000 in
theorem c1_beginOf (l : Launch) {w : WV} {σ : Mem} {h : Nat} {x1 : Int32} {r : Int32} (hh : h ∈ hourL) (h0 : f1_beginOf σ h x1 = some r) : Met l yX1_beginOf (wy yX1_beginOf cX1_beginOf 2 (some .int)) rm1_beginOf (Pw EC LC w [.ref (w.2.2 h), .int x1] σ) (Qp (.int r)) 0 0 (fun _ => False) := by
  refine mk_met (by decide) (Nat.le_of_ble_eq_true rfl) ?_
  intro p e s m below meth c S hr hlk hK hR ls hl
  obtain ⟨hx, hb, hml, hown, hts⟩ := id S
  have hl : lv_has ls 2 [(0, .ref (w.2.2 h)), (1, .int x1)] := hl
  unfold f1_beginOf at h0
  refine lv_iload_n hx hb d1_beginOf_0 rfl (lv_at hl 1 rfl) ?_
  refine lv_if_lt (tgt := 31) hx hb d1_beginOf_1 (by decide) (fun hc1 => ?_) (fun hc1 => ?_)
  · have h0 := og_t hc1 h0
    refine lv_bipush (v := (-4)) hx hb d1_beginOf_31 (by decide) ?_
    exact q_ipure S hr hlk h0 d1_beginOf_33
  · have h0 := og_f hc1 h0
    refine lv_iload_n hx hb d1_beginOf_4 rfl (lv_at hl 1 rfl) ?_
    refine lv_bipush (v := 6) hx hb d1_beginOf_5 (by decide) ?_
    refine lv_icmp_ge (tgt := 31) hx hb d1_beginOf_7 (by decide) (fun hc2 => ?_) (fun hc2 => ?_)
    · have h0 := og_t hc2 h0
      refine lv_bipush (v := (-4)) hx hb d1_beginOf_31 (by decide) ?_
      exact q_ipure S hr hlk h0 d1_beginOf_33
    · have h0 := og_f hc2 h0
      refine lv_aload_n hx hb d1_beginOf_10 rfl (lv_at hl 0 rfl) ?_
      refine g1_21 S hK hR hh rfl d1_beginOf_11 ?_
      refine lv_iload_n hx hb d1_beginOf_14 rfl (lv_at hl 1 rfl) ?_
      obtain ⟨hi3, h0⟩ := og_if h0
      refine q_ld (k := x1.toNatClampNeg) S hK hR (oa_1_5 _ hh) (ea_1_5 _ hh w _) hi3 rfl d1_beginOf_15 ?_
      refine lv_sipush (v := 360) hx hb d1_beginOf_16 (by decide) ?_
      refine lv_icmp_ge (tgt := 31) hx hb d1_beginOf_19 (by decide) (fun hc4 => ?_) (fun hc4 => ?_)
      · have h0 := og_t hc4 h0
        refine lv_bipush (v := (-4)) hx hb d1_beginOf_31 (by decide) ?_
        exact q_ipure S hr hlk h0 d1_beginOf_33
      · have h0 := og_f hc4 h0
        refine lv_aload_n hx hb d1_beginOf_22 rfl (lv_at hl 0 rfl) ?_
        refine g1_21 S hK hR hh rfl d1_beginOf_23 ?_
        refine lv_iload_n hx hb d1_beginOf_26 rfl (lv_at hl 1 rfl) ?_
        obtain ⟨hi5, h0⟩ := og_if h0
        refine q_ld (k := x1.toNatClampNeg) S hK hR (oa_1_5 _ hh) (ea_1_5 _ hh w _) hi5 rfl d1_beginOf_27 ?_
        refine lv_goto (tgt := 33) hx hb d1_beginOf_28 (by decide) ?_
        exact q_ipure S hr hlk h0 d1_beginOf_33
set_option maxHeartbeats 4000000 in
set_option maxRecDepth 100000 in
theorem k6_152 {p : Program} {l : Launch} {e : Env} {R : Room} {s : State} {m : MethodId} {args : Array Value} {below : List Frame} {meth : Method} {c : Code} {H : Heap} {locs : List Loc} {cells slots : Nat} {Q : State → Prop} {cc : ByteArray} {pc nL : Nat} {ls : Array Slot} {rest : List Value} {w : WV} {σ : Mem} {h : Nat} {x1 : Int32} {r : Int32} (S : CallFix p m c cc nL s args gtbl RX6) (hK : KS LC w s) (hR : Rp EC LC w σ H) (hh : h ∈ hourL) (h0 : f1_beginOf σ h x1 = some r) (hf : cells + 0 ≤ R.cells ∧ slots + 0 ≤ R.slots) (hRm : rm1_beginOf.frames + 1 ≤ R.frames ∧ 8 + (2 + 11) + rm1_beginOf.locals ≤ R.locals) (hl : ls.size = nL) (hW : (rest.map fun v => v.category).sum ≤ 8) (hdg : decode cc pc = .ok (.invokevirtual 152, 3)) (kk : W p l e R s m args below meth c H locs cells slots Q (F0 m (pc + 3) ls (.int r :: rest))) : W p l e R s m args below meth c H locs cells slots Q (F0 m pc ls (.int x1 :: .ref (w.2.2 h) :: rest)) := r_endp (run_V (n := 1) (As := [.int x1]) S hK hR (ok_1 _ hh) (eC_1 _ hh w _) rfl (gw_V (gt_at 701 (by decide +kernel) (by decide +kernel)) (gt_at 702 (by decide +kernel) (by decide +kernel)) (gt_at 703 (by decide +kernel) (by decide +kernel)) (gt_at 80 (by decide +kernel) (by decide +kernel)) (gt_at 704 (by decide +kernel) (by decide +kernel))) (by decide +kernel) rfl (c1_beginOf l hh h0) ⟨rfl, rfl⟩ hRm hf hl rfl hW hdg) kk
/-! FourTenGates$Hour.stopsOf(I)I -/
abbrev rm1_stopsOf : Room := { frames := 0, cells := 0, slots := 0, locals := 0 }
theorem d1_stopsOf_0 : decode cX1_stopsOf 0 = .ok (.iload_n 1, 1) := by decide +kernel
theorem d1_stopsOf_1 : decode cX1_stopsOf 1 = .ok (.ifCond .lt 18, 3) := by decide +kernel
theorem d1_stopsOf_4 : decode cX1_stopsOf 4 = .ok (.iload_n 1, 1) := by decide +kernel
theorem d1_stopsOf_5 : decode cX1_stopsOf 5 = .ok (.bipush 6, 2) := by decide +kernel
theorem d1_stopsOf_7 : decode cX1_stopsOf 7 = .ok (.if_icmp .ge 12, 3) := by decide +kernel
theorem d1_stopsOf_10 : decode cX1_stopsOf 10 = .ok (.aload_n 0, 1) := by decide +kernel
theorem d1_stopsOf_11 : decode cX1_stopsOf 11 = .ok (.getfield 24, 3) := by decide +kernel
theorem d1_stopsOf_14 : decode cX1_stopsOf 14 = .ok (.iload_n 1, 1) := by decide +kernel
theorem d1_stopsOf_15 : decode cX1_stopsOf 15 = .ok (.iaload, 1) := by decide +kernel
theorem d1_stopsOf_16 : decode cX1_stopsOf 16 = .ok (.goto 4, 3) := by decide +kernel
theorem d1_stopsOf_19 : decode cX1_stopsOf 19 = .ok (.iconst 0, 1) := by decide +kernel
theorem d1_stopsOf_20 : decode cX1_stopsOf 20 = .ok (.ireturn, 1) := by decide +kernel
def f1_stopsOf (σ : Mem) (h : Nat) (x1 : Int32) : Option Int32 := if x1 < 0 then some 0 else if 6 ≤ x1 then some 0 else if ¬ (x1 < 0 ∨ 6 ≤ x1.toNatClampNeg) then some (σ (h + 5) x1.toNatClampNeg) else none
set_option maxHeartbeats 4000000 in
set_option maxRecDepth 100000 in
theorem c1_stopsOf (l : Launch) {w : WV} {σ : Mem} {h : Nat} {x1 : Int32} {r : Int32} (hh : h ∈ hourL) (h0 : f1_stopsOf σ h x1 = some r) : Met l yX1_stopsOf (wy yX1_stopsOf cX1_stopsOf 2 (some .int)) rm1_stopsOf (Pw EC LC w [.ref (w.2.2 h), .int x1] σ) (Qp (.int r)) 0 0 (fun _ => False) := by
  refine mk_met (by decide) (Nat.le_of_ble_eq_true rfl) ?_
  intro p e s m below meth c S hr hlk hK hR ls hl
  obtain ⟨hx, hb, hml, hown, hts⟩ := id S
  have hl : lv_has ls 2 [(0, .ref (w.2.2 h)), (1, .int x1)] := hl
  unfold f1_stopsOf at h0
  refine lv_iload_n hx hb d1_stopsOf_0 rfl (lv_at hl 1 rfl) ?_
  refine lv_if_lt (tgt := 19) hx hb d1_stopsOf_1 (by decide) (fun hc1 => ?_) (fun hc1 => ?_)
  · have h0 := og_t hc1 h0
    refine lv_iconst (v := 0) hx hb d1_stopsOf_19 (by decide) ?_
    exact q_ipure S hr hlk h0 d1_stopsOf_20
  · have h0 := og_f hc1 h0
    refine lv_iload_n hx hb d1_stopsOf_4 rfl (lv_at hl 1 rfl) ?_
    refine lv_bipush (v := 6) hx hb d1_stopsOf_5 (by decide) ?_
    refine lv_icmp_ge (tgt := 19) hx hb d1_stopsOf_7 (by decide) (fun hc2 => ?_) (fun hc2 => ?_)
    · have h0 := og_t hc2 h0
      refine lv_iconst (v := 0) hx hb d1_stopsOf_19 (by decide) ?_
      exact q_ipure S hr hlk h0 d1_stopsOf_20
    · have h0 := og_f hc2 h0
      refine lv_aload_n hx hb d1_stopsOf_10 rfl (lv_at hl 0 rfl) ?_
      refine g1_24 S hK hR hh rfl d1_stopsOf_11 ?_
      refine lv_iload_n hx hb d1_stopsOf_14 rfl (lv_at hl 1 rfl) ?_
      obtain ⟨hi3, h0⟩ := og_if h0
      refine q_ld (k := x1.toNatClampNeg) S hK hR (oa_1_6 _ hh) (ea_1_6 _ hh w _) hi3 rfl d1_stopsOf_15 ?_
      refine lv_goto (tgt := 20) hx hb d1_stopsOf_16 (by decide) ?_
      exact q_ipure S hr hlk h0 d1_stopsOf_20
set_option maxHeartbeats 4000000 in
set_option maxRecDepth 100000 in
theorem k6_155 {p : Program} {l : Launch} {e : Env} {R : Room} {s : State} {m : MethodId} {args : Array Value} {below : List Frame} {meth : Method} {c : Code} {H : Heap} {locs : List Loc} {cells slots : Nat} {Q : State → Prop} {cc : ByteArray} {pc nL : Nat} {ls : Array Slot} {rest : List Value} {w : WV} {σ : Mem} {h : Nat} {x1 : Int32} {r : Int32} (S : CallFix p m c cc nL s args gtbl RX6) (hK : KS LC w s) (hR : Rp EC LC w σ H) (hh : h ∈ hourL) (h0 : f1_stopsOf σ h x1 = some r) (hf : cells + 0 ≤ R.cells ∧ slots + 0 ≤ R.slots) (hRm : rm1_stopsOf.frames + 1 ≤ R.frames ∧ 8 + (2 + 11) + rm1_stopsOf.locals ≤ R.locals) (hl : ls.size = nL) (hW : (rest.map fun v => v.category).sum ≤ 8) (hdg : decode cc pc = .ok (.invokevirtual 155, 3)) (kk : W p l e R s m args below meth c H locs cells slots Q (F0 m (pc + 3) ls (.int r :: rest))) : W p l e R s m args below meth c H locs cells slots Q (F0 m pc ls (.int x1 :: .ref (w.2.2 h) :: rest)) := r_endp (run_V (n := 1) (As := [.int x1]) S hK hR (ok_1 _ hh) (eC_1 _ hh w _) rfl (gw_V (gt_at 709 (by decide +kernel) (by decide +kernel)) (gt_at 710 (by decide +kernel) (by decide +kernel)) (gt_at 711 (by decide +kernel) (by decide +kernel)) (gt_at 80 (by decide +kernel) (by decide +kernel)) (gt_at 712 (by decide +kernel) (by decide +kernel))) (by decide +kernel) rfl (c1_stopsOf l hh h0) ⟨rfl, rfl⟩ hRm hf hl rfl hW hdg) kk
/-! FourTenGates$Hour.crossingOf(I)I -/
abbrev rm1_crossingOf : Room := { frames := 0, cells := 0, slots := 0, locals := 0 }
theorem d1_crossingOf_0 : decode cX1_crossingOf 0 = .ok (.iload_n 1, 1) := by decide +kernel
theorem d1_crossingOf_1 : decode cX1_crossingOf 1 = .ok (.ifCond .lt 18, 3) := by decide +kernel
theorem d1_crossingOf_4 : decode cX1_crossingOf 4 = .ok (.iload_n 1, 1) := by decide +kernel
theorem d1_crossingOf_5 : decode cX1_crossingOf 5 = .ok (.bipush 8, 2) := by decide +kernel
theorem d1_crossingOf_7 : decode cX1_crossingOf 7 = .ok (.if_icmp .ge 12, 3) := by decide +kernel
theorem d1_crossingOf_10 : decode cX1_crossingOf 10 = .ok (.aload_n 0, 1) := by decide +kernel
theorem d1_crossingOf_11 : decode cX1_crossingOf 11 = .ok (.getfield 27, 3) := by decide +kernel
theorem d1_crossingOf_14 : decode cX1_crossingOf 14 = .ok (.iload_n 1, 1) := by decide +kernel
theorem d1_crossingOf_15 : decode cX1_crossingOf 15 = .ok (.iaload, 1) := by decide +kernel
theorem d1_crossingOf_16 : decode cX1_crossingOf 16 = .ok (.goto 5, 3) := by decide +kernel
theorem d1_crossingOf_19 : decode cX1_crossingOf 19 = .ok (.bipush (-4), 2) := by decide +kernel
theorem d1_crossingOf_21 : decode cX1_crossingOf 21 = .ok (.ireturn, 1) := by decide +kernel
def f1_crossingOf (σ : Mem) (h : Nat) (x1 : Int32) : Option Int32 := if x1 < 0 then some (-4) else if 8 ≤ x1 then some (-4) else if ¬ (x1 < 0 ∨ 8 ≤ x1.toNatClampNeg) then some (σ (h + 6) x1.toNatClampNeg) else none
set_option maxHeartbeats 4000000 in
set_option maxRecDepth 100000 in
theorem c1_crossingOf (l : Launch) {w : WV} {σ : Mem} {h : Nat} {x1 : Int32} {r : Int32} (hh : h ∈ hourL) (h0 : f1_crossingOf σ h x1 = some r) : Met l yX1_crossingOf (wy yX1_crossingOf cX1_crossingOf 2 (some .int)) rm1_crossingOf (Pw EC LC w [.ref (w.2.2 h), .int x1] σ) (Qp (.int r)) 0 0 (fun _ => False) := by
  refine mk_met (by decide) (Nat.le_of_ble_eq_true rfl) ?_
  intro p e s m below meth c S hr hlk hK hR ls hl
  obtain ⟨hx, hb, hml, hown, hts⟩ := id S
  have hl : lv_has ls 2 [(0, .ref (w.2.2 h)), (1, .int x1)] := hl
  unfold f1_crossingOf at h0
  refine lv_iload_n hx hb d1_crossingOf_0 rfl (lv_at hl 1 rfl) ?_
  refine lv_if_lt (tgt := 19) hx hb d1_crossingOf_1 (by decide) (fun hc1 => ?_) (fun hc1 => ?_)
  · have h0 := og_t hc1 h0
    refine lv_bipush (v := (-4)) hx hb d1_crossingOf_19 (by decide) ?_
    exact q_ipure S hr hlk h0 d1_crossingOf_21
  · have h0 := og_f hc1 h0
    refine lv_iload_n hx hb d1_crossingOf_4 rfl (lv_at hl 1 rfl) ?_
    refine lv_bipush (v := 8) hx hb d1_crossingOf_5 (by decide) ?_
    refine lv_icmp_ge (tgt := 19) hx hb d1_crossingOf_7 (by decide) (fun hc2 => ?_) (fun hc2 => ?_)
    · have h0 := og_t hc2 h0
      refine lv_bipush (v := (-4)) hx hb d1_crossingOf_19 (by decide) ?_
      exact q_ipure S hr hlk h0 d1_crossingOf_21
    · have h0 := og_f hc2 h0
      refine lv_aload_n hx hb d1_crossingOf_10 rfl (lv_at hl 0 rfl) ?_
      refine g1_27 S hK hR hh rfl d1_crossingOf_11 ?_
      refine lv_iload_n hx hb d1_crossingOf_14 rfl (lv_at hl 1 rfl) ?_
      obtain ⟨hi3, h0⟩ := og_if h0
      refine q_ld (k := x1.toNatClampNeg) S hK hR (oa_1_7 _ hh) (ea_1_7 _ hh w _) hi3 rfl d1_crossingOf_15 ?_
      refine lv_goto (tgt := 21) hx hb d1_crossingOf_16 (by decide) ?_
      exact q_ipure S hr hlk h0 d1_crossingOf_21
set_option maxHeartbeats 4000000 in
set_option maxRecDepth 100000 in
theorem k6_158 {p : Program} {l : Launch} {e : Env} {R : Room} {s : State} {m : MethodId} {args : Array Value} {below : List Frame} {meth : Method} {c : Code} {H : Heap} {locs : List Loc} {cells slots : Nat} {Q : State → Prop} {cc : ByteArray} {pc nL : Nat} {ls : Array Slot} {rest : List Value} {w : WV} {σ : Mem} {h : Nat} {x1 : Int32} {r : Int32} (S : CallFix p m c cc nL s args gtbl RX6) (hK : KS LC w s) (hR : Rp EC LC w σ H) (hh : h ∈ hourL) (h0 : f1_crossingOf σ h x1 = some r) (hf : cells + 0 ≤ R.cells ∧ slots + 0 ≤ R.slots) (hRm : rm1_crossingOf.frames + 1 ≤ R.frames ∧ 8 + (2 + 11) + rm1_crossingOf.locals ≤ R.locals) (hl : ls.size = nL) (hW : (rest.map fun v => v.category).sum ≤ 8) (hdg : decode cc pc = .ok (.invokevirtual 158, 3)) (kk : W p l e R s m args below meth c H locs cells slots Q (F0 m (pc + 3) ls (.int r :: rest))) : W p l e R s m args below meth c H locs cells slots Q (F0 m pc ls (.int x1 :: .ref (w.2.2 h) :: rest)) := r_endp (run_V (n := 1) (As := [.int x1]) S hK hR (ok_1 _ hh) (eC_1 _ hh w _) rfl (gw_V (gt_at 717 (by decide +kernel) (by decide +kernel)) (gt_at 718 (by decide +kernel) (by decide +kernel)) (gt_at 719 (by decide +kernel) (by decide +kernel)) (gt_at 80 (by decide +kernel) (by decide +kernel)) (gt_at 720 (by decide +kernel) (by decide +kernel))) (by decide +kernel) rfl (c1_crossingOf l hh h0) ⟨rfl, rfl⟩ hRm hf hl rfl hW hdg) kk
/-! FourTenGates$Hour.waitOf(I)I -/
abbrev rm1_waitOf : Room := { frames := 0, cells := 0, slots := 0, locals := 0 }
theorem d1_waitOf_0 : decode cX1_waitOf 0 = .ok (.iload_n 1, 1) := by decide +kernel
theorem d1_waitOf_1 : decode cX1_waitOf 1 = .ok (.ifCond .lt 18, 3) := by decide +kernel
theorem d1_waitOf_4 : decode cX1_waitOf 4 = .ok (.iload_n 1, 1) := by decide +kernel
theorem d1_waitOf_5 : decode cX1_waitOf 5 = .ok (.bipush 8, 2) := by decide +kernel
theorem d1_waitOf_7 : decode cX1_waitOf 7 = .ok (.if_icmp .ge 12, 3) := by decide +kernel
theorem d1_waitOf_10 : decode cX1_waitOf 10 = .ok (.aload_n 0, 1) := by decide +kernel
theorem d1_waitOf_11 : decode cX1_waitOf 11 = .ok (.getfield 30, 3) := by decide +kernel
theorem d1_waitOf_14 : decode cX1_waitOf 14 = .ok (.iload_n 1, 1) := by decide +kernel
theorem d1_waitOf_15 : decode cX1_waitOf 15 = .ok (.iaload, 1) := by decide +kernel
theorem d1_waitOf_16 : decode cX1_waitOf 16 = .ok (.goto 4, 3) := by decide +kernel
theorem d1_waitOf_19 : decode cX1_waitOf 19 = .ok (.iconst 0, 1) := by decide +kernel
theorem d1_waitOf_20 : decode cX1_waitOf 20 = .ok (.ireturn, 1) := by decide +kernel
def f1_waitOf (σ : Mem) (h : Nat) (x1 : Int32) : Option Int32 := if x1 < 0 then some 0 else if 8 ≤ x1 then some 0 else if ¬ (x1 < 0 ∨ 8 ≤ x1.toNatClampNeg) then some (σ (h + 7) x1.toNatClampNeg) else none
set_option maxHeartbeats 4000000 in
set_option maxRecDepth 100000 in
theorem c1_waitOf (l : Launch) {w : WV} {σ : Mem} {h : Nat} {x1 : Int32} {r : Int32} (hh : h ∈ hourL) (h0 : f1_waitOf σ h x1 = some r) : Met l yX1_waitOf (wy yX1_waitOf cX1_waitOf 2 (some .int)) rm1_waitOf (Pw EC LC w [.ref (w.2.2 h), .int x1] σ) (Qp (.int r)) 0 0 (fun _ => False) := by
  refine mk_met (by decide) (Nat.le_of_ble_eq_true rfl) ?_
  intro p e s m below meth c S hr hlk hK hR ls hl
  obtain ⟨hx, hb, hml, hown, hts⟩ := id S
  have hl : lv_has ls 2 [(0, .ref (w.2.2 h)), (1, .int x1)] := hl
  unfold f1_waitOf at h0
  refine lv_iload_n hx hb d1_waitOf_0 rfl (lv_at hl 1 rfl) ?_
  refine lv_if_lt (tgt := 19) hx hb d1_waitOf_1 (by decide) (fun hc1 => ?_) (fun hc1 => ?_)
  · have h0 := og_t hc1 h0
    refine lv_iconst (v := 0) hx hb d1_waitOf_19 (by decide) ?_
    exact q_ipure S hr hlk h0 d1_waitOf_20
  · have h0 := og_f hc1 h0
    refine lv_iload_n hx hb d1_waitOf_4 rfl (lv_at hl 1 rfl) ?_
    refine lv_bipush (v := 8) hx hb d1_waitOf_5 (by decide) ?_
    refine lv_icmp_ge (tgt := 19) hx hb d1_waitOf_7 (by decide) (fun hc2 => ?_) (fun hc2 => ?_)
    · have h0 := og_t hc2 h0
      refine lv_iconst (v := 0) hx hb d1_waitOf_19 (by decide) ?_
      exact q_ipure S hr hlk h0 d1_waitOf_20
    · have h0 := og_f hc2 h0
      refine lv_aload_n hx hb d1_waitOf_10 rfl (lv_at hl 0 rfl) ?_
      refine g1_30 S hK hR hh rfl d1_waitOf_11 ?_
      refine lv_iload_n hx hb d1_waitOf_14 rfl (lv_at hl 1 rfl) ?_
      obtain ⟨hi3, h0⟩ := og_if h0
      refine q_ld (k := x1.toNatClampNeg) S hK hR (oa_1_8 _ hh) (ea_1_8 _ hh w _) hi3 rfl d1_waitOf_15 ?_
      refine lv_goto (tgt := 20) hx hb d1_waitOf_16 (by decide) ?_
      exact q_ipure S hr hlk h0 d1_waitOf_20
set_option maxHeartbeats 4000000 in
set_option maxRecDepth 100000 in
theorem k6_161 {p : Program} {l : Launch} {e : Env} {R : Room} {s : State} {m : MethodId} {args : Array Value} {below : List Frame} {meth : Method} {c : Code} {H : Heap} {locs : List Loc} {cells slots : Nat} {Q : State → Prop} {cc : ByteArray} {pc nL : Nat} {ls : Array Slot} {rest : List Value} {w : WV} {σ : Mem} {h : Nat} {x1 : Int32} {r : Int32} (S : CallFix p m c cc nL s args gtbl RX6) (hK : KS LC w s) (hR : Rp EC LC w σ H) (hh : h ∈ hourL) (h0 : f1_waitOf σ h x1 = some r) (hf : cells + 0 ≤ R.cells ∧ slots + 0 ≤ R.slots) (hRm : rm1_waitOf.frames + 1 ≤ R.frames ∧ 8 + (2 + 11) + rm1_waitOf.locals ≤ R.locals) (hl : ls.size = nL) (hW : (rest.map fun v => v.category).sum ≤ 8) (hdg : decode cc pc = .ok (.invokevirtual 161, 3)) (kk : W p l e R s m args below meth c H locs cells slots Q (F0 m (pc + 3) ls (.int r :: rest))) : W p l e R s m args below meth c H locs cells slots Q (F0 m pc ls (.int x1 :: .ref (w.2.2 h) :: rest)) := r_endp (run_V (n := 1) (As := [.int x1]) S hK hR (ok_1 _ hh) (eC_1 _ hh w _) rfl (gw_V (gt_at 725 (by decide +kernel) (by decide +kernel)) (gt_at 726 (by decide +kernel) (by decide +kernel)) (gt_at 727 (by decide +kernel) (by decide +kernel)) (gt_at 80 (by decide +kernel) (by decide +kernel)) (gt_at 728 (by decide +kernel) (by decide +kernel))) (by decide +kernel) rfl (c1_waitOf l hh h0) ⟨rfl, rfl⟩ hRm hf hl rfl hW hdg) kk
/-! FourTenGates$Hour.total()I -/
abbrev rm1_total : Room := { frames := 0, cells := 0, slots := 0, locals := 0 }
theorem d1_total_0 : decode cX1_total 0 = .ok (.aload_n 0, 1) := by decide +kernel
theorem d1_total_1 : decode cX1_total 1 = .ok (.getfield 44, 3) := by decide +kernel
theorem d1_total_4 : decode cX1_total 4 = .ok (.ireturn, 1) := by decide +kernel
def f1_total (σ : Mem) (h : Nat) : Option Int32 := some (σ h 12)
set_option maxHeartbeats 4000000 in
set_option maxRecDepth 100000 in
theorem c1_total (l : Launch) {w : WV} {σ : Mem} {h : Nat} {r : Int32} (hh : h ∈ hourL) (h0 : f1_total σ h = some r) : Met l yX1_total (wy yX1_total cX1_total 1 (some .int)) rm1_total (Pw EC LC w [.ref (w.2.2 h)] σ) (Qp (.int r)) 0 0 (fun _ => False) := by
  refine mk_met (by decide) (Nat.le_of_ble_eq_true rfl) ?_
  intro p e s m below meth c S hr hlk hK hR ls hl
  obtain ⟨hx, hb, hml, hown, hts⟩ := id S
  have hl : lv_has ls 1 [(0, .ref (w.2.2 h))] := hl
  unfold f1_total at h0
  refine lv_aload_n hx hb d1_total_0 rfl (lv_at hl 0 rfl) ?_
  refine g1_44 S hK hR hh d1_total_1 ?_
  exact q_ipure S hr hlk h0 d1_total_4
set_option maxHeartbeats 4000000 in
set_option maxRecDepth 100000 in
theorem k6_164 {p : Program} {l : Launch} {e : Env} {R : Room} {s : State} {m : MethodId} {args : Array Value} {below : List Frame} {meth : Method} {c : Code} {H : Heap} {locs : List Loc} {cells slots : Nat} {Q : State → Prop} {cc : ByteArray} {pc nL : Nat} {ls : Array Slot} {rest : List Value} {w : WV} {σ : Mem} {h : Nat} {r : Int32} (S : CallFix p m c cc nL s args gtbl RX6) (hK : KS LC w s) (hR : Rp EC LC w σ H) (hh : h ∈ hourL) (h0 : f1_total σ h = some r) (hf : cells + 0 ≤ R.cells ∧ slots + 0 ≤ R.slots) (hRm : rm1_total.frames + 1 ≤ R.frames ∧ 8 + (1 + 11) + rm1_total.locals ≤ R.locals) (hl : ls.size = nL) (hW : (rest.map fun v => v.category).sum ≤ 8) (hdg : decode cc pc = .ok (.invokevirtual 164, 3)) (kk : W p l e R s m args below meth c H locs cells slots Q (F0 m (pc + 3) ls (.int r :: rest))) : W p l e R s m args below meth c H locs cells slots Q (F0 m pc ls (.ref (w.2.2 h) :: rest)) := r_endp (run_V (n := 0) (As := []) S hK hR (ok_1 _ hh) (eC_1 _ hh w _) rfl (gw_V (gt_at 733 (by decide +kernel) (by decide +kernel)) (gt_at 734 (by decide +kernel) (by decide +kernel)) (gt_at 735 (by decide +kernel) (by decide +kernel)) (gt_at 80 (by decide +kernel) (by decide +kernel)) (gt_at 736 (by decide +kernel) (by decide +kernel))) (by decide +kernel) rfl (c1_total l hh h0) ⟨rfl, rfl⟩ hRm hf hl rfl hW hdg) kk
/-! FourTenGates$Hour.allStops()I -/
abbrev rm1_allStops : Room := { frames := 0, cells := 0, slots := 0, locals := 0 }
theorem d1_allStops_0 : decode cX1_allStops 0 = .ok (.iconst 0, 1) := by decide +kernel
theorem d1_allStops_1 : decode cX1_allStops 1 = .ok (.istore_n 1, 1) := by decide +kernel
theorem d1_allStops_2 : decode cX1_allStops 2 = .ok (.iconst 0, 1) := by decide +kernel
theorem d1_allStops_3 : decode cX1_allStops 3 = .ok (.istore_n 2, 1) := by decide +kernel
theorem d1_allStops_4 : decode cX1_allStops 4 = .ok (.iload_n 2, 1) := by decide +kernel
theorem d1_allStops_5 : decode cX1_allStops 5 = .ok (.bipush 6, 2) := by decide +kernel
theorem d1_allStops_7 : decode cX1_allStops 7 = .ok (.if_icmp .ge 18, 3) := by decide +kernel
theorem d1_allStops_10 : decode cX1_allStops 10 = .ok (.iload_n 1, 1) := by decide +kernel
theorem d1_allStops_11 : decode cX1_allStops 11 = .ok (.aload_n 0, 1) := by decide +kernel
theorem d1_allStops_12 : decode cX1_allStops 12 = .ok (.getfield 24, 3) := by decide +kernel
theorem d1_allStops_15 : decode cX1_allStops 15 = .ok (.iload_n 2, 1) := by decide +kernel
theorem d1_allStops_16 : decode cX1_allStops 16 = .ok (.iaload, 1) := by decide +kernel
theorem d1_allStops_17 : decode cX1_allStops 17 = .ok (.iadd, 1) := by decide +kernel
theorem d1_allStops_18 : decode cX1_allStops 18 = .ok (.istore_n 1, 1) := by decide +kernel
theorem d1_allStops_19 : decode cX1_allStops 19 = .ok (.iinc 2 1, 3) := by decide +kernel
theorem d1_allStops_22 : decode cX1_allStops 22 = .ok (.goto (-18), 3) := by decide +kernel
theorem d1_allStops_25 : decode cX1_allStops 25 = .ok (.iload_n 1, 1) := by decide +kernel
theorem d1_allStops_26 : decode cX1_allStops 26 = .ok (.ireturn, 1) := by decide +kernel
def f1_allStops_b4 (σ : Mem) (h : Nat) : Nat → Int32 → Int32 → Option Int32
  | 0, _, _ => none
  | n + 1, x1, x2 => if 6 ≤ x2 then some x1 else if ¬ (x2 < 0 ∨ 6 ≤ x2.toNatClampNeg) then f1_allStops_b4 σ h n (x1 + (σ (h + 5) x2.toNatClampNeg)) (x2 + 1) else none
set_option maxHeartbeats 4000000 in
set_option maxRecDepth 100000 in
theorem t1_allStops_b4 {p : Program} {l : Launch} {e : Env} {s : State} {m : MethodId} {args : Array Value} {below : List Frame} {meth : Method} {c : Code} {w : WV} {σ : Mem} {h : Nat} {r : Int32} (S : CallFix p m c cX1_allStops 3 s args gtbl RX1) (hr : meth.sig.returnType = (some .int)) (hlk : meth.locks = false) (hK : KS LC w s) (hR : Rp EC LC w σ s.heap) (hh : h ∈ hourL) : ∀ (n : Nat), ∀ (x1 : Int32) (x2 : Int32), f1_allStops_b4 σ h n x1 x2 = some r → ∀ (ls : Array Slot), lv_has ls 3 [(0, .ref (w.2.2 h)), (1, .int x1), (2, .int x2)] → W p l e rm1_allStops s m args below meth c s.heap [] 0 0 (MQ below (Qp (.int r)) args s 0 0 (fun _ => False)) (F0 m 4 ls []) := by
  obtain ⟨hx, hb, hml, hown, hts⟩ := id S
  intro n
  induction n with
  | zero =>
    intro x1 x2 h0
    cases (show none = _ from h0)
  | succ n ih =>
    intro x1 x2 h0 ls hl
    rw [f1_allStops_b4] at h0
    refine lv_iload_n hx hb d1_allStops_4 rfl (lv_at hl 2 rfl) ?_
    refine lv_bipush (v := 6) hx hb d1_allStops_5 (by decide) ?_
    refine lv_icmp_ge (tgt := 25) hx hb d1_allStops_7 (by decide) (fun hc1 => ?_) (fun hc1 => ?_)
    · have h0 := og_t hc1 h0
      refine lv_iload_n hx hb d1_allStops_25 rfl (lv_at hl 1 rfl) ?_
      exact q_ipure S hr hlk h0 d1_allStops_26
    · have h0 := og_f hc1 h0
      refine lv_iload_n hx hb d1_allStops_10 rfl (lv_at hl 1 rfl) ?_
      refine lv_aload_n hx hb d1_allStops_11 rfl (lv_at hl 0 rfl) ?_
      refine g1_24 S hK hR hh rfl d1_allStops_12 ?_
      refine lv_iload_n hx hb d1_allStops_15 rfl (lv_at hl 2 rfl) ?_
      obtain ⟨hi2, h0⟩ := og_if h0
      refine q_ld (k := x2.toNatClampNeg) S hK hR (oa_1_6 _ hh) (ea_1_6 _ hh w _) hi2 rfl d1_allStops_16 ?_
      refine lv_iadd hx hb d1_allStops_17 ?_
      refine lv_istore_n (lv' := [(1, .int (x1 + (σ (h + 5) x2.toNatClampNeg))), (0, .ref (w.2.2 h)), (2, .int x2)]) hx hb d1_allStops_18 rfl hl (by decide) rfl (fun ls hl => ?_)
      refine lv_iinc (v := x2 + 1) (lv' := [(2, .int (x2 + 1)), (1, .int (x1 + (σ (h + 5) x2.toNatClampNeg))), (0, .ref (w.2.2 h))]) hx hb d1_allStops_19 hl (k := 2) rfl (ii1 _) (by decide) rfl (fun ls hl => ?_)
      refine lv_goto (tgt := 4) hx hb d1_allStops_22 (by decide) ?_
      exact ih (x1 + (σ (h + 5) x2.toNatClampNeg)) (x2 + 1) h0 _ (lv_sub hl [2, 1, 0] rfl)
def f1_allStops (σ : Mem) (h : Nat) : Option Int32 := f1_allStops_b4 σ h 1000 0 0
set_option maxHeartbeats 4000000 in
set_option maxRecDepth 100000 in
theorem c1_allStops (l : Launch) {w : WV} {σ : Mem} {h : Nat} {r : Int32} (hh : h ∈ hourL) (h0 : f1_allStops σ h = some r) : Met l yX1_allStops (wy yX1_allStops cX1_allStops 3 (some .int)) rm1_allStops (Pw EC LC w [.ref (w.2.2 h)] σ) (Qp (.int r)) 0 0 (fun _ => False) := by
  refine mk_met (by decide) (Nat.le_of_ble_eq_true rfl) ?_
  intro p e s m below meth c S hr hlk hK hR ls hl
  obtain ⟨hx, hb, hml, hown, hts⟩ := id S
  have hl : lv_has ls 3 [(0, .ref (w.2.2 h))] := hl
  unfold f1_allStops at h0
  refine lv_iconst (v := 0) hx hb d1_allStops_0 (by decide) ?_
  refine lv_istore_n (lv' := [(1, .int 0), (0, .ref (w.2.2 h))]) hx hb d1_allStops_1 rfl hl (by decide) rfl (fun ls hl => ?_)
  refine lv_iconst (v := 0) hx hb d1_allStops_2 (by decide) ?_
  refine lv_istore_n (lv' := [(2, .int 0), (1, .int 0), (0, .ref (w.2.2 h))]) hx hb d1_allStops_3 rfl hl (by decide) rfl (fun ls hl => ?_)
  exact t1_allStops_b4 S hr hlk hK hR hh 1000 0 0 h0 _ (lv_sub hl [2, 1, 0] rfl)
set_option maxHeartbeats 4000000 in
set_option maxRecDepth 100000 in
theorem k6_235 {p : Program} {l : Launch} {e : Env} {R : Room} {s : State} {m : MethodId} {args : Array Value} {below : List Frame} {meth : Method} {c : Code} {H : Heap} {locs : List Loc} {cells slots : Nat} {Q : State → Prop} {cc : ByteArray} {pc nL : Nat} {ls : Array Slot} {rest : List Value} {w : WV} {σ : Mem} {h : Nat} {r : Int32} (S : CallFix p m c cc nL s args gtbl RX6) (hK : KS LC w s) (hR : Rp EC LC w σ H) (hh : h ∈ hourL) (h0 : f1_allStops σ h = some r) (hf : cells + 0 ≤ R.cells ∧ slots + 0 ≤ R.slots) (hRm : rm1_allStops.frames + 1 ≤ R.frames ∧ 8 + (3 + 11) + rm1_allStops.locals ≤ R.locals) (hl : ls.size = nL) (hW : (rest.map fun v => v.category).sum ≤ 8) (hdg : decode cc pc = .ok (.invokevirtual 235, 3)) (kk : W p l e R s m args below meth c H locs cells slots Q (F0 m (pc + 3) ls (.int r :: rest))) : W p l e R s m args below meth c H locs cells slots Q (F0 m pc ls (.ref (w.2.2 h) :: rest)) := r_endp (run_V (n := 0) (As := []) S hK hR (ok_1 _ hh) (eC_1 _ hh w _) rfl (gw_V (gt_at 867 (by decide +kernel) (by decide +kernel)) (gt_at 868 (by decide +kernel) (by decide +kernel)) (gt_at 869 (by decide +kernel) (by decide +kernel)) (gt_at 80 (by decide +kernel) (by decide +kernel)) (gt_at 870 (by decide +kernel) (by decide +kernel))) (by decide +kernel) rfl (c1_allStops l hh h0) ⟨rfl, rfl⟩ hRm hf hl rfl hW hdg) kk
/-! FourTenGates$Stand.lateOf(I)I -/
abbrev rm4_lateOf : Room := { frames := 1, cells := 0, slots := 0, locals := 22 }
theorem d4_lateOf_0 : decode cX4_lateOf 0 = .ok (.iload_n 1, 1) := by decide +kernel
theorem d4_lateOf_1 : decode cX4_lateOf 1 = .ok (.iconst 0, 1) := by decide +kernel
theorem d4_lateOf_2 : decode cX4_lateOf 2 = .ok (.iconst 5, 1) := by decide +kernel
theorem d4_lateOf_3 : decode cX4_lateOf 3 = .ok (.invokestatic 32, 3) := by decide +kernel
theorem d4_lateOf_6 : decode cX4_lateOf 6 = .ok (.ifCond .eq 12, 3) := by decide +kernel
theorem d4_lateOf_9 : decode cX4_lateOf 9 = .ok (.aload_n 0, 1) := by decide +kernel
theorem d4_lateOf_10 : decode cX4_lateOf 10 = .ok (.getfield 20, 3) := by decide +kernel
theorem d4_lateOf_13 : decode cX4_lateOf 13 = .ok (.iload_n 1, 1) := by decide +kernel
theorem d4_lateOf_14 : decode cX4_lateOf 14 = .ok (.iaload, 1) := by decide +kernel
theorem d4_lateOf_15 : decode cX4_lateOf 15 = .ok (.goto 4, 3) := by decide +kernel
theorem d4_lateOf_18 : decode cX4_lateOf 18 = .ok (.iconst 0, 1) := by decide +kernel
theorem d4_lateOf_19 : decode cX4_lateOf 19 = .ok (.ireturn, 1) := by decide +kernel
def f4_lateOf (σ : Mem) (h : Nat) (x1 : Int32) : Option Int32 := Option.bind (f6_between x1 0 5) fun r1 => if r1 = 0 then some 0 else if ¬ (x1 < 0 ∨ 6 ≤ x1.toNatClampNeg) then some (σ (h + 4) x1.toNatClampNeg) else none
set_option maxHeartbeats 4000000 in
set_option maxRecDepth 100000 in
theorem c4_lateOf (l : Launch) {w : WV} {σ : Mem} {h : Nat} {x1 : Int32} {r : Int32} (hh : h ∈ standL) (h0 : f4_lateOf σ h x1 = some r) : Met l yX4_lateOf (wy yX4_lateOf cX4_lateOf 2 (some .int)) rm4_lateOf (Pw EC LC w [.ref (w.2.2 h), .int x1] σ) (Qp (.int r)) 0 0 (fun _ => False) := by
  refine mk_met (by decide) (Nat.le_of_ble_eq_true rfl) ?_
  intro p e s m below meth c S hr hlk hK hR ls hl
  obtain ⟨hx, hb, hml, hown, hts⟩ := id S
  have hl : lv_has ls 2 [(0, .ref (w.2.2 h)), (1, .int x1)] := hl
  unfold f4_lateOf at h0
  refine lv_iload_n hx hb d4_lateOf_0 rfl (lv_at hl 1 rfl) ?_
  refine lv_iconst (v := 0) hx hb d4_lateOf_1 (by decide) ?_
  refine lv_iconst (v := 5) hx hb d4_lateOf_2 (by decide) ?_
  obtain ⟨r1, hr1, h0⟩ := og_b h0
  refine k4_32 S hK  hr1 ⟨Nat.zero_le _, Nat.zero_le _⟩ ⟨Nat.le_of_ble_eq_true rfl, Nat.le_of_ble_eq_true rfl⟩ hl.1 (Nat.le_of_ble_eq_true rfl) d4_lateOf_3 ?_
  refine lv_if_eq (tgt := 18) hx hb d4_lateOf_6 (by decide) (fun hc2 => ?_) (fun hc2 => ?_)
  · have h0 := og_t hc2 h0
    refine lv_iconst (v := 0) hx hb d4_lateOf_18 (by decide) ?_
    exact q_ipure S hr hlk h0 d4_lateOf_19
  · have h0 := og_f hc2 h0
    refine lv_aload_n hx hb d4_lateOf_9 rfl (lv_at hl 0 rfl) ?_
    refine g4_20 S hK hR hh rfl d4_lateOf_10 ?_
    refine lv_iload_n hx hb d4_lateOf_13 rfl (lv_at hl 1 rfl) ?_
    obtain ⟨hi3, h0⟩ := og_if h0
    refine q_ld (k := x1.toNatClampNeg) S hK hR (oa_4_1 _ hh) (ea_4_1 _ hh w _) hi3 rfl d4_lateOf_14 ?_
    refine lv_goto (tgt := 19) hx hb d4_lateOf_15 (by decide) ?_
    exact q_ipure S hr hlk h0 d4_lateOf_19
set_option maxHeartbeats 4000000 in
set_option maxRecDepth 100000 in
theorem k6_127 {p : Program} {l : Launch} {e : Env} {R : Room} {s : State} {m : MethodId} {args : Array Value} {below : List Frame} {meth : Method} {c : Code} {H : Heap} {locs : List Loc} {cells slots : Nat} {Q : State → Prop} {cc : ByteArray} {pc nL : Nat} {ls : Array Slot} {rest : List Value} {w : WV} {σ : Mem} {h : Nat} {x1 : Int32} {r : Int32} (S : CallFix p m c cc nL s args gtbl RX6) (hK : KS LC w s) (hR : Rp EC LC w σ H) (hh : h ∈ standL) (h0 : f4_lateOf σ h x1 = some r) (hf : cells + 0 ≤ R.cells ∧ slots + 0 ≤ R.slots) (hRm : rm4_lateOf.frames + 1 ≤ R.frames ∧ 8 + (2 + 11) + rm4_lateOf.locals ≤ R.locals) (hl : ls.size = nL) (hW : (rest.map fun v => v.category).sum ≤ 8) (hdg : decode cc pc = .ok (.invokevirtual 127, 3)) (kk : W p l e R s m args below meth c H locs cells slots Q (F0 m (pc + 3) ls (.int r :: rest))) : W p l e R s m args below meth c H locs cells slots Q (F0 m pc ls (.int x1 :: .ref (w.2.2 h) :: rest)) := r_endp (run_V (n := 1) (As := [.int x1]) S hK hR (ok_4 _ hh) (eC_4 _ hh w _) rfl (gw_V (gt_at 545 (by decide +kernel) (by decide +kernel)) (gt_at 546 (by decide +kernel) (by decide +kernel)) (gt_at 547 (by decide +kernel) (by decide +kernel)) (gt_at 79 (by decide +kernel) (by decide +kernel)) (gt_at 548 (by decide +kernel) (by decide +kernel))) (by decide +kernel) rfl (c4_lateOf l hh h0) ⟨rfl, rfl⟩ hRm hf hl rfl hW hdg) kk
set_option maxHeartbeats 4000000 in
set_option maxRecDepth 100000 in
theorem k4_28 {p : Program} {l : Launch} {e : Env} {R : Room} {s : State} {m : MethodId} {args : Array Value} {below : List Frame} {meth : Method} {c : Code} {H : Heap} {locs : List Loc} {cells slots : Nat} {Q : State → Prop} {cc : ByteArray} {pc nL : Nat} {ls : Array Slot} {rest : List Value} {w : WV} {σ : Mem} {h : Nat} {x1 : Int32} {r : Int32} (S : CallFix p m c cc nL s args gtbl RX4) (hK : KS LC w s) (hR : Rp EC LC w σ H) (hh : h ∈ standL) (h0 : f4_lateOf σ h x1 = some r) (hf : cells + 0 ≤ R.cells ∧ slots + 0 ≤ R.slots) (hRm : rm4_lateOf.frames + 1 ≤ R.frames ∧ 8 + (2 + 11) + rm4_lateOf.locals ≤ R.locals) (hl : ls.size = nL) (hW : (rest.map fun v => v.category).sum ≤ 8) (hdg : decode cc pc = .ok (.invokevirtual 28, 3)) (kk : W p l e R s m args below meth c H locs cells slots Q (F0 m (pc + 3) ls (.int r :: rest))) : W p l e R s m args below meth c H locs cells slots Q (F0 m pc ls (.int x1 :: .ref (w.2.2 h) :: rest)) := r_endp (run_V (n := 1) (As := [.int x1]) S hK hR (ok_4 _ hh) (eC_4 _ hh w _) rfl (gw_V (gt_at 559 (by decide +kernel) (by decide +kernel)) (gt_at 546 (by decide +kernel) (by decide +kernel)) (gt_at 547 (by decide +kernel) (by decide +kernel)) (gt_at 79 (by decide +kernel) (by decide +kernel)) (gt_at 548 (by decide +kernel) (by decide +kernel))) (by decide +kernel) rfl (c4_lateOf l hh h0) ⟨rfl, rfl⟩ hRm hf hl rfl hW hdg) kk
/-! FourTenGates$Stand.comingOf(LFourTenGates$Pairs;I)I -/
abbrev rm4_comingOf : Room := { frames := 2, cells := 0, slots := 0, locals := 43 }
theorem d4_comingOf_0 : decode cX4_comingOf 0 = .ok (.aload_n 1, 1) := by decide +kernel
theorem d4_comingOf_1 : decode cX4_comingOf 1 = .ok (.iload_n 2, 1) := by decide +kernel
theorem d4_comingOf_2 : decode cX4_comingOf 2 = .ok (.invokevirtual 36, 3) := by decide +kernel
theorem d4_comingOf_5 : decode cX4_comingOf 5 = .ok (.aload_n 0, 1) := by decide +kernel
theorem d4_comingOf_6 : decode cX4_comingOf 6 = .ok (.iload_n 2, 1) := by decide +kernel
theorem d4_comingOf_7 : decode cX4_comingOf 7 = .ok (.invokevirtual 28, 3) := by decide +kernel
theorem d4_comingOf_10 : decode cX4_comingOf 10 = .ok (.iadd, 1) := by decide +kernel
theorem d4_comingOf_11 : decode cX4_comingOf 11 = .ok (.bipush 6, 2) := by decide +kernel
theorem d4_comingOf_13 : decode cX4_comingOf 13 = .ok (.imul, 1) := by decide +kernel
theorem d4_comingOf_14 : decode cX4_comingOf 14 = .ok (.ireturn, 1) := by decide +kernel
def f4_comingOf (σ : Mem) (h : Nat) (o1 : Nat) (x2 : Int32) : Option Int32 := Option.bind (f2_first σ o1 x2) fun r1 => Option.bind (f4_lateOf σ h x2) fun r2 => some ((r1 + r2) * 6)
set_option maxHeartbeats 4000000 in
set_option maxRecDepth 100000 in
theorem c4_comingOf (l : Launch) {w : WV} {σ : Mem} {h : Nat} {o1 : Nat} {x2 : Int32} {r : Int32} (hh : h ∈ standL) (ho1 : o1 ∈ pairsL) (h0 : f4_comingOf σ h o1 x2 = some r) : Met l yX4_comingOf (wy yX4_comingOf cX4_comingOf 3 (some .int)) rm4_comingOf (Pw EC LC w [.ref (w.2.2 h), .ref (w.2.2 o1), .int x2] σ) (Qp (.int r)) 0 0 (fun _ => False) := by
  refine mk_met (by decide) (Nat.le_of_ble_eq_true rfl) ?_
  intro p e s m below meth c S hr hlk hK hR ls hl
  obtain ⟨hx, hb, hml, hown, hts⟩ := id S
  have hl : lv_has ls 3 [(0, .ref (w.2.2 h)), (1, .ref (w.2.2 o1)), (2, .int x2)] := hl
  unfold f4_comingOf at h0
  refine lv_aload_n hx hb d4_comingOf_0 rfl (lv_at hl 1 rfl) ?_
  refine lv_iload_n hx hb d4_comingOf_1 rfl (lv_at hl 2 rfl) ?_
  obtain ⟨r1, hr1, h0⟩ := og_b h0
  refine k4_36 S hK hR ho1 hr1 ⟨Nat.zero_le _, Nat.zero_le _⟩ ⟨Nat.le_of_ble_eq_true rfl, Nat.le_of_ble_eq_true rfl⟩ hl.1 (Nat.le_of_ble_eq_true rfl) d4_comingOf_2 ?_
  refine lv_aload_n hx hb d4_comingOf_5 rfl (lv_at hl 0 rfl) ?_
  refine lv_iload_n hx hb d4_comingOf_6 rfl (lv_at hl 2 rfl) ?_
  obtain ⟨r2, hr2, h0⟩ := og_b h0
  refine k4_28 S hK hR hh hr2 ⟨Nat.zero_le _, Nat.zero_le _⟩ ⟨Nat.le_of_ble_eq_true rfl, Nat.le_of_ble_eq_true rfl⟩ hl.1 (Nat.le_of_ble_eq_true rfl) d4_comingOf_7 ?_
  refine lv_iadd hx hb d4_comingOf_10 ?_
  refine lv_bipush (v := 6) hx hb d4_comingOf_11 (by decide) ?_
  refine lv_imul hx hb d4_comingOf_13 ?_
  exact q_ipure S hr hlk h0 d4_comingOf_14
set_option maxHeartbeats 4000000 in
set_option maxRecDepth 100000 in
theorem k6_277 {p : Program} {l : Launch} {e : Env} {R : Room} {s : State} {m : MethodId} {args : Array Value} {below : List Frame} {meth : Method} {c : Code} {H : Heap} {locs : List Loc} {cells slots : Nat} {Q : State → Prop} {cc : ByteArray} {pc nL : Nat} {ls : Array Slot} {rest : List Value} {w : WV} {σ : Mem} {h : Nat} {o1 : Nat} {x2 : Int32} {r : Int32} (S : CallFix p m c cc nL s args gtbl RX6) (hK : KS LC w s) (hR : Rp EC LC w σ H) (hh : h ∈ standL) (ho1 : o1 ∈ pairsL) (h0 : f4_comingOf σ h o1 x2 = some r) (hf : cells + 0 ≤ R.cells ∧ slots + 0 ≤ R.slots) (hRm : rm4_comingOf.frames + 1 ≤ R.frames ∧ 8 + (3 + 11) + rm4_comingOf.locals ≤ R.locals) (hl : ls.size = nL) (hW : (rest.map fun v => v.category).sum ≤ 8) (hdg : decode cc pc = .ok (.invokevirtual 277, 3)) (kk : W p l e R s m args below meth c H locs cells slots Q (F0 m (pc + 3) ls (.int r :: rest))) : W p l e R s m args below meth c H locs cells slots Q (F0 m pc ls (.int x2 :: .ref (w.2.2 o1) :: .ref (w.2.2 h) :: rest)) := r_endp (run_V (n := 2) (As := [.ref (w.2.2 o1), .int x2]) S hK hR (ok_4 _ hh) (eC_4 _ hh w _) rfl (gw_V (gt_at 554 (by decide +kernel) (by decide +kernel)) (gt_at 555 (by decide +kernel) (by decide +kernel)) (gt_at 556 (by decide +kernel) (by decide +kernel)) (gt_at 79 (by decide +kernel) (by decide +kernel)) (gt_at 557 (by decide +kernel) (by decide +kernel))) (by decide +kernel) rfl (c4_comingOf l hh ho1 h0) ⟨rfl, rfl⟩ hRm hf hl rfl hW hdg) kk
set_option maxHeartbeats 4000000 in
set_option maxRecDepth 100000 in
theorem k1_107 {p : Program} {l : Launch} {e : Env} {R : Room} {s : State} {m : MethodId} {args : Array Value} {below : List Frame} {meth : Method} {c : Code} {H : Heap} {locs : List Loc} {cells slots : Nat} {Q : State → Prop} {cc : ByteArray} {pc nL : Nat} {ls : Array Slot} {rest : List Value} {w : WV} {σ : Mem} {h : Nat} {o1 : Nat} {x2 : Int32} {r : Int32} (S : CallFix p m c cc nL s args gtbl RX1) (hK : KS LC w s) (hR : Rp EC LC w σ H) (hh : h ∈ standL) (ho1 : o1 ∈ pairsL) (h0 : f4_comingOf σ h o1 x2 = some r) (hf : cells + 0 ≤ R.cells ∧ slots + 0 ≤ R.slots) (hRm : rm4_comingOf.frames + 1 ≤ R.frames ∧ 8 + (3 + 11) + rm4_comingOf.locals ≤ R.locals) (hl : ls.size = nL) (hW : (rest.map fun v => v.category).sum ≤ 8) (hdg : decode cc pc = .ok (.invokevirtual 107, 3)) (kk : W p l e R s m args below meth c H locs cells slots Q (F0 m (pc + 3) ls (.int r :: rest))) : W p l e R s m args below meth c H locs cells slots Q (F0 m pc ls (.int x2 :: .ref (w.2.2 o1) :: .ref (w.2.2 h) :: rest)) := r_endp (run_V (n := 2) (As := [.ref (w.2.2 o1), .int x2]) S hK hR (ok_4 _ hh) (eC_4 _ hh w _) rfl (gw_V (gt_at 601 (by decide +kernel) (by decide +kernel)) (gt_at 555 (by decide +kernel) (by decide +kernel)) (gt_at 556 (by decide +kernel) (by decide +kernel)) (gt_at 79 (by decide +kernel) (by decide +kernel)) (gt_at 557 (by decide +kernel) (by decide +kernel))) (by decide +kernel) rfl (c4_comingOf l hh ho1 h0) ⟨rfl, rfl⟩ hRm hf hl rfl hW hdg) kk
/-! FourTenGates.bellBeat(II)I -/
abbrev rm6_bellBeat : Room := { frames := 1, cells := 0, slots := 0, locals := 21 }
theorem d6_bellBeat_0 : decode cX6_bellBeat 0 = .ok (.iload_n 0, 1) := by decide +kernel
theorem d6_bellBeat_1 : decode cX6_bellBeat 1 = .ok (.lookupswitch 45 #[(0, 27), (1, 36)], 27) := by decide +kernel
theorem d6_bellBeat_28 : decode cX6_bellBeat 28 = .ok (.iconst 0, 1) := by decide +kernel
theorem d6_bellBeat_29 : decode cX6_bellBeat 29 = .ok (.iload_n 1, 1) := by decide +kernel
theorem d6_bellBeat_30 : decode cX6_bellBeat 30 = .ok (.bipush 66, 2) := by decide +kernel
theorem d6_bellBeat_32 : decode cX6_bellBeat 32 = .ok (.isub, 1) := by decide +kernel
theorem d6_bellBeat_33 : decode cX6_bellBeat 33 = .ok (.invokestatic 263, 3) := by decide +kernel
theorem d6_bellBeat_36 : decode cX6_bellBeat 36 = .ok (.ireturn, 1) := by decide +kernel
theorem d6_bellBeat_37 : decode cX6_bellBeat 37 = .ok (.iconst 0, 1) := by decide +kernel
theorem d6_bellBeat_38 : decode cX6_bellBeat 38 = .ok (.iload_n 1, 1) := by decide +kernel
theorem d6_bellBeat_39 : decode cX6_bellBeat 39 = .ok (.bipush 36, 2) := by decide +kernel
theorem d6_bellBeat_41 : decode cX6_bellBeat 41 = .ok (.isub, 1) := by decide +kernel
theorem d6_bellBeat_42 : decode cX6_bellBeat 42 = .ok (.invokestatic 263, 3) := by decide +kernel
theorem d6_bellBeat_45 : decode cX6_bellBeat 45 = .ok (.ireturn, 1) := by decide +kernel
theorem d6_bellBeat_46 : decode cX6_bellBeat 46 = .ok (.ldc 230, 2) := by decide +kernel
theorem d6_bellBeat_48 : decode cX6_bellBeat 48 = .ok (.ireturn, 1) := by decide +kernel
def f6_bellBeat (x0 : Int32) (x1 : Int32) : Option Int32 := if x0 = 0 then some (if (0 : Int32) < (x1 - 66) then (x1 - 66) else (0 : Int32)) else if x0 = 1 then some (if (0 : Int32) < (x1 - 36) then (x1 - 36) else (0 : Int32)) else some 1000000
set_option maxHeartbeats 4000000 in
set_option maxRecDepth 100000 in
theorem c6_bellBeat (l : Launch) {x0 : Int32} {x1 : Int32} {r : Int32} (h0 : f6_bellBeat x0 x1 = some r) : Met l yX6_bellBeat (wy yX6_bellBeat cX6_bellBeat 2 (some .int)) rm6_bellBeat (Ps [.int x0, .int x1]) (Qp (.int r)) 0 0 (fun _ => False) := by
  refine mk_mets (by decide) (Nat.le_of_ble_eq_true rfl) ?_
  intro p e s m below meth c S hr hlk ls hl
  obtain ⟨hx, hb, hml, hown, hts⟩ := id S
  have hl : lv_has ls 2 [(0, .int x0), (1, .int x1)] := hl
  unfold f6_bellBeat at h0
  refine lv_iload_n hx hb d6_bellBeat_0 rfl (lv_at hl 0 rfl) ?_
  by_cases hc1 : x0 = 0
  · have h0 := og_t hc1 h0
    refine q_lokI (off := 27) (tgt := 28) S d6_bellBeat_1 hc1 (by decide) (by decide) (by decide) ?_
    refine lv_iconst (v := 0) hx hb d6_bellBeat_28 (by decide) ?_
    refine lv_iload_n hx hb d6_bellBeat_29 rfl (lv_at hl 1 rfl) ?_
    refine lv_bipush (v := 66) hx hb d6_bellBeat_30 (by decide) ?_
    refine lv_isub hx hb d6_bellBeat_32 ?_
    refine va_mmax hx hb (S.2.2.1.trans hl.1.symm) hown (hts _ (gt_at 563 (by decide +kernel) (by decide +kernel))) (hts _ (gt_at 262 (by decide +kernel) (by decide +kernel))) (hts _ (gt_at 78 (by decide +kernel) (by decide +kernel))) (hts _ (gt_at 263 (by decide +kernel) (by decide +kernel))) (Nat.le_of_ble_eq_true rfl) (Nat.le_of_ble_eq_true rfl) (Nat.zero_le _) (Nat.zero_le _) d6_bellBeat_33 ?_
    exact q_ipure S hr hlk h0 d6_bellBeat_36
  · have h0 := og_f hc1 h0
    by_cases hc2 : x0 = 1
    · have h0 := og_t hc2 h0
      refine q_lokI (off := 36) (tgt := 37) S d6_bellBeat_1 hc2 (by decide) (by decide) (by decide) ?_
      refine lv_iconst (v := 0) hx hb d6_bellBeat_37 (by decide) ?_
      refine lv_iload_n hx hb d6_bellBeat_38 rfl (lv_at hl 1 rfl) ?_
      refine lv_bipush (v := 36) hx hb d6_bellBeat_39 (by decide) ?_
      refine lv_isub hx hb d6_bellBeat_41 ?_
      refine va_mmax hx hb (S.2.2.1.trans hl.1.symm) hown (hts _ (gt_at 563 (by decide +kernel) (by decide +kernel))) (hts _ (gt_at 262 (by decide +kernel) (by decide +kernel))) (hts _ (gt_at 78 (by decide +kernel) (by decide +kernel))) (hts _ (gt_at 263 (by decide +kernel) (by decide +kernel))) (Nat.le_of_ble_eq_true rfl) (Nat.le_of_ble_eq_true rfl) (Nat.zero_le _) (Nat.zero_le _) d6_bellBeat_42 ?_
      exact q_ipure S hr hlk h0 d6_bellBeat_45
    · have h0 := og_f hc2 h0
      refine q_lokD2 (tgt := 46) S d6_bellBeat_1 (by decide) (ne_toInt hc1 (by decide)) (ne_toInt hc2 (by decide)) (by decide) ?_
      refine lv_ldc (v := 1000000) hx hb hown (hts _ (gt_at 564 (by decide +kernel) (by decide +kernel))) d6_bellBeat_46 ?_
      exact q_ipure S hr hlk h0 d6_bellBeat_48
set_option maxHeartbeats 4000000 in
set_option maxRecDepth 100000 in
theorem k6_281 {p : Program} {l : Launch} {e : Env} {R : Room} {s : State} {m : MethodId} {args : Array Value} {below : List Frame} {meth : Method} {c : Code} {H : Heap} {locs : List Loc} {cells slots : Nat} {Q : State → Prop} {cc : ByteArray} {pc nL : Nat} {ls : Array Slot} {rest : List Value} {x0 : Int32} {x1 : Int32} {r : Int32} (S : CallFix p m c cc nL s args gtbl RX6) (h0 : f6_bellBeat x0 x1 = some r) (hf : cells + 0 ≤ R.cells ∧ slots + 0 ≤ R.slots) (hRm : rm6_bellBeat.frames + 1 ≤ R.frames ∧ 8 + (2 + 11) + rm6_bellBeat.locals ≤ R.locals) (hl : ls.size = nL) (hW : (rest.map fun v => v.category).sum ≤ 8) (hdg : decode cc pc = .ok (.invokestatic 281, 3)) (kk : W p l e R s m args below meth c H locs cells slots Q (F0 m (pc + 3) ls (.int r :: rest))) : W p l e R s m args below meth c H locs cells slots Q (F0 m pc ls (.int x1 :: .int x0 :: rest)) := r_endp (run_S (n := 2) (As := [.int x0, .int x1]) S (gw_S (gt_at 560 (by decide +kernel) (by decide +kernel)) (gt_at 561 (by decide +kernel) (by decide +kernel)) (gt_at 74 (by decide +kernel) (by decide +kernel)) (gt_at 562 (by decide +kernel) (by decide +kernel))) (by decide +kernel) rfl (c6_bellBeat l h0) ⟨rfl, rfl⟩ hRm hf hl rfl hW hdg) kk
set_option maxHeartbeats 4000000 in
set_option maxRecDepth 100000 in
theorem k1_118 {p : Program} {l : Launch} {e : Env} {R : Room} {s : State} {m : MethodId} {args : Array Value} {below : List Frame} {meth : Method} {c : Code} {H : Heap} {locs : List Loc} {cells slots : Nat} {Q : State → Prop} {cc : ByteArray} {pc nL : Nat} {ls : Array Slot} {rest : List Value} {w : WV} {x0 : Int32} {x1 : Int32} {r : Int32} (S : CallFix p m c cc nL s args gtbl RX1) (hK : KS LC w s) (h0 : f6_bellBeat x0 x1 = some r) (hf : cells + 0 ≤ R.cells ∧ slots + 0 ≤ R.slots) (hRm : rm6_bellBeat.frames + 1 ≤ R.frames ∧ 8 + (2 + 11) + rm6_bellBeat.locals ≤ R.locals) (hl : ls.size = nL) (hW : (rest.map fun v => v.category).sum ≤ 8) (hdg : decode cc pc = .ok (.invokestatic 118, 3)) (kk : W p l e R s m args below meth c H locs cells slots Q (F0 m (pc + 3) ls (.int r :: rest))) : W p l e R s m args below meth c H locs cells slots Q (F0 m pc ls (.int x1 :: .int x0 :: rest)) := r_endp (run_SN (n := 2) (As := [.int x0, .int x1]) S hK (host := RX6) (by decide +kernel) (gt_at 561 (by decide +kernel) (by decide +kernel)) (gt_at 74 (by decide +kernel) (by decide +kernel)) (gt_at 562 (by decide +kernel) (by decide +kernel)) (by decide +kernel) rfl (c6_bellBeat l h0) ⟨rfl, rfl⟩ hRm hf hl rfl hW hdg) kk
/-! FourTenGates$Hour.beginTrains(I)V -/
abbrev rm1_beginTrains : Room := { frames := 3, cells := 0, slots := 0, locals := 65 }
theorem d1_beginTrains_0 : decode cX1_beginTrains 0 = .ok (.iconst 0, 1) := by decide +kernel
theorem d1_beginTrains_1 : decode cX1_beginTrains 1 = .ok (.istore_n 2, 1) := by decide +kernel
theorem d1_beginTrains_2 : decode cX1_beginTrains 2 = .ok (.iload_n 2, 1) := by decide +kernel
theorem d1_beginTrains_3 : decode cX1_beginTrains 3 = .ok (.bipush 6, 2) := by decide +kernel
theorem d1_beginTrains_5 : decode cX1_beginTrains 5 = .ok (.if_icmp .ge 109, 3) := by decide +kernel
theorem d1_beginTrains_8 : decode cX1_beginTrains 8 = .ok (.aload_n 0, 1) := by decide +kernel
theorem d1_beginTrains_9 : decode cX1_beginTrains 9 = .ok (.getfield 15, 3) := by decide +kernel
theorem d1_beginTrains_12 : decode cX1_beginTrains 12 = .ok (.iload_n 2, 1) := by decide +kernel
theorem d1_beginTrains_13 : decode cX1_beginTrains 13 = .ok (.iload_n 2, 1) := by decide +kernel
theorem d1_beginTrains_14 : decode cX1_beginTrains 14 = .ok (.aload_n 0, 1) := by decide +kernel
theorem d1_beginTrains_15 : decode cX1_beginTrains 15 = .ok (.getfield 65, 3) := by decide +kernel
theorem d1_beginTrains_18 : decode cX1_beginTrains 18 = .ok (.getfield 95, 3) := by decide +kernel
theorem d1_beginTrains_21 : decode cX1_beginTrains 21 = .ok (.invokevirtual 101, 3) := by decide +kernel
theorem d1_beginTrains_24 : decode cX1_beginTrains 24 = .ok (.if_icmp .ge 21, 3) := by decide +kernel
theorem d1_beginTrains_27 : decode cX1_beginTrains 27 = .ok (.aload_n 0, 1) := by decide +kernel
theorem d1_beginTrains_28 : decode cX1_beginTrains 28 = .ok (.getfield 69, 3) := by decide +kernel
theorem d1_beginTrains_31 : decode cX1_beginTrains 31 = .ok (.aload_n 0, 1) := by decide +kernel
theorem d1_beginTrains_32 : decode cX1_beginTrains 32 = .ok (.getfield 65, 3) := by decide +kernel
theorem d1_beginTrains_35 : decode cX1_beginTrains 35 = .ok (.getfield 95, 3) := by decide +kernel
theorem d1_beginTrains_38 : decode cX1_beginTrains 38 = .ok (.iload_n 2, 1) := by decide +kernel
theorem d1_beginTrains_39 : decode cX1_beginTrains 39 = .ok (.invokevirtual 107, 3) := by decide +kernel
theorem d1_beginTrains_42 : decode cX1_beginTrains 42 = .ok (.goto 5, 3) := by decide +kernel
theorem d1_beginTrains_45 : decode cX1_beginTrains 45 = .ok (.ldc 113, 2) := by decide +kernel
theorem d1_beginTrains_47 : decode cX1_beginTrains 47 = .ok (.iastore, 1) := by decide +kernel
theorem d1_beginTrains_48 : decode cX1_beginTrains 48 = .ok (.aload_n 0, 1) := by decide +kernel
theorem d1_beginTrains_49 : decode cX1_beginTrains 49 = .ok (.getfield 18, 3) := by decide +kernel
theorem d1_beginTrains_52 : decode cX1_beginTrains 52 = .ok (.iload_n 2, 1) := by decide +kernel
theorem d1_beginTrains_53 : decode cX1_beginTrains 53 = .ok (.aload_n 0, 1) := by decide +kernel
theorem d1_beginTrains_54 : decode cX1_beginTrains 54 = .ok (.getfield 41, 3) := by decide +kernel
theorem d1_beginTrains_57 : decode cX1_beginTrains 57 = .ok (.iconst 4, 1) := by decide +kernel
theorem d1_beginTrains_58 : decode cX1_beginTrains 58 = .ok (.if_icmp .ne 14, 3) := by decide +kernel
theorem d1_beginTrains_61 : decode cX1_beginTrains 61 = .ok (.aload_n 0, 1) := by decide +kernel
theorem d1_beginTrains_62 : decode cX1_beginTrains 62 = .ok (.getfield 15, 3) := by decide +kernel
theorem d1_beginTrains_65 : decode cX1_beginTrains 65 = .ok (.iload_n 2, 1) := by decide +kernel
theorem d1_beginTrains_66 : decode cX1_beginTrains 66 = .ok (.iaload, 1) := by decide +kernel
theorem d1_beginTrains_67 : decode cX1_beginTrains 67 = .ok (.iload_n 1, 1) := by decide +kernel
theorem d1_beginTrains_68 : decode cX1_beginTrains 68 = .ok (.isub, 1) := by decide +kernel
theorem d1_beginTrains_69 : decode cX1_beginTrains 69 = .ok (.goto 23, 3) := by decide +kernel
theorem d1_beginTrains_72 : decode cX1_beginTrains 72 = .ok (.aload_n 0, 1) := by decide +kernel
theorem d1_beginTrains_73 : decode cX1_beginTrains 73 = .ok (.getfield 65, 3) := by decide +kernel
theorem d1_beginTrains_76 : decode cX1_beginTrains 76 = .ok (.getfield 95, 3) := by decide +kernel
theorem d1_beginTrains_79 : decode cX1_beginTrains 79 = .ok (.iload_n 2, 1) := by decide +kernel
theorem d1_beginTrains_80 : decode cX1_beginTrains 80 = .ok (.invokevirtual 114, 3) := by decide +kernel
theorem d1_beginTrains_83 : decode cX1_beginTrains 83 = .ok (.aload_n 0, 1) := by decide +kernel
theorem d1_beginTrains_84 : decode cX1_beginTrains 84 = .ok (.getfield 15, 3) := by decide +kernel
theorem d1_beginTrains_87 : decode cX1_beginTrains 87 = .ok (.iload_n 2, 1) := by decide +kernel
theorem d1_beginTrains_88 : decode cX1_beginTrains 88 = .ok (.iaload, 1) := by decide +kernel
theorem d1_beginTrains_89 : decode cX1_beginTrains 89 = .ok (.invokestatic 118, 3) := by decide +kernel
theorem d1_beginTrains_92 : decode cX1_beginTrains 92 = .ok (.iastore, 1) := by decide +kernel
theorem d1_beginTrains_93 : decode cX1_beginTrains 93 = .ok (.aload_n 0, 1) := by decide +kernel
theorem d1_beginTrains_94 : decode cX1_beginTrains 94 = .ok (.getfield 21, 3) := by decide +kernel
theorem d1_beginTrains_97 : decode cX1_beginTrains 97 = .ok (.iload_n 2, 1) := by decide +kernel
theorem d1_beginTrains_98 : decode cX1_beginTrains 98 = .ok (.ldc 113, 2) := by decide +kernel
theorem d1_beginTrains_100 : decode cX1_beginTrains 100 = .ok (.iastore, 1) := by decide +kernel
theorem d1_beginTrains_101 : decode cX1_beginTrains 101 = .ok (.aload_n 0, 1) := by decide +kernel
theorem d1_beginTrains_102 : decode cX1_beginTrains 102 = .ok (.getfield 24, 3) := by decide +kernel
theorem d1_beginTrains_105 : decode cX1_beginTrains 105 = .ok (.iload_n 2, 1) := by decide +kernel
theorem d1_beginTrains_106 : decode cX1_beginTrains 106 = .ok (.iconst 0, 1) := by decide +kernel
theorem d1_beginTrains_107 : decode cX1_beginTrains 107 = .ok (.iastore, 1) := by decide +kernel
theorem d1_beginTrains_108 : decode cX1_beginTrains 108 = .ok (.iinc 2 1, 3) := by decide +kernel
theorem d1_beginTrains_111 : decode cX1_beginTrains 111 = .ok (.goto (-109), 3) := by decide +kernel
theorem d1_beginTrains_114 : decode cX1_beginTrains 114 = .ok (.aload_n 0, 1) := by decide +kernel
theorem d1_beginTrains_115 : decode cX1_beginTrains 115 = .ok (.iconst 0, 1) := by decide +kernel
theorem d1_beginTrains_116 : decode cX1_beginTrains 116 = .ok (.putfield 59, 3) := by decide +kernel
theorem d1_beginTrains_119 : decode cX1_beginTrains 119 = .ok (.aload_n 0, 1) := by decide +kernel
theorem d1_beginTrains_120 : decode cX1_beginTrains 120 = .ok (.iconst 0, 1) := by decide +kernel
theorem d1_beginTrains_121 : decode cX1_beginTrains 121 = .ok (.putfield 62, 3) := by decide +kernel
theorem d1_beginTrains_124 : decode cX1_beginTrains 124 = .ok (.return_, 1) := by decide +kernel
def f1_beginTrains_b92 (h : Nat) (k2 : Mem → Int32 → Int32 → Option Mem) (σ : Mem) (x1 : Int32) (x2 : Int32) (s1 : Int32) (s2 : Int32) : Option Mem := if ¬ (s1 < 0 ∨ 6 ≤ s1.toNatClampNeg) then (bm (mu σ (h + 3) s1.toNatClampNeg s2) fun σ2 => if ¬ (x2 < 0 ∨ 6 ≤ x2.toNatClampNeg) then (bm (mu σ2 (h + 4) x2.toNatClampNeg 1000000) fun σ4 => if ¬ (x2 < 0 ∨ 6 ≤ x2.toNatClampNeg) then (bm (mu σ4 (h + 5) x2.toNatClampNeg 0) fun σ6 => k2 σ6 x1 (x2 + 1)) else none) else none) else none
set_option maxHeartbeats 4000000 in
set_option maxRecDepth 100000 in
theorem t1_beginTrains_b92 {p : Program} {l : Launch} {e : Env} {s : State} {m : MethodId} {args : Array Value} {below : List Frame} {meth : Method} {c : Code} {w : WV} {h : Nat} {σ' : Mem} {k2 : Mem → Int32 → Int32 → Option Mem} (S : CallFix p m c cX1_beginTrains 3 s args gtbl RX1) (hr : meth.sig.returnType = none) (hlk : meth.locks = false) (hK : KS LC w s) (hh : h ∈ hourL) (hk2 : ∀ (σ : Mem) (x1 : Int32) (x2 : Int32), k2 σ x1 x2 = some σ' → ∀ (H : Heap) (locs : List Loc), Rp EC LC w σ H → va_S (AW LC w) s.heap H locs → ∀ (ls : Array Slot), lv_has ls 3 [(0, .ref (w.2.2 h)), (1, .int x1), (2, .int x2)] → W p l e rm1_beginTrains s m args below meth c H locs 0 0 (MQ below (Qw EC LC w σ' none) args s 0 0 (AW LC w)) (F0 m 2 ls [])) : ∀ (σ : Mem) (x1 : Int32) (x2 : Int32) (s1 : Int32) (s2 : Int32), f1_beginTrains_b92 h k2 σ x1 x2 s1 s2 = some σ' → ∀ (H : Heap) (locs : List Loc), Rp EC LC w σ H → va_S (AW LC w) s.heap H locs → ∀ (ls : Array Slot), lv_has ls 3 [(0, .ref (w.2.2 h)), (1, .int x1), (2, .int x2)] → W p l e rm1_beginTrains s m args below meth c H locs 0 0 (MQ below (Qw EC LC w σ' none) args s 0 0 (AW LC w)) (F0 m 92 ls [.int s2, .int s1, .ref (w.2.2 (h + 3))]) := by
  obtain ⟨hx, hb, hml, hown, hts⟩ := id S
  intro σ x1 x2 s1 s2 h0 H locs hR hS ls hl
  unfold f1_beginTrains_b92 at h0
  obtain ⟨hi1, h0⟩ := og_if h0
  obtain ⟨σ2, hm2, h0⟩ := og_m h0
  refine q_st S hK hR hS (oa_1_4 _ hh) (ea_1_4 _ hh w) hi1 rfl hm2 d1_beginTrains_92 (fun H locs hR hS => ?_)
  refine lv_aload_n hx hb d1_beginTrains_93 rfl (lv_at hl 0 rfl) ?_
  refine g1_21 S hK hR hh rfl d1_beginTrains_94 ?_
  refine lv_iload_n hx hb d1_beginTrains_97 rfl (lv_at hl 2 rfl) ?_
  refine lv_ldc (v := 1000000) hx hb hown (hts _ (gt_at 602 (by decide +kernel) (by decide +kernel))) d1_beginTrains_98 ?_
  obtain ⟨hi3, h0⟩ := og_if h0
  obtain ⟨σ4, hm4, h0⟩ := og_m h0
  refine q_st S hK hR hS (oa_1_5 _ hh) (ea_1_5 _ hh w) hi3 rfl hm4 d1_beginTrains_100 (fun H locs hR hS => ?_)
  refine lv_aload_n hx hb d1_beginTrains_101 rfl (lv_at hl 0 rfl) ?_
  refine g1_24 S hK hR hh rfl d1_beginTrains_102 ?_
  refine lv_iload_n hx hb d1_beginTrains_105 rfl (lv_at hl 2 rfl) ?_
  refine lv_iconst (v := 0) hx hb d1_beginTrains_106 (by decide) ?_
  obtain ⟨hi5, h0⟩ := og_if h0
  obtain ⟨σ6, hm6, h0⟩ := og_m h0
  refine q_st S hK hR hS (oa_1_6 _ hh) (ea_1_6 _ hh w) hi5 rfl hm6 d1_beginTrains_107 (fun H locs hR hS => ?_)
  refine lv_iinc (v := x2 + 1) (lv' := [(2, .int (x2 + 1)), (0, .ref (w.2.2 h)), (1, .int x1)]) hx hb d1_beginTrains_108 hl (k := 2) rfl (ii1 _) (by decide) rfl (fun ls hl => ?_)
  refine lv_goto (tgt := 2) hx hb d1_beginTrains_111 (by decide) ?_
  exact hk2 σ6 x1 (x2 + 1) h0 _ _ hR hS _ (lv_sub hl [1, 2, 0] rfl)
def f1_beginTrains_b47 (h : Nat) (k2 : Mem → Int32 → Int32 → Option Mem) (σ : Mem) (x1 : Int32) (x2 : Int32) (s1 : Int32) (s2 : Int32) : Option Mem := if ¬ (s1 < 0 ∨ 6 ≤ s1.toNatClampNeg) then (bm (mu σ (h + 2) s1.toNatClampNeg s2) fun σ2 => if (σ2 h 11) = 4 then if ¬ (x2 < 0 ∨ 6 ≤ x2.toNatClampNeg) then f1_beginTrains_b92 h k2 σ2 x1 x2 x2 ((σ2 (h + 2) x2.toNatClampNeg) - x1) else none else Option.bind (f2_second σ2 4 x2) fun r4 => if ¬ (x2 < 0 ∨ 6 ≤ x2.toNatClampNeg) then Option.bind (f6_bellBeat r4 (σ2 (h + 2) x2.toNatClampNeg)) fun r6 => f1_beginTrains_b92 h k2 σ2 x1 x2 x2 r6 else none) else none
set_option maxHeartbeats 4000000 in
set_option maxRecDepth 100000 in
theorem t1_beginTrains_b47 {p : Program} {l : Launch} {e : Env} {s : State} {m : MethodId} {args : Array Value} {below : List Frame} {meth : Method} {c : Code} {w : WV} {h : Nat} {σ' : Mem} {k2 : Mem → Int32 → Int32 → Option Mem} (S : CallFix p m c cX1_beginTrains 3 s args gtbl RX1) (hr : meth.sig.returnType = none) (hlk : meth.locks = false) (hK : KS LC w s) (hh : h ∈ hourL) (hk2 : ∀ (σ : Mem) (x1 : Int32) (x2 : Int32), k2 σ x1 x2 = some σ' → ∀ (H : Heap) (locs : List Loc), Rp EC LC w σ H → va_S (AW LC w) s.heap H locs → ∀ (ls : Array Slot), lv_has ls 3 [(0, .ref (w.2.2 h)), (1, .int x1), (2, .int x2)] → W p l e rm1_beginTrains s m args below meth c H locs 0 0 (MQ below (Qw EC LC w σ' none) args s 0 0 (AW LC w)) (F0 m 2 ls [])) : ∀ (σ : Mem) (x1 : Int32) (x2 : Int32) (s1 : Int32) (s2 : Int32), f1_beginTrains_b47 h k2 σ x1 x2 s1 s2 = some σ' → ∀ (H : Heap) (locs : List Loc), Rp EC LC w σ H → va_S (AW LC w) s.heap H locs → ∀ (ls : Array Slot), lv_has ls 3 [(0, .ref (w.2.2 h)), (1, .int x1), (2, .int x2)] → W p l e rm1_beginTrains s m args below meth c H locs 0 0 (MQ below (Qw EC LC w σ' none) args s 0 0 (AW LC w)) (F0 m 47 ls [.int s2, .int s1, .ref (w.2.2 (h + 2))]) := by
  obtain ⟨hx, hb, hml, hown, hts⟩ := id S
  intro σ x1 x2 s1 s2 h0 H locs hR hS ls hl
  unfold f1_beginTrains_b47 at h0
  obtain ⟨hi1, h0⟩ := og_if h0
  obtain ⟨σ2, hm2, h0⟩ := og_m h0
  refine q_st S hK hR hS (oa_1_3 _ hh) (ea_1_3 _ hh w) hi1 rfl hm2 d1_beginTrains_47 (fun H locs hR hS => ?_)
  refine lv_aload_n hx hb d1_beginTrains_48 rfl (lv_at hl 0 rfl) ?_
  refine g1_18 S hK hR hh rfl d1_beginTrains_49 ?_
  refine lv_iload_n hx hb d1_beginTrains_52 rfl (lv_at hl 2 rfl) ?_
  refine lv_aload_n hx hb d1_beginTrains_53 rfl (lv_at hl 0 rfl) ?_
  refine g1_41 S hK hR hh d1_beginTrains_54 ?_
  refine lv_iconst (v := 4) hx hb d1_beginTrains_57 (by decide) ?_
  refine lv_icmp_ne (tgt := 72) hx hb d1_beginTrains_58 (by decide) (fun hc3 => ?_) (fun hc3 => ?_)
  · have h0 := og_f hc3 h0
    refine lv_aload_n hx hb d1_beginTrains_72 rfl (lv_at hl 0 rfl) ?_
    refine g1_65 S hK hR hh d1_beginTrains_73 ?_
    refine g1_95 S hK hR (by decide) rfl d1_beginTrains_76 ?_
    refine lv_iload_n hx hb d1_beginTrains_79 rfl (lv_at hl 2 rfl) ?_
    obtain ⟨r4, hr4, h0⟩ := og_b h0
    refine k1_114 S hK hR (by decide) hr4 ⟨Nat.zero_le _, Nat.zero_le _⟩ ⟨Nat.le_of_ble_eq_true rfl, Nat.le_of_ble_eq_true rfl⟩ hl.1 (Nat.le_of_ble_eq_true rfl) d1_beginTrains_80 ?_
    refine lv_aload_n hx hb d1_beginTrains_83 rfl (lv_at hl 0 rfl) ?_
    refine g1_15 S hK hR hh rfl d1_beginTrains_84 ?_
    refine lv_iload_n hx hb d1_beginTrains_87 rfl (lv_at hl 2 rfl) ?_
    obtain ⟨hi5, h0⟩ := og_if h0
    refine q_ld (k := x2.toNatClampNeg) S hK hR (oa_1_3 _ hh) (ea_1_3 _ hh w _) hi5 rfl d1_beginTrains_88 ?_
    obtain ⟨r6, hr6, h0⟩ := og_b h0
    refine k1_118 S hK  hr6 ⟨Nat.zero_le _, Nat.zero_le _⟩ ⟨Nat.le_of_ble_eq_true rfl, Nat.le_of_ble_eq_true rfl⟩ hl.1 (Nat.le_of_ble_eq_true rfl) d1_beginTrains_89 ?_
    exact t1_beginTrains_b92 S hr hlk hK hh hk2 σ2 x1 x2 x2 r6 h0 _ _ hR hS _ (lv_sub hl [0, 1, 2] rfl)
  · have h0 := og_t hc3 h0
    refine lv_aload_n hx hb d1_beginTrains_61 rfl (lv_at hl 0 rfl) ?_
    refine g1_15 S hK hR hh rfl d1_beginTrains_62 ?_
    refine lv_iload_n hx hb d1_beginTrains_65 rfl (lv_at hl 2 rfl) ?_
    obtain ⟨hi4, h0⟩ := og_if h0
    refine q_ld (k := x2.toNatClampNeg) S hK hR (oa_1_3 _ hh) (ea_1_3 _ hh w _) hi4 rfl d1_beginTrains_66 ?_
    refine lv_iload_n hx hb d1_beginTrains_67 rfl (lv_at hl 1 rfl) ?_
    refine lv_isub hx hb d1_beginTrains_68 ?_
    refine lv_goto (tgt := 92) hx hb d1_beginTrains_69 (by decide) ?_
    exact t1_beginTrains_b92 S hr hlk hK hh hk2 σ2 x1 x2 x2 ((σ2 (h + 2) x2.toNatClampNeg) - x1) h0 _ _ hR hS _ (lv_sub hl [0, 1, 2] rfl)
def f1_beginTrains_b2 (h : Nat) : Nat → Mem → Int32 → Int32 → Option Mem
  | 0, _, _, _ => none
  | n + 1, σ, x1, x2 => if 6 ≤ x2 then bm (mu σ h 17 0) fun σ2 => bm (mu σ2 h 18 0) fun σ3 => some σ3 else Option.bind (f2_size σ 4) fun r2 => if r2 ≤ x2 then f1_beginTrains_b47 h (f1_beginTrains_b2 h n) σ x1 x2 x2 1000000 else Option.bind (f4_comingOf σ (hst h) 4 x2) fun r4 => f1_beginTrains_b47 h (f1_beginTrains_b2 h n) σ x1 x2 x2 r4
set_option maxHeartbeats 4000000 in
set_option maxRecDepth 100000 in
theorem t1_beginTrains_b2 {p : Program} {l : Launch} {e : Env} {s : State} {m : MethodId} {args : Array Value} {below : List Frame} {meth : Method} {c : Code} {w : WV} {h : Nat} {σ' : Mem} (S : CallFix p m c cX1_beginTrains 3 s args gtbl RX1) (hr : meth.sig.returnType = none) (hlk : meth.locks = false) (hK : KS LC w s) (hh : h ∈ hourL) : ∀ (n : Nat), ∀ (σ : Mem) (x1 : Int32) (x2 : Int32), f1_beginTrains_b2 h n σ x1 x2 = some σ' → ∀ (H : Heap) (locs : List Loc), Rp EC LC w σ H → va_S (AW LC w) s.heap H locs → ∀ (ls : Array Slot), lv_has ls 3 [(0, .ref (w.2.2 h)), (1, .int x1), (2, .int x2)] → W p l e rm1_beginTrains s m args below meth c H locs 0 0 (MQ below (Qw EC LC w σ' none) args s 0 0 (AW LC w)) (F0 m 2 ls []) := by
  obtain ⟨hx, hb, hml, hown, hts⟩ := id S
  intro n
  induction n with
  | zero =>
    intro σ x1 x2 h0
    cases (show none = _ from h0)
  | succ n ih =>
    intro σ x1 x2 h0 H locs hR hS ls hl
    rw [f1_beginTrains_b2] at h0
    refine lv_iload_n hx hb d1_beginTrains_2 rfl (lv_at hl 2 rfl) ?_
    refine lv_bipush (v := 6) hx hb d1_beginTrains_3 (by decide) ?_
    refine lv_icmp_ge (tgt := 114) hx hb d1_beginTrains_5 (by decide) (fun hc1 => ?_) (fun hc1 => ?_)
    · have h0 := og_t hc1 h0
      refine lv_aload_n hx hb d1_beginTrains_114 rfl (lv_at hl 0 rfl) ?_
      refine lv_iconst (v := 0) hx hb d1_beginTrains_115 (by decide) ?_
      obtain ⟨σ2, hm2, h0⟩ := og_m h0
      refine u1_59 S hK hR hS hh hm2 d1_beginTrains_116 (fun H locs hR hS => ?_)
      refine lv_aload_n hx hb d1_beginTrains_119 rfl (lv_at hl 0 rfl) ?_
      refine lv_iconst (v := 0) hx hb d1_beginTrains_120 (by decide) ?_
      obtain ⟨σ3, hm3, h0⟩ := og_m h0
      refine u1_62 S hK hR hS hh (Or.inl rfl) hm3 d1_beginTrains_121 (fun H locs hR hS => ?_)
      exact q_vret S hr hlk hR hS h0 d1_beginTrains_124
    · have h0 := og_f hc1 h0
      refine lv_aload_n hx hb d1_beginTrains_8 rfl (lv_at hl 0 rfl) ?_
      refine g1_15 S hK hR hh rfl d1_beginTrains_9 ?_
      refine lv_iload_n hx hb d1_beginTrains_12 rfl (lv_at hl 2 rfl) ?_
      refine lv_iload_n hx hb d1_beginTrains_13 rfl (lv_at hl 2 rfl) ?_
      refine lv_aload_n hx hb d1_beginTrains_14 rfl (lv_at hl 0 rfl) ?_
      refine g1_65 S hK hR hh d1_beginTrains_15 ?_
      refine g1_95 S hK hR (by decide) rfl d1_beginTrains_18 ?_
      obtain ⟨r2, hr2, h0⟩ := og_b h0
      refine k1_101 S hK hR (by decide) hr2 ⟨Nat.zero_le _, Nat.zero_le _⟩ ⟨Nat.le_of_ble_eq_true rfl, Nat.le_of_ble_eq_true rfl⟩ hl.1 (Nat.le_of_ble_eq_true rfl) d1_beginTrains_21 ?_
      refine lv_icmp_ge (tgt := 45) hx hb d1_beginTrains_24 (by decide) (fun hc3 => ?_) (fun hc3 => ?_)
      · have h0 := og_t hc3 h0
        refine lv_ldc (v := 1000000) hx hb hown (hts _ (gt_at 602 (by decide +kernel) (by decide +kernel))) d1_beginTrains_45 ?_
        exact t1_beginTrains_b47 S hr hlk hK hh ih σ x1 x2 x2 1000000 h0 _ _ hR hS _ (lv_sub hl [0, 1, 2] rfl)
      · have h0 := og_f hc3 h0
        refine lv_aload_n hx hb d1_beginTrains_27 rfl (lv_at hl 0 rfl) ?_
        refine g1_69 S hK hR hh d1_beginTrains_28 ?_
        refine lv_aload_n hx hb d1_beginTrains_31 rfl (lv_at hl 0 rfl) ?_
        refine g1_65 S hK hR hh d1_beginTrains_32 ?_
        refine g1_95 S hK hR (by decide) rfl d1_beginTrains_35 ?_
        refine lv_iload_n hx hb d1_beginTrains_38 rfl (lv_at hl 2 rfl) ?_
        obtain ⟨r4, hr4, h0⟩ := og_b h0
        refine k1_107 S hK hR (in_1_1 _ hh) (by decide) hr4 ⟨Nat.zero_le _, Nat.zero_le _⟩ ⟨Nat.le_of_ble_eq_true rfl, Nat.le_of_ble_eq_true rfl⟩ hl.1 (Nat.le_of_ble_eq_true rfl) d1_beginTrains_39 ?_
        refine lv_goto (tgt := 47) hx hb d1_beginTrains_42 (by decide) ?_
        exact t1_beginTrains_b47 S hr hlk hK hh ih σ x1 x2 x2 r4 h0 _ _ hR hS _ (lv_sub hl [0, 1, 2] rfl)
def f1_beginTrains (σ : Mem) (h : Nat) (x1 : Int32) : Option Mem := f1_beginTrains_b2 h 1000 σ x1 0
set_option maxHeartbeats 4000000 in
set_option maxRecDepth 100000 in
theorem c1_beginTrains (l : Launch) {w : WV} {σ : Mem} {h : Nat} {x1 : Int32} {σ' : Mem} (hh : h ∈ hourL) (h0 : f1_beginTrains σ h x1 = some σ') : Met l yX1_beginTrains (wy yX1_beginTrains cX1_beginTrains 3 none) rm1_beginTrains (Pw EC LC w [.ref (w.2.2 h), .int x1] σ) (Qw EC LC w σ' none) 0 0 (AW LC w) := by
  refine mk_met (by decide) (Nat.le_of_ble_eq_true rfl) ?_
  intro p e s m below meth c S hr hlk hK hR ls hl
  obtain ⟨hx, hb, hml, hown, hts⟩ := id S
  have hl : lv_has ls 3 [(0, .ref (w.2.2 h)), (1, .int x1)] := hl
  have hS : va_S (AW LC w) s.heap s.heap [] := va_S.rf
  unfold f1_beginTrains at h0
  refine lv_iconst (v := 0) hx hb d1_beginTrains_0 (by decide) ?_
  refine lv_istore_n (lv' := [(2, .int 0), (0, .ref (w.2.2 h)), (1, .int x1)]) hx hb d1_beginTrains_1 rfl hl (by decide) rfl (fun ls hl => ?_)
  exact t1_beginTrains_b2 S hr hlk hK hh 1000 σ x1 0 h0 _ _ hR hS _ (lv_sub hl [1, 2, 0] rfl)
set_option maxHeartbeats 4000000 in
set_option maxRecDepth 100000 in
theorem k1_73 {p : Program} {l : Launch} {e : Env} {R : Room} {s : State} {m : MethodId} {args : Array Value} {below : List Frame} {meth : Method} {c : Code} {H : Heap} {locs : List Loc} {cells slots : Nat} {Q : State → Prop} {cc : ByteArray} {pc nL : Nat} {ls : Array Slot} {rest : List Value} {w : WV} {σ : Mem} {h : Nat} {x1 : Int32} {σ1 : Mem} (S : CallFix p m c cc nL s args gtbl RX1) (hK : KS LC w s) (hR : Rp EC LC w σ H) (hS : va_S (AW LC w) s.heap H locs) (hh : h ∈ hourL) (h0 : f1_beginTrains σ h x1 = some σ1) (hf : cells + 0 ≤ R.cells ∧ slots + 0 ≤ R.slots) (hRm : rm1_beginTrains.frames + 1 ≤ R.frames ∧ 8 + (3 + 11) + rm1_beginTrains.locals ≤ R.locals) (hl : ls.size = nL) (hW : (rest.map fun v => v.category).sum ≤ 8) (hdg : decode cc pc = .ok (.invokevirtual 73, 3)) (kk : ∀ (H1 : Heap) (locs1 : List Loc), Rp EC LC w σ1 H1 → va_S (AW LC w) s.heap H1 locs1 → W p l e R s m args below meth c H1 locs1 cells slots Q (F0 m (pc + 3) ls (rest))) : W p l e R s m args below meth c H locs cells slots Q (F0 m pc ls (.int x1 :: .ref (w.2.2 h) :: rest)) := r_end hS (run_V (n := 1) (As := [.int x1]) S hK hR (ok_1 _ hh) (eC_1 _ hh w _) rfl (gw_V (gt_at 596 (by decide +kernel) (by decide +kernel)) (gt_at 598 (by decide +kernel) (by decide +kernel)) (gt_at 14 (by decide +kernel) (by decide +kernel)) (gt_at 80 (by decide +kernel) (by decide +kernel)) (gt_at 599 (by decide +kernel) (by decide +kernel))) (by decide +kernel) rfl (c1_beginTrains l hh h0) ⟨rfl, rfl⟩ hRm hf hl rfl hW hdg) kk
/-! FourTenGates$Hour.beginUsers()V -/
abbrev rm1_beginUsers : Room := { frames := 0, cells := 0, slots := 0, locals := 0 }
theorem d1_beginUsers_0 : decode cX1_beginUsers 0 = .ok (.iconst 0, 1) := by decide +kernel
theorem d1_beginUsers_1 : decode cX1_beginUsers 1 = .ok (.istore_n 1, 1) := by decide +kernel
theorem d1_beginUsers_2 : decode cX1_beginUsers 2 = .ok (.iload_n 1, 1) := by decide +kernel
theorem d1_beginUsers_3 : decode cX1_beginUsers 3 = .ok (.bipush 8, 2) := by decide +kernel
theorem d1_beginUsers_5 : decode cX1_beginUsers 5 = .ok (.if_icmp .ge 24, 3) := by decide +kernel
theorem d1_beginUsers_8 : decode cX1_beginUsers 8 = .ok (.aload_n 0, 1) := by decide +kernel
theorem d1_beginUsers_9 : decode cX1_beginUsers 9 = .ok (.getfield 27, 3) := by decide +kernel
theorem d1_beginUsers_12 : decode cX1_beginUsers 12 = .ok (.iload_n 1, 1) := by decide +kernel
theorem d1_beginUsers_13 : decode cX1_beginUsers 13 = .ok (.bipush (-4), 2) := by decide +kernel
theorem d1_beginUsers_15 : decode cX1_beginUsers 15 = .ok (.iastore, 1) := by decide +kernel
theorem d1_beginUsers_16 : decode cX1_beginUsers 16 = .ok (.aload_n 0, 1) := by decide +kernel
theorem d1_beginUsers_17 : decode cX1_beginUsers 17 = .ok (.getfield 30, 3) := by decide +kernel
theorem d1_beginUsers_20 : decode cX1_beginUsers 20 = .ok (.iload_n 1, 1) := by decide +kernel
theorem d1_beginUsers_21 : decode cX1_beginUsers 21 = .ok (.iconst 0, 1) := by decide +kernel
theorem d1_beginUsers_22 : decode cX1_beginUsers 22 = .ok (.iastore, 1) := by decide +kernel
theorem d1_beginUsers_23 : decode cX1_beginUsers 23 = .ok (.iinc 1 1, 3) := by decide +kernel
theorem d1_beginUsers_26 : decode cX1_beginUsers 26 = .ok (.goto (-24), 3) := by decide +kernel
theorem d1_beginUsers_29 : decode cX1_beginUsers 29 = .ok (.aload_n 0, 1) := by decide +kernel
theorem d1_beginUsers_30 : decode cX1_beginUsers 30 = .ok (.iconst 0, 1) := by decide +kernel
theorem d1_beginUsers_31 : decode cX1_beginUsers 31 = .ok (.putfield 33, 3) := by decide +kernel
theorem d1_beginUsers_34 : decode cX1_beginUsers 34 = .ok (.aload_n 0, 1) := by decide +kernel
theorem d1_beginUsers_35 : decode cX1_beginUsers 35 = .ok (.iconst 0, 1) := by decide +kernel
theorem d1_beginUsers_36 : decode cX1_beginUsers 36 = .ok (.putfield 56, 3) := by decide +kernel
theorem d1_beginUsers_39 : decode cX1_beginUsers 39 = .ok (.aload_n 0, 1) := by decide +kernel
theorem d1_beginUsers_40 : decode cX1_beginUsers 40 = .ok (.iconst 0, 1) := by decide +kernel
theorem d1_beginUsers_41 : decode cX1_beginUsers 41 = .ok (.putfield 44, 3) := by decide +kernel
theorem d1_beginUsers_44 : decode cX1_beginUsers 44 = .ok (.return_, 1) := by decide +kernel
def f1_beginUsers_b2 (h : Nat) : Nat → Mem → Int32 → Option Mem
  | 0, _, _ => none
  | n + 1, σ, x1 => if 8 ≤ x1 then bm (mu σ h 9 0) fun σ2 => bm (mu σ2 h 16 0) fun σ3 => bm (mu σ3 h 12 0) fun σ4 => some σ4 else if ¬ (x1 < 0 ∨ 8 ≤ x1.toNatClampNeg) then (bm (mu σ (h + 6) x1.toNatClampNeg (-4)) fun σ3 => if ¬ (x1 < 0 ∨ 8 ≤ x1.toNatClampNeg) then (bm (mu σ3 (h + 7) x1.toNatClampNeg 0) fun σ5 => f1_beginUsers_b2 h n σ5 (x1 + 1)) else none) else none
set_option maxHeartbeats 4000000 in
set_option maxRecDepth 100000 in
theorem t1_beginUsers_b2 {p : Program} {l : Launch} {e : Env} {s : State} {m : MethodId} {args : Array Value} {below : List Frame} {meth : Method} {c : Code} {w : WV} {h : Nat} {σ' : Mem} (S : CallFix p m c cX1_beginUsers 2 s args gtbl RX1) (hr : meth.sig.returnType = none) (hlk : meth.locks = false) (hK : KS LC w s) (hh : h ∈ hourL) : ∀ (n : Nat), ∀ (σ : Mem) (x1 : Int32), f1_beginUsers_b2 h n σ x1 = some σ' → ∀ (H : Heap) (locs : List Loc), Rp EC LC w σ H → va_S (AW LC w) s.heap H locs → ∀ (ls : Array Slot), lv_has ls 2 [(0, .ref (w.2.2 h)), (1, .int x1)] → W p l e rm1_beginUsers s m args below meth c H locs 0 0 (MQ below (Qw EC LC w σ' none) args s 0 0 (AW LC w)) (F0 m 2 ls []) := by
  obtain ⟨hx, hb, hml, hown, hts⟩ := id S
  intro n
  induction n with
  | zero =>
    intro σ x1 h0
    cases (show none = _ from h0)
  | succ n ih =>
    intro σ x1 h0 H locs hR hS ls hl
    rw [f1_beginUsers_b2] at h0
    refine lv_iload_n hx hb d1_beginUsers_2 rfl (lv_at hl 1 rfl) ?_
    refine lv_bipush (v := 8) hx hb d1_beginUsers_3 (by decide) ?_
    refine lv_icmp_ge (tgt := 29) hx hb d1_beginUsers_5 (by decide) (fun hc1 => ?_) (fun hc1 => ?_)
    · have h0 := og_t hc1 h0
      refine lv_aload_n hx hb d1_beginUsers_29 rfl (lv_at hl 0 rfl) ?_
      refine lv_iconst (v := 0) hx hb d1_beginUsers_30 (by decide) ?_
      obtain ⟨σ2, hm2, h0⟩ := og_m h0
      refine u1_33 S hK hR hS hh hm2 d1_beginUsers_31 (fun H locs hR hS => ?_)
      refine lv_aload_n hx hb d1_beginUsers_34 rfl (lv_at hl 0 rfl) ?_
      refine lv_iconst (v := 0) hx hb d1_beginUsers_35 (by decide) ?_
      obtain ⟨σ3, hm3, h0⟩ := og_m h0
      refine u1_56 S hK hR hS hh hm3 d1_beginUsers_36 (fun H locs hR hS => ?_)
      refine lv_aload_n hx hb d1_beginUsers_39 rfl (lv_at hl 0 rfl) ?_
      refine lv_iconst (v := 0) hx hb d1_beginUsers_40 (by decide) ?_
      obtain ⟨σ4, hm4, h0⟩ := og_m h0
      refine u1_44 S hK hR hS hh hm4 d1_beginUsers_41 (fun H locs hR hS => ?_)
      exact q_vret S hr hlk hR hS h0 d1_beginUsers_44
    · have h0 := og_f hc1 h0
      refine lv_aload_n hx hb d1_beginUsers_8 rfl (lv_at hl 0 rfl) ?_
      refine g1_27 S hK hR hh rfl d1_beginUsers_9 ?_
      refine lv_iload_n hx hb d1_beginUsers_12 rfl (lv_at hl 1 rfl) ?_
      refine lv_bipush (v := (-4)) hx hb d1_beginUsers_13 (by decide) ?_
      obtain ⟨hi2, h0⟩ := og_if h0
      obtain ⟨σ3, hm3, h0⟩ := og_m h0
      refine q_st S hK hR hS (oa_1_7 _ hh) (ea_1_7 _ hh w) hi2 rfl hm3 d1_beginUsers_15 (fun H locs hR hS => ?_)
      refine lv_aload_n hx hb d1_beginUsers_16 rfl (lv_at hl 0 rfl) ?_
      refine g1_30 S hK hR hh rfl d1_beginUsers_17 ?_
      refine lv_iload_n hx hb d1_beginUsers_20 rfl (lv_at hl 1 rfl) ?_
      refine lv_iconst (v := 0) hx hb d1_beginUsers_21 (by decide) ?_
      obtain ⟨hi4, h0⟩ := og_if h0
      obtain ⟨σ5, hm5, h0⟩ := og_m h0
      refine q_st S hK hR hS (oa_1_8 _ hh) (ea_1_8 _ hh w) hi4 rfl hm5 d1_beginUsers_22 (fun H locs hR hS => ?_)
      refine lv_iinc (v := x1 + 1) (lv' := [(1, .int (x1 + 1)), (0, .ref (w.2.2 h))]) hx hb d1_beginUsers_23 hl (k := 1) rfl (ii1 _) (by decide) rfl (fun ls hl => ?_)
      refine lv_goto (tgt := 2) hx hb d1_beginUsers_26 (by decide) ?_
      exact ih σ5 (x1 + 1) h0 _ _ hR hS _ (lv_sub hl [1, 0] rfl)
def f1_beginUsers (σ : Mem) (h : Nat) : Option Mem := f1_beginUsers_b2 h 1000 σ 0
set_option maxHeartbeats 4000000 in
set_option maxRecDepth 100000 in
theorem c1_beginUsers (l : Launch) {w : WV} {σ : Mem} {h : Nat} {σ' : Mem} (hh : h ∈ hourL) (h0 : f1_beginUsers σ h = some σ') : Met l yX1_beginUsers (wy yX1_beginUsers cX1_beginUsers 2 none) rm1_beginUsers (Pw EC LC w [.ref (w.2.2 h)] σ) (Qw EC LC w σ' none) 0 0 (AW LC w) := by
  refine mk_met (by decide) (Nat.le_of_ble_eq_true rfl) ?_
  intro p e s m below meth c S hr hlk hK hR ls hl
  obtain ⟨hx, hb, hml, hown, hts⟩ := id S
  have hl : lv_has ls 2 [(0, .ref (w.2.2 h))] := hl
  have hS : va_S (AW LC w) s.heap s.heap [] := va_S.rf
  unfold f1_beginUsers at h0
  refine lv_iconst (v := 0) hx hb d1_beginUsers_0 (by decide) ?_
  refine lv_istore_n (lv' := [(1, .int 0), (0, .ref (w.2.2 h))]) hx hb d1_beginUsers_1 rfl hl (by decide) rfl (fun ls hl => ?_)
  exact t1_beginUsers_b2 S hr hlk hK hh 1000 σ 0 h0 _ _ hR hS _ (lv_sub hl [1, 0] rfl)
set_option maxHeartbeats 4000000 in
set_option maxRecDepth 100000 in
theorem k1_77 {p : Program} {l : Launch} {e : Env} {R : Room} {s : State} {m : MethodId} {args : Array Value} {below : List Frame} {meth : Method} {c : Code} {H : Heap} {locs : List Loc} {cells slots : Nat} {Q : State → Prop} {cc : ByteArray} {pc nL : Nat} {ls : Array Slot} {rest : List Value} {w : WV} {σ : Mem} {h : Nat} {σ1 : Mem} (S : CallFix p m c cc nL s args gtbl RX1) (hK : KS LC w s) (hR : Rp EC LC w σ H) (hS : va_S (AW LC w) s.heap H locs) (hh : h ∈ hourL) (h0 : f1_beginUsers σ h = some σ1) (hf : cells + 0 ≤ R.cells ∧ slots + 0 ≤ R.slots) (hRm : rm1_beginUsers.frames + 1 ≤ R.frames ∧ 8 + (2 + 11) + rm1_beginUsers.locals ≤ R.locals) (hl : ls.size = nL) (hW : (rest.map fun v => v.category).sum ≤ 8) (hdg : decode cc pc = .ok (.invokevirtual 77, 3)) (kk : ∀ (H1 : Heap) (locs1 : List Loc), Rp EC LC w σ1 H1 → va_S (AW LC w) s.heap H1 locs1 → W p l e R s m args below meth c H1 locs1 cells slots Q (F0 m (pc + 3) ls (rest))) : W p l e R s m args below meth c H locs cells slots Q (F0 m pc ls (.ref (w.2.2 h) :: rest)) := r_end hS (run_V (n := 0) (As := []) S hK hR (ok_1 _ hh) (eC_1 _ hh w _) rfl (gw_V (gt_at 605 (by decide +kernel) (by decide +kernel)) (gt_at 607 (by decide +kernel) (by decide +kernel)) (gt_at 15 (by decide +kernel) (by decide +kernel)) (gt_at 80 (by decide +kernel) (by decide +kernel)) (gt_at 608 (by decide +kernel) (by decide +kernel))) (by decide +kernel) rfl (c1_beginUsers l hh h0) ⟨rfl, rfl⟩ hRm hf hl rfl hW hdg) kk
/-! FourTenGates$Hour.beginGates()V -/
abbrev rm1_beginGates : Room := { frames := 0, cells := 0, slots := 0, locals := 0 }
theorem d1_beginGates_0 : decode cX1_beginGates 0 = .ok (.aload_n 0, 1) := by decide +kernel
theorem d1_beginGates_1 : decode cX1_beginGates 1 = .ok (.iconst 0, 1) := by decide +kernel
theorem d1_beginGates_2 : decode cX1_beginGates 2 = .ok (.putfield 47, 3) := by decide +kernel
theorem d1_beginGates_5 : decode cX1_beginGates 5 = .ok (.aload_n 0, 1) := by decide +kernel
theorem d1_beginGates_6 : decode cX1_beginGates 6 = .ok (.iconst 0, 1) := by decide +kernel
theorem d1_beginGates_7 : decode cX1_beginGates 7 = .ok (.putfield 50, 3) := by decide +kernel
theorem d1_beginGates_10 : decode cX1_beginGates 10 = .ok (.aload_n 0, 1) := by decide +kernel
theorem d1_beginGates_11 : decode cX1_beginGates 11 = .ok (.iconst 0, 1) := by decide +kernel
theorem d1_beginGates_12 : decode cX1_beginGates 12 = .ok (.putfield 53, 3) := by decide +kernel
theorem d1_beginGates_15 : decode cX1_beginGates 15 = .ok (.return_, 1) := by decide +kernel
def f1_beginGates (σ : Mem) (h : Nat) : Option Mem := bm (mu σ h 13 0) fun σ1 => bm (mu σ1 h 14 0) fun σ2 => bm (mu σ2 h 15 0) fun σ3 => some σ3
set_option maxHeartbeats 4000000 in
set_option maxRecDepth 100000 in
theorem c1_beginGates (l : Launch) {w : WV} {σ : Mem} {h : Nat} {σ' : Mem} (hh : h ∈ hourL) (h0 : f1_beginGates σ h = some σ') : Met l yX1_beginGates (wy yX1_beginGates cX1_beginGates 1 none) rm1_beginGates (Pw EC LC w [.ref (w.2.2 h)] σ) (Qw EC LC w σ' none) 0 0 (AW LC w) := by
  refine mk_met (by decide) (Nat.le_of_ble_eq_true rfl) ?_
  intro p e s m below meth c S hr hlk hK hR ls hl
  obtain ⟨hx, hb, hml, hown, hts⟩ := id S
  have hl : lv_has ls 1 [(0, .ref (w.2.2 h))] := hl
  have hS : va_S (AW LC w) s.heap s.heap [] := va_S.rf
  unfold f1_beginGates at h0
  refine lv_aload_n hx hb d1_beginGates_0 rfl (lv_at hl 0 rfl) ?_
  refine lv_iconst (v := 0) hx hb d1_beginGates_1 (by decide) ?_
  obtain ⟨σ1, hm1, h0⟩ := og_m h0
  refine u1_47 S hK hR hS hh hm1 d1_beginGates_2 (fun H locs hR hS => ?_)
  refine lv_aload_n hx hb d1_beginGates_5 rfl (lv_at hl 0 rfl) ?_
  refine lv_iconst (v := 0) hx hb d1_beginGates_6 (by decide) ?_
  obtain ⟨σ2, hm2, h0⟩ := og_m h0
  refine u1_50 S hK hR hS hh hm2 d1_beginGates_7 (fun H locs hR hS => ?_)
  refine lv_aload_n hx hb d1_beginGates_10 rfl (lv_at hl 0 rfl) ?_
  refine lv_iconst (v := 0) hx hb d1_beginGates_11 (by decide) ?_
  obtain ⟨σ3, hm3, h0⟩ := og_m h0
  refine u1_53 S hK hR hS hh hm3 d1_beginGates_12 (fun H locs hR hS => ?_)
  exact q_vret S hr hlk hR hS h0 d1_beginGates_15
set_option maxHeartbeats 4000000 in
set_option maxRecDepth 100000 in
theorem k1_80 {p : Program} {l : Launch} {e : Env} {R : Room} {s : State} {m : MethodId} {args : Array Value} {below : List Frame} {meth : Method} {c : Code} {H : Heap} {locs : List Loc} {cells slots : Nat} {Q : State → Prop} {cc : ByteArray} {pc nL : Nat} {ls : Array Slot} {rest : List Value} {w : WV} {σ : Mem} {h : Nat} {σ1 : Mem} (S : CallFix p m c cc nL s args gtbl RX1) (hK : KS LC w s) (hR : Rp EC LC w σ H) (hS : va_S (AW LC w) s.heap H locs) (hh : h ∈ hourL) (h0 : f1_beginGates σ h = some σ1) (hf : cells + 0 ≤ R.cells ∧ slots + 0 ≤ R.slots) (hRm : rm1_beginGates.frames + 1 ≤ R.frames ∧ 8 + (1 + 11) + rm1_beginGates.locals ≤ R.locals) (hl : ls.size = nL) (hW : (rest.map fun v => v.category).sum ≤ 8) (hdg : decode cc pc = .ok (.invokevirtual 80, 3)) (kk : ∀ (H1 : Heap) (locs1 : List Loc), Rp EC LC w σ1 H1 → va_S (AW LC w) s.heap H1 locs1 → W p l e R s m args below meth c H1 locs1 cells slots Q (F0 m (pc + 3) ls (rest))) : W p l e R s m args below meth c H locs cells slots Q (F0 m pc ls (.ref (w.2.2 h) :: rest)) := r_end hS (run_V (n := 0) (As := []) S hK hR (ok_1 _ hh) (eC_1 _ hh w _) rfl (gw_V (gt_at 609 (by decide +kernel) (by decide +kernel)) (gt_at 611 (by decide +kernel) (by decide +kernel)) (gt_at 16 (by decide +kernel) (by decide +kernel)) (gt_at 80 (by decide +kernel) (by decide +kernel)) (gt_at 612 (by decide +kernel) (by decide +kernel))) (by decide +kernel) rfl (c1_beginGates l hh h0) ⟨rfl, rfl⟩ hRm hf hl rfl hW hdg) kk
/-! FourTenGates$Hour.moveGates()V -/
abbrev rm1_moveGates : Room := { frames := 1, cells := 0, slots := 0, locals := 20 }
theorem d1_moveGates_0 : decode cX1_moveGates 0 = .ok (.aload_n 0, 1) := by decide +kernel
theorem d1_moveGates_1 : decode cX1_moveGates 1 = .ok (.getfield 47, 3) := by decide +kernel
theorem d1_moveGates_4 : decode cX1_moveGates 4 = .ok (.iconst 1, 1) := by decide +kernel
theorem d1_moveGates_5 : decode cX1_moveGates 5 = .ok (.if_icmp .eq 4, 3) := by decide +kernel
theorem d1_moveGates_8 : decode cX1_moveGates 8 = .ok (.return_, 1) := by decide +kernel
theorem d1_moveGates_9 : decode cX1_moveGates 9 = .ok (.aload_n 0, 1) := by decide +kernel
theorem d1_moveGates_10 : decode cX1_moveGates 10 = .ok (.dup, 1) := by decide +kernel
theorem d1_moveGates_11 : decode cX1_moveGates 11 = .ok (.getfield 53, 3) := by decide +kernel
theorem d1_moveGates_14 : decode cX1_moveGates 14 = .ok (.iconst 1, 1) := by decide +kernel
theorem d1_moveGates_15 : decode cX1_moveGates 15 = .ok (.iadd, 1) := by decide +kernel
theorem d1_moveGates_16 : decode cX1_moveGates 16 = .ok (.putfield 53, 3) := by decide +kernel
theorem d1_moveGates_19 : decode cX1_moveGates 19 = .ok (.aload_n 0, 1) := by decide +kernel
theorem d1_moveGates_20 : decode cX1_moveGates 20 = .ok (.getfield 53, 3) := by decide +kernel
theorem d1_moveGates_23 : decode cX1_moveGates 23 = .ok (.aload_n 0, 1) := by decide +kernel
theorem d1_moveGates_24 : decode cX1_moveGates 24 = .ok (.getfield 65, 3) := by decide +kernel
theorem d1_moveGates_27 : decode cX1_moveGates 27 = .ok (.invokevirtual 122, 3) := by decide +kernel
theorem d1_moveGates_30 : decode cX1_moveGates 30 = .ok (.if_icmp .lt 11, 3) := by decide +kernel
theorem d1_moveGates_33 : decode cX1_moveGates 33 = .ok (.aload_n 0, 1) := by decide +kernel
theorem d1_moveGates_34 : decode cX1_moveGates 34 = .ok (.aload_n 0, 1) := by decide +kernel
theorem d1_moveGates_35 : decode cX1_moveGates 35 = .ok (.getfield 50, 3) := by decide +kernel
theorem d1_moveGates_38 : decode cX1_moveGates 38 = .ok (.putfield 47, 3) := by decide +kernel
theorem d1_moveGates_41 : decode cX1_moveGates 41 = .ok (.return_, 1) := by decide +kernel
def f1_moveGates (σ : Mem) (h : Nat) : Option Mem := if (σ h 13) = 1 then bm (mu σ h 15 ((σ h 15) + 1)) fun σ2 => Option.bind (f0_gateBeats σ2 3) fun r3 => if (σ2 h 15) < r3 then some σ2 else bm (mu σ2 h 13 (σ2 h 14)) fun σ5 => some σ5 else some σ
set_option maxHeartbeats 4000000 in
set_option maxRecDepth 100000 in
theorem c1_moveGates (l : Launch) {w : WV} {σ : Mem} {h : Nat} {σ' : Mem} (hh : h ∈ hourL) (h0 : f1_moveGates σ h = some σ') : Met l yX1_moveGates (wy yX1_moveGates cX1_moveGates 1 none) rm1_moveGates (Pw EC LC w [.ref (w.2.2 h)] σ) (Qw EC LC w σ' none) 0 0 (AW LC w) := by
  refine mk_met (by decide) (Nat.le_of_ble_eq_true rfl) ?_
  intro p e s m below meth c S hr hlk hK hR ls hl
  obtain ⟨hx, hb, hml, hown, hts⟩ := id S
  have hl : lv_has ls 1 [(0, .ref (w.2.2 h))] := hl
  have hS : va_S (AW LC w) s.heap s.heap [] := va_S.rf
  unfold f1_moveGates at h0
  refine lv_aload_n hx hb d1_moveGates_0 rfl (lv_at hl 0 rfl) ?_
  refine g1_47 S hK hR hh d1_moveGates_1 ?_
  refine lv_iconst (v := 1) hx hb d1_moveGates_4 (by decide) ?_
  refine lv_icmp_eq (tgt := 9) hx hb d1_moveGates_5 (by decide) (fun hc1 => ?_) (fun hc1 => ?_)
  · have h0 := og_t hc1 h0
    refine lv_aload_n hx hb d1_moveGates_9 rfl (lv_at hl 0 rfl) ?_
    refine lv_dup hx hb d1_moveGates_10 rfl ?_
    refine g1_53 S hK hR hh d1_moveGates_11 ?_
    refine lv_iconst (v := 1) hx hb d1_moveGates_14 (by decide) ?_
    refine lv_iadd hx hb d1_moveGates_15 ?_
    obtain ⟨σ2, hm2, h0⟩ := og_m h0
    refine u1_53 S hK hR hS hh hm2 d1_moveGates_16 (fun H locs hR hS => ?_)
    refine lv_aload_n hx hb d1_moveGates_19 rfl (lv_at hl 0 rfl) ?_
    refine g1_53 S hK hR hh d1_moveGates_20 ?_
    refine lv_aload_n hx hb d1_moveGates_23 rfl (lv_at hl 0 rfl) ?_
    refine g1_65 S hK hR hh d1_moveGates_24 ?_
    obtain ⟨r3, hr3, h0⟩ := og_b h0
    refine k1_122 S hK hR (by decide) hr3 ⟨Nat.zero_le _, Nat.zero_le _⟩ ⟨Nat.le_of_ble_eq_true rfl, Nat.le_of_ble_eq_true rfl⟩ hl.1 (Nat.le_of_ble_eq_true rfl) d1_moveGates_27 ?_
    refine lv_icmp_lt (tgt := 41) hx hb d1_moveGates_30 (by decide) (fun hc4 => ?_) (fun hc4 => ?_)
    · have h0 := og_t hc4 h0
      exact q_vret S hr hlk hR hS h0 d1_moveGates_41
    · have h0 := og_f hc4 h0
      refine lv_aload_n hx hb d1_moveGates_33 rfl (lv_at hl 0 rfl) ?_
      refine lv_aload_n hx hb d1_moveGates_34 rfl (lv_at hl 0 rfl) ?_
      refine g1_50 S hK hR hh d1_moveGates_35 ?_
      obtain ⟨σ5, hm5, h0⟩ := og_m h0
      refine u1_47 S hK hR hS hh hm5 d1_moveGates_38 (fun H locs hR hS => ?_)
      exact q_vret S hr hlk hR hS h0 d1_moveGates_41
  · have h0 := og_f hc1 h0
    exact q_vret S hr hlk hR hS h0 d1_moveGates_8
set_option maxHeartbeats 4000000 in
set_option maxRecDepth 100000 in
theorem k1_83 {p : Program} {l : Launch} {e : Env} {R : Room} {s : State} {m : MethodId} {args : Array Value} {below : List Frame} {meth : Method} {c : Code} {H : Heap} {locs : List Loc} {cells slots : Nat} {Q : State → Prop} {cc : ByteArray} {pc nL : Nat} {ls : Array Slot} {rest : List Value} {w : WV} {σ : Mem} {h : Nat} {σ1 : Mem} (S : CallFix p m c cc nL s args gtbl RX1) (hK : KS LC w s) (hR : Rp EC LC w σ H) (hS : va_S (AW LC w) s.heap H locs) (hh : h ∈ hourL) (h0 : f1_moveGates σ h = some σ1) (hf : cells + 0 ≤ R.cells ∧ slots + 0 ≤ R.slots) (hRm : rm1_moveGates.frames + 1 ≤ R.frames ∧ 8 + (1 + 11) + rm1_moveGates.locals ≤ R.locals) (hl : ls.size = nL) (hW : (rest.map fun v => v.category).sum ≤ 8) (hdg : decode cc pc = .ok (.invokevirtual 83, 3)) (kk : ∀ (H1 : Heap) (locs1 : List Loc), Rp EC LC w σ1 H1 → va_S (AW LC w) s.heap H1 locs1 → W p l e R s m args below meth c H1 locs1 cells slots Q (F0 m (pc + 3) ls (rest))) : W p l e R s m args below meth c H locs cells slots Q (F0 m pc ls (.ref (w.2.2 h) :: rest)) := r_end hS (run_V (n := 0) (As := []) S hK hR (ok_1 _ hh) (eC_1 _ hh w _) rfl (gw_V (gt_at 613 (by decide +kernel) (by decide +kernel)) (gt_at 615 (by decide +kernel) (by decide +kernel)) (gt_at 17 (by decide +kernel) (by decide +kernel)) (gt_at 80 (by decide +kernel) (by decide +kernel)) (gt_at 616 (by decide +kernel) (by decide +kernel))) (by decide +kernel) rfl (c1_moveGates l hh h0) ⟨rfl, rfl⟩ hRm hf hl rfl hW hdg) kk
/-! FourTenGates$Stand.isPlannedShut(I)Z -/
abbrev rm4_isPlannedShut : Room := { frames := 1, cells := 0, slots := 0, locals := 21 }
theorem d4_isPlannedShut_0 : decode cX4_isPlannedShut 0 = .ok (.iconst 0, 1) := by decide +kernel
theorem d4_isPlannedShut_1 : decode cX4_isPlannedShut 1 = .ok (.istore_n 2, 1) := by decide +kernel
theorem d4_isPlannedShut_2 : decode cX4_isPlannedShut 2 = .ok (.iload_n 2, 1) := by decide +kernel
theorem d4_isPlannedShut_3 : decode cX4_isPlannedShut 3 = .ok (.aload_n 0, 1) := by decide +kernel
theorem d4_isPlannedShut_4 : decode cX4_isPlannedShut 4 = .ok (.getfield 14, 3) := by decide +kernel
theorem d4_isPlannedShut_7 : decode cX4_isPlannedShut 7 = .ok (.invokevirtual 39, 3) := by decide +kernel
theorem d4_isPlannedShut_10 : decode cX4_isPlannedShut 10 = .ok (.if_icmp .ge 41, 3) := by decide +kernel
theorem d4_isPlannedShut_13 : decode cX4_isPlannedShut 13 = .ok (.iload_n 1, 1) := by decide +kernel
theorem d4_isPlannedShut_14 : decode cX4_isPlannedShut 14 = .ok (.aload_n 0, 1) := by decide +kernel
theorem d4_isPlannedShut_15 : decode cX4_isPlannedShut 15 = .ok (.getfield 14, 3) := by decide +kernel
theorem d4_isPlannedShut_18 : decode cX4_isPlannedShut 18 = .ok (.iload_n 2, 1) := by decide +kernel
theorem d4_isPlannedShut_19 : decode cX4_isPlannedShut 19 = .ok (.invokevirtual 36, 3) := by decide +kernel
theorem d4_isPlannedShut_22 : decode cX4_isPlannedShut 22 = .ok (.bipush 6, 2) := by decide +kernel
theorem d4_isPlannedShut_24 : decode cX4_isPlannedShut 24 = .ok (.imul, 1) := by decide +kernel
theorem d4_isPlannedShut_25 : decode cX4_isPlannedShut 25 = .ok (.if_icmp .lt 20, 3) := by decide +kernel
theorem d4_isPlannedShut_28 : decode cX4_isPlannedShut 28 = .ok (.iload_n 1, 1) := by decide +kernel
theorem d4_isPlannedShut_29 : decode cX4_isPlannedShut 29 = .ok (.aload_n 0, 1) := by decide +kernel
theorem d4_isPlannedShut_30 : decode cX4_isPlannedShut 30 = .ok (.getfield 14, 3) := by decide +kernel
theorem d4_isPlannedShut_33 : decode cX4_isPlannedShut 33 = .ok (.iload_n 2, 1) := by decide +kernel
theorem d4_isPlannedShut_34 : decode cX4_isPlannedShut 34 = .ok (.invokevirtual 43, 3) := by decide +kernel
theorem d4_isPlannedShut_37 : decode cX4_isPlannedShut 37 = .ok (.bipush 6, 2) := by decide +kernel
theorem d4_isPlannedShut_39 : decode cX4_isPlannedShut 39 = .ok (.imul, 1) := by decide +kernel
theorem d4_isPlannedShut_40 : decode cX4_isPlannedShut 40 = .ok (.if_icmp .ge 5, 3) := by decide +kernel
theorem d4_isPlannedShut_43 : decode cX4_isPlannedShut 43 = .ok (.iconst 1, 1) := by decide +kernel
theorem d4_isPlannedShut_44 : decode cX4_isPlannedShut 44 = .ok (.ireturn, 1) := by decide +kernel
theorem d4_isPlannedShut_45 : decode cX4_isPlannedShut 45 = .ok (.iinc 2 1, 3) := by decide +kernel
theorem d4_isPlannedShut_48 : decode cX4_isPlannedShut 48 = .ok (.goto (-46), 3) := by decide +kernel
theorem d4_isPlannedShut_51 : decode cX4_isPlannedShut 51 = .ok (.iconst 0, 1) := by decide +kernel
theorem d4_isPlannedShut_52 : decode cX4_isPlannedShut 52 = .ok (.ireturn, 1) := by decide +kernel
def f4_isPlannedShut_b2 (σ : Mem) (h : Nat) : Nat → Int32 → Int32 → Option Int32
  | 0, _, _ => none
  | n + 1, x1, x2 => Option.bind (f2_size σ (h + 1)) fun r1 => if r1 ≤ x2 then some 0 else Option.bind (f2_first σ (h + 1) x2) fun r3 => if x1 < (r3 * 6) then f4_isPlannedShut_b2 σ h n x1 (x2 + 1) else Option.bind (f2_second σ (h + 1) x2) fun r5 => if (r5 * 6) ≤ x1 then f4_isPlannedShut_b2 σ h n x1 (x2 + 1) else some 1
set_option maxHeartbeats 4000000 in
set_option maxRecDepth 100000 in
theorem t4_isPlannedShut_b2 {p : Program} {l : Launch} {e : Env} {s : State} {m : MethodId} {args : Array Value} {below : List Frame} {meth : Method} {c : Code} {w : WV} {σ : Mem} {h : Nat} {r : Int32} (S : CallFix p m c cX4_isPlannedShut 3 s args gtbl RX4) (hr : meth.sig.returnType = (some .boolean)) (hlk : meth.locks = false) (hK : KS LC w s) (hR : Rp EC LC w σ s.heap) (hh : h ∈ standL) : ∀ (n : Nat), ∀ (x1 : Int32) (x2 : Int32), f4_isPlannedShut_b2 σ h n x1 x2 = some r → ∀ (ls : Array Slot), lv_has ls 3 [(0, .ref (w.2.2 h)), (1, .int x1), (2, .int x2)] → W p l e rm4_isPlannedShut s m args below meth c s.heap [] 0 0 (MQ below (Qp (.int r)) args s 0 0 (fun _ => False)) (F0 m 2 ls []) := by
  obtain ⟨hx, hb, hml, hown, hts⟩ := id S
  intro n
  induction n with
  | zero =>
    intro x1 x2 h0
    cases (show none = _ from h0)
  | succ n ih =>
    intro x1 x2 h0 ls hl
    rw [f4_isPlannedShut_b2] at h0
    refine lv_iload_n hx hb d4_isPlannedShut_2 rfl (lv_at hl 2 rfl) ?_
    refine lv_aload_n hx hb d4_isPlannedShut_3 rfl (lv_at hl 0 rfl) ?_
    refine g4_14 S hK hR hh rfl d4_isPlannedShut_4 ?_
    obtain ⟨r1, hr1, h0⟩ := og_b h0
    refine k4_39 S hK hR (in_4_0 _ hh) hr1 ⟨Nat.zero_le _, Nat.zero_le _⟩ ⟨Nat.le_of_ble_eq_true rfl, Nat.le_of_ble_eq_true rfl⟩ hl.1 (Nat.le_of_ble_eq_true rfl) d4_isPlannedShut_7 ?_
    refine lv_icmp_ge (tgt := 51) hx hb d4_isPlannedShut_10 (by decide) (fun hc2 => ?_) (fun hc2 => ?_)
    · have h0 := og_t hc2 h0
      refine lv_iconst (v := 0) hx hb d4_isPlannedShut_51 (by decide) ?_
      exact q_zpure S hr hlk (Or.inl rfl) h0 d4_isPlannedShut_52
    · have h0 := og_f hc2 h0
      refine lv_iload_n hx hb d4_isPlannedShut_13 rfl (lv_at hl 1 rfl) ?_
      refine lv_aload_n hx hb d4_isPlannedShut_14 rfl (lv_at hl 0 rfl) ?_
      refine g4_14 S hK hR hh rfl d4_isPlannedShut_15 ?_
      refine lv_iload_n hx hb d4_isPlannedShut_18 rfl (lv_at hl 2 rfl) ?_
      obtain ⟨r3, hr3, h0⟩ := og_b h0
      refine k4_36 S hK hR (in_4_0 _ hh) hr3 ⟨Nat.zero_le _, Nat.zero_le _⟩ ⟨Nat.le_of_ble_eq_true rfl, Nat.le_of_ble_eq_true rfl⟩ hl.1 (Nat.le_of_ble_eq_true rfl) d4_isPlannedShut_19 ?_
      refine lv_bipush (v := 6) hx hb d4_isPlannedShut_22 (by decide) ?_
      refine lv_imul hx hb d4_isPlannedShut_24 ?_
      refine lv_icmp_lt (tgt := 45) hx hb d4_isPlannedShut_25 (by decide) (fun hc4 => ?_) (fun hc4 => ?_)
      · have h0 := og_t hc4 h0
        refine lv_iinc (v := x2 + 1) (lv' := [(2, .int (x2 + 1)), (0, .ref (w.2.2 h)), (1, .int x1)]) hx hb d4_isPlannedShut_45 hl (k := 2) rfl (ii1 _) (by decide) rfl (fun ls hl => ?_)
        refine lv_goto (tgt := 2) hx hb d4_isPlannedShut_48 (by decide) ?_
        exact ih x1 (x2 + 1) h0 _ (lv_sub hl [1, 2, 0] rfl)
      · have h0 := og_f hc4 h0
        refine lv_iload_n hx hb d4_isPlannedShut_28 rfl (lv_at hl 1 rfl) ?_
        refine lv_aload_n hx hb d4_isPlannedShut_29 rfl (lv_at hl 0 rfl) ?_
        refine g4_14 S hK hR hh rfl d4_isPlannedShut_30 ?_
        refine lv_iload_n hx hb d4_isPlannedShut_33 rfl (lv_at hl 2 rfl) ?_
        obtain ⟨r5, hr5, h0⟩ := og_b h0
        refine k4_43 S hK hR (in_4_0 _ hh) hr5 ⟨Nat.zero_le _, Nat.zero_le _⟩ ⟨Nat.le_of_ble_eq_true rfl, Nat.le_of_ble_eq_true rfl⟩ hl.1 (Nat.le_of_ble_eq_true rfl) d4_isPlannedShut_34 ?_
        refine lv_bipush (v := 6) hx hb d4_isPlannedShut_37 (by decide) ?_
        refine lv_imul hx hb d4_isPlannedShut_39 ?_
        refine lv_icmp_ge (tgt := 45) hx hb d4_isPlannedShut_40 (by decide) (fun hc6 => ?_) (fun hc6 => ?_)
        · have h0 := og_t hc6 h0
          refine lv_iinc (v := x2 + 1) (lv' := [(2, .int (x2 + 1)), (0, .ref (w.2.2 h)), (1, .int x1)]) hx hb d4_isPlannedShut_45 hl (k := 2) rfl (ii1 _) (by decide) rfl (fun ls hl => ?_)
          refine lv_goto (tgt := 2) hx hb d4_isPlannedShut_48 (by decide) ?_
          exact ih x1 (x2 + 1) h0 _ (lv_sub hl [1, 2, 0] rfl)
        · have h0 := og_f hc6 h0
          refine lv_iconst (v := 1) hx hb d4_isPlannedShut_43 (by decide) ?_
          exact q_zpure S hr hlk (Or.inr rfl) h0 d4_isPlannedShut_44
def f4_isPlannedShut (σ : Mem) (h : Nat) (x1 : Int32) : Option Int32 := f4_isPlannedShut_b2 σ h 1000 x1 0
set_option maxHeartbeats 4000000 in
set_option maxRecDepth 100000 in
theorem c4_isPlannedShut (l : Launch) {w : WV} {σ : Mem} {h : Nat} {x1 : Int32} {r : Int32} (hh : h ∈ standL) (h0 : f4_isPlannedShut σ h x1 = some r) : Met l yX4_isPlannedShut (wy yX4_isPlannedShut cX4_isPlannedShut 3 (some .boolean)) rm4_isPlannedShut (Pw EC LC w [.ref (w.2.2 h), .int x1] σ) (Qp (.int r)) 0 0 (fun _ => False) := by
  refine mk_met (by decide) (Nat.le_of_ble_eq_true rfl) ?_
  intro p e s m below meth c S hr hlk hK hR ls hl
  obtain ⟨hx, hb, hml, hown, hts⟩ := id S
  have hl : lv_has ls 3 [(0, .ref (w.2.2 h)), (1, .int x1)] := hl
  unfold f4_isPlannedShut at h0
  refine lv_iconst (v := 0) hx hb d4_isPlannedShut_0 (by decide) ?_
  refine lv_istore_n (lv' := [(2, .int 0), (0, .ref (w.2.2 h)), (1, .int x1)]) hx hb d4_isPlannedShut_1 rfl hl (by decide) rfl (fun ls hl => ?_)
  exact t4_isPlannedShut_b2 S hr hlk hK hR hh 1000 x1 0 h0 _ (lv_sub hl [1, 2, 0] rfl)
set_option maxHeartbeats 4000000 in
set_option maxRecDepth 100000 in
theorem k1_135 {p : Program} {l : Launch} {e : Env} {R : Room} {s : State} {m : MethodId} {args : Array Value} {below : List Frame} {meth : Method} {c : Code} {H : Heap} {locs : List Loc} {cells slots : Nat} {Q : State → Prop} {cc : ByteArray} {pc nL : Nat} {ls : Array Slot} {rest : List Value} {w : WV} {σ : Mem} {h : Nat} {x1 : Int32} {r : Int32} (S : CallFix p m c cc nL s args gtbl RX1) (hK : KS LC w s) (hR : Rp EC LC w σ H) (hh : h ∈ standL) (h0 : f4_isPlannedShut σ h x1 = some r) (hf : cells + 0 ≤ R.cells ∧ slots + 0 ≤ R.slots) (hRm : rm4_isPlannedShut.frames + 1 ≤ R.frames ∧ 8 + (3 + 11) + rm4_isPlannedShut.locals ≤ R.locals) (hl : ls.size = nL) (hW : (rest.map fun v => v.category).sum ≤ 8) (hdg : decode cc pc = .ok (.invokevirtual 135, 3)) (kk : W p l e R s m args below meth c H locs cells slots Q (F0 m (pc + 3) ls (.int r :: rest))) : W p l e R s m args below meth c H locs cells slots Q (F0 m pc ls (.int x1 :: .ref (w.2.2 h) :: rest)) := r_endp (run_V (n := 1) (As := [.int x1]) S hK hR (ok_4 _ hh) (eC_4 _ hh w _) rfl (gw_V (gt_at 626 (by decide +kernel) (by decide +kernel)) (gt_at 627 (by decide +kernel) (by decide +kernel)) (gt_at 628 (by decide +kernel) (by decide +kernel)) (gt_at 79 (by decide +kernel) (by decide +kernel)) (gt_at 629 (by decide +kernel) (by decide +kernel))) (by decide +kernel) rfl (c4_isPlannedShut l hh h0) ⟨rfl, rfl⟩ hRm hf hl rfl hW hdg) kk
/-! FourTenGates$Hour.isTrainInSight(I)Z -/
abbrev rm1_isTrainInSight : Room := { frames := 0, cells := 0, slots := 0, locals := 0 }
theorem d1_isTrainInSight_0 : decode cX1_isTrainInSight 0 = .ok (.iload_n 1, 1) := by decide +kernel
theorem d1_isTrainInSight_1 : decode cX1_isTrainInSight 1 = .ok (.aload_n 0, 1) := by decide +kernel
theorem d1_isTrainInSight_2 : decode cX1_isTrainInSight 2 = .ok (.getfield 59, 3) := by decide +kernel
theorem d1_isTrainInSight_5 : decode cX1_isTrainInSight 5 = .ok (.if_icmp .lt 10, 3) := by decide +kernel
theorem d1_isTrainInSight_8 : decode cX1_isTrainInSight 8 = .ok (.aload_n 0, 1) := by decide +kernel
theorem d1_isTrainInSight_9 : decode cX1_isTrainInSight 9 = .ok (.getfield 62, 3) := by decide +kernel
theorem d1_isTrainInSight_12 : decode cX1_isTrainInSight 12 = .ok (.ifCond .eq 7, 3) := by decide +kernel
theorem d1_isTrainInSight_15 : decode cX1_isTrainInSight 15 = .ok (.iconst 1, 1) := by decide +kernel
theorem d1_isTrainInSight_16 : decode cX1_isTrainInSight 16 = .ok (.goto 4, 3) := by decide +kernel
theorem d1_isTrainInSight_19 : decode cX1_isTrainInSight 19 = .ok (.iconst 0, 1) := by decide +kernel
theorem d1_isTrainInSight_20 : decode cX1_isTrainInSight 20 = .ok (.ireturn, 1) := by decide +kernel
def f1_isTrainInSight (σ : Mem) (h : Nat) (x1 : Int32) : Option Int32 := if x1 < (σ h 17) then some 1 else if (σ h 18) = 0 then some 0 else some 1
set_option maxHeartbeats 4000000 in
set_option maxRecDepth 100000 in
theorem c1_isTrainInSight (l : Launch) {w : WV} {σ : Mem} {h : Nat} {x1 : Int32} {r : Int32} (hh : h ∈ hourL) (h0 : f1_isTrainInSight σ h x1 = some r) : Met l yX1_isTrainInSight (wy yX1_isTrainInSight cX1_isTrainInSight 2 (some .boolean)) rm1_isTrainInSight (Pw EC LC w [.ref (w.2.2 h), .int x1] σ) (Qp (.int r)) 0 0 (fun _ => False) := by
  refine mk_met (by decide) (Nat.le_of_ble_eq_true rfl) ?_
  intro p e s m below meth c S hr hlk hK hR ls hl
  obtain ⟨hx, hb, hml, hown, hts⟩ := id S
  have hl : lv_has ls 2 [(0, .ref (w.2.2 h)), (1, .int x1)] := hl
  unfold f1_isTrainInSight at h0
  refine lv_iload_n hx hb d1_isTrainInSight_0 rfl (lv_at hl 1 rfl) ?_
  refine lv_aload_n hx hb d1_isTrainInSight_1 rfl (lv_at hl 0 rfl) ?_
  refine g1_59 S hK hR hh d1_isTrainInSight_2 ?_
  refine lv_icmp_lt (tgt := 15) hx hb d1_isTrainInSight_5 (by decide) (fun hc1 => ?_) (fun hc1 => ?_)
  · have h0 := og_t hc1 h0
    refine lv_iconst (v := 1) hx hb d1_isTrainInSight_15 (by decide) ?_
    refine lv_goto (tgt := 20) hx hb d1_isTrainInSight_16 (by decide) ?_
    exact q_zpure S hr hlk (Or.inr rfl) h0 d1_isTrainInSight_20
  · have h0 := og_f hc1 h0
    refine lv_aload_n hx hb d1_isTrainInSight_8 rfl (lv_at hl 0 rfl) ?_
    refine g1_62 S hK hR hh d1_isTrainInSight_9 ?_
    refine lv_if_eq (tgt := 19) hx hb d1_isTrainInSight_12 (by decide) (fun hc2 => ?_) (fun hc2 => ?_)
    · have h0 := og_t hc2 h0
      refine lv_iconst (v := 0) hx hb d1_isTrainInSight_19 (by decide) ?_
      exact q_zpure S hr hlk (Or.inl rfl) h0 d1_isTrainInSight_20
    · have h0 := og_f hc2 h0
      refine lv_iconst (v := 1) hx hb d1_isTrainInSight_15 (by decide) ?_
      refine lv_goto (tgt := 20) hx hb d1_isTrainInSight_16 (by decide) ?_
      exact q_zpure S hr hlk (Or.inr rfl) h0 d1_isTrainInSight_20
set_option maxHeartbeats 4000000 in
set_option maxRecDepth 100000 in
theorem k1_132 {p : Program} {l : Launch} {e : Env} {R : Room} {s : State} {m : MethodId} {args : Array Value} {below : List Frame} {meth : Method} {c : Code} {H : Heap} {locs : List Loc} {cells slots : Nat} {Q : State → Prop} {cc : ByteArray} {pc nL : Nat} {ls : Array Slot} {rest : List Value} {w : WV} {σ : Mem} {h : Nat} {x1 : Int32} {r : Int32} (S : CallFix p m c cc nL s args gtbl RX1) (hK : KS LC w s) (hR : Rp EC LC w σ H) (hh : h ∈ hourL) (h0 : f1_isTrainInSight σ h x1 = some r) (hf : cells + 0 ≤ R.cells ∧ slots + 0 ≤ R.slots) (hRm : rm1_isTrainInSight.frames + 1 ≤ R.frames ∧ 8 + (2 + 11) + rm1_isTrainInSight.locals ≤ R.locals) (hl : ls.size = nL) (hW : (rest.map fun v => v.category).sum ≤ 8) (hdg : decode cc pc = .ok (.invokevirtual 132, 3)) (kk : W p l e R s m args below meth c H locs cells slots Q (F0 m (pc + 3) ls (.int r :: rest))) : W p l e R s m args below meth c H locs cells slots Q (F0 m pc ls (.int x1 :: .ref (w.2.2 h) :: rest)) := r_endp (run_V (n := 1) (As := [.int x1]) S hK hR (ok_1 _ hh) (eC_1 _ hh w _) rfl (gw_V (gt_at 632 (by decide +kernel) (by decide +kernel)) (gt_at 634 (by decide +kernel) (by decide +kernel)) (gt_at 20 (by decide +kernel) (by decide +kernel)) (gt_at 80 (by decide +kernel) (by decide +kernel)) (gt_at 635 (by decide +kernel) (by decide +kernel))) (by decide +kernel) rfl (c1_isTrainInSight l hh h0) ⟨rfl, rfl⟩ hRm hf hl rfl hW hdg) kk
/-! FourTenGates$Hour.hasPassed(II)Z -/
abbrev rm1_hasPassed : Room := { frames := 0, cells := 0, slots := 0, locals := 0 }
theorem d1_hasPassed_0 : decode cX1_hasPassed 0 = .ok (.iload_n 1, 1) := by decide +kernel
theorem d1_hasPassed_1 : decode cX1_hasPassed 1 = .ok (.ifCond .lt 25, 3) := by decide +kernel
theorem d1_hasPassed_4 : decode cX1_hasPassed 4 = .ok (.iload_n 1, 1) := by decide +kernel
theorem d1_hasPassed_5 : decode cX1_hasPassed 5 = .ok (.bipush 6, 2) := by decide +kernel
theorem d1_hasPassed_7 : decode cX1_hasPassed 7 = .ok (.if_icmp .ge 19, 3) := by decide +kernel
theorem d1_hasPassed_10 : decode cX1_hasPassed 10 = .ok (.iload_n 2, 1) := by decide +kernel
theorem d1_hasPassed_11 : decode cX1_hasPassed 11 = .ok (.aload_n 0, 1) := by decide +kernel
theorem d1_hasPassed_12 : decode cX1_hasPassed 12 = .ok (.getfield 21, 3) := by decide +kernel
theorem d1_hasPassed_15 : decode cX1_hasPassed 15 = .ok (.iload_n 1, 1) := by decide +kernel
theorem d1_hasPassed_16 : decode cX1_hasPassed 16 = .ok (.iaload, 1) := by decide +kernel
theorem d1_hasPassed_17 : decode cX1_hasPassed 17 = .ok (.iconst 3, 1) := by decide +kernel
theorem d1_hasPassed_18 : decode cX1_hasPassed 18 = .ok (.iadd, 1) := by decide +kernel
theorem d1_hasPassed_19 : decode cX1_hasPassed 19 = .ok (.if_icmp .lt 7, 3) := by decide +kernel
theorem d1_hasPassed_22 : decode cX1_hasPassed 22 = .ok (.iconst 1, 1) := by decide +kernel
theorem d1_hasPassed_23 : decode cX1_hasPassed 23 = .ok (.goto 4, 3) := by decide +kernel
theorem d1_hasPassed_26 : decode cX1_hasPassed 26 = .ok (.iconst 0, 1) := by decide +kernel
theorem d1_hasPassed_27 : decode cX1_hasPassed 27 = .ok (.ireturn, 1) := by decide +kernel
def f1_hasPassed (σ : Mem) (h : Nat) (x1 : Int32) (x2 : Int32) : Option Int32 := if x1 < 0 then some 0 else if 6 ≤ x1 then some 0 else if ¬ (x1 < 0 ∨ 6 ≤ x1.toNatClampNeg) then if x2 < ((σ (h + 4) x1.toNatClampNeg) + 3) then some 0 else some 1 else none
set_option maxHeartbeats 4000000 in
set_option maxRecDepth 100000 in
theorem c1_hasPassed (l : Launch) {w : WV} {σ : Mem} {h : Nat} {x1 : Int32} {x2 : Int32} {r : Int32} (hh : h ∈ hourL) (h0 : f1_hasPassed σ h x1 x2 = some r) : Met l yX1_hasPassed (wy yX1_hasPassed cX1_hasPassed 3 (some .boolean)) rm1_hasPassed (Pw EC LC w [.ref (w.2.2 h), .int x1, .int x2] σ) (Qp (.int r)) 0 0 (fun _ => False) := by
  refine mk_met (by decide) (Nat.le_of_ble_eq_true rfl) ?_
  intro p e s m below meth c S hr hlk hK hR ls hl
  obtain ⟨hx, hb, hml, hown, hts⟩ := id S
  have hl : lv_has ls 3 [(0, .ref (w.2.2 h)), (1, .int x1), (2, .int x2)] := hl
  unfold f1_hasPassed at h0
  refine lv_iload_n hx hb d1_hasPassed_0 rfl (lv_at hl 1 rfl) ?_
  refine lv_if_lt (tgt := 26) hx hb d1_hasPassed_1 (by decide) (fun hc1 => ?_) (fun hc1 => ?_)
  · have h0 := og_t hc1 h0
    refine lv_iconst (v := 0) hx hb d1_hasPassed_26 (by decide) ?_
    exact q_zpure S hr hlk (Or.inl rfl) h0 d1_hasPassed_27
  · have h0 := og_f hc1 h0
    refine lv_iload_n hx hb d1_hasPassed_4 rfl (lv_at hl 1 rfl) ?_
    refine lv_bipush (v := 6) hx hb d1_hasPassed_5 (by decide) ?_
    refine lv_icmp_ge (tgt := 26) hx hb d1_hasPassed_7 (by decide) (fun hc2 => ?_) (fun hc2 => ?_)
    · have h0 := og_t hc2 h0
      refine lv_iconst (v := 0) hx hb d1_hasPassed_26 (by decide) ?_
      exact q_zpure S hr hlk (Or.inl rfl) h0 d1_hasPassed_27
    · have h0 := og_f hc2 h0
      refine lv_iload_n hx hb d1_hasPassed_10 rfl (lv_at hl 2 rfl) ?_
      refine lv_aload_n hx hb d1_hasPassed_11 rfl (lv_at hl 0 rfl) ?_
      refine g1_21 S hK hR hh rfl d1_hasPassed_12 ?_
      refine lv_iload_n hx hb d1_hasPassed_15 rfl (lv_at hl 1 rfl) ?_
      obtain ⟨hi3, h0⟩ := og_if h0
      refine q_ld (k := x1.toNatClampNeg) S hK hR (oa_1_5 _ hh) (ea_1_5 _ hh w _) hi3 rfl d1_hasPassed_16 ?_
      refine lv_iconst (v := 3) hx hb d1_hasPassed_17 (by decide) ?_
      refine lv_iadd hx hb d1_hasPassed_18 ?_
      refine lv_icmp_lt (tgt := 26) hx hb d1_hasPassed_19 (by decide) (fun hc4 => ?_) (fun hc4 => ?_)
      · have h0 := og_t hc4 h0
        refine lv_iconst (v := 0) hx hb d1_hasPassed_26 (by decide) ?_
        exact q_zpure S hr hlk (Or.inl rfl) h0 d1_hasPassed_27
      · have h0 := og_f hc4 h0
        refine lv_iconst (v := 1) hx hb d1_hasPassed_22 (by decide) ?_
        refine lv_goto (tgt := 27) hx hb d1_hasPassed_23 (by decide) ?_
        exact q_zpure S hr hlk (Or.inr rfl) h0 d1_hasPassed_27
set_option maxHeartbeats 4000000 in
set_option maxRecDepth 100000 in
theorem k1_144 {p : Program} {l : Launch} {e : Env} {R : Room} {s : State} {m : MethodId} {args : Array Value} {below : List Frame} {meth : Method} {c : Code} {H : Heap} {locs : List Loc} {cells slots : Nat} {Q : State → Prop} {cc : ByteArray} {pc nL : Nat} {ls : Array Slot} {rest : List Value} {w : WV} {σ : Mem} {h : Nat} {x1 : Int32} {x2 : Int32} {r : Int32} (S : CallFix p m c cc nL s args gtbl RX1) (hK : KS LC w s) (hR : Rp EC LC w σ H) (hh : h ∈ hourL) (h0 : f1_hasPassed σ h x1 x2 = some r) (hf : cells + 0 ≤ R.cells ∧ slots + 0 ≤ R.slots) (hRm : rm1_hasPassed.frames + 1 ≤ R.frames ∧ 8 + (3 + 11) + rm1_hasPassed.locals ≤ R.locals) (hl : ls.size = nL) (hW : (rest.map fun v => v.category).sum ≤ 8) (hdg : decode cc pc = .ok (.invokevirtual 144, 3)) (kk : W p l e R s m args below meth c H locs cells slots Q (F0 m (pc + 3) ls (.int r :: rest))) : W p l e R s m args below meth c H locs cells slots Q (F0 m pc ls (.int x2 :: .int x1 :: .ref (w.2.2 h) :: rest)) := r_endp (run_V (n := 2) (As := [.int x1, .int x2]) S hK hR (ok_1 _ hh) (eC_1 _ hh w _) rfl (gw_V (gt_at 640 (by decide +kernel) (by decide +kernel)) (gt_at 642 (by decide +kernel) (by decide +kernel)) (gt_at 22 (by decide +kernel) (by decide +kernel)) (gt_at 80 (by decide +kernel) (by decide +kernel)) (gt_at 643 (by decide +kernel) (by decide +kernel))) (by decide +kernel) rfl (c1_hasPassed l hh h0) ⟨rfl, rfl⟩ hRm hf hl rfl hW hdg) kk
