theorem nest_in : ∀ q ∈ nestL, Cond.methodLinkNest q.1 q.2.1 q.2.2.1 q.2.2.2 ∈ lw_tbl := by
  intro q hq
  have h : ([97, 114, 176, 266, 361, 368, 372, 397, 400, 549, 604, 649, 780] : List Nat).map (fun i => lw_tbl[i]?) = (nestL.map (fun q => Cond.methodLinkNest q.1 q.2.1 q.2.2.1 q.2.2.2)).map some := by decide +kernel
  obtain ⟨k, hk⟩ := List.getElem?_of_mem hq
  have h2 : ((nestL.map (fun q => Cond.methodLinkNest q.1 q.2.1 q.2.2.1 q.2.2.2)).map some)[k]? = some (some (Cond.methodLinkNest q.1 q.2.1 q.2.2.1 q.2.2.2)) := by rw [List.getElem?_map, List.getElem?_map, hk]; rfl
  rw [← h, List.getElem?_map] at h2
  cases hi : ([97, 114, 176, 266, 361, 368, 372, 397, 400, 549, 604, 649, 780] : List Nat)[k]? with
  | none => rw [hi] at h2; cases h2
  | some i => rw [hi] at h2; exact List.mem_of_getElem? (Option.some.inj h2)
theorem XC_blind {kq vq : Nat} {A0 : Nat → Prop} : FrameBlind (fun _ U => XC kq vq A0 U) := fun a U g mk h => ⟨va_AO.moved (u := U) (U := U.calling g mk a) (Vm.Alike.refl U.vm) h.1, va_AO.moved (u := U) (U := U.calling g mk a) (Vm.Alike.refl U.vm) h.2.1, SX.moved (u := U) (U := U.calling g mk a) (Vm.Alike.refl U.vm) rfl h.2.2.1, vk_R.same (u := U) (U := U.calling g mk a) rfl h.2.2.2⟩
theorem x_endQ {p : Program} {l : Launch} {e : Env} {R : Room} {s : State} {m : MethodId} {args : Array Value} {below : List Frame} {meth : Method} {c : Code} {H : Heap} {locs : List Loc} {cells slots : Nat} {Q : State → Prop} {pc : Nat} {ls : Array Slot} {rest : List Value} {w : WV} {A : Nat → Prop} {H0 : Heap} {E : EV} {L : List Nat} {σz : Mem} {st0 : List Value} {wr : va_W} {a : Nat} {bl : va_E} {av : Array Value} {mc ms : Nat} (hD : va_D A (wr ++ [(a, bl)])) (hS : va_S A H0 H locs) (hA : ∀ q, H0.size ≤ q → A q)
    (hr : va_Run p l e R s m args below meth c H locs cells slots mc ms (F0 m pc ls st0) rest (QI E L w a σz (va_A [(a, bl)] H.size) av) (va_A [(a, bl)] H.size))
    (kk : ∀ (ad : Nat → Nat) (H1 : Heap) (locs1 : List Loc), ad 0 = a → Rp E L (w.1, w.2.1, ad) σz H1 → Inj L (w.1, w.2.1, ad) → (∀ q, AW L (w.1, w.2.1, ad) q → va_A [(a, bl)] H.size q) → (∀ q : Nat, q < H.size → ¬ va_A [(a, bl)] H.size q → H1[q]? = H[q]?) → va_S A H0 H1 locs1 → W p l e R s m args below meth c H1 locs1 (cells + mc) (slots + ms) Q (F0 m (pc + 3) ls rest)) : W p l e R s m args below meth c H locs cells slots Q (F0 m pc ls st0) := by
  have hF : ∀ q, va_A [(a, bl)] H.size q → A q := va_free (wc := [(a, bl)]) hD hS hA [wr.length] (by simp)
  intro T hT X
  obtain ⟨v, st₀, t, T', L1, h0, X', hL, e1, e2, ⟨hv, ⟨ad, g1, g2, g3, g4⟩, hz, hk⟩, st⟩ := hr T hT X
  cases hv
  rw [h0] at hz hk
  obtain ⟨t2, a1, b1⟩ := kk ad T'.heap (locs ++ L1) g1 (by rw [e1]; exact g2) g3 g4 (fun q h1 h2 => by rw [e1]; exact hk q h1 h2)
    ⟨Nat.le_trans hS.1 (by rw [e1]; exact hz), fun q h1 h2 => by rw [e1, hk q (Nat.lt_of_lt_of_le h1 hS.1) (fun z => h2 (hF q z))]; exact hS.2.1 q h1 h2, fun q hq => by
      rcases List.mem_append.mp hq with h | h
      · exact hS.2.2 q h
      · exact hF _ (hL q h)⟩ T' rfl X'
  exact ⟨t2, st t2 a1, b1⟩
theorem at_elems : ∀ j : Fin 107, Cond.eq (.elem (.field (.string "FourTenGates" 79) "java/lang/String" "value" "[B") (.int (Int32.ofNat j.val))) (.int (([atB].getD 0 []).getD j.val 0)) ∈ flatC (Jvm.Cond.and given_1 narrow_1) := by decide +kernel
set_option maxHeartbeats 4000000 in
set_option maxRecDepth 100000 in
theorem whole_open {p : Program} {e : Env} {s : State} {m : MethodId} {below : List Frame} {meth : Method} {c : Code} (l : Launch) {b L : Nat} {xs : Nat → Int32} {σc σm : Mem} (hC : f6_init 1000 s0C 0 = some σc) (hM : f7_init (fun _ _ => 0) = some σm) (hG : ∀ (xs : Nat → Int32) (L : Nat), L ≤ 2048 → lawG xs L (L + 1) 0 σc σm = some ()) (hL : L ≤ 2048) (C0 : lw_At p s m meth c b L xs) : W p l e room_1 s m #[Value.ref b] below meth c s.heap [] 0 0 (lw_Z below #[Value.ref b] s) (entryFrame m ([Value.ref b] : List Value).toArray 4) := by
  obtain ⟨hx, hb, hr, hml, hown, hts, hX, hbl, hlocks, hgv⟩ := id C0
  have hA : ∀ q : Nat, s.heap.size ≤ q → (fun q : Nat => s.heap.size ≤ q) q := fun _ h => h
  have hAo : ∀ q : Nat, q < s.heap.size → ¬ (fun q : Nat => s.heap.size ≤ q) q := fun q h => Nat.not_le.mpr h
  obtain ⟨c0, iS0, hKn0⟩ := u_known (C := RX0) (T := TX0) (N := 9) (n := 9) hts (fun w hw => gt_in w (inX0 w hw)) (hts (.instantiable RX0 9) (List.mem_of_getElem? (i := 113) (by decide +kernel)))
  obtain ⟨c1, iS1, hKn1⟩ := u_known (C := RX1) (T := TX1) (N := 19) (n := 19) hts (fun w hw => gt_in w (inX1 w hw)) (hts (.instantiable RX1 19) (List.mem_of_getElem? (i := 192) (by decide +kernel)))
  obtain ⟨c2, iS2, hKn2⟩ := u_known (C := RX2) (T := TX2) (N := 4) (n := 4) hts (fun w hw => gt_in w (inX2 w hw)) (hts (.instantiable RX2 4) (List.mem_of_getElem? (i := 119) (by decide +kernel)))
  obtain ⟨c3, iS3, hKn3⟩ := u_known (C := RX3) (T := TX3) (N := 2) (n := 2) hts (fun w hw => gt_in w (inX3 w hw)) (hts (.instantiable RX3 2) (List.mem_of_getElem? (i := 256) (by decide +kernel)))
  obtain ⟨c4, iS4, hKn4⟩ := u_known (C := RX4) (T := TX4) (N := 2) (n := 2) hts (fun w hw => gt_in w (inX4 w hw)) (hts (.instantiable RX4 2) (List.mem_of_getElem? (i := 175) (by decide +kernel)))
  obtain ⟨c5, iS5, hKn5⟩ := u_known (C := RX5) (T := TX5) (N := 3) (n := 3) hts (fun w hw => gt_in w (inX5 w hw)) (hts (.instantiable RX5 3) (List.mem_of_getElem? (i := 96) (by decide +kernel)))
  obtain ⟨c6, iS6, hKn6⟩ := u_known (C := RX6) (T := TX6) (N := 13) (n := 13) hts (fun w hw => gt_in w (inX6 w hw)) (hts (.instantiable RX6 13) (List.mem_of_getElem? (i := 88) (by decide +kernel)))
  obtain ⟨c7, iS7, hKn7⟩ := u_known (C := RX7) (T := TX7) (N := 38) (n := 38) hts (fun w hw => gt_in w (inX7 w hw)) (hts (.instantiable RX7 38) (List.mem_of_getElem? (i := 885) (by decide +kernel)))
  obtain ⟨dC, dI, hKc⟩ : ∃ (dC : Nat → ClassId) (dI : Nat → Nat → Nat), ∀ (k : Nat) (q : vw_C), vwCl[k]? = some q → u_Kn s q.1 q.2.1 q.2.2 (dC k) (dI k) := by
    refine ⟨fun k => match k with | 0 => c0 | 1 => c1 | 2 => c2 | 3 => c3 | 4 => c4 | 5 => c5 | 6 => c6 | _ => c7, fun k => match k with | 0 => iS0 | 1 => iS1 | 2 => iS2 | 3 => iS3 | 4 => iS4 | 5 => iS5 | 6 => iS6 | _ => iS7, ?_⟩
    intro k q hq
    match k, hq with
    | 0, hq => cases hq; exact hKn0
    | 1, hq => cases hq; exact hKn1
    | 2, hq => cases hq; exact hKn2
    | 3, hq => cases hq; exact hKn3
    | 4, hq => cases hq; exact hKn4
    | 5, hq => cases hq; exact hKn5
    | 6, hq => cases hq; exact hKn6
    | 7, hq => cases hq; exact hKn7
    | k + 8, hq => simp [vwCl] at hq
  obtain ⟨a0, k0, p0, f01, f02, f03⟩ := Cond.arrayClass_spec (type := .int) (hts (.arrayClass .int) (List.mem_of_getElem? (i := 111) (by decide +kernel)))
  obtain ⟨a1, k1, p1, f11, f12, f13⟩ := Cond.arrayClass_spec (type := .boolean) (hts (.arrayClass .boolean) (List.mem_of_getElem? (i := 1021) (by decide +kernel)))
  have hov1 : (Cond.arrayOver (.object RX1)).before #[Value.ref b] s = true := hts _ (List.mem_of_getElem? (i := 191) (by decide +kernel))
  have hov4 : (Cond.arrayOver (.object RX4)).before #[Value.ref b] s = true := hts _ (List.mem_of_getElem? (i := 265) (by decide +kernel))
  obtain ⟨p2, a2, k2, f21, -, f22, f23, f24⟩ := Cond.arrayOver_spec hov1
  obtain ⟨p3, a3, k3, f31, -, f32, f33, f34⟩ := Cond.arrayOver_spec hov4
  obtain ⟨w, hw⟩ : ∃ w : WV, w = ((dC, dI), (fun k => match k with | 0 => a0 | 1 => a1 | 2 => a2 | _ => a3), fun _ => 0) := ⟨_, rfl⟩
  have hK : KW w s := by
    subst hw
    refine ⟨hKc, fun k q hq => ?_⟩
    match k, hq with
    | 0, hq => cases hq; exact ⟨fun n z => ⟨fun k h => (by cases h), k0, f02, p0, f03⟩, f01⟩
    | 1, hq => cases hq; exact ⟨fun n z => ⟨fun k h => (by cases h), k1, f12, p1, f13⟩, f11⟩
    | 2, hq => cases hq; exact ⟨fun n z => ⟨fun k h => (by cases h), k2, f22, p2, f23⟩, k2, p2, f22, f23, f21, f24⟩
    | 3, hq => cases hq; exact ⟨fun n z => ⟨fun k h => (by cases h), k3, f32, p3, f33⟩, k3, p3, f32, f33, f31, f34⟩
    | k + 4, hq => simp [tysW] at hq
  have hN : NW s := fun q hq => va_Nw.of rfl (hts _ (nest_in q hq))
  have S : CallFix p m c code 4 s #[Value.ref b] gtbl R_law := ⟨hx, hb, hml, hown, fun w hw => hts w (gt_in w hw)⟩
  have hs := flat_of_before _ hgv
  obtain ⟨adK, adV, hV, hev⟩ := vk_Sof (args := #[Value.ref b]) (s := s) (N := 1) (tm := fun _ => Term.string "FourTenGates" 79) (len := [107]) (byt := [atB]) (A := fun q : Nat => s.heap.size ≤ q) (fun i hi => by rw [show i = 0 by omega]; decide) (fun i hi => hs _ (by decide +kernel)) (fun i hi => hs _ (by decide +kernel)) (fun i hi => hs _ (by decide +kernel)) (fun i hi => by rw [show i = 0 by omega]; exact hs _ (by decide +kernel)) (fun i hi j hj => by rw [show i = 0 by omega] at hj ⊢; exact hs _ (at_elems ⟨j, hj⟩)) (fun i j hi hj hne => absurd (by omega) hne) hAo
  obtain ⟨v1, v2, v3, v4⟩ := hV.1 0 (by decide)
  have hSX : SX (adK 0) (adV 0) (fun q : Nat => s.heap.size ≤ q) s := ⟨va_Zof (hts (.laysStatic "java/lang/String" "COMPACT_STRINGS" "Z") (List.mem_of_getElem? (i := 286) (by decide +kernel))) (hts (.initialized "java/lang/String") (List.mem_of_getElem? (i := 82) (by decide +kernel))) (va_eqi (hs (.eq (.static "java/lang/String" "COMPACT_STRINGS" "Z") (.int 1)) (by decide +kernel))) hAo, va_Zqof (hts (.laysStatic "jdk/internal/util/Preconditions" "SIOOBE_FORMATTER" "Ljava/util/function/BiFunction;") (List.mem_of_getElem? (i := 302) (by decide +kernel))) (hts (.initialized "jdk/internal/util/Preconditions") (List.mem_of_getElem? (i := 84) (by decide +kernel))) (hs (.isRef (.static "jdk/internal/util/Preconditions" "SIOOBE_FORMATTER" "Ljava/util/function/BiFunction;")) (by decide +kernel)) hAo, v1, v2, v3, v4⟩
  have hvR : vk_R RX6 79 "t10,0;t13,1;t30,2;t41,0;u8,0;u9,1;u12,2;u29,3;u31,0;u40,0;g4;c20;a60,30;k6,14;k29,32;k38,43;o0,5;o2,3;o5,2;" (adK 0) s := vk_R.of (A := #[Value.ref b]) (hts (.stringRef "FourTenGates" 79 "t10,0;t13,1;t30,2;t41,0;u8,0;u9,1;u12,2;u29,3;u31,0;u40,0;g4;c20;a60,30;k6,14;k29,32;k38,43;o0,5;o2,3;o5,2;") (List.mem_of_getElem? (i := 276) (by decide +kernel))) (hev 0 (by decide))
  have hS : va_S (fun q : Nat => s.heap.size ≤ q) s.heap s.heap [] := va_S.rf
  have hP : va_P w.1 vwCl [] s.heap := fun k q h => by simp at h
  have hD : va_D (fun q : Nat => s.heap.size ≤ q) [] := ⟨fun i j p q h => by simp at h, fun k q h => by simp at h⟩
  have hl := lv_entry ([.ref b]) (n := 4) (Nat.le_of_ble_eq_true rfl)
  rw [lg_entry_eq]
  generalize (lg_sl ([.ref b]) ++ List.replicate (4 - (lg_sl ([.ref b])).length) Slot.unset).toArray = ls at hl ⊢
  have hl : lv_has ls 4 [(0, .ref b)] := hl
  refine va_new (D := w.1) (ci := 6) (fs := dfl6) (C := RX6) (T := TX6) (N := 13) hx hb hts (fun w hw => gt_in w (inX6 w hw)) tyX6 tyX6_ok hown (hts (.classLink R_law 7 RX6) (List.mem_of_getElem? (i := 87) (by decide +kernel))) (hts (.instantiable RX6 13) (List.mem_of_getElem? (i := 88) (by decide +kernel))) (hts (.initialized RX6) (List.mem_of_getElem? (i := 74) (by decide +kernel))) hK hP hD hS hA rfl df6 (Nat.le_of_ble_eq_true rfl) (Nat.le_of_ble_eq_true rfl) dL_0 (fun q1 H hP hD hS => ?_)
  refine lv_dup hx hb dL_3 rfl ?_
  have hF1 : ∀ q, va_A [(q1, .inr (6, dfl6))] H.size q → s.heap.size ≤ q := va_free (wc := [(q1, .inr (6, dfl6))]) hD hS hA [0] rfl
  refine x_endQ hD hS hA (run_I (n := 0) (As := []) (bl := .inr (6, dfl6)) S (gt_at 89 (by decide +kernel) (by decide +kernel)) (gt_at 90 (by decide +kernel) (by decide +kernel)) (gt_at 74 (by decide +kernel) (by decide +kernel)) (gt_at 91 (by decide +kernel) (by decide +kernel)) (by decide +kernel) rfl rfl (ci6 l w q1 H.size (adK 0) (adV 0) (fun q : Nat => s.heap.size ≤ q) hF1 hC) (x_pre hK hN hP XC_blind (fun U hU hW => ⟨va_AO.moved hW.alike (va_AO.of hov1), va_AO.moved hW.alike (va_AO.of hov4), hSX.to hS hU hW, vk_R.warm hW hvR⟩)) ⟨rfl, rfl⟩ ⟨Nat.le_of_ble_eq_true rfl, Nat.le_of_ble_eq_true rfl⟩ ⟨Nat.le_of_ble_eq_true rfl, Nat.le_of_ble_eq_true rfl⟩ hl.1 rfl (Nat.le_of_ble_eq_true rfl) dL_4) (fun adC1 H locs had hRC hIC hsC hk hS => ?_)
  clear hP hD
  have hsC : ∀ q, AW LC (w.1, w.2.1, adC1) q → s.heap.size ≤ q := fun q h => hF1 q (hsC q h)
  obtain ⟨wC, hwC⟩ : ∃ wC : WV, wC = (w.1, w.2.1, adC1) := ⟨_, rfl⟩
  rw [← hwC] at hRC hIC hsC
  have hq1 : q1 = wC.2.2 0 := by rw [hwC]; exact had.symm
  refine lv_astore_n (lv' := [(1, .ref q1), (0, .ref b)]) hx hb dL_7 rfl hl (by decide) rfl (fun ls hl => ?_)
  have hP : va_P w.1 vwCl (wl EC LC wC σc) H := by have h := hRC; unfold Rp at h; rw [show wC.1 = w.1 by rw [hwC]] at h; exact h
  have hD : va_D (fun q : Nat => s.heap.size ≤ q) (wl EC LC wC σc) := (wl_D hIC).weaken (fun _ _ _ h => hsC _ h)
  refine va_new (D := w.1) (ci := 7) (fs := dfl7) (C := RX7) (T := TX7) (N := 38) hx hb hts (fun w hw => gt_in w (inX7 w hw)) tyX7 tyX7_ok hown (hts (.classLink R_law 10 RX7) (List.mem_of_getElem? (i := 884) (by decide +kernel))) (hts (.instantiable RX7 38) (List.mem_of_getElem? (i := 885) (by decide +kernel))) (hts (.initialized RX7) (List.mem_of_getElem? (i := 86) (by decide +kernel))) hK hP hD hS hA rfl df7 (Nat.le_of_ble_eq_true rfl) (Nat.le_of_ble_eq_true rfl) dL_8 (fun q2 H hP hD hS => ?_)
  refine lv_dup hx hb dL_11 rfl ?_
  have hF2 : ∀ q, va_A [(q2, .inr (7, dfl7))] H.size q → s.heap.size ≤ q := va_free (wc := [(q2, .inr (7, dfl7))]) hD hS hA [(wl EC LC wC σc).length] (by simp)
  have hRC : Rp EC LC wC σc H := by unfold Rp; rw [show wC.1 = w.1 by rw [hwC]]; exact hP.inl
  have hout : ∀ j, j ∈ LC → ¬ va_A [(q2, .inr (7, dfl7))] H.size (wC.2.2 j) := by
    intro j hj hz
    obtain ⟨k, hk1, -⟩ := wl_at (E := EC) (L := LC) (w := wC) (σ := σc) hj
    have hkl := (List.getElem?_eq_some_iff.mp hk1).1
    rcases hz with ⟨k2, e2, hz⟩ | hz
    · have hk2 : k2 = 0 := by have := (List.getElem?_eq_some_iff.mp hz).1; simp at this; exact this
      subst hk2
      simp at hz
      have := hD.1 k (wl EC LC wC σc).length _ _ (by rw [List.getElem?_append_left hkl]; exact hk1) (by simp; rfl) hz.1.symm
      omega
    · have := (hRC k _ hk1).lt
      exact absurd hz (Nat.not_le.mpr this)
  refine x_endQ hD hS hA (run_I (n := 0) (As := []) (bl := .inr (7, dfl7)) S (gt_at 886 (by decide +kernel) (by decide +kernel)) (gt_at 887 (by decide +kernel) (by decide +kernel)) (gt_at 86 (by decide +kernel) (by decide +kernel)) (gt_at 888 (by decide +kernel) (by decide +kernel)) (by decide +kernel) rfl rfl (ci7 l w q2 H.size hM) (x_pre hK hN hP (fun _ _ _ _ _ => trivial) (fun _ _ _ => trivial)) ⟨rfl, rfl⟩ ⟨Nat.le_of_ble_eq_true rfl, Nat.le_of_ble_eq_true rfl⟩ ⟨Nat.le_of_ble_eq_true rfl, Nat.le_of_ble_eq_true rfl⟩ hl.1 rfl (Nat.le_of_ble_eq_true rfl) dL_12) (fun adM1 H1 locs hadM hRM hIM hsM hk hS => ?_)
  have hRC : Rp EC LC wC σc H1 := by
    refine va_P.kept hRC (fun k q hq => ?_)
    obtain ⟨j, -, hj, rfl⟩ := wl_get hq
    exact hk _ (hRC k _ hq).lt (hout j hj)
  have hdis : ∀ j, j ∈ LC → ¬ AW LM (w.1, w.2.1, adM1) (wC.2.2 j) := fun j hj h => hout j hj (hsM _ h)
  have hsM : ∀ q, AW LM (w.1, w.2.1, adM1) q → s.heap.size ≤ q := fun q h => hF2 q (hsM q h)
  obtain ⟨wM, hwM⟩ : ∃ wM : WV, wM = (w.1, w.2.1, adM1) := ⟨_, rfl⟩
  rw [← hwM] at hRM hIM hsM hdis
  have hq2 : q2 = wM.2.2 0 := by rw [hwM]; exact hadM.symm
  refine lv_astore_n (lv' := [(2, .ref q2), (1, .ref q1), (0, .ref b)]) hx hb dL_15 rfl hl (by decide) rfl (fun ls hl => ?_)
  refine lv_iconst (v := 0) hx hb dL_16 (by decide) ?_
  refine lv_istore_n (lv' := [(3, .int 0), (2, .ref q2), (1, .ref q1), (0, .ref b)]) hx hb dL_17 rfl hl (by decide) rfl (fun ls hl => ?_)
  refine W.widen (k := 600000) (n := 7302250) (Nat.le_of_ble_eq_true rfl) (Nat.le_of_ble_eq_true rfl) ?_
  have hl : lv_has ls 4 [(0, .ref b), (1, .ref (wC.2.2 0)), (2, .ref (wM.2.2 0)), (3, .int (nI 0))] := by rw [← hq1, ← hq2]; exact lv_sub hl [3, 2, 1, 0] rfl
  have hKC : KS LC wC s := ⟨by rw [hwC]; exact hK, hIC, hN⟩
  have hKM : KS LM wM s := ⟨by rw [hwM]; exact hK, hIM, hN⟩
  refine law_loop S hKC hKM hsC hsM hdis (fun j hj h => ?_) hX hbl hL (fun H ls => lw_ret hx hb hr hlocks dL_1012) (L + 1) 0 σc σm (hG xs L hL) H1 locs hRC hRM hS (Nat.zero_le _) ls hl
  obtain ⟨i, hi, he⟩ := h
  exact hdis i hi ⟨j, hj, he.symm⟩
