theorem va_D_iff {A : Nat → Prop} {ws : va_W} : va_D A ws ↔ (ws.map Prod.fst).Nodup ∧ ∀ a ∈ ws.map Prod.fst, A a := by
  constructor
  · intro h
    refine ⟨?_, fun a ha => ?_⟩
    · refine List.pairwise_iff_getElem.mpr (fun i j hi hj hij he => ?_)
      rw [List.getElem_map, List.getElem_map] at he
      rw [List.length_map] at hi hj
      have := h.1 i j _ _ (List.getElem?_eq_getElem hi) (List.getElem?_eq_getElem hj) he
      omega
    · obtain ⟨p, hp, rfl⟩ := List.mem_map.mp ha
      obtain ⟨k, hk⟩ := List.getElem?_of_mem hp
      exact h.2 k p hk
  · intro h
    refine ⟨fun i j p q hi hj hpq => ?_, fun k q hk => h.2 _ (List.mem_map.mpr ⟨q, List.mem_of_getElem? hk, rfl⟩)⟩
    have h1 : i < (ws.map Prod.fst).length := by rw [List.length_map]; exact (List.getElem?_eq_some_iff.mp hi).1
    refine (List.getElem?_inj h1 h.1).mp ?_
    rw [List.getElem?_map, List.getElem?_map, hi, hj]
    simp [hpq]
theorem va_P.inl {D : va_G} {cl : List vw_C} {a b : va_W} {H : Heap} (h : va_P D cl (a ++ b) H) : va_P D cl a H := fun k q hk => by
  obtain ⟨i, hi⟩ := List.getElem?_of_mem (List.mem_append_left b (List.mem_of_getElem? hk))
  exact h i q hi
theorem va_P.inr {D : va_G} {cl : List vw_C} {a b : va_W} {H : Heap} (h : va_P D cl (a ++ b) H) : va_P D cl b H := fun k q hk => by
  obtain ⟨i, hi⟩ := List.getElem?_of_mem (List.mem_append_right a (List.mem_of_getElem? hk))
  exact h i q hi
theorem wl_app {E : EV} {L1 L2 : List Nat} {w : WV} {σ : Mem} : wl E (L1 ++ L2) w σ = wl E L1 w σ ++ wl E L2 w σ := by unfold wl; rw [List.map_append]
theorem regroupD {A : Nat → Prop} {x : Nat × va_E} {s1 s2 s3 s4 s5 s6 s7 s8 s9 s10 s11 s12 s13 s14 t6 t8 t9 : va_W} (h6 : t6.map Prod.fst = s6.map Prod.fst) (h8 : t8.map Prod.fst = s8.map Prod.fst) (h9 : t9.map Prod.fst = s9.map Prod.fst) (hD : va_D A ((x :: (s1 ++ s2 ++ s3 ++ s4 ++ s5)) ++ s6 ++ (s7 ++ s8 ++ s9 ++ s10 ++ s11 ++ s12 ++ s13 ++ s14))) : va_D A ([x] ++ s1 ++ s2 ++ s3 ++ s4 ++ s5 ++ t6 ++ s11 ++ s12 ++ s13 ++ s14 ++ s7 ++ t8 ++ t9 ++ s10) := by
  rw [va_D_iff] at hD ⊢
  have hp : (((x :: (s1 ++ s2 ++ s3 ++ s4 ++ s5)) ++ s6 ++ (s7 ++ s8 ++ s9 ++ s10 ++ s11 ++ s12 ++ s13 ++ s14)).map Prod.fst).Perm (([x] ++ s1 ++ s2 ++ s3 ++ s4 ++ s5 ++ t6 ++ s11 ++ s12 ++ s13 ++ s14 ++ s7 ++ t8 ++ t9 ++ s10).map Prod.fst) := by
    simp only [List.map_append, List.map_cons, List.map_nil, h6, h8, h9, List.cons_append, List.nil_append, List.append_assoc]
    refine List.Perm.cons _ (List.Perm.append_left _ (List.Perm.append_left _ (List.Perm.append_left _ (List.Perm.append_left _ (List.Perm.append_left _ (List.Perm.append_left _ ?_))))))
    have := List.perm_append_comm (l₁ := s7.map Prod.fst ++ (s8.map Prod.fst ++ (s9.map Prod.fst ++ s10.map Prod.fst))) (l₂ := s11.map Prod.fst ++ (s12.map Prod.fst ++ (s13.map Prod.fst ++ s14.map Prod.fst)))
    simpa only [List.append_assoc] using this
  exact ⟨hp.nodup_iff.mp hD.1, fun a ha => hD.2 a (hp.mem_iff.mpr ha)⟩
theorem regroupP {D : va_G} {cl : List vw_C} {H : Heap} {x : Nat × va_E} {s1 s2 s3 s4 s5 s6 s7 s8 s9 s10 s11 s12 s13 s14 t6 t8 t9 : va_W} (h6 : va_P D cl s6 H → va_P D cl t6 H) (h8 : va_P D cl s8 H → va_P D cl t8 H) (h9 : va_P D cl s9 H → va_P D cl t9 H) (hP : va_P D cl ((x :: (s1 ++ s2 ++ s3 ++ s4 ++ s5)) ++ s6 ++ (s7 ++ s8 ++ s9 ++ s10 ++ s11 ++ s12 ++ s13 ++ s14)) H) : va_P D cl ([x] ++ s1 ++ s2 ++ s3 ++ s4 ++ s5 ++ t6 ++ s11 ++ s12 ++ s13 ++ s14 ++ s7 ++ t8 ++ t9 ++ s10) H := by
  have hA := hP.inl.inl
  have p6 := hP.inl.inr
  have h14 := hP.inr
  have hx : va_P D cl [x] H := (show va_P D cl ([x] ++ (s1 ++ s2 ++ s3 ++ s4 ++ s5)) H from hA).inl
  have h5 : va_P D cl (s1 ++ s2 ++ s3 ++ s4 ++ s5) H := (show va_P D cl ([x] ++ (s1 ++ s2 ++ s3 ++ s4 ++ s5)) H from hA).inr
  have p5 := h5.inr
  have g4 := h5.inl
  have p4 := g4.inr
  have g3 := g4.inl
  have p3 := g3.inr
  have g2 := g3.inl
  have p2 := g2.inr
  have g1 := g2.inl
  have p1 := g1
  have p14 := h14.inr
  have g13 := h14.inl
  have p13 := g13.inr
  have g12 := g13.inl
  have p12 := g12.inr
  have g11 := g12.inl
  have p11 := g11.inr
  have g10 := g11.inl
  have p10 := g10.inr
  have g9 := g10.inl
  have p9 := g9.inr
  have g8 := g9.inl
  have p8 := g8.inr
  have g7 := g8.inl
  have p7 := g7
  exact ((((((((((((((hx.app p1).app p2).app p3).app p4).app p5).app (h6 p6)).app p11).app p12).app p13).app p14).app p7).app (h8 p8)).app (h9 p9)).app p10)
theorem x_ast {p : Program} {l : Launch} {e : Env} {R : Room} {s : State} {m : MethodId} {args : Array Value} {below : List Frame} {meth : Method} {c : Code} {H : Heap} {locs : List Loc} {cells slots : Nat} {Q : State → Prop} {cc : ByteArray} {pc nL : Nat} {ls : Array Slot} {rest : List Value} {w : WV} {own : String} {A : Nat → Prop} {H0 : Heap} {X Y : va_W} {qa n v t0 ci : Nat} {cA : ClassId} {f : Nat → Option Nat} {vs : List Value} {r : vw_C} {i : Int32} (S : CallFix p m c cc nL s args gtbl own) (hK : KW w s) (hP : va_P w.1 vwCl (X ++ [(qa, .inl (cA, n, .inr (.inr (.inr (.inr f)))))] ++ Y) H) (hD : va_D A (X ++ [(qa, .inl (cA, n, .inr (.inr (.inr (.inr f)))))] ++ Y)) (hS : va_S A H0 H locs) (ht : (tysW w)[t0]? = some (cA, .object r.1)) (hobj : (v, .inr (ci, vs)) ∈ Y) (hc : vwCl[ci]? = some r) (hin : vp_in i n) (hdg : decode cc pc = .ok (.aastore, 1))
    (kk : ∀ (H1 : Heap) (locs1 : List Loc), va_P w.1 vwCl (X ++ [(qa, .inl (cA, n, .inr (.inr (.inr (.inr (va_up f i.toNatClampNeg (some v)))))))] ++ Y) H1 → va_D A (X ++ [(qa, .inl (cA, n, .inr (.inr (.inr (.inr (va_up f i.toNatClampNeg (some v)))))))] ++ Y) → va_S A H0 H1 locs1 → W p l e R s m args below meth c H1 locs1 cells slots Q (F0 m (pc + 1) ls rest)) : W p l e R s m args below meth c H locs cells slots Q (F0 m pc ls (.ref v :: .int i :: .ref qa :: rest)) := by
  obtain ⟨k, hk⟩ := List.getElem?_of_mem (List.mem_append_right (X ++ [(qa, .inl (cA, n, .inr (.inr (.inr (.inr f)))))]) hobj)
  have ha : (X ++ [(qa, (.inl (cA, n, .inr (.inr (.inr (.inr f)))) : va_E))] ++ Y)[X.length]? = some (qa, .inl (cA, n, .inr (.inr (.inr (.inr f))))) := by simp
  have hs : ∀ z : Nat × va_E, (X ++ [(qa, (.inl (cA, n, .inr (.inr (.inr (.inr f)))) : va_E))] ++ Y).set X.length z = X ++ [z] ++ Y := fun z => by simp
  refine va_astq S.1 S.2.1 hK hP hD hS X.length t0 k ci ha ht hk hc hin hdg (fun H1 locs1 hP1 hD1 hS1 => ?_)
  rw [hs] at hP1 hD1
  exact kk H1 locs1 hP1 hD1 hS1
theorem LC_cut : LC = [0] ++ [1, 2] ++ [3, 4, 5, 6, 7, 8, 9, 10, 11, 12, 13, 14, 15, 16] ++ [17, 18, 19, 20, 21, 22, 23, 24, 25, 26, 27, 28, 29, 30] ++ [31, 32, 33, 34, 35] ++ [36, 37, 38, 39, 40] ++ [41] ++ [42, 43, 44, 45, 46, 47, 48, 49] ++ [50, 51, 52, 53, 54, 55, 56, 57] ++ [58, 59, 60, 61, 62, 63, 64, 65] ++ [66, 67, 68, 69, 70, 71, 72, 73] ++ [74, 75, 76, 77, 78, 79, 80, 81] ++ [82, 83, 84, 85, 86, 87, 88, 89, 90, 91, 92, 93, 94, 95, 96, 97, 98, 99, 100, 101, 102, 103, 104, 105, 106, 107, 108, 109, 110, 111, 112, 113, 114, 115, 116, 117, 118, 119, 120, 121, 122, 123] ++ [124, 125, 126, 127, 128, 129, 130, 131, 132, 133, 134, 135] ++ [136, 137, 138] := by decide +kernel
set_option maxHeartbeats 4000000 in
set_option maxRecDepth 100000 in
theorem wlC (w : WV) (a q11 : Nat) (u2 u4 u6 u8 u10 u13 u15 u17 u19 u21 u23 u25 u27 : Nat → Nat) : wl EC LC (w.1, w.2.1, adC a q11 u2 u4 u6 u8 u10 u13 u15 u17 u19 u21 u23 u25 u27) s0C = [(a, .inr (6, [.ref (u2 0), .ref (u4 0), .ref (u6 0), .ref (u8 0), .ref (u10 0), .ref (q11), .ref (u13 0), .ref (u15 0), .ref (u17 0), .ref (u19 0), .int 0, .int 0, .int 0]))] ++ lst5 w u2 ++ lst0 w u4 ++ lst0 w u6 ++ lst4 w u8 ++ lst4 w u10 ++ [(q11, .inl (w.2.1 2, 4, .inr (.inr (.inr (.inr (fun i => some (adC a q11 u2 u4 u6 u8 u10 u13 u15 u17 u19 u21 u23 u25 u27 (42 + 8 * i))))))))] ++ lst1 w (u4 0) (u8 0) u21 ++ lst1 w (u4 0) (u8 0) u23 ++ lst1 w (u4 0) (u8 0) u25 ++ lst1 w (u4 0) (u8 0) u27 ++ lst1 w (u4 0) (u10 0) u13 ++ ((u15 0, .inr (3, [.ref (u15 1), .int 0])) :: ([(u15 1, .inl (w.2.1 3, 8, .inr (.inr (.inr (.inr (fun i => some (adC a q11 u2 u4 u6 u8 u10 u13 u15 u17 u19 u21 u23 u25 u27 ((s0C 83 i).toNatClampNeg))))))))] ++ lst4 w (fun j => u15 (j + 2)) ++ lst4 w (fun j => u15 (j + 7)) ++ lst4 w (fun j => u15 (j + 12)) ++ lst4 w (fun j => u15 (j + 17)) ++ lst4 w (fun j => u15 (j + 22)) ++ lst4 w (fun j => u15 (j + 27)) ++ lst4 w (fun j => u15 (j + 32)) ++ lst4 w (fun j => u15 (j + 37)))) ++ ((u17 0, .inr (3, [.ref (u17 1), .int 0])) :: ([(u17 1, .inl (w.2.1 3, 2, .inr (.inr (.inr (.inr (fun i => some (adC a q11 u2 u4 u6 u8 u10 u13 u15 u17 u19 u21 u23 u25 u27 ((s0C 125 i).toNatClampNeg))))))))] ++ lst4 w (fun j => u17 (j + 2)) ++ lst4 w (fun j => u17 (j + 7)))) ++ lst2 w (lim8 8) u19 := by
  rw [LC_cut]
  simp only [wl_app]
  rw [sgC_0 w a q11 u2 u4 u6 u8 u10 u13 u15 u17 u19 u21 u23 u25 u27, sgC_1 w a q11 u2 u4 u6 u8 u10 u13 u15 u17 u19 u21 u23 u25 u27, sgC_2 w a q11 u2 u4 u6 u8 u10 u13 u15 u17 u19 u21 u23 u25 u27, sgC_3 w a q11 u2 u4 u6 u8 u10 u13 u15 u17 u19 u21 u23 u25 u27, sgC_4 w a q11 u2 u4 u6 u8 u10 u13 u15 u17 u19 u21 u23 u25 u27, sgC_5 w a q11 u2 u4 u6 u8 u10 u13 u15 u17 u19 u21 u23 u25 u27, sgC_6 w a q11 u2 u4 u6 u8 u10 u13 u15 u17 u19 u21 u23 u25 u27, sgC_7 w a q11 u2 u4 u6 u8 u10 u13 u15 u17 u19 u21 u23 u25 u27, sgC_8 w a q11 u2 u4 u6 u8 u10 u13 u15 u17 u19 u21 u23 u25 u27, sgC_9 w a q11 u2 u4 u6 u8 u10 u13 u15 u17 u19 u21 u23 u25 u27, sgC_10 w a q11 u2 u4 u6 u8 u10 u13 u15 u17 u19 u21 u23 u25 u27, sgC_11 w a q11 u2 u4 u6 u8 u10 u13 u15 u17 u19 u21 u23 u25 u27, sgC_12 w a q11 u2 u4 u6 u8 u10 u13 u15 u17 u19 u21 u23 u25 u27, sgC_13 w a q11 u2 u4 u6 u8 u10 u13 u15 u17 u19 u21 u23 u25 u27, sgC_14 w a q11 u2 u4 u6 u8 u10 u13 u15 u17 u19 u21 u23 u25 u27]
set_option maxHeartbeats 4000000 in
set_option maxRecDepth 100000 in
theorem kT6_91 {p : Program} {l : Launch} {e : Env} {R : Room} {s : State} {m : MethodId} {args : Array Value} {below : List Frame} {meth : Method} {c : Code} {H : Heap} {locs : List Loc} {cells slots : Nat} {Q : State → Prop} {cc : ByteArray} {pc nL : Nat} {ls : Array Slot} {rest : List Value} {w : WV} {A0 : Nat → Prop} {σ : Mem} {h : Nat} {x1 : Int32} {σ1 : Mem} {r : Int32} (S : CallFix p m c cc nL s args gtbl RX6) (hK : KS LC w s) (hR : Rp EC LC w σ H) (hS : va_S A0 s.heap H locs) (hsub : ∀ q, AW LC w q → A0 q) (hh : h ∈ textL) (h0 : f5_add σ h x1 = some (σ1, r)) (hf : cells + 0 ≤ R.cells ∧ slots + 0 ≤ R.slots) (hRm : rm5_add.frames + 1 ≤ R.frames ∧ 8 + (2 + 11) + rm5_add.locals ≤ R.locals) (hl : ls.size = nL) (hW : (rest.map fun v => v.category).sum ≤ 8) (hdg : decode cc pc = .ok (.invokevirtual 91, 3)) (kk : ∀ (H1 : Heap) (locs1 : List Loc), Rp EC LC w σ1 H1 → va_S A0 s.heap H1 locs1 → W p l e R s m args below meth c H1 locs1 cells slots Q (F0 m (pc + 3) ls (.int r :: rest))) : W p l e R s m args below meth c H locs cells slots Q (F0 m pc ls (.int x1 :: .ref (w.2.2 h) :: rest)) := r_end2 hS hsub (run_V (n := 1) (As := [.int x1]) S hK hR (ok_5 _ hh) (eC_5 _ hh w _) rfl (gw_V (gt_at 325 (by decide +kernel) (by decide +kernel)) (gt_at 326 (by decide +kernel) (by decide +kernel)) (gt_at 327 (by decide +kernel) (by decide +kernel)) (gt_at 75 (by decide +kernel) (by decide +kernel)) (gt_at 328 (by decide +kernel) (by decide +kernel))) (by decide +kernel) rfl (c5_add l hh h0) ⟨rfl, rfl⟩ hRm hf hl rfl hW hdg) (fun H1 locs1 h1 _ h3 => kk H1 locs1 h1 h3)
set_option maxHeartbeats 4000000 in
set_option maxRecDepth 100000 in
theorem kT6_95 {p : Program} {l : Launch} {e : Env} {R : Room} {s : State} {m : MethodId} {args : Array Value} {below : List Frame} {meth : Method} {c : Code} {H : Heap} {locs : List Loc} {cells slots : Nat} {Q : State → Prop} {cc : ByteArray} {pc nL : Nat} {ls : Array Slot} {rest : List Value} {w : WV} {A0 : Nat → Prop} {σ : Mem} {σ1 : Mem} {r : Int32} (S : CallFix p m c cc nL s args gtbl RX6) (hK : KS LC w s) (hR : Rp EC LC w σ H) (hS : va_S A0 s.heap H locs) (hsub : ∀ q, AW LC w q → A0 q) (h0 : f6_layText σ = some (σ1, r)) (hf : cells + 0 ≤ R.cells ∧ slots + 0 ≤ R.slots) (hRm : rm6_layText.frames + 1 ≤ R.frames ∧ 8 + (1 + 11) + rm6_layText.locals ≤ R.locals) (hl : ls.size = nL) (hW : (rest.map fun v => v.category).sum ≤ 8) (hdg : decode cc pc = .ok (.invokevirtual 95, 3)) (kk : ∀ (H1 : Heap) (locs1 : List Loc), Rp EC LC w σ1 H1 → va_S A0 s.heap H1 locs1 → W p l e R s m args below meth c H1 locs1 cells slots Q (F0 m (pc + 3) ls (.int r :: rest))) : W p l e R s m args below meth c H locs cells slots Q (F0 m pc ls (.ref (w.2.2 0) :: rest)) := r_end2 hS hsub (run_V (n := 0) (As := []) S hK hR (by decide) (eC_6 w _) rfl (gw_V (gt_at 329 (by decide +kernel) (by decide +kernel)) (gt_at 331 (by decide +kernel) (by decide +kernel)) (gt_at 0 (by decide +kernel) (by decide +kernel)) (gt_at 74 (by decide +kernel) (by decide +kernel)) (gt_at 332 (by decide +kernel) (by decide +kernel))) (by decide +kernel) rfl (c6_layText l h0) ⟨rfl, rfl⟩ hRm hf hl rfl hW hdg) (fun H1 locs1 h1 _ h3 => kk H1 locs1 h1 h3)
set_option maxHeartbeats 4000000 in
set_option maxRecDepth 100000 in
theorem kT6_99 {p : Program} {l : Launch} {e : Env} {R : Room} {s : State} {m : MethodId} {args : Array Value} {below : List Frame} {meth : Method} {c : Code} {H : Heap} {locs : List Loc} {cells slots : Nat} {Q : State → Prop} {cc : ByteArray} {pc nL : Nat} {ls : Array Slot} {rest : List Value} {w : WV} {A0 : Nat → Prop} {σ : Mem} {h : Nat} {σ1 : Mem} {r : Int32} (S : CallFix p m c cc nL s args gtbl RX6) (hK : KS LC w s) (hR : Rp EC LC w σ H) (hS : va_S A0 s.heap H locs) (hsub : ∀ q, AW LC w q → A0 q) (hh : h ∈ textL) (h0 : f5_empty σ h = some (σ1, r)) (hf : cells + 0 ≤ R.cells ∧ slots + 0 ≤ R.slots) (hRm : rm5_empty.frames + 1 ≤ R.frames ∧ 8 + (2 + 11) + rm5_empty.locals ≤ R.locals) (hl : ls.size = nL) (hW : (rest.map fun v => v.category).sum ≤ 8) (hdg : decode cc pc = .ok (.invokevirtual 99, 3)) (kk : ∀ (H1 : Heap) (locs1 : List Loc), Rp EC LC w σ1 H1 → va_S A0 s.heap H1 locs1 → W p l e R s m args below meth c H1 locs1 cells slots Q (F0 m (pc + 3) ls (.int r :: rest))) : W p l e R s m args below meth c H locs cells slots Q (F0 m pc ls (.ref (w.2.2 h) :: rest)) := r_end2 hS hsub (run_V (n := 0) (As := []) S hK hR (ok_5 _ hh) (eC_5 _ hh w _) rfl (gw_V (gt_at 469 (by decide +kernel) (by decide +kernel)) (gt_at 470 (by decide +kernel) (by decide +kernel)) (gt_at 471 (by decide +kernel) (by decide +kernel)) (gt_at 75 (by decide +kernel) (by decide +kernel)) (gt_at 472 (by decide +kernel) (by decide +kernel))) (by decide +kernel) rfl (c5_empty l hh h0) ⟨rfl, rfl⟩ hRm hf hl rfl hW hdg) (fun H1 locs1 h1 _ h3 => kk H1 locs1 h1 h3)
theorem d6_init_0 : decode cX6_init 0 = .ok (.aload_n 0, 1) := by decide +kernel
theorem d6_init_1 : decode cX6_init 1 = .ok (.invokespecial 1, 3) := by decide +kernel
theorem d6_init_4 : decode cX6_init 4 = .ok (.aload_n 0, 1) := by decide +kernel
theorem d6_init_5 : decode cX6_init 5 = .ok (.new 7, 3) := by decide +kernel
theorem d6_init_8 : decode cX6_init 8 = .ok (.dup, 1) := by decide +kernel
theorem d6_init_9 : decode cX6_init 9 = .ok (.invokespecial 9, 3) := by decide +kernel
theorem d6_init_12 : decode cX6_init 12 = .ok (.putfield 10, 3) := by decide +kernel
theorem d6_init_15 : decode cX6_init 15 = .ok (.aload_n 0, 1) := by decide +kernel
theorem d6_init_16 : decode cX6_init 16 = .ok (.new 16, 3) := by decide +kernel
theorem d6_init_19 : decode cX6_init 19 = .ok (.dup, 1) := by decide +kernel
theorem d6_init_20 : decode cX6_init 20 = .ok (.invokespecial 18, 3) := by decide +kernel
theorem d6_init_23 : decode cX6_init 23 = .ok (.putfield 19, 3) := by decide +kernel
theorem d6_init_26 : decode cX6_init 26 = .ok (.aload_n 0, 1) := by decide +kernel
theorem d6_init_27 : decode cX6_init 27 = .ok (.new 16, 3) := by decide +kernel
theorem d6_init_30 : decode cX6_init 30 = .ok (.dup, 1) := by decide +kernel
theorem d6_init_31 : decode cX6_init 31 = .ok (.invokespecial 18, 3) := by decide +kernel
theorem d6_init_34 : decode cX6_init 34 = .ok (.putfield 23, 3) := by decide +kernel
theorem d6_init_37 : decode cX6_init 37 = .ok (.aload_n 0, 1) := by decide +kernel
theorem d6_init_38 : decode cX6_init 38 = .ok (.new 26, 3) := by decide +kernel
theorem d6_init_41 : decode cX6_init 41 = .ok (.dup, 1) := by decide +kernel
theorem d6_init_42 : decode cX6_init 42 = .ok (.invokespecial 28, 3) := by decide +kernel
theorem d6_init_45 : decode cX6_init 45 = .ok (.putfield 29, 3) := by decide +kernel
theorem d6_init_48 : decode cX6_init 48 = .ok (.aload_n 0, 1) := by decide +kernel
theorem d6_init_49 : decode cX6_init 49 = .ok (.new 26, 3) := by decide +kernel
theorem d6_init_52 : decode cX6_init 52 = .ok (.dup, 1) := by decide +kernel
theorem d6_init_53 : decode cX6_init 53 = .ok (.invokespecial 28, 3) := by decide +kernel
theorem d6_init_56 : decode cX6_init 56 = .ok (.putfield 33, 3) := by decide +kernel
theorem d6_init_59 : decode cX6_init 59 = .ok (.aload_n 0, 1) := by decide +kernel
theorem d6_init_60 : decode cX6_init 60 = .ok (.iconst 4, 1) := by decide +kernel
theorem d6_init_61 : decode cX6_init 61 = .ok (.anewarray 36, 3) := by decide +kernel
theorem d6_init_64 : decode cX6_init 64 = .ok (.putfield 38, 3) := by decide +kernel
theorem d6_init_67 : decode cX6_init 67 = .ok (.aload_n 0, 1) := by decide +kernel
theorem d6_init_68 : decode cX6_init 68 = .ok (.new 36, 3) := by decide +kernel
theorem d6_init_71 : decode cX6_init 71 = .ok (.dup, 1) := by decide +kernel
theorem d6_init_72 : decode cX6_init 72 = .ok (.aload_n 0, 1) := by decide +kernel
theorem d6_init_73 : decode cX6_init 73 = .ok (.getfield 19, 3) := by decide +kernel
theorem d6_init_76 : decode cX6_init 76 = .ok (.aload_n 0, 1) := by decide +kernel
theorem d6_init_77 : decode cX6_init 77 = .ok (.getfield 33, 3) := by decide +kernel
theorem d6_init_80 : decode cX6_init 80 = .ok (.invokespecial 42, 3) := by decide +kernel
theorem d6_init_83 : decode cX6_init 83 = .ok (.putfield 45, 3) := by decide +kernel
theorem d6_init_86 : decode cX6_init 86 = .ok (.aload_n 0, 1) := by decide +kernel
theorem d6_init_87 : decode cX6_init 87 = .ok (.new 49, 3) := by decide +kernel
theorem d6_init_90 : decode cX6_init 90 = .ok (.dup, 1) := by decide +kernel
theorem d6_init_91 : decode cX6_init 91 = .ok (.bipush 8, 2) := by decide +kernel
theorem d6_init_93 : decode cX6_init 93 = .ok (.invokespecial 51, 3) := by decide +kernel
theorem d6_init_96 : decode cX6_init 96 = .ok (.putfield 54, 3) := by decide +kernel
theorem d6_init_99 : decode cX6_init 99 = .ok (.aload_n 0, 1) := by decide +kernel
theorem d6_init_100 : decode cX6_init 100 = .ok (.new 49, 3) := by decide +kernel
theorem d6_init_103 : decode cX6_init 103 = .ok (.dup, 1) := by decide +kernel
theorem d6_init_104 : decode cX6_init 104 = .ok (.iconst 2, 1) := by decide +kernel
theorem d6_init_105 : decode cX6_init 105 = .ok (.invokespecial 51, 3) := by decide +kernel
theorem d6_init_108 : decode cX6_init 108 = .ok (.putfield 58, 3) := by decide +kernel
theorem d6_init_111 : decode cX6_init 111 = .ok (.aload_n 0, 1) := by decide +kernel
theorem d6_init_112 : decode cX6_init 112 = .ok (.new 61, 3) := by decide +kernel
theorem d6_init_115 : decode cX6_init 115 = .ok (.dup, 1) := by decide +kernel
theorem d6_init_116 : decode cX6_init 116 = .ok (.bipush 8, 2) := by decide +kernel
theorem d6_init_118 : decode cX6_init 118 = .ok (.invokespecial 63, 3) := by decide +kernel
theorem d6_init_121 : decode cX6_init 121 = .ok (.putfield 64, 3) := by decide +kernel
theorem d6_init_124 : decode cX6_init 124 = .ok (.aload_n 0, 1) := by decide +kernel
theorem d6_init_125 : decode cX6_init 125 = .ok (.iconst 0, 1) := by decide +kernel
theorem d6_init_126 : decode cX6_init 126 = .ok (.putfield 68, 3) := by decide +kernel
theorem d6_init_129 : decode cX6_init 129 = .ok (.aload_n 0, 1) := by decide +kernel
theorem d6_init_130 : decode cX6_init 130 = .ok (.iconst 0, 1) := by decide +kernel
theorem d6_init_131 : decode cX6_init 131 = .ok (.putfield 72, 3) := by decide +kernel
theorem d6_init_134 : decode cX6_init 134 = .ok (.aload_n 0, 1) := by decide +kernel
theorem d6_init_135 : decode cX6_init 135 = .ok (.iconst 0, 1) := by decide +kernel
theorem d6_init_136 : decode cX6_init 136 = .ok (.putfield 76, 3) := by decide +kernel
theorem d6_init_139 : decode cX6_init 139 = .ok (.iconst 0, 1) := by decide +kernel
theorem d6_init_140 : decode cX6_init 140 = .ok (.istore_n 1, 1) := by decide +kernel
theorem d6_init_141 : decode cX6_init 141 = .ok (.iload_n 1, 1) := by decide +kernel
theorem d6_init_142 : decode cX6_init 142 = .ok (.iconst 4, 1) := by decide +kernel
theorem d6_init_143 : decode cX6_init 143 = .ok (.if_icmp .ge 30, 3) := by decide +kernel
theorem d6_init_146 : decode cX6_init 146 = .ok (.aload_n 0, 1) := by decide +kernel
theorem d6_init_147 : decode cX6_init 147 = .ok (.getfield 38, 3) := by decide +kernel
theorem d6_init_150 : decode cX6_init 150 = .ok (.iload_n 1, 1) := by decide +kernel
theorem d6_init_151 : decode cX6_init 151 = .ok (.new 36, 3) := by decide +kernel
theorem d6_init_154 : decode cX6_init 154 = .ok (.dup, 1) := by decide +kernel
theorem d6_init_155 : decode cX6_init 155 = .ok (.aload_n 0, 1) := by decide +kernel
theorem d6_init_156 : decode cX6_init 156 = .ok (.getfield 19, 3) := by decide +kernel
theorem d6_init_159 : decode cX6_init 159 = .ok (.aload_n 0, 1) := by decide +kernel
theorem d6_init_160 : decode cX6_init 160 = .ok (.getfield 29, 3) := by decide +kernel
theorem d6_init_163 : decode cX6_init 163 = .ok (.invokespecial 42, 3) := by decide +kernel
theorem d6_init_166 : decode cX6_init 166 = .ok (.aastore, 1) := by decide +kernel
theorem d6_init_167 : decode cX6_init 167 = .ok (.iinc 1 1, 3) := by decide +kernel
theorem d6_init_170 : decode cX6_init 170 = .ok (.goto (-29), 3) := by decide +kernel
theorem d6_init_173 : decode cX6_init 173 = .ok (.iconst 0, 1) := by decide +kernel
theorem d6_init_174 : decode cX6_init 174 = .ok (.istore_n 1, 1) := by decide +kernel
theorem d6_init_175 : decode cX6_init 175 = .ok (.iload_n 1, 1) := by decide +kernel
theorem d6_init_176 : decode cX6_init 176 = .ok (.ldc 79, 2) := by decide +kernel
theorem d6_init_178 : decode cX6_init 178 = .ok (.invokevirtual 81, 3) := by decide +kernel
theorem d6_init_181 : decode cX6_init 181 = .ok (.if_icmp .ge 23, 3) := by decide +kernel
theorem d6_init_184 : decode cX6_init 184 = .ok (.aload_n 0, 1) := by decide +kernel
theorem d6_init_185 : decode cX6_init 185 = .ok (.getfield 10, 3) := by decide +kernel
theorem d6_init_188 : decode cX6_init 188 = .ok (.ldc 79, 2) := by decide +kernel
theorem d6_init_190 : decode cX6_init 190 = .ok (.iload_n 1, 1) := by decide +kernel
theorem d6_init_191 : decode cX6_init 191 = .ok (.invokevirtual 87, 3) := by decide +kernel
theorem d6_init_194 : decode cX6_init 194 = .ok (.invokevirtual 91, 3) := by decide +kernel
theorem d6_init_197 : decode cX6_init 197 = .ok (.pop, 1) := by decide +kernel
theorem d6_init_198 : decode cX6_init 198 = .ok (.iinc 1 1, 3) := by decide +kernel
theorem d6_init_201 : decode cX6_init 201 = .ok (.goto (-26), 3) := by decide +kernel
theorem d6_init_204 : decode cX6_init 204 = .ok (.aload_n 0, 1) := by decide +kernel
theorem d6_init_205 : decode cX6_init 205 = .ok (.invokevirtual 95, 3) := by decide +kernel
theorem d6_init_208 : decode cX6_init 208 = .ok (.pop, 1) := by decide +kernel
theorem d6_init_209 : decode cX6_init 209 = .ok (.aload_n 0, 1) := by decide +kernel
theorem d6_init_210 : decode cX6_init 210 = .ok (.getfield 10, 3) := by decide +kernel
theorem d6_init_213 : decode cX6_init 213 = .ok (.invokevirtual 99, 3) := by decide +kernel
theorem d6_init_216 : decode cX6_init 216 = .ok (.pop, 1) := by decide +kernel
theorem d6_init_217 : decode cX6_init 217 = .ok (.return_, 1) := by decide +kernel
/-- the component's constructor behind its fields: the text goes in, letter by letter, is laid, and goes -/
def f6_init : Nat → Mem → Nat → Option Mem
  | 0, _, _ => none
  | n + 1, σ, k => if k < 107 then ob (f5_add σ 1 (atB.getD k 0)) fun σ1 _ => f6_init n σ1 (k + 1) else ob (f6_layText σ) fun σ1 _ => ob (f5_empty σ1 1) fun σ2 _ => some σ2
abbrev rmi_6 : Room := { frames := 6, cells := 138, slots := 2858, locals := 138 }
set_option maxHeartbeats 4000000 in
set_option maxRecDepth 100000 in
theorem t6_init {p : Program} {l : Launch} {e : Env} {s : State} {m : MethodId} {args : Array Value} {below : List Frame} {meth : Method} {c : Code} {Q : State → Prop} {w : WV} {A : Nat → Prop} {kq vq : Nat} {σz : Mem} (S : CallFix p m c cX6_init 2 s args gtbl RX6) (hK : KS LC w s) (hsub : ∀ q, AW LC w q → A q) (hX : SX kq vq A s) (hZ : vk_R RX6 79 "t10,0;t13,1;t30,2;t41,0;u8,0;u9,1;u12,2;u29,3;u31,0;u40,0;g4;c20;a60,30;k6,14;k29,32;k38,43;o0,5;o2,3;o5,2;" kq s) (hend : ∀ (H : Heap) (locs : List Loc) (ls : Array Slot), Rp EC LC w σz H → va_S A s.heap H locs → W p l e rmi_6 s m args below meth c H locs 138 2858 Q (F0 m 217 ls [])) : ∀ (n : Nat) (σ : Mem) (k : Nat), f6_init n σ k = some σz → ∀ (H : Heap) (locs : List Loc), Rp EC LC w σ H → va_S A s.heap H locs → k ≤ 107 → ∀ (ls : Array Slot), lv_has ls 2 [(0, .ref (w.2.2 0)), (1, .int (nI k))] → W p l e rmi_6 s m args below meth c H locs 138 2858 Q (F0 m 175 ls []) := by
  obtain ⟨hx, hb, hml, hown, hts⟩ := id S
  intro n
  induction n with
  | zero =>
    intro σ k h0
    cases (show none = _ from h0)
  | succ n ih =>
    intro σ k h0 H locs hR hS hk ls hl
    rw [f6_init] at h0
    refine lv_iload_n hx hb d6_init_175 rfl (lv_at hl 1 rfl) ?_
    refine va_ldcS hx hb hown hZ d6_init_176 ?_
    refine r_endp (run_VX (n := 0) (As := []) S hX hS rfl (gw_V (gt_at 277 (by decide +kernel) (by decide +kernel)) (gt_at 278 (by decide +kernel) (by decide +kernel)) (gt_at 279 (by decide +kernel) (by decide +kernel)) (gt_at 82 (by decide +kernel) (by decide +kernel)) (gt_at 280 (by decide +kernel) (by decide +kernel))) (by decide +kernel) rfl (cJ_len l kq vq A) ⟨rfl, rfl⟩ ⟨Nat.le_of_ble_eq_true rfl, Nat.le_of_ble_eq_true rfl⟩ ⟨Nat.le_of_ble_eq_true rfl, Nat.le_of_ble_eq_true rfl⟩ hl.1 rfl (Nat.le_of_ble_eq_true rfl) d6_init_178) ?_
    refine lv_icmp_ge (tgt := 204) hx hb d6_init_181 (by decide) (fun hc => ?_) (fun hc => ?_)
    · have hk2 : ¬ k < 107 := fun z => nI_ge z (by decide) hc
      have h0 := og_f hk2 h0
      obtain ⟨σ1, r1, hr1, h0⟩ := og_o h0
      obtain ⟨σ2, r2, hr2, h0⟩ := og_o h0
      refine lv_aload_n hx hb d6_init_204 rfl (lv_at hl 0 rfl) ?_
      refine kT6_95 S hK hR hS hsub hr1 ⟨Nat.le_of_ble_eq_true rfl, Nat.le_of_ble_eq_true rfl⟩ ⟨Nat.le_of_ble_eq_true rfl, Nat.le_of_ble_eq_true rfl⟩ hl.1 (Nat.le_of_ble_eq_true rfl) d6_init_205 (fun H locs hR hS => ?_)
      refine lv_pop hx hb d6_init_208 rfl ?_
      refine lv_aload_n hx hb d6_init_209 rfl (lv_at hl 0 rfl) ?_
      refine g6_10 S hK hR d6_init_210 ?_
      refine kT6_99 S hK hR hS hsub (by decide) hr2 ⟨Nat.le_of_ble_eq_true rfl, Nat.le_of_ble_eq_true rfl⟩ ⟨Nat.le_of_ble_eq_true rfl, Nat.le_of_ble_eq_true rfl⟩ hl.1 (Nat.le_of_ble_eq_true rfl) d6_init_213 (fun H locs hR hS => ?_)
      refine lv_pop hx hb d6_init_216 rfl ?_
      rw [Option.some.inj h0] at hR
      exact hend _ _ _ hR hS
    · have hk2 : k < 107 := Nat.not_le.mp fun z => hc (nI_le (a := 107) z (by omega))
      have h0 := og_t hk2 h0
      obtain ⟨σ1, r1, hr1, h0⟩ := og_o h0
      refine lv_aload_n hx hb d6_init_184 rfl (lv_at hl 0 rfl) ?_
      refine g6_10 S hK hR d6_init_185 ?_
      refine va_ldcS hx hb hown hZ d6_init_188 ?_
      refine lv_iload_n hx hb d6_init_190 rfl (lv_at hl 1 rfl) ?_
      refine r_endp (run_VX (n := 1) (As := [.int (nI k)]) S hX hS rfl (gw_V (gt_at 287 (by decide +kernel) (by decide +kernel)) (gt_at 288 (by decide +kernel) (by decide +kernel)) (gt_at 289 (by decide +kernel) (by decide +kernel)) (gt_at 82 (by decide +kernel) (by decide +kernel)) (gt_at 290 (by decide +kernel) (by decide +kernel))) (by decide +kernel) rfl (cJ_cha l kq vq A k hk2) ⟨rfl, rfl⟩ ⟨Nat.le_of_ble_eq_true rfl, Nat.le_of_ble_eq_true rfl⟩ ⟨Nat.le_of_ble_eq_true rfl, Nat.le_of_ble_eq_true rfl⟩ hl.1 rfl (Nat.le_of_ble_eq_true rfl) d6_init_191) ?_
      refine kT6_91 S hK hR hS hsub (by decide) hr1 ⟨Nat.le_of_ble_eq_true rfl, Nat.le_of_ble_eq_true rfl⟩ ⟨Nat.le_of_ble_eq_true rfl, Nat.le_of_ble_eq_true rfl⟩ hl.1 (Nat.le_of_ble_eq_true rfl) d6_init_194 (fun H locs hR hS => ?_)
      refine lv_pop hx hb d6_init_197 rfl ?_
      refine lv_iinc (v := nI (k + 1)) (lv' := [(1, .int (nI (k + 1))), (0, .ref (w.2.2 0))]) hx hb d6_init_198 hl (k := 1) rfl ((ii1 _).trans (nI_a1 k)) (by decide) rfl (fun ls hl => ?_)
      refine lv_goto (tgt := 175) hx hb d6_init_201 (by decide) ?_
      exact ih σ1 (k + 1) h0 _ _ hR hS (by omega) ls (lv_sub hl [1, 0] rfl)
