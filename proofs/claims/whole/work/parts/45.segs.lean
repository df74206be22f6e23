def s0T : List Nat := [0, 0, 0, 0, 6, 0, 0, 8, 0, 0, 6, 0, 0, 5, 0, 0, 0, 0, 6, 0, 0, 8, 0, 0, 6, 0, 0, 5, 0, 0, 0, 0, 6, 0, 0, 0, 0, 6, 0, 0, 0, 0, 0, 0, 0, 0, 0, 0, 0, 0, 0, 0, 0, 0, 0, 0, 0, 0, 0, 0, 0, 0, 0, 0, 0, 0, 0, 0, 0, 0, 0, 0, 0, 0, 0, 0, 0, 0, 0, 0, 0, 0, 0, 1, 0, 6, 0, 0, 0, 0, 6, 0, 0, 0, 0, 6, 0, 0, 0, 0, 6, 0, 0, 0, 0, 6, 0, 0, 0, 0, 6, 0, 0, 0, 0, 6, 0, 0, 0, 0, 6, 0, 0, 0, 0, 2, 0, 6, 0, 0, 0, 0, 6, 0, 0, 0, 8, 0, 0]
def s0C : Mem := fun j => match s0T.getD j 0 with
  | 6 => fun k => if k = 2 then lim8 6 else 0
  | 8 => fun k => if k = 2 then lim8 8 else 0
  | 5 => fun k => if k = 2 then lim8 5 else 0
  | 1 => fun k => ([84, 89, 94, 99, 104, 109, 114, 119] : List Int32).getD k 0
  | 2 => fun k => ([126, 131] : List Int32).getD k 0
  | _ => fun _ => 0
def adC (a q11 : Nat) (u2 u4 u6 u8 u10 u13 u15 u17 u19 u21 u23 u25 u27 : Nat → Nat) : Nat → Nat := fun j => ([a, u2 0, u2 1, u4 0, u4 1, u4 2, u4 3, u4 4, u4 5, u4 6, u4 7, u4 8, u4 9, u4 10, u4 11, u4 12, u4 13, u6 0, u6 1, u6 2, u6 3, u6 4, u6 5, u6 6, u6 7, u6 8, u6 9, u6 10, u6 11, u6 12, u6 13, u8 0, u8 1, u8 2, u8 3, u8 4, u10 0, u10 1, u10 2, u10 3, u10 4, q11, u21 0, u21 1, u21 2, u21 3, u21 4, u21 5, u21 6, u21 7, u23 0, u23 1, u23 2, u23 3, u23 4, u23 5, u23 6, u23 7, u25 0, u25 1, u25 2, u25 3, u25 4, u25 5, u25 6, u25 7, u27 0, u27 1, u27 2, u27 3, u27 4, u27 5, u27 6, u27 7, u13 0, u13 1, u13 2, u13 3, u13 4, u13 5, u13 6, u13 7, u15 0, u15 1, u15 2, u15 3, u15 4, u15 5, u15 6, u15 7, u15 8, u15 9, u15 10, u15 11, u15 12, u15 13, u15 14, u15 15, u15 16, u15 17, u15 18, u15 19, u15 20, u15 21, u15 22, u15 23, u15 24, u15 25, u15 26, u15 27, u15 28, u15 29, u15 30, u15 31, u15 32, u15 33, u15 34, u15 35, u15 36, u15 37, u15 38, u15 39, u15 40, u15 41, u17 0, u17 1, u17 2, u17 3, u17 4, u17 5, u17 6, u17 7, u17 8, u17 9, u17 10, u17 11, u19 0, u19 1, u19 2] : List Nat).getD j 0
set_option maxHeartbeats 4000000 in
set_option maxRecDepth 100000 in
theorem sgC_0 (w : WV) (a q11 : Nat) (u2 u4 u6 u8 u10 u13 u15 u17 u19 u21 u23 u25 u27 : Nat → Nat) : wl EC [0] (w.1, w.2.1, adC a q11 u2 u4 u6 u8 u10 u13 u15 u17 u19 u21 u23 u25 u27) s0C = [(a, .inr (6, [.ref (u2 0), .ref (u4 0), .ref (u6 0), .ref (u8 0), .ref (u10 0), .ref (q11), .ref (u13 0), .ref (u15 0), .ref (u17 0), .ref (u19 0), .int 0, .int 0, .int 0]))] := rfl
set_option maxHeartbeats 4000000 in
set_option maxRecDepth 100000 in
theorem sgC_1 (w : WV) (a q11 : Nat) (u2 u4 u6 u8 u10 u13 u15 u17 u19 u21 u23 u25 u27 : Nat → Nat) : wl EC [1, 2] (w.1, w.2.1, adC a q11 u2 u4 u6 u8 u10 u13 u15 u17 u19 u21 u23 u25 u27) s0C = lst5 w u2 := rfl
set_option maxHeartbeats 4000000 in
set_option maxRecDepth 100000 in
theorem sgC_2 (w : WV) (a q11 : Nat) (u2 u4 u6 u8 u10 u13 u15 u17 u19 u21 u23 u25 u27 : Nat → Nat) : wl EC [3, 4, 5, 6, 7, 8, 9, 10, 11, 12, 13, 14, 15, 16] (w.1, w.2.1, adC a q11 u2 u4 u6 u8 u10 u13 u15 u17 u19 u21 u23 u25 u27) s0C = lst0 w u4 := rfl
set_option maxHeartbeats 4000000 in
set_option maxRecDepth 100000 in
theorem sgC_3 (w : WV) (a q11 : Nat) (u2 u4 u6 u8 u10 u13 u15 u17 u19 u21 u23 u25 u27 : Nat → Nat) : wl EC [17, 18, 19, 20, 21, 22, 23, 24, 25, 26, 27, 28, 29, 30] (w.1, w.2.1, adC a q11 u2 u4 u6 u8 u10 u13 u15 u17 u19 u21 u23 u25 u27) s0C = lst0 w u6 := rfl
set_option maxHeartbeats 4000000 in
set_option maxRecDepth 100000 in
theorem sgC_4 (w : WV) (a q11 : Nat) (u2 u4 u6 u8 u10 u13 u15 u17 u19 u21 u23 u25 u27 : Nat → Nat) : wl EC [31, 32, 33, 34, 35] (w.1, w.2.1, adC a q11 u2 u4 u6 u8 u10 u13 u15 u17 u19 u21 u23 u25 u27) s0C = lst4 w u8 := rfl
set_option maxHeartbeats 4000000 in
set_option maxRecDepth 100000 in
theorem sgC_5 (w : WV) (a q11 : Nat) (u2 u4 u6 u8 u10 u13 u15 u17 u19 u21 u23 u25 u27 : Nat → Nat) : wl EC [36, 37, 38, 39, 40] (w.1, w.2.1, adC a q11 u2 u4 u6 u8 u10 u13 u15 u17 u19 u21 u23 u25 u27) s0C = lst4 w u10 := rfl
set_option maxHeartbeats 4000000 in
set_option maxRecDepth 100000 in
theorem sgC_6 (w : WV) (a q11 : Nat) (u2 u4 u6 u8 u10 u13 u15 u17 u19 u21 u23 u25 u27 : Nat → Nat) : wl EC [41] (w.1, w.2.1, adC a q11 u2 u4 u6 u8 u10 u13 u15 u17 u19 u21 u23 u25 u27) s0C = [(q11, .inl (w.2.1 2, 4, .inr (.inr (.inr (.inr (fun i => some (adC a q11 u2 u4 u6 u8 u10 u13 u15 u17 u19 u21 u23 u25 u27 (42 + 8 * i))))))))] := rfl
set_option maxHeartbeats 4000000 in
set_option maxRecDepth 100000 in
theorem sgC_7 (w : WV) (a q11 : Nat) (u2 u4 u6 u8 u10 u13 u15 u17 u19 u21 u23 u25 u27 : Nat → Nat) : wl EC [42, 43, 44, 45, 46, 47, 48, 49] (w.1, w.2.1, adC a q11 u2 u4 u6 u8 u10 u13 u15 u17 u19 u21 u23 u25 u27) s0C = lst1 w (u4 0) (u8 0) u21 := rfl
set_option maxHeartbeats 4000000 in
set_option maxRecDepth 100000 in
theorem sgC_8 (w : WV) (a q11 : Nat) (u2 u4 u6 u8 u10 u13 u15 u17 u19 u21 u23 u25 u27 : Nat → Nat) : wl EC [50, 51, 52, 53, 54, 55, 56, 57] (w.1, w.2.1, adC a q11 u2 u4 u6 u8 u10 u13 u15 u17 u19 u21 u23 u25 u27) s0C = lst1 w (u4 0) (u8 0) u23 := rfl
set_option maxHeartbeats 4000000 in
set_option maxRecDepth 100000 in
theorem sgC_9 (w : WV) (a q11 : Nat) (u2 u4 u6 u8 u10 u13 u15 u17 u19 u21 u23 u25 u27 : Nat → Nat) : wl EC [58, 59, 60, 61, 62, 63, 64, 65] (w.1, w.2.1, adC a q11 u2 u4 u6 u8 u10 u13 u15 u17 u19 u21 u23 u25 u27) s0C = lst1 w (u4 0) (u8 0) u25 := rfl
set_option maxHeartbeats 4000000 in
set_option maxRecDepth 100000 in
theorem sgC_10 (w : WV) (a q11 : Nat) (u2 u4 u6 u8 u10 u13 u15 u17 u19 u21 u23 u25 u27 : Nat → Nat) : wl EC [66, 67, 68, 69, 70, 71, 72, 73] (w.1, w.2.1, adC a q11 u2 u4 u6 u8 u10 u13 u15 u17 u19 u21 u23 u25 u27) s0C = lst1 w (u4 0) (u8 0) u27 := rfl
set_option maxHeartbeats 4000000 in
set_option maxRecDepth 100000 in
theorem sgC_11 (w : WV) (a q11 : Nat) (u2 u4 u6 u8 u10 u13 u15 u17 u19 u21 u23 u25 u27 : Nat → Nat) : wl EC [74, 75, 76, 77, 78, 79, 80, 81] (w.1, w.2.1, adC a q11 u2 u4 u6 u8 u10 u13 u15 u17 u19 u21 u23 u25 u27) s0C = lst1 w (u4 0) (u10 0) u13 := rfl
set_option maxHeartbeats 4000000 in
set_option maxRecDepth 100000 in
theorem sgC_12 (w : WV) (a q11 : Nat) (u2 u4 u6 u8 u10 u13 u15 u17 u19 u21 u23 u25 u27 : Nat → Nat) : wl EC [82, 83, 84, 85, 86, 87, 88, 89, 90, 91, 92, 93, 94, 95, 96, 97, 98, 99, 100, 101, 102, 103, 104, 105, 106, 107, 108, 109, 110, 111, 112, 113, 114, 115, 116, 117, 118, 119, 120, 121, 122, 123] (w.1, w.2.1, adC a q11 u2 u4 u6 u8 u10 u13 u15 u17 u19 u21 u23 u25 u27) s0C = (u15 0, .inr (3, [.ref (u15 1), .int 0])) :: ([(u15 1, .inl (w.2.1 3, 8, .inr (.inr (.inr (.inr (fun i => some (adC a q11 u2 u4 u6 u8 u10 u13 u15 u17 u19 u21 u23 u25 u27 ((s0C 83 i).toNatClampNeg))))))))] ++ lst4 w (fun j => u15 (j + 2)) ++ lst4 w (fun j => u15 (j + 7)) ++ lst4 w (fun j => u15 (j + 12)) ++ lst4 w (fun j => u15 (j + 17)) ++ lst4 w (fun j => u15 (j + 22)) ++ lst4 w (fun j => u15 (j + 27)) ++ lst4 w (fun j => u15 (j + 32)) ++ lst4 w (fun j => u15 (j + 37))) := rfl
set_option maxHeartbeats 4000000 in
set_option maxRecDepth 100000 in
theorem sgC_13 (w : WV) (a q11 : Nat) (u2 u4 u6 u8 u10 u13 u15 u17 u19 u21 u23 u25 u27 : Nat → Nat) : wl EC [124, 125, 126, 127, 128, 129, 130, 131, 132, 133, 134, 135] (w.1, w.2.1, adC a q11 u2 u4 u6 u8 u10 u13 u15 u17 u19 u21 u23 u25 u27) s0C = (u17 0, .inr (3, [.ref (u17 1), .int 0])) :: ([(u17 1, .inl (w.2.1 3, 2, .inr (.inr (.inr (.inr (fun i => some (adC a q11 u2 u4 u6 u8 u10 u13 u15 u17 u19 u21 u23 u25 u27 ((s0C 125 i).toNatClampNeg))))))))] ++ lst4 w (fun j => u17 (j + 2)) ++ lst4 w (fun j => u17 (j + 7))) := rfl
set_option maxHeartbeats 4000000 in
set_option maxRecDepth 100000 in
theorem sgC_14 (w : WV) (a q11 : Nat) (u2 u4 u6 u8 u10 u13 u15 u17 u19 u21 u23 u25 u27 : Nat → Nat) : wl EC [136, 137, 138] (w.1, w.2.1, adC a q11 u2 u4 u6 u8 u10 u13 u15 u17 u19 u21 u23 u25 u27) s0C = lst2 w (lim8 8) u19 := rfl
