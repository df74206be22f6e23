/-! WHAT HOLDS BETWEEN CALLS. B the book (rows 0 to 4, 8 as in P; B 0 7 odds, B 9 minutes, B 10 tenths), D the stand (0 to 5 late, 6 closings, 7.. from, 13.. to), l X the text, m U what can be undone, m2 V kept, q Z Y seen -/
def pm (B : PS) (D : Nat → Nat) : PS := fun j k => if j = 0 ∧ k = 2 then D 6 else if j = 5 then (if k < 6 then D k else 0) else if j = 6 then (if k < D 6 then D (7 + k) else 0) else if j = 7 then (if k < D 6 then D (13 + k) else 0) else B j k
def DB (D : Nat → Nat) : Prop := (∀ i, i < 6 → D i ≤ 30) ∧ D 6 ≤ 6 ∧ ∀ k, k < D 6 → D (7 + k) ≤ 60 ∧ D (13 + k) ≤ 60
def BB (B : PS) : Prop := (1 ≤ B 0 0 ∧ B 0 0 ≤ 6 ∧ B 0 1 ≤ 8 ∧ 1 ≤ B 0 3 ∧ B 0 3 ≤ 9 ∧ B 0 4 ≤ 99 ∧ 1 ≤ B 0 5 ∧ B 0 5 ≤ 99 ∧ B 0 6 ≤ 99 ∧ B 0 7 ≤ 5) ∧ (∀ i, B 1 i ≤ 59 ∧ B 2 i ≤ 2 ∧ B 3 i ≤ 59 ∧ B 4 i ≤ 3 ∧ B 8 i ≤ 9 ∧ B 9 i ≤ 9 ∧ B 10 i ≤ 10) ∧ (0 < B 0 7 → sumN (B 0 7) (fun k => (B 10 k : Int)) = 10)
theorem PB_pm {B : PS} {D : Nat → Nat} (hB : BB B) (hD : DB D) : PB (pm B D) := by
  obtain ⟨⟨a1, a2, a3, a4, a5, a6, a7, a8, a9, a10⟩, b, -⟩ := hB
  obtain ⟨d1, d2, d3⟩ := hD
  refine ⟨a1, a2, a3, d2, a4, a5, a6, a7, a8, a9, fun i => ⟨(b i).1, (b i).2.1, (b i).2.2.1, (b i).2.2.2.1, ?_, ?_, ?_, (b i).2.2.2.2.1⟩⟩
  · show (if i < 6 then D i else 0) ≤ 30
    split
    · rename_i h; exact d1 i h
    · omega
  · show (if i < D 6 then D (7 + i) else 0) ≤ 60
    split
    · rename_i h; exact (d3 i h).1
    · omega
  · show (if i < D 6 then D (13 + i) else 0) ≤ 60
    split
    · rename_i h; exact (d3 i h).2
    · omega
/-- a row of 19 of the reference holds a stand -/
def RD (σ : Mem) (j o : Nat) (D : Nat → Nat) : Prop := (∀ i, i < 6 → σ j (o + i) = io (D i)) ∧ σ j (o + 6) = io (D 6) ∧ ∀ k, k < D 6 → σ j (o + (7 + k)) = io (D (7 + k)) ∧ σ j (o + (13 + k)) = io (D (13 + k))
def MT (σ : Mem) (l : Nat) (X : Nat → Nat) : Prop := σ 0 0 = io l ∧ ∀ k, k < l → σ 2 k = io (X k)
def MB (σ : Mem) (B : PS) : Prop := (σ 3 0 = io (B 0 0) ∧ σ 6 0 = io (B 0 1) ∧ σ 9 0 = io (B 0 3) ∧ σ 9 1 = io (B 0 4) ∧ σ 9 2 = io (B 0 5) ∧ σ 9 3 = io (B 0 6) ∧ σ 14 0 = io (B 0 7)) ∧ (∀ i, i < B 0 0 → σ 4 i = io (B 1 i) ∧ σ 5 i = io (B 2 i)) ∧ (∀ i, i < B 0 1 → σ 7 i = io (B 3 i) ∧ σ 8 i = io (B 4 i)) ∧ (∀ k, k < 4 → σ 10 k = io (B 8 k)) ∧ (∀ k, k < B 0 7 → σ 15 k = io (B 9 k) ∧ σ 16 k = io (B 10 k))
def MU (σ : Mem) (m : Nat) (U : PS) : Prop := σ 0 18 = io m ∧ ∀ i, i < m → RD σ 18 (19 * i) (U i)
def MK (σ : Mem) (m : Nat) (V : PS) : Prop := σ 0 20 = io m ∧ ∀ i, i < m → RD σ 20 (19 * i) (V i)
def MS (σ : Mem) (q : Nat) (Z Y : Nat → Nat) : Prop := σ 0 21 = io q ∧ ∀ k, k < q → σ 23 k = io (Z k) ∧ σ 24 k = io (Y k)
def IM (σ : Mem) (B : PS) (D : Nat → Nat) (l : Nat) (X : Nat → Nat) (m : Nat) (U : PS) (m2 : Nat) (V : PS) (q : Nat) (Z Y : Nat → Nat) : Prop := MT σ l X ∧ MB σ B ∧ RD σ 17 0 D ∧ MU σ m U ∧ MK σ m2 V ∧ MS σ q Z Y
/-- a stand of the component -/
def SD (σ : Mem) (h : Nat) (D : Nat → Nat) : Prop := (σ (h + 1) 2 = io 6 ∧ σ (h + 1) 3 = io (D 6)) ∧ (∀ i, i < 6 → σ (h + 4) i = io (D i)) ∧ ∀ k, k < D 6 → σ (h + 2) k = io (D (7 + k)) ∧ σ (h + 3) k = io (D (13 + k))
def CT (σ : Mem) (l : Nat) (X : Nat → Nat) : Prop := σ 1 1 = io l ∧ ∀ k, k < l → σ 2 k = io (X k)
def CB (σ : Mem) (B : PS) : Prop := (σ 4 3 = io (B 0 0) ∧ σ 7 3 = io (B 0 1) ∧ σ 3 5 = io (B 0 3) ∧ σ 3 6 = io (B 0 4) ∧ σ 3 7 = io (B 0 5) ∧ σ 3 8 = io (B 0 6) ∧ σ 13 3 = io (B 0 7)) ∧ (∀ i, i < B 0 0 → σ 5 i = io (B 1 i) ∧ σ 6 i = io (B 2 i)) ∧ (∀ i, i < B 0 1 → σ 8 i = io (B 3 i) ∧ σ 9 i = io (B 4 i)) ∧ (∀ k, k < 4 → σ 16 k = io (B 8 k)) ∧ (∀ k, k < B 0 7 → σ 14 k = io (B 9 k) ∧ σ 15 k = io (B 10 k)) ∧ (σ 4 2 = io 6 ∧ σ 7 2 = io 8 ∧ σ 10 2 = io 6 ∧ σ 13 2 = io 5)
def CD (σ : Mem) : Prop := σ 18 2 = io 6 ∧ σ 21 2 = io 8 ∧ σ 24 2 = io 6 ∧ σ 27 2 = io 5
/-- a pile of the component: at h, of N stands from b on, m laid -/
def CP (σ : Mem) (h b N m : Nat) (W : PS) : Prop := ∃ p : Nat → Nat, σ h 1 = io m ∧ (∀ i, i < N → p i < N ∧ σ (h + 1) i = io ((b + 5 * p i : Nat) : Int)) ∧ (∀ i j, i < N → j < N → p i = p j → i = j) ∧ (∀ i, i < N → σ (b + 5 * i + 1) 2 = io 6) ∧ ∀ i, i < m → SD σ (b + 5 * p i) (W i)
def CS (σ : Mem) (q : Nat) (Z Y : Nat → Nat) : Prop := (σ 136 2 = io 8 ∧ σ 136 3 = io q) ∧ ∀ k, k < q → σ 137 k = io (Z k) ∧ σ 138 k = io (Y k)
def CH (σ : Mem) (P : PS) : Prop := ∀ r : Nat, r < 4 → σ (42 + 8 * r) 10 = io 0 ∨ (σ (42 + 8 * r) 10 = io 1 ∧ HourOK σ (42 + 8 * r) P r 0)
def cst (P : PS) (rule n : Int) : Int := costS P (chour P rule n (fun _ _ => 0))
def ldL (P : PS) : Nat → Int
  | 0 => cst P 4 0
  | k + 1 => if cst P 4 ((k + 1 : Nat) : Int) < ldL P k then cst P 4 ((k + 1 : Nat) : Int) else ldL P k
def ldN (P : PS) : Nat → Int
  | 0 => 0
  | k + 1 => if cst P 4 ((k + 1 : Nat) : Int) < ldL P k then ((k + 1 : Nat) : Int) else ldN P k
def CL (σ : Mem) (P : PS) : Prop := σ 0 10 = io 0 ∨ (σ 0 10 = io 1 ∧ σ 0 11 = io (ldN P 99) ∧ σ 0 12 = io (ldL P 99))
def IC (σ : Mem) (B : PS) (D : Nat → Nat) (l : Nat) (X : Nat → Nat) (m : Nat) (U : PS) (m2 : Nat) (V : PS) (q : Nat) (Z Y : Nat → Nat) : Prop := CT σ l X ∧ CB σ B ∧ CD σ ∧ SD σ 31 D ∧ σ 37 2 = io 6 ∧ CH σ (pm B D) ∧ CP σ 82 84 8 m U ∧ CP σ 124 126 2 m2 V ∧ CS σ q Z Y ∧ CL σ (pm B D)
def XB (l : Nat) (X : Nat → Nat) : Prop := l ≤ 200 ∧ ∀ k, k < l → 32 ≤ X k ∧ X k ≤ 126
def UB (N m : Nat) (U : PS) : Prop := m ≤ N ∧ ∀ i, i < m → DB (U i)
def SB (q : Nat) (Z Y : Nat → Nat) : Prop := q ≤ 8 ∧ ∀ k, k < q → Z k < 360 ∧ Y k ≤ 2
def AB (B : PS) (D : Nat → Nat) (l : Nat) (X : Nat → Nat) (m : Nat) (U : PS) (m2 : Nat) (V : PS) (q : Nat) (Z Y : Nat → Nat) : Prop := BB B ∧ DB D ∧ XB l X ∧ UB 8 m U ∧ UB 2 m2 V ∧ SB q Z Y
def Inv (σc σm : Mem) : Prop := ∃ B D l X m U m2 V q Z Y, AB B D l X m U m2 V q Z Y ∧ IC σc B D l X m U m2 V q Z Y ∧ IM σm B D l X m U m2 V q Z Y
def Step (x y : Option (Mem × Int32)) : Prop := ∃ σc σm r, x = some (σc, r) ∧ y = some (σm, r) ∧ Inv σc σm
def Same (x y : Option Int32) : Prop := ∃ r, x = some r ∧ y = some r
section Inv
variable {σ σ' : Mem} {B P : PS} {D : Nat → Nat} {l : Nat} {X : Nat → Nat} {m : Nat} {U : PS} {m2 : Nat} {V : PS} {q : Nat} {Z Y : Nat → Nat}
theorem RD_fr {j o : Nat} (h : σ' j = σ j) (H : RD σ j o D) : RD σ' j o D := by unfold RD at *; rw [h]; exact H
theorem MT_fr (h0 : σ' 0 0 = σ 0 0) (h2 : σ' 2 = σ 2) (H : MT σ l X) : MT σ' l X := by unfold MT at *; rw [h0, h2]; exact H
theorem MB_fr (h : ∀ j, 3 ≤ j → j ≤ 16 → σ' j = σ j) (H : MB σ B) : MB σ' B := by
  unfold MB at *
  rw [h 3 (by omega) (by omega), h 4 (by omega) (by omega), h 5 (by omega) (by omega), h 6 (by omega) (by omega), h 7 (by omega) (by omega), h 8 (by omega) (by omega), h 9 (by omega) (by omega), h 10 (by omega) (by omega), h 14 (by omega) (by omega), h 15 (by omega) (by omega), h 16 (by omega) (by omega)]
  exact H
theorem MU_fr (h0 : σ' 0 18 = σ 0 18) (h : σ' 18 = σ 18) (H : MU σ m U) : MU σ' m U := ⟨by rw [h0]; exact H.1, fun i hi => RD_fr h (H.2 i hi)⟩
theorem MK_fr (h0 : σ' 0 20 = σ 0 20) (h : σ' 20 = σ 20) (H : MK σ m U) : MK σ' m U := ⟨by rw [h0]; exact H.1, fun i hi => RD_fr h (H.2 i hi)⟩
theorem MS_fr (h0 : σ' 0 21 = σ 0 21) (h1 : σ' 23 = σ 23) (h2 : σ' 24 = σ 24) (H : MS σ q Z Y) : MS σ' q Z Y := by unfold MS at *; rw [h0, h1, h2]; exact H
theorem SD_fr {h : Nat} (hf : ∀ j, h + 1 ≤ j → j ≤ h + 4 → σ' j = σ j) (H : SD σ h D) : SD σ' h D := by
  unfold SD at *
  rw [hf (h + 1) (by omega) (by omega), hf (h + 2) (by omega) (by omega), hf (h + 3) (by omega) (by omega), hf (h + 4) (by omega) (by omega)]
  exact H
theorem CT_fr (h1 : σ' 1 1 = σ 1 1) (h2 : σ' 2 = σ 2) (H : CT σ l X) : CT σ' l X := by unfold CT at *; rw [h1, h2]; exact H
theorem CB_fr (h : ∀ j, 3 ≤ j → j ≤ 16 → σ' j = σ j) (H : CB σ B) : CB σ' B := by
  unfold CB at *
  rw [h 3 (by omega) (by omega), h 4 (by omega) (by omega), h 5 (by omega) (by omega), h 6 (by omega) (by omega), h 7 (by omega) (by omega), h 8 (by omega) (by omega), h 9 (by omega) (by omega), h 10 (by omega) (by omega), h 13 (by omega) (by omega), h 14 (by omega) (by omega), h 15 (by omega) (by omega), h 16 (by omega) (by omega)]
  exact H
theorem CD_fr (h : ∀ j, 17 ≤ j → j ≤ 30 → σ' j = σ j) (H : CD σ) : CD σ' := by
  unfold CD at *
  rw [h 18 (by omega) (by omega), h 21 (by omega) (by omega), h 24 (by omega) (by omega), h 27 (by omega) (by omega)]
  exact H
theorem CP_fr {h b N : Nat} (hb : b = h + 2) (hf : ∀ j, h ≤ j → j ≤ h + 1 + 5 * N → σ' j = σ j) (hm : m ≤ N) (H : CP σ h b N m U) : CP σ' h b N m U := by
  obtain ⟨p, h1, h2, h3, h4, h5⟩ := H
  refine ⟨p, ?_, fun i hi => ?_, h3, fun i hi => ?_, fun i hi => ?_⟩
  · rw [hf h (by omega) (by omega)]; exact h1
  · rw [hf (h + 1) (by omega) (by omega)]; exact h2 i hi
  · rw [hf (b + 5 * i + 1) (by omega) (by omega)]; exact h4 i hi
  · have := (h2 i (by omega)).1
    exact SD_fr (fun j z1 z2 => hf j (by omega) (by omega)) (h5 i hi)
theorem CS_fr (h : ∀ j, 136 ≤ j → j ≤ 138 → σ' j = σ j) (H : CS σ q Z Y) : CS σ' q Z Y := by
  unfold CS at *
  rw [h 136 (by omega) (by omega), h 137 (by omega) (by omega), h 138 (by omega) (by omega)]
  exact H
theorem HourOK_fr {h : Nat} {rule n : Int} (hf : ∀ j, h ≤ j → j ≤ h + 7 → σ' j = σ j) (H : HourOK σ h P rule n) : HourOK σ' h P rule n := by
  intro S0 hs
  have := H S0 hs
  unfold FinM at *
  rw [hf h (by omega) (by omega), hf (h + 1) (by omega) (by omega), hf (h + 4) (by omega) (by omega), hf (h + 5) (by omega) (by omega), hf (h + 6) (by omega) (by omega), hf (h + 7) (by omega) (by omega)]
  exact this
theorem CH_fr (hf : ∀ j, 42 ≤ j → j ≤ 73 → σ' j = σ j) (H : CH σ P) : CH σ' P := by
  intro r hr
  rw [hf (42 + 8 * r) (by omega) (by omega)]
  rcases H r hr with h | h
  · exact Or.inl h
  · exact Or.inr ⟨h.1, HourOK_fr (fun j z1 z2 => hf j (by omega) (by omega)) h.2⟩
theorem CL_fr (h0 : σ' 0 10 = σ 0 10) (h1 : σ' 0 11 = σ 0 11) (h2 : σ' 0 12 = σ 0 12) (H : CL σ P) : CL σ' P := by unfold CL at *; rw [h0, h1, h2]; exact H
theorem PM_of (hM : MB σ B) (hD : RD σ 17 0 D) : PM σ (pm B D) := by
  obtain ⟨⟨a1, a2, a3, a4, a5, a6, a7⟩, b, c, d, e⟩ := hM
  obtain ⟨d1, d2, d3⟩ := hD
  refine ⟨⟨a1, a2, d2, a3, a4, a5, a6⟩, b, c, fun i hi => ?_, fun k hk => ?_, d⟩
  · have := d1 i hi
    rw [Nat.zero_add] at this
    rw [this]
    show _ = io ((if i < 6 then D i else 0 : Nat) : Int)
    rw [if_pos hi]
  · have hk : k < D 6 := hk
    have := d3 k hk
    rw [Nat.zero_add, Nat.zero_add] at this
    show _ = io ((if k < D 6 then D (7 + k) else 0 : Nat) : Int) ∧ _ = io ((if k < D 6 then D (13 + k) else 0 : Nat) : Int)
    rw [if_pos hk, if_pos hk]
    exact this
theorem PC_of {st : Nat} (hB : BB B) (hM : CB σ B) (hD : SD σ st D) : PC σ st (pm B D) := by
  have h6 := hB.1.2.1
  obtain ⟨⟨a1, a2, a3, a4, a5, a6, a7⟩, b, c, d, e, -⟩ := hM
  obtain ⟨d0, d1, d3⟩ := hD
  refine ⟨⟨a1, a2, d0.2, a3, a4, a5, a6⟩, b, c, fun i hi => ?_, fun k hk => ?_, d⟩
  · have hi : i < 6 := Nat.lt_of_lt_of_le hi h6
    rw [d1 i hi]
    show _ = io ((if i < 6 then D i else 0 : Nat) : Int)
    rw [if_pos hi]
  · have hk : k < D 6 := hk
    show _ = io ((if k < D 6 then D (7 + k) else 0 : Nat) : Int) ∧ _ = io ((if k < D 6 then D (13 + k) else 0 : Nat) : Int)
    rw [if_pos hk, if_pos hk]
    exact d3 k hk
theorem IM_ov {S : SS} (H : IM σ B D l X m U m2 V q Z Y) : IM (ov σ S) B D l X m U m2 V q Z Y := by
  obtain ⟨h1, h2, h3, h4, h5, h6⟩ := H
  have f : ∀ j, j ≠ 0 → (j < 27 ∨ 32 < j) → ov σ S j = σ j := fun j z1 z2 => funext fun k => ov_o σ S z1 z2 k
  exact ⟨MT_fr (ov_oo _ _ (by omega)) (f 2 (by omega) (by omega)) h1, MB_fr (fun j z1 z2 => f j (by omega) (by omega)) h2, RD_fr (f 17 (by omega) (by omega)) h3, MU_fr (ov_oo _ _ (by omega)) (f 18 (by omega) (by omega)) h4, MK_fr (ov_oo _ _ (by omega)) (f 20 (by omega) (by omega)) h5, MS_fr (ov_oo _ _ (by omega)) (f 23 (by omega) (by omega)) (f 24 (by omega) (by omega)) h6⟩
/-- a component's memory that holds P -/
def mC (P : PS) : Mem := fun j k => if j = 4 then io (P 0 0) else if j = 7 then io (P 0 1) else if j = 32 then io (P 0 2) else if j = 3 then (if k = 5 then io (P 0 3) else if k = 6 then io (P 0 4) else if k = 7 then io (P 0 5) else io (P 0 6)) else if j = 5 then io (P 1 k) else if j = 6 then io (P 2 k) else if j = 8 then io (P 3 k) else if j = 9 then io (P 4 k) else if j = 35 then io (P 5 k) else if j = 33 then io (P 6 k) else if j = 34 then io (P 7 k) else io (P 8 k)
theorem PC_mC (P : PS) : PC (mC P) 31 P := ⟨⟨rfl, rfl, rfl, rfl, rfl, rfl, rfl⟩, fun _ _ => ⟨rfl, rfl⟩, fun _ _ => ⟨rfl, rfl⟩, fun _ _ => rfl, fun _ _ => ⟨rfl, rfl⟩, fun _ _ => rfl⟩
theorem cst_eq (hB : PB P) {rule n : Int} (r0 : 0 ≤ rule) (r1 : rule ≤ 4) (n0' : 0 ≤ n) (n1' : n < 400) : (0 ≤ cst P rule n ∧ cst P rule n ≤ 300000) ∧ ∀ S0, ok2 S0 → costS P (chour P rule n S0) = cst P rule n := by
  obtain ⟨σ', -, -, -, ⟨z, -, z0, z1, hz⟩, -⟩ := c_run (σ := mC P) (h := 42) (st := 31) (e := 1000000) hB (PC_mC P) (by omega) (by omega) rfl r0 r1 n0' n1' (by omega) (by omega)
  have key : ∀ S0, ok2 S0 → costS P (chour P rule n S0) = z := fun S0 hs => by
    have := hz S0 hs
    by_cases c : costS P (chour P rule n S0) < 1000000
    · exact (this.1 c).symm
    · have := this.2 (by omega)
      omega
  have h0 : cst P rule n = z := key _ ⟨by decide, by decide⟩
  rw [h0]
  exact ⟨⟨z0, z1⟩, fun S0 hs => key S0 hs⟩
theorem c_run2 {h st : Nat} {rule n : Int} (hB : PB P) (hP : PC σ st P) (h42 : 42 ≤ h) (hst36 : st ≤ 36) (hh : hst h = st) (r0 : 0 ≤ rule) (r1 : rule ≤ 4) (n0' : 0 ≤ n) (n1' : n < 400) {e : Int} (e0 : 0 ≤ e) (e1 : e ≤ 1000000) : ∃ σ', f1_run σ h (io rule) (io n) (io e) = some σ' ∧ (∀ j, (j < h ∨ h + 7 < j) → σ' j = σ j) ∧ σ' h 10 = io 1 ∧ (∃ z, σ' h 12 = io z ∧ 0 ≤ z ∧ z ≤ 300000 ∧ (cst P rule n < e → z = cst P rule n) ∧ (e ≤ cst P rule n → e ≤ z)) ∧ (cst P rule n < e → HourOK σ' h P rule n) := by
  obtain ⟨σ', x, fr, t10, ⟨z, hz, z0, z1, hs⟩, hF⟩ := c_run hB hP h42 hst36 hh r0 r1 n0' n1' e0 e1
  have hc := cst_eq hB r0 r1 n0' n1'
  refine ⟨σ', x, fun j hj => funext fun k => fr j k hj, t10, ⟨z, hz, z0, z1, hs _ ⟨by decide, by decide⟩⟩, fun h1 S0 h2 => ?_⟩
  exact hF S0 h2 (by rw [hc.2 S0 h2]; exact h1)
end Inv
