-- ===== ints =====
def iI (z : Int) : Int32 := Int32.ofInt z
def lJ (z : Int) : Int64 := Int64.ofInt z
abbrev fit (z : Int) : Prop := -2147483648 ≤ z ∧ z < 2147483648
theorem iI_toInt {z : Int} (h : fit z) : (iI z).toInt = z := Int32.toInt_ofInt_of_le (by omega) (by omega)
theorem iI_inj {a b : Int} (ha : fit a) (hb : fit b) : iI a = iI b ↔ a = b := ⟨fun h => by rw [← iI_toInt ha, ← iI_toInt hb, h], fun h => by rw [h]⟩
theorem iI_le {a b : Int} (ha : fit a) (hb : fit b) : iI a ≤ iI b ↔ a ≤ b := by rw [Int32.le_iff_toInt_le, iI_toInt ha, iI_toInt hb]
theorem iI_lt {a b : Int} (ha : fit a) (hb : fit b) : iI a < iI b ↔ a < b := by rw [Int32.lt_iff_toInt_lt, iI_toInt ha, iI_toInt hb]
theorem iI_add (a b : Int) : iI a + iI b = iI (a + b) := (Int32.ofInt_add a b).symm
theorem iI_sub (a b : Int) : iI a - iI b = iI (a - b) := (Int32.ofInt_sub a b).symm
theorem iI_mul (a b : Int) : iI a * iI b = iI (a * b) := (Int32.ofInt_mul a b).symm
theorem iI_neg (a : Int) : -iI a = iI (-a) := (Int32.ofInt_neg a).symm
theorem iI_of (x : Int32) : ∃ z : Int, fit z ∧ x = iI z := ⟨x.toInt, ⟨Int32.le_toInt x, Int32.toInt_lt x⟩, (Int32.ofInt_toInt x).symm⟩
theorem iI_0 : iI 0 = 0 := rfl
theorem iI_nat (n : Nat) : Int32.ofNat n = iI (n : Int) := rfl
theorem iI_div {a b : Int} (ha : fit a) (hb : fit b) (h : b ≠ -1) : iI a / iI b = iI (a.tdiv b) := by
  apply Int32.toInt_inj.mp
  rw [Int32.toInt_div_of_ne_right _ _ (by intro h2; apply h; rw [← iI_toInt hb, h2]; rfl), iI_toInt ha, iI_toInt hb]
  refine (iI_toInt ?_).symm
  have h1 : (a.tdiv b).natAbs = a.natAbs / b.natAbs := Int.natAbs_tdiv a b
  have h2 : a.natAbs / b.natAbs ≤ a.natAbs := Nat.div_le_self _ _
  by_cases hz : b = 0
  · subst hz; rw [Int.tdiv_zero]; constructor <;> omega
  by_cases h3 : b = 1
  · subst h3; simpa using ha
  · have h4 : 2 ≤ b.natAbs := by omega
    have h5 : a.natAbs / b.natAbs ≤ a.natAbs / 2 := Nat.div_le_div_left h4 (by omega)
    constructor <;> omega
theorem td_pos {a b : Int} (ha : 0 ≤ a) : a.tdiv b = a / b := Int.tdiv_eq_ediv_of_nonneg ha
theorem iI_divP {a b : Int} (ha : 0 ≤ a) (ha2 : a < 2147483648) (hb : 0 < b) (hb2 : b < 2147483648) : iI a / iI b = iI (a / b) := by
  rw [iI_div ⟨by omega, ha2⟩ ⟨by omega, hb2⟩ (by omega), td_pos ha]
theorem iI_remP {a b : Int} (ha : 0 ≤ a) (ha2 : a < 2147483648) (hb : 0 < b) (hb2 : b < 2147483648) : iI a - iI a / iI b * iI b = iI (a % b) := by
  rw [iI_divP ha ha2 hb hb2, iI_mul, iI_sub, Int.emod_def, Int.mul_comm b]
theorem iI_rem {a b : Int} (ha : fit a) (hb : fit b) (h : b ≠ -1) : iI a - iI a / iI b * iI b = iI (a.tmod b) := by
  rw [iI_div ha hb h, iI_mul, iI_sub, Int.tmod_def, Int.mul_comm b]
theorem iI_cl {z : Int} (h0 : 0 ≤ z) (h : z < 2147483648) : (iI z).toNatClampNeg = z.toNat := by
  show (iI z).toInt.toNat = _
  rw [iI_toInt ⟨by omega, h⟩]
theorem iI_in {z : Int} {n : Nat} (h0 : 0 ≤ z) (h : z < n) (hn : n < 2147483648) : vp_in (iI z) n := by
  rw [vp_in_iff, iI_toInt ⟨by omega, by omega⟩]; exact ⟨h0, h⟩
theorem lJ_add (a b : Int) : lJ a + lJ b = lJ (a + b) := (Int64.ofInt_add a b).symm
theorem lJ_sub (a b : Int) : lJ a - lJ b = lJ (a - b) := (Int64.ofInt_sub a b).symm
theorem lJ_mul (a b : Int) : lJ a * lJ b = lJ (a * b) := (Int64.ofInt_mul a b).symm
abbrev fitL (z : Int) : Prop := -9223372036854775808 ≤ z ∧ z < 9223372036854775808
theorem lJ_toInt {z : Int} (h : fitL z) : (lJ z).toInt = z := Int64.toInt_ofInt_of_le (by omega) (by omega)
theorem lJ_i2l {z : Int} (h : fit z) : (iI z).toInt64 = lJ z := by
  apply Int64.toInt_inj.mp
  rw [Int32.toInt_toInt64, iI_toInt h, lJ_toInt ⟨by omega, by omega⟩]
theorem lJ_l2i (z : Int) : (lJ z).toInt32 = iI z := Int64.toInt32_ofInt
theorem lJ_le {a b : Int} (ha : fitL a) (hb : fitL b) : lJ a ≤ lJ b ↔ a ≤ b := by rw [Int64.le_iff_toInt_le, lJ_toInt ha, lJ_toInt hb]
theorem lJ_lt {a b : Int} (ha : fitL a) (hb : fitL b) : lJ a < lJ b ↔ a < b := by rw [Int64.lt_iff_toInt_lt, lJ_toInt ha, lJ_toInt hb]
theorem lJ_inj {a b : Int} (ha : fitL a) (hb : fitL b) : lJ a = lJ b ↔ a = b := ⟨fun h => by rw [← lJ_toInt ha, ← lJ_toInt hb, h], fun h => by rw [h]⟩
-- ===== the abstract heap: kinds, ints, refs =====
abbrev zcl : List vw_C := [(RX0, TX0, 3), (RX2, TX2, 4), (RX3, TX3, 3), (RX4, TX4, 7), (RX5, TX5, 18), (RX6, TX6, 6), (RX7, TX7, 8), (RX8, TX8, 8)]
def zft : List (List Nat) := [[1, 0, 0], [0, 0, 1, 0], [0, 0, 0], [0, 1, 0, 1, 1, 1, 0], [1, 0, 0, 0, 0, 0, 0, 1, 1, 0, 0, 0, 0, 1, 0, 1, 0, 0], [0, 0, 1, 0, 0, 0], [0, 1, 0, 0, 0, 1, 0, 1], [1, 0, 1, 0, 1, 0, 1, 1]]
abbrev zG : Type := va_G × (Nat → ClassId)
abbrev zK : Type := Nat → Nat × Nat
abbrev zX : Type := Nat → Nat → Int
abbrev zR : Type := Nat → Nat → Option Nat
def zv (t : Nat) (x : Int) (r : Option Nat) : Value := match t with
  | 0 => .int (iI x)
  | 1 => va_rf r
  | _ => .long (lJ x)
def zfl : List Nat → (Nat → Int) → (Nat → Option Nat) → List Value
  | [], _, _ => []
  | t :: ts, x, r => zv t (x 0) (r 0) :: zfl ts (fun k => x (k + 1)) (fun k => r (k + 1))
theorem zfl_get : ∀ (ts : List Nat) (x : Nat → Int) (r : Nat → Option Nat) (k t : Nat), ts[k]? = some t → (zfl ts x r)[k]? = some (zv t (x k) (r k))
  | [], _, _, _, _, h => by simp at h
  | _ :: _, _, _, 0, _, h => by cases h; rfl
  | _ :: ts, x, r, k + 1, t, h => zfl_get ts (fun k => x (k + 1)) (fun k => r (k + 1)) k t h
theorem zfl_set : ∀ (ts : List Nat) (x x' : Nat → Int) (r r' : Nat → Option Nat) (k t : Nat), ts[k]? = some t → (∀ j, j ≠ k → x' j = x j) → (∀ j, j ≠ k → r' j = r j) → (zfl ts x r).set k (zv t (x' k) (r' k)) = zfl ts x' r'
  | [], _, _, _, _, _, _, h, _, _ => by simp at h
  | t0 :: ts, x, x', r, r', 0, _, h, hx, hr => by
    cases h
    have e1 : (fun k => x (k + 1)) = (fun k => x' (k + 1)) := funext fun j => (hx (j + 1) (by omega)).symm
    have e2 : (fun k => r (k + 1)) = (fun k => r' (k + 1)) := funext fun j => (hr (j + 1) (by omega)).symm
    simp only [zfl, List.set_cons_zero, e1, e2]
  | t0 :: ts, x, x', r, r', k + 1, t, h, hx, hr => by
    have := zfl_set ts (fun k => x (k + 1)) (fun k => x' (k + 1)) (fun k => r (k + 1)) (fun k => r' (k + 1)) k t h (fun j hj => hx (j + 1) (by omega)) (fun j hj => hr (j + 1) (by omega))
    simp only [zfl, List.set_cons_succ, this, hx 0 (by omega), hr 0 (by omega)]
theorem zfl_len : ∀ (ts : List Nat) (x : Nat → Int) (r : Nat → Option Nat), (zfl ts x r).length = ts.length
  | [], _, _ => rfl
  | _ :: ts, _, _ => by simp only [zfl, List.length_cons, zfl_len ts]
def zc (Γ : zG) (K : zK) (X : zX) (R : zR) (a : Nat) : va_E :=
  if (K a).1 = 1 then .inr ((K a).2, zfl (zft.getD (K a).2 []) (X a) (R a))
  else if (K a).1 = 2 then .inl (Γ.2 0, (K a).2, .inl (fun j => iI (X a j)))
  else if (K a).1 = 3 then .inl (Γ.2 1, (K a).2, .inl (fun j => iI (X a j)))
  else if (K a).1 = 4 then .inl (Γ.2 2, (K a).2, .inr (.inl (fun j => lJ (X a j))))
  else if (K a).1 = 5 then .inl (Γ.2 3, (K a).2, .inr (.inr (.inr (.inl (fun j => UInt64.ofNat (X a j).toNat)))))
  else .inl (Γ.2 ((K a).1 - 2), (K a).2, .inr (.inr (.inr (.inr (R a)))))
def ztys (cA : Nat → ClassId) : List (ClassId × FieldType) := [(cA 0, .int), (cA 1, .byte), (cA 2, .int), (cA 3, .int), (cA 4, .object RX3), (cA 5, .object RX4), (cA 6, .object RX5), (cA 7, .object RX6), (cA 8, .object RX2), (cA 9, .int)]
def zAOs (U : State) : Prop := va_AO RX2 U ∧ va_AO RX3 U ∧ va_AO RX4 U ∧ va_AO RX5 U ∧ va_AO RX6 U ∧ True
def zKn (Γ : zG) (U : State) : Prop := va_K Γ.1 zcl (ztys Γ.2) U ∧ True ∧ zAOs U
theorem zKn.moved {Γ : zG} {u U : State} (hvm : u.vm.Alike U.vm) (h : zKn Γ u) : zKn Γ U := by
  obtain ⟨h1, -, g1, g2, g3, g4, g5, -⟩ := h
  exact ⟨h1.moved hvm, trivial, g1.moved hvm, g2.moved hvm, g3.moved hvm, g4.moved hvm, g5.moved hvm, trivial⟩
def zP (Γ : zG) (A : Nat → Prop) (K : zK) (X : zX) (R : zR) (H : Heap) : Prop :=
  ∃ L : List Nat, (∀ a, a ∈ L ↔ (K a).1 ≠ 0) ∧ va_P Γ.1 zcl ([] ++ va_pl L (zc Γ K X R)) H ∧ va_D A ([] ++ va_pl L (zc Γ K X R))
def zA (K : zK) (sz : Nat) : Nat → Prop := fun q => (K q).1 ≠ 0 ∨ sz ≤ q
def Wd (Γ : zG) (A : Nat → Prop) (K : zK) (X : zX) (R : zR) (s : State) (H : Heap) (locs : List Loc) : Prop :=
  zKn Γ s ∧ (∀ q, s.heap.size ≤ q → A q) ∧ va_S A s.heap H locs ∧ zP Γ A K X R H
theorem zP.weaken {Γ : zG} {A B : Nat → Prop} {K : zK} {X : zX} {R : zR} {H : Heap} (h : zP Γ A K X R H) (hAB : ∀ q, (K q).1 ≠ 0 → B q) : zP Γ B K X R H := by
  obtain ⟨L, h1, h2, h3⟩ := h
  refine ⟨L, h1, h2, h3.1, fun k q hk => ?_⟩
  have : q.1 ∈ L := by
    have hm := List.mem_of_getElem? hk
    simp only [List.nil_append, va_pl, List.mem_map] at hm
    obtain ⟨a, ha, rfl⟩ := hm
    exact ha
  exact hAB _ ((h1 _).mp this)
theorem zP.lt {Γ : zG} {A : Nat → Prop} {K : zK} {X : zX} {R : zR} {H : Heap} (h : zP Γ A K X R H) {a : Nat} (ha : (K a).1 ≠ 0) : a < H.size := by
  obtain ⟨L, h1, h2, h3⟩ := h
  exact va_pl_lt h2 ((h1 a).mpr ha)
theorem zP.inA {Γ : zG} {A : Nat → Prop} {K : zK} {X : zX} {R : zR} {H : Heap} (h : zP Γ A K X R H) {a : Nat} (ha : (K a).1 ≠ 0) : A a := by
  obtain ⟨L, h1, h2, h3⟩ := h
  obtain ⟨k, hk⟩ := va_pl_get (X := []) (f := zc Γ K X R) ((h1 a).mpr ha)
  exact h3.2 k _ hk
/-- up to what the world says at its own addresses -/
theorem zP.kept {Γ : zG} {A : Nat → Prop} {K : zK} {X : zX} {R : zR} {H H1 : Heap} (h : zP Γ A K X R H) (hq : ∀ a, (K a).1 ≠ 0 → H1[a]? = H[a]?) : zP Γ A K X R H1 := by
  obtain ⟨L, h1, h2, h3⟩ := h
  refine ⟨L, h1, fun k q hk => ?_, h3⟩
  have hm := List.mem_of_getElem? hk
  simp only [List.nil_append, va_pl, List.mem_map] at hm
  obtain ⟨a, ha, rfl⟩ := hm
  exact (h2 k _ hk).kept (hq a ((h1 a).mp ha))
def zW (Γ : zG) (A : Nat → Prop) (K : zK) (X : zX) (R : zR) (U : State) : Prop := zKn Γ U ∧ zP Γ A K X R U.heap
def up2 {α : Type} (X : Nat → Nat → α) (a k : Nat) (z : α) : Nat → Nat → α := fun b j => if b = a ∧ j = k then z else X b j
theorem up2_s {α : Type} {X : Nat → Nat → α} {a k : Nat} {z : α} : up2 X a k z a k = z := by simp [up2]
theorem up2_a {α : Type} {X : Nat → Nat → α} {a b k j : Nat} {z : α} (h : b ≠ a) : up2 X a k z b j = X b j := by simp [up2, h]
theorem up2_k {α : Type} {X : Nat → Nat → α} {a b k j : Nat} {z : α} (h : j ≠ k) : up2 X a k z b j = X b j := by simp [up2, h]
