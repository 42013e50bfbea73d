-- ===== the reference: days =====
def lenM (y m : Int) : Int := if m = 2 then (if y % 4 = 0 ∧ y ≠ 0 then 29 else 28) else if m = 4 ∨ m = 6 ∨ m = 9 ∨ m = 11 then 30 else 31
theorem mB_jan {y : Int} (h0 : 0 ≤ y) (h : y < 200) : mB (12 * y) = yb y := by
  have e := mB_ym (y := y) (m := 0) h0 h (by omega) (by omega)
  rw [cum_0] at e
  rw [show 12 * y = 12 * y + 0 by omega, e]; omega
theorem mB_dec {y : Int} (h0 : 0 ≤ y) (h : y < 200) : mB (12 * y + 12) = yb (y + 1) := by
  rw [mB_ym h0 h (by omega) (by omega), cum_12, yb_succ y h0]; omega
theorem lenM_cum {y m : Int} (h1 : 1 ≤ m) (h2 : m ≤ 12) : lenM y m = cum y m - cum y (m - 1) := by
  rcases (by omega : m = 1 ∨ m = 2 ∨ m = 3 ∨ m = 4 ∨ m = 5 ∨ m = 6 ∨ m = 7 ∨ m = 8 ∨ m = 9 ∨ m = 10 ∨ m = 11 ∨ m = 12) with rfl | rfl | rfl | rfl | rfl | rfl | rfl | rfl | rfl | rfl | rfl | rfl <;> simp [lenM, cum, lpy] <;> (try split) <;> omega
theorem lenM_mB {year month : Int} (hy : 1900 ≤ year ∧ year ≤ 2099) (hm : 1 ≤ month ∧ month ≤ 12) : lenM (year - 1900) month = mB (12 * (year - 1900) + month - 1 + 1) - mB (12 * (year - 1900) + month - 1) := by
  rw [show 12 * (year - 1900) + month - 1 + 1 = 12 * (year - 1900) + month by omega, show 12 * (year - 1900) + month - 1 = 12 * (year - 1900) + (month - 1) by omega, mB_ym (by omega) (by omega) (by omega) (by omega), mB_ym (by omega) (by omega) (by omega) (by omega), lenM_cum hm.1 hm.2]; omega
theorem lenM_rng (y m : Int) : 28 ≤ lenM y m ∧ lenM y m ≤ 31 := by unfold lenM; (repeat' split) <;> omega
theorem yb_ge {y : Int} : 365 * y ≤ yb y := by unfold yb; split <;> omega
theorem yb_rng {y : Int} (h0 : 0 ≤ y) (h : y ≤ 200) : 0 ≤ yb y ∧ yb y ≤ 73049 := by unfold yb; split <;> omega
theorem est_rng (y : Int) : 0 ≤ est y ∧ est y ≤ 73079 := by
  have := mB_rng (12 * (y - 1900) + estf y / 31 - 1)
  unfold est; omega
theorem up2_up2 {α : Type} {X : Nat → Nat → α} {a k : Nat} {z w : α} : up2 (up2 X a k z) a k w = up2 X a k w := by
  funext b j; unfold up2; split <;> rfl
/-- a pattern of the reference -/
def pfX (X : zX) (a2 a3 a4 k : Nat) : Nat → Int := fun q => if q = 0 then X a2 k else if q = 1 then X a3 k else X a4 k
theorem pfX_congr {X X' : zX} {a2 a3 a4 : Nat} (h2 : X' a2 = X a2) (h3 : X' a3 = X a3) (h4 : X' a4 = X a4) (k : Nat) : pfX X' a2 a3 a4 k = pfX X a2 a3 a4 k := by unfold pfX; rw [h2, h3, h4]
theorem told16 {P : Nat → Int} {y m d : Int} (h1 : P 1 = 16) (h0 : P 0 = 0) (hy : 1900 ≤ y ∧ y ≤ 2099) (hm : 1 ≤ m ∧ m ≤ 12) (hd : d = est y + P 2 - 100) : told P (12 * (y - 1900) + m - 1) = if (0 ≤ d ∧ d ≤ 73048) ∧ 1900 + yr d = y ∧ mi d % 12 + 1 = m then d else -1 := by
  obtain ⟨i, hi⟩ : ∃ i, i = 12 * (y - 1900) + m - 1 := ⟨_, rfl⟩
  rw [← hi]
  have hs := mB_succ (i := i) (by omega) (by omega)
  have hr := mB_rng i
  have hr2 := mB_rng (i + 1)
  have hn : numA P i = d - mB i + 1 := by
    unfold numA; rw [if_pos h1, show 1900 + i / 12 = y by omega]; omega
  unfold told
  rw [if_neg (by omega), hn]
  by_cases q : d - mB i + 1 < 1 ∨ mB (i + 1) - mB i < d - mB i + 1
  · rw [if_pos q, if_neg]
    rintro ⟨g1, g2, g3⟩
    have hm := mi_rng (d := d) g1.1 g1.2
    have hy := yr_mi (d := d) g1.1 g1.2
    rw [show mi d = i by omega] at hm
    omega
  · rw [if_neg q]
    have e := mi_uniq (d := d) (i := i) (by omega) (by omega) (by omega) (by omega)
    have hy := yr_mi (d := d) (by omega) (by omega)
    rw [if_pos ⟨by omega, by omega, by omega⟩]; omega
theorem toldN {P : Nat → Int} {i n : Int} (h1 : P 1 ≠ 16) (h0 : P 0 = 0 ∨ P 0 = i % 12 + 1) (hn : n = numT P (mB i) (mB (i + 1) - mB i)) : told P i = if 1 ≤ n ∧ n ≤ mB (i + 1) - mB i then mB i + n - 1 else -1 := by
  unfold told numA
  rw [if_neg (by omega), if_neg h1, ← hn]
  by_cases q : 1 ≤ n ∧ n ≤ mB (i + 1) - mB i
  · rw [if_pos q, if_neg (by omega)]
  · rw [if_neg q, if_pos (by omega)]
theorem told0 {P : Nat → Int} {i : Int} (h : P 0 ≠ 0 ∧ P 0 ≠ i % 12 + 1) : told P i = -1 := by unfold told; rw [if_pos h]
