-- ===== the day of a year on which a turn happens =====
theorem nxT_skip {P : Nat → Int} {d : Int} : ∀ (k n : Nat) (i : Int), (∀ j : Int, i ≤ j → j < i + k → told P j < d) → nxT P d (k + n) i = nxT P d n (i + k)
  | 0, n, i, _ => by rw [Nat.zero_add]; congr 1; omega
  | k + 1, n, i, h => by
    rw [show k + 1 + n = (k + n) + 1 by omega]
    have e : nxT P d (k + n + 1) i = if d ≤ told P i then told P i else nxT P d (k + n) (i + 1) := rfl
    rw [e, if_neg (by have := h i (Int.le_refl _) (by omega); omega), nxT_skip k n (i + 1) (fun j h1 h2 => h j (by omega) (by omega))]
    congr 1; omega
theorem nxT_none {P : Nat → Int} {d : Int} (n : Nat) (i : Int) (h : ∀ j : Int, i ≤ j → j < i + n → told P j < d) : nxT P d n i = -1 := by
  have e := nxT_skip (P := P) (d := d) n 0 i h
  rw [Nat.add_zero] at e
  rw [e]; rfl
theorem nxT_only {P : Nat → Int} {i m : Int} (h1 : i ≤ m) (h2 : m < i + 12) (h : ∀ j : Int, i ≤ j → j < i + 12 → j ≠ m → told P j = -1) : nxT P 0 12 i = told P m := by
  have r := told_rng P m
  obtain ⟨k, hk⟩ : ∃ k : Nat, (k : Int) = m - i := ⟨(m - i).toNat, by omega⟩
  have e := nxT_skip (P := P) (d := 0) k (12 - k) i (fun j g1 g2 => by have := h j g1 (by omega) (by omega); omega)
  rw [show k + (12 - k) = 12 by omega, show i + (k : Int) = m by omega] at e
  rw [e]
  obtain ⟨q, hq⟩ : ∃ q : Nat, 12 - k = q + 1 := ⟨11 - k, by omega⟩
  rw [hq]
  have e2 : nxT P 0 (q + 1) m = if 0 ≤ told P m then told P m else nxT P 0 q (m + 1) := rfl
  rw [e2]
  split
  · rfl
  · rw [nxT_none q (m + 1) (fun j g1 g2 => by have := h j (by omega) (by omega) (by omega); omega)]
    omega
/-- a turn by a month's pattern -/
theorem dayT_m {P : Nat → Int} {y : Int} (h0 : 1 ≤ P 0 ∧ P 0 ≤ 12) : nxT P 0 12 (12 * (y - 1900)) = told P (12 * (y - 1900) + P 0 - 1) :=
  nxT_only (by omega) (by omega) (fun j g1 g2 g3 => told0 ⟨by omega, by omega⟩)
/-- a turn by Easter -/
theorem dayT_e {P : Nat → Int} {y d : Int} (h1 : P 1 = 16) (h0 : P 0 = 0) (hy : 1900 ≤ y ∧ y ≤ 2099) (hd : d = est y + P 2 - 100) : nxT P 0 12 (12 * (y - 1900)) = if (0 ≤ d ∧ d ≤ 73048) ∧ 1900 + yr d = y then d else -1 := by
  have t : ∀ m : Int, 1 ≤ m → m ≤ 12 → told P (12 * (y - 1900) + m - 1) = if (0 ≤ d ∧ d ≤ 73048) ∧ 1900 + yr d = y ∧ mi d % 12 + 1 = m then d else -1 := fun m g1 g2 => told16 h1 h0 hy ⟨g1, g2⟩ hd
  by_cases hc : (0 ≤ d ∧ d ≤ 73048) ∧ 1900 + yr d = y
  · rw [if_pos hc, nxT_only (m := 12 * (y - 1900) + (mi d % 12 + 1) - 1) (by omega) (by omega) (fun j g1 g2 g3 => ?_)]
    · rw [t _ (by omega) (by omega), if_pos ⟨hc.1, hc.2, rfl⟩]
    · have e := t (j - 12 * (y - 1900) + 1) (by omega) (by omega)
      rw [show 12 * (y - 1900) + (j - 12 * (y - 1900) + 1) - 1 = j by omega] at e
      rw [e, if_neg (by omega)]
  · rw [if_neg hc]
    refine nxT_none 12 _ (fun j g1 g2 => ?_)
    have e := t (j - 12 * (y - 1900) + 1) (by omega) (by omega)
    rw [show 12 * (y - 1900) + (j - 12 * (y - 1900) + 1) - 1 = j by omega] at e
    rw [e, if_neg (fun g => hc ⟨g.1, g.2.1⟩)]; decide
