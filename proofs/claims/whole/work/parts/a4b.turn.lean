-- ===== comparing longs; what `find` keeps =====
section ZLC
variable {r x y : Int}
theorem lcm_fit (h : (r = -1 ∧ x < y) ∨ (r = 0 ∧ x = y) ∨ (r = 1 ∧ y < x)) : fit r := by unfold fit; omega
theorem lcm_lt (h : (r = -1 ∧ x < y) ∨ (r = 0 ∧ x = y) ∨ (r = 1 ∧ y < x)) (c : r < 0) : x < y := by omega
theorem lcm_ge (h : (r = -1 ∧ x < y) ∨ (r = 0 ∧ x = y) ∨ (r = 1 ∧ y < x)) (c : 0 ≤ r) : y ≤ x := by omega
theorem lcm_gt (h : (r = -1 ∧ x < y) ∨ (r = 0 ∧ x = y) ∨ (r = 1 ∧ y < x)) (c : 0 < r) : y < x := by omega
theorem lcm_le (h : (r = -1 ∧ x < y) ∨ (r = 0 ∧ x = y) ∨ (r = 1 ∧ y < x)) (c : r ≤ 0) : x ≤ y := by omega
theorem lcm_eq (h : (r = -1 ∧ x < y) ∨ (r = 0 ∧ x = y) ∨ (r = 1 ∧ y < x)) (c : r = 0) : x = y := by omega
theorem lcm_ne (h : (r = -1 ∧ x < y) ∨ (r = 0 ∧ x = y) ∨ (r = 1 ∧ y < x)) (c : r ≠ 0) : x ≠ y := by omega
end ZLC
section ZFR
variable {M : zM} {p : Nat} {base loc : Int}
def skN (M : zM) (p : Nat) (base loc fr A sk : Int) : Int := if sk = -1 then (if 0 < fr ∧ loc < fr + A ∧ fr - 1 + base + savM M p (fr - 1) < loc then fr else -1) else sk
theorem fdS_rng {q ft la ct sk : Int} (h : fdS M p base loc q ft la ct sk) (hq : 0 ≤ q) : (-1 ≤ ft ∧ ft ≤ q) ∧ (0 ≤ ct ∧ ct ≤ q) ∧ -1 ≤ sk ∧ sk ≤ q := by
  obtain ⟨e1, e2, e3, e4⟩ := h
  have h1 := fP_rng (p := shw (savM M p) base loc) (show (-1 : Int) ≤ 0 by decide) hq
  have h2 := cP_rng (p := shw (savM M p) base loc) (b := q) 0
  have h3 := fP_rng (p := psg (savM M p) base loc) (show (-1 : Int) ≤ 1 by decide) hq
  omega
end ZFR
