-- ===== the reference's way of counting the days of a span =====
def rcS (Sd : Nat → Int) (Up : Nat → Nat → Int) (d : Int) : Bool := if Sd 4 ≠ 0 ∧ bitw (Sd 4) d = 0 then false else if Sd 9 ≠ 0 then anyT Up d (Sd 9).toNat else if Sd 2 = 1 then decide (Sd 4 ≠ 0 ∨ d % 7 = bdS Sd % 7) else if Sd 2 = 0 then true else decide (d - mB (mi d) + 1 = bdS Sd - mB (mi (bdS Sd)) + 1 ∧ (Sd 2 = 2 ∨ mi d % 12 + 1 = mi (bdS Sd) % 12 + 1))
theorem bitw_pow (b d : Int) : bitw (1 * 2 ^ (b % 7).toNat) d = if d % 7 = b % 7 then 1 else 0 := by
  unfold bitw
  rcases (by omega : d % 7 = 0 ∨ d % 7 = 1 ∨ d % 7 = 2 ∨ d % 7 = 3 ∨ d % 7 = 4 ∨ d % 7 = 5 ∨ d % 7 = 6) with h | h | h | h | h | h | h <;> rcases (by omega : b % 7 = 0 ∨ b % 7 = 1 ∨ b % 7 = 2 ∨ b % 7 = 3 ∨ b % 7 = 4 ∨ b % 7 = 5 ∨ b % 7 = 6) with g | g | g | g | g | g | g <;> rw [h, g] <;> decide
theorem told_us {Sd : Nat → Int} (h : okS Sd) {d : Int} (hd : 0 ≤ d ∧ d ≤ 73048) (h2 : 2 ≤ Sd 2) : (told (usS Sd) (mi d) = d) ↔ (d - mB (mi d) + 1 = bdS Sd - mB (mi (bdS Sd)) + 1 ∧ (Sd 2 = 2 ∨ mi d % 12 + 1 = mi (bdS Sd) % 12 + 1)) := by
  have hb : 0 ≤ bdS Sd ∧ bdS Sd ≤ 73048 := by omega
  have r1 := mi_rng hd.1 hd.2
  have r2 := mi_rng hb.1 hb.2
  have s2 := mB_succ r2.1 r2.2.1
  have e0 : usS Sd 0 = if Sd 2 = 3 then mi (bdS Sd) % 12 + 1 else 0 := rfl
  have e1 : usS Sd 1 = 0 := rfl
  have e2 : usS Sd 2 = bdS Sd - mB (mi (bdS Sd)) + 1 := rfl
  have hn : numT (usS Sd) (mB (mi d)) (mB (mi d + 1) - mB (mi d)) = bdS Sd - mB (mi (bdS Sd)) + 1 := by
    unfold numT; rw [if_pos e1, e2]
  by_cases h0 : usS Sd 0 = 0 ∨ usS Sd 0 = mi d % 12 + 1
  · rw [toldN (by rw [e1]; decide) h0 hn.symm]
    have hm : Sd 2 = 2 ∨ mi d % 12 + 1 = mi (bdS Sd) % 12 + 1 := by
      rw [e0] at h0
      by_cases h3 : Sd 2 = 3
      · rw [if_pos h3] at h0
        rcases h0 with g | g
        · omega
        · exact Or.inr g.symm
      · exact Or.inl (by omega)
    constructor
    · intro g
      refine ⟨?_, hm⟩
      split at g <;> omega
    · intro g
      rw [if_pos (by omega)]; omega
  · rw [told0 (by omega)]
    constructor
    · intro g; omega
    · intro g
      exfalso
      apply h0
      rw [e0]
      by_cases h3 : Sd 2 = 3
      · rw [if_pos h3]
        rcases g.2 with w | w
        · omega
        · exact Or.inr w.symm
      · rw [if_neg h3]; exact Or.inl rfl
theorem ct_ref {Sd : Nat → Int} {Up : Nat → Nat → Int} (h : okS Sd) {d : Int} (hd : 0 ≤ d ∧ d ≤ 73048) : ctS Sd Up d = rcS Sd Up d := by
  unfold ctS rcS
  have hb01 := bitw_01 (Sd 4) d
  by_cases h4 : Sd 4 = 0
  · rw [if_neg (show ¬(Sd 4 ≠ 0 ∧ bitw (Sd 4) d = 0) from fun g => g.1 h4)]
    by_cases h9 : Sd 9 = 0
    · rw [if_pos h9, if_neg (show ¬(Sd 9 ≠ 0) from fun g => g h9)]
      by_cases h21 : Sd 2 = 1
      · have hr : rwS Sd = 1 * 2 ^ (bdS Sd % 7).toNat := by unfold rwS; rw [if_neg (by omega), if_pos ⟨h21, h9⟩]
        rw [hr, bitw_pow, if_pos (by omega : Sd 2 < 2), if_pos h21]
        by_cases g : d % 7 = bdS Sd % 7
        · rw [if_pos g]; simp [g]
        · rw [if_neg g]; simp [g, h4]
      · have hr : rwS Sd = 127 := by unfold rwS; rw [if_neg (by omega), if_neg (fun g => h21 g.1)]
        rw [hr, bitw_127, if_neg h21]
        by_cases h20 : Sd 2 = 0
        · rw [if_pos (by omega : Sd 2 < 2), if_pos h20]; rfl
        · rw [if_neg (by omega : ¬Sd 2 < 2), if_neg h20]
          have e := told_us h hd (by omega)
          simp only [e]; rfl
    · have hr : rwS Sd = 127 := by unfold rwS; rw [if_neg (by omega), if_neg (fun g => h9 g.2)]
      rw [hr, bitw_127, if_neg h9, if_pos (show Sd 9 ≠ 0 from h9)]; rfl
  · have hr : rwS Sd = Sd 4 := by unfold rwS; rw [if_pos h4]
    rw [hr]
    by_cases hz : bitw (Sd 4) d = 0
    · rw [if_pos (show Sd 4 ≠ 0 ∧ bitw (Sd 4) d = 0 from ⟨h4, hz⟩), hz]; rfl
    · rw [if_neg (show ¬(Sd 4 ≠ 0 ∧ bitw (Sd 4) d = 0) from fun g => hz g.2)]
      have e1 : decide (bitw (Sd 4) d ≠ 0) = true := decide_eq_true hz
      rw [e1, Bool.true_and]
      by_cases h9 : Sd 9 = 0
      · rw [if_pos h9, if_neg (show ¬(Sd 9 ≠ 0) from fun g => g h9)]
        by_cases h21 : Sd 2 = 1
        · rw [if_pos (by omega : Sd 2 < 2), if_pos h21]; simp [h4]
        · rw [if_neg h21]
          by_cases h20 : Sd 2 = 0
          · rw [if_pos (by omega : Sd 2 < 2), if_pos h20]
          · rw [if_neg (by omega : ¬Sd 2 < 2), if_neg h20]
            have e := told_us h hd (by omega)
            simp only [e]
      · rw [if_neg h9, if_pos (show Sd 9 ≠ 0 from h9)]
theorem anyT_y {Up : Nat → Nat → Int} {d : Int} {n : Nat} (h : told (Up n) (mi d) = d) : bI (anyT Up d (n + 1)) = 1 := by
  show bI (anyT Up d n || decide (told (Up n) (mi d) = d)) = 1
  rw [decide_eq_true h, Bool.or_true]; rfl
theorem anyT_n {Up : Nat → Nat → Int} {d : Int} {n : Nat} (h : told (Up n) (mi d) ≠ d) : bI (anyT Up d (n + 1)) = bI (anyT Up d n) := by
  show bI (anyT Up d n || decide (told (Up n) (mi d) = d)) = _
  rw [decide_eq_false h, Bool.or_false]
