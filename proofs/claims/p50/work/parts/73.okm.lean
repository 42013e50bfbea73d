-- ===== the next numbers keep their bounds =====
section ZOK
variable {M M' : zM}
theorem okM_wk (h : okM M) {w : Int} (hc : cdWk w = 0) : okM (upM M 26 w) := by
  obtain ⟨⟨b1, b2, b3, b4, b5⟩, hP, hL, hS, ⟨w1, w2, w3, w4⟩, hF⟩ := h
  have hw : 1 ≤ w ∧ w ≤ 127 := by
    unfold cdWk at hc; split at hc
    · assumption
    · exact absurd hc (by decide)
  have q : ∀ j, j ≠ 26 → upM M 26 w 40 j = M 40 j := fun j hj => upM_q hj
  have q26 : upM M 26 w 40 26 = w := by unfold upM; exact up2_s
  have f : ∀ f, f ≠ 40 → upM M 26 w f = M f := fun f hf => upM_f hf
  refine ⟨⟨by rw [q 1 (by decide)]; exact b1, by rw [q 5 (by decide)]; exact b2, by rw [q 16 (by decide)]; exact b3, by rw [q 29 (by decide)]; exact b4, by rw [q 5 (by decide), f 7 (by decide)]; exact b5⟩, ?_, ?_, ?_, ⟨by rw [q 25 (by decide), q 5 (by decide)]; exact w1, by rw [q26]; exact hw, by rw [q 27 (by decide), q 28 (by decide)]; exact w3, by rw [q 28 (by decide)]; exact w4⟩, ?_⟩
  · intro k hk; rw [q 1 (by decide)] at hk; rw [upM_p]; exact hP k hk
  · intro p hp; rw [q 5 (by decide)] at hp
    have e1 : turM (upM M 26 w) p = turM M p := by funext t j; unfold turM; rw [f 8 (by decide)]
    have e2 : tupM (upM M 26 w) p = tupM M p := by funext t; unfold tupM; rw [f 8 (by decide), upM_p]
    rw [f 6 (by decide), f 7 (by decide), e1, e2, q 1 (by decide)]; exact hL p hp
  · intro n hn; rw [q 16 (by decide)] at hn
    rw [serM_f (f 17 (by decide)), excM_f (f 19 (by decide)), f 18 (by decide), q 5 (by decide), q 1 (by decide)]; exact hS n hn
  · intro k hk; rw [q 29 (by decide)] at hk
    have e1 : feaM (upM M 26 w) = feaM M := by funext k j; unfold feaM; rw [f 30 (by decide), f 31 (by decide), f 33 (by decide)]
    rw [e1, f 32 (by decide), q 1 (by decide)]; exact hF k hk
/-- other single numbers of the work -/
theorem okM_w3 (h : okM M) {M' : zM} (f : ∀ f, f ≠ 40 → M' f = M f) (q : ∀ j, j ≠ 25 → j ≠ 27 → j ≠ 28 → M' 40 j = M 40 j) (h25 : -1 ≤ M' 40 25 ∧ M' 40 25 < M 40 5) (h27 : (0 ≤ M' 40 27 ∧ M' 40 27 < M' 40 28) ∧ M' 40 28 ≤ 1440) : okM M' := by
  obtain ⟨⟨b1, b2, b3, b4, b5⟩, hP, hL, hS, ⟨w1, w2, w3, w4⟩, hF⟩ := h
  have hp : ∀ k, patM M' k = patM M k := patM_eq (f 2 (by decide)) (f 3 (by decide)) (f 4 (by decide))
  have q1 := q 1 (by decide) (by decide) (by decide)
  have q5 := q 5 (by decide) (by decide) (by decide)
  have q16 := q 16 (by decide) (by decide) (by decide)
  have q26 := q 26 (by decide) (by decide) (by decide)
  have q29 := q 29 (by decide) (by decide) (by decide)
  refine ⟨⟨by rw [q1]; exact b1, by rw [q5]; exact b2, by rw [q16]; exact b3, by rw [q29]; exact b4, by rw [q5, f 7 (by decide)]; exact b5⟩, ?_, ?_, ?_, ⟨by rw [q5]; exact h25, by rw [q26]; exact w2, h27.1, h27.2⟩, ?_⟩
  · intro k hk; rw [q1] at hk; rw [hp]; exact hP k hk
  · intro p hp'; rw [q5] at hp'
    have e1 : turM M' p = turM M p := by funext t j; unfold turM; rw [f 8 (by decide)]
    have e2 : tupM M' p = tupM M p := by funext t; unfold tupM; rw [f 8 (by decide), hp]
    rw [f 6 (by decide), f 7 (by decide), e1, e2, q1]; exact hL p hp'
  · intro n hn; rw [q16] at hn
    rw [serM_f (f 17 (by decide)), excM_f (f 19 (by decide)), f 18 (by decide), q5, q1]; exact hS n hn
  · intro k hk; rw [q29] at hk
    have e1 : feaM M' = feaM M := by funext k j; unfold feaM; rw [f 30 (by decide), f 31 (by decide), f 33 (by decide)]
    rw [e1, f 32 (by decide), q1]; exact hF k hk
theorem okM_hr (h : okM M) {a b : Int} (hc : cdHr a b = 0) : okM (upM (upM M 27 a) 28 b) := by
  have hw : (0 ≤ a ∧ a ≤ 1439) ∧ a + 1 ≤ b ∧ b ≤ 1440 := by
    unfold cdHr at hc; split at hc
    · assumption
    · exact absurd hc (by decide)
  have e27 : upM (upM M 27 a) 28 b 40 27 = a := by rw [upM_q (by decide)]; unfold upM; exact up2_s
  have e28 : upM (upM M 27 a) 28 b 40 28 = b := by unfold upM; exact up2_s
  have e25 : upM (upM M 27 a) 28 b 40 25 = M 40 25 := by rw [upM_q (by decide), upM_q (by decide)]
  exact okM_w3 h (fun f hf => by rw [upM_f hf, upM_f hf]) (fun j _ h2 h3 => by rw [upM_q h3, upM_q h2]) (by rw [e25]; exact h.2.2.2.2.1.1) (by rw [e27, e28]; omega)
theorem okM_wp (h : okM M) {a : Int} (hc : cdPl M a = 0) : okM (upM M 25 a) := by
  have hw : 0 ≤ a ∧ a < M 40 5 := by
    unfold cdPl at hc; split at hc
    · assumption
    · exact absurd hc (by decide)
  have e25 : upM M 25 a 40 25 = a := by unfold upM; exact up2_s
  exact okM_w3 h (fun f hf => upM_f hf) (fun j h1 _ _ => upM_q h1) (by rw [e25]; omega) (by rw [upM_q (by decide), upM_q (by decide)]; exact ⟨h.2.2.2.2.1.2.2.1, h.2.2.2.2.1.2.2.2⟩)
/-- a series' numbers -/
theorem okM_s (h : okM M) {M' : zM} {a : Nat} (f : ∀ f, f ≠ 17 → f ≠ 18 → f ≠ 19 → M' f = M f) (ho : ∀ k : Nat, k ≠ a → (k : Int) < M 40 16 → serM M' k = serM M k ∧ (∀ j : Nat, (j : Int) < serM M k 9 → M' 18 (4 * k + j) = M 18 (4 * k + j)) ∧ excM M' k = excM M k)
    (hn : (a : Int) < M 40 16 → okS (serM M' a) ∧ serM M' a 0 = serM M a 0 ∧ (∀ k : Nat, (k : Int) < serM M' a 9 → 0 ≤ M' 18 (4 * a + k) ∧ M' 18 (4 * a + k) < M 40 1) ∧ ∀ k : Nat, (k : Int) < serM M' a 10 → 0 ≤ excM M' a k ∧ excM M' a k ≤ 73048) : okM M' := by
  obtain ⟨⟨b1, b2, b3, b4, b5⟩, hP, hL, hS, hW, hF⟩ := h
  have f40 := f 40 (by decide) (by decide) (by decide)
  have hp : ∀ k, patM M' k = patM M k := patM_eq (f 2 (by decide) (by decide) (by decide)) (f 3 (by decide) (by decide) (by decide)) (f 4 (by decide) (by decide) (by decide))
  refine ⟨by rw [f40, f 7 (by decide) (by decide) (by decide)]; exact ⟨b1, b2, b3, b4, b5⟩, ?_, ?_, ?_, by rw [f40]; exact hW, ?_⟩
  · intro k hk; rw [f40] at hk; rw [hp]; exact hP k hk
  · intro p hp'; rw [f40] at hp'
    have e1 : turM M' p = turM M p := by funext t j; unfold turM; rw [f 8 (by decide) (by decide) (by decide)]
    have e2 : tupM M' p = tupM M p := by funext t; unfold tupM; rw [f 8 (by decide) (by decide) (by decide), hp]
    rw [f 6 (by decide) (by decide) (by decide), f 7 (by decide) (by decide) (by decide), e1, e2, f40]; exact hL p hp'
  · intro n hn9; rw [f40] at hn9
    rw [f40]
    by_cases hna : n = a
    · subst hna
      obtain ⟨g1, g2, g3, g4⟩ := hn hn9
      exact ⟨g1, by rw [g2]; exact (hS n hn9).2.1, g3, g4⟩
    · obtain ⟨g1, g2, g3⟩ := ho n hna hn9
      rw [g1, g3]
      obtain ⟨c1, c2, c3, c4⟩ := hS n hn9
      exact ⟨c1, c2, fun k hk => by rw [g2 k hk]; exact c3 k hk, c4⟩
  · intro k hk; rw [f40] at hk
    have e1 : feaM M' = feaM M := by funext k j; unfold feaM; rw [f 30 (by decide) (by decide) (by decide), f 31 (by decide) (by decide) (by decide), f 33 (by decide) (by decide) (by decide)]
    rw [e1, f 32 (by decide) (by decide) (by decide), f40]; exact hF k hk
end ZOK
