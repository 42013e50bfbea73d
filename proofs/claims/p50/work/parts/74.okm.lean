-- ===== the next numbers keep their bounds: series, patterns, feasts, places, turns =====
theorem okS_5 {S S' : Nat → Int} {v : Int} (h : okS S) (hj : ∀ j, S' j = if j = 5 then v else S j) (hv : -6 ≤ v ∧ v ≤ 6) : okS S' := by
  have e : ∀ j, j ≠ 5 → S' j = S j := fun j hn => by rw [hj, if_neg hn]
  have e5 : S' 5 = v := by rw [hj, if_pos rfl]
  have e1 := e 1 (by decide); have e2 := e 2 (by decide); have e3 := e 3 (by decide); have e4 := e 4 (by decide); have e6 := e 6 (by decide); have e7 := e 7 (by decide); have e8 := e 8 (by decide); have e9 := e 9 (by decide); have e10 := e 10 (by decide)
  have hb : bdS S' = bdS S := by unfold bdS; rw [e1]
  omega
theorem okS_6 {S S' : Nat → Int} {v : Int} (h : okS S) (hj : ∀ j, S' j = if j = 6 then v else S j) (hv : 0 ≤ v ∧ v ≤ 500) : okS S' := by
  have e : ∀ j, j ≠ 6 → S' j = S j := fun j hn => by rw [hj, if_neg hn]
  have e6 : S' 6 = v := by rw [hj, if_pos rfl]
  have e1 := e 1 (by decide); have e2 := e 2 (by decide); have e3 := e 3 (by decide); have e4 := e 4 (by decide); have e5 := e 5 (by decide); have e7 := e 7 (by decide); have e8 := e 8 (by decide); have e9 := e 9 (by decide); have e10 := e 10 (by decide)
  have hb : bdS S' = bdS S := by unfold bdS; rw [e1]
  omega
theorem okS_7 {S S' : Nat → Int} {v : Int} (h : okS S) (hj : ∀ j, S' j = if j = 7 then v else S j) (hv : S 1 / 1440 ≤ v ∧ v ≤ S 8) : okS S' := by
  have e : ∀ j, j ≠ 7 → S' j = S j := fun j hn => by rw [hj, if_neg hn]
  have e7 : S' 7 = v := by rw [hj, if_pos rfl]
  have e1 := e 1 (by decide); have e2 := e 2 (by decide); have e3 := e 3 (by decide); have e4 := e 4 (by decide); have e5 := e 5 (by decide); have e6 := e 6 (by decide); have e8 := e 8 (by decide); have e9 := e 9 (by decide); have e10 := e 10 (by decide)
  have hb : bdS S' = bdS S := by unfold bdS; rw [e1]
  omega
theorem okS_9 {S S' : Nat → Int} {v : Int} (h : okS S) (hj : ∀ j, S' j = if j = 9 then v else S j) (hv : 0 ≤ v ∧ v ≤ 4) : okS S' := by
  have e : ∀ j, j ≠ 9 → S' j = S j := fun j hn => by rw [hj, if_neg hn]
  have e9 : S' 9 = v := by rw [hj, if_pos rfl]
  have e1 := e 1 (by decide); have e2 := e 2 (by decide); have e3 := e 3 (by decide); have e4 := e 4 (by decide); have e5 := e 5 (by decide); have e6 := e 6 (by decide); have e8 := e 8 (by decide); have e7 := e 7 (by decide); have e10 := e 10 (by decide)
  have hb : bdS S' = bdS S := by unfold bdS; rw [e1]
  omega
theorem okS_10 {S S' : Nat → Int} {v : Int} (h : okS S) (hj : ∀ j, S' j = if j = 10 then v else S j) (hv : 0 ≤ v ∧ v ≤ 8) : okS S' := by
  have e : ∀ j, j ≠ 10 → S' j = S j := fun j hn => by rw [hj, if_neg hn]
  have e10 : S' 10 = v := by rw [hj, if_pos rfl]
  have e1 := e 1 (by decide); have e2 := e 2 (by decide); have e3 := e 3 (by decide); have e4 := e 4 (by decide); have e5 := e 5 (by decide); have e6 := e 6 (by decide); have e8 := e 8 (by decide); have e7 := e 7 (by decide); have e9 := e 9 (by decide)
  have hb : bdS S' = bdS S := by unfold bdS; rw [e1]
  omega
section ZOL
variable {M M' : zM}
theorem cdSet_0 {a v lo hi : Int} (h : cdSet M a v lo hi = 0) : (0 ≤ a ∧ a < M 40 16) ∧ lo ≤ v ∧ v ≤ hi := by
  unfold cdSet at h
  split at h
  · split at h
    · exact ⟨by assumption, by assumption⟩
    · exact absurd h (by decide)
  · exact absurd h (by decide)
theorem okM_set (h : okM M) {a q : Nat} {v : Int} (hq : q < 9 ∧ q ≠ 0) (hok : (a : Int) < M 40 16 → okS (serM (up2 M 17 (11 * a + q) v) a)) : okM (up2 M 17 (11 * a + q) v) := by
  have e18 : up2 M 17 (11 * a + q) v 18 = M 18 := up2_o (by decide)
  refine okM_s h (a := a) (fun f g1 _ _ => set_f g1) (fun k hk _ => ⟨(set_d (by omega) hk).1, fun j _ => by rw [e18], (set_d (by omega) hk).2.2⟩) (fun ha => ?_)
  have c := h.2.2.2.1 a ha
  have e9 : serM (up2 M 17 (11 * a + q) v) a 9 = serM M a 9 := by rw [serM_sam (by omega), if_neg (by omega)]
  have e10 : serM (up2 M 17 (11 * a + q) v) a 10 = serM M a 10 := by rw [serM_sam (by omega), if_neg (by omega)]
  have e0 : serM (up2 M 17 (11 * a + q) v) a 0 = serM M a 0 := by rw [serM_sam (by omega), if_neg (by omega)]
  have ex : excM (up2 M 17 (11 * a + q) v) a = excM M a := excM_f (up2_o (by decide)) _
  exact ⟨hok ha, e0, by rw [e9, e18]; exact c.2.2.1, by rw [e10, ex]; exact c.2.2.2⟩
theorem okM_set5 (h : okM M) {a v : Int} (hc : cdSet M a v (-6) 6 = 0) : okM (up2 M 17 (11 * a.toNat + 5) v) := by
  have c := cdSet_0 hc
  exact okM_set h ⟨by decide, by decide⟩ (fun ha => okS_5 (h.2.2.2.1 a.toNat ha).1 (fun j => serM_sam (by decide) j) c.2)
theorem okM_set6 (h : okM M) {a v : Int} (hc : cdSet M a v 0 500 = 0) : okM (up2 M 17 (11 * a.toNat + 6) v) := by
  have c := cdSet_0 hc
  exact okM_set h ⟨by decide, by decide⟩ (fun ha => okS_6 (h.2.2.2.1 a.toNat ha).1 (fun j => serM_sam (by decide) j) c.2)
theorem okM_set7 (h : okM M) {a v : Int} (hc : cdSet M a v (serM M a.toNat 1 / 1440) (serM M a.toNat 8) = 0) : okM (up2 M 17 (11 * a.toNat + 7) v) := by
  have c := cdSet_0 hc
  exact okM_set h ⟨by decide, by decide⟩ (fun ha => okS_7 (h.2.2.2.1 a.toNat ha).1 (fun j => serM_sam (by decide) j) c.2)
theorem okM_use (h : okM M) {a b : Int} (hc : cdUse M a b = 0) : okM (usaM M a.toNat b) := by
  have hh : ((0 ≤ a ∧ a < M 40 16) ∧ 0 ≤ b ∧ b < M 40 1) ∧ serM M a.toNat 9 ≠ 4 := by
    unfold cdUse at hc
    split at hc
    · split at hc
      · exact absurd hc (by decide)
      · exact ⟨by assumption, by assumption⟩
    · exact absurd hc (by decide)
  have c := h.2.2.2.1 a.toNat (by omega)
  have c1 := c.1
  have hm : 0 ≤ serM M a.toNat 9 ∧ serM M a.toNat 9 < 4 := by omega
  have e18 : ∀ j, usaM M a.toNat b 18 j = if j = 4 * a.toNat + (serM M a.toNat 9).toNat then b else M 18 j := fun j => by
    unfold usaM
    rw [up2_o (by decide), up2_eq]
    by_cases g : j = 4 * a.toNat + (serM M a.toNat 9).toNat
    · rw [if_pos ⟨rfl, g⟩, if_pos g]
    · rw [if_neg (fun w => g w.2), if_neg g]
  refine okM_s h (a := a.toNat) (fun f g1 g2 _ => usaM_f g1 g2) (fun k hk hk16 => ⟨(usaM_oth hk hm).1, fun j hj => ?_, (usaM_oth hk hm).2.2⟩) (fun ha => ?_)
  · have c2 := (h.2.2.2.1 k hk16).1
    rw [e18, if_neg (by omega)]
  · have e9 : serM (usaM M a.toNat b) a.toNat 9 = serM M a.toNat 9 + 1 := by rw [usaM_ser, if_pos rfl]
    have e10 : serM (usaM M a.toNat b) a.toNat 10 = serM M a.toNat 10 := by rw [usaM_ser, if_neg (by decide)]
    have e0 : serM (usaM M a.toNat b) a.toNat 0 = serM M a.toNat 0 := by rw [usaM_ser, if_neg (by decide)]
    refine ⟨okS_9 c.1 (fun j => usaM_ser j) (by omega), e0, fun k hk => ?_, fun k hk => ?_⟩
    · rw [e9] at hk
      rw [e18]
      by_cases g : k = (serM M a.toNat 9).toNat
      · rw [if_pos (by omega)]; exact hh.1.2
      · rw [if_neg (by omega)]; exact c.2.2.1 k (by omega)
    · rw [e10] at hk
      rw [usaM_exc]; exact c.2.2.2 k hk
theorem okM_exc (h : okM M) {a d : Int} (hc : cdExc M a d = 0) : okM (nxExc M a d) := by
  unfold nxExc
  by_cases hx : exV (excM M a.toNat) d (serM M a.toNat 10).toNat = 1
  · rw [if_pos hx]; exact h
  · rw [if_neg hx]
    have hh : ((0 ≤ a ∧ a < M 40 16) ∧ 0 ≤ d ∧ d ≤ 73048) ∧ serM M a.toNat 10 ≠ 8 := by
      unfold cdExc at hc
      by_cases g : (0 ≤ a ∧ a < M 40 16) ∧ 0 ≤ d ∧ d ≤ 73048
      · rw [if_pos g, if_neg hx] at hc
        refine ⟨g, fun w => ?_⟩
        rw [if_pos w] at hc; exact absurd hc (by decide)
      · rw [if_neg g] at hc; exact absurd hc (by decide)
    have c := h.2.2.2.1 a.toNat (by omega)
    have c1 := c.1
    have hm : 0 ≤ serM M a.toNat 10 ∧ serM M a.toNat 10 < 8 := by omega
    have e18 : exaM M a.toNat d 18 = M 18 := exaM_f (by decide) (by decide)
    refine okM_s h (a := a.toNat) (fun f g1 _ g3 => exaM_f g1 g3) (fun k hk hk16 => ⟨(exaM_oth hk hm).1, fun j hj => by rw [e18], (exaM_oth hk hm).2.2⟩) (fun ha => ?_)
    have e10 : serM (exaM M a.toNat d) a.toNat 10 = serM M a.toNat 10 + 1 := by rw [exaM_ser, if_pos rfl]
    have e9 : serM (exaM M a.toNat d) a.toNat 9 = serM M a.toNat 9 := by rw [exaM_ser, if_neg (by decide)]
    have e0 : serM (exaM M a.toNat d) a.toNat 0 = serM M a.toNat 0 := by rw [exaM_ser, if_neg (by decide)]
    refine ⟨okS_10 c.1 (fun j => exaM_ser j) (by omega), e0, by rw [e9, e18]; exact c.2.2.1, fun k hk => ?_⟩
    rw [e10] at hk
    rw [exaM_exc hm]
    by_cases g : k = (serM M a.toNat 10).toNat
    · rw [if_pos g]; exact hh.1.2
    · rw [if_neg g]; exact c.2.2.2 k (by omega)
theorem okM_pad (h : okM M) {mo ki nu : Int} (hc : cdAdp M mo ki nu = 0) : okM (padM M (M 40 1).toNat mo ki nu) := by
  have hh : ((0 ≤ mo ∧ mo ≤ 12) ∧ (0 ≤ ki ∧ ki ≤ 16) ∧ (1 ≤ nu ∧ nu ≤ (if ki < 2 then 31 else if ki < 16 then 5 else 200)) ∧ (ki = 16 → mo = 0)) ∧ M 40 1 ≠ 24 := by
    unfold cdAdp at hc
    by_cases g : (0 ≤ mo ∧ mo ≤ 12) ∧ (0 ≤ ki ∧ ki ≤ 16) ∧ (1 ≤ nu ∧ nu ≤ (if ki < 2 then 31 else if ki < 16 then 5 else 200)) ∧ (ki = 16 → mo = 0)
    · rw [if_pos g] at hc
      refine ⟨g, fun w => ?_⟩
      rw [if_pos w] at hc; exact absurd hc (by decide)
    · rw [if_neg g] at hc; exact absurd hc (by decide)
  obtain ⟨⟨b1, b2, b3, b4, b5⟩, hP, hL, hS, hW, hF⟩ := h
  obtain ⟨i, hi⟩ : ∃ i, i = (M 40 1).toNat := ⟨_, rfl⟩
  rw [← hi]
  have hnu : 1 ≤ nu ∧ nu ≤ 200 := by
    have := hh.1.2.2.1
    split at this
    · omega
    · split at this <;> omega
  have f : ∀ f, f ≠ 2 → f ≠ 3 → f ≠ 4 → f ≠ 40 → padM M i mo ki nu f = M f := fun f g1 g2 g3 g4 => padM_f g1 g2 g3 g4
  have q : ∀ j, j ≠ 1 → padM M i mo ki nu 40 j = M 40 j := fun j hj => by rw [padM_40, if_neg hj]
  have q1 : padM M i mo ki nu 40 1 = (i : Int) + 1 := by rw [padM_40, if_pos rfl]
  have idx : ∀ z : Int, 0 ≤ z ∧ z < M 40 1 → patM (padM M i mo ki nu) z.toNat = patM M z.toNat := fun z hz => padM_p (by omega)
  refine ⟨⟨by rw [q1]; omega, by rw [q 5 (by decide)]; exact b2, by rw [q 16 (by decide)]; exact b3, by rw [q 29 (by decide)]; exact b4, by rw [q 5 (by decide), f 7 (by decide) (by decide) (by decide) (by decide)]; exact b5⟩, fun k hk => ?_, fun p hp => ?_, fun n hn => ?_, by rw [q 25 (by decide), q 26 (by decide), q 27 (by decide), q 28 (by decide), q 5 (by decide)]; exact hW, fun k hk => ?_⟩
  · rw [q1] at hk
    by_cases g : k = i
    · subst g
      obtain ⟨g1, g2, g3⟩ := padM_n (M := M) (i := k) (mo := mo) (ki := ki) (nu := nu)
      refine ⟨by unfold okP; rw [g1, g2, g3]; exact ⟨hh.1.1, hh.1.2.1, hnu⟩, by rw [g1, g2]; exact hh.1.2.2.2⟩
    · rw [padM_p g]; exact hP k (by omega)
  · rw [q 5 (by decide)] at hp
    obtain ⟨c1, c2, c3⟩ := hL p hp
    have e8 : turM (padM M i mo ki nu) p = turM M p := by funext t j; unfold turM; rw [f 8 (by decide) (by decide) (by decide) (by decide)]
    rw [f 6 (by decide) (by decide) (by decide) (by decide), f 7 (by decide) (by decide) (by decide) (by decide), e8]
    refine ⟨c1, c2, fun t ht => ?_⟩
    obtain ⟨d1, d2, d3⟩ := c3 t ht
    have e : tupM (padM M i mo ki nu) p t = tupM M p t := by
      unfold tupM
      split
      · rw [f 8 (by decide) (by decide) (by decide) (by decide)]
        refine idx _ ?_
        have m3 : turM M p t 2 = M 8 ((6 * p + t) * 6 + 2) := by unfold turM; rw [if_pos ⟨by omega, by decide⟩]
        rw [m3] at d2; exact d2
      · rfl
    rw [e, q1]
    exact ⟨d1, by omega, d3⟩
  · rw [q 16 (by decide)] at hn
    obtain ⟨c1, c2, c3, c4⟩ := hS n hn
    rw [serM_f (f 17 (by decide) (by decide) (by decide) (by decide)), excM_f (f 19 (by decide) (by decide) (by decide) (by decide)), f 18 (by decide) (by decide) (by decide) (by decide), q 5 (by decide), q1]
    exact ⟨c1, c2, fun k hk => by have := c3 k hk; omega, c4⟩
  · rw [q 29 (by decide)] at hk
    have e1 : feaM (padM M i mo ki nu) = feaM M := by funext k j; unfold feaM; rw [f 30 (by decide) (by decide) (by decide) (by decide), f 31 (by decide) (by decide) (by decide) (by decide), f 33 (by decide) (by decide) (by decide) (by decide)]
    have c := hF k hk
    rw [e1, f 32 (by decide) (by decide) (by decide) (by decide), q1]
    exact ⟨c.1, c.2.1, by omega⟩
end ZOL
