-- ===== feasts, places, turns, series =====
section ZOM
variable {M M' : zM}
theorem okM_fea (h : okM M) {fy ly b wy : Int} (hc : cdAfe M fy ly b wy = 0) : okM (faM M (M 40 29).toNat fy ly b wy) := by
  have hh : (0 ≤ b ∧ b < M 40 1) ∧ (((1900 ≤ fy ∧ fy ≤ 2099) ∧ fy ≤ ly ∧ ly ≤ 2099) ∧ 0 ≤ wy ∧ wy ≤ 3) ∧ M 40 29 ≠ 20 := by
    unfold cdAfe at hc
    by_cases g : 0 ≤ b ∧ b < M 40 1
    · rw [if_pos g] at hc
      by_cases g2 : ((1900 ≤ fy ∧ fy ≤ 2099) ∧ fy ≤ ly ∧ ly ≤ 2099) ∧ 0 ≤ wy ∧ wy ≤ 3
      · rw [if_pos g2] at hc
        refine ⟨g, g2, fun w => ?_⟩
        rw [if_pos w] at hc; exact absurd hc (by decide)
      · rw [if_neg g2] at hc; exact absurd hc (by decide)
    · rw [if_neg g] at hc; exact absurd hc (by decide)
  obtain ⟨⟨b1, b2, b3, b4, b5⟩, hP, hL, hS, hW, hF⟩ := h
  obtain ⟨i, hi⟩ : ∃ i, i = (M 40 29).toNat := ⟨_, rfl⟩
  rw [← hi]
  have f : ∀ f, f ≠ 30 → f ≠ 31 → f ≠ 32 → f ≠ 33 → f ≠ 40 → faM M i fy ly b wy f = M f := fun f g1 g2 g3 g4 g5 => faM_f g1 g2 g3 g4 g5
  have q : ∀ j, j ≠ 29 → faM M i fy ly b wy 40 j = M 40 j := fun j hj => by rw [faM_40, if_neg hj]
  have q29 : faM M i fy ly b wy 40 29 = (i : Int) + 1 := by rw [faM_40, if_pos rfl]
  refine ⟨⟨by rw [q 1 (by decide)]; exact b1, by rw [q 5 (by decide)]; exact b2, by rw [q 16 (by decide)]; exact b3, by rw [q29]; omega, by rw [q 5 (by decide), f 7 (by decide) (by decide) (by decide) (by decide) (by decide)]; exact b5⟩, fun k hk => ?_, fun p hp => ?_, fun n hn => ?_, by rw [q 25 (by decide), q 26 (by decide), q 27 (by decide), q 28 (by decide), q 5 (by decide)]; exact hW, fun k hk => ?_⟩
  · rw [q 1 (by decide)] at hk; rw [faM_p]; exact hP k hk
  · rw [q 5 (by decide)] at hp
    have e1 : turM (faM M i fy ly b wy) p = turM M p := by funext t j; unfold turM; rw [f 8 (by decide) (by decide) (by decide) (by decide) (by decide)]
    have e2 : tupM (faM M i fy ly b wy) p = tupM M p := by funext t; unfold tupM; rw [f 8 (by decide) (by decide) (by decide) (by decide) (by decide), faM_p]
    rw [f 6 (by decide) (by decide) (by decide) (by decide) (by decide), f 7 (by decide) (by decide) (by decide) (by decide) (by decide), e1, e2, q 1 (by decide)]; exact hL p hp
  · rw [q 16 (by decide)] at hn
    rw [serM_f (f 17 (by decide) (by decide) (by decide) (by decide) (by decide)), excM_f (f 19 (by decide) (by decide) (by decide) (by decide) (by decide)), f 18 (by decide) (by decide) (by decide) (by decide) (by decide), q 5 (by decide), q 1 (by decide)]; exact hS n hn
  · rw [q29] at hk
    rw [q 1 (by decide)]
    obtain ⟨v1, v2, v3, v4⟩ := faM_v (M := M) (i := i) (fy := fy) (ly := ly) (b := b) (wy := wy) k
    rw [v3]
    have e : feaM (faM M i fy ly b wy) k = fun q => if q = 0 then (if k = i then fy else M 30 k) else if q = 1 then (if k = i then ly else M 31 k) else (if k = i then wy else M 33 k) := by
      funext q; unfold feaM; rw [v1, v2, v4]
    rw [e]
    by_cases g : k = i
    · simp only [if_pos g]
      exact ⟨⟨⟨hh.2.1.1.1.1, hh.2.1.1.2.1, hh.2.1.1.2.2⟩, hh.2.1.2⟩, hh.1⟩
    · have c := hF k (by omega)
      simp only [if_neg g]
      exact ⟨c.1, c.2⟩
theorem okM_plc (h : okM M) {bs : Int} (hc : cdApl M bs = 0) : okM (plM M (M 40 5).toNat bs) := by
  have hh : (-840 ≤ bs ∧ bs ≤ 840) ∧ M 40 5 ≠ 6 := by
    unfold cdApl at hc
    by_cases g : -840 ≤ bs ∧ bs ≤ 840
    · rw [if_pos g] at hc
      refine ⟨g, fun w => ?_⟩
      rw [if_pos w] at hc; exact absurd hc (by decide)
    · rw [if_neg g] at hc; exact absurd hc (by decide)
  obtain ⟨⟨b1, b2, b3, b4, b5⟩, hP, hL, hS, hW, hF⟩ := h
  obtain ⟨i, hi⟩ : ∃ i, i = (M 40 5).toNat := ⟨_, rfl⟩
  rw [← hi]
  have f : ∀ f, f ≠ 6 → f ≠ 40 → plM M i bs f = M f := fun f g1 g2 => plM_f g1 g2
  have q : ∀ j, j ≠ 5 → plM M i bs 40 j = M 40 j := fun j hj => by rw [plM_40, if_neg hj]
  have q5 : plM M i bs 40 5 = (i : Int) + 1 := by rw [plM_40, if_pos rfl]
  refine ⟨⟨by rw [q 1 (by decide)]; exact b1, by rw [q5]; omega, by rw [q 16 (by decide)]; exact b3, by rw [q 29 (by decide)]; exact b4, fun p hp => ?_⟩, fun k hk => ?_, fun p hp => ?_, fun n hn => ?_, ?_, fun k hk => ?_⟩
  · rw [q5] at hp; rw [f 7 (by decide) (by decide)]; exact b5 p (by omega)
  · rw [q 1 (by decide)] at hk; rw [plM_p]; exact hP k hk
  · rw [q5] at hp
    have e1 : turM (plM M i bs) p = turM M p := by funext t j; unfold turM; rw [f 8 (by decide) (by decide)]
    have e2 : tupM (plM M i bs) p = tupM M p := by funext t; unfold tupM; rw [f 8 (by decide) (by decide), plM_p]
    rw [plM_6, f 7 (by decide) (by decide), e1, e2, q 1 (by decide)]
    by_cases g : p = i
    · subst g
      rw [if_pos rfl]
      have h7 := b5 p (by omega)
      exact ⟨hh.1, by omega, fun t ht => by omega⟩
    · rw [if_neg g]; exact hL p (by omega)
  · rw [q 16 (by decide)] at hn
    have c := hS n hn
    rw [serM_f (f 17 (by decide) (by decide)), excM_f (f 19 (by decide) (by decide)), f 18 (by decide) (by decide), q5, q 1 (by decide)]
    exact ⟨c.1, by omega, c.2.2.1, c.2.2.2⟩
  · rw [q 25 (by decide), q 26 (by decide), q 27 (by decide), q 28 (by decide), q5]
    exact ⟨by omega, hW.2⟩
  · rw [q 29 (by decide)] at hk
    have e1 : feaM (plM M i bs) = feaM M := by funext k j; unfold feaM; rw [f 30 (by decide) (by decide), f 31 (by decide) (by decide), f 33 (by decide) (by decide)]
    rw [e1, f 32 (by decide) (by decide), q 1 (by decide)]; exact hF k hk
theorem okM_tur (h : okM M) {a fy ly b mn cl sv : Int} (hc : cdAtu M a fy ly b mn cl sv = 0) : okM (tuM M a.toNat fy ly b mn cl sv) := by
  have hh : ((0 ≤ a ∧ a < M 40 5) ∧ 0 ≤ b ∧ b < M 40 1) ∧ (((1900 ≤ fy ∧ fy ≤ 2099) ∧ fy ≤ ly ∧ ly ≤ 2099) ∧ ((0 ≤ mn ∧ mn ≤ 1439) ∧ (0 ≤ cl ∧ cl ≤ 2) ∧ 0 ≤ sv ∧ sv ≤ 180) ∧ (patM M b.toNat 0 ≠ 0 ∨ patM M b.toNat 1 = 16)) ∧ M 7 a.toNat ≠ 6 := by
    unfold cdAtu at hc
    by_cases g : (0 ≤ a ∧ a < M 40 5) ∧ 0 ≤ b ∧ b < M 40 1
    · rw [if_pos g] at hc
      by_cases g2 : ((1900 ≤ fy ∧ fy ≤ 2099) ∧ fy ≤ ly ∧ ly ≤ 2099) ∧ ((0 ≤ mn ∧ mn ≤ 1439) ∧ (0 ≤ cl ∧ cl ≤ 2) ∧ 0 ≤ sv ∧ sv ≤ 180) ∧ (patM M b.toNat 0 ≠ 0 ∨ patM M b.toNat 1 = 16)
      · rw [if_pos g2] at hc
        refine ⟨g, g2, fun w => ?_⟩
        rw [if_pos w] at hc; exact absurd hc (by decide)
      · rw [if_neg g2] at hc; exact absurd hc (by decide)
    · rw [if_neg g] at hc; exact absurd hc (by decide)
  obtain ⟨⟨b1, b2, b3, b4, b5⟩, hP, hL, hS, hW, hF⟩ := h
  obtain ⟨⟨ha, hb⟩, ⟨hy, hv, hpt⟩, h7⟩ := hh
  have ca := hL a.toNat (by omega)
  have h76 : (M 7 a.toNat).toNat < 6 := by have := ca.2.1; omega
  have f : ∀ f, f ≠ 7 → f ≠ 8 → tuM M a.toNat fy ly b mn cl sv f = M f := fun f g1 g2 => tuM_f g1 g2
  have f40 := f 40 (by decide) (by decide)
  refine ⟨⟨by rw [f40]; exact b1, by rw [f40]; exact b2, by rw [f40]; exact b3, by rw [f40]; exact b4, fun p hp => ?_⟩, fun k hk => ?_, fun p hp => ?_, fun n hn => ?_, by rw [f40]; exact hW, fun k hk => ?_⟩
  · rw [f40] at hp; rw [tuM_7, if_neg (by omega)]; exact b5 p hp
  · rw [f40] at hk; rw [tuM_p]; exact hP k hk
  · rw [f40] at hp
    rw [f 6 (by decide) (by decide), f40, tuM_7]
    have cp := hL p hp
    refine ⟨cp.1, ?_, fun t ht => ?_⟩
    · split
      · omega
      · exact cp.2.1
    · rw [tuM_tur h76, tuM_tup h76]
      by_cases g : p = a.toNat ∧ t = (M 7 a.toNat).toNat
      · rw [if_pos g, if_pos g]
        refine ⟨⟨⟨hy.1.1, hy.2.1, hy.2.2⟩, hv.1, hv.2.1, hv.2.2⟩, hb, hpt⟩
      · rw [if_neg g, if_neg g]
        refine cp.2.2 t ?_
        by_cases gp : p = a.toNat
        · rw [if_pos gp] at ht
          have gt : t ≠ (M 7 a.toNat).toNat := fun w => g ⟨gp, w⟩
          have := ca.2.1
          rw [gp]; omega
        · rw [if_neg gp] at ht; exact ht
  · rw [f40] at hn
    rw [serM_f (f 17 (by decide) (by decide)), excM_f (f 19 (by decide) (by decide)), f 18 (by decide) (by decide), f40]; exact hS n hn
  · rw [f40] at hk
    have e1 : feaM (tuM M a.toNat fy ly b mn cl sv) = feaM M := by funext k j; unfold feaM; rw [f 30 (by decide) (by decide), f 31 (by decide) (by decide), f 33 (by decide) (by decide)]
    rw [e1, f 32 (by decide) (by decide), f40]; exact hF k hk
theorem okM_ser (h : okM M) {a bg ki st wd : Int} (hc : cdAse M a bg ki st wd = 0) : okM (seM M (M 40 16).toNat a bg ki st wd) := by
  have hh : (0 ≤ a ∧ a < M 40 5) ∧ ((0 ≤ bg ∧ bg ≤ 105190559) ∧ (0 ≤ ki ∧ ki ≤ 3) ∧ (1 ≤ st ∧ st ≤ 60) ∧ 0 ≤ wd ∧ wd ≤ 127) ∧ M 40 16 ≠ 6 := by
    unfold cdAse at hc
    by_cases g : 0 ≤ a ∧ a < M 40 5
    · rw [if_pos g] at hc
      by_cases g2 : (0 ≤ bg ∧ bg ≤ 105190559) ∧ (0 ≤ ki ∧ ki ≤ 3) ∧ (1 ≤ st ∧ st ≤ 60) ∧ 0 ≤ wd ∧ wd ≤ 127
      · rw [if_pos g2] at hc
        refine ⟨g, g2, fun w => ?_⟩
        rw [if_pos w] at hc; exact absurd hc (by decide)
      · rw [if_neg g2] at hc; exact absurd hc (by decide)
    · rw [if_neg g] at hc; exact absurd hc (by decide)
  obtain ⟨⟨b1, b2, b3, b4, b5⟩, hP, hL, hS, hW, hF⟩ := h
  obtain ⟨i, hi⟩ : ∃ i, i = (M 40 16).toNat := ⟨_, rfl⟩
  rw [← hi]
  have f : ∀ f, f ≠ 17 → f ≠ 40 → seM M i a bg ki st wd f = M f := fun f g1 g2 => seM_f g1 g2
  have q : ∀ j, j ≠ 16 → seM M i a bg ki st wd 40 j = M 40 j := fun j hj => by rw [seM_40, if_neg hj]
  have q16 : seM M i a bg ki st wd 40 16 = (i : Int) + 1 := by rw [seM_40, if_pos rfl]
  refine ⟨⟨by rw [q 1 (by decide)]; exact b1, by rw [q 5 (by decide)]; exact b2, by rw [q16]; omega, by rw [q 29 (by decide)]; exact b4, by rw [q 5 (by decide), f 7 (by decide) (by decide)]; exact b5⟩, fun k hk => ?_, fun p hp => ?_, fun n hn => ?_, by rw [q 25 (by decide), q 26 (by decide), q 27 (by decide), q 28 (by decide), q 5 (by decide)]; exact hW, fun k hk => ?_⟩
  · rw [q 1 (by decide)] at hk; rw [seM_p]; exact hP k hk
  · rw [q 5 (by decide)] at hp
    have e1 : turM (seM M i a bg ki st wd) p = turM M p := by funext t j; unfold turM; rw [f 8 (by decide) (by decide)]
    have e2 : tupM (seM M i a bg ki st wd) p = tupM M p := by funext t; unfold tupM; rw [f 8 (by decide) (by decide), seM_p]
    rw [f 6 (by decide) (by decide), f 7 (by decide) (by decide), e1, e2, q 1 (by decide)]; exact hL p hp
  · rw [q16] at hn
    rw [excM_f (f 19 (by decide) (by decide)), f 18 (by decide) (by decide), q 5 (by decide), q 1 (by decide)]
    by_cases g : n = i
    · obtain ⟨S, hS9⟩ : ∃ S : Nat → Int, S = fun q => if q < 11 then seV a bg ki st wd q else 0 := ⟨_, rfl⟩
      have eS : serM (seM M i a bg ki st wd) n = S := by rw [seM_ser, if_pos g, hS9]
      rw [eS]
      have s0 : S 0 = a := by rw [hS9]; rfl
      have s1 : S 1 = bg := by rw [hS9]; rfl
      have s2 : S 2 = ki := by rw [hS9]; rfl
      have s3 : S 3 = st := by rw [hS9]; rfl
      have s4 : S 4 = wd := by rw [hS9]; rfl
      have s5 : S 5 = 0 := by rw [hS9]; rfl
      have s6 : S 6 = 0 := by rw [hS9]; rfl
      have s7 : S 7 = min 73048 (bg / 1440 + 4000) := by rw [hS9]; rfl
      have s8 : S 8 = min 73048 (bg / 1440 + 4000) := by rw [hS9]; rfl
      have s9 : S 9 = 0 := by rw [hS9]; rfl
      have s10 : S 10 = 0 := by rw [hS9]; rfl
      have sb : bdS S = bg / 1440 := by unfold bdS; rw [s1]
      refine ⟨by omega, by omega, fun k hk => by omega, fun k hk => by omega⟩
    · rw [seM_ser, if_neg g]; exact hS n (by omega)
  · rw [q 29 (by decide)] at hk
    have e1 : feaM (seM M i a bg ki st wd) = feaM M := by funext k j; unfold feaM; rw [f 30 (by decide) (by decide), f 31 (by decide) (by decide), f 33 (by decide) (by decide)]
    rw [e1, f 32 (by decide) (by decide), q 1 (by decide)]; exact hF k hk
end ZOM
