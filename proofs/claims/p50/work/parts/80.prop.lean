-- ===== searches: more =====
theorem cP_pos {p : Int → Bool} {a b c : Int} (h1 : a ≤ c) (h2 : c < b) (hc : p c = true) : 1 ≤ cP p (b - a).toNat a := by
  rw [cP_split (c := c) a h1 (by omega), cP_s h2, hc]
  have g1 := (cP_rng (p := p) (b := c) a).1
  have g2 := (cP_rng (p := p) (b := b) (c + 1)).1
  rw [if_pos rfl]; omega
theorem lP_spec {p : Int → Bool} {a : Int} : ∀ (n : Nat) (b : Int), b = a + n → (lP p (b - a).toNat a = -1 ∧ ∀ m, a ≤ m → m < b → p m = false) ∨ (a ≤ lP p (b - a).toNat a ∧ lP p (b - a).toNat a < b ∧ p (lP p (b - a).toNat a) = true ∧ ∀ q, lP p (b - a).toNat a < q → q < b → p q = false)
  | 0, b, hb => by
    left
    exact ⟨lP_e (by omega), fun m h1 h2 => by omega⟩
  | n + 1, b, hb => by
    have e : b = (b - 1) + 1 := by omega
    have hl : lP p (b - a).toNat a = if p (b - 1) then b - 1 else lP p (b - 1 - a).toNat a := by
      have := lP_s (p := p) (a := a) (b := b - 1) (by omega)
      rw [← e] at this; exact this
    rw [hl]
    cases hp : p (b - 1) with
    | true =>
      right
      rw [if_pos rfl]
      exact ⟨by omega, by omega, hp, fun q g1 g2 => by omega⟩
    | false =>
      rw [if_neg (by simp)]
      rcases lP_spec (p := p) (a := a) n (b - 1) (by omega) with ⟨h1, h2⟩ | ⟨h1, h2, h3, h4⟩
      · left
        refine ⟨h1, fun m g1 g2 => ?_⟩
        by_cases g : m = b - 1
        · rw [g]; exact hp
        · exact h2 m g1 (by omega)
      · right
        refine ⟨h1, by omega, h3, fun q g1 g2 => ?_⟩
        by_cases g : q = b - 1
        · rw [g]; exact hp
        · exact h4 q g1 (by omega)
-- ===== clocks =====
theorem shw_iff {sv : Int → Int} {base loc m : Int} : shw sv base loc m = true ↔ m + base + sv m = loc := by unfold shw; exact decide_eq_true_iff
theorem cp_clock {sv : Int → Int} {base mo : Int} (h0 : 0 ≤ mo ∧ mo ≤ 105190559) {loc : Int} (hloc : loc = mo + base + sv mo) :
    1 ≤ shN sv base loc ∧ (0 ≤ momF sv base loc ∧ momF sv base loc ≤ mo ∧ momF sv base loc + base + sv (momF sv base loc) = loc) ∧ (mo ≤ shL sv base loc ∧ shL sv base loc ≤ 105190559 ∧ shL sv base loc + base + sv (shL sv base loc) = loc) ∧ (shN sv base loc = 1 ↔ momF sv base loc = shL sv base loc) := by
  have hm : shw sv base loc mo = true := shw_iff.mpr hloc.symm
  obtain ⟨b, hb⟩ : ∃ b : Int, b = 105190560 := ⟨_, rfl⟩
  have eN : shN sv base loc = cP (shw sv base loc) (b - 0).toNat 0 := by rw [hb]; rfl
  have eL : shL sv base loc = lP (shw sv base loc) (b - 0).toNat 0 := by rw [hb]; rfl
  have eF : shF sv base loc = fP (shw sv base loc) (b - 0).toNat 0 := by rw [hb]; rfl
  have eM : momF sv base loc = if 0 ≤ shF sv base loc then shF sv base loc else psF sv base loc := rfl
  rcases fP_spec (p := shw sv base loc) (b := b) 0 with ⟨_, h⟩ | ⟨f1, f2, f3, f4⟩
  · exact absurd hm (by rw [h mo h0.1 (by omega)]; simp)
  rw [← eF] at f1 f2 f3 f4
  rw [if_pos f1] at eM
  rcases lP_spec (p := shw sv base loc) (a := 0) b.toNat b (by omega) with ⟨_, h⟩ | ⟨l1, l2, l3, l4⟩
  · exact absurd hm (by rw [h mo h0.1 (by omega)]; simp)
  rw [← eL] at l1 l2 l3 l4
  have hFm : shF sv base loc ≤ mo := by
    rcases Int.lt_or_le mo (shF sv base loc) with g | g
    · exact absurd hm (by rw [f4 mo h0.1 g]; simp)
    · exact g
  have hLm : mo ≤ shL sv base loc := by
    rcases Int.lt_or_le (shL sv base loc) mo with g | g
    · exact absurd hm (by rw [l4 mo g (by omega)]; simp)
    · exact g
  rw [eM]
  refine ⟨?_, ⟨f1, hFm, shw_iff.mp f3⟩, ⟨hLm, by omega, shw_iff.mp l3⟩, ?_⟩
  · rw [eN]; exact cP_pos h0.1 (by omega) hm
  · constructor
    · intro h1
      rcases Int.lt_or_le (shF sv base loc) (shL sv base loc) with g | g
      · exfalso
        rw [eN, cP_split (c := shL sv base loc) 0 l1 (by omega)] at h1
        have g1 := cP_pos (p := shw sv base loc) (a := 0) (b := shL sv base loc) f1 g f3
        have g2 := cP_pos (p := shw sv base loc) (a := shL sv base loc) (b := b) (Int.le_refl _) l2 l3
        omega
      · omega
    · intro h1
      rw [eN]
      refine cP_one f1 f2 f3 (fun m g1 g2 g3 => ?_)
      rcases Int.lt_or_le m (shF sv base loc) with g | g
      · exact f4 m g1 g
      · exact l4 m (by omega) g2
theorem chg_f {sv : Int → Int} {m : Int} (h : chg sv m = false) : sv m = sv (m - 1) := by
  unfold chg at h
  have h2 := of_decide_eq_false h
  exact Classical.byContradiction h2
theorem sv_same {sv : Int → Int} {a : Int} : ∀ (n : Nat), (∀ q, a < q → q ≤ a + n → chg sv q = false) → sv (a + n) = sv a
  | 0, _ => by rw [show a + ((0 : Nat) : Int) = a by omega]
  | n + 1, h => by
    have h1 := sv_same (sv := sv) (a := a) n (fun q g1 g2 => h q g1 (by omega))
    have h2 := chg_f (h (a + ((n + 1 : Nat) : Int)) (by omega) (by omega))
    rw [h2, show a + ((n + 1 : Nat) : Int) - 1 = a + n by omega, h1]
theorem cp_next {sv : Int → Int} {mo : Int} (h0 : 0 ≤ mo ∧ mo ≤ 105190559) : (ncF sv mo = -1 ∧ sv 105190559 = sv mo) ∨ (mo < ncF sv mo ∧ ncF sv mo ≤ 105190559 ∧ sv (ncF sv mo) ≠ sv (ncF sv mo - 1) ∧ sv (ncF sv mo - 1) = sv mo) := by
  obtain ⟨b, hb⟩ : ∃ b : Int, b = 105190560 := ⟨_, rfl⟩
  have eC : ncF sv mo = fP (chg sv) (b - (mo + 1)).toNat (mo + 1) := by rw [hb]; rfl
  rcases fP_spec (p := chg sv) (b := b) (mo + 1) with ⟨h1, h2⟩ | ⟨f1, f2, f3, f4⟩
  · left
    refine ⟨by rw [eC]; exact h1, ?_⟩
    have := sv_same (sv := sv) (a := mo) (105190559 - mo).toNat (fun q g1 g2 => h2 q (by omega) (by omega))
    rw [show mo + ((105190559 - mo).toNat : Int) = 105190559 by omega] at this; exact this
  · right
    rw [← eC] at f1 f2 f3 f4
    have := sv_same (sv := sv) (a := mo) (ncF sv mo - 1 - mo).toNat (fun q g1 g2 => f4 q (by omega) (by omega))
    rw [show mo + ((ncF sv mo - 1 - mo).toNat : Int) = ncF sv mo - 1 by omega] at this
    refine ⟨by omega, by omega, ?_, this⟩
    unfold chg at f3
    exact of_decide_eq_true f3
-- ===== days =====
theorem nxT_is {P : Nat → Int} {d : Int} : ∀ (n : Nat) (i : Int), nxT P d n i = -1 ∨ ∃ j, i ≤ j ∧ j < i + n ∧ nxT P d n i = told P j ∧ d ≤ told P j
  | 0, _ => Or.inl rfl
  | n + 1, i => by
    have e : nxT P d (n + 1) i = if d ≤ told P i then told P i else nxT P d n (i + 1) := rfl
    by_cases h : d ≤ told P i
    · rw [if_pos h] at e
      exact Or.inr ⟨i, by omega, by omega, e, h⟩
    · rw [if_neg h] at e
      rcases nxT_is (P := P) (d := d) n (i + 1) with g | ⟨j, g1, g2, g3, g4⟩
      · exact Or.inl (e.trans g)
      · exact Or.inr ⟨j, by omega, by omega, e.trans g3, g4⟩
theorem cp_told {P : Nat → Int} {d : Int} (hd : 0 ≤ d ∧ d ≤ 73048) : nextT P d = -1 ∨ (d ≤ nextT P d ∧ nextT P d ≤ 73048 ∧ told P (mi (nextT P d)) = nextT P d ∧ (told P (mi d) = d → nextT P d = d)) := by
  have hm := mi_rng hd.1 hd.2
  have e : nextT P d = nxT P d (2400 - mi d).toNat (mi d) := rfl
  rcases nxT_is (P := P) (d := d) (2400 - mi d).toNat (mi d) with g | ⟨j, g1, g2, g3, g4⟩
  · exact Or.inl (e.trans g)
  · right
    rw [← e] at g3
    have g5 := told_mi (P := P) (i := j) (by omega) (by omega) (by omega)
    have g6 := (told_rng P j).2.2
    refine ⟨by omega, by omega, by rw [g3, g5], fun h => ?_⟩
    rw [e, nxT_hit (by omega) (by omega), h]
theorem cp_date {d : Int} (hd : 0 ≤ d ∧ d ≤ 73048) : cdDate (1900 + yr d) (mi d % 12 + 1) (d - mB (mi d) + 1) = 0 ∧ vlDate (1900 + yr d) (mi d % 12 + 1) (d - mB (mi d) + 1) = d := by
  have hm := mi_rng hd.1 hd.2
  have hy := yr_mi hd.1 hd.2
  have e : 12 * (1900 + yr d - 1900) + (mi d % 12 + 1) - 1 = mi d := by omega
  constructor
  · unfold cdDate
    rw [lenM_mB (by omega) (by omega), e, if_pos (by omega)]
  · unfold vlDate
    rw [e]; omega
theorem chF_is {p : Int → Bool} : ∀ (n : Nat) (a w : Int), 1 ≤ w → chF p n a w = -1 ∨ (a ≤ chF p n a w ∧ chF p n a w < a + n ∧ p (chF p n a w) = true ∧ cP p (chF p n a w + 1 - a).toNat a = w)
  | 0, _, _, _ => Or.inl rfl
  | n + 1, a, w, hw => by
    have e : chF p (n + 1) a w = if p a then (if w = 1 then a else chF p n (a + 1) (w - 1)) else chF p n (a + 1) w := rfl
    cases hp : p a with
    | true =>
      rw [hp, if_pos rfl] at e
      by_cases h1 : w = 1
      · rw [if_pos h1] at e
        right
        rw [e]
        refine ⟨by omega, by omega, hp, ?_⟩
        rw [cP_s (by omega), cP_e (by omega), hp, if_pos rfl]; omega
      · rw [if_neg h1] at e
        rcases chF_is (p := p) n (a + 1) (w - 1) (by omega) with g | ⟨g1, g2, g3, g4⟩
        · exact Or.inl (e.trans g)
        · right
          rw [e]
          refine ⟨by omega, by omega, g3, ?_⟩
          rw [cP_s (by omega), g4, hp, if_pos rfl]; omega
    | false =>
      rw [hp, if_neg (by simp)] at e
      rcases chF_is (p := p) n (a + 1) w hw with g | ⟨g1, g2, g3, g4⟩
      · exact Or.inl (e.trans g)
      · right
        rw [e]
        refine ⟨by omega, by omega, g3, ?_⟩
        rw [cP_s (by omega), g4, hp, if_neg (by simp)]; omega
theorem chB_is {p : Int → Bool} : ∀ (n : Nat) (b w : Int), 1 ≤ w → chB p n b w = -1 ∨ (b - n < chB p n b w ∧ chB p n b w ≤ b ∧ p (chB p n b w) = true ∧ cP p (b + 1 - chB p n b w).toNat (chB p n b w) = w)
  | 0, _, _, _ => Or.inl rfl
  | n + 1, b, w, hw => by
    have e : chB p (n + 1) b w = if p b then (if w = 1 then b else chB p n (b - 1) (w - 1)) else chB p n (b - 1) w := rfl
    cases hp : p b with
    | true =>
      rw [hp, if_pos rfl] at e
      by_cases h1 : w = 1
      · rw [if_pos h1] at e
        right
        rw [e]
        refine ⟨by omega, by omega, hp, ?_⟩
        rw [cP_s (by omega), cP_e (by omega), hp, if_pos rfl]; omega
      · rw [if_neg h1] at e
        rcases chB_is (p := p) n (b - 1) (w - 1) (by omega) with g | ⟨g1, g2, g3, g4⟩
        · exact Or.inl (e.trans g)
        · right
          rw [e]
          refine ⟨by omega, by omega, g3, ?_⟩
          rw [show b - 1 + 1 = b by omega] at g4
          rw [cP_last (by omega), g4, hp, if_pos rfl]; omega
    | false =>
      rw [hp, if_neg (by simp)] at e
      rcases chB_is (p := p) n (b - 1) w hw with g | ⟨g1, g2, g3, g4⟩
      · exact Or.inl (e.trans g)
      · right
        rw [e]
        refine ⟨by omega, by omega, g3, ?_⟩
        rw [show b - 1 + 1 = b by omega] at g4
        rw [cP_last (by omega), g4, hp, if_neg (by simp)]; omega
/-- seven working days behind and ahead -/
theorem cp_bh {p : Int → Bool} {day : Int} (hd : 0 ≤ day ∧ day ≤ 73048) : bhF p day 7 = -1 ∨ (day < bhF p day 7 ∧ bhF p day 7 ≤ 73048 ∧ p (bhF p day 7) = true ∧ cP p (day + (bhF p day 7 - day + 1) - day).toNat day = 7 + bI (p day)) := by
  have e : bhF p day 7 = chF p (min (day + 500) 73048 - (day + 1) + 1).toNat (day + 1) 7 := by
    unfold bhF; rw [if_neg (by decide), if_pos (by decide)]
  rcases chF_is (p := p) (min (day + 500) 73048 - (day + 1) + 1).toNat (day + 1) 7 (by decide) with g | ⟨g1, g2, g3, g4⟩
  · exact Or.inl (e.trans g)
  · right
    rw [← e] at g1 g2 g3 g4
    refine ⟨by omega, by omega, g3, ?_⟩
    rw [show day + (bhF p day 7 - day + 1) - day = bhF p day 7 + 1 - day by omega, cP_s (by omega), g4]
    cases hp : p day with
    | true => rw [if_pos rfl, bI_t rfl]; omega
    | false => rw [if_neg (by simp)]; rfl
theorem cp_ah {p : Int → Bool} {day : Int} (hd : 0 ≤ day ∧ day ≤ 73048) : bhF p day (-7) = -1 ∨ (0 ≤ bhF p day (-7) ∧ bhF p day (-7) < day ∧ p (bhF p day (-7)) = true ∧ cP p (bhF p day (-7) + (day - bhF p day (-7)) - bhF p day (-7)).toNat (bhF p day (-7)) = 7) := by
  have e : bhF p day (-7) = chB p (day - 1 - max 0 (day - 500) + 1).toNat (day - 1) 7 := by
    unfold bhF; rw [if_neg (by decide), if_neg (by decide)]; rfl
  rcases chB_is (p := p) (day - 1 - max 0 (day - 500) + 1).toNat (day - 1) 7 (by decide) with g | ⟨g1, g2, g3, g4⟩
  · exact Or.inl (e.trans g)
  · right
    rw [← e] at g1 g2 g3 g4
    refine ⟨by omega, by omega, g3, ?_⟩
    rw [show bhF p day (-7) + (day - bhF p day (-7)) - bhF p day (-7) = day - 1 + 1 - bhF p day (-7) by omega, g4]
theorem cp_wkd {M : zM} {d : Int} (h : wkdM M d = true) : falM M d = -1 := by
  have h1 := (wkF_iff.mp (show wkF (M 40 26) (falM M) d = true from h)).2
  have h2 := (Fa_rng (M 40 26) (feaM M) (fepM M) (M 40 29).toNat d).1
  have e : falM M d = Fa (M 40 26) (feaM M) (fepM M) (M 40 29).toNat d := rfl
  omega
-- ===== bounds =====
theorem sav_bd {ρ : zL} {K : zK} {X : zX} {Rf : zR} {x : Nat} {M : zM} (hC : repC ρ K X Rf x M) (hM : okM M) {p : Nat} (hp : (p : Int) < M 40 5) (m : Int) (h0 : 0 ≤ m) (h1 : m ≤ 105190559) : 0 ≤ savM M p m ∧ savM M p m ≤ 180 := by
  have h5 : M 40 5 ≤ 6 := hM.1.2.1.2
  obtain ⟨-, pr, pl, sr, dr, na, wo, -, -, -, -, -, hpl, -⟩ := hC
  rcases hpl p (by omega) with ⟨-, p0, -, -, tu, to, be, sa, -, -, -, -, -, -, -, hprep⟩ | ⟨q, -⟩
  · exact sv_rng hprep h0 h1
  · exfalso; omega
theorem loc_bd {ρ : zL} {K : zK} {X : zX} {Rf : zR} {x : Nat} {M : zM} (hC : repC ρ K X Rf x M) (hM : okM M) {a mo : Int} (ha : 0 ≤ a ∧ a < M 40 5) (h : 0 ≤ mo ∧ mo ≤ 105190559) : -840 ≤ locM M a mo ∧ locM M a mo ≤ 105192000 := by
  have h1 := sav_bd hC hM (p := a.toNat) (by omega) mo h.1 h.2
  have h2 := (hM.2.2.1 a.toNat (by omega)).1
  unfold locM; omega
theorem shN_bd {sv : Int → Int} {base loc : Int} : 0 ≤ shN sv base loc ∧ shN sv base loc ≤ 105190560 := by
  obtain ⟨b, hb⟩ : ∃ b : Int, b = 105190560 := ⟨_, rfl⟩
  have eN : shN sv base loc = cP (shw sv base loc) (b - 0).toNat 0 := by rw [hb]; rfl
  have h := cP_rng (p := shw sv base loc) (b := b) 0
  have h2 := h.2 (by omega)
  rw [eN]; omega
