-- ===== the keys of a place's turns =====
def smY (T : Nat → Nat → Int) : Nat → Int
  | 0 => 0
  | t + 1 => smY T t + (T t 1 - T t 0 + 1)
theorem smY_rng {T : Nat → Nat → Int} {n : Nat} (hT : ∀ k, k < n → okT (T k)) : ∀ t : Nat, t ≤ n → 0 ≤ smY T t ∧ smY T t ≤ 200 * t
  | 0, _ => by simp [smY]
  | t + 1, h => by
    have h1 := smY_rng hT t (by omega)
    have h2 := hT t (by omega)
    unfold smY; omega
theorem smY_mono {T : Nat → Nat → Int} {n : Nat} (hT : ∀ k, k < n → okT (T k)) {t : Nat} : ∀ d : Nat, t + d ≤ n → smY T t ≤ smY T (t + d)
  | 0, _ => Int.le_refl _
  | d + 1, h => by
    have h1 := smY_mono hT (t := t) d (by omega)
    have h2 := hT (t + d) (by omega)
    have e : smY T (t + d + 1) = smY T (t + d) + (T (t + d) 1 - T (t + d) 0 + 1) := rfl
    rw [show t + (d + 1) = t + d + 1 by omega, e]; omega
theorem ttE_in {T Pt : Nat → Nat → Int} {k : Nat} {y : Int} (h : 0 ≤ ttE T Pt k y) : T k 0 ≤ y ∧ y ≤ T k 1 := by
  unfold ttE tTold at h
  split at h
  · omega
  · omega
theorem ttE_day {T Pt : Nat → Nat → Int} {k : Nat} {y d : Int} (h : T k 0 ≤ y ∧ y ≤ T k 1) (hd : d = nxT (Pt k) 0 12 (12 * (y - 1900))) : ttE T Pt k y = if d < 0 then -1 else 1440 * d + T k 3 := by
  unfold ttE tTold
  rw [if_neg (by omega), ← hd]
def KS (T Pt : Nat → Nat → Int) (D : Nat → Int → Prop) (c : Int) (G : Nat → Int) : Prop := 0 ≤ c ∧ (∀ i : Nat, (i : Int) < c → ∃ k : Nat, ∃ y : Int, D k y ∧ 0 ≤ ttE T Pt k y ∧ G i = 8 * ttE T Pt k y + k) ∧ (∀ k : Nat, ∀ y : Int, D k y → 0 ≤ ttE T Pt k y → ∃ i : Nat, (i : Int) < c ∧ G i = 8 * ttE T Pt k y + k) ∧ injR 0 c G
def dO (tt : Nat) : Nat → Int → Prop := fun k _ => k < tt
def dI (tt : Nat) (yy : Int) : Nat → Int → Prop := fun k y => k < tt ∨ (k = tt ∧ y < yy)
section ZKS
variable {T Pt : Nat → Nat → Int} {D D' : Nat → Int → Prop} {n tt : Nat} {yy c : Int} {G G' : Nat → Int}
theorem KS.zero : KS T Pt (dO 0) 0 G := ⟨Int.le_refl _, fun i h => by omega, fun k y h _ => absurd h (Nat.not_lt_zero _), fun i j i1 i2 => by omega⟩
theorem KS.conv (h : KS T Pt D c G) (hD : ∀ k y, 0 ≤ ttE T Pt k y → (D k y ↔ D' k y)) : KS T Pt D' c G := ⟨h.1, fun i hi => by
    obtain ⟨k, y, h1, h2, h3⟩ := h.2.1 i hi
    exact ⟨k, y, (hD k y h2).mp h1, h2, h3⟩, fun k y h1 h2 => h.2.2.1 k y ((hD k y h2).mpr h1) h2, h.2.2.2⟩
theorem KS.start (h : KS T Pt (dO tt) c G) : KS T Pt (dI tt (T tt 0)) c G := h.conv (fun k y h0 => ⟨fun g => Or.inl g, fun g => by
  rcases g with g | ⟨g1, g2⟩
  · exact g
  · subst g1; have := ttE_in h0; omega⟩)
theorem KS.next (h : KS T Pt (dI tt yy) c G) (hy : T tt 1 < yy) : KS T Pt (dO (tt + 1)) c G := h.conv (fun k y h0 => ⟨fun g => by
    show k < tt + 1
    rcases g with g | ⟨g1, g2⟩ <;> omega, fun g => by
    have g : k < tt + 1 := g
    by_cases w : k = tt
    · subst w; have := ttE_in h0; exact Or.inr ⟨rfl, by omega⟩
    · exact Or.inl (by omega)⟩)
theorem KS.skip (h : KS T Pt (dI tt yy) c G) (hy : ttE T Pt tt yy < 0) : KS T Pt (dI tt (yy + 1)) c G := h.conv (fun k y h0 => ⟨fun g => by
    rcases g with g | ⟨g1, g2⟩
    · exact Or.inl g
    · exact Or.inr ⟨g1, by omega⟩, fun g => by
    rcases g with g | ⟨g1, g2⟩
    · exact Or.inl g
    · by_cases w : y = yy
      · subst w; subst g1; omega
      · exact Or.inr ⟨g1, by omega⟩⟩)
theorem KS.put (h : KS T Pt (dI tt yy) c G) (hT : ∀ k, k ≤ tt → okT (T k)) (ht : tt < 8) (h0 : 0 ≤ ttE T Pt tt yy) (hG : G' = updF G c.toNat (8 * ttE T Pt tt yy + tt)) : KS T Pt (dI tt (yy + 1)) (c + 1) G' := by
  obtain ⟨hc, h1, h2, h3⟩ := h
  have ol : ∀ j : Nat, (j : Int) < c → G' j = G j := fun j hj => by rw [hG, updF_o (by omega)]
  have nw : ∀ j : Nat, (j : Int) < c + 1 → ¬ (j : Int) < c → G' j = 8 * ttE T Pt tt yy + tt := fun j g1 g2 => by rw [hG, show j = c.toNat by omega, updF_s]
  have far : ∀ j : Nat, (j : Int) < c → G j ≠ 8 * ttE T Pt tt yy + tt := fun j hj e => by
    obtain ⟨k, y, d, e0, e1⟩ := h1 j hj
    rw [e1] at e
    rcases d with d | ⟨d1, d2⟩
    · omega
    · subst d1
      have := ttE_late (Pt := Pt) (hT _ (Nat.le_refl _)) (hT _ (Nat.le_refl _)) d2 e0 h0
      omega
  refine ⟨by omega, fun i hi => ?_, fun k y d e0 => ?_, fun i j i1 i2 j1 j2 e => ?_⟩
  · by_cases g : (i : Int) < c
    · obtain ⟨k, y, d, e0, e1⟩ := h1 i g
      refine ⟨k, y, ?_, e0, by rw [ol i g]; exact e1⟩
      rcases d with d | ⟨d1, d2⟩
      · exact Or.inl d
      · exact Or.inr ⟨d1, by omega⟩
    · exact ⟨tt, yy, Or.inr ⟨rfl, by omega⟩, h0, nw i hi g⟩
  · by_cases w : k = tt ∧ y = yy
    · obtain ⟨w1, w2⟩ := w
      subst w1 w2
      exact ⟨c.toNat, by omega, by rw [hG, updF_s]⟩
    · obtain ⟨i, i1, i2⟩ := h2 k y (by
        rcases d with d | ⟨d1, d2⟩
        · exact Or.inl d
        · exact Or.inr ⟨d1, by omega⟩) e0
      exact ⟨i, by omega, by rw [ol i i1]; exact i2⟩
  · by_cases gi : (i : Int) < c
    · by_cases gj : (j : Int) < c
      · rw [ol i gi, ol j gj] at e; exact h3 i j i1 gi j1 gj e
      · rw [ol i gi, nw j j2 gj] at e; exact absurd e (far i gi)
    · by_cases gj : (j : Int) < c
      · rw [nw i i2 gi, ol j gj] at e; exact absurd e.symm (far j gj)
      · omega
theorem KS.fits (h : KS T Pt D c G) (hD : ∀ k y, D k y → k < n) (hn : n ≤ 6) (hT : ∀ k, k < n → okT (T k)) : ∀ j : Nat, (j : Int) < c → 0 ≤ G j ∧ G j ≤ 841524480 := fun j hj => by
  obtain ⟨k, y, d, e0, e1⟩ := h.2.1 j hj
  have h1 := hD k y d
  have h2 := ttE_rng (Pt := Pt) (hT k h1) y
  rw [e1]; omega
theorem KS.ev (h : KS T Pt (dO n) c G) (hT : ∀ k, k < n → okT (T k)) (hp : Prm 0 c G G') (hs : srtR 0 c G') : evOK T Pt n G' c.toNat := by
  have hss := hs.s hp.2.2.2
  refine ⟨fun i j g1 g2 => hss i j (by omega) g1 (by omega), fun i hi => ?_, fun k hk y hy h0 => ?_⟩
  · obtain ⟨m, m1, m2, m3⟩ := hp.2.1 i (by omega) (by omega)
    obtain ⟨k, y, d, e0, e1⟩ := h.2.1 m m2
    have hin := ttE_in e0
    refine ⟨k, d, y, ?_, e0, by rw [m3]; exact e1⟩
    by_cases w : 1900 ≤ y ∧ y ≤ 2099
    · exact w
    · have := hT k d; omega
  · obtain ⟨i, i1, i2⟩ := h.2.2.1 k y hk h0
    obtain ⟨m, m1, m2, m3⟩ := hp.2.2.1 i (by omega) i1
    exact ⟨m, by omega, by rw [m3]; exact i2⟩
end ZKS
-- ===== a place laid =====
section ZLY
variable {ρ ρ' : zL} {K K' : zK} {X X' : zX} {Rf Rf' : zR} {M : zM} {md p : Nat}
theorem evNM_le (hM : okM M) (hp : (p : Int) < M 40 5) : evNM M p ≤ 1200 := evN_le (by have := (hM.2.2.1 p hp).2.1; omega)
theorem repR.often (h : repR ρ K X Rf md M) (hM : okM M) {a9 : Nat} (h9 : Rf md 9 = some a9) (hp : p < 6) : -1 ≤ X a9 p ∧ X a9 p ≤ 1200 := by
  obtain ⟨-, -, -, b9, b10, b11, b22, b34, ⟨g1, g2, g3, g4, g5⟩, hpc, hs, hl⟩ := h
  rw [g1] at h9; cases h9
  rcases hpc p hp with ⟨q1, q2 | ⟨mo, sv, -, -, -, q3, -⟩⟩ | ⟨q1, q2⟩
  · omega
  · have := evNM_le hM q1; omega
  · omega
/-- what is laid of a place -/
theorem repR.plc (h : repR ρ K X Rf md M) {a9 a10 a11 : Nat} (h9 : Rf md 9 = some a9) (h10 : Rf md 10 = some a10) (h11 : Rf md 11 = some a11) (hp : p < 6) (hp5 : (p : Int) < M 40 5) (hl : dlC X Rf md p = 0) : X a9 p = evNM M p ∧ ∃ mo sv : Nat, (Rf a10 p = some mo ∧ Rf a11 p = some sv) ∧ (K mo = (2, evNM M p) ∧ K sv = (2, evNM M p)) ∧ (∀ k, k < evNM M p → X mo k = evMo M p k) ∧ ∀ k, k < evNM M p → X sv k = evSv M p (k + 1) := by
  obtain ⟨-, -, -, b9, b10, b11, b22, b34, ⟨g1, g2, g3, g4, g5⟩, hpc, hs, -⟩ := h
  rw [g1] at h9; cases h9
  rw [g2] at h10; cases h10
  rw [g3] at h11; cases h11
  rcases hpc p hp with ⟨q1, q2 | ⟨mo, sv, w1, w2, w3, w4, w5, w6⟩⟩ | ⟨q1, q2⟩
  · rw [dlC_a g1, if_pos q2] at hl; exact absurd hl (by decide)
  · exact ⟨w4, mo, sv, w1, w2, w5, w6⟩
  · omega
theorem repR.lay9 (h : repR ρ K X Rf md M) {a9 a10 a11 mo sv : Nat} (h9 : Rf md 9 = some a9) (h10 : Rf md 10 = some a10) (h11 : Rf md 11 = some a11) (hp : p < 6) (hp5 : (p : Int) < M 40 5) (gK : ∀ a, (K a).1 ≠ 0 → K' a = K a) (gX : ∀ a, (K a).1 ≠ 0 → a ≠ a9 → X' a = X a) (hro : ∀ a, (K a).1 ≠ 0 → ρ' a = ρ a) (gR : ∀ a, (K a).1 ≠ 0 → a ≠ a10 → a ≠ a11 → Rf' a = Rf a)
    (k9 : ∀ k, k ≠ p → X' a9 k = X a9 k) (k10 : ∀ k, k ≠ p → Rf' a10 k = Rf a10 k) (k11 : ∀ k, k ≠ p → Rf' a11 k = Rf a11 k) (hr : Rf' a10 p = some mo ∧ Rf' a11 p = some sv) (hk : K' mo = (2, evNM M p) ∧ K' sv = (2, evNM M p)) (hl : ρ' mo = 3000 + p ∧ ρ' sv = 3010 + p) (hv9 : X' a9 p = evNM M p) (hvm : ∀ k, k < evNM M p → X' mo k = evMo M p k) (hvs : ∀ k, k < evNM M p → X' sv k = evSv M p (k + 1)) : repR ρ' K' X' Rf' md M ∧ frR ρ K X Rf ρ' K' X' Rf' ∧ lsR X Rf X' Rf' md ∧ dlC X' Rf' md p = 0 := by
  have hff := h.ff
  obtain ⟨⟨hmd, hlmd⟩, hnum, hd, b9, b10, b11, a22, a34, ⟨g1, g2, g3, g4, g5⟩, hpc, hs, hlf⟩ := h
  have e9 := g1
  rw [h9] at e9; cases e9
  have e10 := g2
  rw [h10] at e10; cases e10
  have e11 := g3
  rw [h11] at e11; cases e11
  have lab : ∀ f a, (kdM f).1 ≠ 0 → Rf md f = some a → ρ a = 2001 + f ∧ (K a).1 ≠ 0 := fun f a hk hr => by
    obtain ⟨b, w1, w2, w3⟩ := hff f hk
    rw [hr] at w1; cases w1
    exact ⟨w3, by rw [w2]; exact hk⟩
  have l22 := lab 22 a22 (by decide) g4
  have l9 := lab 9 a9 (by decide) g1
  have l10 := lab 10 a10 (by decide) g2
  have l11 := lab 11 a11 (by decide) g3
  have l34 := lab 34 a34 (by decide) g5
  have hm := zk1 hmd
  have nX : ∀ a, (K a).1 ≠ 0 → ρ a ≠ 2010 → X' a = X a := fun a q1 q2 => gX a q1 (fun g => q2 (by rw [g]; exact l9.1))
  have nR : ∀ a, (K a).1 ≠ 0 → ρ a ≠ 2011 → ρ a ≠ 2012 → Rf' a = Rf a := fun a q1 q2 q3 => gR a q1 (fun g => q2 (by rw [g]; exact l10.1)) (fun g => q3 (by rw [g]; exact l11.1))
  have hmR : Rf' md = Rf md := nR md hm (by omega) (by omega)
  have hmX : X' md = X md := nX md hm (by omega)
  have h1011 : a10 ≠ a11 := fun g => by have := l10.1; rw [g] at this; omega
  refine ⟨⟨⟨by rw [gK md hm]; exact hmd, by rw [hro md hm]; exact hlmd⟩, fun q g => by rw [hmX]; exact hnum q g, fun f hf => ?_, a9, a10, a11, a22, a34, by rw [hmR]; exact ⟨g1, g2, g3, g4, g5⟩, fun q hq6 => ?_, fun k hk6 => ?_, by rw [hmX, nX a34 l34.2 (by omega)]; exact hlf⟩, fun a ha => ⟨gK a ha, hro a ha, fun g => ⟨nX a ha (by omega), nR a ha (by omega) (by omega)⟩⟩, ⟨fun q => ?_, fun k => ?_⟩, ?_⟩
  · obtain ⟨b, w1, w2, w3, w4⟩ := hd f hf
    have hb : (K b).1 ≠ 0 := by rw [w2]; exact hf
    refine ⟨b, by rw [hmR]; exact w1, by rw [gK b hb]; exact w2, by rw [hro b hb]; exact w3, fun g => ?_⟩
    rw [nX b hb (fun w => by
      have : f = 9 := by omega
      rw [this] at g; exact absurd g (by decide))]
    exact w4 g
  · by_cases g : q = p
    · subst g
      exact Or.inl ⟨hp5, Or.inr ⟨mo, sv, hr, hk, hl, hv9, hvm, hvs⟩⟩
    · rw [k9 q g]
      rcases hpc q hq6 with ⟨w1, w2⟩ | w
      · exact Or.inl ⟨w1, w2.keep (fun a c1 c2 => ⟨gK a c1, hro a c1, nX a c1 (by omega)⟩) (k9 q g) (k10 q g) (k11 q g)⟩
      · exact Or.inr w
  · exact (hs k hk6).keep (fun a c1 c2 => ⟨gK a c1, hro a c1, nX a c1 (by omega)⟩) (by rw [nR a22 l22.2 (by omega) (by omega)])
  · rw [dlC_a g1, dlC_a (by rw [hmR]; exact g1)]
    by_cases g : q = p
    · subst g
      rw [if_neg (by rw [hv9]; omega)]; omega
    · rw [k9 q g]; exact Nat.le_refl _
  · rw [dnC_a g4, dnC_a (by rw [hmR]; exact g4), nR a22 l22.2 (by omega) (by omega)]; exact Nat.le_refl _
  · rw [dlC_a (by rw [hmR]; exact g1), if_neg (by rw [hv9]; omega)]
end ZLY
