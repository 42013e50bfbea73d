abbrev tsame (F G : Nat → Int) : Prop := F 0 = G 0 ∧ F 1 = G 1 ∧ F 3 = G 3 ∧ F 4 = G 4 ∧ F 5 = G 5
abbrev psame (F G : Nat → Int) : Prop := F 0 = G 0 ∧ F 1 = G 1 ∧ F 2 = G 2
theorem tTold_congr {T T' P P' : Nat → Int} (h : tsame T T') (hp : psame P P') (y : Int) : tTold T P y = tTold T' P' y := by
  unfold tTold
  rw [h.1, h.2.1, h.2.2.1, nxT_congr hp.1 hp.2.1 hp.2.2]
theorem tMom_congr {T T' : Nat → Int} (h : tsame T T') (a b c : Int) : tMom T a b c = tMom T' a b c := by unfold tMom; rw [h.2.2.2.1]
/-- the row tu of turns, n of them, told by T and Pt -/
def turnsOK (K : zK) (X : zX) (Rf : zR) (tu n : Nat) (T Pt : Nat → Nat → Int) : Prop :=
  ∀ k : Nat, k < 6 → (Rf tu k = none ∧ n ≤ k) ∨ (k < n ∧ ∃ t pa, Rf tu k = some t ∧ K t = (1, 5) ∧ Rf t 2 = some pa ∧ K pa = (1, 2) ∧ okT (X t) ∧ okP (X pa) ∧ tsame (X t) (T k) ∧ psame (X pa) (Pt k))
theorem turnsOK.mono {K : zK} {X X' : zX} {Rf : zR} {tu n : Nat} {T Pt : Nat → Nat → Int} (h : turnsOK K X Rf tu n T Pt) (hX : ∀ a, K a = (1, 5) ∨ K a = (1, 2) → X' a = X a) : turnsOK K X' Rf tu n T Pt := by
  intro k hk
  rcases h k hk with h1 | ⟨h1, t, pa, h2, h3, h4, h5, h6⟩
  · exact Or.inl h1
  · exact Or.inr ⟨h1, t, pa, h2, h3, h4, h5, by rw [hX t (Or.inl h3), hX pa (Or.inr h5)]; exact h6⟩
theorem turnsOK.at {K : zK} {X : zX} {Rf : zR} {tu n : Nat} {T Pt : Nat → Nat → Int} (h : turnsOK K X Rf tu n T Pt) {k t : Nat} (hk : k < 6) (ht : Rf tu k = some t) : k < n ∧ K t = (1, 5) ∧ ∃ pa, Rf t 2 = some pa ∧ K pa = (1, 2) ∧ okT (X t) ∧ okP (X pa) ∧ tsame (X t) (T k) ∧ psame (X pa) (Pt k) := by
  rcases h k hk with h1 | ⟨h1, t', pa, h2, h3, h4, h5, h6⟩
  · rw [h1.1] at ht; cases ht
  · rw [h2] at ht; cases ht; exact ⟨h1, h3, pa, h4, h5, h6⟩
theorem turnsOK.no {K : zK} {X : zX} {Rf : zR} {tu n : Nat} {T Pt : Nat → Nat → Int} (h : turnsOK K X Rf tu n T Pt) {k : Nat} (hk : k < 6) (ht : Rf tu k = none) : n ≤ k := by
  rcases h k hk with h1 | ⟨h1, t', pa, h2, h3⟩
  · exact h1.2
  · rw [h2] at ht; cases ht
theorem turnsOK.okk {K : zK} {X : zX} {Rf : zR} {tu n : Nat} {T Pt : Nat → Nat → Int} (h : turnsOK K X Rf tu n T Pt) (hn : n ≤ 6) {k : Nat} (hk : k < n) : okT (T k) := by
  rcases h k (by omega) with h1 | ⟨h1, t', pa, h2, h3, h4, h5, h6, h7, h8, h9⟩
  · omega
  · obtain ⟨a1, a2, a3, a4, a5⟩ := h8
    omega
def tvE (T Pt : Nat → Nat → Int) (n : Nat) (y : Int) (k : Nat) : Int := if k < n then ttE T Pt k y else -1
theorem tTold_late {T P T' P' : Nat → Int} (hT : okT T) (hT' : okT T') {y y' : Int} (h : y < y') (h0 : 0 ≤ tTold T P y) (h1 : 0 ≤ tTold T' P' y') : tTold T P y < tTold T' P' y' ∧ tTold T P y / 1440 < tTold T' P' y' / 1440 := by
  unfold tTold at h0 h1 ⊢
  split at h0
  · omega
  split at h0
  · omega
  split at h1
  · omega
  split at h1
  · omega
  next a b c d =>
  rw [if_neg a, if_neg b, if_neg c, if_neg d]
  have e1 : nxT P 0 12 (12 * (y - 1900)) < mB (12 * (y' - 1900)) := by
    have hr : ∀ (n : Nat) (i : Int), 0 ≤ nxT P 0 n i → nxT P 0 n i < mB (i + n) := by
      intro n
      induction n with
      | zero => intro i h; simp [nxT] at h
      | succ n ih =>
        intro i h
        unfold nxT at h ⊢
        split
        · have := told_rng P i; have := mB_mono (show i + 1 ≤ i + ((n + 1 : Nat) : Int) by omega); omega
        · next g => rw [if_neg g] at h; have := ih (i + 1) h; rw [show i + ((n + 1 : Nat) : Int) = i + 1 + n by omega]; exact this
    have := hr 12 (12 * (y - 1900)) (by omega)
    have := mB_mono (show 12 * (y - 1900) + (12 : Nat) ≤ 12 * (y' - 1900) by omega)
    omega
  have e2 : mB (12 * (y' - 1900)) ≤ nxT P' 0 12 (12 * (y' - 1900)) := by
    have hr : ∀ (n : Nat) (i : Int), 0 ≤ nxT P' 0 n i → mB i ≤ nxT P' 0 n i := by
      intro n
      induction n with
      | zero => intro i h; simp [nxT] at h
      | succ n ih =>
        intro i h
        unfold nxT at h ⊢
        split
        · have := told_rng P' i; omega
        · next g => rw [if_neg g] at h; have := ih (i + 1) h; have := mB_step i; omega
    exact hr 12 _ (by omega)
  omega
theorem ttE_late {T Pt : Nat → Nat → Int} {k k' : Nat} (hT : okT (T k)) (hT' : okT (T k')) {y y' : Int} (h : y < y') (h0 : 0 ≤ ttE T Pt k y) (h1 : 0 ≤ ttE T Pt k' y') : ttE T Pt k y < ttE T Pt k' y' := (tTold_late hT hT' h h0 h1).1
theorem ttE_rng {T Pt : Nat → Nat → Int} {k : Nat} (hT : okT (T k)) (y : Int) : -1 ≤ ttE T Pt k y ∧ ttE T Pt k y ≤ 105190559 := tTold_rng hT y
/-- where the row of keys is split, at the head of a year -/
def ysp (T Pt : Nat → Nat → Int) (n : Nat) (L : Nat → Int) (N j : Nat) (y : Int) : Prop :=
  j ≤ N ∧ (∀ i, i < j → ∃ k, k < n ∧ ∃ y' : Int, y' < y ∧ 0 ≤ ttE T Pt k y' ∧ L i = 8 * ttE T Pt k y' + k) ∧ (∀ i, j ≤ i → i < N → ∃ k, k < n ∧ ∃ y' : Int, (y ≤ y' ∧ y' ≤ 2099) ∧ 0 ≤ ttE T Pt k y' ∧ L i = 8 * ttE T Pt k y' + k)
/-- .. and within it, with what is still told in td -/
def yst (T Pt : Nat → Nat → Int) (n : Nat) (L : Nat → Int) (N j : Nat) (y : Int) (td : Nat → Int) : Prop :=
  j ≤ N ∧ (∀ i, i < j → ∃ k, k < n ∧ ∃ y' : Int, y' ≤ y ∧ 0 ≤ ttE T Pt k y' ∧ L i = 8 * ttE T Pt k y' + k) ∧ (∀ i, j ≤ i → i < N → ∃ k, k < n ∧ ∃ y' : Int, (y ≤ y' ∧ y' ≤ 2099) ∧ 0 ≤ ttE T Pt k y' ∧ L i = 8 * ttE T Pt k y' + k ∧ (y' = y → td k = ttE T Pt k y)) ∧
  (∀ k, k < 6 → td k = -1 ∨ (k < n ∧ 0 ≤ td k ∧ td k = ttE T Pt k y ∧ ∃ i, j ≤ i ∧ i < N ∧ L i = 8 * td k + k))
theorem ysp_0 {T Pt : Nat → Nat → Int} {n : Nat} {L : Nat → Int} {N : Nat} (h : evOK T Pt n L N) : ysp T Pt n L N 0 1900 := by
  refine ⟨Nat.zero_le _, fun i hi => by omega, fun i _ hi => ?_⟩
  obtain ⟨k, hk, y, hy, h1, h2⟩ := h.2.1 i hi
  exact ⟨k, hk, y, by omega, h1, h2⟩
theorem yst_start {T Pt : Nat → Nat → Int} {n : Nat} {L : Nat → Int} {N j : Nat} {y : Int} {td : Nat → Int} (he : evOK T Pt n L N) (hT : ∀ k, k < n → okT (T k)) (hn : n ≤ 6) (hy : 1900 ≤ y ∧ y ≤ 2099) (h : ysp T Pt n L N j y) (htd : ∀ k, k < 6 → td k = tvE T Pt n y k) : yst T Pt n L N j y td := by
  obtain ⟨h1, h2, h3⟩ := h
  refine ⟨h1, fun i hi => ?_, fun i a b => ?_, fun k hk => ?_⟩
  · obtain ⟨k, hk, y', g1, g2⟩ := h2 i hi; exact ⟨k, hk, y', by omega, g2⟩
  · obtain ⟨k, hk, y', g1, g2, g3⟩ := h3 i a b
    exact ⟨k, hk, y', g1, g2, g3, fun _ => by rw [htd k (by omega)]; unfold tvE; rw [if_pos hk]⟩
  · rw [htd k hk]
    unfold tvE
    by_cases hkn : k < n
    · rw [if_pos hkn]
      by_cases h0 : 0 ≤ ttE T Pt k y
      · right
        refine ⟨hkn, h0, rfl, ?_⟩
        obtain ⟨i, hi, hie⟩ := he.2.2 k hkn y hy h0
        refine ⟨i, ?_, hi, hie⟩
        rcases Nat.lt_or_ge i j with q | q
        · obtain ⟨k2, hk2, y2, g1, g2, g3⟩ := h2 i q
          have := ttE_late (hT k2 hk2) (hT k hkn) g1 g2 h0
          omega
        · exact q
      · left
        have := ttE_rng (Pt := Pt) (hT k hkn) y
        omega
    · left; rw [if_neg hkn]
theorem yst_take {T Pt : Nat → Nat → Int} {n : Nat} {L : Nat → Int} {N j : Nat} {y : Int} {td td' : Nat → Int} {r : Nat} (he : evOK T Pt n L N) (hT : ∀ k, k < n → okT (T k)) (hn : n ≤ 6) (h : yst T Pt n L N j y td) (hr : r < 6) (h0 : 0 ≤ td r) (hmin : ∀ k, k < 6 → 0 ≤ td k → td r ≤ td k ∧ (k < r → td r < td k)) (htd : ∀ k, k < 6 → td' k = if k = r then -1 else td k) :
    j < N ∧ L j = 8 * td r + r ∧ td r = ttE T Pt r y ∧ r < n ∧ yst T Pt n L N (j + 1) y td' := by
  obtain ⟨h1, h2, h3, h4⟩ := h
  rcases h4 r hr with q | ⟨hrn, -, hre, i, hji, hi, hie⟩
  · omega
  have hj : j < N := by omega
  have hLj : L j = 8 * td r + r := by
    obtain ⟨k, hk, y', hy', g1, g2, g3⟩ := h3 j (Nat.le_refl _) hj
    have hle : L j ≤ L i := by
      rcases Nat.lt_or_ge j i with q | q
      · have := he.1 j i q hi; omega
      · rw [show j = i by omega]; omega
    by_cases hyy : y' = y
    · subst hyy
      have e := g3 rfl
      have hm := hmin k (by omega) (by omega)
      by_cases hkr : k < r
      · have := hm.2 hkr; omega
      · have := hm.1; omega
    · have := ttE_late (Pt := Pt) (hT r hrn) (hT k hk) (show y < y' by omega) (by omega) g1
      omega
  refine ⟨hj, hLj, hre, hrn, hj, fun i2 hi2 => ?_, fun i2 a b => ?_, fun k hk => ?_⟩
  · by_cases q : i2 = j
    · subst q; exact ⟨r, hrn, y, Int.le_refl _, by omega, by rw [hLj, hre]⟩
    · exact h2 i2 (by omega)
  · obtain ⟨k, hk, y', hy', g1, g2, g3⟩ := h3 i2 (by omega) b
    refine ⟨k, hk, y', hy', g1, g2, fun hyy => ?_⟩
    rw [htd k (by omega), if_neg ?_]
    · exact g3 hyy
    · intro q
      subst q; subst hyy
      have := he.1 j i2 (by omega) b
      have := g3 rfl
      omega
  · rw [htd k hk]
    by_cases hkr : k = r
    · left; rw [if_pos hkr]
    · rw [if_neg hkr]
      rcases h4 k hk with q | ⟨g1, g2, g3, i2, g4, g5, g6⟩
      · exact Or.inl q
      · right
        refine ⟨g1, g2, g3, i2, ?_, g5, g6⟩
        rcases Nat.lt_or_ge j i2 with q | q
        · exact q
        · have e : i2 = j := by omega
          rw [e, hLj] at g6
          omega
theorem yst_end {T Pt : Nat → Nat → Int} {n : Nat} {L : Nat → Int} {N j : Nat} {y : Int} {td : Nat → Int} (hn : n ≤ 6) (h : yst T Pt n L N j y td) (hneg : ∀ k, k < 6 → td k < 0) : ysp T Pt n L N j (y + 1) := by
  obtain ⟨h1, h2, h3, h4⟩ := h
  refine ⟨h1, fun i hi => ?_, fun i a b => ?_⟩
  · obtain ⟨k, hk, y', g1, g2⟩ := h2 i hi; exact ⟨k, hk, y', by omega, g2⟩
  · obtain ⟨k, hk, y', hy', g1, g2, g3⟩ := h3 i a b
    refine ⟨k, hk, y', ?_, g1, g2⟩
    by_cases q : y' = y
    · have := g3 q; have := hneg k (by omega); rw [q] at g1; omega
    · omega
theorem ysp_end {T Pt : Nat → Nat → Int} {n : Nat} {L : Nat → Int} {N j : Nat} {y : Int} (h : ysp T Pt n L N j y) (hy : 2099 < y) : j = N := by
  obtain ⟨h1, h2, h3⟩ := h
  rcases Nat.lt_or_ge j N with q | q
  · obtain ⟨k, hk, y', hy', -⟩ := h3 j (Nat.le_refl _) q; omega
  · omega
/-- how many of the six are still told -/
def nn6 (td : Nat → Int) : Int := (if 0 ≤ td 0 then 1 else 0) + (if 0 ≤ td 1 then 1 else 0) + (if 0 ≤ td 2 then 1 else 0) + (if 0 ≤ td 3 then 1 else 0) + (if 0 ≤ td 4 then 1 else 0) + (if 0 ≤ td 5 then 1 else 0)
theorem nn6_le (td : Nat → Int) : nn6 td ≤ 6 := by unfold nn6; (repeat' split) <;> omega
theorem nn6_0 {td : Nat → Int} (h : nn6 td ≤ 0) {k : Nat} (hk : k < 6) : td k < 0 := by
  unfold nn6 at h
  rcases (by omega : k = 0 ∨ k = 1 ∨ k = 2 ∨ k = 3 ∨ k = 4 ∨ k = 5) with rfl | rfl | rfl | rfl | rfl | rfl <;> (repeat' split at h) <;> omega
theorem nn6_take {td td' : Nat → Int} {r : Nat} (hr : r < 6) (h0 : 0 ≤ td r) (htd : ∀ k, k < 6 → td' k = if k = r then -1 else td k) : nn6 td' = nn6 td - 1 := by
  unfold nn6
  rw [htd 0 (by omega), htd 1 (by omega), htd 2 (by omega), htd 3 (by omega), htd 4 (by omega), htd 5 (by omega)]
  rcases (by omega : r = 0 ∨ r = 1 ∨ r = 2 ∨ r = 3 ∨ r = 4 ∨ r = 5) with rfl | rfl | rfl | rfl | rfl | rfl <;> simp [h0] <;> omega
/-- the N keys are less than 1201 -/
theorem evN_le {T Pt : Nat → Nat → Int} {n : Nat} (hn : n ≤ 6) : evN T Pt n ≤ 1200 := by
  have hins : ∀ (x : Int) (l : List Int), (insS x l).length ≤ l.length + 1 := by
    intro x l
    induction l with
    | nil => simp [insS]
    | cons y l ih =>
      unfold insS
      split
      · simp
      · split
        · simp
        · simp; omega
  have h1 : ∀ (y : Int) (k : Nat) (l : List Int), (evA T Pt y k l).length ≤ l.length + k := by
    intro y k l
    induction k with
    | zero => simp [evA]
    | succ k ih =>
      unfold evA
      split
      · omega
      · have := hins (8 * ttE T Pt k y + k) (evA T Pt y k l); omega
  have h2 : ∀ q : Nat, (evL T Pt n q).length ≤ 6 * q := by
    intro q
    induction q with
    | zero => simp [evL]
    | succ q ih =>
      have := h1 (1900 + (q : Int)) n (evL T Pt n q)
      unfold evL; omega
  have := h2 200
  unfold evN; omega
/-- what addPiece writes -/
def apX (X : zX) (p be sa : Nat) (moment saving : Int) : zX :=
  if 105190559 < moment then X else
    up2 (up2 (up2 X be (if 0 < X p 6 ∧ X be (X p 6 - 1).toNat = max moment 0 then X p 6 - 1 else X p 6).toNat (max moment 0)) sa (if 0 < X p 6 ∧ X be (X p 6 - 1).toNat = max moment 0 then X p 6 - 1 else X p 6).toNat saving) p 6 ((if 0 < X p 6 ∧ X be (X p 6 - 1).toNat = max moment 0 then X p 6 - 1 else X p 6) + 1)
