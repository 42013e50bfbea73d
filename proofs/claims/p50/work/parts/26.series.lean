-- ===== series: Sd 0 place, 1 begin, 2 kind, 3 step, 4 weekdays, 5 choice, 6 most, 7 last, 8 latest, 9 patterns used, 10 exceptions; Up k: the pattern used; Ex k: the exception =====
def bdS (Sd : Nat → Int) : Int := Sd 1 / 1440
abbrev okS (Sd : Nat → Int) : Prop := (0 ≤ Sd 1 ∧ Sd 1 ≤ 105190559) ∧ (0 ≤ Sd 2 ∧ Sd 2 ≤ 3) ∧ (1 ≤ Sd 3 ∧ Sd 3 ≤ 60) ∧ (0 ≤ Sd 4 ∧ Sd 4 ≤ 127) ∧ (-6 ≤ Sd 5 ∧ Sd 5 ≤ 6) ∧ (0 ≤ Sd 6 ∧ Sd 6 ≤ 500) ∧ (bdS Sd = Sd 1 / 1440 ∧ bdS Sd ≤ Sd 7 ∧ Sd 7 ≤ Sd 8) ∧ Sd 8 = min (bdS Sd + 4000) 73048 ∧ (0 ≤ Sd 9 ∧ Sd 9 ≤ 4) ∧ (0 ≤ Sd 10 ∧ Sd 10 ≤ 8)
def spB (Sd : Nat → Int) (i : Int) : Int := if Sd 2 = 0 then bdS Sd + i else if Sd 2 = 1 then bdS Sd - bdS Sd % 7 + 7 * i else if Sd 2 = 2 then mB (mi (bdS Sd) + i) else mB (12 * (1900 + yr (bdS Sd) + i - 1900))
def rwS (Sd : Nat → Int) : Int := if Sd 4 ≠ 0 then Sd 4 else if Sd 2 = 1 ∧ Sd 9 = 0 then 1 * 2 ^ (bdS Sd % 7).toNat else 127
def usS (Sd : Nat → Int) : Nat → Int := fun k => if k = 0 then (if Sd 2 = 3 then mi (bdS Sd) % 12 + 1 else 0) else if k = 1 then 0 else bdS Sd - mB (mi (bdS Sd)) + 1
/-- one of the first n patterns tells the day -/
def anyT (Up : Nat → Nat → Int) (d : Int) : Nat → Bool
  | 0 => false
  | n + 1 => anyT Up d n || decide (told (Up n) (mi d) = d)
def ctS (Sd : Nat → Int) (Up : Nat → Nat → Int) (d : Int) : Bool := decide (bitw (rwS Sd) d ≠ 0) && (if Sd 9 = 0 then (if Sd 2 < 2 then true else decide (told (usS Sd) (mi d) = d)) else anyT Up d (Sd 9).toNat)
def exB (Ex : Nat → Int) (d : Int) : Nat → Bool
  | 0 => false
  | n + 1 => exB Ex d n || decide (Ex n = d)
def tkD (Sd Ex : Nat → Int) (st : Int × List Int) (d : Int) : Int × List Int := if d < bdS Sd ∨ Sd 7 < d ∨ (Sd 6 ≠ 0 ∧ Sd 6 ≤ st.1) then st else (st.1 + 1, if exB Ex d (Sd 10).toNat then st.2 else st.2 ++ [d])
def tkA (Sd : Nat → Int) (Up : Nat → Nat → Int) (Ex : Nat → Int) : Nat → Int → Int × List Int → Int × List Int
  | 0, _, st => st
  | n + 1, a, st => tkA Sd Up Ex n (a + 1) (if ctS Sd Up a then tkD Sd Ex st a else st)
/-- the w-th day that counts of n, from a on (w > 0) or from b back -/
def chF (p : Int → Bool) : Nat → Int → Int → Int
  | 0, _, _ => -1
  | n + 1, a, w => if p a then (if w = 1 then a else chF p n (a + 1) (w - 1)) else chF p n (a + 1) w
def chB (p : Int → Bool) : Nat → Int → Int → Int
  | 0, _, _ => -1
  | n + 1, b, w => if p b then (if w = 1 then b else chB p n (b - 1) (w - 1)) else chB p n (b - 1) w
def chS (Sd : Nat → Int) (Up : Nat → Nat → Int) (a b : Int) : Int := if 0 < Sd 5 then chF (ctS Sd Up) (b - a + 1).toNat a (Sd 5) else chB (ctS Sd Up) (b - a + 1).toNat b (-Sd 5)
def tkS (Sd : Nat → Int) (Up : Nat → Nat → Int) (Ex : Nat → Int) (a b : Int) (st : Int × List Int) : Int × List Int := if Sd 5 ≠ 0 then tkD Sd Ex st (chS Sd Up a b) else tkA Sd Up Ex (b - a + 1).toNat a st
def spS (Sd : Nat → Int) (Up : Nat → Nat → Int) (Ex : Nat → Int) : Nat → Int → Int × List Int → Int × List Int
  | 0, _, st => st
  | q + 1, n, st => if Sd 7 < spB Sd (n * Sd 3) then st else spS Sd Up Ex q (n + 1) (tkS Sd Up Ex (spB Sd (n * Sd 3)) (min (spB Sd (n * Sd 3 + 1) - 1) 73048) st)
/-- the dates -/
def dtS (Sd : Nat → Int) (Up : Nat → Nat → Int) (Ex : Nat → Int) : List Int := (spS Sd Up Ex 4001 0 (0, [])).2
theorem spB_rng {Sd : Nat → Int} (h : okS Sd) {i : Int} (h0 : 0 ≤ i) (h1 : i ≤ 250000) : 0 ≤ spB Sd i ∧ spB Sd i ≤ 2000000 := by
  have := mB_rng (mi (bdS Sd) + i)
  have := mB_rng (12 * (1900 + yr (bdS Sd) + i - 1900))
  unfold spB; (repeat' split) <;> omega
theorem spB_0 {Sd : Nat → Int} (h : okS Sd) : spB Sd 0 ≤ bdS Sd ∧ bdS Sd - 366 < spB Sd 0 := by
  have a := mi_rng (d := bdS Sd) (by omega) (by omega)
  have b := yr_rng (d := bdS Sd) (by omega) (by omega)
  have c := mB_succ a.1 a.2.1
  have e0 : mB (12 * yr (bdS Sd)) = yb (yr (bdS Sd)) := by have := mB_ym (y := yr (bdS Sd)) (m := 0) b.1 (by omega) (by omega) (by omega); rw [cum_0] at this; rw [show 12 * yr (bdS Sd) = 12 * yr (bdS Sd) + 0 by omega, this]; omega
  have e1 := yb_succ (yr (bdS Sd)) b.1
  have e2 := lpy_rng (yr (bdS Sd))
  unfold spB
  rw [show mi (bdS Sd) + 0 = mi (bdS Sd) by omega, show 12 * (1900 + yr (bdS Sd) + 0 - 1900) = 12 * yr (bdS Sd) by omega, e0]
  (repeat' split) <;> omega
/-- a span is no longer than a year -/
theorem spB_succ {Sd : Nat → Int} (h : okS Sd) {i : Int} (h0 : 0 ≤ i) : spB Sd i ≤ spB Sd (i + 1) ∧ spB Sd (i + 1) ≤ spB Sd i + 366 ∧ (spB Sd i ≤ 73048 → spB Sd i < spB Sd (i + 1)) := by
  have a := mi_rng (d := bdS Sd) (by omega) (by omega)
  have b := yr_rng (d := bdS Sd) (by omega) (by omega)
  unfold spB
  by_cases k0 : Sd 2 = 0
  · rw [if_pos k0, if_pos k0]; omega
  by_cases k1 : Sd 2 = 1
  · rw [if_neg k0, if_neg k0, if_pos k1, if_pos k1]; omega
  by_cases k2 : Sd 2 = 2
  · rw [if_neg k0, if_neg k0, if_neg k1, if_neg k1, if_pos k2, if_pos k2]
    have c := mB_rng (mi (bdS Sd) + i)
    by_cases q : mi (bdS Sd) + i < 2400
    · have := mB_succ (i := mi (bdS Sd) + i) (by omega) q
      rw [show mi (bdS Sd) + (i + 1) = mi (bdS Sd) + i + 1 by omega]; omega
    · rw [mB_big (by omega), mB_big (by omega)]; omega
  · rw [if_neg k0, if_neg k0, if_neg k1, if_neg k1, if_neg k2, if_neg k2]
    by_cases q : yr (bdS Sd) + i < 200
    · have e0 := mB_ym (y := yr (bdS Sd) + i) (m := 0) (by omega) q (by omega) (by omega)
      have e1 := mB_ym (y := yr (bdS Sd) + i) (m := 12) (by omega) q (by omega) (by omega)
      rw [cum_0] at e0
      rw [cum_12] at e1
      have e2 := lpy_rng (yr (bdS Sd) + i)
      rw [show 12 * (1900 + yr (bdS Sd) + i - 1900) = 12 * (yr (bdS Sd) + i) + 0 by omega, show 12 * (1900 + yr (bdS Sd) + (i + 1) - 1900) = 12 * (yr (bdS Sd) + i) + 12 by omega, e0, e1]; omega
    · rw [mB_big (by omega), mB_big (by omega)]; omega
theorem spB_mono {Sd : Nat → Int} (h : okS Sd) {i j : Int} (h0 : 0 ≤ i) (hij : i ≤ j) : spB Sd i ≤ spB Sd j := by
  obtain ⟨n, rfl⟩ : ∃ n : Nat, j = i + n := ⟨(j - i).toNat, by omega⟩
  induction n with
  | zero => simp
  | succ n ih =>
    have := ih (by omega)
    have := (spB_succ h (i := i + n) (by omega)).1
    rw [show i + ((n + 1 : Nat) : Int) = i + n + 1 by omega]; omega
/-- n spans lie behind n days at least -/
theorem spB_far {Sd : Nat → Int} (h : okS Sd) (n : Nat) : spB Sd (n : Int) ≤ 73048 → spB Sd 0 + n ≤ spB Sd n := by
  induction n with
  | zero => intro _; simp
  | succ n ih =>
    intro hq
    have a := spB_succ h (i := (n : Int)) (by omega)
    rw [show ((n + 1 : Nat) : Int) = (n : Int) + 1 by omega] at hq ⊢
    have := ih (by omega)
    have := a.2.2 (by omega)
    omega
theorem chF_rng {p : Int → Bool} : ∀ (n : Nat) (a w : Int), chF p n a w = -1 ∨ (a ≤ chF p n a w ∧ chF p n a w < a + n)
  | 0, _, _ => Or.inl rfl
  | n + 1, a, w => by
    have h1 := chF_rng (p := p) n (a + 1) (w - 1)
    have h2 := chF_rng (p := p) n (a + 1) w
    unfold chF; (repeat' split) <;> omega
theorem chB_rng {p : Int → Bool} : ∀ (n : Nat) (b w : Int), chB p n b w = -1 ∨ (b - n < chB p n b w ∧ chB p n b w ≤ b)
  | 0, _, _ => Or.inl rfl
  | n + 1, b, w => by
    have h1 := chB_rng (p := p) n (b - 1) (w - 1)
    have h2 := chB_rng (p := p) n (b - 1) w
    unfold chB; (repeat' split) <;> omega
theorem chS_rng {Sd : Nat → Int} {Up : Nat → Nat → Int} {a b : Int} (hab : a ≤ b + 1) : chS Sd Up a b = -1 ∨ (a ≤ chS Sd Up a b ∧ chS Sd Up a b ≤ b) := by
  have h1 := chF_rng (p := ctS Sd Up) (b - a + 1).toNat a (Sd 5)
  have h2 := chB_rng (p := ctS Sd Up) (b - a + 1).toNat b (-Sd 5)
  unfold chS; split <;> omega
/-- what is known of a list of dates up to a day (that not included) -/
def dlB (Sd : Nat → Int) (c : Int) (st : Int × List Int) : Prop := (0 ≤ st.1 ∧ st.1 ≤ max 0 (c - bdS Sd)) ∧ (st.2.length : Int) ≤ max 0 (min c (Sd 7 + 1) - bdS Sd) ∧ ∀ x, x ∈ st.2 → (bdS Sd ≤ x ∧ x ≤ Sd 7)
theorem dlB_0 (Sd : Nat → Int) (c : Int) : dlB Sd c (0, []) := ⟨by constructor <;> simp <;> omega, by simp; omega, fun x h => by simp at h⟩
theorem dlB.mono {Sd : Nat → Int} {c c' : Int} {st : Int × List Int} (h : dlB Sd c st) (hc : c ≤ c') : dlB Sd c' st := ⟨by have := h.1; omega, by have := h.2.1; omega, h.2.2⟩
theorem tkD_dlB {Sd Ex : Nat → Int} {c d : Int} {st : Int × List Int} (h : dlB Sd c st) (hd : d < 0 ∨ c ≤ d) (hb : 0 ≤ bdS Sd) : dlB Sd (max c (d + 1)) (tkD Sd Ex st d) := by
  obtain ⟨h1, h2, h3⟩ := h
  unfold tkD
  split
  · exact ⟨by omega, by omega, h3⟩
  · next q =>
    refine ⟨by show 0 ≤ st.1 + 1 ∧ st.1 + 1 ≤ _; omega, ?_, ?_⟩
    · show (((if exB Ex d (Sd 10).toNat then st.2 else st.2 ++ [d]) : List Int).length : Int) ≤ _
      split
      · omega
      · simp; omega
    · intro x hx
      have hx : x ∈ (if exB Ex d (Sd 10).toNat then st.2 else st.2 ++ [d]) := hx
      split at hx
      · exact h3 x hx
      · rcases List.mem_append.mp hx with g | g
        · exact h3 x g
        · simp at g; omega
theorem tkA_dlB {Sd : Nat → Int} {Up : Nat → Nat → Int} {Ex : Nat → Int} (hb : 0 ≤ bdS Sd) : ∀ (n : Nat) (a : Int) (st : Int × List Int), 0 ≤ a → dlB Sd a st → dlB Sd (a + n) (tkA Sd Up Ex n a st)
  | 0, a, st, _, h => by rw [show a + ((0 : Nat) : Int) = a by omega]; exact h
  | n + 1, a, st, ha, h => by
    unfold tkA
    rw [show a + ((n + 1 : Nat) : Int) = a + 1 + n by omega]
    refine tkA_dlB hb n (a + 1) _ (by omega) ?_
    split
    · have := tkD_dlB (Ex := Ex) (d := a) h (by omega) hb
      rwa [show max a (a + 1) = a + 1 by omega] at this
    · exact h.mono (by omega)
theorem tkS_dlB {Sd : Nat → Int} {Up : Nat → Nat → Int} {Ex : Nat → Int} {a b : Int} {st : Int × List Int} (hb : 0 ≤ bdS Sd) (ha : 0 ≤ a) (hab : a ≤ b + 1) (h : dlB Sd a st) : dlB Sd (b + 1) (tkS Sd Up Ex a b st) := by
  unfold tkS
  split
  · have hr := chS_rng (Sd := Sd) (Up := Up) hab
    have := tkD_dlB (Ex := Ex) (d := chS Sd Up a b) h (by omega) hb
    exact this.mono (by omega)
  · have := tkA_dlB (Up := Up) (Ex := Ex) hb (b - a + 1).toNat a st ha h
    rwa [show a + ((b - a + 1).toNat : Int) = b + 1 by omega] at this
theorem spS_dlB {Sd : Nat → Int} {Up : Nat → Nat → Int} {Ex : Nat → Int} (h : okS Sd) : ∀ (q : Nat) (n : Int) (st : Int × List Int), 0 ≤ n → dlB Sd (min (spB Sd (n * Sd 3)) 73049) st → dlB Sd 73049 (spS Sd Up Ex q n st)
  | 0, n, st, _, g => g.mono (by omega)
  | q + 1, n, st, hn, g => by
    unfold spS
    split
    · exact g.mono (by omega)
    · next w =>
      have hpos : 0 ≤ n * Sd 3 := Int.mul_nonneg hn (by omega)
      have h1 := spB_succ h hpos
      have h2 := spB_mono h (i := n * Sd 3 + 1) (j := (n + 1) * Sd 3) (by omega) (by rw [Int.add_mul]; omega)
      have h3 : 0 ≤ spB Sd (n * Sd 3) := by
        have := spB_mono h (i := 0) (j := n * Sd 3) (by omega) hpos
        have := (spB_rng h (i := 0) (by omega) (by omega)).1
        omega
      refine spS_dlB h q (n + 1) _ (by omega) ?_
      have h4 := tkS_dlB (Up := Up) (Ex := Ex) (a := spB Sd (n * Sd 3)) (b := min (spB Sd (n * Sd 3 + 1) - 1) 73048) (st := st) (by omega) h3 (by omega) (g.mono (by omega))
      exact h4.mono (by omega)
theorem dtS_ok {Sd : Nat → Int} {Up : Nat → Nat → Int} {Ex : Nat → Int} (h : okS Sd) : ∀ x, x ∈ dtS Sd Up Ex → (0 ≤ x ∧ x ≤ 73048) := by
  intro x hx
  have := (spS_dlB (Up := Up) (Ex := Ex) h 4001 0 (0, []) (by omega) (dlB_0 _ _)).2.2 x hx
  omega

-- ===== a series in the heap: object se, its rows of patterns po, of exceptions eo, of dates fo =====
/-- its fields -/
abbrev serD (F Sd : Nat → Int) : Prop := (F 1 = Sd 1 ∧ F 2 = bdS Sd ∧ F 3 = Sd 2 ∧ F 4 = Sd 3 ∧ F 5 = Sd 4 ∧ F 6 = Sd 8) ∧ F 9 = Sd 9 ∧ F 10 = Sd 5 ∧ F 11 = Sd 6 ∧ F 12 = Sd 7 ∧ F 14 = Sd 10
/-- the patterns that it uses -/
def upOK (K : zK) (X : zX) (Rf : zR) (po : Nat) (Sd : Nat → Int) (Up : Nat → Nat → Int) : Prop := ∀ k : Nat, (k : Int) < Sd 9 → ∃ pa, Rf po k = some pa ∧ K pa = (1, 2) ∧ okP (X pa) ∧ psame (X pa) (Up k)
/-- the pattern that it has without -/
def usOK (K : zK) (X : zX) (Rf : zR) (se : Nat) (Sd : Nat → Int) : Prop := (Sd 2 < 2 ∧ Rf se 7 = none) ∨ (2 ≤ Sd 2 ∧ ∃ us, Rf se 7 = some us ∧ K us = (1, 2) ∧ okP (X us) ∧ psame (X us) (usS Sd))
theorem upOK.mono {K : zK} {X X' : zX} {Rf : zR} {po : Nat} {Sd : Nat → Int} {Up : Nat → Nat → Int} (h : upOK K X Rf po Sd Up) (hX : ∀ a, K a = (1, 2) → X' a = X a) : upOK K X' Rf po Sd Up := fun k hk => by
  obtain ⟨pa, h1, h2, h3, h4⟩ := h k hk
  exact ⟨pa, h1, h2, by rw [hX pa h2]; exact h3, by rw [hX pa h2]; exact h4⟩
theorem usOK.mono {K : zK} {X X' : zX} {Rf : zR} {se : Nat} {Sd : Nat → Int} (h : usOK K X Rf se Sd) (hX : ∀ a, K a = (1, 2) → X' a = X a) : usOK K X' Rf se Sd := by
  rcases h with h | ⟨h0, pa, h1, h2, h3⟩
  · exact Or.inl h
  · exact Or.inr ⟨h0, pa, h1, h2, by rw [hX pa h2]; exact h3⟩
/-- the dates as far as found -/
def repD (X : zX) (se fo : Nat) (st : Int × List Int) : Prop := X se 17 = st.1 ∧ X se 16 = st.2.length ∧ ∀ j : Nat, j < st.2.length → X fo j = st.2.getD j 0
/-- the row of what counts -/
def ctW (X : zX) (dr na n : Nat) (Sd : Nat → Int) (Up : Nat → Nat → Int) : Prop := ∀ d : Int, X dr 1 ≤ d → d ≤ X dr 2 → rdv X dr na n d = if ctS Sd Up d then 1 else -1
theorem rdv_congr {X X' : zX} {dr na n : Nat} (h1 : X' dr = X dr) (h2 : X' na = X na) (d : Int) : rdv X' dr na n d = rdv X dr na n d := by unfold rdv; rw [h1, h2]
theorem bitw_127 (d : Int) : bitw 127 d = 1 := by
  unfold bitw
  have h1 : d % 7 = 0 ∨ d % 7 = 1 ∨ d % 7 = 2 ∨ d % 7 = 3 ∨ d % 7 = 4 ∨ d % 7 = 5 ∨ d % 7 = 6 := by omega
  rcases h1 with q | q | q | q | q | q | q <;> rw [q] <;> rfl
theorem bitw_one {w : Int} (hw : 0 ≤ w ∧ w < 7) (d : Int) : bitw (1 * 2 ^ w.toNat) d = if d % 7 = w then 1 else 0 := by
  unfold bitw
  have h1 : d % 7 = 0 ∨ d % 7 = 1 ∨ d % 7 = 2 ∨ d % 7 = 3 ∨ d % 7 = 4 ∨ d % 7 = 5 ∨ d % 7 = 6 := by omega
  have h2 : w = 0 ∨ w = 1 ∨ w = 2 ∨ w = 3 ∨ w = 4 ∨ w = 5 ∨ w = 6 := by omega
  rcases h1 with q | q | q | q | q | q | q <;> rcases h2 with g | g | g | g | g | g | g <;> rw [q, g] <;> rfl
theorem rwS_rng {Sd : Nat → Int} (h : okS Sd) : 0 ≤ rwS Sd ∧ rwS Sd ≤ 127 := by
  have : bdS Sd % 7 = 0 ∨ bdS Sd % 7 = 1 ∨ bdS Sd % 7 = 2 ∨ bdS Sd % 7 = 3 ∨ bdS Sd % 7 = 4 ∨ bdS Sd % 7 = 5 ∨ bdS Sd % 7 = 6 := by omega
  unfold rwS
  split
  · omega
  · split
    · rcases this with q | q | q | q | q | q | q <;> rw [q] <;> decide
    · omega
def dtA (c : Int) (F : Nat → Int) (k : Int) : Int := if k < 0 ∨ c ≤ k then -1 else F k.toNat
