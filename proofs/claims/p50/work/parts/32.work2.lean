-- ===== working minutes =====
/-- a local time of work -/
def lsB (fm lm : Int) (wk : Int → Bool) (s : Int) : Bool := decide (0 ≤ s ∧ s ≤ 105190559) && decide (fm ≤ s % 1440 ∧ s % 1440 < lm) && wk (s / 1440)
/-- a moment of work -/
def wkM (sv : Int → Int) (base fm lm : Int) (wk : Int → Bool) (m : Int) : Bool := lsB fm lm wk (m + base + sv m)
theorem lsB_iff {fm lm : Int} {wk : Int → Bool} {s : Int} : lsB fm lm wk s = true ↔ (0 ≤ s ∧ s ≤ 105190559) ∧ (fm ≤ s % 1440 ∧ s % 1440 < lm) ∧ wk (s / 1440) = true := by
  unfold lsB; simp [and_assoc]
theorem cP_shift {p : Int → Bool} {k b : Int} (a : Int) : cP p (b + k - (a + k)).toNat (a + k) = cP (fun s => p (s + k)) (b - a).toNat a := by
  refine iind (P := fun a => cP p (b + k - (a + k)).toNat (a + k) = cP (fun s => p (s + k)) (b - a).toNat a) b ?_ ?_ a
  · intro a h; rw [cP_e h, cP_e (by omega)]
  · intro a h ih
    rw [cP_s h, cP_s (show a + k < b + k by omega), ← ih, show a + k + 1 = a + 1 + k by omega]
/-- how many lie in a band -/
theorem cP_band {p : Int → Bool} {a b c d : Int} (hab : a ≤ b) (h : ∀ s, a ≤ s → s < b → (p s = true ↔ c ≤ s ∧ s < d)) : cP p (b - a).toNat a = max 0 (min b d - max a c) := by
  have f : ∀ s, a ≤ s → s < b → ¬(c ≤ s ∧ s < d) → p s = false := fun s h1 h2 h3 => by
    cases q : p s
    · rfl
    · exact absurd ((h s h1 h2).mp q) h3
  by_cases q : max a c < min b d
  · rw [cP_split (c := max a c) a (by omega) (by omega), cP_split (b := b) (c := min b d) (max a c) (by omega) (by omega)]
    rw [cP_none a (fun m g1 g2 => f m (by omega) (by omega) (by omega)), cP_none (min b d) (fun m g1 g2 => f m (by omega) (by omega) (by omega)), cP_all (max a c) (by omega) (fun m g1 g2 => (h m (by omega) (by omega)).mpr (by omega))]
    omega
  · rw [cP_none a (fun m g1 g2 => f m g1 g2 (by omega))]; omega
/-- up to where the days ahead of dd reach -/
def bdD (fr to dd : Int) : Int := max fr (min to (1440 * dd))
theorem ls_start {fm lm : Int} {wk : Int → Bool} {fr to dd : Int} (h : fr ≤ to) (hd : dd = max 0 (fr / 1440)) : cP (lsB fm lm wk) (bdD fr to dd - fr).toNat fr = 0 := by
  refine cP_none fr (fun m g1 g2 => ?_)
  unfold bdD at g2
  cases q : lsB fm lm wk m
  · rfl
  · rw [lsB_iff] at q; omega
theorem ls_end {fm lm : Int} {wk : Int → Bool} {fr to dd : Int} (h : fr ≤ to) (h1 : min 73048 (to / 1440) < dd) (h2 : 0 ≤ dd) : cP (lsB fm lm wk) (bdD fr to dd - fr).toNat fr = cP (lsB fm lm wk) (to - fr).toNat fr := by
  have hb : fr ≤ bdD fr to dd ∧ bdD fr to dd ≤ to := by unfold bdD; omega
  rw [cP_split (b := to) (c := bdD fr to dd) fr hb.1 hb.2, cP_none (b := to) (bdD fr to dd) (fun m g1 g2 => ?_)]
  · omega
  · unfold bdD at g1
    cases q : lsB fm lm wk m
    · rfl
    · rw [lsB_iff] at q; omega
theorem ls_step {fm lm : Int} {wk : Int → Bool} {fr to dd : Int} (h : fr ≤ to) (h0 : 0 ≤ dd) (h1 : dd ≤ 73048) (h2 : fr / 1440 ≤ dd) (hf : (0 ≤ fm ∧ fm < lm) ∧ lm ≤ 1440) : cP (lsB fm lm wk) (bdD fr to (dd + 1) - fr).toNat fr = cP (lsB fm lm wk) (bdD fr to dd - fr).toNat fr + (if wk dd = true then max 0 (min to (1440 * dd + lm) - max fr (1440 * dd + fm)) else 0) := by
  have hb : fr ≤ bdD fr to dd ∧ bdD fr to dd ≤ bdD fr to (dd + 1) := by unfold bdD; omega
  rw [cP_split (c := bdD fr to dd) fr hb.1 hb.2]
  congr 1
  split
  · next q =>
    rw [cP_band (c := 1440 * dd + fm) (d := 1440 * dd + lm) hb.2 ?_]
    · unfold bdD; omega
    · intro s g1 g2
      have e : s / 1440 = dd := by unfold bdD at g1 g2; omega
      rw [lsB_iff, e]
      constructor
      · rintro ⟨a, b, _⟩; omega
      · intro a; exact ⟨by omega, by omega, q⟩
  · next q =>
    refine cP_none _ (fun s g1 g2 => ?_)
    have e : s / 1440 = dd := by unfold bdD at g1 g2; omega
    cases z : lsB fm lm wk s
    · rfl
    · rw [lsB_iff, e] at z; exact absurd z.2.2 q
section MW
variable {B S : Nat → Int} {c : Int} {sv : Int → Int} {base fm lm : Int} {wk : Int → Bool} {fr to : Int}
def bdP (B : Nat → Int) (c fr to i : Int) : Int := max fr (min to (pbg B c i))
theorem mw_start (h : prep B S c sv) (h0 : 0 ≤ fr) {r : Int} (hr : pwOK B c fr r) : cP (wkM sv base fm lm wk) (bdP B c fr to r - fr).toNat fr = 0 := by
  have : pbg B c r ≤ fr := by
    rcases hr.2.1 with q | q
    · rw [q, pbg_0 h]; exact h0
    · exact q
  unfold bdP
  rw [show max fr (min to (pbg B c r)) = fr by omega, cP_e (Int.le_refl _)]
theorem mw_end (h : prep B S c sv) (h1 : fr ≤ to) (h2 : to ≤ 105190560) {r i : Int} (hr : pwOK B c to r) (hi : i = r + 1) : cP (wkM sv base fm lm wk) (bdP B c fr to i - fr).toNat fr = cP (wkM sv base fm lm wk) (to - fr).toNat fr := by
  have : to ≤ pbg B c i := by
    subst hi
    by_cases q : r + 1 < c
    · have := hr.2.2 q; omega
    · unfold pbg; rw [if_pos (by omega)]; exact h2
  unfold bdP
  rw [show max fr (min to (pbg B c i)) = to by omega]
theorem mw_in (h : prep B S c sv) (h0 : 0 ≤ fr) (h1 : fr ≤ to) (h2 : to ≤ 105190560) {r r2 i : Int} (hr : pwOK B c fr r) (hr2 : pwOK B c to r2) (a : r ≤ i) (b : i ≤ r2) : pbg B c i ≤ to ∧ fr ≤ pbg B c (i + 1) ∧ max fr (pbg B c i) ≤ min to (pbg B c (i + 1)) := by
  have e0 := hr.1
  have e1 := hr2.1
  have e3 := pbg_lt h (i := i) (by omega) (by omega)
  have e4 : pbg B c i ≤ to := by
    have := pbg_mono h (i := i) (j := r2) (by omega) b (by omega)
    rcases hr2.2.1 with q | q
    · rw [show i = 0 by omega, pbg_0 h]; omega
    · omega
  have e5 : fr ≤ pbg B c (i + 1) := by
    have := pbg_mono h (i := r + 1) (j := i + 1) (by omega) (by omega) (by omega)
    by_cases q : r + 1 < c
    · have := hr.2.2 q; omega
    · have e6 : pbg B c (r + 1) = 105190560 := by unfold pbg; rw [if_pos (by omega)]
      omega
  omega
theorem mw_step (h : prep B S c sv) (h0 : 0 ≤ fr) (h1 : fr ≤ to) (h2 : to ≤ 105190560) {i a b k : Int} (hi : 0 ≤ i ∧ i < c) (g1 : pbg B c i ≤ to) (g2 : fr ≤ pbg B c (i + 1)) (ha : a = max fr (pbg B c i)) (hb : b = min to (pbg B c (i + 1))) (hab : a ≤ b) (hk : k = base + psv S c i) :
    cP (wkM sv base fm lm wk) (bdP B c fr to (i + 1) - fr).toNat fr = cP (wkM sv base fm lm wk) (bdP B c fr to i - fr).toNat fr + cP (lsB fm lm wk) (b + k - (a + k)).toNat (a + k) := by
  have e1 : bdP B c fr to i = a := by unfold bdP; omega
  have e2 : bdP B c fr to (i + 1) = b := by unfold bdP; omega
  rw [e1, e2, cP_split (b := b) (c := a) fr (by omega) hab, cP_shift]
  congr 1
  refine cP_congr a (fun m q1 q2 => ?_)
  unfold wkM
  rw [sv_in h hi.1 hi.2 (by omega) (by omega), hk, Int.add_assoc]
end MW
/-- the first moment up to the latest one ahead of which so much is done -/
def dnF (p : Int → Bool) (fr wanted latest : Int) : Int := fP (fun t => decide (wanted ≤ cP p (t - fr).toNat fr)) (latest + 1 - (fr + 1)).toNat (fr + 1)
theorem dnF_none {p : Int → Bool} {fr wanted latest : Int} (h : fr ≤ latest) (hc : cP p (latest - fr).toNat fr < wanted) : dnF p fr wanted latest = -1 := by
  refine fP_none (by omega) (fun m g1 g2 => ?_)
  have := cP_mono (p := p) (a := fr) (b := m) (c := latest) (by omega) (by omega)
  simp; omega
theorem dnF_hit {p : Int → Bool} {fr wanted latest t : Int} (h1 : fr + 1 ≤ t) (h2 : t ≤ latest) (hc : wanted ≤ cP p (t - fr).toNat fr) (hn : ∀ m, fr + 1 ≤ m → m < t → cP p (m - fr).toNat fr < wanted) : dnF p fr wanted latest = t := by
  refine fP_hit h1 (by omega) (by simpa using hc) (fun q g1 g2 => ?_)
  have := hn q g1 g2
  simp; omega
def hb9 (n : Int) : Int := 65536 / 2 ^ n.toNat
theorem hb9_0 : hb9 0 = 65536 := by decide
theorem hb9_s {n : Int} (h : 0 ≤ n) : hb9 (n + 1) = hb9 n / 2 := by
  unfold hb9
  rw [show (n + 1).toNat = n.toNat + 1 by omega, Int.pow_succ, Int.ediv_ediv_of_nonneg]
  rw [← zpw]; exact Int.natCast_nonneg _
theorem hb9_32 : hb9 32 = 0 := by decide
