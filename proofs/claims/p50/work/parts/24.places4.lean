-- ===== what the pieces tell =====
def pbg (B : Nat → Int) (c i : Int) : Int := if i < 0 ∨ c ≤ i then 105190560 else B i.toNat
def psv (S : Nat → Int) (c i : Int) : Int := if i < 0 ∨ c ≤ i then 0 else S i.toNat
theorem pbg_in {B : Nat → Int} {c i : Int} (h : 0 ≤ i) (h2 : i < c) : pbg B c i = B i.toNat := by unfold pbg; rw [if_neg (by omega)]
theorem psv_in {B : Nat → Int} {c i : Int} (h : 0 ≤ i) (h2 : i < c) : psv B c i = B i.toNat := by unfold psv; rw [if_neg (by omega)]
section PREP
variable {B S : Nat → Int} {c : Int} {sv : Int → Int}
theorem pbg_rng (h : prep B S c sv) (i : Int) : 0 ≤ pbg B c i ∧ pbg B c i ≤ 105190560 := by
  unfold pbg; split
  · omega
  · have := (h.2.2.2.1 i.toNat (by omega)).1; omega
theorem psv_rng (h : prep B S c sv) (i : Int) : 0 ≤ psv S c i ∧ psv S c i ≤ 180 := by
  unfold psv; split
  · omega
  · exact (h.2.2.2.1 i.toNat (by omega)).2
theorem pbg_0 (h : prep B S c sv) : pbg B c 0 = 0 := by rw [pbg_in (by omega) (by have := h.1; omega)]; exact h.2.1
theorem pbg_c (h : prep B S c sv) : pbg B c c = 105190560 := by unfold pbg; rw [if_pos (by omega)]
theorem pbg_lt (h : prep B S c sv) {i : Int} (h0 : 0 ≤ i) (h1 : i < c) : pbg B c i < pbg B c (i + 1) := by
  rw [pbg_in h0 h1]
  by_cases q : i + 1 < c
  · rw [pbg_in (by omega) q, show (i + 1).toNat = i.toNat + 1 by omega]; exact h.2.2.1 _ (by omega)
  · have := (h.2.2.2.1 i.toNat (by omega)).1
    unfold pbg; rw [if_pos (by omega)]; omega
theorem pbg_mono (h : prep B S c sv) {i j : Int} (h0 : 0 ≤ i) (hij : i ≤ j) (hj : j ≤ c) : pbg B c i ≤ pbg B c j := by
  obtain ⟨n, rfl⟩ : ∃ n : Nat, j = i + n := ⟨(j - i).toNat, by omega⟩
  induction n with
  | zero => simp
  | succ n ih =>
    have := ih (by omega) (by omega)
    have := pbg_lt h (i := i + n) (by omega) (by omega)
    rw [show i + ((n + 1 : Nat) : Int) = i + n + 1 by omega]; omega
/-- the saving all through a piece -/
theorem sv_in (h : prep B S c sv) {i m : Int} (h0 : 0 ≤ i) (h1 : i < c) (g0 : pbg B c i ≤ m) (g1 : m < pbg B c (i + 1)) : sv m = psv S c i := by
  rw [psv_in h0 h1]
  rw [pbg_in h0 h1] at g0
  have hr := pbg_rng h (i + 1)
  refine h.2.2.2.2 i.toNat (by omega) m g0 (by omega) (fun q => ?_)
  rw [pbg_in (by omega) (by omega), show (i + 1).toNat = i.toNat + 1 by omega] at g1; exact g1
theorem sv_rng (h : prep B S c sv) {m : Int} (h0 : 0 ≤ m) (h1 : m ≤ 105190559) : 0 ≤ sv m ∧ sv m ≤ 180 := by
  have hc := h.1
  -- the last piece that begins not behind m
  have : ∀ n : Nat, (n : Int) < c → pbg B c n ≤ m → ∃ i : Int, 0 ≤ i ∧ i < c ∧ pbg B c i ≤ m ∧ m < pbg B c (i + 1) := by
    intro n hn hm
    obtain ⟨k, hk⟩ : ∃ k : Nat, (c - n).toNat = k := ⟨_, rfl⟩
    induction k generalizing n with
    | zero => omega
    | succ k ih =>
      by_cases q : m < pbg B c ((n : Int) + 1)
      · exact ⟨n, by omega, hn, hm, q⟩
      · by_cases q2 : (n : Int) + 1 < c
        · exact ih (n + 1) (by omega) (by rw [show ((n + 1 : Nat) : Int) = (n : Int) + 1 by omega]; omega) (by omega)
        · have : pbg B c ((n : Int) + 1) = 105190560 := by unfold pbg; rw [if_pos (by omega)]
          omega
  obtain ⟨i, a1, a2, a3, a4⟩ := this 0 (by omega) (by have := pbg_0 h; simp; omega)
  rw [sv_in h a1 a2 a3 a4]; exact psv_rng h i
/-- the piece of a moment, by the search -/
def pwOK (B : Nat → Int) (c moment r : Int) : Prop := (0 ≤ r ∧ r < c) ∧ (r = 0 ∨ pbg B c r ≤ moment) ∧ (r + 1 < c → moment < pbg B c (r + 1))
theorem pwOK_in (h : prep B S c sv) {m r : Int} (hr : pwOK B c m r) (h0 : 0 ≤ m) (h1 : m ≤ 105190559) : pbg B c r ≤ m ∧ m < pbg B c (r + 1) := by
  obtain ⟨a, b, d⟩ := hr
  refine ⟨?_, ?_⟩
  · rcases b with b | b
    · rw [b, pbg_0 h]; exact h0
    · exact b
  · by_cases q : r + 1 < c
    · exact d q
    · unfold pbg; rw [if_pos (by omega)]; omega
theorem pw_sv (h : prep B S c sv) {m r : Int} (hr : pwOK B c m r) (h0 : 0 ≤ m) (h1 : m ≤ 105190559) : sv m = psv S c r := by
  obtain ⟨a, b⟩ := pwOK_in h hr h0 h1
  exact sv_in h hr.1.1 hr.1.2 a b
def hbv (n : Int) : Int := 2048 / 2 ^ n.toNat
theorem hbv_0 : hbv 0 = 2048 := by decide
theorem hbv_s {n : Int} (h : 0 ≤ n) : hbv (n + 1) = hbv n / 2 := by
  unfold hbv
  rw [show (n + 1).toNat = n.toNat + 1 by omega, Int.pow_succ, Int.ediv_ediv_of_nonneg]
  rw [← zpw]; exact Int.natCast_nonneg _
theorem hbv_32 : hbv 32 = 0 := by decide
def chg (sv : Int → Int) (m : Int) : Bool := decide (sv m ≠ sv (m - 1))
def shw (sv : Int → Int) (base loc m : Int) : Bool := decide (m + base + sv m = loc)
def psg (sv : Int → Int) (base loc m : Int) : Bool := decide (loc < m + base + sv m ∧ m - 1 + base + sv (m - 1) < loc)
/-- the first change behind a moment -/
def ncF (sv : Int → Int) (m : Int) : Int := fP (chg sv) (105190560 - (m + 1)).toNat (m + 1)
def shN (sv : Int → Int) (base loc : Int) : Int := cP (shw sv base loc) (105190560 - 0 : Int).toNat 0
def shL (sv : Int → Int) (base loc : Int) : Int := lP (shw sv base loc) (105190560 - 0 : Int).toNat 0
def shF (sv : Int → Int) (base loc : Int) : Int := fP (shw sv base loc) (105190560 - 0 : Int).toNat 0
def psF (sv : Int → Int) (base loc : Int) : Int := fP (psg sv base loc) (105190560 - 1 : Int).toNat 1
def momF (sv : Int → Int) (base loc : Int) : Int := if 0 ≤ shF sv base loc then shF sv base loc else psF sv base loc
def shi (B S : Nat → Int) (c base i loc : Int) : Int := if pbg B c i ≤ loc - (base + psv S c i) ∧ loc - (base + psv S c i) < pbg B c (i + 1) then loc - (base + psv S c i) else -1
theorem shi_rng (h : prep B S c sv) (base i loc : Int) : -1 ≤ shi B S c base i loc ∧ shi B S c base i loc ≤ 105190559 := by
  have := pbg_rng h i
  have := pbg_rng h (i + 1)
  unfold shi; split <;> omega
theorem fP_rng {p : Int → Bool} {a b : Int} (h : -1 ≤ a) (h2 : 0 ≤ b) : -1 ≤ fP p (b - a).toNat a ∧ fP p (b - a).toNat a < b := by
  rcases fP_spec (p := p) (b := b) a with ⟨q, -⟩ | ⟨q1, q2, -⟩ <;> omega
theorem ncF_rng {m : Int} (h : 0 ≤ m) : -1 ≤ ncF sv m ∧ ncF sv m ≤ 105190559 := by have := fP_rng (p := chg sv) (a := m + 1) (b := 105190560) (by omega) (by omega); unfold ncF; omega
theorem momF_rng (base loc : Int) : -1 ≤ momF sv base loc ∧ momF sv base loc ≤ 105190559 := by
  have := fP_rng (p := shw sv base loc) (a := 0) (b := 105190560) (by omega) (by omega)
  have := fP_rng (p := psg sv base loc) (a := 1) (b := 105190560) (by omega) (by omega)
  unfold momF shF psF; split <;> omega
/-- no change within a piece -/
theorem chg_in (h : prep B S c sv) {i m : Int} (h0 : 0 ≤ i) (h1 : i < c) (g0 : pbg B c i < m) (g1 : m < pbg B c (i + 1)) : chg sv m = false := by
  unfold chg
  rw [sv_in h h0 h1 (by omega) g1, sv_in h h0 h1 (m := m - 1) (by omega) (by omega)]; simp
/-- at a piece's begin -/
theorem chg_at (h : prep B S c sv) {i : Int} (h0 : 1 ≤ i) (h1 : i < c) : chg sv (pbg B c i) = decide (psv S c i ≠ psv S c (i - 1)) := by
  have a := pbg_lt h (i := i - 1) (by omega) (by omega)
  have b := pbg_lt h (i := i) (by omega) h1
  rw [show i - 1 + 1 = i by omega] at a
  unfold chg
  rw [sv_in h (i := i) (by omega) h1 (by omega) b, sv_in h (i := i - 1) (m := pbg B c i - 1) (by omega) (by omega) (by omega) (by rw [show i - 1 + 1 = i by omega]; omega)]
theorem ncF_start (h : prep B S c sv) {m r : Int} (hr : pwOK B c m r) (h0 : 0 ≤ m) (h1 : m ≤ 105190559) : ncF sv m = fP (chg sv) (105190560 - pbg B c (r + 1)).toNat (pbg B c (r + 1)) := by
  obtain ⟨a, b⟩ := pwOK_in h hr h0 h1
  have := pbg_rng h (r + 1)
  exact fP_skip (m + 1) (by omega) (by omega) (fun q g1 g2 => chg_in h hr.1.1 hr.1.2 (by omega) g2)
theorem ncF_step (h : prep B S c sv) {i : Int} (h0 : 1 ≤ i) (h1 : i < c) (he : psv S c i = psv S c (i - 1)) : fP (chg sv) (105190560 - pbg B c i).toNat (pbg B c i) = fP (chg sv) (105190560 - pbg B c (i + 1)).toNat (pbg B c (i + 1)) := by
  have a := pbg_lt h (i := i) (by omega) h1
  have := pbg_rng h (i + 1)
  refine fP_skip _ (by omega) (by omega) (fun q g1 g2 => ?_)
  by_cases hq : q = pbg B c i
  · rw [hq, chg_at h h0 h1, he]; simp
  · exact chg_in h (by omega) h1 (by omega) g2
theorem ncF_hit (h : prep B S c sv) {i : Int} (h0 : 1 ≤ i) (h1 : i < c) (he : psv S c i ≠ psv S c (i - 1)) : fP (chg sv) (105190560 - pbg B c i).toNat (pbg B c i) = pbg B c i := by
  have a := pbg_lt h (i := i) (by omega) h1
  have := pbg_rng h (i + 1)
  exact fP_hit (Int.le_refl _) (by omega) (by rw [chg_at h h0 h1]; simp [he]) (fun q g1 g2 => by omega)
/-- shown in a piece -/
theorem shw_in (h : prep B S c sv) {base loc i m : Int} (h0 : 0 ≤ i) (h1 : i < c) (g0 : pbg B c i ≤ m) (g1 : m < pbg B c (i + 1)) : shw sv base loc m = decide (m = shi B S c base i loc) := by
  have := pbg_rng h i
  unfold shw shi
  rw [sv_in h h0 h1 g0 g1]
  split <;> simp only [decide_eq_decide] <;> omega
theorem shw_cP (h : prep B S c sv) {base loc i : Int} (h0 : 0 ≤ i) (h1 : i < c) : cP (shw sv base loc) (pbg B c (i + 1) - pbg B c i).toNat (pbg B c i) = if 0 ≤ shi B S c base i loc then 1 else 0 := by
  have a := pbg_rng h i
  split
  · next q =>
    have e : pbg B c i ≤ shi B S c base i loc ∧ shi B S c base i loc < pbg B c (i + 1) := by
      unfold shi at q ⊢
      split at q
      · next w => rw [if_pos w]; exact w
      · omega
    refine cP_one e.1 e.2 (by rw [shw_in h h0 h1 e.1 e.2]; simp) (fun m g0 g1 g2 => by rw [shw_in h h0 h1 g0 g1]; simp [g2])
  · exact cP_none _ (fun m g0 g1 => by rw [shw_in h h0 h1 g0 g1]; simp; omega)
theorem shi_pos (h : prep B S c sv) {base loc i : Int} (q : 0 ≤ shi B S c base i loc) : pbg B c i ≤ shi B S c base i loc ∧ shi B S c base i loc < pbg B c (i + 1) := by
  unfold shi at q ⊢
  split at q
  · next w => rw [if_pos w]; exact w
  · omega
theorem shw_low (h : prep B S c sv) {base loc r : Int} (hr : pwOK B c (loc - base - 180) r) {m : Int} (h0 : 0 ≤ m) (h1 : m < pbg B c r) : shw sv base loc m = false := by
  have a := pbg_rng h r
  have b := sv_rng h (m := m) h0 (by omega)
  rcases hr.2.1 with q | q
  · rw [q, pbg_0 h] at h1; omega
  · unfold shw; simp; omega
theorem shw_high (h : prep B S c sv) {base loc r : Int} (hr : pwOK B c (loc - base) r) {m : Int} (h0 : pbg B c (r + 1) ≤ m) (h1 : m < 105190560) : shw sv base loc m = false := by
  have a := pbg_rng h (r + 1)
  have b := sv_rng h (m := m) (by omega) (by omega)
  by_cases q : r + 1 < c
  · have := hr.2.2 q; unfold shw; simp; omega
  · unfold pbg at h0; rw [if_pos (by omega)] at h0; omega
theorem pw_le (h : prep B S c sv) {a b r q : Int} (hr : pwOK B c a r) (hq : pwOK B c b q) (hab : a ≤ b) : r ≤ q := by
  rcases Int.lt_or_le q r with w | w
  · have h1 := hq.2.2 (by have := hr.1; omega)
    have h2 := pbg_mono h (i := q + 1) (j := r) (by have := hq.1; omega) (by omega) (by have := hr.1; omega)
    rcases hr.2.1 with g | g
    · have := hq.1; omega
    · omega
  · exact w
theorem psg_in (h : prep B S c sv) {base loc i m : Int} (h0 : 0 ≤ i) (h1 : i < c) (g0 : pbg B c i < m) (g1 : m < pbg B c (i + 1)) : psg sv base loc m = false := by
  unfold psg
  rw [sv_in h h0 h1 (by omega) g1, sv_in h h0 h1 (m := m - 1) (by omega) (by omega)]; simp; omega
theorem psg_at (h : prep B S c sv) {base loc i : Int} (h0 : 1 ≤ i) (h1 : i < c) : psg sv base loc (pbg B c i) = decide (loc < pbg B c i + (base + psv S c i) ∧ pbg B c i - 1 + (base + psv S c (i - 1)) < loc) := by
  have a := pbg_lt h (i := i - 1) (by omega) (by omega)
  have b := pbg_lt h (i := i) (by omega) h1
  rw [show i - 1 + 1 = i by omega] at a
  unfold psg
  rw [sv_in h (i := i) (by omega) h1 (by omega) b, sv_in h (i := i - 1) (m := pbg B c i - 1) (by omega) (by omega) (by omega) (by rw [show i - 1 + 1 = i by omega]; omega)]
  simp only [decide_eq_decide]; omega
theorem psF_start (h : prep B S c sv) {base loc r : Int} (hr : pwOK B c (loc - base - 180) r) : psF sv base loc = fP (psg sv base loc) (105190560 - pbg B c (max 1 r)).toNat (pbg B c (max 1 r)) := by
  have hc := h.1
  have a := pbg_rng h (max 1 r)
  have b : 1 ≤ pbg B c (max 1 r) := by
    have := pbg_lt h (i := 0) (by omega) (by omega)
    have := pbg_0 h
    have := pbg_mono h (i := 1) (j := max 1 r) (by omega) (by omega) (by have := hr.1; omega)
    simp at *; omega
  refine fP_skip 1 b (by omega) (fun m g0 g1 => ?_)
  by_cases q : r ≤ 0
  · rw [show max 1 r = 0 + 1 by omega] at g1
    exact psg_in h (i := 0) (by omega) (by omega) (by rw [pbg_0 h]; omega) g1
  · rw [show max 1 r = r by omega] at g1
    have g2 := pbg_rng h r
    have g3 := sv_rng h (m := m) (by omega) (by omega)
    rcases hr.2.1 with w | w
    · omega
    · unfold psg; simp; omega
theorem psF_step (h : prep B S c sv) {base loc i : Int} (h0 : 1 ≤ i) (h1 : i < c) (he : ¬(loc < pbg B c i + (base + psv S c i) ∧ pbg B c i - 1 + (base + psv S c (i - 1)) < loc)) : fP (psg sv base loc) (105190560 - pbg B c i).toNat (pbg B c i) = fP (psg sv base loc) (105190560 - pbg B c (i + 1)).toNat (pbg B c (i + 1)) := by
  have a := pbg_lt h (i := i) (by omega) h1
  have := pbg_rng h (i + 1)
  refine fP_skip _ (by omega) (by omega) (fun q g1 g2 => ?_)
  by_cases hq : q = pbg B c i
  · rw [hq, psg_at h h0 h1]; simp only [decide_eq_false_iff_not]; exact he
  · exact psg_in h (by omega) h1 (by omega) g2
theorem psF_hit (h : prep B S c sv) {base loc i : Int} (h0 : 1 ≤ i) (h1 : i < c) (he : loc < pbg B c i + (base + psv S c i) ∧ pbg B c i - 1 + (base + psv S c (i - 1)) < loc) : fP (psg sv base loc) (105190560 - pbg B c i).toNat (pbg B c i) = pbg B c i := by
  have a := pbg_lt h (i := i) (by omega) h1
  have := pbg_rng h (i + 1)
  exact fP_hit (Int.le_refl _) (by omega) (by rw [psg_at h h0 h1]; simp only [decide_eq_true_eq]; exact he) (fun q g1 g2 => by omega)
theorem psF_end (h : prep B S c sv) {base loc r : Int} (hr : pwOK B c (loc - base) r) {i : Int} (hi : r + 1 ≤ i) (hc : i ≤ c) : fP (psg sv base loc) (105190560 - pbg B c i).toNat (pbg B c i) = -1 := by
  have a := pbg_rng h i
  refine fP_none (by omega) (fun m g0 g1 => ?_)
  have b := pbg_mono h (i := r + 1) (j := i) (by have := hr.1; omega) hi hc
  by_cases q : r + 1 < c
  · have d := hr.2.2 q
    have e := pbg_rng h (r + 1)
    have e2 := pbg_lt h (i := r) hr.1.1 hr.1.2
    have e3 := pbg_rng h r
    have f := sv_rng h (m := m - 1) (by omega) (by omega)
    unfold psg; simp; omega
  · have e : pbg B c (r + 1) = 105190560 := by unfold pbg; rw [if_pos (by omega)]
    omega
theorem shF_start (h : prep B S c sv) {base loc r : Int} (hr : pwOK B c (loc - base - 180) r) : shF sv base loc = fP (shw sv base loc) (105190560 - pbg B c r).toNat (pbg B c r) := by
  have a := pbg_rng h r
  exact fP_skip 0 (by omega) (by omega) (fun m g0 g1 => shw_low h hr g0 g1)
theorem shF_step (h : prep B S c sv) {base loc i : Int} (h0 : 0 ≤ i) (h1 : i < c) (he : shi B S c base i loc < 0) : fP (shw sv base loc) (105190560 - pbg B c i).toNat (pbg B c i) = fP (shw sv base loc) (105190560 - pbg B c (i + 1)).toNat (pbg B c (i + 1)) := by
  have a := pbg_lt h (i := i) (by omega) h1
  have := pbg_rng h (i + 1)
  have := pbg_rng h i
  exact fP_skip _ (by omega) (by omega) (fun q g1 g2 => by rw [shw_in h h0 h1 g1 g2]; simp; omega)
theorem shF_hit (h : prep B S c sv) {base loc i : Int} (h0 : 0 ≤ i) (h1 : i < c) (he : 0 ≤ shi B S c base i loc) : fP (shw sv base loc) (105190560 - pbg B c i).toNat (pbg B c i) = shi B S c base i loc := by
  have a := shi_pos h he
  have := pbg_rng h (i + 1)
  exact fP_hit a.1 (by omega) (by rw [shw_in h h0 h1 a.1 a.2]; simp) (fun q g1 g2 => by rw [shw_in h h0 h1 g1 (by omega)]; simp; omega)
theorem shF_end (h : prep B S c sv) {base loc r : Int} (hr : pwOK B c (loc - base) r) {i : Int} (hi : i = r + 1) : fP (shw sv base loc) (105190560 - pbg B c i).toNat (pbg B c i) = -1 := by
  subst hi
  have a := pbg_rng h (r + 1)
  exact fP_none (by omega) (fun m g0 g1 => shw_high h hr g0 g1)
theorem shN_end (h : prep B S c sv) {base loc r : Int} (hr : pwOK B c (loc - base) r) {i : Int} (hi : i = r + 1) : shN sv base loc = cP (shw sv base loc) (pbg B c i - 0).toNat 0 := by
  subst hi
  have a := pbg_rng h (r + 1)
  unfold shN
  rw [cP_split (c := pbg B c (r + 1)) 0 (by omega) (by omega), cP_none _ (fun m g0 g1 => shw_high h hr g0 g1)]; omega
theorem shN_start (h : prep B S c sv) {base loc r : Int} (hr : pwOK B c (loc - base - 180) r) : cP (shw sv base loc) (pbg B c r - 0).toNat 0 = 0 := cP_none _ (fun m g0 g1 => shw_low h hr g0 g1)
theorem shN_step (h : prep B S c sv) {base loc i : Int} (h0 : 0 ≤ i) (h1 : i < c) : cP (shw sv base loc) (pbg B c (i + 1) - 0).toNat 0 = cP (shw sv base loc) (pbg B c i - 0).toNat 0 + if 0 ≤ shi B S c base i loc then 1 else 0 := by
  have a := pbg_lt h h0 h1
  have b := pbg_rng h i
  rw [cP_split (c := pbg B c i) 0 (by omega) (by omega), shw_cP h h0 h1]
theorem shN_rng (base loc : Int) : 0 ≤ shN sv base loc ∧ shN sv base loc ≤ 105190560 := by
  have := cP_rng (p := shw sv base loc) (b := 105190560) 0; unfold shN; omega
theorem shL_start (h : prep B S c sv) {base loc r : Int} (hr : pwOK B c (loc - base) r) : shL sv base loc = lP (shw sv base loc) (pbg B c (r + 1) - 0).toNat 0 := by
  have a := pbg_rng h (r + 1)
  exact lP_skip (by omega) (by omega) (fun m g0 g1 => shw_high h hr g0 g1)
theorem shL_step (h : prep B S c sv) {base loc i : Int} (h0 : 0 ≤ i) (h1 : i < c) (he : shi B S c base i loc < 0) : lP (shw sv base loc) (pbg B c (i + 1) - 0).toNat 0 = lP (shw sv base loc) (pbg B c i - 0).toNat 0 := by
  have a := pbg_lt h h0 h1
  have b := pbg_rng h i
  exact lP_skip (by omega) (by omega) (fun m g1 g2 => by rw [shw_in h h0 h1 g1 g2]; simp; omega)
theorem shL_hit (h : prep B S c sv) {base loc i : Int} (h0 : 0 ≤ i) (h1 : i < c) (he : 0 ≤ shi B S c base i loc) : lP (shw sv base loc) (pbg B c (i + 1) - 0).toNat 0 = shi B S c base i loc := by
  have a := shi_pos h he
  have b := pbg_rng h i
  exact lP_hit (by omega) a.2 (by rw [shw_in h h0 h1 a.1 a.2]; simp) (fun q g1 g2 => by rw [shw_in h h0 h1 (by omega) g2]; simp; omega)
theorem shL_end (h : prep B S c sv) {base loc r : Int} (hr : pwOK B c (loc - base - 180) r) : lP (shw sv base loc) (pbg B c r - 0).toNat 0 = -1 := lP_none (fun m g0 g1 => shw_low h hr g0 g1)
end PREP
