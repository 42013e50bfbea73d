-- ===== patterns: P 0 the month, P 1 the kind, P 2 the number =====
abbrev okP (P : Nat → Int) : Prop := (0 ≤ P 0 ∧ P 0 ≤ 12) ∧ (0 ≤ P 1 ∧ P 1 ≤ 16) ∧ (1 ≤ P 2 ∧ P 2 ≤ 200)
def numT (P : Nat → Int) (b len : Int) : Int := if P 1 = 0 then P 2 else if P 1 = 1 then len - P 2 + 1 else if P 1 ≤ 8 then 1 + (P 1 - 2 - b) % 7 + 7 * (P 2 - 1) else len - (b + len - 1 - (P 1 - 9)) % 7 - 7 * (P 2 - 1)
def numA (P : Nat → Int) (i : Int) : Int := if P 1 = 16 then est (1900 + i / 12) + P 2 - 100 - mB i + 1 else numT P (mB i) (mB (i + 1) - mB i)
def told (P : Nat → Int) (i : Int) : Int := if P 0 ≠ 0 ∧ P 0 ≠ i % 12 + 1 then -1 else if numA P i < 1 ∨ mB (i + 1) - mB i < numA P i then -1 else mB i + numA P i - 1
theorem told_congr {P P' : Nat → Int} (h0 : P 0 = P' 0) (h1 : P 1 = P' 1) (h2 : P 2 = P' 2) (i : Int) : told P i = told P' i := by
  unfold told numA numT; rw [h0, h1, h2]
theorem told_rng (P : Nat → Int) (i : Int) : (told P i = -1 ∨ (mB i ≤ told P i ∧ told P i < mB (i + 1))) ∧ -1 ≤ told P i ∧ told P i ≤ 73048 := by
  have := mB_rng i
  have := mB_rng (i + 1)
  unfold told; repeat' split
  all_goals omega
theorem told_mi {P : Nat → Int} {i : Int} (h0 : 0 ≤ i) (h : i < 2400) (ht : 0 ≤ told P i) : mi (told P i) = i := by
  have := told_rng P i
  exact mi_uniq h0 h (by omega) (by omega)
/-- how many days it tells in n months from i on -/
def cntT (P : Nat → Int) (i : Int) : Nat → Int
  | 0 => 0
  | n + 1 => cntT P i n + (if 0 ≤ told P (i + n) then 1 else 0)
theorem cntT_step {P : Nat → Int} {j i : Int} (h : j ≤ i) : cntT P j (i + 1 - j).toNat = cntT P j (i - j).toNat + (if 0 ≤ told P i then 1 else 0) := by
  rw [show (i + 1 - j).toNat = (i - j).toNat + 1 by omega]
  show cntT P j (i - j).toNat + (if 0 ≤ told P (j + ((i - j).toNat : Int)) then 1 else 0) = _
  rw [show j + ((i - j).toNat : Int) = i by omega]
theorem cntT_rng (P : Nat → Int) (i : Int) (n : Nat) : 0 ≤ cntT P i n ∧ cntT P i n ≤ n := by
  induction n with
  | zero => simp [cntT]
  | succ n ih => unfold cntT; split <;> omega
theorem cntT_congr {P P' : Nat → Int} (h0 : P 0 = P' 0) (h1 : P 1 = P' 1) (h2 : P 2 = P' 2) (i : Int) (n : Nat) : cntT P i n = cntT P' i n := by
  induction n with
  | zero => rfl
  | succ n ih => unfold cntT; rw [ih, told_congr h0 h1 h2]
/-- the first day from d on that it tells in n months from i on -/
def nxT (P : Nat → Int) (d : Int) : Nat → Int → Int
  | 0, _ => -1
  | n + 1, i => if d ≤ told P i then told P i else nxT P d n (i + 1)
theorem nxT_hit {P : Nat → Int} {d i e : Int} (h : i < e) (ht : d ≤ told P i) : nxT P d (e - i).toNat i = told P i := by
  rw [show (e - i).toNat = (e - (i + 1)).toNat + 1 by omega]; unfold nxT; rw [if_pos ht]
theorem nxT_step {P : Nat → Int} {d i e : Int} (h : i < e) (ht : ¬ d ≤ told P i) : nxT P d (e - i).toNat i = nxT P d (e - (i + 1)).toNat (i + 1) := by
  rw [show (e - i).toNat = (e - (i + 1)).toNat + 1 by omega]; conv => lhs; unfold nxT
  rw [if_neg ht]
theorem nxT_end {P : Nat → Int} {d i e : Int} (h : e ≤ i) : nxT P d (e - i).toNat i = -1 := by
  rw [show (e - i).toNat = 0 by omega]; rfl
theorem nxT_congr {P P' : Nat → Int} (h0 : P 0 = P' 0) (h1 : P 1 = P' 1) (h2 : P 2 = P' 2) (d : Int) (n : Nat) : ∀ i, nxT P d n i = nxT P' d n i := by
  induction n with
  | zero => intro i; rfl
  | succ n ih => intro i; unfold nxT; rw [ih, told_congr h0 h1 h2]
theorem nxT_rng (P : Nat → Int) (d : Int) (n : Nat) : ∀ i, -1 ≤ nxT P d n i ∧ nxT P d n i ≤ 73048 := by
  induction n with
  | zero => intro i; simp [nxT]
  | succ n ih => intro i; have := told_rng P i; have := ih (i + 1); unfold nxT; split <;> omega
def nextT (P : Nat → Int) (d : Int) : Int := nxT P d (2400 - mi d).toNat (mi d)
theorem nextT_congr {P P' : Nat → Int} (h0 : P 0 = P' 0) (h1 : P 1 = P' 1) (h2 : P 2 = P' 2) (d : Int) : nextT P d = nextT P' d := nxT_congr h0 h1 h2 d _ _
/-- .. the same from any month ahead of it on -/
theorem nextT_ahead {P : Nat → Int} {d j : Int} (hd : 0 ≤ d ∧ d ≤ 73048) (h0 : 0 ≤ j) (h : j ≤ mi d) : nxT P d (2400 - j).toNat j = nextT P d := by
  have hm := mi_rng hd.1 hd.2
  obtain ⟨n, hn⟩ : ∃ n : Nat, mi d = j + n := ⟨(mi d - j).toNat, by omega⟩
  induction n generalizing j with
  | zero => unfold nextT; rw [show mi d = j by omega]
  | succ n ih =>
    rw [nxT_step (by omega) ?_]
    · exact ih (by omega) (by omega) (by omega)
    · have := told_rng P j
      have := mB_mono (show j + 1 ≤ mi d by omega)
      omega
/-- the first day that it tells in n months from i on -/
abbrev fstT (P : Nat → Int) (n : Nat) (i : Int) : Int := nxT P 0 n i
-- ===== turns: T 0 first year, T 1 last year, T 3 minute, T 4 clock, T 5 saving =====
abbrev okT (T : Nat → Int) : Prop := (1900 ≤ T 0 ∧ T 0 ≤ T 1 ∧ T 1 ≤ 2099) ∧ (0 ≤ T 3 ∧ T 3 ≤ 1439) ∧ (0 ≤ T 4 ∧ T 4 ≤ 2) ∧ (0 ≤ T 5 ∧ T 5 ≤ 180)
def tTold (T P : Nat → Int) (year : Int) : Int := if year < T 0 ∨ T 1 < year then -1 else if nxT P 0 12 (12 * (year - 1900)) < 0 then -1 else 1440 * nxT P 0 12 (12 * (year - 1900)) + T 3
theorem tTold_rng {T P : Nat → Int} (h : okT T) (year : Int) : -1 ≤ tTold T P year ∧ tTold T P year ≤ 105190559 := by
  have := nxT_rng P 0 12 (12 * (year - 1900))
  unfold tTold; repeat' split
  all_goals omega
def tMom (T : Nat → Int) (td base sv : Int) : Int := (if T 4 ≠ 2 then td - base else td) - (if T 4 = 0 then sv else 0)
theorem numA_rng {P : Nat → Int} (h : okP P) {i : Int} (h0 : 0 ≤ i) (h2 : i < 2400) : -100000 < numA P i ∧ numA P i < 100000 := by
  have h3 := mB_succ h0 h2
  have h4 := mB_rng i
  have h5 := mB_rng (12 * (1900 + i / 12 - 1900) + estf (1900 + i / 12) / 31 - 1)
  unfold numA numT est; (repeat' split) <;> omega
