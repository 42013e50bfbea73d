-- ===== searches over ints: n of them, from a on =====
def fP (p : Int → Bool) : Nat → Int → Int
  | 0, _ => -1
  | n + 1, a => if p a then a else fP p n (a + 1)
def cP (p : Int → Bool) : Nat → Int → Int
  | 0, _ => 0
  | n + 1, a => (if p a then 1 else 0) + cP p n (a + 1)
def lP (p : Int → Bool) : Nat → Int → Int
  | 0, _ => -1
  | n + 1, a => if p (a + n) then a + n else lP p n a
theorem tN {a b : Int} (h : a < b) : (b - a).toNat = (b - (a + 1)).toNat + 1 := by omega
theorem t0 {a b : Int} (h : b ≤ a) : (b - a).toNat = 0 := by omega
/-- induction over the ints of an interval, from its end -/
theorem iind {P : Int → Prop} (b : Int) (h0 : ∀ a, b ≤ a → P a) (hs : ∀ a, a < b → P (a + 1) → P a) (a : Int) : P a := by
  obtain ⟨n, hn⟩ : ∃ n : Nat, (b - a).toNat = n := ⟨_, rfl⟩
  induction n generalizing a with
  | zero => exact h0 a (by omega)
  | succ n ih => exact hs a (by omega) (ih (a + 1) (by omega))
theorem fP_skip {p : Int → Bool} {b c : Int} (a : Int) : a ≤ c → c ≤ b → (∀ m, a ≤ m → m < c → p m = false) → fP p (b - a).toNat a = fP p (b - c).toNat c := by
  refine iind (P := fun a => a ≤ c → c ≤ b → (∀ m, a ≤ m → m < c → p m = false) → fP p (b - a).toNat a = fP p (b - c).toNat c) c ?_ ?_ a
  · intro a h h1 h2 _; rw [show a = c by omega]
  · intro a h ih h1 h2 hp
    rw [tN (show a < b by omega)]
    show (if p a = true then a else fP p _ (a + 1)) = _
    rw [hp a (by omega) h, if_neg (by simp)]
    exact ih (by omega) h2 (fun m g1 g2 => hp m (by omega) g2)
theorem fP_none {p : Int → Bool} {a b : Int} (h : a ≤ b) (hp : ∀ m, a ≤ m → m < b → p m = false) : fP p (b - a).toNat a = -1 := by
  rw [fP_skip a h (Int.le_refl b) hp, t0 (Int.le_refl b)]; rfl
theorem fP_hit {p : Int → Bool} {a b m : Int} (h : a ≤ m) (h2 : m < b) (hm : p m = true) (hp : ∀ q, a ≤ q → q < m → p q = false) : fP p (b - a).toNat a = m := by
  rw [fP_skip a h (by omega) hp, tN h2]
  show (if p m = true then m else _) = m
  rw [if_pos hm]
theorem fP_e {p : Int → Bool} {a b : Int} (h : b ≤ a) : fP p (b - a).toNat a = -1 := by rw [t0 h]; rfl
theorem fP_spec {p : Int → Bool} {b : Int} (a : Int) : (fP p (b - a).toNat a = -1 ∧ ∀ m, a ≤ m → m < b → p m = false) ∨ (a ≤ fP p (b - a).toNat a ∧ fP p (b - a).toNat a < b ∧ p (fP p (b - a).toNat a) = true ∧ ∀ q, a ≤ q → q < fP p (b - a).toNat a → p q = false) := by
  refine iind (P := fun a => (fP p (b - a).toNat a = -1 ∧ ∀ m, a ≤ m → m < b → p m = false) ∨ (a ≤ fP p (b - a).toNat a ∧ fP p (b - a).toNat a < b ∧ p (fP p (b - a).toNat a) = true ∧ ∀ q, a ≤ q → q < fP p (b - a).toNat a → p q = false)) b ?_ ?_ a
  · intro a h; left; exact ⟨fP_e h, fun m h1 h2 => by omega⟩
  · intro a h ih
    rw [tN h]
    show ((if p a = true then a else fP p _ (a + 1)) = -1 ∧ _) ∨ _
    cases hp : p a with
    | true => right; simp only [fP, hp, if_true]; exact ⟨by omega, h, trivial, fun q h1 h2 => by omega⟩
    | false =>
      simp only [fP, hp, Bool.false_eq_true, if_false]
      rcases ih with ⟨h1, h2⟩ | ⟨h1, h2, h3, h4⟩
      · left; refine ⟨h1, fun m g1 g2 => ?_⟩
        by_cases g : m = a
        · subst g; exact hp
        · exact h2 m (by omega) g2
      · right; refine ⟨by omega, h2, h3, fun q g1 g2 => ?_⟩
        by_cases g : q = a
        · subst g; exact hp
        · exact h4 q (by omega) g2
theorem fP_congr {p q : Int → Bool} {b : Int} (a : Int) : (∀ m, a ≤ m → m < b → p m = q m) → fP p (b - a).toNat a = fP q (b - a).toNat a := by
  refine iind (P := fun a => (∀ m, a ≤ m → m < b → p m = q m) → fP p (b - a).toNat a = fP q (b - a).toNat a) b ?_ ?_ a
  · intro a h _; rw [fP_e h, fP_e h]
  · intro a h ih hp
    rw [tN h]; simp only [fP]; rw [hp a (by omega) h, ih (fun m g1 g2 => hp m (by omega) g2)]
theorem cP_e {p : Int → Bool} {a b : Int} (h : b ≤ a) : cP p (b - a).toNat a = 0 := by rw [t0 h]; rfl
theorem cP_s {p : Int → Bool} {a b : Int} (h : a < b) : cP p (b - a).toNat a = (if p a then 1 else 0) + cP p (b - (a + 1)).toNat (a + 1) := by rw [tN h]; rfl
theorem cP_split {p : Int → Bool} {b c : Int} (a : Int) : a ≤ c → c ≤ b → cP p (b - a).toNat a = cP p (c - a).toNat a + cP p (b - c).toNat c := by
  refine iind (P := fun a => a ≤ c → c ≤ b → cP p (b - a).toNat a = cP p (c - a).toNat a + cP p (b - c).toNat c) c ?_ ?_ a
  · intro a h h1 h2; rw [show a = c by omega, cP_e (Int.le_refl c)]; omega
  · intro a h ih h1 h2
    rw [cP_s (show a < b by omega), cP_s h, ih (by omega) h2]; omega
theorem cP_none {p : Int → Bool} {b : Int} (a : Int) : (∀ m, a ≤ m → m < b → p m = false) → cP p (b - a).toNat a = 0 := by
  refine iind (P := fun a => (∀ m, a ≤ m → m < b → p m = false) → cP p (b - a).toNat a = 0) b ?_ ?_ a
  · intro a h _; exact cP_e h
  · intro a h ih hp
    rw [cP_s h, hp a (by omega) h, ih (fun m g1 g2 => hp m (by omega) g2)]; simp
theorem cP_all {p : Int → Bool} {b : Int} (a : Int) : a ≤ b → (∀ m, a ≤ m → m < b → p m = true) → cP p (b - a).toNat a = b - a := by
  refine iind (P := fun a => a ≤ b → (∀ m, a ≤ m → m < b → p m = true) → cP p (b - a).toNat a = b - a) b ?_ ?_ a
  · intro a h h1 _; rw [cP_e h]; omega
  · intro a h ih h1 hp
    rw [cP_s h, hp a (by omega) h, ih (by omega) (fun m g1 g2 => hp m (by omega) g2)]; simp; omega
theorem cP_one {p : Int → Bool} {a b c : Int} (h1 : a ≤ c) (h2 : c < b) (hc : p c = true) (hp : ∀ m, a ≤ m → m < b → m ≠ c → p m = false) : cP p (b - a).toNat a = 1 := by
  rw [cP_split (c := c) a h1 (by omega), cP_none a (fun m g1 g2 => hp m g1 (by omega) (by omega)), cP_s h2, hc, cP_none (c + 1) (fun m g1 g2 => hp m (by omega) g2 (by omega))]; simp
theorem cP_rng {p : Int → Bool} {b : Int} (a : Int) : 0 ≤ cP p (b - a).toNat a ∧ (a ≤ b → cP p (b - a).toNat a ≤ b - a) := by
  refine iind (P := fun a => 0 ≤ cP p (b - a).toNat a ∧ (a ≤ b → cP p (b - a).toNat a ≤ b - a)) b ?_ ?_ a
  · intro a h; rw [cP_e h]; omega
  · intro a h ih; rw [cP_s h]; split <;> omega
theorem cP_last {p : Int → Bool} {a b : Int} (h : a ≤ b) : cP p (b + 1 - a).toNat a = cP p (b - a).toNat a + (if p b then 1 else 0) := by
  rw [cP_split (c := b) a h (by omega), cP_s (show b < b + 1 by omega), cP_e (show b + 1 ≤ b + 1 by omega)]; omega
theorem cP_congr {p q : Int → Bool} {b : Int} (a : Int) : (∀ m, a ≤ m → m < b → p m = q m) → cP p (b - a).toNat a = cP q (b - a).toNat a := by
  refine iind (P := fun a => (∀ m, a ≤ m → m < b → p m = q m) → cP p (b - a).toNat a = cP q (b - a).toNat a) b ?_ ?_ a
  · intro a h _; rw [cP_e h, cP_e h]
  · intro a h ih hp
    rw [cP_s h, cP_s h, hp a (by omega) h, ih (fun m g1 g2 => hp m (by omega) g2)]
theorem cP_mono {p : Int → Bool} {a b c : Int} (h : a ≤ b) (h2 : b ≤ c) : cP p (b - a).toNat a ≤ cP p (c - a).toNat a := by
  rw [cP_split (c := b) (b := c) a h h2]; have := (cP_rng (p := p) (b := c) b).1; omega
theorem lP_e {p : Int → Bool} {a b : Int} (h : b ≤ a) : lP p (b - a).toNat a = -1 := by rw [t0 h]; rfl
theorem lP_s {p : Int → Bool} {a b : Int} (h : a ≤ b) : lP p (b + 1 - a).toNat a = if p b then b else lP p (b - a).toNat a := by
  rw [show (b + 1 - a).toNat = (b - a).toNat + 1 by omega]
  show (if p (a + ((b - a).toNat : Int)) = true then a + ((b - a).toNat : Int) else _) = _
  rw [show a + ((b - a).toNat : Int) = b by omega]
theorem lP_skip {p : Int → Bool} {a b c : Int} (h : a ≤ c) (h2 : c ≤ b) (hp : ∀ m, c ≤ m → m < b → p m = false) : lP p (b - a).toNat a = lP p (c - a).toNat a := by
  obtain ⟨n, hn⟩ : ∃ n : Nat, b = c + n := ⟨(b - c).toNat, by omega⟩
  induction n generalizing b with
  | zero => rw [show b = c by omega]
  | succ n ih =>
    rw [show b = (b - 1) + 1 by omega, lP_s (by omega), hp (b - 1) (by omega) (by omega), if_neg (by simp)]
    exact ih (b := b - 1) (by omega) (fun m g1 g2 => hp m g1 (by omega)) (by omega)
theorem lP_hit {p : Int → Bool} {a b m : Int} (h : a ≤ m) (h2 : m < b) (hm : p m = true) (hp : ∀ q, m < q → q < b → p q = false) : lP p (b - a).toNat a = m := by
  rw [lP_skip (c := m + 1) (by omega) (by omega) (fun q g1 g2 => hp q (by omega) g2), lP_s h, if_pos hm]
theorem lP_none {p : Int → Bool} {a b : Int} (hp : ∀ m, a ≤ m → m < b → p m = false) : lP p (b - a).toNat a = -1 := by
  by_cases h : a ≤ b
  · rw [lP_skip (c := a) (Int.le_refl a) h hp, lP_e (Int.le_refl a)]
  · exact lP_e (by omega)
