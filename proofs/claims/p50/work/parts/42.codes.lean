-- ===== what each call answers: cd.. the number of its exception (0 none), vl.. its value =====
def cdDay (d : Int) : Int := if 0 ≤ d ∧ d ≤ 73048 then 0 else 1
def cdYear (y : Int) : Int := if 1900 ≤ y ∧ y ≤ 2099 then 0 else 1
def cdDate (y mo d : Int) : Int := if (1900 ≤ y ∧ y ≤ 2099) ∧ (1 ≤ mo ∧ mo ≤ 12) ∧ 1 ≤ d ∧ d ≤ lenM (y - 1900) mo then 0 else 1
def vlDate (y mo d : Int) : Int := mB (12 * (y - 1900) + mo - 1) + d - 1
def vlWeek (d : Int) : Int := (d - d % 7 + 3 - yb (yr (d - d % 7 + 3))) / 7 + 1
def cdPlus (d n : Int) : Int := if 0 ≤ d ∧ d ≤ 73048 then (if 0 ≤ mi d + n ∧ mi d + n < 2400 then 0 else 2) else 1
def vlPlus (d n : Int) : Int := mB (mi d + n) + min (d - mB (mi d) + 1) (mB (mi d + n + 1) - mB (mi d + n)) - 1
theorem vlWeek_mB {d : Int} (h0 : 0 ≤ d) (h : d ≤ 73048) : mB (12 * (1900 + yr (d - d % 7 + 3) - 1900)) = yb (yr (d - d % 7 + 3)) := by
  have := yr_rng (d := d - d % 7 + 3) (by omega) (by omega)
  rw [show 12 * (1900 + yr (d - d % 7 + 3) - 1900) = 12 * yr (d - d % 7 + 3) by omega, mB_jan (by omega) (by omega)]
def cdPat (M : zM) (a : Int) : Int := if 0 ≤ a ∧ a < M 40 1 then 0 else 1
def cdPatY (M : zM) (a y : Int) : Int := if 0 ≤ a ∧ a < M 40 1 then (if 1900 ≤ y ∧ y ≤ 2099 then 0 else 2) else 1
def cdPatD (M : zM) (a d : Int) : Int := if (0 ≤ a ∧ a < M 40 1) ∧ 0 ≤ d ∧ d ≤ 73048 then 0 else 1
def cdPlM (M : zM) (a mo : Int) : Int := if (0 ≤ a ∧ a < M 40 5) ∧ 0 ≤ mo ∧ mo ≤ 105190559 then 0 else 1
def cdPl (M : zM) (a : Int) : Int := if 0 ≤ a ∧ a < M 40 5 then 0 else 1
def cdPlPlM (M : zM) (a b mo : Int) : Int := if (0 ≤ a ∧ a < M 40 5) ∧ (0 ≤ b ∧ b < M 40 5) ∧ 0 ≤ mo ∧ mo ≤ 105190559 then 0 else 1
def cdSer (M : zM) (a : Int) : Int := if 0 ≤ a ∧ a < M 40 16 then 0 else 1
def cdSerK (M : zM) (a k : Int) : Int := if (0 ≤ a ∧ a < M 40 16) ∧ 0 ≤ k ∧ k < (datM M a.toNat).length then 0 else 1
def cdSerD (M : zM) (a d : Int) : Int := if (0 ≤ a ∧ a < M 40 16) ∧ 0 ≤ d ∧ d ≤ 73048 then 0 else 1
def cdSerS (M : zM) (a b : Int) : Int := if (0 ≤ a ∧ a < M 40 16) ∧ 0 ≤ b ∧ b < M 40 16 then 0 else 1
def locM (M : zM) (a mo : Int) : Int := mo + M 6 a.toNat + savM M a.toNat mo
section ZPT
variable {ρ : zL} {K : zK} {X : zX} {Rf : zR} {M : zM}
theorem ptOK.no {pr : Nat} (h : ptOK K X Rf pr M) {k : Nat} (hk : k < 24) (hr : Rf pr k = none) : M 40 1 ≤ k := by
  rcases h k hk with ⟨h1, pa, h2, h3⟩ | h1
  · rw [hr] at h2; cases h2
  · exact h1.1
theorem ptOK.at {pr : Nat} (h : ptOK K X Rf pr M) {k a : Nat} (hk : k < 24) (hr : Rf pr k = some a) : (k : Int) < M 40 1 ∧ K a = (1, 2) ∧ psame (X a) (patM M k) := by
  rcases h k hk with ⟨h1, pa, h2, h3⟩ | h1
  · rw [hr] at h2; cases h2; exact ⟨h1, h3⟩
  · rw [hr] at h1; cases h1.2
theorem plOK.no {pl : Nat} (h : plOK ρ K X Rf pl M) {k : Nat} (hk : k < 6) (hr : Rf pl k = none) : M 40 5 ≤ k := by
  rcases h k hk with ⟨h1, pa, h2, h3⟩ | h1
  · rw [hr] at h2; cases h2
  · exact h1.1
theorem plOK.at {pl : Nat} (h : plOK ρ K X Rf pl M) {k a : Nat} (hk : k < 6) (hr : Rf pl k = some a) : (k : Int) < M 40 5 ∧ plA ρ K X Rf (100 + 10 * k) a (M 6 k) (M 7 k).toNat (turM M k) (tupM M k) := by
  rcases h k hk with ⟨h1, pa, h2, h3⟩ | h1
  · rw [hr] at h2; cases h2; exact ⟨h1, h3⟩
  · rw [hr] at h1; cases h1.2
theorem seOK.no {pl sr : Nat} (h : seOK ρ K X Rf pl sr M) {k : Nat} (hk : k < 6) (hr : Rf sr k = none) : M 40 16 ≤ k := by
  rcases h k hk with ⟨h1, pa, p0, h2, h3⟩ | h1
  · rw [hr] at h2; cases h2
  · exact h1.1
theorem seOK.at {pl sr : Nat} (h : seOK ρ K X Rf pl sr M) {k a : Nat} (hk : k < 6) (hr : Rf sr k = some a) : (k : Int) < M 40 16 ∧ ∃ p0, Rf pl (serM M k 0).toNat = some p0 ∧ seA ρ K X Rf (200 + 10 * k) a p0 (serM M k) (useM M k) (excM M k) := by
  rcases h k hk with ⟨h1, pa, p0, h2, h3, h4⟩ | h1
  · rw [hr] at h2; cases h2; exact ⟨h1, p0, h3, h4⟩
  · rw [hr] at h1; cases h1.2
theorem okP_same {F G : Nat → Int} (h : psame F G) (hG : okP2 G) : okP F := by
  obtain ⟨h0, h1, h2⟩ := h
  obtain ⟨g, _⟩ := hG
  unfold okP
  rw [h0, h1, h2]; exact g
theorem told_psame {F G : Nat → Int} (h : psame F G) (i : Int) : told F i = told G i := told_congr h.1 h.2.1 h.2.2 i
end ZPT
def cdMom (mo : Int) : Int := if 0 ≤ mo ∧ mo ≤ 105190559 then 0 else 1
def cdWds (fr days : Int) : Int := if 0 ≤ fr ∧ fr ≤ 73048 then (if (0 ≤ days ∧ days ≤ 400) ∧ fr + days ≤ 73049 then 0 else 2) else 1
def cdPwk (day days : Int) : Int := if 0 ≤ day ∧ day ≤ 73048 then (if -200 ≤ days ∧ days ≤ 200 then 0 else 2) else 1
def cdWwi (fr mn : Int) : Int := if 0 ≤ fr ∧ fr ≤ 105190559 then (if (0 ≤ mn ∧ mn ≤ 50000) ∧ fr + mn ≤ 105190560 then 0 else 2) else 1
def cdDon (fr wk : Int) : Int := if 0 ≤ fr ∧ fr ≤ 105190559 then (if 1 ≤ wk ∧ wk ≤ 10000 then 0 else 2) else 1
theorem wk1 {p : Int → Bool} {mo : Int} (h : ¬ cP p (1 : Int).toNat mo ≤ 0) : bI (p mo) = 1 := by
  have e : cP p (1 : Int).toNat mo = (if p mo then 1 else 0) + 0 := rfl
  cases q : p mo
  · rw [e, q] at h; exact absurd (by simp) h
  · rfl
theorem wk0 {p : Int → Bool} {mo : Int} (h : cP p (1 : Int).toNat mo ≤ 0) : bI (p mo) = 0 := by
  have e : cP p (1 : Int).toNat mo = (if p mo then 1 else 0) + 0 := rfl
  cases q : p mo
  · rfl
  · rw [e, q] at h; exact absurd h (by simp)
