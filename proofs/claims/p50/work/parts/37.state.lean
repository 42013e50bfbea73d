-- ===== the state of a calendar, as numbers: M f k is the k-th number of the row f; M 40 its single numbers =====
abbrev okP2 (P : Nat → Int) : Prop := okP P ∧ (P 1 = 16 → P 0 = 0)
abbrev zM : Type := Nat → Nat → Int
def patM (M : zM) (k : Nat) : Nat → Int := fun q => if q = 0 then M 2 k else if q = 1 then M 3 k else M 4 k
def turM (M : zM) (p t : Nat) : Nat → Int := fun q => if t < 6 ∧ q < 6 then M 8 ((6 * p + t) * 6 + q) else 0
def tupM (M : zM) (p t : Nat) : Nat → Int := if t < 6 then patM M (M 8 ((6 * p + t) * 6 + 2)).toNat else fun _ => 0
def serM (M : zM) (n : Nat) : Nat → Int := fun q => if q < 11 then M 17 (11 * n + q) else 0
def useM (M : zM) (n k : Nat) : Nat → Int := if k < 4 then patM M (M 18 (4 * n + k)).toNat else fun _ => 0
def excM (M : zM) (n : Nat) : Nat → Int := fun k => if k < 8 then M 19 (8 * n + k) else 0
def feaM (M : zM) (k : Nat) : Nat → Int := fun q => if q = 0 then M 30 k else if q = 1 then M 31 k else M 33 k
def fepM (M : zM) (k : Nat) : Nat → Int := patM M (M 32 k).toNat
/-- the saving of a place -/
def savM (M : zM) (p : Nat) : Int → Int := sav (turM M p) (tupM M p) (M 7 p).toNat (M 6 p)
/-- the dates of a series -/
def datM (M : zM) (n : Nat) : List Int := dtS (serM M n) (useM M n) (excM M n)
/-- the smallest feast of a day -/
noncomputable def falM (M : zM) : Int → Int := Fa (M 40 26) (feaM M) (fepM M) (M 40 29).toNat
/-- working days, working moments -/
noncomputable def wkdM (M : zM) : Int → Bool := wkF (M 40 26) (falM M)
/-- what the clock of work shows more -/
def cbsM (M : zM) : Int := if M 40 25 = -1 then 0 else M 6 (M 40 25).toNat
def csvM (M : zM) : Int → Int := if M 40 25 = -1 then fun _ => 0 else savM M (M 40 25).toNat
noncomputable def wkmM (M : zM) : Int → Bool := wkM (csvM M) (cbsM M) (M 40 27) (M 40 28) (wkdM M)
/-- the numbers are in their bounds -/
def okM (M : zM) : Prop :=
  ((0 ≤ M 40 1 ∧ M 40 1 ≤ 24) ∧ (0 ≤ M 40 5 ∧ M 40 5 ≤ 6) ∧ (0 ≤ M 40 16 ∧ M 40 16 ≤ 6) ∧ ((0 ≤ M 40 29 ∧ M 40 29 ≤ 20) ∧ ∀ p : Nat, M 40 5 ≤ p → M 7 p = 0)) ∧
  (∀ k : Nat, (k : Int) < M 40 1 → okP2 (patM M k)) ∧
  (∀ p : Nat, (p : Int) < M 40 5 → (-840 ≤ M 6 p ∧ M 6 p ≤ 840) ∧ (0 ≤ M 7 p ∧ M 7 p ≤ 6) ∧ ∀ t : Nat, (t : Int) < M 7 p → okT (turM M p t) ∧ (0 ≤ turM M p t 2 ∧ turM M p t 2 < M 40 1) ∧ (tupM M p t 0 ≠ 0 ∨ tupM M p t 1 = 16)) ∧
  (∀ n : Nat, (n : Int) < M 40 16 → okS (serM M n) ∧ (0 ≤ serM M n 0 ∧ serM M n 0 < M 40 5) ∧ (∀ k : Nat, (k : Int) < serM M n 9 → 0 ≤ M 18 (4 * n + k) ∧ M 18 (4 * n + k) < M 40 1) ∧ (∀ k : Nat, (k : Int) < serM M n 10 → 0 ≤ excM M n k ∧ excM M n k ≤ 73048)) ∧
  ((-1 ≤ M 40 25 ∧ M 40 25 < M 40 5) ∧ (1 ≤ M 40 26 ∧ M 40 26 ≤ 127) ∧ (0 ≤ M 40 27 ∧ M 40 27 < M 40 28) ∧ M 40 28 ≤ 1440) ∧
  (∀ k : Nat, (k : Int) < M 40 29 → okF (feaM M k) ∧ 0 ≤ M 32 k ∧ M 32 k < M 40 1)
-- ===== the class's objects =====
/-- labels: what an address is for; 0: never written again -/
abbrev zL : Type := Nat → Nat
def ptOK (K : zK) (X : zX) (Rf : zR) (pr : Nat) (M : zM) : Prop := ∀ k : Nat, k < 24 → ((k : Int) < M 40 1 ∧ ∃ pa, Rf pr k = some pa ∧ K pa = (1, 2) ∧ psame (X pa) (patM M k)) ∨ (M 40 1 ≤ k ∧ Rf pr k = none)
/-- one place: its object p0, with the label b and its rows with those behind it -/
def plA (ρ : zL) (K : zK) (X : zX) (Rf : zR) (b p0 : Nat) (base : Int) (n : Nat) (T Tp : Nat → Nat → Int) : Prop :=
  (K p0 = (1, 3) ∧ ρ p0 = b) ∧ ∃ tu to be sa : Nat, (Rf p0 1 = some tu ∧ Rf p0 3 = some to ∧ Rf p0 4 = some be ∧ Rf p0 5 = some sa) ∧ (K tu = (9, 6) ∧ K to = (2, 6) ∧ K be = (2, 1201) ∧ K sa = (2, 1201)) ∧ (ρ tu = b + 1 ∧ ρ to = b + 2 ∧ ρ be = b + 3 ∧ ρ sa = b + 4) ∧
    turnsOK K X Rf tu n T Tp ∧ n ≤ 6 ∧ X p0 2 = n ∧ (X p0 0 = base ∧ -840 ≤ base ∧ base ≤ 840) ∧ prep (X be) (X sa) (X p0 6) (sav T Tp n base)
def plOK (ρ : zL) (K : zK) (X : zX) (Rf : zR) (pl : Nat) (M : zM) : Prop := ∀ k : Nat, k < 6 → ((k : Int) < M 40 5 ∧ ∃ p0, Rf pl k = some p0 ∧ plA ρ K X Rf (100 + 10 * k) p0 (M 6 k) (M 7 k).toNat (turM M k) (tupM M k)) ∨ (M 40 5 ≤ k ∧ Rf pl k = none)
/-- one series -/
def seA (ρ : zL) (K : zK) (X : zX) (Rf : zR) (b se p0 : Nat) (Sd : Nat → Int) (Up : Nat → Nat → Int) (Ex : Nat → Int) : Prop :=
  (K se = (1, 4) ∧ ρ se = b) ∧ ∃ po eo fo : Nat, (Rf se 0 = some p0 ∧ Rf se 8 = some po ∧ Rf se 13 = some eo ∧ Rf se 15 = some fo) ∧ (K po = (6, 4) ∧ K eo = (2, 8) ∧ K fo = (2, 4001)) ∧ (ρ po = b + 1 ∧ ρ eo = b + 2 ∧ ρ fo = b + 3) ∧
    serD (X se) Sd ∧ okS Sd ∧ upOK K X Rf po Sd Up ∧ usOK K X Rf se Sd ∧ (∀ k : Nat, (k : Int) < Sd 10 → X eo k = Ex k ∧ 0 ≤ Ex k ∧ Ex k ≤ 73048) ∧ dtR X se fo (dtS Sd Up Ex)
def seOK (ρ : zL) (K : zK) (X : zX) (Rf : zR) (pl sr : Nat) (M : zM) : Prop := ∀ k : Nat, k < 6 → ((k : Int) < M 40 16 ∧ ∃ se p0, Rf sr k = some se ∧ Rf pl (serM M k 0).toNat = some p0 ∧ seA ρ K X Rf (200 + 10 * k) se p0 (serM M k) (useM M k) (excM M k)) ∨ (M 40 16 ≤ k ∧ Rf sr k = none)
/-- the work -/
def woA (ρ : zL) (K : zK) (X : zX) (Rf : zR) (pl wo : Nat) (M : zM) : Prop :=
  (K wo = (1, 6) ∧ ρ wo = 10) ∧ ∃ fe fa fn p0 : Nat, (Rf wo 1 = some p0 ∧ Rf wo 5 = some fe ∧ Rf wo 7 = some fa ∧ Rf fa 0 = some fn) ∧ (K fe = (10, 20) ∧ K fa = (1, 0) ∧ K fn = (2, 1701)) ∧ (ρ fe = 11 ∧ ρ fa = 12 ∧ ρ fn = 13) ∧
    (X wo 0 = M 40 25 ∧ X wo 2 = M 40 26 ∧ X wo 3 = M 40 27 ∧ X wo 4 = M 40 28 ∧ X wo 6 = M 40 29) ∧ fstOK K X Rf fe (M 40 29).toNat (feaM M) (fepM M) ∧ fvr X fn ∧ ((-100000 ≤ X fa 1 ∧ X fa 1 ≤ 200000) ∧ -100000 ≤ X fa 2 ∧ X fa 2 ≤ 200000) ∧
    ((M 40 25 = -1 ∧ plA ρ K X Rf 20 p0 0 0 (fun _ _ => 0) (fun _ _ => 0)) ∨ (0 ≤ M 40 25 ∧ Rf pl (M 40 25).toNat = some p0))
/-- the class's object x -/
def repC (ρ : zL) (K : zK) (X : zX) (Rf : zR) (x : Nat) (M : zM) : Prop :=
  (K x = (1, 7) ∧ ρ x = 1) ∧ ∃ pr pl sr dr na wo : Nat, (Rf x 0 = some pr ∧ Rf x 2 = some pl ∧ Rf x 4 = some sr ∧ Rf x 6 = some dr ∧ Rf x 7 = some wo ∧ Rf dr 0 = some na) ∧ (K pr = (6, 24) ∧ K pl = (7, 6) ∧ K sr = (8, 6) ∧ K dr = (1, 0) ∧ K na = (2, 4733)) ∧ (ρ pr = 2 ∧ ρ pl = 3 ∧ ρ sr = 4 ∧ ρ dr = 5 ∧ ρ na = 6) ∧
    (X x 1 = M 40 1 ∧ X x 3 = M 40 5 ∧ X x 5 = M 40 16) ∧ ptOK K X Rf pr M ∧ plOK ρ K X Rf pl M ∧ seOK ρ K X Rf pl sr M ∧ woA ρ K X Rf pl wo M
