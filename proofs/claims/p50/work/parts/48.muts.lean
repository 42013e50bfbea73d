def cdWk (w : Int) : Int := if 1 ≤ w ∧ w ≤ 127 then 0 else 1
def cdHr (f l : Int) : Int := if (0 ≤ f ∧ f ≤ 1439) ∧ f + 1 ≤ l ∧ l ≤ 1440 then 0 else 1
def cdSet (M : zM) (a v lo hi : Int) : Int := if 0 ≤ a ∧ a < M 40 16 then (if lo ≤ v ∧ v ≤ hi then 0 else 2) else 1
-- ===== a series whose numbers change =====
theorem serM_oth {M : zM} {n k q : Nat} {v : Int} (hq : q < 11) (hk : k ≠ n) : serM (up2 M 17 (11 * n + q) v) k = serM M k := by
  funext j; unfold serM up2
  split
  · rw [if_neg (by omega)]
  · rfl
theorem serM_sam {M : zM} {n q : Nat} {v : Int} (hq : q < 11) (j : Nat) : serM (up2 M 17 (11 * n + q) v) n j = if j = q then v else serM M n j := by
  unfold serM up2
  by_cases h : j = q
  · subst h; rw [if_pos hq, if_pos ⟨rfl, rfl⟩, if_pos rfl]
  · rw [if_neg (c := j = q) h]
    split
    · rw [if_neg (by omega)]
    · rfl
theorem useM_f {M M' : zM} (h18 : M' 18 = M 18) (hp : ∀ k, patM M' k = patM M k) (n : Nat) : useM M' n = useM M n := by
  funext k; unfold useM; rw [h18, hp]
theorem excM_f {M M' : zM} (h19 : M' 19 = M 19) (n : Nat) : excM M' n = excM M n := by unfold excM; rw [h19]
theorem patM_17 {M : zM} {i : Nat} {v : Int} (k : Nat) : patM (up2 M 17 i v) k = patM M k := patM_eq (up2_o (by decide)) (up2_o (by decide)) (up2_o (by decide)) k
theorem serD_upd {F F' Sd Sd' : Nat → Int} (h : serD F Sd) (s1 : Sd' 1 = Sd 1) (s2 : Sd' 2 = Sd 2) (s3 : Sd' 3 = Sd 3) (s4 : Sd' 4 = Sd 4) (s8 : Sd' 8 = Sd 8) (e9 : F' 9 = Sd' 9) (e10 : F' 10 = Sd' 5) (e11 : F' 11 = Sd' 6) (e12 : F' 12 = Sd' 7) (e14 : F' 14 = Sd' 10) (hF : ∀ q, q < 7 → F' q = F q) : serD F' Sd' := by
  obtain ⟨⟨a1, a2, a3, a4, a5, a6⟩, -⟩ := h
  refine ⟨⟨?_, ?_, ?_, ?_, ?_, ?_⟩, e9, e10, e11, e12, e14⟩
  · rw [hF 1 (by decide), s1]; exact a1
  · rw [hF 2 (by decide), a2]; unfold bdS; rw [s1]
  · rw [hF 3 (by decide), s2]; exact a3
  · rw [hF 4 (by decide), s3]; exact a4
  · rw [hF 5 (by decide), s4]; exact a5
  · rw [hF 6 (by decide), s8]; exact a6
theorem usS_eq {Sd Sd' : Nat → Int} (s1 : Sd' 1 = Sd 1) (s2 : Sd' 2 = Sd 2) : usS Sd' = usS Sd := by unfold usS bdS; rw [s1, s2]
theorem usOK_upd {K : zK} {X X' : zX} {Rf Rf' : zR} {se : Nat} {Sd Sd' : Nat → Int} (h : usOK K X Rf se Sd) (s1 : Sd' 1 = Sd 1) (s2 : Sd' 2 = Sd 2) (hX : ∀ a, K a = (1, 2) → X' a = X a) (hR : Rf' se 7 = Rf se 7) : usOK K X' Rf' se Sd' := by
  rcases h with ⟨h0, h1⟩ | ⟨h0, us, h1, h2, h3, h4⟩
  · exact Or.inl ⟨by rw [s2]; exact h0, by rw [hR]; exact h1⟩
  · exact Or.inr ⟨by rw [s2]; exact h0, us, by rw [hR]; exact h1, h2, by rw [hX us h2]; exact h3, by rw [hX us h2, usS_eq s1 s2]; exact h4⟩
/-- its new dates -/
theorem seA_new {ρ : zL} {K : zK} {X X' : zX} {Rf Rf' : zR} {b se p0 po eo fo : Nat} {Sd : Nat → Int} {Up : Nat → Nat → Int} {Ex : Nat → Int} (h1 : K se = (1, 4) ∧ ρ se = b) (h2 : Rf' se 0 = some p0 ∧ Rf' se 8 = some po ∧ Rf' se 13 = some eo ∧ Rf' se 15 = some fo) (h3 : K po = (6, 4) ∧ K eo = (2, 8) ∧ K fo = (2, 4001)) (h4 : ρ po = b + 1 ∧ ρ eo = b + 2 ∧ ρ fo = b + 3)
    (hD : serD (X se) Sd) (hS : okS Sd) (hU : upOK K X Rf' po Sd Up) (hUs : usOK K X Rf' se Sd) (hE : ∀ k : Nat, (k : Int) < Sd 10 → X eo k = Ex k ∧ 0 ≤ Ex k ∧ Ex k ≤ 73048) (hX : ∀ a, K a = (1, 2) → X' a = X a) (he : X' eo = X eo) (hq : ∀ q, q ≠ 16 → q ≠ 17 → X' se q = X se q) (hr : repD X' se fo (spS Sd Up Ex 4001 0 (0, []))) : seA ρ K X' Rf' b se p0 Sd Up Ex :=
  ⟨h1, po, eo, fo, h2, h3, h4, hD.congr hq, hS, hU.mono hX, hUs.mono hX, fun k hk => by rw [he]; exact hE k hk, dtR_of hS hr⟩
theorem not_k2 {K : zK} {a b : Nat} {k : Nat × Nat} (ha : K a = k) (h : k ≠ (1, 2)) (hb : K b = (1, 2)) : b ≠ a := fun q => by rw [q, ha] at hb; exact h hb
