-- ===== what a call of the class leaves alone =====
def frC (ρ : zL) (K : zK) (X : zX) (Rf : zR) (ρ' : zL) (K' : zK) (X' : zX) (Rf' : zR) : Prop := ∀ a, (K a).1 ≠ 0 → K' a = K a ∧ ρ' a = ρ a ∧ (2000 ≤ ρ a → X' a = X a ∧ Rf' a = Rf a)
section ZFR
variable {ρ ρ' : zL} {K K' : zK} {X X' : zX} {Rf Rf' : zR} {M M' : zM} {x : Nat}
theorem frC_refl : frC ρ K X Rf ρ K X Rf := fun _ _ => ⟨rfl, rfl, fun _ => ⟨rfl, rfl⟩⟩
theorem repC.same (h : repC ρ K X Rf x M) : ∃ ρ', repC ρ' K X Rf x M ∧ frC ρ K X Rf ρ' K X Rf := ⟨ρ, h, frC_refl⟩
/-- only X changes, at cells with labels that are none of S, and are no fixed ones -/
theorem zag_X {S : Nat → Prop} (h : ∀ a, (K a).1 ≠ 0 → (imk (K a) ∨ S (ρ a)) → X' a = X a) : zag ρ K X Rf ρ K X' Rf S := fun a h1 h2 => ⟨rfl, rfl, h a h1 h2, rfl⟩
theorem imk_not {k n : Nat} (h : imk (k, n)) : k = 1 ∧ (n = 1 ∨ n = 2 ∨ n = 5) := by
  rcases h with h | h | h <;> cases h <;> simp
theorem repC.work (h : repC ρ K X Rf x M) {wo fa fn : Nat} (h7 : Rf x 7 = some wo) (hr7 : Rf wo 7 = some fa) (hrf : Rf fa 0 = some fn) (ho : ∀ a, a ≠ fa → a ≠ fn → X' a = X a) (hv : fvr X' fn) (hb : (-100000 ≤ X' fa 1 ∧ X' fa 1 ≤ 200000) ∧ -100000 ≤ X' fa 2 ∧ X' fa 2 ≤ 200000) : ∃ ρ', repC ρ' K X' Rf x M ∧ frC ρ K X Rf ρ' K X' Rf := by
  obtain ⟨⟨h1, h2⟩, pr, pl, sr, dr, na, wo', ⟨r1, r2, r3, r4, r5, r6⟩, ⟨k1, k2, k3, k4, k5⟩, ⟨l1, l2, l3, l4, l5⟩, hD, hP, hL, hS, hW⟩ := h
  rw [h7] at r5; cases r5
  obtain ⟨⟨w1, w2⟩, fe, fa', fn', p0, ⟨g1, g2, g3, g4⟩, ⟨q1, q2, q3⟩, ⟨m1, m2, m3⟩, hwD, hF, hv0, hb0, hp⟩ := hW
  rw [hr7] at g3; cases g3
  rw [hrf] at g4; cases g4
  have key : ∀ a, (K a).1 ≠ 0 → (imk (K a) ∨ (ρ a ≠ 12 ∧ ρ a ≠ 13)) → X' a = X a := fun a _ hs => ho a
    (by rintro rfl
        rcases hs with hs | hs
        · rw [q2] at hs; have := imk_not hs; omega
        · exact hs.1 m2)
    (by rintro rfl
        rcases hs with hs | hs
        · rw [q3] at hs; have := imk_not hs; omega
        · exact hs.2 m3)
  have hz := zag_X (ρ := ρ) (S := fun l => l ≠ 12 ∧ l ≠ 13) (Rf := Rf) key
  have at1 : ∀ {a n k : Nat}, K a = (k + 1, n) → ρ a ≠ 12 → ρ a ≠ 13 → X' a = X a := fun hk a1 a2 => (hz.at hk ⟨a1, a2⟩).2.2.1
  refine ⟨ρ, ⟨⟨h1, h2⟩, pr, pl, sr, dr, na, wo, ⟨r1, r2, r3, r4, h7, r6⟩, ⟨k1, k2, k3, k4, k5⟩, ⟨l1, l2, l3, l4, l5⟩, ?_, hP.keep hz rfl, hL.keep (hz.sub (fun l hl => by omega)) rfl, hS.keep (hz.sub (fun l hl => by omega)) rfl rfl, ?_⟩, ?_⟩
  · rw [at1 h1 (by rw [h2]; decide) (by rw [h2]; decide)]; exact hD
  · refine ⟨⟨w1, w2⟩, fe, fa, fn, p0, ⟨g1, g2, hr7, hrf⟩, ⟨q1, q2, q3⟩, ⟨m1, m2, m3⟩, ?_, hF.keep hz rfl, hv, hb, ?_⟩
    · rw [at1 w1 (by rw [w2]; decide) (by rw [w2]; decide)]; exact hwD
    · rcases hp with ⟨q, hp⟩ | hp
      · exact Or.inl ⟨q, hp.keep (hz.sub (fun l hl => by omega))⟩
      · exact Or.inr hp
  · exact fun a ha => ⟨rfl, rfl, fun hl => ⟨key a ha (Or.inr (by omega)), rfl⟩⟩
/-- the clock of the work -/
theorem woA.clk {pl wo : Nat} (h : woA ρ K X Rf pl wo M) (hpl : plOK ρ K X Rf pl M) (hM : okM M) : ∃ p0 be sa : Nat, Rf wo 1 = some p0 ∧ K p0 = (1, 3) ∧ (Rf p0 4 = some be ∧ Rf p0 5 = some sa) ∧ (K be = (2, 1201) ∧ K sa = (2, 1201)) ∧ prep (X be) (X sa) (X p0 6) (csvM M) ∧ X p0 0 = cbsM M ∧ -840 ≤ X p0 0 ∧ X p0 0 ≤ 840 := by
  obtain ⟨-, fe, fa, fn, p0, ⟨g1, -, -, -⟩, -, -, -, -, -, -, hp⟩ := h
  rcases hp with ⟨q, ⟨a1, a2⟩, tu, to, be, sa, ⟨b1, b2, b3, b4⟩, ⟨c1, c2, c3, c4⟩, -, -, -, -, ⟨d1, d2⟩, e1⟩ | ⟨q, hp⟩
  · refine ⟨p0, be, sa, g1, a1, ⟨b3, b4⟩, ⟨c3, c4⟩, e1.congr (fun _ _ => rfl) (fun _ _ => rfl) (fun m _ _ => ?_), ?_, by rw [d1]; exact d2⟩
    · unfold csvM; rw [if_pos q, sav_0]
    · unfold cbsM; rw [if_pos q]; exact d1
  · have hwb := hM.2.2.2.2.1.1
    have hb2 := hM.1.2.1
    obtain ⟨-, ⟨a1, a2⟩, tu, to, be, sa, ⟨b1, b2, b3, b4⟩, ⟨c1, c2, c3, c4⟩, -, -, -, -, ⟨d1, d2⟩, e1⟩ := hpl.at (k := (M 40 25).toNat) (by omega) hp
    refine ⟨p0, be, sa, g1, a1, ⟨b3, b4⟩, ⟨c3, c4⟩, ?_, ?_, by rw [d1]; exact d2⟩
    · unfold csvM; rw [if_neg (by omega)]; exact e1
    · unfold cbsM; rw [if_neg (by omega)]; exact d1
/-! other numbers, the same heap -/
theorem patM_eq (h2 : M' 2 = M 2) (h3 : M' 3 = M 3) (h4 : M' 4 = M 4) (k : Nat) : patM M' k = patM M k := by unfold patM; rw [h2, h3, h4]
theorem ptOK.mM {pr : Nat} (h : ptOK K X Rf pr M) (h1 : M' 40 1 = M 40 1) (hp : ∀ k, patM M' k = patM M k) : ptOK K X Rf pr M' := by
  intro k hk; rw [h1, hp]; exact h k hk
theorem plOK.mM {pl : Nat} (h : plOK ρ K X Rf pl M) (h1 : M' 40 5 = M 40 5) (h6 : M' 6 = M 6) (h7 : M' 7 = M 7) (h8 : M' 8 = M 8) (hp : ∀ k, patM M' k = patM M k) : plOK ρ K X Rf pl M' := by
  intro k hk
  have e1 : turM M' k = turM M k := by funext t q; unfold turM; rw [h8]
  have e2 : tupM M' k = tupM M k := by funext t; unfold tupM; rw [h8, hp]
  rw [h1, h6, h7, e1, e2]; exact h k hk
theorem seOK.mM {pl sr : Nat} (h : seOK ρ K X Rf pl sr M) (h1 : M' 40 16 = M 40 16) (h17 : M' 17 = M 17) (h18 : M' 18 = M 18) (h19 : M' 19 = M 19) (hp : ∀ k, patM M' k = patM M k) : seOK ρ K X Rf pl sr M' := by
  intro k hk
  have e1 : serM M' k = serM M k := by unfold serM; rw [h17]
  have e2 : useM M' k = useM M k := by funext t; unfold useM; rw [h18, hp]
  have e3 : excM M' k = excM M k := by unfold excM; rw [h19]
  rw [h1, e1, e2, e3]; exact h k hk
theorem fstOK_M {fe n : Nat} (h : fstOK K X Rf fe n (feaM M) (fepM M)) (h30 : M' 30 = M 30) (h31 : M' 31 = M 31) (h32 : M' 32 = M 32) (h33 : M' 33 = M 33) (hp : ∀ k, patM M' k = patM M k) : fstOK K X Rf fe n (feaM M') (fepM M') := by
  have e1 : feaM M' = feaM M := by funext k q; unfold feaM; rw [h30, h31, h33]
  have e2 : fepM M' = fepM M := by funext k; unfold fepM; rw [h32, hp]
  rw [e1, e2]; exact h
end ZFR
