-- ===== what the calls change =====
def upM (M : zM) (q : Nat) (z : Int) : zM := up2 M 40 q z
section ZMU
variable {ρ ρ' : zL} {K K' : zK} {X X' : zX} {Rf Rf' : zR} {M M' : zM} {x : Nat}
theorem zag_R {S : Nat → Prop} (h : ∀ a, (K a).1 ≠ 0 → (imk (K a) ∨ S (ρ a)) → X' a = X a ∧ Rf' a = Rf a) : zag ρ K X Rf ρ K X' Rf' S := fun a h1 h2 => ⟨rfl, rfl, h a h1 h2⟩
theorem woA.mM {pl wo : Nat} (h : woA ρ K X Rf pl wo M) (h40 : ∀ q, M' 40 q = M 40 q) (h30 : M' 30 = M 30) (h31 : M' 31 = M 31) (h32 : M' 32 = M 32) (h33 : M' 33 = M 33) (hp : ∀ k, patM M' k = patM M k) : woA ρ K X Rf pl wo M' := by
  obtain ⟨w1, fe, fa, fn, p0, g, q, m, hwD, hF, hv, hb, hc⟩ := h
  exact ⟨w1, fe, fa, fn, p0, g, q, m, by rw [h40, h40, h40, h40, h40]; exact hwD, by rw [h40]; exact fstOK_M hF h30 h31 h32 h33 hp, hv, hb, by rw [h40]; exact hc⟩
/-- the work's own numbers -/
theorem repC.wo1 (h : repC ρ K X Rf x M) {wo : Nat} (h7 : Rf x 7 = some wo) (hX : ∀ a, a ≠ wo → X' a = X a) (hf : ∀ f, f ≠ 40 → M' f = M f) (h1 : M' 40 1 = M 40 1) (h5 : M' 40 5 = M 40 5) (h16 : M' 40 16 = M 40 16) (h29 : M' 40 29 = M 40 29) (h25 : M' 40 25 = M 40 25)
    (e0 : X' wo 0 = X wo 0) (e6 : X' wo 6 = X wo 6) (e2 : X' wo 2 = M' 40 26) (e3 : X' wo 3 = M' 40 27) (e4 : X' wo 4 = M' 40 28) : ∃ ρ', repC ρ' K X' Rf x M' ∧ frC ρ K X Rf ρ' K X' Rf := by
  obtain ⟨⟨h1', h2'⟩, pr, pl, sr, dr, na, wo', ⟨r1, r2, r3, r4, r5, r6⟩, ⟨k1, k2, k3, k4, k5⟩, ⟨l1, l2, l3, l4, l5⟩, hD, hP, hL, hS, hW⟩ := h
  rw [h7] at r5; cases r5
  obtain ⟨⟨w1, w2⟩, fe, fa, fn, p0, ⟨g1, g2, g3, g4⟩, ⟨q1, q2, q3⟩, ⟨m1, m2, m3⟩, hwD, hF, hv0, hb0, hp⟩ := hW
  have key : ∀ a, (K a).1 ≠ 0 → (imk (K a) ∨ (ρ a ≠ 10)) → X' a = X a := fun a _ hs => hX a
    (by rintro rfl
        rcases hs with hs | hs
        · rw [w1] at hs; have := imk_not hs; omega
        · exact hs w2)
  have hz := zag_X (ρ := ρ) (S := fun l => l ≠ 10) (Rf := Rf) key
  have at1 : ∀ {a n k : Nat}, K a = (k + 1, n) → ρ a ≠ 10 → X' a = X a := fun hk a1 => (hz.at hk a1).2.2.1
  have hpa : ∀ k, patM M' k = patM M k := patM_eq (hf 2 (by decide)) (hf 3 (by decide)) (hf 4 (by decide))
  refine ⟨ρ, ⟨⟨h1', h2'⟩, pr, pl, sr, dr, na, wo, ⟨r1, r2, r3, r4, h7, r6⟩, ⟨k1, k2, k3, k4, k5⟩, ⟨l1, l2, l3, l4, l5⟩, ?_, (hP.keep hz rfl).mM h1 hpa, (hL.keep (hz.sub (fun l hl => by omega)) rfl).mM h5 (hf 6 (by decide)) (hf 7 (by decide)) (hf 8 (by decide)) hpa, (hS.keep (hz.sub (fun l hl => by omega)) rfl rfl).mM h16 (hf 17 (by decide)) (hf 18 (by decide)) (hf 19 (by decide)) hpa, ?_⟩, ?_⟩
  · rw [at1 h1' (by rw [h2']; decide), h1, h5, h16]; exact hD
  · refine ⟨⟨w1, w2⟩, fe, fa, fn, p0, ⟨g1, g2, g3, g4⟩, ⟨q1, q2, q3⟩, ⟨m1, m2, m3⟩, ⟨by rw [e0, h25]; exact hwD.1, e2, e3, e4, by rw [e6, h29]; exact hwD.2.2.2.2⟩, ?_, ?_, ?_, ?_⟩
    · rw [h29]; exact fstOK_M (hF.keep hz rfl) (hf 30 (by decide)) (hf 31 (by decide)) (hf 32 (by decide)) (hf 33 (by decide)) hpa
    · unfold fvr; rw [at1 q3 (by rw [m3]; decide)]; exact hv0
    · rw [at1 q2 (by rw [m2]; decide)]; exact hb0
    · rw [h25]
      rcases hp with ⟨q, hp⟩ | hp
      · exact Or.inl ⟨q, hp.keep (hz.sub (fun l hl => by omega))⟩
      · exact Or.inr hp
  · exact fun a ha => ⟨rfl, rfl, fun hl => ⟨key a ha (Or.inr (by omega)), rfl⟩⟩
/-- its place -/
theorem repC.wop (h : repC ρ K X Rf x M) {wo pl p0 : Nat} {a : Int} (h7 : Rf x 7 = some wo) (h2 : Rf x 2 = some pl) (ha : 0 ≤ a) (hp : Rf pl a.toNat = some p0) : ∃ ρ', repC ρ' K (up2 X wo 0 a) (up2 Rf wo 1 (some p0)) x (upM M 25 a) ∧ frC ρ K X Rf ρ' K (up2 X wo 0 a) (up2 Rf wo 1 (some p0)) := by
  obtain ⟨⟨h1', h2'⟩, pr, pl', sr, dr, na, wo', ⟨r1, r2, r3, r4, r5, r6⟩, ⟨k1, k2, k3, k4, k5⟩, ⟨l1, l2, l3, l4, l5⟩, hD, hP, hL, hS, hW⟩ := h
  rw [h7] at r5; cases r5
  rw [h2] at r2; cases r2
  obtain ⟨⟨w1, w2⟩, fe, fa, fn, p9, ⟨g1, g2, g3, g4⟩, ⟨q1, q2, q3⟩, ⟨m1, m2, m3⟩, hwD, hF, hv0, hb0, -⟩ := hW
  have key : ∀ b, (K b).1 ≠ 0 → (imk (K b) ∨ (ρ b ≠ 10)) → up2 X wo 0 a b = X b ∧ up2 Rf wo 1 (some p0) b = Rf b := fun b _ hs => by
    have hne : b ≠ wo := by
      rintro rfl
      rcases hs with hs | hs
      · rw [w1] at hs; have := imk_not hs; omega
      · exact hs w2
    exact ⟨up2_o hne, up2_o hne⟩
  have hz := zag_R (ρ := ρ) (S := fun l => l ≠ 10) key
  have at1 : ∀ {b n k : Nat}, K b = (k + 1, n) → ρ b ≠ 10 → up2 X wo 0 a b = X b ∧ up2 Rf wo 1 (some p0) b = Rf b := fun hk a1 => (hz.at hk a1).2.2
  have hf : ∀ f, f ≠ 40 → upM M 25 a f = M f := fun f hne => up2_o hne
  have h9 : ∀ q, q ≠ 25 → upM M 25 a 40 q = M 40 q := fun q hq => up2_k hq
  have hpa : ∀ k, patM (upM M 25 a) k = patM M k := patM_eq (hf 2 (by decide)) (hf 3 (by decide)) (hf 4 (by decide))
  have a1 := at1 h1' (by rw [h2']; decide)
  have a2 := at1 k2 (by rw [l2]; decide)
  have a3 := at1 k1 (by rw [l1]; decide)
  have a4 := at1 k3 (by rw [l3]; decide)
  have a5 := at1 k4 (by rw [l4]; decide)
  have a6 := at1 q1 (by rw [m1]; decide)
  have a7 := at1 q2 (by rw [m2]; decide)
  have a8 := at1 q3 (by rw [m3]; decide)
  refine ⟨ρ, ⟨⟨h1', h2'⟩, pr, pl, sr, dr, na, wo, ?_, ⟨k1, k2, k3, k4, k5⟩, ⟨l1, l2, l3, l4, l5⟩, ?_, (hP.keep hz a3.2).mM (h9 1 (by decide)) hpa, (hL.keep (hz.sub (fun l hl => by omega)) a2.2).mM (h9 5 (by decide)) (hf 6 (by decide)) (hf 7 (by decide)) (hf 8 (by decide)) hpa, (hS.keep (hz.sub (fun l hl => by omega)) a4.2 a2.2).mM (h9 16 (by decide)) (hf 17 (by decide)) (hf 18 (by decide)) (hf 19 (by decide)) hpa, ?_⟩, ?_⟩
  · rw [a1.2, a5.2]; exact ⟨r1, h2, r3, r4, h7, r6⟩
  · rw [a1.1, h9 1 (by decide), h9 5 (by decide), h9 16 (by decide)]; exact hD
  · refine ⟨⟨w1, w2⟩, fe, fa, fn, p0, ⟨up2_s, by rw [up2_k (by decide)]; exact g2, by rw [up2_k (by decide)]; exact g3, by rw [a7.2]; exact g4⟩, ⟨q1, q2, q3⟩, ⟨m1, m2, m3⟩, ⟨by rw [up2_s]; unfold upM; rw [up2_s], by rw [up2_k (by decide), h9 26 (by decide)]; exact hwD.2.1, by rw [up2_k (by decide), h9 27 (by decide)]; exact hwD.2.2.1, by rw [up2_k (by decide), h9 28 (by decide)]; exact hwD.2.2.2.1, by rw [up2_k (by decide), h9 29 (by decide)]; exact hwD.2.2.2.2⟩, ?_, ?_, ?_, ?_⟩
    · rw [h9 29 (by decide)]; exact fstOK_M (hF.keep hz a6.2) (hf 30 (by decide)) (hf 31 (by decide)) (hf 32 (by decide)) (hf 33 (by decide)) hpa
    · unfold fvr; rw [a8.1]; exact hv0
    · rw [a7.1]; exact hb0
    · have e : upM M 25 a 40 25 = a := by unfold upM; exact up2_s
      rw [e]; exact Or.inr ⟨ha, by rw [a2.2]; exact hp⟩
  · exact fun b hb => ⟨rfl, rfl, fun hl => key b hb (Or.inr (by omega))⟩
/-- one series -/
theorem repC.ser (h : repC ρ K X Rf x M) {sr se dr na po eo fo n : Nat} (h4 : Rf x 4 = some sr) (hn : n < 6) (hs : Rf sr n = some se) (h6 : Rf x 6 = some dr) (hna : Rf dr 0 = some na) (h8 : Rf se 8 = some po) (h13 : Rf se 13 = some eo) (h15 : Rf se 15 = some fo)
    (ho : ∀ a, a ≠ se → a ≠ fo → a ≠ dr → a ≠ na → a ≠ eo → a ≠ po → X' a = X a ∧ Rf' a = Rf a) (hRd : Rf' dr = Rf dr)
    (hf : ∀ f, f ≠ 17 → f ≠ 18 → f ≠ 19 → M' f = M f) (hoth : ∀ k, k ≠ n → serM M' k = serM M k ∧ useM M' k = useM M k ∧ excM M' k = excM M k) (h0 : serM M' n 0 = serM M n 0)
    (hnew : ∀ p0, Rf se 0 = some p0 → seA ρ K X' Rf' (200 + 10 * n) se p0 (serM M' n) (useM M' n) (excM M' n)) : ∃ ρ', repC ρ' K X' Rf' x M' ∧ frC ρ K X Rf ρ' K X' Rf' := by
  obtain ⟨⟨h1', h2'⟩, pr, pl, sr', dr', na', wo, ⟨r1, r2, r3, r4, r5, r6⟩, ⟨k1, k2, k3, k4, k5⟩, ⟨l1, l2, l3, l4, l5⟩, hD, hP, hL, hS, hW⟩ := h
  rw [h4] at r3; cases r3
  rw [h6] at r4; cases r4
  rw [hna] at r6; cases r6
  obtain ⟨hnM, p0, hp0, hse⟩ := hS.at hn hs
  obtain ⟨⟨s1, s2⟩, po', eo', fo', ⟨s3, s4, s5, s6⟩, ⟨t1, t2, t3⟩, ⟨u1, u2, u3⟩, -⟩ := id hse
  rw [h8] at s4; cases s4
  rw [h13] at s5; cases s5
  rw [h15] at s6; cases s6
  have key : ∀ a, (K a).1 ≠ 0 → (imk (K a) ∨ (ρ a ≠ 5 ∧ ρ a ≠ 6 ∧ (ρ a < 200 + 10 * n ∨ 200 + 10 * n + 3 < ρ a))) → X' a = X a ∧ Rf' a = Rf a := fun a _ hs9 => by
    refine ho a ?_ ?_ ?_ ?_ ?_ ?_ <;> (rintro rfl; rcases hs9 with hs9 | hs9)
    · rw [s1] at hs9; have := imk_not hs9; omega
    · omega
    · rw [t3] at hs9; have := imk_not hs9; omega
    · omega
    · rw [k4] at hs9; have := imk_not hs9; omega
    · omega
    · rw [k5] at hs9; have := imk_not hs9; omega
    · omega
    · rw [t2] at hs9; have := imk_not hs9; omega
    · omega
    · rw [t1] at hs9; have := imk_not hs9; omega
    · omega
  have hz := zag_R (ρ := ρ) (S := fun l => l ≠ 5 ∧ l ≠ 6 ∧ (l < 200 + 10 * n ∨ 200 + 10 * n + 3 < l)) key
  have at1 : ∀ {b n' k : Nat}, K b = (k + 1, n') → ρ b < 200 → ρ b ≠ 5 → ρ b ≠ 6 → X' b = X b ∧ Rf' b = Rf b := fun hk a1 a2 a3 => (hz.at hk ⟨a2, a3, by omega⟩).2.2
  have hpa : ∀ k, patM M' k = patM M k := patM_eq (hf 2 (by decide) (by decide) (by decide)) (hf 3 (by decide) (by decide) (by decide)) (hf 4 (by decide) (by decide) (by decide))
  have h40 : M' 40 = M 40 := hf 40 (by decide) (by decide) (by decide)
  have a1 := at1 h1' (by rw [h2']; decide) (by rw [h2']; decide) (by rw [h2']; decide)
  have a2 := at1 k2 (by rw [l2]; decide) (by rw [l2]; decide) (by rw [l2]; decide)
  have a3 := at1 k1 (by rw [l1]; decide) (by rw [l1]; decide) (by rw [l1]; decide)
  have a4 := at1 k3 (by rw [l3]; decide) (by rw [l3]; decide) (by rw [l3]; decide)
  refine ⟨ρ, ⟨⟨h1', h2'⟩, pr, pl, sr, dr, na, wo, ?_, ⟨k1, k2, k3, k4, k5⟩, ⟨l1, l2, l3, l4, l5⟩, ?_, (hP.keep hz a3.2).mM (by rw [h40]) hpa, (hL.keep (hz.sub (fun l hl => by omega)) a2.2).mM (by rw [h40]) (hf 6 (by decide) (by decide) (by decide)) (hf 7 (by decide) (by decide) (by decide)) (hf 8 (by decide) (by decide) (by decide)) hpa, ?_, (hW.keep (hz.sub (fun l hl => by omega)) a2.2).mM (fun q => by rw [h40]) (hf 30 (by decide) (by decide) (by decide)) (hf 31 (by decide) (by decide) (by decide)) (hf 32 (by decide) (by decide) (by decide)) (hf 33 (by decide) (by decide) (by decide)) hpa⟩, ?_⟩
  · rw [a1.2, hRd]; exact ⟨r1, r2, h4, h6, r5, hna⟩
  · rw [a1.1, h40]; exact hD
  · intro k hk
    by_cases hkn : k = n
    · subst hkn
      exact Or.inl ⟨by rw [h40]; exact hnM, se, p0, by rw [a4.2]; exact hs, by rw [h0, a2.2]; exact hp0, hnew p0 s3⟩
    · rw [h40, (hoth k hkn).1, (hoth k hkn).2.1, (hoth k hkn).2.2]
      rcases hS k hk with ⟨q, se', p', q1, q2, q3⟩ | q
      · exact Or.inl ⟨q, se', p', by rw [a4.2]; exact q1, by rw [a2.2]; exact q2, q3.keep (hz.sub (fun l hl => by omega))⟩
      · exact Or.inr (by rw [a4.2]; exact q)
  · exact fun b hb => ⟨rfl, rfl, fun hl => key b hb (Or.inr (by omega))⟩
end ZMU
