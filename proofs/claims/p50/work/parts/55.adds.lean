section ZAT
variable {ρ ρ' : zL} {K K' : zK} {X X' : zX} {Rf Rf' : zR} {M M' : zM} {x : Nat}
def tuV (fy ly b mn cl sv : Int) (j : Nat) : Int := if j = 0 then fy else if j = 1 then ly else if j = 2 then b else if j = 3 then mn else if j = 4 then cl else sv
def tuM (M : zM) (a : Nat) (fy ly b mn cl sv : Int) : zM := fun f k => if f = 8 ∧ (6 * a + (M 7 a).toNat) * 6 ≤ k ∧ k < (6 * a + (M 7 a).toNat) * 6 + 6 then tuV fy ly b mn cl sv (k - (6 * a + (M 7 a).toNat) * 6) else if f = 7 ∧ k = a then M 7 a + 1 else M f k
section
variable {a : Nat} {fy ly b mn cl sv : Int}
theorem tuM_f {f : Nat} (h7 : f ≠ 7) (h8 : f ≠ 8) : tuM M a fy ly b mn cl sv f = M f := by
  funext k; unfold tuM; rw [if_neg (fun g => h8 g.1), if_neg (fun g => h7 g.1)]
theorem tuM_7 (k : Nat) : tuM M a fy ly b mn cl sv 7 k = if k = a then M 7 a + 1 else M 7 k := by
  unfold tuM; rw [if_neg (fun g => absurd g.1 (by decide))]
  by_cases h : k = a
  · rw [if_pos ⟨rfl, h⟩, if_pos h]
  · rw [if_neg (fun g => h g.2), if_neg h]
theorem tuM_8 (k : Nat) : tuM M a fy ly b mn cl sv 8 k = if (6 * a + (M 7 a).toNat) * 6 ≤ k ∧ k < (6 * a + (M 7 a).toNat) * 6 + 6 then tuV fy ly b mn cl sv (k - (6 * a + (M 7 a).toNat) * 6) else M 8 k := by
  unfold tuM
  by_cases h : (6 * a + (M 7 a).toNat) * 6 ≤ k ∧ k < (6 * a + (M 7 a).toNat) * 6 + 6
  · rw [if_pos ⟨rfl, h⟩, if_pos h]
  · rw [if_neg (fun g => h g.2), if_neg h, if_neg (fun g => absurd g.1 (by decide))]
theorem tuM_p (k : Nat) : patM (tuM M a fy ly b mn cl sv) k = patM M k := patM_eq (tuM_f (by decide) (by decide)) (tuM_f (by decide) (by decide)) (tuM_f (by decide) (by decide)) k
theorem tuM_tur {k t : Nat} (hn : (M 7 a).toNat < 6) : turM (tuM M a fy ly b mn cl sv) k t = if k = a ∧ t = (M 7 a).toNat then (fun q => if q < 6 then tuV fy ly b mn cl sv q else 0) else turM M k t := by
  funext q
  unfold turM
  by_cases h : k = a ∧ t = (M 7 a).toNat
  · rw [if_pos h]
    by_cases hq : q < 6
    · rw [if_pos ⟨by omega, hq⟩, if_pos hq, tuM_8, if_pos (by omega)]
      congr 1; omega
    · rw [if_neg (by omega), if_neg hq]
  · rw [if_neg h]
    by_cases hq : t < 6 ∧ q < 6
    · rw [if_pos hq, if_pos hq, tuM_8, if_neg (by omega)]
    · rw [if_neg hq, if_neg hq]
theorem tuM_tup {k t : Nat} (hn : (M 7 a).toNat < 6) : tupM (tuM M a fy ly b mn cl sv) k t = if k = a ∧ t = (M 7 a).toNat then patM M b.toNat else tupM M k t := by
  unfold tupM
  by_cases h : k = a ∧ t = (M 7 a).toNat
  · rw [if_pos h, if_pos (by omega), tuM_8, if_pos (by omega), tuM_p, show (6 * k + t) * 6 + 2 - (6 * a + (M 7 a).toNat) * 6 = 2 by omega]; rfl
  · rw [if_neg h]
    by_cases hq : t < 6
    · rw [if_pos hq, if_pos hq, tuM_8, if_neg (by omega), tuM_p]
    · rw [if_neg hq, if_neg hq]
end
theorem turnsOK.add {tu tq pa n : Nat} {T Tp T' Tp' : Nat → Nat → Int} (h : turnsOK K X Rf tu n T Tp) (hn : n < 6) (hT : ∀ k, k < n → T' k = T k ∧ Tp' k = Tp k) (hK : ∀ a, (K a).1 ≠ 0 → K' a = K a) (hX : ∀ a, K a = (1, 5) ∨ K a = (1, 2) → X' a = X a ∧ Rf' a = Rf a) (hp1 : Rf' tu n = some tq) (hpo : ∀ k, k ≠ n → Rf' tu k = Rf tu k) (hKq : K' tq = (1, 5)) (hRq : Rf' tq 2 = some pa) (hKp : K pa = (1, 2)) (hoP : okP (X pa)) (hoT : okT (X' tq)) (hts : tsame (X' tq) (T' n)) (hps : psame (X pa) (Tp' n)) : turnsOK K' X' Rf' tu (n + 1) T' Tp' := by
  intro k hk
  by_cases hkn : k = n
  · subst hkn
    have e := (hX pa (Or.inr hKp)).1
    exact Or.inr ⟨by omega, tq, pa, hp1, hKq, hRq, by rw [hK pa (zk1 hKp)]; exact hKp, hoT, by rw [e]; exact hoP, hts, by rw [e]; exact hps⟩
  · rw [hpo k hkn]
    rcases h k hk with ⟨q1, q2⟩ | ⟨q, t, pa', h2, h3, h4, h5, h6, h7, h8, h9⟩
    · exact Or.inl ⟨q1, by omega⟩
    · have e1 := hX t (Or.inl h3)
      have e2 := hX pa' (Or.inr h5)
      exact Or.inr ⟨by omega, t, pa', h2, by rw [hK t (zk1 h3)]; exact h3, by rw [e1.2]; exact h4, by rw [hK pa' (zk1 h5)]; exact h5, by rw [e1.1]; exact h6, by rw [e2.1]; exact h7, by rw [e1.1, (hT k q).1]; exact h8, by rw [e2.1, (hT k q).2]; exact h9⟩
theorem repC.tur (h : repC ρ K X Rf x M) {pl p0 tu to be sa a n : Nat} {fy ly b mn cl sv : Int} (h2 : Rf x 2 = some pl) (ha : a < 6) (hp : Rf pl a = some p0) (hr : Rf p0 1 = some tu ∧ Rf p0 3 = some to ∧ Rf p0 4 = some be ∧ Rf p0 5 = some sa) (hn : (M 7 a).toNat = n ∧ n < 6 ∧ M 7 a = n)
    (hK : ∀ a, (K a).1 ≠ 0 → K' a = K a) (hX : ∀ a, (K a).1 ≠ 0 → a ≠ p0 → a ≠ to → a ≠ be → a ≠ sa → X' a = X a) (hR : ∀ a, (K a).1 ≠ 0 → a ≠ tu → Rf' a = Rf a)
    (ht : turnsOK K' X' Rf' tu (n + 1) (turM (tuM M a fy ly b mn cl sv) a) (tupM (tuM M a fy ly b mn cl sv) a)) (hc : X' p0 2 = n + 1 ∧ X' p0 0 = X p0 0) (hpr : prep (X' be) (X' sa) (X' p0 6) (sav (turM (tuM M a fy ly b mn cl sv) a) (tupM (tuM M a fy ly b mn cl sv) a) (n + 1) (M 6 a))) : ∃ ρ', repC ρ' K' X' Rf' x (tuM M a fy ly b mn cl sv) ∧ frC ρ K X Rf ρ' K' X' Rf' := by
  obtain ⟨⟨h1', h2'⟩, pr, pl', sr, dr, na, wo, ⟨r1, r2, r3, r4, r5, r6⟩, ⟨k1, k2, k3, k4, k5⟩, ⟨l1, l2, l3, l4, l5⟩, hD, hP, hL, hS, hW⟩ := h
  rw [h2] at r2; cases r2
  obtain ⟨hai, ⟨p1, p2⟩, tu', to', be', sa', ⟨q1, q2, q3, q4⟩, ⟨t1, t2, t3, t4⟩, ⟨u1, u2, u3, u4⟩, hpt, hpn, hpc, hpb, hpp⟩ := hL.at ha hp
  rw [hr.1] at q1; cases q1
  rw [hr.2.1] at q2; cases q2
  rw [hr.2.2.1] at q3; cases q3
  rw [hr.2.2.2] at q4; cases q4
  have hz : zag ρ K X Rf ρ K' X' Rf' (fun l => l < 100 + 10 * a ∨ 100 + 10 * a + 4 < l) := fun c h1 h2 => by
    refine ⟨hK c h1, rfl, hX c h1 ?_ ?_ ?_ ?_, hR c h1 ?_⟩ <;> (rintro rfl; rcases h2 with g | g)
    · exact not_imk p1 (by omega) g
    · omega
    · exact not_imk t2 (by omega) g
    · omega
    · exact not_imk t3 (by omega) g
    · omega
    · exact not_imk t4 (by omega) g
    · omega
    · exact not_imk t1 (by omega) g
    · omega
  have at1 : ∀ {b n k : Nat}, K b = (k + 1, n) → ρ b < 100 → K' b = K b ∧ X' b = X b ∧ Rf' b = Rf b := fun hk a1 => ⟨(hz.at hk (by omega)).1, (hz.at hk (by omega)).2.2⟩
  have a0 := at1 h1' (by rw [h2']; decide)
  have a1 := at1 k1 (by rw [l1]; decide)
  have a2 := at1 k2 (by rw [l2]; decide)
  have a3 := at1 k3 (by rw [l3]; decide)
  have a4 := at1 k4 (by rw [l4]; decide)
  have a5 := at1 k5 (by rw [l5]; decide)
  have hf : ∀ f, f ≠ 7 → f ≠ 8 → tuM M a fy ly b mn cl sv f = M f := fun f g1 g2 => tuM_f g1 g2
  have h40 := hf 40 (by decide) (by decide)
  refine ⟨ρ, ⟨⟨by rw [a0.1]; exact h1', h2'⟩, pr, pl, sr, dr, na, wo, ?_, ?_, ⟨l1, l2, l3, l4, l5⟩, ?_, (hP.keep hz a1.2.2).mM (by rw [h40]) tuM_p, ?_, (hS.keep (hz.sub (fun l hl => by omega)) a3.2.2 a2.2.2).mM (by rw [h40]) (hf 17 (by decide) (by decide)) (hf 18 (by decide) (by decide)) (hf 19 (by decide) (by decide)) tuM_p, (hW.keep (hz.sub (fun l hl => by omega)) a2.2.2).mM (fun q => by rw [h40]) (hf 30 (by decide) (by decide)) (hf 31 (by decide) (by decide)) (hf 32 (by decide) (by decide)) (hf 33 (by decide) (by decide)) tuM_p⟩, ?_⟩
  · rw [a0.2.2, a4.2.2]; exact ⟨r1, h2, r3, r4, r5, r6⟩
  · rw [a1.1, a2.1, a3.1, a4.1, a5.1]; exact ⟨k1, k2, k3, k4, k5⟩
  · rw [a0.2.1, h40]; exact hD
  · intro k hk
    rw [h40, a2.2.2, hf 6 (by decide) (by decide), tuM_7]
    by_cases hka : k = a
    · subst hka
      rw [if_pos rfl, show (M 7 k + 1).toNat = n + 1 by omega]
      have hp0R : Rf' p0 = Rf p0 := hR p0 (zk1 p1) (fun g => by rw [g, t1] at p1; exact absurd p1 (by decide))
      refine Or.inl ⟨hai, p0, hp, ⟨by rw [hK p0 (zk1 p1)]; exact p1, p2⟩, tu, to, be, sa, by rw [hp0R]; exact hr, by rw [hK tu (zk1 t1), hK to (zk1 t2), hK be (zk1 t3), hK sa (zk1 t4)]; exact ⟨t1, t2, t3, t4⟩, ⟨u1, u2, u3, u4⟩, ht, by omega, by rw [hc.1]; omega, by rw [hc.2]; exact hpb, hpr⟩
    · rw [if_neg hka]
      rcases hL k hk with ⟨g1, p9, g2, g3⟩ | g
      · refine Or.inl ⟨g1, p9, g2, (g3.keep (hz.sub (fun l hl => by omega))).congr (fun t _ => ?_)⟩
        rw [tuM_tur (by omega), if_neg (fun g => hka g.1), tuM_tup (by omega), if_neg (fun g => hka g.1)]
        exact ⟨⟨rfl, rfl, rfl, rfl, rfl⟩, rfl, rfl, rfl⟩
      · exact Or.inr g
  · intro c hc9
    exact ⟨hK c hc9, rfl, fun hl => ⟨hX c hc9 (fun g => by rw [g, p2] at hl; omega) (fun g => by rw [g, u2] at hl; omega) (fun g => by rw [g, u3] at hl; omega) (fun g => by rw [g, u4] at hl; omega), hR c hc9 (fun g => by rw [g, u1] at hl; omega)⟩⟩
/-! a series -/
def seV (a bg ki st wd : Int) (j : Nat) : Int := if j = 0 then a else if j = 1 then bg else if j = 2 then ki else if j = 3 then st else if j = 4 then wd else if j = 7 ∨ j = 8 then min 73048 (bg / 1440 + 4000) else 0
def seM (M : zM) (i : Nat) (a bg ki st wd : Int) : zM := fun f k => if f = 17 ∧ 11 * i ≤ k ∧ k < 11 * i + 11 then seV a bg ki st wd (k - 11 * i) else if f = 40 ∧ k = 16 then (i : Int) + 1 else M f k
section
variable {i : Nat} {a bg ki st wd : Int}
theorem seM_f {f : Nat} (h17 : f ≠ 17) (h40 : f ≠ 40) : seM M i a bg ki st wd f = M f := by
  funext k; unfold seM; rw [if_neg (fun g => h17 g.1), if_neg (fun g => h40 g.1)]
theorem seM_40 (k : Nat) : seM M i a bg ki st wd 40 k = if k = 16 then (i : Int) + 1 else M 40 k := by
  unfold seM; rw [if_neg (fun g => absurd g.1 (by decide))]
  by_cases h : k = 16
  · rw [if_pos ⟨rfl, h⟩, if_pos h]
  · rw [if_neg (fun g => h g.2), if_neg h]
theorem seM_p (k : Nat) : patM (seM M i a bg ki st wd) k = patM M k := patM_eq (seM_f (by decide) (by decide)) (seM_f (by decide) (by decide)) (seM_f (by decide) (by decide)) k
theorem seM_ser (k : Nat) : serM (seM M i a bg ki st wd) k = if k = i then (fun q => if q < 11 then seV a bg ki st wd q else 0) else serM M k := by
  funext q
  unfold serM
  have e : ∀ j, seM M i a bg ki st wd 17 j = if 11 * i ≤ j ∧ j < 11 * i + 11 then seV a bg ki st wd (j - 11 * i) else M 17 j := fun j => by
    unfold seM
    by_cases h : 11 * i ≤ j ∧ j < 11 * i + 11
    · rw [if_pos ⟨rfl, h⟩, if_pos h]
    · rw [if_neg (fun g => h g.2), if_neg h, if_neg (fun g => absurd g.1 (by decide))]
  by_cases h : k = i
  · rw [if_pos h]
    by_cases hq : q < 11
    · rw [if_pos hq, if_pos hq, e, if_pos (by omega), show 11 * k + q - 11 * i = q by omega]
    · rw [if_neg hq, if_neg hq]
  · rw [if_neg h]
    by_cases hq : q < 11
    · rw [if_pos hq, if_pos hq, e, if_neg (by omega)]
    · rw [if_neg hq, if_neg hq]
end
theorem repC.sra (h : repC ρ K X Rf x M) {pl sr se po eo fo dr na p0 i : Nat} {a bg ki st wd : Int} (h2 : Rf x 2 = some pl) (h4 : Rf x 4 = some sr) (h6 : Rf x 6 = some dr) (hna : Rf dr 0 = some na) (hi : M 40 16 = i ∧ i < 6) (hp : Rf pl a.toNat = some p0) (hnew : (K se).1 = 0 ∧ (K po).1 = 0 ∧ (K eo).1 = 0 ∧ (K fo).1 = 0) (hk4 : K' se = (1, 4) ∧ K' po = (6, 4) ∧ K' eo = (2, 8) ∧ K' fo = (2, 4001))
    (hK : ∀ a, (K a).1 ≠ 0 → K' a = K a) (hX : ∀ a, (K a).1 ≠ 0 → a ≠ x → a ≠ dr → a ≠ na → X' a = X a) (hR : ∀ a, (K a).1 ≠ 0 → a ≠ sr → Rf' a = Rf a) (hx5 : X' x 5 = i + 1) (hxo : ∀ j, j ≠ 5 → X' x j = X x j) (hp1 : Rf' sr i = some se) (hpo : ∀ k, k ≠ i → Rf' sr k = Rf sr k)
    (hs : ∀ ρ'' : zL, ρ'' se = 200 + 10 * i → ρ'' po = 200 + 10 * i + 1 → ρ'' eo = 200 + 10 * i + 2 → ρ'' fo = 200 + 10 * i + 3 → seA ρ'' K' X' Rf' (200 + 10 * i) se p0 (serM (seM M i a bg ki st wd) i) (useM (seM M i a bg ki st wd) i) (excM (seM M i a bg ki st wd) i)) : ∃ ρ', repC ρ' K' X' Rf' x (seM M i a bg ki st wd) ∧ frC ρ K X Rf ρ' K' X' Rf' := by
  obtain ⟨⟨h1', h2'⟩, pr, pl', sr', dr', na', wo, ⟨r1, r2, r3, r4, r5, r6⟩, ⟨k1, k2, k3, k4, k5⟩, ⟨l1, l2, l3, l4, l5⟩, hD, hP, hL, hS, hW⟩ := h
  rw [h2] at r2; cases r2
  rw [h4] at r3; cases r3
  rw [h6] at r4; cases r4
  rw [hna] at r6; cases r6
  obtain ⟨ρ', hρ⟩ : ∃ ρ' : zL, ρ' = fun a => if a = se then 200 + 10 * i else if a = po then 200 + 10 * i + 1 else if a = eo then 200 + 10 * i + 2 else if a = fo then 200 + 10 * i + 3 else ρ a := ⟨_, rfl⟩
  have hro : ∀ a, (K a).1 ≠ 0 → ρ' a = ρ a := fun a ha => by
    rw [hρ]; dsimp only
    rw [if_neg (fun g => ha (by rw [g]; exact hnew.1)), if_neg (fun g => ha (by rw [g]; exact hnew.2.1)), if_neg (fun g => ha (by rw [g]; exact hnew.2.2.1)), if_neg (fun g => ha (by rw [g]; exact hnew.2.2.2))]
  have nk : ∀ {a b : Nat} {u v : Nat × Nat}, K' a = u → K' b = v → u ≠ v → a ≠ b := fun h1 h2 hn g => hn (by rw [← h1, ← h2, g])
  have hr5 : ρ' se = 200 + 10 * i ∧ ρ' po = 200 + 10 * i + 1 ∧ ρ' eo = 200 + 10 * i + 2 ∧ ρ' fo = 200 + 10 * i + 3 := by
    rw [hρ]; dsimp only
    refine ⟨if_pos rfl, ?_, ?_, ?_⟩
    · rw [if_neg (nk hk4.2.1 hk4.1 (by decide)), if_pos rfl]
    · rw [if_neg (nk hk4.2.2.1 hk4.1 (by decide)), if_neg (nk hk4.2.2.1 hk4.2.1 (by decide)), if_pos rfl]
    · rw [if_neg (nk hk4.2.2.2 hk4.1 (by decide)), if_neg (nk hk4.2.2.2 hk4.2.1 (by decide)), if_neg (nk hk4.2.2.2 hk4.2.2.1 (by decide)), if_pos rfl]
  have hz : zag ρ K X Rf ρ' K' X' Rf' (fun l => l ≠ 1 ∧ l ≠ 4 ∧ l ≠ 5 ∧ l ≠ 6) := fun c g1 g2 => by
    refine ⟨hK c g1, hro c g1, hX c g1 ?_ ?_ ?_, hR c g1 ?_⟩ <;> (rintro rfl; rcases g2 with g | g)
    · exact not_imk h1' (by omega) g
    · omega
    · exact not_imk k4 (by omega) g
    · omega
    · exact not_imk k5 (by omega) g
    · omega
    · exact not_imk k3 (by omega) g
    · omega
  have at1 : ∀ {b n k : Nat}, K b = (k + 1, n) → (ρ b ≠ 1 ∧ ρ b ≠ 4 ∧ ρ b ≠ 5 ∧ ρ b ≠ 6) → K' b = K b ∧ ρ' b = ρ b ∧ X' b = X b ∧ Rf' b = Rf b := fun hk a1 => hz.at hk a1
  have a1 := at1 k1 (by rw [l1]; decide)
  have a2 := at1 k2 (by rw [l2]; decide)
  have hxR : Rf' x = Rf x := hR x (zk1 h1') (fun g => by rw [g, k3] at h1'; exact absurd h1' (by decide))
  have hdR : Rf' dr = Rf dr := hR dr (zk1 k4) (fun g => by rw [g, k3] at k4; exact absurd k4 (by decide))
  have h9 : ∀ q, q ≠ 16 → seM M i a bg ki st wd 40 q = M 40 q := fun q hq => by rw [seM_40, if_neg hq]
  have h91 : seM M i a bg ki st wd 40 16 = (i : Int) + 1 := by rw [seM_40, if_pos rfl]
  refine ⟨ρ', ⟨⟨by rw [hK x (zk1 h1')]; exact h1', by rw [hro x (zk1 h1')]; exact h2'⟩, pr, pl, sr, dr, na, wo, ?_, ?_, ?_, ?_, (hP.keep hz a1.2.2.2).mM (h9 1 (by decide)) seM_p, (hL.keep (hz.sub (fun l hl => by omega)) a2.2.2.2).mM (h9 5 (by decide)) (seM_f (by decide) (by decide)) (seM_f (by decide) (by decide)) (seM_f (by decide) (by decide)) seM_p, ?_, ?_⟩, ?_⟩
  · rw [hxR, hdR]; exact ⟨r1, h2, h4, h6, r5, hna⟩
  · rw [hK sr (zk1 k3), hK dr (zk1 k4), hK na (zk1 k5), a1.1, a2.1]; exact ⟨k1, k2, k3, k4, k5⟩
  · rw [hro sr (zk1 k3), hro dr (zk1 k4), hro na (zk1 k5), a1.2.1, a2.2.1]; exact ⟨l1, l2, l3, l4, l5⟩
  · rw [h91, h9 1 (by decide), h9 5 (by decide), hxo 1 (by decide), hxo 3 (by decide)]; exact ⟨hD.1, hD.2.1, hx5⟩
  · intro k hk
    rw [h91]
    by_cases hki : k = i
    · subst hki
      have e0 : serM (seM M k a bg ki st wd) k 0 = a := by rw [seM_ser, if_pos rfl]; rfl
      exact Or.inl ⟨by omega, se, p0, hp1, by rw [e0, a2.2.2.2]; exact hp, hs ρ' hr5.1 hr5.2.1 hr5.2.2.1 hr5.2.2.2⟩
    · have e17 : serM (seM M i a bg ki st wd) k = serM M k := by rw [seM_ser, if_neg hki]
      rw [hpo k hki, e17, useM_f (M := M) (seM_f (by decide) (by decide)) seM_p, excM_f (M := M) (seM_f (by decide) (by decide))]
      rcases hS k hk with ⟨g1, se', p', g2, g3, g4⟩ | g
      · exact Or.inl ⟨by omega, se', p', g2, by rw [a2.2.2.2]; exact g3, g4.keep (hz.sub (fun l hl => by omega))⟩
      · exact Or.inr ⟨by omega, g.2⟩
  · obtain ⟨w1, fe, fa, fn, p9, w3, w4, w5, w6, w7, w8, w9, w10⟩ := hW.keep (hz.sub (fun l hl => by omega)) a2.2.2.2
    refine ⟨w1, fe, fa, fn, p9, w3, w4, w5, ?_, ?_, w8, w9, ?_⟩
    · rw [h9 25 (by decide), h9 26 (by decide), h9 27 (by decide), h9 28 (by decide), h9 29 (by decide)]; exact w6
    · rw [h9 29 (by decide)]; exact fstOK_M w7 (seM_f (by decide) (by decide)) (seM_f (by decide) (by decide)) (seM_f (by decide) (by decide)) (seM_f (by decide) (by decide)) seM_p
    · rw [h9 25 (by decide)]; exact w10
  · intro c hc
    exact ⟨hK c hc, hro c hc, fun hl => ⟨hX c hc (fun g => by rw [g, h2'] at hl; omega) (fun g => by rw [g, l4] at hl; omega) (fun g => by rw [g, l5] at hl; omega), hR c hc (fun g => by rw [g, l3] at hl; omega)⟩⟩
end ZAT
