-- ===== a feast, a place, a turn, a series more =====
section ZAE
variable {ρ ρ' : zL} {K K' : zK} {X X' : zX} {Rf Rf' : zR} {M M' : zM} {x : Nat}
def faM (M : zM) (i : Nat) (fy ly b wy : Int) : zM := upM (up2 (up2 (up2 (up2 M 30 i fy) 31 i ly) 32 i b) 33 i wy) 29 (i + 1)
theorem faM_f {M : zM} {i : Nat} {fy ly b wy : Int} {f : Nat} (h0 : f ≠ 30) (h1 : f ≠ 31) (h2 : f ≠ 32) (h3 : f ≠ 33) (h40 : f ≠ 40) : faM M i fy ly b wy f = M f := by
  unfold faM upM; rw [up2_o h40, up2_o h3, up2_o h2, up2_o h1, up2_o h0]
theorem faM_40 {M : zM} {i : Nat} {fy ly b wy : Int} (q : Nat) : faM M i fy ly b wy 40 q = if q = 29 then (i : Int) + 1 else M 40 q := by
  unfold faM upM
  by_cases h : q = 29
  · subst h; rw [up2_s, if_pos rfl]
  · rw [up2_k h, if_neg h, up2_o (by decide), up2_o (by decide), up2_o (by decide), up2_o (by decide)]
theorem faM_v {M : zM} {i : Nat} {fy ly b wy : Int} (k : Nat) : faM M i fy ly b wy 30 k = (if k = i then fy else M 30 k) ∧ faM M i fy ly b wy 31 k = (if k = i then ly else M 31 k) ∧ faM M i fy ly b wy 32 k = (if k = i then b else M 32 k) ∧ faM M i fy ly b wy 33 k = (if k = i then wy else M 33 k) := by
  unfold faM upM
  by_cases h : k = i
  · subst h
    refine ⟨?_, ?_, ?_, ?_⟩
    · rw [if_pos rfl, up2_o (by decide), up2_o (by decide), up2_o (by decide), up2_o (by decide), up2_s]
    · rw [if_pos rfl, up2_o (by decide), up2_o (by decide), up2_o (by decide), up2_s]
    · rw [if_pos rfl, up2_o (by decide), up2_o (by decide), up2_s]
    · rw [if_pos rfl, up2_o (by decide), up2_s]
  · refine ⟨?_, ?_, ?_, ?_⟩
    · rw [if_neg h, up2_o (by decide), up2_o (by decide), up2_o (by decide), up2_o (by decide), up2_k h]
    · rw [if_neg h, up2_o (by decide), up2_o (by decide), up2_o (by decide), up2_k h, up2_o (by decide)]
    · rw [if_neg h, up2_o (by decide), up2_o (by decide), up2_k h, up2_o (by decide), up2_o (by decide)]
    · rw [if_neg h, up2_o (by decide), up2_k h, up2_o (by decide), up2_o (by decide), up2_o (by decide)]
theorem faM_p {M : zM} {i : Nat} {fy ly b wy : Int} (k : Nat) : patM (faM M i fy ly b wy) k = patM M k := patM_eq (faM_f (by decide) (by decide) (by decide) (by decide) (by decide)) (faM_f (by decide) (by decide) (by decide) (by decide) (by decide)) (faM_f (by decide) (by decide) (by decide) (by decide) (by decide)) k
theorem repC.fea (h : repC ρ K X Rf x M) {wo fe q pa i : Nat} {fy ly b wy : Int} (h7 : Rf x 7 = some wo) (h5 : Rf wo 5 = some fe) (hi : M 40 29 = i ∧ i < 20) (hq : (K q).1 = 0) (hK : ∀ a, (K a).1 ≠ 0 → K' a = K a) (hX : ∀ a, (K a).1 ≠ 0 → a ≠ wo → X' a = X a) (hR : ∀ a, (K a).1 ≠ 0 → a ≠ fe → Rf' a = Rf a)
    (hx6 : X' wo 6 = i + 1) (hxo : ∀ j, j ≠ 6 → X' wo j = X wo j) (hp1 : Rf' fe i = some q) (hpo : ∀ k, k ≠ i → Rf' fe k = Rf fe k) (hKq : K' q = (1, 1)) (hRq : Rf' q 2 = some pa) (hKp : K pa = (1, 2)) (hps : psame (X pa) (patM M b.toNat)) (hoP : okP (X pa)) (hXq : X' q 0 = fy ∧ X' q 1 = ly ∧ X' q 3 = wy) (hoF : (1900 ≤ fy ∧ fy ≤ ly ∧ ly ≤ 2099) ∧ 0 ≤ wy ∧ wy ≤ 3) : ∃ ρ', repC ρ' K' X' Rf' x (faM M i fy ly b wy) ∧ frC ρ K X Rf ρ' K' X' Rf' := by
  obtain ⟨⟨h1', h2'⟩, pr, pl, sr, dr, na, wo', ⟨r1, r2, r3, r4, r5, r6⟩, ⟨k1, k2, k3, k4, k5⟩, ⟨l1, l2, l3, l4, l5⟩, hD, hP, hL, hS, hW⟩ := h
  rw [h7] at r5; cases r5
  obtain ⟨⟨w1, w2⟩, fe', fa, fn, p0, ⟨g1, g2, g3, g4⟩, ⟨q1, q2, q3⟩, ⟨m1, m2, m3⟩, hwD, hF, hv0, hb0, hp⟩ := hW
  rw [h5] at g2; cases g2
  have hz : zag ρ K X Rf ρ K' X' Rf' (fun l => l ≠ 10 ∧ l ≠ 11) := zag_new (B := fun a => a = wo ∨ a = fe) (fun a ha => ⟨hK a ha, rfl⟩) (fun a ha hb => ⟨hX a ha (fun g => hb (Or.inl g)), hR a ha (fun g => hb (Or.inr g))⟩) (fun a hb _ => by
    rcases hb with rfl | rfl
    · exact ⟨not_imk w1 (by omega), fun g => g.1 w2⟩
    · exact ⟨not_imk q1 (by omega), fun g => g.2 m1⟩)
  have at1 : ∀ {b n k : Nat}, K b = (k + 1, n) → ρ b ≠ 10 → ρ b ≠ 11 → K' b = K b ∧ X' b = X b ∧ Rf' b = Rf b := fun hk a1 a2 => ⟨(hz.at hk ⟨a1, a2⟩).1, (hz.at hk ⟨a1, a2⟩).2.2⟩
  have a0 := at1 h1' (by rw [h2']; decide) (by rw [h2']; decide)
  have a1 := at1 k1 (by rw [l1]; decide) (by rw [l1]; decide)
  have a2 := at1 k2 (by rw [l2]; decide) (by rw [l2]; decide)
  have a3 := at1 k3 (by rw [l3]; decide) (by rw [l3]; decide)
  have a4 := at1 k4 (by rw [l4]; decide) (by rw [l4]; decide)
  have a5 := at1 k5 (by rw [l5]; decide) (by rw [l5]; decide)
  have a7 := at1 q2 (by rw [m2]; decide) (by rw [m2]; decide)
  have a8 := at1 q3 (by rw [m3]; decide) (by rw [m3]; decide)
  have hwR : Rf' wo = Rf wo := hR wo (zk1 w1) (fun g => by rw [g, q1] at w1; exact absurd w1 (by decide))
  have h9 : ∀ q, q ≠ 29 → faM M i fy ly b wy 40 q = M 40 q := fun q hq => by rw [faM_40, if_neg hq]
  have h91 : faM M i fy ly b wy 40 29 = (i : Int) + 1 := by rw [faM_40, if_pos rfl]
  refine ⟨ρ, ⟨⟨by rw [a0.1]; exact h1', h2'⟩, pr, pl, sr, dr, na, wo, ?_, ?_, ⟨l1, l2, l3, l4, l5⟩, ?_, (hP.keep hz a1.2.2).mM (h9 1 (by decide)) faM_p, (hL.keep (hz.sub (fun l hl => by omega)) a2.2.2).mM (h9 5 (by decide)) (faM_f (by decide) (by decide) (by decide) (by decide) (by decide)) (faM_f (by decide) (by decide) (by decide) (by decide) (by decide)) (faM_f (by decide) (by decide) (by decide) (by decide) (by decide)) faM_p, (hS.keep (hz.sub (fun l hl => by omega)) a3.2.2 a2.2.2).mM (h9 16 (by decide)) (faM_f (by decide) (by decide) (by decide) (by decide) (by decide)) (faM_f (by decide) (by decide) (by decide) (by decide) (by decide)) (faM_f (by decide) (by decide) (by decide) (by decide) (by decide)) faM_p, ?_⟩, ?_⟩
  · rw [a0.2.2, a4.2.2]; exact ⟨r1, r2, r3, r4, h7, r6⟩
  · rw [a1.1, a2.1, a3.1, a4.1, a5.1]; exact ⟨k1, k2, k3, k4, k5⟩
  · rw [a0.2.1, h9 1 (by decide), h9 5 (by decide), h9 16 (by decide)]; exact hD
  · refine ⟨⟨by rw [hK wo (zk1 w1)]; exact w1, w2⟩, fe, fa, fn, p0, ?_, ?_, ⟨m1, m2, m3⟩, ?_, ?_, ?_, ?_, ?_⟩
    · rw [hwR, a7.2.2]; exact ⟨g1, h5, g3, g4⟩
    · rw [hK fe (zk1 q1), a7.1, a8.1]; exact ⟨q1, q2, q3⟩
    · rw [hxo 0 (by decide), hxo 2 (by decide), hxo 3 (by decide), hxo 4 (by decide), hx6, h9 25 (by decide), h9 26 (by decide), h9 27 (by decide), h9 28 (by decide), h91]; exact ⟨hwD.1, hwD.2.1, hwD.2.2.1, hwD.2.2.2.1, rfl⟩
    · rw [h91, show ((i : Int) + 1).toNat = i + 1 by omega]
      have hi2 : (M 40 29).toNat = i := by omega
      intro k hk
      by_cases hki : k = i
      · subst hki
        obtain ⟨b1, b2, b3⟩ := hz.im hKp imk_p
        obtain ⟨v0, v1, v2, v3⟩ := faM_v (M := M) (i := k) (fy := fy) (ly := ly) (b := b) (wy := wy) k
        have e0 : feaM (faM M k fy ly b wy) k 0 = fy := by unfold feaM; rw [if_pos rfl, v0, if_pos rfl]
        have e1 : feaM (faM M k fy ly b wy) k 1 = ly := by unfold feaM; rw [if_neg (by decide), if_pos rfl, v1, if_pos rfl]
        have e3 : feaM (faM M k fy ly b wy) k 3 = wy := by unfold feaM; rw [if_neg (by decide), if_neg (by decide), v3, if_pos rfl]
        have e4 : fepM (faM M k fy ly b wy) k = patM M b.toNat := by unfold fepM; rw [v2, if_pos rfl, faM_p]
        refine Or.inr ⟨by omega, q, pa, hp1, hKq, hRq, by rw [b1]; exact hKp, ?_, by rw [b2]; exact hoP, ?_, by rw [b2, e4]; exact hps⟩
        · show (1900 ≤ X' q 0 ∧ X' q 0 ≤ X' q 1 ∧ X' q 1 ≤ 2099) ∧ (0 ≤ X' q 3 ∧ X' q 3 ≤ 3)
          rw [hXq.1, hXq.2.1, hXq.2.2]; exact hoF
        · exact ⟨by rw [e0]; exact hXq.1, by rw [e1]; exact hXq.2.1, by rw [e3]; exact hXq.2.2⟩
      · have ef : feaM (faM M i fy ly b wy) k = feaM M k := by
          obtain ⟨v0, v1, v2, v3⟩ := faM_v (M := M) (i := i) (fy := fy) (ly := ly) (b := b) (wy := wy) k
          funext j; unfold feaM; rw [v0, v1, v3, if_neg hki, if_neg hki, if_neg hki]
        have eg : fepM (faM M i fy ly b wy) k = fepM M k := by
          obtain ⟨v0, v1, v2, v3⟩ := faM_v (M := M) (i := i) (fy := fy) (ly := ly) (b := b) (wy := wy) k
          unfold fepM; rw [v2, if_neg hki, faM_p]
        rw [ef, eg, hpo k hki]
        rcases hF k hk with ⟨z1, z2⟩ | ⟨z1, fo, pa', z2, z3, z4, z5, z6, z7, z8, z9⟩
        · exact Or.inl ⟨z1, by omega⟩
        · obtain ⟨c1, c2, c3⟩ := hz.im z3 imk_f
          obtain ⟨b1, b2, b3⟩ := hz.im z5 imk_p
          exact Or.inr ⟨by omega, fo, pa', z2, by rw [c1]; exact z3, by rw [c3]; exact z4, by rw [b1]; exact z5, by rw [c2]; exact z6, by rw [b2]; exact z7, by rw [c2]; exact z8, by rw [b2]; exact z9⟩
    · unfold fvr; rw [a8.2.1]; exact hv0
    · rw [a7.2.1]; exact hb0
    · rw [h9 25 (by decide), a2.2.2]
      rcases hp with ⟨z, hp⟩ | hp
      · exact Or.inl ⟨z, hp.keep (hz.sub (fun l hl => by omega))⟩
      · exact Or.inr hp
  · intro a ha
    exact ⟨hK a ha, rfl, fun hl => ⟨hX a ha (fun g => by rw [g, w2] at hl; omega), hR a ha (fun g => by rw [g, m1] at hl; omega)⟩⟩
/-! a place -/
def plM (M : zM) (i : Nat) (base : Int) : zM := upM (up2 M 6 i base) 5 (i + 1)
theorem plM_f {M : zM} {i f : Nat} {base : Int} (h6 : f ≠ 6) (h40 : f ≠ 40) : plM M i base f = M f := by unfold plM upM; rw [up2_o h40, up2_o h6]
theorem plM_40 {M : zM} {i : Nat} {base : Int} (q : Nat) : plM M i base 40 q = if q = 5 then (i : Int) + 1 else M 40 q := by
  unfold plM upM
  by_cases h : q = 5
  · subst h; rw [up2_s, if_pos rfl]
  · rw [up2_k h, if_neg h, up2_o (by decide)]
theorem plM_6 {M : zM} {i : Nat} {base : Int} (k : Nat) : plM M i base 6 k = if k = i then base else M 6 k := by
  unfold plM upM
  by_cases h : k = i
  · subst h; rw [if_pos rfl, up2_o (by decide), up2_s]
  · rw [if_neg h, up2_o (by decide), up2_k h]
theorem plM_p {M : zM} {i : Nat} {base : Int} (k : Nat) : patM (plM M i base) k = patM M k := patM_eq (plM_f (by decide) (by decide)) (plM_f (by decide) (by decide)) (plM_f (by decide) (by decide)) k
/-- a place without turns -/
theorem plA_new {b p0 tu to be sa : Nat} {base : Int} {T Tp : Nat → Nat → Int} (h1 : K p0 = (1, 3) ∧ ρ p0 = b) (h2 : Rf p0 1 = some tu ∧ Rf p0 3 = some to ∧ Rf p0 4 = some be ∧ Rf p0 5 = some sa) (h3 : K tu = (9, 6) ∧ K to = (2, 6) ∧ K be = (2, 1201) ∧ K sa = (2, 1201)) (h4 : ρ tu = b + 1 ∧ ρ to = b + 2 ∧ ρ be = b + 3 ∧ ρ sa = b + 4) (ht : ∀ k, Rf tu k = none) (hx : X p0 0 = base ∧ X p0 2 = 0 ∧ X p0 6 = 1) (hb : -840 ≤ base ∧ base ≤ 840) (hz : ∀ k, X be k = 0 ∧ X sa k = 0) : plA ρ K X Rf b p0 base 0 T Tp := by
  refine ⟨h1, tu, to, be, sa, h2, h3, h4, fun k _ => Or.inl ⟨ht k, Nat.zero_le _⟩, Nat.zero_le _, hx.2.1, ⟨hx.1, hb.1, hb.2⟩, ?_⟩
  rw [hx.2.2]
  have e := (pinv_0 (T := T) (base := base) (L := fun _ => 0) (B := X be) (S := X sa) (hz 0).1 (hz 0).2).1
  exact e.congr (fun _ _ => rfl) (fun _ _ => rfl) (fun m _ _ => by rw [sav_0]; rfl)
theorem repC.plc (h : repC ρ K X Rf x M) (hM : okM M) {pl q tu to be sa i : Nat} {base : Int} (h2 : Rf x 2 = some pl) (hi : M 40 5 = i ∧ i < 6) (hb : -840 ≤ base ∧ base ≤ 840) (hnew : (K q).1 = 0 ∧ (K tu).1 = 0 ∧ (K to).1 = 0 ∧ (K be).1 = 0 ∧ (K sa).1 = 0) (hne : be ≠ sa)
    (hK : ∀ a, (K a).1 ≠ 0 → K' a = K a) (hX : ∀ a, (K a).1 ≠ 0 → a ≠ x → X' a = X a) (hR : ∀ a, (K a).1 ≠ 0 → a ≠ pl → Rf' a = Rf a) (hx3 : X' x 3 = i + 1) (hxo : ∀ j, j ≠ 3 → X' x j = X x j) (hp1 : Rf' pl i = some q) (hpo : ∀ k, k ≠ i → Rf' pl k = Rf pl k)
    (hk : K' q = (1, 3) ∧ K' tu = (9, 6) ∧ K' to = (2, 6) ∧ K' be = (2, 1201) ∧ K' sa = (2, 1201)) (hr : Rf' q 1 = some tu ∧ Rf' q 3 = some to ∧ Rf' q 4 = some be ∧ Rf' q 5 = some sa) (ht : ∀ k, Rf' tu k = none) (hx : X' q 0 = base ∧ X' q 2 = 0 ∧ X' q 6 = 1) (hz0 : ∀ k, X' be k = 0 ∧ X' sa k = 0) : ∃ ρ', repC ρ' K' X' Rf' x (plM M i base) ∧ frC ρ K X Rf ρ' K' X' Rf' := by
  obtain ⟨⟨h1', h2'⟩, pr, pl', sr, dr, na, wo, ⟨r1, r2, r3, r4, r5, r6⟩, ⟨k1, k2, k3, k4, k5⟩, ⟨l1, l2, l3, l4, l5⟩, hD, hP, hL, hS, hW⟩ := h
  rw [h2] at r2; cases r2
  obtain ⟨ρ', hρ⟩ : ∃ ρ' : zL, ρ' = fun a => if a = q then 100 + 10 * i else if a = tu then 100 + 10 * i + 1 else if a = to then 100 + 10 * i + 2 else if a = be then 100 + 10 * i + 3 else if a = sa then 100 + 10 * i + 4 else ρ a := ⟨_, rfl⟩
  have hro : ∀ a, (K a).1 ≠ 0 → ρ' a = ρ a := fun a ha => by
    rw [hρ]; dsimp only
    rw [if_neg (fun g => ha (by rw [g]; exact hnew.1)), if_neg (fun g => ha (by rw [g]; exact hnew.2.1)), if_neg (fun g => ha (by rw [g]; exact hnew.2.2.1)), if_neg (fun g => ha (by rw [g]; exact hnew.2.2.2.1)), if_neg (fun g => ha (by rw [g]; exact hnew.2.2.2.2))]
  have nk : ∀ {a b : Nat} {u v : Nat × Nat}, K' a = u → K' b = v → u ≠ v → a ≠ b := fun h1 h2 hn g => hn (by rw [← h1, ← h2, g])
  have hr5 : ρ' q = 100 + 10 * i ∧ ρ' tu = 100 + 10 * i + 1 ∧ ρ' to = 100 + 10 * i + 2 ∧ ρ' be = 100 + 10 * i + 3 ∧ ρ' sa = 100 + 10 * i + 4 := by
    rw [hρ]; dsimp only
    refine ⟨if_pos rfl, ?_, ?_, ?_, ?_⟩
    · rw [if_neg (nk hk.2.1 hk.1 (by decide)), if_pos rfl]
    · rw [if_neg (nk hk.2.2.1 hk.1 (by decide)), if_neg (nk hk.2.2.1 hk.2.1 (by decide)), if_pos rfl]
    · rw [if_neg (nk hk.2.2.2.1 hk.1 (by decide)), if_neg (nk hk.2.2.2.1 hk.2.1 (by decide)), if_neg (nk hk.2.2.2.1 hk.2.2.1 (by decide)), if_pos rfl]
    · rw [if_neg (nk hk.2.2.2.2 hk.1 (by decide)), if_neg (nk hk.2.2.2.2 hk.2.1 (by decide)), if_neg (nk hk.2.2.2.2 hk.2.2.1 (by decide)), if_neg (Ne.symm hne), if_pos rfl]
  have hz : zag ρ K X Rf ρ' K' X' Rf' (fun l => l ≠ 1 ∧ l ≠ 3) := zag_new (B := fun a => a = x ∨ a = pl) (fun a ha => ⟨hK a ha, hro a ha⟩) (fun a ha hb => ⟨hX a ha (fun g => hb (Or.inl g)), hR a ha (fun g => hb (Or.inr g))⟩) (fun a hb _ => by
    rcases hb with rfl | rfl
    · exact ⟨not_imk h1' (by omega), fun g => g.1 h2'⟩
    · exact ⟨not_imk k2 (by omega), fun g => g.2 l2⟩)
  have at1 : ∀ {b n k : Nat}, K b = (k + 1, n) → ρ b ≠ 1 → ρ b ≠ 3 → K' b = K b ∧ ρ' b = ρ b ∧ X' b = X b ∧ Rf' b = Rf b := fun hk a1 a2 => hz.at hk ⟨a1, a2⟩
  have a1 := at1 k1 (by rw [l1]; decide) (by rw [l1]; decide)
  have a3 := at1 k3 (by rw [l3]; decide) (by rw [l3]; decide)
  have a4 := at1 k4 (by rw [l4]; decide) (by rw [l4]; decide)
  have a5 := at1 k5 (by rw [l5]; decide) (by rw [l5]; decide)
  have hxR : Rf' x = Rf x := hR x (zk1 h1') (fun g => by rw [g, k2] at h1'; exact absurd h1' (by decide))
  have h9 : ∀ q, q ≠ 5 → plM M i base 40 q = M 40 q := fun q hq => by rw [plM_40, if_neg hq]
  have h91 : plM M i base 40 5 = (i : Int) + 1 := by rw [plM_40, if_pos rfl]
  obtain ⟨mb, mP, mL, mS, mW, mF⟩ := hM
  have eT : ∀ k, turM (plM M i base) k = turM M k := fun k => by funext t j; unfold turM; rw [plM_f (by decide) (by decide)]
  have eU : ∀ k, tupM (plM M i base) k = tupM M k := fun k => by funext t; unfold tupM; rw [plM_f (f := 8) (by decide) (by decide), plM_p]
  refine ⟨ρ', ⟨⟨by rw [hK x (zk1 h1')]; exact h1', by rw [hro x (zk1 h1')]; exact h2'⟩, pr, pl, sr, dr, na, wo, ?_, ?_, ?_, ?_, (hP.keep hz a1.2.2.2).mM (h9 1 (by decide)) plM_p, ?_, ?_, ?_⟩, ?_⟩
  · rw [hxR, a4.2.2.2]; exact ⟨r1, h2, r3, r4, r5, r6⟩
  · rw [hK pl (zk1 k2), a1.1, a3.1, a4.1, a5.1]; exact ⟨k1, k2, k3, k4, k5⟩
  · rw [hro pl (zk1 k2), a1.2.1, a3.2.1, a4.2.1, a5.2.1]; exact ⟨l1, l2, l3, l4, l5⟩
  · rw [h91, h9 1 (by decide), h9 16 (by decide), hxo 1 (by decide), hxo 5 (by decide)]; exact ⟨hD.1, hx3, hD.2.2⟩
  · intro k hk9
    rw [h91, plM_6, plM_f (f := 7) (by decide) (by decide), eT, eU]
    by_cases hki : k = i
    · subst hki
      have h70 : M 7 k = 0 := mb.2.2.2.2 k (by omega)
      rw [if_pos rfl, h70]
      exact Or.inl ⟨by omega, q, hp1, plA_new ⟨hk.1, hr5.1⟩ hr hk.2 hr5.2 ht hx hb hz0⟩
    · rw [if_neg hki, hpo k hki]
      rcases hL k hk9 with ⟨g1, p0, g2, g3⟩ | g
      · exact Or.inl ⟨by omega, p0, g2, g3.keep (hz.sub (fun l hl => by omega))⟩
      · exact Or.inr ⟨by omega, g.2⟩
  · intro k hk9
    have e17 : serM (plM M i base) k = serM M k := serM_f (plM_f (by decide) (by decide)) k
    rw [h9 16 (by decide), e17, useM_f (M := M) (plM_f (by decide) (by decide)) plM_p, excM_f (M := M) (plM_f (by decide) (by decide))]
    rcases hS k hk9 with ⟨g1, se, p0, g2, g3, g4⟩ | g
    · have m1 := (mS k g1).2.1
      exact Or.inl ⟨g1, se, p0, by rw [a3.2.2.2]; exact g2, by rw [hpo _ (by omega)]; exact g3, g4.keep (hz.sub (fun l hl => by omega))⟩
    · exact Or.inr (by rw [a3.2.2.2]; exact g)
  · obtain ⟨⟨w1, w2⟩, fe, fa, fn, p9, ⟨g1, g2, g3, g4⟩, ⟨q1, q2, q3⟩, ⟨m1, m2, m3⟩, hwD, hF, hv0, hb0, hp⟩ := hW
    have b0 := at1 w1 (by rw [w2]; decide) (by rw [w2]; decide)
    have b1 := at1 q1 (by rw [m1]; decide) (by rw [m1]; decide)
    have b2 := at1 q2 (by rw [m2]; decide) (by rw [m2]; decide)
    have b3 := at1 q3 (by rw [m3]; decide) (by rw [m3]; decide)
    refine ⟨⟨by rw [b0.1]; exact w1, by rw [b0.2.1]; exact w2⟩, fe, fa, fn, p9, ?_, ?_, ?_, ?_, ?_, ?_, ?_, ?_⟩
    · rw [b0.2.2.2, b2.2.2.2]; exact ⟨g1, g2, g3, g4⟩
    · rw [b1.1, b2.1, b3.1]; exact ⟨q1, q2, q3⟩
    · rw [b1.2.1, b2.2.1, b3.2.1]; exact ⟨m1, m2, m3⟩
    · rw [b0.2.2.1, h9 25 (by decide), h9 26 (by decide), h9 27 (by decide), h9 28 (by decide), h9 29 (by decide)]; exact hwD
    · rw [h9 29 (by decide)]; exact fstOK_M (hF.keep hz b1.2.2.2) (plM_f (by decide) (by decide)) (plM_f (by decide) (by decide)) (plM_f (by decide) (by decide)) (plM_f (by decide) (by decide)) plM_p
    · unfold fvr; rw [b3.2.2.1]; exact hv0
    · rw [b2.2.2.1]; exact hb0
    · rw [h9 25 (by decide)]
      rcases hp with ⟨z, hp⟩ | ⟨z, hp⟩
      · exact Or.inl ⟨z, hp.keep (hz.sub (fun l hl => by omega))⟩
      · exact Or.inr ⟨z, by rw [hpo _ (by omega)]; exact hp⟩
  · intro a ha
    exact ⟨hK a ha, hro a ha, fun hl => ⟨hX a ha (fun g => by rw [g, h2'] at hl; omega), hR a ha (fun g => by rw [g, l2] at hl; omega)⟩⟩
end ZAE
