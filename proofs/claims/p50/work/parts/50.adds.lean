-- ===== what is added =====
section ZAD
variable {ρ ρ' : zL} {K K' : zK} {X X' : zX} {Rf Rf' : zR} {M M' : zM} {x : Nat}
theorem fstOK.congr {fe n : Nat} {F F' Fp Fp' : Nat → Nat → Int} (h : fstOK K X Rf fe n F Fp) (hq : ∀ k, k < n → F' k = F k ∧ Fp' k = Fp k) : fstOK K X Rf fe n F' Fp' := fun k hk => by
  rcases h k hk with q | ⟨q, fo, pa, h1, h2, h3, h4, h5, h6, h7, h8⟩
  · exact Or.inl q
  · exact Or.inr ⟨q, fo, pa, h1, h2, h3, h4, h5, h6, by rw [(hq k q).1]; exact h7, by rw [(hq k q).2]; exact h8⟩
/-- what is old stands, but for the fields of x and the row pr -/
theorem zag_new {S : Nat → Prop} {B : Nat → Prop} (hK : ∀ a, (K a).1 ≠ 0 → K' a = K a ∧ ρ' a = ρ a) (hX : ∀ a, (K a).1 ≠ 0 → ¬ B a → X' a = X a ∧ Rf' a = Rf a) (hB : ∀ a, B a → (K a).1 ≠ 0 → ¬ imk (K a) ∧ ¬ S (ρ a)) : zag ρ K X Rf ρ' K' X' Rf' S := fun a h1 h2 => by
  have hn : ¬ B a := fun q => by
    have := hB a q h1
    rcases h2 with g | g
    · exact this.1 g
    · exact this.2 g
  exact ⟨(hK a h1).1, (hK a h1).2, hX a h1 hn⟩
theorem not_imk {a n k : Nat} (h : K a = (k, n)) (hk : k ≠ 1 ∨ (n ≠ 1 ∧ n ≠ 2 ∧ n ≠ 5)) : ¬ imk (K a) := fun q => by
  rw [h] at q; have := imk_not q; omega
def padM (M : zM) (i : Nat) (mo ki nu : Int) : zM := upM (up2 (up2 (up2 M 2 i mo) 3 i ki) 4 i nu) 1 (i + 1)
theorem padM_f {M : zM} {i : Nat} {mo ki nu : Int} {f : Nat} (h2 : f ≠ 2) (h3 : f ≠ 3) (h4 : f ≠ 4) (h40 : f ≠ 40) : padM M i mo ki nu f = M f := by
  unfold padM upM; rw [up2_o h40, up2_o h4, up2_o h3, up2_o h2]
theorem padM_40 {M : zM} {i : Nat} {mo ki nu : Int} (q : Nat) : padM M i mo ki nu 40 q = if q = 1 then (i : Int) + 1 else M 40 q := by
  unfold padM upM
  by_cases h : q = 1
  · subst h; rw [up2_s, if_pos rfl]
  · rw [up2_k h, if_neg h, up2_o (by decide), up2_o (by decide), up2_o (by decide)]
theorem padM_p {M : zM} {i : Nat} {mo ki nu : Int} {k : Nat} (h : k ≠ i) : patM (padM M i mo ki nu) k = patM M k := by
  funext q
  unfold patM padM upM
  rw [up2_o (a := 40) (b := 2) (by decide), up2_o (a := 4) (b := 2) (by decide), up2_o (a := 3) (b := 2) (by decide), up2_k (a := 2) h, up2_o (a := 40) (b := 3) (by decide), up2_o (a := 4) (b := 3) (by decide), up2_k (a := 3) h, up2_o (a := 2) (b := 3) (by decide), up2_o (a := 40) (b := 4) (by decide), up2_k (a := 4) h, up2_o (a := 3) (b := 4) (by decide), up2_o (a := 2) (b := 4) (by decide)]
theorem padM_n {M : zM} {i : Nat} {mo ki nu : Int} : patM (padM M i mo ki nu) i 0 = mo ∧ patM (padM M i mo ki nu) i 1 = ki ∧ patM (padM M i mo ki nu) i 2 = nu := by
  unfold patM padM upM
  refine ⟨?_, ?_, ?_⟩
  · rw [if_pos rfl, up2_o (by decide), up2_o (by decide), up2_o (by decide), up2_s]
  · rw [if_neg (by decide), if_pos rfl, up2_o (by decide), up2_o (by decide), up2_s]
  · rw [if_neg (by decide), if_neg (by decide), up2_o (by decide), up2_s]
theorem repC.pat (h : repC ρ K X Rf x M) (hM : okM M) {pr q i : Nat} {mo ki nu : Int} (hr0 : Rf x 0 = some pr) (hi : M 40 1 = i ∧ i < 24) (hq : (K q).1 = 0) (hK : ∀ a, (K a).1 ≠ 0 → K' a = K a) (hX : ∀ a, (K a).1 ≠ 0 → a ≠ x → X' a = X a) (hR : ∀ a, (K a).1 ≠ 0 → a ≠ pr → Rf' a = Rf a)
    (hx1 : X' x 1 = i + 1) (hxo : ∀ j, j ≠ 1 → X' x j = X x j) (hp1 : Rf' pr i = some q) (hpo : ∀ k, k ≠ i → Rf' pr k = Rf pr k) (hKq : K' q = (1, 2)) (hXq : X' q 0 = mo ∧ X' q 1 = ki ∧ X' q 2 = nu) : ∃ ρ', repC ρ' K' X' Rf' x (padM M i mo ki nu) ∧ frC ρ K X Rf ρ' K' X' Rf' := by
  obtain ⟨⟨h1', h2'⟩, pr', pl, sr, dr, na, wo, ⟨r1, r2, r3, r4, r5, r6⟩, ⟨k1, k2, k3, k4, k5⟩, ⟨l1, l2, l3, l4, l5⟩, hD, hP, hL, hS, hW⟩ := h
  rw [hr0] at r1; cases r1
  have hz : zag ρ K X Rf ρ K' X' Rf' (fun l => l ≠ 1 ∧ l ≠ 2) := zag_new (B := fun a => a = x ∨ a = pr) (fun a ha => ⟨hK a ha, rfl⟩) (fun a ha hb => ⟨hX a ha (fun g => hb (Or.inl g)), hR a ha (fun g => hb (Or.inr g))⟩) (fun a hb _ => by
    rcases hb with rfl | rfl
    · exact ⟨not_imk h1' (by omega), fun g => g.1 h2'⟩
    · exact ⟨not_imk k1 (by omega), fun g => g.2 l1⟩)
  have at1 : ∀ {b n k : Nat}, K b = (k + 1, n) → ρ b ≠ 1 → ρ b ≠ 2 → K' b = K b ∧ X' b = X b ∧ Rf' b = Rf b := fun hk a1 a2 => ⟨(hz.at hk ⟨a1, a2⟩).1, (hz.at hk ⟨a1, a2⟩).2.2⟩
  have a2 := at1 k2 (by rw [l2]; decide) (by rw [l2]; decide)
  have a3 := at1 k3 (by rw [l3]; decide) (by rw [l3]; decide)
  have a4 := at1 k4 (by rw [l4]; decide) (by rw [l4]; decide)
  have a5 := at1 k5 (by rw [l5]; decide) (by rw [l5]; decide)
  have hxR : Rf' x = Rf x := hR x (zk1 h1') (fun g => by rw [g, k1] at h1'; exact absurd h1' (by decide))
  have hprX : X' pr = X pr := hX pr (zk1 k1) (fun g => by rw [g, h1'] at k1; exact absurd k1 (by decide))
  have h9 : ∀ q, q ≠ 1 → padM M i mo ki nu 40 q = M 40 q := fun q hq => by rw [padM_40, if_neg hq]
  have h91 : padM M i mo ki nu 40 1 = (i : Int) + 1 := by rw [padM_40, if_pos rfl]
  obtain ⟨mb, mP, mL, mS, mW, mF⟩ := hM
  have idx : ∀ z : Int, 0 ≤ z ∧ z < M 40 1 → patM (padM M i mo ki nu) z.toNat = patM M z.toNat := fun z hz => padM_p (by omega)
  have e8 : ∀ k, turM (padM M i mo ki nu) k = turM M k := fun k => by funext t j; unfold turM; rw [padM_f (by decide) (by decide) (by decide) (by decide)]
  have e17 : ∀ k, serM (padM M i mo ki nu) k = serM M k := fun k => by unfold serM; rw [padM_f (by decide) (by decide) (by decide) (by decide)]
  have e19 : ∀ k, excM (padM M i mo ki nu) k = excM M k := fun k => by unfold excM; rw [padM_f (by decide) (by decide) (by decide) (by decide)]
  refine ⟨ρ, ⟨⟨by rw [hK x (zk1 h1')]; exact h1', h2'⟩, pr, pl, sr, dr, na, wo, ?_, ?_, ⟨l1, l2, l3, l4, l5⟩, ?_, ?_, ?_, ?_, ?_⟩, ?_⟩
  · rw [hxR, a4.2.2]; exact ⟨hr0, r2, r3, r4, r5, r6⟩
  · rw [hK pr (zk1 k1), a2.1, a3.1, a4.1, a5.1]; exact ⟨k1, k2, k3, k4, k5⟩
  · rw [h91, h9 5 (by decide), h9 16 (by decide), hxo 3 (by decide), hxo 5 (by decide)]; exact ⟨hx1, hD.2⟩
  · intro k hk
    rw [h91]
    by_cases hki : k = i
    · subst hki
      exact Or.inl ⟨by omega, q, hp1, hKq, by obtain ⟨g1, g2, g3⟩ := padM_n (M := M) (i := k) (mo := mo) (ki := ki) (nu := nu); exact ⟨by rw [g1]; exact hXq.1, by rw [g2]; exact hXq.2.1, by rw [g3]; exact hXq.2.2⟩⟩
    · rcases hP k hk with ⟨g1, pa, g2, g3, g4⟩ | g
      · obtain ⟨b1, b2, b3⟩ := hz.im g3 imk_p
        exact Or.inl ⟨by omega, pa, by rw [hpo k hki]; exact g2, by rw [b1]; exact g3, by rw [b2, padM_p hki]; exact g4⟩
      · exact Or.inr ⟨by omega, by rw [hpo k hki]; exact g.2⟩
  · intro k hk
    rw [h9 5 (by decide)]
    rcases hL k hk with ⟨g1, p0, g2, g3⟩ | g
    · refine Or.inl ⟨g1, p0, by rw [a2.2.2]; exact g2, ?_⟩
      have g4 := g3.keep (hz.sub (fun l hl => by omega))
      rw [padM_f (f := 6) (by decide) (by decide) (by decide) (by decide), padM_f (f := 7) (by decide) (by decide) (by decide) (by decide), e8]
      refine g4.congr (fun t ht => ⟨⟨rfl, rfl, rfl, rfl, rfl⟩, ?_⟩)
      have m1 := mL k g1
      have m2 := (m1.2.2 t (by omega)).2.1
      have e : tupM (padM M i mo ki nu) k t = tupM M k t := by
        unfold tupM
        split
        · rw [padM_f (f := 8) (by decide) (by decide) (by decide) (by decide)]
          refine idx _ ?_
          have m3 : turM M k t 2 = M 8 ((6 * k + t) * 6 + 2) := by unfold turM; rw [if_pos ⟨by omega, by decide⟩]
          rw [m3] at m2; exact m2
        · rfl
      rw [e]; exact ⟨rfl, rfl, rfl⟩
    · exact Or.inr (by rw [a2.2.2]; exact g)
  · intro k hk
    rw [h9 16 (by decide), e17, e19]
    rcases hS k hk with ⟨g1, se, p0, g2, g3, g4⟩ | g
    · refine Or.inl ⟨g1, se, p0, by rw [a3.2.2]; exact g2, by rw [a2.2.2]; exact g3, (g4.keep (hz.sub (fun l hl => by omega))).congr (fun j hj => ?_)⟩
      have m1 := mS k g1
      have m2 := m1.2.2.1 j hj
      have hj4 : j < 4 := by have := m1.1.2.2.2.2.2.2.2.2.1; omega
      have e : useM (padM M i mo ki nu) k j = useM M k j := by
        unfold useM
        rw [if_pos hj4, if_pos hj4, padM_f (f := 18) (by decide) (by decide) (by decide) (by decide)]
        exact idx _ m2
      rw [e]; exact ⟨rfl, rfl, rfl⟩
    · exact Or.inr (by rw [a3.2.2]; exact g)
  · obtain ⟨⟨w1, w2⟩, fe, fa, fn, p9, w3, w4, w5, w6, w7, w8, w9, w10⟩ := hW.keep (hz.sub (fun l hl => by omega)) a2.2.2
    refine ⟨⟨w1, w2⟩, fe, fa, fn, p9, w3, w4, w5, ?_, ?_, w8, w9, ?_⟩
    · rw [h9 25 (by decide), h9 26 (by decide), h9 27 (by decide), h9 28 (by decide), h9 29 (by decide)]; exact w6
    · rw [h9 29 (by decide)]
      refine w7.congr (fun k hk => ⟨?_, ?_⟩)
      · funext j; unfold feaM; rw [padM_f (f := 30) (by decide) (by decide) (by decide) (by decide), padM_f (f := 31) (by decide) (by decide) (by decide) (by decide), padM_f (f := 33) (by decide) (by decide) (by decide) (by decide)]
      · unfold fepM
        rw [padM_f (f := 32) (by decide) (by decide) (by decide) (by decide)]
        exact idx _ (mF k (by omega)).2
    · rw [h9 25 (by decide)]; exact w10
  · intro a ha
    exact ⟨hK a ha, rfl, fun hl => ⟨hX a ha (fun g => by rw [g, h2'] at hl; omega), hR a ha (fun g => by rw [g, l1] at hl; omega)⟩⟩
end ZAD
