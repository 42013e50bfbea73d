-- ===== a place, a turn, a series of the reference =====
theorem evN_0 (T Tp : Nat → Nat → Int) : evN T Tp 0 = 0 := by
  have e : ∀ q : Nat, evL T Tp 0 q = [] := fun q => by
    induction q with
    | zero => rfl
    | succ q ih => unfold evL; rw [ih]; rfl
  unfold evN; rw [e]; rfl
section ZRA
variable {ρ ρ' : zL} {K K' : zK} {X X' : zX} {Rf Rf' : zR} {M M' : zM} {md x : Nat}
theorem repR.mutG (h : repR ρ K X Rf md M) (hK : ∀ a, (K a).1 ≠ 0 → K' a = K a) (hρ : ∀ a, (K a).1 ≠ 0 → ρ' a = ρ a) (hn : repN ρ' K' X' Rf' md M') (hA : ∀ a, (K a).1 ≠ 0 → (ρ a < 2000 ∨ 4000 ≤ ρ a) → X' a = X a ∧ Rf' a = Rf a) (hc : cacR ρ' K' X' Rf' md M') (h0 : X' md 0 = 0) {cd : Int} (hcd : cd = 0) (hpt : ptR X' Rf' md ≤ ptR X Rf md + 5000) : X' md 0 = cd ∧ ∃ ρ', repR ρ' K' X' Rf' md (if cd = 0 then M' else M) ∧ frR ρ K X Rf ρ' K' X' Rf' ∧ ptR X' Rf' md ≤ ptR X Rf md + 5000 := by
  rw [hcd, if_pos rfl]
  exact ⟨h0, ρ', hn.r hc, fun a ha => ⟨hK a ha, hρ a ha, hA a ha⟩, hpt⟩
theorem repN.ext (h : repN ρ K X Rf md M) (hK : ∀ a, (K a).1 ≠ 0 → K' a = K a) (hρ : ∀ a, (K a).1 ≠ 0 → ρ' a = ρ a) (hX : ∀ a, (K a).1 ≠ 0 → X' a = X a) (hR : Rf' md = Rf md) : repN ρ' K' X' Rf' md M := h.keep (fun a ha _ _ => ⟨hK a ha, hρ a ha, hX a ha⟩) hR
theorem cacR.plc (h : repR ρ K X Rf md M) (hM : okM M) {i a10 a11 q1 q2 : Nat} {base : Int} (hi : M 40 5 = i ∧ i < 6) (hr10 : Rf md 10 = some a10) (hr11 : Rf md 11 = some a11) (hk : K' q1 = (2, 0) ∧ K' q2 = (2, 0)) (hK : ∀ a, (K a).1 ≠ 0 → K' a = K a) (hρ : ∀ a, (K a).1 ≠ 0 → ρ' a = ρ a) (hρ1 : ρ' q1 = 3000 + i ∧ ρ' q2 = 3010 + i)
    (hX : ∀ a, (K a).1 ≠ 0 → ρ a ≠ 2000 → ρ a ≠ 2007 → X' a = X a) (hR : ∀ a, (K a).1 ≠ 0 → a ≠ a10 → a ≠ a11 → Rf' a = Rf a) (hp : Rf' a10 i = some q1 ∧ Rf' a11 i = some q2) (hpo : ∀ k, k ≠ i → Rf' a10 k = Rf a10 k ∧ Rf' a11 k = Rf a11 k) (h35 : X' md 35 = X md 35) : cacR ρ' K' X' Rf' md (plM M i base) := by
  have hff := h.ff
  obtain ⟨⟨hmd, hlmd⟩, hnum, hd, a9, a10', a11', a22, a34, ⟨g1, g2, g3, g4, g5⟩, hpc, hs, hl⟩ := h
  rw [hr10] at g2; cases g2
  rw [hr11] at g3; cases g3
  have lab : ∀ f a, (kdM f).1 ≠ 0 → Rf md f = some a → (K a).1 ≠ 0 ∧ ρ a = 2001 + f := fun f a hk hr => by
    obtain ⟨b, w1, w2, w3⟩ := hff f hk
    rw [hr] at w1; cases w1
    exact ⟨by rw [w2]; exact hk, w3⟩
  have b9 := lab 9 a9 (by decide) g1
  have b10 := lab 10 a10 (by decide) hr10
  have b11 := lab 11 a11 (by decide) hr11
  have b22 := lab 22 a22 (by decide) g4
  have b34 := lab 34 a34 (by decide) g5
  have ne : ∀ {a b la lb : Nat}, ρ a = la → ρ b = lb → la ≠ lb → a ≠ b := fun h1 h2 h g => h (by rw [← h1, ← h2, g])
  have hmR : Rf' md = Rf md := hR md (zk1 hmd) (ne hlmd b10.2 (by decide)) (ne hlmd b11.2 (by decide))
  have e9 : ∀ q, q ≠ 5 → plM M i base 40 q = M 40 q := fun q hq => by unfold plM; rw [upM_q hq]; exact congrFun (up2_o (by decide)) q
  have e5 : plM M i base 40 5 = (i : Int) + 1 := by unfold plM upM; exact up2_s
  have e6 : ∀ p, p ≠ i → plM M i base 6 p = M 6 p := fun p hp => by unfold plM upM; rw [up2_o (by decide), up2_k hp]
  have e7 : plM M i base 7 = M 7 := by unfold plM upM; rw [up2_o (by decide), up2_o (by decide)]
  have e8 : plM M i base 8 = M 8 := by unfold plM upM; rw [up2_o (by decide), up2_o (by decide)]
  have ef : ∀ f, f ≠ 6 → f ≠ 40 → plM M i base f = M f := fun f h6 h40 => by unfold plM upM; rw [up2_o h40, up2_o h6]
  have ep : ∀ k, patM (plM M i base) k = patM M k := patM_eq (ef 2 (by decide) (by decide)) (ef 3 (by decide) (by decide)) (ef 4 (by decide) (by decide))
  have X9 : X' a9 = X a9 := hX a9 b9.1 (by omega) (by omega)
  refine ⟨a9, a10, a11, a22, a34, by rw [hmR]; exact ⟨g1, hr10, hr11, g4, g5⟩, fun p hp6 => ?_, fun n hn => ?_, ?_⟩
  · rw [e5, X9]
    by_cases hpi : p = i
    · subst hpi
      refine Or.inl ⟨by omega, Or.inr ⟨q1, q2, hp, ?_⟩⟩
      have h7 : M 7 p = 0 := hM.1.2.2.2.2 p (by omega)
      have eN : evNM (plM M p base) p = 0 := by unfold evNM; rw [e7, h7]; exact evN_0 _ _
      have h0 : X a9 p = 0 := by
        rcases hpc p hp6 with ⟨w, -⟩ | ⟨-, w⟩
        · omega
        · exact w
      rw [eN]
      exact ⟨hk, hρ1, by rw [X9]; exact h0, fun k hk9 => absurd hk9 (Nat.not_lt_zero _), fun k hk9 => absurd hk9 (Nat.not_lt_zero _)⟩
    · rcases hpc p hp6 with ⟨w1, w2⟩ | ⟨w1, w2⟩
      · exact Or.inl ⟨by omega, (w2.keep (fun a c1 c2 => ⟨hK a c1, hρ a c1, hX a c1 (by omega) (by omega)⟩) (by rw [X9]) (hpo p hpi).1 (hpo p hpi).2).mM (ev_f (e6 p hpi) (by rw [e7]) e8 ep)⟩
      · exact Or.inr ⟨by omega, w2⟩
  · refine ((hs n hn).keep (fun a c1 c2 => ⟨hK a c1, hρ a c1, hX a c1 (by omega) (by omega)⟩) (by rw [hR a22 b22.1 (ne b22.2 b10.2 (by decide)) (ne b22.2 b11.2 (by decide))])).mM (by rw [e9 16 (by decide)]; exact Int.le_refl _) (fun _ => dat_f (ef 17 (by decide) (by decide)) (ef 18 (by decide) (by decide)) (ef 19 (by decide) (by decide)) ep)
  · rw [h35, hX a34 b34.1 (by omega) (by omega), fal_f (ef 30 (by decide) (by decide)) (ef 31 (by decide) (by decide)) (ef 32 (by decide) (by decide)) (ef 33 (by decide) (by decide)) ep (e9 26 (by decide)) (e9 29 (by decide))]
    exact hl
/-- a turn: what was laid of its place is void -/
theorem cacR.tur (h : repR ρ K X Rf md M) {a a9 : Nat} {fy ly b mn cl sv : Int} (ha : a < 6) (ha5 : (a : Int) < M 40 5) (h7 : (M 7 a).toNat < 6) (hr9 : Rf md 9 = some a9) (hK : ∀ a, (K a).1 ≠ 0 → K' a = K a) (hX : ∀ a, (K a).1 ≠ 0 → ρ a ≠ 2000 → ρ a ≠ 2008 → ρ a ≠ 2009 → ρ a ≠ 2010 → X' a = X a) (h9 : X' a9 a = -1 ∧ ∀ k, k ≠ a → X' a9 k = X a9 k) (hR : ∀ a, (K a).1 ≠ 0 → Rf' a = Rf a) (h35 : X' md 35 = X md 35) : cacR ρ K' X' Rf' md (tuM M a fy ly b mn cl sv) := by
  have hff := h.ff
  obtain ⟨⟨hmd, hlmd⟩, hnum, hd, a9', a10, a11, a22, a34, ⟨g1, g2, g3, g4, g5⟩, hpc, hs, hl⟩ := h
  rw [hr9] at g1; cases g1
  have lab : ∀ f a, (kdM f).1 ≠ 0 → Rf md f = some a → (K a).1 ≠ 0 ∧ ρ a = 2001 + f := fun f a hk hr => by
    obtain ⟨b, w1, w2, w3⟩ := hff f hk
    rw [hr] at w1; cases w1
    exact ⟨by rw [w2]; exact hk, w3⟩
  have b10 := lab 10 a10 (by decide) g2
  have b11 := lab 11 a11 (by decide) g3
  have b22 := lab 22 a22 (by decide) g4
  have b34 := lab 34 a34 (by decide) g5
  have ef : ∀ f, f ≠ 7 → f ≠ 8 → tuM M a fy ly b mn cl sv f = M f := fun f q1 q2 => tuM_f q1 q2
  refine ⟨a9, a10, a11, a22, a34, by rw [hR md (zk1 hmd)]; exact ⟨hr9, g2, g3, g4, g5⟩, fun p hp6 => ?_, fun n hn => ?_, ?_⟩
  · rw [ef 40 (by decide) (by decide)]
    by_cases hpa : p = a
    · subst hpa; exact Or.inl ⟨ha5, Or.inl h9.1⟩
    · rw [h9.2 p hpa]
      rcases hpc p hp6 with ⟨w1, w2⟩ | w
      · refine Or.inl ⟨w1, (w2.keep (fun a c1 c2 => ⟨hK a c1, rfl, hX a c1 (by omega) (by omega) (by omega) (by omega)⟩) (h9.2 p hpa) (by rw [hR a10 b10.1]) (by rw [hR a11 b11.1])).mM (ev_congr (by rw [tuM_7, if_neg hpa]) (by rw [ef 6 (by decide) (by decide)]) (fun t _ => ?_))⟩
        rw [tuM_tur h7, if_neg (fun g => hpa g.1), tuM_tup h7, if_neg (fun g => hpa g.1)]
        exact ⟨⟨rfl, rfl, rfl, rfl, rfl⟩, rfl, rfl, rfl⟩
      · exact Or.inr w
  · refine ((hs n hn).keep (fun a c1 c2 => ⟨hK a c1, rfl, hX a c1 (by omega) (by omega) (by omega) (by omega)⟩) (by rw [hR a22 b22.1])).mM (by rw [ef 40 (by decide) (by decide)]; exact Int.le_refl _) (fun _ => dat_f (ef 17 (by decide) (by decide)) (ef 18 (by decide) (by decide)) (ef 19 (by decide) (by decide)) tuM_p)
  · rw [h35, hX a34 b34.1 (by omega) (by omega) (by omega) (by omega), fal_f (ef 30 (by decide) (by decide)) (ef 31 (by decide) (by decide)) (ef 32 (by decide) (by decide)) (ef 33 (by decide) (by decide)) tuM_p (by rw [ef 40 (by decide) (by decide)]) (by rw [ef 40 (by decide) (by decide)])]
    exact hl
/-- a series -/
theorem cacR.ser (h : repR ρ K X Rf md M) {i : Nat} {a bg ki st wd : Int} (hi : M 40 16 = i) (hK : ∀ a, (K a).1 ≠ 0 → K' a = K a) (hX : ∀ a, (K a).1 ≠ 0 → ρ a ≠ 2000 → ρ a ≠ 2018 → X' a = X a) (hR : ∀ a, (K a).1 ≠ 0 → Rf' a = Rf a) (h35 : X' md 35 = X md 35) : cacR ρ K' X' Rf' md (seM M i a bg ki st wd) := by
  have hff := h.ff
  obtain ⟨⟨hmd, hlmd⟩, hnum, hd, a9, a10, a11, a22, a34, ⟨g1, g2, g3, g4, g5⟩, hpc, hs, hl⟩ := h
  have lab : ∀ f a, (kdM f).1 ≠ 0 → Rf md f = some a → (K a).1 ≠ 0 ∧ ρ a = 2001 + f := fun f a hk hr => by
    obtain ⟨b, w1, w2, w3⟩ := hff f hk
    rw [hr] at w1; cases w1
    exact ⟨by rw [w2]; exact hk, w3⟩
  have b9 := lab 9 a9 (by decide) g1
  have b10 := lab 10 a10 (by decide) g2
  have b11 := lab 11 a11 (by decide) g3
  have b22 := lab 22 a22 (by decide) g4
  have b34 := lab 34 a34 (by decide) g5
  have ef : ∀ f, f ≠ 17 → f ≠ 40 → seM M i a bg ki st wd f = M f := fun f q1 q2 => seM_f q1 q2
  have e9 : ∀ q, q ≠ 16 → seM M i a bg ki st wd 40 q = M 40 q := fun q hq => by rw [seM_40, if_neg hq]
  have e16 : seM M i a bg ki st wd 40 16 = (i : Int) + 1 := by rw [seM_40, if_pos rfl]
  have X9 : X' a9 = X a9 := hX a9 b9.1 (by omega) (by omega)
  refine ⟨a9, a10, a11, a22, a34, by rw [hR md (zk1 hmd)]; exact ⟨g1, g2, g3, g4, g5⟩, fun p hp6 => ?_, fun n hn => ?_, ?_⟩
  · rw [e9 5 (by decide), X9]
    rcases hpc p hp6 with ⟨w1, w2⟩ | w
    · exact Or.inl ⟨w1, (w2.keep (fun a c1 c2 => ⟨hK a c1, rfl, hX a c1 (by omega) (by omega)⟩) (by rw [X9]) (by rw [hR a10 b10.1]) (by rw [hR a11 b11.1])).mM (ev_f (by rw [ef 6 (by decide) (by decide)]) (by rw [ef 7 (by decide) (by decide)]) (ef 8 (by decide) (by decide)) seM_p)⟩
    · exact Or.inr w
  · refine ((hs n hn).keep (fun a c1 c2 => ⟨hK a c1, rfl, hX a c1 (by omega) (by omega)⟩) (by rw [hR a22 b22.1])).mM (by rw [e16]; omega) (fun hn16 => ?_)
    unfold datM
    rw [seM_ser, if_neg (by omega), useM_f (ef 18 (by decide) (by decide)) seM_p, excM_f (ef 19 (by decide) (by decide))]
  · rw [h35, hX a34 b34.1 (by omega) (by omega), fal_f (ef 30 (by decide) (by decide)) (ef 31 (by decide) (by decide)) (ef 32 (by decide) (by decide)) (ef 33 (by decide) (by decide)) seM_p (e9 26 (by decide)) (e9 29 (by decide))]
    exact hl
end ZRA
