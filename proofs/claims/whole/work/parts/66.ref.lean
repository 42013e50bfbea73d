-- ===== changes of the reference's numbers =====
section ZRM
variable {ρ ρ' : zL} {K K' : zK} {X X' : zX} {Rf Rf' : zR} {M M' : zM} {md x : Nat}
/-- nothing but its own word changes -/
theorem repR.no (h : repR ρ K X Rf md M) {cd : Int} {M2 : zM} (hc : cd ≠ 0) (hx : X' = up2 X md 0 cd) : X' md 0 = cd ∧ ∃ ρ', repR ρ' K X' Rf md (if cd = 0 then M2 else M) ∧ frR ρ K X Rf ρ' K X' Rf ∧ ptR X' Rf md ≤ ptR X Rf md + 5000 := by
  subst hx
  rw [if_neg hc]
  exact ⟨up2_s, ρ, h.own ⟨rfl, by decide⟩, frR_own h, h.pt rfl (fun a _ g => up2_o (fun w => by have := h.1.2; rw [w] at g; omega)) (fun _ _ _ => rfl)⟩
theorem repR.same (h : repR ρ K X Rf md M) {cd : Int} (hx : X' = up2 X md 0 cd) : X' md 0 = cd ∧ ∃ ρ', repR ρ' K X' Rf md M ∧ frR ρ K X Rf ρ' K X' Rf ∧ ptR X' Rf md ≤ ptR X Rf md + 5000 := by
  subst hx
  exact ⟨up2_s, ρ, h.own ⟨rfl, by decide⟩, frR_own h, h.pt rfl (fun a _ g => up2_o (fun w => by have := h.1.2; rw [w] at g; omega)) (fun _ _ _ => rfl)⟩
theorem cacR.memX (h : cacR ρ K X Rf md M) (hn : repN ρ K X Rf md M) (hA : ∀ a, (K a).1 ≠ 0 → ρ a ≠ 2000 → (∀ f, daM f = true → ρ a ≠ 2001 + f) → X' a = X a) (h35 : X' md 35 = X md 35 ∨ X' md 35 = 0) : cacR ρ K X' Rf md M := by
  obtain ⟨a9, a10, a11, a22, a34, ⟨g1, g2, g3, g4, g5⟩, hp, hs, hl⟩ := h
  have at1 : ∀ f a, (kdM f).1 ≠ 0 → daM f = false → Rf md f = some a → X' a = X a := fun f a hk hd hr => by
    obtain ⟨b, q1, q2, q3⟩ := hn.ff f hk
    rw [hr] at q1; cases q1
    have h39 : f < 39 := by
      by_cases g : f < 39
      · exact g
      · exfalso
        apply hk
        unfold kdM
        split <;> first | omega | rfl
    exact hA a (by rw [q2]; exact hk) (by omega) (fun g hg w => by
      have e : g = f := by omega
      rw [e, hd] at hg; exact absurd hg (by decide))
  have dlt : ∀ f, daM f = true → f < 39 := fun f hf => by
    by_cases g : f < 39
    · exact g
    · exfalso
      revert hf
      unfold daM
      split <;> first | omega | simp
  have far : ∀ a, (K a).1 ≠ 0 → 2040 ≤ ρ a → X' a = X a := fun a ha hl => hA a ha (by omega) (fun f hf => by have := dlt f hf; omega)
  have b9 := at1 9 a9 (by decide) rfl g1
  have b34 := at1 34 a34 (by decide) rfl g5
  refine ⟨a9, a10, a11, a22, a34, ⟨g1, g2, g3, g4, g5⟩, fun p hp6 => ?_, fun n hn => (hs n hn).keep (fun a q1 q2 => ⟨rfl, rfl, far a q1 (by omega)⟩) rfl, ?_⟩
  · rcases hp p hp6 with ⟨q1, q2⟩ | ⟨q1, q2⟩
    · exact Or.inl ⟨q1, q2.keep (fun a w1 w2 => ⟨rfl, rfl, far a w1 (by omega)⟩) (by rw [b9]) rfl rfl⟩
    · exact Or.inr ⟨q1, by rw [b9]; exact q2⟩
  · rw [b34]
    rcases h35 with q | q
    · rw [q]; exact hl
    · exact Or.inl q
/-- the numbers tell of places and series the same -/
def sameT (M M' : zM) : Prop := M' 40 5 = M 40 5 ∧ M' 40 16 = M 40 16 ∧ (∀ p : Nat, (p : Int) < M 40 5 → evNM M' p = evNM M p ∧ (∀ k, k < evNM M p → evMo M' p k = evMo M p k) ∧ ∀ k, k < evNM M p → evSv M' p (k + 1) = evSv M p (k + 1)) ∧ (∀ n : Nat, (n : Int) < M 40 16 → datM M' n = datM M n)
/-- only the numbers change -/
theorem repR.mutX (h : repR ρ K X Rf md M) (hn : repN ρ K X' Rf md M') (hA : ∀ a, (K a).1 ≠ 0 → ρ a ≠ 2000 → (∀ f, daM f = true → ρ a ≠ 2001 + f) → X' a = X a) (h35 : X' md 35 = X md 35 ∨ X' md 35 = 0) (h0 : X' md 0 = 0) (hs : sameT M M') (hf : X' md 35 = 0 ∨ falM M' = falM M) {cd : Int} (hc : cd = 0) : X' md 0 = cd ∧ ∃ ρ', repR ρ' K X' Rf md (if cd = 0 then M' else M) ∧ frR ρ K X Rf ρ' K X' Rf ∧ ptR X' Rf md ≤ ptR X Rf md + 5000 := by
  rw [hc, if_pos rfl]
  refine ⟨h0, ρ, hn.r ((h.2.2.2.memX h.n hA h35).mM hs.1 hs.2.1 hs.2.2.1 hs.2.2.2 hf), fun a ha => ⟨rfl, rfl, fun g => ⟨hA a ha (by omega) (fun f hf => ?_), rfl⟩⟩, h.pt rfl (fun a ha g => hA a ha (by omega) (fun f hf w => by
    have : f = 9 := by omega
    rw [this] at hf; exact absurd hf (by decide))) (fun _ _ _ => rfl)⟩
  have : f < 39 := by
    by_cases w : f < 39
    · exact w
    · exfalso
      revert hf
      unfold daM
      split <;> first | omega | simp
  omega
theorem datM_congr {n : Nat} (h17 : serM M' n = serM M n) (h19 : excM M' n = excM M n) (hu : ∀ k : Nat, (k : Int) < serM M n 9 → psame (useM M n k) (useM M' n k)) : datM M' n = datM M n := by
  unfold datM
  rw [h17, h19]
  exact (dtS_congr hu).symm
theorem ev_f {p : Nat} (h6 : M' 6 p = M 6 p) (h7 : M' 7 p = M 7 p) (h8 : M' 8 = M 8) (hp : ∀ k, patM M' k = patM M k) : evNM M' p = evNM M p ∧ (∀ k, k < evNM M p → evMo M' p k = evMo M p k) ∧ ∀ k, k < evNM M p → evSv M' p (k + 1) = evSv M p (k + 1) := by
  refine ev_congr h7 h6 (fun k _ => ?_)
  have e1 : turM M' p k = turM M p k := by funext q; unfold turM; rw [h8]
  have e2 : tupM M' p k = tupM M p k := by unfold tupM; rw [h8, hp]
  rw [e1, e2]
  exact ⟨⟨rfl, rfl, rfl, rfl, rfl⟩, rfl, rfl, rfl⟩
theorem dat_f {n : Nat} (h17 : M' 17 = M 17) (h18 : M' 18 = M 18) (h19 : M' 19 = M 19) (hp : ∀ k, patM M' k = patM M k) : datM M' n = datM M n := by
  unfold datM
  rw [serM_f h17, useM_f h18 hp, excM_f h19]
theorem fal_f (h30 : M' 30 = M 30) (h31 : M' 31 = M 31) (h32 : M' 32 = M 32) (h33 : M' 33 = M 33) (hp : ∀ k, patM M' k = patM M k) (h26 : M' 40 26 = M 40 26) (h29 : M' 40 29 = M 40 29) : falM M' = falM M := by
  have e1 : feaM M' = feaM M := by funext k q; unfold feaM; rw [h30, h31, h33]
  have e2 : fepM M' = fepM M := by funext k; unfold fepM; rw [h32, hp]
  unfold falM
  rw [e1, e2, h26, h29]
theorem sameT_f (h5 : M' 40 5 = M 40 5) (h16 : M' 40 16 = M 40 16) (h6 : M' 6 = M 6) (h7 : M' 7 = M 7) (h8 : M' 8 = M 8) (h17 : M' 17 = M 17) (h18 : M' 18 = M 18) (h19 : M' 19 = M 19) (hp : ∀ k, patM M' k = patM M k) : sameT M M' := ⟨h5, h16, fun p _ => ev_f (by rw [h6]) (by rw [h7]) h8 hp, fun n _ => dat_f h17 h18 h19 hp⟩
theorem upM_f {q f : Nat} {v : Int} (h : f ≠ 40) : upM M q v f = M f := by unfold upM; exact up2_o h
theorem upM_q {q j : Nat} {v : Int} (h : j ≠ q) : upM M q v 40 j = M 40 j := by unfold upM; exact up2_k h
theorem upM_p {q : Nat} {v : Int} (k : Nat) : patM (upM M q v) k = patM M k := patM_eq (upM_f (by decide)) (upM_f (by decide)) (upM_f (by decide)) k
theorem upM_T {q : Nat} {v : Int} (h5 : 5 ≠ q) (h16 : 16 ≠ q) : sameT M (upM M q v) := sameT_f (upM_q h5) (upM_q h16) (upM_f (by decide)) (upM_f (by decide)) (upM_f (by decide)) (upM_f (by decide)) (upM_f (by decide)) (upM_f (by decide)) upM_p
theorem upM_F {q : Nat} {v : Int} (h26 : 26 ≠ q) (h29 : 29 ≠ q) : falM (upM M q v) = falM M := fal_f (upM_f (by decide)) (upM_f (by decide)) (upM_f (by decide)) (upM_f (by decide)) upM_p (upM_q h26) (upM_q h29)
theorem faM_T {i : Nat} {fy ly b wy : Int} : sameT M (faM M i fy ly b wy) := by
  have hf : ∀ f, f ≠ 30 → f ≠ 31 → f ≠ 32 → f ≠ 33 → f ≠ 40 → faM M i fy ly b wy f = M f := fun f a b c d e => faM_f a b c d e
  refine sameT_f (by rw [faM_40, if_neg (by decide)]) (by rw [faM_40, if_neg (by decide)]) ?_ ?_ ?_ ?_ ?_ ?_ faM_p <;> exact hf _ (by decide) (by decide) (by decide) (by decide) (by decide)
theorem padM_T (hM : okM M) {i : Nat} {mo ki nu : Int} (hi : M 40 1 = i) : sameT M (padM M i mo ki nu) ∧ falM (padM M i mo ki nu) = falM M := by
  obtain ⟨mb, mP, mL, mS, mW, mF⟩ := hM
  have idx : ∀ z : Int, 0 ≤ z ∧ z < M 40 1 → patM (padM M i mo ki nu) z.toNat = patM M z.toNat := fun z hz => padM_p (by omega)
  have e8 : ∀ k, turM (padM M i mo ki nu) k = turM M k := fun k => by funext t j; unfold turM; rw [padM_f (by decide) (by decide) (by decide) (by decide)]
  have e17 : ∀ k, serM (padM M i mo ki nu) k = serM M k := fun k => by unfold serM; rw [padM_f (by decide) (by decide) (by decide) (by decide)]
  have e19 : ∀ k, excM (padM M i mo ki nu) k = excM M k := fun k => by unfold excM; rw [padM_f (by decide) (by decide) (by decide) (by decide)]
  have h9 : ∀ q, q ≠ 1 → padM M i mo ki nu 40 q = M 40 q := fun q hq => by rw [padM_40, if_neg hq]
  refine ⟨⟨h9 5 (by decide), h9 16 (by decide), fun p hp => ?_, fun n hn => ?_⟩, ?_⟩
  · refine ev_congr (by rw [padM_f (by decide) (by decide) (by decide) (by decide)]) (by rw [padM_f (by decide) (by decide) (by decide) (by decide)]) (fun t ht => ?_)
    have m1 := mL p hp
    have m2 := (m1.2.2 t (by omega)).2.1
    have e : tupM (padM M i mo ki nu) p t = tupM M p t := by
      unfold tupM
      split
      · rw [padM_f (f := 8) (by decide) (by decide) (by decide) (by decide)]
        refine idx _ ?_
        have m3 : turM M p t 2 = M 8 ((6 * p + t) * 6 + 2) := by unfold turM; rw [if_pos ⟨by omega, by decide⟩]
        rw [m3] at m2; exact m2
      · rfl
    rw [e, e8]; exact ⟨⟨rfl, rfl, rfl, rfl, rfl⟩, rfl, rfl, rfl⟩
  · refine datM_congr (e17 n) (e19 n) (fun j hj => ?_)
    have m1 := mS n hn
    have m2 := m1.2.2.1 j hj
    have hj4 : j < 4 := by have := m1.1.2.2.2.2.2.2.2.2.1; omega
    have e : useM (padM M i mo ki nu) n j = useM M n j := by
      unfold useM
      rw [if_pos hj4, if_pos hj4, padM_f (f := 18) (by decide) (by decide) (by decide) (by decide)]
      exact idx _ m2
    rw [e]; exact ⟨rfl, rfl, rfl⟩
  · unfold falM
    rw [h9 26 (by decide), h9 29 (by decide)]
    refine Fa_congr (fun k hk => ⟨?_, ?_⟩)
    · funext j; unfold feaM; rw [padM_f (f := 30) (by decide) (by decide) (by decide) (by decide), padM_f (f := 31) (by decide) (by decide) (by decide) (by decide), padM_f (f := 33) (by decide) (by decide) (by decide) (by decide)]
    · unfold fepM
      rw [padM_f (f := 32) (by decide) (by decide) (by decide) (by decide)]
      exact idx _ (mF k (by omega)).2
end ZRM
