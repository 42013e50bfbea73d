-- ===== the reference's numbers; what it has laid, for other numbers =====
def repN (ρ : zL) (K : zK) (X : zX) (Rf : zR) (md : Nat) (M : zM) : Prop :=
  (K md = (1, 8) ∧ ρ md = 2000) ∧ (∀ q, nuM q = true → X md q = M 40 q) ∧ ∀ f, (kdM f).1 ≠ 0 → ∃ a, Rf md f = some a ∧ K a = kdM f ∧ ρ a = 2001 + f ∧ (daM f = true → X a = M f)
theorem kdM_40 : kdM 40 = (0, 0) := rfl
section ZRN
variable {ρ ρ' : zL} {K K' : zK} {X X' : zX} {Rf Rf' : zR} {M M' : zM} {md x : Nat}
theorem repR.n (h : repR ρ K X Rf md M) : repN ρ K X Rf md M := ⟨h.1, h.2.1, h.2.2.1⟩
theorem repN.r (h : repN ρ K X Rf md M) (hc : cacR ρ K X Rf md M) : repR ρ K X Rf md M := ⟨h.1, h.2.1, h.2.2, hc⟩
theorem repN.ff (h : repN ρ K X Rf md M) (f : Nat) (hk : (kdM f).1 ≠ 0) : ∃ a, Rf md f = some a ∧ K a = kdM f ∧ ρ a = 2001 + f := by
  obtain ⟨a, h1, h2, h3, -⟩ := h.2.2 f hk
  exact ⟨a, h1, h2, h3⟩
/-- one row has other numbers -/
theorem repN.rowF (h : repN ρ K X Rf md M) {f a : Nat} (hk : (kdM f).1 ≠ 0) (hr : Rf md f = some a) (ho : ∀ b, b ≠ a → X' b = X b) (hM : ∀ g, g ≠ f → M' g = M g) (he : daM f = true → X' a = M' f) : repN ρ K X' Rf md M' := by
  obtain ⟨a', q1, q2, q3⟩ := h.ff f hk
  rw [hr] at q1; cases q1
  have hne : md ≠ a := fun g => by have := h.1.2; rw [g] at this; omega
  refine ⟨h.1, fun q g => by rw [ho md hne, hM 40 (by rintro rfl; exact hk rfl)]; exact h.2.1 q g, fun g hg => ?_⟩
  obtain ⟨b, w1, w2, w3, w4⟩ := h.2.2 g hg
  refine ⟨b, w1, w2, w3, fun hd => ?_⟩
  by_cases hgf : g = f
  · subst hgf
    rw [hr] at w1; cases w1
    exact he hd
  · rw [ho b (fun w => by rw [w] at w3; omega), hM g hgf]; exact w4 hd
theorem repN.row (h : repN ρ K X Rf md M) {f a k : Nat} {v : Int} (hk : (kdM f).1 ≠ 0) (hr : Rf md f = some a) (hd : daM f = true) : repN ρ K (up2 X a k v) Rf md (up2 M f k v) := by
  refine h.rowF hk hr (fun b hb => up2_o hb) (fun g hg => up2_o hg) (fun _ => ?_)
  obtain ⟨b, w1, w2, w3, w4⟩ := h.2.2 f hk
  rw [hr] at w1; cases w1
  funext j
  rw [up2_eq, up2_eq, w4 hd]
  simp
theorem repN.num (h : repN ρ K X Rf md M) {q : Nat} {v : Int} : repN ρ K (up2 X md q v) Rf md (upM M q v) := by
  refine ⟨h.1, fun q' g => ?_, fun f hf => ?_⟩
  · unfold upM
    rw [up2_eq, up2_eq, h.2.1 q' g]; simp
  · obtain ⟨b, w1, w2, w3, w4⟩ := h.2.2 f hf
    refine ⟨b, w1, w2, w3, fun hd => ?_⟩
    unfold upM
    rw [up2_o (fun w => by have := h.1.2; rw [w] at w3; omega), up2_o (by rintro rfl; exact hf rfl)]; exact w4 hd
theorem repN.own (h : repN ρ K X Rf md M) {q : Nat} {v : Int} (hq : nuM q = false) : repN ρ K (up2 X md q v) Rf md M := by
  refine ⟨h.1, fun q' g => ?_, fun f hf => ?_⟩
  · rw [up2_k (by rintro rfl; rw [hq] at g; exact absurd g (by decide))]; exact h.2.1 q' g
  · obtain ⟨b, w1, w2, w3, w4⟩ := h.2.2 f hf
    refine ⟨b, w1, w2, w3, fun hd => ?_⟩
    rw [up2_o (fun w => by have := h.1.2; rw [w] at w3; omega)]; exact w4 hd
/-- a row that is none of the numbers -/
theorem repN.oth (h : repN ρ K X Rf md M) {f a : Nat} (hk : (kdM f).1 ≠ 0) (hr : Rf md f = some a) (hd : daM f = false) (ho : ∀ b, b ≠ a → X' b = X b) : repN ρ K X' Rf md M := h.rowF hk hr ho (fun _ _ => rfl) (fun g => by rw [hd] at g; exact absurd g (by decide))
/-- cells that are none of the reference's fixed ones -/
theorem repN.keep (h : repN ρ K X Rf md M) (hz : ∀ a, (K a).1 ≠ 0 → 2000 ≤ ρ a → ρ a < 2040 → K' a = K a ∧ ρ' a = ρ a ∧ X' a = X a) (hR : Rf' md = Rf md) : repN ρ' K' X' Rf' md M := by
  have e := hz md (zk1 h.1.1) (by have := h.1.2; omega) (by have := h.1.2; omega)
  refine ⟨⟨by rw [e.1]; exact h.1.1, by rw [e.2.1]; exact h.1.2⟩, fun q g => by rw [e.2.2]; exact h.2.1 q g, fun f hf => ?_⟩
  obtain ⟨b, w1, w2, w3, w4⟩ := h.2.2 f hf
  have hf40 : f < 39 := by
    by_cases g : f < 39
    · exact g
    · exfalso
      apply hf
      unfold kdM
      split <;> first | omega | rfl
  have e2 := hz b (by rw [w2]; exact hf) (by omega) (by omega)
  exact ⟨b, by rw [hR]; exact w1, by rw [e2.1]; exact w2, by rw [e2.2.1]; exact w3, fun hd => by rw [e2.2.2]; exact w4 hd⟩
theorem Fa_congr {w : Int} {F F' Fp Fp' : Nat → Nat → Int} : ∀ {n : Nat}, (∀ k, k < n → F k = F' k ∧ Fp k = Fp' k) → Fa w F Fp n = Fa w F' Fp' n
  | 0, _ => rfl
  | n + 1, h => by
    have h9 := h n (by omega)
    funext d
    show bF _ _ _ _ _ _ _ d = bF _ _ _ _ _ _ _ d
    rw [Fa_congr (fun k hk => h k (by omega)), h9.1, h9.2]
theorem ev_congr {p : Nat} (h7 : M' 7 p = M 7 p) (h6 : M' 6 p = M 6 p) (ht : ∀ k, k < (M 7 p).toNat → tsame (turM M p k) (turM M' p k) ∧ psame (tupM M p k) (tupM M' p k)) : evNM M' p = evNM M p ∧ (∀ k, k < evNM M p → evMo M' p k = evMo M p k) ∧ ∀ k, k < evNM M p → evSv M' p (k + 1) = evSv M p (k + 1) := by
  have eL := evL_congr ht
  have hL : evLM M' p = evLM M p := by unfold evLM evF; rw [h7, eL]
  have hN : evNM M' p = evNM M p := by unfold evNM evN; rw [h7, eL]
  have hev := evF_ok (turM M p) (tupM M p) (M 7 p).toNat
  have hi8 : ∀ i, i < evNM M p → (evLM M p i % 8).toNat < (M 7 p).toNat := fun i hi => by
    obtain ⟨k, hk, y, hy, h1, h2⟩ := hev.2.1 i hi
    unfold evLM
    omega
  have hst : ∀ j, j ≤ evNM M p → stF (turM M p) (M 6 p) (evLM M p) j = stF (turM M' p) (M 6 p) (evLM M p) j := fun j hj => stF_congr2 j (fun i hi => (ht _ (hi8 i (by omega))).1)
  refine ⟨hN, fun k hk => ?_, fun k hk => ?_⟩
  · unfold evMo
    rw [hL, h6]
    show (stF _ _ _ (k + 1)).1 = (stF _ _ _ (k + 1)).1
    rw [hst (k + 1) (by omega)]
  · unfold evSv
    rw [hL, h6, hst (k + 1) (by omega)]
theorem plcR.mM {a9 a10 a11 p : Nat} (h : plcR ρ K X Rf a9 a10 a11 M p) (he : evNM M' p = evNM M p ∧ (∀ k, k < evNM M p → evMo M' p k = evMo M p k) ∧ ∀ k, k < evNM M p → evSv M' p (k + 1) = evSv M p (k + 1)) : plcR ρ K X Rf a9 a10 a11 M' p := by
  obtain ⟨e1, e2, e3⟩ := he
  rcases h with h | ⟨mo, sv, h1, h2, h3, h4, h5, h6⟩
  · exact Or.inl h
  · exact Or.inr ⟨mo, sv, h1, by rw [e1]; exact h2, h3, by rw [e1]; exact h4, fun k hk => by rw [e1] at hk; rw [e2 k hk]; exact h5 k hk, fun k hk => by rw [e1] at hk; rw [e3 k hk]; exact h6 k hk⟩
theorem serR.mM {a22 n : Nat} (h : serR ρ K X Rf a22 M n) (h16 : M 40 16 ≤ M' 40 16) (hd : (n : Int) < M 40 16 → datM M' n = datM M n) : serR ρ K X Rf a22 M' n := by
  rcases h with h | ⟨r, h1, h2, h3, h4, h5⟩
  · exact Or.inl h
  · have e := hd h4
    exact Or.inr ⟨r, h1, by rw [e]; exact h2, h3, by omega, by rw [e]; exact h5⟩
/-- what it has laid, for other numbers that tell the same -/
theorem cacR.mM (h : cacR ρ K X Rf md M) (h5 : M' 40 5 = M 40 5) (h16 : M' 40 16 = M 40 16) (hev : ∀ p : Nat, (p : Int) < M 40 5 → evNM M' p = evNM M p ∧ (∀ k, k < evNM M p → evMo M' p k = evMo M p k) ∧ ∀ k, k < evNM M p → evSv M' p (k + 1) = evSv M p (k + 1)) (hdt : ∀ n : Nat, (n : Int) < M 40 16 → datM M' n = datM M n) (hfa : X md 35 = 0 ∨ falM M' = falM M) : cacR ρ K X Rf md M' := by
  obtain ⟨a9, a10, a11, a22, a34, hg, hp, hs, hl⟩ := h
  refine ⟨a9, a10, a11, a22, a34, hg, fun p hp6 => ?_, fun n hn => (hs n hn).mM (by omega) (hdt n), ?_⟩
  · rw [h5]
    rcases hp p hp6 with ⟨q1, q2⟩ | q
    · exact Or.inl ⟨q1, q2.mM (hev p q1)⟩
    · exact Or.inr q
  · rcases hl with q | ⟨q1, q2⟩
    · exact Or.inl q
    · rcases hfa with q | q
      · rw [q1] at q; omega
      · exact Or.inr ⟨q1, fun d hd => by rw [q]; exact q2 d hd⟩
end ZRN
