-- ===== the reference, new =====
theorem kd_cases {P : Nat → Prop} (h : P 2 ∧ P 3 ∧ P 4 ∧ P 6 ∧ P 7 ∧ P 8 ∧ P 9 ∧ P 10 ∧ P 11 ∧ P 17 ∧ P 18 ∧ P 19 ∧ P 20 ∧ P 22 ∧ P 23 ∧ P 30 ∧ P 31 ∧ P 32 ∧ P 33 ∧ P 34) {f : Nat} (hf : (kdM f).1 ≠ 0) : P f := by
  obtain ⟨a1, a2, a3, a4, a5, a6, a7, a8, a9, a10, a11, a12, a13, a14, a15, a16, a17, a18, a19, a20⟩ := h
  unfold kdM at hf
  split at hf <;> first | assumption | exact absurd rfl hf
theorem nu_cases {P : Nat → Prop} (h : P 1 ∧ P 5 ∧ P 16 ∧ P 25 ∧ P 26 ∧ P 27 ∧ P 28 ∧ P 29) {q : Nat} (hq : nuM q = true) : P q := by
  obtain ⟨a1, a2, a3, a4, a5, a6, a7, a8⟩ := h
  unfold nuM at hq
  split at hq <;> first | assumption | exact absurd hq (by decide)
theorem zupX_z {X : zX} {q b : Nat} (h : X b = fun _ => 0) : zupX X q b = fun _ => 0 := by
  unfold zupX; split
  · rfl
  · exact h
theorem zupR_z {R : zR} {q b : Nat} (h : R b = fun _ => none) : zupR R q b = fun _ => none := by
  unfold zupR; split
  · rfl
  · exact h
theorem repR_new {ρ' : zL} {K' : zK} {X' : zX} {Rf' : zR} {md : Nat} {g : Nat → Nat} (hk : K' md = (1, 8)) (hl : ρ' md = 2000) (hg : ∀ f, (kdM f).1 ≠ 0 → Rf' md f = some (g f) ∧ K' (g f) = kdM f ∧ ρ' (g f) = 2001 + f) (hx : ∀ f, (kdM f).1 ≠ 0 → X' (g f) = fun _ => 0) (hr : Rf' (g 22) = fun _ => none) (hn : (X' md 1 = 0 ∧ X' md 5 = 0 ∧ X' md 16 = 0 ∧ X' md 29 = 0) ∧ (X' md 25 = -1 ∧ X' md 26 = 31 ∧ X' md 27 = 540 ∧ X' md 28 = 1020) ∧ X' md 35 = 0) : repR ρ' K' X' Rf' md zM0 ∧ ptR X' Rf' md = 24006 := by
  obtain ⟨⟨n1, n5, n16, n29⟩, ⟨n25, n26, n27, n28⟩, n35⟩ := hn
  have z0 : ∀ f, f ≠ 40 → zM0 f = fun _ => 0 := fun f hf => by funext k; unfold zM0; rw [if_neg hf]
  have r9 := (hg 9 (by decide)).1
  have r22 := (hg 22 (by decide)).1
  refine ⟨⟨⟨hk, hl⟩, fun q hq => nu_cases (P := fun q => X' md q = zM0 40 q) ⟨n1, n5, n16, n25, n26, n27, n28, n29⟩ hq, fun f hf => ?_, g 9, g 10, g 11, g 22, g 34, ⟨r9, (hg 10 (by decide)).1, (hg 11 (by decide)).1, r22, (hg 34 (by decide)).1⟩, fun p hp => Or.inr ⟨by show (0 : Int) ≤ p; omega, by rw [hx 9 (by decide)]⟩, fun n hn => Or.inl (by rw [hr]), Or.inl n35⟩, ?_⟩
  · obtain ⟨w1, w2, w3⟩ := hg f hf
    exact ⟨g f, w1, w2, w3, fun _ => by rw [hx f hf, z0 f (by rintro rfl; exact hf rfl)]⟩
  · have e1 : ∀ p, dlC X' Rf' md p = 0 := fun p => by rw [dlC_a r9, hx 9 (by decide)]; rfl
    have e2 : ∀ n, dnC Rf' md n = 4001 := fun n => by rw [dnC_a r22, hr]; rfl
    unfold ptR
    rw [e1, e1, e1, e1, e1, e1, e2, e2, e2, e2, e2, e2]
