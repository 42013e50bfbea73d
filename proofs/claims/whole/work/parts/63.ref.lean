-- ===== the reference's object =====
def kdM : Nat → Nat × Nat
  | 2 => (2, 24) | 3 => (2, 24) | 4 => (2, 24) | 6 => (2, 6) | 7 => (2, 6) | 8 => (2, 216) | 9 => (2, 6) | 10 => (11, 6) | 11 => (11, 6) | 17 => (2, 66) | 18 => (2, 24) | 19 => (2, 48) | 20 => (2, 366) | 22 => (11, 6) | 23 => (2, 4001) | 30 => (2, 20) | 31 => (2, 20) | 32 => (2, 20) | 33 => (2, 20) | 34 => (3, 73049) | _ => (0, 0)
/-- the rows that are the calendar's numbers -/
def daM : Nat → Bool
  | 2 => true | 3 => true | 4 => true | 6 => true | 7 => true | 8 => true | 17 => true | 18 => true | 19 => true | 30 => true | 31 => true | 32 => true | 33 => true | _ => false
def nuM : Nat → Bool
  | 1 => true | 5 => true | 16 => true | 25 => true | 26 => true | 27 => true | 28 => true | 29 => true | _ => false
/-- the events of a place -/
def evLM (M : zM) (p : Nat) : Nat → Int := evF (turM M p) (tupM M p) (M 7 p).toNat
def evNM (M : zM) (p : Nat) : Nat := evN (turM M p) (tupM M p) (M 7 p).toNat
/-- the moment and the saving of a place's k-th event -/
def evMo (M : zM) (p k : Nat) : Int := moE (turM M p) (M 6 p) (evLM M p) k
def evSv (M : zM) (p k : Nat) : Int := (stF (turM M p) (M 6 p) (evLM M p) k).2
/-- what has been laid of a place -/
def plcR (ρ : zL) (K : zK) (X : zX) (Rf : zR) (a9 a10 a11 : Nat) (M : zM) (p : Nat) : Prop :=
  X a9 p = -1 ∨ ∃ mo sv : Nat, (Rf a10 p = some mo ∧ Rf a11 p = some sv) ∧ (K mo = (2, evNM M p) ∧ K sv = (2, evNM M p)) ∧ (ρ mo = 3000 + p ∧ ρ sv = 3010 + p) ∧ X a9 p = evNM M p ∧ (∀ k, k < evNM M p → X mo k = evMo M p k) ∧ ∀ k, k < evNM M p → X sv k = evSv M p (k + 1)
/-- the dates of a series that have been laid -/
def serR (ρ : zL) (K : zK) (X : zX) (Rf : zR) (a22 : Nat) (M : zM) (n : Nat) : Prop :=
  Rf a22 n = none ∨ ∃ r : Nat, Rf a22 n = some r ∧ K r = (2, (datM M n).length) ∧ ρ r = 3020 + n ∧ (n : Int) < M 40 16 ∧ ∀ k, k < (datM M n).length → X r k = (datM M n).getD k 0
def cacR (ρ : zL) (K : zK) (X : zX) (Rf : zR) (md : Nat) (M : zM) : Prop :=
  ∃ a9 a10 a11 a22 a34 : Nat, (Rf md 9 = some a9 ∧ Rf md 10 = some a10 ∧ Rf md 11 = some a11 ∧ Rf md 22 = some a22 ∧ Rf md 34 = some a34) ∧ (∀ p : Nat, p < 6 → ((p : Int) < M 40 5 ∧ plcR ρ K X Rf a9 a10 a11 M p) ∨ (M 40 5 ≤ p ∧ X a9 p = 0)) ∧ (∀ n : Nat, n < 6 → serR ρ K X Rf a22 M n) ∧ (X md 35 = 0 ∨ (X md 35 = 1 ∧ ∀ d : Nat, d ≤ 73048 → X a34 d = falM M d))
def repR (ρ : zL) (K : zK) (X : zX) (Rf : zR) (md : Nat) (M : zM) : Prop :=
  (K md = (1, 8) ∧ ρ md = 2000) ∧ (∀ q, nuM q = true → X md q = M 40 q) ∧ (∀ f, (kdM f).1 ≠ 0 → ∃ a, Rf md f = some a ∧ K a = kdM f ∧ ρ a = 2001 + f ∧ (daM f = true → X a = M f)) ∧ cacR ρ K X Rf md M
/-- what a call of the reference leaves alone -/
def frR (ρ : zL) (K : zK) (X : zX) (Rf : zR) (ρ' : zL) (K' : zK) (X' : zX) (Rf' : zR) : Prop := ∀ a, (K a).1 ≠ 0 → K' a = K a ∧ ρ' a = ρ a ∧ (ρ a < 2000 ∨ 4000 ≤ ρ a → X' a = X a ∧ Rf' a = Rf a)
/-- two addresses apart; the arithmetic need not see it -/
def Apt (a b : Nat) : Prop := a ≠ b
theorem it1 {P : Prop} [Decidable P] (h : (if P then (1 : Int) else 0) ≠ 0) : P := by
  by_cases q : P
  · exact q
  · rw [if_neg q] at h; exact absurd rfl h
theorem it0 {P : Prop} [Decidable P] (h : (if P then (1 : Int) else 0) = 0) : ¬P := fun q => by rw [if_pos q] at h; exact absurd h (by decide)
section ZRF
variable {ρ ρ' : zL} {K K' : zK} {X X' : zX} {Rf Rf' : zR} {M M' : zM} {md x : Nat}
theorem frR_refl : frR ρ K X Rf ρ K X Rf := fun _ _ => ⟨rfl, rfl, fun _ => ⟨rfl, rfl⟩⟩
theorem repR.ff (h : repR ρ K X Rf md M) (f : Nat) (hk : (kdM f).1 ≠ 0) : ∃ a, Rf md f = some a ∧ K a = kdM f ∧ ρ a = 2001 + f := by
  obtain ⟨a, h1, h2, h3, -⟩ := h.2.2.1 f hk
  exact ⟨a, h1, h2, h3⟩
theorem repR.fd (h : repR ρ K X Rf md M) (f : Nat) (hk : (kdM f).1 ≠ 0) (hd : daM f = true) : ∃ a, Rf md f = some a ∧ K a = kdM f ∧ ρ a = 2001 + f ∧ X a = M f := by
  obtain ⟨a, h1, h2, h3, h4⟩ := h.2.2.1 f hk
  exact ⟨a, h1, h2, h3, h4 hd⟩
theorem plcR.keep {a9 a10 a11 p : Nat} (h : plcR ρ K X Rf a9 a10 a11 M p) (hz : ∀ a, (K a).1 ≠ 0 → (ρ a = 3000 + p ∨ ρ a = 3010 + p) → K' a = K a ∧ ρ' a = ρ a ∧ X' a = X a) (h9 : X' a9 p = X a9 p) (h10 : Rf' a10 p = Rf a10 p) (h11 : Rf' a11 p = Rf a11 p) : plcR ρ' K' X' Rf' a9 a10 a11 M p := by
  rcases h with h | ⟨mo, sv, ⟨h1, h2⟩, ⟨h3, h4⟩, ⟨h5, h6⟩, h7, h8, h12⟩
  · exact Or.inl (by rw [h9]; exact h)
  · have e1 := hz mo (zk1 h3) (Or.inl h5)
    have e2 := hz sv (zk1 h4) (Or.inr h6)
    exact Or.inr ⟨mo, sv, ⟨by rw [h10]; exact h1, by rw [h11]; exact h2⟩, ⟨by rw [e1.1]; exact h3, by rw [e2.1]; exact h4⟩, ⟨by rw [e1.2.1]; exact h5, by rw [e2.2.1]; exact h6⟩, by rw [h9]; exact h7, by rw [e1.2.2]; exact h8, by rw [e2.2.2]; exact h12⟩
theorem serR.keep {a22 n : Nat} (h : serR ρ K X Rf a22 M n) (hz : ∀ a, (K a).1 ≠ 0 → ρ a = 3020 + n → K' a = K a ∧ ρ' a = ρ a ∧ X' a = X a) (h22 : Rf' a22 n = Rf a22 n) : serR ρ' K' X' Rf' a22 M n := by
  rcases h with h | ⟨r, h1, h2, h3, h4, h5⟩
  · exact Or.inl (by rw [h22]; exact h)
  · have e := hz r (zk1 h2) h3
    exact Or.inr ⟨r, by rw [h22]; exact h1, by rw [e.1]; exact h2, by rw [e.2.1]; exact h3, h4, by rw [e.2.2]; exact h5⟩
/-- what leaves the reference's cells alone leaves it alone -/
theorem repR.keep (h : repR ρ K X Rf md M) (hz : ∀ a, (K a).1 ≠ 0 → 2000 ≤ ρ a → K' a = K a ∧ ρ' a = ρ a ∧ X' a = X a ∧ Rf' a = Rf a) : repR ρ' K' X' Rf' md M := by
  have hf := h.ff
  obtain ⟨⟨h1, h2⟩, hq, hd, a9, a10, a11, a22, a34, ⟨g1, g2, g3, g4, g5⟩, hp, hs, hl⟩ := h
  have e := hz md (zk1 h1) (by omega)
  have at1 : ∀ f a, (kdM f).1 ≠ 0 → Rf md f = some a → X' a = X a ∧ Rf' a = Rf a := fun f a hk hr => by
    obtain ⟨b, q1, q2, q3⟩ := hf f hk
    rw [hr] at q1; cases q1
    exact (hz a (by rw [q2]; exact hk) (by omega)).2.2
  have b9 := at1 9 a9 (by decide) g1
  have b10 := at1 10 a10 (by decide) g2
  have b11 := at1 11 a11 (by decide) g3
  have b22 := at1 22 a22 (by decide) g4
  have b34 := at1 34 a34 (by decide) g5
  refine ⟨⟨by rw [e.1]; exact h1, by rw [e.2.1]; exact h2⟩, fun q g => by rw [e.2.2.1]; exact hq q g, fun f hk => ?_, a9, a10, a11, a22, a34, by rw [e.2.2.2]; exact ⟨g1, g2, g3, g4, g5⟩, fun p hp6 => ?_, fun n hn => (hs n hn).keep (fun a q1 q2 => ⟨(hz a q1 (by omega)).1, (hz a q1 (by omega)).2.1, (hz a q1 (by omega)).2.2.1⟩) (by rw [b22.2]), by rw [e.2.2.1, b34.1]; exact hl⟩
  · obtain ⟨a, q1, q2, q3, q4⟩ := hd f hk
    have e2 := hz a (by rw [q2]; exact hk) (by omega)
    exact ⟨a, by rw [e.2.2.2]; exact q1, by rw [e2.1]; exact q2, by rw [e2.2.1]; exact q3, fun g => by rw [e2.2.2.1]; exact q4 g⟩
  · rcases hp p hp6 with ⟨q1, q2⟩ | ⟨q1, q2⟩
    · exact Or.inl ⟨q1, q2.keep (fun a w1 w2 => ⟨(hz a w1 (by omega)).1, (hz a w1 (by omega)).2.1, (hz a w1 (by omega)).2.2.1⟩) (by rw [b9.1]) (by rw [b10.2]) (by rw [b11.2])⟩
    · exact Or.inr ⟨q1, by rw [b9.1]; exact q2⟩
/-- the class's calls leave the reference alone -/
theorem repR.cls (h : repR ρ K X Rf md M) (hz : frC ρ K X Rf ρ' K' X' Rf') : repR ρ' K' X' Rf' md M := h.keep (fun a h1 h2 => ⟨(hz a h1).1, (hz a h1).2.1, (hz a h1).2.2 h2⟩)
/-- a number of its own that is none of the calendar's -/
theorem repR.own (h : repR ρ K X Rf md M) {q : Nat} {v : Int} (hq : nuM q = false ∧ q ≠ 35) : repR ρ K (up2 X md q v) Rf md M := by
  have hf := h.ff
  obtain ⟨⟨h1, h2⟩, hn, hd, a9, a10, a11, a22, a34, ⟨g1, g2, g3, g4, g5⟩, hp, hs, hl⟩ := h
  have ne : ∀ f a, (kdM f).1 ≠ 0 → Rf md f = some a → a ≠ md := fun f a hk hr g => by
    obtain ⟨b, q1, q2, q3⟩ := hf f hk
    rw [hr] at q1; cases q1
    rw [g] at q3; omega
  refine ⟨⟨h1, h2⟩, fun q' g => by rw [up2_k (by rintro rfl; rw [hq.1] at g; exact absurd g (by decide))]; exact hn q' g, fun f hk => ?_, a9, a10, a11, a22, a34, ⟨g1, g2, g3, g4, g5⟩, fun p hp6 => ?_, fun n hn6 => (hs n hn6).keep (fun a q1 q2 => ⟨rfl, rfl, up2_o (fun g => by rw [g] at q2; omega)⟩) rfl, by rw [up2_k (Ne.symm hq.2), up2_o (ne 34 a34 (by decide) g5)]; exact hl⟩
  · obtain ⟨a, q1, q2, q3, q4⟩ := hd f hk
    exact ⟨a, q1, q2, q3, fun g => by rw [up2_o (ne f a hk q1)]; exact q4 g⟩
  · rw [up2_o (ne 9 a9 (by decide) g1)]
    rcases hp p hp6 with ⟨q1, q2⟩ | q
    · exact Or.inl ⟨q1, q2.keep (fun a w1 w2 => ⟨rfl, rfl, up2_o (fun g => by rw [g] at w2; omega)⟩) (by rw [up2_o (ne 9 a9 (by decide) g1)]) rfl rfl⟩
    · exact Or.inr q
theorem frR_own (h : repR ρ K X Rf md M) {q : Nat} {v : Int} : frR ρ K X Rf ρ K (up2 X md q v) Rf := fun a _ => ⟨rfl, rfl, fun g => ⟨up2_o (fun w => by have := h.1.2; rw [w] at g; omega), rfl⟩⟩
theorem thr_c {c c' : Int} (h : c = c') : up2 X md 0 c = up2 X md 0 c' := by rw [h]
theorem pfX_M {a2 a3 a4 k : Nat} (h2 : X a2 = M 2) (h3 : X a3 = M 3) (h4 : X a4 = M 4) : pfX X a2 a3 a4 k = patM M k := by unfold pfX patM; rw [h2, h3, h4]
end ZRF
