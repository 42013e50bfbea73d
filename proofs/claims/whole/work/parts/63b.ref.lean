-- ===== what is still to be laid =====
def dnC (Rf : zR) (md n : Nat) : Nat := match Rf md 22 with
  | some a => if Rf a n = none then 4001 else 0
  | none => 0
def dlC (X : zX) (Rf : zR) (md p : Nat) : Nat := match Rf md 9 with
  | some a => if X a p = -1 then 5000 else 0
  | none => 0
def ptR (X : zX) (Rf : zR) (md : Nat) : Nat := (dlC X Rf md 0 + dlC X Rf md 1 + dlC X Rf md 2 + dlC X Rf md 3 + dlC X Rf md 4 + dlC X Rf md 5) + (dnC Rf md 0 + dnC Rf md 1 + dnC Rf md 2 + dnC Rf md 3 + dnC Rf md 4 + dnC Rf md 5)
section ZPTR
variable {X X' : zX} {Rf Rf' : zR} {md a9 a22 p : Nat}
theorem ptR_9 (h9 : Rf md 9 = some a9) (h22 : Rf md 22 = some a22) (hm : Rf' md = Rf md) (hk : ∀ k, k ≠ p → X' a9 k = X a9 k) (hr : Rf' a22 = Rf a22) : ptR X' Rf' md ≤ ptR X Rf md + 5000 := by
  have e : ∀ n, dnC Rf' md n = dnC Rf md n := fun n => by unfold dnC; rw [hm, h22]; show (if Rf' a22 n = none then _ else _) = (if Rf a22 n = none then _ else _); rw [hr]
  have e1 : ∀ q, dlC X' Rf' md q ≤ 5000 := fun q => by unfold dlC; split; split <;> omega; omega
  have e2 : ∀ q, q ≠ p → dlC X' Rf' md q = dlC X Rf md q := fun q hq => by unfold dlC; rw [hm, h9]; show (if X' a9 q = -1 then _ else _) = (if X a9 q = -1 then _ else _); rw [hk q hq]
  unfold ptR
  rw [e, e, e, e, e, e]
  have b0 := e1 0; have b1 := e1 1; have b2 := e1 2; have b3 := e1 3; have b4 := e1 4; have b5 := e1 5
  have c0 := e2 0; have c1 := e2 1; have c2 := e2 2; have c3 := e2 3; have c4 := e2 4; have c5 := e2 5
  omega
theorem ptR_22 {n : Nat} (h9 : Rf md 9 = some a9) (h22 : Rf md 22 = some a22) (hm : Rf' md = Rf md) (hx : X' a9 = X a9) (hk : ∀ k, k ≠ n → Rf' a22 k = Rf a22 k) : ptR X' Rf' md ≤ ptR X Rf md + 5000 := by
  have e : ∀ q, dlC X' Rf' md q = dlC X Rf md q := fun q => by unfold dlC; rw [hm, h9]; show (if X' a9 q = -1 then _ else _) = (if X a9 q = -1 then _ else _); rw [hx]
  have e1 : ∀ q, dnC Rf' md q ≤ 4001 := fun q => by unfold dnC; split; split <;> omega; omega
  have e2 : ∀ q, q ≠ n → dnC Rf' md q = dnC Rf md q := fun q hq => by unfold dnC; rw [hm, h22]; show (if Rf' a22 q = none then _ else _) = (if Rf a22 q = none then _ else _); rw [hk q hq]
  unfold ptR
  rw [e, e, e, e, e, e]
  have b0 := e1 0; have b1 := e1 1; have b2 := e1 2; have b3 := e1 3; have b4 := e1 4; have b5 := e1 5
  have c0 := e2 0; have c1 := e2 1; have c2 := e2 2; have c3 := e2 3; have c4 := e2 4; have c5 := e2 5
  omega
theorem repR.pt {ρ : zL} {K : zK} {M : zM} (h : repR ρ K X Rf md M) (hm : Rf' md = Rf md) (hx : ∀ a, (K a).1 ≠ 0 → ρ a = 2010 → X' a = X a) (hr : ∀ a, (K a).1 ≠ 0 → ρ a = 2023 → Rf' a = Rf a) : ptR X' Rf' md ≤ ptR X Rf md + 5000 := by
  obtain ⟨a9, q1, q2, q3⟩ := h.ff 9 (by decide)
  obtain ⟨a22, w1, w2, w3⟩ := h.ff 22 (by decide)
  exact ptR_9 (p := 6) q1 w1 hm (fun k _ => by rw [hx a9 (by rw [q2]; decide) q3]) (hr a22 (by rw [w2]; decide) w3)
end ZPTR
