-- ===== one change of the reference behind the other =====
theorem falM_rng (M : zM) (d : Int) : -1 ≤ falM M d ∧ falM M d < (M 40 29).toNat := Fa_rng _ _ _ _ _
section ZRT
variable {ρ ρ1 ρ2 : zL} {K K1 K2 : zK} {X X1 X2 : zX} {Rf R1 R2 : zR} {M : zM} {md : Nat}
theorem frR.trans (h : frR ρ K X Rf ρ1 K1 X1 R1) (h2 : frR ρ1 K1 X1 R1 ρ2 K2 X2 R2) : frR ρ K X Rf ρ2 K2 X2 R2 := fun a ha => by
  obtain ⟨a1, a2, a3⟩ := h a ha
  obtain ⟨b1, b2, b3⟩ := h2 a (by rw [a1]; exact ha)
  exact ⟨b1.trans a1, b2.trans a2, fun g => by
    obtain ⟨c1, c2⟩ := a3 g
    obtain ⟨d1, d2⟩ := b3 (by rw [a2]; exact g)
    exact ⟨d1.trans c1, d2.trans c2⟩⟩
/-- the feasts laid tell the feasts -/
theorem repR.fal (h : repR ρ K X Rf md M) {a34 : Nat} (hr : Rf md 34 = some a34) (h1 : X md 35 = 1) {d : Int} (h0 : 0 ≤ d) (h2 : d ≤ 73048) : X a34 d.toNat = falM M d := by
  rcases h.laid hr with g | g
  · rw [h1] at g; exact absurd g (by decide)
  · have e := g.2 d.toNat (by omega)
    rw [show ((d.toNat : Nat) : Int) = d by omega] at e
    exact e
end ZRT
