-- ===== the reference's scratch cells =====
theorem mul_rng {a b : Int} (h : 0 ≤ a ∧ a ≤ 4001) (hb : 1 ≤ b ∧ b ≤ 60) : a ≤ a * b ∧ a * b ≤ 240060 := by
  constructor
  · have e := Int.mul_le_mul_of_nonneg_left hb.1 h.1
    rw [Int.mul_one] at e; exact e
  · have e := Int.mul_le_mul h.2 hb.2 (by omega) (by omega)
    omega
section ZSC
variable {ρ : zL} {K : zK} {X X' : zX} {Rf : zR} {M : zM} {md : Nat}
theorem repR.scr (h : repR ρ K X Rf md M) {a20 a23 : Nat} (hr20 : Rf md 20 = some a20) (hr23 : Rf md 23 = some a23) (hq : ∀ q, q ≠ 21 → q ≠ 24 → X' md q = X md q) (ho : ∀ b, b ≠ md → b ≠ a20 → b ≠ a23 → X' b = X b) : repR ρ K X' Rf md M ∧ frR ρ K X Rf ρ K X' Rf := by
  have hff := h.ff
  obtain ⟨⟨hmd, hlmd⟩, hnum, hd, a9, a10, a11, a22, a34, ⟨g1, g2, g3, g4, g5⟩, hpc, hs, hl⟩ := h
  have lab : ∀ f a, (kdM f).1 ≠ 0 → Rf md f = some a → ρ a = 2001 + f := fun f a hk hr => by
    obtain ⟨b, w1, w2, w3⟩ := hff f hk
    rw [hr] at w1; cases w1
    exact w3
  have l20 := lab 20 a20 (by decide) hr20
  have l23 := lab 23 a23 (by decide) hr23
  have old : ∀ a, ρ a ≠ 2000 → ρ a ≠ 2021 → ρ a ≠ 2024 → X' a = X a := fun a h1 h2 h3 => ho a (fun g => h1 (by rw [g]; exact hlmd)) (fun g => h2 (by rw [g]; exact l20)) (fun g => h3 (by rw [g]; exact l23))
  have l9 := lab 9 a9 (by decide) g1
  have l34 := lab 34 a34 (by decide) g5
  have X9 : X' a9 = X a9 := old a9 (by omega) (by omega) (by omega)
  have X34 : X' a34 = X a34 := old a34 (by omega) (by omega) (by omega)
  refine ⟨⟨⟨hmd, hlmd⟩, fun q g => ?_, fun f hf => ?_, a9, a10, a11, a22, a34, ⟨g1, g2, g3, g4, g5⟩, fun p hp6 => ?_, fun n hn => (hs n hn).keep (fun a c1 c2 => ⟨rfl, rfl, old a (by omega) (by omega) (by omega)⟩) rfl, by rw [hq 35 (by decide) (by decide), X34]; exact hl⟩, fun a _ => ⟨rfl, rfl, fun g => ⟨old a (by omega) (by omega) (by omega), rfl⟩⟩⟩
  · rw [hq q (by rintro rfl; exact absurd g (by decide)) (by rintro rfl; exact absurd g (by decide))]; exact hnum q g
  · obtain ⟨b, w1, w2, w3, w4⟩ := hd f hf
    refine ⟨b, w1, w2, w3, fun g => ?_⟩
    have hne : f ≠ 20 := by rintro rfl; exact absurd g (by decide)
    have hne2 : f ≠ 23 := by rintro rfl; exact absurd g (by decide)
    rw [old b (by omega) (by omega) (by omega)]
    exact w4 g
  · rw [X9]
    rcases hpc p hp6 with ⟨w1, w2⟩ | w
    · exact Or.inl ⟨w1, w2.keep (fun a c1 c2 => ⟨rfl, rfl, old a (by omega) (by omega) (by omega)⟩) (by rw [X9]) rfl rfl⟩
    · exact Or.inr w
end ZSC
