-- ===== the reference's feasts =====
theorem frT {w wy d : Int} {G : Int → Int} {T : Prop} (hG : G d < 0 ↔ ¬T) (hb : bitw w d ≠ 0) (h : wy < 3 ∨ ¬T) : frD w wy G d = true := frD_iff.mpr ⟨hb, by
  rcases h with h | h
  · exact Or.inl (by omega)
  · exact Or.inr (hG.mpr h)⟩
theorem frF {w wy d : Int} {G : Int → Int} {T : Prop} (hG : G d < 0 ↔ ¬T) (hy : wy ≤ 3) (h : ¬(bitw w d ≠ 0) ∨ (3 ≤ wy ∧ T)) : frD w wy G d = false := by
  cases q : frD w wy G d
  · rfl
  · exfalso
    obtain ⟨g1, g2⟩ := frD_iff.mp q
    rcases h with h | ⟨h, hT⟩
    · exact h g1
    · rcases g2 with g2 | g2
      · omega
      · exact hG.mp g2 hT
theorem mvD_y {ok : Int → Bool} {way t : Int} (h : way = 0 ∨ ok t = true) : mvD ok way t = t := by unfold mvD; rw [if_pos h]
theorem mvD_n {ok : Int → Bool} {way t : Int} (h0 : way ≠ 0) (h : ok t = false) : mvD ok way t = mvS ok way t (61 - 1 : Int).toNat 1 := by
  unfold mvD; rw [if_neg (by rintro (g | g); exact h0 g; rw [h] at g; exact absurd g (by decide))]
/-- one month more -/
theorem bF_step {w way : Int} {P : Nat → Int} {G : Int → Int} {num a b : Int} (hab : a ≤ b + 1) (hn : 0 ≤ num) (d : Int) : bF w way P G num a (b + 1) d = if bF w way P G num a b d < 0 ∧ (0 ≤ d ∧ d ≤ 73048) ∧ 0 ≤ told P (b + 1) ∧ mvD (frD w way G) way (told P (b + 1)) = d then num else bF w way P G num a b d := by
  by_cases hG : 0 ≤ G d
  · rw [bF_G hG, bF_G hG, if_neg (by omega)]
  · have hG' : G d < 0 := by omega
    by_cases hd : 0 ≤ d ∧ d ≤ 73048
    · by_cases h1 : htF w way P G a b d
      · have h2 : htF w way P G a (b + 1) d := by
          obtain ⟨i, hi, g⟩ := h1
          exact ⟨i, ⟨hi.1, by omega⟩, g⟩
        rw [bF_h hG' hd h1, bF_h hG' hd h2, if_neg (by omega)]
      · rw [bF_n (b := b) hG' (fun g => h1 g.2)]
        by_cases h2 : 0 ≤ told P (b + 1) ∧ mvD (frD w way G) way (told P (b + 1)) = d
        · rw [if_pos ⟨by omega, hd, h2.1, h2.2⟩]
          exact bF_h hG' hd ⟨b + 1, ⟨hab, Int.le_refl _⟩, h2.1, h2.2⟩
        · rw [if_neg (fun g => h2 ⟨g.2.2.1, g.2.2.2⟩)]
          refine bF_n hG' (fun g => ?_)
          obtain ⟨i, hi, g1, g2⟩ := g.2
          by_cases hib : i = b + 1
          · subst hib; exact h2 ⟨g1, g2⟩
          · exact h1 ⟨i, ⟨hi.1, by omega⟩, g1, g2⟩
    · rw [bF_n hG' (fun g => hd g.1), bF_n hG' (fun g => hd g.1), if_neg (fun g => hd g.2.1)]
/-- before the first month -/
theorem bF_0 {w way : Int} {P : Nat → Int} {G : Int → Int} {num a b : Int} (h : b < a) (hG : ∀ d, -1 ≤ G d) (d : Int) : bF w way P G num a b d = G d := by
  by_cases hg : 0 ≤ G d
  · exact bF_G hg
  · have := hG d
    rw [bF_n (by omega) (fun g => by obtain ⟨i, hi, -⟩ := g.2; omega)]; omega
theorem bF_val {w way : Int} {P : Nat → Int} {G : Int → Int} {num a b : Int} (hG : ∀ d, -1 ≤ G d) (d : Int) : (0 ≤ G d ∧ bF w way P G num a b d = G d) ∨ (G d < 0 ∧ (bF w way P G num a b d = -1 ∨ bF w way P G num a b d = num)) := by
  by_cases hg : 0 ≤ G d
  · exact Or.inl ⟨hg, bF_G hg⟩
  · refine Or.inr ⟨by omega, ?_⟩
    unfold bF
    rw [if_neg hg]
    split
    · exact Or.inr rfl
    · exact Or.inl rfl
/-- who lies before -/
theorem bF_iff {w way : Int} {P : Nat → Int} {G : Int → Int} {num a b : Int} (hn : 0 ≤ num) (hG : ∀ d, -1 ≤ G d ∧ G d < num) (ho : ∀ d, ¬(0 ≤ d ∧ d ≤ 73048) → G d = -1) {V : Nat → Int} (hV : ∀ d : Nat, d ≤ 73048 → V d = bF w way P G num a b d) (d : Int) : G d < 0 ↔ ¬((0 ≤ d ∧ d ≤ 73048) ∧ V d.toNat ≠ -1 ∧ V d.toNat ≠ num) := by
  by_cases hd : 0 ≤ d ∧ d ≤ 73048
  · have e := hV d.toNat (by omega)
    rw [show ((d.toNat : Nat) : Int) = d by omega] at e
    have := hG d
    rcases bF_val (w := w) (way := way) (P := P) (num := num) (a := a) (b := b) (fun d => (hG d).1) d with ⟨g1, g2⟩ | ⟨g1, g2⟩
    · constructor
      · intro h; omega
      · intro h; exfalso; apply h; rw [e, g2]; exact ⟨hd, by omega, by omega⟩
    · constructor
      · intro _ h; rw [e] at h; rcases g2 with g2 | g2 <;> rw [g2] at h
        · exact h.2.1 rfl
        · exact h.2.2 rfl
      · intro _; exact g1
  · rw [ho d hd]
    exact ⟨fun _ h => hd h.1, fun _ => by decide⟩
/-- one told day of a feast is laid -/
theorem lay_put {V : Nat → Int} {W wy num a b t dy : Int} {P : Nat → Int} {G : Int → Int} (hab : a ≤ b + 1) (hn : 0 ≤ num) (hG : ∀ d, -1 ≤ G d ∧ G d < num) (hV : ∀ d : Nat, d ≤ 73048 → V d = bF W wy P G num a b d) (ht : told P (b + 1) = t) (ht1 : -1 ≤ t) (hdy : dy = if t = -1 then -1 else mvD (frD W wy G) wy t) :
    ((0 ≤ dy ∧ dy ≤ 73048) ∧ V dy.toNat = -1 → ∀ V' : Nat → Int, V' dy.toNat = num → (∀ j, j ≠ dy.toNat → V' j = V j) → ∀ d : Nat, d ≤ 73048 → V' d = bF W wy P G num a (b + 1) d) ∧ (¬((0 ≤ dy ∧ dy ≤ 73048) ∧ V dy.toNat = -1) → ∀ d : Nat, d ≤ 73048 → V d = bF W wy P G num a (b + 1) d) := by
  constructor
  · intro hd V' h1 h2 d hd9
    rw [bF_step hab hn, ht]
    have ht0 : t ≠ -1 := fun g => by rw [if_pos g] at hdy; omega
    rw [if_neg ht0] at hdy
    by_cases hdd : d = dy.toNat
    · have e := hV d hd9
      rw [hdd, hd.2] at e
      rw [hdd, h1, if_pos]
      refine ⟨by omega, by omega, by omega, by rw [← hdy]; omega⟩
    · rw [h2 d hdd, if_neg (fun g => hdd (by rw [← hdy] at g; omega)), hV d hd9]
  · intro hd d hd9
    rw [bF_step hab hn, ht]
    by_cases hc : bF W wy P G num a b d < 0 ∧ (0 ≤ (d : Int) ∧ (d : Int) ≤ 73048) ∧ 0 ≤ t ∧ mvD (frD W wy G) wy t = (d : Int)
    · exfalso
      obtain ⟨c1, c2, c3, c4⟩ := hc
      rw [if_neg (by omega), c4] at hdy
      apply hd
      have e := hV d hd9
      rw [show dy.toNat = d by omega]
      refine ⟨by omega, ?_⟩
      rw [e]
      rcases bF_val (w := W) (way := wy) (P := P) (num := num) (a := a) (b := b) (fun d => (hG d).1) d with ⟨g1, g2⟩ | ⟨g1, g2 | g2⟩
      · omega
      · exact g2
      · omega
    · rw [if_neg hc, hV d hd9]
section ZRW
variable {ρ : zL} {K : zK} {X X' : zX} {Rf : zR} {M : zM} {md : Nat}
theorem repR.laid (h : repR ρ K X Rf md M) {a34 : Nat} (hr : Rf md 34 = some a34) : X md 35 = 0 ∨ (X md 35 = 1 ∧ ∀ d : Nat, d ≤ 73048 → X a34 d = falM M d) := by
  obtain ⟨a9, a10, a11, a22, a34', ⟨g1, g2, g3, g4, g5⟩, hp, hs, hl⟩ := h.2.2.2
  rw [hr] at g5; cases g5
  exact hl
/-- the feasts are laid -/
theorem repR.lay (h : repR ρ K X Rf md M) {a34 : Nat} (hr : Rf md 34 = some a34) (hq : ∀ q, q ≠ 35 → X' md q = X md q) (ho : ∀ b, b ≠ md → b ≠ a34 → X' b = X b) (h1 : X' md 35 = 1) (hv : ∀ d : Nat, d ≤ 73048 → X' a34 d = falM M d) : repR ρ K X' Rf md M ∧ frR ρ K X Rf ρ K X' Rf := by
  have hff := h.ff
  obtain ⟨⟨hmd, hlmd⟩, hnum, hd, a9, a10, a11, a22, a34', ⟨g1, g2, g3, g4, g5⟩, hpc, hs, hl⟩ := h
  rw [hr] at g5; cases g5
  have lab : ∀ f a, (kdM f).1 ≠ 0 → Rf md f = some a → ρ a = 2001 + f := fun f a hk hr => by
    obtain ⟨b, w1, w2, w3⟩ := hff f hk
    rw [hr] at w1; cases w1
    exact w3
  have l34 := lab 34 a34 (by decide) hr
  have old : ∀ a, ρ a ≠ 2000 → ρ a ≠ 2035 → X' a = X a := fun a h1 h2 => ho a (fun g => h1 (by rw [g]; exact hlmd)) (fun g => h2 (by rw [g]; exact l34))
  have X9 : X' a9 = X a9 := old a9 (by rw [lab 9 a9 (by decide) g1]; decide) (by rw [lab 9 a9 (by decide) g1]; decide)
  refine ⟨⟨⟨hmd, hlmd⟩, fun q g => ?_, fun f hf => ?_, a9, a10, a11, a22, a34, ⟨g1, g2, g3, g4, hr⟩, fun p hp6 => ?_, fun n hn => (hs n hn).keep (fun a c1 c2 => ⟨rfl, rfl, old a (by omega) (by omega)⟩) rfl, Or.inr ⟨h1, hv⟩⟩, fun a _ => ⟨rfl, rfl, fun g => ⟨old a (by omega) (by omega), rfl⟩⟩⟩
  · rw [hq q (by rintro rfl; exact absurd g (by decide))]; exact hnum q g
  · obtain ⟨b, w1, w2, w3, w4⟩ := hd f hf
    refine ⟨b, w1, w2, w3, fun g => ?_⟩
    have hne : f ≠ 34 := by rintro rfl; exact absurd g (by decide)
    rw [old b (by omega) (by omega)]
    exact w4 g
  · rw [X9]
    rcases hpc p hp6 with ⟨w1, w2⟩ | w
    · exact Or.inl ⟨w1, w2.keep (fun a c1 c2 => ⟨rfl, rfl, old a (by omega) (by omega)⟩) (by rw [X9]) rfl rfl⟩
    · exact Or.inr w
end ZRW
-- ===== only the reference's own word and its feasts =====
def fsR (ρ : zL) (X X' : zX) : Prop := ∀ b, ρ b ≠ 2000 → ρ b ≠ 2035 → X' b = X b
theorem fsR_refl {ρ : zL} {X : zX} : fsR ρ X X := fun _ _ _ => rfl
theorem fsR.trans {ρ : zL} {X X1 X2 : zX} (h : fsR ρ X X1) (h2 : fsR ρ X1 X2) : fsR ρ X X2 := fun b g1 g2 => by rw [h2 b g1 g2, h b g1 g2]
theorem fsR_own {ρ : zL} {K : zK} {X : zX} {Rf : zR} {M : zM} {md q : Nat} {v : Int} (h : repR ρ K X Rf md M) : fsR ρ X (up2 X md q v) := fun b g1 _ => up2_o (fun g => g1 (by rw [g]; exact h.1.2))
