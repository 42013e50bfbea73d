theorem apX_eff {X : zX} {p be sa : Nat} {moment saving : Int} (h1 : be ≠ p) (h2 : sa ≠ p) (h3 : be ≠ sa) : (∀ a, a ≠ p → a ≠ be → a ≠ sa → apX X p be sa moment saving a = X a) ∧ (∀ j, j ≠ 6 → apX X p be sa moment saving p j = X p j) ∧
    (if 105190559 < moment then apX X p be sa moment saving p 6 = X p 6 ∧ apX X p be sa moment saving be = X be ∧ apX X p be sa moment saving sa = X sa else
      ∃ w : Int, w = (if 0 < X p 6 ∧ X be (X p 6 - 1).toNat = max moment 0 then X p 6 - 1 else X p 6) ∧ apX X p be sa moment saving p 6 = w + 1 ∧ apX X p be sa moment saving be w.toNat = max moment 0 ∧ apX X p be sa moment saving sa w.toNat = saving ∧ (∀ i : Nat, i ≠ w.toNat → apX X p be sa moment saving be i = X be i ∧ apX X p be sa moment saving sa i = X sa i)) := by
  unfold apX
  by_cases h : 105190559 < moment
  · rw [if_pos h, if_pos h]; exact ⟨fun _ _ _ _ => rfl, fun _ _ => rfl, rfl, rfl, rfl⟩
  · rw [if_neg h, if_neg h]
    generalize (if 0 < X p 6 ∧ X be (X p 6 - 1).toNat = max moment 0 then X p 6 - 1 else X p 6) = w
    refine ⟨fun a ha hb hc => by rw [up2_o ha, up2_o hc, up2_o hb], fun j hj => by rw [up2_k hj, up2_o (Ne.symm h2), up2_o (Ne.symm h1)], w, rfl, up2_s, by rw [up2_o h1, up2_o h3, up2_s], by rw [up2_o h2, up2_s], fun i hi => ⟨by rw [up2_o h1, up2_o h3, up2_k hi], by rw [up2_o h2, up2_k hi, up2_o (Ne.symm h3)]⟩⟩
theorem evOK.mod {T Pt : Nat → Nat → Int} {n : Nat} {L : Nat → Int} {N : Nat} (h : evOK T Pt n L N) (hn : n ≤ 6) (hT : ∀ k, k < n → okT (T k)) {i : Nat} (hi : i < N) : (0 ≤ T (L i % 8).toNat 5 ∧ T (L i % 8).toNat 5 ≤ 180) ∧ (0 ≤ T (L i % 8).toNat 4 ∧ T (L i % 8).toNat 4 ≤ 2) ∧ 0 ≤ L i / 8 ∧ L i / 8 ≤ 105190559 := by
  obtain ⟨k, hk, y, hy, h1, h2⟩ := h.2.1 i hi
  have h3 := ttE_rng (Pt := Pt) (hT k hk) y
  have h4 := hT k hk
  rw [show (L i % 8).toNat = k by omega, show L i / 8 = ttE T Pt k y by omega]
  omega
theorem stF_rng {T : Nat → Nat → Int} {base : Int} {L : Nat → Int} {N : Nat} (hb : -840 ≤ base ∧ base ≤ 840) (h : ∀ i, i < N → (0 ≤ T (L i % 8).toNat 5 ∧ T (L i % 8).toNat 5 ≤ 180) ∧ (0 ≤ T (L i % 8).toNat 4 ∧ T (L i % 8).toNat 4 ≤ 2) ∧ 0 ≤ L i / 8 ∧ L i / 8 ≤ 105190559) {j : Nat} (hj : j ≤ N) :
    (-2147483648 ≤ (stF T base L j).1 ∧ (stF T base L j).1 ≤ 105200000) ∧ 0 ≤ (stF T base L j).2 ∧ (stF T base L j).2 ≤ 180 := by
  induction j with
  | zero => simp [stF]
  | succ j ih =>
    have ih := ih (by omega)
    have hj := h j (by omega)
    have ht : -2000 ≤ tMom (T (L j % 8).toNat) (L j / 8) base (stF T base L j).2 ∧ tMom (T (L j % 8).toNat) (L j / 8) base (stF T base L j).2 ≤ 105200000 := by
      unfold tMom; (repeat' split) <;> omega
    refine ⟨?_, hj.1⟩
    show -2147483648 ≤ max _ _ ∧ max _ _ ≤ 105200000
    omega
/-- the step of findPieces, at the turn r of the year y -/
theorem fp_step {X X1 X2 : zX} {p be sa to : Nat} {T Pt : Nat → Nat → Int} {n : Nat} {L : Nat → Int} {N j r : Nat} {base m1 s1 : Int} (hne : be ≠ p ∧ sa ≠ p ∧ be ≠ sa ∧ to ≠ p ∧ to ≠ be ∧ to ≠ sa) (hev : evOK T Pt n L N) (hn : n ≤ 6) (hN : N ≤ 1200) (hT : ∀ k, k < n → okT (T k)) (hj : j < N) (hr : r < 6) {td : Int} (hL : L j = 8 * td + r)
    (hp : pinv T base L (X be) (X sa) (X p 6) j) (hX1 : ∀ a, a ≠ to → X1 a = X a) (hm : m1 = max (stF T base L j).1 (tMom (T r) td base (stF T base L j).2)) (hs : s1 = T r 5) (hX2 : X2 = apX X1 p be sa m1 s1) :
    pinv T base L (X2 be) (X2 sa) (X2 p 6) (j + 1) ∧ m1 = (stF T base L (j + 1)).1 ∧ s1 = (stF T base L (j + 1)).2 := by
  have e8 : (L j % 8).toNat = r := by omega
  have ed : L j / 8 = td := by omega
  have e1 : m1 = (stF T base L (j + 1)).1 := by
    show m1 = max (stF T base L j).1 (tMom (T (L j % 8).toNat) (L j / 8) base (stF T base L j).2)
    rw [e8, ed]; exact hm
  have e2 : s1 = (stF T base L (j + 1)).2 := by
    show s1 = T (L j % 8).toNat 5
    rw [e8]; exact hs
  have hb := hX1 be (Ne.symm hne.2.2.2.2.1)
  have hs' := hX1 sa (Ne.symm hne.2.2.2.2.2)
  have hpp := hX1 p (Ne.symm hne.2.2.2.1)
  refine ⟨pinv_step hp (by omega) (hev.mod hn hT hj).1 ?_, e1, e2⟩
  obtain ⟨-, -, he⟩ := apX_eff (X := X1) (moment := m1) (saving := s1) hne.1 hne.2.1 hne.2.2.1
  rw [← hX2, hb, hs', hpp] at he
  have hc := hp.1.1
  rw [e8, ← hs]
  show if 105190559 < (stF T base L (j + 1)).1 then _ else _
  rw [← e1]
  by_cases h : 105190559 < m1
  · rw [if_pos h] at he ⊢; exact he
  · rw [if_neg h] at he ⊢
    obtain ⟨w, hw, h1, h2, h3, h4⟩ := he
    refine ⟨w, ?_, h1, ?_, h3, h4⟩
    · rw [hw]
      show _ = (if X be (X p 6 - 1).toNat = max (stF T base L (j + 1)).1 0 then _ else _)
      rw [← e1]
      by_cases q : X be (X p 6 - 1).toNat = max m1 0
      · rw [if_pos q, if_pos ⟨by omega, q⟩]
      · rw [if_neg q, if_neg (fun g => q g.2)]
    · show _ = max (stF T base L (j + 1)).1 0
      rw [← e1]; exact h2
