-- ===== a series of the reference has other numbers =====
theorem serM_17 {M : zM} {n q : Nat} (hq : q < 11) : serM M n q = M 17 (11 * n + q) := by unfold serM; rw [if_pos hq]
section ZRS
variable {ρ ρ' : zL} {K K' : zK} {X X' : zX} {Rf Rf' : zR} {M M' : zM} {md x : Nat}
theorem repR.mutS (h : repR ρ K X Rf md M) {a22 n : Nat} (hr22 : Rf md 22 = some a22) (hn : repN ρ K X' Rf md M') (hA : ∀ a, (K a).1 ≠ 0 → ρ a ≠ 2000 → (∀ f, daM f = true → ρ a ≠ 2001 + f) → X' a = X a) (h35 : X' md 35 = X md 35 ∨ X' md 35 = 0) (h0 : X' md 0 = 0) (hf : ∀ f, f ≠ 17 → f ≠ 18 → f ≠ 19 → M' f = M f) (hd : ∀ k, k ≠ n → serM M' k = serM M k ∧ useM M' k = useM M k ∧ excM M' k = excM M k) {cd : Int} (hc : cd = 0) : X' md 0 = cd ∧ ∃ ρ', repR ρ' K X' (up2 Rf a22 n none) md (if cd = 0 then M' else M) ∧ frR ρ K X Rf ρ' K X' (up2 Rf a22 n none) ∧ ptR X' (up2 Rf a22 n none) md ≤ ptR X Rf md + 5000 := by
  rw [hc, if_pos rfl]
  obtain ⟨a', q1, q2, q3⟩ := h.ff 22 (by decide)
  rw [hr22] at q1; cases q1
  have hne : md ≠ a22 := fun g => by have := h.1.2; rw [g] at this; omega
  have f40 := hf 40 (by decide) (by decide) (by decide)
  have hp : ∀ k, patM M' k = patM M k := patM_eq (hf 2 (by decide) (by decide) (by decide)) (hf 3 (by decide) (by decide) (by decide)) (hf 4 (by decide) (by decide) (by decide))
  refine ⟨h0, ρ, (hn.keep (Rf' := up2 Rf a22 n none) (fun a _ _ _ => ⟨rfl, rfl, rfl⟩) (up2_o hne)).r ?_, fun a ha => ⟨rfl, rfl, fun g => ⟨hA a ha (by omega) (fun f hf => ?_), up2_o (fun w => by rw [w] at g; omega)⟩⟩, ?_⟩
  · have hff := h.ff
    obtain ⟨a9, a10, a11, a22', a34, ⟨g1, g2, g3, g4, g5⟩, hp6, hs, hl⟩ := h.2.2.2.memX h.n hA h35
    rw [hr22] at g4; cases g4
    have ne : ∀ f a, (kdM f).1 ≠ 0 → f ≠ 22 → Rf md f = some a → a ≠ a22 := fun f a hk hf2 hr w => by
      obtain ⟨b, w1, w2, w3⟩ := hff f hk
      rw [hr] at w1; cases w1
      rw [w] at w3; omega
    refine ⟨a9, a10, a11, a22, a34, by rw [up2_o hne]; exact ⟨g1, g2, g3, hr22, g5⟩, fun p hp6' => ?_, fun k hk => ?_, ?_⟩
    · rw [f40]
      rcases hp6 p hp6' with ⟨w1, w2⟩ | w
      · exact Or.inl ⟨w1, (w2.keep (Rf' := up2 Rf a22 n none) (fun _ _ _ => ⟨rfl, rfl, rfl⟩) rfl (by rw [up2_o (ne 10 a10 (by decide) (by decide) g2)]) (by rw [up2_o (ne 11 a11 (by decide) (by decide) g3)])).mM (ev_f (by rw [hf 6 (by decide) (by decide) (by decide)]) (by rw [hf 7 (by decide) (by decide) (by decide)]) (hf 8 (by decide) (by decide) (by decide)) hp)⟩
      · exact Or.inr w
    · by_cases hkn : k = n
      · subst hkn; exact Or.inl up2_s
      · refine ((hs k hk).keep (Rf' := up2 Rf a22 n none) (fun _ _ _ => ⟨rfl, rfl, rfl⟩) (up2_k hkn)).mM (by rw [f40]; exact Int.le_refl _) (fun _ => ?_)
        unfold datM
        rw [(hd k hkn).1, (hd k hkn).2.1, (hd k hkn).2.2]
    · rw [fal_f (hf 30 (by decide) (by decide) (by decide)) (hf 31 (by decide) (by decide) (by decide)) (hf 32 (by decide) (by decide) (by decide)) (hf 33 (by decide) (by decide) (by decide)) hp (by rw [f40]) (by rw [f40])]; exact hl
  · have : f < 39 := by
      by_cases w : f < 39
      · exact w
      · exfalso
        revert hf
        unfold daM
        split <;> first | omega | simp
    omega
  · obtain ⟨b9, z1, z2, z3⟩ := h.ff 9 (by decide)
    exact ptR_22 z1 hr22 (up2_o hne) (hA b9 (by rw [z2]; decide) (by omega) (fun f hf w => by
      have : f = 9 := by omega
      rw [this] at hf; exact absurd hf (by decide))) (fun k hk => up2_k hk)
theorem set_f {n q f : Nat} {v : Int} (h : f ≠ 17) : up2 M 17 (11 * n + q) v f = M f := up2_o h
theorem set_d {n q k : Nat} {v : Int} (hq : q < 11) (h : k ≠ n) : serM (up2 M 17 (11 * n + q) v) k = serM M k ∧ useM (up2 M 17 (11 * n + q) v) k = useM M k ∧ excM (up2 M 17 (11 * n + q) v) k = excM M k := ⟨serM_oth hq h, useM_f (up2_o (by decide)) patM_17 _, excM_f (up2_o (by decide)) _⟩
theorem exV_congr {E E' : Nat → Int} {d : Int} {n : Nat} (h : ∀ k, k < n → E k = E' k) : exV E d n = exV E' d n := by
  unfold exV; rw [exB_congr h]
theorem exV_y {E : Nat → Int} {d : Int} {n : Nat} (h : E n = d) : exV E d (n + 1) = 1 := exV_hit (k := n) (by omega) h
theorem exV_n {E : Nat → Int} {d : Int} {n : Nat} (h : E n ≠ d) : exV E d (n + 1) = exV E d n := by
  unfold exV
  have e : exB E d (n + 1) = exB E d n := by
    show (exB E d n || decide (E n = d)) = _
    simp [h]
  rw [e]
end ZRS
theorem zne9 {ρ : zL} {a b la lb : Nat} (h1 : ρ a = la) (h2 : ρ b = lb) (h : la ≠ lb) : a ≠ b := fun g => h (by rw [← h1, ← h2, g])
