-- ===== what is still to be laid, together =====
def plE (X : zX) (Rf : zR) (md : Nat) : Nat := dlC X Rf md 0 + dlC X Rf md 1 + dlC X Rf md 2 + dlC X Rf md 3 + dlC X Rf md 4 + dlC X Rf md 5
def enC (Rf : zR) (md : Nat) (M : zM) (n : Nat) : Nat := if (n : Int) < M 40 16 then dnC Rf md n else 0
def pnE (Rf : zR) (md : Nat) (M : zM) : Nat := enC Rf md M 0 + enC Rf md M 1 + enC Rf md M 2 + enC Rf md M 3 + enC Rf md M 4 + enC Rf md M 5
theorem sum6 {f f' : Nat → Nat} (h : ∀ k, f' k ≤ f k) {n : Nat} (hn : n < 6) (h0 : f' n = 0) : f' 0 + f' 1 + f' 2 + f' 3 + f' 4 + f' 5 + f n ≤ f 0 + f 1 + f 2 + f 3 + f 4 + f 5 := by
  have b0 := h 0; have b1 := h 1; have b2 := h 2; have b3 := h 3; have b4 := h 4; have b5 := h 5
  rcases (by omega : n = 0 ∨ n = 1 ∨ n = 2 ∨ n = 3 ∨ n = 4 ∨ n = 5) with rfl | rfl | rfl | rfl | rfl | rfl <;> omega
section ZPOT
variable {X X' : zX} {Rf Rf' : zR} {M : zM} {md n p : Nat}
theorem enC_mono (h : lsR X Rf X' Rf' md) (k : Nat) : enC Rf' md M k ≤ enC Rf md M k := by
  unfold enC; split
  · exact h.2 k
  · exact Nat.le_refl _
theorem pn_dec (h : lsR X Rf X' Rf' md) (hn : n < 6) (h16 : (n : Int) < M 40 16) (h0 : dnC Rf' md n = 0) : pnE Rf' md M + dnC Rf md n ≤ pnE Rf md M := by
  have e := sum6 (f := enC Rf md M) (f' := enC Rf' md M) (enC_mono h) hn (by unfold enC; rw [if_pos h16]; exact h0)
  have e2 : enC Rf md M n = dnC Rf md n := if_pos h16
  rw [e2] at e; exact e
theorem pl_dec (h : lsR X Rf X' Rf' md) (hp : p < 6) (h0 : dlC X' Rf' md p = 0) : plE X' Rf' md + dlC X Rf md p ≤ plE X Rf md := sum6 (f := dlC X Rf md) (f' := dlC X' Rf' md) h.1 hp h0
theorem pl_mono (h : lsR X Rf X' Rf' md) : plE X' Rf' md ≤ plE X Rf md := by
  have b0 := h.1 0; have b1 := h.1 1; have b2 := h.1 2; have b3 := h.1 3; have b4 := h.1 4; have b5 := h.1 5
  unfold plE; omega
theorem pn_mono (h : lsR X Rf X' Rf' md) : pnE Rf' md M ≤ pnE Rf md M := by
  have b0 := enC_mono (M := M) h 0; have b1 := enC_mono (M := M) h 1; have b2 := enC_mono (M := M) h 2; have b3 := enC_mono (M := M) h 3; have b4 := enC_mono (M := M) h 4; have b5 := enC_mono (M := M) h 5
  unfold pnE; omega
theorem dl_0 (h : lsR X Rf X' Rf' md) (h0 : dlC X Rf md p = 0) : dlC X' Rf' md p = 0 := by have := h.1 p; omega
theorem dn_0 (h : lsR X Rf X' Rf' md) (h0 : dnC Rf md n = 0) : dnC Rf' md n = 0 := by have := h.2 n; omega
/-- all that is there has been laid: nothing more than the rows of the series to come -/
theorem ptR_end (h : lsR X Rf X' Rf' md) (hp : ∀ p, p < 6 → dlC X' Rf' md p = 0) (hn : ∀ n : Nat, (n : Int) < M 40 16 → dnC Rf' md n = 0) : ptR X' Rf' md + (plE X Rf md + pnE Rf md M) ≤ ptR X Rf md := by
  have b0 := h.2 0; have b1 := h.2 1; have b2 := h.2 2; have b3 := h.2 3; have b4 := h.2 4; have b5 := h.2 5
  have p0 := hp 0 (by omega); have p1 := hp 1 (by omega); have p2 := hp 2 (by omega); have p3 := hp 3 (by omega); have p4 := hp 4 (by omega); have p5 := hp 5 (by omega)
  have e : ∀ k, k < 6 → dnC Rf' md k + enC Rf md M k ≤ dnC Rf md k := fun k _ => by
    have b := h.2 k
    unfold enC
    by_cases g : (k : Int) < M 40 16
    · rw [if_pos g, hn k g]; omega
    · rw [if_neg g]; omega
  have e0 := e 0 (by omega); have e1 := e 1 (by omega); have e2 := e 2 (by omega); have e3 := e 3 (by omega); have e4 := e 4 (by omega); have e5 := e 5 (by omega)
  unfold ptR plE pnE; omega
end ZPOT
theorem dgL_c {f : Nat → Int → Int} {c : Nat} (h : ∀ k w, c ≤ k → f k w = w) (v : Int) : ∀ d : Nat, dgL f v (c + d) = dgL f v c
  | 0 => rfl
  | d + 1 => by
    show f (c + d) (dgL f v (c + d)) = _
    rw [h _ _ (by omega)]; exact dgL_c h v d
theorem dgL_to {f : Nat → Int → Int} {c n : Nat} (h : ∀ k w, c ≤ k → f k w = w) (hc : c ≤ n) (v : Int) : dgL f v n = dgL f v c := by
  have e := dgL_c h v (n - c)
  rw [show c + (n - c) = n by omega] at e; exact e
theorem wI_s {z : Int} (h : fit z) : wI z = z := iI_toInt h
def seC (Rf : zR) (md : Nat) (M : zM) (n : Nat) : Nat := if (datM M n).length = 0 then dnC Rf md n else pnE Rf md M
theorem pn_0 {Rf : zR} {md : Nat} {M : zM} (h : ∀ n : Nat, (n : Int) < M 40 16 → dnC Rf md n = 0) : pnE Rf md M = 0 := by
  have e : ∀ k, enC Rf md M k = 0 := fun k => by
    unfold enC; split
    · next g => exact h k g
    · rfl
  unfold pnE; rw [e, e, e, e, e, e]
theorem repR.offn {ρ : zL} {K : zK} {X : zX} {Rf : zR} {M : zM} {md a9 p : Nat} (h : repR ρ K X Rf md M) (_ : okM M) (h9 : Rf md 9 = some a9) (hp : p < 6) (h5 : M 40 5 ≤ (p : Int)) : X a9 p = 0 := by
  obtain ⟨-, -, -, b9, b10, b11, b22, b34, ⟨g1, g2, g3, g4, g5⟩, hpc, hs, hl⟩ := h
  rw [g1] at h9; cases h9
  rcases hpc p hp with ⟨q1, _⟩ | ⟨_, q2⟩
  · omega
  · exact q2
section ZPO
variable {X : zX} {Rf : zR} {M : zM} {md n p : Nat}
theorem dn_le (hn : n < 6) (h : (n : Int) < M 40 16) : dnC Rf md n ≤ pnE Rf md M := by
  have e : enC Rf md M n = dnC Rf md n := if_pos h
  rw [← e]; unfold pnE
  rcases (by omega : n = 0 ∨ n = 1 ∨ n = 2 ∨ n = 3 ∨ n = 4 ∨ n = 5) with rfl | rfl | rfl | rfl | rfl | rfl <;> omega
theorem dl_le (hp : p < 6) : dlC X Rf md p ≤ plE X Rf md := by
  unfold plE
  rcases (by omega : p = 0 ∨ p = 1 ∨ p = 2 ∨ p = 3 ∨ p = 4 ∨ p = 5) with rfl | rfl | rfl | rfl | rfl | rfl <;> omega
theorem se_le (hn : n < 6) (h : (n : Int) < M 40 16) : seC Rf md M n ≤ pnE Rf md M := by
  unfold seC; split
  · exact dn_le hn h
  · exact Nat.le_refl _
theorem dn_se (hn : n < 6) (h : (n : Int) < M 40 16) : dnC Rf md n ≤ seC Rf md M n := by
  unfold seC; split
  · exact Nat.le_refl _
  · exact dn_le hn h
end ZPO
