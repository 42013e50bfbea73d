-- ===== the working minutes of the reference =====
def dwC (X : zX) (Rf : zR) (md : Nat) (M : zM) : Nat := if M 40 25 = -1 then 0 else dlC X Rf md (M 40 25).toNat
section ZWK
variable {ρ ρ' : zL} {K K' : zK} {X X' : zX} {Rf Rf' : zR} {M : zM} {md : Nat}
theorem dwC_ls (h : lsR X Rf X' Rf' md) : dwC X' Rf' md M ≤ dwC X Rf md M := by
  unfold dwC; split
  · exact Nat.le_refl _
  · exact h.1 _
theorem dwC_le : dwC X Rf md M ≤ 5000 := by
  unfold dwC; split
  · omega
  · exact dlC_le
theorem fsR.ls (hf : fsR ρ X X') (h : repR ρ K X Rf md M) : lsR X Rf X' Rf md := by
  obtain ⟨a, h1, h2, h3⟩ := h.a9
  exact lsR_x h1 (hf a (by omega) (by omega))
theorem wkm_0 {mo s : Int} (hs : s = mo + cbsM M + csvM M mo) (h : ¬((0 ≤ s ∧ s ≤ 105190559) ∧ (M 40 27 ≤ s % 1440 ∧ s % 1440 ≤ M 40 28 - 1) ∧ wkdM M (s / 1440) = true)) : bI (wkmM M mo) = 0 := by
  have e : wkmM M mo = false := by
    cases g : wkmM M mo
    · rfl
    · exfalso
      apply h
      have g2 : lsB (M 40 27) (M 40 28) (wkdM M) (mo + cbsM M + csvM M mo) = true := g
      rw [← hs, lsB_iff] at g2
      exact ⟨g2.1, by omega, g2.2.2⟩
  rw [e]; rfl
theorem wkm_1 {mo s : Int} (hs : s = mo + cbsM M + csvM M mo) (h : (0 ≤ s ∧ s ≤ 105190559) ∧ (M 40 27 ≤ s % 1440 ∧ s % 1440 ≤ M 40 28 - 1) ∧ wkdM M (s / 1440) = true) : bI (wkmM M mo) = 1 := by
  have e : wkmM M mo = true := by
    show lsB (M 40 27) (M 40 28) (wkdM M) (mo + cbsM M + csvM M mo) = true
    rw [← hs, lsB_iff]
    exact ⟨h.1, by omega, h.2.2⟩
  rw [e]; rfl
end ZWK
