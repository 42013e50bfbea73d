-- ===== the numbers behind each call of the law =====
/-- the first np patterns may serve turns -/
def PM (M : zM) (np : Int) : Prop := ∀ j : Nat, (j : Int) < np → (patM M j 0 ≠ 0 ∨ patM M j 1 = 16)
theorem PM.same {M M' : zM} {np : Int} (h : PM M np) (e : ∀ f, f = 2 ∨ f = 3 ∨ f = 4 → M' f = M f) : PM M' np := fun j hj => by
  have := h j hj
  unfold patM at this ⊢
  rw [e 2 (Or.inl rfl), e 3 (Or.inr (Or.inl rfl)), e 4 (Or.inr (Or.inr rfl))]
  exact this
theorem pad_v {M M' : zM} {n mo ki nu : Int} (hn : M 40 1 = n) (h0 : 0 ≤ n) (hM : M' = padM M (M 40 1).toNat mo ki nu) (hp : PM M n) (hk : mo ≠ 0 ∨ ki = 16) : (M' 40 1 = n + 1 ∧ M' 40 5 = M 40 5 ∧ M' 40 16 = M 40 16 ∧ M' 40 29 = M 40 29) ∧ PM M' (n + 1) := by
  subst hM
  refine ⟨⟨?_, ?_, ?_, ?_⟩, fun j hj => ?_⟩
  · have e : padM M (M 40 1).toNat mo ki nu 40 1 = (((M 40 1).toNat : Nat) : Int) + 1 := by simp [padM, upM, up2]
    rw [e]; omega
  · simp [padM, upM, up2]
  · simp [padM, upM, up2]
  · simp [padM, upM, up2]
  · have e2 : padM M (M 40 1).toNat mo ki nu 2 j = if j = (M 40 1).toNat then mo else M 2 j := by simp [padM, upM, up2]
    have e3 : padM M (M 40 1).toNat mo ki nu 3 j = if j = (M 40 1).toNat then ki else M 3 j := by simp [padM, upM, up2]
    show (padM M (M 40 1).toNat mo ki nu 2 j ≠ 0 ∨ padM M (M 40 1).toNat mo ki nu 3 j = 16)
    rw [e2, e3]
    by_cases g : j = (M 40 1).toNat
    · rw [if_pos g, if_pos g]; exact hk
    · rw [if_neg g, if_neg g]; exact hp j (by omega)
theorem plc_v {M M' : zM} {n bs : Int} (hok : okM M) (hn : M 40 5 = n) (h0 : 0 ≤ n) (hM : M' = plM M (M 40 5).toNat bs) : (M' 40 1 = M 40 1 ∧ M' 40 5 = n + 1 ∧ M' 40 16 = M 40 16 ∧ M' 40 29 = M 40 29) ∧ M' 7 n.toNat = 0 ∧ ∀ f, f = 2 ∨ f = 3 ∨ f = 4 → M' f = M f := by
  subst hM
  refine ⟨⟨?_, ?_, ?_, ?_⟩, ?_, fun f hf => ?_⟩
  · simp [plM, upM, up2]
  · have e : plM M (M 40 5).toNat bs 40 5 = (((M 40 5).toNat : Nat) : Int) + 1 := by simp [plM, upM, up2]
    rw [e]; omega
  · simp [plM, upM, up2]
  · simp [plM, upM, up2]
  · have e : plM M (M 40 5).toNat bs 7 n.toNat = M 7 n.toNat := by simp [plM, upM, up2]
    rw [e]; exact hok.1.2.2.2.2 n.toNat (by omega)
  · funext k
    rcases hf with rfl | rfl | rfl <;> simp [plM, upM, up2]
theorem tur_v {M M' : zM} {a : Nat} {fy ly b mn cl sv : Int} (hM : M' = tuM M a fy ly b mn cl sv) : (M' 40 1 = M 40 1 ∧ M' 40 5 = M 40 5 ∧ M' 40 16 = M 40 16 ∧ M' 40 29 = M 40 29) ∧ M' 7 a = M 7 a + 1 ∧ ∀ f, f = 2 ∨ f = 3 ∨ f = 4 → M' f = M f := by
  subst hM
  refine ⟨⟨?_, ?_, ?_, ?_⟩, ?_, fun f hf => ?_⟩
  · simp [tuM]
  · simp [tuM]
  · simp [tuM]
  · simp [tuM]
  · simp [tuM]
  · funext k
    rcases hf with rfl | rfl | rfl <;> simp [tuM]
theorem ser_v {M M' : zM} {n a bg ki st wd : Int} (hn : M 40 16 = n) (h0 : 0 ≤ n) (hM : M' = seM M (M 40 16).toNat a bg ki st wd) : (M' 40 1 = M 40 1 ∧ M' 40 5 = M 40 5 ∧ M' 40 16 = n + 1 ∧ M' 40 29 = M 40 29) ∧ serM M' n.toNat 9 = 0 := by
  subst hM
  have e : (M 40 16).toNat = n.toNat := by rw [hn]
  rw [e]
  refine ⟨⟨?_, ?_, ?_, ?_⟩, ?_⟩
  · simp [seM]
  · simp [seM]
  · show (if (40 : Nat) = 17 ∧ _ then _ else if (40 : Nat) = 40 ∧ (16 : Nat) = 16 then ((n.toNat : Nat) : Int) + 1 else _) = _
    rw [if_neg (by omega), if_pos ⟨rfl, rfl⟩]; omega
  · simp [seM]
  · show (if 9 < 11 then seM M n.toNat a bg ki st wd 17 (11 * n.toNat + 9) else 0) = 0
    rw [if_pos (by decide)]
    show (if (17 : Nat) = 17 ∧ 11 * n.toNat ≤ 11 * n.toNat + 9 ∧ 11 * n.toNat + 9 < 11 * n.toNat + 11 then seV a bg ki st wd (11 * n.toNat + 9 - 11 * n.toNat) else _) = 0
    rw [if_pos (by omega), show 11 * n.toNat + 9 - 11 * n.toNat = 9 by omega]
    rfl
theorem use_v {M M' : zM} {n : Nat} {a : Int} (hM : M' = usaM M n a) : M' 40 1 = M 40 1 ∧ M' 40 5 = M 40 5 ∧ M' 40 16 = M 40 16 ∧ M' 40 29 = M 40 29 := by
  subst hM
  refine ⟨?_, ?_, ?_, ?_⟩ <;> simp [usaM, up2]
theorem set_v {M M' : zM} {j : Nat} {v : Int} (hM : M' = up2 M 17 j v) : M' 40 1 = M 40 1 ∧ M' 40 5 = M 40 5 ∧ M' 40 16 = M 40 16 ∧ M' 40 29 = M 40 29 := by
  subst hM
  refine ⟨?_, ?_, ?_, ?_⟩ <;> simp [up2]
theorem fea_v {M M' : zM} {n fy ly b wy : Int} (hn : M 40 29 = n) (h0 : 0 ≤ n) (hM : M' = faM M (M 40 29).toNat fy ly b wy) : M' 40 1 = M 40 1 ∧ M' 40 5 = M 40 5 ∧ M' 40 16 = M 40 16 ∧ M' 40 29 = n + 1 := by
  subst hM
  refine ⟨?_, ?_, ?_, ?_⟩
  · simp [faM, upM, up2]
  · simp [faM, upM, up2]
  · simp [faM, upM, up2]
  · have e : faM M (M 40 29).toNat fy ly b wy 40 29 = (((M 40 29).toNat : Nat) : Int) + 1 := by simp [faM, upM, up2]
    rw [e]; omega
theorem wk_v {M M' : zM} {w : Int} (hM : M' = upM M 26 w) : M' 40 1 = M 40 1 ∧ M' 40 5 = M 40 5 ∧ M' 40 16 = M 40 16 ∧ M' 40 29 = M 40 29 := by
  subst hM
  refine ⟨?_, ?_, ?_, ?_⟩ <;> simp [upM, up2]
theorem zM0_v : (zM0 40 1 = 0 ∧ zM0 40 5 = 0 ∧ zM0 40 16 = 0 ∧ zM0 40 29 = 0) ∧ PM zM0 0 := by
  refine ⟨⟨by decide, by decide, by decide, by decide⟩, fun j hj => ?_⟩
  exfalso; omega
