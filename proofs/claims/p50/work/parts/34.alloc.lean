-- ===== what is new =====
theorem zfa {K : zK} {a q : Nat} (h : (K a).1 ≠ 0) (hq : (K q).1 = 0) : a ≠ q := fun e => h (by rw [e]; exact hq)
theorem zfz {K Kc : zK} {q : Nat} (h : ∀ a, (K a).1 ≠ 0 → Kc a = K a) (hq : (Kc q).1 = 0) : (K q).1 = 0 := by
  by_cases g : (K q).1 = 0
  · exact g
  · rw [h q g] at hq; exact hq
theorem zk1 {K : zK} {a n k : Nat} (h : K a = (k + 1, n)) : (K a).1 ≠ 0 := by rw [h]; exact Nat.succ_ne_zero _
theorem zkn2 {K : zK} {a b : Nat} {k1 k2 : Nat × Nat} (h1 : K a = k1) (h2 : K b = k2) (h : k1 ≠ k2) : a ≠ b := fun q => h (by rw [← h1, ← h2, q])
theorem zcp_o {X : zX} {b a sp dp n q : Nat} (h : q ≠ a) : zcp X b a sp dp n q = X q := funext fun j => by simp [zcp, h]
theorem Wd.re {Γ : zG} {A : Nat → Prop} {K K' : zK} {X X' : zX} {Rf R' : zR} {s : State} {H : Heap} {locs : List Loc} (hw : Wd Γ A K X Rf s H locs) (eK : K' = K) (eX : X' = X) (eR : R' = Rf) : Wd Γ A K' X' R' s H locs := by
  subst eK; subst eX; subst eR; exact hw
