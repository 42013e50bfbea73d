-- ===== the new calendar =====
def zM0 : zM := fun f k => if f = 40 then (if k = 25 then -1 else if k = 26 then 31 else if k = 27 then 540 else if k = 28 then 1020 else 0) else 0
theorem okM_0 : okM zM0 := by
  have e1 : zM0 40 1 = 0 := rfl
  have e5 : zM0 40 5 = 0 := rfl
  have e16 : zM0 40 16 = 0 := rfl
  have e25 : zM0 40 25 = -1 := rfl
  have e26 : zM0 40 26 = 31 := rfl
  have e27 : zM0 40 27 = 540 := rfl
  have e28 : zM0 40 28 = 1020 := rfl
  have e29 : zM0 40 29 = 0 := rfl
  refine ⟨⟨by omega, by omega, by omega, by omega, fun p _ => rfl⟩, fun k h => by omega, fun k h => by omega, fun k h => by omega, ⟨by omega, by omega, by omega, by omega⟩, fun k h => by omega⟩
def labK (k : Nat × Nat) : Nat := if k = (1, 7) then 1 else if k = (6, 24) then 2 else if k = (7, 6) then 3 else if k = (8, 6) then 4 else if k = (1, 0) then 5 else if k = (2, 4733) then 6 else if k = (1, 6) then 10 else if k = (10, 20) then 11 else if k = (2, 1701) then 13 else if k = (1, 3) then 20 else if k = (9, 6) then 21 else if k = (2, 6) then 22 else if k = (2, 1201) then 23 else 0
section ZNEW
variable {ρ : zL} {K K' : zK} {X' : zX} {Rf' : zR}
theorem repC_new {x pr pl sr dr na wo p0 tu to be sa fe fa fn : Nat} (hx : K' x = (1, 7))
    (n1 : (K pr).1 = 0 ∧ K' pr = (6, 24)) (n2 : (K pl).1 = 0 ∧ K' pl = (7, 6)) (n3 : (K sr).1 = 0 ∧ K' sr = (8, 6)) (n4 : (K dr).1 = 0 ∧ K' dr = (1, 0)) (n5 : (K na).1 = 0 ∧ K' na = (2, 4733)) (n6 : (K wo).1 = 0 ∧ K' wo = (1, 6)) (n7 : (K p0).1 = 0 ∧ K' p0 = (1, 3)) (n8 : (K tu).1 = 0 ∧ K' tu = (9, 6)) (n9 : (K to).1 = 0 ∧ K' to = (2, 6)) (n10 : (K be).1 = 0 ∧ K' be = (2, 1201)) (n11 : (K sa).1 = 0 ∧ K' sa = (2, 1201)) (n12 : (K fe).1 = 0 ∧ K' fe = (10, 20)) (n13 : (K fa).1 = 0 ∧ K' fa = (1, 0)) (n14 : (K fn).1 = 0 ∧ K' fn = (2, 1701))
    (r1 : Rf' x 0 = some pr) (r2 : Rf' x 2 = some pl) (r3 : Rf' x 4 = some sr) (r4 : Rf' x 6 = some dr) (r5 : Rf' x 7 = some wo) (r6 : Rf' dr 0 = some na) (r7 : Rf' wo 1 = some p0) (r8 : Rf' wo 5 = some fe) (r9 : Rf' wo 7 = some fa) (r10 : Rf' p0 1 = some tu) (r11 : Rf' p0 3 = some to) (r12 : Rf' p0 4 = some be) (r13 : Rf' p0 5 = some sa) (r14 : Rf' fa 0 = some fn)
    (hp : (X' x 1 = 0 ∧ X' x 3 = 0 ∧ X' x 5 = 0) ∧ (∀ k, Rf' pr k = none ∧ Rf' pl k = none ∧ Rf' sr k = none) ∧ (∀ k, X' na k = 0) ∧ (X' wo 0 = -1 ∧ X' wo 2 = 31 ∧ X' wo 3 = 540 ∧ X' wo 4 = 1020 ∧ X' wo 6 = 0) ∧ (∀ k, Rf' fe k = none) ∧ (∀ k, Rf' tu k = none) ∧ (X' p0 0 = 0 ∧ X' p0 2 = 0 ∧ X' p0 6 = 1) ∧ (∀ k, X' be k = 0 ∧ X' sa k = 0) ∧ (X' fa 1 = 0 ∧ X' fa 2 = -1) ∧ (∀ k, X' fn k = 0) ∧ be ≠ sa ∧ dr ≠ fa) :
    ∃ ρ' : zL, (∀ a, (K a).1 ≠ 0 → a ≠ x → ρ' a = ρ a) ∧ repC ρ' K' X' Rf' x zM0 := by
  obtain ⟨⟨x1, x3, x5⟩, hnone, hna, ⟨w0, w2, w3, w4, w6⟩, hfe, htu, hp0, hbs, ⟨f1, f2⟩, hfn, hne1, hne2⟩ := hp
  obtain ⟨ρ', hρ⟩ : ∃ ρ' : zL, ρ' = fun a => if (K a).1 ≠ 0 ∧ a ≠ x then ρ a else if a = fa then 12 else if a = sa then 24 else labK (K' a) := ⟨_, rfl⟩
  have L : ∀ {u k}, K' u = k → (K u).1 = 0 ∨ u = x → u ≠ fa → u ≠ sa → ρ' u = labK k := fun {u k} hk h1 h2 h3 => by
    rw [hρ]; dsimp only
    rw [if_neg (by intro g; rcases h1 with q | q; exact g.1 q; exact g.2 q), if_neg h2, if_neg h3, hk]
  have nk : ∀ {a b : Nat} {u v : Nat × Nat}, K' a = u → K' b = v → u ≠ v → a ≠ b := fun h1 h2 hn g => hn (by rw [← h1, ← h2, g])
  have hfa : ρ' fa = 12 := by rw [hρ]; dsimp only; rw [if_neg (fun g => g.1 n13.1), if_pos rfl]
  have hsa : ρ' sa = 24 := by rw [hρ]; dsimp only; rw [if_neg (fun g => g.1 n11.1), if_neg (nk n11.2 n13.2 (by decide)), if_pos rfl]
  have l0 := L hx (Or.inr rfl) (nk hx n13.2 (by decide)) (nk hx n11.2 (by decide))
  have l1 := L n1.2 (Or.inl n1.1) (nk n1.2 n13.2 (by decide)) (nk n1.2 n11.2 (by decide))
  have l2 := L n2.2 (Or.inl n2.1) (nk n2.2 n13.2 (by decide)) (nk n2.2 n11.2 (by decide))
  have l3 := L n3.2 (Or.inl n3.1) (nk n3.2 n13.2 (by decide)) (nk n3.2 n11.2 (by decide))
  have l4 := L n4.2 (Or.inl n4.1) hne2 (nk n4.2 n11.2 (by decide))
  have l5 := L n5.2 (Or.inl n5.1) (nk n5.2 n13.2 (by decide)) (nk n5.2 n11.2 (by decide))
  have l6 := L n6.2 (Or.inl n6.1) (nk n6.2 n13.2 (by decide)) (nk n6.2 n11.2 (by decide))
  have l7 := L n7.2 (Or.inl n7.1) (nk n7.2 n13.2 (by decide)) (nk n7.2 n11.2 (by decide))
  have l8 := L n8.2 (Or.inl n8.1) (nk n8.2 n13.2 (by decide)) (nk n8.2 n11.2 (by decide))
  have l9 := L n9.2 (Or.inl n9.1) (nk n9.2 n13.2 (by decide)) (nk n9.2 n11.2 (by decide))
  have l10 := L n10.2 (Or.inl n10.1) (nk n10.2 n13.2 (by decide)) hne1
  have l12 := L n12.2 (Or.inl n12.1) (nk n12.2 n13.2 (by decide)) (nk n12.2 n11.2 (by decide))
  have l14 := L n14.2 (Or.inl n14.1) (nk n14.2 n13.2 (by decide)) (nk n14.2 n11.2 (by decide))
  have e1 : zM0 40 1 = 0 := rfl
  have e5 : zM0 40 5 = 0 := rfl
  have e16 : zM0 40 16 = 0 := rfl
  have e25 : zM0 40 25 = -1 := rfl
  have e26 : zM0 40 26 = 31 := rfl
  have e27 : zM0 40 27 = 540 := rfl
  have e28 : zM0 40 28 = 1020 := rfl
  have e29 : zM0 40 29 = 0 := rfl
  refine ⟨ρ', fun a h1 h2 => by rw [hρ]; dsimp only; rw [if_pos ⟨h1, h2⟩], ⟨hx, l0⟩, pr, pl, sr, dr, na, wo, ⟨r1, r2, r3, r4, r5, r6⟩, ⟨n1.2, n2.2, n3.2, n4.2, n5.2⟩, ⟨l1, l2, l3, l4, l5⟩, by omega, fun k hk => Or.inr ⟨by omega, (hnone k).1⟩, fun k hk => Or.inr ⟨by omega, (hnone k).2.1⟩, fun k hk => Or.inr ⟨by omega, (hnone k).2.2⟩, ⟨n6.2, l6⟩, fe, fa, fn, p0, ⟨r7, r8, r9, r14⟩, ⟨n12.2, n13.2, n14.2⟩, ⟨l12, hfa, l14⟩, by omega, fun k hk => Or.inl ⟨hfe k, by rw [e29]; exact Nat.zero_le _⟩, ?_, by omega, Or.inl ⟨e25, plA_new ⟨n7.2, l7⟩ ⟨r10, r11, r12, r13⟩ ⟨n8.2, n9.2, n10.2, n11.2⟩ ⟨l8, l9, l10, hsa⟩ htu hp0 ⟨by decide, by decide⟩ hbs⟩⟩
  intro k hk
  rw [hfn k]; omega
end ZNEW
