-- ===== the law's state: both objects side by side =====
/-- labels without those of what never changes -/
def rlb (K : zK) (ρ : zL) : zL := fun a => if K a = (1, 1) ∨ K a = (1, 2) ∨ K a = (1, 5) then 0 else ρ a
section ZRLB
variable {ρ ρ' : zL} {K K' : zK} {X X' : zX} {Rf Rf' : zR} {M M' : zM} {md x out outD : Nat}
theorem rlb_n {a : Nat} (h : ¬ imk (K a)) : rlb K ρ a = ρ a := by unfold rlb; exact if_neg h
theorem rlb_i {a : Nat} (h : imk (K a)) : rlb K ρ a = 0 := by unfold rlb; exact if_pos h
theorem kdM_1 (f : Nat) : (kdM f).1 ≠ 1 := by unfold kdM; split <;> decide
theorem nimk {k : Nat × Nat} (h : k.1 ≠ 1 ∨ k = (1, 8) ∨ k = (1, 7)) : ¬ imk k := by
  unfold imk
  rcases h with h | h | h
  · intro g
    rcases g with g | g | g <;> (rw [g] at h; exact h rfl)
  · rw [h]; decide
  · rw [h]; decide
theorem repR.rel (h : repR ρ K X Rf md M) (hz : ∀ a, (K a).1 ≠ 0 → ¬ imk (K a) → ρ' a = ρ a) : repR ρ' K X Rf md M := by
  obtain ⟨⟨h1, h2⟩, hq, hd, a9, a10, a11, a22, a34, g, hp, hs, hl⟩ := h
  refine ⟨⟨h1, by rw [hz md (zk1 h1) (nimk (Or.inr (Or.inl h1)))]; exact h2⟩, hq, fun f hk => ?_, a9, a10, a11, a22, a34, g, fun p hp6 => ?_, fun n hn => ?_, hl⟩
  · obtain ⟨a, q1, q2, q3, q4⟩ := hd f hk
    exact ⟨a, q1, q2, by rw [hz a (by rw [q2]; exact hk) (by rw [q2]; exact nimk (Or.inl (kdM_1 f)))]; exact q3, q4⟩
  · rcases hp p hp6 with ⟨q1, q2 | ⟨mo, sv, w1, ⟨k1, k2⟩, ⟨l1, l2⟩, w4⟩⟩ | q
    · exact Or.inl ⟨q1, Or.inl q2⟩
    · exact Or.inl ⟨q1, Or.inr ⟨mo, sv, w1, ⟨k1, k2⟩, ⟨by rw [hz mo (zk1 k1) (by rw [k1]; exact nimk (Or.inl (show (2 : Nat) ≠ 1 by decide)))]; exact l1, by rw [hz sv (zk1 k2) (by rw [k2]; exact nimk (Or.inl (show (2 : Nat) ≠ 1 by decide)))]; exact l2⟩, w4⟩⟩
    · exact Or.inr q
  · rcases hs n hn with q | ⟨r, w1, k1, l1, w2⟩
    · exact Or.inl q
    · exact Or.inr ⟨r, w1, k1, by rw [hz r (zk1 k1) (by rw [k1]; exact nimk (Or.inl (show (2 : Nat) ≠ 1 by decide)))]; exact l1, w2⟩
theorem repR.keepB (h : repR ρ K X Rf md M) (hz : ∀ a, (K a).1 ≠ 0 → 2000 ≤ ρ a → ρ a < 4000 → K' a = K a ∧ ρ' a = ρ a ∧ X' a = X a ∧ Rf' a = Rf a) : repR ρ' K' X' Rf' md M ∧ lsR X Rf X' Rf' md := by
  have hf := h.ff
  obtain ⟨⟨h1, h2⟩, hq, hd, a9, a10, a11, a22, a34, ⟨g1, g2, g3, g4, g5⟩, hp, hs, hl⟩ := h
  have e := hz md (zk1 h1) (by omega) (by omega)
  have hf40 : ∀ f, (kdM f).1 ≠ 0 → f < 40 := fun f hk => by
    by_cases g : f < 40
    · exact g
    · exfalso; revert hk; unfold kdM; split <;> (first | omega | (intro w; exact w rfl))
  have at1 : ∀ f a, (kdM f).1 ≠ 0 → Rf md f = some a → X' a = X a ∧ Rf' a = Rf a := fun f a hk hr => by
    obtain ⟨b, q1, q2, q3⟩ := hf f hk
    have := hf40 f hk
    rw [hr] at q1; cases q1
    exact (hz a (by rw [q2]; exact hk) (by omega) (by omega)).2.2
  have b9 := at1 9 a9 (by decide) g1
  have b10 := at1 10 a10 (by decide) g2
  have b11 := at1 11 a11 (by decide) g3
  have b22 := at1 22 a22 (by decide) g4
  have b34 := at1 34 a34 (by decide) g5
  refine ⟨⟨⟨by rw [e.1]; exact h1, by rw [e.2.1]; exact h2⟩, fun q g => by rw [e.2.2.1]; exact hq q g, fun f hk => ?_, a9, a10, a11, a22, a34, by rw [e.2.2.2]; exact ⟨g1, g2, g3, g4, g5⟩, fun p hp6 => ?_, fun n hn => (hs n hn).keep (fun a q1 q2 => ⟨(hz a q1 (by omega) (by omega)).1, (hz a q1 (by omega) (by omega)).2.1, (hz a q1 (by omega) (by omega)).2.2.1⟩) (by rw [b22.2]), by rw [e.2.2.1, b34.1]; exact hl⟩, fun q => by rw [dlC_a g1, dlC_a (by rw [e.2.2.2]; exact g1), b9.1]; exact Nat.le_refl _, fun k => by rw [dnC_a g4, dnC_a (by rw [e.2.2.2]; exact g4), b22.2]; exact Nat.le_refl _⟩
  · obtain ⟨a, q1, q2, q3, q4⟩ := hd f hk
    have := hf40 f hk
    have e2 := hz a (by rw [q2]; exact hk) (by omega) (by omega)
    exact ⟨a, by rw [e.2.2.2]; exact q1, by rw [e2.1]; exact q2, by rw [e2.2.1]; exact q3, fun g => by rw [e2.2.2.1]; exact q4 g⟩
  · rcases hp p hp6 with ⟨q1, q2⟩ | ⟨q1, q2⟩
    · exact Or.inl ⟨q1, q2.keep (fun a w1 w2 => ⟨(hz a w1 (by omega) (by omega)).1, (hz a w1 (by omega) (by omega)).2.1, (hz a w1 (by omega) (by omega)).2.2.1⟩) (by rw [b9.1]) (by rw [b10.2]) (by rw [b11.2])⟩
    · exact Or.inr ⟨q1, by rw [b9.1]; exact q2⟩
theorem ptR_ls (h : lsR X Rf X' Rf' md) : ptR X' Rf' md ≤ ptR X Rf md := by
  have b0 := h.1 0; have b1 := h.1 1; have b2 := h.1 2; have b3 := h.1 3; have b4 := h.1 4; have b5 := h.1 5
  have c0 := h.2 0; have c1 := h.2 1; have c2 := h.2 2; have c3 := h.2 3; have c4 := h.2 4; have c5 := h.2 5
  unfold ptR; omega
/-- the two objects tell the same calendar; the law's two rows -/
def LI (ρ : zL) (K : zK) (X : zX) (Rf : zR) (x md out outD : Nat) (M : zM) : Prop := repC ρ K X Rf x M ∧ repR (rlb K ρ) K X Rf md M ∧ okM M ∧ (K out = (4, 1) ∧ ρ out = 4000) ∧ K outD = (5, 1) ∧ ρ outD = 4001
/-- behind a call of the class through the law -/
theorem LI.c {o : Nat} (h : LI ρ K X Rf x md out outD M) (ho : o = out ∨ o = outD) (hC : repC ρ' K' X' Rf' x M') (hf : frO ρ K X Rf o ρ' K' X' Rf') : repR (rlb K' ρ') K' X' Rf' md M ∧ ptR X' Rf' md ≤ ptR X Rf md ∧ (K' out = (4, 1) ∧ ρ' out = 4000) ∧ K' outD = (5, 1) ∧ ρ' outD = 4001 := by
  obtain ⟨h1, h2, h3, ⟨h4, h5⟩, h6, h7⟩ := h
  have e1 := hf out (zk1 h4)
  have e2 := hf outD (zk1 h6)
  have w := h2.keepB (K' := K') (ρ' := rlb K' ρ') (X' := X') (Rf' := Rf') (fun a g1 g2 g3 => by
    have gi : ¬ imk (K a) := fun q => by rw [rlb_i q] at g2; omega
    rw [rlb_n gi] at g2 g3
    have q := hf a g1
    rw [rlb_n gi, rlb_n (by rw [q.1]; exact gi)]
    refine ⟨q.1, q.2.1, (q.2.2 g2).1 (fun g => ?_), (q.2.2 g2).2⟩
    rcases ho with ho | ho <;> (rw [g, ho] at g3; omega))
  exact ⟨w.1, ptR_ls w.2, ⟨by rw [e1.1]; exact h4, by rw [e1.2.1]; exact h5⟩, by rw [e2.1]; exact h6, by rw [e2.2.1]; exact h7⟩
/-- behind a call of the reference -/
theorem LI.r {ρ2 : zL} {K2 : zK} {X2 : zX} {R2 : zR} (hC : repC ρ K X Rf x M) (hk : (K out = (4, 1) ∧ ρ out = 4000) ∧ K outD = (5, 1) ∧ ρ outD = 4001) (hM : okM M) (hR : repR ρ2 K2 X2 R2 md M) (hf : frR (rlb K ρ) K X Rf ρ2 K2 X2 R2) : X2 out = X out ∧ X2 outD = X outD ∧ ∃ ρ3, LI ρ3 K2 X2 R2 x md out outD M := by
  obtain ⟨⟨h4, h5⟩, h6, h7⟩ := hk
  have i1 : ¬ imk (K out) := nimk (Or.inl (by rw [h4]; decide))
  have i2 : ¬ imk (K outD) := nimk (Or.inl (by rw [h6]; decide))
  have e1 := hf out (zk1 h4)
  have e2 := hf outD (zk1 h6)
  rw [rlb_n i1] at e1
  rw [rlb_n i2] at e2
  obtain ⟨ρ3, hρ⟩ : ∃ ρ3 : zL, ρ3 = fun a => if K a = (1, 1) ∨ K a = (1, 2) ∨ K a = (1, 5) then ρ a else ρ2 a := ⟨_, rfl⟩
  have pi : ∀ a, imk (K a) → ρ3 a = ρ a := fun a g => by rw [hρ]; exact if_pos g
  have pn : ∀ a, ¬ imk (K a) → ρ3 a = ρ2 a := fun a g => by rw [hρ]; exact if_neg g
  refine ⟨(e1.2.2 (by omega)).1, (e2.2.2 (by omega)).1, ρ3, hC.keep (fun a g1 g2 => ?_), hR.rel (fun a g1 g2 => ?_), hM, ⟨by rw [e1.1]; exact h4, by rw [pn _ i1, e1.2.1]; exact h5⟩, by rw [e2.1]; exact h6, by rw [pn _ i2, e2.2.1]; exact h7⟩
  · have q := hf a g1
    by_cases gi : imk (K a)
    · have q2 := q.2.2 (by rw [rlb_i gi]; omega)
      exact ⟨q.1, pi a gi, q2.1, q2.2⟩
    · rw [rlb_n gi] at q
      have q2 := q.2.2 (by rcases g2 with g2 | g2; exact absurd g2 gi; exact Or.inl g2)
      exact ⟨q.1, by rw [pn a gi]; exact q.2.1, q2.1, q2.2⟩
  · rw [rlb_n g2]
    by_cases gi : imk (K a)
    · exfalso
      have q := hf a (by unfold imk at gi; rcases gi with g | g | g <;> (rw [g]; decide))
      rw [q.1] at g2; exact g2 gi
    · exact pn a gi
end ZRLB
/-- the law's script -/
def scI (xs : Nat → Int32) (j : Nat) : Int := (xs j).toInt
theorem scI_i {xs : Nat → Int32} {j : Nat} : iI (scI xs j) = xs j := by unfold scI iI; exact Int32.ofInt_toInt _
theorem scI_fit {xs : Nat → Int32} {j : Nat} : fit (scI xs j) := by
  have h1 := (xs j).toInt_lt
  have h2 := (xs j).le_toInt
  unfold fit scI; omega
section ZSCR
variable {p : Program} {l : Launch} {e : Env} {R : Room} {s : State} {m : MethodId} {args : Array Value} {below : List Frame} {meth : Method} {c : Code} {H : Heap} {locs : List Loc} {cells slots : Nat} {Q : State → Prop}
variable {cc : ByteArray} {pc : Nat} {ls : Array Slot} {rest st0 : List Value} {Γ : zG} {A : Nat → Prop} {K K0 : zK} {X X' : zX} {Rf Rf' : zR} {a : Nat}
theorem zsld (hx : p.tables.exec = Jvm.exec) (hb : c.code = cc) {b L : Nat} {xs : Nat → Int32} (hXs : va_X b L xs s s.heap) (hbl : b < s.heap.size) (hbA : ¬ A b) (hL : L ≤ 4096) (hw : Wd Γ A K X Rf s H locs) {z v : Int} (h0 : 0 ≤ z ∧ z < L) (hv : scI xs z.toNat = v) (hdg : decode cc pc = .ok (.iaload, 1)) (kk : W p l e R s m args below meth c H locs cells slots Q (F0 m (pc + 1) ls (.int (iI v) :: rest))) : W p l e R s m args below meth c H locs cells slots Q (F0 m pc ls (.int (iI z) :: .ref b :: rest)) := by
  refine va_sld hx hb hXs hbl hbA hw.2.2.1 (iI_in h0.1 h0.2 (by omega)) hdg ?_
  have e := scI_i (xs := xs) (j := z.toNat)
  rw [hv] at e
  rw [iI_cl h0.1 (by omega), ← e]
  exact kk
theorem zslen (hx : p.tables.exec = Jvm.exec) (hb : c.code = cc) {b L : Nat} {xs : Nat → Int32} (hXs : va_X b L xs s s.heap) (hbl : b < s.heap.size) (hbA : ¬ A b) (hL : L ≤ 4096) (hw : Wd Γ A K X Rf s H locs) (hdg : decode cc pc = .ok (.arraylength, 1)) (kk : W p l e R s m args below meth c H locs cells slots Q (F0 m (pc + 1) ls (.int (iI (L : Int)) :: rest))) : W p l e R s m args below meth c H locs cells slots Q (F0 m pc ls (.ref b :: rest)) := by
  refine va_slen hx hb hXs hbl hbA hw.2.2.1 hdg ?_
  exact kk
end ZSCR
