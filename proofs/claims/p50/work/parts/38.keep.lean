-- ===== what stands while other cells change =====
def imk (k : Nat × Nat) : Prop := k = (1, 1) ∨ k = (1, 2) ∨ k = (1, 5)
/-- the cells with labels in S, and those that are never written again, are as they were -/
def zag (ρ : zL) (K : zK) (X : zX) (Rf : zR) (ρ' : zL) (K' : zK) (X' : zX) (Rf' : zR) (S : Nat → Prop) : Prop := ∀ a, (K a).1 ≠ 0 → (imk (K a) ∨ S (ρ a)) → K' a = K a ∧ ρ' a = ρ a ∧ X' a = X a ∧ Rf' a = Rf a
section ZKEEP
variable {ρ ρ' : zL} {K K' : zK} {X X' : zX} {Rf Rf' : zR} {M M' : zM}
theorem zag.sub {S S' : Nat → Prop} (h : zag ρ K X Rf ρ' K' X' Rf' S) (hs : ∀ l, S' l → S l) : zag ρ K X Rf ρ' K' X' Rf' S' := fun a h1 h2 => h a h1 (h2.imp id (hs _))
theorem zag.at {S : Nat → Prop} (h : zag ρ K X Rf ρ' K' X' Rf' S) {a n k : Nat} (hk : K a = (k + 1, n)) (hs : S (ρ a)) : K' a = K a ∧ ρ' a = ρ a ∧ X' a = X a ∧ Rf' a = Rf a := h a (zk1 hk) (Or.inr hs)
theorem zag.im {S : Nat → Prop} (h : zag ρ K X Rf ρ' K' X' Rf' S) {a n k : Nat} (hk : K a = (k + 1, n)) (hs : imk (k + 1, n)) : K' a = K a ∧ X' a = X a ∧ Rf' a = Rf a := by
  have := h a (zk1 hk) (Or.inl (by rw [hk]; exact hs))
  exact ⟨this.1, this.2.2⟩
theorem imk_f : imk (0 + 1, 1) := Or.inl rfl
theorem imk_p : imk (0 + 1, 2) := Or.inr (Or.inl rfl)
theorem imk_t : imk (0 + 1, 5) := Or.inr (Or.inr rfl)
theorem turnsOK.keep {S : Nat → Prop} {tu n : Nat} {T Tp : Nat → Nat → Int} (h : turnsOK K X Rf tu n T Tp) (hz : zag ρ K X Rf ρ' K' X' Rf' S) (hq : Rf' tu = Rf tu) : turnsOK K' X' Rf' tu n T Tp := by
  intro k hk
  rcases h k hk with h1 | ⟨h1, t, pa, h2, h3, h4, h5, h6⟩
  · exact Or.inl (by rw [hq]; exact h1)
  · obtain ⟨a1, a2, a3⟩ := hz.im h3 imk_t
    obtain ⟨b1, b2, b3⟩ := hz.im h5 imk_p
    exact Or.inr ⟨h1, t, pa, by rw [hq]; exact h2, by rw [a1]; exact h3, by rw [a3]; exact h4, by rw [b1]; exact h5, by rw [a2, b2]; exact h6⟩
theorem ptOK.keep {S : Nat → Prop} {pr : Nat} (h : ptOK K X Rf pr M) (hz : zag ρ K X Rf ρ' K' X' Rf' S) (hq : Rf' pr = Rf pr) : ptOK K' X' Rf' pr M := by
  intro k hk
  rcases h k hk with ⟨h1, pa, h2, h3, h4⟩ | h1
  · obtain ⟨b1, b2, b3⟩ := hz.im h3 imk_p
    exact Or.inl ⟨h1, pa, by rw [hq]; exact h2, by rw [b1]; exact h3, by rw [b2]; exact h4⟩
  · exact Or.inr (by rw [hq]; exact h1)
theorem plA.keep {b p0 n : Nat} {base : Int} {T Tp : Nat → Nat → Int} (h : plA ρ K X Rf b p0 base n T Tp) (hz : zag ρ K X Rf ρ' K' X' Rf' (fun l => b ≤ l ∧ l ≤ b + 4)) : plA ρ' K' X' Rf' b p0 base n T Tp := by
  obtain ⟨⟨h1, h2⟩, tu, to, be, sa, ⟨r1, r2, r3, r4⟩, ⟨k1, k2, k3, k4⟩, ⟨l1, l2, l3, l4⟩, ht, hn, hc, hb, hp⟩ := h
  obtain ⟨a1, a2, a3, a4⟩ := hz.at h1 (by rw [h2]; omega)
  obtain ⟨b1, b2, b3, b4⟩ := hz.at k1 (by rw [l1]; omega)
  obtain ⟨c1, c2, c3, c4⟩ := hz.at k2 (by rw [l2]; omega)
  obtain ⟨d1, d2, d3, d4⟩ := hz.at k3 (by rw [l3]; omega)
  obtain ⟨e1, e2, e3, e4⟩ := hz.at k4 (by rw [l4]; omega)
  refine ⟨⟨by rw [a1]; exact h1, by rw [a2]; exact h2⟩, tu, to, be, sa, ?_, ?_, ?_, ht.keep hz b4, hn, by rw [a3]; exact hc, by rw [a3]; exact hb, by rw [d3, e3, a3]; exact hp⟩
  · rw [a4]; exact ⟨r1, r2, r3, r4⟩
  · rw [b1, c1, d1, e1]; exact ⟨k1, k2, k3, k4⟩
  · rw [b2, c2, d2, e2]; exact ⟨l1, l2, l3, l4⟩
theorem plOK.keep {pl : Nat} (h : plOK ρ K X Rf pl M) (hz : zag ρ K X Rf ρ' K' X' Rf' (fun l => 100 ≤ l ∧ l < 160)) (hq : Rf' pl = Rf pl) : plOK ρ' K' X' Rf' pl M := by
  intro k hk
  rcases h k hk with ⟨h1, p0, h2, h3⟩ | h1
  · exact Or.inl ⟨h1, p0, by rw [hq]; exact h2, h3.keep (hz.sub (fun l hl => by omega))⟩
  · exact Or.inr (by rw [hq]; exact h1)
theorem upOK.keep {S : Nat → Prop} {po : Nat} {Sd : Nat → Int} {Up : Nat → Nat → Int} (h : upOK K X Rf po Sd Up) (hz : zag ρ K X Rf ρ' K' X' Rf' S) (hq : Rf' po = Rf po) : upOK K' X' Rf' po Sd Up := fun k hk => by
  obtain ⟨pa, h1, h2, h3, h4⟩ := h k hk
  obtain ⟨b1, b2, b3⟩ := hz.im h2 imk_p
  exact ⟨pa, by rw [hq]; exact h1, by rw [b1]; exact h2, by rw [b2]; exact h3, by rw [b2]; exact h4⟩
theorem usOK.keep {S : Nat → Prop} {se : Nat} {Sd : Nat → Int} (h : usOK K X Rf se Sd) (hz : zag ρ K X Rf ρ' K' X' Rf' S) (hq : Rf' se = Rf se) : usOK K' X' Rf' se Sd := by
  rcases h with ⟨h0, h1⟩ | ⟨h0, pa, h1, h2, h3, h4⟩
  · exact Or.inl ⟨h0, by rw [hq]; exact h1⟩
  · obtain ⟨b1, b2, b3⟩ := hz.im h2 imk_p
    exact Or.inr ⟨h0, pa, by rw [hq]; exact h1, by rw [b1]; exact h2, by rw [b2]; exact h3, by rw [b2]; exact h4⟩
theorem seA.keep {b se p0 : Nat} {Sd : Nat → Int} {Up : Nat → Nat → Int} {Ex : Nat → Int} (h : seA ρ K X Rf b se p0 Sd Up Ex) (hz : zag ρ K X Rf ρ' K' X' Rf' (fun l => b ≤ l ∧ l ≤ b + 3)) : seA ρ' K' X' Rf' b se p0 Sd Up Ex := by
  obtain ⟨⟨h1, h2⟩, po, eo, fo, ⟨r1, r2, r3, r4⟩, ⟨k1, k2, k3⟩, ⟨l1, l2, l3⟩, hD, hS, hU, hUs, hE, hd⟩ := h
  obtain ⟨a1, a2, a3, a4⟩ := hz.at h1 (by rw [h2]; omega)
  obtain ⟨b1, b2, b3, b4⟩ := hz.at k1 (by rw [l1]; omega)
  obtain ⟨c1, c2, c3, c4⟩ := hz.at k2 (by rw [l2]; omega)
  obtain ⟨d1, d2, d3, d4⟩ := hz.at k3 (by rw [l3]; omega)
  refine ⟨⟨by rw [a1]; exact h1, by rw [a2]; exact h2⟩, po, eo, fo, ?_, ?_, ?_, by rw [a3]; exact hD, hS, hU.keep hz b4, hUs.keep hz a4, fun k hk => by rw [c3]; exact hE k hk, ?_⟩
  · rw [a4]; exact ⟨r1, r2, r3, r4⟩
  · rw [b1, c1, d1]; exact ⟨k1, k2, k3⟩
  · rw [b2, c2, d2]; exact ⟨l1, l2, l3⟩
  · unfold dtR; rw [a3, d3]; exact hd
theorem seOK.keep {pl sr : Nat} (h : seOK ρ K X Rf pl sr M) (hz : zag ρ K X Rf ρ' K' X' Rf' (fun l => 200 ≤ l ∧ l < 260)) (hq : Rf' sr = Rf sr) (hq2 : Rf' pl = Rf pl) : seOK ρ' K' X' Rf' pl sr M := by
  intro k hk
  rcases h k hk with ⟨h1, se, p0, h2, h3, h4⟩ | h1
  · exact Or.inl ⟨h1, se, p0, by rw [hq]; exact h2, by rw [hq2]; exact h3, h4.keep (hz.sub (fun l hl => by omega))⟩
  · exact Or.inr (by rw [hq]; exact h1)
theorem fstOK.keep {S : Nat → Prop} {fe n : Nat} {F Fp : Nat → Nat → Int} (h : fstOK K X Rf fe n F Fp) (hz : zag ρ K X Rf ρ' K' X' Rf' S) (hq : Rf' fe = Rf fe) : fstOK K' X' Rf' fe n F Fp := fun k hk => by
  rcases h k hk with q | ⟨q, fo, pa, h1, h2, h3, h4, h5, h6, h7, h8⟩
  · exact Or.inl (by rw [hq]; exact q)
  · obtain ⟨a1, a2, a3⟩ := hz.im h2 imk_f
    obtain ⟨b1, b2, b3⟩ := hz.im h4 imk_p
    exact Or.inr ⟨q, fo, pa, by rw [hq]; exact h1, by rw [a1]; exact h2, by rw [a3]; exact h3, by rw [b1]; exact h4, by rw [a2]; exact h5, by rw [b2]; exact h6, by rw [a2]; exact h7, by rw [b2]; exact h8⟩
theorem woA.keep {pl wo : Nat} (h : woA ρ K X Rf pl wo M) (hz : zag ρ K X Rf ρ' K' X' Rf' (fun l => 10 ≤ l ∧ l ≤ 24)) (hq : Rf' pl = Rf pl) : woA ρ' K' X' Rf' pl wo M := by
  obtain ⟨⟨h1, h2⟩, fe, fa, fn, p0, ⟨r1, r2, r3, r4⟩, ⟨k1, k2, k3⟩, ⟨l1, l2, l3⟩, hD, hF, hv, hb, hp⟩ := h
  obtain ⟨a1, a2, a3, a4⟩ := hz.at h1 (by rw [h2]; omega)
  obtain ⟨b1, b2, b3, b4⟩ := hz.at k1 (by rw [l1]; omega)
  obtain ⟨c1, c2, c3, c4⟩ := hz.at k2 (by rw [l2]; omega)
  obtain ⟨d1, d2, d3, d4⟩ := hz.at k3 (by rw [l3]; omega)
  refine ⟨⟨by rw [a1]; exact h1, by rw [a2]; exact h2⟩, fe, fa, fn, p0, ?_, ?_, ?_, by rw [a3]; exact hD, hF.keep hz b4, ?_, by rw [c3]; exact hb, ?_⟩
  · rw [a4, c4]; exact ⟨r1, r2, r3, r4⟩
  · rw [b1, c1, d1]; exact ⟨k1, k2, k3⟩
  · rw [b2, c2, d2]; exact ⟨l1, l2, l3⟩
  · unfold fvr; rw [d3]; exact hv
  · rcases hp with ⟨q, hp⟩ | ⟨q, hp⟩
    · exact Or.inl ⟨q, hp.keep (hz.sub (fun l hl => by omega))⟩
    · exact Or.inr ⟨q, by rw [hq]; exact hp⟩
theorem repC.keep {x : Nat} (h : repC ρ K X Rf x M) (hz : zag ρ K X Rf ρ' K' X' Rf' (fun l => l < 2000)) : repC ρ' K' X' Rf' x M := by
  obtain ⟨⟨h1, h2⟩, pr, pl, sr, dr, na, wo, ⟨r1, r2, r3, r4, r5, r6⟩, ⟨k1, k2, k3, k4, k5⟩, ⟨l1, l2, l3, l4, l5⟩, hD, hP, hL, hS, hW⟩ := h
  obtain ⟨a1, a2, a3, a4⟩ := hz.at h1 (by rw [h2]; omega)
  obtain ⟨b1, b2, b3, b4⟩ := hz.at k1 (by rw [l1]; omega)
  obtain ⟨c1, c2, c3, c4⟩ := hz.at k2 (by rw [l2]; omega)
  obtain ⟨d1, d2, d3, d4⟩ := hz.at k3 (by rw [l3]; omega)
  obtain ⟨e1, e2, e3, e4⟩ := hz.at k4 (by rw [l4]; omega)
  obtain ⟨f1, f2, f3, f4⟩ := hz.at k5 (by rw [l5]; omega)
  refine ⟨⟨by rw [a1]; exact h1, by rw [a2]; exact h2⟩, pr, pl, sr, dr, na, wo, ?_, ?_, ?_, by rw [a3]; exact hD, hP.keep hz b4, hL.keep (hz.sub (fun l hl => by omega)) c4, hS.keep (hz.sub (fun l hl => by omega)) d4 c4, hW.keep (hz.sub (fun l hl => by omega)) c4⟩
  · rw [a4, e4]; exact ⟨r1, r2, r3, r4, r5, r6⟩
  · rw [b1, c1, d1, e1, f1]; exact ⟨k1, k2, k3, k4, k5⟩
  · rw [b2, c2, d2, e2, f2]; exact ⟨l1, l2, l3, l4, l5⟩
/-! the saving and the dates depend on what counts alone -/
theorem ttE_congr {T T' Tp Tp' : Nat → Nat → Int} {k : Nat} (h1 : tsame (T k) (T' k)) (h2 : psame (Tp k) (Tp' k)) (y : Int) : ttE T Tp k y = ttE T' Tp' k y := tTold_congr h1 h2 y
theorem evA_congr {T T' Tp Tp' : Nat → Nat → Int} {y : Int} {l : List Int} : ∀ {n : Nat}, (∀ k, k < n → tsame (T k) (T' k) ∧ psame (Tp k) (Tp' k)) → evA T Tp y n l = evA T' Tp' y n l
  | 0, _ => rfl
  | n + 1, h => by
    unfold evA
    rw [ttE_congr (h n (by omega)).1 (h n (by omega)).2, evA_congr (fun k hk => h k (by omega))]
theorem evL_congr {T T' Tp Tp' : Nat → Nat → Int} {n : Nat} (h : ∀ k, k < n → tsame (T k) (T' k) ∧ psame (Tp k) (Tp' k)) : ∀ q : Nat, evL T Tp n q = evL T' Tp' n q
  | 0 => rfl
  | q + 1 => by unfold evL; rw [evL_congr h q, evA_congr h]
theorem stF_congr2 {T T' : Nat → Nat → Int} {base : Int} {L : Nat → Int} : ∀ (j : Nat), (∀ i, i < j → tsame (T (L i % 8).toNat) (T' (L i % 8).toNat)) → stF T base L j = stF T' base L j
  | 0, _ => rfl
  | j + 1, h => by
    have h9 := h j (by omega)
    unfold stF
    rw [stF_congr2 j (fun i hi => h i (by omega)), tMom_congr h9, h9.2.2.2.2]
theorem hcE_congr {mo mo' : Nat → Int} {m : Int} : ∀ (n : Nat), (∀ i, i < n → mo i = mo' i) → hcE mo m n = hcE mo' m n
  | 0, _ => rfl
  | n + 1, h => by unfold hcE; rw [hcE_congr n (fun i hi => h i (by omega)), h n (by omega)]
theorem hcE_le {mo : Nat → Int} {m : Int} : ∀ (n : Nat), hcE mo m n ≤ n
  | 0 => Nat.le_refl _
  | n + 1 => by have := hcE_le (mo := mo) (m := m) n; unfold hcE; split <;> omega
theorem sav_congr {T T' Tp Tp' : Nat → Nat → Int} {n : Nat} {base : Int} (hn : n ≤ 6) (h : ∀ k, k < n → tsame (T k) (T' k) ∧ psame (Tp k) (Tp' k)) : sav T Tp n base = sav T' Tp' n base := by
  funext m
  have hL : evF T' Tp' n = evF T Tp n := by unfold evF; rw [evL_congr h]
  have hN : evN T' Tp' n = evN T Tp n := by unfold evN; rw [evL_congr h]
  unfold sav
  rw [hL, hN]
  have hev := evF_ok T Tp n
  have hi8 : ∀ i, i < evN T Tp n → (evF T Tp n i % 8).toNat < n := fun i hi => by
    obtain ⟨k, hk, y, hy, h1, h2⟩ := hev.2.1 i hi
    omega
  have hst : ∀ j, j ≤ evN T Tp n → stF T base (evF T Tp n) j = stF T' base (evF T Tp n) j := fun j hj => stF_congr2 j (fun i hi => (h _ (hi8 i (by omega))).1)
  unfold savJ
  have hh : hcE (moE T base (evF T Tp n)) m (evN T Tp n) = hcE (moE T' base (evF T Tp n)) m (evN T Tp n) := hcE_congr _ (fun i hi => by show (stF T base _ (i + 1)).1 = _; rw [hst (i + 1) (by omega)])
  rw [hh, hst _ (hcE_le _)]
theorem sav_0 (T Tp : Nat → Nat → Int) (base m : Int) : sav T Tp 0 base m = 0 := by
  have e : ∀ q : Nat, evL T Tp 0 q = [] := fun q => by
    induction q with
    | zero => rfl
    | succ q ih => unfold evL; rw [ih]; rfl
  unfold sav
  have hN : evN T Tp 0 = 0 := by unfold evN; rw [e]; rfl
  rw [hN]; rfl
theorem plA.congr {b p0 n : Nat} {base : Int} {T T' Tp Tp' : Nat → Nat → Int} (h : plA ρ K X Rf b p0 base n T Tp) (hq : ∀ k, k < n → tsame (T k) (T' k) ∧ psame (Tp k) (Tp' k)) : plA ρ K X Rf b p0 base n T' Tp' := by
  obtain ⟨h1, tu, to, be, sa, h2, h3, h4, ht, hn, hc, hb, hp⟩ := h
  refine ⟨h1, tu, to, be, sa, h2, h3, h4, fun k hk => ?_, hn, hc, hb, by rw [← sav_congr hn hq]; exact hp⟩
  rcases ht k hk with q | ⟨q, t, pa, g1, g2, g3, g4, g5, g6, g7, g8⟩
  · exact Or.inl q
  · obtain ⟨w1, w2⟩ := hq k q
    exact Or.inr ⟨q, t, pa, g1, g2, g3, g4, g5, g6, ⟨g7.1.trans w1.1, g7.2.1.trans w1.2.1, g7.2.2.1.trans w1.2.2.1, g7.2.2.2.1.trans w1.2.2.2.1, g7.2.2.2.2.trans w1.2.2.2.2⟩, ⟨g8.1.trans w2.1, g8.2.1.trans w2.2.1, g8.2.2.trans w2.2.2⟩⟩
theorem anyT_congr {Up Up' : Nat → Nat → Int} {d : Int} : ∀ {n : Nat}, (∀ k, k < n → psame (Up k) (Up' k)) → anyT Up d n = anyT Up' d n
  | 0, _ => rfl
  | n + 1, h => by
    have h9 := h n (by omega)
    unfold anyT; rw [anyT_congr (fun k hk => h k (by omega)), told_congr h9.1 h9.2.1 h9.2.2]
theorem ctS_congr {Sd : Nat → Int} {Up Up' : Nat → Nat → Int} (h : ∀ k : Nat, (k : Int) < Sd 9 → psame (Up k) (Up' k)) : ctS Sd Up = ctS Sd Up' := by
  funext d
  unfold ctS
  rw [anyT_congr (n := (Sd 9).toNat) (fun k hk => h k (by omega))]
theorem tkA_congr {Sd : Nat → Int} {Up Up' : Nat → Nat → Int} {Ex : Nat → Int} (h : ctS Sd Up = ctS Sd Up') : ∀ (n : Nat) (a : Int) (st : Int × List Int), tkA Sd Up Ex n a st = tkA Sd Up' Ex n a st
  | 0, _, _ => rfl
  | n + 1, a, st => by unfold tkA; rw [h, tkA_congr h n]
theorem spS_congr {Sd : Nat → Int} {Up Up' : Nat → Nat → Int} {Ex : Nat → Int} (h : ctS Sd Up = ctS Sd Up') : ∀ (q : Nat) (n : Int) (st : Int × List Int), spS Sd Up Ex q n st = spS Sd Up' Ex q n st
  | 0, _, _ => rfl
  | q + 1, n, st => by
    have e : ∀ a b st, tkS Sd Up Ex a b st = tkS Sd Up' Ex a b st := fun a b st => by unfold tkS chS; rw [h, tkA_congr h]
    unfold spS; rw [e, spS_congr h q]
theorem exB_congr {Ex Ex' : Nat → Int} {d : Int} : ∀ {n : Nat}, (∀ k, k < n → Ex k = Ex' k) → exB Ex d n = exB Ex' d n
  | 0, _ => rfl
  | n + 1, h => by unfold exB; rw [exB_congr (fun k hk => h k (by omega)), h n (by omega)]
theorem dtS_congr {Sd : Nat → Int} {Up Up' : Nat → Nat → Int} {Ex : Nat → Int} (h : ∀ k : Nat, (k : Int) < Sd 9 → psame (Up k) (Up' k)) : dtS Sd Up Ex = dtS Sd Up' Ex := by
  unfold dtS; rw [spS_congr (ctS_congr h)]
theorem seA.congr {b se p0 : Nat} {Sd : Nat → Int} {Up Up' : Nat → Nat → Int} {Ex : Nat → Int} (h : seA ρ K X Rf b se p0 Sd Up Ex) (hq : ∀ k : Nat, (k : Int) < Sd 9 → psame (Up k) (Up' k)) : seA ρ K X Rf b se p0 Sd Up' Ex := by
  obtain ⟨h1, po, eo, fo, h2, h3, h4, hD, hS, hU, hUs, hE, hd⟩ := h
  refine ⟨h1, po, eo, fo, h2, h3, h4, hD, hS, fun k hk => ?_, hUs, hE, by rw [← dtS_congr hq]; exact hd⟩
  obtain ⟨pa, g1, g2, g3, g4⟩ := hU k hk
  have w := hq k hk
  exact ⟨pa, g1, g2, g3, ⟨g4.1.trans w.1, g4.2.1.trans w.2.1, g4.2.2.trans w.2.2⟩⟩
end ZKEEP
