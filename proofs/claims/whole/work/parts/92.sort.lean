-- ===== sorting distinct ints: the same values within lo .. hi =====
def injR (lo hi : Int) (F : Nat → Int) : Prop := ∀ i j : Nat, lo ≤ i → (i : Int) < hi → lo ≤ j → (j : Int) < hi → F i = F j → i = j
def Prm (lo hi : Int) (F G : Nat → Int) : Prop := (∀ k : Nat, (k : Int) < lo ∨ hi ≤ k → G k = F k) ∧ (∀ k : Nat, lo ≤ k → (k : Int) < hi → ∃ m : Nat, lo ≤ m ∧ (m : Int) < hi ∧ G k = F m) ∧ (∀ m : Nat, lo ≤ m → (m : Int) < hi → ∃ k : Nat, lo ≤ k ∧ (k : Int) < hi ∧ G k = F m) ∧ injR lo hi G
theorem Swp.prm {lo hi : Int} {F G : Nat → Int} (h : Swp lo hi F G) (hF : injR lo hi F) : Prm lo hi F G := ⟨fun _ hk => h.out hk, h.vals, h.back, h.inj hF⟩
theorem Prm.refl {lo hi : Int} {F : Nat → Int} (hF : injR lo hi F) : Prm lo hi F F := Swp.refl.prm hF
theorem Prm.sub {lo hi lo' hi' : Int} {F G H : Nat → Int} (h : Prm lo hi F G) (h2 : Prm lo' hi' G H) (h1 : lo ≤ lo') (h3 : hi' ≤ hi) : Prm lo hi F H := by
  obtain ⟨a1, a2, a3, a4⟩ := h
  obtain ⟨b1, b2, b3, b4⟩ := h2
  refine ⟨fun k hk => ?_, fun k k1 k2 => ?_, fun m m1 m2 => ?_, fun i j i1 i2 j1 j2 e => ?_⟩
  · rw [b1 k (by omega), a1 k hk]
  · by_cases g : lo' ≤ k ∧ (k : Int) < hi'
    · obtain ⟨m, m1, m2, m3⟩ := b2 k g.1 g.2
      obtain ⟨w, w1, w2, w3⟩ := a2 m (by omega) (by omega)
      exact ⟨w, w1, w2, by rw [m3, w3]⟩
    · obtain ⟨w, w1, w2, w3⟩ := a2 k k1 k2
      exact ⟨w, w1, w2, by rw [b1 k (by omega), w3]⟩
  · obtain ⟨k, k1, k2, k3⟩ := a3 m m1 m2
    by_cases g : lo' ≤ k ∧ (k : Int) < hi'
    · obtain ⟨w, w1, w2, w3⟩ := b3 k g.1 g.2
      exact ⟨w, by omega, by omega, by rw [w3, k3]⟩
    · exact ⟨k, k1, k2, by rw [b1 k (by omega), k3]⟩
  · by_cases gi : lo' ≤ i ∧ (i : Int) < hi'
    · by_cases gj : lo' ≤ j ∧ (j : Int) < hi'
      · exact b4 i j gi.1 gi.2 gj.1 gj.2 e
      · obtain ⟨m, m1, m2, m3⟩ := b2 i gi.1 gi.2
        rw [m3, b1 j (by omega)] at e
        have := a4 m j (by omega) (by omega) j1 j2 e
        omega
    · by_cases gj : lo' ≤ j ∧ (j : Int) < hi'
      · obtain ⟨m, m1, m2, m3⟩ := b2 j gj.1 gj.2
        rw [m3, b1 i (by omega)] at e
        have := a4 i m i1 i2 (by omega) (by omega) e
        omega
      · rw [b1 i (by omega), b1 j (by omega)] at e
        exact a4 i j i1 i2 j1 j2 e
theorem Prm.trans {lo hi : Int} {F G H : Nat → Int} (h : Prm lo hi F G) (h2 : Prm lo hi G H) : Prm lo hi F H := h.sub h2 (Int.le_refl _) (Int.le_refl _)
/-- two values are held out of h, h + 1; h + 1 is filled out of h - 1 -/
theorem Swp.move2 {lo hi : Int} {F G : Nat → Int} {i : Nat} {v w : Int} (h : Swp lo hi F (updF (updF G (i + 1) v) (i + 2) w)) (h1 : lo ≤ i ∧ (i : Int) + 2 < hi) : Swp lo hi F (updF (updF (updF G (i + 2) (G i)) i v) (i + 1) w) := by
  have e := (h.step (i := i) (j := i + 1) ⟨h1.1, by omega⟩ ⟨by omega, by omega⟩).step (i := i + 1) (j := i + 2) ⟨by omega, by omega⟩ ⟨by omega, by omega⟩
  have : updF (updF (updF (updF (updF (updF G (i + 1) v) (i + 2) w) i ((updF (updF G (i + 1) v) (i + 2) w) (i + 1))) (i + 1) ((updF (updF G (i + 1) v) (i + 2) w) i)) (i + 1) ((updF (updF (updF (updF G (i + 1) v) (i + 2) w) i ((updF (updF G (i + 1) v) (i + 2) w) (i + 1))) (i + 1) ((updF (updF G (i + 1) v) (i + 2) w) i)) (i + 2))) (i + 2) ((updF (updF (updF (updF G (i + 1) v) (i + 2) w) i ((updF (updF G (i + 1) v) (i + 2) w) (i + 1))) (i + 1) ((updF (updF G (i + 1) v) (i + 2) w) i)) (i + 1)) = updF (updF (updF G (i + 2) (G i)) i v) (i + 1) w := by
    funext k
    simp only [updF]
    by_cases g0 : k = i
    · subst g0; simp
    · by_cases g1 : k = i + 1
      · subst g1; simp
      · by_cases g2 : k = i + 2
        · subst g2; simp
        · simp [g0, g1, g2]
  rw [this] at e; exact e
-- ===== one hole, two holes in a sorted row =====
theorem srtR.snoc {lo k : Int} {G : Nat → Int} (h : srtR lo k G) (h0 : 0 ≤ lo ∧ lo < k) (hv : G (k - 1).toNat ≤ G k.toNat) : srtR lo (k + 1) G := fun i j g1 g2 g3 => by
  by_cases gj : (j : Int) = k
  · by_cases gi : i = j
    · rw [gi]; exact Int.le_refl _
    · refine Int.le_trans (h i (k - 1).toNat g1 (by omega) (by omega)) ?_
      rw [show j = k.toNat by omega]; exact hv
  · exact h i j g1 g2 (by omega)
theorem srtR.one {lo k : Int} {G : Nat → Int} (h : k ≤ lo + 1) : srtR lo k G := fun i j g1 g2 g3 => by
  rw [show i = j by omega]; exact Int.le_refl _
theorem srtR.upd {lo k : Int} {G : Nat → Int} (h : srtR lo k G) {p : Nat} {v : Int} (hp : k ≤ p) : srtR lo k (updF G p v) := fun i j g1 g2 g3 => by
  rw [updF_o (by omega), updF_o (by omega)]; exact h i j g1 g2 g3
def Hol1 (lo hi top : Int) (F G : Nat → Int) (ii v : Int) : Prop := (0 ≤ lo ∧ lo ≤ ii ∧ ii ≤ top ∧ top < hi) ∧ Swp lo hi F (updF G ii.toNat v) ∧ (∀ i j : Nat, lo ≤ i → i ≤ j → (j : Int) ≤ top → (i : Int) ≠ ii → (j : Int) ≠ ii → G i ≤ G j) ∧ ∀ j : Nat, ii < j → (j : Int) ≤ top → v ≤ G j
theorem Hol1.start {lo hi top v : Int} {F G : Nat → Int} (h0 : 0 ≤ lo ∧ lo ≤ top ∧ top < hi) (hs : Swp lo hi F (updF G top.toNat v)) (hq : srtR lo top G) : Hol1 lo hi top F G top v := ⟨by omega, hs, fun i j g1 g2 g3 g4 g5 => hq i j g1 g2 (by omega), fun j g1 g2 => by omega⟩
theorem Hol1.step {lo hi top ii v : Int} {F G G' : Nat → Int} (h : Hol1 lo hi top F G ii v) (hl : lo < ii) (hv : v ≤ G (ii - 1).toNat) (hG : G' = updF G ii.toNat (G (ii - 1).toNat)) : Hol1 lo hi top F G' (ii - 1) v := by
  obtain ⟨h0, hs, hq, hu⟩ := h
  subst hG
  refine ⟨by omega, hs.move ⟨by omega, by omega⟩ ⟨by omega, by omega⟩ (by omega), fun i j g1 g2 g3 g4 g5 => ?_, fun j g1 g2 => ?_⟩
  · by_cases gi : (i : Int) = ii
    · rw [show i = ii.toNat by omega, updF_s]
      by_cases gj : (j : Int) = ii
      · rw [show j = ii.toNat by omega, updF_s]; exact Int.le_refl _
      · rw [updF_o (by omega)]; exact hq (ii - 1).toNat j (by omega) (by omega) g3 (by omega) gj
    · rw [updF_o (by omega)]
      by_cases gj : (j : Int) = ii
      · rw [show j = ii.toNat by omega, updF_s]; exact hq i (ii - 1).toNat g1 (by omega) (by omega) gi (by omega)
      · rw [updF_o (by omega)]; exact hq i j g1 g2 g3 gi gj
  · by_cases gj : (j : Int) = ii
    · rw [show j = ii.toNat by omega, updF_s]; exact hv
    · rw [updF_o (by omega)]; exact hu j (by omega) g2
theorem Hol1.low {lo hi top ii v : Int} {F G : Nat → Int} (h : Hol1 lo hi top F G ii v) (h1 : 1 ≤ lo) (hsn : ∀ m : Nat, lo ≤ m → (m : Int) < hi → F (lo - 1).toNat ≤ F m) (hv : v < G (ii - 1).toNat) : lo < ii := by
  obtain ⟨h0, hs, hq, hu⟩ := h
  by_cases g : lo < ii
  · exact g
  · exfalso
    have e1 := hs.out (k := (lo - 1).toNat) (Or.inl (by omega))
    rw [updF_o (by omega)] at e1
    obtain ⟨m, m1, m2, m3⟩ := hs.vals ii.toNat (by omega) (by omega)
    rw [updF_s] at m3
    have := hsn m m1 m2
    rw [show (ii - 1).toNat = (lo - 1).toNat by omega, e1, m3] at hv
    omega
theorem Hol1.done {lo hi top ii v : Int} {F G G' : Nat → Int} (h : Hol1 lo hi top F G ii v) (hv : G (ii - 1).toNat ≤ v) (hG : G' = updF G ii.toNat v) : Swp lo hi F G' ∧ srtR lo (top + 1) G' := by
  obtain ⟨h0, hs, hq, hu⟩ := h
  subst hG
  refine ⟨hs, fun i j g1 g2 g3 => ?_⟩
  by_cases gi : (i : Int) = ii
  · rw [show i = ii.toNat by omega, updF_s]
    by_cases gj : (j : Int) = ii
    · rw [show j = ii.toNat by omega, updF_s]; exact Int.le_refl _
    · rw [updF_o (by omega)]; exact hu j (by omega) (by omega)
  · rw [updF_o (by omega)]
    by_cases gj : (j : Int) = ii
    · rw [show j = ii.toNat by omega, updF_s]
      exact Int.le_trans (hq i (ii - 1).toNat g1 (by omega) (by omega) gi (by omega)) hv
    · rw [updF_o (by omega)]; exact hq i j g1 g2 (by omega) gi gj
theorem Hol1.rng {lo hi top ii v : Int} {F G : Nat → Int} (h : Hol1 lo hi top F G ii v) (hF : ∀ j : Nat, lo - 1 ≤ j → (j : Int) < hi → fit (F j)) : (∀ j : Nat, lo - 1 ≤ j → (j : Int) < hi → (j : Int) ≠ ii → fit (G j)) ∧ fit v := by
  obtain ⟨h0, hs, hq, hu⟩ := h
  refine ⟨fun j g1 g2 g3 => ?_, ?_⟩
  · by_cases g : lo ≤ j
    · obtain ⟨m, m1, m2, m3⟩ := hs.vals j g g2
      rw [updF_o (by omega)] at m3; rw [m3]; exact hF m (by omega) m2
    · have e := hs.out (k := j) (Or.inl (by omega))
      rw [updF_o (by omega)] at e; rw [e]; exact hF j g1 g2
  · obtain ⟨m, m1, m2, m3⟩ := hs.vals ii.toNat (by omega) (by omega)
    rw [updF_s] at m3; rw [m3]; exact hF m (by omega) m2
def Hol2 (lo hi top : Int) (F G : Nat → Int) (ii v w : Int) : Prop := (0 ≤ lo ∧ lo ≤ ii ∧ ii + 1 ≤ top ∧ top < hi ∧ v ≤ w) ∧ Swp lo hi F (updF (updF G ii.toNat v) (ii + 1).toNat w) ∧ (∀ i j : Nat, lo ≤ i → i ≤ j → (j : Int) ≤ top → (i : Int) ≠ ii → (j : Int) ≠ ii → (i : Int) ≠ ii + 1 → (j : Int) ≠ ii + 1 → G i ≤ G j) ∧ ∀ j : Nat, ii + 1 < j → (j : Int) ≤ top → w ≤ G j
theorem Hol2.start {lo hi kk v w : Int} {F G : Nat → Int} (h0 : 0 ≤ lo ∧ lo ≤ kk ∧ kk + 1 < hi) (hvw : v ≤ w) (hs : Swp lo hi F (updF (updF G kk.toNat v) (kk + 1).toNat w)) (hq : srtR lo kk G) : Hol2 lo hi (kk + 1) F G kk v w := ⟨by omega, hs, fun i j g1 g2 g3 g4 g5 g6 g7 => hq i j g1 g2 (by omega), fun j g1 g2 => by omega⟩
theorem Hol2.step {lo hi top ii v w : Int} {F G G' : Nat → Int} (h : Hol2 lo hi top F G ii v w) (hl : lo < ii) (hv : w ≤ G (ii - 1).toNat) (hG : G' = updF G (ii + 1).toNat (G (ii - 1).toNat)) : Hol2 lo hi top F G' (ii - 1) v w := by
  obtain ⟨h0, hs, hq, hu⟩ := h
  subst hG
  have hs2 := (show Swp lo hi F (updF (updF G ((ii - 1).toNat + 1) v) ((ii - 1).toNat + 2) w) from by rw [show (ii - 1).toNat + 1 = ii.toNat by omega, show (ii - 1).toNat + 2 = (ii + 1).toNat by omega]; exact hs).move2 ⟨by omega, by omega⟩
  rw [show (ii - 1).toNat + 2 = (ii + 1).toNat by omega] at hs2
  refine ⟨by omega, by rw [show (ii - 1 + 1).toNat = (ii - 1).toNat + 1 by omega]; exact hs2, fun i j g1 g2 g3 g4 g5 g6 g7 => ?_, fun j g1 g2 => ?_⟩
  · by_cases gi : (i : Int) = ii + 1
    · rw [show i = (ii + 1).toNat by omega, updF_s]
      by_cases gj : (j : Int) = ii + 1
      · rw [show j = (ii + 1).toNat by omega, updF_s]; exact Int.le_refl _
      · rw [updF_o (by omega)]; exact hq (ii - 1).toNat j (by omega) (by omega) g3 (by omega) (by omega) (by omega) gj
    · rw [updF_o (by omega)]
      by_cases gj : (j : Int) = ii + 1
      · rw [show j = (ii + 1).toNat by omega, updF_s]; exact hq i (ii - 1).toNat g1 (by omega) (by omega) (by omega) (by omega) (by omega) (by omega)
      · rw [updF_o (by omega)]; exact hq i j g1 g2 g3 (by omega) (by omega) gi gj
  · by_cases gj : (j : Int) = ii + 1
    · rw [show j = (ii + 1).toNat by omega, updF_s]; exact hv
    · rw [updF_o (by omega)]; exact hu j (by omega) g2
theorem Hol2.low {lo hi top ii v w : Int} {F G : Nat → Int} (h : Hol2 lo hi top F G ii v w) (h1 : 1 ≤ lo) (hsn : ∀ m : Nat, lo ≤ m → (m : Int) < hi → F (lo - 1).toNat ≤ F m) (hv : w < G (ii - 1).toNat) : lo < ii := by
  obtain ⟨h0, hs, hq, hu⟩ := h
  by_cases g : lo < ii
  · exact g
  · exfalso
    have e1 := hs.out (k := (lo - 1).toNat) (Or.inl (by omega))
    rw [updF_o (by omega), updF_o (by omega)] at e1
    obtain ⟨m, m1, m2, m3⟩ := hs.vals (ii + 1).toNat (by omega) (by omega)
    rw [updF_s] at m3
    have := hsn m m1 m2
    rw [show (ii - 1).toNat = (lo - 1).toNat by omega, e1, m3] at hv
    omega
theorem Hol2.done {lo hi top ii v w : Int} {F G G' : Nat → Int} (h : Hol2 lo hi top F G ii v w) (hv : G (ii - 1).toNat ≤ w) (hG : G' = updF G (ii + 1).toNat w) : Hol1 lo hi top F G' ii v := by
  obtain ⟨h0, hs, hq, hu⟩ := h
  subst hG
  refine ⟨by omega, ?_, fun i j g1 g2 g3 g4 g5 => ?_, fun j g1 g2 => ?_⟩
  · have e : updF (updF G (ii + 1).toNat w) ii.toNat v = updF (updF G ii.toNat v) (ii + 1).toNat w := by
      funext k
      by_cases g : k = ii.toNat
      · subst g; rw [updF_s, updF_o (by omega), updF_s]
      · rw [updF_o g]
        by_cases g2 : k = (ii + 1).toNat
        · subst g2; rw [updF_s, updF_s]
        · rw [updF_o g2, updF_o g2, updF_o g]
    rw [e]; exact hs
  · by_cases gi : (i : Int) = ii + 1
    · rw [show i = (ii + 1).toNat by omega, updF_s]
      by_cases gj : (j : Int) = ii + 1
      · rw [show j = (ii + 1).toNat by omega, updF_s]; exact Int.le_refl _
      · rw [updF_o (by omega)]; exact hu j (by omega) g3
    · rw [updF_o (by omega)]
      by_cases gj : (j : Int) = ii + 1
      · rw [show j = (ii + 1).toNat by omega, updF_s]
        exact Int.le_trans (hq i (ii - 1).toNat g1 (by omega) (by omega) (by omega) (by omega) (by omega) (by omega)) hv
      · rw [updF_o (by omega)]; exact hq i j g1 g2 g3 (by omega) (by omega) gi gj
  · by_cases gj : (j : Int) = ii + 1
    · rw [show j = (ii + 1).toNat by omega, updF_s]; omega
    · rw [updF_o (by omega)]; have := hu j (by omega) g2; omega
theorem Hol2.rng {lo hi top ii v w : Int} {F G : Nat → Int} (h : Hol2 lo hi top F G ii v w) (hF : ∀ j : Nat, lo - 1 ≤ j → (j : Int) < hi → fit (F j)) : (∀ j : Nat, lo - 1 ≤ j → (j : Int) < hi → (j : Int) ≠ ii → (j : Int) ≠ ii + 1 → fit (G j)) ∧ fit v ∧ fit w := by
  obtain ⟨h0, hs, hq, hu⟩ := h
  refine ⟨fun j g1 g2 g3 g4 => ?_, ?_, ?_⟩
  · by_cases g : lo ≤ j
    · obtain ⟨m, m1, m2, m3⟩ := hs.vals j g g2
      rw [updF_o (by omega), updF_o (by omega)] at m3; rw [m3]; exact hF m (by omega) m2
    · have e := hs.out (k := j) (Or.inl (by omega))
      rw [updF_o (by omega), updF_o (by omega)] at e; rw [e]; exact hF j g1 g2
  · obtain ⟨m, m1, m2, m3⟩ := hs.vals ii.toNat (by omega) (by omega)
    rw [updF_o (by omega), updF_s] at m3; rw [m3]; exact hF m (by omega) m2
  · obtain ⟨m, m1, m2, m3⟩ := hs.vals (ii + 1).toNat (by omega) (by omega)
    rw [updF_s] at m3; rw [m3]; exact hF m (by omega) m2
