-- ===== a row parted in three =====
theorem srtR.join {lo mi hi : Int} {F G : Nat → Int} (h : Prm lo mi F G) (hs : srtR lo mi G) (ht : srtR mi hi F) (hc : ∀ i j : Nat, lo ≤ i → (i : Int) < mi → mi ≤ j → (j : Int) < hi → F i ≤ F j) : srtR lo hi G := fun i j g1 g2 g3 => by
  by_cases gj : (j : Int) < mi
  · exact hs i j g1 g2 gj
  · rw [h.1 j (Or.inr (by omega))]
    by_cases gi : (i : Int) < mi
    · obtain ⟨m, m1, m2, m3⟩ := h.2.1 i g1 gi
      rw [m3]; exact hc m j m1 m2 (by omega) g3
    · rw [h.1 i (Or.inr (by omega))]; exact ht i j (by omega) g2 g3
theorem Swp.cyc {lo hi : Int} {F G : Nat → Int} {i j x : Nat} (h : Swp lo hi F G) (h1 : lo ≤ i ∧ (i : Int) < hi) (h2 : lo ≤ j ∧ (j : Int) < hi) (h3 : lo ≤ x ∧ (x : Int) < hi) (hx : x ≠ i) (hy : x ≠ j) : Swp lo hi F (updF (updF (updF G i (G j)) j (G x)) x (G i)) := by
  have e := (h.step h1 h2).step (i := j) (j := x) h2 h3
  have : updF (updF (updF (updF G i (G j)) j (G i)) j ((updF (updF G i (G j)) j (G i)) x)) x ((updF (updF G i (G j)) j (G i)) j) = updF (updF (updF G i (G j)) j (G x)) x (G i) := by
    funext k
    simp only [updF]
    by_cases g0 : k = x
    · subst g0; simp
    · by_cases g1 : k = j
      · subst g1; simp [hx, hy, g0]
      · simp [g0, g1]
  rw [this] at e; exact e
/-- p1 held out of lo, p2 out of en -/
def VS (lo en : Nat) (p1 p2 : Int) (G : Nat → Int) : Nat → Int := updF (updF G lo p1) en p2
theorem VS_up {lo en i : Nat} {p1 p2 v : Int} {G : Nat → Int} (h1 : i ≠ lo) (h2 : i ≠ en) : VS lo en p1 p2 (updF G i v) = updF (VS lo en p1 p2 G) i v := by
  funext k
  simp only [VS, updF]
  by_cases g0 : k = i
  · subst g0; simp [h1, h2]
  · simp [g0]
theorem VS_at {lo en i : Nat} {p1 p2 : Int} {G : Nat → Int} (h1 : i ≠ lo) (h2 : i ≠ en) : VS lo en p1 p2 G i = G i := by simp [VS, updF, h1, h2]
def DPI (lo en p1 p2 : Int) (F G : Nat → Int) (lw k up : Int) : Prop := (0 ≤ lo ∧ lo ≤ lw ∧ lw ≤ k ∧ k ≤ up ∧ up ≤ en ∧ lw < up ∧ lo < en) ∧ Swp lo (en + 1) F (VS lo.toNat en.toNat p1 p2 G) ∧ (∀ j : Nat, lo < j → (j : Int) ≤ lw → G j < p1) ∧ (∀ j : Nat, up ≤ j → (j : Int) < en → p2 < G j) ∧ ∀ j : Nat, k ≤ j → (j : Int) < up → lw < j → p1 ≤ G j ∧ G j ≤ p2
theorem DPI.same {lo en p1 p2 lw k up : Int} {F G : Nat → Int} (h : DPI lo en p1 p2 F G lw k up) (hk : lw < k - 1) (ha : p1 ≤ G (k - 1).toNat ∧ G (k - 1).toNat ≤ p2) : DPI lo en p1 p2 F G lw (k - 1) up := by
  obtain ⟨h0, hs, h1, h2, h3⟩ := h
  refine ⟨by omega, hs, h1, h2, fun j g1 g2 g3 => ?_⟩
  by_cases g : (j : Int) = k - 1
  · rw [show j = (k - 1).toNat by omega]; exact ha
  · exact h3 j (by omega) g2 g3
theorem DPI.none {lo en p1 p2 lw k up : Int} {F G : Nat → Int} (h : DPI lo en p1 p2 F G lw k up) (hk : lw < k - 1) (hb : ∀ j : Nat, lo < j → (j : Int) ≤ k - 1 → G j < p1) : DPI lo en p1 p2 F G (k - 1) (k - 1) up := by
  obtain ⟨h0, hs, h1, h2, h3⟩ := h
  exact ⟨by omega, hs, hb, h2, fun j g1 g2 g3 => h3 j (by omega) g2 (by omega)⟩
theorem DPI.swap {lo en p1 p2 lw k up x : Int} {F G G' : Nat → Int} (h : DPI lo en p1 p2 F G lw k up) (hx : lw < x ∧ x < k - 1) (ha : G (k - 1).toNat < p1) (hb : ∀ j : Nat, lo < j → (j : Int) < x → G j < p1) (hg : p1 ≤ G x.toNat ∧ G x.toNat ≤ p2) (hG : G' = updF (updF G (k - 1).toNat (G x.toNat)) x.toNat (G (k - 1).toNat)) : DPI lo en p1 p2 F G' x (k - 1) up := by
  obtain ⟨h0, hs, h1, h2, h3⟩ := h
  have val : ∀ j : Nat, G' j = if j = x.toNat then G (k - 1).toNat else if j = (k - 1).toNat then G x.toNat else G j := fun j => by rw [hG]; rfl
  refine ⟨by omega, ?_, fun j g1 g2 => ?_, fun j g1 g2 => ?_, fun j g1 g2 g3 => ?_⟩
  · rw [hG, VS_up (by omega) (by omega), VS_up (by omega) (by omega)]
    have e := hs.step (i := (k - 1).toNat) (j := x.toNat) ⟨by omega, by omega⟩ ⟨by omega, by omega⟩
    rw [VS_at (by omega) (by omega), VS_at (by omega) (by omega)] at e; exact e
  · rw [val]
    by_cases g : j = x.toNat
    · rw [if_pos g]; exact ha
    · rw [if_neg g, if_neg (by omega)]; exact hb j g1 (by omega)
  · rw [val, if_neg (by omega), if_neg (by omega)]; exact h2 j g1 g2
  · rw [val, if_neg (by omega)]
    by_cases g : j = (k - 1).toNat
    · rw [if_pos g]; exact hg
    · rw [if_neg g]; exact h3 j (by omega) g2 (by omega)
theorem DPI.cyc {lo en p1 p2 lw k up x : Int} {F G G' : Nat → Int} (h : DPI lo en p1 p2 F G lw k up) (hx : lw < x ∧ x < k - 1) (ha : G (k - 1).toNat < p1) (hb : ∀ j : Nat, lo < j → (j : Int) < x → G j < p1) (hg : p2 < G x.toNat) (hG : G' = updF (updF (updF G (k - 1).toNat (G (up - 1).toNat)) (up - 1).toNat (G x.toNat)) x.toNat (G (k - 1).toNat)) : DPI lo en p1 p2 F G' x (k - 1) (up - 1) := by
  obtain ⟨h0, hs, h1, h2, h3⟩ := h
  have val : ∀ j : Nat, G' j = if j = x.toNat then G (k - 1).toNat else if j = (up - 1).toNat then G x.toNat else if j = (k - 1).toNat then G (up - 1).toNat else G j := fun j => by rw [hG]; rfl
  refine ⟨by omega, ?_, fun j g1 g2 => ?_, fun j g1 g2 => ?_, fun j g1 g2 g3 => ?_⟩
  · rw [hG, VS_up (by omega) (by omega), VS_up (by omega) (by omega), VS_up (by omega) (by omega)]
    have e := hs.cyc (i := (k - 1).toNat) (j := (up - 1).toNat) (x := x.toNat) ⟨by omega, by omega⟩ ⟨by omega, by omega⟩ ⟨by omega, by omega⟩ (by omega) (by omega)
    rw [VS_at (by omega) (by omega), VS_at (by omega) (by omega), VS_at (by omega) (by omega)] at e; exact e
  · rw [val]
    by_cases g : j = x.toNat
    · rw [if_pos g]; exact ha
    · rw [if_neg g, if_neg (by omega), if_neg (by omega)]; exact hb j g1 (by omega)
  · rw [val, if_neg (by omega)]
    by_cases g : j = (up - 1).toNat
    · rw [if_pos g]; exact hg
    · rw [if_neg g, if_neg (by omega)]; exact h2 j (by omega) g2
  · rw [val, if_neg (by omega), if_neg (by omega)]
    by_cases g : j = (k - 1).toNat
    · rw [if_pos g]; exact h3 _ (by omega) (by omega) (by omega)
    · rw [if_neg g]; exact h3 j (by omega) (by omega) (by omega)
theorem DPI.high {lo en p1 p2 lw k up : Int} {F G G' : Nat → Int} (h : DPI lo en p1 p2 F G lw k up) (hk : lw < k - 1) (ha : p2 < G (k - 1).toNat) (hG : G' = updF (updF G (k - 1).toNat (G (up - 1).toNat)) (up - 1).toNat (G (k - 1).toNat)) : DPI lo en p1 p2 F G' lw (k - 1) (up - 1) := by
  obtain ⟨h0, hs, h1, h2, h3⟩ := h
  have val : ∀ j : Nat, G' j = if j = (up - 1).toNat then G (k - 1).toNat else if j = (k - 1).toNat then G (up - 1).toNat else G j := fun j => by rw [hG]; rfl
  refine ⟨by omega, ?_, fun j g1 g2 => ?_, fun j g1 g2 => ?_, fun j g1 g2 g3 => ?_⟩
  · rw [hG, VS_up (by omega) (by omega), VS_up (by omega) (by omega)]
    have e := hs.step (i := (k - 1).toNat) (j := (up - 1).toNat) ⟨by omega, by omega⟩ ⟨by omega, by omega⟩
    rw [VS_at (by omega) (by omega), VS_at (by omega) (by omega)] at e; exact e
  · rw [val, if_neg (by omega), if_neg (by omega)]; exact h1 j g1 g2
  · rw [val]
    by_cases g : j = (up - 1).toNat
    · rw [if_pos g]; exact ha
    · rw [if_neg g, if_neg (by omega)]; exact h2 j (by omega) g2
  · rw [val, if_neg (by omega)]
    by_cases g : j = (k - 1).toNat
    · rw [if_pos g]; exact h3 _ (by omega) (by omega) (by omega)
    · rw [if_neg g]; exact h3 j (by omega) (by omega) g3
theorem DPI.fin {lo en p1 p2 lw k up : Int} {F G G' : Nat → Int} (h : DPI lo en p1 p2 F G lw k up) (hk : k - 1 ≤ lw) (hG : G' = updF (updF (updF (updF G lo.toNat (G lw.toNat)) lw.toNat p1) en.toNat (G up.toNat)) up.toNat p2) : Swp lo (en + 1) F G' ∧ (G' lw.toNat = p1 ∧ G' up.toNat = p2) ∧ (∀ j : Nat, lo ≤ j → (j : Int) < lw → G' j < p1) ∧ (∀ j : Nat, lw < j → (j : Int) < up → p1 ≤ G' j ∧ G' j ≤ p2) ∧ ∀ j : Nat, up < j → (j : Int) ≤ en → p2 < G' j := by
  obtain ⟨h0, hs, h1, h2, h3⟩ := h
  have val : ∀ j : Nat, G' j = if j = up.toNat then p2 else if j = en.toNat then G up.toNat else if j = lw.toNat then p1 else if j = lo.toNat then G lw.toNat else G j := fun j => by rw [hG]; rfl
  refine ⟨?_, ⟨?_, ?_⟩, fun j g1 g2 => ?_, fun j g1 g2 => ?_, fun j g1 g2 => ?_⟩
  · have e := (hs.step (i := lo.toNat) (j := lw.toNat) ⟨by omega, by omega⟩ ⟨by omega, by omega⟩).step (i := en.toNat) (j := up.toNat) ⟨by omega, by omega⟩ ⟨by omega, by omega⟩
    have : G' = updF (updF (updF (updF (VS lo.toNat en.toNat p1 p2 G) lo.toNat (VS lo.toNat en.toNat p1 p2 G lw.toNat)) lw.toNat (VS lo.toNat en.toNat p1 p2 G lo.toNat)) en.toNat ((updF (updF (VS lo.toNat en.toNat p1 p2 G) lo.toNat (VS lo.toNat en.toNat p1 p2 G lw.toNat)) lw.toNat (VS lo.toNat en.toNat p1 p2 G lo.toNat)) up.toNat)) up.toNat ((updF (updF (VS lo.toNat en.toNat p1 p2 G) lo.toNat (VS lo.toNat en.toNat p1 p2 G lw.toNat)) lw.toNat (VS lo.toNat en.toNat p1 p2 G lo.toNat)) en.toNat) := by
      funext j
      rw [val]
      have n1 : lo.toNat ≠ en.toNat := by omega
      have n2 : lw.toNat ≠ en.toNat := by omega
      have n3 : up.toNat ≠ lo.toNat := by omega
      have n4 : up.toNat ≠ lw.toNat := by omega
      have n5 := Ne.symm n1
      have n6 := Ne.symm n2
      simp only [VS, updF]
      by_cases g1 : j = up.toNat
      · subst g1; simp [n5, n6]
      · by_cases g2 : j = en.toNat
        · subst g2; simp [n3, n4, g1, Ne.symm g1]
        · by_cases g3 : j = lw.toNat
          · subst g3; simp [g1, g2, n1]
          · by_cases g4 : j = lo.toNat
            · subst g4
              simp [g1, g2, g3, n2, Ne.symm g3]
            · simp [g1, g2, g3, g4]
    rw [this]; exact e
  · rw [val, if_neg (by omega), if_neg (by omega), if_pos rfl]
  · rw [val, if_pos rfl]
  · rw [val, if_neg (by omega), if_neg (by omega), if_neg (by omega)]
    by_cases g : j = lo.toNat
    · rw [if_pos g]; exact h1 _ (by omega) (by omega)
    · rw [if_neg g]; exact h1 j (by omega) (by omega)
  · rw [val, if_neg (by omega), if_neg (by omega), if_neg (by omega), if_neg (by omega)]
    exact h3 j (by omega) g2 g1
  · rw [val, if_neg (by omega)]
    by_cases g : j = en.toNat
    · rw [if_pos g]; exact h2 _ (by omega) (by omega)
    · rw [if_neg g, if_neg (by omega), if_neg (by omega)]; exact h2 j (by omega) (by omega)
/-- p held out of lo -/
def SPI (lo en p : Int) (F G : Nat → Int) (lw k up : Int) : Prop := (0 ≤ lo ∧ lo ≤ lw ∧ lw ≤ k ∧ k ≤ up ∧ up ≤ en + 1 ∧ lw < up ∧ lo ≤ en) ∧ Swp lo (en + 1) F (updF G lo.toNat p) ∧ (∀ j : Nat, lo < j → (j : Int) ≤ lw → G j < p) ∧ (∀ j : Nat, up ≤ j → (j : Int) ≤ en → p < G j) ∧ ∀ j : Nat, k ≤ j → (j : Int) < up → lw < j → G j = p
theorem up_comm {G : Nat → Int} {i j : Nat} {v w : Int} (h : i ≠ j) : updF (updF G i v) j w = updF (updF G j w) i v := by
  funext k
  simp only [updF]
  by_cases g : k = j
  · subst g; simp [Ne.symm h]
  · simp [g]
theorem SPI.same {lo en p lw k up : Int} {F G : Nat → Int} (h : SPI lo en p F G lw k up) (hk : lw < k - 1) (ha : G (k - 1).toNat = p) : SPI lo en p F G lw (k - 1) up := by
  obtain ⟨h0, hs, h1, h2, h3⟩ := h
  refine ⟨by omega, hs, h1, h2, fun j g1 g2 g3 => ?_⟩
  by_cases g : (j : Int) = k - 1
  · rw [show j = (k - 1).toNat by omega]; exact ha
  · exact h3 j (by omega) g2 g3
theorem SPI.high {lo en p lw k up : Int} {F G G' : Nat → Int} (h : SPI lo en p F G lw k up) (hk : lw < k - 1) (ha : p < G (k - 1).toNat) (hG : G' = updF (updF G (k - 1).toNat p) (up - 1).toNat (G (k - 1).toNat)) : SPI lo en p F G' lw (k - 1) (up - 1) := by
  obtain ⟨h0, hs, h1, h2, h3⟩ := h
  have val : ∀ j : Nat, G' j = if j = (up - 1).toNat then G (k - 1).toNat else if j = (k - 1).toNat then p else G j := fun j => by rw [hG]; rfl
  refine ⟨by omega, ?_, fun j g1 g2 => ?_, fun j g1 g2 => ?_, fun j g1 g2 g3 => ?_⟩
  · by_cases g : up - 1 = k - 1
    · have e : G' = G := by
        funext j; rw [val, g]
        by_cases w : j = (k - 1).toNat
        · rw [if_pos w, w]
        · rw [if_neg w, if_neg w]
      rw [e]; exact hs
    · have e := hs.step (i := (k - 1).toNat) (j := (up - 1).toNat) ⟨by omega, by omega⟩ ⟨by omega, by omega⟩
      rw [updF_o (k := (up - 1).toNat) (by omega), updF_o (k := (k - 1).toNat) (by omega), h3 (up - 1).toNat (by omega) (by omega) (by omega)] at e
      rw [hG, up_comm (j := lo.toNat) (by omega), up_comm (j := lo.toNat) (by omega)]; exact e
  · rw [val, if_neg (by omega), if_neg (by omega)]; exact h1 j g1 g2
  · rw [val]
    by_cases g : j = (up - 1).toNat
    · rw [if_pos g]; exact ha
    · rw [if_neg g, if_neg (by omega)]; exact h2 j (by omega) g2
  · rw [val, if_neg (by omega)]
    by_cases g : j = (k - 1).toNat
    · rw [if_pos g]
    · rw [if_neg g]; exact h3 j (by omega) (by omega) g3
theorem SPI.lowE {lo en p lw k up x : Int} {F G G' : Nat → Int} (h : SPI lo en p F G lw k up) (hx : lw < x ∧ x ≤ k - 1) (ha : G (k - 1).toNat < p) (hb : ∀ j : Nat, lo < j → (j : Int) < x → G j < p) (hg : x < k - 1 → G x.toNat = p) (hG : G' = updF (updF G (k - 1).toNat p) x.toNat (G (k - 1).toNat)) : SPI lo en p F G' x (k - 1) up := by
  obtain ⟨h0, hs, h1, h2, h3⟩ := h
  have val : ∀ j : Nat, G' j = if j = x.toNat then G (k - 1).toNat else if j = (k - 1).toNat then p else G j := fun j => by rw [hG]; rfl
  refine ⟨by omega, ?_, fun j g1 g2 => ?_, fun j g1 g2 => ?_, fun j g1 g2 g3 => ?_⟩
  · by_cases g : x = k - 1
    · have e : G' = G := by
        funext j; rw [val, g]
        by_cases w : j = (k - 1).toNat
        · rw [if_pos w, w]
        · rw [if_neg w, if_neg w]
      rw [e]; exact hs
    · have e := hs.step (i := (k - 1).toNat) (j := x.toNat) ⟨by omega, by omega⟩ ⟨by omega, by omega⟩
      rw [updF_o (k := x.toNat) (by omega), updF_o (k := (k - 1).toNat) (by omega), hg (by omega)] at e
      rw [hG, up_comm (j := lo.toNat) (by omega), up_comm (j := lo.toNat) (by omega)]; exact e
  · rw [val]
    by_cases g : j = x.toNat
    · rw [if_pos g]; exact ha
    · rw [if_neg g, if_neg (by omega)]; exact hb j g1 (by omega)
  · rw [val, if_neg (by omega), if_neg (by omega)]; exact h2 j g1 g2
  · rw [val, if_neg (by omega)]
    by_cases g : j = (k - 1).toNat
    · rw [if_pos g]
    · rw [if_neg g]; exact h3 j (by omega) g2 (by omega)
theorem SPI.lowG {lo en p lw k up x : Int} {F G G' : Nat → Int} (h : SPI lo en p F G lw k up) (hx : lw < x ∧ x < k - 1) (ha : G (k - 1).toNat < p) (hb : ∀ j : Nat, lo < j → (j : Int) < x → G j < p) (hg : p < G x.toNat) (hG : G' = updF (updF (updF G (k - 1).toNat p) (up - 1).toNat (G x.toNat)) x.toNat (G (k - 1).toNat)) : SPI lo en p F G' x (k - 1) (up - 1) := by
  obtain ⟨h0, hs, h1, h2, h3⟩ := h
  have val : ∀ j : Nat, G' j = if j = x.toNat then G (k - 1).toNat else if j = (up - 1).toNat then G x.toNat else if j = (k - 1).toNat then p else G j := fun j => by rw [hG]; rfl
  refine ⟨by omega, ?_, fun j g1 g2 => ?_, fun j g1 g2 => ?_, fun j g1 g2 g3 => ?_⟩
  · rw [hG, up_comm (j := lo.toNat) (by omega), up_comm (j := lo.toNat) (by omega), up_comm (j := lo.toNat) (by omega)]
    by_cases g : up - 1 = k - 1
    · have e := hs.step (i := (k - 1).toNat) (j := x.toNat) ⟨by omega, by omega⟩ ⟨by omega, by omega⟩
      rw [updF_o (k := x.toNat) (by omega), updF_o (k := (k - 1).toNat) (by omega)] at e
      have : updF (updF (updF (updF G lo.toNat p) (k - 1).toNat p) (up - 1).toNat (G x.toNat)) x.toNat (G (k - 1).toNat) = updF (updF (updF G lo.toNat p) (k - 1).toNat (G x.toNat)) x.toNat (G (k - 1).toNat) := by
        rw [g]; funext j; simp only [updF]
        by_cases w : j = (k - 1).toNat
        · rw [if_pos w, if_pos w]
        · rw [if_neg w, if_neg w, if_neg w]
      rw [this]; exact e
    · have e := hs.cyc (i := (k - 1).toNat) (j := (up - 1).toNat) (x := x.toNat) ⟨by omega, by omega⟩ ⟨by omega, by omega⟩ ⟨by omega, by omega⟩ (by omega) (by omega)
      rw [updF_o (k := x.toNat) (by omega), updF_o (k := (k - 1).toNat) (by omega), updF_o (k := (up - 1).toNat) (by omega), h3 (up - 1).toNat (by omega) (by omega) (by omega)] at e
      exact e
  · rw [val]
    by_cases g : j = x.toNat
    · rw [if_pos g]; exact ha
    · rw [if_neg g, if_neg (by omega), if_neg (by omega)]; exact hb j g1 (by omega)
  · rw [val, if_neg (by omega)]
    by_cases g : j = (up - 1).toNat
    · rw [if_pos g]; exact hg
    · rw [if_neg g, if_neg (by omega)]; exact h2 j (by omega) g2
  · rw [val, if_neg (by omega), if_neg (by omega)]
    by_cases g : j = (k - 1).toNat
    · rw [if_pos g]
    · rw [if_neg g]; exact h3 j (by omega) (by omega) (by omega)
theorem SPI.fin {lo en p lw k up : Int} {F G G' : Nat → Int} (h : SPI lo en p F G lw k up) (hk : k - 1 ≤ lw) (hG : G' = updF (updF G lo.toNat (G lw.toNat)) lw.toNat p) : Swp lo (en + 1) F G' ∧ (∀ j : Nat, lo ≤ j → (j : Int) < lw → G' j < p) ∧ (∀ j : Nat, lw ≤ j → (j : Int) < up → G' j = p) ∧ ∀ j : Nat, up ≤ j → (j : Int) ≤ en → p < G' j := by
  obtain ⟨h0, hs, h1, h2, h3⟩ := h
  have val : ∀ j : Nat, G' j = if j = lw.toNat then p else if j = lo.toNat then G lw.toNat else G j := fun j => by rw [hG]; rfl
  refine ⟨?_, fun j g1 g2 => ?_, fun j g1 g2 => ?_, fun j g1 g2 => ?_⟩
  · by_cases g : lw = lo
    · have e : G' = updF G lo.toNat p := by
        funext j; rw [val, g]
        by_cases w : j = lo.toNat
        · rw [if_pos w, w, updF_s]
        · rw [if_neg w, if_neg w, updF_o w]
      rw [e]; exact hs
    · have e := hs.step (i := lo.toNat) (j := lw.toNat) ⟨by omega, by omega⟩ ⟨by omega, by omega⟩
      rw [updF_s, updF_o (k := lw.toNat) (by omega)] at e
      have : updF (updF (updF G lo.toNat p) lo.toNat (G lw.toNat)) lw.toNat p = G' := by
        rw [hG]; funext j; simp only [updF]
        by_cases w : j = lo.toNat
        · subst w; simp
        · simp [w]
      rw [← this]; exact e
  · rw [val, if_neg (by omega)]
    by_cases g : j = lo.toNat
    · rw [if_pos g]; exact h1 _ (by omega) (by omega)
    · rw [if_neg g]; exact h1 j (by omega) (by omega)
  · rw [val]
    by_cases g : j = lw.toNat
    · rw [if_pos g]
    · rw [if_neg g, if_neg (by omega)]; exact h3 j (by omega) g2 (by omega)
  · rw [val, if_neg (by omega), if_neg (by omega)]; exact h2 j g1 g2
theorem VS_init {l0 : Int} {lo e1 e5 en : Nat} {h : Int} {F G G' : Nat → Int} {p1 p2 : Int} (hs : Swp l0 h F G) (h0 : l0 ≤ lo ∧ lo < e1 ∧ e1 < e5 ∧ e5 < en ∧ (en : Int) < h) (hp1 : p1 = G e1) (hp2 : p2 = G e5) (hG : G' = updF (updF G e1 (G lo)) e5 (G en)) : Swp l0 h F (VS lo en p1 p2 G') := by
  have e := (hs.step (i := e1) (j := lo) ⟨by omega, by omega⟩ ⟨by omega, by omega⟩).step (i := e5) (j := en) ⟨by omega, by omega⟩ ⟨by omega, by omega⟩
  have : updF (updF (updF (updF G e1 (G lo)) lo (G e1)) e5 ((updF (updF G e1 (G lo)) lo (G e1)) en)) en ((updF (updF G e1 (G lo)) lo (G e1)) e5) = VS lo en p1 p2 G' := by
    subst hG hp1 hp2
    funext k
    have n1 : en ≠ lo := by omega
    have n2 : en ≠ e1 := by omega
    have n3 : e5 ≠ lo := by omega
    have n4 : e5 ≠ e1 := by omega
    have n5 : lo ≠ e5 := by omega
    simp only [VS, updF]
    by_cases g0 : k = en
    · subst g0; simp [n3, n4]
    · by_cases g1 : k = e5
      · subst g1; simp [g0, n1, n2, n3]
      · by_cases g2 : k = lo
        · subst g2; simp [g0, g1]
        · simp [g0, g1, g2]
  rw [this] at e; exact e
theorem DPI.rng {lo en p1 p2 lw k up : Int} {F G : Nat → Int} (h : DPI lo en p1 p2 F G lw k up) (hF : ∀ j : Nat, lo ≤ j → (j : Int) ≤ en → fit (F j)) : ∀ j : Nat, lo < j → (j : Int) < en → fit (G j) := fun j g1 g2 => by
  obtain ⟨m, m1, m2, m3⟩ := h.2.1.vals j (by omega) (by omega)
  have := h.1
  rw [VS_at (by omega) (by omega)] at m3
  rw [m3]; exact hF m m1 (by omega)
theorem SPI.rng {lo en p lw k up : Int} {F G : Nat → Int} (h : SPI lo en p F G lw k up) (hF : ∀ j : Nat, lo ≤ j → (j : Int) ≤ en → fit (F j)) : ∀ j : Nat, lo < j → (j : Int) ≤ en → fit (G j) := fun j g1 g2 => by
  obtain ⟨m, m1, m2, m3⟩ := h.2.1.vals j (by omega) (by omega)
  have := h.1
  rw [updF_o (by omega)] at m3
  rw [m3]; exact hF m m1 (by omega)
/-- sorted from lq on, the rest below; behind it the tail that was sorted before -/
theorem join2 {lo lq mi hi : Int} {F G : Nat → Int} (h : Prm lo mi F G) (h0 : lo ≤ lq ∧ lq ≤ mi) (ht : srtR mi hi F) (hc : ∀ i j : Nat, lo ≤ i → (i : Int) < mi → mi ≤ j → (j : Int) < hi → F i ≤ F j) (hs : srtR lq mi G) (hB : ∀ i j : Nat, lo ≤ i → (i : Int) < lq → lq ≤ j → (j : Int) < mi → G i ≤ G j) : srtR lq hi G ∧ ∀ i j : Nat, lo ≤ i → (i : Int) < lq → lq ≤ j → (j : Int) < hi → G i ≤ G j := by
  have low : ∀ i j : Nat, lo ≤ i → (i : Int) < mi → mi ≤ j → (j : Int) < hi → G i ≤ G j := fun i j i1 i2 j1 j2 => by
    obtain ⟨m, m1, m2, m3⟩ := h.2.1 i i1 i2
    rw [m3, h.1 j (Or.inr j1)]; exact hc m j m1 m2 j1 j2
  refine ⟨fun i j g1 g2 g3 => ?_, fun i j i1 i2 j1 j2 => ?_⟩
  · by_cases gj : (j : Int) < mi
    · exact hs i j g1 g2 gj
    · by_cases gi : (i : Int) < mi
      · exact low i j (by omega) gi (by omega) g3
      · rw [h.1 i (Or.inr (by omega)), h.1 j (Or.inr (by omega))]; exact ht i j (by omega) g2 g3
  · by_cases gj : (j : Int) < mi
    · exact hB i j i1 i2 j1 gj
    · exact low i j i1 (by omega) (by omega) j2
theorem Prm.low {lo hi : Int} {F G : Nat → Int} (h : Prm lo hi F G) {P : Int → Prop} (hP : ∀ j : Nat, lo ≤ j → (j : Int) < hi → P (F j)) : ∀ j : Nat, lo ≤ j → (j : Int) < hi → P (G j) := fun j g1 g2 => by
  obtain ⟨m, m1, m2, m3⟩ := h.2.1 j g1 g2
  rw [m3]; exact hP m m1 m2
/-- the three parts sorted one by one -/
theorem dual_fin {lo hh lq uq p1 p2 : Int} {G G1 G2 : Nat → Int} (h0 : 0 ≤ lo ∧ lo ≤ lq ∧ lq < uq ∧ uq < hh) (hp : p1 < p2) (hv : G lq.toNat = p1 ∧ G uq.toNat = p2) (ha : ∀ j : Nat, lo ≤ j → (j : Int) < lq → G j < p1) (hb : ∀ j : Nat, lq < j → (j : Int) < uq → p1 ≤ G j ∧ G j ≤ p2) (hc : ∀ j : Nat, uq < j → (j : Int) ≤ hh - 1 → p2 < G j)
    (h1 : Prm (lq + 1) uq G G1) (s1 : srtR (lq + 1) uq G1) (h2 : Prm (uq + 1) hh G1 G2) (s2 : srtR (uq + 1) hh G2) : srtR lq hh G2 ∧ ∀ i j : Nat, lo ≤ i → (i : Int) < lq → lq ≤ j → (j : Int) < hh → G2 i ≤ G2 j := by
  have hl : ∀ j : Nat, lo ≤ j → (j : Int) < lq → G2 j < p1 := fun j g1 g2 => by rw [h2.1 j (Or.inl (by omega)), h1.1 j (Or.inl (by omega))]; exact ha j g1 g2
  have hq : G2 lq.toNat = p1 := by rw [h2.1 _ (Or.inl (by omega)), h1.1 _ (Or.inl (by omega))]; exact hv.1
  have hu : G2 uq.toNat = p2 := by rw [h2.1 _ (Or.inl (by omega)), h1.1 _ (Or.inr (by omega))]; exact hv.2
  have hm : ∀ j : Nat, lq + 1 ≤ j → (j : Int) < uq → p1 ≤ G2 j ∧ G2 j ≤ p2 := fun j g1 g2 => by
    rw [h2.1 j (Or.inl (by omega))]
    exact h1.low (P := fun z => p1 ≤ z ∧ z ≤ p2) (fun j g1 g2 => hb j (by omega) g2) j g1 g2
  have ms : srtR (lq + 1) uq G2 := fun i j g1 g2 g3 => by rw [h2.1 i (Or.inl (by omega)), h2.1 j (Or.inl (by omega))]; exact s1 i j g1 g2 g3
  have hr : ∀ j : Nat, uq + 1 ≤ j → (j : Int) < hh → p2 < G2 j := h2.low (P := fun z => p2 < z) (fun j g1 g2 => by rw [h1.1 j (Or.inr (by omega))]; exact hc j (by omega) (by omega))
  have at0 : ∀ j : Nat, lq ≤ j → (j : Int) < hh → p1 ≤ G2 j := fun j g1 g2 => by
    by_cases w1 : (j : Int) = lq
    · rw [show j = lq.toNat by omega, hq]; exact Int.le_refl _
    · by_cases w2 : (j : Int) < uq
      · exact (hm j (by omega) w2).1
      · by_cases w3 : (j : Int) = uq
        · rw [show j = uq.toNat by omega, hu]; omega
        · have := hr j (by omega) g2; omega
  refine ⟨fun i j g1 g2 g3 => ?_, fun i j i1 i2 j1 j2 => ?_⟩
  · by_cases w1 : (i : Int) = lq
    · rw [show i = lq.toNat by omega, hq]; exact at0 j (by omega) g3
    · by_cases w2 : (i : Int) < uq
      · by_cases w3 : (j : Int) < uq
        · exact ms i j (by omega) g2 w3
        · have := (hm i (by omega) w2).2
          by_cases w4 : (j : Int) = uq
          · rw [show j = uq.toNat by omega, hu]; exact this
          · have := hr j (by omega) g3; omega
      · by_cases w4 : (i : Int) = uq
        · rw [show i = uq.toNat by omega, hu]
          by_cases w5 : (j : Int) = uq
          · rw [show j = uq.toNat by omega, hu]; exact Int.le_refl _
          · have := hr j (by omega) g3; omega
        · exact s2 i j (by omega) g2 g3
  · have := hl i i1 i2
    have := at0 j j1 j2
    omega
theorem single_fin {lo hh lq uq p : Int} {G G2 : Nat → Int} (h0 : 0 ≤ lo ∧ lo ≤ lq ∧ lq < uq ∧ uq ≤ hh) (ha : ∀ j : Nat, lo ≤ j → (j : Int) < lq → G j < p) (hb : ∀ j : Nat, lq ≤ j → (j : Int) < uq → G j = p) (hc : ∀ j : Nat, uq ≤ j → (j : Int) ≤ hh - 1 → p < G j) (h2 : Prm uq hh G G2) (s2 : srtR uq hh G2) : srtR lq hh G2 ∧ ∀ i j : Nat, lo ≤ i → (i : Int) < lq → lq ≤ j → (j : Int) < hh → G2 i ≤ G2 j := by
  have hl : ∀ j : Nat, lo ≤ j → (j : Int) < lq → G2 j < p := fun j g1 g2 => by rw [h2.1 j (Or.inl (by omega))]; exact ha j g1 g2
  have hm : ∀ j : Nat, lq ≤ j → (j : Int) < uq → G2 j = p := fun j g1 g2 => by rw [h2.1 j (Or.inl (by omega))]; exact hb j g1 g2
  have hr : ∀ j : Nat, uq ≤ j → (j : Int) < hh → p < G2 j := h2.low (P := fun z => p < z) (fun j g1 g2 => hc j g1 (by omega))
  refine ⟨fun i j g1 g2 g3 => ?_, fun i j i1 i2 j1 j2 => ?_⟩
  · by_cases w2 : (i : Int) < uq
    · rw [hm i g1 w2]
      by_cases w3 : (j : Int) < uq
      · rw [hm j (by omega) w3]; exact Int.le_refl _
      · have := hr j (by omega) g3; omega
    · exact s2 i j (by omega) g2 g3
  · have := hl i i1 i2
    by_cases w3 : (j : Int) < uq
    · rw [hm j j1 w3]; omega
    · have := hr j (by omega) j2; omega
