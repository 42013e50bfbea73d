-- ===== the events of a place and its saving =====
def hpM (M : zM) (p : Nat) (m : Int) : Nat := hcE (evMo M p) m (evNM M p)
def psM (M : zM) (p k : Nat) : Int := if k = 0 then 0 else max 0 (min 105190560 (evMo M p (k - 1)))
/-- where the k-th piece begins; behind the last one the end -/
def qM (M : zM) (p k : Nat) : Int := if evNM M p < k then 105190560 else psM M p k
section ZEV
variable {M : zM} {p : Nat} {base loc : Int}
theorem savM_hp (m : Int) : savM M p m = evSv M p (hpM M p m) := rfl
theorem evMo_mono {i j : Nat} (h : i ≤ j) : evMo M p i ≤ evMo M p j := moE_mono i j h
theorem hpM_spec (m : Int) : hpM M p m ≤ evNM M p ∧ (∀ i, i < hpM M p m → evMo M p i ≤ m) ∧ ∀ i, hpM M p m ≤ i → i < evNM M p → m < evMo M p i := hcE_spec moE_mono
theorem hpM_is {m : Int} {h : Nat} (h0 : h ≤ evNM M p) (h1 : ∀ i, i < h → evMo M p i ≤ m) (h2 : ∀ i, h ≤ i → i < evNM M p → m < evMo M p i) : hpM M p m = h := hcE_is h0 h1 h2
theorem evSv_0 : evSv M p 0 = 0 := rfl
theorem evSv_rng (hM : okM M) (hp : (p : Int) < M 40 5) {k : Nat} (hk : k ≤ evNM M p) : 0 ≤ evSv M p k ∧ evSv M p k ≤ 180 := by
  have hL := hM.2.2.1 p hp
  exact (stF_rng (N := evNM M p) (L := evLM M p) hL.1 (fun i hi => (evF_ok (turM M p) (tupM M p) (M 7 p).toNat).mod (by omega) (fun k hk => (hL.2.2 k (by omega)).1) hi) hk).2
theorem evMo_rng (hM : okM M) (hp : (p : Int) < M 40 5) {k : Nat} (hk : k < evNM M p) : -2147483648 ≤ evMo M p k ∧ evMo M p k ≤ 105200000 := by
  have hL := hM.2.2.1 p hp
  exact (stF_rng (N := evNM M p) (L := evLM M p) hL.1 (fun i hi => (evF_ok (turM M p) (tupM M p) (M 7 p).toNat).mod (by omega) (fun k hk => (hL.2.2 k (by omega)).1) hi) (j := k + 1) (by omega)).1
theorem qM_0 : qM M p 0 = 0 := by unfold qM psM; rw [if_neg (by omega), if_pos rfl]
theorem qM_rng (k : Nat) : 0 ≤ qM M p k ∧ qM M p k ≤ 105190560 := by unfold qM psM; (repeat' split) <;> omega
theorem qM_end : qM M p (evNM M p + 1) = 105190560 := by unfold qM; rw [if_pos (by omega)]
theorem qM_s {k : Nat} (h : k < evNM M p) : qM M p (k + 1) = max 0 (min 105190560 (evMo M p k)) := by unfold qM psM; rw [if_neg (by omega), if_neg (by omega)]; rfl
theorem qM_mono (k : Nat) : qM M p k ≤ qM M p (k + 1) := by
  have r := qM_rng (M := M) (p := p) k
  by_cases g : k < evNM M p
  · rw [qM_s g]
    by_cases h0 : k = 0
    · subst h0; rw [qM_0]; omega
    · have e := qM_s (M := M) (p := p) (k := k - 1) (by omega)
      rw [show k - 1 + 1 = k by omega] at e
      have := evMo_mono (M := M) (p := p) (show k - 1 ≤ k by omega)
      rw [e]; omega
  · have e : qM M p (k + 1) = 105190560 := by unfold qM; rw [if_pos (by omega)]
    omega
theorem hp_in {k : Nat} (hk : k ≤ evNM M p) {m : Int} (h1 : qM M p k ≤ m) (h2 : m < qM M p (k + 1)) : hpM M p m = k := by
  have hr := qM_rng (M := M) (p := p) (k + 1)
  refine hpM_is hk (fun i hi => ?_) (fun i hi hn => ?_)
  · have e := qM_s (M := M) (p := p) (k := k - 1) (by omega)
    rw [show k - 1 + 1 = k by omega] at e
    have := evMo_mono (M := M) (p := p) (show i ≤ k - 1 by omega)
    omega
  · have e := qM_s (M := M) (p := p) (k := k) (by omega)
    have := evMo_mono (M := M) (p := p) hi
    have := (qM_rng (M := M) (p := p) k).1
    omega
theorem sv_at {k : Nat} (hk : k ≤ evNM M p) {m : Int} (h1 : qM M p k ≤ m) (h2 : m < qM M p (k + 1)) : savM M p m = evSv M p k := by rw [savM_hp, hp_in hk h1 h2]
/-- what has been found up to a moment -/
def fdS (M : zM) (p : Nat) (base loc q ft la ct sk : Int) : Prop := ft = fP (shw (savM M p) base loc) (q - 0).toNat 0 ∧ la = lP (shw (savM M p) base loc) (q - 0).toNat 0 ∧ ct = cP (shw (savM M p) base loc) (q - 0).toNat 0 ∧ sk = fP (psg (savM M p) base loc) (q - 1).toNat 1
theorem fdS_0 : fdS M p base loc 0 (-1) (-1) 0 (-1) := ⟨rfl, rfl, rfl, rfl⟩
theorem fP_more {f : Int → Bool} {a b c : Int} (h0 : 0 ≤ a) (h : a ≤ b) (h2 : b ≤ c) : fP f (c - a).toNat a = if fP f (b - a).toNat a = -1 then fP f (c - b).toNat b else fP f (b - a).toNat a := by
  rcases fP_spec (p := f) (b := b) a with ⟨e, hn⟩ | ⟨e1, e2, e3, e4⟩
  · rw [if_pos e]; exact fP_skip a h h2 hn
  · rw [if_neg (by omega)]
    exact fP_hit e1 (by omega) e3 e4
theorem shw_at {k : Nat} (hk : k ≤ evNM M p) {m : Int} (h1 : qM M p k ≤ m) (h2 : m < qM M p (k + 1)) : shw (savM M p) base loc m = decide (m + base + evSv M p k = loc) := by unfold shw; rw [sv_at hk h1 h2]
theorem fd_step {k : Nat} {q q' A ft la ct sk : Int} (h : fdS M p base loc q ft la ct sk) (hk : k ≤ evNM M p) (hq : q = qM M p k) (hq' : q' = qM M p (k + 1)) (hl : q < q') (hA : A = base + evSv M p k) : fdS M p base loc q' (if ft = -1 then (if q ≤ loc - A ∧ loc - A < q' then loc - A else -1) else ft) (if q ≤ loc - A ∧ loc - A < q' then loc - A else la) (ct + if q ≤ loc - A ∧ loc - A < q' then 1 else 0) (if sk = -1 then (if 0 < q ∧ loc < q + A ∧ q - 1 + base + savM M p (q - 1) < loc then q else -1) else sk) := by
  obtain ⟨e1, e2, e3, e4⟩ := h
  have r0 := qM_rng (M := M) (p := p) k
  have sw : ∀ m, q ≤ m → m < q' → shw (savM M p) base loc m = decide (m = loc - A) := fun m g1 g2 => by
    rw [shw_at hk (by omega) (by omega)]
    by_cases g : m = loc - A
    · rw [decide_eq_true (by omega), decide_eq_true g]
    · rw [decide_eq_false (by omega), decide_eq_false g]
  refine ⟨?_, ?_, ?_, ?_⟩
  · rw [fP_more (by omega) (show 0 ≤ q by omega) (show q ≤ q' by omega), ← e1]
    by_cases g : ft = -1
    · rw [if_pos g, if_pos g]
      by_cases w : q ≤ loc - A ∧ loc - A < q'
      · rw [if_pos w]
        exact (fP_hit w.1 w.2 (by rw [sw _ w.1 w.2]; exact decide_eq_true rfl) (fun m g1 g2 => by rw [sw m g1 (by omega)]; exact decide_eq_false (by omega))).symm
      · rw [if_neg w]
        exact (fP_none (by omega) (fun m g1 g2 => by rw [sw m g1 g2]; exact decide_eq_false (by omega))).symm
    · rw [if_neg g, if_neg g]
  · by_cases w : q ≤ loc - A ∧ loc - A < q'
    · rw [if_pos w]
      exact (lP_hit (by omega) w.2 (by rw [sw _ w.1 w.2]; exact decide_eq_true rfl) (fun m g1 g2 => by rw [sw m (by omega) g2]; exact decide_eq_false (by omega))).symm
    · rw [if_neg w, lP_skip (show (0 : Int) ≤ q by omega) (show q ≤ q' by omega) (fun m g1 g2 => by rw [sw m g1 g2]; exact decide_eq_false (by omega))]; exact e2
  · rw [cP_split 0 (show (0 : Int) ≤ q by omega) (show q ≤ q' by omega), ← e3]
    congr 1
    by_cases w : q ≤ loc - A ∧ loc - A < q'
    · rw [if_pos w]
      exact (cP_one w.1 w.2 (by rw [sw _ w.1 w.2]; exact decide_eq_true rfl) (fun m g1 g2 g3 => by rw [sw m g1 g2]; exact decide_eq_false g3)).symm
    · rw [if_neg w]
      exact (cP_none _ (fun m g1 g2 => by rw [sw m g1 g2]; exact decide_eq_false (by omega))).symm
  · have pg : ∀ m, q < m → m < q' → psg (savM M p) base loc m = false := fun m g1 g2 => by
      unfold psg
      rw [sv_at hk (m := m) (by omega) (by omega), sv_at hk (m := m - 1) (by omega) (by omega)]
      exact decide_eq_false (by omega)
    by_cases w0 : 0 < q
    · rw [fP_more (by omega) (show 1 ≤ q by omega) (show q ≤ q' by omega), ← e4]
      by_cases g : sk = -1
      · rw [if_pos g, if_pos g]
        have pq : psg (savM M p) base loc q = decide (loc < q + A ∧ q - 1 + base + savM M p (q - 1) < loc) := by
          unfold psg
          rw [sv_at hk (m := q) (by omega) (by omega), hA, show q + base + evSv M p k = q + (base + evSv M p k) by omega]
        by_cases w : loc < q + A ∧ q - 1 + base + savM M p (q - 1) < loc
        · rw [if_pos ⟨w0, w⟩]
          exact (fP_hit (Int.le_refl _) hl (by rw [pq]; exact decide_eq_true w) (fun m g1 g2 => by omega)).symm
        · rw [if_neg (fun u => w u.2)]
          exact (fP_none (by omega) (fun m g1 g2 => by
            by_cases u : m = q
            · rw [u, pq]; exact decide_eq_false w
            · exact pg m (by omega) g2)).symm
      · rw [if_neg g, if_neg g]
    · have z : sk = -1 := by rw [e4, show (q - 1).toNat = 0 by omega]; rfl
      rw [if_pos z, if_neg (fun u => w0 u.1)]
      exact (fP_none (by omega) (fun m g1 g2 => pg m (by omega) g2)).symm
theorem fd_same {q q' ft la ct sk : Int} (h : fdS M p base loc q ft la ct sk) (hq : q' = q) : fdS M p base loc q' ft la ct sk := by rw [hq]; exact h
theorem fd_end {ft la ct sk : Int} (h : fdS M p base loc 105190560 ft la ct sk) : ft = shF (savM M p) base loc ∧ la = shL (savM M p) base loc ∧ ct = shN (savM M p) base loc ∧ sk = psF (savM M p) base loc := h
/-- the next change: from a moment c on, behind h events -/
theorem nc_step {c nx E : Int} {h : Nat} (hh : h = hpM M p c) (hn : h < evNM M p) (hx : nx = evMo M p h) (hE : nx < E) : c < nx ∧ fP (chg (savM M p)) (E - (c + 1)).toNat (c + 1) = if evSv M p (hpM M p nx) = evSv M p h then fP (chg (savM M p)) (E - (nx + 1)).toNat (nx + 1) else nx := by
  have s := hpM_spec (M := M) (p := p) c
  rw [← hh] at s
  have lt : c < nx := by rw [hx]; exact s.2.2 h (Nat.le_refl _) hn
  have cst : ∀ m, c ≤ m → m < nx → savM M p m = evSv M p h := fun m g1 g2 => by
    rw [savM_hp, hpM_is (m := m) (h := h) s.1 (fun i hi => by have := s.2.1 i hi; omega) (fun i g3 g4 => by have := evMo_mono (M := M) (p := p) g3; omega)]
  have fls : ∀ m, c + 1 ≤ m → m < nx → chg (savM M p) m = false := fun m g1 g2 => by
    unfold chg; rw [cst m (by omega) g2, cst (m - 1) (by omega) (by omega)]; exact decide_eq_false (fun g => g rfl)
  have at9 : chg (savM M p) nx = decide (evSv M p (hpM M p nx) ≠ evSv M p h) := by
    unfold chg; rw [cst (nx - 1) (by omega) (by omega), savM_hp]
  refine ⟨lt, ?_⟩
  by_cases g : evSv M p (hpM M p nx) = evSv M p h
  · rw [if_pos g]
    refine fP_skip (c + 1) (by omega) (by omega) (fun m g1 g2 => ?_)
    by_cases w : m < nx
    · exact fls m g1 w
    · rw [show m = nx by omega, at9]; exact decide_eq_false (fun u => u g)
  · rw [if_neg g]
    exact fP_hit (by omega) hE (by rw [at9]; exact decide_eq_true g) fls
theorem nc_none {c E : Int} {h : Nat} (hh : h = hpM M p c) (hc : c + 1 ≤ E) (hn : h < evNM M p → E ≤ evMo M p h) : fP (chg (savM M p)) (E - (c + 1)).toNat (c + 1) = -1 := by
  have s := hpM_spec (M := M) (p := p) c
  rw [← hh] at s
  have cst : ∀ m, c ≤ m → m < E → savM M p m = evSv M p h := fun m g1 g2 => by
    rw [savM_hp, hpM_is (m := m) (h := h) s.1 (fun i hi => by have := s.2.1 i hi; omega) (fun i g3 g4 => by have := evMo_mono (M := M) (p := p) g3; have := hn (by omega); omega)]
  exact fP_none hc (fun m g1 g2 => by
    unfold chg; rw [cst m (by omega) g2, cst (m - 1) (by omega) (by omega)]; exact decide_eq_false (fun g => g rfl))
end ZEV
theorem svb_eq {M : zM} {p : Nat} {G : Nat → Int} (h : ∀ k, k < evNM M p → G k = evSv M p (k + 1)) {z : Int} (hz : 0 ≤ z ∧ z ≤ evNM M p) : (if z = 0 then 0 else G (z - 1).toNat) = evSv M p z.toNat := by
  by_cases g : z = 0
  · rw [if_pos g, g]; rfl
  · rw [if_neg g, h _ (by omega), show (z - 1).toNat + 1 = z.toNat by omega]
section ZOW
variable {ρ : zL} {K : zK} {X X' : zX} {Rf : zR} {M : zM} {md : Nat}
theorem repR.ow (h : repR ρ K X Rf md M) (ho : ∀ b, b ≠ md → X' b = X b) (hq : ∀ q, nuM q = true ∨ q = 35 → X' md q = X md q) : repR ρ K X' Rf md M ∧ frR ρ K X Rf ρ K X' Rf ∧ lsR X Rf X' Rf md := by
  have hff := h.ff
  obtain ⟨a9', q1, q2, q3⟩ := h.a9
  obtain ⟨⟨hmd, hlmd⟩, hnum, hd, a9, a10, a11, a22, a34, ⟨g1, g2, g3, g4, g5⟩, hpc, hs, hl⟩ := h
  have lab : ∀ f a, (kdM f).1 ≠ 0 → Rf md f = some a → ρ a = 2001 + f := fun f a hk hr => by
    obtain ⟨b, w1, w2, w3⟩ := hff f hk
    rw [hr] at w1; cases w1
    exact w3
  have old : ∀ a, ρ a ≠ 2000 → X' a = X a := fun a h1 => ho a (fun g => h1 (by rw [g]; exact hlmd))
  have l9 := lab 9 a9 (by decide) g1
  have l34 := lab 34 a34 (by decide) g5
  have X9 : X' a9 = X a9 := old a9 (by omega)
  refine ⟨⟨⟨hmd, hlmd⟩, fun q g => by rw [hq q (Or.inl g)]; exact hnum q g, fun f hf => ?_, a9, a10, a11, a22, a34, ⟨g1, g2, g3, g4, g5⟩, fun p hp6 => ?_, fun n hn => (hs n hn).keep (fun a c1 c2 => ⟨rfl, rfl, old a (by omega)⟩) rfl, by rw [hq 35 (Or.inr rfl), old a34 (by omega)]; exact hl⟩, fun a _ => ⟨rfl, rfl, fun g => ⟨old a (by omega), rfl⟩⟩, lsR_x g1 X9⟩
  · obtain ⟨b, w1, w2, w3, w4⟩ := hd f hf
    exact ⟨b, w1, w2, w3, fun g => by rw [old b (by omega)]; exact w4 g⟩
  · rw [X9]
    rcases hpc p hp6 with ⟨w1, w2⟩ | w
    · exact Or.inl ⟨w1, w2.keep (fun a c1 c2 => ⟨rfl, rfl, old a (by omega)⟩) (by rw [X9]) rfl rfl⟩
    · exact Or.inr w
end ZOW
section ZFD
variable {M : zM} {p : Nat} {base loc : Int}
theorem ft_rel {k : Nat} {fr to : Int} (hk : k ≤ evNM M p) (hf : fr = if k = 0 then 0 else max 0 (evMo M p (k - 1))) (ht : to = if k = evNM M p then 105190559 else min 105190559 (evMo M p k - 1)) : (fr ≤ to → fr = qM M p k ∧ to + 1 = qM M p (k + 1)) ∧ (to < fr → qM M p (k + 1) = qM M p k) := by
  have e1 : qM M p (k + 1) = if k = evNM M p then 105190560 else max 0 (min 105190560 (evMo M p k)) := by
    by_cases g : k = evNM M p
    · rw [if_pos g, g, qM_end]
    · rw [if_neg g, qM_s (by omega)]
  have e0 : qM M p k = if k = 0 then 0 else max 0 (min 105190560 (evMo M p (k - 1))) := by
    by_cases g : k = 0
    · rw [if_pos g, g, qM_0]
    · rw [if_neg g]
      have e := qM_s (M := M) (p := p) (k := k - 1) (by omega)
      rw [show k - 1 + 1 = k by omega] at e; exact e
  have mm := evMo_mono (M := M) (p := p) (show k - 1 ≤ k by omega)
  rw [e1, e0]
  by_cases g0 : k = 0
  · rw [if_pos g0] at hf
    rw [if_pos g0]
    by_cases g1 : k = evNM M p
    · rw [if_pos g1] at ht ⊢; omega
    · rw [if_neg g1] at ht ⊢; omega
  · rw [if_neg g0] at hf
    rw [if_neg g0]
    by_cases g1 : k = evNM M p
    · rw [if_pos g1] at ht ⊢; omega
    · rw [if_neg g1] at ht ⊢; omega
theorem fd_out {k : Nat} {q q' A ft la ct sk sk' : Int} (h : fdS M p base loc q ft la ct sk) (hk : k ≤ evNM M p) (hq : q = qM M p k) (hq' : q' = qM M p (k + 1)) (hl : q < q') (hA : A = base + evSv M p k) (w : ¬(q ≤ loc - A ∧ loc - A < q')) (hs : sk' = if sk = -1 then (if 0 < q ∧ loc < q + A ∧ q - 1 + base + savM M p (q - 1) < loc then q else -1) else sk) : fdS M p base loc q' ft la ct sk' := by
  have h9 := fd_step h hk hq hq' hl hA
  rw [if_neg w, if_neg w, if_neg w, ← hs, Int.add_zero] at h9
  rw [show ft = if ft = -1 then -1 else ft by split <;> omega]
  exact h9
theorem fd_in {k : Nat} {q q' A ft la ct sk sk' ft' la' ct' : Int} (h : fdS M p base loc q ft la ct sk) (hk : k ≤ evNM M p) (hq : q = qM M p k) (hq' : q' = qM M p (k + 1)) (hl : q < q') (hA : A = base + evSv M p k) (w : q ≤ loc - A ∧ loc - A < q') (hs : sk' = if sk = -1 then (if 0 < q ∧ loc < q + A ∧ q - 1 + base + savM M p (q - 1) < loc then q else -1) else sk) (hf : ft' = if ft = -1 then loc - A else ft) (hla : la' = loc - A) (hc : ct' = ct + 1) : fdS M p base loc q' ft' la' ct' sk' := by
  have h9 := fd_step h hk hq hq' hl hA
  rw [if_pos w, if_pos w, if_pos w, ← hs, ← hf, ← hla, ← hc] at h9
  exact h9
end ZFD
