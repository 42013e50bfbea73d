-- ===== feasts: F k: 0 first year, 1 last year, 3 way; Fp k: its pattern; w: the week =====
abbrev okF (F : Nat → Int) : Prop := (1900 ≤ F 0 ∧ F 0 ≤ F 1 ∧ F 1 ≤ 2099) ∧ (0 ≤ F 3 ∧ F 3 ≤ 3)
abbrev fsame (F G : Nat → Int) : Prop := F 0 = G 0 ∧ F 1 = G 1 ∧ F 3 = G 3
def mvS (ok : Int → Bool) (way t : Int) : Nat → Int → Int
  | 0, _ => -1
  | n + 1, k => if ok (t + k) = true then t + k else if way = 2 ∧ ok (t - k) = true then t - k else mvS ok way t n (k + 1)
def mvD (ok : Int → Bool) (way t : Int) : Int := if way = 0 ∨ ok t = true then t else mvS ok way t (61 - 1 : Int).toNat 1
/-- a day that a feast may come to, if G tells where smaller ones fall -/
def frD (w way : Int) (G : Int → Int) (d : Int) : Bool := decide (bitw w d ≠ 0) && (decide (way ≠ 3) || decide (G d < 0))
theorem frD_iff {w way : Int} {G : Int → Int} {d : Int} : frD w way G d = true ↔ bitw w d ≠ 0 ∧ (way ≠ 3 ∨ G d < 0) := by
  unfold frD; simp
theorem frD_3 {w way : Int} {G G' : Int → Int} (h : way ≠ 3) : frD w way G = frD w way G' := by
  funext d; unfold frD; simp [h]
/-- the days of the months a to b that a feast falls on, if it is free -/
def htF (w way : Int) (P : Nat → Int) (G : Int → Int) (a b d : Int) : Prop := ∃ i : Int, (a ≤ i ∧ i ≤ b) ∧ 0 ≤ told P i ∧ mvD (frD w way G) way (told P i) = d
noncomputable def bF (w way : Int) (P : Nat → Int) (G : Int → Int) (num a b d : Int) : Int := if 0 ≤ G d then G d else @ite Int ((0 ≤ d ∧ d ≤ 73048) ∧ htF w way P G a b d) (Classical.propDecidable _) num (-1)
/-- the smallest of the first k feasts that falls on a day; -1 -/
noncomputable def Fa (w : Int) (F Fp : Nat → Nat → Int) : Nat → Int → Int
  | 0, _ => -1
  | k + 1, d => bF w (F k 3) (Fp k) (Fa w F Fp k) k (12 * (F k 0 - 1900)) (12 * (F k 1 - 1900) + 11) d
theorem bF_G {w way : Int} {P : Nat → Int} {G : Int → Int} {num a b d : Int} (h : 0 ≤ G d) : bF w way P G num a b d = G d := by unfold bF; rw [if_pos h]
theorem bF_h {w way : Int} {P : Nat → Int} {G : Int → Int} {num a b d : Int} (h : G d < 0) (hd : 0 ≤ d ∧ d ≤ 73048) (hh : htF w way P G a b d) : bF w way P G num a b d = num := by unfold bF; rw [if_neg (by omega), if_pos ⟨hd, hh⟩]
theorem bF_n {w way : Int} {P : Nat → Int} {G : Int → Int} {num a b d : Int} (h : G d < 0) (hh : ¬((0 ≤ d ∧ d ≤ 73048) ∧ htF w way P G a b d)) : bF w way P G num a b d = -1 := by unfold bF; rw [if_neg (by omega), if_neg hh]
theorem Fa_rng (w : Int) (F Fp : Nat → Nat → Int) (k : Nat) (d : Int) : -1 ≤ Fa w F Fp k d ∧ Fa w F Fp k d < k := by
  induction k with
  | zero => simp [Fa]
  | succ k ih =>
    show -1 ≤ bF _ _ _ _ _ _ _ d ∧ bF _ _ _ _ _ _ _ d < _
    unfold bF
    split
    · omega
    · split <;> omega
theorem Fa_out {w : Int} {F Fp : Nat → Nat → Int} {d : Int} (h : ¬(0 ≤ d ∧ d ≤ 73048)) (k : Nat) : Fa w F Fp k d = -1 := by
  induction k with
  | zero => rfl
  | succ k ih => exact bF_n (by rw [ih]; omega) (fun q => h q.1)
theorem mvS_rng {ok : Int → Bool} {way t : Int} : ∀ (n : Nat) (k : Int), 0 ≤ k → mvS ok way t n k = -1 ∨ (t - (k + n - 1) ≤ mvS ok way t n k ∧ mvS ok way t n k ≤ t + (k + n - 1))
  | 0, _, _ => Or.inl rfl
  | n + 1, k, h => by
    have := mvS_rng (ok := ok) (way := way) (t := t) n (k + 1) (by omega)
    unfold mvS; (repeat' split) <;> omega
theorem mvD_rng (ok : Int → Bool) (way t : Int) : mvD ok way t = -1 ∨ (t - 60 ≤ mvD ok way t ∧ mvD ok way t ≤ t + 60) := by
  have := mvS_rng (ok := ok) (way := way) (t := t) (61 - 1 : Int).toNat 1 (by omega)
  unfold mvD; split <;> omega
theorem mvS_3 {ok : Int → Bool} {t : Int} : ∀ (n : Nat) (k : Int), mvS ok 3 t n k = fP ok n (t + k)
  | 0, _ => rfl
  | n + 1, k => by
    unfold mvS fP
    rw [mvS_3 n (k + 1), if_neg (c := (3 : Int) = 2 ∧ _) (by omega), show t + (k + 1) = t + k + 1 by omega]
theorem mvD_3 (ok : Int → Bool) (t : Int) : mvD ok 3 t = fP ok (t + 61 - t).toNat t := by
  unfold mvD
  rw [mvS_3, show (t + 61 - t).toNat = (61 - 1 : Int).toNat + 1 by omega]
  simp only [fP]
  by_cases h : ok t = true
  · rw [if_pos (Or.inr h), if_pos h]
  · rw [if_neg (by rintro (q | q); omega; exact h q), if_neg h]
/-- only what lies up to the day counts -/
theorem mv_loc {w way : Int} {G G' : Int → Int} {t d lo : Int} (hd : 0 ≤ d) (hlo : lo ≤ t) (h : ∀ e, lo ≤ e → e ≤ d → (G e < 0 ↔ G' e < 0)) (hm : mvD (frD w way G) way t = d) : mvD (frD w way G') way t = d := by
  by_cases hw : way = 3
  · subst hw
    rw [mvD_3] at hm ⊢
    have hs := fP_spec (p := frD w 3 G) (b := t + 61) t
    rw [hm] at hs
    rcases hs with ⟨q, _⟩ | ⟨h1, h2, h3, h4⟩
    · omega
    · refine fP_hit h1 h2 ?_ ?_
      · rw [frD_iff] at h3 ⊢
        exact ⟨h3.1, Or.inr ((h d (by omega) (by omega)).mp (by have := h3.2; omega))⟩
      · intro q g1 g2
        have := h4 q g1 g2
        cases hq : frD w 3 G' q
        · rfl
        · rw [frD_iff] at hq
          have : frD w 3 G q = true := frD_iff.mpr ⟨hq.1, Or.inr ((h q (by omega) (by omega)).mpr (by have := hq.2; omega))⟩
          simp_all
  · rw [frD_3 (G' := G) hw]; exact hm
-- ===== the class's row of them: object fa, its array fn of 1701 numbers =====
/-- what counts as free while number k is laid -/
def rkG (X : zX) (fa fn : Nat) (k : Int) (d : Int) : Int := if k ≤ rdv X fa fn 1701 d then -1 else rdv X fa fn 1701 d
def fvr (X : zX) (fn : Nat) : Prop := ∀ j : Nat, (j : Int) < 1701 → -1 ≤ X fn j ∧ X fn j ≤ 19
theorem rdv_fvr {X : zX} {fa fn : Nat} (h : fvr X fn) (d : Int) : -1 ≤ rdv X fa fn 1701 d ∧ rdv X fa fn 1701 d ≤ 19 := by
  unfold rdv; split
  · omega
  · exact h _ (by omega)
theorem fvr_wr {X : zX} {fa fn : Nat} {d z : Int} (h : fvr X fn) (hz : -1 ≤ z ∧ z ≤ 19) : fvr (wrX X fa fn 1701 d z) fn := by
  intro j hj
  unfold wrX
  split
  · exact h j hj
  · rw [up2_eq]; split
    · exact hz
    · exact h j hj
/-- while a feast is laid: all that smaller ones say stands; else nothing or its own number -/
def fiA (X : zX) (fa fn : Nat) (G : Int → Int) (num lo : Int) : Prop := ∀ d : Int, lo ≤ d → d ≤ X fa 2 → (0 ≤ G d → rdv X fa fn 1701 d = G d) ∧ (G d < 0 → rdv X fa fn 1701 d = -1 ∨ rdv X fa fn 1701 d = num)
def fiB (X : zX) (fa fn : Nat) (w way : Int) (P : Nat → Int) (G : Int → Int) (num a b lo : Int) : Prop := ∀ d : Int, lo ≤ d → d ≤ X fa 2 → rdv X fa fn 1701 d = bF w way P G num a b d
/-- a row of what is known: from lo on for smaller feasts, from lo2 on with this one -/
abbrev loR (lo lo2 : Int) : Prop := 0 ≤ lo ∧ lo ≤ lo2 ∧ ((lo = 0 ∧ lo2 = 0) ∨ lo + 60 ≤ lo2)
theorem fi_start {X : zX} {fa fn : Nat} {w way : Int} {P : Nat → Int} {G : Int → Int} {num a lo lo2 : Int} (hlo : loR lo lo2) (hG : ∀ d, -1 ≤ G d) (h : ∀ d : Int, lo ≤ d → d ≤ X fa 2 → rdv X fa fn 1701 d = G d) : fiA X fa fn G num lo ∧ fiB X fa fn w way P G num a (a - 1) lo2 := by
  refine ⟨fun d h1 h2 => ⟨fun _ => h d h1 h2, fun q => Or.inl (by rw [h d h1 h2]; have := hG d; omega)⟩, fun d h1 h2 => ?_⟩
  rw [h d (by omega) h2]
  by_cases q : 0 ≤ G d
  · rw [bF_G q]
  · rw [bF_n (by omega) (by rintro ⟨_, i, hi, _⟩; omega)]; have := hG d; omega
/-- a month in which it isn't told, or for a day that is taken or out of the row -/
theorem fi_skip {X : zX} {fa fn : Nat} {w way : Int} {P : Nat → Int} {G : Int → Int} {num a b lo2 : Int} (hB : fiB X fa fn w way P G num a b lo2) (hlo : 0 ≤ lo2) (hG : ∀ d, G d < num) (h : ∀ d : Int, lo2 ≤ d → d ≤ X fa 2 → d ≤ 73048 → 0 ≤ told P (b + 1) → mvD (frD w way G) way (told P (b + 1)) = d → 0 ≤ rdv X fa fn 1701 d) : fiB X fa fn w way P G num a (b + 1) lo2 := by
  intro d h1 h2
  rw [hB d h1 h2]
  by_cases q : 0 ≤ G d
  · rw [bF_G q, bF_G q]
  · by_cases g : (0 ≤ d ∧ d ≤ 73048) ∧ htF w way P G a b d
    · rw [bF_h (by omega) g.1 g.2]
      obtain ⟨g0, i, g1, g2⟩ := g
      rw [bF_h (by omega) g0 ⟨i, ⟨g1.1, by omega⟩, g2⟩]
    · rw [bF_n (by omega) g, bF_n (by omega)]
      rintro ⟨g0, i, g1, g2, g3⟩
      by_cases e : i = b + 1
      · subst e
        have h9 := h d h1 h2 g0.2 g2 g3
        rw [hB d h1 h2, bF_n (by omega) g] at h9
        omega
      · exact g ⟨g0, i, ⟨g1.1, by omega⟩, g2, g3⟩
theorem fi_dif {X : zX} {fa fn : Nat} {G : Int → Int} {num lo : Int} (hA : fiA X fa fn G num lo) (hG : ∀ d, G d < num) (hn : 0 ≤ num) : ∀ e, lo ≤ e → e ≤ X fa 2 → (rkG X fa fn num e < 0 ↔ G e < 0) := by
  intro e h1 h2
  have a := hA e h1 h2
  have b := hG e
  unfold rkG
  by_cases q : 0 ≤ G e
  · rw [if_neg (by rw [a.1 q]; omega), a.1 q]
  · rcases a.2 (by omega) with g | g <;> rw [g]
    · split <;> omega
    · rw [if_pos (Int.le_refl _)]; omega
/-- a month in which it is told -/
theorem fi_put {X X' : zX} {fa fn : Nat} {w way : Int} {P : Nat → Int} {G : Int → Int} {num a b lo lo2 day : Int} (hne : fa ≠ fn) (hA : fiA X fa fn G num lo) (hB : fiB X fa fn w way P G num a b lo2) (hlo : loR lo lo2) (hG : ∀ d, -1 ≤ G d ∧ G d < num) (hn : 0 ≤ num) (hr : X fa 1 ≤ lo ∧ X fa 2 ≤ 73048 ∧ X fa 2 - X fa 1 < 1701) (ht : 0 ≤ told P (b + 1))
    (hday : day = mvD (frD w way (rkG X fa fn num)) way (told P (b + 1))) (hX : X' = if rdv X fa fn 1701 day < 0 then wrX X fa fn 1701 day num else X) (hab : a ≤ b + 1) : fiA X' fa fn G num lo ∧ fiB X' fa fn w way P G num a (b + 1) lo2 := by
  have hd := fi_dif hA (fun d => (hG d).2) hn
  have hrg := mvD_rng (frD w way (rkG X fa fn num)) way (told P (b + 1))
  rw [← hday] at hrg
  have hfa : X' fa = X fa := by rw [hX]; split; exact wrX_o hne; rfl
  -- the true day
  have key : ∀ d : Int, lo2 ≤ d → d ≤ X fa 2 → (day = d ↔ mvD (frD w way G) way (told P (b + 1)) = d) := by
    intro d h1 h2
    constructor
    · intro e
      exact mv_loc (lo := lo) (by omega) (by omega) (fun e g1 g2 => hd e g1 (by omega)) (by rw [← hday]; exact e)
    · intro e
      have hrg2 := mvD_rng (frD w way G) way (told P (b + 1))
      rw [e] at hrg2
      rw [hday]
      exact mv_loc (lo := lo) (by omega) (by omega) (fun e g1 g2 => (hd e g1 (by omega)).symm) e
  have rd : ∀ d : Int, rdv X' fa fn 1701 d = if d = day ∧ rdv X fa fn 1701 day < 0 ∧ ¬(X fa 2 < day ∨ day - X fa 1 < 0 ∨ ((1701 : Nat) : Int) ≤ day - X fa 1) then num else rdv X fa fn 1701 d := by
    intro d
    rw [hX]
    by_cases q : rdv X fa fn 1701 day < 0
    · rw [if_pos q, rdv_wr hne]
      by_cases g : d = day ∧ ¬(X fa 2 < day ∨ day - X fa 1 < 0 ∨ ((1701 : Nat) : Int) ≤ day - X fa 1)
      · rw [if_pos g, if_pos ⟨g.1, q, g.2⟩]
      · rw [if_neg g, if_neg (fun z => g ⟨z.1, z.2.2⟩)]
    · rw [if_neg q, if_neg (fun z => q z.2.1)]
  constructor
  · intro d h1 h2
    rw [hfa] at h2
    have a9 := hA d h1 h2
    rw [rd d]
    refine ⟨fun q => ?_, fun q => ?_⟩
    · rw [if_neg ?_]; exact a9.1 q
      rintro ⟨g1, g2, _⟩
      rw [← g1, a9.1 q] at g2; omega
    · split
      · exact Or.inr rfl
      · exact a9.2 q
  · intro d h1 h2
    rw [hfa] at h2
    have b9 := hB d h1 h2
    have a9 := hA d (by omega) h2
    rw [rd d]
    by_cases e : d = day
    · subst e
      by_cases q : 0 ≤ G d
      · rw [if_neg (by rw [a9.1 q]; omega), a9.1 q, bF_G q]
      · have hit : htF w way P G a (b + 1) d := ⟨b + 1, ⟨hab, by omega⟩, ht, (key d h1 h2).mp rfl⟩
        rw [bF_h (by omega) ⟨by omega, by omega⟩ hit]
        rcases a9.2 (by omega) with g | g
        · rw [if_pos ⟨rfl, by rw [g]; omega, by omega⟩]
        · rw [if_neg (by rw [g]; omega), g]
    · rw [if_neg (fun z => e z.1), b9]
      by_cases q : 0 ≤ G d
      · rw [bF_G q, bF_G q]
      · by_cases g : (0 ≤ d ∧ d ≤ 73048) ∧ htF w way P G a b d
        · rw [bF_h (by omega) g.1 g.2]
          obtain ⟨g0, i, g1, g2⟩ := g
          rw [bF_h (by omega) g0 ⟨i, ⟨g1.1, by omega⟩, g2⟩]
        · rw [bF_n (by omega) g, bF_n (by omega)]
          rintro ⟨g0, i, g1, g2, g3⟩
          by_cases f : i = b + 1
          · subst f; exact e ((key d h1 h2).mpr g3).symm
          · exact g ⟨g0, i, ⟨g1.1, by omega⟩, g2, g3⟩
/-- the months that a row of days asks for -/
theorem bF_win {w way : Int} {P : Nat → Int} {G : Int → Int} {num a b a2 b2 f l d : Int} (hd : f ≤ d ∧ d ≤ l) (h0 : 0 ≤ f ∧ l ≤ 73048) (ha : 0 ≤ a ∧ b < 2400) (h1 : a2 = max (mi (max 0 (f - 60))) a) (h2 : b2 = min (mi (max 0 (min (l + 60) 73048))) b) : bF w way P G num a2 b2 d = bF w way P G num a b d := by
  by_cases q : 0 ≤ G d
  · rw [bF_G q, bF_G q]
  · by_cases g : htF w way P G a b d
    · rw [bF_h (by omega) ⟨by omega, by omega⟩ g]
      obtain ⟨i, g1, g2, g3⟩ := g
      refine bF_h (by omega) ⟨by omega, by omega⟩ ⟨i, ?_, g2, g3⟩
      have hr := mvD_rng (frD w way G) way (told P i)
      have ht := told_rng P i
      have hm := told_mi (P := P) (i := i) (by omega) (by omega) g2
      have m1 := mi_mono (a := max 0 (f - 60)) (b := told P i) (by omega) (by omega) (by omega)
      have m2 := mi_mono (a := told P i) (b := max 0 (min (l + 60) 73048)) (by omega) (by omega) (by omega)
      omega
    · rw [bF_n (by omega) (fun z => g z.2), bF_n (by omega)]
      rintro ⟨_, i, g1, g2⟩
      exact g ⟨i, ⟨by omega, by omega⟩, g2⟩
theorem bF_congr {w way way' : Int} {P P' : Nat → Int} {G : Int → Int} {num a b a' b' d : Int} (h1 : way = way') (hP : psame P P') (ha : a = a') (hb : b = b') : bF w way P G num a b d = bF w way' P' G num a' b' d := by
  subst h1; subst ha; subst hb
  have e : htF w way P G a b d = htF w way P' G a b d := by
    unfold htF
    congr 1
    funext i
    rw [told_congr hP.1 hP.2.1 hP.2.2]
  unfold bF
  rw [e]
/-- the feasts in the heap -/
def fstOK (K : zK) (X : zX) (Rf : zR) (fe n : Nat) (F Fp : Nat → Nat → Int) : Prop := ∀ k : Nat, k < 20 → (Rf fe k = none ∧ n ≤ k) ∨ (k < n ∧ ∃ fo pa, Rf fe k = some fo ∧ K fo = (1, 1) ∧ Rf fo 2 = some pa ∧ K pa = (1, 2) ∧ okF (X fo) ∧ okP (X pa) ∧ fsame (X fo) (F k) ∧ psame (X pa) (Fp k))
theorem fstOK.mono {K : zK} {X X' : zX} {Rf : zR} {fe n : Nat} {F Fp : Nat → Nat → Int} (h : fstOK K X Rf fe n F Fp) (hX : ∀ a, K a = (1, 1) ∨ K a = (1, 2) → X' a = X a) : fstOK K X' Rf fe n F Fp := fun k hk => by
  rcases h k hk with q | ⟨q, fo, pa, h1, h2, h3, h4, h5, h6, h7, h8⟩
  · exact Or.inl q
  · exact Or.inr ⟨q, fo, pa, h1, h2, h3, h4, by rw [hX fo (Or.inl h2)]; exact h5, by rw [hX pa (Or.inr h4)]; exact h6, by rw [hX fo (Or.inl h2)]; exact h7, by rw [hX pa (Or.inr h4)]; exact h8⟩
theorem fstOK.at {K : zK} {X : zX} {Rf : zR} {fe n : Nat} {F Fp : Nat → Nat → Int} (h : fstOK K X Rf fe n F Fp) {k fo : Nat} (hk : k < 20) (ht : Rf fe k = some fo) : k < n ∧ K fo = (1, 1) ∧ ∃ pa, Rf fo 2 = some pa ∧ K pa = (1, 2) ∧ okF (X fo) ∧ okP (X pa) ∧ fsame (X fo) (F k) ∧ psame (X pa) (Fp k) := by
  rcases h k hk with ⟨q, _⟩ | ⟨q, fo', pa, h1, h2, h3⟩
  · rw [ht] at q; cases q
  · rw [ht] at h1; cases h1; exact ⟨q, h2, pa, h3⟩
theorem fstOK.no {K : zK} {X : zX} {Rf : zR} {fe n : Nat} {F Fp : Nat → Nat → Int} (h : fstOK K X Rf fe n F Fp) {k : Nat} (hk : k < 20) (ht : Rf fe k = none) : n ≤ k := by
  rcases h k hk with ⟨_, q⟩ | ⟨q, fo, pa, h1, h2⟩
  · exact q
  · rw [ht] at h1; cases h1
/-- from where on the row is right behind k feasts -/
def loF (w0 : Int) (k : Int) : Int := if w0 = 0 then 0 else w0 + 60 * k
theorem loF_s (w0 k : Int) (h0 : 0 ≤ w0) (hk : 0 ≤ k) : loR (loF w0 k) (loF w0 (k + 1)) ∧ w0 ≤ loF w0 k := by
  unfold loF; constructor
  · split <;> omega
  · split <;> omega
def bI (b : Bool) : Int := if b = true then 1 else 0
theorem bI_0 {b : Bool} (h : bI b = 0) : b = false := by cases b; rfl; exact absurd h (by decide)
theorem bI_1 {b : Bool} (h : ¬ bI b = 0) : b = true := by cases b; exact absurd rfl h; rfl
theorem bI_rng (b : Bool) : bI b = 0 ∨ bI b = 1 := by cases b; exact Or.inl rfl; exact Or.inr rfl
theorem bI_t {b : Bool} (h : b = true) : bI b = 1 := by rw [h]; rfl
theorem bI_f {b : Bool} (h : b = false) : bI b = 0 := by rw [h]; rfl
theorem frI_1 {w way : Int} {G : Int → Int} {d : Int} (h : bitw w d ≠ 0) (h2 : way ≠ 3 ∨ G d < 0) : bI (frD w way G d) = 1 := bI_t (frD_iff.mpr ⟨h, h2⟩)
theorem frI_0 {w way : Int} {G : Int → Int} {d : Int} (h : ¬(bitw w d ≠ 0 ∧ (way ≠ 3 ∨ G d < 0))) : bI (frD w way G d) = 0 := by
  cases q : frD w way G d
  · rfl
  · exact absurd (frD_iff.mp q) h
theorem rkG_iff {X : zX} {fa fn : Nat} {k d : Int} : rkG X fa fn k d < 0 ↔ rdv X fa fn 1701 d < 0 ∨ k ≤ rdv X fa fn 1701 d := by
  unfold rkG; split <;> omega
theorem mvS_a {ok : Int → Bool} {way t k : Int} (h : k ≤ 60) (h1 : ok (t + k) = true) : mvS ok way t (61 - k).toNat k = t + k := by
  rw [show (61 - k).toNat = (61 - (k + 1)).toNat + 1 by omega]; unfold mvS; rw [if_pos h1]
theorem mvS_b {ok : Int → Bool} {way t k : Int} (h : k ≤ 60) (h1 : ok (t + k) = false) (hw : way = 2) (h2 : ok (t - k) = true) : mvS ok way t (61 - k).toNat k = t - k := by
  rw [show (61 - k).toNat = (61 - (k + 1)).toNat + 1 by omega]; unfold mvS; rw [if_neg (by rw [h1]; simp), if_pos ⟨hw, h2⟩]
theorem mvS_c {ok : Int → Bool} {way t k : Int} (h : k ≤ 60) (h1 : ok (t + k) = false) (h2 : way ≠ 2 ∨ ok (t - k) = false) : mvS ok way t (61 - k).toNat k = mvS ok way t (61 - (k + 1)).toNat (k + 1) := by
  rw [show (61 - k).toNat = (61 - (k + 1)).toNat + 1 by omega]; conv => lhs; unfold mvS
  rw [if_neg (by rw [h1]; simp), if_neg (by rintro ⟨a, b⟩; rcases h2 with q | q; exact q a; rw [q] at b; exact absurd b (by simp))]
theorem mvS_e {ok : Int → Bool} {way t k : Int} (h : 61 ≤ k) : mvS ok way t (61 - k).toNat k = -1 := by
  rw [show (61 - k).toNat = 0 by omega]; rfl
theorem bF_e {w way : Int} {P : Nat → Int} {G : Int → Int} {num a b b' d : Int} (h : b < a) (h' : b' < a) : bF w way P G num a b d = bF w way P G num a b' d := by
  by_cases q : 0 ≤ G d
  · rw [bF_G q, bF_G q]
  · rw [bF_n (by omega) (by rintro ⟨_, i, hi, _⟩; omega), bF_n (by omega) (by rintro ⟨_, i, hi, _⟩; omega)]
theorem Fa_s (w : Int) (F Fp : Nat → Nat → Int) (k : Nat) (d : Int) : Fa w F Fp (k + 1) d = bF w (F k 3) (Fp k) (Fa w F Fp k) k (12 * (F k 0 - 1900)) (12 * (F k 1 - 1900) + 11) d := rfl
/-- a working day -/
def wkF (w : Int) (G : Int → Int) (d : Int) : Bool := decide (bitw w d ≠ 0) && decide (G d < 0)
theorem wkF_iff {w : Int} {G : Int → Int} {d : Int} : wkF w G d = true ↔ bitw w d ≠ 0 ∧ G d < 0 := by unfold wkF; simp
theorem wkI_1 {w : Int} {G : Int → Int} {d : Int} (h : bitw w d ≠ 0) (h2 : G d < 0) : bI (wkF w G d) = 1 := bI_t (wkF_iff.mpr ⟨h, h2⟩)
theorem wkI_0 {w : Int} {G : Int → Int} {d : Int} (h : ¬(bitw w d ≠ 0 ∧ G d < 0)) : bI (wkF w G d) = 0 := by
  cases q : wkF w G d
  · rfl
  · exact absurd (wkF_iff.mp q) h
theorem wkF_congr {w : Int} {G G' : Int → Int} {d : Int} (h : G d = G' d) : wkF w G d = wkF w G' d := by unfold wkF; rw [h]
/-- the working day that lies so many working days behind, no more than 500 days away -/
def bhF (p : Int → Bool) (day days : Int) : Int := if days = 0 then day else if 0 < days then chF p (min (day + 500) 73048 - (day + 1) + 1).toNat (day + 1) days else chB p (day - 1 - max 0 (day - 500) + 1).toNat (day - 1) (-days)
