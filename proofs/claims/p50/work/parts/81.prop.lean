-- ===== series: the dates come one behind the other =====
def srB (B : Int) (l : List Int) : Prop := l.Pairwise (· < ·) ∧ ∀ x, x ∈ l → x < B
theorem srB.mono {B B' : Int} {l : List Int} (h : srB B l) (hB : B ≤ B') : srB B' l := ⟨h.1, fun x hx => by have := h.2 x hx; omega⟩
theorem srB.snoc {B B' d : Int} {l : List Int} (h : srB B l) (hd : B ≤ d) (hB : d < B') : srB B' (l ++ [d]) := by
  refine ⟨List.pairwise_append.mpr ⟨h.1, List.pairwise_singleton _ _, fun x hx y hy => ?_⟩, fun x hx => ?_⟩
  · rw [List.mem_singleton.mp hy]
    have := h.2 x hx
    omega
  · rcases List.mem_append.mp hx with g | g
    · have := h.2 x g; omega
    · rw [List.mem_singleton.mp g]; exact hB
theorem tkD_sr {Sd Ex : Nat → Int} {st : Int × List Int} {B B' d : Int} (h : srB B st.2) (hd : B ≤ d) (h1 : d < B') (h2 : B ≤ B') : srB B' (tkD Sd Ex st d).2 := by
  unfold tkD
  split
  · exact h.mono h2
  · show srB B' (if exB Ex d (Sd 10).toNat then st.2 else st.2 ++ [d])
    split
    · exact h.mono h2
    · exact h.snoc hd h1
theorem tkA_sr {Sd : Nat → Int} {Up : Nat → Nat → Int} {Ex : Nat → Int} : ∀ (n : Nat) (a : Int) (st : Int × List Int), srB a st.2 → srB (a + n) (tkA Sd Up Ex n a st).2
  | 0, a, st, h => h.mono (by omega)
  | n + 1, a, st, h => by
    have e : tkA Sd Up Ex (n + 1) a st = tkA Sd Up Ex n (a + 1) (if ctS Sd Up a then tkD Sd Ex st a else st) := rfl
    rw [e]
    have h1 : srB (a + 1) (if ctS Sd Up a then tkD Sd Ex st a else st).2 := by
      split
      · exact tkD_sr h (Int.le_refl _) (by omega) (by omega)
      · exact h.mono (by omega)
    exact (tkA_sr n (a + 1) _ h1).mono (by omega)
theorem tkS_sr {Sd : Nat → Int} {Up : Nat → Nat → Int} {Ex : Nat → Int} (hS : okS Sd) {a b : Int} {st : Int × List Int} (h : srB a st.2) (hab : a ≤ b + 1) : srB (b + 1) (tkS Sd Up Ex a b st).2 := by
  unfold tkS
  by_cases h5 : Sd 5 ≠ 0
  · rw [if_pos h5]
    have hc : chS Sd Up a b = -1 ∨ (a ≤ chS Sd Up a b ∧ chS Sd Up a b ≤ b) := by
      unfold chS
      by_cases g : 0 < Sd 5
      · rw [if_pos g]
        rcases chF_is (p := ctS Sd Up) (b - a + 1).toNat a (Sd 5) (by omega) with q | ⟨q1, q2, q3, q4⟩
        · exact Or.inl q
        · exact Or.inr ⟨q1, by omega⟩
      · rw [if_neg g]
        rcases chB_is (p := ctS Sd Up) (b - a + 1).toNat b (-Sd 5) (by omega) with q | ⟨q1, q2, q3, q4⟩
        · exact Or.inl q
        · exact Or.inr ⟨by omega, q2⟩
    rcases hc with g | ⟨g1, g2⟩
    · rw [g]
      unfold tkD
      have hb : 0 ≤ bdS Sd := by unfold bdS; omega
      rw [if_pos (Or.inl (by omega))]
      exact h.mono hab
    · exact tkD_sr h g1 (by omega) hab
  · rw [if_neg h5]
    exact (tkA_sr (b - a + 1).toNat a st h).mono (by omega)
theorem spS_sr {Sd : Nat → Int} {Up : Nat → Nat → Int} {Ex : Nat → Int} (hS : okS Sd) : ∀ (q : Nat) (n : Int) (st : Int × List Int), 0 ≤ n → srB (spB Sd (n * Sd 3)) st.2 → ∃ B, srB B (spS Sd Up Ex q n st).2
  | 0, n, st, hn, h => ⟨_, h⟩
  | q + 1, n, st, hn, h => by
    have e : spS Sd Up Ex (q + 1) n st = if Sd 7 < spB Sd (n * Sd 3) then st else spS Sd Up Ex q (n + 1) (tkS Sd Up Ex (spB Sd (n * Sd 3)) (min (spB Sd (n * Sd 3 + 1) - 1) 73048) st) := rfl
    rw [e]
    by_cases g : Sd 7 < spB Sd (n * Sd 3)
    · rw [if_pos g]; exact ⟨_, h⟩
    · rw [if_neg g]
      have hp : 0 ≤ n * Sd 3 := Int.mul_nonneg hn (by omega)
      have h1 := spB_succ hS hp
      have h2 : (n + 1) * Sd 3 = n * Sd 3 + Sd 3 := by rw [Int.add_mul, Int.one_mul]
      have h3 := spB_mono hS (i := n * Sd 3 + 1) (j := (n + 1) * Sd 3) (by omega) (by omega)
      have h4 := tkS_sr (Up := Up) (Ex := Ex) hS (a := spB Sd (n * Sd 3)) (b := min (spB Sd (n * Sd 3 + 1) - 1) 73048) h (by omega)
      exact spS_sr hS q (n + 1) _ (by omega) (h4.mono (by omega))
theorem dtS_sr {Sd : Nat → Int} {Up : Nat → Nat → Int} {Ex : Nat → Int} (hS : okS Sd) : (dtS Sd Up Ex).Pairwise (· < ·) := by
  obtain ⟨B, h⟩ := spS_sr (Up := Up) (Ex := Ex) hS 4001 0 (0, []) (by omega) ⟨List.Pairwise.nil, fun x hx => absurd hx List.not_mem_nil⟩
  exact h.1
-- ===== a row of days, one behind the other =====
abbrev srL (l : List Int) : Prop := l.Pairwise (· < ·)
theorem sr_get {l : List Int} (h : srL l) {i j : Nat} (hij : i < j) (hj : j < l.length) : l.getD i 0 < l.getD j 0 := by
  have h1 := List.pairwise_iff_getElem.mp h i j (by omega) hj hij
  rw [List.getD_eq_getElem?_getD, List.getD_eq_getElem?_getD, List.getElem?_eq_getElem (by omega : i < l.length), List.getElem?_eq_getElem hj]
  exact h1
theorem ffD_at {l : List Int} (h : srL l) {k : Int} (h0 : 0 ≤ k) (h1 : k < l.length) : ffD l (l.getD k.toNat 0) = k := by
  unfold ffD
  refine fP_hit h0 h1 (decide_eq_true (Int.le_refl _)) (fun q g1 g2 => decide_eq_false ?_)
  have := sr_get h (i := q.toNat) (j := k.toNat) (by omega) (by omega)
  omega
theorem wdA_ge : ∀ (l : List Int) (p : Int) (k : Nat), k < l.length → l.getD k 0 - (if k = 0 then p else l.getD (k - 1) 0) ≤ wdA p l
  | [], _, k, h => absurd h (Nat.not_lt_zero _)
  | x :: l, p, 0, _ => by
    have e : wdA p (x :: l) = max (x - p) (wdA x l) := rfl
    rw [e, if_pos rfl, show (x :: l).getD 0 0 = x from rfl]; omega
  | x :: l, p, k + 1, h => by
    have e : wdA p (x :: l) = max (x - p) (wdA x l) := rfl
    have h1 := wdA_ge l x k (by simpa using h)
    rw [e, if_neg (by omega), show (x :: l).getD (k + 1) 0 = l.getD k 0 from rfl, show k + 1 - 1 = k from rfl]
    by_cases g : k = 0
    · subst g
      rw [if_pos rfl] at h1
      rw [show (x :: l).getD 0 0 = x from rfl]; omega
    · rw [if_neg g] at h1
      obtain ⟨j, rfl⟩ : ∃ j, k = j + 1 := ⟨k - 1, by omega⟩
      rw [show (x :: l).getD (j + 1) 0 = l.getD j 0 from rfl]
      rw [show j + 1 - 1 = j from rfl] at h1
      omega
theorem wdD_ge {l : List Int} {k : Nat} (h0 : 0 < k) (h : k < l.length) : l.getD k 0 - l.getD (k - 1) 0 ≤ wdD l := by
  cases l with
  | nil => exact absurd h (Nat.not_lt_zero _)
  | cons x l =>
    obtain ⟨j, rfl⟩ : ∃ j, k = j + 1 := ⟨k - 1, by omega⟩
    have h1 := wdA_ge l x j (by simpa using h)
    have e : wdD (x :: l) = wdA x l := rfl
    rw [e, show (x :: l).getD (j + 1) 0 = l.getD j 0 from rfl, show j + 1 - 1 = j from rfl]
    by_cases g : j = 0
    · subst g
      rw [if_pos rfl] at h1
      rw [show (x :: l).getD 0 0 = x from rfl]; exact h1
    · rw [if_neg g] at h1
      obtain ⟨i, rfl⟩ : ∃ i, j = i + 1 := ⟨j - 1, by omega⟩
      rw [show (x :: l).getD (i + 1) 0 = l.getD i 0 from rfl]
      rw [show i + 1 - 1 = i from rfl] at h1
      exact h1
theorem wdD_0 {l : List Int} (h : srL l) : ((l.length : Int) < 2 ∧ wdD l = 0) ∨ (2 ≤ (l.length : Int) ∧ 1 ≤ wdD l) := by
  by_cases g : 2 ≤ l.length
  · right
    have h1 := wdD_ge (l := l) (k := 1) (by omega) (by omega)
    have h2 := sr_get h (i := 0) (j := 1) (by omega) (by omega)
    rw [show 1 - 1 = 0 from rfl] at h1
    exact ⟨by omega, by omega⟩
  · left
    refine ⟨by omega, ?_⟩
    match l, g with
    | [], _ => rfl
    | [x], _ => rfl
    | x :: y :: l, g => exact absurd (by simp) g
theorem wdA_sum : ∀ (l : List Int) (p : Int), 0 < l.length → l.getD (l.length - 1) 0 - p ≤ wdA p l * (l.length : Int)
  | [], _, h => absurd h (Nat.lt_irrefl _)
  | [x], p, _ => by
    have e : wdA p [x] = max (x - p) 0 := rfl
    rw [e, show ([x].getD ([x].length - 1) 0) = x from rfl, show (([x] : List Int).length : Int) = 1 from rfl, Int.mul_one]; omega
  | x :: y :: l, p, _ => by
    have e : wdA p (x :: y :: l) = max (x - p) (wdA x (y :: l)) := rfl
    have h1 := wdA_sum (y :: l) x (by simp)
    obtain ⟨n, hn⟩ : ∃ n : Int, n = ((y :: l).length : Int) := ⟨_, rfl⟩
    have e2 : ((x :: y :: l).length : Int) = n + 1 := by rw [hn]; simp
    have e3 : (x :: y :: l).getD ((x :: y :: l).length - 1) 0 = (y :: l).getD ((y :: l).length - 1) 0 := rfl
    rw [e3, e, e2]
    rw [← hn] at h1
    have hn0 : 0 ≤ n := by rw [hn]; exact Int.natCast_nonneg _
    have h2 : wdA x (y :: l) * n ≤ max (x - p) (wdA x (y :: l)) * n := Int.mul_le_mul_of_nonneg_right (by omega) hn0
    rw [Int.mul_add, Int.mul_one]
    omega
theorem wdD_sum {l : List Int} (h : 2 ≤ l.length) : l.getD (l.length - 1) 0 - l.getD 0 0 ≤ wdD l * ((l.length : Int) - 1) := by
  match l, h with
  | [], h => exact absurd h (by simp)
  | [x], h => exact absurd h (by simp)
  | x :: y :: l, _ =>
    have h1 := wdA_sum (y :: l) x (by simp)
    have e3 : (x :: y :: l).getD ((x :: y :: l).length - 1) 0 = (y :: l).getD ((y :: l).length - 1) 0 := rfl
    have e : wdD (x :: y :: l) = wdA x (y :: l) := rfl
    have e2 : ((x :: y :: l).length : Int) - 1 = ((y :: l).length : Int) := by simp only [List.length_cons]; omega
    rw [e3, e, e2]; exact h1
-- ===== what two of them share =====
theorem shD_nil (l : List Int) : shD l [] = 0 := by
  induction l with
  | nil => rfl
  | cons a l ih =>
    show (if (skD a []).head? = some a then 1 else 0) + shD l (skD a []) = 0
    rw [show skD a [] = [] from rfl, if_neg (by simp), ih]; rfl
theorem shD_lt {a b : Int} {l o : List Int} (h : b < a) : shD (a :: l) (b :: o) = shD (a :: l) o := by
  show (if (skD a (b :: o)).head? = some a then 1 else 0) + shD l (skD a (b :: o)) = (if (skD a o).head? = some a then 1 else 0) + shD l (skD a o)
  rw [show skD a (b :: o) = if b < a then skD a o else b :: o from rfl, if_pos h]
theorem shD_gt {a b : Int} {l o : List Int} (h : a < b) : shD (a :: l) (b :: o) = shD l (b :: o) := by
  show (if (skD a (b :: o)).head? = some a then 1 else 0) + shD l (skD a (b :: o)) = _
  have e : skD a (b :: o) = b :: o := by
    show (if b < a then skD a o else b :: o) = _
    rw [if_neg (by omega)]
  rw [e, if_neg (by rw [List.head?_cons]; intro q; have := Option.some.inj q; omega)]
  omega
theorem shD_drop {a : Int} {l o : List Int} (h : srL (a :: l)) : shD l (a :: o) = shD l o := by
  cases l with
  | nil => rfl
  | cons c l => exact shD_lt (by have := (List.pairwise_cons.mp h).1 c (by simp); exact this)
theorem shD_eq {a : Int} {l o : List Int} (h : srL (a :: l)) : shD (a :: l) (a :: o) = 1 + shD l o := by
  show (if (skD a (a :: o)).head? = some a then 1 else 0) + shD l (skD a (a :: o)) = _
  have e : skD a (a :: o) = a :: o := by
    show (if a < a then skD a o else a :: o) = _
    rw [if_neg (by omega)]
  rw [e, if_pos (by rw [List.head?_cons]), shD_drop h]
theorem shD_comm : ∀ (n : Nat) (l o : List Int), l.length + o.length ≤ n → srL l → srL o → shD l o = shD o l
  | _, [], o, _, _, _ => (shD_nil o).symm
  | _, a :: l, [], _, _, _ => shD_nil _
  | 0, a :: l, b :: o, h, _, _ => absurd h (by simp)
  | n + 1, a :: l, b :: o, h, h1, h2 => by
    have h3 := (List.pairwise_cons.mp h1).2
    have h4 := (List.pairwise_cons.mp h2).2
    simp only [List.length_cons] at h
    rcases Int.lt_trichotomy a b with g | g | g
    · rw [shD_gt g, shD_lt g]
      exact shD_comm n l (b :: o) (by simp only [List.length_cons]; omega) h3 h2
    · subst g
      rw [shD_eq h1, shD_eq h2, shD_comm n l o (by omega) h3 h4]
    · rw [shD_lt g, shD_gt g]
      exact shD_comm n (a :: l) o (by simp only [List.length_cons]; omega) h1 h4
theorem shD_le : ∀ (l o : List Int), shD l o ≤ (l.length : Int)
  | [], _ => Int.le_refl _
  | a :: l, o => by
    show (if (skD a o).head? = some a then 1 else 0) + shD l (skD a o) ≤ _
    have h1 := shD_le l (skD a o)
    rw [List.length_cons]
    split <;> omega
theorem shD_self : ∀ {l : List Int}, srL l → shD l l = (l.length : Int)
  | [], _ => rfl
  | a :: l, h => by
    rw [shD_eq h, shD_self (List.pairwise_cons.mp h).2, List.length_cons]; omega
theorem cp_sh {l o : List Int} (h1 : srL l) (h2 : srL o) : shD l o = shD o l ∧ shD l o ≤ min (l.length : Int) (o.length : Int) := by
  have h := shD_comm (l.length + o.length) l o (Nat.le_refl _) h1 h2
  have g1 := shD_le l o
  have g2 := shD_le o l
  exact ⟨h, by omega⟩
/-- the mean is no wider than the widest -/
theorem cp_mean {l : List Int} (h : srL l) (hl : (l.length : Int) ≤ 4001) (hr : ∀ j : Nat, j < l.length → (0 ≤ l.getD j 0 ∧ l.getD j 0 ≤ 73048)) : Op.cmpValue (FP.dcmp (UInt64.ofNat (mgL l).toNat) (FP.i2d (iI (wdD l)))) .g = iI (-1) ∨ Op.cmpValue (FP.dcmp (UInt64.ofNat (mgL l).toNat) (FP.i2d (iI (wdD l)))) .g = iI 0 := by
  have hw := wdD_rng hr
  by_cases g : (l.length : Int) - 1 < 1
  · have e : mgL l = 0 := by unfold mgL; rw [if_pos g]
    have e2 : wdD l = 0 := by rcases wdD_0 h with ⟨-, q⟩ | ⟨q, -⟩; exact q; omega
    rw [e, e2]
    right
    have e3 : FP.dcmp (UInt64.ofNat (0 : Int).toNat) (FP.i2d (iI 0)) = some .eq := by decide +kernel
    rw [e3]; rfl
  · have e : mgL l = mgD (l.getD (l.length - 1) 0 - l.getD 0 0) ((l.length : Int) - 1) := by unfold mgL; rw [if_neg g]
    have hs := wdD_sum (l := l) (by omega)
    have h0 := hr 0 (by omega)
    have h1 := hr (l.length - 1) (by omega)
    have h2 := sr_get h (i := 0) (j := l.length - 1) (by omega) (by omega)
    rw [e]
    have e9 : UInt64.ofNat (mgD (l.getD (l.length - 1) 0 - l.getD 0 0) ((l.length : Int) - 1)).toNat = FP.ddiv (FP.i2d (iI (l.getD (l.length - 1) 0 - l.getD 0 0))) (FP.i2d (iI ((l.length : Int) - 1))) := by
      unfold mgD
      rw [Int.toNat_natCast, UInt64.ofNat_toNat]
    rw [e9]
    have t1 := iI_toInt (z := l.getD (l.length - 1) 0 - l.getD 0 0) ⟨by omega, by omega⟩
    have t2 := iI_toInt (z := (l.length : Int) - 1) ⟨by omega, by omega⟩
    have t3 := iI_toInt (z := wdD l) ⟨by omega, by omega⟩
    rcases dm_le0 (iI (l.getD (l.length - 1) 0 - l.getD 0 0)) (iI ((l.length : Int) - 1)) (iI (wdD l)) (by rw [t1]; omega) (by rw [t2]; omega) (by rw [t3]; omega) (by rw [t1, t2, t3]; exact hs) with q | q
    · left; rw [q]; rfl
    · right; rw [q]; rfl
/-- the dates of a series of the calendar -/
theorem cp_dates {M : zM} (hM : okM M) {n : Nat} (hn : (n : Int) < M 40 16) : srL (datM M n) ∧ ((datM M n).length : Int) ≤ 4001 ∧ ∀ j : Nat, j < (datM M n).length → (0 ≤ (datM M n).getD j 0 ∧ (datM M n).getD j 0 ≤ 73048) := by
  have hS := (hM.2.2.2.1 n hn).1
  exact ⟨dtS_sr hS, dtS_len hS, fun j hj => dtS_get hS j hj⟩
theorem shD_0 : ∀ (l o : List Int), 0 ≤ shD l o
  | [], _ => Int.le_refl _
  | a :: l, o => by
    show 0 ≤ (if (skD a o).head? = some a then 1 else 0) + shD l (skD a o)
    have h1 := shD_0 l (skD a o)
    split <;> omega
theorem shD_rng {l o : List Int} : 0 ≤ shD l o ∧ shD l o ≤ (l.length : Int) := ⟨shD_0 l o, shD_le l o⟩
