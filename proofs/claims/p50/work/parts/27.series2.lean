-- doubles
def mgD (a b : Int) : Int := ((FP.ddiv (FP.i2d (iI a)) (FP.i2d (iI b))).toNat : Int)
section ZDBL
variable {p : Program} {l : Launch} {e : Env} {R : Room} {s : State} {m : MethodId} {args : Array Value} {below : List Frame} {meth : Method} {c : Code} {H : Heap} {locs : List Loc} {cells slots : Nat} {Q : State → Prop}
variable {cc : ByteArray} {pc : Nat} {ls : Array Slot} {rest : List Value} {Γ : zG} {A : Nat → Prop} {K : zK} {X X' : zX} {Rf Rf' : zR} {a : Nat}
theorem zdconst0 (hx : p.tables.exec = Jvm.exec) (hb : c.code = cc) (hdg : decode cc pc = .ok (.dconst 0, 1)) (k : W p l e R s m args below meth c H locs cells slots Q (F0 m (pc + 1) ls (.double (UInt64.ofNat (0 : Int).toNat) :: rest))) : W p l e R s m args below meth c H locs cells slots Q (F0 m pc ls rest) := lv_dconst0 hx hb hdg k
theorem mg_nan {a b : Int} (h : fit b ∧ b ≠ 0) : vf_n64 (FP.ddiv (FP.i2d (iI a)) (FP.i2d (iI b))) := mg_nan0 _ _ (fun g => h.2 (by rw [← iI_toInt h.1, g]; rfl))
theorem zmean (hx : p.tables.exec = Jvm.exec) (hb : c.code = cc) {a b : Int} (h : fit b ∧ b ≠ 0) (hdg : decode cc pc = .ok (.ddiv, 1)) (k : W p l e R s m args below meth c H locs cells slots Q (F0 m (pc + 1) ls (.double (UInt64.ofNat (mgD a b).toNat) :: rest))) : W p l e R s m args below meth c H locs cells slots Q (F0 m pc ls (.double (FP.i2d (iI b)) :: .double (FP.i2d (iI a)) :: rest)) := by
  refine lv_ddiv hx hb hdg (mg_nan h) ?_
  have e9 : UInt64.ofNat (mgD a b).toNat = FP.ddiv (FP.i2d (iI a)) (FP.i2d (iI b)) := by
    unfold mgD
    rw [Int.toNat_natCast, UInt64.ofNat_toNat]
  rw [← e9]; exact k
theorem zkDp {st0 : List Value} {mc ms : Nat} {P : Int → Prop} {aa : Array Value} (hr : va_Run p l e R s m args below meth c H locs cells slots mc ms (F0 m pc ls st0) rest (zQ Γ K H.size (pD (zp0 K X Rf P)) aa) (zA K H.size)) (hw : Wd Γ A K X Rf s H locs)
    (kk : ∀ (r : Int) (H1 : Heap) (locs1 : List Loc), P r → Wd Γ A K X Rf s H1 locs1 → W p l e R s m args below meth c H1 locs1 (cells + mc) (slots + ms) Q (F0 m (pc + 3) ls (.double (UInt64.ofNat r.toNat) :: rest))) : W p l e R s m args below meth c H locs cells slots Q (F0 m pc ls st0) :=
  zkD hr hw (fun r K' X' R' H1 locs1 ⟨hp, e1, e2, e3⟩ h => by subst e1; subst e2; subst e3; exact kk r H1 locs1 hp h)
end ZDBL
-- ===== series: more =====
theorem exB_iff {Ex : Nat → Int} {d : Int} : ∀ {n : Nat}, exB Ex d n = true ↔ ∃ k, k < n ∧ Ex k = d
  | 0 => by simp [exB]
  | n + 1 => by
    unfold exB
    rw [Bool.or_eq_true, exB_iff (n := n), decide_eq_true_eq]
    constructor
    · rintro (⟨k, h1, h2⟩ | h)
      · exact ⟨k, by omega, h2⟩
      · exact ⟨n, by omega, h⟩
    · rintro ⟨k, h1, h2⟩
      by_cases h : k = n
      · subst h; exact Or.inr h2
      · exact Or.inl ⟨k, by omega, h2⟩
def exV (Ex : Nat → Int) (d : Int) (n : Nat) : Int := if exB Ex d n = true then 1 else 0
theorem exV_hit {Ex : Nat → Int} {d : Int} {n k : Nat} (h : k < n) (he : Ex k = d) : exV Ex d n = 1 := by
  unfold exV; rw [if_pos (exB_iff.mpr ⟨k, h, he⟩)]
theorem exV_no {Ex : Nat → Int} {d : Int} {n : Nat} (h : exB Ex d n = false) : exV Ex d n = 0 := by
  unfold exV; rw [h]; rfl
theorem exV_rng (Ex : Nat → Int) (d : Int) (n : Nat) : (exV Ex d n = 0 ∧ exB Ex d n = false) ∨ (exV Ex d n = 1 ∧ exB Ex d n = true) := by
  unfold exV; cases h : exB Ex d n <;> simp
theorem mi_mono {a b : Int} (h0 : 0 ≤ a) (h : a ≤ b) (h2 : b ≤ 73048) : mi a ≤ mi b := by
  have h3 := mi_rng h0 (by omega)
  have h4 := mi_rng (d := b) (by omega) h2
  by_cases q : mi a ≤ mi b
  · exact q
  · have := mB_mono (show mi b + 1 ≤ mi a by omega)
    omega
def ctK (Sd : Nat → Int) (Up : Nat → Nat → Int) (d : Int) (k : Nat) : Bool := decide (bitw (rwS Sd) d ≠ 0) && (if Sd 9 = 0 then (if Sd 2 < 2 then true else decide (told (usS Sd) (mi d) = d)) else anyT Up d k)
theorem ctK_0 {Sd : Nat → Int} {Up : Nat → Nat → Int} {d : Int} (h : Sd 9 ≠ 0) : ctK Sd Up d (0 : Int).toNat = false := by
  unfold ctK; rw [if_neg h]; show (_ && false) = false; simp
theorem ctK_s {Sd : Nat → Int} {Up : Nat → Nat → Int} {d : Int} {k : Nat} (h : Sd 9 ≠ 0) : (if ctK Sd Up d (k + 1) = true then (1 : Int) else -1) = if told (Up k) (mi d) = d ∧ bitw (rwS Sd) d ≠ 0 then 1 else if ctK Sd Up d k = true then 1 else -1 := by
  have e9 : anyT Up d (k + 1) = (anyT Up d k || decide (told (Up k) (mi d) = d)) := rfl
  unfold ctK
  rw [if_neg h, if_neg h, e9]
  by_cases q1 : bitw (rwS Sd) d = 0 <;> by_cases q2 : told (Up k) (mi d) = d <;> cases q3 : anyT Up d k <;> simp [q1, q2]
theorem tkD_out {Sd Ex : Nat → Int} {st : Int × List Int} {d : Int} (h : ¬(d < bdS Sd ∨ Sd 7 < d ∨ (Sd 6 ≠ 0 ∧ Sd 6 ≤ st.1))) (he : exB Ex d (Sd 10).toNat = true) : tkD Sd Ex st d = (st.1 + 1, st.2) := by
  unfold tkD; rw [if_neg h, if_pos he]
theorem tkD_in {Sd Ex : Nat → Int} {st : Int × List Int} {d : Int} (h : ¬(d < bdS Sd ∨ Sd 7 < d ∨ (Sd 6 ≠ 0 ∧ Sd 6 ≤ st.1))) (he : exB Ex d (Sd 10).toNat = false) : tkD Sd Ex st d = (st.1 + 1, st.2 ++ [d]) := by
  unfold tkD; rw [if_neg h, if_neg (by rw [he]; simp)]
theorem tkD_no {Sd Ex : Nat → Int} {st : Int × List Int} {d : Int} (h : d < bdS Sd ∨ Sd 7 < d ∨ (Sd 6 ≠ 0 ∧ Sd 6 ≤ st.1)) : tkD Sd Ex st d = st := by
  unfold tkD; rw [if_pos h]
theorem serD.congr {F F' Sd : Nat → Int} (h : serD F Sd) (hF : ∀ q, q ≠ 16 → q ≠ 17 → F' q = F q) : serD F' Sd := by
  unfold serD
  rw [hF 1 (by decide) (by decide), hF 2 (by decide) (by decide), hF 3 (by decide) (by decide), hF 4 (by decide) (by decide), hF 5 (by decide) (by decide), hF 6 (by decide) (by decide), hF 9 (by decide) (by decide), hF 10 (by decide) (by decide), hF 11 (by decide) (by decide), hF 12 (by decide) (by decide), hF 14 (by decide) (by decide)]
  exact h
theorem getD_snoc_l {l : List Int} {d : Int} {j : Nat} (h : j < l.length) : (l ++ [d]).getD j 0 = l.getD j 0 := by
  simp [List.getD_eq_getElem?_getD, List.getElem?_append_left h]
theorem getD_snoc_r {l : List Int} {d : Int} : (l ++ [d]).getD l.length 0 = d := by
  simp [List.getD_eq_getElem?_getD]
theorem chF_s {p : Int → Bool} {a b w : Int} (h : a ≤ b) (hp : p a = false) : chF p (b - a + 1).toNat a w = chF p (b - (a + 1) + 1).toNat (a + 1) w := by
  rw [show (b - a + 1).toNat = (b - (a + 1) + 1).toNat + 1 by omega]
  show (if p a = true then _ else _) = _
  rw [hp]; rfl
theorem chF_t {p : Int → Bool} {a b w : Int} (h : a ≤ b) (hp : p a = true) (hw : w ≠ 1) : chF p (b - a + 1).toNat a w = chF p (b - (a + 1) + 1).toNat (a + 1) (w - 1) := by
  rw [show (b - a + 1).toNat = (b - (a + 1) + 1).toNat + 1 by omega]
  show (if p a = true then (if w = 1 then a else _) else _) = _
  rw [if_pos hp, if_neg hw]
theorem chF_h {p : Int → Bool} {a b : Int} (h : a ≤ b) (hp : p a = true) : chF p (b - a + 1).toNat a 1 = a := by
  rw [show (b - a + 1).toNat = (b - (a + 1) + 1).toNat + 1 by omega]
  show (if p a = true then (if (1 : Int) = 1 then a else _) else _) = _
  rw [if_pos hp, if_pos rfl]
theorem chF_e {p : Int → Bool} {a b w : Int} (h : b < a) : chF p (b - a + 1).toNat a w = -1 := by
  rw [show (b - a + 1).toNat = 0 by omega]; rfl
theorem chB_s {p : Int → Bool} {a b w : Int} (h : a ≤ b) (hp : p b = false) : chB p (b - a + 1).toNat b w = chB p (b - 1 - a + 1).toNat (b - 1) w := by
  rw [show (b - a + 1).toNat = (b - 1 - a + 1).toNat + 1 by omega]
  show (if p b = true then _ else _) = _
  rw [hp]; rfl
theorem chB_t {p : Int → Bool} {a b w : Int} (h : a ≤ b) (hp : p b = true) (hw : w ≠ 1) : chB p (b - a + 1).toNat b w = chB p (b - 1 - a + 1).toNat (b - 1) (w - 1) := by
  rw [show (b - a + 1).toNat = (b - 1 - a + 1).toNat + 1 by omega]
  show (if p b = true then (if w = 1 then b else _) else _) = _
  rw [if_pos hp, if_neg hw]
theorem chB_h {p : Int → Bool} {a b : Int} (h : a ≤ b) (hp : p b = true) : chB p (b - a + 1).toNat b 1 = b := by
  rw [show (b - a + 1).toNat = (b - 1 - a + 1).toNat + 1 by omega]
  show (if p b = true then (if (1 : Int) = 1 then b else _) else _) = _
  rw [if_pos hp, if_pos rfl]
theorem chB_e {p : Int → Bool} {a b w : Int} (h : b < a) : chB p (b - a + 1).toNat b w = -1 := by
  rw [show (b - a + 1).toNat = 0 by omega]; rfl
theorem tkA_s {Sd : Nat → Int} {Up : Nat → Nat → Int} {Ex : Nat → Int} {a b : Int} {st : Int × List Int} (h : a ≤ b) : tkA Sd Up Ex (b - a + 1).toNat a st = tkA Sd Up Ex (b - (a + 1) + 1).toNat (a + 1) (if ctS Sd Up a then tkD Sd Ex st a else st) := by
  rw [show (b - a + 1).toNat = (b - (a + 1) + 1).toNat + 1 by omega]; rfl
theorem tkA_e {Sd : Nat → Int} {Up : Nat → Nat → Int} {Ex : Nat → Int} {a b : Int} {st : Int × List Int} (h : b < a) : tkA Sd Up Ex (b - a + 1).toNat a st = st := by
  rw [show (b - a + 1).toNat = 0 by omega]; rfl
theorem spS_s {Sd : Nat → Int} {Up : Nat → Nat → Int} {Ex : Nat → Int} {n : Int} {st : Int × List Int} (h0 : n ≤ 4000) (h : spB Sd (n * Sd 3) ≤ Sd 7) : spS Sd Up Ex (4001 - n).toNat n st = spS Sd Up Ex (4001 - (n + 1)).toNat (n + 1) (tkS Sd Up Ex (spB Sd (n * Sd 3)) (min (spB Sd (n * Sd 3 + 1) - 1) 73048) st) := by
  rw [show (4001 - n).toNat = (4001 - (n + 1)).toNat + 1 by omega]
  show (if Sd 7 < spB Sd (n * Sd 3) then st else _) = _
  rw [if_neg (by omega)]
theorem spS_h {Sd : Nat → Int} {Up : Nat → Nat → Int} {Ex : Nat → Int} {n : Int} {st : Int × List Int} (h : 4001 ≤ n ∨ Sd 7 < spB Sd (n * Sd 3)) : spS Sd Up Ex (4001 - n).toNat n st = st := by
  by_cases h0 : 4001 ≤ n
  · rw [show (4001 - n).toNat = 0 by omega]; rfl
  · rw [show (4001 - n).toNat = (4001 - (n + 1)).toNat + 1 by omega]
    show (if Sd 7 < spB Sd (n * Sd 3) then st else _) = _
    rw [if_pos (by omega)]
-- ===== a list of dates, in the row fo =====
def dtR (X : zX) (se fo : Nat) (l : List Int) : Prop := X se 16 = l.length ∧ (l.length : Int) ≤ 4001 ∧ (∀ j : Nat, j < l.length → X fo j = l.getD j 0) ∧ ∀ j : Nat, j < l.length → (0 ≤ l.getD j 0 ∧ l.getD j 0 ≤ 73048)
theorem dtS_len {Sd : Nat → Int} {Up : Nat → Nat → Int} {Ex : Nat → Int} (h : okS Sd) : ((dtS Sd Up Ex).length : Int) ≤ 4001 := by
  have := (spS_dlB (Up := Up) (Ex := Ex) h 4001 0 (0, []) (by omega) (dlB_0 _ _)).2.1
  unfold dtS; omega
theorem dtS_get {Sd : Nat → Int} {Up : Nat → Nat → Int} {Ex : Nat → Int} (h : okS Sd) (j : Nat) (hj : j < (dtS Sd Up Ex).length) : 0 ≤ (dtS Sd Up Ex).getD j 0 ∧ (dtS Sd Up Ex).getD j 0 ≤ 73048 := by
  refine dtS_ok (Up := Up) (Ex := Ex) h _ ?_
  rw [List.getD_eq_getElem?_getD, List.getElem?_eq_getElem hj]
  exact List.getElem_mem hj
theorem dtR_of {X : zX} {se fo : Nat} {Sd : Nat → Int} {Up : Nat → Nat → Int} {Ex : Nat → Int} (h : okS Sd) (hr : repD X se fo (spS Sd Up Ex 4001 0 (0, []))) : dtR X se fo (dtS Sd Up Ex) := ⟨hr.2.1, dtS_len h, hr.2.2, dtS_get h⟩
def dtL (l : List Int) (k : Int) : Int := if k < 0 ∨ (l.length : Int) ≤ k then -1 else l.getD k.toNat 0
theorem dtL_rng {X : zX} {se fo : Nat} {l : List Int} (h : dtR X se fo l) (k : Int) : -1 ≤ dtL l k ∧ dtL l k ≤ 73048 ∧ (0 ≤ k → k < l.length → 0 ≤ dtL l k) := by
  unfold dtL
  by_cases hk : k < 0 ∨ (l.length : Int) ≤ k
  · rw [if_pos hk]; omega
  · rw [if_neg hk]; have := h.2.2.2 k.toNat (by omega); omega
def ffD (l : List Int) (d : Int) : Int := fP (fun k => decide (d ≤ l.getD k.toNat 0)) ((l.length : Int) - 0).toNat 0
def skD (d : Int) : List Int → List Int
  | [] => []
  | x :: l => if x < d then skD d l else x :: l
def shD : List Int → List Int → Int
  | [], _ => 0
  | d :: l, o => (if (skD d o).head? = some d then 1 else 0) + shD l (skD d o)
theorem drop_get {l : List Int} {k : Nat} (h : k < l.length) : l.drop k = l.getD k 0 :: l.drop (k + 1) := by
  rw [List.drop_eq_getElem_cons h, List.getD_eq_getElem?_getD, List.getElem?_eq_getElem h]; rfl
theorem skD_lt {l : List Int} {k : Nat} {d : Int} (h : k < l.length) (hd : l.getD k 0 < d) : skD d (l.drop k) = skD d (l.drop (k + 1)) := by
  rw [drop_get h]; conv => lhs; unfold skD
  rw [if_pos hd]
theorem skD_ge {l : List Int} {k : Nat} {d : Int} (h : l.length ≤ k ∨ ¬ l.getD k 0 < d) : skD d (l.drop k) = l.drop k := by
  by_cases hk : l.length ≤ k
  · rw [List.drop_eq_nil_of_le hk]; rfl
  · rw [drop_get (by omega)]; unfold skD; rw [if_neg (by rcases h with h | h; exact absurd h hk; exact h)]
theorem shD_s {l o : List Int} {k t : Nat} {d e : Int} (h : k < l.length) (hd : d = l.getD k 0) (h0 : 0 ≤ d) (he : e = if o.length ≤ t then -1 else o.getD t 0) (ht : o.length ≤ t ∨ ¬ o.getD t 0 < d) {t0 : Nat} (hs : skD d (o.drop t) = skD d (o.drop t0)) : shD (l.drop k) (o.drop t0) = (if e = d then 1 else 0) + shD (l.drop (k + 1)) (o.drop t) := by
  rw [drop_get h, ← hd]
  show (if (skD d (o.drop t0)).head? = some d then (1 : Int) else 0) + shD (l.drop (k + 1)) (skD d (o.drop t0)) = _
  rw [← hs, skD_ge ht]
  by_cases hk : o.length ≤ t
  · rw [if_pos hk] at he
    rw [List.drop_eq_nil_of_le hk, if_neg (by simp), if_neg (by omega)]
  · rw [if_neg hk] at he
    rw [drop_get (l := o) (k := t) (by omega)]
    by_cases g : e = d
    · rw [if_pos g, if_pos (by rw [List.head?_cons, ← he, g])]
    · rw [if_neg g, if_neg (by rw [List.head?_cons, ← he]; intro q; exact g (Option.some.inj q))]
theorem shD_e {l o : List Int} {k : Nat} (h : l.length ≤ k) : shD (l.drop k) o = 0 := by
  rw [List.drop_eq_nil_of_le h]; rfl
def wdA : Int → List Int → Int
  | _, [] => 0
  | p, x :: l => max (x - p) (wdA x l)
def wdD : List Int → Int
  | [] => 0
  | x :: l => wdA x l
theorem wdA_0 : ∀ (l : List Int) (p : Int), 0 ≤ wdA p l
  | [], _ => by simp [wdA]
  | x :: l, p => by unfold wdA; have := wdA_0 l x; omega
theorem wdD_start (l : List Int) : max 0 (wdA (l.getD 0 0) (l.drop 1)) = wdD l := by
  cases l with
  | nil => rfl
  | cons x l => have := wdA_0 l x; show max 0 (wdA x l) = wdA x l; omega
theorem wdA_s {l : List Int} {k : Nat} (h : k < l.length) (p : Int) : wdA p (l.drop k) = max (l.getD k 0 - p) (wdA (l.getD k 0) (l.drop (k + 1))) := by
  rw [drop_get h]; rfl
theorem wdA_e {l : List Int} {k : Nat} (h : l.length ≤ k) (p : Int) : wdA p (l.drop k) = 0 := by
  rw [List.drop_eq_nil_of_le h]; rfl
theorem wdD_rng {l : List Int} (h : ∀ j : Nat, j < l.length → (0 ≤ l.getD j 0 ∧ l.getD j 0 ≤ 73048)) : 0 ≤ wdD l ∧ wdD l ≤ 73048 := by
  have key : ∀ (n k : Nat) (p : Int), l.length - k = n → 0 ≤ p → wdA p (l.drop k) ≤ 73048 := by
    intro n
    induction n with
    | zero => intro k p hk hp; rw [wdA_e (by omega)]; omega
    | succ n ih =>
      intro k p hk hp
      rw [wdA_s (by omega)]
      have := h k (by omega)
      have := ih (k + 1) (l.getD k 0) (by omega) (by omega)
      omega
  rw [← wdD_start]
  by_cases h0 : l.length = 0
  · rw [wdA_e (by omega)]; omega
  · have := key (l.length - 1) 1 (l.getD 0 0) rfl (h 0 (by omega)).1
    omega
def mgL (l : List Int) : Int := if (l.length : Int) - 1 < 1 then 0 else mgD (l.getD (l.length - 1) 0 - l.getD 0 0) ((l.length : Int) - 1)
theorem ffD_s {l : List Int} {d k : Int} (h : k < l.length) (hn : ¬ d ≤ l.getD k.toNat 0) : fP (fun k => decide (d ≤ l.getD k.toNat 0)) ((l.length : Int) - k).toNat k = fP (fun k => decide (d ≤ l.getD k.toNat 0)) ((l.length : Int) - (k + 1)).toNat (k + 1) := by
  rw [tN h]; simp only [fP]; rw [if_neg (by simpa using hn)]
theorem ffD_h {l : List Int} {d k : Int} (h : k < l.length) (hn : d ≤ l.getD k.toNat 0) : fP (fun k => decide (d ≤ l.getD k.toNat 0)) ((l.length : Int) - k).toNat k = k := by
  rw [tN h]; simp only [fP]; rw [if_pos (by simpa using hn)]
theorem ffD_rng {l : List Int} {d : Int} : -1 ≤ ffD l d ∧ ffD l d < max 0 l.length := by
  have := fP_spec (p := fun k => decide (d ≤ l.getD k.toNat 0)) (b := l.length) 0
  unfold ffD; omega
theorem dtL_in {l : List Int} {k : Int} (h : 0 ≤ k) (h2 : k < l.length) : dtL l k = l.getD k.toNat 0 := by
  unfold dtL; rw [if_neg (by omega)]
theorem dtL_out {l : List Int} {k : Int} (h : (l.length : Int) ≤ k) : dtL l k = -1 := by
  unfold dtL; rw [if_pos (Or.inr h)]
theorem fd_mul {Sd : Nat → Int} (hS : okS Sd) {nn : Int} (h0 : 0 ≤ nn) (h1 : nn ≤ 4000) : 0 ≤ nn * Sd 3 ∧ nn * Sd 3 ≤ 240000 := by
  have hs : 1 ≤ Sd 3 ∧ Sd 3 ≤ 60 := hS.2.2.1
  exact ⟨Int.mul_nonneg h0 (by omega), Int.le_trans (Int.mul_le_mul_of_nonneg_right h1 (by omega)) (by omega)⟩
theorem fd_rng {Sd : Nat → Int} (hS : okS Sd) {nn x : Int} (h0 : 0 ≤ nn) (hx : x = spB Sd (nn * Sd 3)) (hl : x ≤ Sd 7) : ((spB Sd 0 ≤ x ∧ 0 ≤ x ∧ x ≤ 73048) ∧ x ≤ spB Sd (nn * Sd 3 + 1) - 1 ∧ spB Sd (nn * Sd 3 + 1) - 1 ≤ Sd 7 + 365) ∧ spB Sd (nn * Sd 3 + 1) ≤ spB Sd ((nn + 1) * Sd 3) := by
  have hs : 1 ≤ Sd 3 ∧ Sd 3 ≤ 60 := hS.2.2.1
  have h7 : Sd 7 ≤ 73048 := by have a := hS.2.2.2.2.2.2.1.2.2; have b := hS.2.2.2.2.2.2.2.1; omega
  have hm : 0 ≤ nn * Sd 3 := Int.mul_nonneg h0 (by omega)
  have a := spB_succ hS hm
  have b := spB_mono hS (i := 0) (j := nn * Sd 3) (by omega) hm
  have c := (spB_rng hS (i := 0) (by omega) (by omega)).1
  have d := a.2.2 (by omega)
  have e := a.2.1
  have f := spB_mono hS (i := nn * Sd 3 + 1) (j := (nn + 1) * Sd 3) (by omega) (by rw [Int.add_mul, Int.one_mul]; omega)
  clear a hS
  omega
