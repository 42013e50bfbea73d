-- ===== the reference's row of the days of a span that count =====
def cdL (p : Int → Bool) : Nat → Int → List Int
  | 0, _ => []
  | n + 1, a => if p a then a :: cdL p n (a + 1) else cdL p n (a + 1)
theorem cdL_app {p : Int → Bool} : ∀ (n : Nat) (a : Int), cdL p (n + 1) a = cdL p n a ++ (if p (a + n) then [a + (n : Int)] else [])
  | 0, a => by simp [cdL]
  | n + 1, a => by
    have e := cdL_app (p := p) n (a + 1)
    have h1 : cdL p (n + 1 + 1) a = if p a then a :: cdL p (n + 1) (a + 1) else cdL p (n + 1) (a + 1) := rfl
    have h2 : cdL p (n + 1) a = if p a then a :: cdL p n (a + 1) else cdL p n (a + 1) := rfl
    have h3 : a + 1 + (n : Int) = a + ((n + 1 : Nat) : Int) := by omega
    rw [h1, h2, e, h3]
    by_cases g : p a
    · rw [if_pos g, if_pos g]; rfl
    · rw [if_neg g, if_neg g]
theorem cdL_last {p : Int → Bool} {a b : Int} (h : a ≤ b) : cdL p (b + 1 - a).toNat a = cdL p (b - a).toNat a ++ (if p b then [b] else []) := by
  have e := cdL_app (p := p) (b - a).toNat a
  rw [show (b - a).toNat + 1 = (b + 1 - a).toNat by omega, show a + (((b - a).toNat : Nat) : Int) = b by omega] at e
  exact e
theorem cdL_len {p : Int → Bool} : ∀ (n : Nat) (a : Int), (cdL p n a).length ≤ n
  | 0, _ => Nat.le_refl _
  | n + 1, a => by
    have := cdL_len (p := p) n (a + 1)
    unfold cdL; split
    · simp; omega
    · omega
theorem cdL_mem {p : Int → Bool} {z : Int} : ∀ (n : Nat) (a : Int), z ∈ cdL p n a → a ≤ z ∧ z < a + n
  | 0, a, h => by simp [cdL] at h
  | n + 1, a, h => by
    unfold cdL at h
    by_cases g : p a
    · rw [if_pos g] at h
      rcases List.mem_cons.mp h with h | h
      · omega
      · have := cdL_mem n (a + 1) h; omega
    · rw [if_neg g] at h
      have := cdL_mem n (a + 1) h; omega
theorem chF_cdL {p : Int → Bool} : ∀ (n : Nat) (a w : Int), 1 ≤ w → chF p n a w = if w ≤ (cdL p n a).length then (cdL p n a).getD (w - 1).toNat 0 else -1
  | 0, a, w, h => by rw [if_neg (by simp [cdL]; omega)]; rfl
  | n + 1, a, w, h => by
    have h1 : cdL p (n + 1) a = if p a then a :: cdL p n (a + 1) else cdL p n (a + 1) := rfl
    have h2 : chF p (n + 1) a w = if p a then (if w = 1 then a else chF p n (a + 1) (w - 1)) else chF p n (a + 1) w := rfl
    rw [h1, h2]
    by_cases g : p a
    · rw [if_pos g, if_pos g]
      by_cases hw : w = 1
      · rw [if_pos hw, if_pos (by simp; omega), hw]; rfl
      · rw [if_neg hw, chF_cdL n (a + 1) (w - 1) (by omega)]
        have e : (w - 1).toNat = (w - 1 - 1).toNat + 1 := by omega
        by_cases q : w - 1 ≤ (cdL p n (a + 1)).length
        · rw [if_pos q, if_pos (by simp; omega), e, List.getD_cons_succ]
        · rw [if_neg q, if_neg (by simp; omega)]
    · rw [if_neg g, if_neg g]; exact chF_cdL n (a + 1) w h
theorem chB_cdL {p : Int → Bool} : ∀ (n : Nat) (b w : Int), 1 ≤ w → chB p n b w = if w ≤ (cdL p n (b - n + 1)).length then (cdL p n (b - n + 1)).getD ((cdL p n (b - n + 1)).length - w).toNat 0 else -1
  | 0, b, w, h => by rw [if_neg (by simp [cdL]; omega)]; rfl
  | n + 1, b, w, h => by
    have h2 : chB p (n + 1) b w = if p b then (if w = 1 then b else chB p n (b - 1) (w - 1)) else chB p n (b - 1) w := rfl
    have e := cdL_app (p := p) n (b - ((n + 1 : Nat) : Int) + 1)
    rw [show b - ((n + 1 : Nat) : Int) + 1 + (n : Int) = b by omega] at e
    have ea : b - 1 - (n : Int) + 1 = b - ((n + 1 : Nat) : Int) + 1 := by omega
    obtain ⟨L, hL⟩ : ∃ L, L = cdL p n (b - ((n + 1 : Nat) : Int) + 1) := ⟨_, rfl⟩
    rw [h2, e]
    by_cases g : p b
    · rw [if_pos g, if_pos g, ← hL]
      by_cases hw : w = 1
      · rw [if_pos hw, if_pos (by simp; omega), hw]
        rw [List.getD_eq_getElem?_getD, List.getElem?_append_right (by simp)]
        simp
      · rw [if_neg hw, chB_cdL n (b - 1) (w - 1) (by omega), ea, ← hL]
        by_cases q : w - 1 ≤ (L.length : Int)
        · rw [if_pos q, if_pos (by simp; omega)]
          rw [List.getD_eq_getElem?_getD, List.getD_eq_getElem?_getD, List.getElem?_append_left (by simp; omega)]
          congr 2
          simp; omega
        · rw [if_neg q, if_neg (by simp; omega)]
    · rw [if_neg g, if_neg g, List.append_nil, chB_cdL n (b - 1) w h, ea]
theorem tkA_cdL {Sd : Nat → Int} {Up : Nat → Nat → Int} {Ex : Nat → Int} : ∀ (n : Nat) (a : Int) (st : Int × List Int), tkA Sd Up Ex n a st = (cdL (ctS Sd Up) n a).foldl (tkD Sd Ex) st
  | 0, _, _ => rfl
  | n + 1, a, st => by
    have h1 : cdL (ctS Sd Up) (n + 1) a = if ctS Sd Up a then a :: cdL (ctS Sd Up) n (a + 1) else cdL (ctS Sd Up) n (a + 1) := rfl
    have h2 : tkA Sd Up Ex (n + 1) a st = tkA Sd Up Ex n (a + 1) (if ctS Sd Up a then tkD Sd Ex st a else st) := rfl
    rw [h1, h2, tkA_cdL n (a + 1)]
    by_cases g : ctS Sd Up a
    · rw [if_pos g, if_pos g]; rfl
    · rw [if_neg g, if_neg g]
theorem tkD_full {Sd Ex : Nat → Int} {st : Int × List Int} (h : Sd 6 ≠ 0 ∧ Sd 6 ≤ st.1) (d : Int) : tkD Sd Ex st d = st := by
  unfold tkD; rw [if_pos (Or.inr (Or.inr h))]
theorem fold_full {Sd Ex : Nat → Int} {st : Int × List Int} (h : Sd 6 ≠ 0 ∧ Sd 6 ≤ st.1) : ∀ l : List Int, l.foldl (tkD Sd Ex) st = st
  | [] => rfl
  | d :: l => by rw [List.foldl_cons, tkD_full h, fold_full h l]
theorem tkS_full {Sd : Nat → Int} {Up : Nat → Nat → Int} {Ex : Nat → Int} {st : Int × List Int} (h : Sd 6 ≠ 0 ∧ Sd 6 ≤ st.1) (a b : Int) : tkS Sd Up Ex a b st = st := by
  unfold tkS
  split
  · exact tkD_full h _
  · rw [tkA_cdL, fold_full h]
theorem spS_full {Sd : Nat → Int} {Up : Nat → Nat → Int} {Ex : Nat → Int} {st : Int × List Int} (h : Sd 6 ≠ 0 ∧ Sd 6 ≤ st.1) : ∀ (q : Nat) (n : Int), spS Sd Up Ex q n st = st
  | 0, _ => rfl
  | q + 1, n => by
    have h2 : spS Sd Up Ex (q + 1) n st = if Sd 7 < spB Sd (n * Sd 3) then st else spS Sd Up Ex q (n + 1) (tkS Sd Up Ex (spB Sd (n * Sd 3)) (min (spB Sd (n * Sd 3 + 1) - 1) 73048) st) := rfl
    rw [h2]
    split
    · rfl
    · rw [tkS_full h, spS_full h q (n + 1)]
/-- which of the counted days are taken -/
def fiR (Sd : Nat → Int) (many : Int) : Int := if Sd 5 = 0 then 0 else if 0 < Sd 5 then Sd 5 - 1 else many + Sd 5
def enR (Sd : Nat → Int) (many : Int) : Int := if Sd 5 = 0 then many else fiR Sd many + 1
theorem tkS_ref {Sd : Nat → Int} {Up : Nat → Nat → Int} {Ex : Nat → Int} {a b : Int} {st : Int × List Int} (hS : okS Sd) (hab : a ≤ b + 1) {L : List Int} (hL : L = cdL (ctS Sd Up) (b - a + 1).toNat a) : tkS Sd Up Ex a b st = if fiR Sd L.length < 0 ∨ (L.length : Int) < enR Sd L.length then st else ((L.take (enR Sd L.length).toNat).drop (fiR Sd L.length).toNat).foldl (tkD Sd Ex) st := by
  have hb : 0 ≤ bdS Sd := by omega
  have hneg : ∀ st : Int × List Int, tkD Sd Ex st (-1) = st := fun st => by unfold tkD; rw [if_pos (Or.inl (by omega))]
  have one : ∀ k : Nat, k < L.length → ((L.take (k + 1)).drop k) = [L.getD k 0] := fun k hk => by
    rw [List.drop_take, show k + 1 - k = 1 by omega, List.drop_eq_getElem_cons hk, List.getD_eq_getElem?_getD, List.getElem?_eq_getElem hk]; rfl
  unfold tkS
  by_cases h5 : Sd 5 = 0
  · rw [if_neg (fun g => g h5), tkA_cdL, ← hL]
    have e1 : fiR Sd L.length = 0 := by unfold fiR; rw [if_pos h5]
    have e2 : enR Sd L.length = L.length := by unfold enR; rw [if_pos h5]
    rw [e1, e2, if_neg (by omega), Int.toNat_natCast, List.take_length]; rfl
  · rw [if_pos h5]
    unfold chS
    by_cases hp : 0 < Sd 5
    · rw [if_pos hp, chF_cdL _ _ _ (by omega), ← hL]
      have e1 : fiR Sd L.length = Sd 5 - 1 := by unfold fiR; rw [if_neg h5, if_pos hp]
      have e2 : enR Sd L.length = Sd 5 := by unfold enR; rw [if_neg h5, e1]; omega
      rw [e1, e2]
      by_cases q : Sd 5 ≤ L.length
      · rw [if_pos q, if_neg (by omega), show (Sd 5).toNat = (Sd 5 - 1).toNat + 1 by omega, one _ (by omega)]; rfl
      · rw [if_neg q, if_pos (by omega), hneg]
    · rw [if_neg hp, chB_cdL _ _ _ (by omega), show b - (((b - a + 1).toNat : Nat) : Int) + 1 = a by omega, ← hL]
      have e1 : fiR Sd L.length = L.length + Sd 5 := by unfold fiR; rw [if_neg h5, if_neg hp]
      have e2 : enR Sd L.length = L.length + Sd 5 + 1 := by unfold enR; rw [if_neg h5, e1]
      rw [e1, e2]
      by_cases q : -Sd 5 ≤ L.length
      · rw [if_pos q, if_neg (by omega), show ((L.length : Int) - -Sd 5).toNat = ((L.length : Int) + Sd 5).toNat by omega, show ((L.length : Int) + Sd 5 + 1).toNat = ((L.length : Int) + Sd 5).toNat + 1 by omega, one _ (by omega)]; rfl
      · rw [if_neg q, if_pos (by omega), hneg]
theorem spB_end {Sd : Nat → Int} (h : okS Sd) {i : Int} (hi : 4001 ≤ i) : Sd 7 < spB Sd i := by
  have r := mi_rng (d := bdS Sd) (by omega) (by omega)
  have r2 := yr_rng (d := bdS Sd) (by omega) (by omega)
  unfold spB
  split
  · omega
  · split
    · omega
    · split
      · rw [mB_big (by omega)]; omega
      · rw [mB_big (by omega)]; omega
