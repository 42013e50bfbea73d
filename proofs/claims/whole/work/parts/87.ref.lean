-- ===== taking days one by one =====
theorem tkD_le {Sd Ex : Nat → Int} (st : Int × List Int) (d : Int) : st.1 ≤ (tkD Sd Ex st d).1 ∧ st.2.length ≤ (tkD Sd Ex st d).2.length := by
  unfold tkD
  split
  · exact ⟨Int.le_refl _, Nat.le_refl _⟩
  · refine ⟨by show st.1 ≤ st.1 + 1; omega, ?_⟩
    show st.2.length ≤ (if exB Ex d (Sd 10).toNat then st.2 else st.2 ++ [d]).length
    split
    · exact Nat.le_refl _
    · simp
theorem fold_le {Sd Ex : Nat → Int} : ∀ (l : List Int) (st : Int × List Int), st.1 ≤ (l.foldl (tkD Sd Ex) st).1 ∧ st.2.length ≤ (l.foldl (tkD Sd Ex) st).2.length
  | [], st => ⟨Int.le_refl _, Nat.le_refl _⟩
  | d :: l, st => by
    have h1 := tkD_le (Sd := Sd) (Ex := Ex) st d
    have h2 := fold_le (Sd := Sd) (Ex := Ex) l (tkD Sd Ex st d)
    rw [List.foldl_cons]
    exact ⟨Int.le_trans h1.1 h2.1, Nat.le_trans h1.2 h2.2⟩
theorem drop_s {L : List Int} {en k : Nat} (h : k < en) (he : en ≤ L.length) : (L.take en).drop k = L.getD k 0 :: (L.take en).drop (k + 1) := by
  have hl : k < (L.take en).length := by rw [List.length_take]; omega
  rw [List.drop_eq_getElem_cons hl, List.getElem_take, List.getD_eq_getElem?_getD, List.getElem?_eq_getElem (by omega)]; rfl
theorem drop_e {L : List Int} {en k : Nat} (h : en ≤ k) : (L.take en).drop k = [] := by
  apply List.drop_eq_nil_of_le
  rw [List.length_take]; omega
theorem getD_mem {L : List Int} {k : Nat} (h : k < L.length) : L.getD k 0 ∈ L := by
  rw [List.getD_eq_getElem?_getD, List.getElem?_eq_getElem h]
  exact List.getElem_mem h
theorem cdL_get {p : Int → Bool} {n : Nat} {a : Int} {k : Nat} (h : k < (cdL p n a).length) : a ≤ (cdL p n a).getD k 0 ∧ (cdL p n a).getD k 0 < a + n := cdL_mem n a (getD_mem h)
theorem spS_end {Sd : Nat → Int} (h : okS Sd) {nn : Int} (hn : 0 ≤ nn ∧ nn ≤ 4001) (hl : spB Sd (nn * Sd 3) ≤ Sd 7) : nn ≤ 4000 := by
  have h9 := (mul_rng hn h.2.2.1).1
  by_cases g : nn ≤ 4000
  · exact g
  · have := spB_end h (i := nn * Sd 3) (by omega)
    omega
theorem put_get {l : List Int} {F G : Nat → Int} {z d : Int} (hz : z = (l.length : Int)) (hf : ∀ j, j < l.length → F j = l.getD j 0) (hs : G z.toNat = d) (ho : ∀ j, j ≠ z.toNat → G j = F j) : ∀ j, j < (l ++ [d]).length → G j = (l ++ [d]).getD j 0 := by
  intro j hj
  rw [List.length_append, List.length_singleton] at hj
  by_cases g : j = l.length
  · rw [g, getD_snoc_r, ← hs, hz, Int.toNat_natCast]
  · rw [getD_snoc_l (by omega), ho j (by omega), hf j (by omega)]
