set_option maxHeartbeats 4000000 in
set_option maxRecDepth 100000 in
theorem c_X10_insertionSort (l : Launch) (Γ : zG) (K : zK) (X : zX) (Rf : zR) (a : Nat) (lo : Int) (hi : Int) (n : Nat) (hka : K a = (2, n)) (hn : n < 2000000000) (h1 : 0 ≤ lo ∧ lo ≤ hi ∧ hi ≤ n) (hF : ∀ j : Nat, lo ≤ j → (j : Int) < hi → fit (X a j)) : Ct l yX10_insertionSort cX10_insertionSort 6 none 0 0 0 Γ [.ref a, .int (iI lo), .int (iI hi)] K X Rf (pV (zpv K Rf (fun X' : zX => (∀ b, b ≠ a → X' b = X b) ∧ Swp lo hi (X a) (X' a) ∧ srtR lo hi (X' a)))) := by
  refine Ct.ofF (by decide +kernel) (Nat.le_of_ble_eq_true rfl) ?_
  intro p e s m below meth c ls hx hb hr hml hown hG hlocks hname hw hl
  have hl : lv_has ls 6 [(0, .ref a), (1, .int (iI lo)), (2, .int (iI hi))] := hl
  refine lv_iload_n (pc := 0) hx hb dX10_insertionSort_0 rfl (lv_at hl 1 rfl) ?_
  refine lv_istore (pc := 1) (lv' := [(4, .int (iI lo)), (0, .ref a), (1, .int (iI lo)), (2, .int (iI hi))]) hx hb dX10_insertionSort_1 hl (by decide) rfl (fun ls hl => ?_)
  have lp3 : ∀ (n3 : Nat) (kk : Int) (XL3 : zX) (H : Heap) (locs : List Loc), (hi9 : lo ≤ kk ∧ (kk < hi ∨ kk = lo)) → (ho : ∀ b, b ≠ a → XL3 b = X b) → (hs : Swp lo hi (X a) (XL3 a)) → (hq : srtR lo (kk + 1) (XL3 a)) → ((hi - kk).toNat < n3) → Wd Γ (zA K s.heap.size) K XL3 Rf s H locs → ∀ ls : Array Slot, lv_has ls 6 [(4, .int (iI kk)), (0, .ref a), (1, .int (iI lo)), (2, .int (iI hi))] → W p l e (rmL 0 0 0) s m ([.ref a, .int (iI lo), .int (iI hi)] : List Value).toArray below meth c H locs 0 0 (MQ below (zQ Γ K s.heap.size (pV (zpv K Rf (fun X' : zX => (∀ b, b ≠ a → X' b = X b) ∧ Swp lo hi (X a) (X' a) ∧ srtR lo hi (X' a))))) ([.ref a, .int (iI lo), .int (iI hi)] : List Value).toArray s 0 0 (zA K s.heap.size)) (F0 m 3 ls []) := by
    intro n3
    induction n3 with
    | zero => intro kk XL3 H locs hi9 ho hs hq hm3; exact absurd hm3 (Nat.not_lt_zero _)
    | succ n3 ih3 =>
      intro kk XL3 H locs hi9 ho hs hq hm3 hw ls hl
      have hfv : ∀ j : Nat, lo ≤ j → (j : Int) < hi → fit (XL3 a j) := fun j g1 g2 => by obtain ⟨m, m1, m2, m3⟩ := hs.vals j g1 g2; rw [m3]; exact hF m m1 m2
      refine ziinc (pc := 3) (lv' := [(4, .int (iI (kk + 1))), (0, .ref a), (1, .int (iI lo)), (2, .int (iI hi))]) hx hb 0 dX10_insertionSort_3 hl rfl (by decide) rfl (fun ls hl => ?_)
      obtain ⟨x3, ex3⟩ : ∃ zz : Int, zz = (kk + 1) := ⟨_, rfl⟩
      rw [← ex3] at hl
      refine lv_iload (pc := 6) hx hb dX10_insertionSort_6 (lv_at hl 0 rfl) ?_
      refine lv_iload_n (pc := 8) hx hb dX10_insertionSort_8 rfl (lv_at hl 3 rfl) ?_
      refine zicmp_ge (pc := 9) hx hb 67 (by omega) (by omega) dX10_insertionSort_9 (by decide) (fun c9 => ?_) (fun c9 => ?_)
      · skip
        exact zretV (pc := 67) hx hb hlocks hr hw (Nat.zero_le _) (Nat.zero_le _) dX10_insertionSort_67 ⟨by (try dsimp only) <;> (exact ⟨ho, hs, fun i j g1 g2 g3 => hq i j g1 g2 (by omega)⟩), rfl, rfl⟩
      · skip
        refine lv_aload_n (pc := 12) hx hb dX10_insertionSort_12 rfl (lv_at hl 1 rfl) ?_
        refine lv_iload (pc := 13) hx hb dX10_insertionSort_13 (lv_at hl 0 rfl) ?_
        refine lv_dup (pc := 15) hx hb dX10_insertionSort_15 rfl ?_
        refine lv_istore_n (pc := 16) (lv' := [(3, .int (iI x3)), (4, .int (iI x3)), (0, .ref a), (1, .int (iI lo)), (2, .int (iI hi))]) hx hb dX10_insertionSort_16 rfl hl (by decide) rfl (fun ls hl => ?_)
        refine zald (pc := 17) hx hb hw hka ⟨by omega, by omega⟩ (by omega) dX10_insertionSort_17 ?_
        refine ztop (fun x18 ex18 => ?_)
        refine lv_istore (pc := 18) (lv' := [(5, .int (iI x18)), (3, .int (iI x3)), (4, .int (iI x3)), (0, .ref a), (1, .int (iI lo)), (2, .int (iI hi))]) hx hb dX10_insertionSort_18 hl (by decide) rfl (fun ls hl => ?_)
        have hf1 := hfv x3.toNat (by omega) (by omega)
        have hf2 := hfv (x3 - 1).toNat (by omega) (by omega)
        refine lv_iload (pc := 20) hx hb dX10_insertionSort_20 (lv_at hl 0 rfl) ?_
        refine lv_aload_n (pc := 22) hx hb dX10_insertionSort_22 rfl (lv_at hl 3 rfl) ?_
        refine lv_iload_n (pc := 23) hx hb dX10_insertionSort_23 rfl (lv_at hl 1 rfl) ?_
        refine ziconst (pc := 24) (n := 1) hx hb dX10_insertionSort_24 ?_
        refine zsub (pc := 25) hx hb dX10_insertionSort_25 ?_
        refine zald (pc := 26) hx hb hw hka ⟨by omega, by omega⟩ (by omega) dX10_insertionSort_26 ?_
        refine zicmp_ge (pc := 27) hx hb 64 (by omega) (by omega) dX10_insertionSort_27 (by decide) (fun c27 => ?_) (fun c27 => ?_)
        · skip
          refine lv_goto (pc := 64) (tgt := 3) hx hb dX10_insertionSort_64 (by decide) ?_
          exact ih3 x3 XL3 _ _ (by (first | assumption | omega)) (by first | exact ho2b | exact ho) (by first | exact hs2b | exact hs) (by first | exact hq2b | (intro i j g1 g2 g3; by_cases gj : (j : Int) = x3; (by_cases gi : i = j; (rw [gi]; exact Int.le_refl _); (refine Int.le_trans (hq i (x3 - 1).toNat g1 (by omega) (by omega)) ?_; rw [show j = x3.toNat by omega, ← ex18]; exact c27)); exact hq i j g1 g2 (by omega))) (by omega) hw _ (lv_sub hl [2, 3, 4, 5] rfl)
        · skip
          have lp30 : ∀ (n30 : Nat) (ii : Int) (XL30 : zX) (H : Heap) (locs : List Loc), (hj : lo ≤ ii ∧ ii ≤ x3) → (ho2 : ∀ b, b ≠ a → XL30 b = X b) → (hs2 : Swp lo hi (X a) (updF (XL30 a) ii.toNat x18)) → (hq2 : ∀ i j : Nat, lo ≤ i → i ≤ j → (j : Int) ≤ x3 → (i : Int) ≠ ii → (j : Int) ≠ ii → XL30 a i ≤ XL30 a j) → (hv2 : ∀ j : Nat, ii < j → (j : Int) ≤ x3 → x18 < XL30 a j) → ((ii + 1).toNat < n30) → Wd Γ (zA K s.heap.size) K XL30 Rf s H locs → ∀ ls : Array Slot, lv_has ls 6 [(5, .int (iI x18)), (3, .int (iI ii)), (4, .int (iI x3)), (0, .ref a), (1, .int (iI lo)), (2, .int (iI hi))] → W p l e (rmL 0 0 0) s m ([.ref a, .int (iI lo), .int (iI hi)] : List Value).toArray below meth c H locs 0 0 (MQ below (zQ Γ K s.heap.size (pV (zpv K Rf (fun X' : zX => (∀ b, b ≠ a → X' b = X b) ∧ Swp lo hi (X a) (X' a) ∧ srtR lo hi (X' a))))) ([.ref a, .int (iI lo), .int (iI hi)] : List Value).toArray s 0 0 (zA K s.heap.size)) (F0 m 30 ls []) := by
            intro n30
            induction n30 with
            | zero => intro ii XL30 H locs hj ho2 hs2 hq2 hv2 hm30; exact absurd hm30 (Nat.not_lt_zero _)
            | succ n30 ih30 =>
              intro ii XL30 H locs hj ho2 hs2 hq2 hv2 hm30 hw ls hl
              have hfw : ∀ j : Nat, lo ≤ j → (j : Int) < hi → (j : Int) ≠ ii → fit (XL30 a j) := fun j g1 g2 g3 => by obtain ⟨m, m1, m2, m3⟩ := hs2.vals j g1 g2; rw [updF_o (by omega)] at m3; rw [m3]; exact hF m m1 m2
              refine ziinc (pc := 30) (lv' := [(3, .int (iI (ii + (-1)))), (5, .int (iI x18)), (4, .int (iI x3)), (0, .ref a), (1, .int (iI lo)), (2, .int (iI hi))]) hx hb 1 dX10_insertionSort_30 hl rfl (by decide) rfl (fun ls hl => ?_)
              obtain ⟨x30, ex30⟩ : ∃ zz : Int, zz = (ii + (-1)) := ⟨_, rfl⟩
              rw [← ex30] at hl
              refine lv_iload_n (pc := 33) hx hb dX10_insertionSort_33 rfl (lv_at hl 0 rfl) ?_
              refine lv_iload_n (pc := 34) hx hb dX10_insertionSort_34 rfl (lv_at hl 4 rfl) ?_
              refine zicmp_lt (pc := 35) hx hb 57 (by omega) (by omega) dX10_insertionSort_35 (by decide) (fun c35 => ?_) (fun c35 => ?_)
              · skip
                have hlow : ∀ i : Nat, lo ≤ i → (i : Int) < ii → XL30 a i ≤ x18 := fun i g1 g2 => by
                  first
                  | (exfalso; omega)
                  | exact Int.le_trans (hq2 i x30.toNat g1 (by omega) (by omega) (by omega) (by omega)) (Int.not_lt.mp (by omega))
                refine lv_aload_n (pc := 57) hx hb dX10_insertionSort_57 rfl (lv_at hl 3 rfl) ?_
                refine lv_iload_n (pc := 58) hx hb dX10_insertionSort_58 rfl (lv_at hl 0 rfl) ?_
                refine ziconst (pc := 59) (n := 1) hx hb dX10_insertionSort_59 ?_
                refine zadd (pc := 60) hx hb dX10_insertionSort_60 ?_
                refine lv_iload (pc := 61) hx hb dX10_insertionSort_61 (lv_at hl 1 rfl) ?_
                refine zast (pc := 63) hx hb hw hka ⟨by omega, by omega⟩ (by omega) dX10_insertionSort_63 (fun H locs hw => ?_)
                obtain ⟨X63, eX63⟩ : ∃ Y : zX, Y = up2 XL30 a (x30 + 1).toNat x18 := ⟨_, rfl⟩
                rw [← eX63] at hw
                have ho2b : ∀ b, b ≠ a → X63 b = X b := fun b hb => by rw [eX63, up2_o hb]; exact ho2 b hb
                have e63 : X63 a = updF (XL30 a) ii.toNat x18 := by rw [eX63, up2_row, show (x30 + 1).toNat = ii.toNat by omega]
                have hs2b : Swp lo hi (X a) (X63 a) := by rw [e63]; exact hs2
                have hq2b : srtR lo (x3 + 1) (X63 a) := fun i j g1 g2 g3 => by
                  rw [e63]
                  by_cases gi : i = ii.toNat
                  · rw [gi, updF_s]
                    by_cases gj : j = ii.toNat
                    · rw [gj, updF_s]; exact Int.le_refl _
                    · rw [updF_o gj]; exact Int.le_of_lt (hv2 j (by omega) (by omega))
                  · rw [updF_o gi]
                    by_cases gj : j = ii.toNat
                    · rw [gj, updF_s]; exact hlow i g1 (by omega)
                    · rw [updF_o gj]; exact hq2 i j g1 g2 (by omega) (by omega) (by omega)
                refine lv_goto (pc := 64) (tgt := 3) hx hb dX10_insertionSort_64 (by decide) ?_
                exact ih3 x3 X63 _ _ (by (first | assumption | omega)) (by first | exact ho2b | exact ho) (by first | exact hs2b | exact hs) (by first | exact hq2b | (intro i j g1 g2 g3; by_cases gj : (j : Int) = x3; (by_cases gi : i = j; (rw [gi]; exact Int.le_refl _); (refine Int.le_trans (hq i (x3 - 1).toNat g1 (by omega) (by omega)) ?_; rw [show j = x3.toNat by omega, ← ex18]; exact c27)); exact hq i j g1 g2 (by omega))) (by omega) hw _ (lv_sub hl [2, 3, 4, 5] rfl)
              · skip
                have hf3 := hfw x30.toNat (by omega) (by omega) (by omega)
                have hf4 : fit x18 := by rw [ex18]; exact hf1
                refine lv_iload (pc := 38) hx hb dX10_insertionSort_38 (lv_at hl 1 rfl) ?_
                refine lv_aload_n (pc := 40) hx hb dX10_insertionSort_40 rfl (lv_at hl 3 rfl) ?_
                refine lv_iload_n (pc := 41) hx hb dX10_insertionSort_41 rfl (lv_at hl 0 rfl) ?_
                refine zald (pc := 42) hx hb hw hka ⟨by omega, by omega⟩ (by omega) dX10_insertionSort_42 ?_
                refine zicmp_ge (pc := 43) hx hb 57 (by omega) (by omega) dX10_insertionSort_43 (by decide) (fun c43 => ?_) (fun c43 => ?_)
                · skip
                  have hlow : ∀ i : Nat, lo ≤ i → (i : Int) < ii → XL30 a i ≤ x18 := fun i g1 g2 => by
                    first
                    | (exfalso; omega)
                    | exact Int.le_trans (hq2 i x30.toNat g1 (by omega) (by omega) (by omega) (by omega)) (Int.not_lt.mp (by omega))
                  refine lv_aload_n (pc := 57) hx hb dX10_insertionSort_57 rfl (lv_at hl 3 rfl) ?_
                  refine lv_iload_n (pc := 58) hx hb dX10_insertionSort_58 rfl (lv_at hl 0 rfl) ?_
                  refine ziconst (pc := 59) (n := 1) hx hb dX10_insertionSort_59 ?_
                  refine zadd (pc := 60) hx hb dX10_insertionSort_60 ?_
                  refine lv_iload (pc := 61) hx hb dX10_insertionSort_61 (lv_at hl 1 rfl) ?_
                  refine zast (pc := 63) hx hb hw hka ⟨by omega, by omega⟩ (by omega) dX10_insertionSort_63 (fun H locs hw => ?_)
                  obtain ⟨X63, eX63⟩ : ∃ Y : zX, Y = up2 XL30 a (x30 + 1).toNat x18 := ⟨_, rfl⟩
                  rw [← eX63] at hw
                  have ho2b : ∀ b, b ≠ a → X63 b = X b := fun b hb => by rw [eX63, up2_o hb]; exact ho2 b hb
                  have e63 : X63 a = updF (XL30 a) ii.toNat x18 := by rw [eX63, up2_row, show (x30 + 1).toNat = ii.toNat by omega]
                  have hs2b : Swp lo hi (X a) (X63 a) := by rw [e63]; exact hs2
                  have hq2b : srtR lo (x3 + 1) (X63 a) := fun i j g1 g2 g3 => by
                    rw [e63]
                    by_cases gi : i = ii.toNat
                    · rw [gi, updF_s]
                      by_cases gj : j = ii.toNat
                      · rw [gj, updF_s]; exact Int.le_refl _
                      · rw [updF_o gj]; exact Int.le_of_lt (hv2 j (by omega) (by omega))
                    · rw [updF_o gi]
                      by_cases gj : j = ii.toNat
                      · rw [gj, updF_s]; exact hlow i g1 (by omega)
                      · rw [updF_o gj]; exact hq2 i j g1 g2 (by omega) (by omega) (by omega)
                  refine lv_goto (pc := 64) (tgt := 3) hx hb dX10_insertionSort_64 (by decide) ?_
                  exact ih3 x3 X63 _ _ (by (first | assumption | omega)) (by first | exact ho2b | exact ho) (by first | exact hs2b | exact hs) (by first | exact hq2b | (intro i j g1 g2 g3; by_cases gj : (j : Int) = x3; (by_cases gi : i = j; (rw [gi]; exact Int.le_refl _); (refine Int.le_trans (hq i (x3 - 1).toNat g1 (by omega) (by omega)) ?_; rw [show j = x3.toNat by omega, ← ex18]; exact c27)); exact hq i j g1 g2 (by omega))) (by omega) hw _ (lv_sub hl [2, 3, 4, 5] rfl)
                · skip
                  refine lv_aload_n (pc := 46) hx hb dX10_insertionSort_46 rfl (lv_at hl 3 rfl) ?_
                  refine lv_iload_n (pc := 47) hx hb dX10_insertionSort_47 rfl (lv_at hl 0 rfl) ?_
                  refine ziconst (pc := 48) (n := 1) hx hb dX10_insertionSort_48 ?_
                  refine zadd (pc := 49) hx hb dX10_insertionSort_49 ?_
                  refine lv_aload_n (pc := 50) hx hb dX10_insertionSort_50 rfl (lv_at hl 3 rfl) ?_
                  refine lv_iload_n (pc := 51) hx hb dX10_insertionSort_51 rfl (lv_at hl 0 rfl) ?_
                  refine zald (pc := 52) hx hb hw hka ⟨by omega, by omega⟩ (by omega) dX10_insertionSort_52 ?_
                  refine zast (pc := 53) hx hb hw hka ⟨by omega, by omega⟩ (by omega) dX10_insertionSort_53 (fun H locs hw => ?_)
                  obtain ⟨X53, eX53⟩ : ∃ Y : zX, Y = up2 XL30 a (x30 + 1).toNat (XL30 a x30.toNat) := ⟨_, rfl⟩
                  rw [← eX53] at hw
                  refine lv_goto (pc := 54) (tgt := 30) hx hb dX10_insertionSort_54 (by decide) ?_
                  exact ih30 x30 X53 _ _ (by (first | assumption | omega)) (by intro b hb; rw [eX53, up2_o hb]; exact ho2 b hb) (by rw [eX53, up2_row, show (x30 + 1).toNat = ii.toNat by omega]; exact hs2.move ⟨by omega, by omega⟩ ⟨by omega, by omega⟩ (by omega)) (by 
                                        intro i j g1 g2 g3 g4 g5
                                        rw [eX53, up2_row, show (x30 + 1).toNat = ii.toNat by omega]
                                        by_cases gi : i = ii.toNat
                                        · rw [gi, updF_s]
                                          by_cases gj : j = ii.toNat
                                          · rw [gj, updF_s]; exact Int.le_refl _
                                          · rw [updF_o gj]; exact hq2 x30.toNat j (by omega) (by omega) g3 (by omega) (by omega)
                                        · rw [updF_o gi]
                                          by_cases gj : j = ii.toNat
                                          · rw [gj, updF_s]; exact hq2 i x30.toNat g1 (by omega) (by omega) (by omega) (by omega)
                                          · rw [updF_o gj]; exact hq2 i j g1 g2 g3 (by omega) (by omega)) (by 
                                        intro j g1 g2
                                        rw [eX53, up2_row, show (x30 + 1).toNat = ii.toNat by omega]
                                        by_cases gj : j = ii.toNat
                                        · rw [gj, updF_s]; exact c43
                                        · rw [updF_o gj]; exact hv2 j (by omega) g2) (by omega) hw _ (lv_sub hl [1, 0, 2, 3, 4, 5] rfl)
          exact lp30 _ x3 XL3 _ _ (by (first | assumption | omega)) (by exact ho) (by rw [ex18, updF_self]; exact hs) (by intro i j g1 g2 g3 g4 g5; exact hq i j g1 g2 (by omega)) (by intro j g1 g2; omega) (Nat.lt_succ_self _) hw _ (lv_sub hl [0, 1, 2, 3, 4, 5] rfl)
  exact lp3 _ lo X _ _ (by (first | assumption | omega)) (by exact fun _ _ => rfl) (by exact .refl) (by intro i j g1 g2 g3; rw [show i = j by omega]; exact Int.le_refl _) (Nat.lt_succ_self _) hw _ (lv_sub hl [0, 1, 2, 3] rfl)
