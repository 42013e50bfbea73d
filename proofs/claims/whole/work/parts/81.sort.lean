set_option maxHeartbeats 4000000 in
set_option maxRecDepth 100000 in
theorem c_X10_heapSort (l : Launch) (Γ : zG) (K : zK) (X : zX) (Rf : zR) (a : Nat) (lo : Int) (hi : Int) (n : Nat) (hka : K a = (2, n)) (hn : n ≤ 20000) (h1 : 0 ≤ lo ∧ lo < hi ∧ hi ≤ n) (hF : ∀ j : Nat, lo ≤ j → (j : Int) < hi → fit (X a j)) : Ct l yX10_heapSort cX10_heapSort 4 none 1 0 0 Γ [.ref a, .int (iI lo), .int (iI hi)] K X Rf (pV (zpv K Rf (fun X' : zX => (∀ b, b ≠ a → X' b = X b) ∧ Swp lo hi (X a) (X' a) ∧ srtR lo hi (X' a)))) := by
  refine Ct.ofF (by decide +kernel) (Nat.le_of_ble_eq_true rfl) ?_
  intro p e s m below meth c ls hx hb hr hml hown hG hlocks hname hw hl
  have hl : lv_has ls 4 [(0, .ref a), (1, .int (iI lo)), (2, .int (iI hi))] := hl
  refine lv_iload_n (pc := 0) hx hb dX10_heapSort_0 rfl (lv_at hl 1 rfl) ?_
  refine lv_iload_n (pc := 1) hx hb dX10_heapSort_1 rfl (lv_at hl 2 rfl) ?_
  refine zadd (pc := 2) hx hb dX10_heapSort_2 ?_
  refine ziconst (pc := 3) (n := 1) hx hb dX10_heapSort_3 ?_
  refine zushr (pc := 4) hx hb (by omega) dX10_heapSort_4 ?_
  rw [show (2 : Int) ^ (1 : Int).toNat = 2 by decide]
  refine ztop (fun x5 ex5 => ?_)
  refine lv_istore_n (pc := 5) (lv' := [(3, .int (iI x5)), (0, .ref a), (1, .int (iI lo)), (2, .int (iI hi))]) hx hb dX10_heapSort_5 rfl hl (by decide) rfl (fun ls hl => ?_)
  have lp6 : ∀ (n6 : Nat) (kk : Int) (XL6 : zX) (H : Heap) (locs : List Loc), (hk9 : lo ≤ kk ∧ kk ≤ (lo + hi) / 2) → (ho : ∀ b, b ≠ a → XL6 b = X b) → (hs : Swp lo hi (X a) (XL6 a)) → (hh : ∀ u c : Nat, kk ≤ u → ((c : Int) = 2 * u - lo + 1 ∨ (c : Int) = 2 * u - lo + 2) → (c : Int) < hi → XL6 a c ≤ XL6 a u) → ((kk + 1).toNat < n6) → Wd Γ (zA K s.heap.size) K XL6 Rf s H locs → ∀ ls : Array Slot, lv_has ls 4 [(3, .int (iI kk)), (0, .ref a), (1, .int (iI lo)), (2, .int (iI hi))] → W p l e (rmL 1 0 0) s m ([.ref a, .int (iI lo), .int (iI hi)] : List Value).toArray below meth c H locs 0 0 (MQ below (zQ Γ K s.heap.size (pV (zpv K Rf (fun X' : zX => (∀ b, b ≠ a → X' b = X b) ∧ Swp lo hi (X a) (X' a) ∧ srtR lo hi (X' a))))) ([.ref a, .int (iI lo), .int (iI hi)] : List Value).toArray s 0 0 (zA K s.heap.size)) (F0 m 6 ls []) := by
    intro n6
    induction n6 with
    | zero => intro kk XL6 H locs hk9 ho hs hh hm6; exact absurd hm6 (Nat.not_lt_zero _)
    | succ n6 ih6 =>
      intro kk XL6 H locs hk9 ho hs hh hm6 hw ls hl
      have hfv : ∀ j : Nat, lo ≤ j → (j : Int) < hi → fit (XL6 a j) := fun j g1 g2 => by obtain ⟨m, m1, m2, m3⟩ := hs.vals j g1 g2; rw [m3]; exact hF m m1 m2
      refine lv_iload_n (pc := 6) hx hb dX10_heapSort_6 rfl (lv_at hl 0 rfl) ?_
      refine lv_iload_n (pc := 7) hx hb dX10_heapSort_7 rfl (lv_at hl 2 rfl) ?_
      refine zicmp_le (pc := 8) hx hb 27 (by omega) (by omega) dX10_heapSort_8 (by decide) (fun c8 => ?_) (fun c8 => ?_)
      · skip
        have lp27 : ∀ (n27 : Nat) (he : Int) (XL27 : zX) (H : Heap) (locs : List Loc), (hl9 : lo < he ∧ he ≤ hi) → (ho : ∀ b, b ≠ a → XL27 b = X b) → (hs : Swp lo hi (X a) (XL27 a)) → (hh2 : ∀ u c : Nat, lo ≤ u → ((c : Int) = 2 * u - lo + 1 ∨ (c : Int) = 2 * u - lo + 2) → (c : Int) < he → XL27 a c ≤ XL27 a u) → (ht9 : srtR he hi (XL27 a)) → (hm9 : ∀ i j : Nat, lo ≤ i → (i : Int) < he → he ≤ j → (j : Int) < hi → XL27 a i ≤ XL27 a j) → (he.toNat < n27) → Wd Γ (zA K s.heap.size) K XL27 Rf s H locs → ∀ ls : Array Slot, lv_has ls 4 [(0, .ref a), (1, .int (iI lo)), (2, .int (iI he))] → W p l e (rmL 1 0 0) s m ([.ref a, .int (iI lo), .int (iI hi)] : List Value).toArray below meth c H locs 0 0 (MQ below (zQ Γ K s.heap.size (pV (zpv K Rf (fun X' : zX => (∀ b, b ≠ a → X' b = X b) ∧ Swp lo hi (X a) (X' a) ∧ srtR lo hi (X' a))))) ([.ref a, .int (iI lo), .int (iI hi)] : List Value).toArray s 0 0 (zA K s.heap.size)) (F0 m 27 ls []) := by
          intro n27
          induction n27 with
          | zero => intro he XL27 H locs hl9 ho hs hh2 ht9 hm9 hm27; exact absurd hm27 (Nat.not_lt_zero _)
          | succ n27 ih27 =>
            intro he XL27 H locs hl9 ho hs hh2 ht9 hm9 hm27 hw ls hl
            have hfv : ∀ j : Nat, lo ≤ j → (j : Int) < hi → fit (XL27 a j) := fun j g1 g2 => by obtain ⟨m, m1, m2, m3⟩ := hs.vals j g1 g2; rw [m3]; exact hF m m1 m2
            refine ziinc (pc := 27) (lv' := [(2, .int (iI (he + (-1)))), (0, .ref a), (1, .int (iI lo))]) hx hb 2 dX10_heapSort_27 hl rfl (by decide) rfl (fun ls hl => ?_)
            obtain ⟨x27, ex27⟩ : ∃ zz : Int, zz = (he + (-1)) := ⟨_, rfl⟩
            rw [← ex27] at hl
            refine lv_iload_n (pc := 30) hx hb dX10_heapSort_30 rfl (lv_at hl 0 rfl) ?_
            refine lv_iload_n (pc := 31) hx hb dX10_heapSort_31 rfl (lv_at hl 2 rfl) ?_
            refine zicmp_le (pc := 32) hx hb 56 (by omega) (by omega) dX10_heapSort_32 (by decide) (fun c32 => ?_) (fun c32 => ?_)
            · skip
              exact zretV (pc := 56) hx hb hlocks hr hw (Nat.zero_le _) (Nat.zero_le _) dX10_heapSort_56 ⟨by (try dsimp only) <;> (refine ⟨ho, hs, fun i j g1 g2 g3 => ?_⟩; by_cases gi : he ≤ i; exact ht9 i j gi g2 g3; (by_cases gj : (j : Int) = lo; (rw [show i = j by omega]; exact Int.le_refl _); exact hm9 i j g1 (by omega) (by omega) g3)), rfl, rfl⟩
            · skip
              refine lv_aload_n (pc := 35) hx hb dX10_heapSort_35 rfl (lv_at hl 1 rfl) ?_
              refine lv_iload_n (pc := 36) hx hb dX10_heapSort_36 rfl (lv_at hl 2 rfl) ?_
              refine zald (pc := 37) hx hb hw hka ⟨by omega, by omega⟩ (by omega) dX10_heapSort_37 ?_
              refine ztop (fun x38 ex38 => ?_)
              refine lv_istore_n (pc := 38) (lv' := [(3, .int (iI x38)), (2, .int (iI x27)), (0, .ref a), (1, .int (iI lo))]) hx hb dX10_heapSort_38 rfl hl (by decide) rfl (fun ls hl => ?_)
              refine lv_aload_n (pc := 39) hx hb dX10_heapSort_39 rfl (lv_at hl 2 rfl) ?_
              refine lv_iload_n (pc := 40) hx hb dX10_heapSort_40 rfl (lv_at hl 3 rfl) ?_
              refine lv_aload_n (pc := 41) hx hb dX10_heapSort_41 rfl (lv_at hl 2 rfl) ?_
              refine lv_iload_n (pc := 42) hx hb dX10_heapSort_42 rfl (lv_at hl 1 rfl) ?_
              refine zald (pc := 43) hx hb hw hka ⟨by omega, by omega⟩ (by omega) dX10_heapSort_43 ?_
              refine lv_iload_n (pc := 44) hx hb dX10_heapSort_44 rfl (lv_at hl 3 rfl) ?_
              refine lv_iload_n (pc := 45) hx hb dX10_heapSort_45 rfl (lv_at hl 1 rfl) ?_
              have hvv := hfv x27.toNat (by omega) (by omega)
              refine zkVx (pc := 46) (zrS (As := [.ref a, .int (iI lo), .int (iI (XL27 a x27.toNat)), .int (iI lo), .int (iI x27)]) hx hb hml hown hG hw (c_X10_pushDown l Γ K XL27 Rf a lo (XL27 a x27.toNat) lo x27 n (by (first | assumption | omega)) (by (first | assumption | omega)) (by (first | assumption | omega)) (by intro j g1 g2; exact hfv j g1 (by omega)) (by (first | assumption | omega)) (by intro u c g1 g2 g3; exact hh2 u c (by omega) g2 (by omega))) cb_X10_pushDown wl_X10_49 rfl ⟨Nat.le_of_ble_eq_true rfl, Nat.le_of_ble_eq_true rfl⟩ hl.1 rfl (Nat.le_of_ble_eq_true rfl) dX10_heapSort_46 ⟨Nat.zero_le _, Nat.zero_le _⟩) hw (fun X46 H locs hp46 hw => ?_)
              obtain ⟨ho46, hs46, hh46⟩ := hp46
              refine lv_aload_n (pc := 49) hx hb dX10_heapSort_49 rfl (lv_at hl 2 rfl) ?_
              refine lv_iload_n (pc := 50) hx hb dX10_heapSort_50 rfl (lv_at hl 1 rfl) ?_
              refine lv_iload_n (pc := 51) hx hb dX10_heapSort_51 rfl (lv_at hl 0 rfl) ?_
              refine zast (pc := 52) hx hb hw hka ⟨by omega, by omega⟩ (by omega) dX10_heapSort_52 (fun H locs hw => ?_)
              obtain ⟨X52, eX52⟩ : ∃ Y : zX, Y = up2 X46 a x27.toNat x38 := ⟨_, rfl⟩
              rw [← eX52] at hw
              have e52 : X52 a = updF (X46 a) x27.toNat x38 := by rw [eX52, up2_row]
              have hsn : Swp lo hi (X a) (X52 a) := by
                rw [e52]
                refine hs46.upd (by omega) (by omega) ?_
                rw [ex38]
                exact hs.step ⟨by omega, by omega⟩ ⟨by omega, by omega⟩
              refine lv_goto (pc := 53) (tgt := 27) hx hb dX10_heapSort_53 (by decide) ?_
              exact ih27 x27 X52 _ _ (by (first | assumption | omega)) (by intro b hb; rw [eX52, up2_o hb, ho46 b hb]; exact ho b hb) (by exact hsn) (by intro u c g1 g2 g3; rw [e52, updF_o (by omega), updF_o (by omega)]; exact hh46 u c g1 g2 g3) (by 
                                        intro i j g1 g2 g3
                                        rw [e52]
                                        by_cases gi : (i : Int) = x27
                                        · rw [show i = x27.toNat by omega, updF_s]
                                          by_cases gj : (j : Int) = x27
                                          · rw [show j = x27.toNat by omega, updF_s]; exact Int.le_refl _
                                          · rw [updF_o (by omega), hs46.out (Or.inr (by omega)), updF_o (by omega), ex38]; exact hm9 lo.toNat j (by omega) (by omega) (by omega) g3
                                        · rw [updF_o (by omega), updF_o (by omega), hs46.out (k := i) (Or.inr (by omega)), hs46.out (k := j) (Or.inr (by omega)), updF_o (by omega), updF_o (by omega)]; exact ht9 i j (by omega) g2 g3) (by 
                                        intro i j g1 g2 g3 g4
                                        rw [e52, updF_o (k := i) (by omega)]
                                        obtain ⟨m, m1, m2, m3⟩ := hs46.vals i g1 g2
                                        have hw : ∃ w : Nat, lo ≤ w ∧ (w : Int) < he ∧ X46 a i = XL27 a w := by
                                          by_cases gm : m = lo.toNat
                                          · exact ⟨x27.toNat, by omega, by omega, by rw [m3, gm, updF_s]⟩
                                          · exact ⟨m, m1, by omega, by rw [m3, updF_o gm]⟩
                                        obtain ⟨w, w1, w2, w3⟩ := hw
                                        rw [w3]
                                        by_cases gj : (j : Int) = x27
                                        · rw [show j = x27.toNat by omega, updF_s, ex38]; exact heap_max (by omega) hh2 (w + 1) w (by omega) w1 w2
                                        · rw [updF_o (by omega), hs46.out (Or.inr (by omega)), updF_o (by omega)]; exact hm9 w j w1 w2 (by omega) g4) (by omega) hw _ (lv_sub hl [2, 3, 1] rfl)
        exact lp27 _ hi XL6 _ _ (by (first | assumption | omega)) (by exact ho) (by exact hs) (by intro u c g1 g2 g3; exact hh u c (by omega) g2 g3) (by intro i j g1 g2 g3; omega) (by intro i j g1 g2 g3 g4; omega) (Nat.lt_succ_self _) hw _ (lv_sub hl [1, 2, 3] rfl)
      · skip
        refine lv_aload_n (pc := 11) hx hb dX10_heapSort_11 rfl (lv_at hl 1 rfl) ?_
        refine ziinc (pc := 12) (lv' := [(3, .int (iI (kk + (-1)))), (0, .ref a), (1, .int (iI lo)), (2, .int (iI hi))]) hx hb 0 dX10_heapSort_12 hl rfl (by decide) rfl (fun ls hl => ?_)
        obtain ⟨x12, ex12⟩ : ∃ zz : Int, zz = (kk + (-1)) := ⟨_, rfl⟩
        rw [← ex12] at hl
        refine lv_iload_n (pc := 15) hx hb dX10_heapSort_15 rfl (lv_at hl 0 rfl) ?_
        refine lv_aload_n (pc := 16) hx hb dX10_heapSort_16 rfl (lv_at hl 1 rfl) ?_
        refine lv_iload_n (pc := 17) hx hb dX10_heapSort_17 rfl (lv_at hl 0 rfl) ?_
        refine zald (pc := 18) hx hb hw hka ⟨by omega, by omega⟩ (by omega) dX10_heapSort_18 ?_
        refine lv_iload_n (pc := 19) hx hb dX10_heapSort_19 rfl (lv_at hl 2 rfl) ?_
        refine lv_iload_n (pc := 20) hx hb dX10_heapSort_20 rfl (lv_at hl 3 rfl) ?_
        have hvv := hfv x12.toNat (by omega) (by omega)
        refine zkVx (pc := 21) (zrS (As := [.ref a, .int (iI x12), .int (iI (XL6 a x12.toNat)), .int (iI lo), .int (iI hi)]) hx hb hml hown hG hw (c_X10_pushDown l Γ K XL6 Rf a x12 (XL6 a x12.toNat) lo hi n (by (first | assumption | omega)) (by (first | assumption | omega)) (by (first | assumption | omega)) (by (first | assumption | omega)) (by (first | assumption | omega)) (by intro u c g1 g2 g3; exact hh u c (by omega) g2 g3)) cb_X10_pushDown wl_X10_49 rfl ⟨Nat.le_of_ble_eq_true rfl, Nat.le_of_ble_eq_true rfl⟩ hl.1 rfl (Nat.le_of_ble_eq_true rfl) dX10_heapSort_21 ⟨Nat.zero_le _, Nat.zero_le _⟩) hw (fun X21 H locs hp21 hw => ?_)
        obtain ⟨ho21, hs21, hh21⟩ := hp21
        refine lv_goto (pc := 24) (tgt := 6) hx hb dX10_heapSort_24 (by decide) ?_
        exact ih6 x12 X21 _ _ (by (first | assumption | omega)) (by intro b hb; rw [ho21 b hb]; exact ho b hb) (by rw [updF_self] at hs21; exact hs.trans hs21) (by intro u c g1 g2 g3; exact hh21 u c (by omega) g2 g3) (by omega) hw _ (lv_sub hl [0, 1, 2, 3] rfl)
  exact lp6 _ x5 X _ _ (by (first | assumption | omega)) (by exact fun _ _ => rfl) (by exact .refl) (by intro u c g1 g2 g3; omega) (Nat.lt_succ_self _) hw _ (lv_sub hl [0, 1, 2, 3] rfl)
