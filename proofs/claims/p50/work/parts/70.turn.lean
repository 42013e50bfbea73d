set_option maxHeartbeats 8000000 in
set_option maxRecDepth 100000 in
theorem c_X8_addTurn (l : Launch) (hl9 : l.stackTraces = false) (Γ : zG) (K : zK) (X : zX) (Rf : zR) (x : Nat) (a : Int) (fy : Int) (ly : Int) (b9 : Int) (mn : Int) (cl : Int) (sv : Int) (ρ : zL) (M : zM) (hC : repC ρ K X Rf x M) (hM : okM M) (h1 : fit a ∧ fit fy ∧ fit ly ∧ fit b9) (h2 : fit mn ∧ fit cl ∧ fit sv) : Cx l yX8_addTurn cX8_addTurn 11 (some .int) 8 9 60 Γ [.ref x, .int (iI a), .int (iI fy), .int (iI ly), .int (iI b9), .int (iI mn), .int (iI cl), .int (iI sv)] K X Rf (pI (fun (r : Int) (K' : zK) (X' : zX) (R' : zR) => (r = M 7 a.toNat ∧ cdAtu M a fy ly b9 mn cl sv = 0) ∧ ∃ ρ', repC ρ' K' X' R' x (tuM M a.toNat fy ly b9 mn cl sv) ∧ frC ρ K X Rf ρ' K' X' R')) (fun E : String => (E = "java/lang/IndexOutOfBoundsException" ∧ cdAtu M a fy ly b9 mn cl sv = 1) ∨ (E = "java/lang/IllegalArgumentException" ∧ cdAtu M a fy ly b9 mn cl sv = 2) ∨ (E = "java/lang/IllegalStateException" ∧ cdAtu M a fy ly b9 mn cl sv = 3)) := by
  refine Cx.of (by decide +kernel) (Nat.le_of_ble_eq_true rfl) ?_
  intro p e s m below meth c ls hx hb hr hml hown hG hlocks hname ht hX hw hl
  have hl : lv_has ls 11 [(0, .ref x), (1, .int (iI a)), (2, .int (iI fy)), (3, .int (iI ly)), (4, .int (iI b9)), (5, .int (iI mn)), (6, .int (iI cl)), (7, .int (iI sv))] := hl
  obtain ⟨⟨hk, hlx⟩, pr, pl, sr, dr, na, wo, ⟨hr0, hr2, hr4, hr6, hr7, hrd⟩, ⟨hkpr, hkpl, hksr, hkdr, hkna⟩, ⟨hlpr, hlpl, hlsr, hldr, hlna⟩, ⟨hx1, hx3, hx5⟩, hpt, hpl, hse, hwo⟩ := id hC
  obtain ⟨⟨hb1, hb2, hb3, hb4⟩, hokP, hokL, hokS, hokW, hokF⟩ := id hM
  refine lv_aload_n (pc := 0) hx hb dX8_addTurn_0 rfl (lv_at hl 0 rfl) ?_
  refine lv_iload_n (pc := 1) hx hb dX8_addTurn_1 rfl (lv_at hl 1 rfl) ?_
  refine zxkRp (pc := 2) (zxrV (As := [.int (iI a)]) hx hb hml hown hG hX hw (c_X8_needPlace l hl9 Γ K X Rf x a pl (ρ) M (by (first | assumption | omega)) (by (first | assumption | omega)) (by (first | assumption | omega)) (by (first | assumption | omega)) (by (first | assumption | omega)) (by (first | assumption | omega))) (T := TX8) hk rfl cb_X8_needPlace wl_X8_143 rfl ⟨Nat.le_of_ble_eq_true rfl, Nat.le_of_ble_eq_true rfl⟩ hl.1 rfl (Nat.le_of_ble_eq_true rfl) dX8_addTurn_2 ⟨(by show 0 + 1 ≤ 9; omega), (by show 0 + 6 ≤ 60; omega)⟩) hw (fun E9 ce9 q9 H9 locs9 hxp9 hw9 hce9 hcv9 hcl9 => zxout (pc := 2) ht hlocks hw9 hce9 hcv9 hcl9 (by (obtain ⟨rfl, hq9⟩ := hxp9; (try dsimp only); first | exact ⟨rfl, (by (unfold cdAtu; (repeat' split) <;> omega))⟩ | exact Or.inl ⟨rfl, (by (unfold cdAtu; (repeat' split) <;> omega))⟩ | exact Or.inr ⟨rfl, (by (unfold cdAtu; (repeat' split) <;> omega))⟩ | exact Or.inr (Or.inl ⟨rfl, (by (unfold cdAtu; (repeat' split) <;> omega))⟩))) (by show 0 + 1 ≤ 9; omega) (by show 0 + 6 ≤ 60; omega)) (fun r2 H locs hp2 hw => ?_)
  obtain ⟨⟨hrp2, ⟨hkp2, hlp2⟩, tu2, to2, be2, sa2, ⟨hr12, hr32, hr42, hr52⟩, ⟨hk12, hk32, hk42, hk52⟩, ⟨hl12, hl32, hl42, hl52⟩, htu2, hn62, hct2, ⟨hbs2, hbr2⟩, hpp2⟩, hip2⟩ := hp2
  have hbs92 : -840 ≤ X r2 0 ∧ X r2 0 ≤ 840 := by omega
  have hpq2 : prep (X be2) (X sa2) (X r2 6) (savM M (a).toNat) := hpp2
  have hLa := hokL a.toNat (by omega)
  have hLb := hLa.2.1
  refine lv_astore (pc := 5) (lv' := [(8, .ref r2), (0, .ref x), (1, .int (iI a)), (2, .int (iI fy)), (3, .int (iI ly)), (4, .int (iI b9)), (5, .int (iI mn)), (6, .int (iI cl)), (7, .int (iI sv))]) hx hb dX8_addTurn_5 hl (by decide) rfl (fun ls hl => ?_)
  refine lv_aload_n (pc := 7) hx hb dX8_addTurn_7 rfl (lv_at hl 1 rfl) ?_
  refine lv_iload (pc := 8) hx hb dX8_addTurn_8 (lv_at hl 5 rfl) ?_
  refine zxkRp (pc := 10) (zxrV (As := [.int (iI b9)]) hx hb hml hown hG hX hw (c_X8_needPattern l hl9 Γ K X Rf x b9 pr M (by (first | assumption | omega)) (by (first | assumption | omega)) (by (first | assumption | omega)) (by (first | assumption | omega)) (by (first | assumption | omega)) (by (first | assumption | omega))) (T := TX8) hk rfl cb_X8_needPattern wl_X8_125 rfl ⟨Nat.le_of_ble_eq_true rfl, Nat.le_of_ble_eq_true rfl⟩ hl.1 rfl (Nat.le_of_ble_eq_true rfl) dX8_addTurn_10 ⟨(by show 0 + 1 + 1 ≤ 9; omega), (by show 0 + 6 + 6 ≤ 60; omega)⟩) hw (fun E9 ce9 q9 H9 locs9 hxp9 hw9 hce9 hcv9 hcl9 => zxout (pc := 10) ht hlocks hw9 hce9 hcv9 hcl9 (by (obtain ⟨rfl, hq9⟩ := hxp9; (try dsimp only); first | exact ⟨rfl, (by (unfold cdAtu; (repeat' split) <;> omega))⟩ | exact Or.inl ⟨rfl, (by (unfold cdAtu; (repeat' split) <;> omega))⟩ | exact Or.inr ⟨rfl, (by (unfold cdAtu; (repeat' split) <;> omega))⟩ | exact Or.inr (Or.inl ⟨rfl, (by (unfold cdAtu; (repeat' split) <;> omega))⟩))) (by show 0 + 1 + 1 ≤ 9; omega) (by show 0 + 6 + 6 ≤ 60; omega)) (fun r10 H locs hp10 hw => ?_)
  obtain ⟨⟨hra10, hka10, hsa10⟩, hia10⟩ := hp10
  have hoa10 := okP_same hsa10 (hokP b9.toNat (by omega))
  have hsp0 : X r10 0 = patM M b9.toNat 0 := hsa10.1
  have hsp1 : X r10 1 = patM M b9.toNat 1 := hsa10.2.1
  refine lv_astore (pc := 13) (lv' := [(9, .ref r10), (8, .ref r2), (0, .ref x), (1, .int (iI a)), (2, .int (iI fy)), (3, .int (iI ly)), (4, .int (iI b9)), (5, .int (iI mn)), (6, .int (iI cl)), (7, .int (iI sv))]) hx hb dX8_addTurn_13 hl (by decide) rfl (fun ls hl => ?_)
  refine lv_iload_n (pc := 15) hx hb dX8_addTurn_15 rfl (lv_at hl 4 rfl) ?_
  refine lv_iload_n (pc := 16) hx hb dX8_addTurn_16 rfl (lv_at hl 5 rfl) ?_
  refine zxkVp (pc := 17) (zxrS (As := [.int (iI fy), .int (iI ly)]) hx hb hml hown hG hX hw (c_X8_needYears l hl9 Γ K X Rf fy ly  (by (first | assumption | omega))) cb_X8_needYears wl_X8_147 rfl ⟨Nat.le_of_ble_eq_true rfl, Nat.le_of_ble_eq_true rfl⟩ hl.1 rfl (Nat.le_of_ble_eq_true rfl) dX8_addTurn_17 ⟨(by show 0 + 1 + 1 + 2 ≤ 9; omega), (by show 0 + 6 + 6 + 12 ≤ 60; omega)⟩) hw (fun E9 ce9 q9 H9 locs9 hxp9 hw9 hce9 hcv9 hcl9 => zxout (pc := 17) ht hlocks hw9 hce9 hcv9 hcl9 (by (obtain ⟨rfl, hq9⟩ := hxp9; (try dsimp only); first | exact ⟨rfl, (by (unfold cdAtu; (repeat' split) <;> omega))⟩ | exact Or.inl ⟨rfl, (by (unfold cdAtu; (repeat' split) <;> omega))⟩ | exact Or.inr ⟨rfl, (by (unfold cdAtu; (repeat' split) <;> omega))⟩ | exact Or.inr (Or.inl ⟨rfl, (by (unfold cdAtu; (repeat' split) <;> omega))⟩))) (by show 0 + 1 + 1 + 2 ≤ 9; omega) (by show 0 + 6 + 6 + 12 ≤ 60; omega)) (fun H locs hp17 hw => ?_)
  refine lv_iload (pc := 20) hx hb dX8_addTurn_20 (lv_at hl 7 rfl) ?_
  refine zif_lt (pc := 22) hx hb 57 (by omega) dX8_addTurn_22 (by decide) (fun c22 => ?_) (fun c22 => ?_)
  · skip
    exact zthrow (pc := 57) hx hb hl9 hown hG hX hw wn_X8_56 wi_javalangIllegalArgumentException (List.mem_of_getElem? (i := 6) rfl) zthr_60 (hl.1.trans hml.symm) ht dX8_addTurn_57 dX8_addTurn_60 dX8_addTurn_61 dX8_addTurn_63 dX8_addTurn_66 (by show 6 ≤ _; exact Nat.le_of_ble_eq_true rfl) (Nat.le_of_ble_eq_true rfl) (by show 0 + 1 + 1 + 2 + 1 ≤ 9; omega) (by show 0 + 6 + 6 + 12 + 6 ≤ 60; omega) hlocks (by (try dsimp only); first | exact ⟨rfl, (by (unfold cdAtu; (repeat' split) <;> omega))⟩ | exact Or.inl ⟨rfl, (by (unfold cdAtu; (repeat' split) <;> omega))⟩ | exact Or.inr ⟨rfl, (by (unfold cdAtu; (repeat' split) <;> omega))⟩ | exact Or.inr (Or.inl ⟨rfl, (by (unfold cdAtu; (repeat' split) <;> omega))⟩) | exact Or.inr (Or.inr ⟨rfl, (by (unfold cdAtu; (repeat' split) <;> omega))⟩)) (by show 0 + 1 + 1 + 2 + 1 ≤ 9; omega) (by show 0 + 6 + 6 + 12 + 6 ≤ 60; omega)
  · skip
    refine lv_iload (pc := 25) hx hb dX8_addTurn_25 (lv_at hl 7 rfl) ?_
    refine zsipush (pc := 27) (n := 1440) hx hb dX8_addTurn_27 rfl ?_
    refine zicmp_ge (pc := 30) hx hb 57 (by omega) (by omega) dX8_addTurn_30 (by decide) (fun c30 => ?_) (fun c30 => ?_)
    · skip
      exact zthrow (pc := 57) hx hb hl9 hown hG hX hw wn_X8_56 wi_javalangIllegalArgumentException (List.mem_of_getElem? (i := 6) rfl) zthr_60 (hl.1.trans hml.symm) ht dX8_addTurn_57 dX8_addTurn_60 dX8_addTurn_61 dX8_addTurn_63 dX8_addTurn_66 (by show 6 ≤ _; exact Nat.le_of_ble_eq_true rfl) (Nat.le_of_ble_eq_true rfl) (by show 0 + 1 + 1 + 2 + 1 ≤ 9; omega) (by show 0 + 6 + 6 + 12 + 6 ≤ 60; omega) hlocks (by (try dsimp only); first | exact ⟨rfl, (by (unfold cdAtu; (repeat' split) <;> omega))⟩ | exact Or.inl ⟨rfl, (by (unfold cdAtu; (repeat' split) <;> omega))⟩ | exact Or.inr ⟨rfl, (by (unfold cdAtu; (repeat' split) <;> omega))⟩ | exact Or.inr (Or.inl ⟨rfl, (by (unfold cdAtu; (repeat' split) <;> omega))⟩) | exact Or.inr (Or.inr ⟨rfl, (by (unfold cdAtu; (repeat' split) <;> omega))⟩)) (by show 0 + 1 + 1 + 2 + 1 ≤ 9; omega) (by show 0 + 6 + 6 + 12 + 6 ≤ 60; omega)
    · skip
      refine lv_iload (pc := 33) hx hb dX8_addTurn_33 (lv_at hl 8 rfl) ?_
      refine zif_lt (pc := 35) hx hb 57 (by omega) dX8_addTurn_35 (by decide) (fun c35 => ?_) (fun c35 => ?_)
      · skip
        exact zthrow (pc := 57) hx hb hl9 hown hG hX hw wn_X8_56 wi_javalangIllegalArgumentException (List.mem_of_getElem? (i := 6) rfl) zthr_60 (hl.1.trans hml.symm) ht dX8_addTurn_57 dX8_addTurn_60 dX8_addTurn_61 dX8_addTurn_63 dX8_addTurn_66 (by show 6 ≤ _; exact Nat.le_of_ble_eq_true rfl) (Nat.le_of_ble_eq_true rfl) (by show 0 + 1 + 1 + 2 + 1 ≤ 9; omega) (by show 0 + 6 + 6 + 12 + 6 ≤ 60; omega) hlocks (by (try dsimp only); first | exact ⟨rfl, (by (unfold cdAtu; (repeat' split) <;> omega))⟩ | exact Or.inl ⟨rfl, (by (unfold cdAtu; (repeat' split) <;> omega))⟩ | exact Or.inr ⟨rfl, (by (unfold cdAtu; (repeat' split) <;> omega))⟩ | exact Or.inr (Or.inl ⟨rfl, (by (unfold cdAtu; (repeat' split) <;> omega))⟩) | exact Or.inr (Or.inr ⟨rfl, (by (unfold cdAtu; (repeat' split) <;> omega))⟩)) (by show 0 + 1 + 1 + 2 + 1 ≤ 9; omega) (by show 0 + 6 + 6 + 12 + 6 ≤ 60; omega)
      · skip
        refine lv_iload (pc := 38) hx hb dX8_addTurn_38 (lv_at hl 8 rfl) ?_
        refine ziconst (pc := 40) (n := 2) hx hb dX8_addTurn_40 ?_
        refine zicmp_gt (pc := 41) hx hb 57 (by omega) (by omega) dX8_addTurn_41 (by decide) (fun c41 => ?_) (fun c41 => ?_)
        · skip
          exact zthrow (pc := 57) hx hb hl9 hown hG hX hw wn_X8_56 wi_javalangIllegalArgumentException (List.mem_of_getElem? (i := 6) rfl) zthr_60 (hl.1.trans hml.symm) ht dX8_addTurn_57 dX8_addTurn_60 dX8_addTurn_61 dX8_addTurn_63 dX8_addTurn_66 (by show 6 ≤ _; exact Nat.le_of_ble_eq_true rfl) (Nat.le_of_ble_eq_true rfl) (by show 0 + 1 + 1 + 2 + 1 ≤ 9; omega) (by show 0 + 6 + 6 + 12 + 6 ≤ 60; omega) hlocks (by (try dsimp only); first | exact ⟨rfl, (by (unfold cdAtu; (repeat' split) <;> omega))⟩ | exact Or.inl ⟨rfl, (by (unfold cdAtu; (repeat' split) <;> omega))⟩ | exact Or.inr ⟨rfl, (by (unfold cdAtu; (repeat' split) <;> omega))⟩ | exact Or.inr (Or.inl ⟨rfl, (by (unfold cdAtu; (repeat' split) <;> omega))⟩) | exact Or.inr (Or.inr ⟨rfl, (by (unfold cdAtu; (repeat' split) <;> omega))⟩)) (by show 0 + 1 + 1 + 2 + 1 ≤ 9; omega) (by show 0 + 6 + 6 + 12 + 6 ≤ 60; omega)
        · skip
          refine lv_iload (pc := 44) hx hb dX8_addTurn_44 (lv_at hl 9 rfl) ?_
          refine zif_lt (pc := 46) hx hb 57 (by omega) dX8_addTurn_46 (by decide) (fun c46 => ?_) (fun c46 => ?_)
          · skip
            exact zthrow (pc := 57) hx hb hl9 hown hG hX hw wn_X8_56 wi_javalangIllegalArgumentException (List.mem_of_getElem? (i := 6) rfl) zthr_60 (hl.1.trans hml.symm) ht dX8_addTurn_57 dX8_addTurn_60 dX8_addTurn_61 dX8_addTurn_63 dX8_addTurn_66 (by show 6 ≤ _; exact Nat.le_of_ble_eq_true rfl) (Nat.le_of_ble_eq_true rfl) (by show 0 + 1 + 1 + 2 + 1 ≤ 9; omega) (by show 0 + 6 + 6 + 12 + 6 ≤ 60; omega) hlocks (by (try dsimp only); first | exact ⟨rfl, (by (unfold cdAtu; (repeat' split) <;> omega))⟩ | exact Or.inl ⟨rfl, (by (unfold cdAtu; (repeat' split) <;> omega))⟩ | exact Or.inr ⟨rfl, (by (unfold cdAtu; (repeat' split) <;> omega))⟩ | exact Or.inr (Or.inl ⟨rfl, (by (unfold cdAtu; (repeat' split) <;> omega))⟩) | exact Or.inr (Or.inr ⟨rfl, (by (unfold cdAtu; (repeat' split) <;> omega))⟩)) (by show 0 + 1 + 1 + 2 + 1 ≤ 9; omega) (by show 0 + 6 + 6 + 12 + 6 ≤ 60; omega)
          · skip
            refine lv_iload (pc := 49) hx hb dX8_addTurn_49 (lv_at hl 9 rfl) ?_
            refine zsipush (pc := 51) (n := 180) hx hb dX8_addTurn_51 rfl ?_
            refine zicmp_le (pc := 54) hx hb 67 (by omega) (by omega) dX8_addTurn_54 (by decide) (fun c54 => ?_) (fun c54 => ?_)
            · skip
              refine lv_aload (pc := 67) hx hb dX8_addTurn_67 (lv_at hl 0 rfl) ?_
              have jn95_0 : ∀  (H : Heap) (locs : List Loc), (hj : X r10 0 ≠ 0 ∨ X r10 1 = 16) → Wd Γ (zA K s.heap.size) K X Rf s H locs → ∀ ls : Array Slot, lv_has ls 11 [(9, .ref r10), (8, .ref r2), (0, .ref x), (1, .int (iI a)), (2, .int (iI fy)), (3, .int (iI ly)), (4, .int (iI b9)), (5, .int (iI mn)), (6, .int (iI cl)), (7, .int (iI sv))] → W p l e (rmL 8 9 60) s m ([.ref x, .int (iI a), .int (iI fy), .int (iI ly), .int (iI b9), .int (iI mn), .int (iI cl), .int (iI sv)] : List Value).toArray below meth c H locs (0 + 1 + 1 + 2) (0 + 6 + 6 + 12) (vx_MQ below (zQ Γ K s.heap.size (pI (fun (r : Int) (K' : zK) (X' : zX) (R' : zR) => (r = M 7 a.toNat ∧ cdAtu M a fy ly b9 mn cl sv = 0) ∧ ∃ ρ', repC ρ' K' X' R' x (tuM M a.toNat fy ly b9 mn cl sv) ∧ frC ρ K X Rf ρ' K' X' R'))) (zXC Γ K X Rf s.heap.size (fun E : String => (E = "java/lang/IndexOutOfBoundsException" ∧ cdAtu M a fy ly b9 mn cl sv = 1) ∨ (E = "java/lang/IllegalArgumentException" ∧ cdAtu M a fy ly b9 mn cl sv = 2) ∨ (E = "java/lang/IllegalStateException" ∧ cdAtu M a fy ly b9 mn cl sv = 3))) ([.ref x, .int (iI a), .int (iI fy), .int (iI ly), .int (iI b9), .int (iI mn), .int (iI cl), .int (iI sv)] : List Value).toArray s 9 60 (zA K s.heap.size)) (F0 m 95 ls []) := by
                intro H locs hj hw ls hl
                refine lv_aload (pc := 95) hx hb dX8_addTurn_95 (lv_at hl 1 rfl) ?_
                refine zkIp (pc := 97) (zrV (As := []) hx hb hml hown hG hw (c_X4_hasRoom l Γ K X Rf r2 tu2 (by (first | assumption | omega)) (by (first | assumption | omega)) (by (first | assumption | omega)) (by (first | assumption | omega))) (T := TX4) hkp2 rfl cb_X4_hasRoom wl_X8_161 rfl ⟨Nat.le_of_ble_eq_true rfl, Nat.le_of_ble_eq_true rfl⟩ hl.1 rfl (Nat.le_of_ble_eq_true rfl) dX8_addTurn_97 ⟨(by show 0 + 1 + 1 + 2 + 0 ≤ 9; omega), (by show 0 + 6 + 6 + 12 + 0 ≤ 60; omega)⟩) hw (fun r97 H locs hp97 hw => ?_)
                subst hp97
                refine zif_ne (pc := 100) hx hb 113 (by omega) dX8_addTurn_100 (by decide) (fun c100 => ?_) (fun c100 => ?_)
                · skip
                  refine lv_aload (pc := 113) hx hb dX8_addTurn_113 (lv_at hl 1 rfl) ?_
                  refine znew (pc := 115) hx hb hG hown hw (T := TX6) (ci := 5) rfl wn_X8_167 wt_X6 wi_X6 (by show 0 + 1 + 1 + 2 + 1 ≤ 9; omega) (by show 0 + 6 + 6 + 12 + 6 ≤ 60; omega) dX8_addTurn_115 (fun q115 H hfq115 hw => ?_)
                  obtain ⟨K115, eK115⟩ : ∃ Y : zK, Y = zup K q115 (1, 5) := ⟨_, rfl⟩
                  obtain ⟨X115, eX115⟩ : ∃ Y : zX, Y = zupX X q115 := ⟨_, rfl⟩
                  obtain ⟨R115, eR115⟩ : ∃ Y : zR, Y = zupR Rf q115 := ⟨_, rfl⟩
                  replace hw := Wd.re hw eK115 eX115 eR115
                  have hk115 : K115 x = (1, 7) := by rw [eK115]; exact zup_k hfq115 hk (Nat.succ_ne_zero _)
                  have hn115 : Apt x q115 := zne hk hfq115
                  have hk115_1 : K115 pr = (6, 24) := by rw [eK115]; exact zup_k hfq115 hkpr (Nat.succ_ne_zero _)
                  have hn115_1 : Apt pr q115 := zne hkpr hfq115
                  have hk115_2 : K115 pl = (7, 6) := by rw [eK115]; exact zup_k hfq115 hkpl (Nat.succ_ne_zero _)
                  have hn115_2 : Apt pl q115 := zne hkpl hfq115
                  have hk115_3 : K115 sr = (8, 6) := by rw [eK115]; exact zup_k hfq115 hksr (Nat.succ_ne_zero _)
                  have hn115_3 : Apt sr q115 := zne hksr hfq115
                  have hk115_4 : K115 dr = (1, 0) := by rw [eK115]; exact zup_k hfq115 hkdr (Nat.succ_ne_zero _)
                  have hn115_4 : Apt dr q115 := zne hkdr hfq115
                  have hk115_5 : K115 na = (2, 4733) := by rw [eK115]; exact zup_k hfq115 hkna (Nat.succ_ne_zero _)
                  have hn115_5 : Apt na q115 := zne hkna hfq115
                  have hk115_6 : K115 r2 = (1, 3) := by rw [eK115]; exact zup_k hfq115 hkp2 (Nat.succ_ne_zero _)
                  have hn115_6 : Apt r2 q115 := zne hkp2 hfq115
                  have hk115_7 : K115 tu2 = (9, 6) := by rw [eK115]; exact zup_k hfq115 hk12 (Nat.succ_ne_zero _)
                  have hn115_7 : Apt tu2 q115 := zne hk12 hfq115
                  have hk115_8 : K115 to2 = (2, 6) := by rw [eK115]; exact zup_k hfq115 hk32 (Nat.succ_ne_zero _)
                  have hn115_8 : Apt to2 q115 := zne hk32 hfq115
                  have hk115_9 : K115 be2 = (2, 1201) := by rw [eK115]; exact zup_k hfq115 hk42 (Nat.succ_ne_zero _)
                  have hn115_9 : Apt be2 q115 := zne hk42 hfq115
                  have hk115_10 : K115 sa2 = (2, 1201) := by rw [eK115]; exact zup_k hfq115 hk52 (Nat.succ_ne_zero _)
                  have hn115_10 : Apt sa2 q115 := zne hk52 hfq115
                  have hk115_11 : K115 r10 = (1, 2) := by rw [eK115]; exact zup_k hfq115 hka10 (Nat.succ_ne_zero _)
                  have hn115_11 : Apt r10 q115 := zne hka10 hfq115
                  have hk115_12 : K115 q115 = (1, 5) := by rw [eK115]; exact zup_s
                  have hr115 : R115 x 0 = some pr := by rw [eR115, zupR_n hn115]; exact hr0
                  have hr115_1 : R115 x 2 = some pl := by rw [eR115, zupR_n hn115]; exact hr2
                  have hr115_2 : R115 x 4 = some sr := by rw [eR115, zupR_n hn115]; exact hr4
                  have hr115_3 : R115 x 6 = some dr := by rw [eR115, zupR_n hn115]; exact hr6
                  have hr115_4 : R115 x 7 = some wo := by rw [eR115, zupR_n hn115]; exact hr7
                  have hr115_5 : R115 dr 0 = some na := by rw [eR115, zupR_n hn115_4]; exact hrd
                  have hr115_6 : R115 r2 1 = some tu2 := by rw [eR115, zupR_n hn115_6]; exact hr12
                  have hr115_7 : R115 r2 3 = some to2 := by rw [eR115, zupR_n hn115_6]; exact hr32
                  have hr115_8 : R115 r2 4 = some be2 := by rw [eR115, zupR_n hn115_6]; exact hr42
                  have hr115_9 : R115 r2 5 = some sa2 := by rw [eR115, zupR_n hn115_6]; exact hr52
                  refine lv_dup (pc := 118) hx hb dX8_addTurn_118 rfl ?_
                  refine lv_iload_n (pc := 119) hx hb dX8_addTurn_119 rfl (lv_at hl 4 rfl) ?_
                  refine lv_iload_n (pc := 120) hx hb dX8_addTurn_120 rfl (lv_at hl 5 rfl) ?_
                  refine lv_aload (pc := 121) hx hb dX8_addTurn_121 (lv_at hl 0 rfl) ?_
                  refine lv_iload (pc := 123) hx hb dX8_addTurn_123 (lv_at hl 7 rfl) ?_
                  refine lv_iload (pc := 125) hx hb dX8_addTurn_125 (lv_at hl 8 rfl) ?_
                  refine lv_iload (pc := 127) hx hb dX8_addTurn_127 (lv_at hl 9 rfl) ?_
                  refine zkV (pc := 129) (zrI (As := [.int (iI fy), .int (iI ly), .ref r10, .int (iI mn), .int (iI cl), .int (iI sv)]) hx hb hml hown hG hw (c_X6_init l Γ K115 X115 R115 q115 fy ly r10 mn cl sv  (by (first | assumption | omega)) (by (first | assumption | omega))) cb_X6_init wl_X8_169 rfl ⟨Nat.le_of_ble_eq_true rfl, Nat.le_of_ble_eq_true rfl⟩ hl.1 rfl (Nat.le_of_ble_eq_true rfl) dX8_addTurn_129 ⟨(by show 0 + 1 + 1 + 2 + 1 + 0 ≤ 9; omega), (by show 0 + 6 + 6 + 12 + 6 + 0 ≤ 60; omega)⟩) hw (fun K129 X129 R129 H locs hp129 hw => ?_)
                  obtain ⟨⟨cK129, cX129⟩, cr129, cP129⟩ := hp129
                  have hk129 : K129 x = (1, 7) := (cK129 _ (zk1 hk115)).trans hk115
                  have hk129_1 : K129 pr = (6, 24) := (cK129 _ (zk1 hk115_1)).trans hk115_1
                  have hk129_2 : K129 pl = (7, 6) := (cK129 _ (zk1 hk115_2)).trans hk115_2
                  have hk129_3 : K129 sr = (8, 6) := (cK129 _ (zk1 hk115_3)).trans hk115_3
                  have hk129_4 : K129 dr = (1, 0) := (cK129 _ (zk1 hk115_4)).trans hk115_4
                  have hk129_5 : K129 na = (2, 4733) := (cK129 _ (zk1 hk115_5)).trans hk115_5
                  have hk129_6 : K129 r2 = (1, 3) := (cK129 _ (zk1 hk115_6)).trans hk115_6
                  have hk129_7 : K129 tu2 = (9, 6) := (cK129 _ (zk1 hk115_7)).trans hk115_7
                  have hk129_8 : K129 to2 = (2, 6) := (cK129 _ (zk1 hk115_8)).trans hk115_8
                  have hk129_9 : K129 be2 = (2, 1201) := (cK129 _ (zk1 hk115_9)).trans hk115_9
                  have hk129_10 : K129 sa2 = (2, 1201) := (cK129 _ (zk1 hk115_10)).trans hk115_10
                  have hk129_11 : K129 r10 = (1, 2) := (cK129 _ (zk1 hk115_11)).trans hk115_11
                  have hk129_12 : K129 q115 = (1, 5) := (cK129 _ (zk1 hk115_12)).trans hk115_12
                  have hr129 : R129 x 0 = some pr := by rw [(cX129 _ (zk1 hk115) hn115).2]; exact hr115
                  have hr129_1 : R129 x 2 = some pl := by rw [(cX129 _ (zk1 hk115) hn115).2]; exact hr115_1
                  have hr129_2 : R129 x 4 = some sr := by rw [(cX129 _ (zk1 hk115) hn115).2]; exact hr115_2
                  have hr129_3 : R129 x 6 = some dr := by rw [(cX129 _ (zk1 hk115) hn115).2]; exact hr115_3
                  have hr129_4 : R129 x 7 = some wo := by rw [(cX129 _ (zk1 hk115) hn115).2]; exact hr115_4
                  have hr129_5 : R129 dr 0 = some na := by rw [(cX129 _ (zk1 hk115_4) hn115_4).2]; exact hr115_5
                  have hr129_6 : R129 r2 1 = some tu2 := by rw [(cX129 _ (zk1 hk115_6) hn115_6).2]; exact hr115_6
                  have hr129_7 : R129 r2 3 = some to2 := by rw [(cX129 _ (zk1 hk115_6) hn115_6).2]; exact hr115_7
                  have hr129_8 : R129 r2 4 = some be2 := by rw [(cX129 _ (zk1 hk115_6) hn115_6).2]; exact hr115_8
                  have hr129_9 : R129 r2 5 = some sa2 := by rw [(cX129 _ (zk1 hk115_6) hn115_6).2]; exact hr115_9
                  obtain ⟨M2, hM2⟩ : ∃ M2, M2 = tuM M a.toNat fy ly b9 mn cl sv := ⟨_, rfl⟩
                  obtain ⟨n9, hn9⟩ : ∃ n9 : Nat, M 7 a.toNat = n9 := ⟨(M 7 a.toNat).toNat, by omega⟩
                  have hn9b : (M 7 a.toNat).toNat = n9 := by omega
                  have hn96 : n9 < 6 := by omega
                  have hq0 : (K q115).1 = 0 := hfq115
                  have gK : ∀ a9, (K a9).1 ≠ 0 → K129 a9 = K a9 := fun a9 h9 => by rw [cK129 a9 (by rw [eK115, zup_n (zfa h9 hq0)]; exact h9), eK115, zup_n (zfa h9 hq0)]
                  have gX : ∀ a9, (K a9).1 ≠ 0 → X129 a9 = X a9 ∧ R129 a9 = Rf a9 := fun a9 h9 => by
                    obtain ⟨g1, g2⟩ := cX129 a9 (by rw [eK115, zup_n (zfa h9 hq0)]; exact h9) (zfa h9 hq0)
                    exact ⟨by rw [g1, eX115, zupX_n (zfa h9 hq0)], by rw [g2, eR115, zupR_n (zfa h9 hq0)]⟩
                  have hKq : K129 q115 = (1, 5) := by rw [cK129 q115 (by rw [eK115, zup_s]; decide), eK115, zup_s]
                  have hz1 : X129 r2 = X r2 := (gX r2 (zk1 hkp2)).1
                  have hz2 : X129 be2 = X be2 := (gX be2 (zk1 hk42)).1
                  have hz3 : X129 sa2 = X sa2 := (gX sa2 (zk1 hk52)).1
                  have hct9 : X129 r2 2 = n9 := by rw [hz1, hct2]; omega
                  refine zkI (pc := 132) (zrV (As := [.ref q115]) hx hb hml hown hG hw (c_X4_put l Γ K129 X129 R129 r2 q115 tu2 (by (first | assumption | omega)) (by (first | assumption | omega)) (by (first | assumption | omega)) (by (first | assumption | omega)) (by (first | assumption | omega))) (T := TX4) hk129_6 rfl cb_X4_put wl_X8_172 rfl ⟨Nat.le_of_ble_eq_true rfl, Nat.le_of_ble_eq_true rfl⟩ hl.1 rfl (Nat.le_of_ble_eq_true rfl) dX8_addTurn_132 ⟨(by show 0 + 1 + 1 + 2 + 1 + 0 ≤ 9; omega), (by show 0 + 6 + 6 + 12 + 6 + 0 ≤ 60; omega)⟩) hw (fun r132 K132 X132 R132 H locs hp132 hw => ?_)
                  obtain ⟨⟨cK132, cX132⟩, cP132⟩ := hp132
                  have hk132 : K132 x = (1, 7) := (cK132 _ (zk1 hk129)).trans hk129
                  have hk132_1 : K132 pr = (6, 24) := (cK132 _ (zk1 hk129_1)).trans hk129_1
                  have hk132_2 : K132 pl = (7, 6) := (cK132 _ (zk1 hk129_2)).trans hk129_2
                  have hk132_3 : K132 sr = (8, 6) := (cK132 _ (zk1 hk129_3)).trans hk129_3
                  have hk132_4 : K132 dr = (1, 0) := (cK132 _ (zk1 hk129_4)).trans hk129_4
                  have hk132_5 : K132 na = (2, 4733) := (cK132 _ (zk1 hk129_5)).trans hk129_5
                  have hk132_6 : K132 r2 = (1, 3) := (cK132 _ (zk1 hk129_6)).trans hk129_6
                  have hk132_7 : K132 tu2 = (9, 6) := (cK132 _ (zk1 hk129_7)).trans hk129_7
                  have hk132_8 : K132 to2 = (2, 6) := (cK132 _ (zk1 hk129_8)).trans hk129_8
                  have hk132_9 : K132 be2 = (2, 1201) := (cK132 _ (zk1 hk129_9)).trans hk129_9
                  have hk132_10 : K132 sa2 = (2, 1201) := (cK132 _ (zk1 hk129_10)).trans hk129_10
                  have hk132_11 : K132 r10 = (1, 2) := (cK132 _ (zk1 hk129_11)).trans hk129_11
                  have hk132_12 : K132 q115 = (1, 5) := (cK132 _ (zk1 hk129_12)).trans hk129_12
                  have hr132 : R132 x 0 = some pr := by rw [(cX132 _ (zk1 hk129) (zkn2 hk129 hk129_6 (by simp)) (zkn2 hk129 hk129_7 (by simp))).2]; exact hr129
                  have hr132_1 : R132 x 2 = some pl := by rw [(cX132 _ (zk1 hk129) (zkn2 hk129 hk129_6 (by simp)) (zkn2 hk129 hk129_7 (by simp))).2]; exact hr129_1
                  have hr132_2 : R132 x 4 = some sr := by rw [(cX132 _ (zk1 hk129) (zkn2 hk129 hk129_6 (by simp)) (zkn2 hk129 hk129_7 (by simp))).2]; exact hr129_2
                  have hr132_3 : R132 x 6 = some dr := by rw [(cX132 _ (zk1 hk129) (zkn2 hk129 hk129_6 (by simp)) (zkn2 hk129 hk129_7 (by simp))).2]; exact hr129_3
                  have hr132_4 : R132 x 7 = some wo := by rw [(cX132 _ (zk1 hk129) (zkn2 hk129 hk129_6 (by simp)) (zkn2 hk129 hk129_7 (by simp))).2]; exact hr129_4
                  have hr132_5 : R132 dr 0 = some na := by rw [(cX132 _ (zk1 hk129_4) (zkn2 hk129_4 hk129_6 (by simp)) (zkn2 hk129_4 hk129_7 (by simp))).2]; exact hr129_5
                  have hr132_6 : R132 q115 2 = some r10 := by rw [(cX132 _ (zk1 hk129_12) (Ne.symm hn115_6) (Ne.symm hn115_7)).2]; exact cr129
                  obtain ⟨hr132, hK132, hR132, hX132⟩ := cP132
                  have hpq9 : r2 ≠ q115 := zne hkp2 hq0
                  have htq9 : tu2 ≠ q115 := zne hk12 hq0
                  have hpt9 : r2 ≠ tu2 := zkn2 hkp2 hk12 (by simp)
                  have hXz : ∀ a9, a9 ≠ r2 → X132 a9 = X129 a9 := fun a9 g => by rw [hX132, up2_o g]
                  have hRz : ∀ a9, a9 ≠ tu2 → R132 a9 = R129 a9 := fun a9 g => by rw [hR132, up2_o g]
                  have hgT : ∀ k, k < n9 → turM M2 a.toNat k = turM M a.toNat k ∧ tupM M2 a.toNat k = tupM M a.toNat k := fun k hk9 => by
                    rw [hM2, tuM_tur (by omega), tuM_tup (by omega), if_neg (by omega), if_neg (by omega)]; exact ⟨rfl, rfl⟩
                  have hgN : turM M2 a.toNat n9 = (fun q => if q < 6 then tuV fy ly b9 mn cl sv q else 0) ∧ tupM M2 a.toNat n9 = patM M b9.toNat := by
                    rw [hM2, tuM_tur (by omega), tuM_tup (by omega), if_pos (by omega), if_pos (by omega)]; exact ⟨rfl, rfl⟩
                  have hXq5 : X132 q115 = X129 q115 := hXz _ (Ne.symm hpq9)
                  have gKz : ∀ a9, (K a9).1 ≠ 0 → K132 a9 = K a9 := fun a9 h9 => by rw [hK132]; exact gK a9 h9
                  have htuz : turnsOK K132 X132 R132 tu2 (n9 + 1) (turM M2 a.toNat) (tupM M2 a.toNat) := by
                    have htu0 := htu2
                    rw [hn9b] at htu0
                    refine htu0.add (tq := q115) (pa := r10) hn96 hgT gKz (fun a9 g => ?_) ?_ (fun k g => ?_) (by rw [hK132]; exact hKq) ?_ hka10 hoa10 ?_ ?_ ?_
                    · have h9 : (K a9).1 ≠ 0 := by rcases g with g | g <;> (rw [g]; decide)
                      have n1 : a9 ≠ r2 := by rintro rfl; rcases g with g | g <;> (rw [hkp2] at g; cases g)
                      have n2 : a9 ≠ tu2 := by rintro rfl; rcases g with g | g <;> (rw [hk12] at g; cases g)
                      exact ⟨by rw [hXz a9 n1]; exact (gX a9 h9).1, by rw [hRz a9 n2]; exact (gX a9 h9).2⟩
                    · rw [hR132, hct9, Int.toNat_natCast]; exact up2_s
                    · rw [hR132, hct9, Int.toNat_natCast, up2_k g]; exact congrFun (gX tu2 (zk1 hk12)).2 k
                    · rw [hRz q115 (Ne.symm htq9)]; exact cr129
                    · rw [hXq5]; obtain ⟨w0, w1, w3, w4, w5⟩ := cP129; show (1900 ≤ X129 q115 0 ∧ X129 q115 0 ≤ X129 q115 1 ∧ X129 q115 1 ≤ 2099) ∧ (0 ≤ X129 q115 3 ∧ X129 q115 3 ≤ 1439) ∧ (0 ≤ X129 q115 4 ∧ X129 q115 4 ≤ 2) ∧ (0 ≤ X129 q115 5 ∧ X129 q115 5 ≤ 180); omega
                    · rw [hXq5, hgN.1]; exact cP129
                    · rw [hgN.2]; exact hsa10
                  have hne1z : to2 ≠ be2 := zkn2 hk32 hk42 (by simp)
                  have hne2z : to2 ≠ sa2 := zkn2 hk32 hk52 (by simp)
                  have hne3z : be2 ≠ sa2 := fun g => by rw [g, hl52] at hl42; omega
                  have hr12z : R132 r2 1 = some tu2 := by rw [hRz r2 hpt9, (gX r2 (zk1 hkp2)).2]; exact hr12
                  have hr32z : R132 r2 3 = some to2 := by rw [hRz r2 hpt9, (gX r2 (zk1 hkp2)).2]; exact hr32
                  have hr42z : R132 r2 4 = some be2 := by rw [hRz r2 hpt9, (gX r2 (zk1 hkp2)).2]; exact hr42
                  have hr52z : R132 r2 5 = some sa2 := by rw [hRz r2 hpt9, (gX r2 (zk1 hkp2)).2]; exact hr52
                  have hbsz : X132 r2 0 = M 6 a.toNat := by rw [hX132, up2_k (by decide), hz1]; exact hbs2
                  refine lv_istore (pc := 135) (lv' := [(10, .int (iI r132)), (9, .ref r10), (8, .ref r2), (0, .ref x), (1, .int (iI a)), (2, .int (iI fy)), (3, .int (iI ly)), (4, .int (iI b9)), (5, .int (iI mn)), (6, .int (iI cl)), (7, .int (iI sv))]) hx hb dX8_addTurn_135 hl (by decide) rfl (fun ls hl => ?_)
                  refine lv_aload (pc := 137) hx hb dX8_addTurn_137 (lv_at hl 2 rfl) ?_
                  refine zkVx (pc := 139) (zrV (As := []) hx hb hml hown hG hw (c_X4_findPieces l Γ K132 X132 R132 r2 tu2 to2 be2 sa2 (n9 + 1) (turM M2 a.toNat) (tupM M2 a.toNat) (by (first | assumption | omega)) (by (first | assumption | omega)) (by (first | assumption | omega)) (by (first | assumption | omega)) (by (first | assumption | omega)) (by (first | assumption | omega)) (by (first | assumption | omega)) (by (first | assumption | omega)) (by (first | assumption | omega)) (by (first | assumption | omega)) (by (first | assumption | omega)) (by (first | assumption | omega)) (by (first | assumption | omega)) (by (first | assumption | omega)) (by (first | assumption | omega))) (T := TX4) hk132_6 rfl cb_X4_findPieces wl_X8_176 rfl ⟨Nat.le_of_ble_eq_true rfl, Nat.le_of_ble_eq_true rfl⟩ hl.1 rfl (Nat.le_of_ble_eq_true rfl) dX8_addTurn_139 ⟨(by show 0 + 1 + 1 + 2 + 1 + 0 ≤ 9; omega), (by show 0 + 6 + 6 + 12 + 6 + 0 ≤ 60; omega)⟩) hw (fun X139 H locs hp139 hw => ?_)
                  refine lv_iload (pc := 142) hx hb dX8_addTurn_142 (lv_at hl 0 rfl) ?_
                  exact vx_ret (zretI (pc := 144) hx hb hlocks hr hw (by show 0 + 1 + 1 + 2 + 1 ≤ 9; omega) (by show 0 + 6 + 6 + 12 + 6 ≤ 60; omega) dX8_addTurn_144 (by 
                                        refine ⟨⟨by omega, by (unfold cdAtu; (repeat' split) <;> omega)⟩, ?_⟩
                                        obtain ⟨hpr9, ho9, hf9⟩ := hp139
                                        rw [← hM2]
                                        have hrp2b : Rf pl a.toNat = some r2 := hrp2
                                        have hp7 := hf9 2 (by decide)
                                        have hp8 := hf9 0 (by decide)
                                        rw [hM2]
                                        refine hC.tur (n := n9) hr2 (by omega) hrp2b ⟨hr12, hr32, hr42, hr52⟩ ⟨hn9b, hn96, hn9⟩ gKz (fun a9 h9 g1 g2 g3 g4 => ?_) (fun a9 h9 g => ?_) ?_ ⟨?_, ?_⟩ ?_
                                        · rw [ho9 a9 g1 g2 g3 g4, hXz a9 g1]; exact (gX a9 h9).1
                                        · rw [hRz a9 g]; exact (gX a9 h9).2
                                        · rw [← hM2]; exact htuz.mono (fun a9 g => ho9 a9 (by rintro rfl; rcases g with g | g <;> (rw [gKz _ (zk1 hkp2), hkp2] at g; cases g)) (by rintro rfl; rcases g with g | g <;> (rw [gKz _ (zk1 hk32), hk32] at g; cases g)) (by rintro rfl; rcases g with g | g <;> (rw [gKz _ (zk1 hk42), hk42] at g; cases g)) (by rintro rfl; rcases g with g | g <;> (rw [gKz _ (zk1 hk52), hk52] at g; cases g)))
                                        · rw [hp7, hX132, up2_s, hct9]
                                        · rw [hp8, hX132, up2_k (by decide), hz1]
                                        · rw [← hM2, ← hbsz]; exact hpr9))
                · skip
                  exact zthrow (pc := 103) hx hb hl9 hown hG hX hw wn_X8_117 wi_javalangIllegalStateException (List.mem_of_getElem? (i := 8) rfl) zthr_121 (hl.1.trans hml.symm) ht dX8_addTurn_103 dX8_addTurn_106 dX8_addTurn_107 dX8_addTurn_109 dX8_addTurn_112 (by show 6 ≤ _; exact Nat.le_of_ble_eq_true rfl) (Nat.le_of_ble_eq_true rfl) (by show 0 + 1 + 1 + 2 + 1 ≤ 9; omega) (by show 0 + 6 + 6 + 12 + 6 ≤ 60; omega) hlocks (by (try dsimp only); first | exact ⟨rfl, (by (unfold cdAtu; (repeat' split) <;> omega))⟩ | exact Or.inl ⟨rfl, (by (unfold cdAtu; (repeat' split) <;> omega))⟩ | exact Or.inr ⟨rfl, (by (unfold cdAtu; (repeat' split) <;> omega))⟩ | exact Or.inr (Or.inl ⟨rfl, (by (unfold cdAtu; (repeat' split) <;> omega))⟩) | exact Or.inr (Or.inr ⟨rfl, (by (unfold cdAtu; (repeat' split) <;> omega))⟩)) (by show 0 + 1 + 1 + 2 + 1 ≤ 9; omega) (by show 0 + 6 + 6 + 12 + 6 ≤ 60; omega)
              refine zgetI (pc := 69) hx hb hG hown hw hka10 (T := TX3) rfl 0 (by decide) rfl wf_X8_153 rfl dX8_addTurn_69 ?_
              refine zif_ne (pc := 72) hx hb 95 (by omega) dX8_addTurn_72 (by decide) (fun c72 => ?_) (fun c72 => ?_)
              · skip
                exact jn95_0 _ _ (by omega) hw _ (lv_sub hl [0, 1, 2, 3, 4, 5, 6, 7, 8, 9] rfl)
              · skip
                refine lv_aload (pc := 75) hx hb dX8_addTurn_75 (lv_at hl 0 rfl) ?_
                refine zgetI (pc := 77) hx hb hG hown hw hka10 (T := TX3) rfl 1 (by decide) rfl wf_X8_156 rfl dX8_addTurn_77 ?_
                refine zbipush (pc := 80) (n := 16) hx hb dX8_addTurn_80 rfl ?_
                refine zicmp_eq (pc := 82) hx hb 95 (by omega) (by omega) dX8_addTurn_82 (by decide) (fun c82 => ?_) (fun c82 => ?_)
                · skip
                  exact jn95_0 _ _ (by omega) hw _ (lv_sub hl [0, 1, 2, 3, 4, 5, 6, 7, 8, 9] rfl)
                · skip
                  exact zthrow (pc := 85) hx hb hl9 hown hG hX hw wn_X8_56 wi_javalangIllegalArgumentException (List.mem_of_getElem? (i := 7) rfl) zthr_60 (hl.1.trans hml.symm) ht dX8_addTurn_85 dX8_addTurn_88 dX8_addTurn_89 dX8_addTurn_91 dX8_addTurn_94 (by show 6 ≤ _; exact Nat.le_of_ble_eq_true rfl) (Nat.le_of_ble_eq_true rfl) (by show 0 + 1 + 1 + 2 + 1 ≤ 9; omega) (by show 0 + 6 + 6 + 12 + 6 ≤ 60; omega) hlocks (by (try dsimp only); first | exact ⟨rfl, (by (unfold cdAtu; (repeat' split) <;> omega))⟩ | exact Or.inl ⟨rfl, (by (unfold cdAtu; (repeat' split) <;> omega))⟩ | exact Or.inr ⟨rfl, (by (unfold cdAtu; (repeat' split) <;> omega))⟩ | exact Or.inr (Or.inl ⟨rfl, (by (unfold cdAtu; (repeat' split) <;> omega))⟩) | exact Or.inr (Or.inr ⟨rfl, (by (unfold cdAtu; (repeat' split) <;> omega))⟩)) (by show 0 + 1 + 1 + 2 + 1 ≤ 9; omega) (by show 0 + 6 + 6 + 12 + 6 ≤ 60; omega)
            · skip
              exact zthrow (pc := 57) hx hb hl9 hown hG hX hw wn_X8_56 wi_javalangIllegalArgumentException (List.mem_of_getElem? (i := 6) rfl) zthr_60 (hl.1.trans hml.symm) ht dX8_addTurn_57 dX8_addTurn_60 dX8_addTurn_61 dX8_addTurn_63 dX8_addTurn_66 (by show 6 ≤ _; exact Nat.le_of_ble_eq_true rfl) (Nat.le_of_ble_eq_true rfl) (by show 0 + 1 + 1 + 2 + 1 ≤ 9; omega) (by show 0 + 6 + 6 + 12 + 6 ≤ 60; omega) hlocks (by (try dsimp only); first | exact ⟨rfl, (by (unfold cdAtu; (repeat' split) <;> omega))⟩ | exact Or.inl ⟨rfl, (by (unfold cdAtu; (repeat' split) <;> omega))⟩ | exact Or.inr ⟨rfl, (by (unfold cdAtu; (repeat' split) <;> omega))⟩ | exact Or.inr (Or.inl ⟨rfl, (by (unfold cdAtu; (repeat' split) <;> omega))⟩) | exact Or.inr (Or.inr ⟨rfl, (by (unfold cdAtu; (repeat' split) <;> omega))⟩)) (by show 0 + 1 + 1 + 2 + 1 ≤ 9; omega) (by show 0 + 6 + 6 + 12 + 6 ≤ 60; omega)
