set_option maxHeartbeats 4000000 in
set_option maxRecDepth 100000 in
theorem c_L_areClocksSound (l : Launch) (hl9 : l.stackTraces = false) (Γ : zG) (K : zK) (X : zX) (Rf : zR) (x : Nat) (pl : Int) (mo : Int) (ρ : zL) (M : zM) (hC : repC ρ K X Rf x M) (hM : okM M) (h1 : (0 ≤ pl ∧ pl < M 40 5) ∧ 0 ≤ mo ∧ mo ≤ 105190559) : Cx l yL_areClocksSound cL_areClocksSound 7 (some .boolean) 8 40 240 Γ [.ref x, .int (iI pl), .int (iI mo)] K X Rf (pI (zp0 K X Rf (fun r : Int => r = 1))) (fun _ : String => False) := by
  refine Cx.of (by decide +kernel) (Nat.le_of_ble_eq_true rfl) ?_
  intro p e s m below meth c ls hx hb hr hml hown hG hlocks hname ht hX hw hl
  have hl : lv_has ls 7 [(0, .ref x), (1, .int (iI pl)), (2, .int (iI mo))] := hl
  have h5 : M 40 5 ≤ 6 := hM.1.2.1.2
  have hcd : cdPlM M pl mo = 0 := by unfold cdPlM; rw [if_pos (by omega)]
  have hcd2 : cdPl M pl = 0 := by unfold cdPl; rw [if_pos (by omega)]
  have hcd3 : cdPlM M 0 mo = 0 := by unfold cdPlM; rw [if_pos (by omega)]
  have hcd4 : cdPlPlM M pl 0 mo = 0 := by unfold cdPlPlM; rw [if_pos (by omega)]
  have hcd5 : cdPlM M pl 105190559 = 0 := by unfold cdPlM; rw [if_pos (by omega)]
  have hsb := sav_bd hC hM (p := pl.toNat) (by omega)
  have hlo := loc_bd hC hM (a := pl) (mo := mo) h1.1 h1.2
  have hlo0 := loc_bd hC hM (a := 0) (mo := mo) (by omega) h1.2
  have hnx := cp_next (sv := savM M pl.toNat) (mo := mo) h1.2
  refine lv_aload_n (pc := 0) hx hb dL_areClocksSound_0 rfl (lv_at hl 0 rfl) ?_
  refine lv_iload_n (pc := 1) hx hb dL_areClocksSound_1 rfl (lv_at hl 1 rfl) ?_
  refine lv_iload_n (pc := 2) hx hb dL_areClocksSound_2 rfl (lv_at hl 2 rfl) ?_
  refine zxkIp (pc := 3) (zxrV (As := [.int (iI pl), .int (iI mo)]) hx hb hml hown hG hX hw (c_X8_localAt l hl9 Γ K X Rf x pl mo (ρ) M (by (first | assumption | omega)) (by (first | assumption | omega)) (by (first | assumption | omega))) (T := TX8) hC.1.1 rfl cb_X8_localAt wl_L_83 rfl ⟨Nat.le_of_ble_eq_true rfl, Nat.le_of_ble_eq_true rfl⟩ hl.1 rfl (Nat.le_of_ble_eq_true rfl) dL_areClocksSound_3 ⟨(by show 0 + 2 ≤ 40; omega), (by show 0 + 12 ≤ 240; omega)⟩) hw (fun E9 ce9 q9 H9 locs9 hxp9 hw9 hce9 hcv9 hcl9 => (by exfalso; first | exact hxp9 | omega | (rcases hxp9 with ⟨-, hq9⟩ | ⟨-, hq9⟩ | ⟨-, hq9⟩ <;> omega) | (rcases hxp9 with ⟨-, hq9⟩ | ⟨-, hq9⟩ <;> omega))) (fun r3 H locs hp3 hw => ?_)
  have er3 := hp3.1
  have hck := cp_clock (sv := savM M pl.toNat) (base := M 6 pl.toNat) (mo := mo) h1.2 (loc := r3) er3
  have hck2 := shN_bd (sv := savM M pl.toNat) (base := M 6 pl.toNat) (loc := r3)
  rw [← er3] at hlo
  refine lv_istore_n (pc := 6) (lv' := [(3, .int (iI r3)), (0, .ref x), (1, .int (iI pl)), (2, .int (iI mo))]) hx hb dL_areClocksSound_6 rfl hl (by decide) rfl (fun ls hl => ?_)
  refine lv_aload_n (pc := 7) hx hb dL_areClocksSound_7 rfl (lv_at hl 1 rfl) ?_
  refine lv_iload_n (pc := 8) hx hb dL_areClocksSound_8 rfl (lv_at hl 2 rfl) ?_
  refine lv_iload_n (pc := 9) hx hb dL_areClocksSound_9 rfl (lv_at hl 0 rfl) ?_
  refine zxkIp (pc := 10) (zxrV (As := [.int (iI pl), .int (iI r3)]) hx hb hml hown hG hX hw (c_X8_momentOf l hl9 Γ K X Rf x pl r3 (ρ) M (by (first | assumption | omega)) (by (first | assumption | omega)) (by (first | assumption | omega))) (T := TX8) hC.1.1 rfl cb_X8_momentOf wl_L_86 rfl ⟨Nat.le_of_ble_eq_true rfl, Nat.le_of_ble_eq_true rfl⟩ hl.1 rfl (Nat.le_of_ble_eq_true rfl) dL_areClocksSound_10 ⟨(by show 0 + 2 + 1 ≤ 40; omega), (by show 0 + 12 + 6 ≤ 240; omega)⟩) hw (fun E9 ce9 q9 H9 locs9 hxp9 hw9 hce9 hcv9 hcl9 => (by exfalso; first | exact hxp9 | omega | (rcases hxp9 with ⟨-, hq9⟩ | ⟨-, hq9⟩ | ⟨-, hq9⟩ <;> omega) | (rcases hxp9 with ⟨-, hq9⟩ | ⟨-, hq9⟩ <;> omega))) (fun r10 H locs hp10 hw => ?_)
  have er10 := hp10.1
  refine lv_istore (pc := 13) (lv' := [(4, .int (iI r10)), (3, .int (iI r3)), (0, .ref x), (1, .int (iI pl)), (2, .int (iI mo))]) hx hb dL_areClocksSound_13 hl (by decide) rfl (fun ls hl => ?_)
  refine lv_aload_n (pc := 15) hx hb dL_areClocksSound_15 rfl (lv_at hl 2 rfl) ?_
  refine lv_iload_n (pc := 16) hx hb dL_areClocksSound_16 rfl (lv_at hl 3 rfl) ?_
  refine lv_iload_n (pc := 17) hx hb dL_areClocksSound_17 rfl (lv_at hl 1 rfl) ?_
  refine zxkIp (pc := 18) (zxrV (As := [.int (iI pl), .int (iI r3)]) hx hb hml hown hG hX hw (c_X8_lastMomentOf l hl9 Γ K X Rf x pl r3 (ρ) M (by (first | assumption | omega)) (by (first | assumption | omega)) (by (first | assumption | omega))) (T := TX8) hC.1.1 rfl cb_X8_lastMomentOf wl_L_89 rfl ⟨Nat.le_of_ble_eq_true rfl, Nat.le_of_ble_eq_true rfl⟩ hl.1 rfl (Nat.le_of_ble_eq_true rfl) dL_areClocksSound_18 ⟨(by show 0 + 2 + 1 + 1 ≤ 40; omega), (by show 0 + 12 + 6 + 6 ≤ 240; omega)⟩) hw (fun E9 ce9 q9 H9 locs9 hxp9 hw9 hce9 hcv9 hcl9 => (by exfalso; first | exact hxp9 | omega | (rcases hxp9 with ⟨-, hq9⟩ | ⟨-, hq9⟩ | ⟨-, hq9⟩ <;> omega) | (rcases hxp9 with ⟨-, hq9⟩ | ⟨-, hq9⟩ <;> omega))) (fun r18 H locs hp18 hw => ?_)
  have er18 := hp18.1
  refine lv_istore (pc := 21) (lv' := [(5, .int (iI r18)), (4, .int (iI r10)), (3, .int (iI r3)), (0, .ref x), (1, .int (iI pl)), (2, .int (iI mo))]) hx hb dL_areClocksSound_21 hl (by decide) rfl (fun ls hl => ?_)
  refine lv_aload_n (pc := 23) hx hb dL_areClocksSound_23 rfl (lv_at hl 3 rfl) ?_
  refine lv_iload_n (pc := 24) hx hb dL_areClocksSound_24 rfl (lv_at hl 4 rfl) ?_
  refine lv_iload_n (pc := 25) hx hb dL_areClocksSound_25 rfl (lv_at hl 2 rfl) ?_
  refine zxkIp (pc := 26) (zxrV (As := [.int (iI pl), .int (iI r3)]) hx hb hml hown hG hX hw (c_X8_showsOften l hl9 Γ K X Rf x pl r3 (ρ) M (by (first | assumption | omega)) (by (first | assumption | omega)) (by (first | assumption | omega))) (T := TX8) hC.1.1 rfl cb_X8_showsOften wl_L_92 rfl ⟨Nat.le_of_ble_eq_true rfl, Nat.le_of_ble_eq_true rfl⟩ hl.1 rfl (Nat.le_of_ble_eq_true rfl) dL_areClocksSound_26 ⟨(by show 0 + 2 + 1 + 1 + 1 ≤ 40; omega), (by show 0 + 12 + 6 + 6 + 6 ≤ 240; omega)⟩) hw (fun E9 ce9 q9 H9 locs9 hxp9 hw9 hce9 hcv9 hcl9 => (by exfalso; first | exact hxp9 | omega | (rcases hxp9 with ⟨-, hq9⟩ | ⟨-, hq9⟩ | ⟨-, hq9⟩ <;> omega) | (rcases hxp9 with ⟨-, hq9⟩ | ⟨-, hq9⟩ <;> omega))) (fun r26 H locs hp26 hw => ?_)
  have er26 := hp26.1
  rw [← er26, ← er18, ← er10] at hck
  rw [← er26] at hck2
  obtain ⟨hN, ⟨m0, m1, m2⟩, ⟨l0, l1, l2⟩, hiff⟩ := hck
  refine ziconst (pc := 29) (n := 1) hx hb dL_areClocksSound_29 ?_
  refine zicmp_lt (pc := 30) hx hb 97 (by omega) (by omega) dL_areClocksSound_30 (by decide) (fun c30 => ?_) (fun c30 => ?_)
  · skip
    exfalso; omega
  · skip
    refine lv_iload (pc := 33) hx hb dL_areClocksSound_33 (lv_at hl 1 rfl) ?_
    refine lv_iload_n (pc := 35) hx hb dL_areClocksSound_35 rfl (lv_at hl 5 rfl) ?_
    refine zicmp_gt (pc := 36) hx hb 97 (by omega) (by omega) dL_areClocksSound_36 (by decide) (fun c36 => ?_) (fun c36 => ?_)
    · skip
      exfalso; omega
    · skip
      refine lv_iload (pc := 39) hx hb dL_areClocksSound_39 (lv_at hl 0 rfl) ?_
      refine lv_iload_n (pc := 41) hx hb dL_areClocksSound_41 rfl (lv_at hl 5 rfl) ?_
      refine zicmp_lt (pc := 42) hx hb 97 (by omega) (by omega) dL_areClocksSound_42 (by decide) (fun c42 => ?_) (fun c42 => ?_)
      · skip
        exfalso; omega
      · skip
        refine lv_aload_n (pc := 45) hx hb dL_areClocksSound_45 rfl (lv_at hl 3 rfl) ?_
        refine lv_iload_n (pc := 46) hx hb dL_areClocksSound_46 rfl (lv_at hl 4 rfl) ?_
        refine lv_iload (pc := 47) hx hb dL_areClocksSound_47 (lv_at hl 1 rfl) ?_
        have hcd49 : cdPlM M pl r10 = 0 := by unfold cdPlM; rw [if_pos (by omega)]
        refine zxkIp (pc := 49) (zxrV (As := [.int (iI pl), .int (iI r10)]) hx hb hml hown hG hX hw (c_X8_localAt l hl9 Γ K X Rf x pl r10 (ρ) M (by (first | assumption | omega)) (by (first | assumption | omega)) (by (first | assumption | omega))) (T := TX8) hC.1.1 rfl cb_X8_localAt wl_L_83 rfl ⟨Nat.le_of_ble_eq_true rfl, Nat.le_of_ble_eq_true rfl⟩ hl.1 rfl (Nat.le_of_ble_eq_true rfl) dL_areClocksSound_49 ⟨(by show 0 + 2 + 1 + 1 + 1 + 2 ≤ 40; omega), (by show 0 + 12 + 6 + 6 + 6 + 12 ≤ 240; omega)⟩) hw (fun E9 ce9 q9 H9 locs9 hxp9 hw9 hce9 hcv9 hcl9 => (by exfalso; first | exact hxp9 | omega | (rcases hxp9 with ⟨-, hq9⟩ | ⟨-, hq9⟩ | ⟨-, hq9⟩ <;> omega) | (rcases hxp9 with ⟨-, hq9⟩ | ⟨-, hq9⟩ <;> omega))) (fun r49 H locs hp49 hw => ?_)
        have er49 := hp49.1
        have e49 : r49 = r3 := er49.trans m2
        refine lv_iload_n (pc := 52) hx hb dL_areClocksSound_52 rfl (lv_at hl 2 rfl) ?_
        refine zicmp_ne (pc := 53) hx hb 97 (by omega) (by omega) dL_areClocksSound_53 (by decide) (fun c53 => ?_) (fun c53 => ?_)
        · skip
          exfalso; omega
        · skip
          refine lv_aload_n (pc := 56) hx hb dL_areClocksSound_56 rfl (lv_at hl 3 rfl) ?_
          refine lv_iload_n (pc := 57) hx hb dL_areClocksSound_57 rfl (lv_at hl 4 rfl) ?_
          refine lv_iload (pc := 58) hx hb dL_areClocksSound_58 (lv_at hl 0 rfl) ?_
          have hcd60 : cdPlM M pl r18 = 0 := by unfold cdPlM; rw [if_pos (by omega)]
          refine zxkIp (pc := 60) (zxrV (As := [.int (iI pl), .int (iI r18)]) hx hb hml hown hG hX hw (c_X8_localAt l hl9 Γ K X Rf x pl r18 (ρ) M (by (first | assumption | omega)) (by (first | assumption | omega)) (by (first | assumption | omega))) (T := TX8) hC.1.1 rfl cb_X8_localAt wl_L_83 rfl ⟨Nat.le_of_ble_eq_true rfl, Nat.le_of_ble_eq_true rfl⟩ hl.1 rfl (Nat.le_of_ble_eq_true rfl) dL_areClocksSound_60 ⟨(by show 0 + 2 + 1 + 1 + 1 + 2 + 2 ≤ 40; omega), (by show 0 + 12 + 6 + 6 + 6 + 12 + 12 ≤ 240; omega)⟩) hw (fun E9 ce9 q9 H9 locs9 hxp9 hw9 hce9 hcv9 hcl9 => (by exfalso; first | exact hxp9 | omega | (rcases hxp9 with ⟨-, hq9⟩ | ⟨-, hq9⟩ | ⟨-, hq9⟩ <;> omega) | (rcases hxp9 with ⟨-, hq9⟩ | ⟨-, hq9⟩ <;> omega))) (fun r60 H locs hp60 hw => ?_)
          have er60 := hp60.1
          have e60 : r60 = r3 := er60.trans l2
          refine lv_iload_n (pc := 63) hx hb dL_areClocksSound_63 rfl (lv_at hl 2 rfl) ?_
          refine zicmp_ne (pc := 64) hx hb 97 (by omega) (by omega) dL_areClocksSound_64 (by decide) (fun c64 => ?_) (fun c64 => ?_)
          · skip
            exfalso; omega
          · skip
            refine lv_aload_n (pc := 67) hx hb dL_areClocksSound_67 rfl (lv_at hl 3 rfl) ?_
            refine lv_iload_n (pc := 68) hx hb dL_areClocksSound_68 rfl (lv_at hl 4 rfl) ?_
            refine lv_iload_n (pc := 69) hx hb dL_areClocksSound_69 rfl (lv_at hl 2 rfl) ?_
            refine zxkIp (pc := 70) (zxrV (As := [.int (iI pl), .int (iI r3)]) hx hb hml hown hG hX hw (c_X8_showsOften l hl9 Γ K X Rf x pl r3 (ρ) M (by (first | assumption | omega)) (by (first | assumption | omega)) (by (first | assumption | omega))) (T := TX8) hC.1.1 rfl cb_X8_showsOften wl_L_92 rfl ⟨Nat.le_of_ble_eq_true rfl, Nat.le_of_ble_eq_true rfl⟩ hl.1 rfl (Nat.le_of_ble_eq_true rfl) dL_areClocksSound_70 ⟨(by show 0 + 2 + 1 + 1 + 1 + 2 + 2 + 1 ≤ 40; omega), (by show 0 + 12 + 6 + 6 + 6 + 12 + 12 + 6 ≤ 240; omega)⟩) hw (fun E9 ce9 q9 H9 locs9 hxp9 hw9 hce9 hcv9 hcl9 => (by exfalso; first | exact hxp9 | omega | (rcases hxp9 with ⟨-, hq9⟩ | ⟨-, hq9⟩ | ⟨-, hq9⟩ <;> omega) | (rcases hxp9 with ⟨-, hq9⟩ | ⟨-, hq9⟩ <;> omega))) (fun r70 H locs hp70 hw => ?_)
            have er70 := hp70.1
            have e70 : r70 = r26 := er70.trans er26.symm
            refine ziconst (pc := 73) (n := 1) hx hb dL_areClocksSound_73 ?_
            refine zicmp_ne (pc := 74) hx hb 81 (by omega) (by omega) dL_areClocksSound_74 (by decide) (fun c74 => ?_) (fun c74 => ?_)
            · skip
              refine ziconst (pc := 81) (n := 0) hx hb dL_areClocksSound_81 ?_
              refine lv_iload (pc := 82) hx hb dL_areClocksSound_82 (lv_at hl 1 rfl) ?_
              refine lv_iload (pc := 84) hx hb dL_areClocksSound_84 (lv_at hl 0 rfl) ?_
              refine zicmp_ne (pc := 86) hx hb 93 (by omega) (by omega) dL_areClocksSound_86 (by decide) (fun c86 => ?_) (fun c86 => ?_)
              · skip
                refine ziconst (pc := 93) (n := 0) hx hb dL_areClocksSound_93 ?_
                refine zicmp_eq (pc := 94) hx hb 99 (by omega) (by omega) dL_areClocksSound_94 (by decide) (fun c94 => ?_) (fun c94 => ?_)
                · skip
                  refine lv_aload_n (pc := 99) hx hb dL_areClocksSound_99 rfl (lv_at hl 3 rfl) ?_
                  refine lv_iload_n (pc := 100) hx hb dL_areClocksSound_100 rfl (lv_at hl 4 rfl) ?_
                  refine lv_iload_n (pc := 101) hx hb dL_areClocksSound_101 rfl (lv_at hl 5 rfl) ?_
                  refine zxkIp (pc := 102) (zxrV (As := [.int (iI pl), .int (iI mo)]) hx hb hml hown hG hX hw (c_X8_nextChange l hl9 Γ K X Rf x pl mo (ρ) M (by (first | assumption | omega)) (by (first | assumption | omega)) (by (first | assumption | omega))) (T := TX8) hC.1.1 rfl cb_X8_nextChange wl_L_95 rfl ⟨Nat.le_of_ble_eq_true rfl, Nat.le_of_ble_eq_true rfl⟩ hl.1 rfl (Nat.le_of_ble_eq_true rfl) dL_areClocksSound_102 ⟨(by show 0 + 2 + 1 + 1 + 1 + 2 + 2 + 1 + 2 ≤ 40; omega), (by show 0 + 12 + 6 + 6 + 6 + 12 + 12 + 6 + 12 ≤ 240; omega)⟩) hw (fun E9 ce9 q9 H9 locs9 hxp9 hw9 hce9 hcv9 hcl9 => (by exfalso; first | exact hxp9 | omega | (rcases hxp9 with ⟨-, hq9⟩ | ⟨-, hq9⟩ | ⟨-, hq9⟩ <;> omega) | (rcases hxp9 with ⟨-, hq9⟩ | ⟨-, hq9⟩ <;> omega))) (fun r102 H locs hp102 hw => ?_)
                  have er102 := hp102.1
                  rw [← er102] at hnx
                  refine lv_istore (pc := 105) (lv' := [(6, .int (iI r102)), (5, .int (iI r18)), (4, .int (iI r10)), (3, .int (iI r3)), (0, .ref x), (1, .int (iI pl)), (2, .int (iI mo))]) hx hb dL_areClocksSound_105 hl (by decide) rfl (fun ls hl => ?_)
                  refine lv_iload (pc := 107) hx hb dL_areClocksSound_107 (lv_at hl 0 rfl) ?_
                  refine ziconst (pc := 109) (n := (-1)) hx hb dL_areClocksSound_109 ?_
                  refine zicmp_ne (pc := 110) hx hb 135 (by omega) (by omega) dL_areClocksSound_110 (by decide) (fun c110 => ?_) (fun c110 => ?_)
                  · skip
                    obtain ⟨n1, n2, n3, n4⟩ := hnx.resolve_left (fun q => c110 q.1)
                    refine lv_iload (pc := 135) hx hb dL_areClocksSound_135 (lv_at hl 0 rfl) ?_
                    refine lv_iload_n (pc := 137) hx hb dL_areClocksSound_137 rfl (lv_at hl 6 rfl) ?_
                    refine zicmp_le (pc := 138) hx hb 200 (by omega) (by omega) dL_areClocksSound_138 (by decide) (fun c138 => ?_) (fun c138 => ?_)
                    · skip
                      exfalso; omega
                    · skip
                      refine lv_aload_n (pc := 141) hx hb dL_areClocksSound_141 rfl (lv_at hl 4 rfl) ?_
                      refine lv_iload_n (pc := 142) hx hb dL_areClocksSound_142 rfl (lv_at hl 5 rfl) ?_
                      refine lv_iload (pc := 143) hx hb dL_areClocksSound_143 (lv_at hl 0 rfl) ?_
                      have hcd145 : cdPlM M pl r102 = 0 := by unfold cdPlM; rw [if_pos (by omega)]
                      refine zxkIp (pc := 145) (zxrV (As := [.int (iI pl), .int (iI r102)]) hx hb hml hown hG hX hw (c_X8_savingAt l hl9 Γ K X Rf x pl r102 (ρ) M (by (first | assumption | omega)) (by (first | assumption | omega)) (by (first | assumption | omega))) (T := TX8) hC.1.1 rfl cb_X8_savingAt wl_L_99 rfl ⟨Nat.le_of_ble_eq_true rfl, Nat.le_of_ble_eq_true rfl⟩ hl.1 rfl (Nat.le_of_ble_eq_true rfl) dL_areClocksSound_145 ⟨(by show 0 + 2 + 1 + 1 + 1 + 2 + 2 + 1 + 2 + 2 ≤ 40; omega), (by show 0 + 12 + 6 + 6 + 6 + 12 + 12 + 6 + 12 + 12 ≤ 240; omega)⟩) hw (fun E9 ce9 q9 H9 locs9 hxp9 hw9 hce9 hcv9 hcl9 => (by exfalso; first | exact hxp9 | omega | (rcases hxp9 with ⟨-, hq9⟩ | ⟨-, hq9⟩ | ⟨-, hq9⟩ <;> omega) | (rcases hxp9 with ⟨-, hq9⟩ | ⟨-, hq9⟩ <;> omega))) (fun r145 H locs hp145 hw => ?_)
                      have er145 := hp145.1
                      have hb145 := hsb r102 (by omega) (by omega)
                      rw [← er145] at hb145
                      refine lv_aload_n (pc := 148) hx hb dL_areClocksSound_148 rfl (lv_at hl 4 rfl) ?_
                      refine lv_iload_n (pc := 149) hx hb dL_areClocksSound_149 rfl (lv_at hl 5 rfl) ?_
                      refine lv_iload (pc := 150) hx hb dL_areClocksSound_150 (lv_at hl 0 rfl) ?_
                      refine ziconst (pc := 152) (n := 1) hx hb dL_areClocksSound_152 ?_
                      refine zsub (pc := 153) hx hb dL_areClocksSound_153 ?_
                      have hcd154 : cdPlM M pl (r102 - 1) = 0 := by unfold cdPlM; rw [if_pos (by omega)]
                      refine zxkIp (pc := 154) (zxrV (As := [.int (iI pl), .int (iI (r102 - 1))]) hx hb hml hown hG hX hw (c_X8_savingAt l hl9 Γ K X Rf x pl (r102 - 1) (ρ) M (by (first | assumption | omega)) (by (first | assumption | omega)) (by (first | assumption | omega))) (T := TX8) hC.1.1 rfl cb_X8_savingAt wl_L_99 rfl ⟨Nat.le_of_ble_eq_true rfl, Nat.le_of_ble_eq_true rfl⟩ hl.1 rfl (Nat.le_of_ble_eq_true rfl) dL_areClocksSound_154 ⟨(by show 0 + 2 + 1 + 1 + 1 + 2 + 2 + 1 + 2 + 2 + 2 ≤ 40; omega), (by show 0 + 12 + 6 + 6 + 6 + 12 + 12 + 6 + 12 + 12 + 12 ≤ 240; omega)⟩) hw (fun E9 ce9 q9 H9 locs9 hxp9 hw9 hce9 hcv9 hcl9 => (by exfalso; first | exact hxp9 | omega | (rcases hxp9 with ⟨-, hq9⟩ | ⟨-, hq9⟩ | ⟨-, hq9⟩ <;> omega) | (rcases hxp9 with ⟨-, hq9⟩ | ⟨-, hq9⟩ <;> omega))) (fun r154 H locs hp154 hw => ?_)
                      have er154 := hp154.1
                      have hb154 := hsb (r102 - 1) (by omega) (by omega)
                      rw [← er154] at hb154
                      have e154 : r145 ≠ r154 := by rw [er145, er154]; exact n3
                      refine zicmp_eq (pc := 157) hx hb 200 (by omega) (by omega) dL_areClocksSound_157 (by decide) (fun c157 => ?_) (fun c157 => ?_)
                      · skip
                        exfalso; omega
                      · skip
                        refine lv_aload_n (pc := 160) hx hb dL_areClocksSound_160 rfl (lv_at hl 4 rfl) ?_
                        refine lv_iload_n (pc := 161) hx hb dL_areClocksSound_161 rfl (lv_at hl 5 rfl) ?_
                        refine lv_iload (pc := 162) hx hb dL_areClocksSound_162 (lv_at hl 0 rfl) ?_
                        refine ziconst (pc := 164) (n := 1) hx hb dL_areClocksSound_164 ?_
                        refine zsub (pc := 165) hx hb dL_areClocksSound_165 ?_
                        refine zxkIp (pc := 166) (zxrV (As := [.int (iI pl), .int (iI (r102 - 1))]) hx hb hml hown hG hX hw (c_X8_savingAt l hl9 Γ K X Rf x pl (r102 - 1) (ρ) M (by (first | assumption | omega)) (by (first | assumption | omega)) (by (first | assumption | omega))) (T := TX8) hC.1.1 rfl cb_X8_savingAt wl_L_99 rfl ⟨Nat.le_of_ble_eq_true rfl, Nat.le_of_ble_eq_true rfl⟩ hl.1 rfl (Nat.le_of_ble_eq_true rfl) dL_areClocksSound_166 ⟨(by show 0 + 2 + 1 + 1 + 1 + 2 + 2 + 1 + 2 + 2 + 2 + 2 ≤ 40; omega), (by show 0 + 12 + 6 + 6 + 6 + 12 + 12 + 6 + 12 + 12 + 12 + 12 ≤ 240; omega)⟩) hw (fun E9 ce9 q9 H9 locs9 hxp9 hw9 hce9 hcv9 hcl9 => (by exfalso; first | exact hxp9 | omega | (rcases hxp9 with ⟨-, hq9⟩ | ⟨-, hq9⟩ | ⟨-, hq9⟩ <;> omega) | (rcases hxp9 with ⟨-, hq9⟩ | ⟨-, hq9⟩ <;> omega))) (fun r166 H locs hp166 hw => ?_)
                        have er166 := hp166.1
                        have hb166 := hsb (r102 - 1) (by omega) (by omega)
                        rw [← er166] at hb166
                        refine lv_aload_n (pc := 169) hx hb dL_areClocksSound_169 rfl (lv_at hl 4 rfl) ?_
                        refine lv_iload_n (pc := 170) hx hb dL_areClocksSound_170 rfl (lv_at hl 5 rfl) ?_
                        refine lv_iload_n (pc := 171) hx hb dL_areClocksSound_171 rfl (lv_at hl 6 rfl) ?_
                        refine zxkIp (pc := 172) (zxrV (As := [.int (iI pl), .int (iI mo)]) hx hb hml hown hG hX hw (c_X8_savingAt l hl9 Γ K X Rf x pl mo (ρ) M (by (first | assumption | omega)) (by (first | assumption | omega)) (by (first | assumption | omega))) (T := TX8) hC.1.1 rfl cb_X8_savingAt wl_L_99 rfl ⟨Nat.le_of_ble_eq_true rfl, Nat.le_of_ble_eq_true rfl⟩ hl.1 rfl (Nat.le_of_ble_eq_true rfl) dL_areClocksSound_172 ⟨(by show 0 + 2 + 1 + 1 + 1 + 2 + 2 + 1 + 2 + 2 + 2 + 2 + 2 ≤ 40; omega), (by show 0 + 12 + 6 + 6 + 6 + 12 + 12 + 6 + 12 + 12 + 12 + 12 + 12 ≤ 240; omega)⟩) hw (fun E9 ce9 q9 H9 locs9 hxp9 hw9 hce9 hcv9 hcl9 => (by exfalso; first | exact hxp9 | omega | (rcases hxp9 with ⟨-, hq9⟩ | ⟨-, hq9⟩ | ⟨-, hq9⟩ <;> omega) | (rcases hxp9 with ⟨-, hq9⟩ | ⟨-, hq9⟩ <;> omega))) (fun r172 H locs hp172 hw => ?_)
                        have er172 := hp172.1
                        have hb172 := hsb mo h1.2.1 h1.2.2
                        rw [← er172] at hb172
                        have e172 : r166 = r172 := by rw [er166, er172]; exact n4
                        refine zicmp_ne (pc := 175) hx hb 200 (by omega) (by omega) dL_areClocksSound_175 (by decide) (fun c175 => ?_) (fun c175 => ?_)
                        · skip
                          exfalso; omega
                        · skip
                          refine lv_aload_n (pc := 178) hx hb dL_areClocksSound_178 rfl (lv_at hl 4 rfl) ?_
                          refine lv_iload_n (pc := 179) hx hb dL_areClocksSound_179 rfl (lv_at hl 5 rfl) ?_
                          refine ziconst (pc := 180) (n := 0) hx hb dL_areClocksSound_180 ?_
                          refine lv_iload_n (pc := 181) hx hb dL_areClocksSound_181 rfl (lv_at hl 6 rfl) ?_
                          refine zxkIp (pc := 182) (zxrV (As := [.int (iI pl), .int (iI 0), .int (iI mo)]) hx hb hml hown hG hX hw (c_X8_ahead l hl9 Γ K X Rf x pl 0 mo (ρ) M (by (first | assumption | omega)) (by (first | assumption | omega)) (by (first | assumption | omega))) (T := TX8) hC.1.1 rfl cb_X8_ahead wl_L_102 rfl ⟨Nat.le_of_ble_eq_true rfl, Nat.le_of_ble_eq_true rfl⟩ hl.1 rfl (Nat.le_of_ble_eq_true rfl) dL_areClocksSound_182 ⟨(by show 0 + 2 + 1 + 1 + 1 + 2 + 2 + 1 + 2 + 2 + 2 + 2 + 2 + 3 ≤ 40; omega), (by show 0 + 12 + 6 + 6 + 6 + 12 + 12 + 6 + 12 + 12 + 12 + 12 + 12 + 18 ≤ 240; omega)⟩) hw (fun E9 ce9 q9 H9 locs9 hxp9 hw9 hce9 hcv9 hcl9 => (by exfalso; first | exact hxp9 | omega | (rcases hxp9 with ⟨-, hq9⟩ | ⟨-, hq9⟩ | ⟨-, hq9⟩ <;> omega) | (rcases hxp9 with ⟨-, hq9⟩ | ⟨-, hq9⟩ <;> omega))) (fun r182 H locs hp182 hw => ?_)
                          have er182 := hp182.1
                          have e182 : r182 = r3 - locM M 0 mo := by rw [er182, er3]
                          refine lv_iload_n (pc := 185) hx hb dL_areClocksSound_185 rfl (lv_at hl 3 rfl) ?_
                          refine lv_aload_n (pc := 186) hx hb dL_areClocksSound_186 rfl (lv_at hl 4 rfl) ?_
                          refine ziconst (pc := 187) (n := 0) hx hb dL_areClocksSound_187 ?_
                          refine lv_iload_n (pc := 188) hx hb dL_areClocksSound_188 rfl (lv_at hl 6 rfl) ?_
                          refine zxkIp (pc := 189) (zxrV (As := [.int (iI 0), .int (iI mo)]) hx hb hml hown hG hX hw (c_X8_localAt l hl9 Γ K X Rf x 0 mo (ρ) M (by (first | assumption | omega)) (by (first | assumption | omega)) (by (first | assumption | omega))) (T := TX8) hC.1.1 rfl cb_X8_localAt wl_L_83 rfl ⟨Nat.le_of_ble_eq_true rfl, Nat.le_of_ble_eq_true rfl⟩ hl.1 rfl (Nat.le_of_ble_eq_true rfl) dL_areClocksSound_189 ⟨(by show 0 + 2 + 1 + 1 + 1 + 2 + 2 + 1 + 2 + 2 + 2 + 2 + 2 + 3 + 2 ≤ 40; omega), (by show 0 + 12 + 6 + 6 + 6 + 12 + 12 + 6 + 12 + 12 + 12 + 12 + 12 + 18 + 12 ≤ 240; omega)⟩) hw (fun E9 ce9 q9 H9 locs9 hxp9 hw9 hce9 hcv9 hcl9 => (by exfalso; first | exact hxp9 | omega | (rcases hxp9 with ⟨-, hq9⟩ | ⟨-, hq9⟩ | ⟨-, hq9⟩ <;> omega) | (rcases hxp9 with ⟨-, hq9⟩ | ⟨-, hq9⟩ <;> omega))) (fun r189 H locs hp189 hw => ?_)
                          have er189 := hp189.1
                          rw [← er189] at e182 hlo0
                          refine zsub (pc := 192) hx hb dL_areClocksSound_192 ?_
                          refine zicmp_ne (pc := 193) hx hb 200 (by omega) (by omega) dL_areClocksSound_193 (by decide) (fun c193 => ?_) (fun c193 => ?_)
                          · skip
                            exfalso; omega
                          · skip
                            refine ziconst (pc := 196) (n := 1) hx hb dL_areClocksSound_196 ?_
                            refine lv_goto (pc := 197) (tgt := 201) hx hb dL_areClocksSound_197 (by decide) ?_
                            exact vx_ret (zretZ (pc := 201) hx hb hlocks hr (Or.inr rfl) hw (by show 0 + 2 + 1 + 1 + 1 + 2 + 2 + 1 + 2 + 2 + 2 + 2 + 2 + 3 + 2 ≤ 40; omega) (by show 0 + 12 + 6 + 6 + 6 + 12 + 12 + 6 + 12 + 12 + 12 + 12 + 12 + 18 + 12 ≤ 240; omega) dL_areClocksSound_201 ⟨by (try dsimp only) <;> (rfl), rfl, rfl, rfl⟩)
                  · skip
                    have hn9 := (hnx.resolve_right (fun q => by omega)).2
                    refine lv_aload_n (pc := 113) hx hb dL_areClocksSound_113 rfl (lv_at hl 4 rfl) ?_
                    refine lv_iload_n (pc := 114) hx hb dL_areClocksSound_114 rfl (lv_at hl 5 rfl) ?_
                    refine zldc (pc := 115) (n := 105190559) hx hb hown hG wk_L_98 dL_areClocksSound_115 ?_
                    refine zxkIp (pc := 117) (zxrV (As := [.int (iI pl), .int (iI 105190559)]) hx hb hml hown hG hX hw (c_X8_savingAt l hl9 Γ K X Rf x pl 105190559 (ρ) M (by (first | assumption | omega)) (by (first | assumption | omega)) (by (first | assumption | omega))) (T := TX8) hC.1.1 rfl cb_X8_savingAt wl_L_99 rfl ⟨Nat.le_of_ble_eq_true rfl, Nat.le_of_ble_eq_true rfl⟩ hl.1 rfl (Nat.le_of_ble_eq_true rfl) dL_areClocksSound_117 ⟨(by show 0 + 2 + 1 + 1 + 1 + 2 + 2 + 1 + 2 + 2 ≤ 40; omega), (by show 0 + 12 + 6 + 6 + 6 + 12 + 12 + 6 + 12 + 12 ≤ 240; omega)⟩) hw (fun E9 ce9 q9 H9 locs9 hxp9 hw9 hce9 hcv9 hcl9 => (by exfalso; first | exact hxp9 | omega | (rcases hxp9 with ⟨-, hq9⟩ | ⟨-, hq9⟩ | ⟨-, hq9⟩ <;> omega) | (rcases hxp9 with ⟨-, hq9⟩ | ⟨-, hq9⟩ <;> omega))) (fun r117 H locs hp117 hw => ?_)
                    have er117 := hp117.1
                    have hb117 := hsb 105190559 (by omega) (by omega)
                    rw [← er117] at hb117
                    refine lv_aload_n (pc := 120) hx hb dL_areClocksSound_120 rfl (lv_at hl 4 rfl) ?_
                    refine lv_iload_n (pc := 121) hx hb dL_areClocksSound_121 rfl (lv_at hl 5 rfl) ?_
                    refine lv_iload_n (pc := 122) hx hb dL_areClocksSound_122 rfl (lv_at hl 6 rfl) ?_
                    refine zxkIp (pc := 123) (zxrV (As := [.int (iI pl), .int (iI mo)]) hx hb hml hown hG hX hw (c_X8_savingAt l hl9 Γ K X Rf x pl mo (ρ) M (by (first | assumption | omega)) (by (first | assumption | omega)) (by (first | assumption | omega))) (T := TX8) hC.1.1 rfl cb_X8_savingAt wl_L_99 rfl ⟨Nat.le_of_ble_eq_true rfl, Nat.le_of_ble_eq_true rfl⟩ hl.1 rfl (Nat.le_of_ble_eq_true rfl) dL_areClocksSound_123 ⟨(by show 0 + 2 + 1 + 1 + 1 + 2 + 2 + 1 + 2 + 2 + 2 ≤ 40; omega), (by show 0 + 12 + 6 + 6 + 6 + 12 + 12 + 6 + 12 + 12 + 12 ≤ 240; omega)⟩) hw (fun E9 ce9 q9 H9 locs9 hxp9 hw9 hce9 hcv9 hcl9 => (by exfalso; first | exact hxp9 | omega | (rcases hxp9 with ⟨-, hq9⟩ | ⟨-, hq9⟩ | ⟨-, hq9⟩ <;> omega) | (rcases hxp9 with ⟨-, hq9⟩ | ⟨-, hq9⟩ <;> omega))) (fun r123 H locs hp123 hw => ?_)
                    have er123 := hp123.1
                    have hb123 := hsb mo h1.2.1 h1.2.2
                    rw [← er123] at hb123
                    have e123 : r117 = r123 := by rw [er117, er123]; exact hn9
                    refine zicmp_ne (pc := 126) hx hb 133 (by omega) (by omega) dL_areClocksSound_126 (by decide) (fun c126 => ?_) (fun c126 => ?_)
                    · skip
                      exfalso; omega
                    · skip
                      refine ziconst (pc := 129) (n := 1) hx hb dL_areClocksSound_129 ?_
                      refine lv_goto (pc := 130) (tgt := 134) hx hb dL_areClocksSound_130 (by decide) ?_
                      exact vx_ret (zretZ (pc := 134) hx hb hlocks hr (Or.inr rfl) hw (by show 0 + 2 + 1 + 1 + 1 + 2 + 2 + 1 + 2 + 2 + 2 ≤ 40; omega) (by show 0 + 12 + 6 + 6 + 6 + 12 + 12 + 6 + 12 + 12 + 12 ≤ 240; omega) dL_areClocksSound_134 ⟨by (try dsimp only) <;> (rfl), rfl, rfl, rfl⟩)
                · skip
                  exfalso; omega
              · skip
                exfalso; omega
            · skip
              refine ziconst (pc := 77) (n := 1) hx hb dL_areClocksSound_77 ?_
              refine lv_goto (pc := 78) (tgt := 82) hx hb dL_areClocksSound_78 (by decide) ?_
              refine lv_iload (pc := 82) hx hb dL_areClocksSound_82 (lv_at hl 1 rfl) ?_
              refine lv_iload (pc := 84) hx hb dL_areClocksSound_84 (lv_at hl 0 rfl) ?_
              refine zicmp_ne (pc := 86) hx hb 93 (by omega) (by omega) dL_areClocksSound_86 (by decide) (fun c86 => ?_) (fun c86 => ?_)
              · skip
                exfalso; omega
              · skip
                refine ziconst (pc := 89) (n := 1) hx hb dL_areClocksSound_89 ?_
                refine lv_goto (pc := 90) (tgt := 94) hx hb dL_areClocksSound_90 (by decide) ?_
                refine zicmp_eq (pc := 94) hx hb 99 (by omega) (by omega) dL_areClocksSound_94 (by decide) (fun c94 => ?_) (fun c94 => ?_)
                · skip
                  refine lv_aload_n (pc := 99) hx hb dL_areClocksSound_99 rfl (lv_at hl 3 rfl) ?_
                  refine lv_iload_n (pc := 100) hx hb dL_areClocksSound_100 rfl (lv_at hl 4 rfl) ?_
                  refine lv_iload_n (pc := 101) hx hb dL_areClocksSound_101 rfl (lv_at hl 5 rfl) ?_
                  refine zxkIp (pc := 102) (zxrV (As := [.int (iI pl), .int (iI mo)]) hx hb hml hown hG hX hw (c_X8_nextChange l hl9 Γ K X Rf x pl mo (ρ) M (by (first | assumption | omega)) (by (first | assumption | omega)) (by (first | assumption | omega))) (T := TX8) hC.1.1 rfl cb_X8_nextChange wl_L_95 rfl ⟨Nat.le_of_ble_eq_true rfl, Nat.le_of_ble_eq_true rfl⟩ hl.1 rfl (Nat.le_of_ble_eq_true rfl) dL_areClocksSound_102 ⟨(by show 0 + 2 + 1 + 1 + 1 + 2 + 2 + 1 + 2 ≤ 40; omega), (by show 0 + 12 + 6 + 6 + 6 + 12 + 12 + 6 + 12 ≤ 240; omega)⟩) hw (fun E9 ce9 q9 H9 locs9 hxp9 hw9 hce9 hcv9 hcl9 => (by exfalso; first | exact hxp9 | omega | (rcases hxp9 with ⟨-, hq9⟩ | ⟨-, hq9⟩ | ⟨-, hq9⟩ <;> omega) | (rcases hxp9 with ⟨-, hq9⟩ | ⟨-, hq9⟩ <;> omega))) (fun r102 H locs hp102 hw => ?_)
                  have er102 := hp102.1
                  rw [← er102] at hnx
                  refine lv_istore (pc := 105) (lv' := [(6, .int (iI r102)), (5, .int (iI r18)), (4, .int (iI r10)), (3, .int (iI r3)), (0, .ref x), (1, .int (iI pl)), (2, .int (iI mo))]) hx hb dL_areClocksSound_105 hl (by decide) rfl (fun ls hl => ?_)
                  refine lv_iload (pc := 107) hx hb dL_areClocksSound_107 (lv_at hl 0 rfl) ?_
                  refine ziconst (pc := 109) (n := (-1)) hx hb dL_areClocksSound_109 ?_
                  refine zicmp_ne (pc := 110) hx hb 135 (by omega) (by omega) dL_areClocksSound_110 (by decide) (fun c110 => ?_) (fun c110 => ?_)
                  · skip
                    obtain ⟨n1, n2, n3, n4⟩ := hnx.resolve_left (fun q => c110 q.1)
                    refine lv_iload (pc := 135) hx hb dL_areClocksSound_135 (lv_at hl 0 rfl) ?_
                    refine lv_iload_n (pc := 137) hx hb dL_areClocksSound_137 rfl (lv_at hl 6 rfl) ?_
                    refine zicmp_le (pc := 138) hx hb 200 (by omega) (by omega) dL_areClocksSound_138 (by decide) (fun c138 => ?_) (fun c138 => ?_)
                    · skip
                      exfalso; omega
                    · skip
                      refine lv_aload_n (pc := 141) hx hb dL_areClocksSound_141 rfl (lv_at hl 4 rfl) ?_
                      refine lv_iload_n (pc := 142) hx hb dL_areClocksSound_142 rfl (lv_at hl 5 rfl) ?_
                      refine lv_iload (pc := 143) hx hb dL_areClocksSound_143 (lv_at hl 0 rfl) ?_
                      have hcd145 : cdPlM M pl r102 = 0 := by unfold cdPlM; rw [if_pos (by omega)]
                      refine zxkIp (pc := 145) (zxrV (As := [.int (iI pl), .int (iI r102)]) hx hb hml hown hG hX hw (c_X8_savingAt l hl9 Γ K X Rf x pl r102 (ρ) M (by (first | assumption | omega)) (by (first | assumption | omega)) (by (first | assumption | omega))) (T := TX8) hC.1.1 rfl cb_X8_savingAt wl_L_99 rfl ⟨Nat.le_of_ble_eq_true rfl, Nat.le_of_ble_eq_true rfl⟩ hl.1 rfl (Nat.le_of_ble_eq_true rfl) dL_areClocksSound_145 ⟨(by show 0 + 2 + 1 + 1 + 1 + 2 + 2 + 1 + 2 + 2 ≤ 40; omega), (by show 0 + 12 + 6 + 6 + 6 + 12 + 12 + 6 + 12 + 12 ≤ 240; omega)⟩) hw (fun E9 ce9 q9 H9 locs9 hxp9 hw9 hce9 hcv9 hcl9 => (by exfalso; first | exact hxp9 | omega | (rcases hxp9 with ⟨-, hq9⟩ | ⟨-, hq9⟩ | ⟨-, hq9⟩ <;> omega) | (rcases hxp9 with ⟨-, hq9⟩ | ⟨-, hq9⟩ <;> omega))) (fun r145 H locs hp145 hw => ?_)
                      have er145 := hp145.1
                      have hb145 := hsb r102 (by omega) (by omega)
                      rw [← er145] at hb145
                      refine lv_aload_n (pc := 148) hx hb dL_areClocksSound_148 rfl (lv_at hl 4 rfl) ?_
                      refine lv_iload_n (pc := 149) hx hb dL_areClocksSound_149 rfl (lv_at hl 5 rfl) ?_
                      refine lv_iload (pc := 150) hx hb dL_areClocksSound_150 (lv_at hl 0 rfl) ?_
                      refine ziconst (pc := 152) (n := 1) hx hb dL_areClocksSound_152 ?_
                      refine zsub (pc := 153) hx hb dL_areClocksSound_153 ?_
                      have hcd154 : cdPlM M pl (r102 - 1) = 0 := by unfold cdPlM; rw [if_pos (by omega)]
                      refine zxkIp (pc := 154) (zxrV (As := [.int (iI pl), .int (iI (r102 - 1))]) hx hb hml hown hG hX hw (c_X8_savingAt l hl9 Γ K X Rf x pl (r102 - 1) (ρ) M (by (first | assumption | omega)) (by (first | assumption | omega)) (by (first | assumption | omega))) (T := TX8) hC.1.1 rfl cb_X8_savingAt wl_L_99 rfl ⟨Nat.le_of_ble_eq_true rfl, Nat.le_of_ble_eq_true rfl⟩ hl.1 rfl (Nat.le_of_ble_eq_true rfl) dL_areClocksSound_154 ⟨(by show 0 + 2 + 1 + 1 + 1 + 2 + 2 + 1 + 2 + 2 + 2 ≤ 40; omega), (by show 0 + 12 + 6 + 6 + 6 + 12 + 12 + 6 + 12 + 12 + 12 ≤ 240; omega)⟩) hw (fun E9 ce9 q9 H9 locs9 hxp9 hw9 hce9 hcv9 hcl9 => (by exfalso; first | exact hxp9 | omega | (rcases hxp9 with ⟨-, hq9⟩ | ⟨-, hq9⟩ | ⟨-, hq9⟩ <;> omega) | (rcases hxp9 with ⟨-, hq9⟩ | ⟨-, hq9⟩ <;> omega))) (fun r154 H locs hp154 hw => ?_)
                      have er154 := hp154.1
                      have hb154 := hsb (r102 - 1) (by omega) (by omega)
                      rw [← er154] at hb154
                      have e154 : r145 ≠ r154 := by rw [er145, er154]; exact n3
                      refine zicmp_eq (pc := 157) hx hb 200 (by omega) (by omega) dL_areClocksSound_157 (by decide) (fun c157 => ?_) (fun c157 => ?_)
                      · skip
                        exfalso; omega
                      · skip
                        refine lv_aload_n (pc := 160) hx hb dL_areClocksSound_160 rfl (lv_at hl 4 rfl) ?_
                        refine lv_iload_n (pc := 161) hx hb dL_areClocksSound_161 rfl (lv_at hl 5 rfl) ?_
                        refine lv_iload (pc := 162) hx hb dL_areClocksSound_162 (lv_at hl 0 rfl) ?_
                        refine ziconst (pc := 164) (n := 1) hx hb dL_areClocksSound_164 ?_
                        refine zsub (pc := 165) hx hb dL_areClocksSound_165 ?_
                        refine zxkIp (pc := 166) (zxrV (As := [.int (iI pl), .int (iI (r102 - 1))]) hx hb hml hown hG hX hw (c_X8_savingAt l hl9 Γ K X Rf x pl (r102 - 1) (ρ) M (by (first | assumption | omega)) (by (first | assumption | omega)) (by (first | assumption | omega))) (T := TX8) hC.1.1 rfl cb_X8_savingAt wl_L_99 rfl ⟨Nat.le_of_ble_eq_true rfl, Nat.le_of_ble_eq_true rfl⟩ hl.1 rfl (Nat.le_of_ble_eq_true rfl) dL_areClocksSound_166 ⟨(by show 0 + 2 + 1 + 1 + 1 + 2 + 2 + 1 + 2 + 2 + 2 + 2 ≤ 40; omega), (by show 0 + 12 + 6 + 6 + 6 + 12 + 12 + 6 + 12 + 12 + 12 + 12 ≤ 240; omega)⟩) hw (fun E9 ce9 q9 H9 locs9 hxp9 hw9 hce9 hcv9 hcl9 => (by exfalso; first | exact hxp9 | omega | (rcases hxp9 with ⟨-, hq9⟩ | ⟨-, hq9⟩ | ⟨-, hq9⟩ <;> omega) | (rcases hxp9 with ⟨-, hq9⟩ | ⟨-, hq9⟩ <;> omega))) (fun r166 H locs hp166 hw => ?_)
                        have er166 := hp166.1
                        have hb166 := hsb (r102 - 1) (by omega) (by omega)
                        rw [← er166] at hb166
                        refine lv_aload_n (pc := 169) hx hb dL_areClocksSound_169 rfl (lv_at hl 4 rfl) ?_
                        refine lv_iload_n (pc := 170) hx hb dL_areClocksSound_170 rfl (lv_at hl 5 rfl) ?_
                        refine lv_iload_n (pc := 171) hx hb dL_areClocksSound_171 rfl (lv_at hl 6 rfl) ?_
                        refine zxkIp (pc := 172) (zxrV (As := [.int (iI pl), .int (iI mo)]) hx hb hml hown hG hX hw (c_X8_savingAt l hl9 Γ K X Rf x pl mo (ρ) M (by (first | assumption | omega)) (by (first | assumption | omega)) (by (first | assumption | omega))) (T := TX8) hC.1.1 rfl cb_X8_savingAt wl_L_99 rfl ⟨Nat.le_of_ble_eq_true rfl, Nat.le_of_ble_eq_true rfl⟩ hl.1 rfl (Nat.le_of_ble_eq_true rfl) dL_areClocksSound_172 ⟨(by show 0 + 2 + 1 + 1 + 1 + 2 + 2 + 1 + 2 + 2 + 2 + 2 + 2 ≤ 40; omega), (by show 0 + 12 + 6 + 6 + 6 + 12 + 12 + 6 + 12 + 12 + 12 + 12 + 12 ≤ 240; omega)⟩) hw (fun E9 ce9 q9 H9 locs9 hxp9 hw9 hce9 hcv9 hcl9 => (by exfalso; first | exact hxp9 | omega | (rcases hxp9 with ⟨-, hq9⟩ | ⟨-, hq9⟩ | ⟨-, hq9⟩ <;> omega) | (rcases hxp9 with ⟨-, hq9⟩ | ⟨-, hq9⟩ <;> omega))) (fun r172 H locs hp172 hw => ?_)
                        have er172 := hp172.1
                        have hb172 := hsb mo h1.2.1 h1.2.2
                        rw [← er172] at hb172
                        have e172 : r166 = r172 := by rw [er166, er172]; exact n4
                        refine zicmp_ne (pc := 175) hx hb 200 (by omega) (by omega) dL_areClocksSound_175 (by decide) (fun c175 => ?_) (fun c175 => ?_)
                        · skip
                          exfalso; omega
                        · skip
                          refine lv_aload_n (pc := 178) hx hb dL_areClocksSound_178 rfl (lv_at hl 4 rfl) ?_
                          refine lv_iload_n (pc := 179) hx hb dL_areClocksSound_179 rfl (lv_at hl 5 rfl) ?_
                          refine ziconst (pc := 180) (n := 0) hx hb dL_areClocksSound_180 ?_
                          refine lv_iload_n (pc := 181) hx hb dL_areClocksSound_181 rfl (lv_at hl 6 rfl) ?_
                          refine zxkIp (pc := 182) (zxrV (As := [.int (iI pl), .int (iI 0), .int (iI mo)]) hx hb hml hown hG hX hw (c_X8_ahead l hl9 Γ K X Rf x pl 0 mo (ρ) M (by (first | assumption | omega)) (by (first | assumption | omega)) (by (first | assumption | omega))) (T := TX8) hC.1.1 rfl cb_X8_ahead wl_L_102 rfl ⟨Nat.le_of_ble_eq_true rfl, Nat.le_of_ble_eq_true rfl⟩ hl.1 rfl (Nat.le_of_ble_eq_true rfl) dL_areClocksSound_182 ⟨(by show 0 + 2 + 1 + 1 + 1 + 2 + 2 + 1 + 2 + 2 + 2 + 2 + 2 + 3 ≤ 40; omega), (by show 0 + 12 + 6 + 6 + 6 + 12 + 12 + 6 + 12 + 12 + 12 + 12 + 12 + 18 ≤ 240; omega)⟩) hw (fun E9 ce9 q9 H9 locs9 hxp9 hw9 hce9 hcv9 hcl9 => (by exfalso; first | exact hxp9 | omega | (rcases hxp9 with ⟨-, hq9⟩ | ⟨-, hq9⟩ | ⟨-, hq9⟩ <;> omega) | (rcases hxp9 with ⟨-, hq9⟩ | ⟨-, hq9⟩ <;> omega))) (fun r182 H locs hp182 hw => ?_)
                          have er182 := hp182.1
                          have e182 : r182 = r3 - locM M 0 mo := by rw [er182, er3]
                          refine lv_iload_n (pc := 185) hx hb dL_areClocksSound_185 rfl (lv_at hl 3 rfl) ?_
                          refine lv_aload_n (pc := 186) hx hb dL_areClocksSound_186 rfl (lv_at hl 4 rfl) ?_
                          refine ziconst (pc := 187) (n := 0) hx hb dL_areClocksSound_187 ?_
                          refine lv_iload_n (pc := 188) hx hb dL_areClocksSound_188 rfl (lv_at hl 6 rfl) ?_
                          refine zxkIp (pc := 189) (zxrV (As := [.int (iI 0), .int (iI mo)]) hx hb hml hown hG hX hw (c_X8_localAt l hl9 Γ K X Rf x 0 mo (ρ) M (by (first | assumption | omega)) (by (first | assumption | omega)) (by (first | assumption | omega))) (T := TX8) hC.1.1 rfl cb_X8_localAt wl_L_83 rfl ⟨Nat.le_of_ble_eq_true rfl, Nat.le_of_ble_eq_true rfl⟩ hl.1 rfl (Nat.le_of_ble_eq_true rfl) dL_areClocksSound_189 ⟨(by show 0 + 2 + 1 + 1 + 1 + 2 + 2 + 1 + 2 + 2 + 2 + 2 + 2 + 3 + 2 ≤ 40; omega), (by show 0 + 12 + 6 + 6 + 6 + 12 + 12 + 6 + 12 + 12 + 12 + 12 + 12 + 18 + 12 ≤ 240; omega)⟩) hw (fun E9 ce9 q9 H9 locs9 hxp9 hw9 hce9 hcv9 hcl9 => (by exfalso; first | exact hxp9 | omega | (rcases hxp9 with ⟨-, hq9⟩ | ⟨-, hq9⟩ | ⟨-, hq9⟩ <;> omega) | (rcases hxp9 with ⟨-, hq9⟩ | ⟨-, hq9⟩ <;> omega))) (fun r189 H locs hp189 hw => ?_)
                          have er189 := hp189.1
                          rw [← er189] at e182 hlo0
                          refine zsub (pc := 192) hx hb dL_areClocksSound_192 ?_
                          refine zicmp_ne (pc := 193) hx hb 200 (by omega) (by omega) dL_areClocksSound_193 (by decide) (fun c193 => ?_) (fun c193 => ?_)
                          · skip
                            exfalso; omega
                          · skip
                            refine ziconst (pc := 196) (n := 1) hx hb dL_areClocksSound_196 ?_
                            refine lv_goto (pc := 197) (tgt := 201) hx hb dL_areClocksSound_197 (by decide) ?_
                            exact vx_ret (zretZ (pc := 201) hx hb hlocks hr (Or.inr rfl) hw (by show 0 + 2 + 1 + 1 + 1 + 2 + 2 + 1 + 2 + 2 + 2 + 2 + 2 + 3 + 2 ≤ 40; omega) (by show 0 + 12 + 6 + 6 + 6 + 12 + 12 + 6 + 12 + 12 + 12 + 12 + 12 + 18 + 12 ≤ 240; omega) dL_areClocksSound_201 ⟨by (try dsimp only) <;> (rfl), rfl, rfl, rfl⟩)
                  · skip
                    have hn9 := (hnx.resolve_right (fun q => by omega)).2
                    refine lv_aload_n (pc := 113) hx hb dL_areClocksSound_113 rfl (lv_at hl 4 rfl) ?_
                    refine lv_iload_n (pc := 114) hx hb dL_areClocksSound_114 rfl (lv_at hl 5 rfl) ?_
                    refine zldc (pc := 115) (n := 105190559) hx hb hown hG wk_L_98 dL_areClocksSound_115 ?_
                    refine zxkIp (pc := 117) (zxrV (As := [.int (iI pl), .int (iI 105190559)]) hx hb hml hown hG hX hw (c_X8_savingAt l hl9 Γ K X Rf x pl 105190559 (ρ) M (by (first | assumption | omega)) (by (first | assumption | omega)) (by (first | assumption | omega))) (T := TX8) hC.1.1 rfl cb_X8_savingAt wl_L_99 rfl ⟨Nat.le_of_ble_eq_true rfl, Nat.le_of_ble_eq_true rfl⟩ hl.1 rfl (Nat.le_of_ble_eq_true rfl) dL_areClocksSound_117 ⟨(by show 0 + 2 + 1 + 1 + 1 + 2 + 2 + 1 + 2 + 2 ≤ 40; omega), (by show 0 + 12 + 6 + 6 + 6 + 12 + 12 + 6 + 12 + 12 ≤ 240; omega)⟩) hw (fun E9 ce9 q9 H9 locs9 hxp9 hw9 hce9 hcv9 hcl9 => (by exfalso; first | exact hxp9 | omega | (rcases hxp9 with ⟨-, hq9⟩ | ⟨-, hq9⟩ | ⟨-, hq9⟩ <;> omega) | (rcases hxp9 with ⟨-, hq9⟩ | ⟨-, hq9⟩ <;> omega))) (fun r117 H locs hp117 hw => ?_)
                    have er117 := hp117.1
                    have hb117 := hsb 105190559 (by omega) (by omega)
                    rw [← er117] at hb117
                    refine lv_aload_n (pc := 120) hx hb dL_areClocksSound_120 rfl (lv_at hl 4 rfl) ?_
                    refine lv_iload_n (pc := 121) hx hb dL_areClocksSound_121 rfl (lv_at hl 5 rfl) ?_
                    refine lv_iload_n (pc := 122) hx hb dL_areClocksSound_122 rfl (lv_at hl 6 rfl) ?_
                    refine zxkIp (pc := 123) (zxrV (As := [.int (iI pl), .int (iI mo)]) hx hb hml hown hG hX hw (c_X8_savingAt l hl9 Γ K X Rf x pl mo (ρ) M (by (first | assumption | omega)) (by (first | assumption | omega)) (by (first | assumption | omega))) (T := TX8) hC.1.1 rfl cb_X8_savingAt wl_L_99 rfl ⟨Nat.le_of_ble_eq_true rfl, Nat.le_of_ble_eq_true rfl⟩ hl.1 rfl (Nat.le_of_ble_eq_true rfl) dL_areClocksSound_123 ⟨(by show 0 + 2 + 1 + 1 + 1 + 2 + 2 + 1 + 2 + 2 + 2 ≤ 40; omega), (by show 0 + 12 + 6 + 6 + 6 + 12 + 12 + 6 + 12 + 12 + 12 ≤ 240; omega)⟩) hw (fun E9 ce9 q9 H9 locs9 hxp9 hw9 hce9 hcv9 hcl9 => (by exfalso; first | exact hxp9 | omega | (rcases hxp9 with ⟨-, hq9⟩ | ⟨-, hq9⟩ | ⟨-, hq9⟩ <;> omega) | (rcases hxp9 with ⟨-, hq9⟩ | ⟨-, hq9⟩ <;> omega))) (fun r123 H locs hp123 hw => ?_)
                    have er123 := hp123.1
                    have hb123 := hsb mo h1.2.1 h1.2.2
                    rw [← er123] at hb123
                    have e123 : r117 = r123 := by rw [er117, er123]; exact hn9
                    refine zicmp_ne (pc := 126) hx hb 133 (by omega) (by omega) dL_areClocksSound_126 (by decide) (fun c126 => ?_) (fun c126 => ?_)
                    · skip
                      exfalso; omega
                    · skip
                      refine ziconst (pc := 129) (n := 1) hx hb dL_areClocksSound_129 ?_
                      refine lv_goto (pc := 130) (tgt := 134) hx hb dL_areClocksSound_130 (by decide) ?_
                      exact vx_ret (zretZ (pc := 134) hx hb hlocks hr (Or.inr rfl) hw (by show 0 + 2 + 1 + 1 + 1 + 2 + 2 + 1 + 2 + 2 + 2 ≤ 40; omega) (by show 0 + 12 + 6 + 6 + 6 + 12 + 12 + 6 + 12 + 12 + 12 ≤ 240; omega) dL_areClocksSound_134 ⟨by (try dsimp only) <;> (rfl), rfl, rfl, rfl⟩)
                · skip
                  exfalso; omega
