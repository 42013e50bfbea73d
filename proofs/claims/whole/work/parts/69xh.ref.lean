set_option maxHeartbeats 4000000 in
set_option maxRecDepth 100000 in
theorem c_X9_addTurn (l : Launch) (Γ : zG) (K : zK) (X : zX) (Rf : zR) (md : Nat) (a : Int) (fy : Int) (ly : Int) (b9 : Int) (mn : Int) (cl : Int) (sv : Int) (ρ : zL) (M : zM) (hR : repR ρ K X Rf md M) (hM : okM M) (h1 : fit a ∧ fit fy ∧ fit ly ∧ fit b9) (h2 : fit mn ∧ fit cl ∧ fit sv) : Ct l yX9_addTurn cX9_addTurn 9 (some .int) 2 1 6 Γ [.ref md, .int (iI a), .int (iI fy), .int (iI ly), .int (iI b9), .int (iI mn), .int (iI cl), .int (iI sv)] K X Rf (pI (fun (r : Int) (K' : zK) (X' : zX) (R' : zR) => (cdAtu M a fy ly b9 mn cl sv = 0 → r = M 7 a.toNat) ∧ X' md 0 = cdAtu M a fy ly b9 mn cl sv ∧ ∃ ρ', repR ρ' K' X' R' md (if cdAtu M a fy ly b9 mn cl sv = 0 then tuM M a.toNat fy ly b9 mn cl sv else M) ∧ frR ρ K X Rf ρ' K' X' R' ∧ ptR X' R' md ≤ ptR X Rf md + 5000)) := by
  refine Ct.of (by decide +kernel) (Nat.le_of_ble_eq_true rfl) ?_
  intro p e s m below meth c ls hx hb hr hml hown hG hlocks hname hw hl
  have hl : lv_has ls 9 [(0, .ref md), (1, .int (iI a)), (2, .int (iI fy)), (3, .int (iI ly)), (4, .int (iI b9)), (5, .int (iI mn)), (6, .int (iI cl)), (7, .int (iI sv))] := hl
  obtain ⟨hmd, hlmd⟩ := id hR.1
  obtain ⟨⟨hb1, hb2, hb3, hb4⟩, hokP, hokL, hokS, hokW, hokF⟩ := id hM
  have hq1 : X md 1 = M 40 1 := hR.2.1 1 rfl
  have hq5 : X md 5 = M 40 5 := hR.2.1 5 rfl
  have hq16 : X md 16 = M 40 16 := hR.2.1 16 rfl
  have hq25 : X md 25 = M 40 25 := hR.2.1 25 rfl
  have hq26 : X md 26 = M 40 26 := hR.2.1 26 rfl
  have hq27 : X md 27 = M 40 27 := hR.2.1 27 rfl
  have hq28 : X md 28 = M 40 28 := hR.2.1 28 rfl
  have hq29 : X md 29 = M 40 29 := hR.2.1 29 rfl
  obtain ⟨a2, hB2, hA2, hL2, hD2⟩ : ∃ a, Rf md 2 = some a ∧ K a = (2, 24) ∧ ρ a = 2003 ∧ X a = M 2 := hR.fd 2 (by decide) rfl
  have hN2 : Apt a2 md := zkn2 hA2 hmd (by simp)
  obtain ⟨a3, hB3, hA3, hL3, hD3⟩ : ∃ a, Rf md 3 = some a ∧ K a = (2, 24) ∧ ρ a = 2004 ∧ X a = M 3 := hR.fd 3 (by decide) rfl
  have hN3 : Apt a3 md := zkn2 hA3 hmd (by simp)
  obtain ⟨a7, hB7, hA7, hL7, hD7⟩ : ∃ a, Rf md 7 = some a ∧ K a = (2, 6) ∧ ρ a = 2008 ∧ X a = M 7 := hR.fd 7 (by decide) rfl
  have hN7 : Apt a7 md := zkn2 hA7 hmd (by simp)
  obtain ⟨a8, hB8, hA8, hL8, hD8⟩ : ∃ a, Rf md 8 = some a ∧ K a = (2, 216) ∧ ρ a = 2009 ∧ X a = M 8 := hR.fd 8 (by decide) rfl
  have hN8 : Apt a8 md := zkn2 hA8 hmd (by simp)
  obtain ⟨a9, hB9, hA9, hL9⟩ : ∃ a, Rf md 9 = some a ∧ K a = (2, 6) ∧ ρ a = 2010 := hR.ff 9 (by decide)
  have hN9 : Apt a9 md := zkn2 hA9 hmd (by simp)
  refine lv_aload_n (pc := 0) hx hb dX9_addTurn_0 rfl (lv_at hl 0 rfl) ?_
  refine ziconst (pc := 1) (n := 0) hx hb dX9_addTurn_1 ?_
  refine zputI (pc := 2) hx hb hG hown hw hmd (T := TX9) rfl 0 (by decide) rfl wf_X9_87 rfl (by decide +kernel) rfl dX9_addTurn_2 (fun H locs hw => ?_)
  obtain ⟨X2, eX2⟩ : ∃ Y : zX, Y = up2 X md 0 0 := ⟨_, rfl⟩
  rw [← eX2] at hw
  have hE2 : X2 a2 = M 2 := by rw [eX2, up2_o hN2]; exact hD2
  have hE3 : X2 a3 = M 3 := by rw [eX2, up2_o hN3]; exact hD3
  have hE7 : X2 a7 = M 7 := by rw [eX2, up2_o hN7]; exact hD7
  have hE8 : X2 a8 = M 8 := by rw [eX2, up2_o hN8]; exact hD8
  have hz1 : X2 md 1 = M 40 1 := by rw [eX2, up2_k (by decide)]; exact hq1
  have hz5 : X2 md 5 = M 40 5 := by rw [eX2, up2_k (by decide)]; exact hq5
  refine lv_aload_n (pc := 5) hx hb dX9_addTurn_5 rfl (lv_at hl 0 rfl) ?_
  refine lv_iload_n (pc := 6) hx hb dX9_addTurn_6 rfl (lv_at hl 1 rfl) ?_
  refine zkIp (pc := 7) (zrV (As := [.int (iI a)]) hx hb hml hown hG hw (c_X9_isPlace l Γ K X2 Rf md a  (by (first | assumption | omega)) (by (first | assumption | omega))) (T := TX9) hmd rfl cb_X9_isPlace wl_X9_161 rfl ⟨Nat.le_of_ble_eq_true rfl, Nat.le_of_ble_eq_true rfl⟩ hl.1 rfl (Nat.le_of_ble_eq_true rfl) dX9_addTurn_7 ⟨Nat.zero_le _, Nat.zero_le _⟩) hw (fun r7 H locs hp7 hw => ?_)
  subst hp7
  refine zif_eq (pc := 10) hx hb 22 (by omega) dX9_addTurn_10 (by decide) (fun c10 => ?_) (fun c10 => ?_)
  · skip
    replace c10 := it0 c10
    refine lv_aload_n (pc := 22) hx hb dX9_addTurn_22 rfl (lv_at hl 0 rfl) ?_
    refine ziconst (pc := 23) (n := 1) hx hb dX9_addTurn_23 ?_
    refine zkIx (pc := 24) (zrV (As := [.int (iI 1)]) hx hb hml hown hG hw (c_X9_refuse l Γ K X2 Rf md 1  (by (first | assumption | omega))) (T := TX9) hmd rfl cb_X9_refuse wl_X9_123 rfl ⟨Nat.le_of_ble_eq_true rfl, Nat.le_of_ble_eq_true rfl⟩ hl.1 rfl (Nat.le_of_ble_eq_true rfl) dX9_addTurn_24 ⟨Nat.zero_le _, Nat.zero_le _⟩) hw (fun r24 X24 H locs hp24 hw => ?_)
    obtain ⟨hrf24, eX24⟩ := hp24
    exact zretI (pc := 27) hx hb hlocks hr hw (Nat.zero_le _) (Nat.zero_le _) dX9_addTurn_27 (by refine ⟨fun hz => by (exfalso; revert hz; (unfold cdAtu; (repeat' split) <;> omega)), ?_⟩; exact hR.no (by (unfold cdAtu; (repeat' split) <;> omega)) (by rw [eX24]; (try rw [eX2]); (try rw [up2_up2]); exact thr_c (by (unfold cdAtu; (repeat' split) <;> omega))))
  · skip
    replace c10 := it1 c10
    refine lv_aload_n (pc := 13) hx hb dX9_addTurn_13 rfl (lv_at hl 0 rfl) ?_
    refine lv_iload (pc := 14) hx hb dX9_addTurn_14 (lv_at hl 4 rfl) ?_
    refine zkIp (pc := 16) (zrV (As := [.int (iI b9)]) hx hb hml hown hG hw (c_X9_isPattern l Γ K X2 Rf md b9  (by (first | assumption | omega)) (by (first | assumption | omega))) (T := TX9) hmd rfl cb_X9_isPattern wl_X9_148 rfl ⟨Nat.le_of_ble_eq_true rfl, Nat.le_of_ble_eq_true rfl⟩ hl.1 rfl (Nat.le_of_ble_eq_true rfl) dX9_addTurn_16 ⟨Nat.zero_le _, Nat.zero_le _⟩) hw (fun r16 H locs hp16 hw => ?_)
    subst hp16
    refine zif_ne (pc := 19) hx hb 28 (by omega) dX9_addTurn_19 (by decide) (fun c19 => ?_) (fun c19 => ?_)
    · skip
      replace c19 := it1 c19
      refine lv_iload_n (pc := 28) hx hb dX9_addTurn_28 rfl (lv_at hl 2 rfl) ?_
      refine zkIp (pc := 29) (zrS (As := [.int (iI fy)]) hx hb hml hown hG hw (c_X9_isYear l Γ K X2 Rf fy  (by (first | assumption | omega))) cb_X9_isYear wl_X9_119 rfl ⟨Nat.le_of_ble_eq_true rfl, Nat.le_of_ble_eq_true rfl⟩ hl.1 rfl (Nat.le_of_ble_eq_true rfl) dX9_addTurn_29 ⟨Nat.zero_le _, Nat.zero_le _⟩) hw (fun r29 H locs hp29 hw => ?_)
      subst hp29
      refine zif_eq (pc := 32) hx hb 102 (by omega) dX9_addTurn_32 (by decide) (fun c32 => ?_) (fun c32 => ?_)
      · skip
        replace c32 := it0 c32
        refine lv_aload_n (pc := 102) hx hb dX9_addTurn_102 rfl (lv_at hl 0 rfl) ?_
        refine ziconst (pc := 103) (n := 2) hx hb dX9_addTurn_103 ?_
        refine zkIx (pc := 104) (zrV (As := [.int (iI 2)]) hx hb hml hown hG hw (c_X9_refuse l Γ K X2 Rf md 2  (by (first | assumption | omega))) (T := TX9) hmd rfl cb_X9_refuse wl_X9_123 rfl ⟨Nat.le_of_ble_eq_true rfl, Nat.le_of_ble_eq_true rfl⟩ hl.1 rfl (Nat.le_of_ble_eq_true rfl) dX9_addTurn_104 ⟨Nat.zero_le _, Nat.zero_le _⟩) hw (fun r104 X104 H locs hp104 hw => ?_)
        obtain ⟨hrf104, eX104⟩ := hp104
        exact zretI (pc := 107) hx hb hlocks hr hw (Nat.zero_le _) (Nat.zero_le _) dX9_addTurn_107 (by refine ⟨fun hz => by (exfalso; revert hz; (unfold cdAtu; (repeat' split) <;> omega)), ?_⟩; exact hR.no (by (unfold cdAtu; (repeat' split) <;> omega)) (by rw [eX104]; (try rw [eX2]); (try rw [up2_up2]); exact thr_c (by (unfold cdAtu; (repeat' split) <;> omega))))
      · skip
        replace c32 := it1 c32
        refine lv_iload_n (pc := 35) hx hb dX9_addTurn_35 rfl (lv_at hl 3 rfl) ?_
        refine lv_iload_n (pc := 36) hx hb dX9_addTurn_36 rfl (lv_at hl 2 rfl) ?_
        refine zsipush (pc := 37) (n := 2099) hx hb dX9_addTurn_37 rfl ?_
        refine zkIp (pc := 40) (zrS (As := [.int (iI ly), .int (iI fy), .int (iI 2099)]) hx hb hml hown hG hw (c_X9_is l Γ K X2 Rf ly fy 2099  (by (first | assumption | omega))) cb_X9_is wl_X9_91 rfl ⟨Nat.le_of_ble_eq_true rfl, Nat.le_of_ble_eq_true rfl⟩ hl.1 rfl (Nat.le_of_ble_eq_true rfl) dX9_addTurn_40 ⟨Nat.zero_le _, Nat.zero_le _⟩) hw (fun r40 H locs hp40 hw => ?_)
        subst hp40
        refine zif_eq (pc := 43) hx hb 102 (by omega) dX9_addTurn_43 (by decide) (fun c43 => ?_) (fun c43 => ?_)
        · skip
          replace c43 := it0 c43
          refine lv_aload_n (pc := 102) hx hb dX9_addTurn_102 rfl (lv_at hl 0 rfl) ?_
          refine ziconst (pc := 103) (n := 2) hx hb dX9_addTurn_103 ?_
          refine zkIx (pc := 104) (zrV (As := [.int (iI 2)]) hx hb hml hown hG hw (c_X9_refuse l Γ K X2 Rf md 2  (by (first | assumption | omega))) (T := TX9) hmd rfl cb_X9_refuse wl_X9_123 rfl ⟨Nat.le_of_ble_eq_true rfl, Nat.le_of_ble_eq_true rfl⟩ hl.1 rfl (Nat.le_of_ble_eq_true rfl) dX9_addTurn_104 ⟨Nat.zero_le _, Nat.zero_le _⟩) hw (fun r104 X104 H locs hp104 hw => ?_)
          obtain ⟨hrf104, eX104⟩ := hp104
          exact zretI (pc := 107) hx hb hlocks hr hw (Nat.zero_le _) (Nat.zero_le _) dX9_addTurn_107 (by refine ⟨fun hz => by (exfalso; revert hz; (unfold cdAtu; (repeat' split) <;> omega)), ?_⟩; exact hR.no (by (unfold cdAtu; (repeat' split) <;> omega)) (by rw [eX104]; (try rw [eX2]); (try rw [up2_up2]); exact thr_c (by (unfold cdAtu; (repeat' split) <;> omega))))
        · skip
          replace c43 := it1 c43
          refine lv_iload (pc := 46) hx hb dX9_addTurn_46 (lv_at hl 5 rfl) ?_
          refine ziconst (pc := 48) (n := 0) hx hb dX9_addTurn_48 ?_
          refine zsipush (pc := 49) (n := 1439) hx hb dX9_addTurn_49 rfl ?_
          refine zkIp (pc := 52) (zrS (As := [.int (iI mn), .int (iI 0), .int (iI 1439)]) hx hb hml hown hG hw (c_X9_is l Γ K X2 Rf mn 0 1439  (by (first | assumption | omega))) cb_X9_is wl_X9_91 rfl ⟨Nat.le_of_ble_eq_true rfl, Nat.le_of_ble_eq_true rfl⟩ hl.1 rfl (Nat.le_of_ble_eq_true rfl) dX9_addTurn_52 ⟨Nat.zero_le _, Nat.zero_le _⟩) hw (fun r52 H locs hp52 hw => ?_)
          subst hp52
          refine zif_eq (pc := 55) hx hb 102 (by omega) dX9_addTurn_55 (by decide) (fun c55 => ?_) (fun c55 => ?_)
          · skip
            replace c55 := it0 c55
            refine lv_aload_n (pc := 102) hx hb dX9_addTurn_102 rfl (lv_at hl 0 rfl) ?_
            refine ziconst (pc := 103) (n := 2) hx hb dX9_addTurn_103 ?_
            refine zkIx (pc := 104) (zrV (As := [.int (iI 2)]) hx hb hml hown hG hw (c_X9_refuse l Γ K X2 Rf md 2  (by (first | assumption | omega))) (T := TX9) hmd rfl cb_X9_refuse wl_X9_123 rfl ⟨Nat.le_of_ble_eq_true rfl, Nat.le_of_ble_eq_true rfl⟩ hl.1 rfl (Nat.le_of_ble_eq_true rfl) dX9_addTurn_104 ⟨Nat.zero_le _, Nat.zero_le _⟩) hw (fun r104 X104 H locs hp104 hw => ?_)
            obtain ⟨hrf104, eX104⟩ := hp104
            exact zretI (pc := 107) hx hb hlocks hr hw (Nat.zero_le _) (Nat.zero_le _) dX9_addTurn_107 (by refine ⟨fun hz => by (exfalso; revert hz; (unfold cdAtu; (repeat' split) <;> omega)), ?_⟩; exact hR.no (by (unfold cdAtu; (repeat' split) <;> omega)) (by rw [eX104]; (try rw [eX2]); (try rw [up2_up2]); exact thr_c (by (unfold cdAtu; (repeat' split) <;> omega))))
          · skip
            replace c55 := it1 c55
            refine lv_iload (pc := 58) hx hb dX9_addTurn_58 (lv_at hl 6 rfl) ?_
            refine ziconst (pc := 60) (n := 0) hx hb dX9_addTurn_60 ?_
            refine ziconst (pc := 61) (n := 2) hx hb dX9_addTurn_61 ?_
            refine zkIp (pc := 62) (zrS (As := [.int (iI cl), .int (iI 0), .int (iI 2)]) hx hb hml hown hG hw (c_X9_is l Γ K X2 Rf cl 0 2  (by (first | assumption | omega))) cb_X9_is wl_X9_91 rfl ⟨Nat.le_of_ble_eq_true rfl, Nat.le_of_ble_eq_true rfl⟩ hl.1 rfl (Nat.le_of_ble_eq_true rfl) dX9_addTurn_62 ⟨Nat.zero_le _, Nat.zero_le _⟩) hw (fun r62 H locs hp62 hw => ?_)
            subst hp62
            refine zif_eq (pc := 65) hx hb 102 (by omega) dX9_addTurn_65 (by decide) (fun c65 => ?_) (fun c65 => ?_)
            · skip
              replace c65 := it0 c65
              refine lv_aload_n (pc := 102) hx hb dX9_addTurn_102 rfl (lv_at hl 0 rfl) ?_
              refine ziconst (pc := 103) (n := 2) hx hb dX9_addTurn_103 ?_
              refine zkIx (pc := 104) (zrV (As := [.int (iI 2)]) hx hb hml hown hG hw (c_X9_refuse l Γ K X2 Rf md 2  (by (first | assumption | omega))) (T := TX9) hmd rfl cb_X9_refuse wl_X9_123 rfl ⟨Nat.le_of_ble_eq_true rfl, Nat.le_of_ble_eq_true rfl⟩ hl.1 rfl (Nat.le_of_ble_eq_true rfl) dX9_addTurn_104 ⟨Nat.zero_le _, Nat.zero_le _⟩) hw (fun r104 X104 H locs hp104 hw => ?_)
              obtain ⟨hrf104, eX104⟩ := hp104
              exact zretI (pc := 107) hx hb hlocks hr hw (Nat.zero_le _) (Nat.zero_le _) dX9_addTurn_107 (by refine ⟨fun hz => by (exfalso; revert hz; (unfold cdAtu; (repeat' split) <;> omega)), ?_⟩; exact hR.no (by (unfold cdAtu; (repeat' split) <;> omega)) (by rw [eX104]; (try rw [eX2]); (try rw [up2_up2]); exact thr_c (by (unfold cdAtu; (repeat' split) <;> omega))))
            · skip
              replace c65 := it1 c65
              refine lv_iload (pc := 68) hx hb dX9_addTurn_68 (lv_at hl 7 rfl) ?_
              refine ziconst (pc := 70) (n := 0) hx hb dX9_addTurn_70 ?_
              refine zsipush (pc := 71) (n := 180) hx hb dX9_addTurn_71 rfl ?_
              refine zkIp (pc := 74) (zrS (As := [.int (iI sv), .int (iI 0), .int (iI 180)]) hx hb hml hown hG hw (c_X9_is l Γ K X2 Rf sv 0 180  (by (first | assumption | omega))) cb_X9_is wl_X9_91 rfl ⟨Nat.le_of_ble_eq_true rfl, Nat.le_of_ble_eq_true rfl⟩ hl.1 rfl (Nat.le_of_ble_eq_true rfl) dX9_addTurn_74 ⟨Nat.zero_le _, Nat.zero_le _⟩) hw (fun r74 H locs hp74 hw => ?_)
              subst hp74
              refine zif_eq (pc := 77) hx hb 102 (by omega) dX9_addTurn_77 (by decide) (fun c77 => ?_) (fun c77 => ?_)
              · skip
                replace c77 := it0 c77
                refine lv_aload_n (pc := 102) hx hb dX9_addTurn_102 rfl (lv_at hl 0 rfl) ?_
                refine ziconst (pc := 103) (n := 2) hx hb dX9_addTurn_103 ?_
                refine zkIx (pc := 104) (zrV (As := [.int (iI 2)]) hx hb hml hown hG hw (c_X9_refuse l Γ K X2 Rf md 2  (by (first | assumption | omega))) (T := TX9) hmd rfl cb_X9_refuse wl_X9_123 rfl ⟨Nat.le_of_ble_eq_true rfl, Nat.le_of_ble_eq_true rfl⟩ hl.1 rfl (Nat.le_of_ble_eq_true rfl) dX9_addTurn_104 ⟨Nat.zero_le _, Nat.zero_le _⟩) hw (fun r104 X104 H locs hp104 hw => ?_)
                obtain ⟨hrf104, eX104⟩ := hp104
                exact zretI (pc := 107) hx hb hlocks hr hw (Nat.zero_le _) (Nat.zero_le _) dX9_addTurn_107 (by refine ⟨fun hz => by (exfalso; revert hz; (unfold cdAtu; (repeat' split) <;> omega)), ?_⟩; exact hR.no (by (unfold cdAtu; (repeat' split) <;> omega)) (by rw [eX104]; (try rw [eX2]); (try rw [up2_up2]); exact thr_c (by (unfold cdAtu; (repeat' split) <;> omega))))
              · skip
                replace c77 := it1 c77
                have jn108_0 : ∀  (H : Heap) (locs : List Loc), (hj : patM M b9.toNat 0 ≠ 0 ∨ patM M b9.toNat 1 = 16) → Wd Γ (zA K s.heap.size) K X2 Rf s H locs → ∀ ls : Array Slot, lv_has ls 9 [(0, .ref md), (1, .int (iI a)), (2, .int (iI fy)), (3, .int (iI ly)), (4, .int (iI b9)), (5, .int (iI mn)), (6, .int (iI cl)), (7, .int (iI sv))] → W p l e (rmL 2 1 6) s m ([.ref md, .int (iI a), .int (iI fy), .int (iI ly), .int (iI b9), .int (iI mn), .int (iI cl), .int (iI sv)] : List Value).toArray below meth c H locs 0 0 (MQ below (zQ Γ K s.heap.size (pI (fun (r : Int) (K' : zK) (X' : zX) (R' : zR) => (cdAtu M a fy ly b9 mn cl sv = 0 → r = M 7 a.toNat) ∧ X' md 0 = cdAtu M a fy ly b9 mn cl sv ∧ ∃ ρ', repR ρ' K' X' R' md (if cdAtu M a fy ly b9 mn cl sv = 0 then tuM M a.toNat fy ly b9 mn cl sv else M) ∧ frR ρ K X Rf ρ' K' X' R' ∧ ptR X' R' md ≤ ptR X Rf md + 5000))) ([.ref md, .int (iI a), .int (iI fy), .int (iI ly), .int (iI b9), .int (iI mn), .int (iI cl), .int (iI sv)] : List Value).toArray s 1 6 (zA K s.heap.size)) (F0 m 108 ls []) := by
                  intro H locs hj hw ls hl
                  have hv7 : X2 a7 a.toNat = M 7 a.toNat := by rw [hE7]
                  have hb7 := (hokL a.toNat (by omega)).2.1
                  refine lv_aload_n (pc := 108) hx hb dX9_addTurn_108 rfl (lv_at hl 0 rfl) ?_
                  refine zgetR (pc := 109) hx hb hG hown hw hmd (T := TX9) rfl 7 (by decide) rfl wf_X9_22 rfl hB7 dX9_addTurn_109 ?_
                  refine lv_iload_n (pc := 112) hx hb dX9_addTurn_112 rfl (lv_at hl 1 rfl) ?_
                  refine zald (pc := 113) hx hb hw hA7 ⟨by omega, by omega⟩ (by omega) dX9_addTurn_113 ?_
                  refine zbipush (pc := 114) (n := 6) hx hb dX9_addTurn_114 rfl ?_
                  refine zicmp_ne (pc := 116) hx hb 125 (by omega) (by omega) dX9_addTurn_116 (by decide) (fun c116 => ?_) (fun c116 => ?_)
                  · skip
                    refine zbipush (pc := 125) (n := 6) hx hb dX9_addTurn_125 rfl ?_
                    refine znewi (pc := 127) hx hb hG hw wa_int ⟨by omega, by omega⟩ (by show 0 + 1 ≤ 1; omega) (by show 0 + 6 ≤ 6; omega) dX9_addTurn_127 (fun q127 H hfq127 hw => ?_)
                    obtain ⟨K127, eK127⟩ : ∃ Y : zK, Y = zup K q127 (2, 6) := ⟨_, rfl⟩
                    obtain ⟨X127, eX127⟩ : ∃ Y : zX, Y = zupX X2 q127 := ⟨_, rfl⟩
                    obtain ⟨R127, eR127⟩ : ∃ Y : zR, Y = zupR Rf q127 := ⟨_, rfl⟩
                    replace hw := Wd.re hw eK127 eX127 eR127
                    have hk127 : K127 md = (1, 8) := by rw [eK127]; exact zup_k hfq127 hmd (Nat.succ_ne_zero _)
                    have hn127 : Apt md q127 := zne hmd hfq127
                    have hk127_1 : K127 a2 = (2, 24) := by rw [eK127]; exact zup_k hfq127 hA2 (Nat.succ_ne_zero _)
                    have hn127_1 : Apt a2 q127 := zne hA2 hfq127
                    have hk127_2 : K127 a3 = (2, 24) := by rw [eK127]; exact zup_k hfq127 hA3 (Nat.succ_ne_zero _)
                    have hn127_2 : Apt a3 q127 := zne hA3 hfq127
                    have hk127_3 : K127 a7 = (2, 6) := by rw [eK127]; exact zup_k hfq127 hA7 (Nat.succ_ne_zero _)
                    have hn127_3 : Apt a7 q127 := zne hA7 hfq127
                    have hk127_4 : K127 a8 = (2, 216) := by rw [eK127]; exact zup_k hfq127 hA8 (Nat.succ_ne_zero _)
                    have hn127_4 : Apt a8 q127 := zne hA8 hfq127
                    have hk127_5 : K127 a9 = (2, 6) := by rw [eK127]; exact zup_k hfq127 hA9 (Nat.succ_ne_zero _)
                    have hn127_5 : Apt a9 q127 := zne hA9 hfq127
                    have hk127_6 : K127 q127 = (2, 6) := by rw [eK127]; exact zup_s
                    have hr127 : R127 md 2 = some a2 := by rw [eR127, zupR_n hn127]; exact hB2
                    have hr127_1 : R127 md 3 = some a3 := by rw [eR127, zupR_n hn127]; exact hB3
                    have hr127_2 : R127 md 7 = some a7 := by rw [eR127, zupR_n hn127]; exact hB7
                    have hr127_3 : R127 md 8 = some a8 := by rw [eR127, zupR_n hn127]; exact hB8
                    have hr127_4 : R127 md 9 = some a9 := by rw [eR127, zupR_n hn127]; exact hB9
                    refine lv_dup (pc := 129) hx hb dX9_addTurn_129 rfl ?_
                    refine ziconst (pc := 130) (n := 0) hx hb dX9_addTurn_130 ?_
                    refine lv_iload_n (pc := 131) hx hb dX9_addTurn_131 rfl (lv_at hl 2 rfl) ?_
                    refine zast (pc := 132) hx hb hw hk127_6 ⟨by omega, by omega⟩ (by omega) dX9_addTurn_132 (fun H locs hw => ?_)
                    obtain ⟨X132, eX132⟩ : ∃ Y : zX, Y = up2 X127 q127 0 fy := ⟨_, rfl⟩
                    replace hw := Wd.re hw rfl eX132 rfl
                    refine lv_dup (pc := 133) hx hb dX9_addTurn_133 rfl ?_
                    refine ziconst (pc := 134) (n := 1) hx hb dX9_addTurn_134 ?_
                    refine lv_iload_n (pc := 135) hx hb dX9_addTurn_135 rfl (lv_at hl 3 rfl) ?_
                    refine zast (pc := 136) hx hb hw hk127_6 ⟨by omega, by omega⟩ (by omega) dX9_addTurn_136 (fun H locs hw => ?_)
                    obtain ⟨X136, eX136⟩ : ∃ Y : zX, Y = up2 X132 q127 1 ly := ⟨_, rfl⟩
                    replace hw := Wd.re hw rfl eX136 rfl
                    refine lv_dup (pc := 137) hx hb dX9_addTurn_137 rfl ?_
                    refine ziconst (pc := 138) (n := 2) hx hb dX9_addTurn_138 ?_
                    refine lv_iload (pc := 139) hx hb dX9_addTurn_139 (lv_at hl 4 rfl) ?_
                    refine zast (pc := 141) hx hb hw hk127_6 ⟨by omega, by omega⟩ (by omega) dX9_addTurn_141 (fun H locs hw => ?_)
                    obtain ⟨X141, eX141⟩ : ∃ Y : zX, Y = up2 X136 q127 2 b9 := ⟨_, rfl⟩
                    replace hw := Wd.re hw rfl eX141 rfl
                    refine lv_dup (pc := 142) hx hb dX9_addTurn_142 rfl ?_
                    refine ziconst (pc := 143) (n := 3) hx hb dX9_addTurn_143 ?_
                    refine lv_iload (pc := 144) hx hb dX9_addTurn_144 (lv_at hl 5 rfl) ?_
                    refine zast (pc := 146) hx hb hw hk127_6 ⟨by omega, by omega⟩ (by omega) dX9_addTurn_146 (fun H locs hw => ?_)
                    obtain ⟨X146, eX146⟩ : ∃ Y : zX, Y = up2 X141 q127 3 mn := ⟨_, rfl⟩
                    replace hw := Wd.re hw rfl eX146 rfl
                    refine lv_dup (pc := 147) hx hb dX9_addTurn_147 rfl ?_
                    refine ziconst (pc := 148) (n := 4) hx hb dX9_addTurn_148 ?_
                    refine lv_iload (pc := 149) hx hb dX9_addTurn_149 (lv_at hl 6 rfl) ?_
                    refine zast (pc := 151) hx hb hw hk127_6 ⟨by omega, by omega⟩ (by omega) dX9_addTurn_151 (fun H locs hw => ?_)
                    obtain ⟨X151, eX151⟩ : ∃ Y : zX, Y = up2 X146 q127 4 cl := ⟨_, rfl⟩
                    replace hw := Wd.re hw rfl eX151 rfl
                    refine lv_dup (pc := 152) hx hb dX9_addTurn_152 rfl ?_
                    refine ziconst (pc := 153) (n := 5) hx hb dX9_addTurn_153 ?_
                    refine lv_iload (pc := 154) hx hb dX9_addTurn_154 (lv_at hl 7 rfl) ?_
                    refine zast (pc := 156) hx hb hw hk127_6 ⟨by omega, by omega⟩ (by omega) dX9_addTurn_156 (fun H locs hw => ?_)
                    obtain ⟨X156, eX156⟩ : ∃ Y : zX, Y = up2 X151 q127 5 sv := ⟨_, rfl⟩
                    replace hw := Wd.re hw rfl eX156 rfl
                    have hv156 : X156 a7 a.toNat = M 7 a.toNat := by
                      have hne := zfa (zk1 hA7) hfq127
                      rw [eX156, up2_o hne, eX151, up2_o hne, eX146, up2_o hne, eX141, up2_o hne, eX136, up2_o hne, eX132, up2_o hne, eX127, zupX_n hne]; exact hv7
                    refine lv_astore (pc := 157) (lv' := [(8, .ref q127), (0, .ref md), (1, .int (iI a)), (2, .int (iI fy)), (3, .int (iI ly)), (4, .int (iI b9)), (5, .int (iI mn)), (6, .int (iI cl)), (7, .int (iI sv))]) hx hb dX9_addTurn_157 hl (by decide) rfl (fun ls hl => ?_)
                    refine lv_aload (pc := 159) hx hb dX9_addTurn_159 (lv_at hl 0 rfl) ?_
                    refine ziconst (pc := 161) (n := 0) hx hb dX9_addTurn_161 ?_
                    refine lv_aload_n (pc := 162) hx hb dX9_addTurn_162 rfl (lv_at hl 1 rfl) ?_
                    refine zgetR (pc := 163) hx hb hG hown hw hk127 (T := TX9) rfl 8 (by decide) rfl wf_X9_25 rfl hr127_3 dX9_addTurn_163 ?_
                    refine zbipush (pc := 166) (n := 6) hx hb dX9_addTurn_166 rfl ?_
                    refine lv_iload_n (pc := 168) hx hb dX9_addTurn_168 rfl (lv_at hl 2 rfl) ?_
                    refine zmul (pc := 169) hx hb dX9_addTurn_169 ?_
                    refine lv_aload_n (pc := 170) hx hb dX9_addTurn_170 rfl (lv_at hl 1 rfl) ?_
                    refine zgetR (pc := 171) hx hb hG hown hw hk127 (T := TX9) rfl 7 (by decide) rfl wf_X9_22 rfl hr127_2 dX9_addTurn_171 ?_
                    refine lv_iload_n (pc := 174) hx hb dX9_addTurn_174 rfl (lv_at hl 2 rfl) ?_
                    refine zald (pc := 175) hx hb hw hk127_3 ⟨by omega, by omega⟩ (by omega) dX9_addTurn_175 ?_
                    refine zadd (pc := 176) hx hb dX9_addTurn_176 ?_
                    refine zbipush (pc := 177) (n := 6) hx hb dX9_addTurn_177 rfl ?_
                    refine zmul (pc := 179) hx hb dX9_addTurn_179 ?_
                    refine zbipush (pc := 180) (n := 6) hx hb dX9_addTurn_180 rfl ?_
                    refine zcopy (pc := 182) hx hb (hml.trans hl.1.symm) hown hG wl_X9_164 w2_zco w1_zco wi_javalangSystem hw hk127_6 hk127_4 (by omega) (by omega) (Nat.le_of_ble_eq_true rfl) (Nat.le_of_ble_eq_true rfl) dX9_addTurn_182 (fun H locs hw => ?_)
                    obtain ⟨X182, eX182⟩ : ∃ Y : zX, Y = zcp X156 q127 a8 0 (((6 * a) + (X156 a7 a.toNat)) * 6).toNat 6 := ⟨_, rfl⟩
                    replace hw := Wd.re hw rfl eX182 rfl
                    have hv182 : X182 a7 a.toNat = M 7 a.toNat := by rw [eX182, zcp_o (zne9 hL7 hL8 (by decide))]; exact hv156
                    refine lv_aload_n (pc := 185) hx hb dX9_addTurn_185 rfl (lv_at hl 1 rfl) ?_
                    refine zgetR (pc := 186) hx hb hG hown hw hk127 (T := TX9) rfl 7 (by decide) rfl wf_X9_22 rfl hr127_2 dX9_addTurn_186 ?_
                    refine lv_iload_n (pc := 189) hx hb dX9_addTurn_189 rfl (lv_at hl 2 rfl) ?_
                    refine lv_dup2_11 (pc := 190) hx hb dX9_addTurn_190 rfl rfl ?_
                    refine zald (pc := 191) hx hb hw hk127_3 ⟨by omega, by omega⟩ (by omega) dX9_addTurn_191 ?_
                    refine ziconst (pc := 192) (n := 1) hx hb dX9_addTurn_192 ?_
                    refine zadd (pc := 193) hx hb dX9_addTurn_193 ?_
                    refine zast (pc := 194) hx hb hw hk127_3 ⟨by omega, by omega⟩ (by omega) dX9_addTurn_194 (fun H locs hw => ?_)
                    obtain ⟨X194, eX194⟩ : ∃ Y : zX, Y = up2 X182 a7 a.toNat ((X182 a7 a.toNat) + 1) := ⟨_, rfl⟩
                    rw [← eX194] at hw
                    have hv194 : X194 a7 a.toNat = M 7 a.toNat + 1 := by rw [eX194, up2_s, hv182]
                    refine lv_aload_n (pc := 195) hx hb dX9_addTurn_195 rfl (lv_at hl 1 rfl) ?_
                    refine zgetR (pc := 196) hx hb hG hown hw hk127 (T := TX9) rfl 9 (by decide) rfl wf_X9_28 rfl hr127_4 dX9_addTurn_196 ?_
                    refine lv_iload_n (pc := 199) hx hb dX9_addTurn_199 rfl (lv_at hl 2 rfl) ?_
                    refine ziconst (pc := 200) (n := (-1)) hx hb dX9_addTurn_200 ?_
                    refine zast (pc := 201) hx hb hw hk127_5 ⟨by omega, by omega⟩ (by omega) dX9_addTurn_201 (fun H locs hw => ?_)
                    obtain ⟨X201, eX201⟩ : ∃ Y : zX, Y = up2 X194 a9 a.toNat (-1) := ⟨_, rfl⟩
                    rw [← eX201] at hw
                    have hv201 : X201 a7 a.toNat = M 7 a.toNat + 1 := by rw [eX201, up2_o (zne9 hL7 hL9 (by decide))]; exact hv194
                    refine lv_aload_n (pc := 202) hx hb dX9_addTurn_202 rfl (lv_at hl 1 rfl) ?_
                    refine zgetR (pc := 203) hx hb hG hown hw hk127 (T := TX9) rfl 7 (by decide) rfl wf_X9_22 rfl hr127_2 dX9_addTurn_203 ?_
                    refine lv_iload_n (pc := 206) hx hb dX9_addTurn_206 rfl (lv_at hl 2 rfl) ?_
                    refine zald (pc := 207) hx hb hw hk127_3 ⟨by omega, by omega⟩ (by omega) dX9_addTurn_207 ?_
                    refine ziconst (pc := 208) (n := 1) hx hb dX9_addTurn_208 ?_
                    refine zsub (pc := 209) hx hb dX9_addTurn_209 ?_
                    exact zretI (pc := 210) hx hb hlocks hr hw (by show 0 + 1 ≤ 1; omega) (by show 0 + 6 ≤ 6; omega) dX9_addTurn_210 (by 
                                        refine ⟨fun _ => by omega, ?_⟩
                                        have gK : ∀ a9, (K a9).1 ≠ 0 → K127 a9 = K a9 := fun a9 h9 => by rw [eK127, zup_n (zfa h9 hfq127)]
                                        have gR : ∀ a9, (K a9).1 ≠ 0 → R127 a9 = Rf a9 := fun a9 h9 => by rw [eR127, zupR_n (zfa h9 hfq127)]
                                        have hmn : (K md).1 ≠ 0 := zk1 hmd
                                        have h8q : a8 ≠ q127 := zfa (zk1 hA8) hfq127
                                        have h78 : a7 ≠ a8 := zne9 hL7 hL8 (by decide)
                                        have h79 : a7 ≠ a9 := zne9 hL7 hL9 (by decide)
                                        have h89 : a8 ≠ a9 := zne9 hL8 hL9 (by decide)
                                        obtain ⟨n9, hn9⟩ : ∃ n9 : Nat, M 7 a.toNat = n9 := ⟨(M 7 a.toNat).toNat, by omega⟩
                                        have hn8 : (M 7 a.toNat).toNat = n9 := by omega
                                        have hdp : ((6 * a + X156 a7 a.toNat) * 6).toNat = (6 * a.toNat + n9) * 6 := by omega
                                        rw [hdp] at eX182
                                        have XS : ∀ j, j < 6 → X156 q127 j = tuV fy ly b9 mn cl sv j := fun j hj => by
                                          rcases (by omega : j = 0 ∨ j = 1 ∨ j = 2 ∨ j = 3 ∨ j = 4 ∨ j = 5) with rfl | rfl | rfl | rfl | rfl | rfl <;> (rw [eX156, eX151, eX146, eX141, eX136, eX132]; simp [up2, tuV])
                                        have gX : ∀ a9, (K a9).1 ≠ 0 → X156 a9 = X2 a9 := fun a9 h9 => by
                                          have hne := zfa h9 hfq127
                                          rw [eX156, up2_o hne, eX151, up2_o hne, eX146, up2_o hne, eX141, up2_o hne, eX136, up2_o hne, eX132, up2_o hne, eX127, zupX_n hne]
                                        have gX8 : ∀ b, (K b).1 ≠ 0 → b ≠ md → b ≠ a7 → b ≠ a8 → b ≠ a9 → X201 b = X b := fun b h9 g1 g2 g3 g4 => by rw [eX201, up2_o g4, eX194, up2_o g2, eX182, zcp_o g3, gX b h9, eX2, up2_o g1]
                                        have hn0 : repN ρ K X2 Rf md M := by rw [eX2]; exact hR.n.own (q := 0) (v := 0) rfl
                                        have hn1 := hn0.ext (ρ' := ρ) (K' := K127) (X' := X156) (Rf' := R127) gK (fun _ _ => rfl) gX (gR md hmn)
                                        have r7 : R127 md 7 = some a7 := by rw [gR md hmn]; exact hB7
                                        have r8 : R127 md 8 = some a8 := by rw [gR md hmn]; exact hB8
                                        have r9 : R127 md 9 = some a9 := by rw [gR md hmn]; exact hB9
                                        have x8 : X156 a8 = M 8 := by rw [gX a8 (zk1 hA8)]; exact hE8
                                        have x7 : X182 a7 = M 7 := by rw [eX182, zcp_o h78, gX a7 (zk1 hA7)]; exact hE7
                                        have hn2 := hn1.rowF (f := 8) (a := a8) (X' := X182) (M' := fun g => if g = 8 then tuM M a.toNat fy ly b9 mn cl sv 8 else M g) (by decide) r8 (fun b hb => by rw [eX182, zcp_o hb]) (fun g hg => if_neg hg) (fun _ => by
                                          show X182 a8 = tuM M a.toNat fy ly b9 mn cl sv 8
                                          funext j
                                          rw [eX182, tuM_8, hn8]
                                          unfold zcp
                                          rw [if_pos rfl]
                                          by_cases hj : (6 * a.toNat + n9) * 6 ≤ j ∧ j < (6 * a.toNat + n9) * 6 + 6
                                          · rw [if_pos hj, if_pos hj, Nat.zero_add]; exact XS _ (by omega)
                                          · rw [if_neg hj, if_neg hj, x8])
                                        have hn3 := hn2.rowF (f := 7) (a := a7) (X' := X194) (M' := tuM M a.toNat fy ly b9 mn cl sv) (by decide) r7 (fun b hb => by rw [eX194, up2_o hb]) (fun g hg => by
                                          by_cases h8 : g = 8
                                          · subst h8; rfl
                                          · rw [if_neg h8]; exact tuM_f hg h8) (fun _ => by
                                          funext j
                                          rw [eX194, up2_eq, tuM_7, x7]
                                          by_cases hj : j = a.toNat
                                          · subst hj; rw [if_pos ⟨rfl, rfl⟩, if_pos rfl]
                                          · rw [if_neg (fun g => hj g.2), if_neg hj])
                                        have hn4 := hn3.oth (f := 9) (a := a9) (X' := X201) (by decide) r9 rfl (fun b hb => by rw [eX201, up2_o hb])
                                        have h35 : X201 md 35 = X md 35 := by rw [eX201, up2_o (Ne.symm hN9), eX194, up2_o (Ne.symm hN7), eX182, zcp_o (Ne.symm hN8), gX md hmn, eX2, up2_k (by decide)]
                                        have h0 : X201 md 0 = 0 := by rw [eX201, up2_o (Ne.symm hN9), eX194, up2_o (Ne.symm hN7), eX182, zcp_o (Ne.symm hN8), gX md hmn, eX2, up2_s]
                                        obtain ⟨b22, z1, z2, z3⟩ := hR.ff 22 (by decide)
                                        have hk99 : ∀ k, k ≠ a.toNat → X201 a9 k = X a9 k := fun k hk9 => by rw [eX201, up2_k hk9, eX194, up2_o (Ne.symm h79), eX182, zcp_o (Ne.symm h89), gX a9 (zk1 hA9), eX2, up2_o hN9]
                                        exact hR.mutG (cd := cdAtu M a fy ly b9 mn cl sv) gK (fun _ _ => rfl) hn4 (fun b h9 g => ⟨gX8 b h9 (fun w => by rw [w, hlmd] at g; omega) (fun w => by rw [w, hL7] at g; omega) (fun w => by rw [w, hL8] at g; omega) (fun w => by rw [w, hL9] at g; omega), gR b h9⟩) (cacR.tur hR (by omega) (by omega) (by omega) hB9 gK (fun b h9 g1 g2 g3 g4 => gX8 b h9 (fun w => g1 (by rw [w]; exact hlmd)) (fun w => g2 (by rw [w]; exact hL7)) (fun w => g3 (by rw [w]; exact hL8)) (fun w => g4 (by rw [w]; exact hL9))) ⟨by rw [eX201]; exact up2_s, hk99⟩ gR h35) h0 (by (unfold cdAtu; (repeat' split) <;> omega)) (ptR_9 (p := a.toNat) hB9 z1 (gR md hmn) hk99 (gR b22 (by rw [z2]; decide))))
                  · skip
                    refine lv_aload_n (pc := 119) hx hb dX9_addTurn_119 rfl (lv_at hl 0 rfl) ?_
                    refine ziconst (pc := 120) (n := 3) hx hb dX9_addTurn_120 ?_
                    refine zkIx (pc := 121) (zrV (As := [.int (iI 3)]) hx hb hml hown hG hw (c_X9_refuse l Γ K X2 Rf md 3  (by (first | assumption | omega))) (T := TX9) hmd rfl cb_X9_refuse wl_X9_123 rfl ⟨Nat.le_of_ble_eq_true rfl, Nat.le_of_ble_eq_true rfl⟩ hl.1 rfl (Nat.le_of_ble_eq_true rfl) dX9_addTurn_121 ⟨Nat.zero_le _, Nat.zero_le _⟩) hw (fun r121 X121 H locs hp121 hw => ?_)
                    obtain ⟨hrf121, eX121⟩ := hp121
                    exact zretI (pc := 124) hx hb hlocks hr hw (Nat.zero_le _) (Nat.zero_le _) dX9_addTurn_124 (by refine ⟨fun hz => by (exfalso; revert hz; (unfold cdAtu; (repeat' split) <;> omega)), ?_⟩; exact hR.no (by (unfold cdAtu; (repeat' split) <;> omega)) (by rw [eX121]; (try rw [eX2]); (try rw [up2_up2]); exact thr_c (by (unfold cdAtu; (repeat' split) <;> omega))))
                have hm0 : X2 a2 b9.toNat = patM M b9.toNat 0 := by rw [hE2]; rfl
                have hm1 : X2 a3 b9.toNat = patM M b9.toNat 1 := by rw [hE3]; rfl
                have hp9 := (hokP b9.toNat (by omega)).1
                refine lv_aload_n (pc := 80) hx hb dX9_addTurn_80 rfl (lv_at hl 0 rfl) ?_
                refine zgetR (pc := 81) hx hb hG hown hw hmd (T := TX9) rfl 2 (by decide) rfl wf_X9_9 rfl hB2 dX9_addTurn_81 ?_
                refine lv_iload (pc := 84) hx hb dX9_addTurn_84 (lv_at hl 4 rfl) ?_
                refine zald (pc := 86) hx hb hw hA2 ⟨by omega, by omega⟩ (by omega) dX9_addTurn_86 ?_
                refine zif_ne (pc := 87) hx hb 108 (by omega) dX9_addTurn_87 (by decide) (fun c87 => ?_) (fun c87 => ?_)
                · skip
                  exact jn108_0 _ _ (by omega) hw _ (lv_sub hl [0, 1, 2, 3, 4, 5, 6, 7] rfl)
                · skip
                  refine lv_aload_n (pc := 90) hx hb dX9_addTurn_90 rfl (lv_at hl 0 rfl) ?_
                  refine zgetR (pc := 91) hx hb hG hown hw hmd (T := TX9) rfl 3 (by decide) rfl wf_X9_13 rfl hB3 dX9_addTurn_91 ?_
                  refine lv_iload (pc := 94) hx hb dX9_addTurn_94 (lv_at hl 4 rfl) ?_
                  refine zald (pc := 96) hx hb hw hA3 ⟨by omega, by omega⟩ (by omega) dX9_addTurn_96 ?_
                  refine zbipush (pc := 97) (n := 16) hx hb dX9_addTurn_97 rfl ?_
                  refine zicmp_eq (pc := 99) hx hb 108 (by omega) (by omega) dX9_addTurn_99 (by decide) (fun c99 => ?_) (fun c99 => ?_)
                  · skip
                    exact jn108_0 _ _ (by omega) hw _ (lv_sub hl [0, 1, 2, 3, 4, 5, 6, 7] rfl)
                  · skip
                    refine lv_aload_n (pc := 102) hx hb dX9_addTurn_102 rfl (lv_at hl 0 rfl) ?_
                    refine ziconst (pc := 103) (n := 2) hx hb dX9_addTurn_103 ?_
                    refine zkIx (pc := 104) (zrV (As := [.int (iI 2)]) hx hb hml hown hG hw (c_X9_refuse l Γ K X2 Rf md 2  (by (first | assumption | omega))) (T := TX9) hmd rfl cb_X9_refuse wl_X9_123 rfl ⟨Nat.le_of_ble_eq_true rfl, Nat.le_of_ble_eq_true rfl⟩ hl.1 rfl (Nat.le_of_ble_eq_true rfl) dX9_addTurn_104 ⟨Nat.zero_le _, Nat.zero_le _⟩) hw (fun r104 X104 H locs hp104 hw => ?_)
                    obtain ⟨hrf104, eX104⟩ := hp104
                    exact zretI (pc := 107) hx hb hlocks hr hw (Nat.zero_le _) (Nat.zero_le _) dX9_addTurn_107 (by refine ⟨fun hz => by (exfalso; revert hz; (unfold cdAtu; (repeat' split) <;> omega)), ?_⟩; exact hR.no (by (unfold cdAtu; (repeat' split) <;> omega)) (by rw [eX104]; (try rw [eX2]); (try rw [up2_up2]); exact thr_c (by (unfold cdAtu; (repeat' split) <;> omega))))
    · skip
      replace c19 := it0 c19
      refine lv_aload_n (pc := 22) hx hb dX9_addTurn_22 rfl (lv_at hl 0 rfl) ?_
      refine ziconst (pc := 23) (n := 1) hx hb dX9_addTurn_23 ?_
      refine zkIx (pc := 24) (zrV (As := [.int (iI 1)]) hx hb hml hown hG hw (c_X9_refuse l Γ K X2 Rf md 1  (by (first | assumption | omega))) (T := TX9) hmd rfl cb_X9_refuse wl_X9_123 rfl ⟨Nat.le_of_ble_eq_true rfl, Nat.le_of_ble_eq_true rfl⟩ hl.1 rfl (Nat.le_of_ble_eq_true rfl) dX9_addTurn_24 ⟨Nat.zero_le _, Nat.zero_le _⟩) hw (fun r24 X24 H locs hp24 hw => ?_)
      obtain ⟨hrf24, eX24⟩ := hp24
      exact zretI (pc := 27) hx hb hlocks hr hw (Nat.zero_le _) (Nat.zero_le _) dX9_addTurn_27 (by refine ⟨fun hz => by (exfalso; revert hz; (unfold cdAtu; (repeat' split) <;> omega)), ?_⟩; exact hR.no (by (unfold cdAtu; (repeat' split) <;> omega)) (by rw [eX24]; (try rw [eX2]); (try rw [up2_up2]); exact thr_c (by (unfold cdAtu; (repeat' split) <;> omega))))
