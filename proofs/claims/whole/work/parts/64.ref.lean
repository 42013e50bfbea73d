set_option maxHeartbeats 4000000 in
set_option maxRecDepth 100000 in
theorem c_X9_dayOf (l : Launch) (Γ : zG) (K : zK) (X : zX) (Rf : zR) (md : Nat) (year : Int) (month : Int) (day : Int) (ρ : zL) (M : zM) (hR : repR ρ K X Rf md M) (hM : okM M) (h1 : fit year ∧ fit month ∧ fit day) : Ct l yX9_dayOf cX9_dayOf 4 (some .int) 2 0 0 Γ [.ref md, .int (iI year), .int (iI month), .int (iI day)] K X Rf (pI (zpx K Rf (fun (r : Int) (X' : zX) => (cdDate year month day = 0 → r = vlDate year month day) ∧ X' = up2 X md 0 (cdDate year month day)))) := by
  refine Ct.of (by decide +kernel) (Nat.le_of_ble_eq_true rfl) ?_
  intro p e s m below meth c ls hx hb hr hml hown hG hlocks hname hw hl
  have hl : lv_has ls 4 [(0, .ref md), (1, .int (iI year)), (2, .int (iI month)), (3, .int (iI day))] := hl
  obtain ⟨hmd, hlmd⟩ := id hR.1
  obtain ⟨⟨hb1, hb2, hb3, hb4⟩, hokP, hokL, hokS, hokW, hokF⟩ := id hM
  have hq1 : X md 1 = M 40 1 := hR.2.1 1 rfl
  have hq5 : X md 5 = M 40 5 := hR.2.1 5 rfl
  have hq16 : X md 16 = M 40 16 := hR.2.1 16 rfl
  have hq25 : X md 25 = M 40 25 := hR.2.1 25 rfl
  have hq26 : X md 26 = M 40 26 := hR.2.1 26 rfl
  have hq27 : X md 27 = M 40 27 := hR.2.1 27 rfl
  have hq28 : X md 28 = M 40 28 := hR.2.1 28 rfl
  have hq29 : X md 29 = M 40 29 := hR.2.1 29 rfl
  refine lv_aload_n (pc := 0) hx hb dX9_dayOf_0 rfl (lv_at hl 0 rfl) ?_
  refine ziconst (pc := 1) (n := 0) hx hb dX9_dayOf_1 ?_
  refine zputI (pc := 2) hx hb hG hown hw hmd (T := TX9) rfl 0 (by decide) rfl wf_X9_87 rfl (by decide +kernel) rfl dX9_dayOf_2 (fun H locs hw => ?_)
  obtain ⟨X2, eX2⟩ : ∃ Y : zX, Y = up2 X md 0 0 := ⟨_, rfl⟩
  rw [← eX2] at hw
  refine lv_iload_n (pc := 5) hx hb dX9_dayOf_5 rfl (lv_at hl 1 rfl) ?_
  refine zkIp (pc := 6) (zrS (As := [.int (iI year)]) hx hb hml hown hG hw (c_X9_isYear l Γ K X2 Rf year  (by (first | assumption | omega))) cb_X9_isYear wl_X9_119 rfl ⟨Nat.le_of_ble_eq_true rfl, Nat.le_of_ble_eq_true rfl⟩ hl.1 rfl (Nat.le_of_ble_eq_true rfl) dX9_dayOf_6 ⟨Nat.zero_le _, Nat.zero_le _⟩) hw (fun r6 H locs hp6 hw => ?_)
  subst hp6
  refine zif_eq (pc := 9) hx hb 35 (by omega) dX9_dayOf_9 (by decide) (fun c9 => ?_) (fun c9 => ?_)
  · skip
    replace c9 := it0 c9
    refine lv_aload_n (pc := 35) hx hb dX9_dayOf_35 rfl (lv_at hl 0 rfl) ?_
    refine ziconst (pc := 36) (n := 1) hx hb dX9_dayOf_36 ?_
    refine zkIx (pc := 37) (zrV (As := [.int (iI 1)]) hx hb hml hown hG hw (c_X9_refuse l Γ K X2 Rf md 1  (by (first | assumption | omega))) (T := TX9) hmd rfl cb_X9_refuse wl_X9_123 rfl ⟨Nat.le_of_ble_eq_true rfl, Nat.le_of_ble_eq_true rfl⟩ hl.1 rfl (Nat.le_of_ble_eq_true rfl) dX9_dayOf_37 ⟨Nat.zero_le _, Nat.zero_le _⟩) hw (fun r37 X37 H locs hp37 hw => ?_)
    obtain ⟨hrf37, eX37⟩ := hp37
    exact zretI (pc := 40) hx hb hlocks hr hw (Nat.zero_le _) (Nat.zero_le _) dX9_dayOf_40 ⟨by (try dsimp only) <;> (refine ⟨fun hz => ?_, ?_⟩; (focus first | exact True.intro | (unfold vlDate; omega; done) | (unfold vlDate; done) | (exfalso; revert hz; (unfold cdDate; (repeat' split) <;> omega))); rw [eX37]; exact (by (try rw [eX2]); (try rw [up2_up2]); exact thr_c (by (unfold cdDate; (repeat' split) <;> omega)))), rfl, rfl⟩
  · skip
    replace c9 := it1 c9
    refine lv_iload_n (pc := 12) hx hb dX9_dayOf_12 rfl (lv_at hl 2 rfl) ?_
    refine ziconst (pc := 13) (n := 1) hx hb dX9_dayOf_13 ?_
    refine zbipush (pc := 14) (n := 12) hx hb dX9_dayOf_14 rfl ?_
    refine zkIp (pc := 16) (zrS (As := [.int (iI month), .int (iI 1), .int (iI 12)]) hx hb hml hown hG hw (c_X9_is l Γ K X2 Rf month 1 12  (by (first | assumption | omega))) cb_X9_is wl_X9_91 rfl ⟨Nat.le_of_ble_eq_true rfl, Nat.le_of_ble_eq_true rfl⟩ hl.1 rfl (Nat.le_of_ble_eq_true rfl) dX9_dayOf_16 ⟨Nat.zero_le _, Nat.zero_le _⟩) hw (fun r16 H locs hp16 hw => ?_)
    subst hp16
    refine zif_eq (pc := 19) hx hb 35 (by omega) dX9_dayOf_19 (by decide) (fun c19 => ?_) (fun c19 => ?_)
    · skip
      replace c19 := it0 c19
      refine lv_aload_n (pc := 35) hx hb dX9_dayOf_35 rfl (lv_at hl 0 rfl) ?_
      refine ziconst (pc := 36) (n := 1) hx hb dX9_dayOf_36 ?_
      refine zkIx (pc := 37) (zrV (As := [.int (iI 1)]) hx hb hml hown hG hw (c_X9_refuse l Γ K X2 Rf md 1  (by (first | assumption | omega))) (T := TX9) hmd rfl cb_X9_refuse wl_X9_123 rfl ⟨Nat.le_of_ble_eq_true rfl, Nat.le_of_ble_eq_true rfl⟩ hl.1 rfl (Nat.le_of_ble_eq_true rfl) dX9_dayOf_37 ⟨Nat.zero_le _, Nat.zero_le _⟩) hw (fun r37 X37 H locs hp37 hw => ?_)
      obtain ⟨hrf37, eX37⟩ := hp37
      exact zretI (pc := 40) hx hb hlocks hr hw (Nat.zero_le _) (Nat.zero_le _) dX9_dayOf_40 ⟨by (try dsimp only) <;> (refine ⟨fun hz => ?_, ?_⟩; (focus first | exact True.intro | (unfold vlDate; omega; done) | (unfold vlDate; done) | (exfalso; revert hz; (unfold cdDate; (repeat' split) <;> omega))); rw [eX37]; exact (by (try rw [eX2]); (try rw [up2_up2]); exact thr_c (by (unfold cdDate; (repeat' split) <;> omega)))), rfl, rfl⟩
    · skip
      replace c19 := it1 c19
      refine lv_iload_n (pc := 22) hx hb dX9_dayOf_22 rfl (lv_at hl 3 rfl) ?_
      refine ziconst (pc := 23) (n := 1) hx hb dX9_dayOf_23 ?_
      refine lv_iload_n (pc := 24) hx hb dX9_dayOf_24 rfl (lv_at hl 1 rfl) ?_
      refine lv_iload_n (pc := 25) hx hb dX9_dayOf_25 rfl (lv_at hl 2 rfl) ?_
      refine zkIp (pc := 26) (zrS (As := [.int (iI year), .int (iI month)]) hx hb hml hown hG hw (c_X9_lengthOf l Γ K X2 Rf year month  (by (first | assumption | omega)) (by (first | assumption | omega))) cb_X9_lengthOf wl_X9_100 rfl ⟨Nat.le_of_ble_eq_true rfl, Nat.le_of_ble_eq_true rfl⟩ hl.1 rfl (Nat.le_of_ble_eq_true rfl) dX9_dayOf_26 ⟨Nat.zero_le _, Nat.zero_le _⟩) hw (fun r26 H locs hp26 hw => ?_)
      subst hp26
      have hp26f0 := lenM_mB (year := year) (month := month) (by omega) (by omega)
      have hp26f1 := lenM_rng (year - 1900) month
      have hlr := lenM_rng (year - 1900) month
      refine zkIp (pc := 29) (zrS (As := [.int (iI day), .int (iI 1), .int (iI (lenM (year - 1900) month))]) hx hb hml hown hG hw (c_X9_is l Γ K X2 Rf day 1 (lenM (year - 1900) month)  (by (first | assumption | omega))) cb_X9_is wl_X9_91 rfl ⟨Nat.le_of_ble_eq_true rfl, Nat.le_of_ble_eq_true rfl⟩ hl.1 rfl (Nat.le_of_ble_eq_true rfl) dX9_dayOf_29 ⟨Nat.zero_le _, Nat.zero_le _⟩) hw (fun r29 H locs hp29 hw => ?_)
      subst hp29
      refine zif_ne (pc := 32) hx hb 41 (by omega) dX9_dayOf_32 (by decide) (fun c32 => ?_) (fun c32 => ?_)
      · skip
        replace c32 := it1 c32
        refine lv_iload_n (pc := 41) hx hb dX9_dayOf_41 rfl (lv_at hl 1 rfl) ?_
        refine lv_iload_n (pc := 42) hx hb dX9_dayOf_42 rfl (lv_at hl 2 rfl) ?_
        refine lv_iload_n (pc := 43) hx hb dX9_dayOf_43 rfl (lv_at hl 3 rfl) ?_
        have hlr := lenM_rng (year - 1900) month
        refine zkIp (pc := 44) (zrS (As := [.int (iI year), .int (iI month), .int (iI day)]) hx hb hml hown hG hw (c_X9_dayFor l Γ K X2 Rf year month day  (by (first | assumption | omega)) (by (first | assumption | omega)) (by (first | assumption | omega))) cb_X9_dayFor wl_X9_115 rfl ⟨Nat.le_of_ble_eq_true rfl, Nat.le_of_ble_eq_true rfl⟩ hl.1 rfl (Nat.le_of_ble_eq_true rfl) dX9_dayOf_44 ⟨Nat.zero_le _, Nat.zero_le _⟩) hw (fun r44 H locs hp44 hw => ?_)
        subst hp44
        have hp44f0 := mB_rng (12 * (year - 1900) + month - 1)
        exact zretI (pc := 47) hx hb hlocks hr hw (Nat.zero_le _) (Nat.zero_le _) dX9_dayOf_47 ⟨by (try dsimp only) <;> (refine ⟨fun hz => ?_, ?_⟩; (focus first | exact True.intro | (unfold vlDate; omega; done) | (unfold vlDate; done) | (exfalso; revert hz; (unfold cdDate; (repeat' split) <;> omega))); rw [eX2]; exact (by (try rw [eX2]); (try rw [up2_up2]); exact thr_c (by (unfold cdDate; (repeat' split) <;> omega)))), rfl, rfl⟩
      · skip
        replace c32 := it0 c32
        refine lv_aload_n (pc := 35) hx hb dX9_dayOf_35 rfl (lv_at hl 0 rfl) ?_
        refine ziconst (pc := 36) (n := 1) hx hb dX9_dayOf_36 ?_
        refine zkIx (pc := 37) (zrV (As := [.int (iI 1)]) hx hb hml hown hG hw (c_X9_refuse l Γ K X2 Rf md 1  (by (first | assumption | omega))) (T := TX9) hmd rfl cb_X9_refuse wl_X9_123 rfl ⟨Nat.le_of_ble_eq_true rfl, Nat.le_of_ble_eq_true rfl⟩ hl.1 rfl (Nat.le_of_ble_eq_true rfl) dX9_dayOf_37 ⟨Nat.zero_le _, Nat.zero_le _⟩) hw (fun r37 X37 H locs hp37 hw => ?_)
        obtain ⟨hrf37, eX37⟩ := hp37
        exact zretI (pc := 40) hx hb hlocks hr hw (Nat.zero_le _) (Nat.zero_le _) dX9_dayOf_40 ⟨by (try dsimp only) <;> (refine ⟨fun hz => ?_, ?_⟩; (focus first | exact True.intro | (unfold vlDate; omega; done) | (unfold vlDate; done) | (exfalso; revert hz; (unfold cdDate; (repeat' split) <;> omega))); rw [eX37]; exact (by (try rw [eX2]); (try rw [up2_up2]); exact thr_c (by (unfold cdDate; (repeat' split) <;> omega)))), rfl, rfl⟩
set_option maxHeartbeats 4000000 in
set_option maxRecDepth 100000 in
theorem c_X9_yearOf (l : Launch) (Γ : zG) (K : zK) (X : zX) (Rf : zR) (md : Nat) (day : Int) (ρ : zL) (M : zM) (hR : repR ρ K X Rf md M) (hM : okM M) (h1 : fit day) : Ct l yX9_yearOf cX9_yearOf 2 (some .int) 3 0 0 Γ [.ref md, .int (iI day)] K X Rf (pI (zpx K Rf (fun (r : Int) (X' : zX) => (cdDay day = 0 → r = 1900 + yr day) ∧ X' = up2 X md 0 (cdDay day)))) := by
  refine Ct.of (by decide +kernel) (Nat.le_of_ble_eq_true rfl) ?_
  intro p e s m below meth c ls hx hb hr hml hown hG hlocks hname hw hl
  have hl : lv_has ls 2 [(0, .ref md), (1, .int (iI day))] := hl
  obtain ⟨hmd, hlmd⟩ := id hR.1
  obtain ⟨⟨hb1, hb2, hb3, hb4⟩, hokP, hokL, hokS, hokW, hokF⟩ := id hM
  have hq1 : X md 1 = M 40 1 := hR.2.1 1 rfl
  have hq5 : X md 5 = M 40 5 := hR.2.1 5 rfl
  have hq16 : X md 16 = M 40 16 := hR.2.1 16 rfl
  have hq25 : X md 25 = M 40 25 := hR.2.1 25 rfl
  have hq26 : X md 26 = M 40 26 := hR.2.1 26 rfl
  have hq27 : X md 27 = M 40 27 := hR.2.1 27 rfl
  have hq28 : X md 28 = M 40 28 := hR.2.1 28 rfl
  have hq29 : X md 29 = M 40 29 := hR.2.1 29 rfl
  refine lv_aload_n (pc := 0) hx hb dX9_yearOf_0 rfl (lv_at hl 0 rfl) ?_
  refine ziconst (pc := 1) (n := 0) hx hb dX9_yearOf_1 ?_
  refine zputI (pc := 2) hx hb hG hown hw hmd (T := TX9) rfl 0 (by decide) rfl wf_X9_87 rfl (by decide +kernel) rfl dX9_yearOf_2 (fun H locs hw => ?_)
  obtain ⟨X2, eX2⟩ : ∃ Y : zX, Y = up2 X md 0 0 := ⟨_, rfl⟩
  rw [← eX2] at hw
  refine lv_iload_n (pc := 5) hx hb dX9_yearOf_5 rfl (lv_at hl 1 rfl) ?_
  refine zkIp (pc := 6) (zrS (As := [.int (iI day)]) hx hb hml hown hG hw (c_X9_isDay l Γ K X2 Rf day  (by (first | assumption | omega))) cb_X9_isDay wl_X9_126 rfl ⟨Nat.le_of_ble_eq_true rfl, Nat.le_of_ble_eq_true rfl⟩ hl.1 rfl (Nat.le_of_ble_eq_true rfl) dX9_yearOf_6 ⟨Nat.zero_le _, Nat.zero_le _⟩) hw (fun r6 H locs hp6 hw => ?_)
  subst hp6
  refine zif_eq (pc := 9) hx hb 19 (by omega) dX9_yearOf_9 (by decide) (fun c9 => ?_) (fun c9 => ?_)
  · skip
    replace c9 := it0 c9
    refine lv_aload_n (pc := 19) hx hb dX9_yearOf_19 rfl (lv_at hl 0 rfl) ?_
    refine ziconst (pc := 20) (n := 1) hx hb dX9_yearOf_20 ?_
    refine zkIx (pc := 21) (zrV (As := [.int (iI 1)]) hx hb hml hown hG hw (c_X9_refuse l Γ K X2 Rf md 1  (by (first | assumption | omega))) (T := TX9) hmd rfl cb_X9_refuse wl_X9_123 rfl ⟨Nat.le_of_ble_eq_true rfl, Nat.le_of_ble_eq_true rfl⟩ hl.1 rfl (Nat.le_of_ble_eq_true rfl) dX9_yearOf_21 ⟨Nat.zero_le _, Nat.zero_le _⟩) hw (fun r21 X21 H locs hp21 hw => ?_)
    obtain ⟨hrf21, eX21⟩ := hp21
    exact zretI (pc := 24) hx hb hlocks hr hw (Nat.zero_le _) (Nat.zero_le _) dX9_yearOf_24 ⟨by (try dsimp only) <;> (refine ⟨fun hz => ?_, ?_⟩; (focus first | exact True.intro | (omega; done) | (omega; done) | (exfalso; revert hz; (unfold cdDay; (repeat' split) <;> omega))); rw [eX21]; exact (by (try rw [eX2]); (try rw [up2_up2]); exact thr_c (by (unfold cdDay; (repeat' split) <;> omega)))), rfl, rfl⟩
  · skip
    replace c9 := it1 c9
    refine lv_iload_n (pc := 12) hx hb dX9_yearOf_12 rfl (lv_at hl 1 rfl) ?_
    refine zkIp (pc := 13) (zrS (As := [.int (iI day)]) hx hb hml hown hG hw (c_X9_yearFor l Γ K X2 Rf day  (by (first | assumption | omega))) cb_X9_yearFor wl_X9_109 rfl ⟨Nat.le_of_ble_eq_true rfl, Nat.le_of_ble_eq_true rfl⟩ hl.1 rfl (Nat.le_of_ble_eq_true rfl) dX9_yearOf_13 ⟨Nat.zero_le _, Nat.zero_le _⟩) hw (fun r13 H locs hp13 hw => ?_)
    subst hp13
    have hp13f0 := yr_rng (d := day) (by omega) (by omega)
    refine lv_goto (pc := 16) (tgt := 24) hx hb dX9_yearOf_16 (by decide) ?_
    exact zretI (pc := 24) hx hb hlocks hr hw (Nat.zero_le _) (Nat.zero_le _) dX9_yearOf_24 ⟨by (try dsimp only) <;> (refine ⟨fun hz => ?_, ?_⟩; (focus first | exact True.intro | (omega; done) | (omega; done) | (exfalso; revert hz; (unfold cdDay; (repeat' split) <;> omega))); rw [eX2]; exact (by (try rw [eX2]); (try rw [up2_up2]); exact thr_c (by (unfold cdDay; (repeat' split) <;> omega)))), rfl, rfl⟩
set_option maxHeartbeats 4000000 in
set_option maxRecDepth 100000 in
theorem c_X9_monthOf (l : Launch) (Γ : zG) (K : zK) (X : zX) (Rf : zR) (md : Nat) (day : Int) (ρ : zL) (M : zM) (hR : repR ρ K X Rf md M) (hM : okM M) (h1 : fit day) : Ct l yX9_monthOf cX9_monthOf 2 (some .int) 4 0 0 Γ [.ref md, .int (iI day)] K X Rf (pI (zpx K Rf (fun (r : Int) (X' : zX) => (cdDay day = 0 → r = mi day % 12 + 1) ∧ X' = up2 X md 0 (cdDay day)))) := by
  refine Ct.of (by decide +kernel) (Nat.le_of_ble_eq_true rfl) ?_
  intro p e s m below meth c ls hx hb hr hml hown hG hlocks hname hw hl
  have hl : lv_has ls 2 [(0, .ref md), (1, .int (iI day))] := hl
  obtain ⟨hmd, hlmd⟩ := id hR.1
  obtain ⟨⟨hb1, hb2, hb3, hb4⟩, hokP, hokL, hokS, hokW, hokF⟩ := id hM
  have hq1 : X md 1 = M 40 1 := hR.2.1 1 rfl
  have hq5 : X md 5 = M 40 5 := hR.2.1 5 rfl
  have hq16 : X md 16 = M 40 16 := hR.2.1 16 rfl
  have hq25 : X md 25 = M 40 25 := hR.2.1 25 rfl
  have hq26 : X md 26 = M 40 26 := hR.2.1 26 rfl
  have hq27 : X md 27 = M 40 27 := hR.2.1 27 rfl
  have hq28 : X md 28 = M 40 28 := hR.2.1 28 rfl
  have hq29 : X md 29 = M 40 29 := hR.2.1 29 rfl
  refine lv_aload_n (pc := 0) hx hb dX9_monthOf_0 rfl (lv_at hl 0 rfl) ?_
  refine ziconst (pc := 1) (n := 0) hx hb dX9_monthOf_1 ?_
  refine zputI (pc := 2) hx hb hG hown hw hmd (T := TX9) rfl 0 (by decide) rfl wf_X9_87 rfl (by decide +kernel) rfl dX9_monthOf_2 (fun H locs hw => ?_)
  obtain ⟨X2, eX2⟩ : ∃ Y : zX, Y = up2 X md 0 0 := ⟨_, rfl⟩
  rw [← eX2] at hw
  refine lv_iload_n (pc := 5) hx hb dX9_monthOf_5 rfl (lv_at hl 1 rfl) ?_
  refine zkIp (pc := 6) (zrS (As := [.int (iI day)]) hx hb hml hown hG hw (c_X9_isDay l Γ K X2 Rf day  (by (first | assumption | omega))) cb_X9_isDay wl_X9_126 rfl ⟨Nat.le_of_ble_eq_true rfl, Nat.le_of_ble_eq_true rfl⟩ hl.1 rfl (Nat.le_of_ble_eq_true rfl) dX9_monthOf_6 ⟨Nat.zero_le _, Nat.zero_le _⟩) hw (fun r6 H locs hp6 hw => ?_)
  subst hp6
  refine zif_eq (pc := 9) hx hb 19 (by omega) dX9_monthOf_9 (by decide) (fun c9 => ?_) (fun c9 => ?_)
  · skip
    replace c9 := it0 c9
    refine lv_aload_n (pc := 19) hx hb dX9_monthOf_19 rfl (lv_at hl 0 rfl) ?_
    refine ziconst (pc := 20) (n := 1) hx hb dX9_monthOf_20 ?_
    refine zkIx (pc := 21) (zrV (As := [.int (iI 1)]) hx hb hml hown hG hw (c_X9_refuse l Γ K X2 Rf md 1  (by (first | assumption | omega))) (T := TX9) hmd rfl cb_X9_refuse wl_X9_123 rfl ⟨Nat.le_of_ble_eq_true rfl, Nat.le_of_ble_eq_true rfl⟩ hl.1 rfl (Nat.le_of_ble_eq_true rfl) dX9_monthOf_21 ⟨Nat.zero_le _, Nat.zero_le _⟩) hw (fun r21 X21 H locs hp21 hw => ?_)
    obtain ⟨hrf21, eX21⟩ := hp21
    exact zretI (pc := 24) hx hb hlocks hr hw (Nat.zero_le _) (Nat.zero_le _) dX9_monthOf_24 ⟨by (try dsimp only) <;> (refine ⟨fun hz => ?_, ?_⟩; (focus first | exact True.intro | (omega; done) | (omega; done) | (exfalso; revert hz; (unfold cdDay; (repeat' split) <;> omega))); rw [eX21]; exact (by (try rw [eX2]); (try rw [up2_up2]); exact thr_c (by (unfold cdDay; (repeat' split) <;> omega)))), rfl, rfl⟩
  · skip
    replace c9 := it1 c9
    refine lv_iload_n (pc := 12) hx hb dX9_monthOf_12 rfl (lv_at hl 1 rfl) ?_
    refine zkIp (pc := 13) (zrS (As := [.int (iI day)]) hx hb hml hown hG hw (c_X9_monthFor l Γ K X2 Rf day  (by (first | assumption | omega))) cb_X9_monthFor wl_X9_112 rfl ⟨Nat.le_of_ble_eq_true rfl, Nat.le_of_ble_eq_true rfl⟩ hl.1 rfl (Nat.le_of_ble_eq_true rfl) dX9_monthOf_13 ⟨Nat.zero_le _, Nat.zero_le _⟩) hw (fun r13 H locs hp13 hw => ?_)
    subst hp13
    have hp13f0 := mi_rng (d := day) (by omega) (by omega)
    have hp13f1 := yr_mi (d := day) (by omega) (by omega)
    refine lv_goto (pc := 16) (tgt := 24) hx hb dX9_monthOf_16 (by decide) ?_
    exact zretI (pc := 24) hx hb hlocks hr hw (Nat.zero_le _) (Nat.zero_le _) dX9_monthOf_24 ⟨by (try dsimp only) <;> (refine ⟨fun hz => ?_, ?_⟩; (focus first | exact True.intro | (omega; done) | (omega; done) | (exfalso; revert hz; (unfold cdDay; (repeat' split) <;> omega))); rw [eX2]; exact (by (try rw [eX2]); (try rw [up2_up2]); exact thr_c (by (unfold cdDay; (repeat' split) <;> omega)))), rfl, rfl⟩
set_option maxHeartbeats 4000000 in
set_option maxRecDepth 100000 in
theorem c_X9_dayOfMonth (l : Launch) (Γ : zG) (K : zK) (X : zX) (Rf : zR) (md : Nat) (day : Int) (ρ : zL) (M : zM) (hR : repR ρ K X Rf md M) (hM : okM M) (h1 : fit day) : Ct l yX9_dayOfMonth cX9_dayOfMonth 2 (some .int) 5 0 0 Γ [.ref md, .int (iI day)] K X Rf (pI (zpx K Rf (fun (r : Int) (X' : zX) => (cdDay day = 0 → r = day - mB (mi day) + 1) ∧ X' = up2 X md 0 (cdDay day)))) := by
  refine Ct.of (by decide +kernel) (Nat.le_of_ble_eq_true rfl) ?_
  intro p e s m below meth c ls hx hb hr hml hown hG hlocks hname hw hl
  have hl : lv_has ls 2 [(0, .ref md), (1, .int (iI day))] := hl
  obtain ⟨hmd, hlmd⟩ := id hR.1
  obtain ⟨⟨hb1, hb2, hb3, hb4⟩, hokP, hokL, hokS, hokW, hokF⟩ := id hM
  have hq1 : X md 1 = M 40 1 := hR.2.1 1 rfl
  have hq5 : X md 5 = M 40 5 := hR.2.1 5 rfl
  have hq16 : X md 16 = M 40 16 := hR.2.1 16 rfl
  have hq25 : X md 25 = M 40 25 := hR.2.1 25 rfl
  have hq26 : X md 26 = M 40 26 := hR.2.1 26 rfl
  have hq27 : X md 27 = M 40 27 := hR.2.1 27 rfl
  have hq28 : X md 28 = M 40 28 := hR.2.1 28 rfl
  have hq29 : X md 29 = M 40 29 := hR.2.1 29 rfl
  refine lv_aload_n (pc := 0) hx hb dX9_dayOfMonth_0 rfl (lv_at hl 0 rfl) ?_
  refine ziconst (pc := 1) (n := 0) hx hb dX9_dayOfMonth_1 ?_
  refine zputI (pc := 2) hx hb hG hown hw hmd (T := TX9) rfl 0 (by decide) rfl wf_X9_87 rfl (by decide +kernel) rfl dX9_dayOfMonth_2 (fun H locs hw => ?_)
  obtain ⟨X2, eX2⟩ : ∃ Y : zX, Y = up2 X md 0 0 := ⟨_, rfl⟩
  rw [← eX2] at hw
  refine lv_iload_n (pc := 5) hx hb dX9_dayOfMonth_5 rfl (lv_at hl 1 rfl) ?_
  refine zkIp (pc := 6) (zrS (As := [.int (iI day)]) hx hb hml hown hG hw (c_X9_isDay l Γ K X2 Rf day  (by (first | assumption | omega))) cb_X9_isDay wl_X9_126 rfl ⟨Nat.le_of_ble_eq_true rfl, Nat.le_of_ble_eq_true rfl⟩ hl.1 rfl (Nat.le_of_ble_eq_true rfl) dX9_dayOfMonth_6 ⟨Nat.zero_le _, Nat.zero_le _⟩) hw (fun r6 H locs hp6 hw => ?_)
  subst hp6
  refine zif_eq (pc := 9) hx hb 19 (by omega) dX9_dayOfMonth_9 (by decide) (fun c9 => ?_) (fun c9 => ?_)
  · skip
    replace c9 := it0 c9
    refine lv_aload_n (pc := 19) hx hb dX9_dayOfMonth_19 rfl (lv_at hl 0 rfl) ?_
    refine ziconst (pc := 20) (n := 1) hx hb dX9_dayOfMonth_20 ?_
    refine zkIx (pc := 21) (zrV (As := [.int (iI 1)]) hx hb hml hown hG hw (c_X9_refuse l Γ K X2 Rf md 1  (by (first | assumption | omega))) (T := TX9) hmd rfl cb_X9_refuse wl_X9_123 rfl ⟨Nat.le_of_ble_eq_true rfl, Nat.le_of_ble_eq_true rfl⟩ hl.1 rfl (Nat.le_of_ble_eq_true rfl) dX9_dayOfMonth_21 ⟨Nat.zero_le _, Nat.zero_le _⟩) hw (fun r21 X21 H locs hp21 hw => ?_)
    obtain ⟨hrf21, eX21⟩ := hp21
    exact zretI (pc := 24) hx hb hlocks hr hw (Nat.zero_le _) (Nat.zero_le _) dX9_dayOfMonth_24 ⟨by (try dsimp only) <;> (refine ⟨fun hz => ?_, ?_⟩; (focus first | exact True.intro | (omega; done) | (omega; done) | (exfalso; revert hz; (unfold cdDay; (repeat' split) <;> omega))); rw [eX21]; exact (by (try rw [eX2]); (try rw [up2_up2]); exact thr_c (by (unfold cdDay; (repeat' split) <;> omega)))), rfl, rfl⟩
  · skip
    replace c9 := it1 c9
    refine lv_iload_n (pc := 12) hx hb dX9_dayOfMonth_12 rfl (lv_at hl 1 rfl) ?_
    refine zkIp (pc := 13) (zrS (As := [.int (iI day)]) hx hb hml hown hG hw (c_X9_dateFor l Γ K X2 Rf day  (by (first | assumption | omega))) cb_X9_dateFor wl_X9_129 rfl ⟨Nat.le_of_ble_eq_true rfl, Nat.le_of_ble_eq_true rfl⟩ hl.1 rfl (Nat.le_of_ble_eq_true rfl) dX9_dayOfMonth_13 ⟨Nat.zero_le _, Nat.zero_le _⟩) hw (fun r13 H locs hp13 hw => ?_)
    subst hp13
    have hp13f0 := mi_rng (d := day) (by omega) (by omega)
    have hp13f1 := mB_succ (i := mi day) (mi_rng (d := day) (by omega) (by omega)).1 (mi_rng (d := day) (by omega) (by omega)).2.1
    refine lv_goto (pc := 16) (tgt := 24) hx hb dX9_dayOfMonth_16 (by decide) ?_
    exact zretI (pc := 24) hx hb hlocks hr hw (Nat.zero_le _) (Nat.zero_le _) dX9_dayOfMonth_24 ⟨by (try dsimp only) <;> (refine ⟨fun hz => ?_, ?_⟩; (focus first | exact True.intro | (omega; done) | (omega; done) | (exfalso; revert hz; (unfold cdDay; (repeat' split) <;> omega))); rw [eX2]; exact (by (try rw [eX2]); (try rw [up2_up2]); exact thr_c (by (unfold cdDay; (repeat' split) <;> omega)))), rfl, rfl⟩
set_option maxHeartbeats 4000000 in
set_option maxRecDepth 100000 in
theorem c_X9_weekdayOf (l : Launch) (Γ : zG) (K : zK) (X : zX) (Rf : zR) (md : Nat) (day : Int) (ρ : zL) (M : zM) (hR : repR ρ K X Rf md M) (hM : okM M) (h1 : fit day) : Ct l yX9_weekdayOf cX9_weekdayOf 2 (some .int) 2 0 0 Γ [.ref md, .int (iI day)] K X Rf (pI (zpx K Rf (fun (r : Int) (X' : zX) => (cdDay day = 0 → r = day % 7) ∧ X' = up2 X md 0 (cdDay day)))) := by
  refine Ct.of (by decide +kernel) (Nat.le_of_ble_eq_true rfl) ?_
  intro p e s m below meth c ls hx hb hr hml hown hG hlocks hname hw hl
  have hl : lv_has ls 2 [(0, .ref md), (1, .int (iI day))] := hl
  obtain ⟨hmd, hlmd⟩ := id hR.1
  obtain ⟨⟨hb1, hb2, hb3, hb4⟩, hokP, hokL, hokS, hokW, hokF⟩ := id hM
  have hq1 : X md 1 = M 40 1 := hR.2.1 1 rfl
  have hq5 : X md 5 = M 40 5 := hR.2.1 5 rfl
  have hq16 : X md 16 = M 40 16 := hR.2.1 16 rfl
  have hq25 : X md 25 = M 40 25 := hR.2.1 25 rfl
  have hq26 : X md 26 = M 40 26 := hR.2.1 26 rfl
  have hq27 : X md 27 = M 40 27 := hR.2.1 27 rfl
  have hq28 : X md 28 = M 40 28 := hR.2.1 28 rfl
  have hq29 : X md 29 = M 40 29 := hR.2.1 29 rfl
  refine lv_aload_n (pc := 0) hx hb dX9_weekdayOf_0 rfl (lv_at hl 0 rfl) ?_
  refine ziconst (pc := 1) (n := 0) hx hb dX9_weekdayOf_1 ?_
  refine zputI (pc := 2) hx hb hG hown hw hmd (T := TX9) rfl 0 (by decide) rfl wf_X9_87 rfl (by decide +kernel) rfl dX9_weekdayOf_2 (fun H locs hw => ?_)
  obtain ⟨X2, eX2⟩ : ∃ Y : zX, Y = up2 X md 0 0 := ⟨_, rfl⟩
  rw [← eX2] at hw
  refine lv_iload_n (pc := 5) hx hb dX9_weekdayOf_5 rfl (lv_at hl 1 rfl) ?_
  refine zkIp (pc := 6) (zrS (As := [.int (iI day)]) hx hb hml hown hG hw (c_X9_isDay l Γ K X2 Rf day  (by (first | assumption | omega))) cb_X9_isDay wl_X9_126 rfl ⟨Nat.le_of_ble_eq_true rfl, Nat.le_of_ble_eq_true rfl⟩ hl.1 rfl (Nat.le_of_ble_eq_true rfl) dX9_weekdayOf_6 ⟨Nat.zero_le _, Nat.zero_le _⟩) hw (fun r6 H locs hp6 hw => ?_)
  subst hp6
  refine zif_eq (pc := 9) hx hb 19 (by omega) dX9_weekdayOf_9 (by decide) (fun c9 => ?_) (fun c9 => ?_)
  · skip
    replace c9 := it0 c9
    refine lv_aload_n (pc := 19) hx hb dX9_weekdayOf_19 rfl (lv_at hl 0 rfl) ?_
    refine ziconst (pc := 20) (n := 1) hx hb dX9_weekdayOf_20 ?_
    refine zkIx (pc := 21) (zrV (As := [.int (iI 1)]) hx hb hml hown hG hw (c_X9_refuse l Γ K X2 Rf md 1  (by (first | assumption | omega))) (T := TX9) hmd rfl cb_X9_refuse wl_X9_123 rfl ⟨Nat.le_of_ble_eq_true rfl, Nat.le_of_ble_eq_true rfl⟩ hl.1 rfl (Nat.le_of_ble_eq_true rfl) dX9_weekdayOf_21 ⟨Nat.zero_le _, Nat.zero_le _⟩) hw (fun r21 X21 H locs hp21 hw => ?_)
    obtain ⟨hrf21, eX21⟩ := hp21
    exact zretI (pc := 24) hx hb hlocks hr hw (Nat.zero_le _) (Nat.zero_le _) dX9_weekdayOf_24 ⟨by (try dsimp only) <;> (refine ⟨fun hz => ?_, ?_⟩; (focus first | exact True.intro | (omega; done) | (omega; done) | (exfalso; revert hz; (unfold cdDay; (repeat' split) <;> omega))); rw [eX21]; exact (by (try rw [eX2]); (try rw [up2_up2]); exact thr_c (by (unfold cdDay; (repeat' split) <;> omega)))), rfl, rfl⟩
  · skip
    replace c9 := it1 c9
    refine lv_iload_n (pc := 12) hx hb dX9_weekdayOf_12 rfl (lv_at hl 1 rfl) ?_
    refine zbipush (pc := 13) (n := 7) hx hb dX9_weekdayOf_13 rfl ?_
    refine zrem (pc := 15) hx hb (by omega) dX9_weekdayOf_15 ?_
    refine lv_goto (pc := 16) (tgt := 24) hx hb dX9_weekdayOf_16 (by decide) ?_
    exact zretI (pc := 24) hx hb hlocks hr hw (Nat.zero_le _) (Nat.zero_le _) dX9_weekdayOf_24 ⟨by (try dsimp only) <;> (refine ⟨fun hz => ?_, ?_⟩; (focus first | exact True.intro | (omega; done) | (omega; done) | (exfalso; revert hz; (unfold cdDay; (repeat' split) <;> omega))); rw [eX2]; exact (by (try rw [eX2]); (try rw [up2_up2]); exact thr_c (by (unfold cdDay; (repeat' split) <;> omega)))), rfl, rfl⟩
set_option maxHeartbeats 4000000 in
set_option maxRecDepth 100000 in
theorem c_X9_weekOf (l : Launch) (Γ : zG) (K : zK) (X : zX) (Rf : zR) (md : Nat) (day : Int) (ρ : zL) (M : zM) (hR : repR ρ K X Rf md M) (hM : okM M) (h1 : fit day) : Ct l yX9_weekOf cX9_weekOf 2 (some .int) 3 0 0 Γ [.ref md, .int (iI day)] K X Rf (pI (zpx K Rf (fun (r : Int) (X' : zX) => (cdDay day = 0 → r = vlWeek day) ∧ X' = up2 X md 0 (cdDay day)))) := by
  refine Ct.of (by decide +kernel) (Nat.le_of_ble_eq_true rfl) ?_
  intro p e s m below meth c ls hx hb hr hml hown hG hlocks hname hw hl
  have hl : lv_has ls 2 [(0, .ref md), (1, .int (iI day))] := hl
  obtain ⟨hmd, hlmd⟩ := id hR.1
  obtain ⟨⟨hb1, hb2, hb3, hb4⟩, hokP, hokL, hokS, hokW, hokF⟩ := id hM
  have hq1 : X md 1 = M 40 1 := hR.2.1 1 rfl
  have hq5 : X md 5 = M 40 5 := hR.2.1 5 rfl
  have hq16 : X md 16 = M 40 16 := hR.2.1 16 rfl
  have hq25 : X md 25 = M 40 25 := hR.2.1 25 rfl
  have hq26 : X md 26 = M 40 26 := hR.2.1 26 rfl
  have hq27 : X md 27 = M 40 27 := hR.2.1 27 rfl
  have hq28 : X md 28 = M 40 28 := hR.2.1 28 rfl
  have hq29 : X md 29 = M 40 29 := hR.2.1 29 rfl
  refine lv_aload_n (pc := 0) hx hb dX9_weekOf_0 rfl (lv_at hl 0 rfl) ?_
  refine ziconst (pc := 1) (n := 0) hx hb dX9_weekOf_1 ?_
  refine zputI (pc := 2) hx hb hG hown hw hmd (T := TX9) rfl 0 (by decide) rfl wf_X9_87 rfl (by decide +kernel) rfl dX9_weekOf_2 (fun H locs hw => ?_)
  obtain ⟨X2, eX2⟩ : ∃ Y : zX, Y = up2 X md 0 0 := ⟨_, rfl⟩
  rw [← eX2] at hw
  refine lv_iload_n (pc := 5) hx hb dX9_weekOf_5 rfl (lv_at hl 1 rfl) ?_
  refine zkIp (pc := 6) (zrS (As := [.int (iI day)]) hx hb hml hown hG hw (c_X9_isDay l Γ K X2 Rf day  (by (first | assumption | omega))) cb_X9_isDay wl_X9_126 rfl ⟨Nat.le_of_ble_eq_true rfl, Nat.le_of_ble_eq_true rfl⟩ hl.1 rfl (Nat.le_of_ble_eq_true rfl) dX9_weekOf_6 ⟨Nat.zero_le _, Nat.zero_le _⟩) hw (fun r6 H locs hp6 hw => ?_)
  subst hp6
  refine zif_eq (pc := 9) hx hb 35 (by omega) dX9_weekOf_9 (by decide) (fun c9 => ?_) (fun c9 => ?_)
  · skip
    replace c9 := it0 c9
    refine lv_aload_n (pc := 35) hx hb dX9_weekOf_35 rfl (lv_at hl 0 rfl) ?_
    refine ziconst (pc := 36) (n := 1) hx hb dX9_weekOf_36 ?_
    refine zkIx (pc := 37) (zrV (As := [.int (iI 1)]) hx hb hml hown hG hw (c_X9_refuse l Γ K X2 Rf md 1  (by (first | assumption | omega))) (T := TX9) hmd rfl cb_X9_refuse wl_X9_123 rfl ⟨Nat.le_of_ble_eq_true rfl, Nat.le_of_ble_eq_true rfl⟩ hl.1 rfl (Nat.le_of_ble_eq_true rfl) dX9_weekOf_37 ⟨Nat.zero_le _, Nat.zero_le _⟩) hw (fun r37 X37 H locs hp37 hw => ?_)
    obtain ⟨hrf37, eX37⟩ := hp37
    exact zretI (pc := 40) hx hb hlocks hr hw (Nat.zero_le _) (Nat.zero_le _) dX9_weekOf_40 ⟨by (try dsimp only) <;> (refine ⟨fun hz => ?_, ?_⟩; (focus first | exact True.intro | (unfold vlWeek; omega; done) | (unfold vlWeek; done) | (exfalso; revert hz; (unfold cdDay; (repeat' split) <;> omega))); rw [eX37]; exact (by (try rw [eX2]); (try rw [up2_up2]); exact thr_c (by (unfold cdDay; (repeat' split) <;> omega)))), rfl, rfl⟩
  · skip
    replace c9 := it1 c9
    refine lv_iload_n (pc := 12) hx hb dX9_weekOf_12 rfl (lv_at hl 1 rfl) ?_
    refine zkIp (pc := 13) (zrS (As := [.int (iI day)]) hx hb hml hown hG hw (c_X9_thursday l Γ K X2 Rf day  (by (first | assumption | omega))) cb_X9_thursday wl_X9_132 rfl ⟨Nat.le_of_ble_eq_true rfl, Nat.le_of_ble_eq_true rfl⟩ hl.1 rfl (Nat.le_of_ble_eq_true rfl) dX9_weekOf_13 ⟨Nat.zero_le _, Nat.zero_le _⟩) hw (fun r13 H locs hp13 hw => ?_)
    subst hp13
    refine lv_iload_n (pc := 16) hx hb dX9_weekOf_16 rfl (lv_at hl 1 rfl) ?_
    refine zkIp (pc := 17) (zrS (As := [.int (iI day)]) hx hb hml hown hG hw (c_X9_thursday l Γ K X2 Rf day  (by (first | assumption | omega))) cb_X9_thursday wl_X9_132 rfl ⟨Nat.le_of_ble_eq_true rfl, Nat.le_of_ble_eq_true rfl⟩ hl.1 rfl (Nat.le_of_ble_eq_true rfl) dX9_weekOf_17 ⟨Nat.zero_le _, Nat.zero_le _⟩) hw (fun r17 H locs hp17 hw => ?_)
    subst hp17
    have hyr := yr_rng (d := day - day % 7 + 3) (by omega) (by omega)
    refine zkIp (pc := 20) (zrS (As := [.int (iI (day - day % 7 + 3))]) hx hb hml hown hG hw (c_X9_yearFor l Γ K X2 Rf (day - day % 7 + 3)  (by (first | assumption | omega))) cb_X9_yearFor wl_X9_109 rfl ⟨Nat.le_of_ble_eq_true rfl, Nat.le_of_ble_eq_true rfl⟩ hl.1 rfl (Nat.le_of_ble_eq_true rfl) dX9_weekOf_20 ⟨Nat.zero_le _, Nat.zero_le _⟩) hw (fun r20 H locs hp20 hw => ?_)
    subst hp20
    have hp20f0 := yr_rng (d := (day - day % 7 + 3)) (by omega) (by omega)
    refine zkIp (pc := 23) (zrS (As := [.int (iI (1900 + yr (day - day % 7 + 3)))]) hx hb hml hown hG hw (c_X9_beginOf l Γ K X2 Rf (1900 + yr (day - day % 7 + 3))  (by (first | assumption | omega))) cb_X9_beginOf wl_X9_96 rfl ⟨Nat.le_of_ble_eq_true rfl, Nat.le_of_ble_eq_true rfl⟩ hl.1 rfl (Nat.le_of_ble_eq_true rfl) dX9_weekOf_23 ⟨Nat.zero_le _, Nat.zero_le _⟩) hw (fun r23 H locs hp23 hw => ?_)
    subst hp23
    have hp23f0 := yb_rng (y := (1900 + yr (day - day % 7 + 3)) - 1900) (by omega) (by omega)
    refine zsub (pc := 26) hx hb dX9_weekOf_26 ?_
    refine zbipush (pc := 27) (n := 7) hx hb dX9_weekOf_27 rfl ?_
    have hy9 : yb (1900 + yr (day - day % 7 + 3) - 1900) = yb (yr (day - day % 7 + 3)) := by rw [show 1900 + yr (day - day % 7 + 3) - 1900 = yr (day - day % 7 + 3) by omega]
    refine zdiv (pc := 29) hx hb (by omega) dX9_weekOf_29 ?_
    refine ziconst (pc := 30) (n := 1) hx hb dX9_weekOf_30 ?_
    refine zadd (pc := 31) hx hb dX9_weekOf_31 ?_
    refine lv_goto (pc := 32) (tgt := 40) hx hb dX9_weekOf_32 (by decide) ?_
    exact zretI (pc := 40) hx hb hlocks hr hw (Nat.zero_le _) (Nat.zero_le _) dX9_weekOf_40 ⟨by (try dsimp only) <;> (refine ⟨fun hz => ?_, ?_⟩; (focus first | exact True.intro | (unfold vlWeek; omega; done) | (unfold vlWeek; done) | (exfalso; revert hz; (unfold cdDay; (repeat' split) <;> omega))); rw [eX2]; exact (by (try rw [eX2]); (try rw [up2_up2]); exact thr_c (by (unfold cdDay; (repeat' split) <;> omega)))), rfl, rfl⟩
set_option maxHeartbeats 4000000 in
set_option maxRecDepth 100000 in
theorem c_X9_yearOfWeek (l : Launch) (Γ : zG) (K : zK) (X : zX) (Rf : zR) (md : Nat) (day : Int) (ρ : zL) (M : zM) (hR : repR ρ K X Rf md M) (hM : okM M) (h1 : fit day) : Ct l yX9_yearOfWeek cX9_yearOfWeek 2 (some .int) 3 0 0 Γ [.ref md, .int (iI day)] K X Rf (pI (zpx K Rf (fun (r : Int) (X' : zX) => (cdDay day = 0 → r = 1900 + yr (day - day % 7 + 3)) ∧ X' = up2 X md 0 (cdDay day)))) := by
  refine Ct.of (by decide +kernel) (Nat.le_of_ble_eq_true rfl) ?_
  intro p e s m below meth c ls hx hb hr hml hown hG hlocks hname hw hl
  have hl : lv_has ls 2 [(0, .ref md), (1, .int (iI day))] := hl
  obtain ⟨hmd, hlmd⟩ := id hR.1
  obtain ⟨⟨hb1, hb2, hb3, hb4⟩, hokP, hokL, hokS, hokW, hokF⟩ := id hM
  have hq1 : X md 1 = M 40 1 := hR.2.1 1 rfl
  have hq5 : X md 5 = M 40 5 := hR.2.1 5 rfl
  have hq16 : X md 16 = M 40 16 := hR.2.1 16 rfl
  have hq25 : X md 25 = M 40 25 := hR.2.1 25 rfl
  have hq26 : X md 26 = M 40 26 := hR.2.1 26 rfl
  have hq27 : X md 27 = M 40 27 := hR.2.1 27 rfl
  have hq28 : X md 28 = M 40 28 := hR.2.1 28 rfl
  have hq29 : X md 29 = M 40 29 := hR.2.1 29 rfl
  refine lv_aload_n (pc := 0) hx hb dX9_yearOfWeek_0 rfl (lv_at hl 0 rfl) ?_
  refine ziconst (pc := 1) (n := 0) hx hb dX9_yearOfWeek_1 ?_
  refine zputI (pc := 2) hx hb hG hown hw hmd (T := TX9) rfl 0 (by decide) rfl wf_X9_87 rfl (by decide +kernel) rfl dX9_yearOfWeek_2 (fun H locs hw => ?_)
  obtain ⟨X2, eX2⟩ : ∃ Y : zX, Y = up2 X md 0 0 := ⟨_, rfl⟩
  rw [← eX2] at hw
  refine lv_iload_n (pc := 5) hx hb dX9_yearOfWeek_5 rfl (lv_at hl 1 rfl) ?_
  refine zkIp (pc := 6) (zrS (As := [.int (iI day)]) hx hb hml hown hG hw (c_X9_isDay l Γ K X2 Rf day  (by (first | assumption | omega))) cb_X9_isDay wl_X9_126 rfl ⟨Nat.le_of_ble_eq_true rfl, Nat.le_of_ble_eq_true rfl⟩ hl.1 rfl (Nat.le_of_ble_eq_true rfl) dX9_yearOfWeek_6 ⟨Nat.zero_le _, Nat.zero_le _⟩) hw (fun r6 H locs hp6 hw => ?_)
  subst hp6
  refine zif_eq (pc := 9) hx hb 22 (by omega) dX9_yearOfWeek_9 (by decide) (fun c9 => ?_) (fun c9 => ?_)
  · skip
    replace c9 := it0 c9
    refine lv_aload_n (pc := 22) hx hb dX9_yearOfWeek_22 rfl (lv_at hl 0 rfl) ?_
    refine ziconst (pc := 23) (n := 1) hx hb dX9_yearOfWeek_23 ?_
    refine zkIx (pc := 24) (zrV (As := [.int (iI 1)]) hx hb hml hown hG hw (c_X9_refuse l Γ K X2 Rf md 1  (by (first | assumption | omega))) (T := TX9) hmd rfl cb_X9_refuse wl_X9_123 rfl ⟨Nat.le_of_ble_eq_true rfl, Nat.le_of_ble_eq_true rfl⟩ hl.1 rfl (Nat.le_of_ble_eq_true rfl) dX9_yearOfWeek_24 ⟨Nat.zero_le _, Nat.zero_le _⟩) hw (fun r24 X24 H locs hp24 hw => ?_)
    obtain ⟨hrf24, eX24⟩ := hp24
    exact zretI (pc := 27) hx hb hlocks hr hw (Nat.zero_le _) (Nat.zero_le _) dX9_yearOfWeek_27 ⟨by (try dsimp only) <;> (refine ⟨fun hz => ?_, ?_⟩; (focus first | exact True.intro | (omega; done) | (omega; done) | (exfalso; revert hz; (unfold cdDay; (repeat' split) <;> omega))); rw [eX24]; exact (by (try rw [eX2]); (try rw [up2_up2]); exact thr_c (by (unfold cdDay; (repeat' split) <;> omega)))), rfl, rfl⟩
  · skip
    replace c9 := it1 c9
    refine lv_iload_n (pc := 12) hx hb dX9_yearOfWeek_12 rfl (lv_at hl 1 rfl) ?_
    refine zkIp (pc := 13) (zrS (As := [.int (iI day)]) hx hb hml hown hG hw (c_X9_thursday l Γ K X2 Rf day  (by (first | assumption | omega))) cb_X9_thursday wl_X9_132 rfl ⟨Nat.le_of_ble_eq_true rfl, Nat.le_of_ble_eq_true rfl⟩ hl.1 rfl (Nat.le_of_ble_eq_true rfl) dX9_yearOfWeek_13 ⟨Nat.zero_le _, Nat.zero_le _⟩) hw (fun r13 H locs hp13 hw => ?_)
    subst hp13
    refine zkIp (pc := 16) (zrS (As := [.int (iI (day - day % 7 + 3))]) hx hb hml hown hG hw (c_X9_yearFor l Γ K X2 Rf (day - day % 7 + 3)  (by (first | assumption | omega))) cb_X9_yearFor wl_X9_109 rfl ⟨Nat.le_of_ble_eq_true rfl, Nat.le_of_ble_eq_true rfl⟩ hl.1 rfl (Nat.le_of_ble_eq_true rfl) dX9_yearOfWeek_16 ⟨Nat.zero_le _, Nat.zero_le _⟩) hw (fun r16 H locs hp16 hw => ?_)
    subst hp16
    have hp16f0 := yr_rng (d := (day - day % 7 + 3)) (by omega) (by omega)
    refine lv_goto (pc := 19) (tgt := 27) hx hb dX9_yearOfWeek_19 (by decide) ?_
    exact zretI (pc := 27) hx hb hlocks hr hw (Nat.zero_le _) (Nat.zero_le _) dX9_yearOfWeek_27 ⟨by (try dsimp only) <;> (refine ⟨fun hz => ?_, ?_⟩; (focus first | exact True.intro | (omega; done) | (omega; done) | (exfalso; revert hz; (unfold cdDay; (repeat' split) <;> omega))); rw [eX2]; exact (by (try rw [eX2]); (try rw [up2_up2]); exact thr_c (by (unfold cdDay; (repeat' split) <;> omega)))), rfl, rfl⟩
set_option maxHeartbeats 4000000 in
set_option maxRecDepth 100000 in
theorem c_X9_easterOf (l : Launch) (Γ : zG) (K : zK) (X : zX) (Rf : zR) (md : Nat) (year : Int) (ρ : zL) (M : zM) (hR : repR ρ K X Rf md M) (hM : okM M) (h1 : fit year) : Ct l yX9_easterOf cX9_easterOf 2 (some .int) 3 0 0 Γ [.ref md, .int (iI year)] K X Rf (pI (zpx K Rf (fun (r : Int) (X' : zX) => (cdYear year = 0 → r = est year) ∧ X' = up2 X md 0 (cdYear year)))) := by
  refine Ct.of (by decide +kernel) (Nat.le_of_ble_eq_true rfl) ?_
  intro p e s m below meth c ls hx hb hr hml hown hG hlocks hname hw hl
  have hl : lv_has ls 2 [(0, .ref md), (1, .int (iI year))] := hl
  obtain ⟨hmd, hlmd⟩ := id hR.1
  obtain ⟨⟨hb1, hb2, hb3, hb4⟩, hokP, hokL, hokS, hokW, hokF⟩ := id hM
  have hq1 : X md 1 = M 40 1 := hR.2.1 1 rfl
  have hq5 : X md 5 = M 40 5 := hR.2.1 5 rfl
  have hq16 : X md 16 = M 40 16 := hR.2.1 16 rfl
  have hq25 : X md 25 = M 40 25 := hR.2.1 25 rfl
  have hq26 : X md 26 = M 40 26 := hR.2.1 26 rfl
  have hq27 : X md 27 = M 40 27 := hR.2.1 27 rfl
  have hq28 : X md 28 = M 40 28 := hR.2.1 28 rfl
  have hq29 : X md 29 = M 40 29 := hR.2.1 29 rfl
  refine lv_aload_n (pc := 0) hx hb dX9_easterOf_0 rfl (lv_at hl 0 rfl) ?_
  refine ziconst (pc := 1) (n := 0) hx hb dX9_easterOf_1 ?_
  refine zputI (pc := 2) hx hb hG hown hw hmd (T := TX9) rfl 0 (by decide) rfl wf_X9_87 rfl (by decide +kernel) rfl dX9_easterOf_2 (fun H locs hw => ?_)
  obtain ⟨X2, eX2⟩ : ∃ Y : zX, Y = up2 X md 0 0 := ⟨_, rfl⟩
  rw [← eX2] at hw
  refine lv_iload_n (pc := 5) hx hb dX9_easterOf_5 rfl (lv_at hl 1 rfl) ?_
  refine zkIp (pc := 6) (zrS (As := [.int (iI year)]) hx hb hml hown hG hw (c_X9_isYear l Γ K X2 Rf year  (by (first | assumption | omega))) cb_X9_isYear wl_X9_119 rfl ⟨Nat.le_of_ble_eq_true rfl, Nat.le_of_ble_eq_true rfl⟩ hl.1 rfl (Nat.le_of_ble_eq_true rfl) dX9_easterOf_6 ⟨Nat.zero_le _, Nat.zero_le _⟩) hw (fun r6 H locs hp6 hw => ?_)
  subst hp6
  refine zif_eq (pc := 9) hx hb 19 (by omega) dX9_easterOf_9 (by decide) (fun c9 => ?_) (fun c9 => ?_)
  · skip
    replace c9 := it0 c9
    refine lv_aload_n (pc := 19) hx hb dX9_easterOf_19 rfl (lv_at hl 0 rfl) ?_
    refine ziconst (pc := 20) (n := 1) hx hb dX9_easterOf_20 ?_
    refine zkIx (pc := 21) (zrV (As := [.int (iI 1)]) hx hb hml hown hG hw (c_X9_refuse l Γ K X2 Rf md 1  (by (first | assumption | omega))) (T := TX9) hmd rfl cb_X9_refuse wl_X9_123 rfl ⟨Nat.le_of_ble_eq_true rfl, Nat.le_of_ble_eq_true rfl⟩ hl.1 rfl (Nat.le_of_ble_eq_true rfl) dX9_easterOf_21 ⟨Nat.zero_le _, Nat.zero_le _⟩) hw (fun r21 X21 H locs hp21 hw => ?_)
    obtain ⟨hrf21, eX21⟩ := hp21
    exact zretI (pc := 24) hx hb hlocks hr hw (Nat.zero_le _) (Nat.zero_le _) dX9_easterOf_24 ⟨by (try dsimp only) <;> (refine ⟨fun hz => ?_, ?_⟩; (focus first | exact True.intro | (omega; done) | (omega; done) | (exfalso; revert hz; (unfold cdYear; (repeat' split) <;> omega))); rw [eX21]; exact (by (try rw [eX2]); (try rw [up2_up2]); exact thr_c (by (unfold cdYear; (repeat' split) <;> omega)))), rfl, rfl⟩
  · skip
    replace c9 := it1 c9
    refine lv_iload_n (pc := 12) hx hb dX9_easterOf_12 rfl (lv_at hl 1 rfl) ?_
    refine zkIp (pc := 13) (zrS (As := [.int (iI year)]) hx hb hml hown hG hw (c_X9_easterFor l Γ K X2 Rf year  (by (first | assumption | omega))) cb_X9_easterFor wl_X9_135 rfl ⟨Nat.le_of_ble_eq_true rfl, Nat.le_of_ble_eq_true rfl⟩ hl.1 rfl (Nat.le_of_ble_eq_true rfl) dX9_easterOf_13 ⟨Nat.zero_le _, Nat.zero_le _⟩) hw (fun r13 H locs hp13 hw => ?_)
    subst hp13
    have hp13f0 := est_rng year
    refine lv_goto (pc := 16) (tgt := 24) hx hb dX9_easterOf_16 (by decide) ?_
    exact zretI (pc := 24) hx hb hlocks hr hw (Nat.zero_le _) (Nat.zero_le _) dX9_easterOf_24 ⟨by (try dsimp only) <;> (refine ⟨fun hz => ?_, ?_⟩; (focus first | exact True.intro | (omega; done) | (omega; done) | (exfalso; revert hz; (unfold cdYear; (repeat' split) <;> omega))); rw [eX2]; exact (by (try rw [eX2]); (try rw [up2_up2]); exact thr_c (by (unfold cdYear; (repeat' split) <;> omega)))), rfl, rfl⟩
set_option maxHeartbeats 4000000 in
set_option maxRecDepth 100000 in
theorem c_X9_plusMonths (l : Launch) (Γ : zG) (K : zK) (X : zX) (Rf : zR) (md : Nat) (day : Int) (n9 : Int) (ρ : zL) (M : zM) (hR : repR ρ K X Rf md M) (hM : okM M) (h1 : fit day ∧ fit n9) : Ct l yX9_plusMonths cX9_plusMonths 7 (some .int) 5 0 0 Γ [.ref md, .int (iI day), .int (iI n9)] K X Rf (pI (zpx K Rf (fun (r : Int) (X' : zX) => (cdPlus day n9 = 0 → r = vlPlus day n9) ∧ X' = up2 X md 0 (cdPlus day n9)))) := by
  refine Ct.of (by decide +kernel) (Nat.le_of_ble_eq_true rfl) ?_
  intro p e s m below meth c ls hx hb hr hml hown hG hlocks hname hw hl
  have hl : lv_has ls 7 [(0, .ref md), (1, .int (iI day)), (2, .int (iI n9))] := hl
  obtain ⟨hmd, hlmd⟩ := id hR.1
  obtain ⟨⟨hb1, hb2, hb3, hb4⟩, hokP, hokL, hokS, hokW, hokF⟩ := id hM
  have hq1 : X md 1 = M 40 1 := hR.2.1 1 rfl
  have hq5 : X md 5 = M 40 5 := hR.2.1 5 rfl
  have hq16 : X md 16 = M 40 16 := hR.2.1 16 rfl
  have hq25 : X md 25 = M 40 25 := hR.2.1 25 rfl
  have hq26 : X md 26 = M 40 26 := hR.2.1 26 rfl
  have hq27 : X md 27 = M 40 27 := hR.2.1 27 rfl
  have hq28 : X md 28 = M 40 28 := hR.2.1 28 rfl
  have hq29 : X md 29 = M 40 29 := hR.2.1 29 rfl
  refine lv_aload_n (pc := 0) hx hb dX9_plusMonths_0 rfl (lv_at hl 0 rfl) ?_
  refine ziconst (pc := 1) (n := 0) hx hb dX9_plusMonths_1 ?_
  refine zputI (pc := 2) hx hb hG hown hw hmd (T := TX9) rfl 0 (by decide) rfl wf_X9_87 rfl (by decide +kernel) rfl dX9_plusMonths_2 (fun H locs hw => ?_)
  obtain ⟨X2, eX2⟩ : ∃ Y : zX, Y = up2 X md 0 0 := ⟨_, rfl⟩
  rw [← eX2] at hw
  refine lv_iload_n (pc := 5) hx hb dX9_plusMonths_5 rfl (lv_at hl 1 rfl) ?_
  refine zkIp (pc := 6) (zrS (As := [.int (iI day)]) hx hb hml hown hG hw (c_X9_isDay l Γ K X2 Rf day  (by (first | assumption | omega))) cb_X9_isDay wl_X9_126 rfl ⟨Nat.le_of_ble_eq_true rfl, Nat.le_of_ble_eq_true rfl⟩ hl.1 rfl (Nat.le_of_ble_eq_true rfl) dX9_plusMonths_6 ⟨Nat.zero_le _, Nat.zero_le _⟩) hw (fun r6 H locs hp6 hw => ?_)
  subst hp6
  refine zif_ne (pc := 9) hx hb 18 (by omega) dX9_plusMonths_9 (by decide) (fun c9 => ?_) (fun c9 => ?_)
  · skip
    replace c9 := it1 c9
    refine zldc2 (pc := 18) (n := 12) hx hb hown hG wk_X9_138 dX9_plusMonths_18 ?_
    refine lv_iload_n (pc := 21) hx hb dX9_plusMonths_21 rfl (lv_at hl 1 rfl) ?_
    refine zkIp (pc := 22) (zrS (As := [.int (iI day)]) hx hb hml hown hG hw (c_X9_yearFor l Γ K X2 Rf day  (by (first | assumption | omega))) cb_X9_yearFor wl_X9_109 rfl ⟨Nat.le_of_ble_eq_true rfl, Nat.le_of_ble_eq_true rfl⟩ hl.1 rfl (Nat.le_of_ble_eq_true rfl) dX9_plusMonths_22 ⟨Nat.zero_le _, Nat.zero_le _⟩) hw (fun r22 H locs hp22 hw => ?_)
    subst hp22
    have hp22f0 := yr_rng (d := day) (by omega) (by omega)
    refine zsipush (pc := 25) (n := 1900) hx hb dX9_plusMonths_25 rfl ?_
    refine zsub (pc := 28) hx hb dX9_plusMonths_28 ?_
    refine zi2l (pc := 29) hx hb (by omega) dX9_plusMonths_29 ?_
    refine zlmul (pc := 30) hx hb dX9_plusMonths_30 ?_
    refine lv_iload_n (pc := 31) hx hb dX9_plusMonths_31 rfl (lv_at hl 1 rfl) ?_
    refine zkIp (pc := 32) (zrS (As := [.int (iI day)]) hx hb hml hown hG hw (c_X9_monthFor l Γ K X2 Rf day  (by (first | assumption | omega))) cb_X9_monthFor wl_X9_112 rfl ⟨Nat.le_of_ble_eq_true rfl, Nat.le_of_ble_eq_true rfl⟩ hl.1 rfl (Nat.le_of_ble_eq_true rfl) dX9_plusMonths_32 ⟨Nat.zero_le _, Nat.zero_le _⟩) hw (fun r32 H locs hp32 hw => ?_)
    subst hp32
    have hp32f0 := mi_rng (d := day) (by omega) (by omega)
    have hp32f1 := yr_mi (d := day) (by omega) (by omega)
    refine zi2l (pc := 35) hx hb (by omega) dX9_plusMonths_35 ?_
    refine zladd (pc := 36) hx hb dX9_plusMonths_36 ?_
    refine zlconst (pc := 37) (z := 1) hx hb rfl dX9_plusMonths_37 ?_
    refine zlsub (pc := 38) hx hb dX9_plusMonths_38 ?_
    refine lv_iload_n (pc := 39) hx hb dX9_plusMonths_39 rfl (lv_at hl 2 rfl) ?_
    refine zi2l (pc := 40) hx hb (by omega) dX9_plusMonths_40 ?_
    refine zladd (pc := 41) hx hb dX9_plusMonths_41 ?_
    have hym := yr_mi (d := day) (by omega) (by omega)
    have hmr := mi_rng (d := day) (by omega) (by omega)
    refine ztopL (fun x42 ex42 => ?_)
    refine lv_lstore_n (pc := 42) (lv' := [(3, .long (lJ x42)), (0, .ref md), (1, .int (iI day)), (2, .int (iI n9))]) hx hb dX9_plusMonths_42 rfl hl (by decide) rfl (fun ls hl => ?_)
    refine lv_lload_n (pc := 43) hx hb dX9_plusMonths_43 rfl (lv_at hl 0 rfl) ?_
    refine zlconst (pc := 44) (z := 0) hx hb rfl dX9_plusMonths_44 ?_
    refine zlcmp (pc := 45) hx hb ⟨by omega, by omega⟩ dX9_plusMonths_45 (fun r45 hr45 => ?_)
    refine zif_lt (pc := 46) hx hb 57 (by omega) dX9_plusMonths_46 (by decide) (fun c46 => ?_) (fun c46 => ?_)
    · skip
      refine lv_aload_n (pc := 57) hx hb dX9_plusMonths_57 rfl (lv_at hl 1 rfl) ?_
      refine ziconst (pc := 58) (n := 2) hx hb dX9_plusMonths_58 ?_
      refine zkIx (pc := 59) (zrV (As := [.int (iI 2)]) hx hb hml hown hG hw (c_X9_refuse l Γ K X2 Rf md 2  (by (first | assumption | omega))) (T := TX9) hmd rfl cb_X9_refuse wl_X9_123 rfl ⟨Nat.le_of_ble_eq_true rfl, Nat.le_of_ble_eq_true rfl⟩ hl.1 rfl (Nat.le_of_ble_eq_true rfl) dX9_plusMonths_59 ⟨Nat.zero_le _, Nat.zero_le _⟩) hw (fun r59 X59 H locs hp59 hw => ?_)
      obtain ⟨hrf59, eX59⟩ := hp59
      exact zretI (pc := 62) hx hb hlocks hr hw (Nat.zero_le _) (Nat.zero_le _) dX9_plusMonths_62 ⟨by (try dsimp only) <;> (refine ⟨fun hz => ?_, ?_⟩; (focus first | exact True.intro | (have e9 : 12 * (x72 - 1900) + x81 - 1 = mi day + n9 := (by omega); have h95 := lenM_mB (year := x72) (month := x81) (by omega) (by omega); rw [e9] at h95; unfold vlPlus; rw [h95, e9]; done) | (have e9 : 12 * (x72 - 1900) + x81 - 1 = mi day + n9 := (by omega); done) | (exfalso; revert hz; (unfold cdPlus; (repeat' split) <;> omega))); rw [eX59]; exact (by (try rw [eX2]); (try rw [up2_up2]); exact thr_c (by (unfold cdPlus; (repeat' split) <;> omega)))), rfl, rfl⟩
    · skip
      refine lv_lload_n (pc := 49) hx hb dX9_plusMonths_49 rfl (lv_at hl 0 rfl) ?_
      refine zldc2 (pc := 50) (n := 2400) hx hb hown hG wk_X9_140 dX9_plusMonths_50 ?_
      refine zlcmp (pc := 53) hx hb ⟨by omega, by omega⟩ dX9_plusMonths_53 (fun r53 hr53 => ?_)
      refine zif_lt (pc := 54) hx hb 63 (by omega) dX9_plusMonths_54 (by decide) (fun c54 => ?_) (fun c54 => ?_)
      · skip
        refine zsipush (pc := 63) (n := 1900) hx hb dX9_plusMonths_63 rfl ?_
        refine lv_lload_n (pc := 66) hx hb dX9_plusMonths_66 rfl (lv_at hl 0 rfl) ?_
        refine zl2i (pc := 67) hx hb dX9_plusMonths_67 ?_
        refine zbipush (pc := 68) (n := 12) hx hb dX9_plusMonths_68 rfl ?_
        refine zdiv (pc := 70) hx hb (by omega) dX9_plusMonths_70 ?_
        refine zadd (pc := 71) hx hb dX9_plusMonths_71 ?_
        refine ztop (fun x72 ex72 => ?_)
        refine lv_istore (pc := 72) (lv' := [(5, .int (iI x72)), (3, .long (lJ x42)), (0, .ref md), (1, .int (iI day)), (2, .int (iI n9))]) hx hb dX9_plusMonths_72 hl (by decide) rfl (fun ls hl => ?_)
        refine lv_lload_n (pc := 74) hx hb dX9_plusMonths_74 rfl (lv_at hl 1 rfl) ?_
        refine zl2i (pc := 75) hx hb dX9_plusMonths_75 ?_
        refine zbipush (pc := 76) (n := 12) hx hb dX9_plusMonths_76 rfl ?_
        refine zrem (pc := 78) hx hb (by omega) dX9_plusMonths_78 ?_
        refine ziconst (pc := 79) (n := 1) hx hb dX9_plusMonths_79 ?_
        refine zadd (pc := 80) hx hb dX9_plusMonths_80 ?_
        refine ztop (fun x81 ex81 => ?_)
        refine lv_istore (pc := 81) (lv' := [(6, .int (iI x81)), (5, .int (iI x72)), (3, .long (lJ x42)), (0, .ref md), (1, .int (iI day)), (2, .int (iI n9))]) hx hb dX9_plusMonths_81 hl (by decide) rfl (fun ls hl => ?_)
        refine lv_iload (pc := 83) hx hb dX9_plusMonths_83 (lv_at hl 1 rfl) ?_
        refine lv_iload (pc := 85) hx hb dX9_plusMonths_85 (lv_at hl 0 rfl) ?_
        refine lv_iload_n (pc := 87) hx hb dX9_plusMonths_87 rfl (lv_at hl 4 rfl) ?_
        refine zkIp (pc := 88) (zrS (As := [.int (iI day)]) hx hb hml hown hG hw (c_X9_dateFor l Γ K X2 Rf day  (by (first | assumption | omega))) cb_X9_dateFor wl_X9_129 rfl ⟨Nat.le_of_ble_eq_true rfl, Nat.le_of_ble_eq_true rfl⟩ hl.1 rfl (Nat.le_of_ble_eq_true rfl) dX9_plusMonths_88 ⟨Nat.zero_le _, Nat.zero_le _⟩) hw (fun r88 H locs hp88 hw => ?_)
        subst hp88
        have hp88f0 := mi_rng (d := day) (by omega) (by omega)
        have hp88f1 := mB_succ (i := mi day) (mi_rng (d := day) (by omega) (by omega)).1 (mi_rng (d := day) (by omega) (by omega)).2.1
        refine lv_iload (pc := 91) hx hb dX9_plusMonths_91 (lv_at hl 1 rfl) ?_
        refine lv_iload (pc := 93) hx hb dX9_plusMonths_93 (lv_at hl 0 rfl) ?_
        refine zkIp (pc := 95) (zrS (As := [.int (iI x72), .int (iI x81)]) hx hb hml hown hG hw (c_X9_lengthOf l Γ K X2 Rf x72 x81  (by (first | assumption | omega)) (by (first | assumption | omega))) cb_X9_lengthOf wl_X9_100 rfl ⟨Nat.le_of_ble_eq_true rfl, Nat.le_of_ble_eq_true rfl⟩ hl.1 rfl (Nat.le_of_ble_eq_true rfl) dX9_plusMonths_95 ⟨Nat.zero_le _, Nat.zero_le _⟩) hw (fun r95 H locs hp95 hw => ?_)
        subst hp95
        have hp95f0 := lenM_mB (year := x72) (month := x81) (by omega) (by omega)
        have hp95f1 := lenM_rng (x72 - 1900) x81
        refine zmin (pc := 98) hx hb (hml.trans hl.1.symm) hown hG wl_X9_104 w1_zmn wi_javalangMath w2_zmn (Nat.le_of_ble_eq_true rfl) (Nat.le_of_ble_eq_true rfl) (Nat.zero_le _) (Nat.zero_le _) ⟨by omega, by omega⟩ dX9_plusMonths_98 ?_
        refine zkIp (pc := 101) (zrS (As := [.int (iI x72), .int (iI x81), .int (iI (min (day - mB (mi day) + 1) (lenM (x72 - 1900) x81)))]) hx hb hml hown hG hw (c_X9_dayFor l Γ K X2 Rf x72 x81 (min (day - mB (mi day) + 1) (lenM (x72 - 1900) x81))  (by (first | assumption | omega)) (by (first | assumption | omega)) (by (first | assumption | omega))) cb_X9_dayFor wl_X9_115 rfl ⟨Nat.le_of_ble_eq_true rfl, Nat.le_of_ble_eq_true rfl⟩ hl.1 rfl (Nat.le_of_ble_eq_true rfl) dX9_plusMonths_101 ⟨Nat.zero_le _, Nat.zero_le _⟩) hw (fun r101 H locs hp101 hw => ?_)
        subst hp101
        have hp101f0 := mB_rng (12 * (x72 - 1900) + x81 - 1)
        exact zretI (pc := 104) hx hb hlocks hr hw (Nat.zero_le _) (Nat.zero_le _) dX9_plusMonths_104 ⟨by (try dsimp only) <;> (refine ⟨fun hz => ?_, ?_⟩; (focus first | exact True.intro | (have e9 : 12 * (x72 - 1900) + x81 - 1 = mi day + n9 := (by omega); have h95 := lenM_mB (year := x72) (month := x81) (by omega) (by omega); rw [e9] at h95; unfold vlPlus; rw [h95, e9]; done) | (have e9 : 12 * (x72 - 1900) + x81 - 1 = mi day + n9 := (by omega); done) | (exfalso; revert hz; (unfold cdPlus; (repeat' split) <;> omega))); rw [eX2]; exact (by (try rw [eX2]); (try rw [up2_up2]); exact thr_c (by (unfold cdPlus; (repeat' split) <;> omega)))), rfl, rfl⟩
      · skip
        refine lv_aload_n (pc := 57) hx hb dX9_plusMonths_57 rfl (lv_at hl 1 rfl) ?_
        refine ziconst (pc := 58) (n := 2) hx hb dX9_plusMonths_58 ?_
        refine zkIx (pc := 59) (zrV (As := [.int (iI 2)]) hx hb hml hown hG hw (c_X9_refuse l Γ K X2 Rf md 2  (by (first | assumption | omega))) (T := TX9) hmd rfl cb_X9_refuse wl_X9_123 rfl ⟨Nat.le_of_ble_eq_true rfl, Nat.le_of_ble_eq_true rfl⟩ hl.1 rfl (Nat.le_of_ble_eq_true rfl) dX9_plusMonths_59 ⟨Nat.zero_le _, Nat.zero_le _⟩) hw (fun r59 X59 H locs hp59 hw => ?_)
        obtain ⟨hrf59, eX59⟩ := hp59
        exact zretI (pc := 62) hx hb hlocks hr hw (Nat.zero_le _) (Nat.zero_le _) dX9_plusMonths_62 ⟨by (try dsimp only) <;> (refine ⟨fun hz => ?_, ?_⟩; (focus first | exact True.intro | (have e9 : 12 * (x72 - 1900) + x81 - 1 = mi day + n9 := (by omega); have h95 := lenM_mB (year := x72) (month := x81) (by omega) (by omega); rw [e9] at h95; unfold vlPlus; rw [h95, e9]; done) | (have e9 : 12 * (x72 - 1900) + x81 - 1 = mi day + n9 := (by omega); done) | (exfalso; revert hz; (unfold cdPlus; (repeat' split) <;> omega))); rw [eX59]; exact (by (try rw [eX2]); (try rw [up2_up2]); exact thr_c (by (unfold cdPlus; (repeat' split) <;> omega)))), rfl, rfl⟩
  · skip
    replace c9 := it0 c9
    refine lv_aload_n (pc := 12) hx hb dX9_plusMonths_12 rfl (lv_at hl 0 rfl) ?_
    refine ziconst (pc := 13) (n := 1) hx hb dX9_plusMonths_13 ?_
    refine zkIx (pc := 14) (zrV (As := [.int (iI 1)]) hx hb hml hown hG hw (c_X9_refuse l Γ K X2 Rf md 1  (by (first | assumption | omega))) (T := TX9) hmd rfl cb_X9_refuse wl_X9_123 rfl ⟨Nat.le_of_ble_eq_true rfl, Nat.le_of_ble_eq_true rfl⟩ hl.1 rfl (Nat.le_of_ble_eq_true rfl) dX9_plusMonths_14 ⟨Nat.zero_le _, Nat.zero_le _⟩) hw (fun r14 X14 H locs hp14 hw => ?_)
    obtain ⟨hrf14, eX14⟩ := hp14
    exact zretI (pc := 17) hx hb hlocks hr hw (Nat.zero_le _) (Nat.zero_le _) dX9_plusMonths_17 ⟨by (try dsimp only) <;> (refine ⟨fun hz => ?_, ?_⟩; (focus first | exact True.intro | (have e9 : 12 * (x72 - 1900) + x81 - 1 = mi day + n9 := (by omega); have h95 := lenM_mB (year := x72) (month := x81) (by omega) (by omega); rw [e9] at h95; unfold vlPlus; rw [h95, e9]; done) | (have e9 : 12 * (x72 - 1900) + x81 - 1 = mi day + n9 := (by omega); done) | (exfalso; revert hz; (unfold cdPlus; (repeat' split) <;> omega))); rw [eX14]; exact (by (try rw [eX2]); (try rw [up2_up2]); exact thr_c (by (unfold cdPlus; (repeat' split) <;> omega)))), rfl, rfl⟩
set_option maxHeartbeats 4000000 in
set_option maxRecDepth 100000 in
theorem c_X9_daysTold (l : Launch) (Γ : zG) (K : zK) (X : zX) (Rf : zR) (md : Nat) (a : Int) (year : Int) (ρ : zL) (M : zM) (hR : repR ρ K X Rf md M) (hM : okM M) (h1 : fit a ∧ fit year) : Ct l yX9_daysTold cX9_daysTold 5 (some .int) 5 0 0 Γ [.ref md, .int (iI a), .int (iI year)] K X Rf (pI (zpx K Rf (fun (r : Int) (X' : zX) => (cdPatY M a year = 0 → r = cntT (patM M a.toNat) (12 * (year - 1900)) 12) ∧ X' = up2 X md 0 (cdPatY M a year)))) := by
  refine Ct.of (by decide +kernel) (Nat.le_of_ble_eq_true rfl) ?_
  intro p e s m below meth c ls hx hb hr hml hown hG hlocks hname hw hl
  have hl : lv_has ls 5 [(0, .ref md), (1, .int (iI a)), (2, .int (iI year))] := hl
  obtain ⟨hmd, hlmd⟩ := id hR.1
  obtain ⟨⟨hb1, hb2, hb3, hb4⟩, hokP, hokL, hokS, hokW, hokF⟩ := id hM
  have hq1 : X md 1 = M 40 1 := hR.2.1 1 rfl
  have hq5 : X md 5 = M 40 5 := hR.2.1 5 rfl
  have hq16 : X md 16 = M 40 16 := hR.2.1 16 rfl
  have hq25 : X md 25 = M 40 25 := hR.2.1 25 rfl
  have hq26 : X md 26 = M 40 26 := hR.2.1 26 rfl
  have hq27 : X md 27 = M 40 27 := hR.2.1 27 rfl
  have hq28 : X md 28 = M 40 28 := hR.2.1 28 rfl
  have hq29 : X md 29 = M 40 29 := hR.2.1 29 rfl
  obtain ⟨a2, hB2, hA2, hL2, hD2⟩ : ∃ a, Rf md 2 = some a ∧ K a = (2, 24) ∧ ρ a = 2003 ∧ X a = M 2 := hR.fd 2 (by decide) rfl
  have hN2 : Apt a2 md := zkn2 hA2 hmd (by simp)
  obtain ⟨a3, hB3, hA3, hL3, hD3⟩ : ∃ a, Rf md 3 = some a ∧ K a = (2, 24) ∧ ρ a = 2004 ∧ X a = M 3 := hR.fd 3 (by decide) rfl
  have hN3 : Apt a3 md := zkn2 hA3 hmd (by simp)
  obtain ⟨a4, hB4, hA4, hL4, hD4⟩ : ∃ a, Rf md 4 = some a ∧ K a = (2, 24) ∧ ρ a = 2005 ∧ X a = M 4 := hR.fd 4 (by decide) rfl
  have hN4 : Apt a4 md := zkn2 hA4 hmd (by simp)
  refine lv_aload_n (pc := 0) hx hb dX9_daysTold_0 rfl (lv_at hl 0 rfl) ?_
  refine ziconst (pc := 1) (n := 0) hx hb dX9_daysTold_1 ?_
  refine zputI (pc := 2) hx hb hG hown hw hmd (T := TX9) rfl 0 (by decide) rfl wf_X9_87 rfl (by decide +kernel) rfl dX9_daysTold_2 (fun H locs hw => ?_)
  obtain ⟨X2, eX2⟩ : ∃ Y : zX, Y = up2 X md 0 0 := ⟨_, rfl⟩
  rw [← eX2] at hw
  have hE2 : X2 a2 = M 2 := by rw [eX2, up2_o hN2]; exact hD2
  have hE3 : X2 a3 = M 3 := by rw [eX2, up2_o hN3]; exact hD3
  have hE4 : X2 a4 = M 4 := by rw [eX2, up2_o hN4]; exact hD4
  have hz1 : X2 md 1 = M 40 1 := by rw [eX2, up2_k (by decide)]; exact hq1
  refine lv_aload_n (pc := 5) hx hb dX9_daysTold_5 rfl (lv_at hl 0 rfl) ?_
  refine lv_iload_n (pc := 6) hx hb dX9_daysTold_6 rfl (lv_at hl 1 rfl) ?_
  refine zkIp (pc := 7) (zrV (As := [.int (iI a)]) hx hb hml hown hG hw (c_X9_isPattern l Γ K X2 Rf md a  (by (first | assumption | omega)) (by (first | assumption | omega))) (T := TX9) hmd rfl cb_X9_isPattern wl_X9_148 rfl ⟨Nat.le_of_ble_eq_true rfl, Nat.le_of_ble_eq_true rfl⟩ hl.1 rfl (Nat.le_of_ble_eq_true rfl) dX9_daysTold_7 ⟨Nat.zero_le _, Nat.zero_le _⟩) hw (fun r7 H locs hp7 hw => ?_)
  subst hp7
  refine zif_ne (pc := 10) hx hb 19 (by omega) dX9_daysTold_10 (by decide) (fun c10 => ?_) (fun c10 => ?_)
  · skip
    replace c10 := it1 c10
    refine lv_iload_n (pc := 19) hx hb dX9_daysTold_19 rfl (lv_at hl 2 rfl) ?_
    refine zkIp (pc := 20) (zrS (As := [.int (iI year)]) hx hb hml hown hG hw (c_X9_isYear l Γ K X2 Rf year  (by (first | assumption | omega))) cb_X9_isYear wl_X9_119 rfl ⟨Nat.le_of_ble_eq_true rfl, Nat.le_of_ble_eq_true rfl⟩ hl.1 rfl (Nat.le_of_ble_eq_true rfl) dX9_daysTold_20 ⟨Nat.zero_le _, Nat.zero_le _⟩) hw (fun r20 H locs hp20 hw => ?_)
    subst hp20
    refine zif_ne (pc := 23) hx hb 32 (by omega) dX9_daysTold_23 (by decide) (fun c23 => ?_) (fun c23 => ?_)
    · skip
      replace c23 := it1 c23
      refine ziconst (pc := 32) (n := 0) hx hb dX9_daysTold_32 ?_
      refine lv_istore_n (pc := 33) (lv' := [(3, .int (iI 0)), (0, .ref md), (1, .int (iI a)), (2, .int (iI year))]) hx hb dX9_daysTold_33 rfl hl (by decide) rfl (fun ls hl => ?_)
      refine ziconst (pc := 34) (n := 1) hx hb dX9_daysTold_34 ?_
      refine lv_istore (pc := 35) (lv' := [(4, .int (iI 1)), (3, .int (iI 0)), (0, .ref md), (1, .int (iI a)), (2, .int (iI year))]) hx hb dX9_daysTold_35 hl (by decide) rfl (fun ls hl => ?_)
      have hpf : pfX X2 a2 a3 a4 a.toNat = patM M a.toNat := pfX_M hE2 hE3 hE4
      have hP9 : okP2 (pfX X2 a2 a3 a4 a.toNat) := by rw [hpf]; exact hokP a.toNat (by omega)
      have lp37 : ∀ (n37 : Nat) (mm : Int) (ct : Int) (H : Heap) (locs : List Loc), (hi : 1 ≤ mm ∧ mm ≤ 13) → (hc : ct = cntT (patM M a.toNat) (12 * (year - 1900)) (12 * (year - 1900) + mm - 1 - 12 * (year - 1900)).toNat) → ((13 - mm).toNat < n37) → Wd Γ (zA K s.heap.size) K X2 Rf s H locs → ∀ ls : Array Slot, lv_has ls 5 [(4, .int (iI mm)), (3, .int (iI ct)), (0, .ref md), (1, .int (iI a)), (2, .int (iI year))] → W p l e (rmL 5 0 0) s m ([.ref md, .int (iI a), .int (iI year)] : List Value).toArray below meth c H locs 0 0 (MQ below (zQ Γ K s.heap.size (pI (zpx K Rf (fun (r : Int) (X' : zX) => (cdPatY M a year = 0 → r = cntT (patM M a.toNat) (12 * (year - 1900)) 12) ∧ X' = up2 X md 0 (cdPatY M a year))))) ([.ref md, .int (iI a), .int (iI year)] : List Value).toArray s 0 0 (zA K s.heap.size)) (F0 m 37 ls []) := by
        intro n37
        induction n37 with
        | zero => intro mm ct H locs hi hc hm37; exact absurd hm37 (Nat.not_lt_zero _)
        | succ n37 ih37 =>
          intro mm ct H locs hi hc hm37 hw ls hl
          have hcr := cntT_rng (patM M a.toNat) (12 * (year - 1900)) (12 * (year - 1900) + mm - 1 - 12 * (year - 1900)).toNat
          refine lv_iload (pc := 37) hx hb dX9_daysTold_37 (lv_at hl 0 rfl) ?_
          refine zbipush (pc := 39) (n := 12) hx hb dX9_daysTold_39 rfl ?_
          refine zicmp_gt (pc := 41) hx hb 70 (by omega) (by omega) dX9_daysTold_41 (by decide) (fun c41 => ?_) (fun c41 => ?_)
          · skip
            refine lv_iload_n (pc := 70) hx hb dX9_daysTold_70 rfl (lv_at hl 1 rfl) ?_
            exact zretI (pc := 71) hx hb hlocks hr hw (Nat.zero_le _) (Nat.zero_le _) dX9_daysTold_71 ⟨by (try dsimp only) <;> (refine ⟨fun hz => ?_, ?_⟩; (focus first | exact True.intro | (rw [hc, show (12 * (year - 1900) + mm - 1 - 12 * (year - 1900)).toNat = 12 by omega]; done) | (rw [hc, show (12 * (year - 1900) + mm - 1 - 12 * (year - 1900)).toNat = 12 by omega]; done) | (exfalso; revert hz; (unfold cdPatY; (repeat' split) <;> omega))); rw [eX2]; exact (by (try rw [eX2]); (try rw [up2_up2]); exact thr_c (by (unfold cdPatY; (repeat' split) <;> omega)))), rfl, rfl⟩
          · skip
            refine lv_iload_n (pc := 44) hx hb dX9_daysTold_44 rfl (lv_at hl 1 rfl) ?_
            refine lv_aload_n (pc := 45) hx hb dX9_daysTold_45 rfl (lv_at hl 2 rfl) ?_
            refine lv_iload_n (pc := 46) hx hb dX9_daysTold_46 rfl (lv_at hl 3 rfl) ?_
            refine lv_iload_n (pc := 47) hx hb dX9_daysTold_47 rfl (lv_at hl 4 rfl) ?_
            refine lv_iload (pc := 48) hx hb dX9_daysTold_48 (lv_at hl 0 rfl) ?_
            refine zkIp (pc := 50) (zrV (As := [.int (iI a), .int (iI year), .int (iI mm)]) hx hb hml hown hG hw (c_X9_toldIn l Γ K X2 Rf md a year mm a2 a3 a4 (by (first | assumption | omega)) (by (first | assumption | omega)) (by (first | assumption | omega)) (by (first | assumption | omega)) (by (first | assumption | omega)) (by (first | assumption | omega)) (by (first | assumption | omega)) (by (first | assumption | omega)) (by (first | assumption | omega)) (by (first | assumption | omega)) (by (first | assumption | omega))) (T := TX9) hmd rfl cb_X9_toldIn wl_X9_145 rfl ⟨Nat.le_of_ble_eq_true rfl, Nat.le_of_ble_eq_true rfl⟩ hl.1 rfl (Nat.le_of_ble_eq_true rfl) dX9_daysTold_50 ⟨Nat.zero_le _, Nat.zero_le _⟩) hw (fun r50 H locs hp50 hw => ?_)
            subst hp50
            have hp50f0 := told_rng (pfX X2 a2 a3 a4 a.toNat) (12 * (year - 1900) + mm - 1)
            refine ziconst (pc := 53) (n := (-1)) hx hb dX9_daysTold_53 ?_
            have htr := told_rng (pfX X2 a2 a3 a4 a.toNat) (12 * (year - 1900) + mm - 1)
            rw [hpf] at htr
            refine zicmp_ne (pc := 54) hx hb 61 (by omega) (by omega) dX9_daysTold_54 (by decide) (fun c54 => ?_) (fun c54 => ?_)
            · skip
              refine ziconst (pc := 61) (n := 1) hx hb dX9_daysTold_61 ?_
              refine zadd (pc := 62) hx hb dX9_daysTold_62 ?_
              refine ztop (fun x63 ex63 => ?_)
              refine lv_istore_n (pc := 63) (lv' := [(3, .int (iI x63)), (4, .int (iI mm)), (0, .ref md), (1, .int (iI a)), (2, .int (iI year))]) hx hb dX9_daysTold_63 rfl hl (by decide) rfl (fun ls hl => ?_)
              refine ziinc (pc := 64) (lv' := [(4, .int (iI (mm + 1))), (3, .int (iI x63)), (0, .ref md), (1, .int (iI a)), (2, .int (iI year))]) hx hb 1 dX9_daysTold_64 hl rfl (by decide) rfl (fun ls hl => ?_)
              obtain ⟨x64, ex64⟩ : ∃ zz : Int, zz = (mm + 1) := ⟨_, rfl⟩
              rw [← ex64] at hl
              refine lv_goto (pc := 67) (tgt := 37) hx hb dX9_daysTold_67 (by decide) ?_
              exact ih37 x64 x63 _ _ (by (first | assumption | omega)) (by rw [ex64, show 12 * (year - 1900) + (mm + 1) - 1 - 12 * (year - 1900) = (12 * (year - 1900) + mm - 1) + 1 - 12 * (year - 1900) by omega, cntT_step (by omega), ← hc]; rw [hpf] at c54; first | (rw [if_pos (by omega)]; omega) | (rw [if_neg (by omega)]; omega)) (by omega) hw _ (lv_sub hl [0, 1, 2, 3, 4] rfl)
            · skip
              refine ziconst (pc := 57) (n := 0) hx hb dX9_daysTold_57 ?_
              refine lv_goto (pc := 58) (tgt := 62) hx hb dX9_daysTold_58 (by decide) ?_
              refine zadd (pc := 62) hx hb dX9_daysTold_62 ?_
              refine ztop (fun x63 ex63 => ?_)
              refine lv_istore_n (pc := 63) (lv' := [(3, .int (iI x63)), (4, .int (iI mm)), (0, .ref md), (1, .int (iI a)), (2, .int (iI year))]) hx hb dX9_daysTold_63 rfl hl (by decide) rfl (fun ls hl => ?_)
              refine ziinc (pc := 64) (lv' := [(4, .int (iI (mm + 1))), (3, .int (iI x63)), (0, .ref md), (1, .int (iI a)), (2, .int (iI year))]) hx hb 1 dX9_daysTold_64 hl rfl (by decide) rfl (fun ls hl => ?_)
              obtain ⟨x64, ex64⟩ : ∃ zz : Int, zz = (mm + 1) := ⟨_, rfl⟩
              rw [← ex64] at hl
              refine lv_goto (pc := 67) (tgt := 37) hx hb dX9_daysTold_67 (by decide) ?_
              exact ih37 x64 x63 _ _ (by (first | assumption | omega)) (by rw [ex64, show 12 * (year - 1900) + (mm + 1) - 1 - 12 * (year - 1900) = (12 * (year - 1900) + mm - 1) + 1 - 12 * (year - 1900) by omega, cntT_step (by omega), ← hc]; rw [hpf] at c54; first | (rw [if_pos (by omega)]; omega) | (rw [if_neg (by omega)]; omega)) (by omega) hw _ (lv_sub hl [0, 1, 2, 3, 4] rfl)
      exact lp37 _ 1 0 _ _ (by (first | assumption | omega)) (by rw [show 12 * (year - 1900) + 1 - 1 - 12 * (year - 1900) = 0 by omega]; rfl) (Nat.lt_succ_self _) hw _ (lv_sub hl [0, 1, 2, 3, 4] rfl)
    · skip
      replace c23 := it0 c23
      refine lv_aload_n (pc := 26) hx hb dX9_daysTold_26 rfl (lv_at hl 0 rfl) ?_
      refine ziconst (pc := 27) (n := 2) hx hb dX9_daysTold_27 ?_
      refine zkIx (pc := 28) (zrV (As := [.int (iI 2)]) hx hb hml hown hG hw (c_X9_refuse l Γ K X2 Rf md 2  (by (first | assumption | omega))) (T := TX9) hmd rfl cb_X9_refuse wl_X9_123 rfl ⟨Nat.le_of_ble_eq_true rfl, Nat.le_of_ble_eq_true rfl⟩ hl.1 rfl (Nat.le_of_ble_eq_true rfl) dX9_daysTold_28 ⟨Nat.zero_le _, Nat.zero_le _⟩) hw (fun r28 X28 H locs hp28 hw => ?_)
      obtain ⟨hrf28, eX28⟩ := hp28
      exact zretI (pc := 31) hx hb hlocks hr hw (Nat.zero_le _) (Nat.zero_le _) dX9_daysTold_31 ⟨by (try dsimp only) <;> (refine ⟨fun hz => ?_, ?_⟩; (focus first | exact True.intro | (rw [hc, show (12 * (year - 1900) + mm - 1 - 12 * (year - 1900)).toNat = 12 by omega]; done) | (rw [hc, show (12 * (year - 1900) + mm - 1 - 12 * (year - 1900)).toNat = 12 by omega]; done) | (exfalso; revert hz; (unfold cdPatY; (repeat' split) <;> omega))); rw [eX28]; exact (by (try rw [eX2]); (try rw [up2_up2]); exact thr_c (by (unfold cdPatY; (repeat' split) <;> omega)))), rfl, rfl⟩
  · skip
    replace c10 := it0 c10
    refine lv_aload_n (pc := 13) hx hb dX9_daysTold_13 rfl (lv_at hl 0 rfl) ?_
    refine ziconst (pc := 14) (n := 1) hx hb dX9_daysTold_14 ?_
    refine zkIx (pc := 15) (zrV (As := [.int (iI 1)]) hx hb hml hown hG hw (c_X9_refuse l Γ K X2 Rf md 1  (by (first | assumption | omega))) (T := TX9) hmd rfl cb_X9_refuse wl_X9_123 rfl ⟨Nat.le_of_ble_eq_true rfl, Nat.le_of_ble_eq_true rfl⟩ hl.1 rfl (Nat.le_of_ble_eq_true rfl) dX9_daysTold_15 ⟨Nat.zero_le _, Nat.zero_le _⟩) hw (fun r15 X15 H locs hp15 hw => ?_)
    obtain ⟨hrf15, eX15⟩ := hp15
    exact zretI (pc := 18) hx hb hlocks hr hw (Nat.zero_le _) (Nat.zero_le _) dX9_daysTold_18 ⟨by (try dsimp only) <;> (refine ⟨fun hz => ?_, ?_⟩; (focus first | exact True.intro | (rw [hc, show (12 * (year - 1900) + mm - 1 - 12 * (year - 1900)).toNat = 12 by omega]; done) | (rw [hc, show (12 * (year - 1900) + mm - 1 - 12 * (year - 1900)).toNat = 12 by omega]; done) | (exfalso; revert hz; (unfold cdPatY; (repeat' split) <;> omega))); rw [eX15]; exact (by (try rw [eX2]); (try rw [up2_up2]); exact thr_c (by (unfold cdPatY; (repeat' split) <;> omega)))), rfl, rfl⟩
set_option maxHeartbeats 4000000 in
set_option maxRecDepth 100000 in
theorem c_X9_nextTold (l : Launch) (Γ : zG) (K : zK) (X : zX) (Rf : zR) (md : Nat) (a : Int) (day : Int) (ρ : zL) (M : zM) (hR : repR ρ K X Rf md M) (hM : okM M) (h1 : fit a ∧ fit day) : Ct l yX9_nextTold cX9_nextTold 3 (some .int) 6 0 0 Γ [.ref md, .int (iI a), .int (iI day)] K X Rf (pI (zpx K Rf (fun (r : Int) (X' : zX) => (cdPatD M a day = 0 → r = nextT (patM M a.toNat) day) ∧ X' = up2 X md 0 (cdPatD M a day)))) := by
  refine Ct.of (by decide +kernel) (Nat.le_of_ble_eq_true rfl) ?_
  intro p e s m below meth c ls hx hb hr hml hown hG hlocks hname hw hl
  have hl : lv_has ls 3 [(0, .ref md), (1, .int (iI a)), (2, .int (iI day))] := hl
  obtain ⟨hmd, hlmd⟩ := id hR.1
  obtain ⟨⟨hb1, hb2, hb3, hb4⟩, hokP, hokL, hokS, hokW, hokF⟩ := id hM
  have hq1 : X md 1 = M 40 1 := hR.2.1 1 rfl
  have hq5 : X md 5 = M 40 5 := hR.2.1 5 rfl
  have hq16 : X md 16 = M 40 16 := hR.2.1 16 rfl
  have hq25 : X md 25 = M 40 25 := hR.2.1 25 rfl
  have hq26 : X md 26 = M 40 26 := hR.2.1 26 rfl
  have hq27 : X md 27 = M 40 27 := hR.2.1 27 rfl
  have hq28 : X md 28 = M 40 28 := hR.2.1 28 rfl
  have hq29 : X md 29 = M 40 29 := hR.2.1 29 rfl
  obtain ⟨a2, hB2, hA2, hL2, hD2⟩ : ∃ a, Rf md 2 = some a ∧ K a = (2, 24) ∧ ρ a = 2003 ∧ X a = M 2 := hR.fd 2 (by decide) rfl
  have hN2 : Apt a2 md := zkn2 hA2 hmd (by simp)
  obtain ⟨a3, hB3, hA3, hL3, hD3⟩ : ∃ a, Rf md 3 = some a ∧ K a = (2, 24) ∧ ρ a = 2004 ∧ X a = M 3 := hR.fd 3 (by decide) rfl
  have hN3 : Apt a3 md := zkn2 hA3 hmd (by simp)
  obtain ⟨a4, hB4, hA4, hL4, hD4⟩ : ∃ a, Rf md 4 = some a ∧ K a = (2, 24) ∧ ρ a = 2005 ∧ X a = M 4 := hR.fd 4 (by decide) rfl
  have hN4 : Apt a4 md := zkn2 hA4 hmd (by simp)
  refine lv_aload_n (pc := 0) hx hb dX9_nextTold_0 rfl (lv_at hl 0 rfl) ?_
  refine ziconst (pc := 1) (n := 0) hx hb dX9_nextTold_1 ?_
  refine zputI (pc := 2) hx hb hG hown hw hmd (T := TX9) rfl 0 (by decide) rfl wf_X9_87 rfl (by decide +kernel) rfl dX9_nextTold_2 (fun H locs hw => ?_)
  obtain ⟨X2, eX2⟩ : ∃ Y : zX, Y = up2 X md 0 0 := ⟨_, rfl⟩
  rw [← eX2] at hw
  have hE2 : X2 a2 = M 2 := by rw [eX2, up2_o hN2]; exact hD2
  have hE3 : X2 a3 = M 3 := by rw [eX2, up2_o hN3]; exact hD3
  have hE4 : X2 a4 = M 4 := by rw [eX2, up2_o hN4]; exact hD4
  have hz1 : X2 md 1 = M 40 1 := by rw [eX2, up2_k (by decide)]; exact hq1
  have hpf : pfX X2 a2 a3 a4 a.toNat = patM M a.toNat := pfX_M hE2 hE3 hE4
  refine lv_aload_n (pc := 5) hx hb dX9_nextTold_5 rfl (lv_at hl 0 rfl) ?_
  refine lv_iload_n (pc := 6) hx hb dX9_nextTold_6 rfl (lv_at hl 1 rfl) ?_
  refine zkIp (pc := 7) (zrV (As := [.int (iI a)]) hx hb hml hown hG hw (c_X9_isPattern l Γ K X2 Rf md a  (by (first | assumption | omega)) (by (first | assumption | omega))) (T := TX9) hmd rfl cb_X9_isPattern wl_X9_148 rfl ⟨Nat.le_of_ble_eq_true rfl, Nat.le_of_ble_eq_true rfl⟩ hl.1 rfl (Nat.le_of_ble_eq_true rfl) dX9_nextTold_7 ⟨Nat.zero_le _, Nat.zero_le _⟩) hw (fun r7 H locs hp7 hw => ?_)
  subst hp7
  refine zif_eq (pc := 10) hx hb 29 (by omega) dX9_nextTold_10 (by decide) (fun c10 => ?_) (fun c10 => ?_)
  · skip
    replace c10 := it0 c10
    refine lv_aload_n (pc := 29) hx hb dX9_nextTold_29 rfl (lv_at hl 0 rfl) ?_
    refine ziconst (pc := 30) (n := 1) hx hb dX9_nextTold_30 ?_
    refine zkIx (pc := 31) (zrV (As := [.int (iI 1)]) hx hb hml hown hG hw (c_X9_refuse l Γ K X2 Rf md 1  (by (first | assumption | omega))) (T := TX9) hmd rfl cb_X9_refuse wl_X9_123 rfl ⟨Nat.le_of_ble_eq_true rfl, Nat.le_of_ble_eq_true rfl⟩ hl.1 rfl (Nat.le_of_ble_eq_true rfl) dX9_nextTold_31 ⟨Nat.zero_le _, Nat.zero_le _⟩) hw (fun r31 X31 H locs hp31 hw => ?_)
    obtain ⟨hrf31, eX31⟩ := hp31
    exact zretI (pc := 34) hx hb hlocks hr hw (Nat.zero_le _) (Nat.zero_le _) dX9_nextTold_34 ⟨by (try dsimp only) <;> (refine ⟨fun hz => ?_, ?_⟩; (focus first | exact True.intro | (rw [hpf]; done) | (rw [hpf]; done) | (exfalso; revert hz; (unfold cdPatD; (repeat' split) <;> omega))); rw [eX31]; exact (by (try rw [eX2]); (try rw [up2_up2]); exact thr_c (by (unfold cdPatD; (repeat' split) <;> omega)))), rfl, rfl⟩
  · skip
    replace c10 := it1 c10
    refine lv_iload_n (pc := 13) hx hb dX9_nextTold_13 rfl (lv_at hl 2 rfl) ?_
    refine zkIp (pc := 14) (zrS (As := [.int (iI day)]) hx hb hml hown hG hw (c_X9_isDay l Γ K X2 Rf day  (by (first | assumption | omega))) cb_X9_isDay wl_X9_126 rfl ⟨Nat.le_of_ble_eq_true rfl, Nat.le_of_ble_eq_true rfl⟩ hl.1 rfl (Nat.le_of_ble_eq_true rfl) dX9_nextTold_14 ⟨Nat.zero_le _, Nat.zero_le _⟩) hw (fun r14 H locs hp14 hw => ?_)
    subst hp14
    refine zif_eq (pc := 17) hx hb 29 (by omega) dX9_nextTold_17 (by decide) (fun c17 => ?_) (fun c17 => ?_)
    · skip
      replace c17 := it0 c17
      refine lv_aload_n (pc := 29) hx hb dX9_nextTold_29 rfl (lv_at hl 0 rfl) ?_
      refine ziconst (pc := 30) (n := 1) hx hb dX9_nextTold_30 ?_
      refine zkIx (pc := 31) (zrV (As := [.int (iI 1)]) hx hb hml hown hG hw (c_X9_refuse l Γ K X2 Rf md 1  (by (first | assumption | omega))) (T := TX9) hmd rfl cb_X9_refuse wl_X9_123 rfl ⟨Nat.le_of_ble_eq_true rfl, Nat.le_of_ble_eq_true rfl⟩ hl.1 rfl (Nat.le_of_ble_eq_true rfl) dX9_nextTold_31 ⟨Nat.zero_le _, Nat.zero_le _⟩) hw (fun r31 X31 H locs hp31 hw => ?_)
      obtain ⟨hrf31, eX31⟩ := hp31
      exact zretI (pc := 34) hx hb hlocks hr hw (Nat.zero_le _) (Nat.zero_le _) dX9_nextTold_34 ⟨by (try dsimp only) <;> (refine ⟨fun hz => ?_, ?_⟩; (focus first | exact True.intro | (rw [hpf]; done) | (rw [hpf]; done) | (exfalso; revert hz; (unfold cdPatD; (repeat' split) <;> omega))); rw [eX31]; exact (by (try rw [eX2]); (try rw [up2_up2]); exact thr_c (by (unfold cdPatD; (repeat' split) <;> omega)))), rfl, rfl⟩
    · skip
      replace c17 := it1 c17
      have hP9 : okP2 (pfX X2 a2 a3 a4 a.toNat) := by rw [hpf]; exact hokP a.toNat (by omega)
      refine lv_aload_n (pc := 20) hx hb dX9_nextTold_20 rfl (lv_at hl 0 rfl) ?_
      refine lv_iload_n (pc := 21) hx hb dX9_nextTold_21 rfl (lv_at hl 1 rfl) ?_
      refine lv_iload_n (pc := 22) hx hb dX9_nextTold_22 rfl (lv_at hl 2 rfl) ?_
      refine zkIp (pc := 23) (zrV (As := [.int (iI a), .int (iI day)]) hx hb hml hown hG hw (c_X9_nextOf l Γ K X2 Rf md a day a2 a3 a4 (by (first | assumption | omega)) (by (first | assumption | omega)) (by (first | assumption | omega)) (by (first | assumption | omega)) (by (first | assumption | omega)) (by (first | assumption | omega)) (by (first | assumption | omega)) (by (first | assumption | omega)) (by (first | assumption | omega)) (by (first | assumption | omega))) (T := TX9) hmd rfl cb_X9_nextOf wl_X9_155 rfl ⟨Nat.le_of_ble_eq_true rfl, Nat.le_of_ble_eq_true rfl⟩ hl.1 rfl (Nat.le_of_ble_eq_true rfl) dX9_nextTold_23 ⟨Nat.zero_le _, Nat.zero_le _⟩) hw (fun r23 H locs hp23 hw => ?_)
      subst hp23
      have hp23f0 := nxT_rng (pfX X2 a2 a3 a4 a.toNat) day (2400 - mi day).toNat (mi day)
      refine lv_goto (pc := 26) (tgt := 34) hx hb dX9_nextTold_26 (by decide) ?_
      exact zretI (pc := 34) hx hb hlocks hr hw (Nat.zero_le _) (Nat.zero_le _) dX9_nextTold_34 ⟨by (try dsimp only) <;> (refine ⟨fun hz => ?_, ?_⟩; (focus first | exact True.intro | (rw [hpf]; done) | (rw [hpf]; done) | (exfalso; revert hz; (unfold cdPatD; (repeat' split) <;> omega))); rw [eX2]; exact (by (try rw [eX2]); (try rw [up2_up2]); exact thr_c (by (unfold cdPatD; (repeat' split) <;> omega)))), rfl, rfl⟩
set_option maxHeartbeats 4000000 in
set_option maxRecDepth 100000 in
theorem c_X9_tells (l : Launch) (Γ : zG) (K : zK) (X : zX) (Rf : zR) (md : Nat) (a : Int) (day : Int) (ρ : zL) (M : zM) (hR : repR ρ K X Rf md M) (hM : okM M) (h1 : fit a ∧ fit day) : Ct l yX9_tells cX9_tells 3 (some .boolean) 6 0 0 Γ [.ref md, .int (iI a), .int (iI day)] K X Rf (pI (zpx K Rf (fun (r : Int) (X' : zX) => (cdPatD M a day = 0 → r = (if told (patM M a.toNat) (mi day) = day then 1 else 0)) ∧ X' = up2 X md 0 (cdPatD M a day)))) := by
  refine Ct.of (by decide +kernel) (Nat.le_of_ble_eq_true rfl) ?_
  intro p e s m below meth c ls hx hb hr hml hown hG hlocks hname hw hl
  have hl : lv_has ls 3 [(0, .ref md), (1, .int (iI a)), (2, .int (iI day))] := hl
  obtain ⟨hmd, hlmd⟩ := id hR.1
  obtain ⟨⟨hb1, hb2, hb3, hb4⟩, hokP, hokL, hokS, hokW, hokF⟩ := id hM
  have hq1 : X md 1 = M 40 1 := hR.2.1 1 rfl
  have hq5 : X md 5 = M 40 5 := hR.2.1 5 rfl
  have hq16 : X md 16 = M 40 16 := hR.2.1 16 rfl
  have hq25 : X md 25 = M 40 25 := hR.2.1 25 rfl
  have hq26 : X md 26 = M 40 26 := hR.2.1 26 rfl
  have hq27 : X md 27 = M 40 27 := hR.2.1 27 rfl
  have hq28 : X md 28 = M 40 28 := hR.2.1 28 rfl
  have hq29 : X md 29 = M 40 29 := hR.2.1 29 rfl
  obtain ⟨a2, hB2, hA2, hL2, hD2⟩ : ∃ a, Rf md 2 = some a ∧ K a = (2, 24) ∧ ρ a = 2003 ∧ X a = M 2 := hR.fd 2 (by decide) rfl
  have hN2 : Apt a2 md := zkn2 hA2 hmd (by simp)
  obtain ⟨a3, hB3, hA3, hL3, hD3⟩ : ∃ a, Rf md 3 = some a ∧ K a = (2, 24) ∧ ρ a = 2004 ∧ X a = M 3 := hR.fd 3 (by decide) rfl
  have hN3 : Apt a3 md := zkn2 hA3 hmd (by simp)
  obtain ⟨a4, hB4, hA4, hL4, hD4⟩ : ∃ a, Rf md 4 = some a ∧ K a = (2, 24) ∧ ρ a = 2005 ∧ X a = M 4 := hR.fd 4 (by decide) rfl
  have hN4 : Apt a4 md := zkn2 hA4 hmd (by simp)
  refine lv_aload_n (pc := 0) hx hb dX9_tells_0 rfl (lv_at hl 0 rfl) ?_
  refine ziconst (pc := 1) (n := 0) hx hb dX9_tells_1 ?_
  refine zputI (pc := 2) hx hb hG hown hw hmd (T := TX9) rfl 0 (by decide) rfl wf_X9_87 rfl (by decide +kernel) rfl dX9_tells_2 (fun H locs hw => ?_)
  obtain ⟨X2, eX2⟩ : ∃ Y : zX, Y = up2 X md 0 0 := ⟨_, rfl⟩
  rw [← eX2] at hw
  have hE2 : X2 a2 = M 2 := by rw [eX2, up2_o hN2]; exact hD2
  have hE3 : X2 a3 = M 3 := by rw [eX2, up2_o hN3]; exact hD3
  have hE4 : X2 a4 = M 4 := by rw [eX2, up2_o hN4]; exact hD4
  have hz1 : X2 md 1 = M 40 1 := by rw [eX2, up2_k (by decide)]; exact hq1
  have hpf : pfX X2 a2 a3 a4 a.toNat = patM M a.toNat := pfX_M hE2 hE3 hE4
  refine lv_aload_n (pc := 5) hx hb dX9_tells_5 rfl (lv_at hl 0 rfl) ?_
  refine lv_iload_n (pc := 6) hx hb dX9_tells_6 rfl (lv_at hl 1 rfl) ?_
  refine zkIp (pc := 7) (zrV (As := [.int (iI a)]) hx hb hml hown hG hw (c_X9_isPattern l Γ K X2 Rf md a  (by (first | assumption | omega)) (by (first | assumption | omega))) (T := TX9) hmd rfl cb_X9_isPattern wl_X9_148 rfl ⟨Nat.le_of_ble_eq_true rfl, Nat.le_of_ble_eq_true rfl⟩ hl.1 rfl (Nat.le_of_ble_eq_true rfl) dX9_tells_7 ⟨Nat.zero_le _, Nat.zero_le _⟩) hw (fun r7 H locs hp7 hw => ?_)
  subst hp7
  refine zif_eq (pc := 10) hx hb 27 (by omega) dX9_tells_10 (by decide) (fun c10 => ?_) (fun c10 => ?_)
  · skip
    replace c10 := it0 c10
    refine lv_aload_n (pc := 27) hx hb dX9_tells_27 rfl (lv_at hl 0 rfl) ?_
    refine ziconst (pc := 28) (n := 1) hx hb dX9_tells_28 ?_
    refine zputI (pc := 29) hx hb hG hown hw hmd (T := TX9) rfl 0 (by decide) rfl wf_X9_87 rfl (by decide +kernel) rfl dX9_tells_29 (fun H locs hw => ?_)
    obtain ⟨X29, eX29⟩ : ∃ Y : zX, Y = up2 X2 md 0 1 := ⟨_, rfl⟩
    rw [← eX29] at hw
    refine ziconst (pc := 32) (n := 0) hx hb dX9_tells_32 ?_
    exact zretZ (pc := 33) hx hb hlocks hr (Or.inl rfl) hw (Nat.zero_le _) (Nat.zero_le _) dX9_tells_33 ⟨by (try dsimp only) <;> (refine ⟨fun hz => ?_, ?_⟩; (focus first | exact True.intro | (rw [hpf]; done) | (rw [hpf]; done) | (exfalso; revert hz; (unfold cdPatD; (repeat' split) <;> omega))); rw [eX29]; exact (by (try rw [eX2]); (try rw [up2_up2]); exact thr_c (by (unfold cdPatD; (repeat' split) <;> omega)))), rfl, rfl⟩
  · skip
    replace c10 := it1 c10
    refine lv_iload_n (pc := 13) hx hb dX9_tells_13 rfl (lv_at hl 2 rfl) ?_
    refine zkIp (pc := 14) (zrS (As := [.int (iI day)]) hx hb hml hown hG hw (c_X9_isDay l Γ K X2 Rf day  (by (first | assumption | omega))) cb_X9_isDay wl_X9_126 rfl ⟨Nat.le_of_ble_eq_true rfl, Nat.le_of_ble_eq_true rfl⟩ hl.1 rfl (Nat.le_of_ble_eq_true rfl) dX9_tells_14 ⟨Nat.zero_le _, Nat.zero_le _⟩) hw (fun r14 H locs hp14 hw => ?_)
    subst hp14
    refine zif_eq (pc := 17) hx hb 27 (by omega) dX9_tells_17 (by decide) (fun c17 => ?_) (fun c17 => ?_)
    · skip
      replace c17 := it0 c17
      refine lv_aload_n (pc := 27) hx hb dX9_tells_27 rfl (lv_at hl 0 rfl) ?_
      refine ziconst (pc := 28) (n := 1) hx hb dX9_tells_28 ?_
      refine zputI (pc := 29) hx hb hG hown hw hmd (T := TX9) rfl 0 (by decide) rfl wf_X9_87 rfl (by decide +kernel) rfl dX9_tells_29 (fun H locs hw => ?_)
      obtain ⟨X29, eX29⟩ : ∃ Y : zX, Y = up2 X2 md 0 1 := ⟨_, rfl⟩
      rw [← eX29] at hw
      refine ziconst (pc := 32) (n := 0) hx hb dX9_tells_32 ?_
      exact zretZ (pc := 33) hx hb hlocks hr (Or.inl rfl) hw (Nat.zero_le _) (Nat.zero_le _) dX9_tells_33 ⟨by (try dsimp only) <;> (refine ⟨fun hz => ?_, ?_⟩; (focus first | exact True.intro | (rw [hpf]; done) | (rw [hpf]; done) | (exfalso; revert hz; (unfold cdPatD; (repeat' split) <;> omega))); rw [eX29]; exact (by (try rw [eX2]); (try rw [up2_up2]); exact thr_c (by (unfold cdPatD; (repeat' split) <;> omega)))), rfl, rfl⟩
    · skip
      replace c17 := it1 c17
      have hP9 : okP2 (pfX X2 a2 a3 a4 a.toNat) := by rw [hpf]; exact hokP a.toNat (by omega)
      refine lv_aload_n (pc := 20) hx hb dX9_tells_20 rfl (lv_at hl 0 rfl) ?_
      refine lv_iload_n (pc := 21) hx hb dX9_tells_21 rfl (lv_at hl 1 rfl) ?_
      refine lv_iload_n (pc := 22) hx hb dX9_tells_22 rfl (lv_at hl 2 rfl) ?_
      refine zkIp (pc := 23) (zrV (As := [.int (iI a), .int (iI day)]) hx hb hml hown hG hw (c_X9_isTold l Γ K X2 Rf md a day a2 a3 a4 (by (first | assumption | omega)) (by (first | assumption | omega)) (by (first | assumption | omega)) (by (first | assumption | omega)) (by (first | assumption | omega)) (by (first | assumption | omega)) (by (first | assumption | omega)) (by (first | assumption | omega)) (by (first | assumption | omega)) (by (first | assumption | omega))) (T := TX9) hmd rfl cb_X9_isTold wl_X9_151 rfl ⟨Nat.le_of_ble_eq_true rfl, Nat.le_of_ble_eq_true rfl⟩ hl.1 rfl (Nat.le_of_ble_eq_true rfl) dX9_tells_23 ⟨Nat.zero_le _, Nat.zero_le _⟩) hw (fun r23 H locs hp23 hw => ?_)
      subst hp23
      exact zretZ (pc := 26) hx hb hlocks hr (by omega) hw (Nat.zero_le _) (Nat.zero_le _) dX9_tells_26 ⟨by (try dsimp only) <;> (refine ⟨fun hz => ?_, ?_⟩; (focus first | exact True.intro | (rw [hpf]; done) | (rw [hpf]; done) | (exfalso; revert hz; (unfold cdPatD; (repeat' split) <;> omega))); rw [eX2]; exact (by (try rw [eX2]); (try rw [up2_up2]); exact thr_c (by (unfold cdPatD; (repeat' split) <;> omega)))), rfl, rfl⟩
