set_option maxHeartbeats 4000000 in
set_option maxRecDepth 100000 in
theorem c_X9_dates (l : Launch) (Γ : zG) (K : zK) (X : zX) (Rf : zR) (md : Nat) (a : Int) (ρ : zL) (M : zM) (hR : repR ρ K X Rf md M) (hM : okM M) (h1 : fit a) : Ct l yX9_dates cX9_dates 2 (some .int) 9 1 4001 Γ [.ref md, .int (iI a)] K X Rf (pI (fun (r : Int) (K' : zK) (X' : zX) (R' : zR) => (cdSer M a = 0 → r = (((datM M a.toNat)).length : Int)) ∧ X' md 0 = cdSer M a ∧ (∃ ρ', repR ρ' K' X' R' md M ∧ frR ρ K X Rf ρ' K' X' R') ∧ lsR X Rf X' R' md ∧ X' md 36 = X md 36)) := by
  refine Ct.of (by decide +kernel) (Nat.le_of_ble_eq_true rfl) ?_
  intro p e s m below meth c ls hx hb hr hml hown hG hlocks hname hw hl
  have hl : lv_has ls 2 [(0, .ref md), (1, .int (iI a))] := hl
  obtain ⟨hmd, hlmd⟩ := id hR.1
  obtain ⟨⟨hb1, hb2, hb3, hb4⟩, hokP, hokL, hokS, hokW, hokF⟩ := id hM
  have hq1 : X md 1 = M 40 1 := hR.2.1 1 rfl
  have hq5 : X md 5 = M 40 5 := hR.2.1 5 rfl
  have hq16 : X md 16 = M 40 16 := hR.2.1 16 rfl
  have hq25 : X md 25 = M 40 25 := hR.2.1 25 rfl
  have hq26 : X md 26 = M 40 26 := hR.2.1 26 rfl
  have hq27 : X md 27 = M 40 27 := hR.2.1 27 rfl
  have hq28 : X md 28 = M 40 28 := hR.2.1 28 rfl
  have hq29 : X md 29 = M 40 29 := hR.2.1 29 rfl
  refine lv_aload_n (pc := 0) hx hb dX9_dates_0 rfl (lv_at hl 0 rfl) ?_
  refine ziconst (pc := 1) (n := 0) hx hb dX9_dates_1 ?_
  refine zputI (pc := 2) hx hb hG hown hw hmd (T := TX9) rfl 0 (by decide) rfl wf_X9_87 rfl (by decide +kernel) rfl dX9_dates_2 (fun H locs hw => ?_)
  obtain ⟨X2, eX2⟩ : ∃ Y : zX, Y = up2 X md 0 0 := ⟨_, rfl⟩
  rw [← eX2] at hw
  have hz16 : X2 md 16 = M 40 16 := by rw [eX2, up2_k (by decide)]; exact hq16
  have hR2 : repR ρ K X2 Rf md M := by rw [eX2]; exact hR.own ⟨rfl, by decide⟩
  have hf2 : frR ρ K X Rf ρ K X2 Rf := by rw [eX2]; exact frR_own hR
  have h02 : ∀ q, q = 0 ∨ q = 36 → X2 md q = X2 md q := fun _ _ => rfl
  have e02 : X2 md 0 = 0 := by rw [eX2]; exact up2_s
  have e362 : X2 md 36 = X md 36 := by rw [eX2]; exact up2_k (by decide)
  have hls2 : lsR X Rf X2 Rf md := by rw [eX2]; exact lsR_own hR
  refine lv_aload_n (pc := 5) hx hb dX9_dates_5 rfl (lv_at hl 0 rfl) ?_
  refine lv_iload_n (pc := 6) hx hb dX9_dates_6 rfl (lv_at hl 1 rfl) ?_
  refine zkIp (pc := 7) (zrV (As := [.int (iI a)]) hx hb hml hown hG hw (c_X9_isSeries l Γ K X2 Rf md a  (by (first | assumption | omega)) (by (first | assumption | omega))) (T := TX9) hmd rfl cb_X9_isSeries wl_X9_231 rfl ⟨Nat.le_of_ble_eq_true rfl, Nat.le_of_ble_eq_true rfl⟩ hl.1 rfl (Nat.le_of_ble_eq_true rfl) dX9_dates_7 ⟨Nat.zero_le _, Nat.zero_le _⟩) hw (fun r7 H locs hp7 hw => ?_)
  subst hp7
  refine zif_eq (pc := 10) hx hb 22 (by omega) dX9_dates_10 (by decide) (fun c10 => ?_) (fun c10 => ?_)
  · skip
    replace c10 := it0 c10
    refine lv_aload_n (pc := 22) hx hb dX9_dates_22 rfl (lv_at hl 0 rfl) ?_
    refine ziconst (pc := 23) (n := 1) hx hb dX9_dates_23 ?_
    refine zkIx (pc := 24) (zrV (As := [.int (iI 1)]) hx hb hml hown hG hw (c_X9_refuse l Γ K X2 Rf md 1  (by (first | assumption | omega))) (T := TX9) hmd rfl cb_X9_refuse wl_X9_123 rfl ⟨Nat.le_of_ble_eq_true rfl, Nat.le_of_ble_eq_true rfl⟩ hl.1 rfl (Nat.le_of_ble_eq_true rfl) dX9_dates_24 ⟨Nat.zero_le _, Nat.zero_le _⟩) hw (fun r24 X24 H locs hp24 hw => ?_)
    obtain ⟨hrf24, eX24⟩ := hp24
    exact zretI (pc := 27) hx hb hlocks hr hw (Nat.zero_le _) (Nat.zero_le _) dX9_dates_27 (by first | (rw [eX24]; refine ⟨fun hz => by (exfalso; revert hz; (unfold cdSer; (repeat' split) <;> omega)), by rw [up2_s]; symm; (unfold cdSer; (repeat' split) <;> omega), ⟨ρ, hR2.own ⟨rfl, by decide⟩, hf2.trans (frR_own hR2)⟩, hls2.trans (lsR_own hR2), by rw [up2_k (by decide), h02 36 (Or.inr rfl)]; exact e362⟩) | exact ⟨fun _ => by rfl, by rw [h015 0 (Or.inl rfl), e02]; symm; (unfold cdSer; (repeat' split) <;> omega), ⟨ρ15, hR15, hf15⟩, hls15, by rw [h015 36 (Or.inr rfl)]; exact e362⟩)
  · skip
    replace c10 := it1 c10
    have hdl : (((datM M a.toNat)).length : Int) ≤ 4001 := dtS_len (Up := useM M a.toNat) (Ex := excM M a.toNat) (hokS a.toNat (by omega)).1
    have hdv : ∀ k, k < ((datM M a.toNat)).length → 0 ≤ (datM M a.toNat).getD k 0 ∧ (datM M a.toNat).getD k 0 ≤ 73048 := fun k hk => dtS_get (Up := useM M a.toNat) (Ex := excM M a.toNat) (hokS a.toNat (by omega)).1 k hk
    refine lv_aload_n (pc := 13) hx hb dX9_dates_13 rfl (lv_at hl 0 rfl) ?_
    refine lv_iload_n (pc := 14) hx hb dX9_dates_14 rfl (lv_at hl 1 rfl) ?_
    have hdc15 := dnC_le (Rf := Rf) (md := md) (n := a.toNat)
    refine zkR (pc := 15) (zrV (As := [.int (iI a)]) hx hb hml hown hG hw (c_X9_dated l Γ K X2 Rf md a (ρ) M (by (first | assumption | omega)) (by (first | assumption | omega)) (by (first | assumption | omega))) (T := TX9) hmd rfl cb_X9_dated wl_X9_266 rfl ⟨Nat.le_of_ble_eq_true rfl, Nat.le_of_ble_eq_true rfl⟩ hl.1 rfl (Nat.le_of_ble_eq_true rfl) dX9_dates_15 ⟨(by show 0 + 1 ≤ 1; omega), (by show 0 + (dnC Rf md a.toNat) ≤ 4001; omega)⟩) hw (fun r15 K15 X15 R15 H locs hp15 hw => ?_)
    obtain ⟨ρ15, ⟨hR15, hg15, hz15⟩, ⟨hkr15, hlr15, hvr15⟩, ⟨hs15, hd15⟩, hy15⟩ := hp15
    obtain ⟨hmd15, hlm15⟩ := id hR15.1
    have hf15 := hf2.trans hg15
    have h015 := fun q hq => (hz15 q hq).trans (h02 q hq)
    have hls15 := hls2.trans hs15
    refine zlen2 (pc := 18) hx hb hw hkr15 dX9_dates_18 ?_
    refine lv_goto (pc := 19) (tgt := 27) hx hb dX9_dates_19 (by decide) ?_
    exact zretI (pc := 27) hx hb hlocks hr hw (by show 0 + 1 ≤ 1; omega) (by show 0 + (dnC Rf md a.toNat) ≤ 4001; omega) dX9_dates_27 (by first | (rw [eX15]; refine ⟨fun hz => by (exfalso; revert hz; (unfold cdSer; (repeat' split) <;> omega)), by rw [up2_s]; symm; (unfold cdSer; (repeat' split) <;> omega), ⟨ρ, hR2.own ⟨rfl, by decide⟩, hf2.trans (frR_own hR2)⟩, hls2.trans (lsR_own hR2), by rw [up2_k (by decide), h02 36 (Or.inr rfl)]; exact e362⟩) | exact ⟨fun _ => by rfl, by rw [h015 0 (Or.inl rfl), e02]; symm; (unfold cdSer; (repeat' split) <;> omega), ⟨ρ15, hR15, hf15⟩, hls15, by rw [h015 36 (Or.inr rfl)]; exact e362⟩)
set_option maxHeartbeats 4000000 in
set_option maxRecDepth 100000 in
theorem c_X9_hasDate (l : Launch) (Γ : zG) (K : zK) (X : zX) (Rf : zR) (md : Nat) (n : Int) (k9 : Int) (ρ : zL) (M : zM) (hR : repR ρ K X Rf md M) (hM : okM M) (h1 : fit n ∧ fit k9) : Ct l yX9_hasDate cX9_hasDate 3 (some .boolean) 9 1 4001 Γ [.ref md, .int (iI n), .int (iI k9)] K X Rf (pI (fun (r : Int) (K' : zK) (X' : zX) (R' : zR) => r = (if (0 ≤ n ∧ n < M 40 16) ∧ 0 ≤ k9 ∧ k9 < (datM M n.toNat).length then 1 else 0) ∧ (∃ ρ', repR ρ' K' X' R' md M ∧ frR ρ K X Rf ρ' K' X' R') ∧ (∀ q, q = 0 ∨ q = 36 → X' md q = X md q) ∧ lsR X Rf X' R' md)) := by
  refine Ct.of (by decide +kernel) (Nat.le_of_ble_eq_true rfl) ?_
  intro p e s m below meth c ls hx hb hr hml hown hG hlocks hname hw hl
  have hl : lv_has ls 3 [(0, .ref md), (1, .int (iI n)), (2, .int (iI k9))] := hl
  obtain ⟨hmd, hlmd⟩ := id hR.1
  obtain ⟨⟨hb1, hb2, hb3, hb4⟩, hokP, hokL, hokS, hokW, hokF⟩ := id hM
  have hq1 : X md 1 = M 40 1 := hR.2.1 1 rfl
  have hq5 : X md 5 = M 40 5 := hR.2.1 5 rfl
  have hq16 : X md 16 = M 40 16 := hR.2.1 16 rfl
  have hq25 : X md 25 = M 40 25 := hR.2.1 25 rfl
  have hq26 : X md 26 = M 40 26 := hR.2.1 26 rfl
  have hq27 : X md 27 = M 40 27 := hR.2.1 27 rfl
  have hq28 : X md 28 = M 40 28 := hR.2.1 28 rfl
  have hq29 : X md 29 = M 40 29 := hR.2.1 29 rfl
  have hf_ := frR_refl (ρ := ρ) (K := K) (X := X) (Rf := Rf)
  have h0_ : ∀ q, q = 0 ∨ q = 36 → X md q = X md q := fun _ _ => rfl
  have hls_ := lsR_refl (X := X) (Rf := Rf) (md := md)
  refine lv_aload_n (pc := 0) hx hb dX9_hasDate_0 rfl (lv_at hl 0 rfl) ?_
  refine lv_iload_n (pc := 1) hx hb dX9_hasDate_1 rfl (lv_at hl 1 rfl) ?_
  refine zkIp (pc := 2) (zrV (As := [.int (iI n)]) hx hb hml hown hG hw (c_X9_isSeries l Γ K X Rf md n  (by (first | assumption | omega)) (by (first | assumption | omega))) (T := TX9) hmd rfl cb_X9_isSeries wl_X9_231 rfl ⟨Nat.le_of_ble_eq_true rfl, Nat.le_of_ble_eq_true rfl⟩ hl.1 rfl (Nat.le_of_ble_eq_true rfl) dX9_hasDate_2 ⟨Nat.zero_le _, Nat.zero_le _⟩) hw (fun r2 H locs hp2 hw => ?_)
  subst hp2
  refine zif_eq (pc := 5) hx hb 28 (by omega) dX9_hasDate_5 (by decide) (fun c5 => ?_) (fun c5 => ?_)
  · skip
    replace c5 := it0 c5
    refine ziconst (pc := 28) (n := 0) hx hb dX9_hasDate_28 ?_
    exact zretZ (pc := 29) hx hb hlocks hr (Or.inl rfl) hw (Nat.zero_le _) (Nat.zero_le _) dX9_hasDate_29 (by first | exact ⟨by rw [if_neg (by omega)], ⟨ρ, hR, hf_⟩, fun _ _ => rfl, hls_⟩ | exact ⟨by first | (rw [if_pos (by omega)]; done) | (rw [if_neg (by omega)]; done), ⟨ρ12, hR12, hf12⟩, h012, hls12⟩)
  · skip
    replace c5 := it1 c5
    have hdl : (((datM M n.toNat)).length : Int) ≤ 4001 := dtS_len (Up := useM M n.toNat) (Ex := excM M n.toNat) (hokS n.toNat (by omega)).1
    have hdv : ∀ k, k < ((datM M n.toNat)).length → 0 ≤ (datM M n.toNat).getD k 0 ∧ (datM M n.toNat).getD k 0 ≤ 73048 := fun k hk => dtS_get (Up := useM M n.toNat) (Ex := excM M n.toNat) (hokS n.toNat (by omega)).1 k hk
    refine lv_iload_n (pc := 8) hx hb dX9_hasDate_8 rfl (lv_at hl 2 rfl) ?_
    refine ziconst (pc := 9) (n := 0) hx hb dX9_hasDate_9 ?_
    refine lv_aload_n (pc := 10) hx hb dX9_hasDate_10 rfl (lv_at hl 0 rfl) ?_
    refine lv_iload_n (pc := 11) hx hb dX9_hasDate_11 rfl (lv_at hl 1 rfl) ?_
    have hdc12 := dnC_le (Rf := Rf) (md := md) (n := n.toNat)
    refine zkR (pc := 12) (zrV (As := [.int (iI n)]) hx hb hml hown hG hw (c_X9_dated l Γ K X Rf md n (ρ) M (by (first | assumption | omega)) (by (first | assumption | omega)) (by (first | assumption | omega))) (T := TX9) hmd rfl cb_X9_dated wl_X9_266 rfl ⟨Nat.le_of_ble_eq_true rfl, Nat.le_of_ble_eq_true rfl⟩ hl.1 rfl (Nat.le_of_ble_eq_true rfl) dX9_hasDate_12 ⟨(by show 0 + 1 ≤ 1; omega), (by show 0 + (dnC Rf md n.toNat) ≤ 4001; omega)⟩) hw (fun r12 K12 X12 R12 H locs hp12 hw => ?_)
    obtain ⟨ρ12, ⟨hR12, hg12, hz12⟩, ⟨hkr12, hlr12, hvr12⟩, ⟨hs12, hd12⟩, hy12⟩ := hp12
    obtain ⟨hmd12, hlm12⟩ := id hR12.1
    have hf12 := hf_.trans hg12
    have h012 := fun q hq => (hz12 q hq).trans (h0_ q hq)
    have hls12 := hls_.trans hs12
    refine zlen2 (pc := 15) hx hb hw hkr12 dX9_hasDate_15 ?_
    refine ziconst (pc := 16) (n := 1) hx hb dX9_hasDate_16 ?_
    refine zsub (pc := 17) hx hb dX9_hasDate_17 ?_
    refine zkIp (pc := 18) (zrS (As := [.int (iI k9), .int (iI 0), .int (iI (((((datM M n.toNat).length) : Nat) : Int) - 1))]) hx hb hml hown hG hw (c_X9_is l Γ K12 X12 R12 k9 0 (((((datM M n.toNat).length) : Nat) : Int) - 1)  (by (first | assumption | omega))) cb_X9_is wl_X9_91 rfl ⟨Nat.le_of_ble_eq_true rfl, Nat.le_of_ble_eq_true rfl⟩ hl.1 rfl (Nat.le_of_ble_eq_true rfl) dX9_hasDate_18 ⟨(by show 0 + 1 + 0 ≤ 1; omega), (by show 0 + (dnC Rf md n.toNat) + 0 ≤ 4001; omega)⟩) hw (fun r18 H locs hp18 hw => ?_)
    subst hp18
    refine zif_eq (pc := 21) hx hb 28 (by omega) dX9_hasDate_21 (by decide) (fun c21 => ?_) (fun c21 => ?_)
    · skip
      replace c21 := it0 c21
      refine ziconst (pc := 28) (n := 0) hx hb dX9_hasDate_28 ?_
      exact zretZ (pc := 29) hx hb hlocks hr (Or.inl rfl) hw (by show 0 + 1 ≤ 1; omega) (by show 0 + (dnC Rf md n.toNat) ≤ 4001; omega) dX9_hasDate_29 (by first | exact ⟨by rw [if_neg (by omega)], ⟨ρ, hR, hf_⟩, fun _ _ => rfl, hls_⟩ | exact ⟨by first | (rw [if_pos (by omega)]; done) | (rw [if_neg (by omega)]; done), ⟨ρ12, hR12, hf12⟩, h012, hls12⟩)
    · skip
      replace c21 := it1 c21
      refine ziconst (pc := 24) (n := 1) hx hb dX9_hasDate_24 ?_
      refine lv_goto (pc := 25) (tgt := 29) hx hb dX9_hasDate_25 (by decide) ?_
      exact zretZ (pc := 29) hx hb hlocks hr (Or.inr rfl) hw (by show 0 + 1 ≤ 1; omega) (by show 0 + (dnC Rf md n.toNat) ≤ 4001; omega) dX9_hasDate_29 (by first | exact ⟨by rw [if_neg (by omega)], ⟨ρ, hR, hf_⟩, fun _ _ => rfl, hls_⟩ | exact ⟨by first | (rw [if_pos (by omega)]; done) | (rw [if_neg (by omega)]; done), ⟨ρ12, hR12, hf12⟩, h012, hls12⟩)
set_option maxHeartbeats 4000000 in
set_option maxRecDepth 100000 in
theorem c_X9_dateAt (l : Launch) (Γ : zG) (K : zK) (X : zX) (Rf : zR) (md : Nat) (a : Int) (k9 : Int) (ρ : zL) (M : zM) (hR : repR ρ K X Rf md M) (hM : okM M) (h1 : fit a ∧ fit k9) : Ct l yX9_dateAt cX9_dateAt 3 (some .int) 10 2 8002 Γ [.ref md, .int (iI a), .int (iI k9)] K X Rf (pI (fun (r : Int) (K' : zK) (X' : zX) (R' : zR) => (cdSerK M a k9 = 0 → r = dtL (datM M a.toNat) k9) ∧ X' md 0 = cdSerK M a k9 ∧ (∃ ρ', repR ρ' K' X' R' md M ∧ frR ρ K X Rf ρ' K' X' R') ∧ lsR X Rf X' R' md ∧ X' md 36 = X md 36)) := by
  refine Ct.of (by decide +kernel) (Nat.le_of_ble_eq_true rfl) ?_
  intro p e s m below meth c ls hx hb hr hml hown hG hlocks hname hw hl
  have hl : lv_has ls 3 [(0, .ref md), (1, .int (iI a)), (2, .int (iI k9))] := hl
  obtain ⟨hmd, hlmd⟩ := id hR.1
  obtain ⟨⟨hb1, hb2, hb3, hb4⟩, hokP, hokL, hokS, hokW, hokF⟩ := id hM
  have hq1 : X md 1 = M 40 1 := hR.2.1 1 rfl
  have hq5 : X md 5 = M 40 5 := hR.2.1 5 rfl
  have hq16 : X md 16 = M 40 16 := hR.2.1 16 rfl
  have hq25 : X md 25 = M 40 25 := hR.2.1 25 rfl
  have hq26 : X md 26 = M 40 26 := hR.2.1 26 rfl
  have hq27 : X md 27 = M 40 27 := hR.2.1 27 rfl
  have hq28 : X md 28 = M 40 28 := hR.2.1 28 rfl
  have hq29 : X md 29 = M 40 29 := hR.2.1 29 rfl
  refine lv_aload_n (pc := 0) hx hb dX9_dateAt_0 rfl (lv_at hl 0 rfl) ?_
  refine ziconst (pc := 1) (n := 0) hx hb dX9_dateAt_1 ?_
  refine zputI (pc := 2) hx hb hG hown hw hmd (T := TX9) rfl 0 (by decide) rfl wf_X9_87 rfl (by decide +kernel) rfl dX9_dateAt_2 (fun H locs hw => ?_)
  obtain ⟨X2, eX2⟩ : ∃ Y : zX, Y = up2 X md 0 0 := ⟨_, rfl⟩
  rw [← eX2] at hw
  have hR2 : repR ρ K X2 Rf md M := by rw [eX2]; exact hR.own ⟨rfl, by decide⟩
  have hf2 : frR ρ K X Rf ρ K X2 Rf := by rw [eX2]; exact frR_own hR
  have h02 : ∀ q, q = 0 ∨ q = 36 → X2 md q = X2 md q := fun _ _ => rfl
  have e02 : X2 md 0 = 0 := by rw [eX2]; exact up2_s
  have e362 : X2 md 36 = X md 36 := by rw [eX2]; exact up2_k (by decide)
  have hls2 : lsR X Rf X2 Rf md := by rw [eX2]; exact lsR_own hR
  refine lv_aload_n (pc := 5) hx hb dX9_dateAt_5 rfl (lv_at hl 0 rfl) ?_
  refine lv_iload_n (pc := 6) hx hb dX9_dateAt_6 rfl (lv_at hl 1 rfl) ?_
  refine lv_iload_n (pc := 7) hx hb dX9_dateAt_7 rfl (lv_at hl 2 rfl) ?_
  refine zkI (pc := 8) (zrV (As := [.int (iI a), .int (iI k9)]) hx hb hml hown hG hw (c_X9_hasDate l Γ K X2 Rf md a k9 (ρ) M (by (first | assumption | omega)) (by (first | assumption | omega)) (by (first | assumption | omega))) (T := TX9) hmd rfl cb_X9_hasDate wl_X9_269 rfl ⟨Nat.le_of_ble_eq_true rfl, Nat.le_of_ble_eq_true rfl⟩ hl.1 rfl (Nat.le_of_ble_eq_true rfl) dX9_dateAt_8 ⟨(by show 0 + 1 ≤ 2; omega), (by show 0 + 4001 ≤ 8002; omega)⟩) hw (fun r8 K8 X8 R8 H locs hp8 hw => ?_)
  obtain ⟨hv8, ⟨ρ8, hR8, hg8⟩, hz8, hs8⟩ := hp8
  obtain ⟨hmd8, hlm8⟩ := id hR8.1
  have hf8 := hf2.trans hg8
  have h08 := fun q hq => (hz8 q hq).trans (h02 q hq)
  have hls8 := hls2.trans hs8
  refine zif_eq (pc := 11) hx hb 24 (by omega) dX9_dateAt_11 (by decide) (fun c11 => ?_) (fun c11 => ?_)
  · skip
    have q8 := it0 (hv8.symm.trans c11)
    refine lv_aload_n (pc := 24) hx hb dX9_dateAt_24 rfl (lv_at hl 0 rfl) ?_
    refine ziconst (pc := 25) (n := 1) hx hb dX9_dateAt_25 ?_
    refine zkIx (pc := 26) (zrV (As := [.int (iI 1)]) hx hb hml hown hG hw (c_X9_refuse l Γ K8 X8 R8 md 1  (by (first | assumption | omega))) (T := TX9) hmd8 rfl cb_X9_refuse wl_X9_123 rfl ⟨Nat.le_of_ble_eq_true rfl, Nat.le_of_ble_eq_true rfl⟩ hl.1 rfl (Nat.le_of_ble_eq_true rfl) dX9_dateAt_26 ⟨(by show 0 + 1 + 0 ≤ 2; omega), (by show 0 + 4001 + 0 ≤ 8002; omega)⟩) hw (fun r26 X26 H locs hp26 hw => ?_)
    obtain ⟨hrf26, eX26⟩ := hp26
    exact zretI (pc := 29) hx hb hlocks hr hw (by show 0 + 1 ≤ 2; omega) (by show 0 + 4001 ≤ 8002; omega) dX9_dateAt_29 (by first | (rw [eX26]; refine ⟨fun hz => by (exfalso; revert hz; (unfold cdSerK; (repeat' split) <;> omega)), by rw [up2_s]; symm; (unfold cdSerK; (repeat' split) <;> omega), ⟨ρ8, hR8.own ⟨rfl, by decide⟩, hf8.trans (frR_own hR8)⟩, hls8.trans (lsR_own hR8), by rw [up2_k (by decide), h08 36 (Or.inr rfl)]; exact e362⟩) | exact ⟨fun _ => by unfold dtL; rw [if_neg (by omega)]; exact hvr16 _ (by omega), by rw [h016 0 (Or.inl rfl), e02]; symm; (unfold cdSerK; (repeat' split) <;> omega), ⟨ρ16, hR16, hf16⟩, hls16, by rw [h016 36 (Or.inr rfl)]; exact e362⟩)
  · skip
    have q8 := it1 (fun g => c11 (hv8.trans g))
    have hdl : (((datM M a.toNat)).length : Int) ≤ 4001 := dtS_len (Up := useM M a.toNat) (Ex := excM M a.toNat) (hokS a.toNat (by omega)).1
    have hdv : ∀ k, k < ((datM M a.toNat)).length → 0 ≤ (datM M a.toNat).getD k 0 ∧ (datM M a.toNat).getD k 0 ≤ 73048 := fun k hk => dtS_get (Up := useM M a.toNat) (Ex := excM M a.toNat) (hokS a.toNat (by omega)).1 k hk
    refine lv_aload_n (pc := 14) hx hb dX9_dateAt_14 rfl (lv_at hl 0 rfl) ?_
    refine lv_iload_n (pc := 15) hx hb dX9_dateAt_15 rfl (lv_at hl 1 rfl) ?_
    have hdc16 := dnC_le (Rf := R8) (md := md) (n := a.toNat)
    refine zkR (pc := 16) (zrV (As := [.int (iI a)]) hx hb hml hown hG hw (c_X9_dated l Γ K8 X8 R8 md a (ρ8) M (by (first | assumption | omega)) (by (first | assumption | omega)) (by (first | assumption | omega))) (T := TX9) hmd8 rfl cb_X9_dated wl_X9_266 rfl ⟨Nat.le_of_ble_eq_true rfl, Nat.le_of_ble_eq_true rfl⟩ hl.1 rfl (Nat.le_of_ble_eq_true rfl) dX9_dateAt_16 ⟨(by show 0 + 1 + 1 ≤ 2; omega), (by show 0 + 4001 + (dnC R8 md a.toNat) ≤ 8002; omega)⟩) hw (fun r16 K16 X16 R16 H locs hp16 hw => ?_)
    obtain ⟨ρ16, ⟨hR16, hg16, hz16⟩, ⟨hkr16, hlr16, hvr16⟩, ⟨hs16, hd16⟩, hy16⟩ := hp16
    obtain ⟨hmd16, hlm16⟩ := id hR16.1
    have hf16 := hf8.trans hg16
    have h016 := fun q hq => (hz16 q hq).trans (h08 q hq)
    have hls16 := hls8.trans hs16
    refine lv_iload_n (pc := 19) hx hb dX9_dateAt_19 rfl (lv_at hl 2 rfl) ?_
    refine zald (pc := 20) hx hb hw hkr16 ⟨by omega, by omega⟩ (by omega) dX9_dateAt_20 ?_
    refine lv_goto (pc := 21) (tgt := 29) hx hb dX9_dateAt_21 (by decide) ?_
    exact zretI (pc := 29) hx hb hlocks hr hw (by show 0 + 1 + 1 ≤ 2; omega) (by show 0 + 4001 + (dnC R8 md a.toNat) ≤ 8002; omega) dX9_dateAt_29 (by first | (rw [eX16]; refine ⟨fun hz => by (exfalso; revert hz; (unfold cdSerK; (repeat' split) <;> omega)), by rw [up2_s]; symm; (unfold cdSerK; (repeat' split) <;> omega), ⟨ρ8, hR8.own ⟨rfl, by decide⟩, hf8.trans (frR_own hR8)⟩, hls8.trans (lsR_own hR8), by rw [up2_k (by decide), h08 36 (Or.inr rfl)]; exact e362⟩) | exact ⟨fun _ => by unfold dtL; rw [if_neg (by omega)]; exact hvr16 _ (by omega), by rw [h016 0 (Or.inl rfl), e02]; symm; (unfold cdSerK; (repeat' split) <;> omega), ⟨ρ16, hR16, hf16⟩, hls16, by rw [h016 36 (Or.inr rfl)]; exact e362⟩)
set_option maxHeartbeats 4000000 in
set_option maxRecDepth 100000 in
theorem c_X9_dateFrom (l : Launch) (Γ : zG) (K : zK) (X : zX) (Rf : zR) (md : Nat) (a : Int) (day : Int) (ρ : zL) (M : zM) (hR : repR ρ K X Rf md M) (hM : okM M) (h1 : fit a ∧ fit day) : Ct l yX9_dateFrom cX9_dateFrom 5 (some .int) 9 1 4001 Γ [.ref md, .int (iI a), .int (iI day)] K X Rf (pI (fun (r : Int) (K' : zK) (X' : zX) (R' : zR) => (cdSerD M a day = 0 → r = ffD (datM M a.toNat) day) ∧ X' md 0 = cdSerD M a day ∧ (∃ ρ', repR ρ' K' X' R' md M ∧ frR ρ K X Rf ρ' K' X' R') ∧ lsR X Rf X' R' md ∧ X' md 36 = X md 36)) := by
  refine Ct.of (by decide +kernel) (Nat.le_of_ble_eq_true rfl) ?_
  intro p e s m below meth c ls hx hb hr hml hown hG hlocks hname hw hl
  have hl : lv_has ls 5 [(0, .ref md), (1, .int (iI a)), (2, .int (iI day))] := hl
  obtain ⟨hmd, hlmd⟩ := id hR.1
  obtain ⟨⟨hb1, hb2, hb3, hb4⟩, hokP, hokL, hokS, hokW, hokF⟩ := id hM
  have hq1 : X md 1 = M 40 1 := hR.2.1 1 rfl
  have hq5 : X md 5 = M 40 5 := hR.2.1 5 rfl
  have hq16 : X md 16 = M 40 16 := hR.2.1 16 rfl
  have hq25 : X md 25 = M 40 25 := hR.2.1 25 rfl
  have hq26 : X md 26 = M 40 26 := hR.2.1 26 rfl
  have hq27 : X md 27 = M 40 27 := hR.2.1 27 rfl
  have hq28 : X md 28 = M 40 28 := hR.2.1 28 rfl
  have hq29 : X md 29 = M 40 29 := hR.2.1 29 rfl
  refine lv_aload_n (pc := 0) hx hb dX9_dateFrom_0 rfl (lv_at hl 0 rfl) ?_
  refine ziconst (pc := 1) (n := 0) hx hb dX9_dateFrom_1 ?_
  refine zputI (pc := 2) hx hb hG hown hw hmd (T := TX9) rfl 0 (by decide) rfl wf_X9_87 rfl (by decide +kernel) rfl dX9_dateFrom_2 (fun H locs hw => ?_)
  obtain ⟨X2, eX2⟩ : ∃ Y : zX, Y = up2 X md 0 0 := ⟨_, rfl⟩
  rw [← eX2] at hw
  have hz16 : X2 md 16 = M 40 16 := by rw [eX2, up2_k (by decide)]; exact hq16
  have hR2 : repR ρ K X2 Rf md M := by rw [eX2]; exact hR.own ⟨rfl, by decide⟩
  have hf2 : frR ρ K X Rf ρ K X2 Rf := by rw [eX2]; exact frR_own hR
  have h02 : ∀ q, q = 0 ∨ q = 36 → X2 md q = X2 md q := fun _ _ => rfl
  have e02 : X2 md 0 = 0 := by rw [eX2]; exact up2_s
  have e362 : X2 md 36 = X md 36 := by rw [eX2]; exact up2_k (by decide)
  have hls2 : lsR X Rf X2 Rf md := by rw [eX2]; exact lsR_own hR
  refine lv_aload_n (pc := 5) hx hb dX9_dateFrom_5 rfl (lv_at hl 0 rfl) ?_
  refine lv_iload_n (pc := 6) hx hb dX9_dateFrom_6 rfl (lv_at hl 1 rfl) ?_
  refine zkIp (pc := 7) (zrV (As := [.int (iI a)]) hx hb hml hown hG hw (c_X9_isSeries l Γ K X2 Rf md a  (by (first | assumption | omega)) (by (first | assumption | omega))) (T := TX9) hmd rfl cb_X9_isSeries wl_X9_231 rfl ⟨Nat.le_of_ble_eq_true rfl, Nat.le_of_ble_eq_true rfl⟩ hl.1 rfl (Nat.le_of_ble_eq_true rfl) dX9_dateFrom_7 ⟨Nat.zero_le _, Nat.zero_le _⟩) hw (fun r7 H locs hp7 hw => ?_)
  subst hp7
  refine zif_eq (pc := 10) hx hb 20 (by omega) dX9_dateFrom_10 (by decide) (fun c10 => ?_) (fun c10 => ?_)
  · skip
    replace c10 := it0 c10
    refine lv_aload_n (pc := 20) hx hb dX9_dateFrom_20 rfl (lv_at hl 0 rfl) ?_
    refine ziconst (pc := 21) (n := 1) hx hb dX9_dateFrom_21 ?_
    refine zkIx (pc := 22) (zrV (As := [.int (iI 1)]) hx hb hml hown hG hw (c_X9_refuse l Γ K X2 Rf md 1  (by (first | assumption | omega))) (T := TX9) hmd rfl cb_X9_refuse wl_X9_123 rfl ⟨Nat.le_of_ble_eq_true rfl, Nat.le_of_ble_eq_true rfl⟩ hl.1 rfl (Nat.le_of_ble_eq_true rfl) dX9_dateFrom_22 ⟨Nat.zero_le _, Nat.zero_le _⟩) hw (fun r22 X22 H locs hp22 hw => ?_)
    obtain ⟨hrf22, eX22⟩ := hp22
    exact zretI (pc := 25) hx hb hlocks hr hw (Nat.zero_le _) (Nat.zero_le _) dX9_dateFrom_25 (by first | (rw [eX22]; refine ⟨fun hz => by (exfalso; revert hz; (unfold cdSerD; (repeat' split) <;> omega)), by rw [up2_s]; symm; (unfold cdSerD; (repeat' split) <;> omega), ⟨ρ, hR2.own ⟨rfl, by decide⟩, hf2.trans (frR_own hR2)⟩, hls2.trans (lsR_own hR2), by rw [up2_k (by decide), h02 36 (Or.inr rfl)]; exact e362⟩) | exact ⟨fun _ => by first | (rw [h6, ffD_h (by omega) (by omega)]; done) | (rw [h6, fP_e (by omega)]; done), by rw [h028 0 (Or.inl rfl), e02]; symm; (unfold cdSerD; (repeat' split) <;> omega), ⟨ρ28, hR28, hf28⟩, hls28, by rw [h028 36 (Or.inr rfl)]; exact e362⟩)
  · skip
    replace c10 := it1 c10
    refine lv_iload_n (pc := 13) hx hb dX9_dateFrom_13 rfl (lv_at hl 2 rfl) ?_
    refine zkIp (pc := 14) (zrS (As := [.int (iI day)]) hx hb hml hown hG hw (c_X9_isDay l Γ K X2 Rf day  (by (first | assumption | omega))) cb_X9_isDay wl_X9_126 rfl ⟨Nat.le_of_ble_eq_true rfl, Nat.le_of_ble_eq_true rfl⟩ hl.1 rfl (Nat.le_of_ble_eq_true rfl) dX9_dateFrom_14 ⟨Nat.zero_le _, Nat.zero_le _⟩) hw (fun r14 H locs hp14 hw => ?_)
    subst hp14
    refine zif_ne (pc := 17) hx hb 26 (by omega) dX9_dateFrom_17 (by decide) (fun c17 => ?_) (fun c17 => ?_)
    · skip
      replace c17 := it1 c17
      have hdl : (((datM M a.toNat)).length : Int) ≤ 4001 := dtS_len (Up := useM M a.toNat) (Ex := excM M a.toNat) (hokS a.toNat (by omega)).1
      have hdv : ∀ k, k < ((datM M a.toNat)).length → 0 ≤ (datM M a.toNat).getD k 0 ∧ (datM M a.toNat).getD k 0 ≤ 73048 := fun k hk => dtS_get (Up := useM M a.toNat) (Ex := excM M a.toNat) (hokS a.toNat (by omega)).1 k hk
      refine lv_aload_n (pc := 26) hx hb dX9_dateFrom_26 rfl (lv_at hl 0 rfl) ?_
      refine lv_iload_n (pc := 27) hx hb dX9_dateFrom_27 rfl (lv_at hl 1 rfl) ?_
      have hdc28 := dnC_le (Rf := Rf) (md := md) (n := a.toNat)
      refine zkR (pc := 28) (zrV (As := [.int (iI a)]) hx hb hml hown hG hw (c_X9_dated l Γ K X2 Rf md a (ρ) M (by (first | assumption | omega)) (by (first | assumption | omega)) (by (first | assumption | omega))) (T := TX9) hmd rfl cb_X9_dated wl_X9_266 rfl ⟨Nat.le_of_ble_eq_true rfl, Nat.le_of_ble_eq_true rfl⟩ hl.1 rfl (Nat.le_of_ble_eq_true rfl) dX9_dateFrom_28 ⟨(by show 0 + 1 ≤ 1; omega), (by show 0 + (dnC Rf md a.toNat) ≤ 4001; omega)⟩) hw (fun r28 K28 X28 R28 H locs hp28 hw => ?_)
      obtain ⟨ρ28, ⟨hR28, hg28, hz28⟩, ⟨hkr28, hlr28, hvr28⟩, ⟨hs28, hd28⟩, hy28⟩ := hp28
      obtain ⟨hmd28, hlm28⟩ := id hR28.1
      have hf28 := hf2.trans hg28
      have h028 := fun q hq => (hz28 q hq).trans (h02 q hq)
      have hls28 := hls2.trans hs28
      refine lv_astore_n (pc := 31) (lv' := [(3, .ref r28), (0, .ref md), (1, .int (iI a)), (2, .int (iI day))]) hx hb dX9_dateFrom_31 rfl hl (by decide) rfl (fun ls hl => ?_)
      refine ziconst (pc := 32) (n := 0) hx hb dX9_dateFrom_32 ?_
      refine lv_istore (pc := 33) (lv' := [(4, .int (iI 0)), (3, .ref r28), (0, .ref md), (1, .int (iI a)), (2, .int (iI day))]) hx hb dX9_dateFrom_33 hl (by decide) rfl (fun ls hl => ?_)
      have lp35 : ∀ (n35 : Nat) (kk : Int) (H : Heap) (locs : List Loc), (hi : 0 ≤ kk ∧ kk ≤ ((datM M a.toNat)).length) → (h6 : ffD (datM M a.toNat) day = fP (fun k => decide (day ≤ (datM M a.toNat).getD k.toNat 0)) ((((datM M a.toNat)).length : Int) - kk).toNat kk) → (((((datM M a.toNat)).length : Int) - kk).toNat < n35) → Wd Γ (zA K s.heap.size) K28 X28 R28 s H locs → ∀ ls : Array Slot, lv_has ls 5 [(4, .int (iI kk)), (3, .ref r28), (0, .ref md), (1, .int (iI a)), (2, .int (iI day))] → W p l e (rmL 9 1 4001) s m ([.ref md, .int (iI a), .int (iI day)] : List Value).toArray below meth c H locs (0 + 1) (0 + (dnC Rf md a.toNat)) (MQ below (zQ Γ K s.heap.size (pI (fun (r : Int) (K' : zK) (X' : zX) (R' : zR) => (cdSerD M a day = 0 → r = ffD (datM M a.toNat) day) ∧ X' md 0 = cdSerD M a day ∧ (∃ ρ', repR ρ' K' X' R' md M ∧ frR ρ K X Rf ρ' K' X' R') ∧ lsR X Rf X' R' md ∧ X' md 36 = X md 36))) ([.ref md, .int (iI a), .int (iI day)] : List Value).toArray s 1 4001 (zA K s.heap.size)) (F0 m 35 ls []) := by
        intro n35
        induction n35 with
        | zero => intro kk H locs hi h6 hm35; exact absurd hm35 (Nat.not_lt_zero _)
        | succ n35 ih35 =>
          intro kk H locs hi h6 hm35 hw ls hl
          refine lv_iload (pc := 35) hx hb dX9_dateFrom_35 (lv_at hl 0 rfl) ?_
          refine lv_aload_n (pc := 37) hx hb dX9_dateFrom_37 rfl (lv_at hl 1 rfl) ?_
          refine zlen2 (pc := 38) hx hb hw hkr28 dX9_dateFrom_38 ?_
          refine zicmp_ge (pc := 39) hx hb 56 (by omega) (by omega) dX9_dateFrom_39 (by decide) (fun c39 => ?_) (fun c39 => ?_)
          · skip
            refine lv_iload (pc := 56) hx hb dX9_dateFrom_56 (lv_at hl 0 rfl) ?_
            refine lv_aload_n (pc := 58) hx hb dX9_dateFrom_58 rfl (lv_at hl 1 rfl) ?_
            refine zlen2 (pc := 59) hx hb hw hkr28 dX9_dateFrom_59 ?_
            refine zicmp_ge (pc := 60) hx hb 68 (by omega) (by omega) dX9_dateFrom_60 (by decide) (fun c60 => ?_) (fun c60 => ?_)
            · skip
              refine ziconst (pc := 68) (n := (-1)) hx hb dX9_dateFrom_68 ?_
              exact zretI (pc := 69) hx hb hlocks hr hw (by show 0 + 1 ≤ 1; omega) (by show 0 + (dnC Rf md a.toNat) ≤ 4001; omega) dX9_dateFrom_69 (by first | (rw [eX28]; refine ⟨fun hz => by (exfalso; revert hz; (unfold cdSerD; (repeat' split) <;> omega)), by rw [up2_s]; symm; (unfold cdSerD; (repeat' split) <;> omega), ⟨ρ, hR2.own ⟨rfl, by decide⟩, hf2.trans (frR_own hR2)⟩, hls2.trans (lsR_own hR2), by rw [up2_k (by decide), h02 36 (Or.inr rfl)]; exact e362⟩) | exact ⟨fun _ => by first | (rw [h6, ffD_h (by omega) (by omega)]; done) | (rw [h6, fP_e (by omega)]; done), by rw [h028 0 (Or.inl rfl), e02]; symm; (unfold cdSerD; (repeat' split) <;> omega), ⟨ρ28, hR28, hf28⟩, hls28, by rw [h028 36 (Or.inr rfl)]; exact e362⟩)
            · skip
              refine lv_iload (pc := 63) hx hb dX9_dateFrom_63 (lv_at hl 0 rfl) ?_
              refine lv_goto (pc := 65) (tgt := 69) hx hb dX9_dateFrom_65 (by decide) ?_
              exact zretI (pc := 69) hx hb hlocks hr hw (by show 0 + 1 ≤ 1; omega) (by show 0 + (dnC Rf md a.toNat) ≤ 4001; omega) dX9_dateFrom_69 (by first | (rw [eX28]; refine ⟨fun hz => by (exfalso; revert hz; (unfold cdSerD; (repeat' split) <;> omega)), by rw [up2_s]; symm; (unfold cdSerD; (repeat' split) <;> omega), ⟨ρ, hR2.own ⟨rfl, by decide⟩, hf2.trans (frR_own hR2)⟩, hls2.trans (lsR_own hR2), by rw [up2_k (by decide), h02 36 (Or.inr rfl)]; exact e362⟩) | exact ⟨fun _ => by first | (rw [h6, ffD_h (by omega) (by omega)]; done) | (rw [h6, fP_e (by omega)]; done), by rw [h028 0 (Or.inl rfl), e02]; symm; (unfold cdSerD; (repeat' split) <;> omega), ⟨ρ28, hR28, hf28⟩, hls28, by rw [h028 36 (Or.inr rfl)]; exact e362⟩)
          · skip
            have hdk := hvr28 kk.toNat (by omega)
            have hdk2 := hdv kk.toNat (by omega)
            refine lv_aload_n (pc := 42) hx hb dX9_dateFrom_42 rfl (lv_at hl 1 rfl) ?_
            refine lv_iload (pc := 43) hx hb dX9_dateFrom_43 (lv_at hl 0 rfl) ?_
            refine zald (pc := 45) hx hb hw hkr28 ⟨by omega, by omega⟩ (by omega) dX9_dateFrom_45 ?_
            refine lv_iload_n (pc := 46) hx hb dX9_dateFrom_46 rfl (lv_at hl 4 rfl) ?_
            refine zicmp_ge (pc := 47) hx hb 56 (by omega) (by omega) dX9_dateFrom_47 (by decide) (fun c47 => ?_) (fun c47 => ?_)
            · skip
              refine lv_iload (pc := 56) hx hb dX9_dateFrom_56 (lv_at hl 0 rfl) ?_
              refine lv_aload_n (pc := 58) hx hb dX9_dateFrom_58 rfl (lv_at hl 1 rfl) ?_
              refine zlen2 (pc := 59) hx hb hw hkr28 dX9_dateFrom_59 ?_
              refine zicmp_ge (pc := 60) hx hb 68 (by omega) (by omega) dX9_dateFrom_60 (by decide) (fun c60 => ?_) (fun c60 => ?_)
              · skip
                refine ziconst (pc := 68) (n := (-1)) hx hb dX9_dateFrom_68 ?_
                exact zretI (pc := 69) hx hb hlocks hr hw (by show 0 + 1 ≤ 1; omega) (by show 0 + (dnC Rf md a.toNat) ≤ 4001; omega) dX9_dateFrom_69 (by first | (rw [eX28]; refine ⟨fun hz => by (exfalso; revert hz; (unfold cdSerD; (repeat' split) <;> omega)), by rw [up2_s]; symm; (unfold cdSerD; (repeat' split) <;> omega), ⟨ρ, hR2.own ⟨rfl, by decide⟩, hf2.trans (frR_own hR2)⟩, hls2.trans (lsR_own hR2), by rw [up2_k (by decide), h02 36 (Or.inr rfl)]; exact e362⟩) | exact ⟨fun _ => by first | (rw [h6, ffD_h (by omega) (by omega)]; done) | (rw [h6, fP_e (by omega)]; done), by rw [h028 0 (Or.inl rfl), e02]; symm; (unfold cdSerD; (repeat' split) <;> omega), ⟨ρ28, hR28, hf28⟩, hls28, by rw [h028 36 (Or.inr rfl)]; exact e362⟩)
              · skip
                refine lv_iload (pc := 63) hx hb dX9_dateFrom_63 (lv_at hl 0 rfl) ?_
                refine lv_goto (pc := 65) (tgt := 69) hx hb dX9_dateFrom_65 (by decide) ?_
                exact zretI (pc := 69) hx hb hlocks hr hw (by show 0 + 1 ≤ 1; omega) (by show 0 + (dnC Rf md a.toNat) ≤ 4001; omega) dX9_dateFrom_69 (by first | (rw [eX28]; refine ⟨fun hz => by (exfalso; revert hz; (unfold cdSerD; (repeat' split) <;> omega)), by rw [up2_s]; symm; (unfold cdSerD; (repeat' split) <;> omega), ⟨ρ, hR2.own ⟨rfl, by decide⟩, hf2.trans (frR_own hR2)⟩, hls2.trans (lsR_own hR2), by rw [up2_k (by decide), h02 36 (Or.inr rfl)]; exact e362⟩) | exact ⟨fun _ => by first | (rw [h6, ffD_h (by omega) (by omega)]; done) | (rw [h6, fP_e (by omega)]; done), by rw [h028 0 (Or.inl rfl), e02]; symm; (unfold cdSerD; (repeat' split) <;> omega), ⟨ρ28, hR28, hf28⟩, hls28, by rw [h028 36 (Or.inr rfl)]; exact e362⟩)
            · skip
              refine ziinc (pc := 50) (lv' := [(4, .int (iI (kk + 1))), (3, .ref r28), (0, .ref md), (1, .int (iI a)), (2, .int (iI day))]) hx hb 0 dX9_dateFrom_50 hl rfl (by decide) rfl (fun ls hl => ?_)
              obtain ⟨x50, ex50⟩ : ∃ zz : Int, zz = (kk + 1) := ⟨_, rfl⟩
              rw [← ex50] at hl
              refine lv_goto (pc := 53) (tgt := 35) hx hb dX9_dateFrom_53 (by decide) ?_
              exact ih35 x50 _ _ (by (first | assumption | omega)) (by rw [h6, ffD_s (by omega) (by omega), ex50]) (by omega) hw _ (lv_sub hl [0, 1, 2, 3, 4] rfl)
      exact lp35 _ 0 _ _ (by (first | assumption | omega)) (by rfl) (Nat.lt_succ_self _) hw _ (lv_sub hl [0, 1, 2, 3, 4] rfl)
    · skip
      replace c17 := it0 c17
      refine lv_aload_n (pc := 20) hx hb dX9_dateFrom_20 rfl (lv_at hl 0 rfl) ?_
      refine ziconst (pc := 21) (n := 1) hx hb dX9_dateFrom_21 ?_
      refine zkIx (pc := 22) (zrV (As := [.int (iI 1)]) hx hb hml hown hG hw (c_X9_refuse l Γ K X2 Rf md 1  (by (first | assumption | omega))) (T := TX9) hmd rfl cb_X9_refuse wl_X9_123 rfl ⟨Nat.le_of_ble_eq_true rfl, Nat.le_of_ble_eq_true rfl⟩ hl.1 rfl (Nat.le_of_ble_eq_true rfl) dX9_dateFrom_22 ⟨Nat.zero_le _, Nat.zero_le _⟩) hw (fun r22 X22 H locs hp22 hw => ?_)
      obtain ⟨hrf22, eX22⟩ := hp22
      exact zretI (pc := 25) hx hb hlocks hr hw (Nat.zero_le _) (Nat.zero_le _) dX9_dateFrom_25 (by first | (rw [eX22]; refine ⟨fun hz => by (exfalso; revert hz; (unfold cdSerD; (repeat' split) <;> omega)), by rw [up2_s]; symm; (unfold cdSerD; (repeat' split) <;> omega), ⟨ρ, hR2.own ⟨rfl, by decide⟩, hf2.trans (frR_own hR2)⟩, hls2.trans (lsR_own hR2), by rw [up2_k (by decide), h02 36 (Or.inr rfl)]; exact e362⟩) | exact ⟨fun _ => by first | (rw [h6, ffD_h (by omega) (by omega)]; done) | (rw [h6, fP_e (by omega)]; done), by rw [h028 0 (Or.inl rfl), e02]; symm; (unfold cdSerD; (repeat' split) <;> omega), ⟨ρ28, hR28, hf28⟩, hls28, by rw [h028 36 (Or.inr rfl)]; exact e362⟩)
set_option maxHeartbeats 4000000 in
set_option maxRecDepth 100000 in
theorem c_X9_shared (l : Launch) (Γ : zG) (K : zK) (X : zX) (Rf : zR) (md : Nat) (n : Int) (o9 : Int) (ρ : zL) (M : zM) (hR : repR ρ K X Rf md M) (hM : okM M) (h1 : 0 ≤ n ∧ n < M 40 16) (h2 : 0 ≤ o9 ∧ o9 < M 40 16) : Ct l yX9_shared cX9_shared 11 (some .int) 9 2 (dnC Rf md n.toNat + dnC Rf md o9.toNat) Γ [.ref md, .int (iI n), .int (iI o9)] K X Rf (pI (fun (r : Int) (K' : zK) (X' : zX) (R' : zR) => r = shD (datM M n.toNat) (datM M o9.toNat) ∧ (∃ ρ', repR ρ' K' X' R' md M ∧ frR ρ K X Rf ρ' K' X' R') ∧ (∀ q, q = 0 ∨ q = 36 → X' md q = X md q) ∧ lsR X Rf X' R' md ∧ dnC R' md n.toNat = 0 ∧ dnC R' md o9.toNat = 0)) := by
  refine Ct.of (by decide +kernel) (Nat.le_of_ble_eq_true rfl) ?_
  intro p e s m below meth c ls hx hb hr hml hown hG hlocks hname hw hl
  have hl : lv_has ls 11 [(0, .ref md), (1, .int (iI n)), (2, .int (iI o9))] := hl
  obtain ⟨hmd, hlmd⟩ := id hR.1
  obtain ⟨⟨hb1, hb2, hb3, hb4⟩, hokP, hokL, hokS, hokW, hokF⟩ := id hM
  have hq1 : X md 1 = M 40 1 := hR.2.1 1 rfl
  have hq5 : X md 5 = M 40 5 := hR.2.1 5 rfl
  have hq16 : X md 16 = M 40 16 := hR.2.1 16 rfl
  have hq25 : X md 25 = M 40 25 := hR.2.1 25 rfl
  have hq26 : X md 26 = M 40 26 := hR.2.1 26 rfl
  have hq27 : X md 27 = M 40 27 := hR.2.1 27 rfl
  have hq28 : X md 28 = M 40 28 := hR.2.1 28 rfl
  have hq29 : X md 29 = M 40 29 := hR.2.1 29 rfl
  have hf_ := frR_refl (ρ := ρ) (K := K) (X := X) (Rf := Rf)
  have h0_ : ∀ q, q = 0 ∨ q = 36 → X md q = X md q := fun _ _ => rfl
  have hls_ := lsR_refl (X := X) (Rf := Rf) (md := md)
  have hdl : (((datM M n.toNat)).length : Int) ≤ 4001 := dtS_len (Up := useM M n.toNat) (Ex := excM M n.toNat) (hokS n.toNat (by omega)).1
  have hdv : ∀ k, k < ((datM M n.toNat)).length → 0 ≤ (datM M n.toNat).getD k 0 ∧ (datM M n.toNat).getD k 0 ≤ 73048 := fun k hk => dtS_get (Up := useM M n.toNat) (Ex := excM M n.toNat) (hokS n.toNat (by omega)).1 k hk
  have hdlo : (((datM M o9.toNat)).length : Int) ≤ 4001 := dtS_len (Up := useM M o9.toNat) (Ex := excM M o9.toNat) (hokS o9.toNat (by omega)).1
  have hdvo : ∀ k, k < ((datM M o9.toNat)).length → 0 ≤ (datM M o9.toNat).getD k 0 ∧ (datM M o9.toNat).getD k 0 ≤ 73048 := fun k hk => dtS_get (Up := useM M o9.toNat) (Ex := excM M o9.toNat) (hokS o9.toNat (by omega)).1 k hk
  refine lv_aload_n (pc := 0) hx hb dX9_shared_0 rfl (lv_at hl 0 rfl) ?_
  refine lv_iload_n (pc := 1) hx hb dX9_shared_1 rfl (lv_at hl 1 rfl) ?_
  have hdc2 := dnC_le (Rf := Rf) (md := md) (n := n.toNat)
  refine zkR (pc := 2) (zrV (As := [.int (iI n)]) hx hb hml hown hG hw (c_X9_dated l Γ K X Rf md n (ρ) M (by (first | assumption | omega)) (by (first | assumption | omega)) (by (first | assumption | omega))) (T := TX9) hmd rfl cb_X9_dated wl_X9_266 rfl ⟨Nat.le_of_ble_eq_true rfl, Nat.le_of_ble_eq_true rfl⟩ hl.1 rfl (Nat.le_of_ble_eq_true rfl) dX9_shared_2 ⟨(by show 0 + 1 ≤ 2; omega), (by show 0 + (dnC Rf md n.toNat) ≤ (dnC Rf md n.toNat + dnC Rf md o9.toNat); omega)⟩) hw (fun r2 K2 X2 R2 H locs hp2 hw => ?_)
  obtain ⟨ρ2, ⟨hR2, hg2, hz2⟩, ⟨hkr2, hlr2, hvr2⟩, ⟨hs2, hd2⟩, hy2⟩ := hp2
  obtain ⟨hmd2, hlm2⟩ := id hR2.1
  have hf2 := hf_.trans hg2
  have h02 := fun q hq => (hz2 q hq).trans (h0_ q hq)
  have hls2 := hls_.trans hs2
  refine lv_astore_n (pc := 5) (lv' := [(3, .ref r2), (0, .ref md), (1, .int (iI n)), (2, .int (iI o9))]) hx hb dX9_shared_5 rfl hl (by decide) rfl (fun ls hl => ?_)
  refine lv_aload_n (pc := 6) hx hb dX9_shared_6 rfl (lv_at hl 1 rfl) ?_
  refine lv_iload_n (pc := 7) hx hb dX9_shared_7 rfl (lv_at hl 3 rfl) ?_
  have hdc8 := dnC_le (Rf := R2) (md := md) (n := o9.toNat)
  have hdc8b := hs2.2 o9.toNat
  refine zkR (pc := 8) (zrV (As := [.int (iI o9)]) hx hb hml hown hG hw (c_X9_dated l Γ K2 X2 R2 md o9 (ρ2) M (by (first | assumption | omega)) (by (first | assumption | omega)) (by (first | assumption | omega))) (T := TX9) hmd2 rfl cb_X9_dated wl_X9_266 rfl ⟨Nat.le_of_ble_eq_true rfl, Nat.le_of_ble_eq_true rfl⟩ hl.1 rfl (Nat.le_of_ble_eq_true rfl) dX9_shared_8 ⟨(by show 0 + 1 + 1 ≤ 2; omega), (by show 0 + (dnC Rf md n.toNat) + (dnC R2 md o9.toNat) ≤ (dnC Rf md n.toNat + dnC Rf md o9.toNat); omega)⟩) hw (fun r8 K8 X8 R8 H locs hp8 hw => ?_)
  obtain ⟨ρ8, ⟨hR8, hg8, hz8⟩, ⟨hkr8, hlr8, hvr8⟩, ⟨hs8, hd8⟩, hy8⟩ := hp8
  obtain ⟨hmd8, hlm8⟩ := id hR8.1
  have hf8 := hf2.trans hg8
  have h08 := fun q hq => (hz8 q hq).trans (h02 q hq)
  have hls8 := hls2.trans hs8
  have hkr2b : K8 r2 = (2, (datM M n.toNat).length) := by rw [(hg8 r2 (zk1 hkr2)).1]; exact hkr2
  have hX2b := hy8 r2 (zk1 hkr2) (by rw [hlr2]; omega)
  have hv2b : ∀ j, j < (datM M n.toNat).length → X8 r2 j = (datM M n.toNat).getD j 0 := fun j hj => by rw [hX2b]; exact hvr2 j hj
  refine lv_astore (pc := 11) (lv' := [(4, .ref r8), (3, .ref r2), (0, .ref md), (1, .int (iI n)), (2, .int (iI o9))]) hx hb dX9_shared_11 hl (by decide) rfl (fun ls hl => ?_)
  refine ziconst (pc := 13) (n := 0) hx hb dX9_shared_13 ?_
  refine lv_istore (pc := 14) (lv' := [(5, .int (iI 0)), (4, .ref r8), (3, .ref r2), (0, .ref md), (1, .int (iI n)), (2, .int (iI o9))]) hx hb dX9_shared_14 hl (by decide) rfl (fun ls hl => ?_)
  refine ziconst (pc := 16) (n := 0) hx hb dX9_shared_16 ?_
  refine lv_istore (pc := 17) (lv' := [(6, .int (iI 0)), (5, .int (iI 0)), (4, .ref r8), (3, .ref r2), (0, .ref md), (1, .int (iI n)), (2, .int (iI o9))]) hx hb dX9_shared_17 hl (by decide) rfl (fun ls hl => ?_)
  refine lv_aload_n (pc := 19) hx hb dX9_shared_19 rfl (lv_at hl 3 rfl) ?_
  refine lv_astore (pc := 20) (lv' := [(7, .ref r2), (6, .int (iI 0)), (5, .int (iI 0)), (4, .ref r8), (3, .ref r2), (0, .ref md), (1, .int (iI n)), (2, .int (iI o9))]) hx hb dX9_shared_20 hl (by decide) rfl (fun ls hl => ?_)
  refine lv_aload (pc := 22) hx hb dX9_shared_22 (lv_at hl 0 rfl) ?_
  refine zlen2 (pc := 24) hx hb hw hkr2b dX9_shared_24 ?_
  refine ztop (fun x25 ex25 => ?_)
  refine lv_istore (pc := 25) (lv' := [(8, .int (iI x25)), (7, .ref r2), (6, .int (iI 0)), (5, .int (iI 0)), (4, .ref r8), (3, .ref r2), (0, .ref md), (1, .int (iI n)), (2, .int (iI o9))]) hx hb dX9_shared_25 hl (by decide) rfl (fun ls hl => ?_)
  refine ziconst (pc := 27) (n := 0) hx hb dX9_shared_27 ?_
  refine lv_istore (pc := 28) (lv' := [(9, .int (iI 0)), (8, .int (iI x25)), (7, .ref r2), (6, .int (iI 0)), (5, .int (iI 0)), (4, .ref r8), (3, .ref r2), (0, .ref md), (1, .int (iI n)), (2, .int (iI o9))]) hx hb dX9_shared_28 hl (by decide) rfl (fun ls hl => ?_)
  have lp30 : ∀ (n30 : Nat) (kk : Int) (th : Int) (ct : Int) (H : Heap) (locs : List Loc), (hi : (0 ≤ kk ∧ kk ≤ (datM M n.toNat).length) ∧ (0 ≤ th ∧ th ≤ (datM M o9.toNat).length) ∧ 0 ≤ ct ∧ ct ≤ kk) → (h6 : ct + shD ((datM M n.toNat).drop kk.toNat) ((datM M o9.toNat).drop th.toNat) = shD (datM M n.toNat) (datM M o9.toNat)) → ((((datM M n.toNat).length : Int) - kk).toNat < n30) → Wd Γ (zA K s.heap.size) K8 X8 R8 s H locs → ∀ ls : Array Slot, lv_has ls 11 [(9, .int (iI kk)), (8, .int (iI x25)), (7, .ref r2), (6, .int (iI th)), (5, .int (iI ct)), (4, .ref r8), (3, .ref r2), (0, .ref md), (1, .int (iI n)), (2, .int (iI o9))] → W p l e (rmL 9 2 (dnC Rf md n.toNat + dnC Rf md o9.toNat)) s m ([.ref md, .int (iI n), .int (iI o9)] : List Value).toArray below meth c H locs (0 + 1 + 1) (0 + (dnC Rf md n.toNat) + (dnC R2 md o9.toNat)) (MQ below (zQ Γ K s.heap.size (pI (fun (r : Int) (K' : zK) (X' : zX) (R' : zR) => r = shD (datM M n.toNat) (datM M o9.toNat) ∧ (∃ ρ', repR ρ' K' X' R' md M ∧ frR ρ K X Rf ρ' K' X' R') ∧ (∀ q, q = 0 ∨ q = 36 → X' md q = X md q) ∧ lsR X Rf X' R' md ∧ dnC R' md n.toNat = 0 ∧ dnC R' md o9.toNat = 0))) ([.ref md, .int (iI n), .int (iI o9)] : List Value).toArray s 2 (dnC Rf md n.toNat + dnC Rf md o9.toNat) (zA K s.heap.size)) (F0 m 30 ls []) := by
    intro n30
    induction n30 with
    | zero => intro kk th ct H locs hi h6 hm30; exact absurd hm30 (Nat.not_lt_zero _)
    | succ n30 ih30 =>
      intro kk th ct H locs hi h6 hm30 hw ls hl
      refine lv_iload (pc := 30) hx hb dX9_shared_30 (lv_at hl 0 rfl) ?_
      refine lv_iload (pc := 32) hx hb dX9_shared_32 (lv_at hl 1 rfl) ?_
      refine zicmp_ge (pc := 34) hx hb 102 (by omega) (by omega) dX9_shared_34 (by decide) (fun c34 => ?_) (fun c34 => ?_)
      · skip
        refine lv_iload (pc := 102) hx hb dX9_shared_102 (lv_at hl 4 rfl) ?_
        exact zretI (pc := 104) hx hb hlocks hr hw (by show 0 + 1 + 1 ≤ 2; omega) (by show 0 + (dnC Rf md n.toNat) + (dnC R2 md o9.toNat) ≤ (dnC Rf md n.toNat + dnC Rf md o9.toNat); omega) dX9_shared_104 (by exact ⟨by rw [← h6, shD_e (by omega)]; omega, ⟨ρ8, hR8, hf8⟩, h08, hls8, by have := hs8.2 n.toNat; omega, hd8⟩)
      · skip
        refine lv_aload (pc := 37) hx hb dX9_shared_37 (lv_at hl 2 rfl) ?_
        refine lv_iload (pc := 39) hx hb dX9_shared_39 (lv_at hl 0 rfl) ?_
        have hk42 := hv2b kk.toNat (by omega)
        have hk43 := hdv kk.toNat (by omega)
        refine zald (pc := 41) hx hb hw hkr2b ⟨by omega, by omega⟩ (by omega) dX9_shared_41 ?_
        refine ztop (fun x42 ex42 => ?_)
        refine lv_istore (pc := 42) (lv' := [(10, .int (iI x42)), (9, .int (iI kk)), (8, .int (iI x25)), (7, .ref r2), (6, .int (iI th)), (5, .int (iI ct)), (4, .ref r8), (3, .ref r2), (0, .ref md), (1, .int (iI n)), (2, .int (iI o9))]) hx hb dX9_shared_42 hl (by decide) rfl (fun ls hl => ?_)
        have lp44 : ∀ (n44 : Nat) (tt : Int) (H : Heap) (locs : List Loc), (hj : 0 ≤ tt ∧ tt ≤ (datM M o9.toNat).length) → (hsk : skD x42 ((datM M o9.toNat).drop tt.toNat) = skD x42 ((datM M o9.toNat).drop th.toNat)) → ((((datM M o9.toNat).length : Int) - tt).toNat < n44) → Wd Γ (zA K s.heap.size) K8 X8 R8 s H locs → ∀ ls : Array Slot, lv_has ls 11 [(10, .int (iI x42)), (9, .int (iI kk)), (8, .int (iI x25)), (7, .ref r2), (6, .int (iI tt)), (5, .int (iI ct)), (4, .ref r8), (3, .ref r2), (0, .ref md), (1, .int (iI n)), (2, .int (iI o9))] → W p l e (rmL 9 2 (dnC Rf md n.toNat + dnC Rf md o9.toNat)) s m ([.ref md, .int (iI n), .int (iI o9)] : List Value).toArray below meth c H locs (0 + 1 + 1) (0 + (dnC Rf md n.toNat) + (dnC R2 md o9.toNat)) (MQ below (zQ Γ K s.heap.size (pI (fun (r : Int) (K' : zK) (X' : zX) (R' : zR) => r = shD (datM M n.toNat) (datM M o9.toNat) ∧ (∃ ρ', repR ρ' K' X' R' md M ∧ frR ρ K X Rf ρ' K' X' R') ∧ (∀ q, q = 0 ∨ q = 36 → X' md q = X md q) ∧ lsR X Rf X' R' md ∧ dnC R' md n.toNat = 0 ∧ dnC R' md o9.toNat = 0))) ([.ref md, .int (iI n), .int (iI o9)] : List Value).toArray s 2 (dnC Rf md n.toNat + dnC Rf md o9.toNat) (zA K s.heap.size)) (F0 m 44 ls []) := by
          intro n44
          induction n44 with
          | zero => intro tt H locs hj hsk hm44; exact absurd hm44 (Nat.not_lt_zero _)
          | succ n44 ih44 =>
            intro tt H locs hj hsk hm44 hw ls hl
            refine lv_iload (pc := 44) hx hb dX9_shared_44 (lv_at hl 4 rfl) ?_
            refine lv_aload (pc := 46) hx hb dX9_shared_46 (lv_at hl 6 rfl) ?_
            refine zlen2 (pc := 48) hx hb hw hkr8 dX9_shared_48 ?_
            refine zicmp_ge (pc := 49) hx hb 68 (by omega) (by omega) dX9_shared_49 (by decide) (fun c49 => ?_) (fun c49 => ?_)
            · skip
              have hde : dtL (datM M o9.toNat) tt = if (datM M o9.toNat).length ≤ tt.toNat then -1 else (datM M o9.toNat).getD tt.toNat 0 := by
                by_cases g : (datM M o9.toNat).length ≤ tt.toNat
                · rw [if_pos g, dtL_out (by omega)]
                · rw [if_neg g, dtL_in (by omega) (by omega)]
              refine lv_iload (pc := 68) hx hb dX9_shared_68 (lv_at hl 5 rfl) ?_
              refine lv_iload (pc := 70) hx hb dX9_shared_70 (lv_at hl 4 rfl) ?_
              refine lv_aload (pc := 72) hx hb dX9_shared_72 (lv_at hl 6 rfl) ?_
              refine zlen2 (pc := 74) hx hb hw hkr8 dX9_shared_74 ?_
              refine zicmp_ge (pc := 75) hx hb 92 (by omega) (by omega) dX9_shared_75 (by decide) (fun c75 => ?_) (fun c75 => ?_)
              · skip
                have hdo := dtL_out (l := (datM M o9.toNat)) (k := tt) (by omega)
                refine ziconst (pc := 92) (n := 0) hx hb dX9_shared_92 ?_
                refine zadd (pc := 93) hx hb dX9_shared_93 ?_
                refine ztop (fun x94 ex94 => ?_)
                refine lv_istore (pc := 94) (lv' := [(5, .int (iI x94)), (10, .int (iI x42)), (9, .int (iI kk)), (8, .int (iI x25)), (7, .ref r2), (6, .int (iI tt)), (4, .ref r8), (3, .ref r2), (0, .ref md), (1, .int (iI n)), (2, .int (iI o9))]) hx hb dX9_shared_94 hl (by decide) rfl (fun ls hl => ?_)
                refine ziinc (pc := 96) (lv' := [(9, .int (iI (kk + 1))), (5, .int (iI x94)), (10, .int (iI x42)), (8, .int (iI x25)), (7, .ref r2), (6, .int (iI tt)), (4, .ref r8), (3, .ref r2), (0, .ref md), (1, .int (iI n)), (2, .int (iI o9))]) hx hb 2 dX9_shared_96 hl rfl (by decide) rfl (fun ls hl => ?_)
                obtain ⟨x96, ex96⟩ : ∃ zz : Int, zz = (kk + 1) := ⟨_, rfl⟩
                rw [← ex96] at hl
                refine lv_goto (pc := 99) (tgt := 30) hx hb dX9_shared_99 (by decide) ?_
                exact ih30 x96 tt x94 _ _ (by (first | assumption | omega)) (by 
                                        rw [← h6, ex96, show (kk + 1).toNat = kk.toNat + 1 by omega, shD_s (l := (datM M n.toNat)) (o := (datM M o9.toNat)) (k := kk.toNat) (t := tt.toNat) (d := x42) (e := dtL (datM M o9.toNat) tt) (by omega) (by omega) (by omega) hde (by omega) hsk]
                                        first
                                        | (rw [if_pos (by omega)]; omega)
                                        | (rw [if_neg (by omega)]; omega)) (by omega) hw _ (lv_sub hl [0, 3, 4, 5, 1, 6, 7, 8, 9, 10] rfl)
              · skip
                have ho52 := hvr8 tt.toNat (by omega)
                have ho53 := hdvo tt.toNat (by omega)
                have hdi := dtL_in (l := (datM M o9.toNat)) (k := tt) (by omega) (by omega)
                refine lv_aload (pc := 78) hx hb dX9_shared_78 (lv_at hl 6 rfl) ?_
                refine lv_iload (pc := 80) hx hb dX9_shared_80 (lv_at hl 4 rfl) ?_
                refine zald (pc := 82) hx hb hw hkr8 ⟨by omega, by omega⟩ (by omega) dX9_shared_82 ?_
                refine lv_iload (pc := 83) hx hb dX9_shared_83 (lv_at hl 0 rfl) ?_
                refine zicmp_ne (pc := 85) hx hb 92 (by omega) (by omega) dX9_shared_85 (by decide) (fun c85 => ?_) (fun c85 => ?_)
                · skip
                  refine ziconst (pc := 92) (n := 0) hx hb dX9_shared_92 ?_
                  refine zadd (pc := 93) hx hb dX9_shared_93 ?_
                  refine ztop (fun x94 ex94 => ?_)
                  refine lv_istore (pc := 94) (lv' := [(5, .int (iI x94)), (10, .int (iI x42)), (9, .int (iI kk)), (8, .int (iI x25)), (7, .ref r2), (6, .int (iI tt)), (4, .ref r8), (3, .ref r2), (0, .ref md), (1, .int (iI n)), (2, .int (iI o9))]) hx hb dX9_shared_94 hl (by decide) rfl (fun ls hl => ?_)
                  refine ziinc (pc := 96) (lv' := [(9, .int (iI (kk + 1))), (5, .int (iI x94)), (10, .int (iI x42)), (8, .int (iI x25)), (7, .ref r2), (6, .int (iI tt)), (4, .ref r8), (3, .ref r2), (0, .ref md), (1, .int (iI n)), (2, .int (iI o9))]) hx hb 2 dX9_shared_96 hl rfl (by decide) rfl (fun ls hl => ?_)
                  obtain ⟨x96, ex96⟩ : ∃ zz : Int, zz = (kk + 1) := ⟨_, rfl⟩
                  rw [← ex96] at hl
                  refine lv_goto (pc := 99) (tgt := 30) hx hb dX9_shared_99 (by decide) ?_
                  exact ih30 x96 tt x94 _ _ (by (first | assumption | omega)) (by 
                                        rw [← h6, ex96, show (kk + 1).toNat = kk.toNat + 1 by omega, shD_s (l := (datM M n.toNat)) (o := (datM M o9.toNat)) (k := kk.toNat) (t := tt.toNat) (d := x42) (e := dtL (datM M o9.toNat) tt) (by omega) (by omega) (by omega) hde (by omega) hsk]
                                        first
                                        | (rw [if_pos (by omega)]; omega)
                                        | (rw [if_neg (by omega)]; omega)) (by omega) hw _ (lv_sub hl [0, 3, 4, 5, 1, 6, 7, 8, 9, 10] rfl)
                · skip
                  refine ziconst (pc := 88) (n := 1) hx hb dX9_shared_88 ?_
                  refine lv_goto (pc := 89) (tgt := 93) hx hb dX9_shared_89 (by decide) ?_
                  refine zadd (pc := 93) hx hb dX9_shared_93 ?_
                  refine ztop (fun x94 ex94 => ?_)
                  refine lv_istore (pc := 94) (lv' := [(5, .int (iI x94)), (10, .int (iI x42)), (9, .int (iI kk)), (8, .int (iI x25)), (7, .ref r2), (6, .int (iI tt)), (4, .ref r8), (3, .ref r2), (0, .ref md), (1, .int (iI n)), (2, .int (iI o9))]) hx hb dX9_shared_94 hl (by decide) rfl (fun ls hl => ?_)
                  refine ziinc (pc := 96) (lv' := [(9, .int (iI (kk + 1))), (5, .int (iI x94)), (10, .int (iI x42)), (8, .int (iI x25)), (7, .ref r2), (6, .int (iI tt)), (4, .ref r8), (3, .ref r2), (0, .ref md), (1, .int (iI n)), (2, .int (iI o9))]) hx hb 2 dX9_shared_96 hl rfl (by decide) rfl (fun ls hl => ?_)
                  obtain ⟨x96, ex96⟩ : ∃ zz : Int, zz = (kk + 1) := ⟨_, rfl⟩
                  rw [← ex96] at hl
                  refine lv_goto (pc := 99) (tgt := 30) hx hb dX9_shared_99 (by decide) ?_
                  exact ih30 x96 tt x94 _ _ (by (first | assumption | omega)) (by 
                                        rw [← h6, ex96, show (kk + 1).toNat = kk.toNat + 1 by omega, shD_s (l := (datM M n.toNat)) (o := (datM M o9.toNat)) (k := kk.toNat) (t := tt.toNat) (d := x42) (e := dtL (datM M o9.toNat) tt) (by omega) (by omega) (by omega) hde (by omega) hsk]
                                        first
                                        | (rw [if_pos (by omega)]; omega)
                                        | (rw [if_neg (by omega)]; omega)) (by omega) hw _ (lv_sub hl [0, 3, 4, 5, 1, 6, 7, 8, 9, 10] rfl)
            · skip
              have ho52 := hvr8 tt.toNat (by omega)
              have ho53 := hdvo tt.toNat (by omega)
              refine lv_aload (pc := 52) hx hb dX9_shared_52 (lv_at hl 6 rfl) ?_
              refine lv_iload (pc := 54) hx hb dX9_shared_54 (lv_at hl 4 rfl) ?_
              refine zald (pc := 56) hx hb hw hkr8 ⟨by omega, by omega⟩ (by omega) dX9_shared_56 ?_
              refine lv_iload (pc := 57) hx hb dX9_shared_57 (lv_at hl 0 rfl) ?_
              refine zicmp_ge (pc := 59) hx hb 68 (by omega) (by omega) dX9_shared_59 (by decide) (fun c59 => ?_) (fun c59 => ?_)
              · skip
                have hde : dtL (datM M o9.toNat) tt = if (datM M o9.toNat).length ≤ tt.toNat then -1 else (datM M o9.toNat).getD tt.toNat 0 := by
                  by_cases g : (datM M o9.toNat).length ≤ tt.toNat
                  · rw [if_pos g, dtL_out (by omega)]
                  · rw [if_neg g, dtL_in (by omega) (by omega)]
                refine lv_iload (pc := 68) hx hb dX9_shared_68 (lv_at hl 5 rfl) ?_
                refine lv_iload (pc := 70) hx hb dX9_shared_70 (lv_at hl 4 rfl) ?_
                refine lv_aload (pc := 72) hx hb dX9_shared_72 (lv_at hl 6 rfl) ?_
                refine zlen2 (pc := 74) hx hb hw hkr8 dX9_shared_74 ?_
                refine zicmp_ge (pc := 75) hx hb 92 (by omega) (by omega) dX9_shared_75 (by decide) (fun c75 => ?_) (fun c75 => ?_)
                · skip
                  have hdo := dtL_out (l := (datM M o9.toNat)) (k := tt) (by omega)
                  refine ziconst (pc := 92) (n := 0) hx hb dX9_shared_92 ?_
                  refine zadd (pc := 93) hx hb dX9_shared_93 ?_
                  refine ztop (fun x94 ex94 => ?_)
                  refine lv_istore (pc := 94) (lv' := [(5, .int (iI x94)), (10, .int (iI x42)), (9, .int (iI kk)), (8, .int (iI x25)), (7, .ref r2), (6, .int (iI tt)), (4, .ref r8), (3, .ref r2), (0, .ref md), (1, .int (iI n)), (2, .int (iI o9))]) hx hb dX9_shared_94 hl (by decide) rfl (fun ls hl => ?_)
                  refine ziinc (pc := 96) (lv' := [(9, .int (iI (kk + 1))), (5, .int (iI x94)), (10, .int (iI x42)), (8, .int (iI x25)), (7, .ref r2), (6, .int (iI tt)), (4, .ref r8), (3, .ref r2), (0, .ref md), (1, .int (iI n)), (2, .int (iI o9))]) hx hb 2 dX9_shared_96 hl rfl (by decide) rfl (fun ls hl => ?_)
                  obtain ⟨x96, ex96⟩ : ∃ zz : Int, zz = (kk + 1) := ⟨_, rfl⟩
                  rw [← ex96] at hl
                  refine lv_goto (pc := 99) (tgt := 30) hx hb dX9_shared_99 (by decide) ?_
                  exact ih30 x96 tt x94 _ _ (by (first | assumption | omega)) (by 
                                        rw [← h6, ex96, show (kk + 1).toNat = kk.toNat + 1 by omega, shD_s (l := (datM M n.toNat)) (o := (datM M o9.toNat)) (k := kk.toNat) (t := tt.toNat) (d := x42) (e := dtL (datM M o9.toNat) tt) (by omega) (by omega) (by omega) hde (by omega) hsk]
                                        first
                                        | (rw [if_pos (by omega)]; omega)
                                        | (rw [if_neg (by omega)]; omega)) (by omega) hw _ (lv_sub hl [0, 3, 4, 5, 1, 6, 7, 8, 9, 10] rfl)
                · skip
                  have ho52 := hvr8 tt.toNat (by omega)
                  have ho53 := hdvo tt.toNat (by omega)
                  have hdi := dtL_in (l := (datM M o9.toNat)) (k := tt) (by omega) (by omega)
                  refine lv_aload (pc := 78) hx hb dX9_shared_78 (lv_at hl 6 rfl) ?_
                  refine lv_iload (pc := 80) hx hb dX9_shared_80 (lv_at hl 4 rfl) ?_
                  refine zald (pc := 82) hx hb hw hkr8 ⟨by omega, by omega⟩ (by omega) dX9_shared_82 ?_
                  refine lv_iload (pc := 83) hx hb dX9_shared_83 (lv_at hl 0 rfl) ?_
                  refine zicmp_ne (pc := 85) hx hb 92 (by omega) (by omega) dX9_shared_85 (by decide) (fun c85 => ?_) (fun c85 => ?_)
                  · skip
                    refine ziconst (pc := 92) (n := 0) hx hb dX9_shared_92 ?_
                    refine zadd (pc := 93) hx hb dX9_shared_93 ?_
                    refine ztop (fun x94 ex94 => ?_)
                    refine lv_istore (pc := 94) (lv' := [(5, .int (iI x94)), (10, .int (iI x42)), (9, .int (iI kk)), (8, .int (iI x25)), (7, .ref r2), (6, .int (iI tt)), (4, .ref r8), (3, .ref r2), (0, .ref md), (1, .int (iI n)), (2, .int (iI o9))]) hx hb dX9_shared_94 hl (by decide) rfl (fun ls hl => ?_)
                    refine ziinc (pc := 96) (lv' := [(9, .int (iI (kk + 1))), (5, .int (iI x94)), (10, .int (iI x42)), (8, .int (iI x25)), (7, .ref r2), (6, .int (iI tt)), (4, .ref r8), (3, .ref r2), (0, .ref md), (1, .int (iI n)), (2, .int (iI o9))]) hx hb 2 dX9_shared_96 hl rfl (by decide) rfl (fun ls hl => ?_)
                    obtain ⟨x96, ex96⟩ : ∃ zz : Int, zz = (kk + 1) := ⟨_, rfl⟩
                    rw [← ex96] at hl
                    refine lv_goto (pc := 99) (tgt := 30) hx hb dX9_shared_99 (by decide) ?_
                    exact ih30 x96 tt x94 _ _ (by (first | assumption | omega)) (by 
                                        rw [← h6, ex96, show (kk + 1).toNat = kk.toNat + 1 by omega, shD_s (l := (datM M n.toNat)) (o := (datM M o9.toNat)) (k := kk.toNat) (t := tt.toNat) (d := x42) (e := dtL (datM M o9.toNat) tt) (by omega) (by omega) (by omega) hde (by omega) hsk]
                                        first
                                        | (rw [if_pos (by omega)]; omega)
                                        | (rw [if_neg (by omega)]; omega)) (by omega) hw _ (lv_sub hl [0, 3, 4, 5, 1, 6, 7, 8, 9, 10] rfl)
                  · skip
                    refine ziconst (pc := 88) (n := 1) hx hb dX9_shared_88 ?_
                    refine lv_goto (pc := 89) (tgt := 93) hx hb dX9_shared_89 (by decide) ?_
                    refine zadd (pc := 93) hx hb dX9_shared_93 ?_
                    refine ztop (fun x94 ex94 => ?_)
                    refine lv_istore (pc := 94) (lv' := [(5, .int (iI x94)), (10, .int (iI x42)), (9, .int (iI kk)), (8, .int (iI x25)), (7, .ref r2), (6, .int (iI tt)), (4, .ref r8), (3, .ref r2), (0, .ref md), (1, .int (iI n)), (2, .int (iI o9))]) hx hb dX9_shared_94 hl (by decide) rfl (fun ls hl => ?_)
                    refine ziinc (pc := 96) (lv' := [(9, .int (iI (kk + 1))), (5, .int (iI x94)), (10, .int (iI x42)), (8, .int (iI x25)), (7, .ref r2), (6, .int (iI tt)), (4, .ref r8), (3, .ref r2), (0, .ref md), (1, .int (iI n)), (2, .int (iI o9))]) hx hb 2 dX9_shared_96 hl rfl (by decide) rfl (fun ls hl => ?_)
                    obtain ⟨x96, ex96⟩ : ∃ zz : Int, zz = (kk + 1) := ⟨_, rfl⟩
                    rw [← ex96] at hl
                    refine lv_goto (pc := 99) (tgt := 30) hx hb dX9_shared_99 (by decide) ?_
                    exact ih30 x96 tt x94 _ _ (by (first | assumption | omega)) (by 
                                        rw [← h6, ex96, show (kk + 1).toNat = kk.toNat + 1 by omega, shD_s (l := (datM M n.toNat)) (o := (datM M o9.toNat)) (k := kk.toNat) (t := tt.toNat) (d := x42) (e := dtL (datM M o9.toNat) tt) (by omega) (by omega) (by omega) hde (by omega) hsk]
                                        first
                                        | (rw [if_pos (by omega)]; omega)
                                        | (rw [if_neg (by omega)]; omega)) (by omega) hw _ (lv_sub hl [0, 3, 4, 5, 1, 6, 7, 8, 9, 10] rfl)
              · skip
                refine ziinc (pc := 62) (lv' := [(6, .int (iI (tt + 1))), (10, .int (iI x42)), (9, .int (iI kk)), (8, .int (iI x25)), (7, .ref r2), (5, .int (iI ct)), (4, .ref r8), (3, .ref r2), (0, .ref md), (1, .int (iI n)), (2, .int (iI o9))]) hx hb 4 dX9_shared_62 hl rfl (by decide) rfl (fun ls hl => ?_)
                obtain ⟨x62, ex62⟩ : ∃ zz : Int, zz = (tt + 1) := ⟨_, rfl⟩
                rw [← ex62] at hl
                refine lv_goto (pc := 65) (tgt := 44) hx hb dX9_shared_65 (by decide) ?_
                exact ih44 x62 _ _ (by (first | assumption | omega)) (by rw [← hsk, ex62, show (tt + 1).toNat = tt.toNat + 1 by omega, ← skD_lt (by omega) (by omega)]) (by omega) hw _ (lv_sub hl [1, 2, 3, 4, 0, 5, 6, 7, 8, 9, 10] rfl)
        exact lp44 _ th _ _ (by (first | assumption | omega)) (by rfl) (Nat.lt_succ_self _) hw _ (lv_sub hl [0, 1, 2, 3, 4, 5, 6, 7, 8, 9, 10] rfl)
  exact lp30 _ 0 0 0 _ _ (by (first | assumption | omega)) (by rw [Int.zero_add]; rfl) (Nat.lt_succ_self _) hw _ (lv_sub hl [0, 1, 2, 3, 4, 5, 6, 7, 8, 9] rfl)
set_option maxHeartbeats 4000000 in
set_option maxRecDepth 100000 in
theorem c_X9_common (l : Launch) (Γ : zG) (K : zK) (X : zX) (Rf : zR) (md : Nat) (a : Int) (b9 : Int) (ρ : zL) (M : zM) (hR : repR ρ K X Rf md M) (hM : okM M) (h1 : fit a ∧ fit b9) : Ct l yX9_common cX9_common 3 (some .int) 10 2 8002 Γ [.ref md, .int (iI a), .int (iI b9)] K X Rf (pI (fun (r : Int) (K' : zK) (X' : zX) (R' : zR) => (cdSerS M a b9 = 0 → r = shD (datM M a.toNat) (datM M b9.toNat)) ∧ X' md 0 = cdSerS M a b9 ∧ (∃ ρ', repR ρ' K' X' R' md M ∧ frR ρ K X Rf ρ' K' X' R') ∧ lsR X Rf X' R' md ∧ X' md 36 = X md 36)) := by
  refine Ct.of (by decide +kernel) (Nat.le_of_ble_eq_true rfl) ?_
  intro p e s m below meth c ls hx hb hr hml hown hG hlocks hname hw hl
  have hl : lv_has ls 3 [(0, .ref md), (1, .int (iI a)), (2, .int (iI b9))] := hl
  obtain ⟨hmd, hlmd⟩ := id hR.1
  obtain ⟨⟨hb1, hb2, hb3, hb4⟩, hokP, hokL, hokS, hokW, hokF⟩ := id hM
  have hq1 : X md 1 = M 40 1 := hR.2.1 1 rfl
  have hq5 : X md 5 = M 40 5 := hR.2.1 5 rfl
  have hq16 : X md 16 = M 40 16 := hR.2.1 16 rfl
  have hq25 : X md 25 = M 40 25 := hR.2.1 25 rfl
  have hq26 : X md 26 = M 40 26 := hR.2.1 26 rfl
  have hq27 : X md 27 = M 40 27 := hR.2.1 27 rfl
  have hq28 : X md 28 = M 40 28 := hR.2.1 28 rfl
  have hq29 : X md 29 = M 40 29 := hR.2.1 29 rfl
  refine lv_aload_n (pc := 0) hx hb dX9_common_0 rfl (lv_at hl 0 rfl) ?_
  refine ziconst (pc := 1) (n := 0) hx hb dX9_common_1 ?_
  refine zputI (pc := 2) hx hb hG hown hw hmd (T := TX9) rfl 0 (by decide) rfl wf_X9_87 rfl (by decide +kernel) rfl dX9_common_2 (fun H locs hw => ?_)
  obtain ⟨X2, eX2⟩ : ∃ Y : zX, Y = up2 X md 0 0 := ⟨_, rfl⟩
  rw [← eX2] at hw
  have hz16 : X2 md 16 = M 40 16 := by rw [eX2, up2_k (by decide)]; exact hq16
  have hR2 : repR ρ K X2 Rf md M := by rw [eX2]; exact hR.own ⟨rfl, by decide⟩
  have hf2 : frR ρ K X Rf ρ K X2 Rf := by rw [eX2]; exact frR_own hR
  have h02 : ∀ q, q = 0 ∨ q = 36 → X2 md q = X2 md q := fun _ _ => rfl
  have e02 : X2 md 0 = 0 := by rw [eX2]; exact up2_s
  have e362 : X2 md 36 = X md 36 := by rw [eX2]; exact up2_k (by decide)
  have hls2 : lsR X Rf X2 Rf md := by rw [eX2]; exact lsR_own hR
  refine lv_aload_n (pc := 5) hx hb dX9_common_5 rfl (lv_at hl 0 rfl) ?_
  refine lv_iload_n (pc := 6) hx hb dX9_common_6 rfl (lv_at hl 1 rfl) ?_
  refine zkIp (pc := 7) (zrV (As := [.int (iI a)]) hx hb hml hown hG hw (c_X9_isSeries l Γ K X2 Rf md a  (by (first | assumption | omega)) (by (first | assumption | omega))) (T := TX9) hmd rfl cb_X9_isSeries wl_X9_231 rfl ⟨Nat.le_of_ble_eq_true rfl, Nat.le_of_ble_eq_true rfl⟩ hl.1 rfl (Nat.le_of_ble_eq_true rfl) dX9_common_7 ⟨Nat.zero_le _, Nat.zero_le _⟩) hw (fun r7 H locs hp7 hw => ?_)
  subst hp7
  refine zif_eq (pc := 10) hx hb 30 (by omega) dX9_common_10 (by decide) (fun c10 => ?_) (fun c10 => ?_)
  · skip
    replace c10 := it0 c10
    refine lv_aload_n (pc := 30) hx hb dX9_common_30 rfl (lv_at hl 0 rfl) ?_
    refine ziconst (pc := 31) (n := 1) hx hb dX9_common_31 ?_
    refine zkIx (pc := 32) (zrV (As := [.int (iI 1)]) hx hb hml hown hG hw (c_X9_refuse l Γ K X2 Rf md 1  (by (first | assumption | omega))) (T := TX9) hmd rfl cb_X9_refuse wl_X9_123 rfl ⟨Nat.le_of_ble_eq_true rfl, Nat.le_of_ble_eq_true rfl⟩ hl.1 rfl (Nat.le_of_ble_eq_true rfl) dX9_common_32 ⟨Nat.zero_le _, Nat.zero_le _⟩) hw (fun r32 X32 H locs hp32 hw => ?_)
    obtain ⟨hrf32, eX32⟩ := hp32
    exact zretI (pc := 35) hx hb hlocks hr hw (Nat.zero_le _) (Nat.zero_le _) dX9_common_35 (by first | (rw [eX32]; refine ⟨fun hz => by (exfalso; revert hz; (unfold cdSerS; (repeat' split) <;> omega)), by rw [up2_s]; symm; (unfold cdSerS; (repeat' split) <;> omega), ⟨ρ, hR2.own ⟨rfl, by decide⟩, hf2.trans (frR_own hR2)⟩, hls2.trans (lsR_own hR2), by rw [up2_k (by decide), h02 36 (Or.inr rfl)]; exact e362⟩) | exact ⟨fun _ => by exact hv24, by rw [h024 0 (Or.inl rfl), e02]; symm; (unfold cdSerS; (repeat' split) <;> omega), ⟨ρ24, hR24, hf24⟩, hls24, by rw [h024 36 (Or.inr rfl)]; exact e362⟩)
  · skip
    replace c10 := it1 c10
    refine lv_aload_n (pc := 13) hx hb dX9_common_13 rfl (lv_at hl 0 rfl) ?_
    refine lv_iload_n (pc := 14) hx hb dX9_common_14 rfl (lv_at hl 2 rfl) ?_
    refine zkIp (pc := 15) (zrV (As := [.int (iI b9)]) hx hb hml hown hG hw (c_X9_isSeries l Γ K X2 Rf md b9  (by (first | assumption | omega)) (by (first | assumption | omega))) (T := TX9) hmd rfl cb_X9_isSeries wl_X9_231 rfl ⟨Nat.le_of_ble_eq_true rfl, Nat.le_of_ble_eq_true rfl⟩ hl.1 rfl (Nat.le_of_ble_eq_true rfl) dX9_common_15 ⟨Nat.zero_le _, Nat.zero_le _⟩) hw (fun r15 H locs hp15 hw => ?_)
    subst hp15
    refine zif_eq (pc := 18) hx hb 30 (by omega) dX9_common_18 (by decide) (fun c18 => ?_) (fun c18 => ?_)
    · skip
      replace c18 := it0 c18
      refine lv_aload_n (pc := 30) hx hb dX9_common_30 rfl (lv_at hl 0 rfl) ?_
      refine ziconst (pc := 31) (n := 1) hx hb dX9_common_31 ?_
      refine zkIx (pc := 32) (zrV (As := [.int (iI 1)]) hx hb hml hown hG hw (c_X9_refuse l Γ K X2 Rf md 1  (by (first | assumption | omega))) (T := TX9) hmd rfl cb_X9_refuse wl_X9_123 rfl ⟨Nat.le_of_ble_eq_true rfl, Nat.le_of_ble_eq_true rfl⟩ hl.1 rfl (Nat.le_of_ble_eq_true rfl) dX9_common_32 ⟨Nat.zero_le _, Nat.zero_le _⟩) hw (fun r32 X32 H locs hp32 hw => ?_)
      obtain ⟨hrf32, eX32⟩ := hp32
      exact zretI (pc := 35) hx hb hlocks hr hw (Nat.zero_le _) (Nat.zero_le _) dX9_common_35 (by first | (rw [eX32]; refine ⟨fun hz => by (exfalso; revert hz; (unfold cdSerS; (repeat' split) <;> omega)), by rw [up2_s]; symm; (unfold cdSerS; (repeat' split) <;> omega), ⟨ρ, hR2.own ⟨rfl, by decide⟩, hf2.trans (frR_own hR2)⟩, hls2.trans (lsR_own hR2), by rw [up2_k (by decide), h02 36 (Or.inr rfl)]; exact e362⟩) | exact ⟨fun _ => by exact hv24, by rw [h024 0 (Or.inl rfl), e02]; symm; (unfold cdSerS; (repeat' split) <;> omega), ⟨ρ24, hR24, hf24⟩, hls24, by rw [h024 36 (Or.inr rfl)]; exact e362⟩)
    · skip
      replace c18 := it1 c18
      refine lv_aload_n (pc := 21) hx hb dX9_common_21 rfl (lv_at hl 0 rfl) ?_
      refine lv_iload_n (pc := 22) hx hb dX9_common_22 rfl (lv_at hl 1 rfl) ?_
      refine lv_iload_n (pc := 23) hx hb dX9_common_23 rfl (lv_at hl 2 rfl) ?_
      have hdc1 := dnC_le (Rf := Rf) (md := md) (n := a.toNat)
      have hdc2 := dnC_le (Rf := Rf) (md := md) (n := b9.toNat)
      refine zkI (pc := 24) (zrV (As := [.int (iI a), .int (iI b9)]) hx hb hml hown hG hw (c_X9_shared l Γ K X2 Rf md a b9 (ρ) M (by (first | assumption | omega)) (by (first | assumption | omega)) (by (first | assumption | omega)) (by (first | assumption | omega))) (T := TX9) hmd rfl cb_X9_shared wl_X9_275 rfl ⟨Nat.le_of_ble_eq_true rfl, Nat.le_of_ble_eq_true rfl⟩ hl.1 rfl (Nat.le_of_ble_eq_true rfl) dX9_common_24 ⟨(by show 0 + 2 ≤ 2; omega), (by show 0 + (dnC Rf md a.toNat + dnC Rf md b9.toNat) ≤ 8002; omega)⟩) hw (fun r24 K24 X24 R24 H locs hp24 hw => ?_)
      obtain ⟨hv24, ⟨ρ24, hR24, hg24⟩, hz24, hs24, hd24a, hd24b⟩ := hp24
      obtain ⟨hmd24, hlm24⟩ := id hR24.1
      have hf24 := hf2.trans hg24
      have h024 := fun q hq => (hz24 q hq).trans (h02 q hq)
      have hls24 := hls2.trans hs24
      refine lv_goto (pc := 27) (tgt := 35) hx hb dX9_common_27 (by decide) ?_
      exact zretI (pc := 35) hx hb hlocks hr hw (by show 0 + 2 ≤ 2; omega) (by show 0 + (dnC Rf md a.toNat + dnC Rf md b9.toNat) ≤ 8002; omega) dX9_common_35 (by first | (rw [eX24]; refine ⟨fun hz => by (exfalso; revert hz; (unfold cdSerS; (repeat' split) <;> omega)), by rw [up2_s]; symm; (unfold cdSerS; (repeat' split) <;> omega), ⟨ρ, hR2.own ⟨rfl, by decide⟩, hf2.trans (frR_own hR2)⟩, hls2.trans (lsR_own hR2), by rw [up2_k (by decide), h02 36 (Or.inr rfl)]; exact e362⟩) | exact ⟨fun _ => by exact hv24, by rw [h024 0 (Or.inl rfl), e02]; symm; (unfold cdSerS; (repeat' split) <;> omega), ⟨ρ24, hR24, hf24⟩, hls24, by rw [h024 36 (Or.inr rfl)]; exact e362⟩)
set_option maxHeartbeats 4000000 in
set_option maxRecDepth 100000 in
theorem c_X9_widest (l : Launch) (Γ : zG) (K : zK) (X : zX) (Rf : zR) (md : Nat) (n : Int) (ρ : zL) (M : zM) (hR : repR ρ K X Rf md M) (hM : okM M) (h1 : 0 ≤ n ∧ n < M 40 16) : Ct l yX9_widest cX9_widest 5 (some .int) 9 1 (dnC Rf md n.toNat) Γ [.ref md, .int (iI n)] K X Rf (pI (fun (r : Int) (K' : zK) (X' : zX) (R' : zR) => r = wdD (datM M n.toNat) ∧ (∃ ρ', repR ρ' K' X' R' md M ∧ frR ρ K X Rf ρ' K' X' R') ∧ (∀ q, q = 0 ∨ q = 36 → X' md q = X md q) ∧ lsR X Rf X' R' md ∧ dnC R' md n.toNat = 0)) := by
  refine Ct.of (by decide +kernel) (Nat.le_of_ble_eq_true rfl) ?_
  intro p e s m below meth c ls hx hb hr hml hown hG hlocks hname hw hl
  have hl : lv_has ls 5 [(0, .ref md), (1, .int (iI n))] := hl
  obtain ⟨hmd, hlmd⟩ := id hR.1
  obtain ⟨⟨hb1, hb2, hb3, hb4⟩, hokP, hokL, hokS, hokW, hokF⟩ := id hM
  have hq1 : X md 1 = M 40 1 := hR.2.1 1 rfl
  have hq5 : X md 5 = M 40 5 := hR.2.1 5 rfl
  have hq16 : X md 16 = M 40 16 := hR.2.1 16 rfl
  have hq25 : X md 25 = M 40 25 := hR.2.1 25 rfl
  have hq26 : X md 26 = M 40 26 := hR.2.1 26 rfl
  have hq27 : X md 27 = M 40 27 := hR.2.1 27 rfl
  have hq28 : X md 28 = M 40 28 := hR.2.1 28 rfl
  have hq29 : X md 29 = M 40 29 := hR.2.1 29 rfl
  have hf_ := frR_refl (ρ := ρ) (K := K) (X := X) (Rf := Rf)
  have h0_ : ∀ q, q = 0 ∨ q = 36 → X md q = X md q := fun _ _ => rfl
  have hls_ := lsR_refl (X := X) (Rf := Rf) (md := md)
  have hdl : (((datM M n.toNat)).length : Int) ≤ 4001 := dtS_len (Up := useM M n.toNat) (Ex := excM M n.toNat) (hokS n.toNat (by omega)).1
  have hdv : ∀ k, k < ((datM M n.toNat)).length → 0 ≤ (datM M n.toNat).getD k 0 ∧ (datM M n.toNat).getD k 0 ≤ 73048 := fun k hk => dtS_get (Up := useM M n.toNat) (Ex := excM M n.toNat) (hokS n.toNat (by omega)).1 k hk
  refine lv_aload_n (pc := 0) hx hb dX9_widest_0 rfl (lv_at hl 0 rfl) ?_
  refine lv_iload_n (pc := 1) hx hb dX9_widest_1 rfl (lv_at hl 1 rfl) ?_
  have hdc2 := dnC_le (Rf := Rf) (md := md) (n := n.toNat)
  refine zkR (pc := 2) (zrV (As := [.int (iI n)]) hx hb hml hown hG hw (c_X9_dated l Γ K X Rf md n (ρ) M (by (first | assumption | omega)) (by (first | assumption | omega)) (by (first | assumption | omega))) (T := TX9) hmd rfl cb_X9_dated wl_X9_266 rfl ⟨Nat.le_of_ble_eq_true rfl, Nat.le_of_ble_eq_true rfl⟩ hl.1 rfl (Nat.le_of_ble_eq_true rfl) dX9_widest_2 ⟨(by show 0 + 1 ≤ 1; omega), (by show 0 + (dnC Rf md n.toNat) ≤ (dnC Rf md n.toNat); omega)⟩) hw (fun r2 K2 X2 R2 H locs hp2 hw => ?_)
  obtain ⟨ρ2, ⟨hR2, hg2, hz2⟩, ⟨hkr2, hlr2, hvr2⟩, ⟨hs2, hd2⟩, hy2⟩ := hp2
  obtain ⟨hmd2, hlm2⟩ := id hR2.1
  have hf2 := hf_.trans hg2
  have h02 := fun q hq => (hz2 q hq).trans (h0_ q hq)
  have hls2 := hls_.trans hs2
  refine lv_astore_n (pc := 5) (lv' := [(2, .ref r2), (0, .ref md), (1, .int (iI n))]) hx hb dX9_widest_5 rfl hl (by decide) rfl (fun ls hl => ?_)
  refine ziconst (pc := 6) (n := 0) hx hb dX9_widest_6 ?_
  refine lv_istore_n (pc := 7) (lv' := [(3, .int (iI 0)), (2, .ref r2), (0, .ref md), (1, .int (iI n))]) hx hb dX9_widest_7 rfl hl (by decide) rfl (fun ls hl => ?_)
  refine ziconst (pc := 8) (n := 1) hx hb dX9_widest_8 ?_
  refine lv_istore (pc := 9) (lv' := [(4, .int (iI 1)), (3, .int (iI 0)), (2, .ref r2), (0, .ref md), (1, .int (iI n))]) hx hb dX9_widest_9 hl (by decide) rfl (fun ls hl => ?_)
  have lp11 : ∀ (n11 : Nat) (kk : Int) (gr : Int) (H : Heap) (locs : List Loc), (hi : 1 ≤ kk ∧ kk ≤ 4002) → (hg : 0 ≤ gr ∧ gr ≤ 73048) → (h6 : max gr (wdA ((datM M n.toNat).getD (kk - 1).toNat 0) ((datM M n.toNat).drop kk.toNat)) = wdD (datM M n.toNat)) → ((((datM M n.toNat).length : Int) - kk).toNat < n11) → Wd Γ (zA K s.heap.size) K2 X2 R2 s H locs → ∀ ls : Array Slot, lv_has ls 5 [(4, .int (iI kk)), (3, .int (iI gr)), (2, .ref r2), (0, .ref md), (1, .int (iI n))] → W p l e (rmL 9 1 (dnC Rf md n.toNat)) s m ([.ref md, .int (iI n)] : List Value).toArray below meth c H locs (0 + 1) (0 + (dnC Rf md n.toNat)) (MQ below (zQ Γ K s.heap.size (pI (fun (r : Int) (K' : zK) (X' : zX) (R' : zR) => r = wdD (datM M n.toNat) ∧ (∃ ρ', repR ρ' K' X' R' md M ∧ frR ρ K X Rf ρ' K' X' R') ∧ (∀ q, q = 0 ∨ q = 36 → X' md q = X md q) ∧ lsR X Rf X' R' md ∧ dnC R' md n.toNat = 0))) ([.ref md, .int (iI n)] : List Value).toArray s 1 (dnC Rf md n.toNat) (zA K s.heap.size)) (F0 m 11 ls []) := by
    intro n11
    induction n11 with
    | zero => intro kk gr H locs hi hg h6 hm11; exact absurd hm11 (Nat.not_lt_zero _)
    | succ n11 ih11 =>
      intro kk gr H locs hi hg h6 hm11 hw ls hl
      refine lv_iload (pc := 11) hx hb dX9_widest_11 (lv_at hl 0 rfl) ?_
      refine lv_aload_n (pc := 13) hx hb dX9_widest_13 rfl (lv_at hl 2 rfl) ?_
      refine zlen2 (pc := 14) hx hb hw hkr2 dX9_widest_14 ?_
      refine zicmp_ge (pc := 15) hx hb 40 (by omega) (by omega) dX9_widest_15 (by decide) (fun c15 => ?_) (fun c15 => ?_)
      · skip
        refine lv_iload_n (pc := 40) hx hb dX9_widest_40 rfl (lv_at hl 1 rfl) ?_
        exact zretI (pc := 41) hx hb hlocks hr hw (by show 0 + 1 ≤ 1; omega) (by show 0 + (dnC Rf md n.toNat) ≤ (dnC Rf md n.toNat); omega) dX9_widest_41 (by exact ⟨by rw [← h6, wdA_e (by omega)]; omega, ⟨ρ2, hR2, hf2⟩, h02, hls2, hd2⟩)
      · skip
        have hk1 := hvr2 kk.toNat (by omega)
        have hk2 := hdv kk.toNat (by omega)
        have hk3 := hvr2 (kk - 1).toNat (by omega)
        have hk4 := hdv (kk - 1).toNat (by omega)
        refine lv_iload_n (pc := 18) hx hb dX9_widest_18 rfl (lv_at hl 1 rfl) ?_
        refine lv_aload_n (pc := 19) hx hb dX9_widest_19 rfl (lv_at hl 2 rfl) ?_
        refine lv_iload (pc := 20) hx hb dX9_widest_20 (lv_at hl 0 rfl) ?_
        refine zald (pc := 22) hx hb hw hkr2 ⟨by omega, by omega⟩ (by omega) dX9_widest_22 ?_
        refine lv_aload_n (pc := 23) hx hb dX9_widest_23 rfl (lv_at hl 2 rfl) ?_
        refine lv_iload (pc := 24) hx hb dX9_widest_24 (lv_at hl 0 rfl) ?_
        refine ziconst (pc := 26) (n := 1) hx hb dX9_widest_26 ?_
        refine zsub (pc := 27) hx hb dX9_widest_27 ?_
        refine zald (pc := 28) hx hb hw hkr2 ⟨by omega, by omega⟩ (by omega) dX9_widest_28 ?_
        refine zsub (pc := 29) hx hb dX9_widest_29 ?_
        refine zmax (pc := 30) hx hb (hml.trans hl.1.symm) hown hG wl_X9_182 w1_zmx wi_javalangMath w2_zmx (Nat.le_of_ble_eq_true rfl) (Nat.le_of_ble_eq_true rfl) (by show 0 + 1 ≤ 1; omega) (by show 0 + (dnC Rf md n.toNat) ≤ (dnC Rf md n.toNat); omega) ⟨by omega, by omega⟩ dX9_widest_30 ?_
        refine ztop (fun x33 ex33 => ?_)
        refine lv_istore_n (pc := 33) (lv' := [(3, .int (iI x33)), (4, .int (iI kk)), (2, .ref r2), (0, .ref md), (1, .int (iI n))]) hx hb dX9_widest_33 rfl hl (by decide) rfl (fun ls hl => ?_)
        refine ziinc (pc := 34) (lv' := [(4, .int (iI (kk + 1))), (3, .int (iI x33)), (2, .ref r2), (0, .ref md), (1, .int (iI n))]) hx hb 1 dX9_widest_34 hl rfl (by decide) rfl (fun ls hl => ?_)
        obtain ⟨x34, ex34⟩ : ∃ zz : Int, zz = (kk + 1) := ⟨_, rfl⟩
        rw [← ex34] at hl
        refine lv_goto (pc := 37) (tgt := 11) hx hb dX9_widest_37 (by decide) ?_
        exact ih11 x34 x33 _ _ (by (first | assumption | omega)) (by (first | assumption | omega)) (by rw [← h6, ex34, show (kk + 1 - 1).toNat = kk.toNat by omega, show (kk + 1).toNat = kk.toNat + 1 by omega, wdA_s (k := kk.toNat) (by omega) ((datM M n.toNat).getD (kk - 1).toNat 0)]; omega) (by omega) hw _ (lv_sub hl [0, 1, 2, 3, 4] rfl)
  exact lp11 _ 1 0 _ _ (by (first | assumption | omega)) (by (first | assumption | omega)) (by exact wdD_start (datM M n.toNat)) (Nat.lt_succ_self _) hw _ (lv_sub hl [0, 1, 2, 3, 4] rfl)
set_option maxHeartbeats 4000000 in
set_option maxRecDepth 100000 in
theorem c_X9_widestGap (l : Launch) (Γ : zG) (K : zK) (X : zX) (Rf : zR) (md : Nat) (a : Int) (ρ : zL) (M : zM) (hR : repR ρ K X Rf md M) (hM : okM M) (h1 : fit a) : Ct l yX9_widestGap cX9_widestGap 2 (some .int) 10 1 4001 Γ [.ref md, .int (iI a)] K X Rf (pI (fun (r : Int) (K' : zK) (X' : zX) (R' : zR) => (cdSer M a = 0 → r = wdD (datM M a.toNat)) ∧ X' md 0 = cdSer M a ∧ (∃ ρ', repR ρ' K' X' R' md M ∧ frR ρ K X Rf ρ' K' X' R') ∧ lsR X Rf X' R' md ∧ X' md 36 = X md 36)) := by
  refine Ct.of (by decide +kernel) (Nat.le_of_ble_eq_true rfl) ?_
  intro p e s m below meth c ls hx hb hr hml hown hG hlocks hname hw hl
  have hl : lv_has ls 2 [(0, .ref md), (1, .int (iI a))] := hl
  obtain ⟨hmd, hlmd⟩ := id hR.1
  obtain ⟨⟨hb1, hb2, hb3, hb4⟩, hokP, hokL, hokS, hokW, hokF⟩ := id hM
  have hq1 : X md 1 = M 40 1 := hR.2.1 1 rfl
  have hq5 : X md 5 = M 40 5 := hR.2.1 5 rfl
  have hq16 : X md 16 = M 40 16 := hR.2.1 16 rfl
  have hq25 : X md 25 = M 40 25 := hR.2.1 25 rfl
  have hq26 : X md 26 = M 40 26 := hR.2.1 26 rfl
  have hq27 : X md 27 = M 40 27 := hR.2.1 27 rfl
  have hq28 : X md 28 = M 40 28 := hR.2.1 28 rfl
  have hq29 : X md 29 = M 40 29 := hR.2.1 29 rfl
  refine lv_aload_n (pc := 0) hx hb dX9_widestGap_0 rfl (lv_at hl 0 rfl) ?_
  refine ziconst (pc := 1) (n := 0) hx hb dX9_widestGap_1 ?_
  refine zputI (pc := 2) hx hb hG hown hw hmd (T := TX9) rfl 0 (by decide) rfl wf_X9_87 rfl (by decide +kernel) rfl dX9_widestGap_2 (fun H locs hw => ?_)
  obtain ⟨X2, eX2⟩ : ∃ Y : zX, Y = up2 X md 0 0 := ⟨_, rfl⟩
  rw [← eX2] at hw
  have hz16 : X2 md 16 = M 40 16 := by rw [eX2, up2_k (by decide)]; exact hq16
  have hR2 : repR ρ K X2 Rf md M := by rw [eX2]; exact hR.own ⟨rfl, by decide⟩
  have hf2 : frR ρ K X Rf ρ K X2 Rf := by rw [eX2]; exact frR_own hR
  have h02 : ∀ q, q = 0 ∨ q = 36 → X2 md q = X2 md q := fun _ _ => rfl
  have e02 : X2 md 0 = 0 := by rw [eX2]; exact up2_s
  have e362 : X2 md 36 = X md 36 := by rw [eX2]; exact up2_k (by decide)
  have hls2 : lsR X Rf X2 Rf md := by rw [eX2]; exact lsR_own hR
  refine lv_aload_n (pc := 5) hx hb dX9_widestGap_5 rfl (lv_at hl 0 rfl) ?_
  refine lv_iload_n (pc := 6) hx hb dX9_widestGap_6 rfl (lv_at hl 1 rfl) ?_
  refine zkIp (pc := 7) (zrV (As := [.int (iI a)]) hx hb hml hown hG hw (c_X9_isSeries l Γ K X2 Rf md a  (by (first | assumption | omega)) (by (first | assumption | omega))) (T := TX9) hmd rfl cb_X9_isSeries wl_X9_231 rfl ⟨Nat.le_of_ble_eq_true rfl, Nat.le_of_ble_eq_true rfl⟩ hl.1 rfl (Nat.le_of_ble_eq_true rfl) dX9_widestGap_7 ⟨Nat.zero_le _, Nat.zero_le _⟩) hw (fun r7 H locs hp7 hw => ?_)
  subst hp7
  refine zif_eq (pc := 10) hx hb 21 (by omega) dX9_widestGap_10 (by decide) (fun c10 => ?_) (fun c10 => ?_)
  · skip
    replace c10 := it0 c10
    refine lv_aload_n (pc := 21) hx hb dX9_widestGap_21 rfl (lv_at hl 0 rfl) ?_
    refine ziconst (pc := 22) (n := 1) hx hb dX9_widestGap_22 ?_
    refine zkIx (pc := 23) (zrV (As := [.int (iI 1)]) hx hb hml hown hG hw (c_X9_refuse l Γ K X2 Rf md 1  (by (first | assumption | omega))) (T := TX9) hmd rfl cb_X9_refuse wl_X9_123 rfl ⟨Nat.le_of_ble_eq_true rfl, Nat.le_of_ble_eq_true rfl⟩ hl.1 rfl (Nat.le_of_ble_eq_true rfl) dX9_widestGap_23 ⟨Nat.zero_le _, Nat.zero_le _⟩) hw (fun r23 X23 H locs hp23 hw => ?_)
    obtain ⟨hrf23, eX23⟩ := hp23
    exact zretI (pc := 26) hx hb hlocks hr hw (Nat.zero_le _) (Nat.zero_le _) dX9_widestGap_26 (by first | (rw [eX23]; refine ⟨fun hz => by (exfalso; revert hz; (unfold cdSer; (repeat' split) <;> omega)), by rw [up2_s]; symm; (unfold cdSer; (repeat' split) <;> omega), ⟨ρ, hR2.own ⟨rfl, by decide⟩, hf2.trans (frR_own hR2)⟩, hls2.trans (lsR_own hR2), by rw [up2_k (by decide), h02 36 (Or.inr rfl)]; exact e362⟩) | exact ⟨fun _ => by exact hv15, by rw [h015 0 (Or.inl rfl), e02]; symm; (unfold cdSer; (repeat' split) <;> omega), ⟨ρ15, hR15, hf15⟩, hls15, by rw [h015 36 (Or.inr rfl)]; exact e362⟩)
  · skip
    replace c10 := it1 c10
    refine lv_aload_n (pc := 13) hx hb dX9_widestGap_13 rfl (lv_at hl 0 rfl) ?_
    refine lv_iload_n (pc := 14) hx hb dX9_widestGap_14 rfl (lv_at hl 1 rfl) ?_
    have hdc1 := dnC_le (Rf := Rf) (md := md) (n := a.toNat)
    refine zkI (pc := 15) (zrV (As := [.int (iI a)]) hx hb hml hown hG hw (c_X9_widest l Γ K X2 Rf md a (ρ) M (by (first | assumption | omega)) (by (first | assumption | omega)) (by (first | assumption | omega))) (T := TX9) hmd rfl cb_X9_widest wl_X9_278 rfl ⟨Nat.le_of_ble_eq_true rfl, Nat.le_of_ble_eq_true rfl⟩ hl.1 rfl (Nat.le_of_ble_eq_true rfl) dX9_widestGap_15 ⟨(by show 0 + 1 ≤ 1; omega), (by show 0 + (dnC Rf md a.toNat) ≤ 4001; omega)⟩) hw (fun r15 K15 X15 R15 H locs hp15 hw => ?_)
    obtain ⟨hv15, ⟨ρ15, hR15, hg15⟩, hz15, hs15, hd15⟩ := hp15
    obtain ⟨hmd15, hlm15⟩ := id hR15.1
    have hf15 := hf2.trans hg15
    have h015 := fun q hq => (hz15 q hq).trans (h02 q hq)
    have hls15 := hls2.trans hs15
    refine lv_goto (pc := 18) (tgt := 26) hx hb dX9_widestGap_18 (by decide) ?_
    exact zretI (pc := 26) hx hb hlocks hr hw (by show 0 + 1 ≤ 1; omega) (by show 0 + (dnC Rf md a.toNat) ≤ 4001; omega) dX9_widestGap_26 (by first | (rw [eX15]; refine ⟨fun hz => by (exfalso; revert hz; (unfold cdSer; (repeat' split) <;> omega)), by rw [up2_s]; symm; (unfold cdSer; (repeat' split) <;> omega), ⟨ρ, hR2.own ⟨rfl, by decide⟩, hf2.trans (frR_own hR2)⟩, hls2.trans (lsR_own hR2), by rw [up2_k (by decide), h02 36 (Or.inr rfl)]; exact e362⟩) | exact ⟨fun _ => by exact hv15, by rw [h015 0 (Or.inl rfl), e02]; symm; (unfold cdSer; (repeat' split) <;> omega), ⟨ρ15, hR15, hf15⟩, hls15, by rw [h015 36 (Or.inr rfl)]; exact e362⟩)
set_option maxHeartbeats 4000000 in
set_option maxRecDepth 100000 in
theorem c_X9_meanGap (l : Launch) (Γ : zG) (K : zK) (X : zX) (Rf : zR) (md : Nat) (a : Int) (ρ : zL) (M : zM) (hR : repR ρ K X Rf md M) (hM : okM M) (h1 : fit a) : Ct l yX9_meanGap cX9_meanGap 4 (some .double) 9 1 4001 Γ [.ref md, .int (iI a)] K X Rf (pD (fun (r : Int) (K' : zK) (X' : zX) (R' : zR) => (cdSer M a = 0 → r = mgL (datM M a.toNat)) ∧ X' md 0 = cdSer M a ∧ (∃ ρ', repR ρ' K' X' R' md M ∧ frR ρ K X Rf ρ' K' X' R') ∧ lsR X Rf X' R' md ∧ X' md 36 = X md 36)) := by
  refine Ct.of (by decide +kernel) (Nat.le_of_ble_eq_true rfl) ?_
  intro p e s m below meth c ls hx hb hr hml hown hG hlocks hname hw hl
  have hl : lv_has ls 4 [(0, .ref md), (1, .int (iI a))] := hl
  obtain ⟨hmd, hlmd⟩ := id hR.1
  obtain ⟨⟨hb1, hb2, hb3, hb4⟩, hokP, hokL, hokS, hokW, hokF⟩ := id hM
  have hq1 : X md 1 = M 40 1 := hR.2.1 1 rfl
  have hq5 : X md 5 = M 40 5 := hR.2.1 5 rfl
  have hq16 : X md 16 = M 40 16 := hR.2.1 16 rfl
  have hq25 : X md 25 = M 40 25 := hR.2.1 25 rfl
  have hq26 : X md 26 = M 40 26 := hR.2.1 26 rfl
  have hq27 : X md 27 = M 40 27 := hR.2.1 27 rfl
  have hq28 : X md 28 = M 40 28 := hR.2.1 28 rfl
  have hq29 : X md 29 = M 40 29 := hR.2.1 29 rfl
  refine lv_aload_n (pc := 0) hx hb dX9_meanGap_0 rfl (lv_at hl 0 rfl) ?_
  refine ziconst (pc := 1) (n := 0) hx hb dX9_meanGap_1 ?_
  refine zputI (pc := 2) hx hb hG hown hw hmd (T := TX9) rfl 0 (by decide) rfl wf_X9_87 rfl (by decide +kernel) rfl dX9_meanGap_2 (fun H locs hw => ?_)
  obtain ⟨X2, eX2⟩ : ∃ Y : zX, Y = up2 X md 0 0 := ⟨_, rfl⟩
  rw [← eX2] at hw
  have hz16 : X2 md 16 = M 40 16 := by rw [eX2, up2_k (by decide)]; exact hq16
  have hR2 : repR ρ K X2 Rf md M := by rw [eX2]; exact hR.own ⟨rfl, by decide⟩
  have hf2 : frR ρ K X Rf ρ K X2 Rf := by rw [eX2]; exact frR_own hR
  have h02 : ∀ q, q = 0 ∨ q = 36 → X2 md q = X2 md q := fun _ _ => rfl
  have e02 : X2 md 0 = 0 := by rw [eX2]; exact up2_s
  have e362 : X2 md 36 = X md 36 := by rw [eX2]; exact up2_k (by decide)
  have hls2 : lsR X Rf X2 Rf md := by rw [eX2]; exact lsR_own hR
  refine lv_aload_n (pc := 5) hx hb dX9_meanGap_5 rfl (lv_at hl 0 rfl) ?_
  refine lv_iload_n (pc := 6) hx hb dX9_meanGap_6 rfl (lv_at hl 1 rfl) ?_
  refine zkIp (pc := 7) (zrV (As := [.int (iI a)]) hx hb hml hown hG hw (c_X9_isSeries l Γ K X2 Rf md a  (by (first | assumption | omega)) (by (first | assumption | omega))) (T := TX9) hmd rfl cb_X9_isSeries wl_X9_231 rfl ⟨Nat.le_of_ble_eq_true rfl, Nat.le_of_ble_eq_true rfl⟩ hl.1 rfl (Nat.le_of_ble_eq_true rfl) dX9_meanGap_7 ⟨Nat.zero_le _, Nat.zero_le _⟩) hw (fun r7 H locs hp7 hw => ?_)
  subst hp7
  refine zif_ne (pc := 10) hx hb 20 (by omega) dX9_meanGap_10 (by decide) (fun c10 => ?_) (fun c10 => ?_)
  · skip
    replace c10 := it1 c10
    have hdl : (((datM M a.toNat)).length : Int) ≤ 4001 := dtS_len (Up := useM M a.toNat) (Ex := excM M a.toNat) (hokS a.toNat (by omega)).1
    have hdv : ∀ k, k < ((datM M a.toNat)).length → 0 ≤ (datM M a.toNat).getD k 0 ∧ (datM M a.toNat).getD k 0 ≤ 73048 := fun k hk => dtS_get (Up := useM M a.toNat) (Ex := excM M a.toNat) (hokS a.toNat (by omega)).1 k hk
    refine lv_aload_n (pc := 20) hx hb dX9_meanGap_20 rfl (lv_at hl 0 rfl) ?_
    refine lv_iload_n (pc := 21) hx hb dX9_meanGap_21 rfl (lv_at hl 1 rfl) ?_
    have hdc22 := dnC_le (Rf := Rf) (md := md) (n := a.toNat)
    refine zkR (pc := 22) (zrV (As := [.int (iI a)]) hx hb hml hown hG hw (c_X9_dated l Γ K X2 Rf md a (ρ) M (by (first | assumption | omega)) (by (first | assumption | omega)) (by (first | assumption | omega))) (T := TX9) hmd rfl cb_X9_dated wl_X9_266 rfl ⟨Nat.le_of_ble_eq_true rfl, Nat.le_of_ble_eq_true rfl⟩ hl.1 rfl (Nat.le_of_ble_eq_true rfl) dX9_meanGap_22 ⟨(by show 0 + 1 ≤ 1; omega), (by show 0 + (dnC Rf md a.toNat) ≤ 4001; omega)⟩) hw (fun r22 K22 X22 R22 H locs hp22 hw => ?_)
    obtain ⟨ρ22, ⟨hR22, hg22, hz22⟩, ⟨hkr22, hlr22, hvr22⟩, ⟨hs22, hd22⟩, hy22⟩ := hp22
    obtain ⟨hmd22, hlm22⟩ := id hR22.1
    have hf22 := hf2.trans hg22
    have h022 := fun q hq => (hz22 q hq).trans (h02 q hq)
    have hls22 := hls2.trans hs22
    refine lv_astore_n (pc := 25) (lv' := [(2, .ref r22), (0, .ref md), (1, .int (iI a))]) hx hb dX9_meanGap_25 rfl hl (by decide) rfl (fun ls hl => ?_)
    refine lv_aload_n (pc := 26) hx hb dX9_meanGap_26 rfl (lv_at hl 0 rfl) ?_
    refine zlen2 (pc := 27) hx hb hw hkr22 dX9_meanGap_27 ?_
    refine ziconst (pc := 28) (n := 1) hx hb dX9_meanGap_28 ?_
    refine zsub (pc := 29) hx hb dX9_meanGap_29 ?_
    refine ztop (fun x30 ex30 => ?_)
    refine lv_istore_n (pc := 30) (lv' := [(3, .int (iI x30)), (2, .ref r22), (0, .ref md), (1, .int (iI a))]) hx hb dX9_meanGap_30 rfl hl (by decide) rfl (fun ls hl => ?_)
    refine lv_iload_n (pc := 31) hx hb dX9_meanGap_31 rfl (lv_at hl 0 rfl) ?_
    refine ziconst (pc := 32) (n := 1) hx hb dX9_meanGap_32 ?_
    refine zicmp_ge (pc := 33) hx hb 40 (by omega) (by omega) dX9_meanGap_33 (by decide) (fun c33 => ?_) (fun c33 => ?_)
    · skip
      have hk1 := hvr22 x30.toNat (by omega)
      have hk2 := hdv x30.toNat (by omega)
      have hk3 := hvr22 0 (by omega)
      have hk4 := hdv 0 (by omega)
      refine lv_aload_n (pc := 40) hx hb dX9_meanGap_40 rfl (lv_at hl 1 rfl) ?_
      refine lv_iload_n (pc := 41) hx hb dX9_meanGap_41 rfl (lv_at hl 0 rfl) ?_
      refine zald (pc := 42) hx hb hw hkr22 ⟨by omega, by omega⟩ (by omega) dX9_meanGap_42 ?_
      refine lv_aload_n (pc := 43) hx hb dX9_meanGap_43 rfl (lv_at hl 1 rfl) ?_
      refine ziconst (pc := 44) (n := 0) hx hb dX9_meanGap_44 ?_
      refine zald (pc := 45) hx hb hw hkr22 ⟨by omega, by omega⟩ (by omega) dX9_meanGap_45 ?_
      refine zsub (pc := 46) hx hb dX9_meanGap_46 ?_
      refine lv_i2d (pc := 47) hx hb dX9_meanGap_47 ?_
      refine lv_iload_n (pc := 48) hx hb dX9_meanGap_48 rfl (lv_at hl 0 rfl) ?_
      refine lv_i2d (pc := 49) hx hb dX9_meanGap_49 ?_
      refine zmean (pc := 50) hx hb ⟨by omega, by omega⟩ dX9_meanGap_50 ?_
      exact zretD (pc := 51) hx hb hlocks hr hw (by show 0 + 1 ≤ 1; omega) (by show 0 + (dnC Rf md a.toNat) ≤ 4001; omega) dX9_meanGap_51 (by first | (rw [eX22]; refine ⟨fun hz => by (exfalso; revert hz; (unfold cdSer; (repeat' split) <;> omega)), by rw [up2_s]; symm; (unfold cdSer; (repeat' split) <;> omega), ⟨ρ, hR2.own ⟨rfl, by decide⟩, hf2.trans (frR_own hR2)⟩, hls2.trans (lsR_own hR2), by rw [up2_k (by decide), h02 36 (Or.inr rfl)]; exact e362⟩) | exact ⟨fun _ => by 
                                        unfold mgL
                                        first
                                        | (rw [if_pos (by omega)]; done)
                                        | (rw [if_neg (by omega), hk1, show X22 r22 (0 : Int).toNat = X22 r22 0 from rfl, hk3, show x30.toNat = (datM M a.toNat).length - 1 by omega, show x30 = ((datM M a.toNat).length : Int) - 1 by omega]; done), by rw [h022 0 (Or.inl rfl), e02]; symm; (unfold cdSer; (repeat' split) <;> omega), ⟨ρ22, hR22, hf22⟩, hls22, by rw [h022 36 (Or.inr rfl)]; exact e362⟩)
    · skip
      refine zdconst0 (pc := 36) hx hb dX9_meanGap_36 ?_
      refine lv_goto (pc := 37) (tgt := 51) hx hb dX9_meanGap_37 (by decide) ?_
      exact zretD (pc := 51) hx hb hlocks hr hw (by show 0 + 1 ≤ 1; omega) (by show 0 + (dnC Rf md a.toNat) ≤ 4001; omega) dX9_meanGap_51 (by first | (rw [eX22]; refine ⟨fun hz => by (exfalso; revert hz; (unfold cdSer; (repeat' split) <;> omega)), by rw [up2_s]; symm; (unfold cdSer; (repeat' split) <;> omega), ⟨ρ, hR2.own ⟨rfl, by decide⟩, hf2.trans (frR_own hR2)⟩, hls2.trans (lsR_own hR2), by rw [up2_k (by decide), h02 36 (Or.inr rfl)]; exact e362⟩) | exact ⟨fun _ => by 
                                        unfold mgL
                                        first
                                        | (rw [if_pos (by omega)]; done)
                                        | (rw [if_neg (by omega), hk1, show X22 r22 (0 : Int).toNat = X22 r22 0 from rfl, hk3, show x30.toNat = (datM M a.toNat).length - 1 by omega, show x30 = ((datM M a.toNat).length : Int) - 1 by omega]; done), by rw [h022 0 (Or.inl rfl), e02]; symm; (unfold cdSer; (repeat' split) <;> omega), ⟨ρ22, hR22, hf22⟩, hls22, by rw [h022 36 (Or.inr rfl)]; exact e362⟩)
  · skip
    replace c10 := it0 c10
    refine lv_aload_n (pc := 13) hx hb dX9_meanGap_13 rfl (lv_at hl 0 rfl) ?_
    refine ziconst (pc := 14) (n := 1) hx hb dX9_meanGap_14 ?_
    refine zkIx (pc := 15) (zrV (As := [.int (iI 1)]) hx hb hml hown hG hw (c_X9_refuse l Γ K X2 Rf md 1  (by (first | assumption | omega))) (T := TX9) hmd rfl cb_X9_refuse wl_X9_123 rfl ⟨Nat.le_of_ble_eq_true rfl, Nat.le_of_ble_eq_true rfl⟩ hl.1 rfl (Nat.le_of_ble_eq_true rfl) dX9_meanGap_15 ⟨Nat.zero_le _, Nat.zero_le _⟩) hw (fun r15 X15 H locs hp15 hw => ?_)
    obtain ⟨hrf15, eX15⟩ := hp15
    refine lv_i2d (pc := 18) hx hb dX9_meanGap_18 ?_
    rw [d2n (FP.i2d (iI r15))]
    exact zretD (pc := 19) hx hb hlocks hr hw (Nat.zero_le _) (Nat.zero_le _) dX9_meanGap_19 (by first | (rw [eX15]; refine ⟨fun hz => by (exfalso; revert hz; (unfold cdSer; (repeat' split) <;> omega)), by rw [up2_s]; symm; (unfold cdSer; (repeat' split) <;> omega), ⟨ρ, hR2.own ⟨rfl, by decide⟩, hf2.trans (frR_own hR2)⟩, hls2.trans (lsR_own hR2), by rw [up2_k (by decide), h02 36 (Or.inr rfl)]; exact e362⟩) | exact ⟨fun _ => by 
                                        unfold mgL
                                        first
                                        | (rw [if_pos (by omega)]; done)
                                        | (rw [if_neg (by omega), hk1, show X22 r22 (0 : Int).toNat = X22 r22 0 from rfl, hk3, show x30.toNat = (datM M a.toNat).length - 1 by omega, show x30 = ((datM M a.toNat).length : Int) - 1 by omega]; done), by rw [h022 0 (Or.inl rfl), e02]; symm; (unfold cdSer; (repeat' split) <;> omega), ⟨ρ22, hR22, hf22⟩, hls22, by rw [h022 36 (Or.inr rfl)]; exact e362⟩)
