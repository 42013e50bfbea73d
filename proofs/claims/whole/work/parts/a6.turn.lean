set_option maxHeartbeats 4000000 in
set_option maxRecDepth 100000 in
theorem c_X9_momentFor (l : Launch) (Γ : zG) (K : zK) (X : zX) (Rf : zR) (md : Nat) (pl : Int) (lc : Int) (ρ : zL) (M : zM) (hR : repR ρ K X Rf md M) (hM : okM M) (h1 : 0 ≤ pl ∧ pl < M 40 5) (h2 : fit lc) : Ct l yX9_momentFor cX9_momentFor 3 (some .int) 89 (min 5 (dlC X Rf md pl.toNat)) (dlC X Rf md pl.toNat) Γ [.ref md, .int (iI pl), .int (iI lc)] K X Rf (pI (fun (r : Int) (K' : zK) (X' : zX) (R' : zR) => r = momF (savM M pl.toNat) (M 6 pl.toNat) lc ∧ ∃ ρ', (repR ρ' K' X' R' md M ∧ frR ρ K X Rf ρ' K' X' R' ∧ (∀ q, q = 0 ∨ q = 36 → X' md q = X md q)) ∧ (lsR X Rf X' R' md ∧ dlC X' R' md pl.toNat = 0) ∧ ∀ a, (K a).1 ≠ 0 → 3000 ≤ ρ a → X' a = X a)) := by
  refine Ct.of (by decide +kernel) (Nat.le_of_ble_eq_true rfl) ?_
  intro p e s m below meth c ls hx hb hr hml hown hG hlocks hname hw hl
  have hl : lv_has ls 3 [(0, .ref md), (1, .int (iI pl)), (2, .int (iI lc))] := hl
  obtain ⟨hmd, hlmd⟩ := id hR.1
  obtain ⟨⟨hb1, hb2, hb3, hb4⟩, hokP, hokL, hokS, hokW, hokF⟩ := id hM
  have hq1 : X md 1 = M 40 1 := hR.2.1 1 rfl
  have hq5 : X md 5 = M 40 5 := hR.2.1 5 rfl
  have hq16 : X md 16 = M 40 16 := hR.2.1 16 rfl
  have hq25 : X md 25 = M 40 25 := hR.2.1 25 rfl
  have hq26 : X md 26 = M 40 26 := hR.2.1 26 rfl
  have hq27 : X md 27 = M 40 27 := hR.2.1 27 rfl
  have hq28 : X md 28 = M 40 28 := hR.2.1 28 rfl
  have hq29 : X md 29 = M 40 29 := hR.2.1 29 rfl
  have hNle := evNM_le hM (p := pl.toNat) (by omega)
  refine lv_aload_n (pc := 0) hx hb dX9_momentFor_0 rfl (lv_at hl 0 rfl) ?_
  refine lv_iload_n (pc := 1) hx hb dX9_momentFor_1 rfl (lv_at hl 1 rfl) ?_
  refine lv_iload_n (pc := 2) hx hb dX9_momentFor_2 rfl (lv_at hl 2 rfl) ?_
  refine zi2l (pc := 3) hx hb (by omega) dX9_momentFor_3 ?_
  refine zkV (pc := 4) (zrV (As := [.int (iI pl), .long (lJ lc)]) hx hb hml hown hG hw (c_X9_find l Γ K X Rf md pl lc (ρ) M (by (first | assumption | omega)) (by (first | assumption | omega)) (by (first | assumption | omega)) (by (first | assumption | omega))) (T := TX9) hmd rfl cb_X9_find wl_X9_221 rfl ⟨Nat.le_of_ble_eq_true rfl, Nat.le_of_ble_eq_true rfl⟩ hl.1 rfl (Nat.le_of_ble_eq_true rfl) dX9_momentFor_4 ⟨(by show 0 + (min 5 (dlC X Rf md pl.toNat)) ≤ (min 5 (dlC X Rf md pl.toNat)); omega), (by show 0 + (dlC X Rf md pl.toNat) ≤ (dlC X Rf md pl.toNat); omega)⟩) hw (fun K4 X4 R4 H locs hp4 hw => ?_)
  obtain ⟨⟨v12, v13, v14, v15⟩, ρ4, ⟨hR4, hg4, hz4⟩, ⟨hs4, hd4⟩, hy4⟩ := hp4
  obtain ⟨hmd4, hlm4⟩ := id hR4.1
  have hmf := momF_rng (sv := savM M pl.toNat) (M 6 pl.toNat) lc
  have hsf : -1 ≤ shF (savM M pl.toNat) (M 6 pl.toNat) lc ∧ shF (savM M pl.toNat) (M 6 pl.toNat) lc < 105190560 := by have h9 := fP_rng (p := shw (savM M pl.toNat) (M 6 pl.toNat) lc) (a := 0) (b := 105190560) (by omega) (by omega); exact h9
  refine lv_aload_n (pc := 7) hx hb dX9_momentFor_7 rfl (lv_at hl 0 rfl) ?_
  refine zgetI (pc := 8) hx hb hG hown hw hmd4 (T := TX9) rfl 12 (by decide) rfl wf_X9_204 rfl dX9_momentFor_8 ?_
  refine ziconst (pc := 11) (n := (-1)) hx hb dX9_momentFor_11 ?_
  refine zicmp_eq (pc := 12) hx hb 22 (by omega) (by omega) dX9_momentFor_12 (by decide) (fun c12 => ?_) (fun c12 => ?_)
  · skip
    refine lv_aload_n (pc := 22) hx hb dX9_momentFor_22 rfl (lv_at hl 0 rfl) ?_
    refine zgetI (pc := 23) hx hb hG hown hw hmd4 (T := TX9) rfl 15 (by decide) rfl wf_X9_213 rfl dX9_momentFor_23 ?_
    exact zretI (pc := 26) hx hb hlocks hr hw (by show 0 + (min 5 (dlC X Rf md pl.toNat)) ≤ (min 5 (dlC X Rf md pl.toNat)); omega) (by show 0 + (dlC X Rf md pl.toNat) ≤ (dlC X Rf md pl.toNat); omega) dX9_momentFor_26 (by exact ⟨by unfold momF; first | (rw [if_pos (by omega)]; exact v12) | (rw [if_neg (by omega)]; exact v15), ρ4, ⟨hR4, hg4, hz4⟩, ⟨hs4, hd4⟩, hy4⟩)
  · skip
    refine lv_aload_n (pc := 15) hx hb dX9_momentFor_15 rfl (lv_at hl 0 rfl) ?_
    refine zgetI (pc := 16) hx hb hG hown hw hmd4 (T := TX9) rfl 12 (by decide) rfl wf_X9_204 rfl dX9_momentFor_16 ?_
    refine lv_goto (pc := 19) (tgt := 26) hx hb dX9_momentFor_19 (by decide) ?_
    exact zretI (pc := 26) hx hb hlocks hr hw (by show 0 + (min 5 (dlC X Rf md pl.toNat)) ≤ (min 5 (dlC X Rf md pl.toNat)); omega) (by show 0 + (dlC X Rf md pl.toNat) ≤ (dlC X Rf md pl.toNat); omega) dX9_momentFor_26 (by exact ⟨by unfold momF; first | (rw [if_pos (by omega)]; exact v12) | (rw [if_neg (by omega)]; exact v15), ρ4, ⟨hR4, hg4, hz4⟩, ⟨hs4, hd4⟩, hy4⟩)
set_option maxHeartbeats 4000000 in
set_option maxRecDepth 100000 in
theorem c_X9_savingAt (l : Launch) (Γ : zG) (K : zK) (X : zX) (Rf : zR) (md : Nat) (a : Int) (mt : Int) (ρ : zL) (M : zM) (hR : repR ρ K X Rf md M) (hM : okM M) (h1 : fit a ∧ fit mt) : Ct l yX9_savingAt cX9_savingAt 3 (some .int) 87 (min 5 (dlC X Rf md a.toNat)) (dlC X Rf md a.toNat) Γ [.ref md, .int (iI a), .int (iI mt)] K X Rf (pI (fun (r : Int) (K' : zK) (X' : zX) (R' : zR) => (cdPlM M a mt = 0 → r = savM M a.toNat mt) ∧ X' md 0 = cdPlM M a mt ∧ (∃ ρ', repR ρ' K' X' R' md M ∧ frR ρ K X Rf ρ' K' X' R') ∧ lsR X Rf X' R' md ∧ X' md 36 = X md 36 ∧ (cdPlM M a mt = 0 → dlC X' R' md a.toNat = 0))) := by
  refine Ct.of (by decide +kernel) (Nat.le_of_ble_eq_true rfl) ?_
  intro p e s m below meth c ls hx hb hr hml hown hG hlocks hname hw hl
  have hl : lv_has ls 3 [(0, .ref md), (1, .int (iI a)), (2, .int (iI mt))] := hl
  obtain ⟨hmd, hlmd⟩ := id hR.1
  obtain ⟨⟨hb1, hb2, hb3, hb4⟩, hokP, hokL, hokS, hokW, hokF⟩ := id hM
  have hq1 : X md 1 = M 40 1 := hR.2.1 1 rfl
  have hq5 : X md 5 = M 40 5 := hR.2.1 5 rfl
  have hq16 : X md 16 = M 40 16 := hR.2.1 16 rfl
  have hq25 : X md 25 = M 40 25 := hR.2.1 25 rfl
  have hq26 : X md 26 = M 40 26 := hR.2.1 26 rfl
  have hq27 : X md 27 = M 40 27 := hR.2.1 27 rfl
  have hq28 : X md 28 = M 40 28 := hR.2.1 28 rfl
  have hq29 : X md 29 = M 40 29 := hR.2.1 29 rfl
  refine lv_aload_n (pc := 0) hx hb dX9_savingAt_0 rfl (lv_at hl 0 rfl) ?_
  refine ziconst (pc := 1) (n := 0) hx hb dX9_savingAt_1 ?_
  refine zputI (pc := 2) hx hb hG hown hw hmd (T := TX9) rfl 0 (by decide) rfl wf_X9_87 rfl (by decide +kernel) rfl dX9_savingAt_2 (fun H locs hw => ?_)
  obtain ⟨X2, eX2⟩ : ∃ Y : zX, Y = up2 X md 0 0 := ⟨_, rfl⟩
  rw [← eX2] at hw
  have hz5 : X2 md 5 = M 40 5 := by rw [eX2, up2_k (by decide)]; exact hq5
  have hR2 : repR ρ K X2 Rf md M := by rw [eX2]; exact hR.own ⟨rfl, by decide⟩
  have hf2 : frR ρ K X Rf ρ K X2 Rf := by rw [eX2]; exact frR_own hR
  have h02 : ∀ q, q = 0 ∨ q = 36 → X2 md q = X2 md q := fun _ _ => rfl
  have e02 : X2 md 0 = 0 := by rw [eX2]; exact up2_s
  have e362 : X2 md 36 = X md 36 := by rw [eX2]; exact up2_k (by decide)
  have hls2 : lsR X Rf X2 Rf md := by rw [eX2]; exact lsR_own hR
  refine lv_aload_n (pc := 5) hx hb dX9_savingAt_5 rfl (lv_at hl 0 rfl) ?_
  refine lv_iload_n (pc := 6) hx hb dX9_savingAt_6 rfl (lv_at hl 1 rfl) ?_
  refine zkIp (pc := 7) (zrV (As := [.int (iI a)]) hx hb hml hown hG hw (c_X9_isPlace l Γ K X2 Rf md a  (by (first | assumption | omega)) (by (first | assumption | omega))) (T := TX9) hmd rfl cb_X9_isPlace wl_X9_161 rfl ⟨Nat.le_of_ble_eq_true rfl, Nat.le_of_ble_eq_true rfl⟩ hl.1 rfl (Nat.le_of_ble_eq_true rfl) dX9_savingAt_7 ⟨Nat.zero_le _, Nat.zero_le _⟩) hw (fun r7 H locs hp7 hw => ?_)
  subst hp7
  refine zif_eq (pc := 10) hx hb 34 (by omega) dX9_savingAt_10 (by decide) (fun c10 => ?_) (fun c10 => ?_)
  · skip
    replace c10 := it0 c10
    refine lv_aload_n (pc := 34) hx hb dX9_savingAt_34 rfl (lv_at hl 0 rfl) ?_
    refine ziconst (pc := 35) (n := 1) hx hb dX9_savingAt_35 ?_
    refine zkIx (pc := 36) (zrV (As := [.int (iI 1)]) hx hb hml hown hG hw (c_X9_refuse l Γ K X2 Rf md 1  (by (first | assumption | omega))) (T := TX9) hmd rfl cb_X9_refuse wl_X9_123 rfl ⟨Nat.le_of_ble_eq_true rfl, Nat.le_of_ble_eq_true rfl⟩ hl.1 rfl (Nat.le_of_ble_eq_true rfl) dX9_savingAt_36 ⟨Nat.zero_le _, Nat.zero_le _⟩) hw (fun r36 X36 H locs hp36 hw => ?_)
    obtain ⟨hrf36, eX36⟩ := hp36
    exact zretI (pc := 39) hx hb hlocks hr hw (Nat.zero_le _) (Nat.zero_le _) dX9_savingAt_39 (by first | (rw [eX36]; refine ⟨fun hz => by (exfalso; revert hz; (unfold cdPlM; (repeat' split) <;> omega)), by rw [up2_s]; symm; (unfold cdPlM; (repeat' split) <;> omega), ⟨ρ, hR2.own ⟨rfl, by decide⟩, hf2.trans (frR_own hR2)⟩, hls2.trans (lsR_own hR2), by rw [up2_k (by decide), h02 36 (Or.inr rfl)]; exact e362, fun hz => by (exfalso; revert hz; (unfold cdPlM; (repeat' split) <;> omega))⟩) | exact ⟨fun _ => by rw [savM_hp]; exact hsb, by rw [h025 0 (Or.inl rfl), e02]; symm; (unfold cdPlM; (repeat' split) <;> omega), ⟨ρ25, hR25, hf25⟩, hls25, by rw [h025 36 (Or.inr rfl)]; exact e362, fun _ => hd25⟩)
  · skip
    replace c10 := it1 c10
    refine lv_iload_n (pc := 13) hx hb dX9_savingAt_13 rfl (lv_at hl 2 rfl) ?_
    refine zkIp (pc := 14) (zrS (As := [.int (iI mt)]) hx hb hml hown hG hw (c_X9_isMoment l Γ K X2 Rf mt  (by (first | assumption | omega))) cb_X9_isMoment wl_X9_195 rfl ⟨Nat.le_of_ble_eq_true rfl, Nat.le_of_ble_eq_true rfl⟩ hl.1 rfl (Nat.le_of_ble_eq_true rfl) dX9_savingAt_14 ⟨Nat.zero_le _, Nat.zero_le _⟩) hw (fun r14 H locs hp14 hw => ?_)
    subst hp14
    refine zif_eq (pc := 17) hx hb 34 (by omega) dX9_savingAt_17 (by decide) (fun c17 => ?_) (fun c17 => ?_)
    · skip
      replace c17 := it0 c17
      refine lv_aload_n (pc := 34) hx hb dX9_savingAt_34 rfl (lv_at hl 0 rfl) ?_
      refine ziconst (pc := 35) (n := 1) hx hb dX9_savingAt_35 ?_
      refine zkIx (pc := 36) (zrV (As := [.int (iI 1)]) hx hb hml hown hG hw (c_X9_refuse l Γ K X2 Rf md 1  (by (first | assumption | omega))) (T := TX9) hmd rfl cb_X9_refuse wl_X9_123 rfl ⟨Nat.le_of_ble_eq_true rfl, Nat.le_of_ble_eq_true rfl⟩ hl.1 rfl (Nat.le_of_ble_eq_true rfl) dX9_savingAt_36 ⟨Nat.zero_le _, Nat.zero_le _⟩) hw (fun r36 X36 H locs hp36 hw => ?_)
      obtain ⟨hrf36, eX36⟩ := hp36
      exact zretI (pc := 39) hx hb hlocks hr hw (Nat.zero_le _) (Nat.zero_le _) dX9_savingAt_39 (by first | (rw [eX36]; refine ⟨fun hz => by (exfalso; revert hz; (unfold cdPlM; (repeat' split) <;> omega)), by rw [up2_s]; symm; (unfold cdPlM; (repeat' split) <;> omega), ⟨ρ, hR2.own ⟨rfl, by decide⟩, hf2.trans (frR_own hR2)⟩, hls2.trans (lsR_own hR2), by rw [up2_k (by decide), h02 36 (Or.inr rfl)]; exact e362, fun hz => by (exfalso; revert hz; (unfold cdPlM; (repeat' split) <;> omega))⟩) | exact ⟨fun _ => by rw [savM_hp]; exact hsb, by rw [h025 0 (Or.inl rfl), e02]; symm; (unfold cdPlM; (repeat' split) <;> omega), ⟨ρ25, hR25, hf25⟩, hls25, by rw [h025 36 (Or.inr rfl)]; exact e362, fun _ => hd25⟩)
    · skip
      replace c17 := it1 c17
      refine lv_aload_n (pc := 20) hx hb dX9_savingAt_20 rfl (lv_at hl 0 rfl) ?_
      refine lv_iload_n (pc := 21) hx hb dX9_savingAt_21 rfl (lv_at hl 1 rfl) ?_
      refine lv_aload_n (pc := 22) hx hb dX9_savingAt_22 rfl (lv_at hl 0 rfl) ?_
      refine lv_iload_n (pc := 23) hx hb dX9_savingAt_23 rfl (lv_at hl 1 rfl) ?_
      refine lv_iload_n (pc := 24) hx hb dX9_savingAt_24 rfl (lv_at hl 2 rfl) ?_
      have hNle := evNM_le hM (p := a.toNat) (by omega)
      have hdl25 := hls2.1 a.toNat
      have hdc25 := dlC_le (X := X2) (Rf := Rf) (md := md) (p := a.toNat)
      refine zkI (pc := 25) (zrV (As := [.int (iI a), .int (iI mt)]) hx hb hml hown hG hw (c_X9_happened l Γ K X2 Rf md a mt (ρ) M (by (first | assumption | omega)) (by (first | assumption | omega)) (by (first | assumption | omega)) (by (first | assumption | omega))) (T := TX9) hmd rfl cb_X9_happened wl_X9_189 rfl ⟨Nat.le_of_ble_eq_true rfl, Nat.le_of_ble_eq_true rfl⟩ hl.1 rfl (Nat.le_of_ble_eq_true rfl) dX9_savingAt_25 ⟨(by show 0 + (min 5 (dlC X2 Rf md a.toNat)) ≤ (min 5 (dlC X Rf md a.toNat)); omega), (by show 0 + (dlC X2 Rf md a.toNat) ≤ (dlC X Rf md a.toNat); omega)⟩) hw (fun r25 K25 X25 R25 H locs hp25 hw => ?_)
      obtain ⟨hv25, ρ25, ⟨hR25, hg25, hz25⟩, ⟨hs25, hd25⟩, hy25⟩ := hp25
      obtain ⟨hmd25, hlm25⟩ := id hR25.1
      obtain ⟨b6_25, hB6_25, hA6_25, hL6_25, hD6_25⟩ : ∃ a, R25 md 6 = some a ∧ K25 a = (2, 6) ∧ ρ25 a = 2007 ∧ X25 a = M 6 := hR25.fd 6 (by decide) rfl
      obtain ⟨b9_25, hB9_25, hA9_25, hL9_25⟩ : ∃ a, R25 md 9 = some a ∧ K25 a = (2, 6) ∧ ρ25 a = 2010 := hR25.ff 9 (by decide)
      obtain ⟨b10_25, hB10_25, hA10_25, hL10_25⟩ : ∃ a, R25 md 10 = some a ∧ K25 a = (11, 6) ∧ ρ25 a = 2011 := hR25.ff 10 (by decide)
      obtain ⟨b11_25, hB11_25, hA11_25, hL11_25⟩ : ∃ a, R25 md 11 = some a ∧ K25 a = (11, 6) ∧ ρ25 a = 2012 := hR25.ff 11 (by decide)
      obtain ⟨hv9, mo, sv, ⟨hrm, hrs⟩, ⟨hkm, hks⟩, hvm, hvs⟩ := hR25.plc hB9_25 hB10_25 hB11_25 (p := a.toNat) (by omega) (by omega) hd25
      have hf25 := hf2.trans hg25
      have h025 := fun q hq => (hz25 q hq).trans (h02 q hq)
      have hls25 := hls2.trans hs25
      have hpr := (hpM_spec (M := M) (p := a.toNat) mt).1
      have hsb := svb_eq (z := ((hpM M a.toNat mt : Nat) : Int)) hvs ⟨by omega, by omega⟩
      rw [Int.toNat_natCast, ← hv25] at hsb
      refine zkIp (pc := 28) (zrV (As := [.int (iI a), .int (iI r25)]) hx hb hml hown hG hw (c_X9_savingBehind l Γ K25 X25 R25 md a r25 b11_25 sv (evNM M a.toNat) (by (first | assumption | omega)) (by (first | assumption | omega)) (by (first | assumption | omega)) (by (first | assumption | omega)) (by (first | assumption | omega)) (by (first | assumption | omega))) (T := TX9) hmd25 rfl cb_X9_savingBehind wl_X9_192 rfl ⟨Nat.le_of_ble_eq_true rfl, Nat.le_of_ble_eq_true rfl⟩ hl.1 rfl (Nat.le_of_ble_eq_true rfl) dX9_savingAt_28 ⟨(by show 0 + (min 5 (dlC X2 Rf md a.toNat)) + 0 ≤ (min 5 (dlC X Rf md a.toNat)); omega), (by show 0 + (dlC X2 Rf md a.toNat) + 0 ≤ (dlC X Rf md a.toNat); omega)⟩) hw (fun r28 H locs hp28 hw => ?_)
      subst hp28
      refine lv_goto (pc := 31) (tgt := 39) hx hb dX9_savingAt_31 (by decide) ?_
      exact zretI (pc := 39) hx hb hlocks hr hw (by show 0 + (min 5 (dlC X2 Rf md a.toNat)) ≤ (min 5 (dlC X Rf md a.toNat)); omega) (by show 0 + (dlC X2 Rf md a.toNat) ≤ (dlC X Rf md a.toNat); omega) dX9_savingAt_39 (by first | (rw [eX25]; refine ⟨fun hz => by (exfalso; revert hz; (unfold cdPlM; (repeat' split) <;> omega)), by rw [up2_s]; symm; (unfold cdPlM; (repeat' split) <;> omega), ⟨ρ, hR2.own ⟨rfl, by decide⟩, hf2.trans (frR_own hR2)⟩, hls2.trans (lsR_own hR2), by rw [up2_k (by decide), h02 36 (Or.inr rfl)]; exact e362, fun hz => by (exfalso; revert hz; (unfold cdPlM; (repeat' split) <;> omega))⟩) | exact ⟨fun _ => by rw [savM_hp]; exact hsb, by rw [h025 0 (Or.inl rfl), e02]; symm; (unfold cdPlM; (repeat' split) <;> omega), ⟨ρ25, hR25, hf25⟩, hls25, by rw [h025 36 (Or.inr rfl)]; exact e362, fun _ => hd25⟩)
set_option maxHeartbeats 4000000 in
set_option maxRecDepth 100000 in
theorem c_X9_localAt (l : Launch) (Γ : zG) (K : zK) (X : zX) (Rf : zR) (md : Nat) (a : Int) (mt : Int) (ρ : zL) (M : zM) (hR : repR ρ K X Rf md M) (hM : okM M) (h1 : fit a ∧ fit mt) : Ct l yX9_localAt cX9_localAt 3 (some .int) 88 5 5000 Γ [.ref md, .int (iI a), .int (iI mt)] K X Rf (pI (fun (r : Int) (K' : zK) (X' : zX) (R' : zR) => (cdPlM M a mt = 0 → r = locM M a mt) ∧ X' md 0 = cdPlM M a mt ∧ (∃ ρ', repR ρ' K' X' R' md M ∧ frR ρ K X Rf ρ' K' X' R') ∧ lsR X Rf X' R' md ∧ X' md 36 = X md 36)) := by
  refine Ct.of (by decide +kernel) (Nat.le_of_ble_eq_true rfl) ?_
  intro p e s m below meth c ls hx hb hr hml hown hG hlocks hname hw hl
  have hl : lv_has ls 3 [(0, .ref md), (1, .int (iI a)), (2, .int (iI mt))] := hl
  obtain ⟨hmd, hlmd⟩ := id hR.1
  obtain ⟨⟨hb1, hb2, hb3, hb4⟩, hokP, hokL, hokS, hokW, hokF⟩ := id hM
  have hq1 : X md 1 = M 40 1 := hR.2.1 1 rfl
  have hq5 : X md 5 = M 40 5 := hR.2.1 5 rfl
  have hq16 : X md 16 = M 40 16 := hR.2.1 16 rfl
  have hq25 : X md 25 = M 40 25 := hR.2.1 25 rfl
  have hq26 : X md 26 = M 40 26 := hR.2.1 26 rfl
  have hq27 : X md 27 = M 40 27 := hR.2.1 27 rfl
  have hq28 : X md 28 = M 40 28 := hR.2.1 28 rfl
  have hq29 : X md 29 = M 40 29 := hR.2.1 29 rfl
  refine lv_aload_n (pc := 0) hx hb dX9_localAt_0 rfl (lv_at hl 0 rfl) ?_
  refine ziconst (pc := 1) (n := 0) hx hb dX9_localAt_1 ?_
  refine zputI (pc := 2) hx hb hG hown hw hmd (T := TX9) rfl 0 (by decide) rfl wf_X9_87 rfl (by decide +kernel) rfl dX9_localAt_2 (fun H locs hw => ?_)
  obtain ⟨X2, eX2⟩ : ∃ Y : zX, Y = up2 X md 0 0 := ⟨_, rfl⟩
  rw [← eX2] at hw
  have hz5 : X2 md 5 = M 40 5 := by rw [eX2, up2_k (by decide)]; exact hq5
  have hR2 : repR ρ K X2 Rf md M := by rw [eX2]; exact hR.own ⟨rfl, by decide⟩
  have hf2 : frR ρ K X Rf ρ K X2 Rf := by rw [eX2]; exact frR_own hR
  have h02 : ∀ q, q = 0 ∨ q = 36 → X2 md q = X2 md q := fun _ _ => rfl
  have e02 : X2 md 0 = 0 := by rw [eX2]; exact up2_s
  have e362 : X2 md 36 = X md 36 := by rw [eX2]; exact up2_k (by decide)
  have hls2 : lsR X Rf X2 Rf md := by rw [eX2]; exact lsR_own hR
  refine lv_aload_n (pc := 5) hx hb dX9_localAt_5 rfl (lv_at hl 0 rfl) ?_
  refine lv_iload_n (pc := 6) hx hb dX9_localAt_6 rfl (lv_at hl 1 rfl) ?_
  refine zkIp (pc := 7) (zrV (As := [.int (iI a)]) hx hb hml hown hG hw (c_X9_isPlace l Γ K X2 Rf md a  (by (first | assumption | omega)) (by (first | assumption | omega))) (T := TX9) hmd rfl cb_X9_isPlace wl_X9_161 rfl ⟨Nat.le_of_ble_eq_true rfl, Nat.le_of_ble_eq_true rfl⟩ hl.1 rfl (Nat.le_of_ble_eq_true rfl) dX9_localAt_7 ⟨Nat.zero_le _, Nat.zero_le _⟩) hw (fun r7 H locs hp7 hw => ?_)
  subst hp7
  refine zif_eq (pc := 10) hx hb 29 (by omega) dX9_localAt_10 (by decide) (fun c10 => ?_) (fun c10 => ?_)
  · skip
    replace c10 := it0 c10
    refine lv_aload_n (pc := 29) hx hb dX9_localAt_29 rfl (lv_at hl 0 rfl) ?_
    refine ziconst (pc := 30) (n := 1) hx hb dX9_localAt_30 ?_
    refine zkIx (pc := 31) (zrV (As := [.int (iI 1)]) hx hb hml hown hG hw (c_X9_refuse l Γ K X2 Rf md 1  (by (first | assumption | omega))) (T := TX9) hmd rfl cb_X9_refuse wl_X9_123 rfl ⟨Nat.le_of_ble_eq_true rfl, Nat.le_of_ble_eq_true rfl⟩ hl.1 rfl (Nat.le_of_ble_eq_true rfl) dX9_localAt_31 ⟨Nat.zero_le _, Nat.zero_le _⟩) hw (fun r31 X31 H locs hp31 hw => ?_)
    obtain ⟨hrf31, eX31⟩ := hp31
    exact zretI (pc := 34) hx hb hlocks hr hw (Nat.zero_le _) (Nat.zero_le _) dX9_localAt_34 (by first | (rw [eX31]; refine ⟨fun hz => by (exfalso; revert hz; (unfold cdPlM; (repeat' split) <;> omega)), by rw [up2_s]; symm; (unfold cdPlM; (repeat' split) <;> omega), ⟨ρ, hR2.own ⟨rfl, by decide⟩, hf2.trans (frR_own hR2)⟩, hls2.trans (lsR_own hR2), by rw [up2_k (by decide), h02 36 (Or.inr rfl)]; exact e362⟩) | exact ⟨fun _ => by exact hv23, by rw [h023 0 (Or.inl rfl), e02]; symm; (unfold cdPlM; (repeat' split) <;> omega), ⟨ρ23, hR23, hf23⟩, hls23, by rw [h023 36 (Or.inr rfl)]; exact e362⟩)
  · skip
    replace c10 := it1 c10
    refine lv_iload_n (pc := 13) hx hb dX9_localAt_13 rfl (lv_at hl 2 rfl) ?_
    refine zkIp (pc := 14) (zrS (As := [.int (iI mt)]) hx hb hml hown hG hw (c_X9_isMoment l Γ K X2 Rf mt  (by (first | assumption | omega))) cb_X9_isMoment wl_X9_195 rfl ⟨Nat.le_of_ble_eq_true rfl, Nat.le_of_ble_eq_true rfl⟩ hl.1 rfl (Nat.le_of_ble_eq_true rfl) dX9_localAt_14 ⟨Nat.zero_le _, Nat.zero_le _⟩) hw (fun r14 H locs hp14 hw => ?_)
    subst hp14
    refine zif_eq (pc := 17) hx hb 29 (by omega) dX9_localAt_17 (by decide) (fun c17 => ?_) (fun c17 => ?_)
    · skip
      replace c17 := it0 c17
      refine lv_aload_n (pc := 29) hx hb dX9_localAt_29 rfl (lv_at hl 0 rfl) ?_
      refine ziconst (pc := 30) (n := 1) hx hb dX9_localAt_30 ?_
      refine zkIx (pc := 31) (zrV (As := [.int (iI 1)]) hx hb hml hown hG hw (c_X9_refuse l Γ K X2 Rf md 1  (by (first | assumption | omega))) (T := TX9) hmd rfl cb_X9_refuse wl_X9_123 rfl ⟨Nat.le_of_ble_eq_true rfl, Nat.le_of_ble_eq_true rfl⟩ hl.1 rfl (Nat.le_of_ble_eq_true rfl) dX9_localAt_31 ⟨Nat.zero_le _, Nat.zero_le _⟩) hw (fun r31 X31 H locs hp31 hw => ?_)
      obtain ⟨hrf31, eX31⟩ := hp31
      exact zretI (pc := 34) hx hb hlocks hr hw (Nat.zero_le _) (Nat.zero_le _) dX9_localAt_34 (by first | (rw [eX31]; refine ⟨fun hz => by (exfalso; revert hz; (unfold cdPlM; (repeat' split) <;> omega)), by rw [up2_s]; symm; (unfold cdPlM; (repeat' split) <;> omega), ⟨ρ, hR2.own ⟨rfl, by decide⟩, hf2.trans (frR_own hR2)⟩, hls2.trans (lsR_own hR2), by rw [up2_k (by decide), h02 36 (Or.inr rfl)]; exact e362⟩) | exact ⟨fun _ => by exact hv23, by rw [h023 0 (Or.inl rfl), e02]; symm; (unfold cdPlM; (repeat' split) <;> omega), ⟨ρ23, hR23, hf23⟩, hls23, by rw [h023 36 (Or.inr rfl)]; exact e362⟩)
    · skip
      replace c17 := it1 c17
      refine lv_aload_n (pc := 20) hx hb dX9_localAt_20 rfl (lv_at hl 0 rfl) ?_
      refine lv_iload_n (pc := 21) hx hb dX9_localAt_21 rfl (lv_at hl 1 rfl) ?_
      refine lv_iload_n (pc := 22) hx hb dX9_localAt_22 rfl (lv_at hl 2 rfl) ?_
      have hdl23 := hls2.1 a.toNat
      have hdc23 := dlC_le (X := X2) (Rf := Rf) (md := md) (p := a.toNat)
      refine zkI (pc := 23) (zrV (As := [.int (iI a), .int (iI mt)]) hx hb hml hown hG hw (c_X9_local l Γ K X2 Rf md a mt (ρ) M (by (first | assumption | omega)) (by (first | assumption | omega)) (by (first | assumption | omega)) (by (first | assumption | omega))) (T := TX9) hmd rfl cb_X9_local wl_X9_198 rfl ⟨Nat.le_of_ble_eq_true rfl, Nat.le_of_ble_eq_true rfl⟩ hl.1 rfl (Nat.le_of_ble_eq_true rfl) dX9_localAt_23 ⟨(by show 0 + (min 5 (dlC X2 Rf md a.toNat)) ≤ 5; omega), (by show 0 + (dlC X2 Rf md a.toNat) ≤ 5000; omega)⟩) hw (fun r23 K23 X23 R23 H locs hp23 hw => ?_)
      obtain ⟨hv23, ρ23, ⟨hR23, hg23, hz23⟩, ⟨hs23, hd23⟩, hy23⟩ := hp23
      obtain ⟨hmd23, hlm23⟩ := id hR23.1
      have hf23 := hf2.trans hg23
      have h023 := fun q hq => (hz23 q hq).trans (h02 q hq)
      have hls23 := hls2.trans hs23
      refine lv_goto (pc := 26) (tgt := 34) hx hb dX9_localAt_26 (by decide) ?_
      exact zretI (pc := 34) hx hb hlocks hr hw (by show 0 + (min 5 (dlC X2 Rf md a.toNat)) ≤ 5; omega) (by show 0 + (dlC X2 Rf md a.toNat) ≤ 5000; omega) dX9_localAt_34 (by first | (rw [eX23]; refine ⟨fun hz => by (exfalso; revert hz; (unfold cdPlM; (repeat' split) <;> omega)), by rw [up2_s]; symm; (unfold cdPlM; (repeat' split) <;> omega), ⟨ρ, hR2.own ⟨rfl, by decide⟩, hf2.trans (frR_own hR2)⟩, hls2.trans (lsR_own hR2), by rw [up2_k (by decide), h02 36 (Or.inr rfl)]; exact e362⟩) | exact ⟨fun _ => by exact hv23, by rw [h023 0 (Or.inl rfl), e02]; symm; (unfold cdPlM; (repeat' split) <;> omega), ⟨ρ23, hR23, hf23⟩, hls23, by rw [h023 36 (Or.inr rfl)]; exact e362⟩)
set_option maxHeartbeats 4000000 in
set_option maxRecDepth 100000 in
theorem c_X9_nextChange (l : Launch) (Γ : zG) (K : zK) (X : zX) (Rf : zR) (md : Nat) (a : Int) (mt : Int) (ρ : zL) (M : zM) (hR : repR ρ K X Rf md M) (hM : okM M) (h1 : fit a ∧ fit mt) : Ct l yX9_nextChange cX9_nextChange 3 (some .int) 88 5 5000 Γ [.ref md, .int (iI a), .int (iI mt)] K X Rf (pI (fun (r : Int) (K' : zK) (X' : zX) (R' : zR) => (cdPlM M a mt = 0 → r = ncF (savM M a.toNat) mt) ∧ X' md 0 = cdPlM M a mt ∧ (∃ ρ', repR ρ' K' X' R' md M ∧ frR ρ K X Rf ρ' K' X' R') ∧ lsR X Rf X' R' md ∧ X' md 36 = X md 36)) := by
  refine Ct.of (by decide +kernel) (Nat.le_of_ble_eq_true rfl) ?_
  intro p e s m below meth c ls hx hb hr hml hown hG hlocks hname hw hl
  have hl : lv_has ls 3 [(0, .ref md), (1, .int (iI a)), (2, .int (iI mt))] := hl
  obtain ⟨hmd, hlmd⟩ := id hR.1
  obtain ⟨⟨hb1, hb2, hb3, hb4⟩, hokP, hokL, hokS, hokW, hokF⟩ := id hM
  have hq1 : X md 1 = M 40 1 := hR.2.1 1 rfl
  have hq5 : X md 5 = M 40 5 := hR.2.1 5 rfl
  have hq16 : X md 16 = M 40 16 := hR.2.1 16 rfl
  have hq25 : X md 25 = M 40 25 := hR.2.1 25 rfl
  have hq26 : X md 26 = M 40 26 := hR.2.1 26 rfl
  have hq27 : X md 27 = M 40 27 := hR.2.1 27 rfl
  have hq28 : X md 28 = M 40 28 := hR.2.1 28 rfl
  have hq29 : X md 29 = M 40 29 := hR.2.1 29 rfl
  refine lv_aload_n (pc := 0) hx hb dX9_nextChange_0 rfl (lv_at hl 0 rfl) ?_
  refine ziconst (pc := 1) (n := 0) hx hb dX9_nextChange_1 ?_
  refine zputI (pc := 2) hx hb hG hown hw hmd (T := TX9) rfl 0 (by decide) rfl wf_X9_87 rfl (by decide +kernel) rfl dX9_nextChange_2 (fun H locs hw => ?_)
  obtain ⟨X2, eX2⟩ : ∃ Y : zX, Y = up2 X md 0 0 := ⟨_, rfl⟩
  rw [← eX2] at hw
  have hz5 : X2 md 5 = M 40 5 := by rw [eX2, up2_k (by decide)]; exact hq5
  have hR2 : repR ρ K X2 Rf md M := by rw [eX2]; exact hR.own ⟨rfl, by decide⟩
  have hf2 : frR ρ K X Rf ρ K X2 Rf := by rw [eX2]; exact frR_own hR
  have h02 : ∀ q, q = 0 ∨ q = 36 → X2 md q = X2 md q := fun _ _ => rfl
  have e02 : X2 md 0 = 0 := by rw [eX2]; exact up2_s
  have e362 : X2 md 36 = X md 36 := by rw [eX2]; exact up2_k (by decide)
  have hls2 : lsR X Rf X2 Rf md := by rw [eX2]; exact lsR_own hR
  refine lv_aload_n (pc := 5) hx hb dX9_nextChange_5 rfl (lv_at hl 0 rfl) ?_
  refine lv_iload_n (pc := 6) hx hb dX9_nextChange_6 rfl (lv_at hl 1 rfl) ?_
  refine zkIp (pc := 7) (zrV (As := [.int (iI a)]) hx hb hml hown hG hw (c_X9_isPlace l Γ K X2 Rf md a  (by (first | assumption | omega)) (by (first | assumption | omega))) (T := TX9) hmd rfl cb_X9_isPlace wl_X9_161 rfl ⟨Nat.le_of_ble_eq_true rfl, Nat.le_of_ble_eq_true rfl⟩ hl.1 rfl (Nat.le_of_ble_eq_true rfl) dX9_nextChange_7 ⟨Nat.zero_le _, Nat.zero_le _⟩) hw (fun r7 H locs hp7 hw => ?_)
  subst hp7
  refine zif_eq (pc := 10) hx hb 29 (by omega) dX9_nextChange_10 (by decide) (fun c10 => ?_) (fun c10 => ?_)
  · skip
    replace c10 := it0 c10
    refine lv_aload_n (pc := 29) hx hb dX9_nextChange_29 rfl (lv_at hl 0 rfl) ?_
    refine ziconst (pc := 30) (n := 1) hx hb dX9_nextChange_30 ?_
    refine zkIx (pc := 31) (zrV (As := [.int (iI 1)]) hx hb hml hown hG hw (c_X9_refuse l Γ K X2 Rf md 1  (by (first | assumption | omega))) (T := TX9) hmd rfl cb_X9_refuse wl_X9_123 rfl ⟨Nat.le_of_ble_eq_true rfl, Nat.le_of_ble_eq_true rfl⟩ hl.1 rfl (Nat.le_of_ble_eq_true rfl) dX9_nextChange_31 ⟨Nat.zero_le _, Nat.zero_le _⟩) hw (fun r31 X31 H locs hp31 hw => ?_)
    obtain ⟨hrf31, eX31⟩ := hp31
    exact zretI (pc := 34) hx hb hlocks hr hw (Nat.zero_le _) (Nat.zero_le _) dX9_nextChange_34 (by first | (rw [eX31]; refine ⟨fun hz => by (exfalso; revert hz; (unfold cdPlM; (repeat' split) <;> omega)), by rw [up2_s]; symm; (unfold cdPlM; (repeat' split) <;> omega), ⟨ρ, hR2.own ⟨rfl, by decide⟩, hf2.trans (frR_own hR2)⟩, hls2.trans (lsR_own hR2), by rw [up2_k (by decide), h02 36 (Or.inr rfl)]; exact e362⟩) | exact ⟨fun _ => by exact hv23, by rw [h023 0 (Or.inl rfl), e02]; symm; (unfold cdPlM; (repeat' split) <;> omega), ⟨ρ23, hR23, hf23⟩, hls23, by rw [h023 36 (Or.inr rfl)]; exact e362⟩)
  · skip
    replace c10 := it1 c10
    refine lv_iload_n (pc := 13) hx hb dX9_nextChange_13 rfl (lv_at hl 2 rfl) ?_
    refine zkIp (pc := 14) (zrS (As := [.int (iI mt)]) hx hb hml hown hG hw (c_X9_isMoment l Γ K X2 Rf mt  (by (first | assumption | omega))) cb_X9_isMoment wl_X9_195 rfl ⟨Nat.le_of_ble_eq_true rfl, Nat.le_of_ble_eq_true rfl⟩ hl.1 rfl (Nat.le_of_ble_eq_true rfl) dX9_nextChange_14 ⟨Nat.zero_le _, Nat.zero_le _⟩) hw (fun r14 H locs hp14 hw => ?_)
    subst hp14
    refine zif_eq (pc := 17) hx hb 29 (by omega) dX9_nextChange_17 (by decide) (fun c17 => ?_) (fun c17 => ?_)
    · skip
      replace c17 := it0 c17
      refine lv_aload_n (pc := 29) hx hb dX9_nextChange_29 rfl (lv_at hl 0 rfl) ?_
      refine ziconst (pc := 30) (n := 1) hx hb dX9_nextChange_30 ?_
      refine zkIx (pc := 31) (zrV (As := [.int (iI 1)]) hx hb hml hown hG hw (c_X9_refuse l Γ K X2 Rf md 1  (by (first | assumption | omega))) (T := TX9) hmd rfl cb_X9_refuse wl_X9_123 rfl ⟨Nat.le_of_ble_eq_true rfl, Nat.le_of_ble_eq_true rfl⟩ hl.1 rfl (Nat.le_of_ble_eq_true rfl) dX9_nextChange_31 ⟨Nat.zero_le _, Nat.zero_le _⟩) hw (fun r31 X31 H locs hp31 hw => ?_)
      obtain ⟨hrf31, eX31⟩ := hp31
      exact zretI (pc := 34) hx hb hlocks hr hw (Nat.zero_le _) (Nat.zero_le _) dX9_nextChange_34 (by first | (rw [eX31]; refine ⟨fun hz => by (exfalso; revert hz; (unfold cdPlM; (repeat' split) <;> omega)), by rw [up2_s]; symm; (unfold cdPlM; (repeat' split) <;> omega), ⟨ρ, hR2.own ⟨rfl, by decide⟩, hf2.trans (frR_own hR2)⟩, hls2.trans (lsR_own hR2), by rw [up2_k (by decide), h02 36 (Or.inr rfl)]; exact e362⟩) | exact ⟨fun _ => by exact hv23, by rw [h023 0 (Or.inl rfl), e02]; symm; (unfold cdPlM; (repeat' split) <;> omega), ⟨ρ23, hR23, hf23⟩, hls23, by rw [h023 36 (Or.inr rfl)]; exact e362⟩)
    · skip
      replace c17 := it1 c17
      refine lv_aload_n (pc := 20) hx hb dX9_nextChange_20 rfl (lv_at hl 0 rfl) ?_
      refine lv_iload_n (pc := 21) hx hb dX9_nextChange_21 rfl (lv_at hl 1 rfl) ?_
      refine lv_iload_n (pc := 22) hx hb dX9_nextChange_22 rfl (lv_at hl 2 rfl) ?_
      have hdl23 := hls2.1 a.toNat
      have hdc23 := dlC_le (X := X2) (Rf := Rf) (md := md) (p := a.toNat)
      refine zkI (pc := 23) (zrV (As := [.int (iI a), .int (iI mt)]) hx hb hml hown hG hw (c_X9_changeBehind l Γ K X2 Rf md a mt (ρ) M (by (first | assumption | omega)) (by (first | assumption | omega)) (by (first | assumption | omega)) (by (first | assumption | omega))) (T := TX9) hmd rfl cb_X9_changeBehind wl_X9_201 rfl ⟨Nat.le_of_ble_eq_true rfl, Nat.le_of_ble_eq_true rfl⟩ hl.1 rfl (Nat.le_of_ble_eq_true rfl) dX9_nextChange_23 ⟨(by show 0 + (min 5 (dlC X2 Rf md a.toNat)) ≤ 5; omega), (by show 0 + (dlC X2 Rf md a.toNat) ≤ 5000; omega)⟩) hw (fun r23 K23 X23 R23 H locs hp23 hw => ?_)
      obtain ⟨hv23, ρ23, ⟨hR23, hg23, hz23⟩, ⟨hs23, hd23⟩, hy23⟩ := hp23
      obtain ⟨hmd23, hlm23⟩ := id hR23.1
      have hf23 := hf2.trans hg23
      have h023 := fun q hq => (hz23 q hq).trans (h02 q hq)
      have hls23 := hls2.trans hs23
      refine lv_goto (pc := 26) (tgt := 34) hx hb dX9_nextChange_26 (by decide) ?_
      exact zretI (pc := 34) hx hb hlocks hr hw (by show 0 + (min 5 (dlC X2 Rf md a.toNat)) ≤ 5; omega) (by show 0 + (dlC X2 Rf md a.toNat) ≤ 5000; omega) dX9_nextChange_34 (by first | (rw [eX23]; refine ⟨fun hz => by (exfalso; revert hz; (unfold cdPlM; (repeat' split) <;> omega)), by rw [up2_s]; symm; (unfold cdPlM; (repeat' split) <;> omega), ⟨ρ, hR2.own ⟨rfl, by decide⟩, hf2.trans (frR_own hR2)⟩, hls2.trans (lsR_own hR2), by rw [up2_k (by decide), h02 36 (Or.inr rfl)]; exact e362⟩) | exact ⟨fun _ => by exact hv23, by rw [h023 0 (Or.inl rfl), e02]; symm; (unfold cdPlM; (repeat' split) <;> omega), ⟨ρ23, hR23, hf23⟩, hls23, by rw [h023 36 (Or.inr rfl)]; exact e362⟩)
set_option maxHeartbeats 4000000 in
set_option maxRecDepth 100000 in
theorem c_X9_momentOf (l : Launch) (Γ : zG) (K : zK) (X : zX) (Rf : zR) (md : Nat) (a : Int) (lo : Int) (ρ : zL) (M : zM) (hR : repR ρ K X Rf md M) (hM : okM M) (h1 : fit a ∧ fit lo) : Ct l yX9_momentOf cX9_momentOf 3 (some .int) 90 5 5000 Γ [.ref md, .int (iI a), .int (iI lo)] K X Rf (pI (fun (r : Int) (K' : zK) (X' : zX) (R' : zR) => (cdPl M a = 0 → r = momF (savM M a.toNat) (M 6 a.toNat) lo) ∧ X' md 0 = cdPl M a ∧ (∃ ρ', repR ρ' K' X' R' md M ∧ frR ρ K X Rf ρ' K' X' R') ∧ lsR X Rf X' R' md ∧ X' md 36 = X md 36)) := by
  refine Ct.of (by decide +kernel) (Nat.le_of_ble_eq_true rfl) ?_
  intro p e s m below meth c ls hx hb hr hml hown hG hlocks hname hw hl
  have hl : lv_has ls 3 [(0, .ref md), (1, .int (iI a)), (2, .int (iI lo))] := hl
  obtain ⟨hmd, hlmd⟩ := id hR.1
  obtain ⟨⟨hb1, hb2, hb3, hb4⟩, hokP, hokL, hokS, hokW, hokF⟩ := id hM
  have hq1 : X md 1 = M 40 1 := hR.2.1 1 rfl
  have hq5 : X md 5 = M 40 5 := hR.2.1 5 rfl
  have hq16 : X md 16 = M 40 16 := hR.2.1 16 rfl
  have hq25 : X md 25 = M 40 25 := hR.2.1 25 rfl
  have hq26 : X md 26 = M 40 26 := hR.2.1 26 rfl
  have hq27 : X md 27 = M 40 27 := hR.2.1 27 rfl
  have hq28 : X md 28 = M 40 28 := hR.2.1 28 rfl
  have hq29 : X md 29 = M 40 29 := hR.2.1 29 rfl
  refine lv_aload_n (pc := 0) hx hb dX9_momentOf_0 rfl (lv_at hl 0 rfl) ?_
  refine ziconst (pc := 1) (n := 0) hx hb dX9_momentOf_1 ?_
  refine zputI (pc := 2) hx hb hG hown hw hmd (T := TX9) rfl 0 (by decide) rfl wf_X9_87 rfl (by decide +kernel) rfl dX9_momentOf_2 (fun H locs hw => ?_)
  obtain ⟨X2, eX2⟩ : ∃ Y : zX, Y = up2 X md 0 0 := ⟨_, rfl⟩
  rw [← eX2] at hw
  have hz5 : X2 md 5 = M 40 5 := by rw [eX2, up2_k (by decide)]; exact hq5
  have hR2 : repR ρ K X2 Rf md M := by rw [eX2]; exact hR.own ⟨rfl, by decide⟩
  have hf2 : frR ρ K X Rf ρ K X2 Rf := by rw [eX2]; exact frR_own hR
  have h02 : ∀ q, q = 0 ∨ q = 36 → X2 md q = X2 md q := fun _ _ => rfl
  have e02 : X2 md 0 = 0 := by rw [eX2]; exact up2_s
  have e362 : X2 md 36 = X md 36 := by rw [eX2]; exact up2_k (by decide)
  have hls2 : lsR X Rf X2 Rf md := by rw [eX2]; exact lsR_own hR
  refine lv_aload_n (pc := 5) hx hb dX9_momentOf_5 rfl (lv_at hl 0 rfl) ?_
  refine lv_iload_n (pc := 6) hx hb dX9_momentOf_6 rfl (lv_at hl 1 rfl) ?_
  refine zkIp (pc := 7) (zrV (As := [.int (iI a)]) hx hb hml hown hG hw (c_X9_isPlace l Γ K X2 Rf md a  (by (first | assumption | omega)) (by (first | assumption | omega))) (T := TX9) hmd rfl cb_X9_isPlace wl_X9_161 rfl ⟨Nat.le_of_ble_eq_true rfl, Nat.le_of_ble_eq_true rfl⟩ hl.1 rfl (Nat.le_of_ble_eq_true rfl) dX9_momentOf_7 ⟨Nat.zero_le _, Nat.zero_le _⟩) hw (fun r7 H locs hp7 hw => ?_)
  subst hp7
  refine zif_eq (pc := 10) hx hb 22 (by omega) dX9_momentOf_10 (by decide) (fun c10 => ?_) (fun c10 => ?_)
  · skip
    replace c10 := it0 c10
    refine lv_aload_n (pc := 22) hx hb dX9_momentOf_22 rfl (lv_at hl 0 rfl) ?_
    refine ziconst (pc := 23) (n := 1) hx hb dX9_momentOf_23 ?_
    refine zkIx (pc := 24) (zrV (As := [.int (iI 1)]) hx hb hml hown hG hw (c_X9_refuse l Γ K X2 Rf md 1  (by (first | assumption | omega))) (T := TX9) hmd rfl cb_X9_refuse wl_X9_123 rfl ⟨Nat.le_of_ble_eq_true rfl, Nat.le_of_ble_eq_true rfl⟩ hl.1 rfl (Nat.le_of_ble_eq_true rfl) dX9_momentOf_24 ⟨Nat.zero_le _, Nat.zero_le _⟩) hw (fun r24 X24 H locs hp24 hw => ?_)
    obtain ⟨hrf24, eX24⟩ := hp24
    exact zretI (pc := 27) hx hb hlocks hr hw (Nat.zero_le _) (Nat.zero_le _) dX9_momentOf_27 (by first | (rw [eX24]; refine ⟨fun hz => by (exfalso; revert hz; (unfold cdPl; (repeat' split) <;> omega)), by rw [up2_s]; symm; (unfold cdPl; (repeat' split) <;> omega), ⟨ρ, hR2.own ⟨rfl, by decide⟩, hf2.trans (frR_own hR2)⟩, hls2.trans (lsR_own hR2), by rw [up2_k (by decide), h02 36 (Or.inr rfl)]; exact e362⟩) | exact ⟨fun _ => by exact hv16, by rw [h016 0 (Or.inl rfl), e02]; symm; (unfold cdPl; (repeat' split) <;> omega), ⟨ρ16, hR16, hf16⟩, hls16, by rw [h016 36 (Or.inr rfl)]; exact e362⟩)
  · skip
    replace c10 := it1 c10
    refine lv_aload_n (pc := 13) hx hb dX9_momentOf_13 rfl (lv_at hl 0 rfl) ?_
    refine lv_iload_n (pc := 14) hx hb dX9_momentOf_14 rfl (lv_at hl 1 rfl) ?_
    refine lv_iload_n (pc := 15) hx hb dX9_momentOf_15 rfl (lv_at hl 2 rfl) ?_
    have hdl16 := hls2.1 a.toNat
    have hdc16 := dlC_le (X := X2) (Rf := Rf) (md := md) (p := a.toNat)
    refine zkI (pc := 16) (zrV (As := [.int (iI a), .int (iI lo)]) hx hb hml hown hG hw (c_X9_momentFor l Γ K X2 Rf md a lo (ρ) M (by (first | assumption | omega)) (by (first | assumption | omega)) (by (first | assumption | omega)) (by (first | assumption | omega))) (T := TX9) hmd rfl cb_X9_momentFor wl_X9_225 rfl ⟨Nat.le_of_ble_eq_true rfl, Nat.le_of_ble_eq_true rfl⟩ hl.1 rfl (Nat.le_of_ble_eq_true rfl) dX9_momentOf_16 ⟨(by show 0 + (min 5 (dlC X2 Rf md a.toNat)) ≤ 5; omega), (by show 0 + (dlC X2 Rf md a.toNat) ≤ 5000; omega)⟩) hw (fun r16 K16 X16 R16 H locs hp16 hw => ?_)
    obtain ⟨hv16, ρ16, ⟨hR16, hg16, hz16⟩, ⟨hs16, hd16⟩, hy16⟩ := hp16
    obtain ⟨hmd16, hlm16⟩ := id hR16.1
    have hf16 := hf2.trans hg16
    have h016 := fun q hq => (hz16 q hq).trans (h02 q hq)
    have hls16 := hls2.trans hs16
    refine lv_goto (pc := 19) (tgt := 27) hx hb dX9_momentOf_19 (by decide) ?_
    exact zretI (pc := 27) hx hb hlocks hr hw (by show 0 + (min 5 (dlC X2 Rf md a.toNat)) ≤ 5; omega) (by show 0 + (dlC X2 Rf md a.toNat) ≤ 5000; omega) dX9_momentOf_27 (by first | (rw [eX16]; refine ⟨fun hz => by (exfalso; revert hz; (unfold cdPl; (repeat' split) <;> omega)), by rw [up2_s]; symm; (unfold cdPl; (repeat' split) <;> omega), ⟨ρ, hR2.own ⟨rfl, by decide⟩, hf2.trans (frR_own hR2)⟩, hls2.trans (lsR_own hR2), by rw [up2_k (by decide), h02 36 (Or.inr rfl)]; exact e362⟩) | exact ⟨fun _ => by exact hv16, by rw [h016 0 (Or.inl rfl), e02]; symm; (unfold cdPl; (repeat' split) <;> omega), ⟨ρ16, hR16, hf16⟩, hls16, by rw [h016 36 (Or.inr rfl)]; exact e362⟩)
set_option maxHeartbeats 4000000 in
set_option maxRecDepth 100000 in
theorem c_X9_showsOften (l : Launch) (Γ : zG) (K : zK) (X : zX) (Rf : zR) (md : Nat) (a : Int) (lo : Int) (ρ : zL) (M : zM) (hR : repR ρ K X Rf md M) (hM : okM M) (h1 : fit a ∧ fit lo) : Ct l yX9_showsOften cX9_showsOften 3 (some .int) 89 5 5000 Γ [.ref md, .int (iI a), .int (iI lo)] K X Rf (pI (fun (r : Int) (K' : zK) (X' : zX) (R' : zR) => (cdPl M a = 0 → r = shN (savM M a.toNat) (M 6 a.toNat) lo) ∧ X' md 0 = cdPl M a ∧ (∃ ρ', repR ρ' K' X' R' md M ∧ frR ρ K X Rf ρ' K' X' R') ∧ lsR X Rf X' R' md ∧ X' md 36 = X md 36)) := by
  refine Ct.of (by decide +kernel) (Nat.le_of_ble_eq_true rfl) ?_
  intro p e s m below meth c ls hx hb hr hml hown hG hlocks hname hw hl
  have hl : lv_has ls 3 [(0, .ref md), (1, .int (iI a)), (2, .int (iI lo))] := hl
  obtain ⟨hmd, hlmd⟩ := id hR.1
  obtain ⟨⟨hb1, hb2, hb3, hb4⟩, hokP, hokL, hokS, hokW, hokF⟩ := id hM
  have hq1 : X md 1 = M 40 1 := hR.2.1 1 rfl
  have hq5 : X md 5 = M 40 5 := hR.2.1 5 rfl
  have hq16 : X md 16 = M 40 16 := hR.2.1 16 rfl
  have hq25 : X md 25 = M 40 25 := hR.2.1 25 rfl
  have hq26 : X md 26 = M 40 26 := hR.2.1 26 rfl
  have hq27 : X md 27 = M 40 27 := hR.2.1 27 rfl
  have hq28 : X md 28 = M 40 28 := hR.2.1 28 rfl
  have hq29 : X md 29 = M 40 29 := hR.2.1 29 rfl
  refine lv_aload_n (pc := 0) hx hb dX9_showsOften_0 rfl (lv_at hl 0 rfl) ?_
  refine ziconst (pc := 1) (n := 0) hx hb dX9_showsOften_1 ?_
  refine zputI (pc := 2) hx hb hG hown hw hmd (T := TX9) rfl 0 (by decide) rfl wf_X9_87 rfl (by decide +kernel) rfl dX9_showsOften_2 (fun H locs hw => ?_)
  obtain ⟨X2, eX2⟩ : ∃ Y : zX, Y = up2 X md 0 0 := ⟨_, rfl⟩
  rw [← eX2] at hw
  have hz5 : X2 md 5 = M 40 5 := by rw [eX2, up2_k (by decide)]; exact hq5
  have hR2 : repR ρ K X2 Rf md M := by rw [eX2]; exact hR.own ⟨rfl, by decide⟩
  have hf2 : frR ρ K X Rf ρ K X2 Rf := by rw [eX2]; exact frR_own hR
  have h02 : ∀ q, q = 0 ∨ q = 36 → X2 md q = X2 md q := fun _ _ => rfl
  have e02 : X2 md 0 = 0 := by rw [eX2]; exact up2_s
  have e362 : X2 md 36 = X md 36 := by rw [eX2]; exact up2_k (by decide)
  have hls2 : lsR X Rf X2 Rf md := by rw [eX2]; exact lsR_own hR
  refine lv_aload_n (pc := 5) hx hb dX9_showsOften_5 rfl (lv_at hl 0 rfl) ?_
  refine lv_iload_n (pc := 6) hx hb dX9_showsOften_6 rfl (lv_at hl 1 rfl) ?_
  refine zkIp (pc := 7) (zrV (As := [.int (iI a)]) hx hb hml hown hG hw (c_X9_isPlace l Γ K X2 Rf md a  (by (first | assumption | omega)) (by (first | assumption | omega))) (T := TX9) hmd rfl cb_X9_isPlace wl_X9_161 rfl ⟨Nat.le_of_ble_eq_true rfl, Nat.le_of_ble_eq_true rfl⟩ hl.1 rfl (Nat.le_of_ble_eq_true rfl) dX9_showsOften_7 ⟨Nat.zero_le _, Nat.zero_le _⟩) hw (fun r7 H locs hp7 hw => ?_)
  subst hp7
  refine zif_ne (pc := 10) hx hb 19 (by omega) dX9_showsOften_10 (by decide) (fun c10 => ?_) (fun c10 => ?_)
  · skip
    replace c10 := it1 c10
    refine lv_aload_n (pc := 19) hx hb dX9_showsOften_19 rfl (lv_at hl 0 rfl) ?_
    refine lv_iload_n (pc := 20) hx hb dX9_showsOften_20 rfl (lv_at hl 1 rfl) ?_
    refine lv_iload_n (pc := 21) hx hb dX9_showsOften_21 rfl (lv_at hl 2 rfl) ?_
    refine zi2l (pc := 22) hx hb (by omega) dX9_showsOften_22 ?_
    have hdl23 := hls2.1 a.toNat
    have hdc23 := dlC_le (X := X2) (Rf := Rf) (md := md) (p := a.toNat)
    refine zkV (pc := 23) (zrV (As := [.int (iI a), .long (lJ lo)]) hx hb hml hown hG hw (c_X9_find l Γ K X2 Rf md a lo (ρ) M (by (first | assumption | omega)) (by (first | assumption | omega)) (by (first | assumption | omega)) (by (first | assumption | omega))) (T := TX9) hmd rfl cb_X9_find wl_X9_221 rfl ⟨Nat.le_of_ble_eq_true rfl, Nat.le_of_ble_eq_true rfl⟩ hl.1 rfl (Nat.le_of_ble_eq_true rfl) dX9_showsOften_23 ⟨(by show 0 + (min 5 (dlC X2 Rf md a.toNat)) ≤ 5; omega), (by show 0 + (dlC X2 Rf md a.toNat) ≤ 5000; omega)⟩) hw (fun K23 X23 R23 H locs hp23 hw => ?_)
    obtain ⟨⟨v12, v13, v14, v15⟩, ρ23, ⟨hR23, hg23, hz23⟩, ⟨hs23, hd23⟩, hy23⟩ := hp23
    obtain ⟨hmd23, hlm23⟩ := id hR23.1
    have hf23 := hf2.trans hg23
    have h023 := fun q hq => (hz23 q hq).trans (h02 q hq)
    have hls23 := hls2.trans hs23
    refine lv_aload_n (pc := 26) hx hb dX9_showsOften_26 rfl (lv_at hl 0 rfl) ?_
    refine zgetI (pc := 27) hx hb hG hown hw hmd23 (T := TX9) rfl 14 (by decide) rfl wf_X9_210 rfl dX9_showsOften_27 ?_
    exact zretI (pc := 30) hx hb hlocks hr hw (by show 0 + (min 5 (dlC X2 Rf md a.toNat)) ≤ 5; omega) (by show 0 + (dlC X2 Rf md a.toNat) ≤ 5000; omega) dX9_showsOften_30 (by first | (rw [eX23]; refine ⟨fun hz => by (exfalso; revert hz; (unfold cdPl; (repeat' split) <;> omega)), by rw [up2_s]; symm; (unfold cdPl; (repeat' split) <;> omega), ⟨ρ, hR2.own ⟨rfl, by decide⟩, hf2.trans (frR_own hR2)⟩, hls2.trans (lsR_own hR2), by rw [up2_k (by decide), h02 36 (Or.inr rfl)]; exact e362⟩) | exact ⟨fun _ => by exact v14, by rw [h023 0 (Or.inl rfl), e02]; symm; (unfold cdPl; (repeat' split) <;> omega), ⟨ρ23, hR23, hf23⟩, hls23, by rw [h023 36 (Or.inr rfl)]; exact e362⟩)
  · skip
    replace c10 := it0 c10
    refine lv_aload_n (pc := 13) hx hb dX9_showsOften_13 rfl (lv_at hl 0 rfl) ?_
    refine ziconst (pc := 14) (n := 1) hx hb dX9_showsOften_14 ?_
    refine zkIx (pc := 15) (zrV (As := [.int (iI 1)]) hx hb hml hown hG hw (c_X9_refuse l Γ K X2 Rf md 1  (by (first | assumption | omega))) (T := TX9) hmd rfl cb_X9_refuse wl_X9_123 rfl ⟨Nat.le_of_ble_eq_true rfl, Nat.le_of_ble_eq_true rfl⟩ hl.1 rfl (Nat.le_of_ble_eq_true rfl) dX9_showsOften_15 ⟨Nat.zero_le _, Nat.zero_le _⟩) hw (fun r15 X15 H locs hp15 hw => ?_)
    obtain ⟨hrf15, eX15⟩ := hp15
    exact zretI (pc := 18) hx hb hlocks hr hw (Nat.zero_le _) (Nat.zero_le _) dX9_showsOften_18 (by first | (rw [eX15]; refine ⟨fun hz => by (exfalso; revert hz; (unfold cdPl; (repeat' split) <;> omega)), by rw [up2_s]; symm; (unfold cdPl; (repeat' split) <;> omega), ⟨ρ, hR2.own ⟨rfl, by decide⟩, hf2.trans (frR_own hR2)⟩, hls2.trans (lsR_own hR2), by rw [up2_k (by decide), h02 36 (Or.inr rfl)]; exact e362⟩) | exact ⟨fun _ => by exact v14, by rw [h023 0 (Or.inl rfl), e02]; symm; (unfold cdPl; (repeat' split) <;> omega), ⟨ρ23, hR23, hf23⟩, hls23, by rw [h023 36 (Or.inr rfl)]; exact e362⟩)
set_option maxHeartbeats 4000000 in
set_option maxRecDepth 100000 in
theorem c_X9_lastMomentOf (l : Launch) (Γ : zG) (K : zK) (X : zX) (Rf : zR) (md : Nat) (a : Int) (lo : Int) (ρ : zL) (M : zM) (hR : repR ρ K X Rf md M) (hM : okM M) (h1 : fit a ∧ fit lo) : Ct l yX9_lastMomentOf cX9_lastMomentOf 3 (some .int) 89 5 5000 Γ [.ref md, .int (iI a), .int (iI lo)] K X Rf (pI (fun (r : Int) (K' : zK) (X' : zX) (R' : zR) => (cdPl M a = 0 → r = shL (savM M a.toNat) (M 6 a.toNat) lo) ∧ X' md 0 = cdPl M a ∧ (∃ ρ', repR ρ' K' X' R' md M ∧ frR ρ K X Rf ρ' K' X' R') ∧ lsR X Rf X' R' md ∧ X' md 36 = X md 36)) := by
  refine Ct.of (by decide +kernel) (Nat.le_of_ble_eq_true rfl) ?_
  intro p e s m below meth c ls hx hb hr hml hown hG hlocks hname hw hl
  have hl : lv_has ls 3 [(0, .ref md), (1, .int (iI a)), (2, .int (iI lo))] := hl
  obtain ⟨hmd, hlmd⟩ := id hR.1
  obtain ⟨⟨hb1, hb2, hb3, hb4⟩, hokP, hokL, hokS, hokW, hokF⟩ := id hM
  have hq1 : X md 1 = M 40 1 := hR.2.1 1 rfl
  have hq5 : X md 5 = M 40 5 := hR.2.1 5 rfl
  have hq16 : X md 16 = M 40 16 := hR.2.1 16 rfl
  have hq25 : X md 25 = M 40 25 := hR.2.1 25 rfl
  have hq26 : X md 26 = M 40 26 := hR.2.1 26 rfl
  have hq27 : X md 27 = M 40 27 := hR.2.1 27 rfl
  have hq28 : X md 28 = M 40 28 := hR.2.1 28 rfl
  have hq29 : X md 29 = M 40 29 := hR.2.1 29 rfl
  refine lv_aload_n (pc := 0) hx hb dX9_lastMomentOf_0 rfl (lv_at hl 0 rfl) ?_
  refine ziconst (pc := 1) (n := 0) hx hb dX9_lastMomentOf_1 ?_
  refine zputI (pc := 2) hx hb hG hown hw hmd (T := TX9) rfl 0 (by decide) rfl wf_X9_87 rfl (by decide +kernel) rfl dX9_lastMomentOf_2 (fun H locs hw => ?_)
  obtain ⟨X2, eX2⟩ : ∃ Y : zX, Y = up2 X md 0 0 := ⟨_, rfl⟩
  rw [← eX2] at hw
  have hz5 : X2 md 5 = M 40 5 := by rw [eX2, up2_k (by decide)]; exact hq5
  have hR2 : repR ρ K X2 Rf md M := by rw [eX2]; exact hR.own ⟨rfl, by decide⟩
  have hf2 : frR ρ K X Rf ρ K X2 Rf := by rw [eX2]; exact frR_own hR
  have h02 : ∀ q, q = 0 ∨ q = 36 → X2 md q = X2 md q := fun _ _ => rfl
  have e02 : X2 md 0 = 0 := by rw [eX2]; exact up2_s
  have e362 : X2 md 36 = X md 36 := by rw [eX2]; exact up2_k (by decide)
  have hls2 : lsR X Rf X2 Rf md := by rw [eX2]; exact lsR_own hR
  refine lv_aload_n (pc := 5) hx hb dX9_lastMomentOf_5 rfl (lv_at hl 0 rfl) ?_
  refine lv_iload_n (pc := 6) hx hb dX9_lastMomentOf_6 rfl (lv_at hl 1 rfl) ?_
  refine zkIp (pc := 7) (zrV (As := [.int (iI a)]) hx hb hml hown hG hw (c_X9_isPlace l Γ K X2 Rf md a  (by (first | assumption | omega)) (by (first | assumption | omega))) (T := TX9) hmd rfl cb_X9_isPlace wl_X9_161 rfl ⟨Nat.le_of_ble_eq_true rfl, Nat.le_of_ble_eq_true rfl⟩ hl.1 rfl (Nat.le_of_ble_eq_true rfl) dX9_lastMomentOf_7 ⟨Nat.zero_le _, Nat.zero_le _⟩) hw (fun r7 H locs hp7 hw => ?_)
  subst hp7
  refine zif_ne (pc := 10) hx hb 19 (by omega) dX9_lastMomentOf_10 (by decide) (fun c10 => ?_) (fun c10 => ?_)
  · skip
    replace c10 := it1 c10
    refine lv_aload_n (pc := 19) hx hb dX9_lastMomentOf_19 rfl (lv_at hl 0 rfl) ?_
    refine lv_iload_n (pc := 20) hx hb dX9_lastMomentOf_20 rfl (lv_at hl 1 rfl) ?_
    refine lv_iload_n (pc := 21) hx hb dX9_lastMomentOf_21 rfl (lv_at hl 2 rfl) ?_
    refine zi2l (pc := 22) hx hb (by omega) dX9_lastMomentOf_22 ?_
    have hdl23 := hls2.1 a.toNat
    have hdc23 := dlC_le (X := X2) (Rf := Rf) (md := md) (p := a.toNat)
    refine zkV (pc := 23) (zrV (As := [.int (iI a), .long (lJ lo)]) hx hb hml hown hG hw (c_X9_find l Γ K X2 Rf md a lo (ρ) M (by (first | assumption | omega)) (by (first | assumption | omega)) (by (first | assumption | omega)) (by (first | assumption | omega))) (T := TX9) hmd rfl cb_X9_find wl_X9_221 rfl ⟨Nat.le_of_ble_eq_true rfl, Nat.le_of_ble_eq_true rfl⟩ hl.1 rfl (Nat.le_of_ble_eq_true rfl) dX9_lastMomentOf_23 ⟨(by show 0 + (min 5 (dlC X2 Rf md a.toNat)) ≤ 5; omega), (by show 0 + (dlC X2 Rf md a.toNat) ≤ 5000; omega)⟩) hw (fun K23 X23 R23 H locs hp23 hw => ?_)
    obtain ⟨⟨v12, v13, v14, v15⟩, ρ23, ⟨hR23, hg23, hz23⟩, ⟨hs23, hd23⟩, hy23⟩ := hp23
    obtain ⟨hmd23, hlm23⟩ := id hR23.1
    have hf23 := hf2.trans hg23
    have h023 := fun q hq => (hz23 q hq).trans (h02 q hq)
    have hls23 := hls2.trans hs23
    refine lv_aload_n (pc := 26) hx hb dX9_lastMomentOf_26 rfl (lv_at hl 0 rfl) ?_
    refine zgetI (pc := 27) hx hb hG hown hw hmd23 (T := TX9) rfl 13 (by decide) rfl wf_X9_207 rfl dX9_lastMomentOf_27 ?_
    exact zretI (pc := 30) hx hb hlocks hr hw (by show 0 + (min 5 (dlC X2 Rf md a.toNat)) ≤ 5; omega) (by show 0 + (dlC X2 Rf md a.toNat) ≤ 5000; omega) dX9_lastMomentOf_30 (by first | (rw [eX23]; refine ⟨fun hz => by (exfalso; revert hz; (unfold cdPl; (repeat' split) <;> omega)), by rw [up2_s]; symm; (unfold cdPl; (repeat' split) <;> omega), ⟨ρ, hR2.own ⟨rfl, by decide⟩, hf2.trans (frR_own hR2)⟩, hls2.trans (lsR_own hR2), by rw [up2_k (by decide), h02 36 (Or.inr rfl)]; exact e362⟩) | exact ⟨fun _ => by exact v13, by rw [h023 0 (Or.inl rfl), e02]; symm; (unfold cdPl; (repeat' split) <;> omega), ⟨ρ23, hR23, hf23⟩, hls23, by rw [h023 36 (Or.inr rfl)]; exact e362⟩)
  · skip
    replace c10 := it0 c10
    refine lv_aload_n (pc := 13) hx hb dX9_lastMomentOf_13 rfl (lv_at hl 0 rfl) ?_
    refine ziconst (pc := 14) (n := 1) hx hb dX9_lastMomentOf_14 ?_
    refine zkIx (pc := 15) (zrV (As := [.int (iI 1)]) hx hb hml hown hG hw (c_X9_refuse l Γ K X2 Rf md 1  (by (first | assumption | omega))) (T := TX9) hmd rfl cb_X9_refuse wl_X9_123 rfl ⟨Nat.le_of_ble_eq_true rfl, Nat.le_of_ble_eq_true rfl⟩ hl.1 rfl (Nat.le_of_ble_eq_true rfl) dX9_lastMomentOf_15 ⟨Nat.zero_le _, Nat.zero_le _⟩) hw (fun r15 X15 H locs hp15 hw => ?_)
    obtain ⟨hrf15, eX15⟩ := hp15
    exact zretI (pc := 18) hx hb hlocks hr hw (Nat.zero_le _) (Nat.zero_le _) dX9_lastMomentOf_18 (by first | (rw [eX15]; refine ⟨fun hz => by (exfalso; revert hz; (unfold cdPl; (repeat' split) <;> omega)), by rw [up2_s]; symm; (unfold cdPl; (repeat' split) <;> omega), ⟨ρ, hR2.own ⟨rfl, by decide⟩, hf2.trans (frR_own hR2)⟩, hls2.trans (lsR_own hR2), by rw [up2_k (by decide), h02 36 (Or.inr rfl)]; exact e362⟩) | exact ⟨fun _ => by exact v13, by rw [h023 0 (Or.inl rfl), e02]; symm; (unfold cdPl; (repeat' split) <;> omega), ⟨ρ23, hR23, hf23⟩, hls23, by rw [h023 36 (Or.inr rfl)]; exact e362⟩)
set_option maxHeartbeats 4000000 in
set_option maxRecDepth 100000 in
theorem c_X9_ahead (l : Launch) (Γ : zG) (K : zK) (X : zX) (Rf : zR) (md : Nat) (a : Int) (b9 : Int) (mt : Int) (ρ : zL) (M : zM) (hR : repR ρ K X Rf md M) (hM : okM M) (h1 : fit a ∧ fit b9 ∧ fit mt) : Ct l yX9_ahead cX9_ahead 4 (some .int) 88 10 10000 Γ [.ref md, .int (iI a), .int (iI b9), .int (iI mt)] K X Rf (pI (fun (r : Int) (K' : zK) (X' : zX) (R' : zR) => (cdPlPlM M a b9 mt = 0 → r = locM M a mt - locM M b9 mt) ∧ X' md 0 = cdPlPlM M a b9 mt ∧ (∃ ρ', repR ρ' K' X' R' md M ∧ frR ρ K X Rf ρ' K' X' R') ∧ lsR X Rf X' R' md ∧ X' md 36 = X md 36)) := by
  refine Ct.of (by decide +kernel) (Nat.le_of_ble_eq_true rfl) ?_
  intro p e s m below meth c ls hx hb hr hml hown hG hlocks hname hw hl
  have hl : lv_has ls 4 [(0, .ref md), (1, .int (iI a)), (2, .int (iI b9)), (3, .int (iI mt))] := hl
  obtain ⟨hmd, hlmd⟩ := id hR.1
  obtain ⟨⟨hb1, hb2, hb3, hb4⟩, hokP, hokL, hokS, hokW, hokF⟩ := id hM
  have hq1 : X md 1 = M 40 1 := hR.2.1 1 rfl
  have hq5 : X md 5 = M 40 5 := hR.2.1 5 rfl
  have hq16 : X md 16 = M 40 16 := hR.2.1 16 rfl
  have hq25 : X md 25 = M 40 25 := hR.2.1 25 rfl
  have hq26 : X md 26 = M 40 26 := hR.2.1 26 rfl
  have hq27 : X md 27 = M 40 27 := hR.2.1 27 rfl
  have hq28 : X md 28 = M 40 28 := hR.2.1 28 rfl
  have hq29 : X md 29 = M 40 29 := hR.2.1 29 rfl
  refine lv_aload_n (pc := 0) hx hb dX9_ahead_0 rfl (lv_at hl 0 rfl) ?_
  refine ziconst (pc := 1) (n := 0) hx hb dX9_ahead_1 ?_
  refine zputI (pc := 2) hx hb hG hown hw hmd (T := TX9) rfl 0 (by decide) rfl wf_X9_87 rfl (by decide +kernel) rfl dX9_ahead_2 (fun H locs hw => ?_)
  obtain ⟨X2, eX2⟩ : ∃ Y : zX, Y = up2 X md 0 0 := ⟨_, rfl⟩
  rw [← eX2] at hw
  have hz5 : X2 md 5 = M 40 5 := by rw [eX2, up2_k (by decide)]; exact hq5
  have hR2 : repR ρ K X2 Rf md M := by rw [eX2]; exact hR.own ⟨rfl, by decide⟩
  have hf2 : frR ρ K X Rf ρ K X2 Rf := by rw [eX2]; exact frR_own hR
  have h02 : ∀ q, q = 0 ∨ q = 36 → X2 md q = X2 md q := fun _ _ => rfl
  have e02 : X2 md 0 = 0 := by rw [eX2]; exact up2_s
  have e362 : X2 md 36 = X md 36 := by rw [eX2]; exact up2_k (by decide)
  have hls2 : lsR X Rf X2 Rf md := by rw [eX2]; exact lsR_own hR
  refine lv_aload_n (pc := 5) hx hb dX9_ahead_5 rfl (lv_at hl 0 rfl) ?_
  refine lv_iload_n (pc := 6) hx hb dX9_ahead_6 rfl (lv_at hl 1 rfl) ?_
  refine zkIp (pc := 7) (zrV (As := [.int (iI a)]) hx hb hml hown hG hw (c_X9_isPlace l Γ K X2 Rf md a  (by (first | assumption | omega)) (by (first | assumption | omega))) (T := TX9) hmd rfl cb_X9_isPlace wl_X9_161 rfl ⟨Nat.le_of_ble_eq_true rfl, Nat.le_of_ble_eq_true rfl⟩ hl.1 rfl (Nat.le_of_ble_eq_true rfl) dX9_ahead_7 ⟨Nat.zero_le _, Nat.zero_le _⟩) hw (fun r7 H locs hp7 hw => ?_)
  subst hp7
  refine zif_eq (pc := 10) hx hb 44 (by omega) dX9_ahead_10 (by decide) (fun c10 => ?_) (fun c10 => ?_)
  · skip
    replace c10 := it0 c10
    refine lv_aload_n (pc := 44) hx hb dX9_ahead_44 rfl (lv_at hl 0 rfl) ?_
    refine ziconst (pc := 45) (n := 1) hx hb dX9_ahead_45 ?_
    refine zkIx (pc := 46) (zrV (As := [.int (iI 1)]) hx hb hml hown hG hw (c_X9_refuse l Γ K X2 Rf md 1  (by (first | assumption | omega))) (T := TX9) hmd rfl cb_X9_refuse wl_X9_123 rfl ⟨Nat.le_of_ble_eq_true rfl, Nat.le_of_ble_eq_true rfl⟩ hl.1 rfl (Nat.le_of_ble_eq_true rfl) dX9_ahead_46 ⟨Nat.zero_le _, Nat.zero_le _⟩) hw (fun r46 X46 H locs hp46 hw => ?_)
    obtain ⟨hrf46, eX46⟩ := hp46
    exact zretI (pc := 49) hx hb hlocks hr hw (Nat.zero_le _) (Nat.zero_le _) dX9_ahead_49 (by first | (rw [eX46]; refine ⟨fun hz => by (exfalso; revert hz; (unfold cdPlPlM; (repeat' split) <;> omega)), by rw [up2_s]; symm; (unfold cdPlPlM; (repeat' split) <;> omega), ⟨ρ, hR2.own ⟨rfl, by decide⟩, hf2.trans (frR_own hR2)⟩, hls2.trans (lsR_own hR2), by rw [up2_k (by decide), h02 36 (Or.inr rfl)]; exact e362⟩) | exact ⟨fun _ => by rw [hv31, hv37]; rfl, by rw [h037 0 (Or.inl rfl), e02]; symm; (unfold cdPlPlM; (repeat' split) <;> omega), ⟨ρ37, hR37, hf37⟩, hls37, by rw [h037 36 (Or.inr rfl)]; exact e362⟩)
  · skip
    replace c10 := it1 c10
    refine lv_aload_n (pc := 13) hx hb dX9_ahead_13 rfl (lv_at hl 0 rfl) ?_
    refine lv_iload_n (pc := 14) hx hb dX9_ahead_14 rfl (lv_at hl 2 rfl) ?_
    refine zkIp (pc := 15) (zrV (As := [.int (iI b9)]) hx hb hml hown hG hw (c_X9_isPlace l Γ K X2 Rf md b9  (by (first | assumption | omega)) (by (first | assumption | omega))) (T := TX9) hmd rfl cb_X9_isPlace wl_X9_161 rfl ⟨Nat.le_of_ble_eq_true rfl, Nat.le_of_ble_eq_true rfl⟩ hl.1 rfl (Nat.le_of_ble_eq_true rfl) dX9_ahead_15 ⟨Nat.zero_le _, Nat.zero_le _⟩) hw (fun r15 H locs hp15 hw => ?_)
    subst hp15
    refine zif_eq (pc := 18) hx hb 44 (by omega) dX9_ahead_18 (by decide) (fun c18 => ?_) (fun c18 => ?_)
    · skip
      replace c18 := it0 c18
      refine lv_aload_n (pc := 44) hx hb dX9_ahead_44 rfl (lv_at hl 0 rfl) ?_
      refine ziconst (pc := 45) (n := 1) hx hb dX9_ahead_45 ?_
      refine zkIx (pc := 46) (zrV (As := [.int (iI 1)]) hx hb hml hown hG hw (c_X9_refuse l Γ K X2 Rf md 1  (by (first | assumption | omega))) (T := TX9) hmd rfl cb_X9_refuse wl_X9_123 rfl ⟨Nat.le_of_ble_eq_true rfl, Nat.le_of_ble_eq_true rfl⟩ hl.1 rfl (Nat.le_of_ble_eq_true rfl) dX9_ahead_46 ⟨Nat.zero_le _, Nat.zero_le _⟩) hw (fun r46 X46 H locs hp46 hw => ?_)
      obtain ⟨hrf46, eX46⟩ := hp46
      exact zretI (pc := 49) hx hb hlocks hr hw (Nat.zero_le _) (Nat.zero_le _) dX9_ahead_49 (by first | (rw [eX46]; refine ⟨fun hz => by (exfalso; revert hz; (unfold cdPlPlM; (repeat' split) <;> omega)), by rw [up2_s]; symm; (unfold cdPlPlM; (repeat' split) <;> omega), ⟨ρ, hR2.own ⟨rfl, by decide⟩, hf2.trans (frR_own hR2)⟩, hls2.trans (lsR_own hR2), by rw [up2_k (by decide), h02 36 (Or.inr rfl)]; exact e362⟩) | exact ⟨fun _ => by rw [hv31, hv37]; rfl, by rw [h037 0 (Or.inl rfl), e02]; symm; (unfold cdPlPlM; (repeat' split) <;> omega), ⟨ρ37, hR37, hf37⟩, hls37, by rw [h037 36 (Or.inr rfl)]; exact e362⟩)
    · skip
      replace c18 := it1 c18
      refine lv_iload_n (pc := 21) hx hb dX9_ahead_21 rfl (lv_at hl 3 rfl) ?_
      refine zkIp (pc := 22) (zrS (As := [.int (iI mt)]) hx hb hml hown hG hw (c_X9_isMoment l Γ K X2 Rf mt  (by (first | assumption | omega))) cb_X9_isMoment wl_X9_195 rfl ⟨Nat.le_of_ble_eq_true rfl, Nat.le_of_ble_eq_true rfl⟩ hl.1 rfl (Nat.le_of_ble_eq_true rfl) dX9_ahead_22 ⟨Nat.zero_le _, Nat.zero_le _⟩) hw (fun r22 H locs hp22 hw => ?_)
      subst hp22
      refine zif_eq (pc := 25) hx hb 44 (by omega) dX9_ahead_25 (by decide) (fun c25 => ?_) (fun c25 => ?_)
      · skip
        replace c25 := it0 c25
        refine lv_aload_n (pc := 44) hx hb dX9_ahead_44 rfl (lv_at hl 0 rfl) ?_
        refine ziconst (pc := 45) (n := 1) hx hb dX9_ahead_45 ?_
        refine zkIx (pc := 46) (zrV (As := [.int (iI 1)]) hx hb hml hown hG hw (c_X9_refuse l Γ K X2 Rf md 1  (by (first | assumption | omega))) (T := TX9) hmd rfl cb_X9_refuse wl_X9_123 rfl ⟨Nat.le_of_ble_eq_true rfl, Nat.le_of_ble_eq_true rfl⟩ hl.1 rfl (Nat.le_of_ble_eq_true rfl) dX9_ahead_46 ⟨Nat.zero_le _, Nat.zero_le _⟩) hw (fun r46 X46 H locs hp46 hw => ?_)
        obtain ⟨hrf46, eX46⟩ := hp46
        exact zretI (pc := 49) hx hb hlocks hr hw (Nat.zero_le _) (Nat.zero_le _) dX9_ahead_49 (by first | (rw [eX46]; refine ⟨fun hz => by (exfalso; revert hz; (unfold cdPlPlM; (repeat' split) <;> omega)), by rw [up2_s]; symm; (unfold cdPlPlM; (repeat' split) <;> omega), ⟨ρ, hR2.own ⟨rfl, by decide⟩, hf2.trans (frR_own hR2)⟩, hls2.trans (lsR_own hR2), by rw [up2_k (by decide), h02 36 (Or.inr rfl)]; exact e362⟩) | exact ⟨fun _ => by rw [hv31, hv37]; rfl, by rw [h037 0 (Or.inl rfl), e02]; symm; (unfold cdPlPlM; (repeat' split) <;> omega), ⟨ρ37, hR37, hf37⟩, hls37, by rw [h037 36 (Or.inr rfl)]; exact e362⟩)
      · skip
        replace c25 := it1 c25
        refine lv_aload_n (pc := 28) hx hb dX9_ahead_28 rfl (lv_at hl 0 rfl) ?_
        refine lv_iload_n (pc := 29) hx hb dX9_ahead_29 rfl (lv_at hl 1 rfl) ?_
        refine lv_iload_n (pc := 30) hx hb dX9_ahead_30 rfl (lv_at hl 3 rfl) ?_
        have hdl31 := hls2.1 a.toNat
        have hdc31 := dlC_le (X := X2) (Rf := Rf) (md := md) (p := a.toNat)
        refine zkI (pc := 31) (zrV (As := [.int (iI a), .int (iI mt)]) hx hb hml hown hG hw (c_X9_local l Γ K X2 Rf md a mt (ρ) M (by (first | assumption | omega)) (by (first | assumption | omega)) (by (first | assumption | omega)) (by (first | assumption | omega))) (T := TX9) hmd rfl cb_X9_local wl_X9_198 rfl ⟨Nat.le_of_ble_eq_true rfl, Nat.le_of_ble_eq_true rfl⟩ hl.1 rfl (Nat.le_of_ble_eq_true rfl) dX9_ahead_31 ⟨(by show 0 + (min 5 (dlC X2 Rf md a.toNat)) ≤ 10; omega), (by show 0 + (dlC X2 Rf md a.toNat) ≤ 10000; omega)⟩) hw (fun r31 K31 X31 R31 H locs hp31 hw => ?_)
        obtain ⟨hv31, ρ31, ⟨hR31, hg31, hz31⟩, ⟨hs31, hd31⟩, hy31⟩ := hp31
        obtain ⟨hmd31, hlm31⟩ := id hR31.1
        have hf31 := hf2.trans hg31
        have h031 := fun q hq => (hz31 q hq).trans (h02 q hq)
        have hls31 := hls2.trans hs31
        refine lv_aload_n (pc := 34) hx hb dX9_ahead_34 rfl (lv_at hl 0 rfl) ?_
        refine lv_iload_n (pc := 35) hx hb dX9_ahead_35 rfl (lv_at hl 2 rfl) ?_
        refine lv_iload_n (pc := 36) hx hb dX9_ahead_36 rfl (lv_at hl 3 rfl) ?_
        have hdc37 := dlC_le (X := X31) (Rf := R31) (md := md) (p := b9.toNat)
        refine zkI (pc := 37) (zrV (As := [.int (iI b9), .int (iI mt)]) hx hb hml hown hG hw (c_X9_local l Γ K31 X31 R31 md b9 mt (ρ31) M (by (first | assumption | omega)) (by (first | assumption | omega)) (by (first | assumption | omega)) (by (first | assumption | omega))) (T := TX9) hmd31 rfl cb_X9_local wl_X9_198 rfl ⟨Nat.le_of_ble_eq_true rfl, Nat.le_of_ble_eq_true rfl⟩ hl.1 rfl (Nat.le_of_ble_eq_true rfl) dX9_ahead_37 ⟨(by show 0 + (min 5 (dlC X2 Rf md a.toNat)) + (min 5 (dlC X31 R31 md b9.toNat)) ≤ 10; omega), (by show 0 + (dlC X2 Rf md a.toNat) + (dlC X31 R31 md b9.toNat) ≤ 10000; omega)⟩) hw (fun r37 K37 X37 R37 H locs hp37 hw => ?_)
        obtain ⟨hv37, ρ37, ⟨hR37, hg37, hz37⟩, ⟨hs37, hd37⟩, hy37⟩ := hp37
        obtain ⟨hmd37, hlm37⟩ := id hR37.1
        have hf37 := hf31.trans hg37
        have h037 := fun q hq => (hz37 q hq).trans (h031 q hq)
        have hls37 := hls31.trans hs37
        refine zsub (pc := 40) hx hb dX9_ahead_40 ?_
        refine lv_goto (pc := 41) (tgt := 49) hx hb dX9_ahead_41 (by decide) ?_
        exact zretI (pc := 49) hx hb hlocks hr hw (by show 0 + (min 5 (dlC X2 Rf md a.toNat)) + (min 5 (dlC X31 R31 md b9.toNat)) ≤ 10; omega) (by show 0 + (dlC X2 Rf md a.toNat) + (dlC X31 R31 md b9.toNat) ≤ 10000; omega) dX9_ahead_49 (by first | (rw [eX37]; refine ⟨fun hz => by (exfalso; revert hz; (unfold cdPlPlM; (repeat' split) <;> omega)), by rw [up2_s]; symm; (unfold cdPlPlM; (repeat' split) <;> omega), ⟨ρ, hR2.own ⟨rfl, by decide⟩, hf2.trans (frR_own hR2)⟩, hls2.trans (lsR_own hR2), by rw [up2_k (by decide), h02 36 (Or.inr rfl)]; exact e362⟩) | exact ⟨fun _ => by rw [hv31, hv37]; rfl, by rw [h037 0 (Or.inl rfl), e02]; symm; (unfold cdPlPlM; (repeat' split) <;> omega), ⟨ρ37, hR37, hf37⟩, hls37, by rw [h037 36 (Or.inr rfl)]; exact e362⟩)
set_option maxHeartbeats 4000000 in
set_option maxRecDepth 100000 in
theorem c_X9_momentOfDate (l : Launch) (Γ : zG) (K : zK) (X : zX) (Rf : zR) (md : Nat) (n : Int) (dd : Int) (ρ : zL) (M : zM) (hR : repR ρ K X Rf md M) (hM : okM M) (h1 : 0 ≤ n ∧ n < M 40 16) (h2 : 0 ≤ dd ∧ dd ≤ 73048) : Ct l yX9_momentOfDate cX9_momentOfDate 3 (some .int) 90 (min 5 (dlC X Rf md (serM M n.toNat 0).toNat)) (dlC X Rf md (serM M n.toNat 0).toNat) Γ [.ref md, .int (iI n), .int (iI dd)] K X Rf (pI (fun (r : Int) (K' : zK) (X' : zX) (R' : zR) => r = momF (savM M (serM M n.toNat 0).toNat) (M 6 (serM M n.toNat 0).toNat) (1440 * dd + serM M n.toNat 1 % 1440) ∧ ∃ ρ', (repR ρ' K' X' R' md M ∧ frR ρ K X Rf ρ' K' X' R' ∧ (∀ q, q = 0 ∨ q = 36 → X' md q = X md q)) ∧ (lsR X Rf X' R' md ∧ dlC X' R' md (serM M n.toNat 0).toNat = 0) ∧ ∀ a, (K a).1 ≠ 0 → 3000 ≤ ρ a → X' a = X a)) := by
  refine Ct.of (by decide +kernel) (Nat.le_of_ble_eq_true rfl) ?_
  intro p e s m below meth c ls hx hb hr hml hown hG hlocks hname hw hl
  have hl : lv_has ls 3 [(0, .ref md), (1, .int (iI n)), (2, .int (iI dd))] := hl
  obtain ⟨hmd, hlmd⟩ := id hR.1
  obtain ⟨⟨hb1, hb2, hb3, hb4⟩, hokP, hokL, hokS, hokW, hokF⟩ := id hM
  have hq1 : X md 1 = M 40 1 := hR.2.1 1 rfl
  have hq5 : X md 5 = M 40 5 := hR.2.1 5 rfl
  have hq16 : X md 16 = M 40 16 := hR.2.1 16 rfl
  have hq25 : X md 25 = M 40 25 := hR.2.1 25 rfl
  have hq26 : X md 26 = M 40 26 := hR.2.1 26 rfl
  have hq27 : X md 27 = M 40 27 := hR.2.1 27 rfl
  have hq28 : X md 28 = M 40 28 := hR.2.1 28 rfl
  have hq29 : X md 29 = M 40 29 := hR.2.1 29 rfl
  obtain ⟨a17, hB17, hA17, hL17, hD17⟩ : ∃ a, Rf md 17 = some a ∧ K a = (2, 66) ∧ ρ a = 2018 ∧ X a = M 17 := hR.fd 17 (by decide) rfl
  have hN17 : Apt a17 md := zkn2 hA17 hmd (by simp)
  have hoS := (hokS n.toNat (by omega)).1
  have hv0 : X a17 (11 * n + 0).toNat = serM M n.toNat 0 := by rw [hD17, show (11 * n + 0).toNat = 11 * n.toNat + 0 by omega]; exact (serM_17 (by decide)).symm
  have hv1 : X a17 (11 * n + 1).toNat = serM M n.toNat 1 := by rw [hD17, show (11 * n + 1).toNat = 11 * n.toNat + 1 by omega]; exact (serM_17 (by decide)).symm
  have hpl9 := (hokS n.toNat (by omega)).2.1
  refine lv_aload_n (pc := 0) hx hb dX9_momentOfDate_0 rfl (lv_at hl 0 rfl) ?_
  refine lv_aload_n (pc := 1) hx hb dX9_momentOfDate_1 rfl (lv_at hl 0 rfl) ?_
  refine lv_iload_n (pc := 2) hx hb dX9_momentOfDate_2 rfl (lv_at hl 1 rfl) ?_
  refine ziconst (pc := 3) (n := 0) hx hb dX9_momentOfDate_3 ?_
  refine zkIp (pc := 4) (zrV (As := [.int (iI n), .int (iI 0)]) hx hb hml hown hG hw (c_X9_of l Γ K X Rf md n 0 a17 (by (first | assumption | omega)) (by (first | assumption | omega)) (by (first | assumption | omega)) (by (first | assumption | omega))) (T := TX9) hmd rfl cb_X9_of wl_X9_234 rfl ⟨Nat.le_of_ble_eq_true rfl, Nat.le_of_ble_eq_true rfl⟩ hl.1 rfl (Nat.le_of_ble_eq_true rfl) dX9_momentOfDate_4 ⟨Nat.zero_le _, Nat.zero_le _⟩) hw (fun r4 H locs hp4 hw => ?_)
  subst hp4
  rw [hv0]
  refine zsipush (pc := 7) (n := 1440) hx hb dX9_momentOfDate_7 rfl ?_
  refine lv_iload_n (pc := 10) hx hb dX9_momentOfDate_10 rfl (lv_at hl 2 rfl) ?_
  refine zmul (pc := 11) hx hb dX9_momentOfDate_11 ?_
  refine lv_aload_n (pc := 12) hx hb dX9_momentOfDate_12 rfl (lv_at hl 0 rfl) ?_
  refine lv_iload_n (pc := 13) hx hb dX9_momentOfDate_13 rfl (lv_at hl 1 rfl) ?_
  refine ziconst (pc := 14) (n := 1) hx hb dX9_momentOfDate_14 ?_
  refine zkIp (pc := 15) (zrV (As := [.int (iI n), .int (iI 1)]) hx hb hml hown hG hw (c_X9_of l Γ K X Rf md n 1 a17 (by (first | assumption | omega)) (by (first | assumption | omega)) (by (first | assumption | omega)) (by (first | assumption | omega))) (T := TX9) hmd rfl cb_X9_of wl_X9_234 rfl ⟨Nat.le_of_ble_eq_true rfl, Nat.le_of_ble_eq_true rfl⟩ hl.1 rfl (Nat.le_of_ble_eq_true rfl) dX9_momentOfDate_15 ⟨Nat.zero_le _, Nat.zero_le _⟩) hw (fun r15 H locs hp15 hw => ?_)
  subst hp15
  rw [hv1]
  refine zsipush (pc := 18) (n := 1440) hx hb dX9_momentOfDate_18 rfl ?_
  refine zrem (pc := 21) hx hb (by omega) dX9_momentOfDate_21 ?_
  refine zadd (pc := 22) hx hb dX9_momentOfDate_22 ?_
  refine zkI (pc := 23) (zrV (As := [.int (iI (serM M n.toNat 0)), .int (iI ((1440 * dd) + ((serM M n.toNat 1) % 1440)))]) hx hb hml hown hG hw (c_X9_momentFor l Γ K X Rf md (serM M n.toNat 0) ((1440 * dd) + ((serM M n.toNat 1) % 1440)) (ρ) M (by (first | assumption | omega)) (by (first | assumption | omega)) (by (first | assumption | omega)) (by (first | assumption | omega))) (T := TX9) hmd rfl cb_X9_momentFor wl_X9_225 rfl ⟨Nat.le_of_ble_eq_true rfl, Nat.le_of_ble_eq_true rfl⟩ hl.1 rfl (Nat.le_of_ble_eq_true rfl) dX9_momentOfDate_23 ⟨(by show 0 + (min 5 (dlC X Rf md (serM M n.toNat 0).toNat)) ≤ (min 5 (dlC X Rf md (serM M n.toNat 0).toNat)); omega), (by show 0 + (dlC X Rf md (serM M n.toNat 0).toNat) ≤ (dlC X Rf md (serM M n.toNat 0).toNat); omega)⟩) hw (fun r23 K23 X23 R23 H locs hp23 hw => ?_)
  exact zretI (pc := 26) hx hb hlocks hr hw (by show 0 + (min 5 (dlC X Rf md (serM M n.toNat 0).toNat)) ≤ (min 5 (dlC X Rf md (serM M n.toNat 0).toNat)); omega) (by show 0 + (dlC X Rf md (serM M n.toNat 0).toNat) ≤ (dlC X Rf md (serM M n.toNat 0).toNat); omega) dX9_momentOfDate_26 (by exact hp23)
set_option maxHeartbeats 4000000 in
set_option maxRecDepth 100000 in
theorem c_X9_dateMoment (l : Launch) (Γ : zG) (K : zK) (X : zX) (Rf : zR) (md : Nat) (a : Int) (k9 : Int) (ρ : zL) (M : zM) (hR : repR ρ K X Rf md M) (hM : okM M) (h1 : fit a ∧ fit k9) : Ct l yX9_dateMoment cX9_dateMoment 3 (some .int) 91 7 13002 Γ [.ref md, .int (iI a), .int (iI k9)] K X Rf (pI (fun (r : Int) (K' : zK) (X' : zX) (R' : zR) => (cdSerK M a k9 = 0 → r = momF (savM M (serM M a.toNat 0).toNat) (M 6 (serM M a.toNat 0).toNat) (1440 * dtL (datM M a.toNat) k9 + serM M a.toNat 1 % 1440)) ∧ X' md 0 = cdSerK M a k9 ∧ (∃ ρ', repR ρ' K' X' R' md M ∧ frR ρ K X Rf ρ' K' X' R') ∧ lsR X Rf X' R' md ∧ X' md 36 = X md 36)) := by
  refine Ct.of (by decide +kernel) (Nat.le_of_ble_eq_true rfl) ?_
  intro p e s m below meth c ls hx hb hr hml hown hG hlocks hname hw hl
  have hl : lv_has ls 3 [(0, .ref md), (1, .int (iI a)), (2, .int (iI k9))] := hl
  obtain ⟨hmd, hlmd⟩ := id hR.1
  obtain ⟨⟨hb1, hb2, hb3, hb4⟩, hokP, hokL, hokS, hokW, hokF⟩ := id hM
  have hq1 : X md 1 = M 40 1 := hR.2.1 1 rfl
  have hq5 : X md 5 = M 40 5 := hR.2.1 5 rfl
  have hq16 : X md 16 = M 40 16 := hR.2.1 16 rfl
  have hq25 : X md 25 = M 40 25 := hR.2.1 25 rfl
  have hq26 : X md 26 = M 40 26 := hR.2.1 26 rfl
  have hq27 : X md 27 = M 40 27 := hR.2.1 27 rfl
  have hq28 : X md 28 = M 40 28 := hR.2.1 28 rfl
  have hq29 : X md 29 = M 40 29 := hR.2.1 29 rfl
  refine lv_aload_n (pc := 0) hx hb dX9_dateMoment_0 rfl (lv_at hl 0 rfl) ?_
  refine ziconst (pc := 1) (n := 0) hx hb dX9_dateMoment_1 ?_
  refine zputI (pc := 2) hx hb hG hown hw hmd (T := TX9) rfl 0 (by decide) rfl wf_X9_87 rfl (by decide +kernel) rfl dX9_dateMoment_2 (fun H locs hw => ?_)
  obtain ⟨X2, eX2⟩ : ∃ Y : zX, Y = up2 X md 0 0 := ⟨_, rfl⟩
  rw [← eX2] at hw
  have hR2 : repR ρ K X2 Rf md M := by rw [eX2]; exact hR.own ⟨rfl, by decide⟩
  have hf2 : frR ρ K X Rf ρ K X2 Rf := by rw [eX2]; exact frR_own hR
  have h02 : ∀ q, q = 0 ∨ q = 36 → X2 md q = X2 md q := fun _ _ => rfl
  have e02 : X2 md 0 = 0 := by rw [eX2]; exact up2_s
  have e362 : X2 md 36 = X md 36 := by rw [eX2]; exact up2_k (by decide)
  have hls2 : lsR X Rf X2 Rf md := by rw [eX2]; exact lsR_own hR
  refine lv_aload_n (pc := 5) hx hb dX9_dateMoment_5 rfl (lv_at hl 0 rfl) ?_
  refine lv_iload_n (pc := 6) hx hb dX9_dateMoment_6 rfl (lv_at hl 1 rfl) ?_
  refine lv_iload_n (pc := 7) hx hb dX9_dateMoment_7 rfl (lv_at hl 2 rfl) ?_
  refine zkI (pc := 8) (zrV (As := [.int (iI a), .int (iI k9)]) hx hb hml hown hG hw (c_X9_hasDate l Γ K X2 Rf md a k9 (ρ) M (by (first | assumption | omega)) (by (first | assumption | omega)) (by (first | assumption | omega))) (T := TX9) hmd rfl cb_X9_hasDate wl_X9_269 rfl ⟨Nat.le_of_ble_eq_true rfl, Nat.le_of_ble_eq_true rfl⟩ hl.1 rfl (Nat.le_of_ble_eq_true rfl) dX9_dateMoment_8 ⟨(by show 0 + 1 ≤ 7; omega), (by show 0 + 4001 ≤ 13002; omega)⟩) hw (fun r8 K8 X8 R8 H locs hp8 hw => ?_)
  obtain ⟨hv8, ⟨ρ8, hR8, hg8⟩, hz8, hs8⟩ := hp8
  obtain ⟨hmd8, hlm8⟩ := id hR8.1
  have hf8 := hf2.trans hg8
  have h08 := fun q hq => (hz8 q hq).trans (h02 q hq)
  have hls8 := hls2.trans hs8
  refine zif_eq (pc := 11) hx hb 29 (by omega) dX9_dateMoment_11 (by decide) (fun c11 => ?_) (fun c11 => ?_)
  · skip
    have q8 := it0 (hv8.symm.trans c11)
    refine lv_aload_n (pc := 29) hx hb dX9_dateMoment_29 rfl (lv_at hl 0 rfl) ?_
    refine ziconst (pc := 30) (n := 1) hx hb dX9_dateMoment_30 ?_
    refine zkIx (pc := 31) (zrV (As := [.int (iI 1)]) hx hb hml hown hG hw (c_X9_refuse l Γ K8 X8 R8 md 1  (by (first | assumption | omega))) (T := TX9) hmd8 rfl cb_X9_refuse wl_X9_123 rfl ⟨Nat.le_of_ble_eq_true rfl, Nat.le_of_ble_eq_true rfl⟩ hl.1 rfl (Nat.le_of_ble_eq_true rfl) dX9_dateMoment_31 ⟨(by show 0 + 1 + 0 ≤ 7; omega), (by show 0 + 4001 + 0 ≤ 13002; omega)⟩) hw (fun r31 X31 H locs hp31 hw => ?_)
    obtain ⟨hrf31, eX31⟩ := hp31
    exact zretI (pc := 34) hx hb hlocks hr hw (by show 0 + 1 ≤ 7; omega) (by show 0 + 4001 ≤ 13002; omega) dX9_dateMoment_34 (by first | (rw [eX31]; refine ⟨fun hz => by (exfalso; revert hz; (unfold cdSerK; (repeat' split) <;> omega)), by rw [up2_s]; symm; (unfold cdSerK; (repeat' split) <;> omega), ⟨ρ8, hR8.own ⟨rfl, by decide⟩, hf8.trans (frR_own hR8)⟩, hls8.trans (lsR_own hR8), by rw [up2_k (by decide), h08 36 (Or.inr rfl)]; exact e362⟩) | exact ⟨fun _ => by rw [hv23]; unfold dtL; rw [if_neg (by omega)], by rw [h023 0 (Or.inl rfl), e02]; symm; (unfold cdSerK; (repeat' split) <;> omega), ⟨ρ23, hR23, hf23⟩, hls23, by rw [h023 36 (Or.inr rfl)]; exact e362⟩)
  · skip
    have q8 := it1 (fun g => c11 (hv8.trans g))
    have hdl : (((datM M a.toNat)).length : Int) ≤ 4001 := dtS_len (Up := useM M a.toNat) (Ex := excM M a.toNat) (hokS a.toNat (by omega)).1
    have hdv : ∀ k, k < ((datM M a.toNat)).length → 0 ≤ (datM M a.toNat).getD k 0 ∧ (datM M a.toNat).getD k 0 ≤ 73048 := fun k hk => dtS_get (Up := useM M a.toNat) (Ex := excM M a.toNat) (hokS a.toNat (by omega)).1 k hk
    refine lv_aload_n (pc := 14) hx hb dX9_dateMoment_14 rfl (lv_at hl 0 rfl) ?_
    refine lv_iload_n (pc := 15) hx hb dX9_dateMoment_15 rfl (lv_at hl 1 rfl) ?_
    refine lv_aload_n (pc := 16) hx hb dX9_dateMoment_16 rfl (lv_at hl 0 rfl) ?_
    refine lv_iload_n (pc := 17) hx hb dX9_dateMoment_17 rfl (lv_at hl 1 rfl) ?_
    have hdc18 := dnC_le (Rf := R8) (md := md) (n := a.toNat)
    refine zkR (pc := 18) (zrV (As := [.int (iI a)]) hx hb hml hown hG hw (c_X9_dated l Γ K8 X8 R8 md a (ρ8) M (by (first | assumption | omega)) (by (first | assumption | omega)) (by (first | assumption | omega))) (T := TX9) hmd8 rfl cb_X9_dated wl_X9_266 rfl ⟨Nat.le_of_ble_eq_true rfl, Nat.le_of_ble_eq_true rfl⟩ hl.1 rfl (Nat.le_of_ble_eq_true rfl) dX9_dateMoment_18 ⟨(by show 0 + 1 + 1 ≤ 7; omega), (by show 0 + 4001 + (dnC R8 md a.toNat) ≤ 13002; omega)⟩) hw (fun r18 K18 X18 R18 H locs hp18 hw => ?_)
    obtain ⟨ρ18, ⟨hR18, hg18, hz18⟩, ⟨hkr18, hlr18, hvr18⟩, ⟨hs18, hd18⟩, hy18⟩ := hp18
    obtain ⟨hmd18, hlm18⟩ := id hR18.1
    have hf18 := hf8.trans hg18
    have h018 := fun q hq => (hz18 q hq).trans (h08 q hq)
    have hls18 := hls8.trans hs18
    refine lv_iload_n (pc := 21) hx hb dX9_dateMoment_21 rfl (lv_at hl 2 rfl) ?_
    refine zald (pc := 22) hx hb hw hkr18 ⟨by omega, by omega⟩ (by omega) dX9_dateMoment_22 ?_
    have hdx := hdv k9.toNat (by omega)
    have hvx := hvr18 k9.toNat (by omega)
    rw [hvx]
    have hdc23 := dlC_le (X := X18) (Rf := R18) (md := md) (p := (serM M a.toNat 0).toNat)
    refine zkI (pc := 23) (zrV (As := [.int (iI a), .int (iI ((datM M a.toNat).getD k9.toNat 0))]) hx hb hml hown hG hw (c_X9_momentOfDate l Γ K18 X18 R18 md a ((datM M a.toNat).getD k9.toNat 0) (ρ18) M (by (first | assumption | omega)) (by (first | assumption | omega)) (by (first | assumption | omega)) (by (first | assumption | omega))) (T := TX9) hmd18 rfl cb_X9_momentOfDate wl_X9_272 rfl ⟨Nat.le_of_ble_eq_true rfl, Nat.le_of_ble_eq_true rfl⟩ hl.1 rfl (Nat.le_of_ble_eq_true rfl) dX9_dateMoment_23 ⟨(by show 0 + 1 + 1 + (min 5 (dlC X18 R18 md (serM M a.toNat 0).toNat)) ≤ 7; omega), (by show 0 + 4001 + (dnC R8 md a.toNat) + (dlC X18 R18 md (serM M a.toNat 0).toNat) ≤ 13002; omega)⟩) hw (fun r23 K23 X23 R23 H locs hp23 hw => ?_)
    obtain ⟨hv23, ρ23, ⟨hR23, hg23, hz23⟩, ⟨hs23, hd23⟩, hy23⟩ := hp23
    obtain ⟨hmd23, hlm23⟩ := id hR23.1
    have hf23 := hf18.trans hg23
    have h023 := fun q hq => (hz23 q hq).trans (h018 q hq)
    have hls23 := hls18.trans hs23
    refine lv_goto (pc := 26) (tgt := 34) hx hb dX9_dateMoment_26 (by decide) ?_
    exact zretI (pc := 34) hx hb hlocks hr hw (by show 0 + 1 + 1 + (min 5 (dlC X18 R18 md (serM M a.toNat 0).toNat)) ≤ 7; omega) (by show 0 + 4001 + (dnC R8 md a.toNat) + (dlC X18 R18 md (serM M a.toNat 0).toNat) ≤ 13002; omega) dX9_dateMoment_34 (by first | (rw [eX23]; refine ⟨fun hz => by (exfalso; revert hz; (unfold cdSerK; (repeat' split) <;> omega)), by rw [up2_s]; symm; (unfold cdSerK; (repeat' split) <;> omega), ⟨ρ8, hR8.own ⟨rfl, by decide⟩, hf8.trans (frR_own hR8)⟩, hls8.trans (lsR_own hR8), by rw [up2_k (by decide), h08 36 (Or.inr rfl)]; exact e362⟩) | exact ⟨fun _ => by rw [hv23]; unfold dtL; rw [if_neg (by omega)], by rw [h023 0 (Or.inl rfl), e02]; symm; (unfold cdSerK; (repeat' split) <;> omega), ⟨ρ23, hR23, hf23⟩, hls23, by rw [h023 36 (Or.inr rfl)]; exact e362⟩)
