set_option maxHeartbeats 4000000 in
set_option maxRecDepth 100000 in
theorem c_X9_works (l : Launch) (Γ : zG) (K : zK) (X : zX) (Rf : zR) (md : Nat) (day : Int) (ρ : zL) (M : zM) (hR : repR ρ K X Rf md M) (hM : okM M) (h1 : 0 ≤ day ∧ day ≤ 73048) : Ct l yX9_works cX9_works 2 (some .boolean) 6 0 0 Γ [.ref md, .int (iI day)] K X Rf (pI (zpx K Rf (fun (r : Int) (X' : zX) => r = bI (wkdM M day) ∧ repR ρ K X' Rf md M ∧ frR ρ K X Rf ρ K X' Rf ∧ (∀ q, q = 0 ∨ q = 36 → X' md q = X md q) ∧ fsR ρ X X'))) := by
  refine Ct.of (by decide +kernel) (Nat.le_of_ble_eq_true rfl) ?_
  intro p e s m below meth c ls hx hb hr hml hown hG hlocks hname hw hl
  have hl : lv_has ls 2 [(0, .ref md), (1, .int (iI day))] := hl
  obtain ⟨hmd, hlmd⟩ := id hR.1
  obtain ⟨⟨hb1, hb2, hb3, hb4⟩, hokP, hokL, hokS, hokW, hokF⟩ := id hM
  have hq1 : X md 1 = M 40 1 := hR.2.1 1 rfl
  have hq5 : X md 5 = M 40 5 := hR.2.1 5 rfl
  have hq16 : X md 16 = M 40 16 := hR.2.1 16 rfl
  have hq25 : X md 25 = M 40 25 := hR.2.1 25 rfl
  have hq26 : X md 26 = M 40 26 := hR.2.1 26 rfl
  have hq27 : X md 27 = M 40 27 := hR.2.1 27 rfl
  have hq28 : X md 28 = M 40 28 := hR.2.1 28 rfl
  have hq29 : X md 29 = M 40 29 := hR.2.1 29 rfl
  obtain ⟨a34, hB34, hA34, hL34⟩ : ∃ a, Rf md 34 = some a ∧ K a = (3, 73049) ∧ ρ a = 2035 := hR.ff 34 (by decide)
  have hN34 : Apt a34 md := zkn2 hA34 hmd (by simp)
  refine lv_aload_n (pc := 0) hx hb dX9_works_0 rfl (lv_at hl 0 rfl) ?_
  refine zkVx (pc := 1) (zrV (As := []) hx hb hml hown hG hw (c_X9_layFeasts l Γ K X Rf md (ρ) M (by (first | assumption | omega)) (by (first | assumption | omega))) (T := TX9) hmd rfl cb_X9_layFeasts wl_X9_304 rfl ⟨Nat.le_of_ble_eq_true rfl, Nat.le_of_ble_eq_true rfl⟩ hl.1 rfl (Nat.le_of_ble_eq_true rfl) dX9_works_1 ⟨Nat.zero_le _, Nat.zero_le _⟩) hw (fun X1 H locs hp1 hw => ?_)
  obtain ⟨⟨hR1, hfr1⟩, h351, hoq1, hfs1⟩ := hp1
  have h01 : ∀ q, q = 0 ∨ q = 36 → X1 md q = X md q := fun q hq => hoq1 q (by omega)
  have hq261 : X1 md 26 = M 40 26 := hR1.2.1 26 rfl
  have hv1 : X1 a34 day.toNat = falM M day := hR1.fal hB34 h351 h1.1 h1.2
  have hfl := falM_rng M day
  refine lv_aload_n (pc := 4) hx hb dX9_works_4 rfl (lv_at hl 0 rfl) ?_
  refine lv_iload_n (pc := 5) hx hb dX9_works_5 rfl (lv_at hl 1 rfl) ?_
  refine zkIp (pc := 6) (zrV (As := [.int (iI day)]) hx hb hml hown hG hw (c_X9_isWeekday l Γ K X1 Rf md day  (by (first | assumption | omega)) (by (first | assumption | omega)) (by (first | assumption | omega))) (T := TX9) hmd rfl cb_X9_isWeekday wl_X9_291 rfl ⟨Nat.le_of_ble_eq_true rfl, Nat.le_of_ble_eq_true rfl⟩ hl.1 rfl (Nat.le_of_ble_eq_true rfl) dX9_works_6 ⟨Nat.zero_le _, Nat.zero_le _⟩) hw (fun r6 H locs hp6 hw => ?_)
  subst hp6
  refine zif_eq (pc := 9) hx hb 26 (by omega) dX9_works_9 (by decide) (fun c9 => ?_) (fun c9 => ?_)
  · skip
    replace c9 := it0 c9
    refine ziconst (pc := 26) (n := 0) hx hb dX9_works_26 ?_
    exact zretZ (pc := 27) hx hb hlocks hr (Or.inl rfl) hw (Nat.zero_le _) (Nat.zero_le _) dX9_works_27 ⟨by (try dsimp only) <;> (refine ⟨?_, hR1, hfr1, h01, hfs1⟩; unfold wkdM; rw [← hq261]; first | (rw [wkI_1 (by assumption) (by omega)]) | (rw [wkI_0 (by rintro ⟨g1, g2⟩; first | exact absurd g1 (by assumption) | omega)])), rfl, rfl⟩
  · skip
    replace c9 := it1 c9
    refine lv_aload_n (pc := 12) hx hb dX9_works_12 rfl (lv_at hl 0 rfl) ?_
    refine zgetR (pc := 13) hx hb hG hown hw hmd (T := TX9) rfl 34 (by decide) rfl wf_X9_83 rfl hB34 dX9_works_13 ?_
    refine lv_iload_n (pc := 16) hx hb dX9_works_16 rfl (lv_at hl 1 rfl) ?_
    refine zbald (pc := 17) hx hb hw hA34 ⟨by omega, by omega⟩ (by omega) dX9_works_17 ?_
    refine ziconst (pc := 18) (n := (-1)) hx hb dX9_works_18 ?_
    refine zicmp_ne (pc := 19) hx hb 26 (by omega) (by omega) dX9_works_19 (by decide) (fun c19 => ?_) (fun c19 => ?_)
    · skip
      refine ziconst (pc := 26) (n := 0) hx hb dX9_works_26 ?_
      exact zretZ (pc := 27) hx hb hlocks hr (Or.inl rfl) hw (Nat.zero_le _) (Nat.zero_le _) dX9_works_27 ⟨by (try dsimp only) <;> (refine ⟨?_, hR1, hfr1, h01, hfs1⟩; unfold wkdM; rw [← hq261]; first | (rw [wkI_1 (by assumption) (by omega)]) | (rw [wkI_0 (by rintro ⟨g1, g2⟩; first | exact absurd g1 (by assumption) | omega)])), rfl, rfl⟩
    · skip
      refine ziconst (pc := 22) (n := 1) hx hb dX9_works_22 ?_
      refine lv_goto (pc := 23) (tgt := 27) hx hb dX9_works_23 (by decide) ?_
      exact zretZ (pc := 27) hx hb hlocks hr (Or.inr rfl) hw (Nat.zero_le _) (Nat.zero_le _) dX9_works_27 ⟨by (try dsimp only) <;> (refine ⟨?_, hR1, hfr1, h01, hfs1⟩; unfold wkdM; rw [← hq261]; first | (rw [wkI_1 (by assumption) (by omega)]) | (rw [wkI_0 (by rintro ⟨g1, g2⟩; first | exact absurd g1 (by assumption) | omega)])), rfl, rfl⟩
set_option maxHeartbeats 4000000 in
set_option maxRecDepth 100000 in
theorem c_X9_feastAt (l : Launch) (Γ : zG) (K : zK) (X : zX) (Rf : zR) (md : Nat) (day : Int) (ρ : zL) (M : zM) (hR : repR ρ K X Rf md M) (hM : okM M) (h1 : 0 ≤ day ∧ day ≤ 73048) : Ct l yX9_feastAt cX9_feastAt 2 (some .int) 6 0 0 Γ [.ref md, .int (iI day)] K X Rf (pI (zpx K Rf (fun (r : Int) (X' : zX) => r = falM M day ∧ repR ρ K X' Rf md M ∧ frR ρ K X Rf ρ K X' Rf ∧ (∀ q, q = 0 ∨ q = 36 → X' md q = X md q) ∧ fsR ρ X X'))) := by
  refine Ct.of (by decide +kernel) (Nat.le_of_ble_eq_true rfl) ?_
  intro p e s m below meth c ls hx hb hr hml hown hG hlocks hname hw hl
  have hl : lv_has ls 2 [(0, .ref md), (1, .int (iI day))] := hl
  obtain ⟨hmd, hlmd⟩ := id hR.1
  obtain ⟨⟨hb1, hb2, hb3, hb4⟩, hokP, hokL, hokS, hokW, hokF⟩ := id hM
  have hq1 : X md 1 = M 40 1 := hR.2.1 1 rfl
  have hq5 : X md 5 = M 40 5 := hR.2.1 5 rfl
  have hq16 : X md 16 = M 40 16 := hR.2.1 16 rfl
  have hq25 : X md 25 = M 40 25 := hR.2.1 25 rfl
  have hq26 : X md 26 = M 40 26 := hR.2.1 26 rfl
  have hq27 : X md 27 = M 40 27 := hR.2.1 27 rfl
  have hq28 : X md 28 = M 40 28 := hR.2.1 28 rfl
  have hq29 : X md 29 = M 40 29 := hR.2.1 29 rfl
  obtain ⟨a34, hB34, hA34, hL34⟩ : ∃ a, Rf md 34 = some a ∧ K a = (3, 73049) ∧ ρ a = 2035 := hR.ff 34 (by decide)
  have hN34 : Apt a34 md := zkn2 hA34 hmd (by simp)
  refine lv_aload_n (pc := 0) hx hb dX9_feastAt_0 rfl (lv_at hl 0 rfl) ?_
  refine zkVx (pc := 1) (zrV (As := []) hx hb hml hown hG hw (c_X9_layFeasts l Γ K X Rf md (ρ) M (by (first | assumption | omega)) (by (first | assumption | omega))) (T := TX9) hmd rfl cb_X9_layFeasts wl_X9_304 rfl ⟨Nat.le_of_ble_eq_true rfl, Nat.le_of_ble_eq_true rfl⟩ hl.1 rfl (Nat.le_of_ble_eq_true rfl) dX9_feastAt_1 ⟨Nat.zero_le _, Nat.zero_le _⟩) hw (fun X1 H locs hp1 hw => ?_)
  obtain ⟨⟨hR1, hfr1⟩, h351, hoq1, hfs1⟩ := hp1
  have h01 : ∀ q, q = 0 ∨ q = 36 → X1 md q = X md q := fun q hq => hoq1 q (by omega)
  have hq261 : X1 md 26 = M 40 26 := hR1.2.1 26 rfl
  have hv1 : X1 a34 day.toNat = falM M day := hR1.fal hB34 h351 h1.1 h1.2
  have hfl := falM_rng M day
  refine lv_aload_n (pc := 4) hx hb dX9_feastAt_4 rfl (lv_at hl 0 rfl) ?_
  refine zgetR (pc := 5) hx hb hG hown hw hmd (T := TX9) rfl 34 (by decide) rfl wf_X9_83 rfl hB34 dX9_feastAt_5 ?_
  refine lv_iload_n (pc := 8) hx hb dX9_feastAt_8 rfl (lv_at hl 1 rfl) ?_
  refine zbald (pc := 9) hx hb hw hA34 ⟨by omega, by omega⟩ (by omega) dX9_feastAt_9 ?_
  exact zretI (pc := 10) hx hb hlocks hr hw (Nat.zero_le _) (Nat.zero_le _) dX9_feastAt_10 ⟨by (try dsimp only) <;> (exact ⟨hv1, hR1, hfr1, h01, hfs1⟩), rfl, rfl⟩
set_option maxHeartbeats 4000000 in
set_option maxRecDepth 100000 in
theorem c_X9_feastOn (l : Launch) (Γ : zG) (K : zK) (X : zX) (Rf : zR) (md : Nat) (day : Int) (ρ : zL) (M : zM) (hR : repR ρ K X Rf md M) (hM : okM M) (h1 : fit day) : Ct l yX9_feastOn cX9_feastOn 2 (some .int) 7 0 0 Γ [.ref md, .int (iI day)] K X Rf (pI (zpx K Rf (fun (r : Int) (X' : zX) => (cdDay day = 0 → r = falM M day) ∧ X' md 0 = cdDay day ∧ repR ρ K X' Rf md M ∧ frR ρ K X Rf ρ K X' Rf ∧ fsR ρ X X'))) := by
  refine Ct.of (by decide +kernel) (Nat.le_of_ble_eq_true rfl) ?_
  intro p e s m below meth c ls hx hb hr hml hown hG hlocks hname hw hl
  have hl : lv_has ls 2 [(0, .ref md), (1, .int (iI day))] := hl
  obtain ⟨hmd, hlmd⟩ := id hR.1
  obtain ⟨⟨hb1, hb2, hb3, hb4⟩, hokP, hokL, hokS, hokW, hokF⟩ := id hM
  have hq1 : X md 1 = M 40 1 := hR.2.1 1 rfl
  have hq5 : X md 5 = M 40 5 := hR.2.1 5 rfl
  have hq16 : X md 16 = M 40 16 := hR.2.1 16 rfl
  have hq25 : X md 25 = M 40 25 := hR.2.1 25 rfl
  have hq26 : X md 26 = M 40 26 := hR.2.1 26 rfl
  have hq27 : X md 27 = M 40 27 := hR.2.1 27 rfl
  have hq28 : X md 28 = M 40 28 := hR.2.1 28 rfl
  have hq29 : X md 29 = M 40 29 := hR.2.1 29 rfl
  refine lv_aload_n (pc := 0) hx hb dX9_feastOn_0 rfl (lv_at hl 0 rfl) ?_
  refine ziconst (pc := 1) (n := 0) hx hb dX9_feastOn_1 ?_
  refine zputI (pc := 2) hx hb hG hown hw hmd (T := TX9) rfl 0 (by decide) rfl wf_X9_87 rfl (by decide +kernel) rfl dX9_feastOn_2 (fun H locs hw => ?_)
  obtain ⟨X2, eX2⟩ : ∃ Y : zX, Y = up2 X md 0 0 := ⟨_, rfl⟩
  rw [← eX2] at hw
  have hR2 : repR ρ K X2 Rf md M := by rw [eX2]; exact hR.own ⟨rfl, by decide⟩
  have hf2 : frR ρ K X Rf ρ K X2 Rf := by rw [eX2]; exact frR_own hR
  have h02 : X2 md 0 = 0 := by rw [eX2]; exact up2_s
  have hfs2 : fsR ρ X X2 := by rw [eX2]; exact fsR_own hR
  refine lv_iload_n (pc := 5) hx hb dX9_feastOn_5 rfl (lv_at hl 1 rfl) ?_
  refine zkIp (pc := 6) (zrS (As := [.int (iI day)]) hx hb hml hown hG hw (c_X9_isDay l Γ K X2 Rf day  (by (first | assumption | omega))) cb_X9_isDay wl_X9_126 rfl ⟨Nat.le_of_ble_eq_true rfl, Nat.le_of_ble_eq_true rfl⟩ hl.1 rfl (Nat.le_of_ble_eq_true rfl) dX9_feastOn_6 ⟨Nat.zero_le _, Nat.zero_le _⟩) hw (fun r6 H locs hp6 hw => ?_)
  subst hp6
  refine zif_eq (pc := 9) hx hb 20 (by omega) dX9_feastOn_9 (by decide) (fun c9 => ?_) (fun c9 => ?_)
  · skip
    replace c9 := it0 c9
    refine lv_aload_n (pc := 20) hx hb dX9_feastOn_20 rfl (lv_at hl 0 rfl) ?_
    refine ziconst (pc := 21) (n := 1) hx hb dX9_feastOn_21 ?_
    refine zkIx (pc := 22) (zrV (As := [.int (iI 1)]) hx hb hml hown hG hw (c_X9_refuse l Γ K X2 Rf md 1  (by (first | assumption | omega))) (T := TX9) hmd rfl cb_X9_refuse wl_X9_123 rfl ⟨Nat.le_of_ble_eq_true rfl, Nat.le_of_ble_eq_true rfl⟩ hl.1 rfl (Nat.le_of_ble_eq_true rfl) dX9_feastOn_22 ⟨Nat.zero_le _, Nat.zero_le _⟩) hw (fun r22 X22 H locs hp22 hw => ?_)
    obtain ⟨hrf22, eX22⟩ := hp22
    exact zretI (pc := 25) hx hb hlocks hr hw (Nat.zero_le _) (Nat.zero_le _) dX9_feastOn_25 ⟨by (try dsimp only) <;> (first | (rw [eX22]; refine ⟨fun hz => by (exfalso; revert hz; (unfold cdDay; (repeat' split) <;> omega)), by rw [up2_s]; symm; (unfold cdDay; (repeat' split) <;> omega), hR2.own ⟨rfl, by decide⟩, hf2.trans (frR_own hR2), hfs2.trans (fsR_own hR2)⟩) | exact ⟨fun _ => by exact hr14z, by rw [h014 0 (Or.inl rfl), h02]; symm; (unfold cdDay; (repeat' split) <;> omega), hR14, hf2.trans hf14, hfs2.trans hfs14⟩), rfl, rfl⟩
  · skip
    replace c9 := it1 c9
    refine lv_aload_n (pc := 12) hx hb dX9_feastOn_12 rfl (lv_at hl 0 rfl) ?_
    refine lv_iload_n (pc := 13) hx hb dX9_feastOn_13 rfl (lv_at hl 1 rfl) ?_
    refine zkIx (pc := 14) (zrV (As := [.int (iI day)]) hx hb hml hown hG hw (c_X9_feastAt l Γ K X2 Rf md day (ρ) M (by (first | assumption | omega)) (by (first | assumption | omega)) (by (first | assumption | omega))) (T := TX9) hmd rfl cb_X9_feastAt wl_X9_307 rfl ⟨Nat.le_of_ble_eq_true rfl, Nat.le_of_ble_eq_true rfl⟩ hl.1 rfl (Nat.le_of_ble_eq_true rfl) dX9_feastOn_14 ⟨Nat.zero_le _, Nat.zero_le _⟩) hw (fun r14 X14 H locs hp14 hw => ?_)
    obtain ⟨hr14z, hR14, hf14, h014, hfs14⟩ := hp14
    refine lv_goto (pc := 17) (tgt := 25) hx hb dX9_feastOn_17 (by decide) ?_
    exact zretI (pc := 25) hx hb hlocks hr hw (Nat.zero_le _) (Nat.zero_le _) dX9_feastOn_25 ⟨by (try dsimp only) <;> (first | (rw [eX14]; refine ⟨fun hz => by (exfalso; revert hz; (unfold cdDay; (repeat' split) <;> omega)), by rw [up2_s]; symm; (unfold cdDay; (repeat' split) <;> omega), hR2.own ⟨rfl, by decide⟩, hf2.trans (frR_own hR2), hfs2.trans (fsR_own hR2)⟩) | exact ⟨fun _ => by exact hr14z, by rw [h014 0 (Or.inl rfl), h02]; symm; (unfold cdDay; (repeat' split) <;> omega), hR14, hf2.trans hf14, hfs2.trans hfs14⟩), rfl, rfl⟩
set_option maxHeartbeats 4000000 in
set_option maxRecDepth 100000 in
theorem c_X9_isWorking (l : Launch) (Γ : zG) (K : zK) (X : zX) (Rf : zR) (md : Nat) (day : Int) (ρ : zL) (M : zM) (hR : repR ρ K X Rf md M) (hM : okM M) (h1 : fit day) : Ct l yX9_isWorking cX9_isWorking 2 (some .boolean) 7 0 0 Γ [.ref md, .int (iI day)] K X Rf (pI (zpx K Rf (fun (r : Int) (X' : zX) => (cdDay day = 0 → r = bI (wkdM M day)) ∧ X' md 0 = cdDay day ∧ repR ρ K X' Rf md M ∧ frR ρ K X Rf ρ K X' Rf ∧ fsR ρ X X'))) := by
  refine Ct.of (by decide +kernel) (Nat.le_of_ble_eq_true rfl) ?_
  intro p e s m below meth c ls hx hb hr hml hown hG hlocks hname hw hl
  have hl : lv_has ls 2 [(0, .ref md), (1, .int (iI day))] := hl
  obtain ⟨hmd, hlmd⟩ := id hR.1
  obtain ⟨⟨hb1, hb2, hb3, hb4⟩, hokP, hokL, hokS, hokW, hokF⟩ := id hM
  have hq1 : X md 1 = M 40 1 := hR.2.1 1 rfl
  have hq5 : X md 5 = M 40 5 := hR.2.1 5 rfl
  have hq16 : X md 16 = M 40 16 := hR.2.1 16 rfl
  have hq25 : X md 25 = M 40 25 := hR.2.1 25 rfl
  have hq26 : X md 26 = M 40 26 := hR.2.1 26 rfl
  have hq27 : X md 27 = M 40 27 := hR.2.1 27 rfl
  have hq28 : X md 28 = M 40 28 := hR.2.1 28 rfl
  have hq29 : X md 29 = M 40 29 := hR.2.1 29 rfl
  refine lv_aload_n (pc := 0) hx hb dX9_isWorking_0 rfl (lv_at hl 0 rfl) ?_
  refine ziconst (pc := 1) (n := 0) hx hb dX9_isWorking_1 ?_
  refine zputI (pc := 2) hx hb hG hown hw hmd (T := TX9) rfl 0 (by decide) rfl wf_X9_87 rfl (by decide +kernel) rfl dX9_isWorking_2 (fun H locs hw => ?_)
  obtain ⟨X2, eX2⟩ : ∃ Y : zX, Y = up2 X md 0 0 := ⟨_, rfl⟩
  rw [← eX2] at hw
  have hR2 : repR ρ K X2 Rf md M := by rw [eX2]; exact hR.own ⟨rfl, by decide⟩
  have hf2 : frR ρ K X Rf ρ K X2 Rf := by rw [eX2]; exact frR_own hR
  have h02 : X2 md 0 = 0 := by rw [eX2]; exact up2_s
  have hfs2 : fsR ρ X X2 := by rw [eX2]; exact fsR_own hR
  refine lv_iload_n (pc := 5) hx hb dX9_isWorking_5 rfl (lv_at hl 1 rfl) ?_
  refine zkIp (pc := 6) (zrS (As := [.int (iI day)]) hx hb hml hown hG hw (c_X9_isDay l Γ K X2 Rf day  (by (first | assumption | omega))) cb_X9_isDay wl_X9_126 rfl ⟨Nat.le_of_ble_eq_true rfl, Nat.le_of_ble_eq_true rfl⟩ hl.1 rfl (Nat.le_of_ble_eq_true rfl) dX9_isWorking_6 ⟨Nat.zero_le _, Nat.zero_le _⟩) hw (fun r6 H locs hp6 hw => ?_)
  subst hp6
  refine zif_eq (pc := 9) hx hb 18 (by omega) dX9_isWorking_9 (by decide) (fun c9 => ?_) (fun c9 => ?_)
  · skip
    replace c9 := it0 c9
    refine lv_aload_n (pc := 18) hx hb dX9_isWorking_18 rfl (lv_at hl 0 rfl) ?_
    refine ziconst (pc := 19) (n := 1) hx hb dX9_isWorking_19 ?_
    refine zputI (pc := 20) hx hb hG hown hw hmd (T := TX9) rfl 0 (by decide) rfl wf_X9_87 rfl (by decide +kernel) rfl dX9_isWorking_20 (fun H locs hw => ?_)
    obtain ⟨X20, eX20⟩ : ∃ Y : zX, Y = up2 X2 md 0 1 := ⟨_, rfl⟩
    rw [← eX20] at hw
    refine ziconst (pc := 23) (n := 0) hx hb dX9_isWorking_23 ?_
    exact zretZ (pc := 24) hx hb hlocks hr (Or.inl rfl) hw (Nat.zero_le _) (Nat.zero_le _) dX9_isWorking_24 ⟨by (try dsimp only) <;> (first | (rw [eX20]; refine ⟨fun hz => by (exfalso; revert hz; (unfold cdDay; (repeat' split) <;> omega)), by rw [up2_s]; symm; (unfold cdDay; (repeat' split) <;> omega), hR2.own ⟨rfl, by decide⟩, hf2.trans (frR_own hR2), hfs2.trans (fsR_own hR2)⟩) | exact ⟨fun _ => by exact hr14z, by rw [h014 0 (Or.inl rfl), h02]; symm; (unfold cdDay; (repeat' split) <;> omega), hR14, hf2.trans hf14, hfs2.trans hfs14⟩), rfl, rfl⟩
  · skip
    replace c9 := it1 c9
    refine lv_aload_n (pc := 12) hx hb dX9_isWorking_12 rfl (lv_at hl 0 rfl) ?_
    refine lv_iload_n (pc := 13) hx hb dX9_isWorking_13 rfl (lv_at hl 1 rfl) ?_
    refine zkIx (pc := 14) (zrV (As := [.int (iI day)]) hx hb hml hown hG hw (c_X9_works l Γ K X2 Rf md day (ρ) M (by (first | assumption | omega)) (by (first | assumption | omega)) (by (first | assumption | omega))) (T := TX9) hmd rfl cb_X9_works wl_X9_310 rfl ⟨Nat.le_of_ble_eq_true rfl, Nat.le_of_ble_eq_true rfl⟩ hl.1 rfl (Nat.le_of_ble_eq_true rfl) dX9_isWorking_14 ⟨Nat.zero_le _, Nat.zero_le _⟩) hw (fun r14 X14 H locs hp14 hw => ?_)
    obtain ⟨hr14z, hR14, hf14, h014, hfs14⟩ := hp14
    have hbi := bI_rng (wkdM M day)
    exact zretZ (pc := 17) hx hb hlocks hr (by omega) hw (Nat.zero_le _) (Nat.zero_le _) dX9_isWorking_17 ⟨by (try dsimp only) <;> (first | (rw [eX14]; refine ⟨fun hz => by (exfalso; revert hz; (unfold cdDay; (repeat' split) <;> omega)), by rw [up2_s]; symm; (unfold cdDay; (repeat' split) <;> omega), hR2.own ⟨rfl, by decide⟩, hf2.trans (frR_own hR2), hfs2.trans (fsR_own hR2)⟩) | exact ⟨fun _ => by exact hr14z, by rw [h014 0 (Or.inl rfl), h02]; symm; (unfold cdDay; (repeat' split) <;> omega), hR14, hf2.trans hf14, hfs2.trans hfs14⟩), rfl, rfl⟩
set_option maxHeartbeats 4000000 in
set_option maxRecDepth 100000 in
theorem c_X9_worksWithin (l : Launch) (Γ : zG) (K : zK) (X : zX) (Rf : zR) (md : Nat) (fr : Int) (days : Int) (ρ : zL) (M : zM) (hR : repR ρ K X Rf md M) (hM : okM M) (h1 : (0 ≤ fr ∧ fr ≤ 73048) ∧ (0 ≤ days ∧ days ≤ 400) ∧ fr + days ≤ 73049) : Ct l yX9_worksWithin cX9_worksWithin 5 (some .int) 7 0 0 Γ [.ref md, .int (iI fr), .int (iI days)] K X Rf (pI (zpx K Rf (fun (r : Int) (X' : zX) => r = cP (wkdM M) (fr + days - fr).toNat fr ∧ repR ρ K X' Rf md M ∧ frR ρ K X Rf ρ K X' Rf ∧ (∀ q, q = 0 ∨ q = 36 → X' md q = X md q) ∧ fsR ρ X X'))) := by
  refine Ct.of (by decide +kernel) (Nat.le_of_ble_eq_true rfl) ?_
  intro p e s m below meth c ls hx hb hr hml hown hG hlocks hname hw hl
  have hl : lv_has ls 5 [(0, .ref md), (1, .int (iI fr)), (2, .int (iI days))] := hl
  obtain ⟨hmd, hlmd⟩ := id hR.1
  refine ziconst (pc := 0) (n := 0) hx hb dX9_worksWithin_0 ?_
  refine lv_istore_n (pc := 1) (lv' := [(3, .int (iI 0)), (0, .ref md), (1, .int (iI fr)), (2, .int (iI days))]) hx hb dX9_worksWithin_1 rfl hl (by decide) rfl (fun ls hl => ?_)
  refine lv_iload_n (pc := 2) hx hb dX9_worksWithin_2 rfl (lv_at hl 2 rfl) ?_
  refine lv_istore (pc := 3) (lv' := [(4, .int (iI fr)), (3, .int (iI 0)), (0, .ref md), (1, .int (iI fr)), (2, .int (iI days))]) hx hb dX9_worksWithin_3 hl (by decide) rfl (fun ls hl => ?_)
  have lp5 : ∀ (n5 : Nat) (dd : Int) (ct : Int) (XL5 : zX) (H : Heap) (locs : List Loc), (hi : fr ≤ dd ∧ dd ≤ fr + days) → (hc : ct = cP (wkdM M) (dd - fr).toNat fr) → (hR9 : repR ρ K XL5 Rf md M) → (hf9 : frR ρ K X Rf ρ K XL5 Rf) → (h09 : ∀ q, q = 0 ∨ q = 36 → XL5 md q = X md q) → (hF9 : fsR ρ X XL5) → ((fr + days - dd).toNat < n5) → Wd Γ (zA K s.heap.size) K XL5 Rf s H locs → ∀ ls : Array Slot, lv_has ls 5 [(4, .int (iI dd)), (3, .int (iI ct)), (0, .ref md), (1, .int (iI fr)), (2, .int (iI days))] → W p l e (rmL 7 0 0) s m ([.ref md, .int (iI fr), .int (iI days)] : List Value).toArray below meth c H locs 0 0 (MQ below (zQ Γ K s.heap.size (pI (zpx K Rf (fun (r : Int) (X' : zX) => r = cP (wkdM M) (fr + days - fr).toNat fr ∧ repR ρ K X' Rf md M ∧ frR ρ K X Rf ρ K X' Rf ∧ (∀ q, q = 0 ∨ q = 36 → X' md q = X md q) ∧ fsR ρ X X')))) ([.ref md, .int (iI fr), .int (iI days)] : List Value).toArray s 0 0 (zA K s.heap.size)) (F0 m 5 ls []) := by
    intro n5
    induction n5 with
    | zero => intro dd ct XL5 H locs hi hc hR9 hf9 h09 hF9 hm5; exact absurd hm5 (Nat.not_lt_zero _)
    | succ n5 ih5 =>
      intro dd ct XL5 H locs hi hc hR9 hf9 h09 hF9 hm5 hw ls hl
      have hct := cP_rng (p := wkdM M) (b := dd) fr
      refine lv_iload (pc := 5) hx hb dX9_worksWithin_5 (lv_at hl 0 rfl) ?_
      refine lv_iload_n (pc := 7) hx hb dX9_worksWithin_7 rfl (lv_at hl 3 rfl) ?_
      refine lv_iload_n (pc := 8) hx hb dX9_worksWithin_8 rfl (lv_at hl 4 rfl) ?_
      refine zadd (pc := 9) hx hb dX9_worksWithin_9 ?_
      refine zicmp_ge (pc := 10) hx hb 36 (by omega) (by omega) dX9_worksWithin_10 (by decide) (fun c10 => ?_) (fun c10 => ?_)
      · skip
        refine lv_iload_n (pc := 36) hx hb dX9_worksWithin_36 rfl (lv_at hl 1 rfl) ?_
        exact zretI (pc := 37) hx hb hlocks hr hw (Nat.zero_le _) (Nat.zero_le _) dX9_worksWithin_37 ⟨by (try dsimp only) <;> (exact ⟨by rw [hc, show dd = fr + days by omega], hR9, hf9, h09, hF9⟩), rfl, rfl⟩
      · skip
        refine lv_iload_n (pc := 13) hx hb dX9_worksWithin_13 rfl (lv_at hl 1 rfl) ?_
        refine lv_aload_n (pc := 14) hx hb dX9_worksWithin_14 rfl (lv_at hl 2 rfl) ?_
        refine lv_iload (pc := 15) hx hb dX9_worksWithin_15 (lv_at hl 0 rfl) ?_
        refine zkIx (pc := 17) (zrV (As := [.int (iI dd)]) hx hb hml hown hG hw (c_X9_works l Γ K XL5 Rf md dd (ρ) M (by (first | assumption | omega)) (by (first | assumption | omega)) (by (first | assumption | omega))) (T := TX9) hmd rfl cb_X9_works wl_X9_310 rfl ⟨Nat.le_of_ble_eq_true rfl, Nat.le_of_ble_eq_true rfl⟩ hl.1 rfl (Nat.le_of_ble_eq_true rfl) dX9_worksWithin_17 ⟨Nat.zero_le _, Nat.zero_le _⟩) hw (fun r17 X17 H locs hp17 hw => ?_)
        obtain ⟨hr17z, hR17, hf17, h017, hfs17⟩ := hp17
        have hbi := bI_rng (wkdM M dd)
        refine zif_eq (pc := 20) hx hb 27 (by omega) dX9_worksWithin_20 (by decide) (fun c20 => ?_) (fun c20 => ?_)
        · skip
          have q20 := bI_0 (hr17z.symm.trans c20)
          refine ziconst (pc := 27) (n := 0) hx hb dX9_worksWithin_27 ?_
          refine zadd (pc := 28) hx hb dX9_worksWithin_28 ?_
          refine ztop (fun x29 ex29 => ?_)
          refine lv_istore_n (pc := 29) (lv' := [(3, .int (iI x29)), (4, .int (iI dd)), (0, .ref md), (1, .int (iI fr)), (2, .int (iI days))]) hx hb dX9_worksWithin_29 rfl hl (by decide) rfl (fun ls hl => ?_)
          refine ziinc (pc := 30) (lv' := [(4, .int (iI (dd + 1))), (3, .int (iI x29)), (0, .ref md), (1, .int (iI fr)), (2, .int (iI days))]) hx hb 1 dX9_worksWithin_30 hl rfl (by decide) rfl (fun ls hl => ?_)
          obtain ⟨x30, ex30⟩ : ∃ zz : Int, zz = (dd + 1) := ⟨_, rfl⟩
          rw [← ex30] at hl
          refine lv_goto (pc := 33) (tgt := 5) hx hb dX9_worksWithin_33 (by decide) ?_
          exact ih5 x30 x29 X17 _ _ (by (first | assumption | omega)) (by rw [ex30, cP_last (by omega), ← hc]; first | (rw [if_neg (by rw [q20]; simp)]; omega) | (rw [if_pos q20]; omega)) (by exact hR17) (by exact hf9.trans hf17) (by exact fun q hq => by rw [h017 q hq, h09 q hq]) (by exact hF9.trans hfs17) (by omega) hw _ (lv_sub hl [0, 1, 2, 3, 4] rfl)
        · skip
          have q20 := bI_1 (fun g => c20 (hr17z.trans g))
          refine ziconst (pc := 23) (n := 1) hx hb dX9_worksWithin_23 ?_
          refine lv_goto (pc := 24) (tgt := 28) hx hb dX9_worksWithin_24 (by decide) ?_
          refine zadd (pc := 28) hx hb dX9_worksWithin_28 ?_
          refine ztop (fun x29 ex29 => ?_)
          refine lv_istore_n (pc := 29) (lv' := [(3, .int (iI x29)), (4, .int (iI dd)), (0, .ref md), (1, .int (iI fr)), (2, .int (iI days))]) hx hb dX9_worksWithin_29 rfl hl (by decide) rfl (fun ls hl => ?_)
          refine ziinc (pc := 30) (lv' := [(4, .int (iI (dd + 1))), (3, .int (iI x29)), (0, .ref md), (1, .int (iI fr)), (2, .int (iI days))]) hx hb 1 dX9_worksWithin_30 hl rfl (by decide) rfl (fun ls hl => ?_)
          obtain ⟨x30, ex30⟩ : ∃ zz : Int, zz = (dd + 1) := ⟨_, rfl⟩
          rw [← ex30] at hl
          refine lv_goto (pc := 33) (tgt := 5) hx hb dX9_worksWithin_33 (by decide) ?_
          exact ih5 x30 x29 X17 _ _ (by (first | assumption | omega)) (by rw [ex30, cP_last (by omega), ← hc]; first | (rw [if_neg (by rw [q20]; simp)]; omega) | (rw [if_pos q20]; omega)) (by exact hR17) (by exact hf9.trans hf17) (by exact fun q hq => by rw [h017 q hq, h09 q hq]) (by exact hF9.trans hfs17) (by omega) hw _ (lv_sub hl [0, 1, 2, 3, 4] rfl)
  exact lp5 _ fr 0 X _ _ (by (first | assumption | omega)) (by rw [cP_e (Int.le_refl _)]) (by exact hR) (by exact frR_refl) (by exact fun _ _ => rfl) (by exact fsR_refl) (Nat.lt_succ_self _) hw _ (lv_sub hl [0, 1, 2, 3, 4] rfl)
set_option maxHeartbeats 4000000 in
set_option maxRecDepth 100000 in
theorem c_X9_workingDays (l : Launch) (Γ : zG) (K : zK) (X : zX) (Rf : zR) (md : Nat) (fr : Int) (days : Int) (ρ : zL) (M : zM) (hR : repR ρ K X Rf md M) (hM : okM M) (h1 : fit fr ∧ fit days) : Ct l yX9_workingDays cX9_workingDays 3 (some .int) 8 0 0 Γ [.ref md, .int (iI fr), .int (iI days)] K X Rf (pI (zpx K Rf (fun (r : Int) (X' : zX) => (cdWds fr days = 0 → r = cP (wkdM M) (fr + days - fr).toNat fr) ∧ X' md 0 = cdWds fr days ∧ repR ρ K X' Rf md M ∧ frR ρ K X Rf ρ K X' Rf ∧ fsR ρ X X'))) := by
  refine Ct.of (by decide +kernel) (Nat.le_of_ble_eq_true rfl) ?_
  intro p e s m below meth c ls hx hb hr hml hown hG hlocks hname hw hl
  have hl : lv_has ls 3 [(0, .ref md), (1, .int (iI fr)), (2, .int (iI days))] := hl
  obtain ⟨hmd, hlmd⟩ := id hR.1
  obtain ⟨⟨hb1, hb2, hb3, hb4⟩, hokP, hokL, hokS, hokW, hokF⟩ := id hM
  have hq1 : X md 1 = M 40 1 := hR.2.1 1 rfl
  have hq5 : X md 5 = M 40 5 := hR.2.1 5 rfl
  have hq16 : X md 16 = M 40 16 := hR.2.1 16 rfl
  have hq25 : X md 25 = M 40 25 := hR.2.1 25 rfl
  have hq26 : X md 26 = M 40 26 := hR.2.1 26 rfl
  have hq27 : X md 27 = M 40 27 := hR.2.1 27 rfl
  have hq28 : X md 28 = M 40 28 := hR.2.1 28 rfl
  have hq29 : X md 29 = M 40 29 := hR.2.1 29 rfl
  refine lv_aload_n (pc := 0) hx hb dX9_workingDays_0 rfl (lv_at hl 0 rfl) ?_
  refine ziconst (pc := 1) (n := 0) hx hb dX9_workingDays_1 ?_
  refine zputI (pc := 2) hx hb hG hown hw hmd (T := TX9) rfl 0 (by decide) rfl wf_X9_87 rfl (by decide +kernel) rfl dX9_workingDays_2 (fun H locs hw => ?_)
  obtain ⟨X2, eX2⟩ : ∃ Y : zX, Y = up2 X md 0 0 := ⟨_, rfl⟩
  rw [← eX2] at hw
  have hR2 : repR ρ K X2 Rf md M := by rw [eX2]; exact hR.own ⟨rfl, by decide⟩
  have hf2 : frR ρ K X Rf ρ K X2 Rf := by rw [eX2]; exact frR_own hR
  have h02 : X2 md 0 = 0 := by rw [eX2]; exact up2_s
  have hfs2 : fsR ρ X X2 := by rw [eX2]; exact fsR_own hR
  refine lv_iload_n (pc := 5) hx hb dX9_workingDays_5 rfl (lv_at hl 1 rfl) ?_
  refine zkIp (pc := 6) (zrS (As := [.int (iI fr)]) hx hb hml hown hG hw (c_X9_isDay l Γ K X2 Rf fr  (by (first | assumption | omega))) cb_X9_isDay wl_X9_126 rfl ⟨Nat.le_of_ble_eq_true rfl, Nat.le_of_ble_eq_true rfl⟩ hl.1 rfl (Nat.le_of_ble_eq_true rfl) dX9_workingDays_6 ⟨Nat.zero_le _, Nat.zero_le _⟩) hw (fun r6 H locs hp6 hw => ?_)
  subst hp6
  refine zif_ne (pc := 9) hx hb 18 (by omega) dX9_workingDays_9 (by decide) (fun c9 => ?_) (fun c9 => ?_)
  · skip
    replace c9 := it1 c9
    refine lv_iload_n (pc := 18) hx hb dX9_workingDays_18 rfl (lv_at hl 2 rfl) ?_
    refine ziconst (pc := 19) (n := 0) hx hb dX9_workingDays_19 ?_
    refine zsipush (pc := 20) (n := 400) hx hb dX9_workingDays_20 rfl ?_
    refine zkIp (pc := 23) (zrS (As := [.int (iI days), .int (iI 0), .int (iI 400)]) hx hb hml hown hG hw (c_X9_is l Γ K X2 Rf days 0 400  (by (first | assumption | omega))) cb_X9_is wl_X9_91 rfl ⟨Nat.le_of_ble_eq_true rfl, Nat.le_of_ble_eq_true rfl⟩ hl.1 rfl (Nat.le_of_ble_eq_true rfl) dX9_workingDays_23 ⟨Nat.zero_le _, Nat.zero_le _⟩) hw (fun r23 H locs hp23 hw => ?_)
    subst hp23
    refine zif_eq (pc := 26) hx hb 46 (by omega) dX9_workingDays_26 (by decide) (fun c26 => ?_) (fun c26 => ?_)
    · skip
      replace c26 := it0 c26
      refine lv_aload_n (pc := 46) hx hb dX9_workingDays_46 rfl (lv_at hl 0 rfl) ?_
      refine ziconst (pc := 47) (n := 2) hx hb dX9_workingDays_47 ?_
      refine zkIx (pc := 48) (zrV (As := [.int (iI 2)]) hx hb hml hown hG hw (c_X9_refuse l Γ K X2 Rf md 2  (by (first | assumption | omega))) (T := TX9) hmd rfl cb_X9_refuse wl_X9_123 rfl ⟨Nat.le_of_ble_eq_true rfl, Nat.le_of_ble_eq_true rfl⟩ hl.1 rfl (Nat.le_of_ble_eq_true rfl) dX9_workingDays_48 ⟨Nat.zero_le _, Nat.zero_le _⟩) hw (fun r48 X48 H locs hp48 hw => ?_)
      obtain ⟨hrf48, eX48⟩ := hp48
      exact zretI (pc := 51) hx hb hlocks hr hw (Nat.zero_le _) (Nat.zero_le _) dX9_workingDays_51 ⟨by (try dsimp only) <;> (first | (rw [eX48]; refine ⟨fun hz => by (exfalso; revert hz; (unfold cdWds; (repeat' split) <;> omega)), by rw [up2_s]; symm; (unfold cdWds; (repeat' split) <;> omega), hR2.own ⟨rfl, by decide⟩, hf2.trans (frR_own hR2), hfs2.trans (fsR_own hR2)⟩) | exact ⟨fun _ => by exact hr40z, by rw [h040 0 (Or.inl rfl), h02]; symm; (unfold cdWds; (repeat' split) <;> omega), hR40, hf2.trans hf40, hfs2.trans hfs40⟩), rfl, rfl⟩
    · skip
      replace c26 := it1 c26
      refine lv_iload_n (pc := 29) hx hb dX9_workingDays_29 rfl (lv_at hl 1 rfl) ?_
      refine lv_iload_n (pc := 30) hx hb dX9_workingDays_30 rfl (lv_at hl 2 rfl) ?_
      refine zadd (pc := 31) hx hb dX9_workingDays_31 ?_
      refine zldc (pc := 32) (n := 73049) hx hb hown hG wk_X9_82 dX9_workingDays_32 ?_
      refine zicmp_gt (pc := 34) hx hb 46 (by omega) (by omega) dX9_workingDays_34 (by decide) (fun c34 => ?_) (fun c34 => ?_)
      · skip
        refine lv_aload_n (pc := 46) hx hb dX9_workingDays_46 rfl (lv_at hl 0 rfl) ?_
        refine ziconst (pc := 47) (n := 2) hx hb dX9_workingDays_47 ?_
        refine zkIx (pc := 48) (zrV (As := [.int (iI 2)]) hx hb hml hown hG hw (c_X9_refuse l Γ K X2 Rf md 2  (by (first | assumption | omega))) (T := TX9) hmd rfl cb_X9_refuse wl_X9_123 rfl ⟨Nat.le_of_ble_eq_true rfl, Nat.le_of_ble_eq_true rfl⟩ hl.1 rfl (Nat.le_of_ble_eq_true rfl) dX9_workingDays_48 ⟨Nat.zero_le _, Nat.zero_le _⟩) hw (fun r48 X48 H locs hp48 hw => ?_)
        obtain ⟨hrf48, eX48⟩ := hp48
        exact zretI (pc := 51) hx hb hlocks hr hw (Nat.zero_le _) (Nat.zero_le _) dX9_workingDays_51 ⟨by (try dsimp only) <;> (first | (rw [eX48]; refine ⟨fun hz => by (exfalso; revert hz; (unfold cdWds; (repeat' split) <;> omega)), by rw [up2_s]; symm; (unfold cdWds; (repeat' split) <;> omega), hR2.own ⟨rfl, by decide⟩, hf2.trans (frR_own hR2), hfs2.trans (fsR_own hR2)⟩) | exact ⟨fun _ => by exact hr40z, by rw [h040 0 (Or.inl rfl), h02]; symm; (unfold cdWds; (repeat' split) <;> omega), hR40, hf2.trans hf40, hfs2.trans hfs40⟩), rfl, rfl⟩
      · skip
        refine lv_aload_n (pc := 37) hx hb dX9_workingDays_37 rfl (lv_at hl 0 rfl) ?_
        refine lv_iload_n (pc := 38) hx hb dX9_workingDays_38 rfl (lv_at hl 1 rfl) ?_
        refine lv_iload_n (pc := 39) hx hb dX9_workingDays_39 rfl (lv_at hl 2 rfl) ?_
        refine zkIx (pc := 40) (zrV (As := [.int (iI fr), .int (iI days)]) hx hb hml hown hG hw (c_X9_worksWithin l Γ K X2 Rf md fr days (ρ) M (by (first | assumption | omega)) (by (first | assumption | omega)) (by (first | assumption | omega))) (T := TX9) hmd rfl cb_X9_worksWithin wl_X9_313 rfl ⟨Nat.le_of_ble_eq_true rfl, Nat.le_of_ble_eq_true rfl⟩ hl.1 rfl (Nat.le_of_ble_eq_true rfl) dX9_workingDays_40 ⟨Nat.zero_le _, Nat.zero_le _⟩) hw (fun r40 X40 H locs hp40 hw => ?_)
        obtain ⟨hr40z, hR40, hf40, h040, hfs40⟩ := hp40
        refine lv_goto (pc := 43) (tgt := 51) hx hb dX9_workingDays_43 (by decide) ?_
        exact zretI (pc := 51) hx hb hlocks hr hw (Nat.zero_le _) (Nat.zero_le _) dX9_workingDays_51 ⟨by (try dsimp only) <;> (first | (rw [eX40]; refine ⟨fun hz => by (exfalso; revert hz; (unfold cdWds; (repeat' split) <;> omega)), by rw [up2_s]; symm; (unfold cdWds; (repeat' split) <;> omega), hR2.own ⟨rfl, by decide⟩, hf2.trans (frR_own hR2), hfs2.trans (fsR_own hR2)⟩) | exact ⟨fun _ => by exact hr40z, by rw [h040 0 (Or.inl rfl), h02]; symm; (unfold cdWds; (repeat' split) <;> omega), hR40, hf2.trans hf40, hfs2.trans hfs40⟩), rfl, rfl⟩
  · skip
    replace c9 := it0 c9
    refine lv_aload_n (pc := 12) hx hb dX9_workingDays_12 rfl (lv_at hl 0 rfl) ?_
    refine ziconst (pc := 13) (n := 1) hx hb dX9_workingDays_13 ?_
    refine zkIx (pc := 14) (zrV (As := [.int (iI 1)]) hx hb hml hown hG hw (c_X9_refuse l Γ K X2 Rf md 1  (by (first | assumption | omega))) (T := TX9) hmd rfl cb_X9_refuse wl_X9_123 rfl ⟨Nat.le_of_ble_eq_true rfl, Nat.le_of_ble_eq_true rfl⟩ hl.1 rfl (Nat.le_of_ble_eq_true rfl) dX9_workingDays_14 ⟨Nat.zero_le _, Nat.zero_le _⟩) hw (fun r14 X14 H locs hp14 hw => ?_)
    obtain ⟨hrf14, eX14⟩ := hp14
    exact zretI (pc := 17) hx hb hlocks hr hw (Nat.zero_le _) (Nat.zero_le _) dX9_workingDays_17 ⟨by (try dsimp only) <;> (first | (rw [eX14]; refine ⟨fun hz => by (exfalso; revert hz; (unfold cdWds; (repeat' split) <;> omega)), by rw [up2_s]; symm; (unfold cdWds; (repeat' split) <;> omega), hR2.own ⟨rfl, by decide⟩, hf2.trans (frR_own hR2), hfs2.trans (fsR_own hR2)⟩) | exact ⟨fun _ => by exact hr40z, by rw [h040 0 (Or.inl rfl), h02]; symm; (unfold cdWds; (repeat' split) <;> omega), hR40, hf2.trans hf40, hfs2.trans hfs40⟩), rfl, rfl⟩
set_option maxHeartbeats 4000000 in
set_option maxRecDepth 100000 in
theorem c_X9_behind (l : Launch) (Γ : zG) (K : zK) (X : zX) (Rf : zR) (md : Nat) (day : Int) (days : Int) (ρ : zL) (M : zM) (hR : repR ρ K X Rf md M) (hM : okM M) (h1 : (0 ≤ day ∧ day ≤ 73048) ∧ (-200 ≤ days ∧ days ≤ 200)) : Ct l yX9_behind cX9_behind 6 (some .int) 7 0 0 Γ [.ref md, .int (iI day), .int (iI days)] K X Rf (pI (zpx K Rf (fun (r : Int) (X' : zX) => r = bhF (wkdM M) day days ∧ repR ρ K X' Rf md M ∧ frR ρ K X Rf ρ K X' Rf ∧ (∀ q, q = 0 ∨ q = 36 → X' md q = X md q) ∧ fsR ρ X X'))) := by
  refine Ct.of (by decide +kernel) (Nat.le_of_ble_eq_true rfl) ?_
  intro p e s m below meth c ls hx hb hr hml hown hG hlocks hname hw hl
  have hl : lv_has ls 6 [(0, .ref md), (1, .int (iI day)), (2, .int (iI days))] := hl
  obtain ⟨hmd, hlmd⟩ := id hR.1
  refine lv_iload_n (pc := 0) hx hb dX9_behind_0 rfl (lv_at hl 2 rfl) ?_
  refine zabs (pc := 1) hx hb (hml.trans hl.1.symm) hown hG wl_X9_316 w1_zab wi_javalangMath w2_zab (Nat.le_of_ble_eq_true rfl) (Nat.le_of_ble_eq_true rfl) (Nat.zero_le _) (Nat.zero_le _) (by omega) dX9_behind_1 ?_
  refine ztop (fun x4 ex4 => ?_)
  refine lv_istore_n (pc := 4) (lv' := [(3, .int (iI x4)), (0, .ref md), (1, .int (iI day)), (2, .int (iI days))]) hx hb dX9_behind_4 rfl hl (by decide) rfl (fun ls hl => ?_)
  refine lv_iload_n (pc := 5) hx hb dX9_behind_5 rfl (lv_at hl 3 rfl) ?_
  have jn14_0 : ∀ (bv : Int) (H : Heap) (locs : List Loc), (hbv : bv = if days < 0 then -1 else 1) → Wd Γ (zA K s.heap.size) K X Rf s H locs → ∀ ls : Array Slot, lv_has ls 6 [(3, .int (iI x4)), (0, .ref md), (1, .int (iI day)), (2, .int (iI days))] → W p l e (rmL 7 0 0) s m ([.ref md, .int (iI day), .int (iI days)] : List Value).toArray below meth c H locs 0 0 (MQ below (zQ Γ K s.heap.size (pI (zpx K Rf (fun (r : Int) (X' : zX) => r = bhF (wkdM M) day days ∧ repR ρ K X' Rf md M ∧ frR ρ K X Rf ρ K X' Rf ∧ (∀ q, q = 0 ∨ q = 36 → X' md q = X md q) ∧ fsR ρ X X')))) ([.ref md, .int (iI day), .int (iI days)] : List Value).toArray s 0 0 (zA K s.heap.size)) (F0 m 14 ls [.int (iI bv)]) := by
    intro bv H locs hbv hw ls hl
    refine lv_istore (pc := 14) (lv' := [(4, .int (iI bv)), (3, .int (iI x4)), (0, .ref md), (1, .int (iI day)), (2, .int (iI days))]) hx hb dX9_behind_14 hl (by decide) rfl (fun ls hl => ?_)
    refine lv_iload_n (pc := 16) hx hb dX9_behind_16 rfl (lv_at hl 3 rfl) ?_
    refine lv_istore (pc := 17) (lv' := [(5, .int (iI day)), (4, .int (iI bv)), (3, .int (iI x4)), (0, .ref md), (1, .int (iI day)), (2, .int (iI days))]) hx hb dX9_behind_17 hl (by decide) rfl (fun ls hl => ?_)
    have lp19 : ∀ (n19 : Nat) (at_ : Int) (lf : Int) (XL19 : zX) (H : Heap) (locs : List Loc), (hi : 0 ≤ lf ∧ lf ≤ 200) → (ha : (days = 0 ∧ at_ = day ∧ lf = 0) ∨ (0 < days ∧ day ≤ at_ ∧ at_ ≤ min (day + 500) 73048) ∨ (days < 0 ∧ at_ ≤ day ∧ max 0 (day - 500) ≤ at_)) → (hc : if lf = 0 then bhF (wkdM M) day days = at_ else bhF (wkdM M) day days = if 0 < days then chF (wkdM M) (min (day + 500) 73048 - (at_ + 1) + 1).toNat (at_ + 1) lf else chB (wkdM M) (at_ - 1 - max 0 (day - 500) + 1).toNat (at_ - 1) lf) → (hR9 : repR ρ K XL19 Rf md M) → (hf9 : frR ρ K X Rf ρ K XL19 Rf) → (h09 : ∀ q, q = 0 ∨ q = 36 → XL19 md q = X md q) → (hF9 : fsR ρ X XL19) → ((if 0 < days then 600 + day - at_ else 600 - day + at_).toNat < n19) → Wd Γ (zA K s.heap.size) K XL19 Rf s H locs → ∀ ls : Array Slot, lv_has ls 6 [(5, .int (iI at_)), (4, .int (iI bv)), (3, .int (iI lf)), (0, .ref md), (1, .int (iI day)), (2, .int (iI days))] → W p l e (rmL 7 0 0) s m ([.ref md, .int (iI day), .int (iI days)] : List Value).toArray below meth c H locs 0 0 (MQ below (zQ Γ K s.heap.size (pI (zpx K Rf (fun (r : Int) (X' : zX) => r = bhF (wkdM M) day days ∧ repR ρ K X' Rf md M ∧ frR ρ K X Rf ρ K X' Rf ∧ (∀ q, q = 0 ∨ q = 36 → X' md q = X md q) ∧ fsR ρ X X')))) ([.ref md, .int (iI day), .int (iI days)] : List Value).toArray s 0 0 (zA K s.heap.size)) (F0 m 19 ls []) := by
      intro n19
      induction n19 with
      | zero => intro at_ lf XL19 H locs hi ha hc hR9 hf9 h09 hF9 hm19; exact absurd hm19 (Nat.not_lt_zero _)
      | succ n19 ih19 =>
        intro at_ lf XL19 H locs hi ha hc hR9 hf9 h09 hF9 hm19 hw ls hl
        refine lv_iload_n (pc := 19) hx hb dX9_behind_19 rfl (lv_at hl 2 rfl) ?_
        refine zif_le (pc := 20) hx hb 68 (by omega) dX9_behind_20 (by decide) (fun c20 => ?_) (fun c20 => ?_)
        · skip
          refine lv_iload (pc := 68) hx hb dX9_behind_68 (lv_at hl 0 rfl) ?_
          exact zretI (pc := 70) hx hb hlocks hr hw (Nat.zero_le _) (Nat.zero_le _) dX9_behind_70 ⟨by (try dsimp only) <;> (refine ⟨?_, hR9, hf9, h09, hF9⟩; rw [if_pos (by omega)] at hc; rw [hc]), rfl, rfl⟩
        · skip
          refine lv_iload (pc := 23) hx hb dX9_behind_23 (lv_at hl 0 rfl) ?_
          refine lv_iload (pc := 25) hx hb dX9_behind_25 (lv_at hl 1 rfl) ?_
          refine zadd (pc := 27) hx hb dX9_behind_27 ?_
          refine ztop (fun x28 ex28 => ?_)
          refine lv_istore (pc := 28) (lv' := [(5, .int (iI x28)), (4, .int (iI bv)), (3, .int (iI lf)), (0, .ref md), (1, .int (iI day)), (2, .int (iI days))]) hx hb dX9_behind_28 hl (by decide) rfl (fun ls hl => ?_)
          refine lv_iload (pc := 30) hx hb dX9_behind_30 (lv_at hl 0 rfl) ?_
          refine zkIp (pc := 32) (zrS (As := [.int (iI x28)]) hx hb hml hown hG hw (c_X9_isDay l Γ K XL19 Rf x28  (by (first | assumption | omega))) cb_X9_isDay wl_X9_126 rfl ⟨Nat.le_of_ble_eq_true rfl, Nat.le_of_ble_eq_true rfl⟩ hl.1 rfl (Nat.le_of_ble_eq_true rfl) dX9_behind_32 ⟨Nat.zero_le _, Nat.zero_le _⟩) hw (fun r32 H locs hp32 hw => ?_)
          subst hp32
          refine zif_eq (pc := 35) hx hb 51 (by omega) dX9_behind_35 (by decide) (fun c35 => ?_) (fun c35 => ?_)
          · skip
            replace c35 := it0 c35
            refine ziconst (pc := 51) (n := (-1)) hx hb dX9_behind_51 ?_
            exact zretI (pc := 52) hx hb hlocks hr hw (Nat.zero_le _) (Nat.zero_le _) dX9_behind_52 ⟨by (try dsimp only) <;> (refine ⟨?_, hR9, hf9, h09, hF9⟩; rw [if_neg (by omega)] at hc; rw [hc]; by_cases g2 : 0 < days; (rw [if_pos g2, chF_e (by omega)]); (rw [if_neg g2, chB_e (by omega)])), rfl, rfl⟩
          · skip
            replace c35 := it1 c35
            refine lv_iload (pc := 38) hx hb dX9_behind_38 (lv_at hl 0 rfl) ?_
            refine lv_iload_n (pc := 40) hx hb dX9_behind_40 rfl (lv_at hl 4 rfl) ?_
            refine zsub (pc := 41) hx hb dX9_behind_41 ?_
            refine zabs (pc := 42) hx hb (hml.trans hl.1.symm) hown hG wl_X9_316 w1_zab wi_javalangMath w2_zab (Nat.le_of_ble_eq_true rfl) (Nat.le_of_ble_eq_true rfl) (Nat.zero_le _) (Nat.zero_le _) (by omega) dX9_behind_42 ?_
            refine zsipush (pc := 45) (n := 500) hx hb dX9_behind_45 rfl ?_
            refine zicmp_le (pc := 48) hx hb 53 (by omega) (by omega) dX9_behind_48 (by decide) (fun c48 => ?_) (fun c48 => ?_)
            · skip
              refine lv_aload_n (pc := 53) hx hb dX9_behind_53 rfl (lv_at hl 3 rfl) ?_
              refine lv_iload (pc := 54) hx hb dX9_behind_54 (lv_at hl 0 rfl) ?_
              refine zkIx (pc := 56) (zrV (As := [.int (iI x28)]) hx hb hml hown hG hw (c_X9_works l Γ K XL19 Rf md x28 (ρ) M (by (first | assumption | omega)) (by (first | assumption | omega)) (by (first | assumption | omega))) (T := TX9) hmd rfl cb_X9_works wl_X9_310 rfl ⟨Nat.le_of_ble_eq_true rfl, Nat.le_of_ble_eq_true rfl⟩ hl.1 rfl (Nat.le_of_ble_eq_true rfl) dX9_behind_56 ⟨Nat.zero_le _, Nat.zero_le _⟩) hw (fun r56 X56 H locs hp56 hw => ?_)
              obtain ⟨hr56z, hR56, hf56, h056, hfs56⟩ := hp56
              have hbi := bI_rng (wkdM M x28)
              refine zif_eq (pc := 59) hx hb 19 (by omega) dX9_behind_59 (by decide) (fun c59 => ?_) (fun c59 => ?_)
              · skip
                have q59 := bI_0 (hr56z.symm.trans c59)
                exact ih19 x28 lf X56 _ _ (by (first | assumption | omega)) (by omega) (by 
                                        rw [if_neg (by omega)] at hc
                                        rw [hc]
                                        by_cases g2 : 0 < days
                                        · rw [if_pos g2]
                                          first
                                          | (by_cases g1 : lf = 1
                                             · rw [if_pos (by omega), g1, show at_ + 1 = x28 by omega, chF_h (by omega) q59]
                                             · rw [if_neg (by omega), if_pos g2, show at_ + 1 = x28 by omega, chF_t (by omega) q59 g1, show lf - 1 = x62 by omega])
                                          | (rw [if_neg (by omega), if_pos g2, show at_ + 1 = x28 by omega, chF_s (by omega) q59])
                                        · rw [if_neg g2]
                                          first
                                          | (by_cases g1 : lf = 1
                                             · rw [if_pos (by omega), g1, show at_ - 1 = x28 by omega, chB_h (by omega) q59]
                                             · rw [if_neg (by omega), if_neg g2, show at_ - 1 = x28 by omega, chB_t (by omega) q59 g1, show lf - 1 = x62 by omega])
                                          | (rw [if_neg (by omega), if_neg g2, show at_ - 1 = x28 by omega, chB_s (by omega) q59])) (by exact hR56) (by exact hf9.trans hf56) (by exact fun q hq => by rw [h056 q hq, h09 q hq]) (by exact hF9.trans hfs56) (by split <;> split at * <;> omega) hw _ (lv_sub hl [0, 1, 2, 3, 4, 5] rfl)
              · skip
                have q59 := bI_1 (fun g => c59 (hr56z.trans g))
                refine ziinc (pc := 62) (lv' := [(3, .int (iI (lf + (-1)))), (5, .int (iI x28)), (4, .int (iI bv)), (0, .ref md), (1, .int (iI day)), (2, .int (iI days))]) hx hb 2 dX9_behind_62 hl rfl (by decide) rfl (fun ls hl => ?_)
                obtain ⟨x62, ex62⟩ : ∃ zz : Int, zz = (lf + (-1)) := ⟨_, rfl⟩
                rw [← ex62] at hl
                refine lv_goto (pc := 65) (tgt := 19) hx hb dX9_behind_65 (by decide) ?_
                exact ih19 x28 x62 X56 _ _ (by (first | assumption | omega)) (by omega) (by 
                                        rw [if_neg (by omega)] at hc
                                        rw [hc]
                                        by_cases g2 : 0 < days
                                        · rw [if_pos g2]
                                          first
                                          | (by_cases g1 : lf = 1
                                             · rw [if_pos (by omega), g1, show at_ + 1 = x28 by omega, chF_h (by omega) q59]
                                             · rw [if_neg (by omega), if_pos g2, show at_ + 1 = x28 by omega, chF_t (by omega) q59 g1, show lf - 1 = x62 by omega])
                                          | (rw [if_neg (by omega), if_pos g2, show at_ + 1 = x28 by omega, chF_s (by omega) q59])
                                        · rw [if_neg g2]
                                          first
                                          | (by_cases g1 : lf = 1
                                             · rw [if_pos (by omega), g1, show at_ - 1 = x28 by omega, chB_h (by omega) q59]
                                             · rw [if_neg (by omega), if_neg g2, show at_ - 1 = x28 by omega, chB_t (by omega) q59 g1, show lf - 1 = x62 by omega])
                                          | (rw [if_neg (by omega), if_neg g2, show at_ - 1 = x28 by omega, chB_s (by omega) q59])) (by exact hR56) (by exact hf9.trans hf56) (by exact fun q hq => by rw [h056 q hq, h09 q hq]) (by exact hF9.trans hfs56) (by split <;> split at * <;> omega) hw _ (lv_sub hl [1, 2, 0, 3, 4, 5] rfl)
            · skip
              refine ziconst (pc := 51) (n := (-1)) hx hb dX9_behind_51 ?_
              exact zretI (pc := 52) hx hb hlocks hr hw (Nat.zero_le _) (Nat.zero_le _) dX9_behind_52 ⟨by (try dsimp only) <;> (refine ⟨?_, hR9, hf9, h09, hF9⟩; rw [if_neg (by omega)] at hc; rw [hc]; by_cases g2 : 0 < days; (rw [if_pos g2, chF_e (by omega)]); (rw [if_neg g2, chB_e (by omega)])), rfl, rfl⟩
    exact lp19 _ day x4 X _ _ (by (first | assumption | omega)) (by omega) (by by_cases g : days = 0; (rw [if_pos (by omega)]; unfold bhF; rw [if_pos g]); (rw [if_neg (by omega)]; unfold bhF; rw [if_neg g]; by_cases g2 : 0 < days; (rw [if_pos g2, if_pos g2, show x4 = days by omega]); (rw [if_neg g2, if_neg g2, show x4 = -days by omega]))) (by exact hR) (by exact frR_refl) (by exact fun _ _ => rfl) (by exact fsR_refl) (Nat.lt_succ_self _) hw _ (lv_sub hl [0, 1, 2, 3, 4, 5] rfl)
  refine zif_ge (pc := 6) hx hb 13 (by omega) dX9_behind_6 (by decide) (fun c6 => ?_) (fun c6 => ?_)
  · skip
    refine ziconst (pc := 13) (n := 1) hx hb dX9_behind_13 ?_
    exact jn14_0 1 _ _ (by first | (rw [if_pos (by omega)]) | (rw [if_neg (by omega)])) hw _ (lv_sub hl [0, 1, 2, 3] rfl)
  · skip
    refine ziconst (pc := 9) (n := (-1)) hx hb dX9_behind_9 ?_
    refine lv_goto (pc := 10) (tgt := 14) hx hb dX9_behind_10 (by decide) ?_
    exact jn14_0 (-1) _ _ (by first | (rw [if_pos (by omega)]) | (rw [if_neg (by omega)])) hw _ (lv_sub hl [0, 1, 2, 3] rfl)
set_option maxHeartbeats 4000000 in
set_option maxRecDepth 100000 in
theorem c_X9_plusWorking (l : Launch) (Γ : zG) (K : zK) (X : zX) (Rf : zR) (md : Nat) (day : Int) (days : Int) (ρ : zL) (M : zM) (hR : repR ρ K X Rf md M) (hM : okM M) (h1 : fit day ∧ fit days) : Ct l yX9_plusWorking cX9_plusWorking 3 (some .int) 8 0 0 Γ [.ref md, .int (iI day), .int (iI days)] K X Rf (pI (zpx K Rf (fun (r : Int) (X' : zX) => (cdPwk day days = 0 → r = bhF (wkdM M) day days) ∧ X' md 0 = cdPwk day days ∧ repR ρ K X' Rf md M ∧ frR ρ K X Rf ρ K X' Rf ∧ fsR ρ X X'))) := by
  refine Ct.of (by decide +kernel) (Nat.le_of_ble_eq_true rfl) ?_
  intro p e s m below meth c ls hx hb hr hml hown hG hlocks hname hw hl
  have hl : lv_has ls 3 [(0, .ref md), (1, .int (iI day)), (2, .int (iI days))] := hl
  obtain ⟨hmd, hlmd⟩ := id hR.1
  obtain ⟨⟨hb1, hb2, hb3, hb4⟩, hokP, hokL, hokS, hokW, hokF⟩ := id hM
  have hq1 : X md 1 = M 40 1 := hR.2.1 1 rfl
  have hq5 : X md 5 = M 40 5 := hR.2.1 5 rfl
  have hq16 : X md 16 = M 40 16 := hR.2.1 16 rfl
  have hq25 : X md 25 = M 40 25 := hR.2.1 25 rfl
  have hq26 : X md 26 = M 40 26 := hR.2.1 26 rfl
  have hq27 : X md 27 = M 40 27 := hR.2.1 27 rfl
  have hq28 : X md 28 = M 40 28 := hR.2.1 28 rfl
  have hq29 : X md 29 = M 40 29 := hR.2.1 29 rfl
  refine lv_aload_n (pc := 0) hx hb dX9_plusWorking_0 rfl (lv_at hl 0 rfl) ?_
  refine ziconst (pc := 1) (n := 0) hx hb dX9_plusWorking_1 ?_
  refine zputI (pc := 2) hx hb hG hown hw hmd (T := TX9) rfl 0 (by decide) rfl wf_X9_87 rfl (by decide +kernel) rfl dX9_plusWorking_2 (fun H locs hw => ?_)
  obtain ⟨X2, eX2⟩ : ∃ Y : zX, Y = up2 X md 0 0 := ⟨_, rfl⟩
  rw [← eX2] at hw
  have hR2 : repR ρ K X2 Rf md M := by rw [eX2]; exact hR.own ⟨rfl, by decide⟩
  have hf2 : frR ρ K X Rf ρ K X2 Rf := by rw [eX2]; exact frR_own hR
  have h02 : X2 md 0 = 0 := by rw [eX2]; exact up2_s
  have hfs2 : fsR ρ X X2 := by rw [eX2]; exact fsR_own hR
  refine lv_iload_n (pc := 5) hx hb dX9_plusWorking_5 rfl (lv_at hl 1 rfl) ?_
  refine zkIp (pc := 6) (zrS (As := [.int (iI day)]) hx hb hml hown hG hw (c_X9_isDay l Γ K X2 Rf day  (by (first | assumption | omega))) cb_X9_isDay wl_X9_126 rfl ⟨Nat.le_of_ble_eq_true rfl, Nat.le_of_ble_eq_true rfl⟩ hl.1 rfl (Nat.le_of_ble_eq_true rfl) dX9_plusWorking_6 ⟨Nat.zero_le _, Nat.zero_le _⟩) hw (fun r6 H locs hp6 hw => ?_)
  subst hp6
  refine zif_ne (pc := 9) hx hb 18 (by omega) dX9_plusWorking_9 (by decide) (fun c9 => ?_) (fun c9 => ?_)
  · skip
    replace c9 := it1 c9
    refine lv_iload_n (pc := 18) hx hb dX9_plusWorking_18 rfl (lv_at hl 2 rfl) ?_
    refine zsipush (pc := 19) (n := (-200)) hx hb dX9_plusWorking_19 rfl ?_
    refine zsipush (pc := 22) (n := 200) hx hb dX9_plusWorking_22 rfl ?_
    refine zkIp (pc := 25) (zrS (As := [.int (iI days), .int (iI (-200)), .int (iI 200)]) hx hb hml hown hG hw (c_X9_is l Γ K X2 Rf days (-200) 200  (by (first | assumption | omega))) cb_X9_is wl_X9_91 rfl ⟨Nat.le_of_ble_eq_true rfl, Nat.le_of_ble_eq_true rfl⟩ hl.1 rfl (Nat.le_of_ble_eq_true rfl) dX9_plusWorking_25 ⟨Nat.zero_le _, Nat.zero_le _⟩) hw (fun r25 H locs hp25 hw => ?_)
    subst hp25
    refine zif_eq (pc := 28) hx hb 40 (by omega) dX9_plusWorking_28 (by decide) (fun c28 => ?_) (fun c28 => ?_)
    · skip
      replace c28 := it0 c28
      refine lv_aload_n (pc := 40) hx hb dX9_plusWorking_40 rfl (lv_at hl 0 rfl) ?_
      refine ziconst (pc := 41) (n := 2) hx hb dX9_plusWorking_41 ?_
      refine zkIx (pc := 42) (zrV (As := [.int (iI 2)]) hx hb hml hown hG hw (c_X9_refuse l Γ K X2 Rf md 2  (by (first | assumption | omega))) (T := TX9) hmd rfl cb_X9_refuse wl_X9_123 rfl ⟨Nat.le_of_ble_eq_true rfl, Nat.le_of_ble_eq_true rfl⟩ hl.1 rfl (Nat.le_of_ble_eq_true rfl) dX9_plusWorking_42 ⟨Nat.zero_le _, Nat.zero_le _⟩) hw (fun r42 X42 H locs hp42 hw => ?_)
      obtain ⟨hrf42, eX42⟩ := hp42
      exact zretI (pc := 45) hx hb hlocks hr hw (Nat.zero_le _) (Nat.zero_le _) dX9_plusWorking_45 ⟨by (try dsimp only) <;> (first | (rw [eX42]; refine ⟨fun hz => by (exfalso; revert hz; (unfold cdPwk; (repeat' split) <;> omega)), by rw [up2_s]; symm; (unfold cdPwk; (repeat' split) <;> omega), hR2.own ⟨rfl, by decide⟩, hf2.trans (frR_own hR2), hfs2.trans (fsR_own hR2)⟩) | exact ⟨fun _ => by exact hr34z, by rw [h034 0 (Or.inl rfl), h02]; symm; (unfold cdPwk; (repeat' split) <;> omega), hR34, hf2.trans hf34, hfs2.trans hfs34⟩), rfl, rfl⟩
    · skip
      replace c28 := it1 c28
      refine lv_aload_n (pc := 31) hx hb dX9_plusWorking_31 rfl (lv_at hl 0 rfl) ?_
      refine lv_iload_n (pc := 32) hx hb dX9_plusWorking_32 rfl (lv_at hl 1 rfl) ?_
      refine lv_iload_n (pc := 33) hx hb dX9_plusWorking_33 rfl (lv_at hl 2 rfl) ?_
      refine zkIx (pc := 34) (zrV (As := [.int (iI day), .int (iI days)]) hx hb hml hown hG hw (c_X9_behind l Γ K X2 Rf md day days (ρ) M (by (first | assumption | omega)) (by (first | assumption | omega)) (by (first | assumption | omega))) (T := TX9) hmd rfl cb_X9_behind wl_X9_319 rfl ⟨Nat.le_of_ble_eq_true rfl, Nat.le_of_ble_eq_true rfl⟩ hl.1 rfl (Nat.le_of_ble_eq_true rfl) dX9_plusWorking_34 ⟨Nat.zero_le _, Nat.zero_le _⟩) hw (fun r34 X34 H locs hp34 hw => ?_)
      obtain ⟨hr34z, hR34, hf34, h034, hfs34⟩ := hp34
      refine lv_goto (pc := 37) (tgt := 45) hx hb dX9_plusWorking_37 (by decide) ?_
      exact zretI (pc := 45) hx hb hlocks hr hw (Nat.zero_le _) (Nat.zero_le _) dX9_plusWorking_45 ⟨by (try dsimp only) <;> (first | (rw [eX34]; refine ⟨fun hz => by (exfalso; revert hz; (unfold cdPwk; (repeat' split) <;> omega)), by rw [up2_s]; symm; (unfold cdPwk; (repeat' split) <;> omega), hR2.own ⟨rfl, by decide⟩, hf2.trans (frR_own hR2), hfs2.trans (fsR_own hR2)⟩) | exact ⟨fun _ => by exact hr34z, by rw [h034 0 (Or.inl rfl), h02]; symm; (unfold cdPwk; (repeat' split) <;> omega), hR34, hf2.trans hf34, hfs2.trans hfs34⟩), rfl, rfl⟩
  · skip
    replace c9 := it0 c9
    refine lv_aload_n (pc := 12) hx hb dX9_plusWorking_12 rfl (lv_at hl 0 rfl) ?_
    refine ziconst (pc := 13) (n := 1) hx hb dX9_plusWorking_13 ?_
    refine zkIx (pc := 14) (zrV (As := [.int (iI 1)]) hx hb hml hown hG hw (c_X9_refuse l Γ K X2 Rf md 1  (by (first | assumption | omega))) (T := TX9) hmd rfl cb_X9_refuse wl_X9_123 rfl ⟨Nat.le_of_ble_eq_true rfl, Nat.le_of_ble_eq_true rfl⟩ hl.1 rfl (Nat.le_of_ble_eq_true rfl) dX9_plusWorking_14 ⟨Nat.zero_le _, Nat.zero_le _⟩) hw (fun r14 X14 H locs hp14 hw => ?_)
    obtain ⟨hrf14, eX14⟩ := hp14
    exact zretI (pc := 17) hx hb hlocks hr hw (Nat.zero_le _) (Nat.zero_le _) dX9_plusWorking_17 ⟨by (try dsimp only) <;> (first | (rw [eX14]; refine ⟨fun hz => by (exfalso; revert hz; (unfold cdPwk; (repeat' split) <;> omega)), by rw [up2_s]; symm; (unfold cdPwk; (repeat' split) <;> omega), hR2.own ⟨rfl, by decide⟩, hf2.trans (frR_own hR2), hfs2.trans (fsR_own hR2)⟩) | exact ⟨fun _ => by exact hr34z, by rw [h034 0 (Or.inl rfl), h02]; symm; (unfold cdPwk; (repeat' split) <;> omega), hR34, hf2.trans hf34, hfs2.trans hfs34⟩), rfl, rfl⟩
