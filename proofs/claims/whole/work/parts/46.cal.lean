set_option maxHeartbeats 4000000 in
set_option maxRecDepth 100000 in
theorem c_X8_feastOn (l : Launch) (hl9 : l.stackTraces = false) (Γ : zG) (K : zK) (X : zX) (Rf : zR) (x : Nat) (day : Int) (ρ : zL) (M : zM) (hC : repC ρ K X Rf x M) (hM : okM M) (h1 : fit day) : Cx l yX8_feastOn cX8_feastOn 2 (some .int) 7 1 6 Γ [.ref x, .int (iI day)] K X Rf (pI (fun (r : Int) (K' : zK) (X' : zX) (R' : zR) => (r = falM M day ∧ cdDay day = 0) ∧ ∃ ρ', repC ρ' K' X' R' x (M) ∧ frC ρ K X Rf ρ' K' X' R')) (fun E : String => E = "java/lang/IndexOutOfBoundsException" ∧ cdDay day = 1) := by
  refine Cx.of (by decide +kernel) (Nat.le_of_ble_eq_true rfl) ?_
  intro p e s m below meth c ls hx hb hr hml hown hG hlocks hname ht hX hw hl
  have hl : lv_has ls 2 [(0, .ref x), (1, .int (iI day))] := hl
  obtain ⟨⟨hk, hlx⟩, pr, pl, sr, dr, na, wo, ⟨hr0, hr2, hr4, hr6, hr7, hrd⟩, ⟨hkpr, hkpl, hksr, hkdr, hkna⟩, ⟨hlpr, hlpl, hlsr, hldr, hlna⟩, ⟨hx1, hx3, hx5⟩, hpt, hpl, hse, hwo⟩ := id hC
  obtain ⟨⟨hb1, hb2, hb3, hb4⟩, hokP, hokL, hokS, hokW, hokF⟩ := id hM
  obtain ⟨⟨hkw, hlw⟩, fe, fa, fn, p09, ⟨hw1, hw5, hw7, hrf⟩, ⟨hkfe, hkfa, hkfn⟩, ⟨hlfe, hlfa, hlfn⟩, ⟨hw0, hwk2, hwk3, hwk4, hwk6⟩, hfs, hvr, hfb, hwp⟩ := id hwo
  obtain ⟨hwb1, hwb2, hwb3, hwb4⟩ := hokW
  have hnn : X wo 6 = ((M 40 29).toNat : Int) ∧ (M 40 29).toNat ≤ 20 := by omega
  have hne9 : fa ≠ fn := zkne hkfa hkfn (by simp)
  have hnw1 : wo ≠ fn := zkne hkw hkfn (by simp)
  have hnw2 : wo ≠ fa := zkn2 hkw hkfa (by simp)
  refine lv_iload_n (pc := 0) hx hb dX8_feastOn_0 rfl (lv_at hl 1 rfl) ?_
  refine zxkVp (pc := 1) (zxrS (As := [.int (iI day)]) hx hb hml hown hG hX hw (c_X8_needDay l hl9 Γ K X Rf day  (by (first | assumption | omega))) cb_X8_needDay wl_X8_77 rfl ⟨Nat.le_of_ble_eq_true rfl, Nat.le_of_ble_eq_true rfl⟩ hl.1 rfl (Nat.le_of_ble_eq_true rfl) dX8_feastOn_1 ⟨(by show 0 + 1 ≤ 1; omega), (by show 0 + 6 ≤ 6; omega)⟩) hw (fun E9 ce9 q9 H9 locs9 hxp9 hw9 hce9 hcv9 hcl9 => zxout (pc := 1) ht hlocks hw9 hce9 hcv9 hcl9 (by (obtain ⟨rfl, hq9⟩ := hxp9; (try dsimp only); first | exact ⟨rfl, (by (unfold cdDay; (repeat' split) <;> omega))⟩ | exact Or.inl ⟨rfl, (by (unfold cdDay; (repeat' split) <;> omega))⟩ | exact Or.inr ⟨rfl, (by (unfold cdDay; (repeat' split) <;> omega))⟩ | exact Or.inr (Or.inl ⟨rfl, (by (unfold cdDay; (repeat' split) <;> omega))⟩))) (by show 0 + 1 ≤ 1; omega) (by show 0 + 6 ≤ 6; omega)) (fun H locs hp1 hw => ?_)
  refine lv_aload_n (pc := 4) hx hb dX8_feastOn_4 rfl (lv_at hl 0 rfl) ?_
  refine zgetR (pc := 5) hx hb hG hown hw hk (T := TX8) rfl 7 (by decide) rfl wf_X8_49 rfl hr7 dX8_feastOn_5 ?_
  refine lv_iload_n (pc := 8) hx hb dX8_feastOn_8 rfl (lv_at hl 1 rfl) ?_
  refine lv_iload_n (pc := 9) hx hb dX8_feastOn_9 rfl (lv_at hl 1 rfl) ?_
  refine zkVx (pc := 10) (zrV (As := [.int (iI day), .int (iI day)]) hx hb hml hown hG hw (c_X7_findFeasts l Γ K X Rf wo day day fa fn fe (feaM M) (fepM M) ((M 40 29).toNat) (by (first | assumption | omega)) (by (first | assumption | omega)) (by (first | assumption | omega)) (by (first | assumption | omega)) (by (first | assumption | omega)) (by (first | assumption | omega)) (by (first | assumption | omega)) (by (first | assumption | omega)) (by (first | assumption | omega)) (by (first | assumption | omega)) (by (first | assumption | omega)) (by (first | assumption | omega))) (T := TX7) hkw rfl cb_X7_findFeasts wl_X8_316 rfl ⟨Nat.le_of_ble_eq_true rfl, Nat.le_of_ble_eq_true rfl⟩ hl.1 rfl (Nat.le_of_ble_eq_true rfl) dX8_feastOn_10 ⟨(by show 0 + 1 + 0 ≤ 1; omega), (by show 0 + 6 + 0 ≤ 6; omega)⟩) hw (fun X10 H locs hp10 hw => ?_)
  obtain ⟨hfZ, ⟨hvZ, hbZ⟩, hoZ⟩ := hp10
  have hwZ : X10 wo = X wo := hoZ wo hnw2 hnw1
  have hwZ2 : X10 wo 2 = M 40 26 := by rw [hwZ]; exact hwk2
  rw [hwk2] at hfZ
  refine lv_aload_n (pc := 13) hx hb dX8_feastOn_13 rfl (lv_at hl 0 rfl) ?_
  refine zgetR (pc := 14) hx hb hG hown hw hk (T := TX8) rfl 7 (by decide) rfl wf_X8_49 rfl hr7 dX8_feastOn_14 ?_
  refine lv_iload_n (pc := 17) hx hb dX8_feastOn_17 rfl (lv_at hl 1 rfl) ?_
  refine zkIp (pc := 18) (zrV (As := [.int (iI day)]) hx hb hml hown hG hw (c_X7_feastFound l Γ K X10 Rf wo day fa fn (by (first | assumption | omega)) (by (first | assumption | omega)) (by (first | assumption | omega)) (by (first | assumption | omega)) (by (first | assumption | omega)) (by (first | assumption | omega)) (by (first | assumption | omega))) (T := TX7) hkw rfl cb_X7_feastFound wl_X8_319 rfl ⟨Nat.le_of_ble_eq_true rfl, Nat.le_of_ble_eq_true rfl⟩ hl.1 rfl (Nat.le_of_ble_eq_true rfl) dX8_feastOn_18 ⟨(by show 0 + 1 + 0 ≤ 1; omega), (by show 0 + 6 + 0 ≤ 6; omega)⟩) hw (fun r18 H locs hp18 hw => ?_)
  subst hp18
  exact vx_ret (zretI (pc := 21) hx hb hlocks hr hw (by show 0 + 1 ≤ 1; omega) (by show 0 + 6 ≤ 6; omega) dX8_feastOn_21 (by exact ⟨⟨by exact hfZ day (by omega) (by omega) (by omega), by (unfold cdDay; (repeat' split) <;> omega)⟩, hC.work hr7 hw7 hrf hoZ hvZ hbZ⟩))
set_option maxHeartbeats 4000000 in
set_option maxRecDepth 100000 in
theorem c_X8_isWorking (l : Launch) (hl9 : l.stackTraces = false) (Γ : zG) (K : zK) (X : zX) (Rf : zR) (x : Nat) (day : Int) (ρ : zL) (M : zM) (hC : repC ρ K X Rf x M) (hM : okM M) (h1 : fit day) : Cx l yX8_isWorking cX8_isWorking 2 (some .boolean) 7 1 6 Γ [.ref x, .int (iI day)] K X Rf (pI (fun (r : Int) (K' : zK) (X' : zX) (R' : zR) => (r = bI (wkdM M day) ∧ cdDay day = 0) ∧ ∃ ρ', repC ρ' K' X' R' x (M) ∧ frC ρ K X Rf ρ' K' X' R')) (fun E : String => E = "java/lang/IndexOutOfBoundsException" ∧ cdDay day = 1) := by
  refine Cx.of (by decide +kernel) (Nat.le_of_ble_eq_true rfl) ?_
  intro p e s m below meth c ls hx hb hr hml hown hG hlocks hname ht hX hw hl
  have hl : lv_has ls 2 [(0, .ref x), (1, .int (iI day))] := hl
  obtain ⟨⟨hk, hlx⟩, pr, pl, sr, dr, na, wo, ⟨hr0, hr2, hr4, hr6, hr7, hrd⟩, ⟨hkpr, hkpl, hksr, hkdr, hkna⟩, ⟨hlpr, hlpl, hlsr, hldr, hlna⟩, ⟨hx1, hx3, hx5⟩, hpt, hpl, hse, hwo⟩ := id hC
  obtain ⟨⟨hb1, hb2, hb3, hb4⟩, hokP, hokL, hokS, hokW, hokF⟩ := id hM
  obtain ⟨⟨hkw, hlw⟩, fe, fa, fn, p09, ⟨hw1, hw5, hw7, hrf⟩, ⟨hkfe, hkfa, hkfn⟩, ⟨hlfe, hlfa, hlfn⟩, ⟨hw0, hwk2, hwk3, hwk4, hwk6⟩, hfs, hvr, hfb, hwp⟩ := id hwo
  obtain ⟨hwb1, hwb2, hwb3, hwb4⟩ := hokW
  have hnn : X wo 6 = ((M 40 29).toNat : Int) ∧ (M 40 29).toNat ≤ 20 := by omega
  have hne9 : fa ≠ fn := zkne hkfa hkfn (by simp)
  have hnw1 : wo ≠ fn := zkne hkw hkfn (by simp)
  have hnw2 : wo ≠ fa := zkn2 hkw hkfa (by simp)
  refine lv_iload_n (pc := 0) hx hb dX8_isWorking_0 rfl (lv_at hl 1 rfl) ?_
  refine zxkVp (pc := 1) (zxrS (As := [.int (iI day)]) hx hb hml hown hG hX hw (c_X8_needDay l hl9 Γ K X Rf day  (by (first | assumption | omega))) cb_X8_needDay wl_X8_77 rfl ⟨Nat.le_of_ble_eq_true rfl, Nat.le_of_ble_eq_true rfl⟩ hl.1 rfl (Nat.le_of_ble_eq_true rfl) dX8_isWorking_1 ⟨(by show 0 + 1 ≤ 1; omega), (by show 0 + 6 ≤ 6; omega)⟩) hw (fun E9 ce9 q9 H9 locs9 hxp9 hw9 hce9 hcv9 hcl9 => zxout (pc := 1) ht hlocks hw9 hce9 hcv9 hcl9 (by (obtain ⟨rfl, hq9⟩ := hxp9; (try dsimp only); first | exact ⟨rfl, (by (unfold cdDay; (repeat' split) <;> omega))⟩ | exact Or.inl ⟨rfl, (by (unfold cdDay; (repeat' split) <;> omega))⟩ | exact Or.inr ⟨rfl, (by (unfold cdDay; (repeat' split) <;> omega))⟩ | exact Or.inr (Or.inl ⟨rfl, (by (unfold cdDay; (repeat' split) <;> omega))⟩))) (by show 0 + 1 ≤ 1; omega) (by show 0 + 6 ≤ 6; omega)) (fun H locs hp1 hw => ?_)
  refine lv_aload_n (pc := 4) hx hb dX8_isWorking_4 rfl (lv_at hl 0 rfl) ?_
  refine zgetR (pc := 5) hx hb hG hown hw hk (T := TX8) rfl 7 (by decide) rfl wf_X8_49 rfl hr7 dX8_isWorking_5 ?_
  refine lv_iload_n (pc := 8) hx hb dX8_isWorking_8 rfl (lv_at hl 1 rfl) ?_
  refine lv_iload_n (pc := 9) hx hb dX8_isWorking_9 rfl (lv_at hl 1 rfl) ?_
  refine zkVx (pc := 10) (zrV (As := [.int (iI day), .int (iI day)]) hx hb hml hown hG hw (c_X7_findFeasts l Γ K X Rf wo day day fa fn fe (feaM M) (fepM M) ((M 40 29).toNat) (by (first | assumption | omega)) (by (first | assumption | omega)) (by (first | assumption | omega)) (by (first | assumption | omega)) (by (first | assumption | omega)) (by (first | assumption | omega)) (by (first | assumption | omega)) (by (first | assumption | omega)) (by (first | assumption | omega)) (by (first | assumption | omega)) (by (first | assumption | omega)) (by (first | assumption | omega))) (T := TX7) hkw rfl cb_X7_findFeasts wl_X8_316 rfl ⟨Nat.le_of_ble_eq_true rfl, Nat.le_of_ble_eq_true rfl⟩ hl.1 rfl (Nat.le_of_ble_eq_true rfl) dX8_isWorking_10 ⟨(by show 0 + 1 + 0 ≤ 1; omega), (by show 0 + 6 + 0 ≤ 6; omega)⟩) hw (fun X10 H locs hp10 hw => ?_)
  obtain ⟨hfZ, ⟨hvZ, hbZ⟩, hoZ⟩ := hp10
  have hwZ : X10 wo = X wo := hoZ wo hnw2 hnw1
  have hwZ2 : X10 wo 2 = M 40 26 := by rw [hwZ]; exact hwk2
  rw [hwk2] at hfZ
  refine lv_aload_n (pc := 13) hx hb dX8_isWorking_13 rfl (lv_at hl 0 rfl) ?_
  refine zgetR (pc := 14) hx hb hG hown hw hk (T := TX8) rfl 7 (by decide) rfl wf_X8_49 rfl hr7 dX8_isWorking_14 ?_
  refine lv_iload_n (pc := 17) hx hb dX8_isWorking_17 rfl (lv_at hl 1 rfl) ?_
  refine zkIp (pc := 18) (zrV (As := [.int (iI day)]) hx hb hml hown hG hw (c_X7_worksOn l Γ K X10 Rf wo day fa fn (by (first | assumption | omega)) (by omega) (by (first | assumption | omega)) (by (first | assumption | omega)) (by (first | assumption | omega)) (by (first | assumption | omega)) (by (first | assumption | omega)) (by (first | assumption | omega)) (by (first | assumption | omega))) (T := TX7) hkw rfl cb_X7_worksOn wl_X8_322 rfl ⟨Nat.le_of_ble_eq_true rfl, Nat.le_of_ble_eq_true rfl⟩ hl.1 rfl (Nat.le_of_ble_eq_true rfl) dX8_isWorking_18 ⟨(by show 0 + 1 + 0 ≤ 1; omega), (by show 0 + 6 + 0 ≤ 6; omega)⟩) hw (fun r18 H locs hp18 hw => ?_)
  subst hp18
  have hp18f0 := bI_rng (wkF (X10 wo 2) (rdv X10 fa fn 1701) day)
  exact vx_ret (zretZ (pc := 21) hx hb hlocks hr (by omega) hw (by show 0 + 1 ≤ 1; omega) (by show 0 + 6 ≤ 6; omega) dX8_isWorking_21 (by exact ⟨⟨by rw [hwZ2]; unfold wkdM; rw [wkF_congr (hfZ day (by omega) (by omega) (by omega))]; rfl, by (unfold cdDay; (repeat' split) <;> omega)⟩, hC.work hr7 hw7 hrf hoZ hvZ hbZ⟩))
set_option maxHeartbeats 4000000 in
set_option maxRecDepth 100000 in
theorem c_X8_workingDays (l : Launch) (hl9 : l.stackTraces = false) (Γ : zG) (K : zK) (X : zX) (Rf : zR) (x : Nat) (fr : Int) (days : Int) (ρ : zL) (M : zM) (hC : repC ρ K X Rf x M) (hM : okM M) (h1 : fit fr ∧ fit days) : Cx l yX8_workingDays cX8_workingDays 3 (some .int) 7 2 12 Γ [.ref x, .int (iI fr), .int (iI days)] K X Rf (pI (fun (r : Int) (K' : zK) (X' : zX) (R' : zR) => (r = cP (wkdM M) (fr + days - fr).toNat fr ∧ cdWds fr days = 0) ∧ ∃ ρ', repC ρ' K' X' R' x (M) ∧ frC ρ K X Rf ρ' K' X' R')) (fun E : String => (E = "java/lang/IndexOutOfBoundsException" ∧ cdWds fr days = 1) ∨ (E = "java/lang/IllegalArgumentException" ∧ cdWds fr days = 2)) := by
  refine Cx.of (by decide +kernel) (Nat.le_of_ble_eq_true rfl) ?_
  intro p e s m below meth c ls hx hb hr hml hown hG hlocks hname ht hX hw hl
  have hl : lv_has ls 3 [(0, .ref x), (1, .int (iI fr)), (2, .int (iI days))] := hl
  obtain ⟨⟨hk, hlx⟩, pr, pl, sr, dr, na, wo, ⟨hr0, hr2, hr4, hr6, hr7, hrd⟩, ⟨hkpr, hkpl, hksr, hkdr, hkna⟩, ⟨hlpr, hlpl, hlsr, hldr, hlna⟩, ⟨hx1, hx3, hx5⟩, hpt, hpl, hse, hwo⟩ := id hC
  obtain ⟨⟨hb1, hb2, hb3, hb4⟩, hokP, hokL, hokS, hokW, hokF⟩ := id hM
  obtain ⟨⟨hkw, hlw⟩, fe, fa, fn, p09, ⟨hw1, hw5, hw7, hrf⟩, ⟨hkfe, hkfa, hkfn⟩, ⟨hlfe, hlfa, hlfn⟩, ⟨hw0, hwk2, hwk3, hwk4, hwk6⟩, hfs, hvr, hfb, hwp⟩ := id hwo
  obtain ⟨hwb1, hwb2, hwb3, hwb4⟩ := hokW
  have hnn : X wo 6 = ((M 40 29).toNat : Int) ∧ (M 40 29).toNat ≤ 20 := by omega
  have hne9 : fa ≠ fn := zkne hkfa hkfn (by simp)
  have hnw1 : wo ≠ fn := zkne hkw hkfn (by simp)
  have hnw2 : wo ≠ fa := zkn2 hkw hkfa (by simp)
  refine lv_iload_n (pc := 0) hx hb dX8_workingDays_0 rfl (lv_at hl 1 rfl) ?_
  refine zxkVp (pc := 1) (zxrS (As := [.int (iI fr)]) hx hb hml hown hG hX hw (c_X8_needDay l hl9 Γ K X Rf fr  (by (first | assumption | omega))) cb_X8_needDay wl_X8_77 rfl ⟨Nat.le_of_ble_eq_true rfl, Nat.le_of_ble_eq_true rfl⟩ hl.1 rfl (Nat.le_of_ble_eq_true rfl) dX8_workingDays_1 ⟨(by show 0 + 1 ≤ 2; omega), (by show 0 + 6 ≤ 12; omega)⟩) hw (fun E9 ce9 q9 H9 locs9 hxp9 hw9 hce9 hcv9 hcl9 => zxout (pc := 1) ht hlocks hw9 hce9 hcv9 hcl9 (by (obtain ⟨rfl, hq9⟩ := hxp9; (try dsimp only); first | exact ⟨rfl, (by (unfold cdWds; (repeat' split) <;> omega))⟩ | exact Or.inl ⟨rfl, (by (unfold cdWds; (repeat' split) <;> omega))⟩ | exact Or.inr ⟨rfl, (by (unfold cdWds; (repeat' split) <;> omega))⟩ | exact Or.inr (Or.inl ⟨rfl, (by (unfold cdWds; (repeat' split) <;> omega))⟩))) (by show 0 + 1 ≤ 2; omega) (by show 0 + 6 ≤ 12; omega)) (fun H locs hp1 hw => ?_)
  refine lv_iload_n (pc := 4) hx hb dX8_workingDays_4 rfl (lv_at hl 2 rfl) ?_
  refine zif_lt (pc := 5) hx hb 24 (by omega) dX8_workingDays_5 (by decide) (fun c5 => ?_) (fun c5 => ?_)
  · skip
    exact zthrowW (pc := 24) hx hb hl9 hown hG hX hw wn_X8_56 wi_javalangIllegalArgumentException (List.mem_of_getElem? (i := 33) rfl) zthr_60 (hl.1.trans hml.symm) ht dX8_workingDays_24 dX8_workingDays_27 dX8_workingDays_28 dX8_workingDays_31 dX8_workingDays_34 (by show 6 ≤ _; exact Nat.le_of_ble_eq_true rfl) (Nat.le_of_ble_eq_true rfl) (by show 0 + 1 + 1 ≤ 2; omega) (by show 0 + 6 + 6 ≤ 12; omega) hlocks (by (try dsimp only); first | exact ⟨rfl, (by (unfold cdWds; (repeat' split) <;> omega))⟩ | exact Or.inl ⟨rfl, (by (unfold cdWds; (repeat' split) <;> omega))⟩ | exact Or.inr ⟨rfl, (by (unfold cdWds; (repeat' split) <;> omega))⟩ | exact Or.inr (Or.inl ⟨rfl, (by (unfold cdWds; (repeat' split) <;> omega))⟩) | exact Or.inr (Or.inr ⟨rfl, (by (unfold cdWds; (repeat' split) <;> omega))⟩)) (by show 0 + 1 + 1 ≤ 2; omega) (by show 0 + 6 + 6 ≤ 12; omega)
  · skip
    refine lv_iload_n (pc := 8) hx hb dX8_workingDays_8 rfl (lv_at hl 2 rfl) ?_
    refine zsipush (pc := 9) (n := 400) hx hb dX8_workingDays_9 rfl ?_
    refine zicmp_gt (pc := 12) hx hb 24 (by omega) (by omega) dX8_workingDays_12 (by decide) (fun c12 => ?_) (fun c12 => ?_)
    · skip
      exact zthrowW (pc := 24) hx hb hl9 hown hG hX hw wn_X8_56 wi_javalangIllegalArgumentException (List.mem_of_getElem? (i := 33) rfl) zthr_60 (hl.1.trans hml.symm) ht dX8_workingDays_24 dX8_workingDays_27 dX8_workingDays_28 dX8_workingDays_31 dX8_workingDays_34 (by show 6 ≤ _; exact Nat.le_of_ble_eq_true rfl) (Nat.le_of_ble_eq_true rfl) (by show 0 + 1 + 1 ≤ 2; omega) (by show 0 + 6 + 6 ≤ 12; omega) hlocks (by (try dsimp only); first | exact ⟨rfl, (by (unfold cdWds; (repeat' split) <;> omega))⟩ | exact Or.inl ⟨rfl, (by (unfold cdWds; (repeat' split) <;> omega))⟩ | exact Or.inr ⟨rfl, (by (unfold cdWds; (repeat' split) <;> omega))⟩ | exact Or.inr (Or.inl ⟨rfl, (by (unfold cdWds; (repeat' split) <;> omega))⟩) | exact Or.inr (Or.inr ⟨rfl, (by (unfold cdWds; (repeat' split) <;> omega))⟩)) (by show 0 + 1 + 1 ≤ 2; omega) (by show 0 + 6 + 6 ≤ 12; omega)
    · skip
      refine lv_iload_n (pc := 15) hx hb dX8_workingDays_15 rfl (lv_at hl 1 rfl) ?_
      refine lv_iload_n (pc := 16) hx hb dX8_workingDays_16 rfl (lv_at hl 2 rfl) ?_
      refine zadd (pc := 17) hx hb dX8_workingDays_17 ?_
      refine zldcw (pc := 18) (n := 73049) hx hb hown hG wk_X8_325 dX8_workingDays_18 ?_
      refine zicmp_le (pc := 21) hx hb 35 (by omega) (by omega) dX8_workingDays_21 (by decide) (fun c21 => ?_) (fun c21 => ?_)
      · skip
        refine lv_aload_n (pc := 35) hx hb dX8_workingDays_35 rfl (lv_at hl 0 rfl) ?_
        refine zgetR (pc := 36) hx hb hG hown hw hk (T := TX8) rfl 7 (by decide) rfl wf_X8_49 rfl hr7 dX8_workingDays_36 ?_
        refine lv_iload_n (pc := 39) hx hb dX8_workingDays_39 rfl (lv_at hl 1 rfl) ?_
        refine lv_iload_n (pc := 40) hx hb dX8_workingDays_40 rfl (lv_at hl 2 rfl) ?_
        refine zkIx (pc := 41) (zrV (As := [.int (iI fr), .int (iI days)]) hx hb hml hown hG hw (c_X7_countDays l Γ K X Rf wo fr days fa fn fe (feaM M) (fepM M) ((M 40 29).toNat) (by (first | assumption | omega)) (by (first | assumption | omega)) (by (first | assumption | omega)) (by (first | assumption | omega)) (by (first | assumption | omega)) (by (first | assumption | omega)) (by (first | assumption | omega)) (by (first | assumption | omega)) (by (first | assumption | omega)) (by (first | assumption | omega)) (by (first | assumption | omega)) (by (first | assumption | omega))) (T := TX7) hkw rfl cb_X7_countDays wl_X8_328 rfl ⟨Nat.le_of_ble_eq_true rfl, Nat.le_of_ble_eq_true rfl⟩ hl.1 rfl (Nat.le_of_ble_eq_true rfl) dX8_workingDays_41 ⟨(by show 0 + 1 + 0 ≤ 2; omega), (by show 0 + 6 + 0 ≤ 12; omega)⟩) hw (fun r41 X41 H locs hp41 hw => ?_)
        obtain ⟨hrZ, ⟨hvZ, hbZ⟩, hoZ⟩ := hp41
        rw [hwk2] at hrZ
        exact vx_ret (zretI (pc := 44) hx hb hlocks hr hw (by show 0 + 1 ≤ 2; omega) (by show 0 + 6 ≤ 12; omega) dX8_workingDays_44 (by exact ⟨⟨by exact hrZ, by (unfold cdWds; (repeat' split) <;> omega)⟩, hC.work hr7 hw7 hrf hoZ hvZ hbZ⟩))
      · skip
        exact zthrowW (pc := 24) hx hb hl9 hown hG hX hw wn_X8_56 wi_javalangIllegalArgumentException (List.mem_of_getElem? (i := 33) rfl) zthr_60 (hl.1.trans hml.symm) ht dX8_workingDays_24 dX8_workingDays_27 dX8_workingDays_28 dX8_workingDays_31 dX8_workingDays_34 (by show 6 ≤ _; exact Nat.le_of_ble_eq_true rfl) (Nat.le_of_ble_eq_true rfl) (by show 0 + 1 + 1 ≤ 2; omega) (by show 0 + 6 + 6 ≤ 12; omega) hlocks (by (try dsimp only); first | exact ⟨rfl, (by (unfold cdWds; (repeat' split) <;> omega))⟩ | exact Or.inl ⟨rfl, (by (unfold cdWds; (repeat' split) <;> omega))⟩ | exact Or.inr ⟨rfl, (by (unfold cdWds; (repeat' split) <;> omega))⟩ | exact Or.inr (Or.inl ⟨rfl, (by (unfold cdWds; (repeat' split) <;> omega))⟩) | exact Or.inr (Or.inr ⟨rfl, (by (unfold cdWds; (repeat' split) <;> omega))⟩)) (by show 0 + 1 + 1 ≤ 2; omega) (by show 0 + 6 + 6 ≤ 12; omega)
set_option maxHeartbeats 4000000 in
set_option maxRecDepth 100000 in
theorem c_X8_plusWorking (l : Launch) (hl9 : l.stackTraces = false) (Γ : zG) (K : zK) (X : zX) (Rf : zR) (x : Nat) (day : Int) (days : Int) (ρ : zL) (M : zM) (hC : repC ρ K X Rf x M) (hM : okM M) (h1 : fit day ∧ fit days) : Cx l yX8_plusWorking cX8_plusWorking 3 (some .int) 7 2 12 Γ [.ref x, .int (iI day), .int (iI days)] K X Rf (pI (fun (r : Int) (K' : zK) (X' : zX) (R' : zR) => (r = bhF (wkdM M) day days ∧ cdPwk day days = 0) ∧ ∃ ρ', repC ρ' K' X' R' x (M) ∧ frC ρ K X Rf ρ' K' X' R')) (fun E : String => (E = "java/lang/IndexOutOfBoundsException" ∧ cdPwk day days = 1) ∨ (E = "java/lang/IllegalArgumentException" ∧ cdPwk day days = 2)) := by
  refine Cx.of (by decide +kernel) (Nat.le_of_ble_eq_true rfl) ?_
  intro p e s m below meth c ls hx hb hr hml hown hG hlocks hname ht hX hw hl
  have hl : lv_has ls 3 [(0, .ref x), (1, .int (iI day)), (2, .int (iI days))] := hl
  obtain ⟨⟨hk, hlx⟩, pr, pl, sr, dr, na, wo, ⟨hr0, hr2, hr4, hr6, hr7, hrd⟩, ⟨hkpr, hkpl, hksr, hkdr, hkna⟩, ⟨hlpr, hlpl, hlsr, hldr, hlna⟩, ⟨hx1, hx3, hx5⟩, hpt, hpl, hse, hwo⟩ := id hC
  obtain ⟨⟨hb1, hb2, hb3, hb4⟩, hokP, hokL, hokS, hokW, hokF⟩ := id hM
  obtain ⟨⟨hkw, hlw⟩, fe, fa, fn, p09, ⟨hw1, hw5, hw7, hrf⟩, ⟨hkfe, hkfa, hkfn⟩, ⟨hlfe, hlfa, hlfn⟩, ⟨hw0, hwk2, hwk3, hwk4, hwk6⟩, hfs, hvr, hfb, hwp⟩ := id hwo
  obtain ⟨hwb1, hwb2, hwb3, hwb4⟩ := hokW
  have hnn : X wo 6 = ((M 40 29).toNat : Int) ∧ (M 40 29).toNat ≤ 20 := by omega
  have hne9 : fa ≠ fn := zkne hkfa hkfn (by simp)
  have hnw1 : wo ≠ fn := zkne hkw hkfn (by simp)
  have hnw2 : wo ≠ fa := zkn2 hkw hkfa (by simp)
  refine lv_iload_n (pc := 0) hx hb dX8_plusWorking_0 rfl (lv_at hl 1 rfl) ?_
  refine zxkVp (pc := 1) (zxrS (As := [.int (iI day)]) hx hb hml hown hG hX hw (c_X8_needDay l hl9 Γ K X Rf day  (by (first | assumption | omega))) cb_X8_needDay wl_X8_77 rfl ⟨Nat.le_of_ble_eq_true rfl, Nat.le_of_ble_eq_true rfl⟩ hl.1 rfl (Nat.le_of_ble_eq_true rfl) dX8_plusWorking_1 ⟨(by show 0 + 1 ≤ 2; omega), (by show 0 + 6 ≤ 12; omega)⟩) hw (fun E9 ce9 q9 H9 locs9 hxp9 hw9 hce9 hcv9 hcl9 => zxout (pc := 1) ht hlocks hw9 hce9 hcv9 hcl9 (by (obtain ⟨rfl, hq9⟩ := hxp9; (try dsimp only); first | exact ⟨rfl, (by (unfold cdPwk; (repeat' split) <;> omega))⟩ | exact Or.inl ⟨rfl, (by (unfold cdPwk; (repeat' split) <;> omega))⟩ | exact Or.inr ⟨rfl, (by (unfold cdPwk; (repeat' split) <;> omega))⟩ | exact Or.inr (Or.inl ⟨rfl, (by (unfold cdPwk; (repeat' split) <;> omega))⟩))) (by show 0 + 1 ≤ 2; omega) (by show 0 + 6 ≤ 12; omega)) (fun H locs hp1 hw => ?_)
  refine lv_iload_n (pc := 4) hx hb dX8_plusWorking_4 rfl (lv_at hl 2 rfl) ?_
  refine zsipush (pc := 5) (n := (-200)) hx hb dX8_plusWorking_5 rfl ?_
  refine zicmp_lt (pc := 8) hx hb 18 (by omega) (by omega) dX8_plusWorking_8 (by decide) (fun c8 => ?_) (fun c8 => ?_)
  · skip
    exact zthrowW (pc := 18) hx hb hl9 hown hG hX hw wn_X8_56 wi_javalangIllegalArgumentException (List.mem_of_getElem? (i := 34) rfl) zthr_60 (hl.1.trans hml.symm) ht dX8_plusWorking_18 dX8_plusWorking_21 dX8_plusWorking_22 dX8_plusWorking_25 dX8_plusWorking_28 (by show 6 ≤ _; exact Nat.le_of_ble_eq_true rfl) (Nat.le_of_ble_eq_true rfl) (by show 0 + 1 + 1 ≤ 2; omega) (by show 0 + 6 + 6 ≤ 12; omega) hlocks (by (try dsimp only); first | exact ⟨rfl, (by (unfold cdPwk; (repeat' split) <;> omega))⟩ | exact Or.inl ⟨rfl, (by (unfold cdPwk; (repeat' split) <;> omega))⟩ | exact Or.inr ⟨rfl, (by (unfold cdPwk; (repeat' split) <;> omega))⟩ | exact Or.inr (Or.inl ⟨rfl, (by (unfold cdPwk; (repeat' split) <;> omega))⟩) | exact Or.inr (Or.inr ⟨rfl, (by (unfold cdPwk; (repeat' split) <;> omega))⟩)) (by show 0 + 1 + 1 ≤ 2; omega) (by show 0 + 6 + 6 ≤ 12; omega)
  · skip
    refine lv_iload_n (pc := 11) hx hb dX8_plusWorking_11 rfl (lv_at hl 2 rfl) ?_
    refine zsipush (pc := 12) (n := 200) hx hb dX8_plusWorking_12 rfl ?_
    refine zicmp_le (pc := 15) hx hb 29 (by omega) (by omega) dX8_plusWorking_15 (by decide) (fun c15 => ?_) (fun c15 => ?_)
    · skip
      refine lv_aload_n (pc := 29) hx hb dX8_plusWorking_29 rfl (lv_at hl 0 rfl) ?_
      refine zgetR (pc := 30) hx hb hG hown hw hk (T := TX8) rfl 7 (by decide) rfl wf_X8_49 rfl hr7 dX8_plusWorking_30 ?_
      refine lv_iload_n (pc := 33) hx hb dX8_plusWorking_33 rfl (lv_at hl 1 rfl) ?_
      refine lv_iload_n (pc := 34) hx hb dX8_plusWorking_34 rfl (lv_at hl 2 rfl) ?_
      refine zkIx (pc := 35) (zrV (As := [.int (iI day), .int (iI days)]) hx hb hml hown hG hw (c_X7_dayBehind l Γ K X Rf wo day days fa fn fe (feaM M) (fepM M) ((M 40 29).toNat) (by (first | assumption | omega)) (by (first | assumption | omega)) (by (first | assumption | omega)) (by (first | assumption | omega)) (by (first | assumption | omega)) (by (first | assumption | omega)) (by (first | assumption | omega)) (by (first | assumption | omega)) (by (first | assumption | omega)) (by (first | assumption | omega)) (by (first | assumption | omega)) (by (first | assumption | omega)) (by (first | assumption | omega))) (T := TX7) hkw rfl cb_X7_dayBehind wl_X8_333 rfl ⟨Nat.le_of_ble_eq_true rfl, Nat.le_of_ble_eq_true rfl⟩ hl.1 rfl (Nat.le_of_ble_eq_true rfl) dX8_plusWorking_35 ⟨(by show 0 + 1 + 0 ≤ 2; omega), (by show 0 + 6 + 0 ≤ 12; omega)⟩) hw (fun r35 X35 H locs hp35 hw => ?_)
      obtain ⟨hrZ, ⟨hvZ, hbZ⟩, hoZ⟩ := hp35
      rw [hwk2] at hrZ
      exact vx_ret (zretI (pc := 38) hx hb hlocks hr hw (by show 0 + 1 ≤ 2; omega) (by show 0 + 6 ≤ 12; omega) dX8_plusWorking_38 (by exact ⟨⟨by exact hrZ, by (unfold cdPwk; (repeat' split) <;> omega)⟩, hC.work hr7 hw7 hrf hoZ hvZ hbZ⟩))
    · skip
      exact zthrowW (pc := 18) hx hb hl9 hown hG hX hw wn_X8_56 wi_javalangIllegalArgumentException (List.mem_of_getElem? (i := 34) rfl) zthr_60 (hl.1.trans hml.symm) ht dX8_plusWorking_18 dX8_plusWorking_21 dX8_plusWorking_22 dX8_plusWorking_25 dX8_plusWorking_28 (by show 6 ≤ _; exact Nat.le_of_ble_eq_true rfl) (Nat.le_of_ble_eq_true rfl) (by show 0 + 1 + 1 ≤ 2; omega) (by show 0 + 6 + 6 ≤ 12; omega) hlocks (by (try dsimp only); first | exact ⟨rfl, (by (unfold cdPwk; (repeat' split) <;> omega))⟩ | exact Or.inl ⟨rfl, (by (unfold cdPwk; (repeat' split) <;> omega))⟩ | exact Or.inr ⟨rfl, (by (unfold cdPwk; (repeat' split) <;> omega))⟩ | exact Or.inr (Or.inl ⟨rfl, (by (unfold cdPwk; (repeat' split) <;> omega))⟩) | exact Or.inr (Or.inr ⟨rfl, (by (unfold cdPwk; (repeat' split) <;> omega))⟩)) (by show 0 + 1 + 1 ≤ 2; omega) (by show 0 + 6 + 6 ≤ 12; omega)
set_option maxHeartbeats 4000000 in
set_option maxRecDepth 100000 in
theorem c_X8_isWorkingMinute (l : Launch) (hl9 : l.stackTraces = false) (Γ : zG) (K : zK) (X : zX) (Rf : zR) (x : Nat) (mo : Int) (ρ : zL) (M : zM) (hC : repC ρ K X Rf x M) (hM : okM M) (h1 : fit mo) : Cx l yX8_isWorkingMinute cX8_isWorkingMinute 2 (some .boolean) 7 1 6 Γ [.ref x, .int (iI mo)] K X Rf (pI (fun (r : Int) (K' : zK) (X' : zX) (R' : zR) => (r = bI (wkmM M mo) ∧ cdMom mo = 0) ∧ ∃ ρ', repC ρ' K' X' R' x (M) ∧ frC ρ K X Rf ρ' K' X' R')) (fun E : String => E = "java/lang/IndexOutOfBoundsException" ∧ cdMom mo = 1) := by
  refine Cx.of (by decide +kernel) (Nat.le_of_ble_eq_true rfl) ?_
  intro p e s m below meth c ls hx hb hr hml hown hG hlocks hname ht hX hw hl
  have hl : lv_has ls 2 [(0, .ref x), (1, .int (iI mo))] := hl
  obtain ⟨⟨hk, hlx⟩, pr, pl, sr, dr, na, wo, ⟨hr0, hr2, hr4, hr6, hr7, hrd⟩, ⟨hkpr, hkpl, hksr, hkdr, hkna⟩, ⟨hlpr, hlpl, hlsr, hldr, hlna⟩, ⟨hx1, hx3, hx5⟩, hpt, hpl, hse, hwo⟩ := id hC
  obtain ⟨⟨hb1, hb2, hb3, hb4⟩, hokP, hokL, hokS, hokW, hokF⟩ := id hM
  obtain ⟨⟨hkw, hlw⟩, fe, fa, fn, p09, ⟨hw1, hw5, hw7, hrf⟩, ⟨hkfe, hkfa, hkfn⟩, ⟨hlfe, hlfa, hlfn⟩, ⟨hw0, hwk2, hwk3, hwk4, hwk6⟩, hfs, hvr, hfb, hwp⟩ := id hwo
  obtain ⟨hwb1, hwb2, hwb3, hwb4⟩ := hokW
  have hnn : X wo 6 = ((M 40 29).toNat : Int) ∧ (M 40 29).toNat ≤ 20 := by omega
  have hne9 : fa ≠ fn := zkne hkfa hkfn (by simp)
  have hnw1 : wo ≠ fn := zkne hkw hkfn (by simp)
  have hnw2 : wo ≠ fa := zkn2 hkw hkfa (by simp)
  obtain ⟨p0, be, sa, hwr1, hkp0, ⟨hrb4, hrb5⟩, ⟨hkbe, hksa⟩, hpq, hbq, hbz⟩ := hwo.clk hpl hM
  have hpn1 : p0 ≠ fa := zkn2 hkp0 hkfa (by simp)
  have hpn2 : p0 ≠ fn := zkne hkp0 hkfn (by simp)
  have hpn3 : be ≠ fa := zkne hkbe hkfa (by simp)
  have hpn4 : be ≠ fn := zkn2 hkbe hkfn (by simp)
  have hpn5 : sa ≠ fa := zkne hksa hkfa (by simp)
  have hpn6 : sa ≠ fn := zkn2 hksa hkfn (by simp)
  refine lv_iload_n (pc := 0) hx hb dX8_isWorkingMinute_0 rfl (lv_at hl 1 rfl) ?_
  refine zxkVp (pc := 1) (zxrS (As := [.int (iI mo)]) hx hb hml hown hG hX hw (c_X8_needMoment l hl9 Γ K X Rf mo  (by (first | assumption | omega))) cb_X8_needMoment wl_X8_179 rfl ⟨Nat.le_of_ble_eq_true rfl, Nat.le_of_ble_eq_true rfl⟩ hl.1 rfl (Nat.le_of_ble_eq_true rfl) dX8_isWorkingMinute_1 ⟨(by show 0 + 1 ≤ 1; omega), (by show 0 + 6 ≤ 6; omega)⟩) hw (fun E9 ce9 q9 H9 locs9 hxp9 hw9 hce9 hcv9 hcl9 => zxout (pc := 1) ht hlocks hw9 hce9 hcv9 hcl9 (by (obtain ⟨rfl, hq9⟩ := hxp9; (try dsimp only); first | exact ⟨rfl, (by (unfold cdMom; (repeat' split) <;> omega))⟩ | exact Or.inl ⟨rfl, (by (unfold cdMom; (repeat' split) <;> omega))⟩ | exact Or.inr ⟨rfl, (by (unfold cdMom; (repeat' split) <;> omega))⟩ | exact Or.inr (Or.inl ⟨rfl, (by (unfold cdMom; (repeat' split) <;> omega))⟩))) (by show 0 + 1 ≤ 1; omega) (by show 0 + 6 ≤ 6; omega)) (fun H locs hp1 hw => ?_)
  refine lv_aload_n (pc := 4) hx hb dX8_isWorkingMinute_4 rfl (lv_at hl 0 rfl) ?_
  refine zgetR (pc := 5) hx hb hG hown hw hk (T := TX8) rfl 7 (by decide) rfl wf_X8_49 rfl hr7 dX8_isWorkingMinute_5 ?_
  refine lv_iload_n (pc := 8) hx hb dX8_isWorkingMinute_8 rfl (lv_at hl 1 rfl) ?_
  refine lv_iload_n (pc := 9) hx hb dX8_isWorkingMinute_9 rfl (lv_at hl 1 rfl) ?_
  refine ziconst (pc := 10) (n := 1) hx hb dX8_isWorkingMinute_10 ?_
  refine zadd (pc := 11) hx hb dX8_isWorkingMinute_11 ?_
  refine zkVx (pc := 12) (zrV (As := [.int (iI mo), .int (iI (mo + 1))]) hx hb hml hown hG hw (c_X7_findFeastsWithin l Γ K X Rf wo mo (mo + 1) fa fn fe (feaM M) (fepM M) ((M 40 29).toNat) p0 (by (first | assumption | omega)) (by (first | assumption | omega)) (by (first | assumption | omega)) (by (first | assumption | omega)) (by (first | assumption | omega)) (by (first | assumption | omega)) (by (first | assumption | omega)) (by (first | assumption | omega)) (by (first | assumption | omega)) (by (first | assumption | omega)) (by (first | assumption | omega)) (by (first | assumption | omega)) (by (first | assumption | omega)) (by (first | assumption | omega)) (by (first | assumption | omega))) (T := TX7) hkw rfl cb_X7_findFeastsWithin wl_X8_336 rfl ⟨Nat.le_of_ble_eq_true rfl, Nat.le_of_ble_eq_true rfl⟩ hl.1 rfl (Nat.le_of_ble_eq_true rfl) dX8_isWorkingMinute_12 ⟨(by show 0 + 1 + 0 ≤ 1; omega), (by show 0 + 6 + 0 ≤ 6; omega)⟩) hw (fun X12 H locs hp12 hw => ?_)
  obtain ⟨hfZ, ⟨hvZ, hbZ⟩, hoZ⟩ := hp12
  have hwZ : X12 wo = X wo := hoZ wo hnw2 hnw1
  have hwZ2 : X12 wo 2 = M 40 26 := by rw [hwZ]; exact hwk2
  have hwZ3 : X12 wo 3 = M 40 27 := by rw [hwZ]; exact hwk3
  have hwZ4 : X12 wo 4 = M 40 28 := by rw [hwZ]; exact hwk4
  rw [hwk2] at hfZ
  have hpZ : X12 p0 = X p0 := hoZ p0 hpn1 hpn2
  have hbeZ : X12 be = X be := hoZ be hpn3 hpn4
  have hsaZ : X12 sa = X sa := hoZ sa hpn5 hpn6
  have hpqZ : prep (X12 be) (X12 sa) (X12 p0 6) (csvM M) := by rw [hpZ, hbeZ, hsaZ]; exact hpq
  have hbqZ : X12 p0 0 = cbsM M := by rw [hpZ]; exact hbq
  have hbzZ : -840 ≤ X12 p0 0 ∧ X12 p0 0 ≤ 840 := by rw [hpZ]; exact hbz
  refine lv_aload_n (pc := 15) hx hb dX8_isWorkingMinute_15 rfl (lv_at hl 0 rfl) ?_
  refine zgetR (pc := 16) hx hb hG hown hw hk (T := TX8) rfl 7 (by decide) rfl wf_X8_49 rfl hr7 dX8_isWorkingMinute_16 ?_
  refine lv_iload_n (pc := 19) hx hb dX8_isWorkingMinute_19 rfl (lv_at hl 1 rfl) ?_
  refine lv_iload_n (pc := 20) hx hb dX8_isWorkingMinute_20 rfl (lv_at hl 1 rfl) ?_
  refine ziconst (pc := 21) (n := 1) hx hb dX8_isWorkingMinute_21 ?_
  refine zadd (pc := 22) hx hb dX8_isWorkingMinute_22 ?_
  refine zkIp (pc := 23) (zrV (As := [.int (iI mo), .int (iI (mo + 1))]) hx hb hml hown hG hw (c_X7_minutesWithin l Γ K X12 Rf wo mo (mo + 1) fa fn p0 be sa (csvM M) (falM M) (by (first | assumption | omega)) (by omega) (by (first | assumption | omega)) (by (first | assumption | omega)) (by (first | assumption | omega)) (by (first | assumption | omega)) (by (first | assumption | omega)) (by (first | assumption | omega)) (by (first | assumption | omega)) (by (first | assumption | omega)) (by (first | assumption | omega)) (by (first | assumption | omega)) (by (first | assumption | omega)) (by (first | assumption | omega)) (by (first | assumption | omega)) (by (first | assumption | omega)) (by omega) (by (first | assumption | omega)) (by intro d g1 g2 g3 g4; rw [hpZ] at g3 g4; exact hfZ d g1 g2 (by omega) (by omega))) (T := TX7) hkw rfl cb_X7_minutesWithin wl_X8_339 rfl ⟨Nat.le_of_ble_eq_true rfl, Nat.le_of_ble_eq_true rfl⟩ hl.1 rfl (Nat.le_of_ble_eq_true rfl) dX8_isWorkingMinute_23 ⟨(by show 0 + 1 + 0 ≤ 1; omega), (by show 0 + 6 + 0 ≤ 6; omega)⟩) hw (fun r23 H locs hp23 hw => ?_)
  subst hp23
  have hp23f0 := cP_rng (p := wkM (csvM M) (X12 p0 0) (X12 wo 3) (X12 wo 4) (wkF (X12 wo 2) (falM M))) (b := (mo + 1)) mo
  refine zif_le (pc := 26) hx hb 33 (by omega) dX8_isWorkingMinute_26 (by decide) (fun c26 => ?_) (fun c26 => ?_)
  · skip
    refine ziconst (pc := 33) (n := 0) hx hb dX8_isWorkingMinute_33 ?_
    exact vx_ret (zretZ (pc := 34) hx hb hlocks hr (Or.inl rfl) hw (by show 0 + 1 ≤ 1; omega) (by show 0 + 6 ≤ 6; omega) dX8_isWorkingMinute_34 (by exact ⟨⟨by (rw [hbqZ, hwZ3, hwZ4, hwZ2, show mo + 1 - mo = 1 by omega] at c26; first | exact (wk1 (Int.not_le.mpr c26)).symm | exact (wk0 c26).symm), by (unfold cdMom; (repeat' split) <;> omega)⟩, hC.work hr7 hw7 hrf hoZ hvZ hbZ⟩))
  · skip
    refine ziconst (pc := 29) (n := 1) hx hb dX8_isWorkingMinute_29 ?_
    refine lv_goto (pc := 30) (tgt := 34) hx hb dX8_isWorkingMinute_30 (by decide) ?_
    exact vx_ret (zretZ (pc := 34) hx hb hlocks hr (Or.inr rfl) hw (by show 0 + 1 ≤ 1; omega) (by show 0 + 6 ≤ 6; omega) dX8_isWorkingMinute_34 (by exact ⟨⟨by (rw [hbqZ, hwZ3, hwZ4, hwZ2, show mo + 1 - mo = 1 by omega] at c26; first | exact (wk1 (Int.not_le.mpr c26)).symm | exact (wk0 c26).symm), by (unfold cdMom; (repeat' split) <;> omega)⟩, hC.work hr7 hw7 hrf hoZ hvZ hbZ⟩))
set_option maxHeartbeats 4000000 in
set_option maxRecDepth 100000 in
theorem c_X8_workWithin (l : Launch) (hl9 : l.stackTraces = false) (Γ : zG) (K : zK) (X : zX) (Rf : zR) (x : Nat) (fr : Int) (mn : Int) (ρ : zL) (M : zM) (hC : repC ρ K X Rf x M) (hM : okM M) (h1 : fit fr ∧ fit mn) : Cx l yX8_workWithin cX8_workWithin 3 (some .int) 7 2 12 Γ [.ref x, .int (iI fr), .int (iI mn)] K X Rf (pI (fun (r : Int) (K' : zK) (X' : zX) (R' : zR) => (r = cP (wkmM M) (fr + mn - fr).toNat fr ∧ cdWwi fr mn = 0) ∧ ∃ ρ', repC ρ' K' X' R' x (M) ∧ frC ρ K X Rf ρ' K' X' R')) (fun E : String => (E = "java/lang/IndexOutOfBoundsException" ∧ cdWwi fr mn = 1) ∨ (E = "java/lang/IllegalArgumentException" ∧ cdWwi fr mn = 2)) := by
  refine Cx.of (by decide +kernel) (Nat.le_of_ble_eq_true rfl) ?_
  intro p e s m below meth c ls hx hb hr hml hown hG hlocks hname ht hX hw hl
  have hl : lv_has ls 3 [(0, .ref x), (1, .int (iI fr)), (2, .int (iI mn))] := hl
  obtain ⟨⟨hk, hlx⟩, pr, pl, sr, dr, na, wo, ⟨hr0, hr2, hr4, hr6, hr7, hrd⟩, ⟨hkpr, hkpl, hksr, hkdr, hkna⟩, ⟨hlpr, hlpl, hlsr, hldr, hlna⟩, ⟨hx1, hx3, hx5⟩, hpt, hpl, hse, hwo⟩ := id hC
  obtain ⟨⟨hb1, hb2, hb3, hb4⟩, hokP, hokL, hokS, hokW, hokF⟩ := id hM
  obtain ⟨⟨hkw, hlw⟩, fe, fa, fn, p09, ⟨hw1, hw5, hw7, hrf⟩, ⟨hkfe, hkfa, hkfn⟩, ⟨hlfe, hlfa, hlfn⟩, ⟨hw0, hwk2, hwk3, hwk4, hwk6⟩, hfs, hvr, hfb, hwp⟩ := id hwo
  obtain ⟨hwb1, hwb2, hwb3, hwb4⟩ := hokW
  have hnn : X wo 6 = ((M 40 29).toNat : Int) ∧ (M 40 29).toNat ≤ 20 := by omega
  have hne9 : fa ≠ fn := zkne hkfa hkfn (by simp)
  have hnw1 : wo ≠ fn := zkne hkw hkfn (by simp)
  have hnw2 : wo ≠ fa := zkn2 hkw hkfa (by simp)
  obtain ⟨p0, be, sa, hwr1, hkp0, ⟨hrb4, hrb5⟩, ⟨hkbe, hksa⟩, hpq, hbq, hbz⟩ := hwo.clk hpl hM
  have hpn1 : p0 ≠ fa := zkn2 hkp0 hkfa (by simp)
  have hpn2 : p0 ≠ fn := zkne hkp0 hkfn (by simp)
  have hpn3 : be ≠ fa := zkne hkbe hkfa (by simp)
  have hpn4 : be ≠ fn := zkn2 hkbe hkfn (by simp)
  have hpn5 : sa ≠ fa := zkne hksa hkfa (by simp)
  have hpn6 : sa ≠ fn := zkn2 hksa hkfn (by simp)
  refine lv_iload_n (pc := 0) hx hb dX8_workWithin_0 rfl (lv_at hl 1 rfl) ?_
  refine zxkVp (pc := 1) (zxrS (As := [.int (iI fr)]) hx hb hml hown hG hX hw (c_X8_needMoment l hl9 Γ K X Rf fr  (by (first | assumption | omega))) cb_X8_needMoment wl_X8_179 rfl ⟨Nat.le_of_ble_eq_true rfl, Nat.le_of_ble_eq_true rfl⟩ hl.1 rfl (Nat.le_of_ble_eq_true rfl) dX8_workWithin_1 ⟨(by show 0 + 1 ≤ 2; omega), (by show 0 + 6 ≤ 12; omega)⟩) hw (fun E9 ce9 q9 H9 locs9 hxp9 hw9 hce9 hcv9 hcl9 => zxout (pc := 1) ht hlocks hw9 hce9 hcv9 hcl9 (by (obtain ⟨rfl, hq9⟩ := hxp9; (try dsimp only); first | exact ⟨rfl, (by (unfold cdWwi; (repeat' split) <;> omega))⟩ | exact Or.inl ⟨rfl, (by (unfold cdWwi; (repeat' split) <;> omega))⟩ | exact Or.inr ⟨rfl, (by (unfold cdWwi; (repeat' split) <;> omega))⟩ | exact Or.inr (Or.inl ⟨rfl, (by (unfold cdWwi; (repeat' split) <;> omega))⟩))) (by show 0 + 1 ≤ 2; omega) (by show 0 + 6 ≤ 12; omega)) (fun H locs hp1 hw => ?_)
  refine lv_iload_n (pc := 4) hx hb dX8_workWithin_4 rfl (lv_at hl 2 rfl) ?_
  refine zif_lt (pc := 5) hx hb 24 (by omega) dX8_workWithin_5 (by decide) (fun c5 => ?_) (fun c5 => ?_)
  · skip
    exact zthrowW (pc := 24) hx hb hl9 hown hG hX hw wn_X8_56 wi_javalangIllegalArgumentException (List.mem_of_getElem? (i := 35) rfl) zthr_60 (hl.1.trans hml.symm) ht dX8_workWithin_24 dX8_workWithin_27 dX8_workWithin_28 dX8_workWithin_31 dX8_workWithin_34 (by show 6 ≤ _; exact Nat.le_of_ble_eq_true rfl) (Nat.le_of_ble_eq_true rfl) (by show 0 + 1 + 1 ≤ 2; omega) (by show 0 + 6 + 6 ≤ 12; omega) hlocks (by (try dsimp only); first | exact ⟨rfl, (by (unfold cdWwi; (repeat' split) <;> omega))⟩ | exact Or.inl ⟨rfl, (by (unfold cdWwi; (repeat' split) <;> omega))⟩ | exact Or.inr ⟨rfl, (by (unfold cdWwi; (repeat' split) <;> omega))⟩ | exact Or.inr (Or.inl ⟨rfl, (by (unfold cdWwi; (repeat' split) <;> omega))⟩) | exact Or.inr (Or.inr ⟨rfl, (by (unfold cdWwi; (repeat' split) <;> omega))⟩)) (by show 0 + 1 + 1 ≤ 2; omega) (by show 0 + 6 + 6 ≤ 12; omega)
  · skip
    refine lv_iload_n (pc := 8) hx hb dX8_workWithin_8 rfl (lv_at hl 2 rfl) ?_
    refine zldcw (pc := 9) (n := 50000) hx hb hown hG wk_X8_342 dX8_workWithin_9 ?_
    refine zicmp_gt (pc := 12) hx hb 24 (by omega) (by omega) dX8_workWithin_12 (by decide) (fun c12 => ?_) (fun c12 => ?_)
    · skip
      exact zthrowW (pc := 24) hx hb hl9 hown hG hX hw wn_X8_56 wi_javalangIllegalArgumentException (List.mem_of_getElem? (i := 35) rfl) zthr_60 (hl.1.trans hml.symm) ht dX8_workWithin_24 dX8_workWithin_27 dX8_workWithin_28 dX8_workWithin_31 dX8_workWithin_34 (by show 6 ≤ _; exact Nat.le_of_ble_eq_true rfl) (Nat.le_of_ble_eq_true rfl) (by show 0 + 1 + 1 ≤ 2; omega) (by show 0 + 6 + 6 ≤ 12; omega) hlocks (by (try dsimp only); first | exact ⟨rfl, (by (unfold cdWwi; (repeat' split) <;> omega))⟩ | exact Or.inl ⟨rfl, (by (unfold cdWwi; (repeat' split) <;> omega))⟩ | exact Or.inr ⟨rfl, (by (unfold cdWwi; (repeat' split) <;> omega))⟩ | exact Or.inr (Or.inl ⟨rfl, (by (unfold cdWwi; (repeat' split) <;> omega))⟩) | exact Or.inr (Or.inr ⟨rfl, (by (unfold cdWwi; (repeat' split) <;> omega))⟩)) (by show 0 + 1 + 1 ≤ 2; omega) (by show 0 + 6 + 6 ≤ 12; omega)
    · skip
      refine lv_iload_n (pc := 15) hx hb dX8_workWithin_15 rfl (lv_at hl 1 rfl) ?_
      refine lv_iload_n (pc := 16) hx hb dX8_workWithin_16 rfl (lv_at hl 2 rfl) ?_
      refine zadd (pc := 17) hx hb dX8_workWithin_17 ?_
      refine zldcw (pc := 18) (n := 105190560) hx hb hown hG wk_X8_343 dX8_workWithin_18 ?_
      refine zicmp_le (pc := 21) hx hb 35 (by omega) (by omega) dX8_workWithin_21 (by decide) (fun c21 => ?_) (fun c21 => ?_)
      · skip
        refine lv_aload_n (pc := 35) hx hb dX8_workWithin_35 rfl (lv_at hl 0 rfl) ?_
        refine zgetR (pc := 36) hx hb hG hown hw hk (T := TX8) rfl 7 (by decide) rfl wf_X8_49 rfl hr7 dX8_workWithin_36 ?_
        refine lv_iload_n (pc := 39) hx hb dX8_workWithin_39 rfl (lv_at hl 1 rfl) ?_
        refine lv_iload_n (pc := 40) hx hb dX8_workWithin_40 rfl (lv_at hl 1 rfl) ?_
        refine lv_iload_n (pc := 41) hx hb dX8_workWithin_41 rfl (lv_at hl 2 rfl) ?_
        refine zadd (pc := 42) hx hb dX8_workWithin_42 ?_
        refine zkVx (pc := 43) (zrV (As := [.int (iI fr), .int (iI (fr + mn))]) hx hb hml hown hG hw (c_X7_findFeastsWithin l Γ K X Rf wo fr (fr + mn) fa fn fe (feaM M) (fepM M) ((M 40 29).toNat) p0 (by (first | assumption | omega)) (by (first | assumption | omega)) (by (first | assumption | omega)) (by (first | assumption | omega)) (by (first | assumption | omega)) (by (first | assumption | omega)) (by (first | assumption | omega)) (by (first | assumption | omega)) (by (first | assumption | omega)) (by (first | assumption | omega)) (by (first | assumption | omega)) (by (first | assumption | omega)) (by (first | assumption | omega)) (by (first | assumption | omega)) (by (first | assumption | omega))) (T := TX7) hkw rfl cb_X7_findFeastsWithin wl_X8_336 rfl ⟨Nat.le_of_ble_eq_true rfl, Nat.le_of_ble_eq_true rfl⟩ hl.1 rfl (Nat.le_of_ble_eq_true rfl) dX8_workWithin_43 ⟨(by show 0 + 1 + 0 ≤ 2; omega), (by show 0 + 6 + 0 ≤ 12; omega)⟩) hw (fun X43 H locs hp43 hw => ?_)
        obtain ⟨hfZ, ⟨hvZ, hbZ⟩, hoZ⟩ := hp43
        have hwZ : X43 wo = X wo := hoZ wo hnw2 hnw1
        have hwZ2 : X43 wo 2 = M 40 26 := by rw [hwZ]; exact hwk2
        have hwZ3 : X43 wo 3 = M 40 27 := by rw [hwZ]; exact hwk3
        have hwZ4 : X43 wo 4 = M 40 28 := by rw [hwZ]; exact hwk4
        rw [hwk2] at hfZ
        have hpZ : X43 p0 = X p0 := hoZ p0 hpn1 hpn2
        have hbeZ : X43 be = X be := hoZ be hpn3 hpn4
        have hsaZ : X43 sa = X sa := hoZ sa hpn5 hpn6
        have hpqZ : prep (X43 be) (X43 sa) (X43 p0 6) (csvM M) := by rw [hpZ, hbeZ, hsaZ]; exact hpq
        have hbqZ : X43 p0 0 = cbsM M := by rw [hpZ]; exact hbq
        have hbzZ : -840 ≤ X43 p0 0 ∧ X43 p0 0 ≤ 840 := by rw [hpZ]; exact hbz
        refine lv_aload_n (pc := 46) hx hb dX8_workWithin_46 rfl (lv_at hl 0 rfl) ?_
        refine zgetR (pc := 47) hx hb hG hown hw hk (T := TX8) rfl 7 (by decide) rfl wf_X8_49 rfl hr7 dX8_workWithin_47 ?_
        refine lv_iload_n (pc := 50) hx hb dX8_workWithin_50 rfl (lv_at hl 1 rfl) ?_
        refine lv_iload_n (pc := 51) hx hb dX8_workWithin_51 rfl (lv_at hl 1 rfl) ?_
        refine lv_iload_n (pc := 52) hx hb dX8_workWithin_52 rfl (lv_at hl 2 rfl) ?_
        refine zadd (pc := 53) hx hb dX8_workWithin_53 ?_
        refine zkIp (pc := 54) (zrV (As := [.int (iI fr), .int (iI (fr + mn))]) hx hb hml hown hG hw (c_X7_minutesWithin l Γ K X43 Rf wo fr (fr + mn) fa fn p0 be sa (csvM M) (falM M) (by (first | assumption | omega)) (by omega) (by (first | assumption | omega)) (by (first | assumption | omega)) (by (first | assumption | omega)) (by (first | assumption | omega)) (by (first | assumption | omega)) (by (first | assumption | omega)) (by (first | assumption | omega)) (by (first | assumption | omega)) (by (first | assumption | omega)) (by (first | assumption | omega)) (by (first | assumption | omega)) (by (first | assumption | omega)) (by (first | assumption | omega)) (by (first | assumption | omega)) (by omega) (by (first | assumption | omega)) (by intro d g1 g2 g3 g4; rw [hpZ] at g3 g4; exact hfZ d g1 g2 (by omega) (by omega))) (T := TX7) hkw rfl cb_X7_minutesWithin wl_X8_339 rfl ⟨Nat.le_of_ble_eq_true rfl, Nat.le_of_ble_eq_true rfl⟩ hl.1 rfl (Nat.le_of_ble_eq_true rfl) dX8_workWithin_54 ⟨(by show 0 + 1 + 0 ≤ 2; omega), (by show 0 + 6 + 0 ≤ 12; omega)⟩) hw (fun r54 H locs hp54 hw => ?_)
        subst hp54
        have hp54f0 := cP_rng (p := wkM (csvM M) (X43 p0 0) (X43 wo 3) (X43 wo 4) (wkF (X43 wo 2) (falM M))) (b := (fr + mn)) fr
        exact vx_ret (zretI (pc := 57) hx hb hlocks hr hw (by show 0 + 1 ≤ 2; omega) (by show 0 + 6 ≤ 12; omega) dX8_workWithin_57 (by exact ⟨⟨by rw [hbqZ, hwZ3, hwZ4, hwZ2]; rfl, by (unfold cdWwi; (repeat' split) <;> omega)⟩, hC.work hr7 hw7 hrf hoZ hvZ hbZ⟩))
      · skip
        exact zthrowW (pc := 24) hx hb hl9 hown hG hX hw wn_X8_56 wi_javalangIllegalArgumentException (List.mem_of_getElem? (i := 35) rfl) zthr_60 (hl.1.trans hml.symm) ht dX8_workWithin_24 dX8_workWithin_27 dX8_workWithin_28 dX8_workWithin_31 dX8_workWithin_34 (by show 6 ≤ _; exact Nat.le_of_ble_eq_true rfl) (Nat.le_of_ble_eq_true rfl) (by show 0 + 1 + 1 ≤ 2; omega) (by show 0 + 6 + 6 ≤ 12; omega) hlocks (by (try dsimp only); first | exact ⟨rfl, (by (unfold cdWwi; (repeat' split) <;> omega))⟩ | exact Or.inl ⟨rfl, (by (unfold cdWwi; (repeat' split) <;> omega))⟩ | exact Or.inr ⟨rfl, (by (unfold cdWwi; (repeat' split) <;> omega))⟩ | exact Or.inr (Or.inl ⟨rfl, (by (unfold cdWwi; (repeat' split) <;> omega))⟩) | exact Or.inr (Or.inr ⟨rfl, (by (unfold cdWwi; (repeat' split) <;> omega))⟩)) (by show 0 + 1 + 1 ≤ 2; omega) (by show 0 + 6 + 6 ≤ 12; omega)
set_option maxHeartbeats 4000000 in
set_option maxRecDepth 100000 in
theorem c_X8_doneAt (l : Launch) (hl9 : l.stackTraces = false) (Γ : zG) (K : zK) (X : zX) (Rf : zR) (x : Nat) (fr : Int) (wk : Int) (ρ : zL) (M : zM) (hC : repC ρ K X Rf x M) (hM : okM M) (h1 : fit fr ∧ fit wk) : Cx l yX8_doneAt cX8_doneAt 4 (some .int) 7 2 12 Γ [.ref x, .int (iI fr), .int (iI wk)] K X Rf (pI (fun (r : Int) (K' : zK) (X' : zX) (R' : zR) => (r = dnF (wkmM M) fr wk (min (fr + 50000) 105190559) ∧ cdDon fr wk = 0) ∧ ∃ ρ', repC ρ' K' X' R' x (M) ∧ frC ρ K X Rf ρ' K' X' R')) (fun E : String => (E = "java/lang/IndexOutOfBoundsException" ∧ cdDon fr wk = 1) ∨ (E = "java/lang/IllegalArgumentException" ∧ cdDon fr wk = 2)) := by
  refine Cx.of (by decide +kernel) (Nat.le_of_ble_eq_true rfl) ?_
  intro p e s m below meth c ls hx hb hr hml hown hG hlocks hname ht hX hw hl
  have hl : lv_has ls 4 [(0, .ref x), (1, .int (iI fr)), (2, .int (iI wk))] := hl
  obtain ⟨⟨hk, hlx⟩, pr, pl, sr, dr, na, wo, ⟨hr0, hr2, hr4, hr6, hr7, hrd⟩, ⟨hkpr, hkpl, hksr, hkdr, hkna⟩, ⟨hlpr, hlpl, hlsr, hldr, hlna⟩, ⟨hx1, hx3, hx5⟩, hpt, hpl, hse, hwo⟩ := id hC
  obtain ⟨⟨hb1, hb2, hb3, hb4⟩, hokP, hokL, hokS, hokW, hokF⟩ := id hM
  obtain ⟨⟨hkw, hlw⟩, fe, fa, fn, p09, ⟨hw1, hw5, hw7, hrf⟩, ⟨hkfe, hkfa, hkfn⟩, ⟨hlfe, hlfa, hlfn⟩, ⟨hw0, hwk2, hwk3, hwk4, hwk6⟩, hfs, hvr, hfb, hwp⟩ := id hwo
  obtain ⟨hwb1, hwb2, hwb3, hwb4⟩ := hokW
  have hnn : X wo 6 = ((M 40 29).toNat : Int) ∧ (M 40 29).toNat ≤ 20 := by omega
  have hne9 : fa ≠ fn := zkne hkfa hkfn (by simp)
  have hnw1 : wo ≠ fn := zkne hkw hkfn (by simp)
  have hnw2 : wo ≠ fa := zkn2 hkw hkfa (by simp)
  obtain ⟨p0, be, sa, hwr1, hkp0, ⟨hrb4, hrb5⟩, ⟨hkbe, hksa⟩, hpq, hbq, hbz⟩ := hwo.clk hpl hM
  have hpn1 : p0 ≠ fa := zkn2 hkp0 hkfa (by simp)
  have hpn2 : p0 ≠ fn := zkne hkp0 hkfn (by simp)
  have hpn3 : be ≠ fa := zkne hkbe hkfa (by simp)
  have hpn4 : be ≠ fn := zkn2 hkbe hkfn (by simp)
  have hpn5 : sa ≠ fa := zkne hksa hkfa (by simp)
  have hpn6 : sa ≠ fn := zkn2 hksa hkfn (by simp)
  refine lv_iload_n (pc := 0) hx hb dX8_doneAt_0 rfl (lv_at hl 1 rfl) ?_
  refine zxkVp (pc := 1) (zxrS (As := [.int (iI fr)]) hx hb hml hown hG hX hw (c_X8_needMoment l hl9 Γ K X Rf fr  (by (first | assumption | omega))) cb_X8_needMoment wl_X8_179 rfl ⟨Nat.le_of_ble_eq_true rfl, Nat.le_of_ble_eq_true rfl⟩ hl.1 rfl (Nat.le_of_ble_eq_true rfl) dX8_doneAt_1 ⟨(by show 0 + 1 ≤ 2; omega), (by show 0 + 6 ≤ 12; omega)⟩) hw (fun E9 ce9 q9 H9 locs9 hxp9 hw9 hce9 hcv9 hcl9 => zxout (pc := 1) ht hlocks hw9 hce9 hcv9 hcl9 (by (obtain ⟨rfl, hq9⟩ := hxp9; (try dsimp only); first | exact ⟨rfl, (by (unfold cdDon; (repeat' split) <;> omega))⟩ | exact Or.inl ⟨rfl, (by (unfold cdDon; (repeat' split) <;> omega))⟩ | exact Or.inr ⟨rfl, (by (unfold cdDon; (repeat' split) <;> omega))⟩ | exact Or.inr (Or.inl ⟨rfl, (by (unfold cdDon; (repeat' split) <;> omega))⟩))) (by show 0 + 1 ≤ 2; omega) (by show 0 + 6 ≤ 12; omega)) (fun H locs hp1 hw => ?_)
  refine lv_iload_n (pc := 4) hx hb dX8_doneAt_4 rfl (lv_at hl 2 rfl) ?_
  refine ziconst (pc := 5) (n := 1) hx hb dX8_doneAt_5 ?_
  refine zicmp_lt (pc := 6) hx hb 16 (by omega) (by omega) dX8_doneAt_6 (by decide) (fun c6 => ?_) (fun c6 => ?_)
  · skip
    exact zthrowW (pc := 16) hx hb hl9 hown hG hX hw wn_X8_56 wi_javalangIllegalArgumentException (List.mem_of_getElem? (i := 36) rfl) zthr_60 (hl.1.trans hml.symm) ht dX8_doneAt_16 dX8_doneAt_19 dX8_doneAt_20 dX8_doneAt_23 dX8_doneAt_26 (by show 6 ≤ _; exact Nat.le_of_ble_eq_true rfl) (Nat.le_of_ble_eq_true rfl) (by show 0 + 1 + 1 ≤ 2; omega) (by show 0 + 6 + 6 ≤ 12; omega) hlocks (by (try dsimp only); first | exact ⟨rfl, (by (unfold cdDon; (repeat' split) <;> omega))⟩ | exact Or.inl ⟨rfl, (by (unfold cdDon; (repeat' split) <;> omega))⟩ | exact Or.inr ⟨rfl, (by (unfold cdDon; (repeat' split) <;> omega))⟩ | exact Or.inr (Or.inl ⟨rfl, (by (unfold cdDon; (repeat' split) <;> omega))⟩) | exact Or.inr (Or.inr ⟨rfl, (by (unfold cdDon; (repeat' split) <;> omega))⟩)) (by show 0 + 1 + 1 ≤ 2; omega) (by show 0 + 6 + 6 ≤ 12; omega)
  · skip
    refine lv_iload_n (pc := 9) hx hb dX8_doneAt_9 rfl (lv_at hl 2 rfl) ?_
    refine zsipush (pc := 10) (n := 10000) hx hb dX8_doneAt_10 rfl ?_
    refine zicmp_le (pc := 13) hx hb 27 (by omega) (by omega) dX8_doneAt_13 (by decide) (fun c13 => ?_) (fun c13 => ?_)
    · skip
      refine lv_iload_n (pc := 27) hx hb dX8_doneAt_27 rfl (lv_at hl 1 rfl) ?_
      refine zldcw (pc := 28) (n := 50000) hx hb hown hG wk_X8_342 dX8_doneAt_28 ?_
      refine zadd (pc := 31) hx hb dX8_doneAt_31 ?_
      refine zldc (pc := 32) (n := 105190559) hx hb hown hG wk_X8_200 dX8_doneAt_32 ?_
      refine zmin (pc := 34) hx hb (hml.trans hl.1.symm) hown hG wl_X8_102 w1_zmn wi_javalangMath w2_zmn (Nat.le_of_ble_eq_true rfl) (Nat.le_of_ble_eq_true rfl) (by show 0 + 1 ≤ 2; omega) (by show 0 + 6 ≤ 12; omega) ⟨by omega, by omega⟩ dX8_doneAt_34 ?_
      refine ztop (fun x37 ex37 => ?_)
      refine lv_istore_n (pc := 37) (lv' := [(3, .int (iI x37)), (0, .ref x), (1, .int (iI fr)), (2, .int (iI wk))]) hx hb dX8_doneAt_37 rfl hl (by decide) rfl (fun ls hl => ?_)
      refine lv_aload_n (pc := 38) hx hb dX8_doneAt_38 rfl (lv_at hl 1 rfl) ?_
      refine zgetR (pc := 39) hx hb hG hown hw hk (T := TX8) rfl 7 (by decide) rfl wf_X8_49 rfl hr7 dX8_doneAt_39 ?_
      refine lv_iload_n (pc := 42) hx hb dX8_doneAt_42 rfl (lv_at hl 2 rfl) ?_
      refine lv_iload_n (pc := 43) hx hb dX8_doneAt_43 rfl (lv_at hl 0 rfl) ?_
      refine zkVx (pc := 44) (zrV (As := [.int (iI fr), .int (iI x37)]) hx hb hml hown hG hw (c_X7_findFeastsWithin l Γ K X Rf wo fr x37 fa fn fe (feaM M) (fepM M) ((M 40 29).toNat) p0 (by (first | assumption | omega)) (by (first | assumption | omega)) (by (first | assumption | omega)) (by (first | assumption | omega)) (by (first | assumption | omega)) (by (first | assumption | omega)) (by (first | assumption | omega)) (by (first | assumption | omega)) (by (first | assumption | omega)) (by (first | assumption | omega)) (by (first | assumption | omega)) (by (first | assumption | omega)) (by (first | assumption | omega)) (by (first | assumption | omega)) (by (first | assumption | omega))) (T := TX7) hkw rfl cb_X7_findFeastsWithin wl_X8_336 rfl ⟨Nat.le_of_ble_eq_true rfl, Nat.le_of_ble_eq_true rfl⟩ hl.1 rfl (Nat.le_of_ble_eq_true rfl) dX8_doneAt_44 ⟨(by show 0 + 1 + 0 ≤ 2; omega), (by show 0 + 6 + 0 ≤ 12; omega)⟩) hw (fun X44 H locs hp44 hw => ?_)
      obtain ⟨hfZ, ⟨hvZ, hbZ⟩, hoZ⟩ := hp44
      have hwZ : X44 wo = X wo := hoZ wo hnw2 hnw1
      have hwZ2 : X44 wo 2 = M 40 26 := by rw [hwZ]; exact hwk2
      have hwZ3 : X44 wo 3 = M 40 27 := by rw [hwZ]; exact hwk3
      have hwZ4 : X44 wo 4 = M 40 28 := by rw [hwZ]; exact hwk4
      rw [hwk2] at hfZ
      have hpZ : X44 p0 = X p0 := hoZ p0 hpn1 hpn2
      have hbeZ : X44 be = X be := hoZ be hpn3 hpn4
      have hsaZ : X44 sa = X sa := hoZ sa hpn5 hpn6
      have hpqZ : prep (X44 be) (X44 sa) (X44 p0 6) (csvM M) := by rw [hpZ, hbeZ, hsaZ]; exact hpq
      have hbqZ : X44 p0 0 = cbsM M := by rw [hpZ]; exact hbq
      have hbzZ : -840 ≤ X44 p0 0 ∧ X44 p0 0 ≤ 840 := by rw [hpZ]; exact hbz
      refine lv_aload_n (pc := 47) hx hb dX8_doneAt_47 rfl (lv_at hl 1 rfl) ?_
      refine zgetR (pc := 48) hx hb hG hown hw hk (T := TX8) rfl 7 (by decide) rfl wf_X8_49 rfl hr7 dX8_doneAt_48 ?_
      refine lv_iload_n (pc := 51) hx hb dX8_doneAt_51 rfl (lv_at hl 2 rfl) ?_
      refine lv_iload_n (pc := 52) hx hb dX8_doneAt_52 rfl (lv_at hl 3 rfl) ?_
      refine lv_iload_n (pc := 53) hx hb dX8_doneAt_53 rfl (lv_at hl 0 rfl) ?_
      refine zkIp (pc := 54) (zrV (As := [.int (iI fr), .int (iI wk), .int (iI x37)]) hx hb hml hown hG hw (c_X7_finish l Γ K X44 Rf wo fr wk x37 fa fn p0 be sa (csvM M) (falM M) (by (first | assumption | omega)) (by omega) (by (first | assumption | omega)) (by (first | assumption | omega)) (by (first | assumption | omega)) (by (first | assumption | omega)) (by (first | assumption | omega)) (by (first | assumption | omega)) (by (first | assumption | omega)) (by (first | assumption | omega)) (by (first | assumption | omega)) (by (first | assumption | omega)) (by (first | assumption | omega)) (by (first | assumption | omega)) (by (first | assumption | omega)) (by (first | assumption | omega)) (by omega) (by (first | assumption | omega)) (by (first | assumption | omega)) (by intro d g1 g2 g3 g4; rw [hpZ] at g3 g4; exact hfZ d g1 g2 (by omega) (by omega))) (T := TX7) hkw rfl cb_X7_finish wl_X8_348 rfl ⟨Nat.le_of_ble_eq_true rfl, Nat.le_of_ble_eq_true rfl⟩ hl.1 rfl (Nat.le_of_ble_eq_true rfl) dX8_doneAt_54 ⟨(by show 0 + 1 + 0 ≤ 2; omega), (by show 0 + 6 + 0 ≤ 12; omega)⟩) hw (fun r54 H locs hp54 hw => ?_)
      subst hp54
      exact vx_ret (zretI (pc := 57) hx hb hlocks hr hw (by show 0 + 1 ≤ 2; omega) (by show 0 + 6 ≤ 12; omega) dX8_doneAt_57 (by exact ⟨⟨by rw [hbqZ, hwZ3, hwZ4, hwZ2, ex37]; rfl, by (unfold cdDon; (repeat' split) <;> omega)⟩, hC.work hr7 hw7 hrf hoZ hvZ hbZ⟩))
    · skip
      exact zthrowW (pc := 16) hx hb hl9 hown hG hX hw wn_X8_56 wi_javalangIllegalArgumentException (List.mem_of_getElem? (i := 36) rfl) zthr_60 (hl.1.trans hml.symm) ht dX8_doneAt_16 dX8_doneAt_19 dX8_doneAt_20 dX8_doneAt_23 dX8_doneAt_26 (by show 6 ≤ _; exact Nat.le_of_ble_eq_true rfl) (Nat.le_of_ble_eq_true rfl) (by show 0 + 1 + 1 ≤ 2; omega) (by show 0 + 6 + 6 ≤ 12; omega) hlocks (by (try dsimp only); first | exact ⟨rfl, (by (unfold cdDon; (repeat' split) <;> omega))⟩ | exact Or.inl ⟨rfl, (by (unfold cdDon; (repeat' split) <;> omega))⟩ | exact Or.inr ⟨rfl, (by (unfold cdDon; (repeat' split) <;> omega))⟩ | exact Or.inr (Or.inl ⟨rfl, (by (unfold cdDon; (repeat' split) <;> omega))⟩) | exact Or.inr (Or.inr ⟨rfl, (by (unfold cdDon; (repeat' split) <;> omega))⟩)) (by show 0 + 1 + 1 ≤ 2; omega) (by show 0 + 6 + 6 ≤ 12; omega)
