set_option maxHeartbeats 4000000 in
set_option maxRecDepth 100000 in
theorem c_X8_feastOn (l : Launch) (hl9 : l.stackTraces = false) (Γ : zG) (K : zK) (X : zX) (Rf : zR) (x : Nat) (day : Int) (ρ : zL) (M : zM) (hC : repC ρ K X Rf x M) (hM : okM M) (h1 : fit day) : Cx l yX8_feastOn cX8_feastOn 2 (some .int) 7 1 6 Γ [.ref x, .int (iI day)] K X Rf (pI (fun (r : Int) (K' : zK) (X' : zX) (R' : zR) => (r = falM M day ∧ cdDay day = 0) ∧ ∃ ρ', repC ρ' K' X' R' x (M) ∧ frC ρ K X Rf ρ' K' X' R')) (fun E : String => E = "java/lang/IndexOutOfBoundsException" ∧ cdDay day = 1) := by
  refine Cx.of (by decide +kernel) (Nat.le_of_ble_eq_true rfl) ?_
  intro p e s m below meth c ls hx hb hr hml hown hG hlocks hname ht hX hw hl
  have hl : lv_has ls 2 [(0, .ref x), (1, .int (iI day))] := hl
  obtain ⟨⟨hk, hlx⟩, pr, pl, sr, dr, na, wo, ⟨hr0, hr2, hr4, hr6, hr7, hrd⟩, ⟨hkpr, hkpl, hksr, hkdr, hkna⟩, ⟨hlpr, hlpl, hlsr, hldr, hlna⟩, ⟨hx1, hx3, hx5⟩, hpt, hpl, hse, hwo⟩ := id hC
  obtain ⟨⟨hb1, hb2, hb3, hb4⟩, hokP, hokL, hokS, hokW, hokF⟩ := id hM
  obtain ⟨⟨hkw, hlw⟩, fe, fa, fn, p09, ⟨hw1, hw5, hw7, hrf⟩, ⟨hkfe, hkfa, hkfn⟩, ⟨hlfe, hlfa, hlfn⟩, ⟨hw0, hwk2, hwk3, hwk4, hwk6⟩, hfs, hvr, hfb, hwp⟩ := id hwo
  obtain ⟨hwb1, hwb2, hwb3, hwb4⟩ := hokW
  have hnn : X wo 6 = ((M 40 29).toNat : Int) ∧ (M 40 29).toNat ≤ 20 := by omega
  have hne9 : fa ≠ fn := zkne hkfa hkfn (by simp)
  have hnw1 : wo ≠ fn := zkne hkw hkfn (by simp)
  have hnw2 : wo ≠ fa := zkn2 hkw hkfa (by simp)
  refine lv_iload_n (pc := 0) hx hb dX8_feastOn_0 rfl (lv_at hl 1 rfl) ?_
  refine zxkVp (pc := 1) (zxrS (As := [.int (iI day)]) hx hb hml hown hG hX hw (c_X8_needDay l hl9 Γ K X Rf day  (by (first | assumption | omega))) cb_X8_needDay wl_X8_77 rfl ⟨Nat.le_of_ble_eq_true rfl, Nat.le_of_ble_eq_true rfl⟩ hl.1 rfl (Nat.le_of_ble_eq_true rfl) dX8_feastOn_1 ⟨(by show 0 + 1 ≤ 1; omega), (by show 0 + 6 ≤ 6; omega)⟩) hw (fun E9 ce9 q9 H9 locs9 hxp9 hw9 hce9 hcv9 hcl9 => zxout (pc := 1) ht hlocks hw9 hce9 hcv9 hcl9 (by (obtain ⟨rfl, hq9⟩ := hxp9; (try dsimp only); first | exact ⟨rfl, (by (unfold cdDay; (repeat' split) <;> omega))⟩ | exact Or.inl ⟨rfl, (by (unfold cdDay; (repeat' split) <;> omega))⟩ | exact Or.inr ⟨rfl, (by (unfold cdDay; (repeat' split) <;> omega))⟩ | exact Or.inr (Or.inl ⟨rfl, (by (unfold cdDay; (repeat' split) <;> omega))⟩))) (by show 0 + 1 ≤ 1; omega) (by show 0 + 6 ≤ 6; omega)) (fun H locs hp1 hw => ?_)
  refine lv_aload_n (pc := 4) hx hb dX8_feastOn_4 rfl (lv_at hl 0 rfl) ?_
  refine zgetR (pc := 5) hx hb hG hown hw hk (T := TX8) rfl 7 (by decide) rfl wf_X8_49 rfl hr7 dX8_feastOn_5 ?_
  refine lv_iload_n (pc := 8) hx hb dX8_feastOn_8 rfl (lv_at hl 1 rfl) ?_
  refine lv_iload_n (pc := 9) hx hb dX8_feastOn_9 rfl (lv_at hl 1 rfl) ?_
  refine zkVx (pc := 10) (zrV (As := [.int (iI day), .int (iI day)]) hx hb hml hown hG hw (c_X7_findFeasts l Γ K X Rf wo day day fa fn fe (feaM M) (fepM M) ((M 40 29).toNat) (by (first | assumption | omega)) (by (first | assumption | omega)) (by (first | assumption | omega)) (by (first | assumption | omega)) (by (first | assumption | omega)) (by (first | assumption | omega)) (by (first | assumption | omega)) (by (first | assumption | omega)) (by (first | assumption | omega)) (by (first | assumption | omega)) (by (first | assumption | omega)) (by (first | assumption | omega))) (T := TX7) hkw rfl cb_X7_findFeasts wl_X8_316 rfl ⟨Nat.le_of_ble_eq_true rfl, Nat.le_of_ble_eq_true rfl⟩ hl.1 rfl (Nat.le_of_ble_eq_true rfl) dX8_feastOn_10 ⟨(by show 0 + 1 + 0 ≤ 1; omega), (by show 0 + 6 + 0 ≤ 6; omega)⟩) hw (fun X10 H locs hp10 hw => ?_)
  obtain ⟨hfZ, ⟨hvZ, hbZ⟩, hoZ⟩ := hp10
  have hwZ : X10 wo = X wo := hoZ wo hnw2 hnw1
  have hwZ2 : X10 wo 2 = M 40 26 := by rw [hwZ]; exact hwk2
  rw [hwk2] at hfZ
  refine lv_aload_n (pc := 13) hx hb dX8_feastOn_13 rfl (lv_at hl 0 rfl) ?_
  refine zgetR (pc := 14) hx hb hG hown hw hk (T := TX8) rfl 7 (by decide) rfl wf_X8_49 rfl hr7 dX8_feastOn_14 ?_
  refine lv_iload_n (pc := 17) hx hb dX8_feastOn_17 rfl (lv_at hl 1 rfl) ?_
  refine zkIp (pc := 18) (zrV (As := [.int (iI day)]) hx hb hml hown hG hw (c_X7_feastFound l Γ K X10 Rf wo day fa fn (by (first | assumption | omega)) (by (first | assumption | omega)) (by (first | assumption | omega)) (by (first | assumption | omega)) (by (first | assumption | omega)) (by (first | assumption | omega)) (by (first | assumption | omega))) (T := TX7) hkw rfl cb_X7_feastFound wl_X8_319 rfl ⟨Nat.le_of_ble_eq_true rfl, Nat.le_of_ble_eq_true rfl⟩ hl.1 rfl (Nat.le_of_ble_eq_true rfl) dX8_feastOn_18 ⟨(by show 0 + 1 + 0 ≤ 1; omega), (by show 0 + 6 + 0 ≤ 6; omega)⟩) hw (fun r18 H locs hp18 hw => ?_)
  subst hp18
  exact vx_ret (zretI (pc := 21) hx hb hlocks hr hw (by show 0 + 1 ≤ 1; omega) (by show 0 + 6 ≤ 6; omega) dX8_feastOn_21 (by exact ⟨⟨by exact hfZ day (by omega) (by omega) (by omega), by (unfold cdDay; (repeat' split) <;> omega)⟩, hC.work hr7 hw7 hrf hoZ hvZ hbZ⟩))
set_option maxHeartbeats 4000000 in
set_option maxRecDepth 100000 in
theorem c_X8_isWorking (l : Launch) (hl9 : l.stackTraces = false) (Γ : zG) (K : zK) (X : zX) (Rf : zR) (x : Nat) (day : Int) (ρ : zL) (M : zM) (hC : repC ρ K X Rf x M) (hM : okM M) (h1 : fit day) : Cx l yX8_isWorking cX8_isWorking 2 (some .boolean) 7 1 6 Γ [.ref x, .int (iI day)] K X Rf (pI (fun (r : Int) (K' : zK) (X' : zX) (R' : zR) => (r = bI (wkdM M day) ∧ cdDay day = 0) ∧ ∃ ρ', repC ρ' K' X' R' x (M) ∧ frC ρ K X Rf ρ' K' X' R')) (fun E : String => E = "java/lang/IndexOutOfBoundsException" ∧ cdDay day = 1) := by
  refine Cx.of (by decide +kernel) (Nat.le_of_ble_eq_true rfl) ?_
  intro p e s m below meth c ls hx hb hr hml hown hG hlocks hname ht hX hw hl
  have hl : lv_has ls 2 [(0, .ref x), (1, .int (iI day))] := hl
  obtain ⟨⟨hk, hlx⟩, pr, pl, sr, dr, na, wo, ⟨hr0, hr2, hr4, hr6, hr7, hrd⟩, ⟨hkpr, hkpl, hksr, hkdr, hkna⟩, ⟨hlpr, hlpl, hlsr, hldr, hlna⟩, ⟨hx1, hx3, hx5⟩, hpt, hpl, hse, hwo⟩ := id hC
  obtain ⟨⟨hb1, hb2, hb3, hb4⟩, hokP, hokL, hokS, hokW, hokF⟩ := id hM
  obtain ⟨⟨hkw, hlw⟩, fe, fa, fn, p09, ⟨hw1, hw5, hw7, hrf⟩, ⟨hkfe, hkfa, hkfn⟩, ⟨hlfe, hlfa, hlfn⟩, ⟨hw0, hwk2, hwk3, hwk4, hwk6⟩, hfs, hvr, hfb, hwp⟩ := id hwo
  obtain ⟨hwb1, hwb2, hwb3, hwb4⟩ := hokW
  have hnn : X wo 6 = ((M 40 29).toNat : Int) ∧ (M 40 29).toNat ≤ 20 := by omega
  have hne9 : fa ≠ fn := zkne hkfa hkfn (by simp)
  have hnw1 : wo ≠ fn := zkne hkw hkfn (by simp)
  have hnw2 : wo ≠ fa := zkn2 hkw hkfa (by simp)
  refine lv_iload_n (pc := 0) hx hb dX8_isWorking_0 rfl (lv_at hl 1 rfl) ?_
  refine zxkVp (pc := 1) (zxrS (As := [.int (iI day)]) hx hb hml hown hG hX hw (c_X8_needDay l hl9 Γ K X Rf day  (by (first | assumption | omega))) cb_X8_needDay wl_X8_77 rfl ⟨Nat.le_of_ble_eq_true rfl, Nat.le_of_ble_eq_true rfl⟩ hl.1 rfl (Nat.le_of_ble_eq_true rfl) dX8_isWorking_1 ⟨(by show 0 + 1 ≤ 1; omega), (by show 0 + 6 ≤ 6; omega)⟩) hw (fun E9 ce9 q9 H9 locs9 hxp9 hw9 hce9 hcv9 hcl9 => zxout (pc := 1) ht hlocks hw9 hce9 hcv9 hcl9 (by (obtain ⟨rfl, hq9⟩ := hxp9; (try dsimp only); first | exact ⟨rfl, (by (unfold cdDay; (repeat' split) <;> omega))⟩ | exact Or.inl ⟨rfl, (by (unfold cdDay; (repeat' split) <;> omega))⟩ | exact Or.inr ⟨rfl, (by (unfold cdDay; (repeat' split) <;> omega))⟩ | exact Or.inr (Or.inl ⟨rfl, (by (unfold cdDay; (repeat' split) <;> omega))⟩))) (by show 0 + 1 ≤ 1; omega) (by show 0 + 6 ≤ 6; omega)) (fun H locs hp1 hw => ?_)
  refine lv_aload_n (pc := 4) hx hb dX8_isWorking_4 rfl (lv_at hl 0 rfl) ?_
  refine zgetR (pc := 5) hx hb hG hown hw hk (T := TX8) rfl 7 (by decide) rfl wf_X8_49 rfl hr7 dX8_isWorking_5 ?_
  refine lv_iload_n (pc := 8) hx hb dX8_isWorking_8 rfl (lv_at hl 1 rfl) ?_
  refine lv_iload_n (pc := 9) hx hb dX8_isWorking_9 rfl (lv_at hl 1 rfl) ?_
  refine zkVx (pc := 10) (zrV (As := [.int (iI day), .int (iI day)]) hx hb hml hown hG hw (c_X7_findFeasts l Γ K X Rf wo day day fa fn fe (feaM M) (fepM M) ((M 40 29).toNat) (by (first | assumption | omega)) (by (first | assumption | omega)) (by (first | assumption | omega)) (by (first | assumption | omega)) (by (first | assumption | omega)) (by (first | assumption | omega)) (by (first | assumption | omega)) (by (first | assumption | omega)) (by (first | assumption | omega)) (by (first | assumption | omega)) (by (first | assumption | omega)) (by (first | assumption | omega))) (T := TX7) hkw rfl cb_X7_findFeasts wl_X8_316 rfl ⟨Nat.le_of_ble_eq_true rfl, Nat.le_of_ble_eq_true rfl⟩ hl.1 rfl (Nat.le_of_ble_eq_true rfl) dX8_isWorking_10 ⟨(by show 0 + 1 + 0 ≤ 1; omega), (by show 0 + 6 + 0 ≤ 6; omega)⟩) hw (fun X10 H locs hp10 hw => ?_)
  obtain ⟨hfZ, ⟨hvZ, hbZ⟩, hoZ⟩ := hp10
  have hwZ : X10 wo = X wo := hoZ wo hnw2 hnw1
  have hwZ2 : X10 wo 2 = M 40 26 := by rw [hwZ]; exact hwk2
  rw [hwk2] at hfZ
  refine lv_aload_n (pc := 13) hx hb dX8_isWorking_13 rfl (lv_at hl 0 rfl) ?_
  refine zgetR (pc := 14) hx hb hG hown hw hk (T := TX8) rfl 7 (by decide) rfl wf_X8_49 rfl hr7 dX8_isWorking_14 ?_
  refine lv_iload_n (pc := 17) hx hb dX8_isWorking_17 rfl (lv_at hl 1 rfl) ?_
  refine zkIp (pc := 18) (zrV (As := [.int (iI day)]) hx hb hml hown hG hw (c_X7_worksOn l Γ K X10 Rf wo day fa fn (by (first | assumption | omega)) (by omega) (by (first | assumption | omega)) (by (first | assumption | omega)) (by (first | assumption | omega)) (by (first | assumption | omega)) (by (first | assumption | omega)) (by (first | assumption | omega)) (by (first | assumption | omega))) (T := TX7) hkw rfl cb_X7_worksOn wl_X8_322 rfl ⟨Nat.le_of_ble_eq_true rfl, Nat.le_of_ble_eq_true rfl⟩ hl.1 rfl (Nat.le_of_ble_eq_true rfl) dX8_isWorking_18 ⟨(by show 0 + 1 + 0 ≤ 1; omega), (by show 0 + 6 + 0 ≤ 6; omega)⟩) hw (fun r18 H locs hp18 hw => ?_)
  subst hp18
  have hp18f0 := bI_rng (wkF (X10 wo 2) (rdv X10 fa fn 1701) day)
  exact vx_ret (zretZ (pc := 21) hx hb hlocks hr (by omega) hw (by show 0 + 1 ≤ 1; omega) (by show 0 + 6 ≤ 6; omega) dX8_isWorking_21 (by exact ⟨⟨by rw [hwZ2]; unfold wkdM; rw [wkF_congr (hfZ day (by omega) (by omega) (by omega))]; rfl, by (unfold cdDay; (repeat' split) <;> omega)⟩, hC.work hr7 hw7 hrf hoZ hvZ hbZ⟩))
set_option maxHeartbeats 4000000 in
set_option maxRecDepth 100000 in
theorem c_X8_workingDays (l : Launch) (hl9 : l.stackTraces = false) (Γ : zG) (K : zK) (X : zX) (Rf : zR) (x : Nat) (fr : Int) (days : Int) (ρ : zL) (M : zM) (hC : repC ρ K X Rf x M) (hM : okM M) (h1 : fit fr ∧ fit days) : Cx l yX8_workingDays cX8_workingDays 3 (some .int) 7 2 12 Γ [.ref x, .int (iI fr), .int (iI days)] K X Rf (pI (fun (r : Int) (K' : zK) (X' : zX) (R' : zR) => (r = cP (wkdM M) (fr + days - fr).toNat fr ∧ cdWds fr days = 0) ∧ ∃ ρ', repC ρ' K' X' R' x (M) ∧ frC ρ K X Rf ρ' K' X' R')) (fun E : String => (E = "java/lang/IndexOutOfBoundsException" ∧ cdWds fr days = 1) ∨ (E = "java/lang/IllegalArgumentException" ∧ cdWds fr days = 2)) := by
  refine Cx.of (by decide +kernel) (Nat.le_of_ble_eq_true rfl) ?_
  intro p e s m below meth c ls hx hb hr hml hown hG hlocks hname ht hX hw hl
  have hl : lv_has ls 3 [(0, .ref x), (1, .int (iI fr)), (2, .int (iI days))] := hl
  obtain ⟨⟨hk, hlx⟩, pr, pl, sr, dr, na, wo, ⟨hr0, hr2, hr4, hr6, hr7, hrd⟩, ⟨hkpr, hkpl, hksr, hkdr, hkna⟩, ⟨hlpr, hlpl, hlsr, hldr, hlna⟩, ⟨hx1, hx3, hx5⟩, hpt, hpl, hse, hwo⟩ := id hC
  obtain ⟨⟨hb1, hb2, hb3, hb4⟩, hokP, hokL, hokS, hokW, hokF⟩ := id hM
  obtain ⟨⟨hkw, hlw⟩, fe, fa, fn, p09, ⟨hw1, hw5, hw7, hrf⟩, ⟨hkfe, hkfa, hkfn⟩, ⟨hlfe, hlfa, hlfn⟩, ⟨hw0, hwk2, hwk3, hwk4, hwk6⟩, hfs, hvr, hfb, hwp⟩ := id hwo
  obtain ⟨hwb1, hwb2, hwb3, hwb4⟩ := hokW
  have hnn : X wo 6 = ((M 40 29).toNat : Int) ∧ (M 40 29).toNat ≤ 20 := by omega
  have hne9 : fa ≠ fn := zkne hkfa hkfn (by simp)
  have hnw1 : wo ≠ fn := zkne hkw hkfn (by simp)
  have hnw2 : wo ≠ fa := zkn2 hkw hkfa (by simp)
  refine lv_iload_n (pc := 0) hx hb dX8_workingDays_0 rfl (lv_at hl 1 rfl) ?_
  refine zxkVp (pc := 1) (zxrS (As := [.int (iI fr)]) hx hb hml hown hG hX hw (c_X8_needDay l hl9 Γ K X Rf fr  (by (first | assumption | omega))) cb_X8_needDay wl_X8_77 rfl ⟨Nat.le_of_ble_eq_true rfl, Nat.le_of_ble_eq_true rfl⟩ hl.1 rfl (Nat.le_of_ble_eq_true rfl) dX8_workingDays_1 ⟨(by show 0 + 1 ≤ 2; omega), (by show 0 + 6 ≤ 12; omega)⟩) hw (fun E9 ce9 q9 H9 locs9 hxp9 hw9 hce9 hcv9 hcl9 => zxout (pc := 1) ht hlocks hw9 hce9 hcv9 hcl9 (by (obtain ⟨rfl, hq9⟩ := hxp9; (try dsimp only); first | exact ⟨rfl, (by (unfold cdWds; (repeat' split) <;> omega))⟩ | exact Or.inl ⟨rfl, (by (unfold cdWds; (repeat' split) <;> omega))⟩ | exact Or.inr ⟨rfl, (by (unfold cdWds; (repeat' split) <;> omega))⟩ | exact Or.inr (Or.inl ⟨rfl, (by (unfold cdWds; (repeat' split) <;> omega))⟩))) (by show 0 + 1 ≤ 2; omega) (by show 0 + 6 ≤ 12; omega)) (fun H locs hp1 hw => ?_)
  refine lv_iload_n (pc := 4) hx hb dX8_workingDays_4 rfl (lv_at hl 2 rfl) ?_
  refine zif_lt (pc := 5) hx hb 24 (by omega) dX8_workingDays_5 (by decide) (fun c5 => ?_) (fun c5 => ?_)
  · skip
    exact zthrowW (pc := 24) hx hb hl9 hown hG hX hw wn_X8_56 wi_javalangIllegalArgumentException (List.mem_of_getElem? (i := 27) rfl) zthr_60 (hl.1.trans hml.symm) ht dX8_workingDays_24 dX8_workingDays_27 dX8_workingDays_28 dX8_workingDays_31 dX8_workingDays_34 (by show 6 ≤ _; exact Nat.le_of_ble_eq_true rfl) (Nat.le_of_ble_eq_true rfl) (by show 0 + 1 + 1 ≤ 2; omega) (by show 0 + 6 + 6 ≤ 12; omega) hlocks (by (try dsimp only); first | exact ⟨rfl, (by (unfold cdWds; (repeat' split) <;> omega))⟩ | exact Or.inl ⟨rfl, (by (unfold cdWds; (repeat' split) <;> omega))⟩ | exact Or.inr ⟨rfl, (by (unfold cdWds; (repeat' split) <;> omega))⟩ | exact Or.inr (Or.inl ⟨rfl, (by (unfold cdWds; (repeat' split) <;> omega))⟩) | exact Or.inr (Or.inr ⟨rfl, (by (unfold cdWds; (repeat' split) <;> omega))⟩)) (by show 0 + 1 + 1 ≤ 2; omega) (by show 0 + 6 + 6 ≤ 12; omega)
  · skip
    refine lv_iload_n (pc := 8) hx hb dX8_workingDays_8 rfl (lv_at hl 2 rfl) ?_
    refine zsipush (pc := 9) (n := 400) hx hb dX8_workingDays_9 rfl ?_
    refine zicmp_gt (pc := 12) hx hb 24 (by omega) (by omega) dX8_workingDays_12 (by decide) (fun c12 => ?_) (fun c12 => ?_)
    · skip
      exact zthrowW (pc := 24) hx hb hl9 hown hG hX hw wn_X8_56 wi_javalangIllegalArgumentException (List.mem_of_getElem? (i := 27) rfl) zthr_60 (hl.1.trans hml.symm) ht dX8_workingDays_24 dX8_workingDays_27 dX8_workingDays_28 dX8_workingDays_31 dX8_workingDays_34 (by show 6 ≤ _; exact Nat.le_of_ble_eq_true rfl) (Nat.le_of_ble_eq_true rfl) (by show 0 + 1 + 1 ≤ 2; omega) (by show 0 + 6 + 6 ≤ 12; omega) hlocks (by (try dsimp only); first | exact ⟨rfl, (by (unfold cdWds; (repeat' split) <;> omega))⟩ | exact Or.inl ⟨rfl, (by (unfold cdWds; (repeat' split) <;> omega))⟩ | exact Or.inr ⟨rfl, (by (unfold cdWds; (repeat' split) <;> omega))⟩ | exact Or.inr (Or.inl ⟨rfl, (by (unfold cdWds; (repeat' split) <;> omega))⟩) | exact Or.inr (Or.inr ⟨rfl, (by (unfold cdWds; (repeat' split) <;> omega))⟩)) (by show 0 + 1 + 1 ≤ 2; omega) (by show 0 + 6 + 6 ≤ 12; omega)
    · skip
      refine lv_iload_n (pc := 15) hx hb dX8_workingDays_15 rfl (lv_at hl 1 rfl) ?_
      refine lv_iload_n (pc := 16) hx hb dX8_workingDays_16 rfl (lv_at hl 2 rfl) ?_
      refine zadd (pc := 17) hx hb dX8_workingDays_17 ?_
      refine zldcw (pc := 18) (n := 73049) hx hb hown hG wk_X8_325 dX8_workingDays_18 ?_
      refine zicmp_le (pc := 21) hx hb 35 (by omega) (by omega) dX8_workingDays_21 (by decide) (fun c21 => ?_) (fun c21 => ?_)
      · skip
        refine lv_aload_n (pc := 35) hx hb dX8_workingDays_35 rfl (lv_at hl 0 rfl) ?_
        refine zgetR (pc := 36) hx hb hG hown hw hk (T := TX8) rfl 7 (by decide) rfl wf_X8_49 rfl hr7 dX8_workingDays_36 ?_
        refine lv_iload_n (pc := 39) hx hb dX8_workingDays_39 rfl (lv_at hl 1 rfl) ?_
        refine lv_iload_n (pc := 40) hx hb dX8_workingDays_40 rfl (lv_at hl 2 rfl) ?_
        refine zkIx (pc := 41) (zrV (As := [.int (iI fr), .int (iI days)]) hx hb hml hown hG hw (c_X7_countDays l Γ K X Rf wo fr days fa fn fe (feaM M) (fepM M) ((M 40 29).toNat) (by (first | assumption | omega)) (by (first | assumption | omega)) (by (first | assumption | omega)) (by (first | assumption | omega)) (by (first | assumption | omega)) (by (first | assumption | omega)) (by (first | assumption | omega)) (by (first | assumption | omega)) (by (first | assumption | omega)) (by (first | assumption | omega)) (by (first | assumption | omega)) (by (first | assumption | omega))) (T := TX7) hkw rfl cb_X7_countDays wl_X8_328 rfl ⟨Nat.le_of_ble_eq_true rfl, Nat.le_of_ble_eq_true rfl⟩ hl.1 rfl (Nat.le_of_ble_eq_true rfl) dX8_workingDays_41 ⟨(by show 0 + 1 + 0 ≤ 2; omega), (by show 0 + 6 + 0 ≤ 12; omega)⟩) hw (fun r41 X41 H locs hp41 hw => ?_)
        obtain ⟨hrZ, ⟨hvZ, hbZ⟩, hoZ⟩ := hp41
        rw [hwk2] at hrZ
        exact vx_ret (zretI (pc := 44) hx hb hlocks hr hw (by show 0 + 1 ≤ 2; omega) (by show 0 + 6 ≤ 12; omega) dX8_workingDays_44 (by exact ⟨⟨by exact hrZ, by (unfold cdWds; (repeat' split) <;> omega)⟩, hC.work hr7 hw7 hrf hoZ hvZ hbZ⟩))
      · skip
        exact zthrowW (pc := 24) hx hb hl9 hown hG hX hw wn_X8_56 wi_javalangIllegalArgumentException (List.mem_of_getElem? (i := 27) rfl) zthr_60 (hl.1.trans hml.symm) ht dX8_workingDays_24 dX8_workingDays_27 dX8_workingDays_28 dX8_workingDays_31 dX8_workingDays_34 (by show 6 ≤ _; exact Nat.le_of_ble_eq_true rfl) (Nat.le_of_ble_eq_true rfl) (by show 0 + 1 + 1 ≤ 2; omega) (by show 0 + 6 + 6 ≤ 12; omega) hlocks (by (try dsimp only); first | exact ⟨rfl, (by (unfold cdWds; (repeat' split) <;> omega))⟩ | exact Or.inl ⟨rfl, (by (unfold cdWds; (repeat' split) <;> omega))⟩ | exact Or.inr ⟨rfl, (by (unfold cdWds; (repeat' split) <;> omega))⟩ | exact Or.inr (Or.inl ⟨rfl, (by (unfold cdWds; (repeat' split) <;> omega))⟩) | exact Or.inr (Or.inr ⟨rfl, (by (unfold cdWds; (repeat' split) <;> omega))⟩)) (by show 0 + 1 + 1 ≤ 2; omega) (by show 0 + 6 + 6 ≤ 12; omega)
set_option maxHeartbeats 4000000 in
set_option maxRecDepth 100000 in
theorem c_X8_plusWorking (l : Launch) (hl9 : l.stackTraces = false) (Γ : zG) (K : zK) (X : zX) (Rf : zR) (x : Nat) (day : Int) (days : Int) (ρ : zL) (M : zM) (hC : repC ρ K X Rf x M) (hM : okM M) (h1 : fit day ∧ fit days) : Cx l yX8_plusWorking cX8_plusWorking 3 (some .int) 7 2 12 Γ [.ref x, .int (iI day), .int (iI days)] K X Rf (pI (fun (r : Int) (K' : zK) (X' : zX) (R' : zR) => (r = bhF (wkdM M) day days ∧ cdPwk day days = 0) ∧ ∃ ρ', repC ρ' K' X' R' x (M) ∧ frC ρ K X Rf ρ' K' X' R')) (fun E : String => (E = "java/lang/IndexOutOfBoundsException" ∧ cdPwk day days = 1) ∨ (E = "java/lang/IllegalArgumentException" ∧ cdPwk day days = 2)) := by
  refine Cx.of (by decide +kernel) (Nat.le_of_ble_eq_true rfl) ?_
  intro p e s m below meth c ls hx hb hr hml hown hG hlocks hname ht hX hw hl
  have hl : lv_has ls 3 [(0, .ref x), (1, .int (iI day)), (2, .int (iI days))] := hl
  obtain ⟨⟨hk, hlx⟩, pr, pl, sr, dr, na, wo, ⟨hr0, hr2, hr4, hr6, hr7, hrd⟩, ⟨hkpr, hkpl, hksr, hkdr, hkna⟩, ⟨hlpr, hlpl, hlsr, hldr, hlna⟩, ⟨hx1, hx3, hx5⟩, hpt, hpl, hse, hwo⟩ := id hC
  obtain ⟨⟨hb1, hb2, hb3, hb4⟩, hokP, hokL, hokS, hokW, hokF⟩ := id hM
  obtain ⟨⟨hkw, hlw⟩, fe, fa, fn, p09, ⟨hw1, hw5, hw7, hrf⟩, ⟨hkfe, hkfa, hkfn⟩, ⟨hlfe, hlfa, hlfn⟩, ⟨hw0, hwk2, hwk3, hwk4, hwk6⟩, hfs, hvr, hfb, hwp⟩ := id hwo
  obtain ⟨hwb1, hwb2, hwb3, hwb4⟩ := hokW
  have hnn : X wo 6 = ((M 40 29).toNat : Int) ∧ (M 40 29).toNat ≤ 20 := by omega
  have hne9 : fa ≠ fn := zkne hkfa hkfn (by simp)
  have hnw1 : wo ≠ fn := zkne hkw hkfn (by simp)
  have hnw2 : wo ≠ fa := zkn2 hkw hkfa (by simp)
  refine lv_iload_n (pc := 0) hx hb dX8_plusWorking_0 rfl (lv_at hl 1 rfl) ?_
  refine zxkVp (pc := 1) (zxrS (As := [.int (iI day)]) hx hb hml hown hG hX hw (c_X8_needDay l hl9 Γ K X Rf day  (by (first | assumption | omega))) cb_X8_needDay wl_X8_77 rfl ⟨Nat.le_of_ble_eq_true rfl, Nat.le_of_ble_eq_true rfl⟩ hl.1 rfl (Nat.le_of_ble_eq_true rfl) dX8_plusWorking_1 ⟨(by show 0 + 1 ≤ 2; omega), (by show 0 + 6 ≤ 12; omega)⟩) hw (fun E9 ce9 q9 H9 locs9 hxp9 hw9 hce9 hcv9 hcl9 => zxout (pc := 1) ht hlocks hw9 hce9 hcv9 hcl9 (by (obtain ⟨rfl, hq9⟩ := hxp9; (try dsimp only); first | exact ⟨rfl, (by (unfold cdPwk; (repeat' split) <;> omega))⟩ | exact Or.inl ⟨rfl, (by (unfold cdPwk; (repeat' split) <;> omega))⟩ | exact Or.inr ⟨rfl, (by (unfold cdPwk; (repeat' split) <;> omega))⟩ | exact Or.inr (Or.inl ⟨rfl, (by (unfold cdPwk; (repeat' split) <;> omega))⟩))) (by show 0 + 1 ≤ 2; omega) (by show 0 + 6 ≤ 12; omega)) (fun H locs hp1 hw => ?_)
  refine lv_iload_n (pc := 4) hx hb dX8_plusWorking_4 rfl (lv_at hl 2 rfl) ?_
  refine zsipush (pc := 5) (n := (-200)) hx hb dX8_plusWorking_5 rfl ?_
  refine zicmp_lt (pc := 8) hx hb 18 (by omega) (by omega) dX8_plusWorking_8 (by decide) (fun c8 => ?_) (fun c8 => ?_)
  · skip
    exact zthrowW (pc := 18) hx hb hl9 hown hG hX hw wn_X8_56 wi_javalangIllegalArgumentException (List.mem_of_getElem? (i := 26) rfl) zthr_60 (hl.1.trans hml.symm) ht dX8_plusWorking_18 dX8_plusWorking_21 dX8_plusWorking_22 dX8_plusWorking_25 dX8_plusWorking_28 (by show 6 ≤ _; exact Nat.le_of_ble_eq_true rfl) (Nat.le_of_ble_eq_true rfl) (by show 0 + 1 + 1 ≤ 2; omega) (by show 0 + 6 + 6 ≤ 12; omega) hlocks (by (try dsimp only); first | exact ⟨rfl, (by (unfold cdPwk; (repeat' split) <;> omega))⟩ | exact Or.inl ⟨rfl, (by (unfold cdPwk; (repeat' split) <;> omega))⟩ | exact Or.inr ⟨rfl, (by (unfold cdPwk; (repeat' split) <;> omega))⟩ | exact Or.inr (Or.inl ⟨rfl, (by (unfold cdPwk; (repeat' split) <;> omega))⟩) | exact Or.inr (Or.inr ⟨rfl, (by (unfold cdPwk; (repeat' split) <;> omega))⟩)) (by show 0 + 1 + 1 ≤ 2; omega) (by show 0 + 6 + 6 ≤ 12; omega)
  · skip
    refine lv_iload_n (pc := 11) hx hb dX8_plusWorking_11 rfl (lv_at hl 2 rfl) ?_
    refine zsipush (pc := 12) (n := 200) hx hb dX8_plusWorking_12 rfl ?_
    refine zicmp_le (pc := 15) hx hb 29 (by omega) (by omega) dX8_plusWorking_15 (by decide) (fun c15 => ?_) (fun c15 => ?_)
    · skip
      refine lv_aload_n (pc := 29) hx hb dX8_plusWorking_29 rfl (lv_at hl 0 rfl) ?_
      refine zgetR (pc := 30) hx hb hG hown hw hk (T := TX8) rfl 7 (by decide) rfl wf_X8_49 rfl hr7 dX8_plusWorking_30 ?_
      refine lv_iload_n (pc := 33) hx hb dX8_plusWorking_33 rfl (lv_at hl 1 rfl) ?_
      refine lv_iload_n (pc := 34) hx hb dX8_plusWorking_34 rfl (lv_at hl 2 rfl) ?_
      refine zkIx (pc := 35) (zrV (As := [.int (iI day), .int (iI days)]) hx hb hml hown hG hw (c_X7_dayBehind l Γ K X Rf wo day days fa fn fe (feaM M) (fepM M) ((M 40 29).toNat) (by (first | assumption | omega)) (by (first | assumption | omega)) (by (first | assumption | omega)) (by (first | assumption | omega)) (by (first | assumption | omega)) (by (first | assumption | omega)) (by (first | assumption | omega)) (by (first | assumption | omega)) (by (first | assumption | omega)) (by (first | assumption | omega)) (by (first | assumption | omega)) (by (first | assumption | omega)) (by (first | assumption | omega))) (T := TX7) hkw rfl cb_X7_dayBehind wl_X8_333 rfl ⟨Nat.le_of_ble_eq_true rfl, Nat.le_of_ble_eq_true rfl⟩ hl.1 rfl (Nat.le_of_ble_eq_true rfl) dX8_plusWorking_35 ⟨(by show 0 + 1 + 0 ≤ 2; omega), (by show 0 + 6 + 0 ≤ 12; omega)⟩) hw (fun r35 X35 H locs hp35 hw => ?_)
      obtain ⟨hrZ, ⟨hvZ, hbZ⟩, hoZ⟩ := hp35
      rw [hwk2] at hrZ
      exact vx_ret (zretI (pc := 38) hx hb hlocks hr hw (by show 0 + 1 ≤ 2; omega) (by show 0 + 6 ≤ 12; omega) dX8_plusWorking_38 (by exact ⟨⟨by exact hrZ, by (unfold cdPwk; (repeat' split) <;> omega)⟩, hC.work hr7 hw7 hrf hoZ hvZ hbZ⟩))
    · skip
      exact zthrowW (pc := 18) hx hb hl9 hown hG hX hw wn_X8_56 wi_javalangIllegalArgumentException (List.mem_of_getElem? (i := 26) rfl) zthr_60 (hl.1.trans hml.symm) ht dX8_plusWorking_18 dX8_plusWorking_21 dX8_plusWorking_22 dX8_plusWorking_25 dX8_plusWorking_28 (by show 6 ≤ _; exact Nat.le_of_ble_eq_true rfl) (Nat.le_of_ble_eq_true rfl) (by show 0 + 1 + 1 ≤ 2; omega) (by show 0 + 6 + 6 ≤ 12; omega) hlocks (by (try dsimp only); first | exact ⟨rfl, (by (unfold cdPwk; (repeat' split) <;> omega))⟩ | exact Or.inl ⟨rfl, (by (unfold cdPwk; (repeat' split) <;> omega))⟩ | exact Or.inr ⟨rfl, (by (unfold cdPwk; (repeat' split) <;> omega))⟩ | exact Or.inr (Or.inl ⟨rfl, (by (unfold cdPwk; (repeat' split) <;> omega))⟩) | exact Or.inr (Or.inr ⟨rfl, (by (unfold cdPwk; (repeat' split) <;> omega))⟩)) (by show 0 + 1 + 1 ≤ 2; omega) (by show 0 + 6 + 6 ≤ 12; omega)
