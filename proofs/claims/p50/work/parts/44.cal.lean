set_option maxHeartbeats 4000000 in
set_option maxRecDepth 100000 in
theorem c_X8_tells (l : Launch) (hl9 : l.stackTraces = false) (Γ : zG) (K : zK) (X : zX) (Rf : zR) (x : Nat) (a : Int) (day : Int) (ρ : zL) (M : zM) (hC : repC ρ K X Rf x M) (hM : okM M) (h1 : fit a ∧ fit day) : Cx l yX8_tells cX8_tells 4 (some .boolean) 7 2 12 Γ [.ref x, .int (iI a), .int (iI day)] K X Rf (pI (zp0 K X Rf (fun r : Int => r = (if told (patM M a.toNat) (mi day) = day then 1 else 0) ∧ cdPatD M a day = 0))) (fun E : String => E = "java/lang/IndexOutOfBoundsException" ∧ cdPatD M a day = 1) := by
  refine Cx.of (by decide +kernel) (Nat.le_of_ble_eq_true rfl) ?_
  intro p e s m below meth c ls hx hb hr hml hown hG hlocks hname ht hX hw hl
  have hl : lv_has ls 4 [(0, .ref x), (1, .int (iI a)), (2, .int (iI day))] := hl
  obtain ⟨⟨hk, hlx⟩, pr, pl, sr, dr, na, wo, ⟨hr0, hr2, hr4, hr6, hr7, hrd⟩, ⟨hkpr, hkpl, hksr, hkdr, hkna⟩, ⟨hlpr, hlpl, hlsr, hldr, hlna⟩, ⟨hx1, hx3, hx5⟩, hpt, hpl, hse, hwo⟩ := id hC
  obtain ⟨⟨hb1, hb2, hb3, hb4⟩, hokP, hokL, hokS, hokW, hokF⟩ := id hM
  refine lv_aload_n (pc := 0) hx hb dX8_tells_0 rfl (lv_at hl 0 rfl) ?_
  refine lv_iload_n (pc := 1) hx hb dX8_tells_1 rfl (lv_at hl 1 rfl) ?_
  refine zxkRp (pc := 2) (zxrV (As := [.int (iI a)]) hx hb hml hown hG hX hw (c_X8_needPattern l hl9 Γ K X Rf x a pr M (by (first | assumption | omega)) (by (first | assumption | omega)) (by (first | assumption | omega)) (by (first | assumption | omega)) (by (first | assumption | omega)) (by (first | assumption | omega))) (T := TX8) hk rfl cb_X8_needPattern wl_X8_125 rfl ⟨Nat.le_of_ble_eq_true rfl, Nat.le_of_ble_eq_true rfl⟩ hl.1 rfl (Nat.le_of_ble_eq_true rfl) dX8_tells_2 ⟨(by show 0 + 1 ≤ 2; omega), (by show 0 + 6 ≤ 12; omega)⟩) hw (fun E9 ce9 q9 H9 locs9 hxp9 hw9 hce9 hcv9 hcl9 => zxout (pc := 2) ht hlocks hw9 hce9 hcv9 hcl9 (by (obtain ⟨rfl, hq9⟩ := hxp9; (try dsimp only); first | exact ⟨rfl, (by (unfold cdPatD; (repeat' split) <;> omega))⟩ | exact Or.inl ⟨rfl, (by (unfold cdPatD; (repeat' split) <;> omega))⟩ | exact Or.inr ⟨rfl, (by (unfold cdPatD; (repeat' split) <;> omega))⟩ | exact Or.inr (Or.inl ⟨rfl, (by (unfold cdPatD; (repeat' split) <;> omega))⟩))) (by show 0 + 1 ≤ 2; omega) (by show 0 + 6 ≤ 12; omega)) (fun r2 H locs hp2 hw => ?_)
  obtain ⟨⟨hra2, hka2, hsa2⟩, hia2⟩ := hp2
  have hoa2 := okP_same hsa2 (hokP a.toNat (by omega))
  refine lv_astore_n (pc := 5) (lv' := [(3, .ref r2), (0, .ref x), (1, .int (iI a)), (2, .int (iI day))]) hx hb dX8_tells_5 rfl hl (by decide) rfl (fun ls hl => ?_)
  refine lv_iload_n (pc := 6) hx hb dX8_tells_6 rfl (lv_at hl 3 rfl) ?_
  refine zxkVp (pc := 7) (zxrS (As := [.int (iI day)]) hx hb hml hown hG hX hw (c_X8_needDay l hl9 Γ K X Rf day  (by (first | assumption | omega))) cb_X8_needDay wl_X8_77 rfl ⟨Nat.le_of_ble_eq_true rfl, Nat.le_of_ble_eq_true rfl⟩ hl.1 rfl (Nat.le_of_ble_eq_true rfl) dX8_tells_7 ⟨(by show 0 + 1 + 1 ≤ 2; omega), (by show 0 + 6 + 6 ≤ 12; omega)⟩) hw (fun E9 ce9 q9 H9 locs9 hxp9 hw9 hce9 hcv9 hcl9 => zxout (pc := 7) ht hlocks hw9 hce9 hcv9 hcl9 (by (obtain ⟨rfl, hq9⟩ := hxp9; (try dsimp only); first | exact ⟨rfl, (by (unfold cdPatD; (repeat' split) <;> omega))⟩ | exact Or.inl ⟨rfl, (by (unfold cdPatD; (repeat' split) <;> omega))⟩ | exact Or.inr ⟨rfl, (by (unfold cdPatD; (repeat' split) <;> omega))⟩ | exact Or.inr (Or.inl ⟨rfl, (by (unfold cdPatD; (repeat' split) <;> omega))⟩))) (by show 0 + 1 + 1 ≤ 2; omega) (by show 0 + 6 + 6 ≤ 12; omega)) (fun H locs hp7 hw => ?_)
  refine lv_aload_n (pc := 10) hx hb dX8_tells_10 rfl (lv_at hl 0 rfl) ?_
  refine lv_iload_n (pc := 11) hx hb dX8_tells_11 rfl (lv_at hl 3 rfl) ?_
  refine zkIp (pc := 12) (zrS (As := [.int (iI day)]) hx hb hml hown hG hw (c_X1_monthWith l Γ K X Rf day  (by (first | assumption | omega))) cb_X1_monthWith wl_X8_83 rfl ⟨Nat.le_of_ble_eq_true rfl, Nat.le_of_ble_eq_true rfl⟩ hl.1 rfl (Nat.le_of_ble_eq_true rfl) dX8_tells_12 ⟨(by show 0 + 1 + 1 + 0 ≤ 2; omega), (by show 0 + 6 + 6 + 0 ≤ 12; omega)⟩) hw (fun r12 H locs hp12 hw => ?_)
  subst hp12
  have hp12f0 := mi_rng (d := day) (by omega) (by omega)
  refine zkIp (pc := 15) (zrV (As := [.int (iI (mi day))]) hx hb hml hown hG hw (c_X3_toldIn l Γ K X Rf r2 (mi day)  (by (first | assumption | omega)) (by (first | assumption | omega)) (by (first | assumption | omega))) (T := TX3) hka2 rfl cb_X3_toldIn wl_X8_132 rfl ⟨Nat.le_of_ble_eq_true rfl, Nat.le_of_ble_eq_true rfl⟩ hl.1 rfl (Nat.le_of_ble_eq_true rfl) dX8_tells_15 ⟨(by show 0 + 1 + 1 + 0 ≤ 2; omega), (by show 0 + 6 + 6 + 0 ≤ 12; omega)⟩) hw (fun r15 H locs hp15 hw => ?_)
  subst hp15
  have hp15f0 := told_rng (X r2) (mi day)
  refine lv_iload_n (pc := 18) hx hb dX8_tells_18 rfl (lv_at hl 3 rfl) ?_
  refine zicmp_ne (pc := 19) hx hb 26 (by omega) (by omega) dX8_tells_19 (by decide) (fun c19 => ?_) (fun c19 => ?_)
  · skip
    refine ziconst (pc := 26) (n := 0) hx hb dX8_tells_26 ?_
    exact vx_ret (zretZ (pc := 27) hx hb hlocks hr (Or.inl rfl) hw (by show 0 + 1 + 1 ≤ 2; omega) (by show 0 + 6 + 6 ≤ 12; omega) dX8_tells_27 ⟨by (try dsimp only) <;> (exact ⟨by rw [← told_psame hsa2]; first | (rw [if_pos (by omega)]) | (rw [if_neg (by omega)]), by (unfold cdPatD; (repeat' split) <;> omega)⟩), rfl, rfl, rfl⟩)
  · skip
    refine ziconst (pc := 22) (n := 1) hx hb dX8_tells_22 ?_
    refine lv_goto (pc := 23) (tgt := 27) hx hb dX8_tells_23 (by decide) ?_
    exact vx_ret (zretZ (pc := 27) hx hb hlocks hr (Or.inr rfl) hw (by show 0 + 1 + 1 ≤ 2; omega) (by show 0 + 6 + 6 ≤ 12; omega) dX8_tells_27 ⟨by (try dsimp only) <;> (exact ⟨by rw [← told_psame hsa2]; first | (rw [if_pos (by omega)]) | (rw [if_neg (by omega)]), by (unfold cdPatD; (repeat' split) <;> omega)⟩), rfl, rfl, rfl⟩)
set_option maxHeartbeats 4000000 in
set_option maxRecDepth 100000 in
theorem c_X8_nextTold (l : Launch) (hl9 : l.stackTraces = false) (Γ : zG) (K : zK) (X : zX) (Rf : zR) (x : Nat) (a : Int) (day : Int) (ρ : zL) (M : zM) (hC : repC ρ K X Rf x M) (hM : okM M) (h1 : fit a ∧ fit day) : Cx l yX8_nextTold cX8_nextTold 4 (some .int) 7 2 12 Γ [.ref x, .int (iI a), .int (iI day)] K X Rf (pI (zp0 K X Rf (fun r : Int => r = nextT (patM M a.toNat) day ∧ cdPatD M a day = 0))) (fun E : String => E = "java/lang/IndexOutOfBoundsException" ∧ cdPatD M a day = 1) := by
  refine Cx.of (by decide +kernel) (Nat.le_of_ble_eq_true rfl) ?_
  intro p e s m below meth c ls hx hb hr hml hown hG hlocks hname ht hX hw hl
  have hl : lv_has ls 4 [(0, .ref x), (1, .int (iI a)), (2, .int (iI day))] := hl
  obtain ⟨⟨hk, hlx⟩, pr, pl, sr, dr, na, wo, ⟨hr0, hr2, hr4, hr6, hr7, hrd⟩, ⟨hkpr, hkpl, hksr, hkdr, hkna⟩, ⟨hlpr, hlpl, hlsr, hldr, hlna⟩, ⟨hx1, hx3, hx5⟩, hpt, hpl, hse, hwo⟩ := id hC
  obtain ⟨⟨hb1, hb2, hb3, hb4⟩, hokP, hokL, hokS, hokW, hokF⟩ := id hM
  refine lv_aload_n (pc := 0) hx hb dX8_nextTold_0 rfl (lv_at hl 0 rfl) ?_
  refine lv_iload_n (pc := 1) hx hb dX8_nextTold_1 rfl (lv_at hl 1 rfl) ?_
  refine zxkRp (pc := 2) (zxrV (As := [.int (iI a)]) hx hb hml hown hG hX hw (c_X8_needPattern l hl9 Γ K X Rf x a pr M (by (first | assumption | omega)) (by (first | assumption | omega)) (by (first | assumption | omega)) (by (first | assumption | omega)) (by (first | assumption | omega)) (by (first | assumption | omega))) (T := TX8) hk rfl cb_X8_needPattern wl_X8_125 rfl ⟨Nat.le_of_ble_eq_true rfl, Nat.le_of_ble_eq_true rfl⟩ hl.1 rfl (Nat.le_of_ble_eq_true rfl) dX8_nextTold_2 ⟨(by show 0 + 1 ≤ 2; omega), (by show 0 + 6 ≤ 12; omega)⟩) hw (fun E9 ce9 q9 H9 locs9 hxp9 hw9 hce9 hcv9 hcl9 => zxout (pc := 2) ht hlocks hw9 hce9 hcv9 hcl9 (by (obtain ⟨rfl, hq9⟩ := hxp9; (try dsimp only); first | exact ⟨rfl, (by (unfold cdPatD; (repeat' split) <;> omega))⟩ | exact Or.inl ⟨rfl, (by (unfold cdPatD; (repeat' split) <;> omega))⟩ | exact Or.inr ⟨rfl, (by (unfold cdPatD; (repeat' split) <;> omega))⟩ | exact Or.inr (Or.inl ⟨rfl, (by (unfold cdPatD; (repeat' split) <;> omega))⟩))) (by show 0 + 1 ≤ 2; omega) (by show 0 + 6 ≤ 12; omega)) (fun r2 H locs hp2 hw => ?_)
  obtain ⟨⟨hra2, hka2, hsa2⟩, hia2⟩ := hp2
  have hoa2 := okP_same hsa2 (hokP a.toNat (by omega))
  refine lv_astore_n (pc := 5) (lv' := [(3, .ref r2), (0, .ref x), (1, .int (iI a)), (2, .int (iI day))]) hx hb dX8_nextTold_5 rfl hl (by decide) rfl (fun ls hl => ?_)
  refine lv_iload_n (pc := 6) hx hb dX8_nextTold_6 rfl (lv_at hl 3 rfl) ?_
  refine zxkVp (pc := 7) (zxrS (As := [.int (iI day)]) hx hb hml hown hG hX hw (c_X8_needDay l hl9 Γ K X Rf day  (by (first | assumption | omega))) cb_X8_needDay wl_X8_77 rfl ⟨Nat.le_of_ble_eq_true rfl, Nat.le_of_ble_eq_true rfl⟩ hl.1 rfl (Nat.le_of_ble_eq_true rfl) dX8_nextTold_7 ⟨(by show 0 + 1 + 1 ≤ 2; omega), (by show 0 + 6 + 6 ≤ 12; omega)⟩) hw (fun E9 ce9 q9 H9 locs9 hxp9 hw9 hce9 hcv9 hcl9 => zxout (pc := 7) ht hlocks hw9 hce9 hcv9 hcl9 (by (obtain ⟨rfl, hq9⟩ := hxp9; (try dsimp only); first | exact ⟨rfl, (by (unfold cdPatD; (repeat' split) <;> omega))⟩ | exact Or.inl ⟨rfl, (by (unfold cdPatD; (repeat' split) <;> omega))⟩ | exact Or.inr ⟨rfl, (by (unfold cdPatD; (repeat' split) <;> omega))⟩ | exact Or.inr (Or.inl ⟨rfl, (by (unfold cdPatD; (repeat' split) <;> omega))⟩))) (by show 0 + 1 + 1 ≤ 2; omega) (by show 0 + 6 + 6 ≤ 12; omega)) (fun H locs hp7 hw => ?_)
  refine lv_aload_n (pc := 10) hx hb dX8_nextTold_10 rfl (lv_at hl 0 rfl) ?_
  refine lv_iload_n (pc := 11) hx hb dX8_nextTold_11 rfl (lv_at hl 3 rfl) ?_
  refine zkIp (pc := 12) (zrV (As := [.int (iI day)]) hx hb hml hown hG hw (c_X3_firstFrom l Γ K X Rf r2 day  (by (first | assumption | omega)) (by (first | assumption | omega)) (by (first | assumption | omega))) (T := TX3) hka2 rfl cb_X3_firstFrom wl_X8_135 rfl ⟨Nat.le_of_ble_eq_true rfl, Nat.le_of_ble_eq_true rfl⟩ hl.1 rfl (Nat.le_of_ble_eq_true rfl) dX8_nextTold_12 ⟨(by show 0 + 1 + 1 + 0 ≤ 2; omega), (by show 0 + 6 + 6 + 0 ≤ 12; omega)⟩) hw (fun r12 H locs hp12 hw => ?_)
  subst hp12
  have hp12f0 := nxT_rng (X r2) day (2400 - mi day).toNat (mi day)
  exact vx_ret (zretI (pc := 15) hx hb hlocks hr hw (by show 0 + 1 + 1 ≤ 2; omega) (by show 0 + 6 + 6 ≤ 12; omega) dX8_nextTold_15 ⟨by (try dsimp only) <;> (exact ⟨by rw [nextT_congr hsa2.1 hsa2.2.1 hsa2.2.2], by (unfold cdPatD; (repeat' split) <;> omega)⟩), rfl, rfl, rfl⟩)
set_option maxHeartbeats 4000000 in
set_option maxRecDepth 100000 in
theorem c_X8_savingAt (l : Launch) (hl9 : l.stackTraces = false) (Γ : zG) (K : zK) (X : zX) (Rf : zR) (x : Nat) (a : Int) (mo : Int) (ρ : zL) (M : zM) (hC : repC ρ K X Rf x M) (hM : okM M) (h1 : fit a ∧ fit mo) : Cx l yX8_savingAt cX8_savingAt 4 (some .int) 7 2 12 Γ [.ref x, .int (iI a), .int (iI mo)] K X Rf (pI (zp0 K X Rf (fun r : Int => r = savM M a.toNat mo ∧ cdPlM M a mo = 0))) (fun E : String => E = "java/lang/IndexOutOfBoundsException" ∧ cdPlM M a mo = 1) := by
  refine Cx.of (by decide +kernel) (Nat.le_of_ble_eq_true rfl) ?_
  intro p e s m below meth c ls hx hb hr hml hown hG hlocks hname ht hX hw hl
  have hl : lv_has ls 4 [(0, .ref x), (1, .int (iI a)), (2, .int (iI mo))] := hl
  obtain ⟨⟨hk, hlx⟩, pr, pl, sr, dr, na, wo, ⟨hr0, hr2, hr4, hr6, hr7, hrd⟩, ⟨hkpr, hkpl, hksr, hkdr, hkna⟩, ⟨hlpr, hlpl, hlsr, hldr, hlna⟩, ⟨hx1, hx3, hx5⟩, hpt, hpl, hse, hwo⟩ := id hC
  obtain ⟨⟨hb1, hb2, hb3, hb4⟩, hokP, hokL, hokS, hokW, hokF⟩ := id hM
  refine lv_aload_n (pc := 0) hx hb dX8_savingAt_0 rfl (lv_at hl 0 rfl) ?_
  refine lv_iload_n (pc := 1) hx hb dX8_savingAt_1 rfl (lv_at hl 1 rfl) ?_
  refine zxkRp (pc := 2) (zxrV (As := [.int (iI a)]) hx hb hml hown hG hX hw (c_X8_needPlace l hl9 Γ K X Rf x a pl (ρ) M (by (first | assumption | omega)) (by (first | assumption | omega)) (by (first | assumption | omega)) (by (first | assumption | omega)) (by (first | assumption | omega)) (by (first | assumption | omega))) (T := TX8) hk rfl cb_X8_needPlace wl_X8_143 rfl ⟨Nat.le_of_ble_eq_true rfl, Nat.le_of_ble_eq_true rfl⟩ hl.1 rfl (Nat.le_of_ble_eq_true rfl) dX8_savingAt_2 ⟨(by show 0 + 1 ≤ 2; omega), (by show 0 + 6 ≤ 12; omega)⟩) hw (fun E9 ce9 q9 H9 locs9 hxp9 hw9 hce9 hcv9 hcl9 => zxout (pc := 2) ht hlocks hw9 hce9 hcv9 hcl9 (by (obtain ⟨rfl, hq9⟩ := hxp9; (try dsimp only); first | exact ⟨rfl, (by (unfold cdPlM; (repeat' split) <;> omega))⟩ | exact Or.inl ⟨rfl, (by (unfold cdPlM; (repeat' split) <;> omega))⟩ | exact Or.inr ⟨rfl, (by (unfold cdPlM; (repeat' split) <;> omega))⟩ | exact Or.inr (Or.inl ⟨rfl, (by (unfold cdPlM; (repeat' split) <;> omega))⟩))) (by show 0 + 1 ≤ 2; omega) (by show 0 + 6 ≤ 12; omega)) (fun r2 H locs hp2 hw => ?_)
  obtain ⟨⟨hrp2, ⟨hkp2, hlp2⟩, tu2, to2, be2, sa2, ⟨hr12, hr32, hr42, hr52⟩, ⟨hk12, hk32, hk42, hk52⟩, ⟨hl12, hl32, hl42, hl52⟩, htu2, hn62, hct2, ⟨hbs2, hbr2⟩, hpp2⟩, hip2⟩ := hp2
  have hbs92 : -840 ≤ X r2 0 ∧ X r2 0 ≤ 840 := by omega
  have hpq2 : prep (X be2) (X sa2) (X r2 6) (savM M (a).toNat) := hpp2
  refine lv_astore_n (pc := 5) (lv' := [(3, .ref r2), (0, .ref x), (1, .int (iI a)), (2, .int (iI mo))]) hx hb dX8_savingAt_5 rfl hl (by decide) rfl (fun ls hl => ?_)
  refine lv_iload_n (pc := 6) hx hb dX8_savingAt_6 rfl (lv_at hl 3 rfl) ?_
  refine zxkVp (pc := 7) (zxrS (As := [.int (iI mo)]) hx hb hml hown hG hX hw (c_X8_needMoment l hl9 Γ K X Rf mo  (by (first | assumption | omega))) cb_X8_needMoment wl_X8_179 rfl ⟨Nat.le_of_ble_eq_true rfl, Nat.le_of_ble_eq_true rfl⟩ hl.1 rfl (Nat.le_of_ble_eq_true rfl) dX8_savingAt_7 ⟨(by show 0 + 1 + 1 ≤ 2; omega), (by show 0 + 6 + 6 ≤ 12; omega)⟩) hw (fun E9 ce9 q9 H9 locs9 hxp9 hw9 hce9 hcv9 hcl9 => zxout (pc := 7) ht hlocks hw9 hce9 hcv9 hcl9 (by (obtain ⟨rfl, hq9⟩ := hxp9; (try dsimp only); first | exact ⟨rfl, (by (unfold cdPlM; (repeat' split) <;> omega))⟩ | exact Or.inl ⟨rfl, (by (unfold cdPlM; (repeat' split) <;> omega))⟩ | exact Or.inr ⟨rfl, (by (unfold cdPlM; (repeat' split) <;> omega))⟩ | exact Or.inr (Or.inl ⟨rfl, (by (unfold cdPlM; (repeat' split) <;> omega))⟩))) (by show 0 + 1 + 1 ≤ 2; omega) (by show 0 + 6 + 6 ≤ 12; omega)) (fun H locs hp7 hw => ?_)
  refine lv_aload_n (pc := 10) hx hb dX8_savingAt_10 rfl (lv_at hl 0 rfl) ?_
  refine lv_iload_n (pc := 11) hx hb dX8_savingAt_11 rfl (lv_at hl 3 rfl) ?_
  refine zkIp (pc := 12) (zrV (As := [.int (iI mo)]) hx hb hml hown hG hw (c_X4_savingThen l Γ K X Rf r2 mo be2 sa2 (savM M a.toNat) (by (first | assumption | omega)) (by (first | assumption | omega)) (by (first | assumption | omega)) (by (first | assumption | omega)) (by (first | assumption | omega)) (by (first | assumption | omega)) (by (first | assumption | omega)) (by (first | assumption | omega))) (T := TX4) hkp2 rfl cb_X4_savingThen wl_X8_182 rfl ⟨Nat.le_of_ble_eq_true rfl, Nat.le_of_ble_eq_true rfl⟩ hl.1 rfl (Nat.le_of_ble_eq_true rfl) dX8_savingAt_12 ⟨(by show 0 + 1 + 1 + 0 ≤ 2; omega), (by show 0 + 6 + 6 + 0 ≤ 12; omega)⟩) hw (fun r12 H locs hp12 hw => ?_)
  subst hp12
  have hp12f0 := sv_rng (by assumption : prep (X be2) (X sa2) (X r2 6) (savM M a.toNat)) (m := mo) (by omega) (by omega)
  exact vx_ret (zretI (pc := 15) hx hb hlocks hr hw (by show 0 + 1 + 1 ≤ 2; omega) (by show 0 + 6 + 6 ≤ 12; omega) dX8_savingAt_15 ⟨by (try dsimp only) <;> (exact ⟨by rfl, by (unfold cdPlM; (repeat' split) <;> omega)⟩), rfl, rfl, rfl⟩)
set_option maxHeartbeats 4000000 in
set_option maxRecDepth 100000 in
theorem c_X8_localAt (l : Launch) (hl9 : l.stackTraces = false) (Γ : zG) (K : zK) (X : zX) (Rf : zR) (x : Nat) (a : Int) (mo : Int) (ρ : zL) (M : zM) (hC : repC ρ K X Rf x M) (hM : okM M) (h1 : fit a ∧ fit mo) : Cx l yX8_localAt cX8_localAt 4 (some .int) 7 2 12 Γ [.ref x, .int (iI a), .int (iI mo)] K X Rf (pI (zp0 K X Rf (fun r : Int => r = locM M a mo ∧ cdPlM M a mo = 0))) (fun E : String => E = "java/lang/IndexOutOfBoundsException" ∧ cdPlM M a mo = 1) := by
  refine Cx.of (by decide +kernel) (Nat.le_of_ble_eq_true rfl) ?_
  intro p e s m below meth c ls hx hb hr hml hown hG hlocks hname ht hX hw hl
  have hl : lv_has ls 4 [(0, .ref x), (1, .int (iI a)), (2, .int (iI mo))] := hl
  obtain ⟨⟨hk, hlx⟩, pr, pl, sr, dr, na, wo, ⟨hr0, hr2, hr4, hr6, hr7, hrd⟩, ⟨hkpr, hkpl, hksr, hkdr, hkna⟩, ⟨hlpr, hlpl, hlsr, hldr, hlna⟩, ⟨hx1, hx3, hx5⟩, hpt, hpl, hse, hwo⟩ := id hC
  obtain ⟨⟨hb1, hb2, hb3, hb4⟩, hokP, hokL, hokS, hokW, hokF⟩ := id hM
  refine lv_aload_n (pc := 0) hx hb dX8_localAt_0 rfl (lv_at hl 0 rfl) ?_
  refine lv_iload_n (pc := 1) hx hb dX8_localAt_1 rfl (lv_at hl 1 rfl) ?_
  refine zxkRp (pc := 2) (zxrV (As := [.int (iI a)]) hx hb hml hown hG hX hw (c_X8_needPlace l hl9 Γ K X Rf x a pl (ρ) M (by (first | assumption | omega)) (by (first | assumption | omega)) (by (first | assumption | omega)) (by (first | assumption | omega)) (by (first | assumption | omega)) (by (first | assumption | omega))) (T := TX8) hk rfl cb_X8_needPlace wl_X8_143 rfl ⟨Nat.le_of_ble_eq_true rfl, Nat.le_of_ble_eq_true rfl⟩ hl.1 rfl (Nat.le_of_ble_eq_true rfl) dX8_localAt_2 ⟨(by show 0 + 1 ≤ 2; omega), (by show 0 + 6 ≤ 12; omega)⟩) hw (fun E9 ce9 q9 H9 locs9 hxp9 hw9 hce9 hcv9 hcl9 => zxout (pc := 2) ht hlocks hw9 hce9 hcv9 hcl9 (by (obtain ⟨rfl, hq9⟩ := hxp9; (try dsimp only); first | exact ⟨rfl, (by (unfold cdPlM; (repeat' split) <;> omega))⟩ | exact Or.inl ⟨rfl, (by (unfold cdPlM; (repeat' split) <;> omega))⟩ | exact Or.inr ⟨rfl, (by (unfold cdPlM; (repeat' split) <;> omega))⟩ | exact Or.inr (Or.inl ⟨rfl, (by (unfold cdPlM; (repeat' split) <;> omega))⟩))) (by show 0 + 1 ≤ 2; omega) (by show 0 + 6 ≤ 12; omega)) (fun r2 H locs hp2 hw => ?_)
  obtain ⟨⟨hrp2, ⟨hkp2, hlp2⟩, tu2, to2, be2, sa2, ⟨hr12, hr32, hr42, hr52⟩, ⟨hk12, hk32, hk42, hk52⟩, ⟨hl12, hl32, hl42, hl52⟩, htu2, hn62, hct2, ⟨hbs2, hbr2⟩, hpp2⟩, hip2⟩ := hp2
  have hbs92 : -840 ≤ X r2 0 ∧ X r2 0 ≤ 840 := by omega
  have hpq2 : prep (X be2) (X sa2) (X r2 6) (savM M (a).toNat) := hpp2
  refine lv_astore_n (pc := 5) (lv' := [(3, .ref r2), (0, .ref x), (1, .int (iI a)), (2, .int (iI mo))]) hx hb dX8_localAt_5 rfl hl (by decide) rfl (fun ls hl => ?_)
  refine lv_iload_n (pc := 6) hx hb dX8_localAt_6 rfl (lv_at hl 3 rfl) ?_
  refine zxkVp (pc := 7) (zxrS (As := [.int (iI mo)]) hx hb hml hown hG hX hw (c_X8_needMoment l hl9 Γ K X Rf mo  (by (first | assumption | omega))) cb_X8_needMoment wl_X8_179 rfl ⟨Nat.le_of_ble_eq_true rfl, Nat.le_of_ble_eq_true rfl⟩ hl.1 rfl (Nat.le_of_ble_eq_true rfl) dX8_localAt_7 ⟨(by show 0 + 1 + 1 ≤ 2; omega), (by show 0 + 6 + 6 ≤ 12; omega)⟩) hw (fun E9 ce9 q9 H9 locs9 hxp9 hw9 hce9 hcv9 hcl9 => zxout (pc := 7) ht hlocks hw9 hce9 hcv9 hcl9 (by (obtain ⟨rfl, hq9⟩ := hxp9; (try dsimp only); first | exact ⟨rfl, (by (unfold cdPlM; (repeat' split) <;> omega))⟩ | exact Or.inl ⟨rfl, (by (unfold cdPlM; (repeat' split) <;> omega))⟩ | exact Or.inr ⟨rfl, (by (unfold cdPlM; (repeat' split) <;> omega))⟩ | exact Or.inr (Or.inl ⟨rfl, (by (unfold cdPlM; (repeat' split) <;> omega))⟩))) (by show 0 + 1 + 1 ≤ 2; omega) (by show 0 + 6 + 6 ≤ 12; omega)) (fun H locs hp7 hw => ?_)
  refine lv_aload_n (pc := 10) hx hb dX8_localAt_10 rfl (lv_at hl 0 rfl) ?_
  refine lv_iload_n (pc := 11) hx hb dX8_localAt_11 rfl (lv_at hl 3 rfl) ?_
  refine zkIp (pc := 12) (zrV (As := [.int (iI mo)]) hx hb hml hown hG hw (c_X4_show l Γ K X Rf r2 mo be2 sa2 (savM M a.toNat) (by (first | assumption | omega)) (by (first | assumption | omega)) (by (first | assumption | omega)) (by (first | assumption | omega)) (by (first | assumption | omega)) (by (first | assumption | omega)) (by (first | assumption | omega)) (by (first | assumption | omega))) (T := TX4) hkp2 rfl cb_X4_show wl_X8_185 rfl ⟨Nat.le_of_ble_eq_true rfl, Nat.le_of_ble_eq_true rfl⟩ hl.1 rfl (Nat.le_of_ble_eq_true rfl) dX8_localAt_12 ⟨(by show 0 + 1 + 1 + 0 ≤ 2; omega), (by show 0 + 6 + 6 + 0 ≤ 12; omega)⟩) hw (fun r12 H locs hp12 hw => ?_)
  subst hp12
  have hp12f0 := sv_rng (by assumption : prep (X be2) (X sa2) (X r2 6) (savM M a.toNat)) (m := mo) (by omega) (by omega)
  exact vx_ret (zretI (pc := 15) hx hb hlocks hr hw (by show 0 + 1 + 1 ≤ 2; omega) (by show 0 + 6 + 6 ≤ 12; omega) dX8_localAt_15 ⟨by (try dsimp only) <;> (exact ⟨by unfold locM; omega, by (unfold cdPlM; (repeat' split) <;> omega)⟩), rfl, rfl, rfl⟩)
set_option maxHeartbeats 4000000 in
set_option maxRecDepth 100000 in
theorem c_X8_nextChange (l : Launch) (hl9 : l.stackTraces = false) (Γ : zG) (K : zK) (X : zX) (Rf : zR) (x : Nat) (a : Int) (mo : Int) (ρ : zL) (M : zM) (hC : repC ρ K X Rf x M) (hM : okM M) (h1 : fit a ∧ fit mo) : Cx l yX8_nextChange cX8_nextChange 4 (some .int) 7 2 12 Γ [.ref x, .int (iI a), .int (iI mo)] K X Rf (pI (zp0 K X Rf (fun r : Int => r = ncF (savM M a.toNat) mo ∧ cdPlM M a mo = 0))) (fun E : String => E = "java/lang/IndexOutOfBoundsException" ∧ cdPlM M a mo = 1) := by
  refine Cx.of (by decide +kernel) (Nat.le_of_ble_eq_true rfl) ?_
  intro p e s m below meth c ls hx hb hr hml hown hG hlocks hname ht hX hw hl
  have hl : lv_has ls 4 [(0, .ref x), (1, .int (iI a)), (2, .int (iI mo))] := hl
  obtain ⟨⟨hk, hlx⟩, pr, pl, sr, dr, na, wo, ⟨hr0, hr2, hr4, hr6, hr7, hrd⟩, ⟨hkpr, hkpl, hksr, hkdr, hkna⟩, ⟨hlpr, hlpl, hlsr, hldr, hlna⟩, ⟨hx1, hx3, hx5⟩, hpt, hpl, hse, hwo⟩ := id hC
  obtain ⟨⟨hb1, hb2, hb3, hb4⟩, hokP, hokL, hokS, hokW, hokF⟩ := id hM
  refine lv_aload_n (pc := 0) hx hb dX8_nextChange_0 rfl (lv_at hl 0 rfl) ?_
  refine lv_iload_n (pc := 1) hx hb dX8_nextChange_1 rfl (lv_at hl 1 rfl) ?_
  refine zxkRp (pc := 2) (zxrV (As := [.int (iI a)]) hx hb hml hown hG hX hw (c_X8_needPlace l hl9 Γ K X Rf x a pl (ρ) M (by (first | assumption | omega)) (by (first | assumption | omega)) (by (first | assumption | omega)) (by (first | assumption | omega)) (by (first | assumption | omega)) (by (first | assumption | omega))) (T := TX8) hk rfl cb_X8_needPlace wl_X8_143 rfl ⟨Nat.le_of_ble_eq_true rfl, Nat.le_of_ble_eq_true rfl⟩ hl.1 rfl (Nat.le_of_ble_eq_true rfl) dX8_nextChange_2 ⟨(by show 0 + 1 ≤ 2; omega), (by show 0 + 6 ≤ 12; omega)⟩) hw (fun E9 ce9 q9 H9 locs9 hxp9 hw9 hce9 hcv9 hcl9 => zxout (pc := 2) ht hlocks hw9 hce9 hcv9 hcl9 (by (obtain ⟨rfl, hq9⟩ := hxp9; (try dsimp only); first | exact ⟨rfl, (by (unfold cdPlM; (repeat' split) <;> omega))⟩ | exact Or.inl ⟨rfl, (by (unfold cdPlM; (repeat' split) <;> omega))⟩ | exact Or.inr ⟨rfl, (by (unfold cdPlM; (repeat' split) <;> omega))⟩ | exact Or.inr (Or.inl ⟨rfl, (by (unfold cdPlM; (repeat' split) <;> omega))⟩))) (by show 0 + 1 ≤ 2; omega) (by show 0 + 6 ≤ 12; omega)) (fun r2 H locs hp2 hw => ?_)
  obtain ⟨⟨hrp2, ⟨hkp2, hlp2⟩, tu2, to2, be2, sa2, ⟨hr12, hr32, hr42, hr52⟩, ⟨hk12, hk32, hk42, hk52⟩, ⟨hl12, hl32, hl42, hl52⟩, htu2, hn62, hct2, ⟨hbs2, hbr2⟩, hpp2⟩, hip2⟩ := hp2
  have hbs92 : -840 ≤ X r2 0 ∧ X r2 0 ≤ 840 := by omega
  have hpq2 : prep (X be2) (X sa2) (X r2 6) (savM M (a).toNat) := hpp2
  refine lv_astore_n (pc := 5) (lv' := [(3, .ref r2), (0, .ref x), (1, .int (iI a)), (2, .int (iI mo))]) hx hb dX8_nextChange_5 rfl hl (by decide) rfl (fun ls hl => ?_)
  refine lv_iload_n (pc := 6) hx hb dX8_nextChange_6 rfl (lv_at hl 3 rfl) ?_
  refine zxkVp (pc := 7) (zxrS (As := [.int (iI mo)]) hx hb hml hown hG hX hw (c_X8_needMoment l hl9 Γ K X Rf mo  (by (first | assumption | omega))) cb_X8_needMoment wl_X8_179 rfl ⟨Nat.le_of_ble_eq_true rfl, Nat.le_of_ble_eq_true rfl⟩ hl.1 rfl (Nat.le_of_ble_eq_true rfl) dX8_nextChange_7 ⟨(by show 0 + 1 + 1 ≤ 2; omega), (by show 0 + 6 + 6 ≤ 12; omega)⟩) hw (fun E9 ce9 q9 H9 locs9 hxp9 hw9 hce9 hcv9 hcl9 => zxout (pc := 7) ht hlocks hw9 hce9 hcv9 hcl9 (by (obtain ⟨rfl, hq9⟩ := hxp9; (try dsimp only); first | exact ⟨rfl, (by (unfold cdPlM; (repeat' split) <;> omega))⟩ | exact Or.inl ⟨rfl, (by (unfold cdPlM; (repeat' split) <;> omega))⟩ | exact Or.inr ⟨rfl, (by (unfold cdPlM; (repeat' split) <;> omega))⟩ | exact Or.inr (Or.inl ⟨rfl, (by (unfold cdPlM; (repeat' split) <;> omega))⟩))) (by show 0 + 1 + 1 ≤ 2; omega) (by show 0 + 6 + 6 ≤ 12; omega)) (fun H locs hp7 hw => ?_)
  refine lv_aload_n (pc := 10) hx hb dX8_nextChange_10 rfl (lv_at hl 0 rfl) ?_
  refine lv_iload_n (pc := 11) hx hb dX8_nextChange_11 rfl (lv_at hl 3 rfl) ?_
  refine zkIp (pc := 12) (zrV (As := [.int (iI mo)]) hx hb hml hown hG hw (c_X4_changeBehind l Γ K X Rf r2 mo be2 sa2 (savM M a.toNat) (by (first | assumption | omega)) (by (first | assumption | omega)) (by (first | assumption | omega)) (by (first | assumption | omega)) (by (first | assumption | omega)) (by (first | assumption | omega)) (by (first | assumption | omega)) (by (first | assumption | omega))) (T := TX4) hkp2 rfl cb_X4_changeBehind wl_X8_188 rfl ⟨Nat.le_of_ble_eq_true rfl, Nat.le_of_ble_eq_true rfl⟩ hl.1 rfl (Nat.le_of_ble_eq_true rfl) dX8_nextChange_12 ⟨(by show 0 + 1 + 1 + 0 ≤ 2; omega), (by show 0 + 6 + 6 + 0 ≤ 12; omega)⟩) hw (fun r12 H locs hp12 hw => ?_)
  subst hp12
  have hp12f0 := ncF_rng (sv := (savM M a.toNat)) (m := mo) (by omega)
  exact vx_ret (zretI (pc := 15) hx hb hlocks hr hw (by show 0 + 1 + 1 ≤ 2; omega) (by show 0 + 6 + 6 ≤ 12; omega) dX8_nextChange_15 ⟨by (try dsimp only) <;> (exact ⟨by rfl, by (unfold cdPlM; (repeat' split) <;> omega)⟩), rfl, rfl, rfl⟩)
set_option maxHeartbeats 4000000 in
set_option maxRecDepth 100000 in
theorem c_X8_showsOften (l : Launch) (hl9 : l.stackTraces = false) (Γ : zG) (K : zK) (X : zX) (Rf : zR) (x : Nat) (a : Int) (lo : Int) (ρ : zL) (M : zM) (hC : repC ρ K X Rf x M) (hM : okM M) (h1 : fit a ∧ fit lo) : Cx l yX8_showsOften cX8_showsOften 3 (some .int) 7 1 6 Γ [.ref x, .int (iI a), .int (iI lo)] K X Rf (pI (zp0 K X Rf (fun r : Int => r = shN (savM M a.toNat) (M 6 a.toNat) lo ∧ cdPl M a = 0))) (fun E : String => E = "java/lang/IndexOutOfBoundsException" ∧ cdPl M a = 1) := by
  refine Cx.of (by decide +kernel) (Nat.le_of_ble_eq_true rfl) ?_
  intro p e s m below meth c ls hx hb hr hml hown hG hlocks hname ht hX hw hl
  have hl : lv_has ls 3 [(0, .ref x), (1, .int (iI a)), (2, .int (iI lo))] := hl
  obtain ⟨⟨hk, hlx⟩, pr, pl, sr, dr, na, wo, ⟨hr0, hr2, hr4, hr6, hr7, hrd⟩, ⟨hkpr, hkpl, hksr, hkdr, hkna⟩, ⟨hlpr, hlpl, hlsr, hldr, hlna⟩, ⟨hx1, hx3, hx5⟩, hpt, hpl, hse, hwo⟩ := id hC
  obtain ⟨⟨hb1, hb2, hb3, hb4⟩, hokP, hokL, hokS, hokW, hokF⟩ := id hM
  refine lv_aload_n (pc := 0) hx hb dX8_showsOften_0 rfl (lv_at hl 0 rfl) ?_
  refine lv_iload_n (pc := 1) hx hb dX8_showsOften_1 rfl (lv_at hl 1 rfl) ?_
  refine zxkRp (pc := 2) (zxrV (As := [.int (iI a)]) hx hb hml hown hG hX hw (c_X8_needPlace l hl9 Γ K X Rf x a pl (ρ) M (by (first | assumption | omega)) (by (first | assumption | omega)) (by (first | assumption | omega)) (by (first | assumption | omega)) (by (first | assumption | omega)) (by (first | assumption | omega))) (T := TX8) hk rfl cb_X8_needPlace wl_X8_143 rfl ⟨Nat.le_of_ble_eq_true rfl, Nat.le_of_ble_eq_true rfl⟩ hl.1 rfl (Nat.le_of_ble_eq_true rfl) dX8_showsOften_2 ⟨(by show 0 + 1 ≤ 1; omega), (by show 0 + 6 ≤ 6; omega)⟩) hw (fun E9 ce9 q9 H9 locs9 hxp9 hw9 hce9 hcv9 hcl9 => zxout (pc := 2) ht hlocks hw9 hce9 hcv9 hcl9 (by (obtain ⟨rfl, hq9⟩ := hxp9; (try dsimp only); first | exact ⟨rfl, (by (unfold cdPl; (repeat' split) <;> omega))⟩ | exact Or.inl ⟨rfl, (by (unfold cdPl; (repeat' split) <;> omega))⟩ | exact Or.inr ⟨rfl, (by (unfold cdPl; (repeat' split) <;> omega))⟩ | exact Or.inr (Or.inl ⟨rfl, (by (unfold cdPl; (repeat' split) <;> omega))⟩))) (by show 0 + 1 ≤ 1; omega) (by show 0 + 6 ≤ 6; omega)) (fun r2 H locs hp2 hw => ?_)
  obtain ⟨⟨hrp2, ⟨hkp2, hlp2⟩, tu2, to2, be2, sa2, ⟨hr12, hr32, hr42, hr52⟩, ⟨hk12, hk32, hk42, hk52⟩, ⟨hl12, hl32, hl42, hl52⟩, htu2, hn62, hct2, ⟨hbs2, hbr2⟩, hpp2⟩, hip2⟩ := hp2
  have hbs92 : -840 ≤ X r2 0 ∧ X r2 0 ≤ 840 := by omega
  have hpq2 : prep (X be2) (X sa2) (X r2 6) (savM M (a).toNat) := hpp2
  refine lv_iload_n (pc := 5) hx hb dX8_showsOften_5 rfl (lv_at hl 2 rfl) ?_
  refine zkIp (pc := 6) (zrV (As := [.int (iI lo)]) hx hb hml hown hG hw (c_X4_countShown l Γ K X Rf r2 lo be2 sa2 (savM M a.toNat) (by (first | assumption | omega)) (by (first | assumption | omega)) (by (first | assumption | omega)) (by (first | assumption | omega)) (by (first | assumption | omega)) (by (first | assumption | omega)) (by (first | assumption | omega)) (by (first | assumption | omega))) (T := TX4) hkp2 rfl cb_X4_countShown wl_X8_191 rfl ⟨Nat.le_of_ble_eq_true rfl, Nat.le_of_ble_eq_true rfl⟩ hl.1 rfl (Nat.le_of_ble_eq_true rfl) dX8_showsOften_6 ⟨(by show 0 + 1 + 0 ≤ 1; omega), (by show 0 + 6 + 0 ≤ 6; omega)⟩) hw (fun r6 H locs hp6 hw => ?_)
  subst hp6
  have hp6f0 := shN_rng (sv := (savM M a.toNat)) (X r2 0) lo
  exact vx_ret (zretI (pc := 9) hx hb hlocks hr hw (by show 0 + 1 ≤ 1; omega) (by show 0 + 6 ≤ 6; omega) dX8_showsOften_9 ⟨by (try dsimp only) <;> (exact ⟨by rw [hbs2], by (unfold cdPl; (repeat' split) <;> omega)⟩), rfl, rfl, rfl⟩)
set_option maxHeartbeats 4000000 in
set_option maxRecDepth 100000 in
theorem c_X8_momentOf (l : Launch) (hl9 : l.stackTraces = false) (Γ : zG) (K : zK) (X : zX) (Rf : zR) (x : Nat) (a : Int) (lo : Int) (ρ : zL) (M : zM) (hC : repC ρ K X Rf x M) (hM : okM M) (h1 : fit a ∧ fit lo) : Cx l yX8_momentOf cX8_momentOf 3 (some .int) 7 1 6 Γ [.ref x, .int (iI a), .int (iI lo)] K X Rf (pI (zp0 K X Rf (fun r : Int => r = momF (savM M a.toNat) (M 6 a.toNat) lo ∧ cdPl M a = 0))) (fun E : String => E = "java/lang/IndexOutOfBoundsException" ∧ cdPl M a = 1) := by
  refine Cx.of (by decide +kernel) (Nat.le_of_ble_eq_true rfl) ?_
  intro p e s m below meth c ls hx hb hr hml hown hG hlocks hname ht hX hw hl
  have hl : lv_has ls 3 [(0, .ref x), (1, .int (iI a)), (2, .int (iI lo))] := hl
  obtain ⟨⟨hk, hlx⟩, pr, pl, sr, dr, na, wo, ⟨hr0, hr2, hr4, hr6, hr7, hrd⟩, ⟨hkpr, hkpl, hksr, hkdr, hkna⟩, ⟨hlpr, hlpl, hlsr, hldr, hlna⟩, ⟨hx1, hx3, hx5⟩, hpt, hpl, hse, hwo⟩ := id hC
  obtain ⟨⟨hb1, hb2, hb3, hb4⟩, hokP, hokL, hokS, hokW, hokF⟩ := id hM
  refine lv_aload_n (pc := 0) hx hb dX8_momentOf_0 rfl (lv_at hl 0 rfl) ?_
  refine lv_iload_n (pc := 1) hx hb dX8_momentOf_1 rfl (lv_at hl 1 rfl) ?_
  refine zxkRp (pc := 2) (zxrV (As := [.int (iI a)]) hx hb hml hown hG hX hw (c_X8_needPlace l hl9 Γ K X Rf x a pl (ρ) M (by (first | assumption | omega)) (by (first | assumption | omega)) (by (first | assumption | omega)) (by (first | assumption | omega)) (by (first | assumption | omega)) (by (first | assumption | omega))) (T := TX8) hk rfl cb_X8_needPlace wl_X8_143 rfl ⟨Nat.le_of_ble_eq_true rfl, Nat.le_of_ble_eq_true rfl⟩ hl.1 rfl (Nat.le_of_ble_eq_true rfl) dX8_momentOf_2 ⟨(by show 0 + 1 ≤ 1; omega), (by show 0 + 6 ≤ 6; omega)⟩) hw (fun E9 ce9 q9 H9 locs9 hxp9 hw9 hce9 hcv9 hcl9 => zxout (pc := 2) ht hlocks hw9 hce9 hcv9 hcl9 (by (obtain ⟨rfl, hq9⟩ := hxp9; (try dsimp only); first | exact ⟨rfl, (by (unfold cdPl; (repeat' split) <;> omega))⟩ | exact Or.inl ⟨rfl, (by (unfold cdPl; (repeat' split) <;> omega))⟩ | exact Or.inr ⟨rfl, (by (unfold cdPl; (repeat' split) <;> omega))⟩ | exact Or.inr (Or.inl ⟨rfl, (by (unfold cdPl; (repeat' split) <;> omega))⟩))) (by show 0 + 1 ≤ 1; omega) (by show 0 + 6 ≤ 6; omega)) (fun r2 H locs hp2 hw => ?_)
  obtain ⟨⟨hrp2, ⟨hkp2, hlp2⟩, tu2, to2, be2, sa2, ⟨hr12, hr32, hr42, hr52⟩, ⟨hk12, hk32, hk42, hk52⟩, ⟨hl12, hl32, hl42, hl52⟩, htu2, hn62, hct2, ⟨hbs2, hbr2⟩, hpp2⟩, hip2⟩ := hp2
  have hbs92 : -840 ≤ X r2 0 ∧ X r2 0 ≤ 840 := by omega
  have hpq2 : prep (X be2) (X sa2) (X r2 6) (savM M (a).toNat) := hpp2
  refine lv_iload_n (pc := 5) hx hb dX8_momentOf_5 rfl (lv_at hl 2 rfl) ?_
  refine zkIp (pc := 6) (zrV (As := [.int (iI lo)]) hx hb hml hown hG hw (c_X4_momentFor l Γ K X Rf r2 lo be2 sa2 (savM M a.toNat) (by (first | assumption | omega)) (by (first | assumption | omega)) (by (first | assumption | omega)) (by (first | assumption | omega)) (by (first | assumption | omega)) (by (first | assumption | omega)) (by (first | assumption | omega)) (by (first | assumption | omega))) (T := TX4) hkp2 rfl cb_X4_momentFor wl_X8_194 rfl ⟨Nat.le_of_ble_eq_true rfl, Nat.le_of_ble_eq_true rfl⟩ hl.1 rfl (Nat.le_of_ble_eq_true rfl) dX8_momentOf_6 ⟨(by show 0 + 1 + 0 ≤ 1; omega), (by show 0 + 6 + 0 ≤ 6; omega)⟩) hw (fun r6 H locs hp6 hw => ?_)
  subst hp6
  have hp6f0 := momF_rng (sv := (savM M a.toNat)) (X r2 0) lo
  exact vx_ret (zretI (pc := 9) hx hb hlocks hr hw (by show 0 + 1 ≤ 1; omega) (by show 0 + 6 ≤ 6; omega) dX8_momentOf_9 ⟨by (try dsimp only) <;> (exact ⟨by rw [hbs2], by (unfold cdPl; (repeat' split) <;> omega)⟩), rfl, rfl, rfl⟩)
set_option maxHeartbeats 4000000 in
set_option maxRecDepth 100000 in
theorem c_X8_lastMomentOf (l : Launch) (hl9 : l.stackTraces = false) (Γ : zG) (K : zK) (X : zX) (Rf : zR) (x : Nat) (a : Int) (lo : Int) (ρ : zL) (M : zM) (hC : repC ρ K X Rf x M) (hM : okM M) (h1 : fit a ∧ fit lo) : Cx l yX8_lastMomentOf cX8_lastMomentOf 3 (some .int) 7 1 6 Γ [.ref x, .int (iI a), .int (iI lo)] K X Rf (pI (zp0 K X Rf (fun r : Int => r = shL (savM M a.toNat) (M 6 a.toNat) lo ∧ cdPl M a = 0))) (fun E : String => E = "java/lang/IndexOutOfBoundsException" ∧ cdPl M a = 1) := by
  refine Cx.of (by decide +kernel) (Nat.le_of_ble_eq_true rfl) ?_
  intro p e s m below meth c ls hx hb hr hml hown hG hlocks hname ht hX hw hl
  have hl : lv_has ls 3 [(0, .ref x), (1, .int (iI a)), (2, .int (iI lo))] := hl
  obtain ⟨⟨hk, hlx⟩, pr, pl, sr, dr, na, wo, ⟨hr0, hr2, hr4, hr6, hr7, hrd⟩, ⟨hkpr, hkpl, hksr, hkdr, hkna⟩, ⟨hlpr, hlpl, hlsr, hldr, hlna⟩, ⟨hx1, hx3, hx5⟩, hpt, hpl, hse, hwo⟩ := id hC
  obtain ⟨⟨hb1, hb2, hb3, hb4⟩, hokP, hokL, hokS, hokW, hokF⟩ := id hM
  refine lv_aload_n (pc := 0) hx hb dX8_lastMomentOf_0 rfl (lv_at hl 0 rfl) ?_
  refine lv_iload_n (pc := 1) hx hb dX8_lastMomentOf_1 rfl (lv_at hl 1 rfl) ?_
  refine zxkRp (pc := 2) (zxrV (As := [.int (iI a)]) hx hb hml hown hG hX hw (c_X8_needPlace l hl9 Γ K X Rf x a pl (ρ) M (by (first | assumption | omega)) (by (first | assumption | omega)) (by (first | assumption | omega)) (by (first | assumption | omega)) (by (first | assumption | omega)) (by (first | assumption | omega))) (T := TX8) hk rfl cb_X8_needPlace wl_X8_143 rfl ⟨Nat.le_of_ble_eq_true rfl, Nat.le_of_ble_eq_true rfl⟩ hl.1 rfl (Nat.le_of_ble_eq_true rfl) dX8_lastMomentOf_2 ⟨(by show 0 + 1 ≤ 1; omega), (by show 0 + 6 ≤ 6; omega)⟩) hw (fun E9 ce9 q9 H9 locs9 hxp9 hw9 hce9 hcv9 hcl9 => zxout (pc := 2) ht hlocks hw9 hce9 hcv9 hcl9 (by (obtain ⟨rfl, hq9⟩ := hxp9; (try dsimp only); first | exact ⟨rfl, (by (unfold cdPl; (repeat' split) <;> omega))⟩ | exact Or.inl ⟨rfl, (by (unfold cdPl; (repeat' split) <;> omega))⟩ | exact Or.inr ⟨rfl, (by (unfold cdPl; (repeat' split) <;> omega))⟩ | exact Or.inr (Or.inl ⟨rfl, (by (unfold cdPl; (repeat' split) <;> omega))⟩))) (by show 0 + 1 ≤ 1; omega) (by show 0 + 6 ≤ 6; omega)) (fun r2 H locs hp2 hw => ?_)
  obtain ⟨⟨hrp2, ⟨hkp2, hlp2⟩, tu2, to2, be2, sa2, ⟨hr12, hr32, hr42, hr52⟩, ⟨hk12, hk32, hk42, hk52⟩, ⟨hl12, hl32, hl42, hl52⟩, htu2, hn62, hct2, ⟨hbs2, hbr2⟩, hpp2⟩, hip2⟩ := hp2
  have hbs92 : -840 ≤ X r2 0 ∧ X r2 0 ≤ 840 := by omega
  have hpq2 : prep (X be2) (X sa2) (X r2 6) (savM M (a).toNat) := hpp2
  refine lv_iload_n (pc := 5) hx hb dX8_lastMomentOf_5 rfl (lv_at hl 2 rfl) ?_
  refine zkIp (pc := 6) (zrV (As := [.int (iI lo)]) hx hb hml hown hG hw (c_X4_lastShown l Γ K X Rf r2 lo be2 sa2 (savM M a.toNat) (by (first | assumption | omega)) (by (first | assumption | omega)) (by (first | assumption | omega)) (by (first | assumption | omega)) (by (first | assumption | omega)) (by (first | assumption | omega)) (by (first | assumption | omega)) (by (first | assumption | omega))) (T := TX4) hkp2 rfl cb_X4_lastShown wl_X8_197 rfl ⟨Nat.le_of_ble_eq_true rfl, Nat.le_of_ble_eq_true rfl⟩ hl.1 rfl (Nat.le_of_ble_eq_true rfl) dX8_lastMomentOf_6 ⟨(by show 0 + 1 + 0 ≤ 1; omega), (by show 0 + 6 + 0 ≤ 6; omega)⟩) hw (fun r6 H locs hp6 hw => ?_)
  subst hp6
  exact vx_ret (zretI (pc := 9) hx hb hlocks hr hw (by show 0 + 1 ≤ 1; omega) (by show 0 + 6 ≤ 6; omega) dX8_lastMomentOf_9 ⟨by (try dsimp only) <;> (exact ⟨by rw [hbs2], by (unfold cdPl; (repeat' split) <;> omega)⟩), rfl, rfl, rfl⟩)
set_option maxHeartbeats 4000000 in
set_option maxRecDepth 100000 in
theorem c_X8_ahead (l : Launch) (hl9 : l.stackTraces = false) (Γ : zG) (K : zK) (X : zX) (Rf : zR) (x : Nat) (a : Int) (b9 : Int) (mo : Int) (ρ : zL) (M : zM) (hC : repC ρ K X Rf x M) (hM : okM M) (h1 : fit a ∧ fit b9 ∧ fit mo) : Cx l yX8_ahead cX8_ahead 6 (some .int) 7 3 18 Γ [.ref x, .int (iI a), .int (iI b9), .int (iI mo)] K X Rf (pI (zp0 K X Rf (fun r : Int => r = locM M a mo - locM M b9 mo ∧ cdPlPlM M a b9 mo = 0))) (fun E : String => E = "java/lang/IndexOutOfBoundsException" ∧ cdPlPlM M a b9 mo = 1) := by
  refine Cx.of (by decide +kernel) (Nat.le_of_ble_eq_true rfl) ?_
  intro p e s m below meth c ls hx hb hr hml hown hG hlocks hname ht hX hw hl
  have hl : lv_has ls 6 [(0, .ref x), (1, .int (iI a)), (2, .int (iI b9)), (3, .int (iI mo))] := hl
  obtain ⟨⟨hk, hlx⟩, pr, pl, sr, dr, na, wo, ⟨hr0, hr2, hr4, hr6, hr7, hrd⟩, ⟨hkpr, hkpl, hksr, hkdr, hkna⟩, ⟨hlpr, hlpl, hlsr, hldr, hlna⟩, ⟨hx1, hx3, hx5⟩, hpt, hpl, hse, hwo⟩ := id hC
  obtain ⟨⟨hb1, hb2, hb3, hb4⟩, hokP, hokL, hokS, hokW, hokF⟩ := id hM
  refine lv_aload_n (pc := 0) hx hb dX8_ahead_0 rfl (lv_at hl 0 rfl) ?_
  refine lv_iload_n (pc := 1) hx hb dX8_ahead_1 rfl (lv_at hl 1 rfl) ?_
  refine zxkRp (pc := 2) (zxrV (As := [.int (iI a)]) hx hb hml hown hG hX hw (c_X8_needPlace l hl9 Γ K X Rf x a pl (ρ) M (by (first | assumption | omega)) (by (first | assumption | omega)) (by (first | assumption | omega)) (by (first | assumption | omega)) (by (first | assumption | omega)) (by (first | assumption | omega))) (T := TX8) hk rfl cb_X8_needPlace wl_X8_143 rfl ⟨Nat.le_of_ble_eq_true rfl, Nat.le_of_ble_eq_true rfl⟩ hl.1 rfl (Nat.le_of_ble_eq_true rfl) dX8_ahead_2 ⟨(by show 0 + 1 ≤ 3; omega), (by show 0 + 6 ≤ 18; omega)⟩) hw (fun E9 ce9 q9 H9 locs9 hxp9 hw9 hce9 hcv9 hcl9 => zxout (pc := 2) ht hlocks hw9 hce9 hcv9 hcl9 (by (obtain ⟨rfl, hq9⟩ := hxp9; (try dsimp only); first | exact ⟨rfl, (by (unfold cdPlPlM; (repeat' split) <;> omega))⟩ | exact Or.inl ⟨rfl, (by (unfold cdPlPlM; (repeat' split) <;> omega))⟩ | exact Or.inr ⟨rfl, (by (unfold cdPlPlM; (repeat' split) <;> omega))⟩ | exact Or.inr (Or.inl ⟨rfl, (by (unfold cdPlPlM; (repeat' split) <;> omega))⟩))) (by show 0 + 1 ≤ 3; omega) (by show 0 + 6 ≤ 18; omega)) (fun r2 H locs hp2 hw => ?_)
  obtain ⟨⟨hrp2, ⟨hkp2, hlp2⟩, tu2, to2, be2, sa2, ⟨hr12, hr32, hr42, hr52⟩, ⟨hk12, hk32, hk42, hk52⟩, ⟨hl12, hl32, hl42, hl52⟩, htu2, hn62, hct2, ⟨hbs2, hbr2⟩, hpp2⟩, hip2⟩ := hp2
  have hbs92 : -840 ≤ X r2 0 ∧ X r2 0 ≤ 840 := by omega
  have hpq2 : prep (X be2) (X sa2) (X r2 6) (savM M (a).toNat) := hpp2
  refine lv_astore (pc := 5) (lv' := [(4, .ref r2), (0, .ref x), (1, .int (iI a)), (2, .int (iI b9)), (3, .int (iI mo))]) hx hb dX8_ahead_5 hl (by decide) rfl (fun ls hl => ?_)
  refine lv_aload_n (pc := 7) hx hb dX8_ahead_7 rfl (lv_at hl 1 rfl) ?_
  refine lv_iload_n (pc := 8) hx hb dX8_ahead_8 rfl (lv_at hl 3 rfl) ?_
  refine zxkRp (pc := 9) (zxrV (As := [.int (iI b9)]) hx hb hml hown hG hX hw (c_X8_needPlace l hl9 Γ K X Rf x b9 pl (ρ) M (by (first | assumption | omega)) (by (first | assumption | omega)) (by (first | assumption | omega)) (by (first | assumption | omega)) (by (first | assumption | omega)) (by (first | assumption | omega))) (T := TX8) hk rfl cb_X8_needPlace wl_X8_143 rfl ⟨Nat.le_of_ble_eq_true rfl, Nat.le_of_ble_eq_true rfl⟩ hl.1 rfl (Nat.le_of_ble_eq_true rfl) dX8_ahead_9 ⟨(by show 0 + 1 + 1 ≤ 3; omega), (by show 0 + 6 + 6 ≤ 18; omega)⟩) hw (fun E9 ce9 q9 H9 locs9 hxp9 hw9 hce9 hcv9 hcl9 => zxout (pc := 9) ht hlocks hw9 hce9 hcv9 hcl9 (by (obtain ⟨rfl, hq9⟩ := hxp9; (try dsimp only); first | exact ⟨rfl, (by (unfold cdPlPlM; (repeat' split) <;> omega))⟩ | exact Or.inl ⟨rfl, (by (unfold cdPlPlM; (repeat' split) <;> omega))⟩ | exact Or.inr ⟨rfl, (by (unfold cdPlPlM; (repeat' split) <;> omega))⟩ | exact Or.inr (Or.inl ⟨rfl, (by (unfold cdPlPlM; (repeat' split) <;> omega))⟩))) (by show 0 + 1 + 1 ≤ 3; omega) (by show 0 + 6 + 6 ≤ 18; omega)) (fun r9 H locs hp9 hw => ?_)
  obtain ⟨⟨hrp9, ⟨hkp9, hlp9⟩, tu9, to9, be9, sa9, ⟨hr19, hr39, hr49, hr59⟩, ⟨hk19, hk39, hk49, hk59⟩, ⟨hl19, hl39, hl49, hl59⟩, htu9, hn69, hct9, ⟨hbs9, hbr9⟩, hpp9⟩, hip9⟩ := hp9
  have hbs99 : -840 ≤ X r9 0 ∧ X r9 0 ≤ 840 := by omega
  have hpq9 : prep (X be9) (X sa9) (X r9 6) (savM M (b9).toNat) := hpp9
  refine lv_astore (pc := 12) (lv' := [(5, .ref r9), (4, .ref r2), (0, .ref x), (1, .int (iI a)), (2, .int (iI b9)), (3, .int (iI mo))]) hx hb dX8_ahead_12 hl (by decide) rfl (fun ls hl => ?_)
  refine lv_iload_n (pc := 14) hx hb dX8_ahead_14 rfl (lv_at hl 5 rfl) ?_
  refine zxkVp (pc := 15) (zxrS (As := [.int (iI mo)]) hx hb hml hown hG hX hw (c_X8_needMoment l hl9 Γ K X Rf mo  (by (first | assumption | omega))) cb_X8_needMoment wl_X8_179 rfl ⟨Nat.le_of_ble_eq_true rfl, Nat.le_of_ble_eq_true rfl⟩ hl.1 rfl (Nat.le_of_ble_eq_true rfl) dX8_ahead_15 ⟨(by show 0 + 1 + 1 + 1 ≤ 3; omega), (by show 0 + 6 + 6 + 6 ≤ 18; omega)⟩) hw (fun E9 ce9 q9 H9 locs9 hxp9 hw9 hce9 hcv9 hcl9 => zxout (pc := 15) ht hlocks hw9 hce9 hcv9 hcl9 (by (obtain ⟨rfl, hq9⟩ := hxp9; (try dsimp only); first | exact ⟨rfl, (by (unfold cdPlPlM; (repeat' split) <;> omega))⟩ | exact Or.inl ⟨rfl, (by (unfold cdPlPlM; (repeat' split) <;> omega))⟩ | exact Or.inr ⟨rfl, (by (unfold cdPlPlM; (repeat' split) <;> omega))⟩ | exact Or.inr (Or.inl ⟨rfl, (by (unfold cdPlPlM; (repeat' split) <;> omega))⟩))) (by show 0 + 1 + 1 + 1 ≤ 3; omega) (by show 0 + 6 + 6 + 6 ≤ 18; omega)) (fun H locs hp15 hw => ?_)
  refine lv_aload (pc := 18) hx hb dX8_ahead_18 (lv_at hl 1 rfl) ?_
  refine lv_iload_n (pc := 20) hx hb dX8_ahead_20 rfl (lv_at hl 5 rfl) ?_
  refine zkIp (pc := 21) (zrV (As := [.int (iI mo)]) hx hb hml hown hG hw (c_X4_show l Γ K X Rf r2 mo be2 sa2 (savM M a.toNat) (by (first | assumption | omega)) (by (first | assumption | omega)) (by (first | assumption | omega)) (by (first | assumption | omega)) (by (first | assumption | omega)) (by (first | assumption | omega)) (by (first | assumption | omega)) (by (first | assumption | omega))) (T := TX4) hkp2 rfl cb_X4_show wl_X8_185 rfl ⟨Nat.le_of_ble_eq_true rfl, Nat.le_of_ble_eq_true rfl⟩ hl.1 rfl (Nat.le_of_ble_eq_true rfl) dX8_ahead_21 ⟨(by show 0 + 1 + 1 + 1 + 0 ≤ 3; omega), (by show 0 + 6 + 6 + 6 + 0 ≤ 18; omega)⟩) hw (fun r21 H locs hp21 hw => ?_)
  subst hp21
  have hp21f0 := sv_rng (by assumption : prep (X be2) (X sa2) (X r2 6) (savM M a.toNat)) (m := mo) (by omega) (by omega)
  refine lv_aload (pc := 24) hx hb dX8_ahead_24 (lv_at hl 0 rfl) ?_
  refine lv_iload_n (pc := 26) hx hb dX8_ahead_26 rfl (lv_at hl 5 rfl) ?_
  refine zkIp (pc := 27) (zrV (As := [.int (iI mo)]) hx hb hml hown hG hw (c_X4_show l Γ K X Rf r9 mo be9 sa9 (savM M b9.toNat) (by (first | assumption | omega)) (by (first | assumption | omega)) (by (first | assumption | omega)) (by (first | assumption | omega)) (by (first | assumption | omega)) (by (first | assumption | omega)) (by (first | assumption | omega)) (by (first | assumption | omega))) (T := TX4) hkp9 rfl cb_X4_show wl_X8_185 rfl ⟨Nat.le_of_ble_eq_true rfl, Nat.le_of_ble_eq_true rfl⟩ hl.1 rfl (Nat.le_of_ble_eq_true rfl) dX8_ahead_27 ⟨(by show 0 + 1 + 1 + 1 + 0 ≤ 3; omega), (by show 0 + 6 + 6 + 6 + 0 ≤ 18; omega)⟩) hw (fun r27 H locs hp27 hw => ?_)
  subst hp27
  have hp27f0 := sv_rng (by assumption : prep (X be9) (X sa9) (X r9 6) (savM M b9.toNat)) (m := mo) (by omega) (by omega)
  refine zsub (pc := 30) hx hb dX8_ahead_30 ?_
  exact vx_ret (zretI (pc := 31) hx hb hlocks hr hw (by show 0 + 1 + 1 + 1 ≤ 3; omega) (by show 0 + 6 + 6 + 6 ≤ 18; omega) dX8_ahead_31 ⟨by (try dsimp only) <;> (exact ⟨by unfold locM; omega, by (unfold cdPlPlM; (repeat' split) <;> omega)⟩), rfl, rfl, rfl⟩)
set_option maxHeartbeats 4000000 in
set_option maxRecDepth 100000 in
theorem c_X8_dates (l : Launch) (hl9 : l.stackTraces = false) (Γ : zG) (K : zK) (X : zX) (Rf : zR) (x : Nat) (a : Int) (ρ : zL) (M : zM) (hC : repC ρ K X Rf x M) (hM : okM M) (h1 : fit a) : Cx l yX8_dates cX8_dates 2 (some .int) 7 1 6 Γ [.ref x, .int (iI a)] K X Rf (pI (zp0 K X Rf (fun r : Int => r = ((datM M a.toNat).length : Int) ∧ cdSer M a = 0))) (fun E : String => E = "java/lang/IndexOutOfBoundsException" ∧ cdSer M a = 1) := by
  refine Cx.of (by decide +kernel) (Nat.le_of_ble_eq_true rfl) ?_
  intro p e s m below meth c ls hx hb hr hml hown hG hlocks hname ht hX hw hl
  have hl : lv_has ls 2 [(0, .ref x), (1, .int (iI a))] := hl
  obtain ⟨⟨hk, hlx⟩, pr, pl, sr, dr, na, wo, ⟨hr0, hr2, hr4, hr6, hr7, hrd⟩, ⟨hkpr, hkpl, hksr, hkdr, hkna⟩, ⟨hlpr, hlpl, hlsr, hldr, hlna⟩, ⟨hx1, hx3, hx5⟩, hpt, hpl, hse, hwo⟩ := id hC
  obtain ⟨⟨hb1, hb2, hb3, hb4⟩, hokP, hokL, hokS, hokW, hokF⟩ := id hM
  refine lv_aload_n (pc := 0) hx hb dX8_dates_0 rfl (lv_at hl 0 rfl) ?_
  refine lv_iload_n (pc := 1) hx hb dX8_dates_1 rfl (lv_at hl 1 rfl) ?_
  refine zxkRp (pc := 2) (zxrV (As := [.int (iI a)]) hx hb hml hown hG hX hw (c_X8_needSeries l hl9 Γ K X Rf x a sr pl (ρ) M (by (first | assumption | omega)) (by (first | assumption | omega)) (by (first | assumption | omega)) (by (first | assumption | omega)) (by (first | assumption | omega)) (by (first | assumption | omega))) (T := TX8) hk rfl cb_X8_needSeries wl_X8_214 rfl ⟨Nat.le_of_ble_eq_true rfl, Nat.le_of_ble_eq_true rfl⟩ hl.1 rfl (Nat.le_of_ble_eq_true rfl) dX8_dates_2 ⟨(by show 0 + 1 ≤ 1; omega), (by show 0 + 6 ≤ 6; omega)⟩) hw (fun E9 ce9 q9 H9 locs9 hxp9 hw9 hce9 hcv9 hcl9 => zxout (pc := 2) ht hlocks hw9 hce9 hcv9 hcl9 (by (obtain ⟨rfl, hq9⟩ := hxp9; (try dsimp only); first | exact ⟨rfl, (by (unfold cdSer; (repeat' split) <;> omega))⟩ | exact Or.inl ⟨rfl, (by (unfold cdSer; (repeat' split) <;> omega))⟩ | exact Or.inr ⟨rfl, (by (unfold cdSer; (repeat' split) <;> omega))⟩ | exact Or.inr (Or.inl ⟨rfl, (by (unfold cdSer; (repeat' split) <;> omega))⟩))) (by show 0 + 1 ≤ 1; omega) (by show 0 + 6 ≤ 6; omega)) (fun r2 H locs hp2 hw => ?_)
  obtain ⟨⟨hrs2, p02, hrp2, ⟨hks2, hls2⟩, po2, eo2, fo2, ⟨hr02, hr82, hr132, hr152⟩, ⟨hkpo2, hkeo2, hkfo2⟩, ⟨hlpo2, hleo2, hlfo2⟩, hD2, hS2, hU2, hUs2, hE2, hdt2⟩, his2⟩ := hp2
  have hdq2 : dtR X r2 fo2 (datM M (a).toNat) := hdt2
  have hdn2 := hdq2.1
  have hdm2 := hdq2.2.1
  have hsb2 : X r2 1 = serM M (a).toNat 1 := hD2.1.1
  have hsd2 : 0 ≤ serM M (a).toNat 1 ∧ serM M (a).toNat 1 ≤ 105190559 := hS2.1
  refine zgetI (pc := 5) hx hb hG hown hw hks2 (T := TX5) rfl 16 (by decide) rfl wf_X8_256 rfl dX8_dates_5 ?_
  exact vx_ret (zretI (pc := 8) hx hb hlocks hr hw (by show 0 + 1 ≤ 1; omega) (by show 0 + 6 ≤ 6; omega) dX8_dates_8 ⟨by (try dsimp only) <;> (exact ⟨by omega, by (unfold cdSer; (repeat' split) <;> omega)⟩), rfl, rfl, rfl⟩)
set_option maxHeartbeats 4000000 in
set_option maxRecDepth 100000 in
theorem c_X8_dateAt (l : Launch) (hl9 : l.stackTraces = false) (Γ : zG) (K : zK) (X : zX) (Rf : zR) (x : Nat) (a : Int) (k9 : Int) (ρ : zL) (M : zM) (hC : repC ρ K X Rf x M) (hM : okM M) (h1 : fit a ∧ fit k9) : Cx l yX8_dateAt cX8_dateAt 4 (some .int) 7 2 12 Γ [.ref x, .int (iI a), .int (iI k9)] K X Rf (pI (zp0 K X Rf (fun r : Int => r = dtL (datM M a.toNat) k9 ∧ cdSerK M a k9 = 0))) (fun E : String => E = "java/lang/IndexOutOfBoundsException" ∧ cdSerK M a k9 = 1) := by
  refine Cx.of (by decide +kernel) (Nat.le_of_ble_eq_true rfl) ?_
  intro p e s m below meth c ls hx hb hr hml hown hG hlocks hname ht hX hw hl
  have hl : lv_has ls 4 [(0, .ref x), (1, .int (iI a)), (2, .int (iI k9))] := hl
  obtain ⟨⟨hk, hlx⟩, pr, pl, sr, dr, na, wo, ⟨hr0, hr2, hr4, hr6, hr7, hrd⟩, ⟨hkpr, hkpl, hksr, hkdr, hkna⟩, ⟨hlpr, hlpl, hlsr, hldr, hlna⟩, ⟨hx1, hx3, hx5⟩, hpt, hpl, hse, hwo⟩ := id hC
  obtain ⟨⟨hb1, hb2, hb3, hb4⟩, hokP, hokL, hokS, hokW, hokF⟩ := id hM
  refine lv_aload_n (pc := 0) hx hb dX8_dateAt_0 rfl (lv_at hl 0 rfl) ?_
  refine lv_iload_n (pc := 1) hx hb dX8_dateAt_1 rfl (lv_at hl 1 rfl) ?_
  refine zxkRp (pc := 2) (zxrV (As := [.int (iI a)]) hx hb hml hown hG hX hw (c_X8_needSeries l hl9 Γ K X Rf x a sr pl (ρ) M (by (first | assumption | omega)) (by (first | assumption | omega)) (by (first | assumption | omega)) (by (first | assumption | omega)) (by (first | assumption | omega)) (by (first | assumption | omega))) (T := TX8) hk rfl cb_X8_needSeries wl_X8_214 rfl ⟨Nat.le_of_ble_eq_true rfl, Nat.le_of_ble_eq_true rfl⟩ hl.1 rfl (Nat.le_of_ble_eq_true rfl) dX8_dateAt_2 ⟨(by show 0 + 1 ≤ 2; omega), (by show 0 + 6 ≤ 12; omega)⟩) hw (fun E9 ce9 q9 H9 locs9 hxp9 hw9 hce9 hcv9 hcl9 => zxout (pc := 2) ht hlocks hw9 hce9 hcv9 hcl9 (by (obtain ⟨rfl, hq9⟩ := hxp9; (try dsimp only); first | exact ⟨rfl, (by (unfold cdSerK; (repeat' split) <;> omega))⟩ | exact Or.inl ⟨rfl, (by (unfold cdSerK; (repeat' split) <;> omega))⟩ | exact Or.inr ⟨rfl, (by (unfold cdSerK; (repeat' split) <;> omega))⟩ | exact Or.inr (Or.inl ⟨rfl, (by (unfold cdSerK; (repeat' split) <;> omega))⟩))) (by show 0 + 1 ≤ 2; omega) (by show 0 + 6 ≤ 12; omega)) (fun r2 H locs hp2 hw => ?_)
  obtain ⟨⟨hrs2, p02, hrp2, ⟨hks2, hls2⟩, po2, eo2, fo2, ⟨hr02, hr82, hr132, hr152⟩, ⟨hkpo2, hkeo2, hkfo2⟩, ⟨hlpo2, hleo2, hlfo2⟩, hD2, hS2, hU2, hUs2, hE2, hdt2⟩, his2⟩ := hp2
  have hdq2 : dtR X r2 fo2 (datM M (a).toNat) := hdt2
  have hdn2 := hdq2.1
  have hdm2 := hdq2.2.1
  have hsb2 : X r2 1 = serM M (a).toNat 1 := hD2.1.1
  have hsd2 : 0 ≤ serM M (a).toNat 1 ∧ serM M (a).toNat 1 ≤ 105190559 := hS2.1
  refine lv_astore_n (pc := 5) (lv' := [(3, .ref r2), (0, .ref x), (1, .int (iI a)), (2, .int (iI k9))]) hx hb dX8_dateAt_5 rfl hl (by decide) rfl (fun ls hl => ?_)
  refine lv_aload_n (pc := 6) hx hb dX8_dateAt_6 rfl (lv_at hl 0 rfl) ?_
  refine lv_iload_n (pc := 7) hx hb dX8_dateAt_7 rfl (lv_at hl 3 rfl) ?_
  refine zxkVp (pc := 8) (zxrS (As := [.ref r2, .int (iI k9)]) hx hb hml hown hG hX hw (c_X8_needDate l hl9 Γ K X Rf r2 k9  (by (first | assumption | omega)) (by (first | assumption | omega))) cb_X8_needDate wl_X8_259 rfl ⟨Nat.le_of_ble_eq_true rfl, Nat.le_of_ble_eq_true rfl⟩ hl.1 rfl (Nat.le_of_ble_eq_true rfl) dX8_dateAt_8 ⟨(by show 0 + 1 + 1 ≤ 2; omega), (by show 0 + 6 + 6 ≤ 12; omega)⟩) hw (fun E9 ce9 q9 H9 locs9 hxp9 hw9 hce9 hcv9 hcl9 => zxout (pc := 8) ht hlocks hw9 hce9 hcv9 hcl9 (by (obtain ⟨rfl, hq9⟩ := hxp9; (try dsimp only); first | exact ⟨rfl, (by (unfold cdSerK; (repeat' split) <;> omega))⟩ | exact Or.inl ⟨rfl, (by (unfold cdSerK; (repeat' split) <;> omega))⟩ | exact Or.inr ⟨rfl, (by (unfold cdSerK; (repeat' split) <;> omega))⟩ | exact Or.inr (Or.inl ⟨rfl, (by (unfold cdSerK; (repeat' split) <;> omega))⟩))) (by show 0 + 1 + 1 ≤ 2; omega) (by show 0 + 6 + 6 ≤ 12; omega)) (fun H locs hp8 hw => ?_)
  refine lv_aload_n (pc := 11) hx hb dX8_dateAt_11 rfl (lv_at hl 0 rfl) ?_
  refine lv_iload_n (pc := 12) hx hb dX8_dateAt_12 rfl (lv_at hl 3 rfl) ?_
  refine zkIp (pc := 13) (zrV (As := [.int (iI k9)]) hx hb hml hown hG hw (c_X5_date_L l Γ K X Rf r2 k9 fo2 (datM M a.toNat) (by (first | assumption | omega)) (by (first | assumption | omega)) (by (first | assumption | omega)) (by (first | assumption | omega)) (by (first | assumption | omega))) (T := TX5) hks2 rfl cb_X5_date wl_X8_263 rfl ⟨Nat.le_of_ble_eq_true rfl, Nat.le_of_ble_eq_true rfl⟩ hl.1 rfl (Nat.le_of_ble_eq_true rfl) dX8_dateAt_13 ⟨(by show 0 + 1 + 1 + 0 ≤ 2; omega), (by show 0 + 6 + 6 + 0 ≤ 12; omega)⟩) hw (fun r13 H locs hp13 hw => ?_)
  subst hp13
  have hp13f0 := dtL_rng (by assumption : dtR X r2 fo2 (datM M a.toNat)) k9
  exact vx_ret (zretI (pc := 16) hx hb hlocks hr hw (by show 0 + 1 + 1 ≤ 2; omega) (by show 0 + 6 + 6 ≤ 12; omega) dX8_dateAt_16 ⟨by (try dsimp only) <;> (exact ⟨by rfl, by (unfold cdSerK; (repeat' split) <;> omega)⟩), rfl, rfl, rfl⟩)
set_option maxHeartbeats 4000000 in
set_option maxRecDepth 100000 in
theorem c_X8_dateFrom (l : Launch) (hl9 : l.stackTraces = false) (Γ : zG) (K : zK) (X : zX) (Rf : zR) (x : Nat) (a : Int) (day : Int) (ρ : zL) (M : zM) (hC : repC ρ K X Rf x M) (hM : okM M) (h1 : fit a ∧ fit day) : Cx l yX8_dateFrom cX8_dateFrom 4 (some .int) 7 2 12 Γ [.ref x, .int (iI a), .int (iI day)] K X Rf (pI (zp0 K X Rf (fun r : Int => r = ffD (datM M a.toNat) day ∧ cdSerD M a day = 0))) (fun E : String => E = "java/lang/IndexOutOfBoundsException" ∧ cdSerD M a day = 1) := by
  refine Cx.of (by decide +kernel) (Nat.le_of_ble_eq_true rfl) ?_
  intro p e s m below meth c ls hx hb hr hml hown hG hlocks hname ht hX hw hl
  have hl : lv_has ls 4 [(0, .ref x), (1, .int (iI a)), (2, .int (iI day))] := hl
  obtain ⟨⟨hk, hlx⟩, pr, pl, sr, dr, na, wo, ⟨hr0, hr2, hr4, hr6, hr7, hrd⟩, ⟨hkpr, hkpl, hksr, hkdr, hkna⟩, ⟨hlpr, hlpl, hlsr, hldr, hlna⟩, ⟨hx1, hx3, hx5⟩, hpt, hpl, hse, hwo⟩ := id hC
  obtain ⟨⟨hb1, hb2, hb3, hb4⟩, hokP, hokL, hokS, hokW, hokF⟩ := id hM
  refine lv_aload_n (pc := 0) hx hb dX8_dateFrom_0 rfl (lv_at hl 0 rfl) ?_
  refine lv_iload_n (pc := 1) hx hb dX8_dateFrom_1 rfl (lv_at hl 1 rfl) ?_
  refine zxkRp (pc := 2) (zxrV (As := [.int (iI a)]) hx hb hml hown hG hX hw (c_X8_needSeries l hl9 Γ K X Rf x a sr pl (ρ) M (by (first | assumption | omega)) (by (first | assumption | omega)) (by (first | assumption | omega)) (by (first | assumption | omega)) (by (first | assumption | omega)) (by (first | assumption | omega))) (T := TX8) hk rfl cb_X8_needSeries wl_X8_214 rfl ⟨Nat.le_of_ble_eq_true rfl, Nat.le_of_ble_eq_true rfl⟩ hl.1 rfl (Nat.le_of_ble_eq_true rfl) dX8_dateFrom_2 ⟨(by show 0 + 1 ≤ 2; omega), (by show 0 + 6 ≤ 12; omega)⟩) hw (fun E9 ce9 q9 H9 locs9 hxp9 hw9 hce9 hcv9 hcl9 => zxout (pc := 2) ht hlocks hw9 hce9 hcv9 hcl9 (by (obtain ⟨rfl, hq9⟩ := hxp9; (try dsimp only); first | exact ⟨rfl, (by (unfold cdSerD; (repeat' split) <;> omega))⟩ | exact Or.inl ⟨rfl, (by (unfold cdSerD; (repeat' split) <;> omega))⟩ | exact Or.inr ⟨rfl, (by (unfold cdSerD; (repeat' split) <;> omega))⟩ | exact Or.inr (Or.inl ⟨rfl, (by (unfold cdSerD; (repeat' split) <;> omega))⟩))) (by show 0 + 1 ≤ 2; omega) (by show 0 + 6 ≤ 12; omega)) (fun r2 H locs hp2 hw => ?_)
  obtain ⟨⟨hrs2, p02, hrp2, ⟨hks2, hls2⟩, po2, eo2, fo2, ⟨hr02, hr82, hr132, hr152⟩, ⟨hkpo2, hkeo2, hkfo2⟩, ⟨hlpo2, hleo2, hlfo2⟩, hD2, hS2, hU2, hUs2, hE2, hdt2⟩, his2⟩ := hp2
  have hdq2 : dtR X r2 fo2 (datM M (a).toNat) := hdt2
  have hdn2 := hdq2.1
  have hdm2 := hdq2.2.1
  have hsb2 : X r2 1 = serM M (a).toNat 1 := hD2.1.1
  have hsd2 : 0 ≤ serM M (a).toNat 1 ∧ serM M (a).toNat 1 ≤ 105190559 := hS2.1
  refine lv_astore_n (pc := 5) (lv' := [(3, .ref r2), (0, .ref x), (1, .int (iI a)), (2, .int (iI day))]) hx hb dX8_dateFrom_5 rfl hl (by decide) rfl (fun ls hl => ?_)
  refine lv_iload_n (pc := 6) hx hb dX8_dateFrom_6 rfl (lv_at hl 3 rfl) ?_
  refine zxkVp (pc := 7) (zxrS (As := [.int (iI day)]) hx hb hml hown hG hX hw (c_X8_needDay l hl9 Γ K X Rf day  (by (first | assumption | omega))) cb_X8_needDay wl_X8_77 rfl ⟨Nat.le_of_ble_eq_true rfl, Nat.le_of_ble_eq_true rfl⟩ hl.1 rfl (Nat.le_of_ble_eq_true rfl) dX8_dateFrom_7 ⟨(by show 0 + 1 + 1 ≤ 2; omega), (by show 0 + 6 + 6 ≤ 12; omega)⟩) hw (fun E9 ce9 q9 H9 locs9 hxp9 hw9 hce9 hcv9 hcl9 => zxout (pc := 7) ht hlocks hw9 hce9 hcv9 hcl9 (by (obtain ⟨rfl, hq9⟩ := hxp9; (try dsimp only); first | exact ⟨rfl, (by (unfold cdSerD; (repeat' split) <;> omega))⟩ | exact Or.inl ⟨rfl, (by (unfold cdSerD; (repeat' split) <;> omega))⟩ | exact Or.inr ⟨rfl, (by (unfold cdSerD; (repeat' split) <;> omega))⟩ | exact Or.inr (Or.inl ⟨rfl, (by (unfold cdSerD; (repeat' split) <;> omega))⟩))) (by show 0 + 1 + 1 ≤ 2; omega) (by show 0 + 6 + 6 ≤ 12; omega)) (fun H locs hp7 hw => ?_)
  refine lv_aload_n (pc := 10) hx hb dX8_dateFrom_10 rfl (lv_at hl 0 rfl) ?_
  refine lv_iload_n (pc := 11) hx hb dX8_dateFrom_11 rfl (lv_at hl 3 rfl) ?_
  refine zkIp (pc := 12) (zrV (As := [.int (iI day)]) hx hb hml hown hG hw (c_X5_firstFrom l Γ K X Rf r2 day fo2 (datM M a.toNat) (by (first | assumption | omega)) (by (first | assumption | omega)) (by (first | assumption | omega)) (by (first | assumption | omega)) (by (first | assumption | omega))) (T := TX5) hks2 rfl cb_X5_firstFrom wl_X8_266 rfl ⟨Nat.le_of_ble_eq_true rfl, Nat.le_of_ble_eq_true rfl⟩ hl.1 rfl (Nat.le_of_ble_eq_true rfl) dX8_dateFrom_12 ⟨(by show 0 + 1 + 1 + 0 ≤ 2; omega), (by show 0 + 6 + 6 + 0 ≤ 12; omega)⟩) hw (fun r12 H locs hp12 hw => ?_)
  subst hp12
  have hp12f0 := ffD_rng (l := (datM M a.toNat)) (d := day)
  exact vx_ret (zretI (pc := 15) hx hb hlocks hr hw (by show 0 + 1 + 1 ≤ 2; omega) (by show 0 + 6 + 6 ≤ 12; omega) dX8_dateFrom_15 ⟨by (try dsimp only) <;> (exact ⟨by rfl, by (unfold cdSerD; (repeat' split) <;> omega)⟩), rfl, rfl, rfl⟩)
set_option maxHeartbeats 4000000 in
set_option maxRecDepth 100000 in
theorem c_X8_common (l : Launch) (hl9 : l.stackTraces = false) (Γ : zG) (K : zK) (X : zX) (Rf : zR) (x : Nat) (a : Int) (b9 : Int) (ρ : zL) (M : zM) (hC : repC ρ K X Rf x M) (hM : okM M) (h1 : fit a ∧ fit b9) : Cx l yX8_common cX8_common 5 (some .int) 7 2 12 Γ [.ref x, .int (iI a), .int (iI b9)] K X Rf (pI (zp0 K X Rf (fun r : Int => r = shD (datM M a.toNat) (datM M b9.toNat) ∧ cdSerS M a b9 = 0))) (fun E : String => E = "java/lang/IndexOutOfBoundsException" ∧ cdSerS M a b9 = 1) := by
  refine Cx.of (by decide +kernel) (Nat.le_of_ble_eq_true rfl) ?_
  intro p e s m below meth c ls hx hb hr hml hown hG hlocks hname ht hX hw hl
  have hl : lv_has ls 5 [(0, .ref x), (1, .int (iI a)), (2, .int (iI b9))] := hl
  obtain ⟨⟨hk, hlx⟩, pr, pl, sr, dr, na, wo, ⟨hr0, hr2, hr4, hr6, hr7, hrd⟩, ⟨hkpr, hkpl, hksr, hkdr, hkna⟩, ⟨hlpr, hlpl, hlsr, hldr, hlna⟩, ⟨hx1, hx3, hx5⟩, hpt, hpl, hse, hwo⟩ := id hC
  obtain ⟨⟨hb1, hb2, hb3, hb4⟩, hokP, hokL, hokS, hokW, hokF⟩ := id hM
  refine lv_aload_n (pc := 0) hx hb dX8_common_0 rfl (lv_at hl 0 rfl) ?_
  refine lv_iload_n (pc := 1) hx hb dX8_common_1 rfl (lv_at hl 1 rfl) ?_
  refine zxkRp (pc := 2) (zxrV (As := [.int (iI a)]) hx hb hml hown hG hX hw (c_X8_needSeries l hl9 Γ K X Rf x a sr pl (ρ) M (by (first | assumption | omega)) (by (first | assumption | omega)) (by (first | assumption | omega)) (by (first | assumption | omega)) (by (first | assumption | omega)) (by (first | assumption | omega))) (T := TX8) hk rfl cb_X8_needSeries wl_X8_214 rfl ⟨Nat.le_of_ble_eq_true rfl, Nat.le_of_ble_eq_true rfl⟩ hl.1 rfl (Nat.le_of_ble_eq_true rfl) dX8_common_2 ⟨(by show 0 + 1 ≤ 2; omega), (by show 0 + 6 ≤ 12; omega)⟩) hw (fun E9 ce9 q9 H9 locs9 hxp9 hw9 hce9 hcv9 hcl9 => zxout (pc := 2) ht hlocks hw9 hce9 hcv9 hcl9 (by (obtain ⟨rfl, hq9⟩ := hxp9; (try dsimp only); first | exact ⟨rfl, (by (unfold cdSerS; (repeat' split) <;> omega))⟩ | exact Or.inl ⟨rfl, (by (unfold cdSerS; (repeat' split) <;> omega))⟩ | exact Or.inr ⟨rfl, (by (unfold cdSerS; (repeat' split) <;> omega))⟩ | exact Or.inr (Or.inl ⟨rfl, (by (unfold cdSerS; (repeat' split) <;> omega))⟩))) (by show 0 + 1 ≤ 2; omega) (by show 0 + 6 ≤ 12; omega)) (fun r2 H locs hp2 hw => ?_)
  obtain ⟨⟨hrs2, p02, hrp2, ⟨hks2, hls2⟩, po2, eo2, fo2, ⟨hr02, hr82, hr132, hr152⟩, ⟨hkpo2, hkeo2, hkfo2⟩, ⟨hlpo2, hleo2, hlfo2⟩, hD2, hS2, hU2, hUs2, hE2, hdt2⟩, his2⟩ := hp2
  have hdq2 : dtR X r2 fo2 (datM M (a).toNat) := hdt2
  have hdn2 := hdq2.1
  have hdm2 := hdq2.2.1
  have hsb2 : X r2 1 = serM M (a).toNat 1 := hD2.1.1
  have hsd2 : 0 ≤ serM M (a).toNat 1 ∧ serM M (a).toNat 1 ≤ 105190559 := hS2.1
  refine lv_astore_n (pc := 5) (lv' := [(3, .ref r2), (0, .ref x), (1, .int (iI a)), (2, .int (iI b9))]) hx hb dX8_common_5 rfl hl (by decide) rfl (fun ls hl => ?_)
  refine lv_aload_n (pc := 6) hx hb dX8_common_6 rfl (lv_at hl 1 rfl) ?_
  refine lv_iload_n (pc := 7) hx hb dX8_common_7 rfl (lv_at hl 3 rfl) ?_
  refine zxkRp (pc := 8) (zxrV (As := [.int (iI b9)]) hx hb hml hown hG hX hw (c_X8_needSeries l hl9 Γ K X Rf x b9 sr pl (ρ) M (by (first | assumption | omega)) (by (first | assumption | omega)) (by (first | assumption | omega)) (by (first | assumption | omega)) (by (first | assumption | omega)) (by (first | assumption | omega))) (T := TX8) hk rfl cb_X8_needSeries wl_X8_214 rfl ⟨Nat.le_of_ble_eq_true rfl, Nat.le_of_ble_eq_true rfl⟩ hl.1 rfl (Nat.le_of_ble_eq_true rfl) dX8_common_8 ⟨(by show 0 + 1 + 1 ≤ 2; omega), (by show 0 + 6 + 6 ≤ 12; omega)⟩) hw (fun E9 ce9 q9 H9 locs9 hxp9 hw9 hce9 hcv9 hcl9 => zxout (pc := 8) ht hlocks hw9 hce9 hcv9 hcl9 (by (obtain ⟨rfl, hq9⟩ := hxp9; (try dsimp only); first | exact ⟨rfl, (by (unfold cdSerS; (repeat' split) <;> omega))⟩ | exact Or.inl ⟨rfl, (by (unfold cdSerS; (repeat' split) <;> omega))⟩ | exact Or.inr ⟨rfl, (by (unfold cdSerS; (repeat' split) <;> omega))⟩ | exact Or.inr (Or.inl ⟨rfl, (by (unfold cdSerS; (repeat' split) <;> omega))⟩))) (by show 0 + 1 + 1 ≤ 2; omega) (by show 0 + 6 + 6 ≤ 12; omega)) (fun r8 H locs hp8 hw => ?_)
  obtain ⟨⟨hrs8, p08, hrp8, ⟨hks8, hls8⟩, po8, eo8, fo8, ⟨hr08, hr88, hr138, hr158⟩, ⟨hkpo8, hkeo8, hkfo8⟩, ⟨hlpo8, hleo8, hlfo8⟩, hD8, hS8, hU8, hUs8, hE8, hdt8⟩, his8⟩ := hp8
  have hdq8 : dtR X r8 fo8 (datM M (b9).toNat) := hdt8
  have hdn8 := hdq8.1
  have hdm8 := hdq8.2.1
  have hsb8 : X r8 1 = serM M (b9).toNat 1 := hD8.1.1
  have hsd8 : 0 ≤ serM M (b9).toNat 1 ∧ serM M (b9).toNat 1 ≤ 105190559 := hS8.1
  refine lv_astore (pc := 11) (lv' := [(4, .ref r8), (3, .ref r2), (0, .ref x), (1, .int (iI a)), (2, .int (iI b9))]) hx hb dX8_common_11 hl (by decide) rfl (fun ls hl => ?_)
  refine lv_aload_n (pc := 13) hx hb dX8_common_13 rfl (lv_at hl 1 rfl) ?_
  refine lv_aload (pc := 14) hx hb dX8_common_14 (lv_at hl 0 rfl) ?_
  refine zkIp (pc := 16) (zrV (As := [.ref r8]) hx hb hml hown hG hw (c_X5_countShared l Γ K X Rf r2 r8 fo2 (datM M a.toNat) fo8 (datM M b9.toNat) (by (first | assumption | omega)) (by (first | assumption | omega)) (by (first | assumption | omega)) (by (first | assumption | omega)) (by (first | assumption | omega)) (by (first | assumption | omega)) (by (first | assumption | omega)) (by (first | assumption | omega))) (T := TX5) hks2 rfl cb_X5_countShared wl_X8_270 rfl ⟨Nat.le_of_ble_eq_true rfl, Nat.le_of_ble_eq_true rfl⟩ hl.1 rfl (Nat.le_of_ble_eq_true rfl) dX8_common_16 ⟨(by show 0 + 1 + 1 + 0 ≤ 2; omega), (by show 0 + 6 + 6 + 0 ≤ 12; omega)⟩) hw (fun r16 H locs hp16 hw => ?_)
  subst hp16
  exact vx_ret (zretI (pc := 19) hx hb hlocks hr hw (by show 0 + 1 + 1 ≤ 2; omega) (by show 0 + 6 + 6 ≤ 12; omega) dX8_common_19 ⟨by (try dsimp only) <;> (exact ⟨by rfl, by (unfold cdSerS; (repeat' split) <;> omega)⟩), rfl, rfl, rfl⟩)
set_option maxHeartbeats 4000000 in
set_option maxRecDepth 100000 in
theorem c_X8_widestGap (l : Launch) (hl9 : l.stackTraces = false) (Γ : zG) (K : zK) (X : zX) (Rf : zR) (x : Nat) (a : Int) (ρ : zL) (M : zM) (hC : repC ρ K X Rf x M) (hM : okM M) (h1 : fit a) : Cx l yX8_widestGap cX8_widestGap 2 (some .int) 7 1 6 Γ [.ref x, .int (iI a)] K X Rf (pI (zp0 K X Rf (fun r : Int => r = wdD (datM M a.toNat) ∧ cdSer M a = 0))) (fun E : String => E = "java/lang/IndexOutOfBoundsException" ∧ cdSer M a = 1) := by
  refine Cx.of (by decide +kernel) (Nat.le_of_ble_eq_true rfl) ?_
  intro p e s m below meth c ls hx hb hr hml hown hG hlocks hname ht hX hw hl
  have hl : lv_has ls 2 [(0, .ref x), (1, .int (iI a))] := hl
  obtain ⟨⟨hk, hlx⟩, pr, pl, sr, dr, na, wo, ⟨hr0, hr2, hr4, hr6, hr7, hrd⟩, ⟨hkpr, hkpl, hksr, hkdr, hkna⟩, ⟨hlpr, hlpl, hlsr, hldr, hlna⟩, ⟨hx1, hx3, hx5⟩, hpt, hpl, hse, hwo⟩ := id hC
  obtain ⟨⟨hb1, hb2, hb3, hb4⟩, hokP, hokL, hokS, hokW, hokF⟩ := id hM
  refine lv_aload_n (pc := 0) hx hb dX8_widestGap_0 rfl (lv_at hl 0 rfl) ?_
  refine lv_iload_n (pc := 1) hx hb dX8_widestGap_1 rfl (lv_at hl 1 rfl) ?_
  refine zxkRp (pc := 2) (zxrV (As := [.int (iI a)]) hx hb hml hown hG hX hw (c_X8_needSeries l hl9 Γ K X Rf x a sr pl (ρ) M (by (first | assumption | omega)) (by (first | assumption | omega)) (by (first | assumption | omega)) (by (first | assumption | omega)) (by (first | assumption | omega)) (by (first | assumption | omega))) (T := TX8) hk rfl cb_X8_needSeries wl_X8_214 rfl ⟨Nat.le_of_ble_eq_true rfl, Nat.le_of_ble_eq_true rfl⟩ hl.1 rfl (Nat.le_of_ble_eq_true rfl) dX8_widestGap_2 ⟨(by show 0 + 1 ≤ 1; omega), (by show 0 + 6 ≤ 6; omega)⟩) hw (fun E9 ce9 q9 H9 locs9 hxp9 hw9 hce9 hcv9 hcl9 => zxout (pc := 2) ht hlocks hw9 hce9 hcv9 hcl9 (by (obtain ⟨rfl, hq9⟩ := hxp9; (try dsimp only); first | exact ⟨rfl, (by (unfold cdSer; (repeat' split) <;> omega))⟩ | exact Or.inl ⟨rfl, (by (unfold cdSer; (repeat' split) <;> omega))⟩ | exact Or.inr ⟨rfl, (by (unfold cdSer; (repeat' split) <;> omega))⟩ | exact Or.inr (Or.inl ⟨rfl, (by (unfold cdSer; (repeat' split) <;> omega))⟩))) (by show 0 + 1 ≤ 1; omega) (by show 0 + 6 ≤ 6; omega)) (fun r2 H locs hp2 hw => ?_)
  obtain ⟨⟨hrs2, p02, hrp2, ⟨hks2, hls2⟩, po2, eo2, fo2, ⟨hr02, hr82, hr132, hr152⟩, ⟨hkpo2, hkeo2, hkfo2⟩, ⟨hlpo2, hleo2, hlfo2⟩, hD2, hS2, hU2, hUs2, hE2, hdt2⟩, his2⟩ := hp2
  have hdq2 : dtR X r2 fo2 (datM M (a).toNat) := hdt2
  have hdn2 := hdq2.1
  have hdm2 := hdq2.2.1
  have hsb2 : X r2 1 = serM M (a).toNat 1 := hD2.1.1
  have hsd2 : 0 ≤ serM M (a).toNat 1 ∧ serM M (a).toNat 1 ≤ 105190559 := hS2.1
  refine zkIp (pc := 5) (zrV (As := []) hx hb hml hown hG hw (c_X5_greatestGap l Γ K X Rf r2 fo2 (datM M a.toNat) (by (first | assumption | omega)) (by (first | assumption | omega)) (by (first | assumption | omega)) (by (first | assumption | omega))) (T := TX5) hks2 rfl cb_X5_greatestGap wl_X8_274 rfl ⟨Nat.le_of_ble_eq_true rfl, Nat.le_of_ble_eq_true rfl⟩ hl.1 rfl (Nat.le_of_ble_eq_true rfl) dX8_widestGap_5 ⟨(by show 0 + 1 + 0 ≤ 1; omega), (by show 0 + 6 + 0 ≤ 6; omega)⟩) hw (fun r5 H locs hp5 hw => ?_)
  subst hp5
  have hp5f0 := wdD_rng (by assumption : dtR X r2 fo2 (datM M a.toNat)).2.2.2
  exact vx_ret (zretI (pc := 8) hx hb hlocks hr hw (by show 0 + 1 ≤ 1; omega) (by show 0 + 6 ≤ 6; omega) dX8_widestGap_8 ⟨by (try dsimp only) <;> (exact ⟨by rfl, by (unfold cdSer; (repeat' split) <;> omega)⟩), rfl, rfl, rfl⟩)
set_option maxHeartbeats 4000000 in
set_option maxRecDepth 100000 in
theorem c_X8_meanGap (l : Launch) (hl9 : l.stackTraces = false) (Γ : zG) (K : zK) (X : zX) (Rf : zR) (x : Nat) (a : Int) (ρ : zL) (M : zM) (hC : repC ρ K X Rf x M) (hM : okM M) (h1 : fit a) : Cx l yX8_meanGap cX8_meanGap 2 (some .double) 7 1 6 Γ [.ref x, .int (iI a)] K X Rf (pD (zp0 K X Rf (fun r : Int => r = mgL (datM M a.toNat) ∧ cdSer M a = 0))) (fun E : String => E = "java/lang/IndexOutOfBoundsException" ∧ cdSer M a = 1) := by
  refine Cx.of (by decide +kernel) (Nat.le_of_ble_eq_true rfl) ?_
  intro p e s m below meth c ls hx hb hr hml hown hG hlocks hname ht hX hw hl
  have hl : lv_has ls 2 [(0, .ref x), (1, .int (iI a))] := hl
  obtain ⟨⟨hk, hlx⟩, pr, pl, sr, dr, na, wo, ⟨hr0, hr2, hr4, hr6, hr7, hrd⟩, ⟨hkpr, hkpl, hksr, hkdr, hkna⟩, ⟨hlpr, hlpl, hlsr, hldr, hlna⟩, ⟨hx1, hx3, hx5⟩, hpt, hpl, hse, hwo⟩ := id hC
  obtain ⟨⟨hb1, hb2, hb3, hb4⟩, hokP, hokL, hokS, hokW, hokF⟩ := id hM
  refine lv_aload_n (pc := 0) hx hb dX8_meanGap_0 rfl (lv_at hl 0 rfl) ?_
  refine lv_iload_n (pc := 1) hx hb dX8_meanGap_1 rfl (lv_at hl 1 rfl) ?_
  refine zxkRp (pc := 2) (zxrV (As := [.int (iI a)]) hx hb hml hown hG hX hw (c_X8_needSeries l hl9 Γ K X Rf x a sr pl (ρ) M (by (first | assumption | omega)) (by (first | assumption | omega)) (by (first | assumption | omega)) (by (first | assumption | omega)) (by (first | assumption | omega)) (by (first | assumption | omega))) (T := TX8) hk rfl cb_X8_needSeries wl_X8_214 rfl ⟨Nat.le_of_ble_eq_true rfl, Nat.le_of_ble_eq_true rfl⟩ hl.1 rfl (Nat.le_of_ble_eq_true rfl) dX8_meanGap_2 ⟨(by show 0 + 1 ≤ 1; omega), (by show 0 + 6 ≤ 6; omega)⟩) hw (fun E9 ce9 q9 H9 locs9 hxp9 hw9 hce9 hcv9 hcl9 => zxout (pc := 2) ht hlocks hw9 hce9 hcv9 hcl9 (by (obtain ⟨rfl, hq9⟩ := hxp9; (try dsimp only); first | exact ⟨rfl, (by (unfold cdSer; (repeat' split) <;> omega))⟩ | exact Or.inl ⟨rfl, (by (unfold cdSer; (repeat' split) <;> omega))⟩ | exact Or.inr ⟨rfl, (by (unfold cdSer; (repeat' split) <;> omega))⟩ | exact Or.inr (Or.inl ⟨rfl, (by (unfold cdSer; (repeat' split) <;> omega))⟩))) (by show 0 + 1 ≤ 1; omega) (by show 0 + 6 ≤ 6; omega)) (fun r2 H locs hp2 hw => ?_)
  obtain ⟨⟨hrs2, p02, hrp2, ⟨hks2, hls2⟩, po2, eo2, fo2, ⟨hr02, hr82, hr132, hr152⟩, ⟨hkpo2, hkeo2, hkfo2⟩, ⟨hlpo2, hleo2, hlfo2⟩, hD2, hS2, hU2, hUs2, hE2, hdt2⟩, his2⟩ := hp2
  have hdq2 : dtR X r2 fo2 (datM M (a).toNat) := hdt2
  have hdn2 := hdq2.1
  have hdm2 := hdq2.2.1
  have hsb2 : X r2 1 = serM M (a).toNat 1 := hD2.1.1
  have hsd2 : 0 ≤ serM M (a).toNat 1 ∧ serM M (a).toNat 1 ≤ 105190559 := hS2.1
  refine zkDp (pc := 5) (zrV (As := []) hx hb hml hown hG hw (c_X5_meanOfGaps l Γ K X Rf r2 fo2 (datM M a.toNat) (by (first | assumption | omega)) (by (first | assumption | omega)) (by (first | assumption | omega)) (by (first | assumption | omega))) (T := TX5) hks2 rfl cb_X5_meanOfGaps wl_X8_352 rfl ⟨Nat.le_of_ble_eq_true rfl, Nat.le_of_ble_eq_true rfl⟩ hl.1 rfl (Nat.le_of_ble_eq_true rfl) dX8_meanGap_5 ⟨(by show 0 + 1 + 0 ≤ 1; omega), (by show 0 + 6 + 0 ≤ 6; omega)⟩) hw (fun r5 H locs hp5 hw => ?_)
  subst hp5
  exact vx_ret (zretD (pc := 8) hx hb hlocks hr hw (by show 0 + 1 ≤ 1; omega) (by show 0 + 6 ≤ 6; omega) dX8_meanGap_8 ⟨by (try dsimp only) <;> (exact ⟨by rfl, by (unfold cdSer; (repeat' split) <;> omega)⟩), rfl, rfl, rfl⟩)
