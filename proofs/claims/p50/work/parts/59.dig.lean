set_option maxHeartbeats 4000000 in
set_option maxRecDepth 100000 in
theorem c_X8_mix (l : Launch) (Γ : zG) (K : zK) (X : zX) (Rf : zR) (a : Int) (b : Int)   : Ct l yX8_mix cX8_mix 4 (some .long) 0 0 0 Γ [.long (lJ a), .long (lJ b)] K X Rf (pL (zp0 K X Rf (fun r : Int => r = mx a b))) := by
  refine Ct.of (by decide +kernel) (Nat.le_of_ble_eq_true rfl) ?_
  intro p e s m below meth c ls hx hb hr hml hown hG hlocks hname hw hl
  have hl : lv_has ls 4 [(0, .long (lJ a)), (2, .long (lJ b))] := hl
  refine lv_lload_n (pc := 0) hx hb dX8_mix_0 rfl (lv_at hl 0 rfl) ?_
  refine zldc2 (pc := 1) (n := 31) hx hb hown hG wk_X8_371 dX8_mix_1 ?_
  refine zlmul (pc := 4) hx hb dX8_mix_4 ?_
  refine lv_lload_n (pc := 5) hx hb dX8_mix_5 rfl (lv_at hl 1 rfl) ?_
  refine zladd (pc := 6) hx hb dX8_mix_6 ?_
  exact zretL (pc := 7) hx hb hlocks hr hw (Nat.zero_le _) (Nat.zero_le _) dX8_mix_7 ⟨by (try dsimp only) <;> (rfl), rfl, rfl, rfl⟩
set_option maxHeartbeats 4000000 in
set_option maxRecDepth 100000 in
theorem c_X8_digestPatterns (l : Launch) (Γ : zG) (K : zK) (X : zX) (Rf : zR) (x : Nat) (v : Int) (ρ : zL) (M : zM) (hC : repC ρ K X Rf x M) (hM : okM M) : Ct l yX8_digestPatterns cX8_digestPatterns 7 (some .long) 4 0 0 Γ [.ref x, .long (lJ v)] K X Rf (pL (zp0 K X Rf (fun r : Int => r = dgL (dgPa M) (mx v (wI (M 40 1))) 24))) := by
  refine Ct.of (by decide +kernel) (Nat.le_of_ble_eq_true rfl) ?_
  intro p e s m below meth c ls hx hb hr hml hown hG hlocks hname hw hl
  have hl : lv_has ls 7 [(0, .ref x), (1, .long (lJ v))] := hl
  obtain ⟨⟨hk, hlx⟩, pr, pl, sr, dr, na, wo, ⟨hr0, hr2, hr4, hr6, hr7, hrd⟩, ⟨hkpr, hkpl, hksr, hkdr, hkna⟩, ⟨hlpr, hlpl, hlsr, hldr, hlna⟩, ⟨hx1, hx3, hx5⟩, hpt, hpl, hse, hwo⟩ := id hC
  obtain ⟨⟨hb1, hb2, hb3, hb4⟩, hokP, hokL, hokS, hokW, hokF⟩ := id hM
  refine lv_lload_n (pc := 0) hx hb dX8_digestPatterns_0 rfl (lv_at hl 1 rfl) ?_
  refine lv_aload_n (pc := 1) hx hb dX8_digestPatterns_1 rfl (lv_at hl 0 rfl) ?_
  refine zgetI (pc := 2) hx hb hG hown hw hk (T := TX8) rfl 1 (by decide) rfl wf_X8_15 rfl dX8_digestPatterns_2 ?_
  refine zi2lw (pc := 5) hx hb dX8_digestPatterns_5 ?_
  refine zkLp (pc := 6) (zrS (As := [.long (lJ v), .long (lJ (wI (X x 1)))]) hx hb hml hown hG hw (c_X8_mix l Γ K X Rf v (wI (X x 1))  ) cb_X8_mix wl_X8_373 rfl ⟨Nat.le_of_ble_eq_true rfl, Nat.le_of_ble_eq_true rfl⟩ hl.1 rfl (Nat.le_of_ble_eq_true rfl) dX8_digestPatterns_6 ⟨Nat.zero_le _, Nat.zero_le _⟩) hw (fun r6 H locs hp6 hw => ?_)
  subst hp6
  refine ztopL (fun x9 ex9 => ?_)
  refine lv_lstore_n (pc := 9) (lv' := [(3, .long (lJ x9)), (0, .ref x), (1, .long (lJ v))]) hx hb dX8_digestPatterns_9 rfl hl (by decide) rfl (fun ls hl => ?_)
  refine ziconst (pc := 10) (n := 0) hx hb dX8_digestPatterns_10 ?_
  refine lv_istore (pc := 11) (lv' := [(5, .int (iI 0)), (3, .long (lJ x9)), (0, .ref x), (1, .long (lJ v))]) hx hb dX8_digestPatterns_11 hl (by decide) rfl (fun ls hl => ?_)
  have lp13 : ∀ (n13 : Nat) (ix : Int) (vv : Int) (H : Heap) (locs : List Loc), (hi : 0 ≤ ix ∧ ix ≤ 24) → (hv : vv = dgL (dgPa M) (mx v (wI (M 40 1))) ix.toNat) → ((24 - ix).toNat < n13) → Wd Γ (zA K s.heap.size) K X Rf s H locs → ∀ ls : Array Slot, lv_has ls 7 [(5, .int (iI ix)), (3, .long (lJ vv)), (0, .ref x), (1, .long (lJ v))] → W p l e (rmL 4 0 0) s m ([.ref x, .long (lJ v)] : List Value).toArray below meth c H locs 0 0 (MQ below (zQ Γ K s.heap.size (pL (zp0 K X Rf (fun r : Int => r = dgL (dgPa M) (mx v (wI (M 40 1))) 24)))) ([.ref x, .long (lJ v)] : List Value).toArray s 0 0 (zA K s.heap.size)) (F0 m 13 ls []) := by
    intro n13
    induction n13 with
    | zero => intro ix vv H locs hi hv hm13; exact absurd hm13 (Nat.not_lt_zero _)
    | succ n13 ih13 =>
      intro ix vv H locs hi hv hm13 hw ls hl
      refine lv_iload (pc := 13) hx hb dX8_digestPatterns_13 (lv_at hl 0 rfl) ?_
      refine lv_aload_n (pc := 15) hx hb dX8_digestPatterns_15 rfl (lv_at hl 2 rfl) ?_
      refine zgetR (pc := 16) hx hb hG hown hw hk (T := TX8) rfl 0 (by decide) rfl wf_X8_9 rfl hr0 dX8_digestPatterns_16 ?_
      refine zlen6 (pc := 19) hx hb hw hkpr dX8_digestPatterns_19 ?_
      refine zicmp_ge (pc := 20) hx hb 71 (by omega) (by omega) dX8_digestPatterns_20 (by decide) (fun c20 => ?_) (fun c20 => ?_)
      · skip
        refine lv_lload_n (pc := 71) hx hb dX8_digestPatterns_71 rfl (lv_at hl 1 rfl) ?_
        exact zretL (pc := 72) hx hb hlocks hr hw (Nat.zero_le _) (Nat.zero_le _) dX8_digestPatterns_72 ⟨by (try dsimp only) <;> (rw [hv, show ix = 24 by omega]; rfl), rfl, rfl, rfl⟩
      · skip
        refine lv_aload_n (pc := 23) hx hb dX8_digestPatterns_23 rfl (lv_at hl 2 rfl) ?_
        refine zgetR (pc := 24) hx hb hG hown hw hk (T := TX8) rfl 0 (by decide) rfl wf_X8_9 rfl hr0 dX8_digestPatterns_24 ?_
        refine lv_iload (pc := 27) hx hb dX8_digestPatterns_27 (lv_at hl 0 rfl) ?_
        refine zaaldQ0 (pc := 29) hx hb hw hkpr ⟨by omega, by omega⟩ (by omega) dX8_digestPatterns_29 (fun hq29 => ?_) (fun q29 hq29 => ?_)
        · skip
          have hno := hpt.no (k := ix.toNat) (by omega) hq29
          refine lv_astoreN (pc := 30) (lv' := [(6, .null), (5, .int (iI ix)), (3, .long (lJ vv)), (0, .ref x), (1, .long (lJ v))]) hx hb dX8_digestPatterns_30 hl (by decide) rfl (fun ls hl => ?_)
          refine lv_aloadN (pc := 32) hx hb dX8_digestPatterns_32 (lv_at hl 0 rfl) ?_
          refine lv_ifnullN (pc := 34) (tgt := 65) hx hb dX8_digestPatterns_34 (by decide) ?_
          refine ziinc (pc := 65) (lv' := [(5, .int (iI (ix + 1))), (6, .null), (3, .long (lJ vv)), (0, .ref x), (1, .long (lJ v))]) hx hb 1 dX8_digestPatterns_65 hl rfl (by decide) rfl (fun ls hl => ?_)
          obtain ⟨x65, ex65⟩ : ∃ zz : Int, zz = (ix + 1) := ⟨_, rfl⟩
          rw [← ex65] at hl
          refine lv_goto (pc := 68) (tgt := 13) hx hb dX8_digestPatterns_68 (by decide) ?_
          exact ih13 x65 vv _ _ (by (first | assumption | omega)) (by rw [ex65, dgL_s hi.1, ← hv]; unfold dgPa; first | (rw [if_pos hqi, ex64, ex50, cntT_congr hqs.1 hqs.2.1 hqs.2.2, nextT_congr hqs.1 hqs.2.1 hqs.2.2]) | (rw [if_neg (by omega)])) (by omega) hw _ (lv_sub hl [0, 2, 3, 4] rfl)
        · skip
          obtain ⟨hqi, hqk, hqs⟩ := hpt.at (k := ix.toNat) (by omega) hq29
          have hoa := okP_same hqs (hokP ix.toNat hqi)
          refine lv_astore (pc := 30) (lv' := [(6, .ref q29), (5, .int (iI ix)), (3, .long (lJ vv)), (0, .ref x), (1, .long (lJ v))]) hx hb dX8_digestPatterns_30 hl (by decide) rfl (fun ls hl => ?_)
          refine lv_aload (pc := 32) hx hb dX8_digestPatterns_32 (lv_at hl 0 rfl) ?_
          refine lv_ifnull (pc := 34) hx hb dX8_digestPatterns_34 ?_
          refine lv_lload_n (pc := 37) hx hb dX8_digestPatterns_37 rfl (lv_at hl 2 rfl) ?_
          refine lv_aload (pc := 38) hx hb dX8_digestPatterns_38 (lv_at hl 0 rfl) ?_
          refine zsipush (pc := 40) (n := 2000) hx hb dX8_digestPatterns_40 rfl ?_
          refine zkIp (pc := 43) (zrV (As := [.int (iI 2000)]) hx hb hml hown hG hw (c_X3_countIn l Γ K X Rf q29 2000  (by (first | assumption | omega)) (by (first | assumption | omega)) (by (first | assumption | omega))) (T := TX3) hqk rfl cb_X3_countIn wl_X8_129 rfl ⟨Nat.le_of_ble_eq_true rfl, Nat.le_of_ble_eq_true rfl⟩ hl.1 rfl (Nat.le_of_ble_eq_true rfl) dX8_digestPatterns_43 ⟨Nat.zero_le _, Nat.zero_le _⟩) hw (fun r43 H locs hp43 hw => ?_)
          subst hp43
          have hp43f0 := cntT_rng (X q29) (12 * (2000 - 1900)) 12
          refine zi2lw (pc := 46) hx hb dX8_digestPatterns_46 ?_
          refine zkLp (pc := 47) (zrS (As := [.long (lJ vv), .long (lJ (wI (cntT (X q29) (12 * (2000 - 1900)) 12)))]) hx hb hml hown hG hw (c_X8_mix l Γ K X Rf vv (wI (cntT (X q29) (12 * (2000 - 1900)) 12))  ) cb_X8_mix wl_X8_373 rfl ⟨Nat.le_of_ble_eq_true rfl, Nat.le_of_ble_eq_true rfl⟩ hl.1 rfl (Nat.le_of_ble_eq_true rfl) dX8_digestPatterns_47 ⟨Nat.zero_le _, Nat.zero_le _⟩) hw (fun r47 H locs hp47 hw => ?_)
          subst hp47
          refine ztopL (fun x50 ex50 => ?_)
          refine lv_lstore_n (pc := 50) (lv' := [(3, .long (lJ x50)), (6, .ref q29), (5, .int (iI ix)), (0, .ref x), (1, .long (lJ v))]) hx hb dX8_digestPatterns_50 rfl hl (by decide) rfl (fun ls hl => ?_)
          refine lv_lload_n (pc := 51) hx hb dX8_digestPatterns_51 rfl (lv_at hl 0 rfl) ?_
          refine lv_aload (pc := 52) hx hb dX8_digestPatterns_52 (lv_at hl 1 rfl) ?_
          refine zldcw (pc := 54) (n := 36600) hx hb hown hG wk_X8_377 dX8_digestPatterns_54 ?_
          refine zkIp (pc := 57) (zrV (As := [.int (iI 36600)]) hx hb hml hown hG hw (c_X3_firstFrom l Γ K X Rf q29 36600  (by (first | assumption | omega)) (by (first | assumption | omega)) (by (first | assumption | omega))) (T := TX3) hqk rfl cb_X3_firstFrom wl_X8_135 rfl ⟨Nat.le_of_ble_eq_true rfl, Nat.le_of_ble_eq_true rfl⟩ hl.1 rfl (Nat.le_of_ble_eq_true rfl) dX8_digestPatterns_57 ⟨Nat.zero_le _, Nat.zero_le _⟩) hw (fun r57 H locs hp57 hw => ?_)
          subst hp57
          have hp57f0 := nxT_rng (X q29) 36600 (2400 - mi 36600).toNat (mi 36600)
          refine zi2lw (pc := 60) hx hb dX8_digestPatterns_60 ?_
          refine zkLp (pc := 61) (zrS (As := [.long (lJ x50), .long (lJ (wI (nextT (X q29) 36600)))]) hx hb hml hown hG hw (c_X8_mix l Γ K X Rf x50 (wI (nextT (X q29) 36600))  ) cb_X8_mix wl_X8_373 rfl ⟨Nat.le_of_ble_eq_true rfl, Nat.le_of_ble_eq_true rfl⟩ hl.1 rfl (Nat.le_of_ble_eq_true rfl) dX8_digestPatterns_61 ⟨Nat.zero_le _, Nat.zero_le _⟩) hw (fun r61 H locs hp61 hw => ?_)
          subst hp61
          refine ztopL (fun x64 ex64 => ?_)
          refine lv_lstore_n (pc := 64) (lv' := [(3, .long (lJ x64)), (6, .ref q29), (5, .int (iI ix)), (0, .ref x), (1, .long (lJ v))]) hx hb dX8_digestPatterns_64 rfl hl (by decide) rfl (fun ls hl => ?_)
          refine ziinc (pc := 65) (lv' := [(5, .int (iI (ix + 1))), (3, .long (lJ x64)), (6, .ref q29), (0, .ref x), (1, .long (lJ v))]) hx hb 2 dX8_digestPatterns_65 hl rfl (by decide) rfl (fun ls hl => ?_)
          obtain ⟨x65, ex65⟩ : ∃ zz : Int, zz = (ix + 1) := ⟨_, rfl⟩
          rw [← ex65] at hl
          refine lv_goto (pc := 68) (tgt := 13) hx hb dX8_digestPatterns_68 (by decide) ?_
          exact ih13 x65 x64 _ _ (by (first | assumption | omega)) (by rw [ex65, dgL_s hi.1, ← hv]; unfold dgPa; first | (rw [if_pos hqi, ex64, ex50, cntT_congr hqs.1 hqs.2.1 hqs.2.2, nextT_congr hqs.1 hqs.2.1 hqs.2.2]) | (rw [if_neg (by omega)])) (by omega) hw _ (lv_sub hl [0, 1, 3, 4] rfl)
  exact lp13 _ 0 x9 _ _ (by (first | assumption | omega)) (by rw [ex9, hx1]; rfl) (Nat.lt_succ_self _) hw _ (lv_sub hl [0, 1, 2, 3] rfl)
set_option maxHeartbeats 4000000 in
set_option maxRecDepth 100000 in
theorem c_X8_digestPlaces (l : Launch) (Γ : zG) (K : zK) (X : zX) (Rf : zR) (x : Nat) (v : Int) (ρ : zL) (M : zM) (hC : repC ρ K X Rf x M) (hM : okM M) : Ct l yX8_digestPlaces cX8_digestPlaces 9 (some .long) 4 0 0 Γ [.ref x, .long (lJ v)] K X Rf (pL (zp0 K X Rf (fun r : Int => r = dgL (dgPl M) (mx v (wI (M 40 5))) 6))) := by
  refine Ct.of (by decide +kernel) (Nat.le_of_ble_eq_true rfl) ?_
  intro p e s m below meth c ls hx hb hr hml hown hG hlocks hname hw hl
  have hl : lv_has ls 9 [(0, .ref x), (1, .long (lJ v))] := hl
  obtain ⟨⟨hk, hlx⟩, pr, pl, sr, dr, na, wo, ⟨hr0, hr2, hr4, hr6, hr7, hrd⟩, ⟨hkpr, hkpl, hksr, hkdr, hkna⟩, ⟨hlpr, hlpl, hlsr, hldr, hlna⟩, ⟨hx1, hx3, hx5⟩, hpt, hpl, hse, hwo⟩ := id hC
  obtain ⟨⟨hb1, hb2, hb3, hb4⟩, hokP, hokL, hokS, hokW, hokF⟩ := id hM
  refine zldcw (pc := 0) (n := 52596000) hx hb hown hG wk_X8_378 dX8_digestPlaces_0 ?_
  refine lv_istore_n (pc := 3) (lv' := [(3, .int (iI 52596000)), (0, .ref x), (1, .long (lJ v))]) hx hb dX8_digestPlaces_3 rfl hl (by decide) rfl (fun ls hl => ?_)
  refine zldcw (pc := 4) (n := 52740120) hx hb hown hG wk_X8_379 dX8_digestPlaces_4 ?_
  refine lv_istore (pc := 7) (lv' := [(4, .int (iI 52740120)), (3, .int (iI 52596000)), (0, .ref x), (1, .long (lJ v))]) hx hb dX8_digestPlaces_7 hl (by decide) rfl (fun ls hl => ?_)
  refine lv_lload_n (pc := 9) hx hb dX8_digestPlaces_9 rfl (lv_at hl 3 rfl) ?_
  refine lv_aload_n (pc := 10) hx hb dX8_digestPlaces_10 rfl (lv_at hl 2 rfl) ?_
  refine zgetI (pc := 11) hx hb hG hown hw hk (T := TX8) rfl 3 (by decide) rfl wf_X8_25 rfl dX8_digestPlaces_11 ?_
  refine zi2lw (pc := 14) hx hb dX8_digestPlaces_14 ?_
  refine zkLp (pc := 15) (zrS (As := [.long (lJ v), .long (lJ (wI (X x 3)))]) hx hb hml hown hG hw (c_X8_mix l Γ K X Rf v (wI (X x 3))  ) cb_X8_mix wl_X8_373 rfl ⟨Nat.le_of_ble_eq_true rfl, Nat.le_of_ble_eq_true rfl⟩ hl.1 rfl (Nat.le_of_ble_eq_true rfl) dX8_digestPlaces_15 ⟨Nat.zero_le _, Nat.zero_le _⟩) hw (fun r15 H locs hp15 hw => ?_)
  subst hp15
  refine ztopL (fun x18 ex18 => ?_)
  refine lv_lstore (pc := 18) (lv' := [(5, .long (lJ x18)), (4, .int (iI 52740120)), (3, .int (iI 52596000)), (0, .ref x), (1, .long (lJ v))]) hx hb dX8_digestPlaces_18 hl (by decide) rfl (fun ls hl => ?_)
  refine ziconst (pc := 20) (n := 0) hx hb dX8_digestPlaces_20 ?_
  refine lv_istore (pc := 21) (lv' := [(7, .int (iI 0)), (5, .long (lJ x18)), (4, .int (iI 52740120)), (3, .int (iI 52596000)), (0, .ref x), (1, .long (lJ v))]) hx hb dX8_digestPlaces_21 hl (by decide) rfl (fun ls hl => ?_)
  have lp23 : ∀ (n23 : Nat) (ix : Int) (vv : Int) (H : Heap) (locs : List Loc), (hi : 0 ≤ ix ∧ ix ≤ 6) → (hv : vv = dgL (dgPl M) (mx v (wI (M 40 5))) ix.toNat) → ((6 - ix).toNat < n23) → Wd Γ (zA K s.heap.size) K X Rf s H locs → ∀ ls : Array Slot, lv_has ls 9 [(7, .int (iI ix)), (5, .long (lJ vv)), (4, .int (iI 52740120)), (3, .int (iI 52596000)), (0, .ref x), (1, .long (lJ v))] → W p l e (rmL 4 0 0) s m ([.ref x, .long (lJ v)] : List Value).toArray below meth c H locs 0 0 (MQ below (zQ Γ K s.heap.size (pL (zp0 K X Rf (fun r : Int => r = dgL (dgPl M) (mx v (wI (M 40 5))) 6)))) ([.ref x, .long (lJ v)] : List Value).toArray s 0 0 (zA K s.heap.size)) (F0 m 23 ls []) := by
    intro n23
    induction n23 with
    | zero => intro ix vv H locs hi hv hm23; exact absurd hm23 (Nat.not_lt_zero _)
    | succ n23 ih23 =>
      intro ix vv H locs hi hv hm23 hw ls hl
      refine lv_iload (pc := 23) hx hb dX8_digestPlaces_23 (lv_at hl 0 rfl) ?_
      refine lv_aload_n (pc := 25) hx hb dX8_digestPlaces_25 rfl (lv_at hl 4 rfl) ?_
      refine zgetR (pc := 26) hx hb hG hown hw hk (T := TX8) rfl 2 (by decide) rfl wf_X8_21 rfl hr2 dX8_digestPlaces_26 ?_
      refine zlen7 (pc := 29) hx hb hw hkpl dX8_digestPlaces_29 ?_
      refine zicmp_ge (pc := 30) hx hb 140 (by omega) (by omega) dX8_digestPlaces_30 (by decide) (fun c30 => ?_) (fun c30 => ?_)
      · skip
        refine lv_lload (pc := 140) hx hb dX8_digestPlaces_140 (lv_at hl 1 rfl) ?_
        exact zretL (pc := 142) hx hb hlocks hr hw (Nat.zero_le _) (Nat.zero_le _) dX8_digestPlaces_142 ⟨by (try dsimp only) <;> (rw [hv, show ix = 6 by omega]; rfl), rfl, rfl, rfl⟩
      · skip
        refine lv_aload_n (pc := 33) hx hb dX8_digestPlaces_33 rfl (lv_at hl 4 rfl) ?_
        refine zgetR (pc := 34) hx hb hG hown hw hk (T := TX8) rfl 2 (by decide) rfl wf_X8_21 rfl hr2 dX8_digestPlaces_34 ?_
        refine lv_iload (pc := 37) hx hb dX8_digestPlaces_37 (lv_at hl 0 rfl) ?_
        refine zaaldQ1 (pc := 39) hx hb hw hkpl ⟨by omega, by omega⟩ (by omega) dX8_digestPlaces_39 (fun hq39 => ?_) (fun q39 hq39 => ?_)
        · skip
          have hno := hpl.no (k := ix.toNat) (by omega) hq39
          refine lv_astoreN (pc := 40) (lv' := [(8, .null), (7, .int (iI ix)), (5, .long (lJ vv)), (4, .int (iI 52740120)), (3, .int (iI 52596000)), (0, .ref x), (1, .long (lJ v))]) hx hb dX8_digestPlaces_40 hl (by decide) rfl (fun ls hl => ?_)
          refine lv_aloadN (pc := 42) hx hb dX8_digestPlaces_42 (lv_at hl 0 rfl) ?_
          refine lv_ifnullN (pc := 44) (tgt := 134) hx hb dX8_digestPlaces_44 (by decide) ?_
          refine ziinc (pc := 134) (lv' := [(7, .int (iI (ix + 1))), (8, .null), (5, .long (lJ vv)), (4, .int (iI 52740120)), (3, .int (iI 52596000)), (0, .ref x), (1, .long (lJ v))]) hx hb 1 dX8_digestPlaces_134 hl rfl (by decide) rfl (fun ls hl => ?_)
          obtain ⟨x134, ex134⟩ : ∃ zz : Int, zz = (ix + 1) := ⟨_, rfl⟩
          rw [← ex134] at hl
          refine lv_goto (pc := 137) (tgt := 23) hx hb dX8_digestPlaces_137 (by decide) ?_
          exact ih23 x134 vv _ _ (by (first | assumption | omega)) (by rw [ex134, dgL_s hi.1, ← hv]; unfold dgPl; first | (rw [if_pos hqi, ex132, ex117, ex102, ex87, ex73, ex59, hqx]) | (rw [if_neg (by omega)])) (by omega) hw _ (lv_sub hl [0, 2, 3, 4, 5, 6] rfl)
        · skip
          obtain ⟨hqi, ⟨hqk, hql⟩, tuq, toq, beq, saq, ⟨-, -, hqb, hqa⟩, ⟨-, -, hqkb, hqks⟩, -, -, -, -, ⟨hqx, hqz⟩, hqp⟩ := hpl.at (k := ix.toNat) (by omega) hq39
          have hpq : prep (X beq) (X saq) (X q39 6) (savM M ix.toNat) := hqp
          have hbq : -840 ≤ X q39 0 ∧ X q39 0 ≤ 840 := by omega
          refine lv_astore (pc := 40) (lv' := [(8, .ref q39), (7, .int (iI ix)), (5, .long (lJ vv)), (4, .int (iI 52740120)), (3, .int (iI 52596000)), (0, .ref x), (1, .long (lJ v))]) hx hb dX8_digestPlaces_40 hl (by decide) rfl (fun ls hl => ?_)
          refine lv_aload (pc := 42) hx hb dX8_digestPlaces_42 (lv_at hl 0 rfl) ?_
          refine lv_ifnull (pc := 44) hx hb dX8_digestPlaces_44 ?_
          refine lv_lload (pc := 47) hx hb dX8_digestPlaces_47 (lv_at hl 2 rfl) ?_
          refine lv_aload (pc := 49) hx hb dX8_digestPlaces_49 (lv_at hl 0 rfl) ?_
          refine lv_iload_n (pc := 51) hx hb dX8_digestPlaces_51 rfl (lv_at hl 4 rfl) ?_
          refine zkIp (pc := 52) (zrV (As := [.int (iI 52596000)]) hx hb hml hown hG hw (c_X4_savingThen l Γ K X Rf q39 52596000 beq saq (savM M ix.toNat) (by (first | assumption | omega)) (by (first | assumption | omega)) (by (first | assumption | omega)) (by (first | assumption | omega)) (by (first | assumption | omega)) (by (first | assumption | omega)) (by (first | assumption | omega)) (by (first | assumption | omega))) (T := TX4) hqk rfl cb_X4_savingThen wl_X8_182 rfl ⟨Nat.le_of_ble_eq_true rfl, Nat.le_of_ble_eq_true rfl⟩ hl.1 rfl (Nat.le_of_ble_eq_true rfl) dX8_digestPlaces_52 ⟨Nat.zero_le _, Nat.zero_le _⟩) hw (fun r52 H locs hp52 hw => ?_)
          subst hp52
          have hp52f0 := sv_rng (by assumption : prep (X beq) (X saq) (X q39 6) (savM M ix.toNat)) (m := 52596000) (by omega) (by omega)
          refine zi2lw (pc := 55) hx hb dX8_digestPlaces_55 ?_
          refine zkLp (pc := 56) (zrS (As := [.long (lJ vv), .long (lJ (wI ((savM M ix.toNat) 52596000)))]) hx hb hml hown hG hw (c_X8_mix l Γ K X Rf vv (wI ((savM M ix.toNat) 52596000))  ) cb_X8_mix wl_X8_373 rfl ⟨Nat.le_of_ble_eq_true rfl, Nat.le_of_ble_eq_true rfl⟩ hl.1 rfl (Nat.le_of_ble_eq_true rfl) dX8_digestPlaces_56 ⟨Nat.zero_le _, Nat.zero_le _⟩) hw (fun r56 H locs hp56 hw => ?_)
          subst hp56
          refine ztopL (fun x59 ex59 => ?_)
          refine lv_lstore (pc := 59) (lv' := [(5, .long (lJ x59)), (8, .ref q39), (7, .int (iI ix)), (4, .int (iI 52740120)), (3, .int (iI 52596000)), (0, .ref x), (1, .long (lJ v))]) hx hb dX8_digestPlaces_59 hl (by decide) rfl (fun ls hl => ?_)
          refine lv_lload (pc := 61) hx hb dX8_digestPlaces_61 (lv_at hl 0 rfl) ?_
          refine lv_aload (pc := 63) hx hb dX8_digestPlaces_63 (lv_at hl 1 rfl) ?_
          refine lv_iload_n (pc := 65) hx hb dX8_digestPlaces_65 rfl (lv_at hl 4 rfl) ?_
          refine zkIp (pc := 66) (zrV (As := [.int (iI 52596000)]) hx hb hml hown hG hw (c_X4_show l Γ K X Rf q39 52596000 beq saq (savM M ix.toNat) (by (first | assumption | omega)) (by (first | assumption | omega)) (by (first | assumption | omega)) (by (first | assumption | omega)) (by (first | assumption | omega)) (by (first | assumption | omega)) (by (first | assumption | omega)) (by (first | assumption | omega))) (T := TX4) hqk rfl cb_X4_show wl_X8_185 rfl ⟨Nat.le_of_ble_eq_true rfl, Nat.le_of_ble_eq_true rfl⟩ hl.1 rfl (Nat.le_of_ble_eq_true rfl) dX8_digestPlaces_66 ⟨Nat.zero_le _, Nat.zero_le _⟩) hw (fun r66 H locs hp66 hw => ?_)
          subst hp66
          have hp66f0 := sv_rng (by assumption : prep (X beq) (X saq) (X q39 6) (savM M ix.toNat)) (m := 52596000) (by omega) (by omega)
          refine zi2lw (pc := 69) hx hb dX8_digestPlaces_69 ?_
          refine zkLp (pc := 70) (zrS (As := [.long (lJ x59), .long (lJ (wI (52596000 + X q39 0 + (savM M ix.toNat) 52596000)))]) hx hb hml hown hG hw (c_X8_mix l Γ K X Rf x59 (wI (52596000 + X q39 0 + (savM M ix.toNat) 52596000))  ) cb_X8_mix wl_X8_373 rfl ⟨Nat.le_of_ble_eq_true rfl, Nat.le_of_ble_eq_true rfl⟩ hl.1 rfl (Nat.le_of_ble_eq_true rfl) dX8_digestPlaces_70 ⟨Nat.zero_le _, Nat.zero_le _⟩) hw (fun r70 H locs hp70 hw => ?_)
          subst hp70
          refine ztopL (fun x73 ex73 => ?_)
          refine lv_lstore (pc := 73) (lv' := [(5, .long (lJ x73)), (8, .ref q39), (7, .int (iI ix)), (4, .int (iI 52740120)), (3, .int (iI 52596000)), (0, .ref x), (1, .long (lJ v))]) hx hb dX8_digestPlaces_73 hl (by decide) rfl (fun ls hl => ?_)
          refine lv_lload (pc := 75) hx hb dX8_digestPlaces_75 (lv_at hl 0 rfl) ?_
          refine lv_aload (pc := 77) hx hb dX8_digestPlaces_77 (lv_at hl 1 rfl) ?_
          refine lv_iload_n (pc := 79) hx hb dX8_digestPlaces_79 rfl (lv_at hl 4 rfl) ?_
          refine zkIp (pc := 80) (zrV (As := [.int (iI 52596000)]) hx hb hml hown hG hw (c_X4_changeBehind l Γ K X Rf q39 52596000 beq saq (savM M ix.toNat) (by (first | assumption | omega)) (by (first | assumption | omega)) (by (first | assumption | omega)) (by (first | assumption | omega)) (by (first | assumption | omega)) (by (first | assumption | omega)) (by (first | assumption | omega)) (by (first | assumption | omega))) (T := TX4) hqk rfl cb_X4_changeBehind wl_X8_188 rfl ⟨Nat.le_of_ble_eq_true rfl, Nat.le_of_ble_eq_true rfl⟩ hl.1 rfl (Nat.le_of_ble_eq_true rfl) dX8_digestPlaces_80 ⟨Nat.zero_le _, Nat.zero_le _⟩) hw (fun r80 H locs hp80 hw => ?_)
          subst hp80
          have hp80f0 := ncF_rng (sv := (savM M ix.toNat)) (m := 52596000) (by omega)
          refine zi2lw (pc := 83) hx hb dX8_digestPlaces_83 ?_
          refine zkLp (pc := 84) (zrS (As := [.long (lJ x73), .long (lJ (wI (ncF (savM M ix.toNat) 52596000)))]) hx hb hml hown hG hw (c_X8_mix l Γ K X Rf x73 (wI (ncF (savM M ix.toNat) 52596000))  ) cb_X8_mix wl_X8_373 rfl ⟨Nat.le_of_ble_eq_true rfl, Nat.le_of_ble_eq_true rfl⟩ hl.1 rfl (Nat.le_of_ble_eq_true rfl) dX8_digestPlaces_84 ⟨Nat.zero_le _, Nat.zero_le _⟩) hw (fun r84 H locs hp84 hw => ?_)
          subst hp84
          refine ztopL (fun x87 ex87 => ?_)
          refine lv_lstore (pc := 87) (lv' := [(5, .long (lJ x87)), (8, .ref q39), (7, .int (iI ix)), (4, .int (iI 52740120)), (3, .int (iI 52596000)), (0, .ref x), (1, .long (lJ v))]) hx hb dX8_digestPlaces_87 hl (by decide) rfl (fun ls hl => ?_)
          refine lv_lload (pc := 89) hx hb dX8_digestPlaces_89 (lv_at hl 0 rfl) ?_
          refine lv_aload (pc := 91) hx hb dX8_digestPlaces_91 (lv_at hl 1 rfl) ?_
          refine lv_iload (pc := 93) hx hb dX8_digestPlaces_93 (lv_at hl 3 rfl) ?_
          refine zkIp (pc := 95) (zrV (As := [.int (iI 52740120)]) hx hb hml hown hG hw (c_X4_countShown l Γ K X Rf q39 52740120 beq saq (savM M ix.toNat) (by (first | assumption | omega)) (by (first | assumption | omega)) (by (first | assumption | omega)) (by (first | assumption | omega)) (by (first | assumption | omega)) (by (first | assumption | omega)) (by (first | assumption | omega)) (by (first | assumption | omega))) (T := TX4) hqk rfl cb_X4_countShown wl_X8_191 rfl ⟨Nat.le_of_ble_eq_true rfl, Nat.le_of_ble_eq_true rfl⟩ hl.1 rfl (Nat.le_of_ble_eq_true rfl) dX8_digestPlaces_95 ⟨Nat.zero_le _, Nat.zero_le _⟩) hw (fun r95 H locs hp95 hw => ?_)
          subst hp95
          have hp95f0 := shN_rng (sv := (savM M ix.toNat)) (X q39 0) 52740120
          refine zi2lw (pc := 98) hx hb dX8_digestPlaces_98 ?_
          refine zkLp (pc := 99) (zrS (As := [.long (lJ x87), .long (lJ (wI (shN (savM M ix.toNat) (X q39 0) 52740120)))]) hx hb hml hown hG hw (c_X8_mix l Γ K X Rf x87 (wI (shN (savM M ix.toNat) (X q39 0) 52740120))  ) cb_X8_mix wl_X8_373 rfl ⟨Nat.le_of_ble_eq_true rfl, Nat.le_of_ble_eq_true rfl⟩ hl.1 rfl (Nat.le_of_ble_eq_true rfl) dX8_digestPlaces_99 ⟨Nat.zero_le _, Nat.zero_le _⟩) hw (fun r99 H locs hp99 hw => ?_)
          subst hp99
          refine ztopL (fun x102 ex102 => ?_)
          refine lv_lstore (pc := 102) (lv' := [(5, .long (lJ x102)), (8, .ref q39), (7, .int (iI ix)), (4, .int (iI 52740120)), (3, .int (iI 52596000)), (0, .ref x), (1, .long (lJ v))]) hx hb dX8_digestPlaces_102 hl (by decide) rfl (fun ls hl => ?_)
          refine lv_lload (pc := 104) hx hb dX8_digestPlaces_104 (lv_at hl 0 rfl) ?_
          refine lv_aload (pc := 106) hx hb dX8_digestPlaces_106 (lv_at hl 1 rfl) ?_
          refine lv_iload (pc := 108) hx hb dX8_digestPlaces_108 (lv_at hl 3 rfl) ?_
          refine zkIp (pc := 110) (zrV (As := [.int (iI 52740120)]) hx hb hml hown hG hw (c_X4_momentFor l Γ K X Rf q39 52740120 beq saq (savM M ix.toNat) (by (first | assumption | omega)) (by (first | assumption | omega)) (by (first | assumption | omega)) (by (first | assumption | omega)) (by (first | assumption | omega)) (by (first | assumption | omega)) (by (first | assumption | omega)) (by (first | assumption | omega))) (T := TX4) hqk rfl cb_X4_momentFor wl_X8_194 rfl ⟨Nat.le_of_ble_eq_true rfl, Nat.le_of_ble_eq_true rfl⟩ hl.1 rfl (Nat.le_of_ble_eq_true rfl) dX8_digestPlaces_110 ⟨Nat.zero_le _, Nat.zero_le _⟩) hw (fun r110 H locs hp110 hw => ?_)
          subst hp110
          have hp110f0 := momF_rng (sv := (savM M ix.toNat)) (X q39 0) 52740120
          refine zi2lw (pc := 113) hx hb dX8_digestPlaces_113 ?_
          refine zkLp (pc := 114) (zrS (As := [.long (lJ x102), .long (lJ (wI (momF (savM M ix.toNat) (X q39 0) 52740120)))]) hx hb hml hown hG hw (c_X8_mix l Γ K X Rf x102 (wI (momF (savM M ix.toNat) (X q39 0) 52740120))  ) cb_X8_mix wl_X8_373 rfl ⟨Nat.le_of_ble_eq_true rfl, Nat.le_of_ble_eq_true rfl⟩ hl.1 rfl (Nat.le_of_ble_eq_true rfl) dX8_digestPlaces_114 ⟨Nat.zero_le _, Nat.zero_le _⟩) hw (fun r114 H locs hp114 hw => ?_)
          subst hp114
          refine ztopL (fun x117 ex117 => ?_)
          refine lv_lstore (pc := 117) (lv' := [(5, .long (lJ x117)), (8, .ref q39), (7, .int (iI ix)), (4, .int (iI 52740120)), (3, .int (iI 52596000)), (0, .ref x), (1, .long (lJ v))]) hx hb dX8_digestPlaces_117 hl (by decide) rfl (fun ls hl => ?_)
          refine lv_lload (pc := 119) hx hb dX8_digestPlaces_119 (lv_at hl 0 rfl) ?_
          refine lv_aload (pc := 121) hx hb dX8_digestPlaces_121 (lv_at hl 1 rfl) ?_
          refine lv_iload (pc := 123) hx hb dX8_digestPlaces_123 (lv_at hl 3 rfl) ?_
          refine zkIp (pc := 125) (zrV (As := [.int (iI 52740120)]) hx hb hml hown hG hw (c_X4_lastShown l Γ K X Rf q39 52740120 beq saq (savM M ix.toNat) (by (first | assumption | omega)) (by (first | assumption | omega)) (by (first | assumption | omega)) (by (first | assumption | omega)) (by (first | assumption | omega)) (by (first | assumption | omega)) (by (first | assumption | omega)) (by (first | assumption | omega))) (T := TX4) hqk rfl cb_X4_lastShown wl_X8_197 rfl ⟨Nat.le_of_ble_eq_true rfl, Nat.le_of_ble_eq_true rfl⟩ hl.1 rfl (Nat.le_of_ble_eq_true rfl) dX8_digestPlaces_125 ⟨Nat.zero_le _, Nat.zero_le _⟩) hw (fun r125 H locs hp125 hw => ?_)
          subst hp125
          refine zi2lw (pc := 128) hx hb dX8_digestPlaces_128 ?_
          refine zkLp (pc := 129) (zrS (As := [.long (lJ x117), .long (lJ (wI (shL (savM M ix.toNat) (X q39 0) 52740120)))]) hx hb hml hown hG hw (c_X8_mix l Γ K X Rf x117 (wI (shL (savM M ix.toNat) (X q39 0) 52740120))  ) cb_X8_mix wl_X8_373 rfl ⟨Nat.le_of_ble_eq_true rfl, Nat.le_of_ble_eq_true rfl⟩ hl.1 rfl (Nat.le_of_ble_eq_true rfl) dX8_digestPlaces_129 ⟨Nat.zero_le _, Nat.zero_le _⟩) hw (fun r129 H locs hp129 hw => ?_)
          subst hp129
          refine ztopL (fun x132 ex132 => ?_)
          refine lv_lstore (pc := 132) (lv' := [(5, .long (lJ x132)), (8, .ref q39), (7, .int (iI ix)), (4, .int (iI 52740120)), (3, .int (iI 52596000)), (0, .ref x), (1, .long (lJ v))]) hx hb dX8_digestPlaces_132 hl (by decide) rfl (fun ls hl => ?_)
          refine ziinc (pc := 134) (lv' := [(7, .int (iI (ix + 1))), (5, .long (lJ x132)), (8, .ref q39), (4, .int (iI 52740120)), (3, .int (iI 52596000)), (0, .ref x), (1, .long (lJ v))]) hx hb 2 dX8_digestPlaces_134 hl rfl (by decide) rfl (fun ls hl => ?_)
          obtain ⟨x134, ex134⟩ : ∃ zz : Int, zz = (ix + 1) := ⟨_, rfl⟩
          rw [← ex134] at hl
          refine lv_goto (pc := 137) (tgt := 23) hx hb dX8_digestPlaces_137 (by decide) ?_
          exact ih23 x134 x132 _ _ (by (first | assumption | omega)) (by rw [ex134, dgL_s hi.1, ← hv]; unfold dgPl; first | (rw [if_pos hqi, ex132, ex117, ex102, ex87, ex73, ex59, hqx]) | (rw [if_neg (by omega)])) (by omega) hw _ (lv_sub hl [0, 1, 3, 4, 5, 6] rfl)
  exact lp23 _ 0 x18 _ _ (by (first | assumption | omega)) (by rw [ex18, hx3]; rfl) (Nat.lt_succ_self _) hw _ (lv_sub hl [0, 1, 2, 3, 4, 5] rfl)
set_option maxHeartbeats 4000000 in
set_option maxRecDepth 100000 in
theorem c_X8_digestDates (l : Launch) (Γ : zG) (K : zK) (X : zX) (Rf : zR) (x : Nat) (v : Int) (se : Nat) (ρ : zL) (M : zM) (n : Nat) (hC : repC ρ K X Rf x M) (hM : okM M) (hn : n < 6) (hq : ∃ sr9, Rf x 4 = some sr9 ∧ Rf sr9 n = some se) (hne : 0 < ((datM M n).length : Int)) : Ct l yX8_digestDates cX8_digestDates 9 (some .long) 5 0 0 Γ [.ref x, .long (lJ v), .ref se] K X Rf (pL (zp0 K X Rf (fun r : Int => r = dgDt M n v))) := by
  refine Ct.of (by decide +kernel) (Nat.le_of_ble_eq_true rfl) ?_
  intro p e s m below meth c ls hx hb hr hml hown hG hlocks hname hw hl
  have hl : lv_has ls 9 [(0, .ref x), (1, .long (lJ v)), (3, .ref se)] := hl
  obtain ⟨⟨hk, hlx⟩, pr, pl, sr, dr, na, wo, ⟨hr0, hr2, hr4, hr6, hr7, hrd⟩, ⟨hkpr, hkpl, hksr, hkdr, hkna⟩, ⟨hlpr, hlpl, hlsr, hldr, hlna⟩, ⟨hx1, hx3, hx5⟩, hpt, hpl, hse, hwo⟩ := id hC
  obtain ⟨⟨hb1, hb2, hb3, hb4⟩, hokP, hokL, hokS, hokW, hokF⟩ := id hM
  obtain ⟨sr9, hz1, hz2⟩ := hq
  rw [hr4] at hz1
  cases hz1
  obtain ⟨hni, p0, hp0, ⟨hks, hls⟩, po, eo, fo, ⟨hs0, hs8, hs13, hs15⟩, ⟨hkpo, hkeo, hkfo⟩, -, hD, hS, -, -, -, hdt⟩ := hse.at (k := n) hn hz2
  have hdq : dtR X se fo (datM M n) := hdt
  have hdn := hdq.1
  have hdm := hdq.2.1
  have hsb : X se 1 = serM M n 1 := hD.1.1
  have hsd : 0 ≤ serM M n 1 ∧ serM M n 1 ≤ 105190559 := hS.1
  have hsp := (hokS n (by omega)).2.1
  obtain ⟨-, ⟨hkq, hlq⟩, tq, oq, bq, sq, ⟨-, -, hrb, hrs⟩, ⟨-, -, hkb, hkz⟩, -, -, -, -, ⟨hbq, hbz⟩, hpz⟩ := hpl.at (k := (serM M n 0).toNat) (by omega) hp0
  have hpy : prep (X bq) (X sq) (X p0 6) (savM M (serM M n 0).toNat) := hpz
  have hbx : -840 ≤ X p0 0 ∧ X p0 0 ≤ 840 := by omega
  have hsb1 : 0 ≤ X se 1 ∧ X se 1 ≤ 105190559 := by omega
  refine lv_lload_n (pc := 0) hx hb dX8_digestDates_0 rfl (lv_at hl 1 rfl) ?_
  refine lv_aload_n (pc := 1) hx hb dX8_digestDates_1 rfl (lv_at hl 2 rfl) ?_
  refine ziconst (pc := 2) (n := 0) hx hb dX8_digestDates_2 ?_
  refine zkIp (pc := 3) (zrV (As := [.int (iI 0)]) hx hb hml hown hG hw (c_X5_date_L l Γ K X Rf se 0 fo (datM M n) (by (first | assumption | omega)) (by (first | assumption | omega)) (by (first | assumption | omega)) (by (first | assumption | omega)) (by (first | assumption | omega))) (T := TX5) hks rfl cb_X5_date wl_X8_263 rfl ⟨Nat.le_of_ble_eq_true rfl, Nat.le_of_ble_eq_true rfl⟩ hl.1 rfl (Nat.le_of_ble_eq_true rfl) dX8_digestDates_3 ⟨Nat.zero_le _, Nat.zero_le _⟩) hw (fun r3 H locs hp3 hw => ?_)
  subst hp3
  have hp3f0 := dtL_rng (by assumption : dtR X se fo (datM M n)) 0
  refine zi2lw (pc := 6) hx hb dX8_digestDates_6 ?_
  refine zkLp (pc := 7) (zrS (As := [.long (lJ v), .long (lJ (wI (dtL (datM M n) 0)))]) hx hb hml hown hG hw (c_X8_mix l Γ K X Rf v (wI (dtL (datM M n) 0))  ) cb_X8_mix wl_X8_373 rfl ⟨Nat.le_of_ble_eq_true rfl, Nat.le_of_ble_eq_true rfl⟩ hl.1 rfl (Nat.le_of_ble_eq_true rfl) dX8_digestDates_7 ⟨Nat.zero_le _, Nat.zero_le _⟩) hw (fun r7 H locs hp7 hw => ?_)
  subst hp7
  refine ztopL (fun x10 ex10 => ?_)
  refine lv_lstore (pc := 10) (lv' := [(4, .long (lJ x10)), (0, .ref x), (1, .long (lJ v)), (3, .ref se)]) hx hb dX8_digestDates_10 hl (by decide) rfl (fun ls hl => ?_)
  refine lv_lload (pc := 12) hx hb dX8_digestDates_12 (lv_at hl 0 rfl) ?_
  refine lv_aload_n (pc := 14) hx hb dX8_digestDates_14 rfl (lv_at hl 3 rfl) ?_
  refine ziconst (pc := 15) (n := 0) hx hb dX8_digestDates_15 ?_
  refine zkIp (pc := 16) (zrV (As := [.int (iI 0)]) hx hb hml hown hG hw (c_X5_momentOfDate l Γ K X Rf se 0 fo (datM M n) p0 bq sq (savM M (serM M n 0).toNat) (by (first | assumption | omega)) (by (first | assumption | omega)) (by (first | assumption | omega)) (by (first | assumption | omega)) (by (first | assumption | omega)) (by (first | assumption | omega)) (by (first | assumption | omega)) (by (first | assumption | omega)) (by (first | assumption | omega)) (by (first | assumption | omega)) (by (first | assumption | omega)) (by (first | assumption | omega)) (by (first | assumption | omega)) (by (first | assumption | omega))) (T := TX5) hks rfl cb_X5_momentOfDate wl_X8_267 rfl ⟨Nat.le_of_ble_eq_true rfl, Nat.le_of_ble_eq_true rfl⟩ hl.1 rfl (Nat.le_of_ble_eq_true rfl) dX8_digestDates_16 ⟨Nat.zero_le _, Nat.zero_le _⟩) hw (fun r16 H locs hp16 hw => ?_)
  subst hp16
  have hp16f0 := momF_rng (sv := (savM M (serM M n 0).toNat)) (X p0 0) (1440 * dtL (datM M n) 0 + X se 1 % 1440)
  refine zi2lw (pc := 19) hx hb dX8_digestDates_19 ?_
  refine zkLp (pc := 20) (zrS (As := [.long (lJ x10), .long (lJ (wI (momF (savM M (serM M n 0).toNat) (X p0 0) (1440 * dtL (datM M n) 0 + X se 1 % 1440))))]) hx hb hml hown hG hw (c_X8_mix l Γ K X Rf x10 (wI (momF (savM M (serM M n 0).toNat) (X p0 0) (1440 * dtL (datM M n) 0 + X se 1 % 1440)))  ) cb_X8_mix wl_X8_373 rfl ⟨Nat.le_of_ble_eq_true rfl, Nat.le_of_ble_eq_true rfl⟩ hl.1 rfl (Nat.le_of_ble_eq_true rfl) dX8_digestDates_20 ⟨Nat.zero_le _, Nat.zero_le _⟩) hw (fun r20 H locs hp20 hw => ?_)
  subst hp20
  refine ztopL (fun x23 ex23 => ?_)
  refine lv_lstore (pc := 23) (lv' := [(4, .long (lJ x23)), (0, .ref x), (1, .long (lJ v)), (3, .ref se)]) hx hb dX8_digestDates_23 hl (by decide) rfl (fun ls hl => ?_)
  refine lv_aload_n (pc := 25) hx hb dX8_digestDates_25 rfl (lv_at hl 3 rfl) ?_
  refine zgetI (pc := 26) hx hb hG hown hw hks (T := TX5) rfl 16 (by decide) rfl wf_X8_256 rfl dX8_digestDates_26 ?_
  refine ziconst (pc := 29) (n := 1) hx hb dX8_digestDates_29 ?_
  refine zsub (pc := 30) hx hb dX8_digestDates_30 ?_
  refine ztop (fun x31 ex31 => ?_)
  refine lv_istore (pc := 31) (lv' := [(6, .int (iI x31)), (4, .long (lJ x23)), (0, .ref x), (1, .long (lJ v)), (3, .ref se)]) hx hb dX8_digestDates_31 hl (by decide) rfl (fun ls hl => ?_)
  refine lv_iload (pc := 33) hx hb dX8_digestDates_33 (lv_at hl 0 rfl) ?_
  refine zif_le (pc := 35) hx hb 66 (by omega) dX8_digestDates_35 (by decide) (fun c35 => ?_) (fun c35 => ?_)
  · skip
    refine ziconst (pc := 66) (n := 0) hx hb dX8_digestDates_66 ?_
    refine lv_istore (pc := 67) (lv' := [(7, .int (iI 0)), (6, .int (iI x31)), (4, .long (lJ x23)), (0, .ref x), (1, .long (lJ v)), (3, .ref se)]) hx hb dX8_digestDates_67 hl (by decide) rfl (fun ls hl => ?_)
    have lp69 : ∀ (n69 : Nat) (ix : Int) (vv : Int) (H : Heap) (locs : List Loc), (hi : 0 ≤ ix ∧ ix ≤ 6) → (hv : vv = dgL (dgSh M n) (dgD2 M n v) ix.toNat) → ((6 - ix).toNat < n69) → Wd Γ (zA K s.heap.size) K X Rf s H locs → ∀ ls : Array Slot, lv_has ls 9 [(7, .int (iI ix)), (6, .int (iI x31)), (4, .long (lJ vv)), (0, .ref x), (1, .long (lJ v)), (3, .ref se)] → W p l e (rmL 5 0 0) s m ([.ref x, .long (lJ v), .ref se] : List Value).toArray below meth c H locs 0 0 (MQ below (zQ Γ K s.heap.size (pL (zp0 K X Rf (fun r : Int => r = dgDt M n v)))) ([.ref x, .long (lJ v), .ref se] : List Value).toArray s 0 0 (zA K s.heap.size)) (F0 m 69 ls []) := by
      intro n69
      induction n69 with
      | zero => intro ix vv H locs hi hv hm69; exact absurd hm69 (Nat.not_lt_zero _)
      | succ n69 ih69 =>
        intro ix vv H locs hi hv hm69 hw ls hl
        refine lv_iload (pc := 69) hx hb dX8_digestDates_69 (lv_at hl 0 rfl) ?_
        refine lv_aload_n (pc := 71) hx hb dX8_digestDates_71 rfl (lv_at hl 3 rfl) ?_
        refine zgetR (pc := 72) hx hb hG hown hw hk (T := TX8) rfl 4 (by decide) rfl wf_X8_30 rfl hr4 dX8_digestDates_72 ?_
        refine zlen8 (pc := 75) hx hb hw hksr dX8_digestDates_75 ?_
        refine zicmp_ge (pc := 76) hx hb 113 (by omega) (by omega) dX8_digestDates_76 (by decide) (fun c76 => ?_) (fun c76 => ?_)
        · skip
          refine lv_lload (pc := 113) hx hb dX8_digestDates_113 (lv_at hl 2 rfl) ?_
          exact zretL (pc := 115) hx hb hlocks hr hw (Nat.zero_le _) (Nat.zero_le _) dX8_digestDates_115 ⟨by (try dsimp only) <;> (rw [hv, show ix = 6 by omega]; rfl), rfl, rfl, rfl⟩
        · skip
          refine lv_aload_n (pc := 79) hx hb dX8_digestDates_79 rfl (lv_at hl 3 rfl) ?_
          refine zgetR (pc := 80) hx hb hG hown hw hk (T := TX8) rfl 4 (by decide) rfl wf_X8_30 rfl hr4 dX8_digestDates_80 ?_
          refine lv_iload (pc := 83) hx hb dX8_digestDates_83 (lv_at hl 0 rfl) ?_
          refine zaaldQ2 (pc := 85) hx hb hw hksr ⟨by omega, by omega⟩ (by omega) dX8_digestDates_85 (fun hq85 => ?_) (fun q85 hq85 => ?_)
          · skip
            have hno := hse.no (k := ix.toNat) (by omega) hq85
            refine lv_astoreN (pc := 86) (lv' := [(8, .null), (7, .int (iI ix)), (6, .int (iI x31)), (4, .long (lJ vv)), (0, .ref x), (1, .long (lJ v)), (3, .ref se)]) hx hb dX8_digestDates_86 hl (by decide) rfl (fun ls hl => ?_)
            refine lv_aloadN (pc := 88) hx hb dX8_digestDates_88 (lv_at hl 0 rfl) ?_
            refine lv_ifnullN (pc := 90) (tgt := 107) hx hb dX8_digestDates_90 (by decide) ?_
            refine ziinc (pc := 107) (lv' := [(7, .int (iI (ix + 1))), (8, .null), (6, .int (iI x31)), (4, .long (lJ vv)), (0, .ref x), (1, .long (lJ v)), (3, .ref se)]) hx hb 1 dX8_digestDates_107 hl rfl (by decide) rfl (fun ls hl => ?_)
            obtain ⟨x107, ex107⟩ : ∃ zz : Int, zz = (ix + 1) := ⟨_, rfl⟩
            rw [← ex107] at hl
            refine lv_goto (pc := 110) (tgt := 69) hx hb dX8_digestDates_110 (by decide) ?_
            exact ih69 x107 vv _ _ (by (first | assumption | omega)) (by rw [ex107, dgL_s hi.1, ← hv]; unfold dgSh; first | (rw [if_pos hqi, ex105]) | (rw [if_neg (by omega)])) (by omega) hw _ (lv_sub hl [0, 2, 3, 4, 5, 6] rfl)
          · skip
            obtain ⟨hqi, p0q, hqp0, ⟨hqk, hql⟩, poq, eoq, foq, ⟨hq0, hq8, hq13, hqf⟩, ⟨hqkp, hqke, hqkf⟩, -, hqD, hqS, -, -, -, hqd⟩ := hse.at (k := ix.toNat) (by omega) hq85
            have hqd2 : dtR X q85 foq (datM M ix.toNat) := hqd
            have hqn := hqd2.1
            have hqm := hqd2.2.1
            refine lv_astore (pc := 86) (lv' := [(8, .ref q85), (7, .int (iI ix)), (6, .int (iI x31)), (4, .long (lJ vv)), (0, .ref x), (1, .long (lJ v)), (3, .ref se)]) hx hb dX8_digestDates_86 hl (by decide) rfl (fun ls hl => ?_)
            refine lv_aload (pc := 88) hx hb dX8_digestDates_88 (lv_at hl 0 rfl) ?_
            refine lv_ifnull (pc := 90) hx hb dX8_digestDates_90 ?_
            refine lv_lload (pc := 93) hx hb dX8_digestDates_93 (lv_at hl 3 rfl) ?_
            refine lv_aload_n (pc := 95) hx hb dX8_digestDates_95 rfl (lv_at hl 6 rfl) ?_
            refine lv_aload (pc := 96) hx hb dX8_digestDates_96 (lv_at hl 0 rfl) ?_
            refine zkIp (pc := 98) (zrV (As := [.ref q85]) hx hb hml hown hG hw (c_X5_countShared l Γ K X Rf se q85 fo (datM M n) foq (datM M ix.toNat) (by (first | assumption | omega)) (by (first | assumption | omega)) (by (first | assumption | omega)) (by (first | assumption | omega)) (by (first | assumption | omega)) (by (first | assumption | omega)) (by (first | assumption | omega)) (by (first | assumption | omega))) (T := TX5) hks rfl cb_X5_countShared wl_X8_270 rfl ⟨Nat.le_of_ble_eq_true rfl, Nat.le_of_ble_eq_true rfl⟩ hl.1 rfl (Nat.le_of_ble_eq_true rfl) dX8_digestDates_98 ⟨Nat.zero_le _, Nat.zero_le _⟩) hw (fun r98 H locs hp98 hw => ?_)
            subst hp98
            refine zi2lw (pc := 101) hx hb dX8_digestDates_101 ?_
            refine zkLp (pc := 102) (zrS (As := [.long (lJ vv), .long (lJ (wI (shD (datM M n) (datM M ix.toNat))))]) hx hb hml hown hG hw (c_X8_mix l Γ K X Rf vv (wI (shD (datM M n) (datM M ix.toNat)))  ) cb_X8_mix wl_X8_373 rfl ⟨Nat.le_of_ble_eq_true rfl, Nat.le_of_ble_eq_true rfl⟩ hl.1 rfl (Nat.le_of_ble_eq_true rfl) dX8_digestDates_102 ⟨Nat.zero_le _, Nat.zero_le _⟩) hw (fun r102 H locs hp102 hw => ?_)
            subst hp102
            refine ztopL (fun x105 ex105 => ?_)
            refine lv_lstore (pc := 105) (lv' := [(4, .long (lJ x105)), (8, .ref q85), (7, .int (iI ix)), (6, .int (iI x31)), (0, .ref x), (1, .long (lJ v)), (3, .ref se)]) hx hb dX8_digestDates_105 hl (by decide) rfl (fun ls hl => ?_)
            refine ziinc (pc := 107) (lv' := [(7, .int (iI (ix + 1))), (4, .long (lJ x105)), (8, .ref q85), (6, .int (iI x31)), (0, .ref x), (1, .long (lJ v)), (3, .ref se)]) hx hb 2 dX8_digestDates_107 hl rfl (by decide) rfl (fun ls hl => ?_)
            obtain ⟨x107, ex107⟩ : ∃ zz : Int, zz = (ix + 1) := ⟨_, rfl⟩
            rw [← ex107] at hl
            refine lv_goto (pc := 110) (tgt := 69) hx hb dX8_digestDates_110 (by decide) ?_
            exact ih69 x107 x105 _ _ (by (first | assumption | omega)) (by rw [ex107, dgL_s hi.1, ← hv]; unfold dgSh; first | (rw [if_pos hqi, ex105]) | (rw [if_neg (by omega)])) (by omega) hw _ (lv_sub hl [0, 3, 1, 4, 5, 6] rfl)
    exact lp69 _ 0 x23 _ _ (by (first | assumption | omega)) (by first | (show _ = dgD2 M n v; unfold dgD2 dmM; first | (rw [if_pos (by omega), ex64, ex50, ex23, ex10, hbq, hsb, ex31, hdn]) | (rw [if_neg (by omega), ex23, ex10, hbq, hsb]))) (Nat.lt_succ_self _) hw _ (lv_sub hl [0, 1, 2, 3, 4, 5] rfl)
  · skip
    refine lv_lload (pc := 38) hx hb dX8_digestDates_38 (lv_at hl 1 rfl) ?_
    refine lv_aload_n (pc := 40) hx hb dX8_digestDates_40 rfl (lv_at hl 4 rfl) ?_
    refine lv_iload (pc := 41) hx hb dX8_digestDates_41 (lv_at hl 0 rfl) ?_
    refine zkIp (pc := 43) (zrV (As := [.int (iI x31)]) hx hb hml hown hG hw (c_X5_date_L l Γ K X Rf se x31 fo (datM M n) (by (first | assumption | omega)) (by (first | assumption | omega)) (by (first | assumption | omega)) (by (first | assumption | omega)) (by (first | assumption | omega))) (T := TX5) hks rfl cb_X5_date wl_X8_263 rfl ⟨Nat.le_of_ble_eq_true rfl, Nat.le_of_ble_eq_true rfl⟩ hl.1 rfl (Nat.le_of_ble_eq_true rfl) dX8_digestDates_43 ⟨Nat.zero_le _, Nat.zero_le _⟩) hw (fun r43 H locs hp43 hw => ?_)
    subst hp43
    have hp43f0 := dtL_rng (by assumption : dtR X se fo (datM M n)) x31
    refine zi2lw (pc := 46) hx hb dX8_digestDates_46 ?_
    refine zkLp (pc := 47) (zrS (As := [.long (lJ x23), .long (lJ (wI (dtL (datM M n) x31)))]) hx hb hml hown hG hw (c_X8_mix l Γ K X Rf x23 (wI (dtL (datM M n) x31))  ) cb_X8_mix wl_X8_373 rfl ⟨Nat.le_of_ble_eq_true rfl, Nat.le_of_ble_eq_true rfl⟩ hl.1 rfl (Nat.le_of_ble_eq_true rfl) dX8_digestDates_47 ⟨Nat.zero_le _, Nat.zero_le _⟩) hw (fun r47 H locs hp47 hw => ?_)
    subst hp47
    refine ztopL (fun x50 ex50 => ?_)
    refine lv_lstore (pc := 50) (lv' := [(4, .long (lJ x50)), (6, .int (iI x31)), (0, .ref x), (1, .long (lJ v)), (3, .ref se)]) hx hb dX8_digestDates_50 hl (by decide) rfl (fun ls hl => ?_)
    refine lv_lload (pc := 52) hx hb dX8_digestDates_52 (lv_at hl 0 rfl) ?_
    refine lv_aload_n (pc := 54) hx hb dX8_digestDates_54 rfl (lv_at hl 4 rfl) ?_
    refine lv_iload (pc := 55) hx hb dX8_digestDates_55 (lv_at hl 1 rfl) ?_
    refine zkIp (pc := 57) (zrV (As := [.int (iI x31)]) hx hb hml hown hG hw (c_X5_momentOfDate l Γ K X Rf se x31 fo (datM M n) p0 bq sq (savM M (serM M n 0).toNat) (by (first | assumption | omega)) (by (first | assumption | omega)) (by (first | assumption | omega)) (by (first | assumption | omega)) (by (first | assumption | omega)) (by (first | assumption | omega)) (by (first | assumption | omega)) (by (first | assumption | omega)) (by (first | assumption | omega)) (by (first | assumption | omega)) (by (first | assumption | omega)) (by (first | assumption | omega)) (by (first | assumption | omega)) (by (first | assumption | omega))) (T := TX5) hks rfl cb_X5_momentOfDate wl_X8_267 rfl ⟨Nat.le_of_ble_eq_true rfl, Nat.le_of_ble_eq_true rfl⟩ hl.1 rfl (Nat.le_of_ble_eq_true rfl) dX8_digestDates_57 ⟨Nat.zero_le _, Nat.zero_le _⟩) hw (fun r57 H locs hp57 hw => ?_)
    subst hp57
    have hp57f0 := momF_rng (sv := (savM M (serM M n 0).toNat)) (X p0 0) (1440 * dtL (datM M n) x31 + X se 1 % 1440)
    refine zi2lw (pc := 60) hx hb dX8_digestDates_60 ?_
    refine zkLp (pc := 61) (zrS (As := [.long (lJ x50), .long (lJ (wI (momF (savM M (serM M n 0).toNat) (X p0 0) (1440 * dtL (datM M n) x31 + X se 1 % 1440))))]) hx hb hml hown hG hw (c_X8_mix l Γ K X Rf x50 (wI (momF (savM M (serM M n 0).toNat) (X p0 0) (1440 * dtL (datM M n) x31 + X se 1 % 1440)))  ) cb_X8_mix wl_X8_373 rfl ⟨Nat.le_of_ble_eq_true rfl, Nat.le_of_ble_eq_true rfl⟩ hl.1 rfl (Nat.le_of_ble_eq_true rfl) dX8_digestDates_61 ⟨Nat.zero_le _, Nat.zero_le _⟩) hw (fun r61 H locs hp61 hw => ?_)
    subst hp61
    refine ztopL (fun x64 ex64 => ?_)
    refine lv_lstore (pc := 64) (lv' := [(4, .long (lJ x64)), (6, .int (iI x31)), (0, .ref x), (1, .long (lJ v)), (3, .ref se)]) hx hb dX8_digestDates_64 hl (by decide) rfl (fun ls hl => ?_)
    refine ziconst (pc := 66) (n := 0) hx hb dX8_digestDates_66 ?_
    refine lv_istore (pc := 67) (lv' := [(7, .int (iI 0)), (4, .long (lJ x64)), (6, .int (iI x31)), (0, .ref x), (1, .long (lJ v)), (3, .ref se)]) hx hb dX8_digestDates_67 hl (by decide) rfl (fun ls hl => ?_)
    have lp69 : ∀ (n69 : Nat) (ix : Int) (vv : Int) (H : Heap) (locs : List Loc), (hi : 0 ≤ ix ∧ ix ≤ 6) → (hv : vv = dgL (dgSh M n) (dgD2 M n v) ix.toNat) → ((6 - ix).toNat < n69) → Wd Γ (zA K s.heap.size) K X Rf s H locs → ∀ ls : Array Slot, lv_has ls 9 [(7, .int (iI ix)), (4, .long (lJ vv)), (6, .int (iI x31)), (0, .ref x), (1, .long (lJ v)), (3, .ref se)] → W p l e (rmL 5 0 0) s m ([.ref x, .long (lJ v), .ref se] : List Value).toArray below meth c H locs 0 0 (MQ below (zQ Γ K s.heap.size (pL (zp0 K X Rf (fun r : Int => r = dgDt M n v)))) ([.ref x, .long (lJ v), .ref se] : List Value).toArray s 0 0 (zA K s.heap.size)) (F0 m 69 ls []) := by
      intro n69
      induction n69 with
      | zero => intro ix vv H locs hi hv hm69; exact absurd hm69 (Nat.not_lt_zero _)
      | succ n69 ih69 =>
        intro ix vv H locs hi hv hm69 hw ls hl
        refine lv_iload (pc := 69) hx hb dX8_digestDates_69 (lv_at hl 0 rfl) ?_
        refine lv_aload_n (pc := 71) hx hb dX8_digestDates_71 rfl (lv_at hl 3 rfl) ?_
        refine zgetR (pc := 72) hx hb hG hown hw hk (T := TX8) rfl 4 (by decide) rfl wf_X8_30 rfl hr4 dX8_digestDates_72 ?_
        refine zlen8 (pc := 75) hx hb hw hksr dX8_digestDates_75 ?_
        refine zicmp_ge (pc := 76) hx hb 113 (by omega) (by omega) dX8_digestDates_76 (by decide) (fun c76 => ?_) (fun c76 => ?_)
        · skip
          refine lv_lload (pc := 113) hx hb dX8_digestDates_113 (lv_at hl 1 rfl) ?_
          exact zretL (pc := 115) hx hb hlocks hr hw (Nat.zero_le _) (Nat.zero_le _) dX8_digestDates_115 ⟨by (try dsimp only) <;> (rw [hv, show ix = 6 by omega]; rfl), rfl, rfl, rfl⟩
        · skip
          refine lv_aload_n (pc := 79) hx hb dX8_digestDates_79 rfl (lv_at hl 3 rfl) ?_
          refine zgetR (pc := 80) hx hb hG hown hw hk (T := TX8) rfl 4 (by decide) rfl wf_X8_30 rfl hr4 dX8_digestDates_80 ?_
          refine lv_iload (pc := 83) hx hb dX8_digestDates_83 (lv_at hl 0 rfl) ?_
          refine zaaldQ2 (pc := 85) hx hb hw hksr ⟨by omega, by omega⟩ (by omega) dX8_digestDates_85 (fun hq85 => ?_) (fun q85 hq85 => ?_)
          · skip
            have hno := hse.no (k := ix.toNat) (by omega) hq85
            refine lv_astoreN (pc := 86) (lv' := [(8, .null), (7, .int (iI ix)), (4, .long (lJ vv)), (6, .int (iI x31)), (0, .ref x), (1, .long (lJ v)), (3, .ref se)]) hx hb dX8_digestDates_86 hl (by decide) rfl (fun ls hl => ?_)
            refine lv_aloadN (pc := 88) hx hb dX8_digestDates_88 (lv_at hl 0 rfl) ?_
            refine lv_ifnullN (pc := 90) (tgt := 107) hx hb dX8_digestDates_90 (by decide) ?_
            refine ziinc (pc := 107) (lv' := [(7, .int (iI (ix + 1))), (8, .null), (4, .long (lJ vv)), (6, .int (iI x31)), (0, .ref x), (1, .long (lJ v)), (3, .ref se)]) hx hb 1 dX8_digestDates_107 hl rfl (by decide) rfl (fun ls hl => ?_)
            obtain ⟨x107, ex107⟩ : ∃ zz : Int, zz = (ix + 1) := ⟨_, rfl⟩
            rw [← ex107] at hl
            refine lv_goto (pc := 110) (tgt := 69) hx hb dX8_digestDates_110 (by decide) ?_
            exact ih69 x107 vv _ _ (by (first | assumption | omega)) (by rw [ex107, dgL_s hi.1, ← hv]; unfold dgSh; first | (rw [if_pos hqi, ex105]) | (rw [if_neg (by omega)])) (by omega) hw _ (lv_sub hl [0, 2, 3, 4, 5, 6] rfl)
          · skip
            obtain ⟨hqi, p0q, hqp0, ⟨hqk, hql⟩, poq, eoq, foq, ⟨hq0, hq8, hq13, hqf⟩, ⟨hqkp, hqke, hqkf⟩, -, hqD, hqS, -, -, -, hqd⟩ := hse.at (k := ix.toNat) (by omega) hq85
            have hqd2 : dtR X q85 foq (datM M ix.toNat) := hqd
            have hqn := hqd2.1
            have hqm := hqd2.2.1
            refine lv_astore (pc := 86) (lv' := [(8, .ref q85), (7, .int (iI ix)), (4, .long (lJ vv)), (6, .int (iI x31)), (0, .ref x), (1, .long (lJ v)), (3, .ref se)]) hx hb dX8_digestDates_86 hl (by decide) rfl (fun ls hl => ?_)
            refine lv_aload (pc := 88) hx hb dX8_digestDates_88 (lv_at hl 0 rfl) ?_
            refine lv_ifnull (pc := 90) hx hb dX8_digestDates_90 ?_
            refine lv_lload (pc := 93) hx hb dX8_digestDates_93 (lv_at hl 2 rfl) ?_
            refine lv_aload_n (pc := 95) hx hb dX8_digestDates_95 rfl (lv_at hl 6 rfl) ?_
            refine lv_aload (pc := 96) hx hb dX8_digestDates_96 (lv_at hl 0 rfl) ?_
            refine zkIp (pc := 98) (zrV (As := [.ref q85]) hx hb hml hown hG hw (c_X5_countShared l Γ K X Rf se q85 fo (datM M n) foq (datM M ix.toNat) (by (first | assumption | omega)) (by (first | assumption | omega)) (by (first | assumption | omega)) (by (first | assumption | omega)) (by (first | assumption | omega)) (by (first | assumption | omega)) (by (first | assumption | omega)) (by (first | assumption | omega))) (T := TX5) hks rfl cb_X5_countShared wl_X8_270 rfl ⟨Nat.le_of_ble_eq_true rfl, Nat.le_of_ble_eq_true rfl⟩ hl.1 rfl (Nat.le_of_ble_eq_true rfl) dX8_digestDates_98 ⟨Nat.zero_le _, Nat.zero_le _⟩) hw (fun r98 H locs hp98 hw => ?_)
            subst hp98
            refine zi2lw (pc := 101) hx hb dX8_digestDates_101 ?_
            refine zkLp (pc := 102) (zrS (As := [.long (lJ vv), .long (lJ (wI (shD (datM M n) (datM M ix.toNat))))]) hx hb hml hown hG hw (c_X8_mix l Γ K X Rf vv (wI (shD (datM M n) (datM M ix.toNat)))  ) cb_X8_mix wl_X8_373 rfl ⟨Nat.le_of_ble_eq_true rfl, Nat.le_of_ble_eq_true rfl⟩ hl.1 rfl (Nat.le_of_ble_eq_true rfl) dX8_digestDates_102 ⟨Nat.zero_le _, Nat.zero_le _⟩) hw (fun r102 H locs hp102 hw => ?_)
            subst hp102
            refine ztopL (fun x105 ex105 => ?_)
            refine lv_lstore (pc := 105) (lv' := [(4, .long (lJ x105)), (8, .ref q85), (7, .int (iI ix)), (6, .int (iI x31)), (0, .ref x), (1, .long (lJ v)), (3, .ref se)]) hx hb dX8_digestDates_105 hl (by decide) rfl (fun ls hl => ?_)
            refine ziinc (pc := 107) (lv' := [(7, .int (iI (ix + 1))), (4, .long (lJ x105)), (8, .ref q85), (6, .int (iI x31)), (0, .ref x), (1, .long (lJ v)), (3, .ref se)]) hx hb 2 dX8_digestDates_107 hl rfl (by decide) rfl (fun ls hl => ?_)
            obtain ⟨x107, ex107⟩ : ∃ zz : Int, zz = (ix + 1) := ⟨_, rfl⟩
            rw [← ex107] at hl
            refine lv_goto (pc := 110) (tgt := 69) hx hb dX8_digestDates_110 (by decide) ?_
            exact ih69 x107 x105 _ _ (by (first | assumption | omega)) (by rw [ex107, dgL_s hi.1, ← hv]; unfold dgSh; first | (rw [if_pos hqi, ex105]) | (rw [if_neg (by omega)])) (by omega) hw _ (lv_sub hl [0, 1, 3, 4, 5, 6] rfl)
    exact lp69 _ 0 x64 _ _ (by (first | assumption | omega)) (by first | (show _ = dgD2 M n v; unfold dgD2 dmM; first | (rw [if_pos (by omega), ex64, ex50, ex23, ex10, hbq, hsb, ex31, hdn]) | (rw [if_neg (by omega), ex23, ex10, hbq, hsb]))) (Nat.lt_succ_self _) hw _ (lv_sub hl [0, 1, 2, 3, 4, 5] rfl)
set_option maxHeartbeats 4000000 in
set_option maxRecDepth 100000 in
theorem c_X8_digestSeries (l : Launch) (Γ : zG) (K : zK) (X : zX) (Rf : zR) (x : Nat) (v : Int) (ρ : zL) (M : zM) (hC : repC ρ K X Rf x M) (hM : okM M) : Ct l yX8_digestSeries cX8_digestSeries 7 (some .long) 6 0 0 Γ [.ref x, .long (lJ v)] K X Rf (pL (zp0 K X Rf (fun r : Int => r = dgL (dgSe M) (mx v (wI (M 40 16))) 6))) := by
  refine Ct.of (by decide +kernel) (Nat.le_of_ble_eq_true rfl) ?_
  intro p e s m below meth c ls hx hb hr hml hown hG hlocks hname hw hl
  have hl : lv_has ls 7 [(0, .ref x), (1, .long (lJ v))] := hl
  obtain ⟨⟨hk, hlx⟩, pr, pl, sr, dr, na, wo, ⟨hr0, hr2, hr4, hr6, hr7, hrd⟩, ⟨hkpr, hkpl, hksr, hkdr, hkna⟩, ⟨hlpr, hlpl, hlsr, hldr, hlna⟩, ⟨hx1, hx3, hx5⟩, hpt, hpl, hse, hwo⟩ := id hC
  obtain ⟨⟨hb1, hb2, hb3, hb4⟩, hokP, hokL, hokS, hokW, hokF⟩ := id hM
  refine lv_lload_n (pc := 0) hx hb dX8_digestSeries_0 rfl (lv_at hl 1 rfl) ?_
  refine lv_aload_n (pc := 1) hx hb dX8_digestSeries_1 rfl (lv_at hl 0 rfl) ?_
  refine zgetI (pc := 2) hx hb hG hown hw hk (T := TX8) rfl 5 (by decide) rfl wf_X8_34 rfl dX8_digestSeries_2 ?_
  refine zi2lw (pc := 5) hx hb dX8_digestSeries_5 ?_
  refine zkLp (pc := 6) (zrS (As := [.long (lJ v), .long (lJ (wI (X x 5)))]) hx hb hml hown hG hw (c_X8_mix l Γ K X Rf v (wI (X x 5))  ) cb_X8_mix wl_X8_373 rfl ⟨Nat.le_of_ble_eq_true rfl, Nat.le_of_ble_eq_true rfl⟩ hl.1 rfl (Nat.le_of_ble_eq_true rfl) dX8_digestSeries_6 ⟨Nat.zero_le _, Nat.zero_le _⟩) hw (fun r6 H locs hp6 hw => ?_)
  subst hp6
  refine ztopL (fun x9 ex9 => ?_)
  refine lv_lstore_n (pc := 9) (lv' := [(3, .long (lJ x9)), (0, .ref x), (1, .long (lJ v))]) hx hb dX8_digestSeries_9 rfl hl (by decide) rfl (fun ls hl => ?_)
  refine ziconst (pc := 10) (n := 0) hx hb dX8_digestSeries_10 ?_
  refine lv_istore (pc := 11) (lv' := [(5, .int (iI 0)), (3, .long (lJ x9)), (0, .ref x), (1, .long (lJ v))]) hx hb dX8_digestSeries_11 hl (by decide) rfl (fun ls hl => ?_)
  have lp13 : ∀ (n13 : Nat) (ix : Int) (vv : Int) (H : Heap) (locs : List Loc), (hi : 0 ≤ ix ∧ ix ≤ 6) → (hv : vv = dgL (dgSe M) (mx v (wI (M 40 16))) ix.toNat) → ((6 - ix).toNat < n13) → Wd Γ (zA K s.heap.size) K X Rf s H locs → ∀ ls : Array Slot, lv_has ls 7 [(5, .int (iI ix)), (3, .long (lJ vv)), (0, .ref x), (1, .long (lJ v))] → W p l e (rmL 6 0 0) s m ([.ref x, .long (lJ v)] : List Value).toArray below meth c H locs 0 0 (MQ below (zQ Γ K s.heap.size (pL (zp0 K X Rf (fun r : Int => r = dgL (dgSe M) (mx v (wI (M 40 16))) 6)))) ([.ref x, .long (lJ v)] : List Value).toArray s 0 0 (zA K s.heap.size)) (F0 m 13 ls []) := by
    intro n13
    induction n13 with
    | zero => intro ix vv H locs hi hv hm13; exact absurd hm13 (Nat.not_lt_zero _)
    | succ n13 ih13 =>
      intro ix vv H locs hi hv hm13 hw ls hl
      refine lv_iload (pc := 13) hx hb dX8_digestSeries_13 (lv_at hl 0 rfl) ?_
      refine lv_aload_n (pc := 15) hx hb dX8_digestSeries_15 rfl (lv_at hl 2 rfl) ?_
      refine zgetR (pc := 16) hx hb hG hown hw hk (T := TX8) rfl 4 (by decide) rfl wf_X8_30 rfl hr4 dX8_digestSeries_16 ?_
      refine zlen8 (pc := 19) hx hb hw hksr dX8_digestSeries_19 ?_
      refine zicmp_ge (pc := 20) hx hb 81 (by omega) (by omega) dX8_digestSeries_20 (by decide) (fun c20 => ?_) (fun c20 => ?_)
      · skip
        refine lv_lload_n (pc := 81) hx hb dX8_digestSeries_81 rfl (lv_at hl 1 rfl) ?_
        exact zretL (pc := 82) hx hb hlocks hr hw (Nat.zero_le _) (Nat.zero_le _) dX8_digestSeries_82 ⟨by (try dsimp only) <;> (rw [hv, show ix = 6 by omega]; rfl), rfl, rfl, rfl⟩
      · skip
        refine lv_aload_n (pc := 23) hx hb dX8_digestSeries_23 rfl (lv_at hl 2 rfl) ?_
        refine zgetR (pc := 24) hx hb hG hown hw hk (T := TX8) rfl 4 (by decide) rfl wf_X8_30 rfl hr4 dX8_digestSeries_24 ?_
        refine lv_iload (pc := 27) hx hb dX8_digestSeries_27 (lv_at hl 0 rfl) ?_
        refine zaaldQ2 (pc := 29) hx hb hw hksr ⟨by omega, by omega⟩ (by omega) dX8_digestSeries_29 (fun hq29 => ?_) (fun q29 hq29 => ?_)
        · skip
          have hno := hse.no (k := ix.toNat) (by omega) hq29
          refine lv_astoreN (pc := 30) (lv' := [(6, .null), (5, .int (iI ix)), (3, .long (lJ vv)), (0, .ref x), (1, .long (lJ v))]) hx hb dX8_digestSeries_30 hl (by decide) rfl (fun ls hl => ?_)
          refine lv_aloadN (pc := 32) hx hb dX8_digestSeries_32 (lv_at hl 0 rfl) ?_
          refine lv_ifnullN (pc := 34) (tgt := 75) hx hb dX8_digestSeries_34 (by decide) ?_
          refine ziinc (pc := 75) (lv' := [(5, .int (iI (ix + 1))), (6, .null), (3, .long (lJ vv)), (0, .ref x), (1, .long (lJ v))]) hx hb 1 dX8_digestSeries_75 hl rfl (by decide) rfl (fun ls hl => ?_)
          obtain ⟨x75, ex75⟩ : ∃ zz : Int, zz = (ix + 1) := ⟨_, rfl⟩
          rw [← ex75] at hl
          refine lv_goto (pc := 78) (tgt := 13) hx hb dX8_digestSeries_78 (by decide) ?_
          exact ih13 x75 vv _ _ (by (first | assumption | omega)) (by rw [ex75, dgL_s hi.1, ← hv]; unfold dgSe; first | (rw [if_pos hqi, if_pos (by omega), ex74, ex58, ex47, hqn]) | (rw [if_pos hqi, if_neg (by omega), ex58, ex47, hqn]) | (rw [if_neg (by omega)])) (by omega) hw _ (lv_sub hl [0, 2, 3, 4] rfl)
        · skip
          obtain ⟨hqi, p0q, hqp0, ⟨hqk, hql⟩, poq, eoq, foq, ⟨hq0, hq8, hq13, hqf⟩, ⟨hqkp, hqke, hqkf⟩, -, hqD, hqS, -, -, -, hqd⟩ := hse.at (k := ix.toNat) (by omega) hq29
          have hqd2 : dtR X q29 foq (datM M ix.toNat) := hqd
          have hqn := hqd2.1
          have hqm := hqd2.2.1
          have hqsr : ∃ sr9, Rf x 4 = some sr9 ∧ Rf sr9 ix.toNat = some q29 := ⟨sr, hr4, hq29⟩
          refine lv_astore (pc := 30) (lv' := [(6, .ref q29), (5, .int (iI ix)), (3, .long (lJ vv)), (0, .ref x), (1, .long (lJ v))]) hx hb dX8_digestSeries_30 hl (by decide) rfl (fun ls hl => ?_)
          refine lv_aload (pc := 32) hx hb dX8_digestSeries_32 (lv_at hl 0 rfl) ?_
          refine lv_ifnull (pc := 34) hx hb dX8_digestSeries_34 ?_
          refine lv_lload_n (pc := 37) hx hb dX8_digestSeries_37 rfl (lv_at hl 2 rfl) ?_
          refine lv_aload (pc := 38) hx hb dX8_digestSeries_38 (lv_at hl 0 rfl) ?_
          refine zgetI (pc := 40) hx hb hG hown hw hqk (T := TX5) rfl 16 (by decide) rfl wf_X8_256 rfl dX8_digestSeries_40 ?_
          refine zi2lw (pc := 43) hx hb dX8_digestSeries_43 ?_
          refine zkLp (pc := 44) (zrS (As := [.long (lJ vv), .long (lJ (wI (X q29 16)))]) hx hb hml hown hG hw (c_X8_mix l Γ K X Rf vv (wI (X q29 16))  ) cb_X8_mix wl_X8_373 rfl ⟨Nat.le_of_ble_eq_true rfl, Nat.le_of_ble_eq_true rfl⟩ hl.1 rfl (Nat.le_of_ble_eq_true rfl) dX8_digestSeries_44 ⟨Nat.zero_le _, Nat.zero_le _⟩) hw (fun r44 H locs hp44 hw => ?_)
          subst hp44
          refine ztopL (fun x47 ex47 => ?_)
          refine lv_lstore_n (pc := 47) (lv' := [(3, .long (lJ x47)), (6, .ref q29), (5, .int (iI ix)), (0, .ref x), (1, .long (lJ v))]) hx hb dX8_digestSeries_47 rfl hl (by decide) rfl (fun ls hl => ?_)
          refine lv_lload_n (pc := 48) hx hb dX8_digestSeries_48 rfl (lv_at hl 0 rfl) ?_
          refine lv_aload (pc := 49) hx hb dX8_digestSeries_49 (lv_at hl 1 rfl) ?_
          refine zkIp (pc := 51) (zrV (As := []) hx hb hml hown hG hw (c_X5_greatestGap l Γ K X Rf q29 foq (datM M ix.toNat) (by (first | assumption | omega)) (by (first | assumption | omega)) (by (first | assumption | omega)) (by (first | assumption | omega))) (T := TX5) hqk rfl cb_X5_greatestGap wl_X8_274 rfl ⟨Nat.le_of_ble_eq_true rfl, Nat.le_of_ble_eq_true rfl⟩ hl.1 rfl (Nat.le_of_ble_eq_true rfl) dX8_digestSeries_51 ⟨Nat.zero_le _, Nat.zero_le _⟩) hw (fun r51 H locs hp51 hw => ?_)
          subst hp51
          have hp51f0 := wdD_rng (by assumption : dtR X q29 foq (datM M ix.toNat)).2.2.2
          refine zi2lw (pc := 54) hx hb dX8_digestSeries_54 ?_
          refine zkLp (pc := 55) (zrS (As := [.long (lJ x47), .long (lJ (wI (wdD (datM M ix.toNat))))]) hx hb hml hown hG hw (c_X8_mix l Γ K X Rf x47 (wI (wdD (datM M ix.toNat)))  ) cb_X8_mix wl_X8_373 rfl ⟨Nat.le_of_ble_eq_true rfl, Nat.le_of_ble_eq_true rfl⟩ hl.1 rfl (Nat.le_of_ble_eq_true rfl) dX8_digestSeries_55 ⟨Nat.zero_le _, Nat.zero_le _⟩) hw (fun r55 H locs hp55 hw => ?_)
          subst hp55
          refine ztopL (fun x58 ex58 => ?_)
          refine lv_lstore_n (pc := 58) (lv' := [(3, .long (lJ x58)), (6, .ref q29), (5, .int (iI ix)), (0, .ref x), (1, .long (lJ v))]) hx hb dX8_digestSeries_58 rfl hl (by decide) rfl (fun ls hl => ?_)
          refine lv_aload (pc := 59) hx hb dX8_digestSeries_59 (lv_at hl 1 rfl) ?_
          refine zgetI (pc := 61) hx hb hG hown hw hqk (T := TX5) rfl 16 (by decide) rfl wf_X8_256 rfl dX8_digestSeries_61 ?_
          refine zif_le (pc := 64) hx hb 75 (by omega) dX8_digestSeries_64 (by decide) (fun c64 => ?_) (fun c64 => ?_)
          · skip
            refine ziinc (pc := 75) (lv' := [(5, .int (iI (ix + 1))), (3, .long (lJ x58)), (6, .ref q29), (0, .ref x), (1, .long (lJ v))]) hx hb 2 dX8_digestSeries_75 hl rfl (by decide) rfl (fun ls hl => ?_)
            obtain ⟨x75, ex75⟩ : ∃ zz : Int, zz = (ix + 1) := ⟨_, rfl⟩
            rw [← ex75] at hl
            refine lv_goto (pc := 78) (tgt := 13) hx hb dX8_digestSeries_78 (by decide) ?_
            exact ih13 x75 x58 _ _ (by (first | assumption | omega)) (by rw [ex75, dgL_s hi.1, ← hv]; unfold dgSe; first | (rw [if_pos hqi, if_pos (by omega), ex74, ex58, ex47, hqn]) | (rw [if_pos hqi, if_neg (by omega), ex58, ex47, hqn]) | (rw [if_neg (by omega)])) (by omega) hw _ (lv_sub hl [0, 1, 3, 4] rfl)
          · skip
            refine lv_aload_n (pc := 67) hx hb dX8_digestSeries_67 rfl (lv_at hl 3 rfl) ?_
            refine lv_lload_n (pc := 68) hx hb dX8_digestSeries_68 rfl (lv_at hl 0 rfl) ?_
            refine lv_aload (pc := 69) hx hb dX8_digestSeries_69 (lv_at hl 1 rfl) ?_
            refine zkLp (pc := 71) (zrV (As := [.long (lJ x58), .ref q29]) hx hb hml hown hG hw (c_X8_digestDates l Γ K X Rf x x58 q29 (ρ) M ix.toNat (by exact hC) (by (first | assumption | omega)) (by (first | assumption | omega)) (by (first | assumption | omega)) (by (first | assumption | omega))) (T := TX8) hk rfl cb_X8_digestDates wl_X8_380 rfl ⟨Nat.le_of_ble_eq_true rfl, Nat.le_of_ble_eq_true rfl⟩ hl.1 rfl (Nat.le_of_ble_eq_true rfl) dX8_digestSeries_71 ⟨Nat.zero_le _, Nat.zero_le _⟩) hw (fun r71 H locs hp71 hw => ?_)
            subst hp71
            refine ztopL (fun x74 ex74 => ?_)
            refine lv_lstore_n (pc := 74) (lv' := [(3, .long (lJ x74)), (6, .ref q29), (5, .int (iI ix)), (0, .ref x), (1, .long (lJ v))]) hx hb dX8_digestSeries_74 rfl hl (by decide) rfl (fun ls hl => ?_)
            refine ziinc (pc := 75) (lv' := [(5, .int (iI (ix + 1))), (3, .long (lJ x74)), (6, .ref q29), (0, .ref x), (1, .long (lJ v))]) hx hb 2 dX8_digestSeries_75 hl rfl (by decide) rfl (fun ls hl => ?_)
            obtain ⟨x75, ex75⟩ : ∃ zz : Int, zz = (ix + 1) := ⟨_, rfl⟩
            rw [← ex75] at hl
            refine lv_goto (pc := 78) (tgt := 13) hx hb dX8_digestSeries_78 (by decide) ?_
            exact ih13 x75 x74 _ _ (by (first | assumption | omega)) (by rw [ex75, dgL_s hi.1, ← hv]; unfold dgSe; first | (rw [if_pos hqi, if_pos (by omega), ex74, ex58, ex47, hqn]) | (rw [if_pos hqi, if_neg (by omega), ex58, ex47, hqn]) | (rw [if_neg (by omega)])) (by omega) hw _ (lv_sub hl [0, 1, 3, 4] rfl)
  exact lp13 _ 0 x9 _ _ (by (first | assumption | omega)) (by rw [ex9, hx5]; rfl) (Nat.lt_succ_self _) hw _ (lv_sub hl [0, 1, 2, 3] rfl)
