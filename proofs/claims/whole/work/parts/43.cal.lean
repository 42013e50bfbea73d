set_option maxHeartbeats 4000000 in
set_option maxRecDepth 100000 in
theorem c_X8_needDay (l : Launch) (hl9 : l.stackTraces = false) (Γ : zG) (K : zK) (X : zX) (Rf : zR) (day : Int)  (h1 : fit day) : Cx l yX8_needDay cX8_needDay 1 none 6 1 6 Γ [.int (iI day)] K X Rf (pV (zn0 K X Rf (0 ≤ day ∧ day ≤ 73048))) (fun E : String => E = "java/lang/IndexOutOfBoundsException" ∧ ¬(0 ≤ day ∧ day ≤ 73048)) := by
  refine Cx.of (by decide +kernel) (Nat.le_of_ble_eq_true rfl) ?_
  intro p e s m below meth c ls hx hb hr hml hown hG hlocks hname ht hX hw hl
  have hl : lv_has ls 1 [(0, .int (iI day))] := hl
  refine lv_iload_n (pc := 0) hx hb dX8_needDay_0 rfl (lv_at hl 0 rfl) ?_
  refine zif_lt (pc := 1) hx hb 11 (by omega) dX8_needDay_1 (by decide) (fun c1 => ?_) (fun c1 => ?_)
  · skip
    exact zthrowW (pc := 11) hx hb hl9 hown hG hX hw wn_X8_387 wi_javalangIndexOutOfBoundsException (List.mem_of_getElem? (i := 3) rfl) zthr_391 (hl.1.trans hml.symm) ht dX8_needDay_11 dX8_needDay_14 dX8_needDay_15 dX8_needDay_18 dX8_needDay_21 (by show 6 ≤ _; exact Nat.le_of_ble_eq_true rfl) (Nat.le_of_ble_eq_true rfl) (by show 0 + 1 ≤ 1; omega) (by show 0 + 6 ≤ 6; omega) hlocks (by (try dsimp only); first | exact ⟨rfl, by omega⟩ | exact Or.inl ⟨rfl, by omega⟩ | exact Or.inr ⟨rfl, by omega⟩ | exact Or.inr (Or.inl ⟨rfl, by omega⟩) | exact Or.inr (Or.inr ⟨rfl, by omega⟩)) (by show 0 + 1 ≤ 1; omega) (by show 0 + 6 ≤ 6; omega)
  · skip
    refine lv_iload_n (pc := 4) hx hb dX8_needDay_4 rfl (lv_at hl 0 rfl) ?_
    refine zldcw (pc := 5) (n := 73048) hx hb hown hG wk_X8_386 dX8_needDay_5 ?_
    refine zicmp_le (pc := 8) hx hb 22 (by omega) (by omega) dX8_needDay_8 (by decide) (fun c8 => ?_) (fun c8 => ?_)
    · skip
      exact vx_ret (zretV (pc := 22) hx hb hlocks hr hw (Nat.zero_le _) (Nat.zero_le _) dX8_needDay_22 ⟨by omega, rfl, rfl, rfl⟩)
    · skip
      exact zthrowW (pc := 11) hx hb hl9 hown hG hX hw wn_X8_387 wi_javalangIndexOutOfBoundsException (List.mem_of_getElem? (i := 3) rfl) zthr_391 (hl.1.trans hml.symm) ht dX8_needDay_11 dX8_needDay_14 dX8_needDay_15 dX8_needDay_18 dX8_needDay_21 (by show 6 ≤ _; exact Nat.le_of_ble_eq_true rfl) (Nat.le_of_ble_eq_true rfl) (by show 0 + 1 ≤ 1; omega) (by show 0 + 6 ≤ 6; omega) hlocks (by (try dsimp only); first | exact ⟨rfl, by omega⟩ | exact Or.inl ⟨rfl, by omega⟩ | exact Or.inr ⟨rfl, by omega⟩ | exact Or.inr (Or.inl ⟨rfl, by omega⟩) | exact Or.inr (Or.inr ⟨rfl, by omega⟩)) (by show 0 + 1 ≤ 1; omega) (by show 0 + 6 ≤ 6; omega)
set_option maxHeartbeats 4000000 in
set_option maxRecDepth 100000 in
theorem c_X8_needMoment (l : Launch) (hl9 : l.stackTraces = false) (Γ : zG) (K : zK) (X : zX) (Rf : zR) (mo : Int)  (h1 : fit mo) : Cx l yX8_needMoment cX8_needMoment 1 none 6 1 6 Γ [.int (iI mo)] K X Rf (pV (zn0 K X Rf (0 ≤ mo ∧ mo ≤ 105190559))) (fun E : String => E = "java/lang/IndexOutOfBoundsException" ∧ ¬(0 ≤ mo ∧ mo ≤ 105190559)) := by
  refine Cx.of (by decide +kernel) (Nat.le_of_ble_eq_true rfl) ?_
  intro p e s m below meth c ls hx hb hr hml hown hG hlocks hname ht hX hw hl
  have hl : lv_has ls 1 [(0, .int (iI mo))] := hl
  refine lv_iload_n (pc := 0) hx hb dX8_needMoment_0 rfl (lv_at hl 0 rfl) ?_
  refine zif_lt (pc := 1) hx hb 10 (by omega) dX8_needMoment_1 (by decide) (fun c1 => ?_) (fun c1 => ?_)
  · skip
    exact zthrowW (pc := 10) hx hb hl9 hown hG hX hw wn_X8_387 wi_javalangIndexOutOfBoundsException (List.mem_of_getElem? (i := 17) rfl) zthr_391 (hl.1.trans hml.symm) ht dX8_needMoment_10 dX8_needMoment_13 dX8_needMoment_14 dX8_needMoment_17 dX8_needMoment_20 (by show 6 ≤ _; exact Nat.le_of_ble_eq_true rfl) (Nat.le_of_ble_eq_true rfl) (by show 0 + 1 ≤ 1; omega) (by show 0 + 6 ≤ 6; omega) hlocks (by (try dsimp only); first | exact ⟨rfl, by omega⟩ | exact Or.inl ⟨rfl, by omega⟩ | exact Or.inr ⟨rfl, by omega⟩ | exact Or.inr (Or.inl ⟨rfl, by omega⟩) | exact Or.inr (Or.inr ⟨rfl, by omega⟩)) (by show 0 + 1 ≤ 1; omega) (by show 0 + 6 ≤ 6; omega)
  · skip
    refine lv_iload_n (pc := 4) hx hb dX8_needMoment_4 rfl (lv_at hl 0 rfl) ?_
    refine zldc (pc := 5) (n := 105190559) hx hb hown hG wk_X8_200 dX8_needMoment_5 ?_
    refine zicmp_le (pc := 7) hx hb 21 (by omega) (by omega) dX8_needMoment_7 (by decide) (fun c7 => ?_) (fun c7 => ?_)
    · skip
      exact vx_ret (zretV (pc := 21) hx hb hlocks hr hw (Nat.zero_le _) (Nat.zero_le _) dX8_needMoment_21 ⟨by omega, rfl, rfl, rfl⟩)
    · skip
      exact zthrowW (pc := 10) hx hb hl9 hown hG hX hw wn_X8_387 wi_javalangIndexOutOfBoundsException (List.mem_of_getElem? (i := 17) rfl) zthr_391 (hl.1.trans hml.symm) ht dX8_needMoment_10 dX8_needMoment_13 dX8_needMoment_14 dX8_needMoment_17 dX8_needMoment_20 (by show 6 ≤ _; exact Nat.le_of_ble_eq_true rfl) (Nat.le_of_ble_eq_true rfl) (by show 0 + 1 ≤ 1; omega) (by show 0 + 6 ≤ 6; omega) hlocks (by (try dsimp only); first | exact ⟨rfl, by omega⟩ | exact Or.inl ⟨rfl, by omega⟩ | exact Or.inr ⟨rfl, by omega⟩ | exact Or.inr (Or.inl ⟨rfl, by omega⟩) | exact Or.inr (Or.inr ⟨rfl, by omega⟩)) (by show 0 + 1 ≤ 1; omega) (by show 0 + 6 ≤ 6; omega)
set_option maxHeartbeats 4000000 in
set_option maxRecDepth 100000 in
theorem c_X8_needYear (l : Launch) (hl9 : l.stackTraces = false) (Γ : zG) (K : zK) (X : zX) (Rf : zR) (year : Int)  (h1 : fit year) : Cx l yX8_needYear cX8_needYear 1 none 6 1 6 Γ [.int (iI year)] K X Rf (pV (zn0 K X Rf (1900 ≤ year ∧ year ≤ 2099))) (fun E : String => E = "java/lang/IllegalArgumentException" ∧ ¬(1900 ≤ year ∧ year ≤ 2099)) := by
  refine Cx.of (by decide +kernel) (Nat.le_of_ble_eq_true rfl) ?_
  intro p e s m below meth c ls hx hb hr hml hown hG hlocks hname ht hX hw hl
  have hl : lv_has ls 1 [(0, .int (iI year))] := hl
  refine lv_iload_n (pc := 0) hx hb dX8_needYear_0 rfl (lv_at hl 0 rfl) ?_
  refine zsipush (pc := 1) (n := 1900) hx hb dX8_needYear_1 rfl ?_
  refine zicmp_lt (pc := 4) hx hb 14 (by omega) (by omega) dX8_needYear_4 (by decide) (fun c4 => ?_) (fun c4 => ?_)
  · skip
    exact zthrowW (pc := 14) hx hb hl9 hown hG hX hw wn_X8_56 wi_javalangIllegalArgumentException (List.mem_of_getElem? (i := 0) rfl) zthr_60 (hl.1.trans hml.symm) ht dX8_needYear_14 dX8_needYear_17 dX8_needYear_18 dX8_needYear_21 dX8_needYear_24 (by show 6 ≤ _; exact Nat.le_of_ble_eq_true rfl) (Nat.le_of_ble_eq_true rfl) (by show 0 + 1 ≤ 1; omega) (by show 0 + 6 ≤ 6; omega) hlocks (by (try dsimp only); first | exact ⟨rfl, by omega⟩ | exact Or.inl ⟨rfl, by omega⟩ | exact Or.inr ⟨rfl, by omega⟩ | exact Or.inr (Or.inl ⟨rfl, by omega⟩) | exact Or.inr (Or.inr ⟨rfl, by omega⟩)) (by show 0 + 1 ≤ 1; omega) (by show 0 + 6 ≤ 6; omega)
  · skip
    refine lv_iload_n (pc := 7) hx hb dX8_needYear_7 rfl (lv_at hl 0 rfl) ?_
    refine zsipush (pc := 8) (n := 2099) hx hb dX8_needYear_8 rfl ?_
    refine zicmp_le (pc := 11) hx hb 25 (by omega) (by omega) dX8_needYear_11 (by decide) (fun c11 => ?_) (fun c11 => ?_)
    · skip
      exact vx_ret (zretV (pc := 25) hx hb hlocks hr hw (Nat.zero_le _) (Nat.zero_le _) dX8_needYear_25 ⟨by omega, rfl, rfl, rfl⟩)
    · skip
      exact zthrowW (pc := 14) hx hb hl9 hown hG hX hw wn_X8_56 wi_javalangIllegalArgumentException (List.mem_of_getElem? (i := 0) rfl) zthr_60 (hl.1.trans hml.symm) ht dX8_needYear_14 dX8_needYear_17 dX8_needYear_18 dX8_needYear_21 dX8_needYear_24 (by show 6 ≤ _; exact Nat.le_of_ble_eq_true rfl) (Nat.le_of_ble_eq_true rfl) (by show 0 + 1 ≤ 1; omega) (by show 0 + 6 ≤ 6; omega) hlocks (by (try dsimp only); first | exact ⟨rfl, by omega⟩ | exact Or.inl ⟨rfl, by omega⟩ | exact Or.inr ⟨rfl, by omega⟩ | exact Or.inr (Or.inl ⟨rfl, by omega⟩) | exact Or.inr (Or.inr ⟨rfl, by omega⟩)) (by show 0 + 1 ≤ 1; omega) (by show 0 + 6 ≤ 6; omega)
set_option maxHeartbeats 4000000 in
set_option maxRecDepth 100000 in
theorem c_X8_needYears (l : Launch) (hl9 : l.stackTraces = false) (Γ : zG) (K : zK) (X : zX) (Rf : zR) (fy : Int) (ly : Int)  (h1 : fit fy ∧ fit ly) : Cx l yX8_needYears cX8_needYears 2 none 7 2 12 Γ [.int (iI fy), .int (iI ly)] K X Rf (pV (zn0 K X Rf ((1900 ≤ fy ∧ fy ≤ 2099) ∧ fy ≤ ly ∧ ly ≤ 2099))) (fun E : String => E = "java/lang/IllegalArgumentException" ∧ ¬((1900 ≤ fy ∧ fy ≤ 2099) ∧ fy ≤ ly ∧ ly ≤ 2099)) := by
  refine Cx.of (by decide +kernel) (Nat.le_of_ble_eq_true rfl) ?_
  intro p e s m below meth c ls hx hb hr hml hown hG hlocks hname ht hX hw hl
  have hl : lv_has ls 2 [(0, .int (iI fy)), (1, .int (iI ly))] := hl
  refine lv_iload_n (pc := 0) hx hb dX8_needYears_0 rfl (lv_at hl 0 rfl) ?_
  refine zxkVp (pc := 1) (zxrS (As := [.int (iI fy)]) hx hb hml hown hG hX hw (c_X8_needYear l hl9 Γ K X Rf fy  (by (first | assumption | omega))) cb_X8_needYear wl_X8_53 rfl ⟨Nat.le_of_ble_eq_true rfl, Nat.le_of_ble_eq_true rfl⟩ hl.1 rfl (Nat.le_of_ble_eq_true rfl) dX8_needYears_1 ⟨(by show 0 + 1 ≤ 2; omega), (by show 0 + 6 ≤ 12; omega)⟩) hw (fun E9 ce9 q9 H9 locs9 hxp9 hw9 hce9 hcv9 hcl9 => zxout (pc := 1) ht hlocks hw9 hce9 hcv9 hcl9 (by (obtain ⟨rfl, hq9⟩ := hxp9; exact ⟨rfl, by omega⟩)) (by show 0 + 1 ≤ 2; omega) (by show 0 + 6 ≤ 12; omega)) (fun H locs hp1 hw => ?_)
  refine lv_iload_n (pc := 4) hx hb dX8_needYears_4 rfl (lv_at hl 1 rfl) ?_
  refine lv_iload_n (pc := 5) hx hb dX8_needYears_5 rfl (lv_at hl 0 rfl) ?_
  refine zicmp_lt (pc := 6) hx hb 16 (by omega) (by omega) dX8_needYears_6 (by decide) (fun c6 => ?_) (fun c6 => ?_)
  · skip
    exact zthrowW (pc := 16) hx hb hl9 hown hG hX hw wn_X8_56 wi_javalangIllegalArgumentException (List.mem_of_getElem? (i := 13) rfl) zthr_60 (hl.1.trans hml.symm) ht dX8_needYears_16 dX8_needYears_19 dX8_needYears_20 dX8_needYears_23 dX8_needYears_26 (by show 6 ≤ _; exact Nat.le_of_ble_eq_true rfl) (Nat.le_of_ble_eq_true rfl) (by show 0 + 1 + 1 ≤ 2; omega) (by show 0 + 6 + 6 ≤ 12; omega) hlocks (by (try dsimp only); first | exact ⟨rfl, by omega⟩ | exact Or.inl ⟨rfl, by omega⟩ | exact Or.inr ⟨rfl, by omega⟩ | exact Or.inr (Or.inl ⟨rfl, by omega⟩) | exact Or.inr (Or.inr ⟨rfl, by omega⟩)) (by show 0 + 1 + 1 ≤ 2; omega) (by show 0 + 6 + 6 ≤ 12; omega)
  · skip
    refine lv_iload_n (pc := 9) hx hb dX8_needYears_9 rfl (lv_at hl 1 rfl) ?_
    refine zsipush (pc := 10) (n := 2099) hx hb dX8_needYears_10 rfl ?_
    refine zicmp_le (pc := 13) hx hb 27 (by omega) (by omega) dX8_needYears_13 (by decide) (fun c13 => ?_) (fun c13 => ?_)
    · skip
      exact vx_ret (zretV (pc := 27) hx hb hlocks hr hw (by show 0 + 1 ≤ 2; omega) (by show 0 + 6 ≤ 12; omega) dX8_needYears_27 ⟨by omega, rfl, rfl, rfl⟩)
    · skip
      exact zthrowW (pc := 16) hx hb hl9 hown hG hX hw wn_X8_56 wi_javalangIllegalArgumentException (List.mem_of_getElem? (i := 13) rfl) zthr_60 (hl.1.trans hml.symm) ht dX8_needYears_16 dX8_needYears_19 dX8_needYears_20 dX8_needYears_23 dX8_needYears_26 (by show 6 ≤ _; exact Nat.le_of_ble_eq_true rfl) (Nat.le_of_ble_eq_true rfl) (by show 0 + 1 + 1 ≤ 2; omega) (by show 0 + 6 + 6 ≤ 12; omega) hlocks (by (try dsimp only); first | exact ⟨rfl, by omega⟩ | exact Or.inl ⟨rfl, by omega⟩ | exact Or.inr ⟨rfl, by omega⟩ | exact Or.inr (Or.inl ⟨rfl, by omega⟩) | exact Or.inr (Or.inr ⟨rfl, by omega⟩)) (by show 0 + 1 + 1 ≤ 2; omega) (by show 0 + 6 + 6 ≤ 12; omega)
set_option maxHeartbeats 4000000 in
set_option maxRecDepth 100000 in
theorem c_X8_needPattern (l : Launch) (hl9 : l.stackTraces = false) (Γ : zG) (K : zK) (X : zX) (Rf : zR) (x : Nat) (a : Int) (pr : Nat) (M : zM) (hk : K x = (1, 7)) (hr0 : Rf x 0 = some pr) (hkpr : K pr = (6, 24)) (hpt : ptOK K X Rf pr M) (h1 : fit a) (hb1 : 0 ≤ M 40 1 ∧ M 40 1 ≤ 24) : Cx l yX8_needPattern cX8_needPattern 3 (some (.object "ZoneCalendar$Pattern")) 6 1 6 Γ [.ref x, .int (iI a)] K X Rf (pR (zr0 K X Rf (fun r => (Rf pr a.toNat = some r ∧ K r = (1, 2) ∧ psame (X r) (patM M a.toNat)) ∧ 0 ≤ a ∧ a < M 40 1))) (fun E : String => E = "java/lang/IndexOutOfBoundsException" ∧ ¬(0 ≤ a ∧ a < M 40 1)) := by
  refine Cx.of (by decide +kernel) (Nat.le_of_ble_eq_true rfl) ?_
  intro p e s m below meth c ls hx hb hr hml hown hG hlocks hname ht hX hw hl
  have hl : lv_has ls 3 [(0, .ref x), (1, .int (iI a))] := hl
  refine lv_iload_n (pc := 0) hx hb dX8_needPattern_0 rfl (lv_at hl 1 rfl) ?_
  refine zif_lt (pc := 1) hx hb 13 (by omega) dX8_needPattern_1 (by decide) (fun c1 => ?_) (fun c1 => ?_)
  · skip
    refine lv_null (pc := 13) hx hb dX8_needPattern_13 ?_
    refine lv_goto (pc := 14) (tgt := 23) hx hb dX8_needPattern_14 (by decide) ?_
    refine lv_astore_nN (pc := 23) (lv' := [(2, .null), (0, .ref x), (1, .int (iI a))]) hx hb dX8_needPattern_23 rfl hl (by decide) rfl (fun ls hl => ?_)
    refine lv_aload_nN (pc := 24) hx hb dX8_needPattern_24 rfl (lv_at hl 0 rfl) ?_
    refine lv_ifnonnullN (pc := 25) hx hb dX8_needPattern_25 ?_
    exact zthrowW (pc := 28) hx hb hl9 hown hG hX hw wn_X8_387 wi_javalangIndexOutOfBoundsException (List.mem_of_getElem? (i := 9) rfl) zthr_391 (hl.1.trans hml.symm) ht dX8_needPattern_28 dX8_needPattern_31 dX8_needPattern_32 dX8_needPattern_35 dX8_needPattern_38 (by show 6 ≤ _; exact Nat.le_of_ble_eq_true rfl) (Nat.le_of_ble_eq_true rfl) (by show 0 + 1 ≤ 1; omega) (by show 0 + 6 ≤ 6; omega) hlocks (by (try dsimp only); first | exact ⟨rfl, by omega⟩ | exact Or.inl ⟨rfl, by omega⟩ | exact Or.inr ⟨rfl, by omega⟩ | exact Or.inr (Or.inl ⟨rfl, by omega⟩) | exact Or.inr (Or.inr ⟨rfl, by omega⟩)) (by show 0 + 1 ≤ 1; omega) (by show 0 + 6 ≤ 6; omega)
  · skip
    refine lv_iload_n (pc := 4) hx hb dX8_needPattern_4 rfl (lv_at hl 1 rfl) ?_
    refine lv_aload_n (pc := 5) hx hb dX8_needPattern_5 rfl (lv_at hl 0 rfl) ?_
    refine zgetR (pc := 6) hx hb hG hown hw hk (T := TX8) rfl 0 (by decide) rfl wf_X8_9 rfl hr0 dX8_needPattern_6 ?_
    refine zlen6 (pc := 9) hx hb hw hkpr dX8_needPattern_9 ?_
    refine zicmp_lt (pc := 10) hx hb 17 (by omega) (by omega) dX8_needPattern_10 (by decide) (fun c10 => ?_) (fun c10 => ?_)
    · skip
      refine lv_aload_n (pc := 17) hx hb dX8_needPattern_17 rfl (lv_at hl 0 rfl) ?_
      refine zgetR (pc := 18) hx hb hG hown hw hk (T := TX8) rfl 0 (by decide) rfl wf_X8_9 rfl hr0 dX8_needPattern_18 ?_
      refine lv_iload_n (pc := 21) hx hb dX8_needPattern_21 rfl (lv_at hl 1 rfl) ?_
      refine zaaldQ0 (pc := 22) hx hb hw hkpr ⟨by omega, by omega⟩ (by omega) dX8_needPattern_22 (fun hq22 => ?_) (fun q22 hq22 => ?_)
      · skip
        have hno := hpt.no (k := a.toNat) (by omega) hq22
        refine lv_astore_nN (pc := 23) (lv' := [(2, .null), (0, .ref x), (1, .int (iI a))]) hx hb dX8_needPattern_23 rfl hl (by decide) rfl (fun ls hl => ?_)
        refine lv_aload_nN (pc := 24) hx hb dX8_needPattern_24 rfl (lv_at hl 0 rfl) ?_
        refine lv_ifnonnullN (pc := 25) hx hb dX8_needPattern_25 ?_
        exact zthrowW (pc := 28) hx hb hl9 hown hG hX hw wn_X8_387 wi_javalangIndexOutOfBoundsException (List.mem_of_getElem? (i := 9) rfl) zthr_391 (hl.1.trans hml.symm) ht dX8_needPattern_28 dX8_needPattern_31 dX8_needPattern_32 dX8_needPattern_35 dX8_needPattern_38 (by show 6 ≤ _; exact Nat.le_of_ble_eq_true rfl) (Nat.le_of_ble_eq_true rfl) (by show 0 + 1 ≤ 1; omega) (by show 0 + 6 ≤ 6; omega) hlocks (by (try dsimp only); first | exact ⟨rfl, by omega⟩ | exact Or.inl ⟨rfl, by omega⟩ | exact Or.inr ⟨rfl, by omega⟩ | exact Or.inr (Or.inl ⟨rfl, by omega⟩) | exact Or.inr (Or.inr ⟨rfl, by omega⟩)) (by show 0 + 1 ≤ 1; omega) (by show 0 + 6 ≤ 6; omega)
      · skip
        obtain ⟨hqi, hqk, hqs⟩ := hpt.at (k := a.toNat) (by omega) hq22
        have hqh := hq22
        refine lv_astore_n (pc := 23) (lv' := [(2, .ref q22), (0, .ref x), (1, .int (iI a))]) hx hb dX8_needPattern_23 rfl hl (by decide) rfl (fun ls hl => ?_)
        refine lv_aload_n (pc := 24) hx hb dX8_needPattern_24 rfl (lv_at hl 0 rfl) ?_
        refine lv_ifnonnull (pc := 25) (tgt := 39) hx hb dX8_needPattern_25 (by decide) ?_
        refine lv_aload_n (pc := 39) hx hb dX8_needPattern_39 rfl (lv_at hl 0 rfl) ?_
        exact vx_ret (zretR (pc := 40) hx hb hlocks hr (by first | exact Or.inl ⟨_, rfl⟩ | exact Or.inr ⟨_, rfl⟩) hw (Nat.zero_le _) (Nat.zero_le _) dX8_needPattern_40 (by exact ⟨⟨⟨hqh, hqk, hqs⟩, by omega⟩, rfl, rfl, rfl⟩))
    · skip
      refine lv_null (pc := 13) hx hb dX8_needPattern_13 ?_
      refine lv_goto (pc := 14) (tgt := 23) hx hb dX8_needPattern_14 (by decide) ?_
      refine lv_astore_nN (pc := 23) (lv' := [(2, .null), (0, .ref x), (1, .int (iI a))]) hx hb dX8_needPattern_23 rfl hl (by decide) rfl (fun ls hl => ?_)
      refine lv_aload_nN (pc := 24) hx hb dX8_needPattern_24 rfl (lv_at hl 0 rfl) ?_
      refine lv_ifnonnullN (pc := 25) hx hb dX8_needPattern_25 ?_
      exact zthrowW (pc := 28) hx hb hl9 hown hG hX hw wn_X8_387 wi_javalangIndexOutOfBoundsException (List.mem_of_getElem? (i := 9) rfl) zthr_391 (hl.1.trans hml.symm) ht dX8_needPattern_28 dX8_needPattern_31 dX8_needPattern_32 dX8_needPattern_35 dX8_needPattern_38 (by show 6 ≤ _; exact Nat.le_of_ble_eq_true rfl) (Nat.le_of_ble_eq_true rfl) (by show 0 + 1 ≤ 1; omega) (by show 0 + 6 ≤ 6; omega) hlocks (by (try dsimp only); first | exact ⟨rfl, by omega⟩ | exact Or.inl ⟨rfl, by omega⟩ | exact Or.inr ⟨rfl, by omega⟩ | exact Or.inr (Or.inl ⟨rfl, by omega⟩) | exact Or.inr (Or.inr ⟨rfl, by omega⟩)) (by show 0 + 1 ≤ 1; omega) (by show 0 + 6 ≤ 6; omega)
set_option maxHeartbeats 4000000 in
set_option maxRecDepth 100000 in
theorem c_X8_needPlace (l : Launch) (hl9 : l.stackTraces = false) (Γ : zG) (K : zK) (X : zX) (Rf : zR) (x : Nat) (a : Int) (pl : Nat) (ρ : zL) (M : zM) (hk : K x = (1, 7)) (hr2 : Rf x 2 = some pl) (hkpl : K pl = (7, 6)) (hpl : plOK ρ K X Rf pl M) (h1 : fit a) (hb2 : 0 ≤ M 40 5 ∧ M 40 5 ≤ 6) : Cx l yX8_needPlace cX8_needPlace 3 (some (.object "ZoneCalendar$Place")) 6 1 6 Γ [.ref x, .int (iI a)] K X Rf (pR (zr0 K X Rf (fun r => (Rf pl a.toNat = some r ∧ plA ρ K X Rf (100 + 10 * a.toNat) r (M 6 a.toNat) (M 7 a.toNat).toNat (turM M a.toNat) (tupM M a.toNat)) ∧ 0 ≤ a ∧ a < M 40 5))) (fun E : String => E = "java/lang/IndexOutOfBoundsException" ∧ ¬(0 ≤ a ∧ a < M 40 5)) := by
  refine Cx.of (by decide +kernel) (Nat.le_of_ble_eq_true rfl) ?_
  intro p e s m below meth c ls hx hb hr hml hown hG hlocks hname ht hX hw hl
  have hl : lv_has ls 3 [(0, .ref x), (1, .int (iI a))] := hl
  refine lv_iload_n (pc := 0) hx hb dX8_needPlace_0 rfl (lv_at hl 1 rfl) ?_
  refine zif_lt (pc := 1) hx hb 13 (by omega) dX8_needPlace_1 (by decide) (fun c1 => ?_) (fun c1 => ?_)
  · skip
    refine lv_null (pc := 13) hx hb dX8_needPlace_13 ?_
    refine lv_goto (pc := 14) (tgt := 23) hx hb dX8_needPlace_14 (by decide) ?_
    refine lv_astore_nN (pc := 23) (lv' := [(2, .null), (0, .ref x), (1, .int (iI a))]) hx hb dX8_needPlace_23 rfl hl (by decide) rfl (fun ls hl => ?_)
    refine lv_aload_nN (pc := 24) hx hb dX8_needPlace_24 rfl (lv_at hl 0 rfl) ?_
    refine lv_ifnonnullN (pc := 25) hx hb dX8_needPlace_25 ?_
    exact zthrowW (pc := 28) hx hb hl9 hown hG hX hw wn_X8_387 wi_javalangIndexOutOfBoundsException (List.mem_of_getElem? (i := 12) rfl) zthr_391 (hl.1.trans hml.symm) ht dX8_needPlace_28 dX8_needPlace_31 dX8_needPlace_32 dX8_needPlace_35 dX8_needPlace_38 (by show 6 ≤ _; exact Nat.le_of_ble_eq_true rfl) (Nat.le_of_ble_eq_true rfl) (by show 0 + 1 ≤ 1; omega) (by show 0 + 6 ≤ 6; omega) hlocks (by (try dsimp only); first | exact ⟨rfl, by omega⟩ | exact Or.inl ⟨rfl, by omega⟩ | exact Or.inr ⟨rfl, by omega⟩ | exact Or.inr (Or.inl ⟨rfl, by omega⟩) | exact Or.inr (Or.inr ⟨rfl, by omega⟩)) (by show 0 + 1 ≤ 1; omega) (by show 0 + 6 ≤ 6; omega)
  · skip
    refine lv_iload_n (pc := 4) hx hb dX8_needPlace_4 rfl (lv_at hl 1 rfl) ?_
    refine lv_aload_n (pc := 5) hx hb dX8_needPlace_5 rfl (lv_at hl 0 rfl) ?_
    refine zgetR (pc := 6) hx hb hG hown hw hk (T := TX8) rfl 2 (by decide) rfl wf_X8_21 rfl hr2 dX8_needPlace_6 ?_
    refine zlen7 (pc := 9) hx hb hw hkpl dX8_needPlace_9 ?_
    refine zicmp_lt (pc := 10) hx hb 17 (by omega) (by omega) dX8_needPlace_10 (by decide) (fun c10 => ?_) (fun c10 => ?_)
    · skip
      refine lv_aload_n (pc := 17) hx hb dX8_needPlace_17 rfl (lv_at hl 0 rfl) ?_
      refine zgetR (pc := 18) hx hb hG hown hw hk (T := TX8) rfl 2 (by decide) rfl wf_X8_21 rfl hr2 dX8_needPlace_18 ?_
      refine lv_iload_n (pc := 21) hx hb dX8_needPlace_21 rfl (lv_at hl 1 rfl) ?_
      refine zaaldQ1 (pc := 22) hx hb hw hkpl ⟨by omega, by omega⟩ (by omega) dX8_needPlace_22 (fun hq22 => ?_) (fun q22 hq22 => ?_)
      · skip
        have hno := hpl.no (k := a.toNat) (by omega) hq22
        refine lv_astore_nN (pc := 23) (lv' := [(2, .null), (0, .ref x), (1, .int (iI a))]) hx hb dX8_needPlace_23 rfl hl (by decide) rfl (fun ls hl => ?_)
        refine lv_aload_nN (pc := 24) hx hb dX8_needPlace_24 rfl (lv_at hl 0 rfl) ?_
        refine lv_ifnonnullN (pc := 25) hx hb dX8_needPlace_25 ?_
        exact zthrowW (pc := 28) hx hb hl9 hown hG hX hw wn_X8_387 wi_javalangIndexOutOfBoundsException (List.mem_of_getElem? (i := 12) rfl) zthr_391 (hl.1.trans hml.symm) ht dX8_needPlace_28 dX8_needPlace_31 dX8_needPlace_32 dX8_needPlace_35 dX8_needPlace_38 (by show 6 ≤ _; exact Nat.le_of_ble_eq_true rfl) (Nat.le_of_ble_eq_true rfl) (by show 0 + 1 ≤ 1; omega) (by show 0 + 6 ≤ 6; omega) hlocks (by (try dsimp only); first | exact ⟨rfl, by omega⟩ | exact Or.inl ⟨rfl, by omega⟩ | exact Or.inr ⟨rfl, by omega⟩ | exact Or.inr (Or.inl ⟨rfl, by omega⟩) | exact Or.inr (Or.inr ⟨rfl, by omega⟩)) (by show 0 + 1 ≤ 1; omega) (by show 0 + 6 ≤ 6; omega)
      · skip
        obtain ⟨hqi, hqs⟩ := hpl.at (k := a.toNat) (by omega) hq22
        have hqh := hq22
        have hqk := hqs.1.1
        refine lv_astore_n (pc := 23) (lv' := [(2, .ref q22), (0, .ref x), (1, .int (iI a))]) hx hb dX8_needPlace_23 rfl hl (by decide) rfl (fun ls hl => ?_)
        refine lv_aload_n (pc := 24) hx hb dX8_needPlace_24 rfl (lv_at hl 0 rfl) ?_
        refine lv_ifnonnull (pc := 25) (tgt := 39) hx hb dX8_needPlace_25 (by decide) ?_
        refine lv_aload_n (pc := 39) hx hb dX8_needPlace_39 rfl (lv_at hl 0 rfl) ?_
        exact vx_ret (zretR (pc := 40) hx hb hlocks hr (by first | exact Or.inl ⟨_, rfl⟩ | exact Or.inr ⟨_, rfl⟩) hw (Nat.zero_le _) (Nat.zero_le _) dX8_needPlace_40 (by exact ⟨⟨⟨hqh, hqs⟩, by omega⟩, rfl, rfl, rfl⟩))
    · skip
      refine lv_null (pc := 13) hx hb dX8_needPlace_13 ?_
      refine lv_goto (pc := 14) (tgt := 23) hx hb dX8_needPlace_14 (by decide) ?_
      refine lv_astore_nN (pc := 23) (lv' := [(2, .null), (0, .ref x), (1, .int (iI a))]) hx hb dX8_needPlace_23 rfl hl (by decide) rfl (fun ls hl => ?_)
      refine lv_aload_nN (pc := 24) hx hb dX8_needPlace_24 rfl (lv_at hl 0 rfl) ?_
      refine lv_ifnonnullN (pc := 25) hx hb dX8_needPlace_25 ?_
      exact zthrowW (pc := 28) hx hb hl9 hown hG hX hw wn_X8_387 wi_javalangIndexOutOfBoundsException (List.mem_of_getElem? (i := 12) rfl) zthr_391 (hl.1.trans hml.symm) ht dX8_needPlace_28 dX8_needPlace_31 dX8_needPlace_32 dX8_needPlace_35 dX8_needPlace_38 (by show 6 ≤ _; exact Nat.le_of_ble_eq_true rfl) (Nat.le_of_ble_eq_true rfl) (by show 0 + 1 ≤ 1; omega) (by show 0 + 6 ≤ 6; omega) hlocks (by (try dsimp only); first | exact ⟨rfl, by omega⟩ | exact Or.inl ⟨rfl, by omega⟩ | exact Or.inr ⟨rfl, by omega⟩ | exact Or.inr (Or.inl ⟨rfl, by omega⟩) | exact Or.inr (Or.inr ⟨rfl, by omega⟩)) (by show 0 + 1 ≤ 1; omega) (by show 0 + 6 ≤ 6; omega)
set_option maxHeartbeats 4000000 in
set_option maxRecDepth 100000 in
theorem c_X8_needSeries (l : Launch) (hl9 : l.stackTraces = false) (Γ : zG) (K : zK) (X : zX) (Rf : zR) (x : Nat) (a : Int) (sr : Nat) (pl : Nat) (ρ : zL) (M : zM) (hk : K x = (1, 7)) (hr4 : Rf x 4 = some sr) (hksr : K sr = (8, 6)) (hse : seOK ρ K X Rf pl sr M) (h1 : fit a) (hb3 : 0 ≤ M 40 16 ∧ M 40 16 ≤ 6) : Cx l yX8_needSeries cX8_needSeries 3 (some (.object "ZoneCalendar$Series")) 6 1 6 Γ [.ref x, .int (iI a)] K X Rf (pR (zr0 K X Rf (fun r => (Rf sr a.toNat = some r ∧ ∃ p0, Rf pl (serM M a.toNat 0).toNat = some p0 ∧ seA ρ K X Rf (200 + 10 * a.toNat) r p0 (serM M a.toNat) (useM M a.toNat) (excM M a.toNat)) ∧ 0 ≤ a ∧ a < M 40 16))) (fun E : String => E = "java/lang/IndexOutOfBoundsException" ∧ ¬(0 ≤ a ∧ a < M 40 16)) := by
  refine Cx.of (by decide +kernel) (Nat.le_of_ble_eq_true rfl) ?_
  intro p e s m below meth c ls hx hb hr hml hown hG hlocks hname ht hX hw hl
  have hl : lv_has ls 3 [(0, .ref x), (1, .int (iI a))] := hl
  refine lv_iload_n (pc := 0) hx hb dX8_needSeries_0 rfl (lv_at hl 1 rfl) ?_
  refine zif_lt (pc := 1) hx hb 13 (by omega) dX8_needSeries_1 (by decide) (fun c1 => ?_) (fun c1 => ?_)
  · skip
    refine lv_null (pc := 13) hx hb dX8_needSeries_13 ?_
    refine lv_goto (pc := 14) (tgt := 23) hx hb dX8_needSeries_14 (by decide) ?_
    refine lv_astore_nN (pc := 23) (lv' := [(2, .null), (0, .ref x), (1, .int (iI a))]) hx hb dX8_needSeries_23 rfl hl (by decide) rfl (fun ls hl => ?_)
    refine lv_aload_nN (pc := 24) hx hb dX8_needSeries_24 rfl (lv_at hl 0 rfl) ?_
    refine lv_ifnonnullN (pc := 25) hx hb dX8_needSeries_25 ?_
    exact zthrowW (pc := 28) hx hb hl9 hown hG hX hw wn_X8_387 wi_javalangIndexOutOfBoundsException (List.mem_of_getElem? (i := 21) rfl) zthr_391 (hl.1.trans hml.symm) ht dX8_needSeries_28 dX8_needSeries_31 dX8_needSeries_32 dX8_needSeries_35 dX8_needSeries_38 (by show 6 ≤ _; exact Nat.le_of_ble_eq_true rfl) (Nat.le_of_ble_eq_true rfl) (by show 0 + 1 ≤ 1; omega) (by show 0 + 6 ≤ 6; omega) hlocks (by (try dsimp only); first | exact ⟨rfl, by omega⟩ | exact Or.inl ⟨rfl, by omega⟩ | exact Or.inr ⟨rfl, by omega⟩ | exact Or.inr (Or.inl ⟨rfl, by omega⟩) | exact Or.inr (Or.inr ⟨rfl, by omega⟩)) (by show 0 + 1 ≤ 1; omega) (by show 0 + 6 ≤ 6; omega)
  · skip
    refine lv_iload_n (pc := 4) hx hb dX8_needSeries_4 rfl (lv_at hl 1 rfl) ?_
    refine lv_aload_n (pc := 5) hx hb dX8_needSeries_5 rfl (lv_at hl 0 rfl) ?_
    refine zgetR (pc := 6) hx hb hG hown hw hk (T := TX8) rfl 4 (by decide) rfl wf_X8_30 rfl hr4 dX8_needSeries_6 ?_
    refine zlen8 (pc := 9) hx hb hw hksr dX8_needSeries_9 ?_
    refine zicmp_lt (pc := 10) hx hb 17 (by omega) (by omega) dX8_needSeries_10 (by decide) (fun c10 => ?_) (fun c10 => ?_)
    · skip
      refine lv_aload_n (pc := 17) hx hb dX8_needSeries_17 rfl (lv_at hl 0 rfl) ?_
      refine zgetR (pc := 18) hx hb hG hown hw hk (T := TX8) rfl 4 (by decide) rfl wf_X8_30 rfl hr4 dX8_needSeries_18 ?_
      refine lv_iload_n (pc := 21) hx hb dX8_needSeries_21 rfl (lv_at hl 1 rfl) ?_
      refine zaaldQ2 (pc := 22) hx hb hw hksr ⟨by omega, by omega⟩ (by omega) dX8_needSeries_22 (fun hq22 => ?_) (fun q22 hq22 => ?_)
      · skip
        have hno := hse.no (k := a.toNat) (by omega) hq22
        refine lv_astore_nN (pc := 23) (lv' := [(2, .null), (0, .ref x), (1, .int (iI a))]) hx hb dX8_needSeries_23 rfl hl (by decide) rfl (fun ls hl => ?_)
        refine lv_aload_nN (pc := 24) hx hb dX8_needSeries_24 rfl (lv_at hl 0 rfl) ?_
        refine lv_ifnonnullN (pc := 25) hx hb dX8_needSeries_25 ?_
        exact zthrowW (pc := 28) hx hb hl9 hown hG hX hw wn_X8_387 wi_javalangIndexOutOfBoundsException (List.mem_of_getElem? (i := 21) rfl) zthr_391 (hl.1.trans hml.symm) ht dX8_needSeries_28 dX8_needSeries_31 dX8_needSeries_32 dX8_needSeries_35 dX8_needSeries_38 (by show 6 ≤ _; exact Nat.le_of_ble_eq_true rfl) (Nat.le_of_ble_eq_true rfl) (by show 0 + 1 ≤ 1; omega) (by show 0 + 6 ≤ 6; omega) hlocks (by (try dsimp only); first | exact ⟨rfl, by omega⟩ | exact Or.inl ⟨rfl, by omega⟩ | exact Or.inr ⟨rfl, by omega⟩ | exact Or.inr (Or.inl ⟨rfl, by omega⟩) | exact Or.inr (Or.inr ⟨rfl, by omega⟩)) (by show 0 + 1 ≤ 1; omega) (by show 0 + 6 ≤ 6; omega)
      · skip
        obtain ⟨hqi, hqs⟩ := hse.at (k := a.toNat) (by omega) hq22
        have hqh := hq22
        obtain ⟨p09, hq1, hq2⟩ := id hqs
        have hqk := hq2.1.1
        refine lv_astore_n (pc := 23) (lv' := [(2, .ref q22), (0, .ref x), (1, .int (iI a))]) hx hb dX8_needSeries_23 rfl hl (by decide) rfl (fun ls hl => ?_)
        refine lv_aload_n (pc := 24) hx hb dX8_needSeries_24 rfl (lv_at hl 0 rfl) ?_
        refine lv_ifnonnull (pc := 25) (tgt := 39) hx hb dX8_needSeries_25 (by decide) ?_
        refine lv_aload_n (pc := 39) hx hb dX8_needSeries_39 rfl (lv_at hl 0 rfl) ?_
        exact vx_ret (zretR (pc := 40) hx hb hlocks hr (by first | exact Or.inl ⟨_, rfl⟩ | exact Or.inr ⟨_, rfl⟩) hw (Nat.zero_le _) (Nat.zero_le _) dX8_needSeries_40 (by exact ⟨⟨⟨hqh, hqs⟩, by omega⟩, rfl, rfl, rfl⟩))
    · skip
      refine lv_null (pc := 13) hx hb dX8_needSeries_13 ?_
      refine lv_goto (pc := 14) (tgt := 23) hx hb dX8_needSeries_14 (by decide) ?_
      refine lv_astore_nN (pc := 23) (lv' := [(2, .null), (0, .ref x), (1, .int (iI a))]) hx hb dX8_needSeries_23 rfl hl (by decide) rfl (fun ls hl => ?_)
      refine lv_aload_nN (pc := 24) hx hb dX8_needSeries_24 rfl (lv_at hl 0 rfl) ?_
      refine lv_ifnonnullN (pc := 25) hx hb dX8_needSeries_25 ?_
      exact zthrowW (pc := 28) hx hb hl9 hown hG hX hw wn_X8_387 wi_javalangIndexOutOfBoundsException (List.mem_of_getElem? (i := 21) rfl) zthr_391 (hl.1.trans hml.symm) ht dX8_needSeries_28 dX8_needSeries_31 dX8_needSeries_32 dX8_needSeries_35 dX8_needSeries_38 (by show 6 ≤ _; exact Nat.le_of_ble_eq_true rfl) (Nat.le_of_ble_eq_true rfl) (by show 0 + 1 ≤ 1; omega) (by show 0 + 6 ≤ 6; omega) hlocks (by (try dsimp only); first | exact ⟨rfl, by omega⟩ | exact Or.inl ⟨rfl, by omega⟩ | exact Or.inr ⟨rfl, by omega⟩ | exact Or.inr (Or.inl ⟨rfl, by omega⟩) | exact Or.inr (Or.inr ⟨rfl, by omega⟩)) (by show 0 + 1 ≤ 1; omega) (by show 0 + 6 ≤ 6; omega)
set_option maxHeartbeats 4000000 in
set_option maxRecDepth 100000 in
theorem c_X8_needDate (l : Launch) (hl9 : l.stackTraces = false) (Γ : zG) (K : zK) (X : zX) (Rf : zR) (se : Nat) (k9 : Int)  (hks : K se = (1, 4)) (h1 : fit k9 ∧ fit (X se 16)) : Cx l yX8_needDate cX8_needDate 2 none 6 1 6 Γ [.ref se, .int (iI k9)] K X Rf (pV (zn0 K X Rf (0 ≤ k9 ∧ k9 < X se 16))) (fun E : String => E = "java/lang/IndexOutOfBoundsException" ∧ ¬(0 ≤ k9 ∧ k9 < X se 16)) := by
  refine Cx.of (by decide +kernel) (Nat.le_of_ble_eq_true rfl) ?_
  intro p e s m below meth c ls hx hb hr hml hown hG hlocks hname ht hX hw hl
  have hl : lv_has ls 2 [(0, .ref se), (1, .int (iI k9))] := hl
  refine lv_iload_n (pc := 0) hx hb dX8_needDate_0 rfl (lv_at hl 1 rfl) ?_
  refine zif_lt (pc := 1) hx hb 12 (by omega) dX8_needDate_1 (by decide) (fun c1 => ?_) (fun c1 => ?_)
  · skip
    exact zthrowW (pc := 12) hx hb hl9 hown hG hX hw wn_X8_387 wi_javalangIndexOutOfBoundsException (List.mem_of_getElem? (i := 27) rfl) zthr_391 (hl.1.trans hml.symm) ht dX8_needDate_12 dX8_needDate_15 dX8_needDate_16 dX8_needDate_19 dX8_needDate_22 (by show 6 ≤ _; exact Nat.le_of_ble_eq_true rfl) (Nat.le_of_ble_eq_true rfl) (by show 0 + 1 ≤ 1; omega) (by show 0 + 6 ≤ 6; omega) hlocks (by (try dsimp only); first | exact ⟨rfl, by omega⟩ | exact Or.inl ⟨rfl, by omega⟩ | exact Or.inr ⟨rfl, by omega⟩ | exact Or.inr (Or.inl ⟨rfl, by omega⟩) | exact Or.inr (Or.inr ⟨rfl, by omega⟩)) (by show 0 + 1 ≤ 1; omega) (by show 0 + 6 ≤ 6; omega)
  · skip
    refine lv_iload_n (pc := 4) hx hb dX8_needDate_4 rfl (lv_at hl 1 rfl) ?_
    refine lv_aload_n (pc := 5) hx hb dX8_needDate_5 rfl (lv_at hl 0 rfl) ?_
    refine zgetI (pc := 6) hx hb hG hown hw hks (T := TX5) rfl 16 (by decide) rfl wf_X8_256 rfl dX8_needDate_6 ?_
    refine zicmp_lt (pc := 9) hx hb 23 (by omega) (by omega) dX8_needDate_9 (by decide) (fun c9 => ?_) (fun c9 => ?_)
    · skip
      exact vx_ret (zretV (pc := 23) hx hb hlocks hr hw (Nat.zero_le _) (Nat.zero_le _) dX8_needDate_23 ⟨by omega, rfl, rfl, rfl⟩)
    · skip
      exact zthrowW (pc := 12) hx hb hl9 hown hG hX hw wn_X8_387 wi_javalangIndexOutOfBoundsException (List.mem_of_getElem? (i := 27) rfl) zthr_391 (hl.1.trans hml.symm) ht dX8_needDate_12 dX8_needDate_15 dX8_needDate_16 dX8_needDate_19 dX8_needDate_22 (by show 6 ≤ _; exact Nat.le_of_ble_eq_true rfl) (Nat.le_of_ble_eq_true rfl) (by show 0 + 1 ≤ 1; omega) (by show 0 + 6 ≤ 6; omega) hlocks (by (try dsimp only); first | exact ⟨rfl, by omega⟩ | exact Or.inl ⟨rfl, by omega⟩ | exact Or.inr ⟨rfl, by omega⟩ | exact Or.inr (Or.inl ⟨rfl, by omega⟩) | exact Or.inr (Or.inr ⟨rfl, by omega⟩)) (by show 0 + 1 ≤ 1; omega) (by show 0 + 6 ≤ 6; omega)
set_option maxHeartbeats 4000000 in
set_option maxRecDepth 100000 in
theorem c_X8_dayOf (l : Launch) (hl9 : l.stackTraces = false) (Γ : zG) (K : zK) (X : zX) (Rf : zR) (x : Nat) (year : Int) (month : Int) (day : Int)  (hk : K x = (1, 7)) (h1 : fit year ∧ fit month ∧ fit day) : Cx l yX8_dayOf cX8_dayOf 5 (some .int) 7 2 12 Γ [.ref x, .int (iI year), .int (iI month), .int (iI day)] K X Rf (pI (zp0 K X Rf (fun r : Int => r = vlDate year month day ∧ cdDate year month day = 0))) (fun E : String => E = "java/lang/IllegalArgumentException" ∧ cdDate year month day = 1) := by
  refine Cx.of (by decide +kernel) (Nat.le_of_ble_eq_true rfl) ?_
  intro p e s m below meth c ls hx hb hr hml hown hG hlocks hname ht hX hw hl
  have hl : lv_has ls 5 [(0, .ref x), (1, .int (iI year)), (2, .int (iI month)), (3, .int (iI day))] := hl
  refine lv_iload_n (pc := 0) hx hb dX8_dayOf_0 rfl (lv_at hl 1 rfl) ?_
  refine zxkVp (pc := 1) (zxrS (As := [.int (iI year)]) hx hb hml hown hG hX hw (c_X8_needYear l hl9 Γ K X Rf year  (by (first | assumption | omega))) cb_X8_needYear wl_X8_53 rfl ⟨Nat.le_of_ble_eq_true rfl, Nat.le_of_ble_eq_true rfl⟩ hl.1 rfl (Nat.le_of_ble_eq_true rfl) dX8_dayOf_1 ⟨(by show 0 + 1 ≤ 2; omega), (by show 0 + 6 ≤ 12; omega)⟩) hw (fun E9 ce9 q9 H9 locs9 hxp9 hw9 hce9 hcv9 hcl9 => zxout (pc := 1) ht hlocks hw9 hce9 hcv9 hcl9 (by (obtain ⟨rfl, hq9⟩ := hxp9; (try dsimp only); first | exact ⟨rfl, (by (unfold cdDate; (repeat' split) <;> omega))⟩ | exact Or.inl ⟨rfl, (by (unfold cdDate; (repeat' split) <;> omega))⟩ | exact Or.inr ⟨rfl, (by (unfold cdDate; (repeat' split) <;> omega))⟩ | exact Or.inr (Or.inl ⟨rfl, (by (unfold cdDate; (repeat' split) <;> omega))⟩))) (by show 0 + 1 ≤ 2; omega) (by show 0 + 6 ≤ 12; omega)) (fun H locs hp1 hw => ?_)
  refine lv_iload_n (pc := 4) hx hb dX8_dayOf_4 rfl (lv_at hl 2 rfl) ?_
  refine ziconst (pc := 5) (n := 1) hx hb dX8_dayOf_5 ?_
  refine zicmp_lt (pc := 6) hx hb 15 (by omega) (by omega) dX8_dayOf_6 (by decide) (fun c6 => ?_) (fun c6 => ?_)
  · skip
    exact zthrow (pc := 15) hx hb hl9 hown hG hX hw wn_X8_56 wi_javalangIllegalArgumentException (List.mem_of_getElem? (i := 1) rfl) zthr_60 (hl.1.trans hml.symm) ht dX8_dayOf_15 dX8_dayOf_18 dX8_dayOf_19 dX8_dayOf_21 dX8_dayOf_24 (by show 6 ≤ _; exact Nat.le_of_ble_eq_true rfl) (Nat.le_of_ble_eq_true rfl) (by show 0 + 1 + 1 ≤ 2; omega) (by show 0 + 6 + 6 ≤ 12; omega) hlocks (by (try dsimp only); first | exact ⟨rfl, (by (unfold cdDate; (repeat' split) <;> omega))⟩ | exact Or.inl ⟨rfl, (by (unfold cdDate; (repeat' split) <;> omega))⟩ | exact Or.inr ⟨rfl, (by (unfold cdDate; (repeat' split) <;> omega))⟩ | exact Or.inr (Or.inl ⟨rfl, (by (unfold cdDate; (repeat' split) <;> omega))⟩) | exact Or.inr (Or.inr ⟨rfl, (by (unfold cdDate; (repeat' split) <;> omega))⟩)) (by show 0 + 1 + 1 ≤ 2; omega) (by show 0 + 6 + 6 ≤ 12; omega)
  · skip
    refine lv_iload_n (pc := 9) hx hb dX8_dayOf_9 rfl (lv_at hl 2 rfl) ?_
    refine zbipush (pc := 10) (n := 12) hx hb dX8_dayOf_10 rfl ?_
    refine zicmp_le (pc := 12) hx hb 25 (by omega) (by omega) dX8_dayOf_12 (by decide) (fun c12 => ?_) (fun c12 => ?_)
    · skip
      refine lv_iload_n (pc := 25) hx hb dX8_dayOf_25 rfl (lv_at hl 1 rfl) ?_
      refine zkIp (pc := 26) (zrS (As := [.int (iI year)]) hx hb hml hown hG hw (c_X1_januaryOf l Γ K X Rf year  ) cb_X1_januaryOf wl_X8_63 rfl ⟨Nat.le_of_ble_eq_true rfl, Nat.le_of_ble_eq_true rfl⟩ hl.1 rfl (Nat.le_of_ble_eq_true rfl) dX8_dayOf_26 ⟨(by show 0 + 1 + 0 ≤ 2; omega), (by show 0 + 6 + 0 ≤ 12; omega)⟩) hw (fun r26 H locs hp26 hw => ?_)
      subst hp26
      refine lv_iload_n (pc := 29) hx hb dX8_dayOf_29 rfl (lv_at hl 2 rfl) ?_
      refine zadd (pc := 30) hx hb dX8_dayOf_30 ?_
      refine ziconst (pc := 31) (n := 1) hx hb dX8_dayOf_31 ?_
      refine zsub (pc := 32) hx hb dX8_dayOf_32 ?_
      refine ztop (fun x33 ex33 => ?_)
      refine lv_istore (pc := 33) (lv' := [(4, .int (iI x33)), (0, .ref x), (1, .int (iI year)), (2, .int (iI month)), (3, .int (iI day))]) hx hb dX8_dayOf_33 hl (by decide) rfl (fun ls hl => ?_)
      refine lv_iload_n (pc := 35) hx hb dX8_dayOf_35 rfl (lv_at hl 4 rfl) ?_
      refine ziconst (pc := 36) (n := 1) hx hb dX8_dayOf_36 ?_
      refine zicmp_lt (pc := 37) hx hb 49 (by omega) (by omega) dX8_dayOf_37 (by decide) (fun c37 => ?_) (fun c37 => ?_)
      · skip
        exact zthrow (pc := 49) hx hb hl9 hown hG hX hw wn_X8_56 wi_javalangIllegalArgumentException (List.mem_of_getElem? (i := 2) rfl) zthr_60 (hl.1.trans hml.symm) ht dX8_dayOf_49 dX8_dayOf_52 dX8_dayOf_53 dX8_dayOf_55 dX8_dayOf_58 (by show 6 ≤ _; exact Nat.le_of_ble_eq_true rfl) (Nat.le_of_ble_eq_true rfl) (by show 0 + 1 + 1 ≤ 2; omega) (by show 0 + 6 + 6 ≤ 12; omega) hlocks (by (try dsimp only); first | exact ⟨rfl, (by (unfold cdDate; (repeat' split) <;> omega))⟩ | exact Or.inl ⟨rfl, (by (unfold cdDate; (repeat' split) <;> omega))⟩ | exact Or.inr ⟨rfl, (by (unfold cdDate; (repeat' split) <;> omega))⟩ | exact Or.inr (Or.inl ⟨rfl, (by (unfold cdDate; (repeat' split) <;> omega))⟩) | exact Or.inr (Or.inr ⟨rfl, (by (unfold cdDate; (repeat' split) <;> omega))⟩)) (by show 0 + 1 + 1 ≤ 2; omega) (by show 0 + 6 + 6 ≤ 12; omega)
      · skip
        refine lv_iload_n (pc := 40) hx hb dX8_dayOf_40 rfl (lv_at hl 4 rfl) ?_
        refine lv_iload (pc := 41) hx hb dX8_dayOf_41 (lv_at hl 0 rfl) ?_
        have hlm := lenM_mB (year := year) (month := month) (by omega) (by omega)
        have hx33 : x33 = 12 * (year - 1900) + month - 1 := by omega
        rw [← hx33] at hlm
        have hlr := lenM_rng (year - 1900) month
        refine zkIp (pc := 43) (zrS (As := [.int (iI x33)]) hx hb hml hown hG hw (c_X1_monthLength l Γ K X Rf x33  (by (first | assumption | omega))) cb_X1_monthLength wl_X8_69 rfl ⟨Nat.le_of_ble_eq_true rfl, Nat.le_of_ble_eq_true rfl⟩ hl.1 rfl (Nat.le_of_ble_eq_true rfl) dX8_dayOf_43 ⟨(by show 0 + 1 + 0 ≤ 2; omega), (by show 0 + 6 + 0 ≤ 12; omega)⟩) hw (fun r43 H locs hp43 hw => ?_)
        subst hp43
        refine zicmp_le (pc := 46) hx hb 59 (by omega) (by omega) dX8_dayOf_46 (by decide) (fun c46 => ?_) (fun c46 => ?_)
        · skip
          refine lv_iload (pc := 59) hx hb dX8_dayOf_59 (lv_at hl 0 rfl) ?_
          refine zkIp (pc := 61) (zrS (As := [.int (iI x33)]) hx hb hml hown hG hw (c_X1_monthBegin l Γ K X Rf x33  (by (first | assumption | omega))) cb_X1_monthBegin wl_X8_74 rfl ⟨Nat.le_of_ble_eq_true rfl, Nat.le_of_ble_eq_true rfl⟩ hl.1 rfl (Nat.le_of_ble_eq_true rfl) dX8_dayOf_61 ⟨(by show 0 + 1 + 0 ≤ 2; omega), (by show 0 + 6 + 0 ≤ 12; omega)⟩) hw (fun r61 H locs hp61 hw => ?_)
          subst hp61
          have hp61f0 := mB_rng x33
          refine lv_iload_n (pc := 64) hx hb dX8_dayOf_64 rfl (lv_at hl 4 rfl) ?_
          refine zadd (pc := 65) hx hb dX8_dayOf_65 ?_
          refine ziconst (pc := 66) (n := 1) hx hb dX8_dayOf_66 ?_
          refine zsub (pc := 67) hx hb dX8_dayOf_67 ?_
          exact vx_ret (zretI (pc := 68) hx hb hlocks hr hw (by show 0 + 1 ≤ 2; omega) (by show 0 + 6 ≤ 12; omega) dX8_dayOf_68 ⟨by (try dsimp only) <;> (exact ⟨by unfold vlDate; rw [← hx33], by (unfold cdDate; (repeat' split) <;> omega)⟩), rfl, rfl, rfl⟩)
        · skip
          exact zthrow (pc := 49) hx hb hl9 hown hG hX hw wn_X8_56 wi_javalangIllegalArgumentException (List.mem_of_getElem? (i := 2) rfl) zthr_60 (hl.1.trans hml.symm) ht dX8_dayOf_49 dX8_dayOf_52 dX8_dayOf_53 dX8_dayOf_55 dX8_dayOf_58 (by show 6 ≤ _; exact Nat.le_of_ble_eq_true rfl) (Nat.le_of_ble_eq_true rfl) (by show 0 + 1 + 1 ≤ 2; omega) (by show 0 + 6 + 6 ≤ 12; omega) hlocks (by (try dsimp only); first | exact ⟨rfl, (by (unfold cdDate; (repeat' split) <;> omega))⟩ | exact Or.inl ⟨rfl, (by (unfold cdDate; (repeat' split) <;> omega))⟩ | exact Or.inr ⟨rfl, (by (unfold cdDate; (repeat' split) <;> omega))⟩ | exact Or.inr (Or.inl ⟨rfl, (by (unfold cdDate; (repeat' split) <;> omega))⟩) | exact Or.inr (Or.inr ⟨rfl, (by (unfold cdDate; (repeat' split) <;> omega))⟩)) (by show 0 + 1 + 1 ≤ 2; omega) (by show 0 + 6 + 6 ≤ 12; omega)
    · skip
      exact zthrow (pc := 15) hx hb hl9 hown hG hX hw wn_X8_56 wi_javalangIllegalArgumentException (List.mem_of_getElem? (i := 1) rfl) zthr_60 (hl.1.trans hml.symm) ht dX8_dayOf_15 dX8_dayOf_18 dX8_dayOf_19 dX8_dayOf_21 dX8_dayOf_24 (by show 6 ≤ _; exact Nat.le_of_ble_eq_true rfl) (Nat.le_of_ble_eq_true rfl) (by show 0 + 1 + 1 ≤ 2; omega) (by show 0 + 6 + 6 ≤ 12; omega) hlocks (by (try dsimp only); first | exact ⟨rfl, (by (unfold cdDate; (repeat' split) <;> omega))⟩ | exact Or.inl ⟨rfl, (by (unfold cdDate; (repeat' split) <;> omega))⟩ | exact Or.inr ⟨rfl, (by (unfold cdDate; (repeat' split) <;> omega))⟩ | exact Or.inr (Or.inl ⟨rfl, (by (unfold cdDate; (repeat' split) <;> omega))⟩) | exact Or.inr (Or.inr ⟨rfl, (by (unfold cdDate; (repeat' split) <;> omega))⟩)) (by show 0 + 1 + 1 ≤ 2; omega) (by show 0 + 6 + 6 ≤ 12; omega)
set_option maxHeartbeats 4000000 in
set_option maxRecDepth 100000 in
theorem c_X8_yearOf (l : Launch) (hl9 : l.stackTraces = false) (Γ : zG) (K : zK) (X : zX) (Rf : zR) (x : Nat) (day : Int)  (hk : K x = (1, 7)) (h1 : fit day) : Cx l yX8_yearOf cX8_yearOf 2 (some .int) 7 1 6 Γ [.ref x, .int (iI day)] K X Rf (pI (zp0 K X Rf (fun r : Int => r = 1900 + yr day ∧ cdDay day = 0))) (fun E : String => E = "java/lang/IndexOutOfBoundsException" ∧ cdDay day = 1) := by
  refine Cx.of (by decide +kernel) (Nat.le_of_ble_eq_true rfl) ?_
  intro p e s m below meth c ls hx hb hr hml hown hG hlocks hname ht hX hw hl
  have hl : lv_has ls 2 [(0, .ref x), (1, .int (iI day))] := hl
  refine lv_iload_n (pc := 0) hx hb dX8_yearOf_0 rfl (lv_at hl 1 rfl) ?_
  refine zxkVp (pc := 1) (zxrS (As := [.int (iI day)]) hx hb hml hown hG hX hw (c_X8_needDay l hl9 Γ K X Rf day  (by (first | assumption | omega))) cb_X8_needDay wl_X8_77 rfl ⟨Nat.le_of_ble_eq_true rfl, Nat.le_of_ble_eq_true rfl⟩ hl.1 rfl (Nat.le_of_ble_eq_true rfl) dX8_yearOf_1 ⟨(by show 0 + 1 ≤ 1; omega), (by show 0 + 6 ≤ 6; omega)⟩) hw (fun E9 ce9 q9 H9 locs9 hxp9 hw9 hce9 hcv9 hcl9 => zxout (pc := 1) ht hlocks hw9 hce9 hcv9 hcl9 (by (obtain ⟨rfl, hq9⟩ := hxp9; (try dsimp only); first | exact ⟨rfl, (by (unfold cdDay; (repeat' split) <;> omega))⟩ | exact Or.inl ⟨rfl, (by (unfold cdDay; (repeat' split) <;> omega))⟩ | exact Or.inr ⟨rfl, (by (unfold cdDay; (repeat' split) <;> omega))⟩ | exact Or.inr (Or.inl ⟨rfl, (by (unfold cdDay; (repeat' split) <;> omega))⟩))) (by show 0 + 1 ≤ 1; omega) (by show 0 + 6 ≤ 6; omega)) (fun H locs hp1 hw => ?_)
  refine lv_iload_n (pc := 4) hx hb dX8_yearOf_4 rfl (lv_at hl 1 rfl) ?_
  refine zkIp (pc := 5) (zrS (As := [.int (iI day)]) hx hb hml hown hG hw (c_X1_yearWith l Γ K X Rf day  (by (first | assumption | omega))) cb_X1_yearWith wl_X8_80 rfl ⟨Nat.le_of_ble_eq_true rfl, Nat.le_of_ble_eq_true rfl⟩ hl.1 rfl (Nat.le_of_ble_eq_true rfl) dX8_yearOf_5 ⟨(by show 0 + 1 + 0 ≤ 1; omega), (by show 0 + 6 + 0 ≤ 6; omega)⟩) hw (fun r5 H locs hp5 hw => ?_)
  subst hp5
  have hp5f0 := yr_rng (d := day) (by omega) (by omega)
  exact vx_ret (zretI (pc := 8) hx hb hlocks hr hw (by show 0 + 1 ≤ 1; omega) (by show 0 + 6 ≤ 6; omega) dX8_yearOf_8 ⟨by (try dsimp only) <;> (exact ⟨by rfl, by (unfold cdDay; (repeat' split) <;> omega)⟩), rfl, rfl, rfl⟩)
set_option maxHeartbeats 4000000 in
set_option maxRecDepth 100000 in
theorem c_X8_monthOf (l : Launch) (hl9 : l.stackTraces = false) (Γ : zG) (K : zK) (X : zX) (Rf : zR) (x : Nat) (day : Int)  (hk : K x = (1, 7)) (h1 : fit day) : Cx l yX8_monthOf cX8_monthOf 2 (some .int) 7 1 6 Γ [.ref x, .int (iI day)] K X Rf (pI (zp0 K X Rf (fun r : Int => r = mi day % 12 + 1 ∧ cdDay day = 0))) (fun E : String => E = "java/lang/IndexOutOfBoundsException" ∧ cdDay day = 1) := by
  refine Cx.of (by decide +kernel) (Nat.le_of_ble_eq_true rfl) ?_
  intro p e s m below meth c ls hx hb hr hml hown hG hlocks hname ht hX hw hl
  have hl : lv_has ls 2 [(0, .ref x), (1, .int (iI day))] := hl
  refine lv_iload_n (pc := 0) hx hb dX8_monthOf_0 rfl (lv_at hl 1 rfl) ?_
  refine zxkVp (pc := 1) (zxrS (As := [.int (iI day)]) hx hb hml hown hG hX hw (c_X8_needDay l hl9 Γ K X Rf day  (by (first | assumption | omega))) cb_X8_needDay wl_X8_77 rfl ⟨Nat.le_of_ble_eq_true rfl, Nat.le_of_ble_eq_true rfl⟩ hl.1 rfl (Nat.le_of_ble_eq_true rfl) dX8_monthOf_1 ⟨(by show 0 + 1 ≤ 1; omega), (by show 0 + 6 ≤ 6; omega)⟩) hw (fun E9 ce9 q9 H9 locs9 hxp9 hw9 hce9 hcv9 hcl9 => zxout (pc := 1) ht hlocks hw9 hce9 hcv9 hcl9 (by (obtain ⟨rfl, hq9⟩ := hxp9; (try dsimp only); first | exact ⟨rfl, (by (unfold cdDay; (repeat' split) <;> omega))⟩ | exact Or.inl ⟨rfl, (by (unfold cdDay; (repeat' split) <;> omega))⟩ | exact Or.inr ⟨rfl, (by (unfold cdDay; (repeat' split) <;> omega))⟩ | exact Or.inr (Or.inl ⟨rfl, (by (unfold cdDay; (repeat' split) <;> omega))⟩))) (by show 0 + 1 ≤ 1; omega) (by show 0 + 6 ≤ 6; omega)) (fun H locs hp1 hw => ?_)
  refine lv_iload_n (pc := 4) hx hb dX8_monthOf_4 rfl (lv_at hl 1 rfl) ?_
  refine zkIp (pc := 5) (zrS (As := [.int (iI day)]) hx hb hml hown hG hw (c_X1_monthWith l Γ K X Rf day  (by (first | assumption | omega))) cb_X1_monthWith wl_X8_83 rfl ⟨Nat.le_of_ble_eq_true rfl, Nat.le_of_ble_eq_true rfl⟩ hl.1 rfl (Nat.le_of_ble_eq_true rfl) dX8_monthOf_5 ⟨(by show 0 + 1 + 0 ≤ 1; omega), (by show 0 + 6 + 0 ≤ 6; omega)⟩) hw (fun r5 H locs hp5 hw => ?_)
  subst hp5
  have hp5f0 := mi_rng (d := day) (by omega) (by omega)
  refine zbipush (pc := 8) (n := 12) hx hb dX8_monthOf_8 rfl ?_
  refine zrem (pc := 10) hx hb (by omega) dX8_monthOf_10 ?_
  refine ziconst (pc := 11) (n := 1) hx hb dX8_monthOf_11 ?_
  refine zadd (pc := 12) hx hb dX8_monthOf_12 ?_
  exact vx_ret (zretI (pc := 13) hx hb hlocks hr hw (by show 0 + 1 ≤ 1; omega) (by show 0 + 6 ≤ 6; omega) dX8_monthOf_13 ⟨by (try dsimp only) <;> (exact ⟨by rfl, by (unfold cdDay; (repeat' split) <;> omega)⟩), rfl, rfl, rfl⟩)
set_option maxHeartbeats 4000000 in
set_option maxRecDepth 100000 in
theorem c_X8_dayOfMonth (l : Launch) (hl9 : l.stackTraces = false) (Γ : zG) (K : zK) (X : zX) (Rf : zR) (x : Nat) (day : Int)  (hk : K x = (1, 7)) (h1 : fit day) : Cx l yX8_dayOfMonth cX8_dayOfMonth 2 (some .int) 7 1 6 Γ [.ref x, .int (iI day)] K X Rf (pI (zp0 K X Rf (fun r : Int => r = day - mB (mi day) + 1 ∧ cdDay day = 0))) (fun E : String => E = "java/lang/IndexOutOfBoundsException" ∧ cdDay day = 1) := by
  refine Cx.of (by decide +kernel) (Nat.le_of_ble_eq_true rfl) ?_
  intro p e s m below meth c ls hx hb hr hml hown hG hlocks hname ht hX hw hl
  have hl : lv_has ls 2 [(0, .ref x), (1, .int (iI day))] := hl
  refine lv_iload_n (pc := 0) hx hb dX8_dayOfMonth_0 rfl (lv_at hl 1 rfl) ?_
  refine zxkVp (pc := 1) (zxrS (As := [.int (iI day)]) hx hb hml hown hG hX hw (c_X8_needDay l hl9 Γ K X Rf day  (by (first | assumption | omega))) cb_X8_needDay wl_X8_77 rfl ⟨Nat.le_of_ble_eq_true rfl, Nat.le_of_ble_eq_true rfl⟩ hl.1 rfl (Nat.le_of_ble_eq_true rfl) dX8_dayOfMonth_1 ⟨(by show 0 + 1 ≤ 1; omega), (by show 0 + 6 ≤ 6; omega)⟩) hw (fun E9 ce9 q9 H9 locs9 hxp9 hw9 hce9 hcv9 hcl9 => zxout (pc := 1) ht hlocks hw9 hce9 hcv9 hcl9 (by (obtain ⟨rfl, hq9⟩ := hxp9; (try dsimp only); first | exact ⟨rfl, (by (unfold cdDay; (repeat' split) <;> omega))⟩ | exact Or.inl ⟨rfl, (by (unfold cdDay; (repeat' split) <;> omega))⟩ | exact Or.inr ⟨rfl, (by (unfold cdDay; (repeat' split) <;> omega))⟩ | exact Or.inr (Or.inl ⟨rfl, (by (unfold cdDay; (repeat' split) <;> omega))⟩))) (by show 0 + 1 ≤ 1; omega) (by show 0 + 6 ≤ 6; omega)) (fun H locs hp1 hw => ?_)
  refine lv_iload_n (pc := 4) hx hb dX8_dayOfMonth_4 rfl (lv_at hl 1 rfl) ?_
  refine zkIp (pc := 5) (zrS (As := [.int (iI day)]) hx hb hml hown hG hw (c_X1_numberInMonth l Γ K X Rf day  (by (first | assumption | omega))) cb_X1_numberInMonth wl_X8_86 rfl ⟨Nat.le_of_ble_eq_true rfl, Nat.le_of_ble_eq_true rfl⟩ hl.1 rfl (Nat.le_of_ble_eq_true rfl) dX8_dayOfMonth_5 ⟨(by show 0 + 1 + 0 ≤ 1; omega), (by show 0 + 6 + 0 ≤ 6; omega)⟩) hw (fun r5 H locs hp5 hw => ?_)
  subst hp5
  exact vx_ret (zretI (pc := 8) hx hb hlocks hr hw (by show 0 + 1 ≤ 1; omega) (by show 0 + 6 ≤ 6; omega) dX8_dayOfMonth_8 ⟨by (try dsimp only) <;> (exact ⟨by rfl, by (unfold cdDay; (repeat' split) <;> omega)⟩), rfl, rfl, rfl⟩)
set_option maxHeartbeats 4000000 in
set_option maxRecDepth 100000 in
theorem c_X8_weekdayOf (l : Launch) (hl9 : l.stackTraces = false) (Γ : zG) (K : zK) (X : zX) (Rf : zR) (x : Nat) (day : Int)  (hk : K x = (1, 7)) (h1 : fit day) : Cx l yX8_weekdayOf cX8_weekdayOf 2 (some .int) 7 1 6 Γ [.ref x, .int (iI day)] K X Rf (pI (zp0 K X Rf (fun r : Int => r = day % 7 ∧ cdDay day = 0))) (fun E : String => E = "java/lang/IndexOutOfBoundsException" ∧ cdDay day = 1) := by
  refine Cx.of (by decide +kernel) (Nat.le_of_ble_eq_true rfl) ?_
  intro p e s m below meth c ls hx hb hr hml hown hG hlocks hname ht hX hw hl
  have hl : lv_has ls 2 [(0, .ref x), (1, .int (iI day))] := hl
  refine lv_iload_n (pc := 0) hx hb dX8_weekdayOf_0 rfl (lv_at hl 1 rfl) ?_
  refine zxkVp (pc := 1) (zxrS (As := [.int (iI day)]) hx hb hml hown hG hX hw (c_X8_needDay l hl9 Γ K X Rf day  (by (first | assumption | omega))) cb_X8_needDay wl_X8_77 rfl ⟨Nat.le_of_ble_eq_true rfl, Nat.le_of_ble_eq_true rfl⟩ hl.1 rfl (Nat.le_of_ble_eq_true rfl) dX8_weekdayOf_1 ⟨(by show 0 + 1 ≤ 1; omega), (by show 0 + 6 ≤ 6; omega)⟩) hw (fun E9 ce9 q9 H9 locs9 hxp9 hw9 hce9 hcv9 hcl9 => zxout (pc := 1) ht hlocks hw9 hce9 hcv9 hcl9 (by (obtain ⟨rfl, hq9⟩ := hxp9; (try dsimp only); first | exact ⟨rfl, (by (unfold cdDay; (repeat' split) <;> omega))⟩ | exact Or.inl ⟨rfl, (by (unfold cdDay; (repeat' split) <;> omega))⟩ | exact Or.inr ⟨rfl, (by (unfold cdDay; (repeat' split) <;> omega))⟩ | exact Or.inr (Or.inl ⟨rfl, (by (unfold cdDay; (repeat' split) <;> omega))⟩))) (by show 0 + 1 ≤ 1; omega) (by show 0 + 6 ≤ 6; omega)) (fun H locs hp1 hw => ?_)
  refine lv_iload_n (pc := 4) hx hb dX8_weekdayOf_4 rfl (lv_at hl 1 rfl) ?_
  refine zkIp (pc := 5) (zrS (As := [.int (iI day)]) hx hb hml hown hG hw (c_X1_weekday l Γ K X Rf day  (by (first | assumption | omega))) cb_X1_weekday wl_X8_89 rfl ⟨Nat.le_of_ble_eq_true rfl, Nat.le_of_ble_eq_true rfl⟩ hl.1 rfl (Nat.le_of_ble_eq_true rfl) dX8_weekdayOf_5 ⟨(by show 0 + 1 + 0 ≤ 1; omega), (by show 0 + 6 + 0 ≤ 6; omega)⟩) hw (fun r5 H locs hp5 hw => ?_)
  subst hp5
  exact vx_ret (zretI (pc := 8) hx hb hlocks hr hw (by show 0 + 1 ≤ 1; omega) (by show 0 + 6 ≤ 6; omega) dX8_weekdayOf_8 ⟨by (try dsimp only) <;> (exact ⟨by rfl, by (unfold cdDay; (repeat' split) <;> omega)⟩), rfl, rfl, rfl⟩)
set_option maxHeartbeats 4000000 in
set_option maxRecDepth 100000 in
theorem c_X8_weekOf (l : Launch) (hl9 : l.stackTraces = false) (Γ : zG) (K : zK) (X : zX) (Rf : zR) (x : Nat) (day : Int)  (hk : K x = (1, 7)) (h1 : fit day) : Cx l yX8_weekOf cX8_weekOf 3 (some .int) 7 1 6 Γ [.ref x, .int (iI day)] K X Rf (pI (zp0 K X Rf (fun r : Int => r = vlWeek day ∧ cdDay day = 0))) (fun E : String => E = "java/lang/IndexOutOfBoundsException" ∧ cdDay day = 1) := by
  refine Cx.of (by decide +kernel) (Nat.le_of_ble_eq_true rfl) ?_
  intro p e s m below meth c ls hx hb hr hml hown hG hlocks hname ht hX hw hl
  have hl : lv_has ls 3 [(0, .ref x), (1, .int (iI day))] := hl
  refine lv_iload_n (pc := 0) hx hb dX8_weekOf_0 rfl (lv_at hl 1 rfl) ?_
  refine zxkVp (pc := 1) (zxrS (As := [.int (iI day)]) hx hb hml hown hG hX hw (c_X8_needDay l hl9 Γ K X Rf day  (by (first | assumption | omega))) cb_X8_needDay wl_X8_77 rfl ⟨Nat.le_of_ble_eq_true rfl, Nat.le_of_ble_eq_true rfl⟩ hl.1 rfl (Nat.le_of_ble_eq_true rfl) dX8_weekOf_1 ⟨(by show 0 + 1 ≤ 1; omega), (by show 0 + 6 ≤ 6; omega)⟩) hw (fun E9 ce9 q9 H9 locs9 hxp9 hw9 hce9 hcv9 hcl9 => zxout (pc := 1) ht hlocks hw9 hce9 hcv9 hcl9 (by (obtain ⟨rfl, hq9⟩ := hxp9; (try dsimp only); first | exact ⟨rfl, (by (unfold cdDay; (repeat' split) <;> omega))⟩ | exact Or.inl ⟨rfl, (by (unfold cdDay; (repeat' split) <;> omega))⟩ | exact Or.inr ⟨rfl, (by (unfold cdDay; (repeat' split) <;> omega))⟩ | exact Or.inr (Or.inl ⟨rfl, (by (unfold cdDay; (repeat' split) <;> omega))⟩))) (by show 0 + 1 ≤ 1; omega) (by show 0 + 6 ≤ 6; omega)) (fun H locs hp1 hw => ?_)
  refine lv_iload_n (pc := 4) hx hb dX8_weekOf_4 rfl (lv_at hl 1 rfl) ?_
  refine zkIp (pc := 5) (zrS (As := [.int (iI day)]) hx hb hml hown hG hw (c_X1_thursdayNear l Γ K X Rf day  (by (first | assumption | omega))) cb_X1_thursdayNear wl_X8_92 rfl ⟨Nat.le_of_ble_eq_true rfl, Nat.le_of_ble_eq_true rfl⟩ hl.1 rfl (Nat.le_of_ble_eq_true rfl) dX8_weekOf_5 ⟨(by show 0 + 1 + 0 ≤ 1; omega), (by show 0 + 6 + 0 ≤ 6; omega)⟩) hw (fun r5 H locs hp5 hw => ?_)
  subst hp5
  refine ztop (fun x8 ex8 => ?_)
  refine lv_istore_n (pc := 8) (lv' := [(2, .int (iI x8)), (0, .ref x), (1, .int (iI day))]) hx hb dX8_weekOf_8 rfl hl (by decide) rfl (fun ls hl => ?_)
  have hyr := yr_rng (d := x8) (by omega) (by omega)
  have hwk : mB (12 * (1900 + yr x8 - 1900)) = yb (yr x8) := by rw [ex8]; exact vlWeek_mB (by omega) (by omega)
  refine lv_iload_n (pc := 9) hx hb dX8_weekOf_9 rfl (lv_at hl 0 rfl) ?_
  refine lv_iload_n (pc := 10) hx hb dX8_weekOf_10 rfl (lv_at hl 0 rfl) ?_
  refine zkIp (pc := 11) (zrS (As := [.int (iI x8)]) hx hb hml hown hG hw (c_X1_yearWith l Γ K X Rf x8  (by (first | assumption | omega))) cb_X1_yearWith wl_X8_80 rfl ⟨Nat.le_of_ble_eq_true rfl, Nat.le_of_ble_eq_true rfl⟩ hl.1 rfl (Nat.le_of_ble_eq_true rfl) dX8_weekOf_11 ⟨(by show 0 + 1 + 0 ≤ 1; omega), (by show 0 + 6 + 0 ≤ 6; omega)⟩) hw (fun r11 H locs hp11 hw => ?_)
  subst hp11
  have hp11f0 := yr_rng (d := x8) (by omega) (by omega)
  refine zkIp (pc := 14) (zrS (As := [.int (iI (1900 + yr x8))]) hx hb hml hown hG hw (c_X1_januaryOf l Γ K X Rf (1900 + yr x8)  ) cb_X1_januaryOf wl_X8_63 rfl ⟨Nat.le_of_ble_eq_true rfl, Nat.le_of_ble_eq_true rfl⟩ hl.1 rfl (Nat.le_of_ble_eq_true rfl) dX8_weekOf_14 ⟨(by show 0 + 1 + 0 ≤ 1; omega), (by show 0 + 6 + 0 ≤ 6; omega)⟩) hw (fun r14 H locs hp14 hw => ?_)
  subst hp14
  refine zkIp (pc := 17) (zrS (As := [.int (iI (12 * ((1900 + yr x8) - 1900)))]) hx hb hml hown hG hw (c_X1_monthBegin l Γ K X Rf (12 * ((1900 + yr x8) - 1900))  (by (first | assumption | omega))) cb_X1_monthBegin wl_X8_74 rfl ⟨Nat.le_of_ble_eq_true rfl, Nat.le_of_ble_eq_true rfl⟩ hl.1 rfl (Nat.le_of_ble_eq_true rfl) dX8_weekOf_17 ⟨(by show 0 + 1 + 0 ≤ 1; omega), (by show 0 + 6 + 0 ≤ 6; omega)⟩) hw (fun r17 H locs hp17 hw => ?_)
  subst hp17
  have hp17f0 := mB_rng (12 * ((1900 + yr x8) - 1900))
  refine zsub (pc := 20) hx hb dX8_weekOf_20 ?_
  refine zbipush (pc := 21) (n := 7) hx hb dX8_weekOf_21 rfl ?_
  refine zdiv (pc := 23) hx hb (by omega) dX8_weekOf_23 ?_
  refine ziconst (pc := 24) (n := 1) hx hb dX8_weekOf_24 ?_
  refine zadd (pc := 25) hx hb dX8_weekOf_25 ?_
  exact vx_ret (zretI (pc := 26) hx hb hlocks hr hw (by show 0 + 1 ≤ 1; omega) (by show 0 + 6 ≤ 6; omega) dX8_weekOf_26 ⟨by (try dsimp only) <;> (exact ⟨by unfold vlWeek; rw [hwk, ex8], by (unfold cdDay; (repeat' split) <;> omega)⟩), rfl, rfl, rfl⟩)
set_option maxHeartbeats 4000000 in
set_option maxRecDepth 100000 in
theorem c_X8_yearOfWeek (l : Launch) (hl9 : l.stackTraces = false) (Γ : zG) (K : zK) (X : zX) (Rf : zR) (x : Nat) (day : Int)  (hk : K x = (1, 7)) (h1 : fit day) : Cx l yX8_yearOfWeek cX8_yearOfWeek 2 (some .int) 7 1 6 Γ [.ref x, .int (iI day)] K X Rf (pI (zp0 K X Rf (fun r : Int => r = 1900 + yr (day - day % 7 + 3) ∧ cdDay day = 0))) (fun E : String => E = "java/lang/IndexOutOfBoundsException" ∧ cdDay day = 1) := by
  refine Cx.of (by decide +kernel) (Nat.le_of_ble_eq_true rfl) ?_
  intro p e s m below meth c ls hx hb hr hml hown hG hlocks hname ht hX hw hl
  have hl : lv_has ls 2 [(0, .ref x), (1, .int (iI day))] := hl
  refine lv_iload_n (pc := 0) hx hb dX8_yearOfWeek_0 rfl (lv_at hl 1 rfl) ?_
  refine zxkVp (pc := 1) (zxrS (As := [.int (iI day)]) hx hb hml hown hG hX hw (c_X8_needDay l hl9 Γ K X Rf day  (by (first | assumption | omega))) cb_X8_needDay wl_X8_77 rfl ⟨Nat.le_of_ble_eq_true rfl, Nat.le_of_ble_eq_true rfl⟩ hl.1 rfl (Nat.le_of_ble_eq_true rfl) dX8_yearOfWeek_1 ⟨(by show 0 + 1 ≤ 1; omega), (by show 0 + 6 ≤ 6; omega)⟩) hw (fun E9 ce9 q9 H9 locs9 hxp9 hw9 hce9 hcv9 hcl9 => zxout (pc := 1) ht hlocks hw9 hce9 hcv9 hcl9 (by (obtain ⟨rfl, hq9⟩ := hxp9; (try dsimp only); first | exact ⟨rfl, (by (unfold cdDay; (repeat' split) <;> omega))⟩ | exact Or.inl ⟨rfl, (by (unfold cdDay; (repeat' split) <;> omega))⟩ | exact Or.inr ⟨rfl, (by (unfold cdDay; (repeat' split) <;> omega))⟩ | exact Or.inr (Or.inl ⟨rfl, (by (unfold cdDay; (repeat' split) <;> omega))⟩))) (by show 0 + 1 ≤ 1; omega) (by show 0 + 6 ≤ 6; omega)) (fun H locs hp1 hw => ?_)
  refine lv_iload_n (pc := 4) hx hb dX8_yearOfWeek_4 rfl (lv_at hl 1 rfl) ?_
  refine zkIp (pc := 5) (zrS (As := [.int (iI day)]) hx hb hml hown hG hw (c_X1_thursdayNear l Γ K X Rf day  (by (first | assumption | omega))) cb_X1_thursdayNear wl_X8_92 rfl ⟨Nat.le_of_ble_eq_true rfl, Nat.le_of_ble_eq_true rfl⟩ hl.1 rfl (Nat.le_of_ble_eq_true rfl) dX8_yearOfWeek_5 ⟨(by show 0 + 1 + 0 ≤ 1; omega), (by show 0 + 6 + 0 ≤ 6; omega)⟩) hw (fun r5 H locs hp5 hw => ?_)
  subst hp5
  refine zkIp (pc := 8) (zrS (As := [.int (iI (day - day % 7 + 3))]) hx hb hml hown hG hw (c_X1_yearWith l Γ K X Rf (day - day % 7 + 3)  (by (first | assumption | omega))) cb_X1_yearWith wl_X8_80 rfl ⟨Nat.le_of_ble_eq_true rfl, Nat.le_of_ble_eq_true rfl⟩ hl.1 rfl (Nat.le_of_ble_eq_true rfl) dX8_yearOfWeek_8 ⟨(by show 0 + 1 + 0 ≤ 1; omega), (by show 0 + 6 + 0 ≤ 6; omega)⟩) hw (fun r8 H locs hp8 hw => ?_)
  subst hp8
  have hp8f0 := yr_rng (d := (day - day % 7 + 3)) (by omega) (by omega)
  exact vx_ret (zretI (pc := 11) hx hb hlocks hr hw (by show 0 + 1 ≤ 1; omega) (by show 0 + 6 ≤ 6; omega) dX8_yearOfWeek_11 ⟨by (try dsimp only) <;> (exact ⟨by rfl, by (unfold cdDay; (repeat' split) <;> omega)⟩), rfl, rfl, rfl⟩)
set_option maxHeartbeats 4000000 in
set_option maxRecDepth 100000 in
theorem c_X8_easterOf (l : Launch) (hl9 : l.stackTraces = false) (Γ : zG) (K : zK) (X : zX) (Rf : zR) (x : Nat) (year : Int)  (hk : K x = (1, 7)) (h1 : fit year) : Cx l yX8_easterOf cX8_easterOf 2 (some .int) 7 1 6 Γ [.ref x, .int (iI year)] K X Rf (pI (zp0 K X Rf (fun r : Int => r = est year ∧ cdYear year = 0))) (fun E : String => E = "java/lang/IllegalArgumentException" ∧ cdYear year = 1) := by
  refine Cx.of (by decide +kernel) (Nat.le_of_ble_eq_true rfl) ?_
  intro p e s m below meth c ls hx hb hr hml hown hG hlocks hname ht hX hw hl
  have hl : lv_has ls 2 [(0, .ref x), (1, .int (iI year))] := hl
  refine lv_iload_n (pc := 0) hx hb dX8_easterOf_0 rfl (lv_at hl 1 rfl) ?_
  refine zxkVp (pc := 1) (zxrS (As := [.int (iI year)]) hx hb hml hown hG hX hw (c_X8_needYear l hl9 Γ K X Rf year  (by (first | assumption | omega))) cb_X8_needYear wl_X8_53 rfl ⟨Nat.le_of_ble_eq_true rfl, Nat.le_of_ble_eq_true rfl⟩ hl.1 rfl (Nat.le_of_ble_eq_true rfl) dX8_easterOf_1 ⟨(by show 0 + 1 ≤ 1; omega), (by show 0 + 6 ≤ 6; omega)⟩) hw (fun E9 ce9 q9 H9 locs9 hxp9 hw9 hce9 hcv9 hcl9 => zxout (pc := 1) ht hlocks hw9 hce9 hcv9 hcl9 (by (obtain ⟨rfl, hq9⟩ := hxp9; (try dsimp only); first | exact ⟨rfl, (by (unfold cdYear; (repeat' split) <;> omega))⟩ | exact Or.inl ⟨rfl, (by (unfold cdYear; (repeat' split) <;> omega))⟩ | exact Or.inr ⟨rfl, (by (unfold cdYear; (repeat' split) <;> omega))⟩ | exact Or.inr (Or.inl ⟨rfl, (by (unfold cdYear; (repeat' split) <;> omega))⟩))) (by show 0 + 1 ≤ 1; omega) (by show 0 + 6 ≤ 6; omega)) (fun H locs hp1 hw => ?_)
  refine lv_iload_n (pc := 4) hx hb dX8_easterOf_4 rfl (lv_at hl 1 rfl) ?_
  refine zkIp (pc := 5) (zrS (As := [.int (iI year)]) hx hb hml hown hG hw (c_X1_easter l Γ K X Rf year  (by (first | assumption | omega))) cb_X1_easter wl_X8_95 rfl ⟨Nat.le_of_ble_eq_true rfl, Nat.le_of_ble_eq_true rfl⟩ hl.1 rfl (Nat.le_of_ble_eq_true rfl) dX8_easterOf_5 ⟨(by show 0 + 1 + 0 ≤ 1; omega), (by show 0 + 6 + 0 ≤ 6; omega)⟩) hw (fun r5 H locs hp5 hw => ?_)
  subst hp5
  exact vx_ret (zretI (pc := 8) hx hb hlocks hr hw (by show 0 + 1 ≤ 1; omega) (by show 0 + 6 ≤ 6; omega) dX8_easterOf_8 ⟨by (try dsimp only) <;> (exact ⟨by rfl, by (unfold cdYear; (repeat' split) <;> omega)⟩), rfl, rfl, rfl⟩)
set_option maxHeartbeats 4000000 in
set_option maxRecDepth 100000 in
theorem c_X8_plusMonths (l : Launch) (hl9 : l.stackTraces = false) (Γ : zG) (K : zK) (X : zX) (Rf : zR) (x : Nat) (day : Int) (n9 : Int)  (hk : K x = (1, 7)) (h1 : fit day) (h2 : fit n9) : Cx l yX8_plusMonths cX8_plusMonths 6 (some .int) 7 2 12 Γ [.ref x, .int (iI day), .int (iI n9)] K X Rf (pI (zp0 K X Rf (fun r : Int => r = vlPlus day n9 ∧ cdPlus day n9 = 0))) (fun E : String => (E = "java/lang/IndexOutOfBoundsException" ∧ cdPlus day n9 = 1) ∨ (E = "java/lang/IllegalArgumentException" ∧ cdPlus day n9 = 2)) := by
  refine Cx.of (by decide +kernel) (Nat.le_of_ble_eq_true rfl) ?_
  intro p e s m below meth c ls hx hb hr hml hown hG hlocks hname ht hX hw hl
  have hl : lv_has ls 6 [(0, .ref x), (1, .int (iI day)), (2, .int (iI n9))] := hl
  refine lv_iload_n (pc := 0) hx hb dX8_plusMonths_0 rfl (lv_at hl 1 rfl) ?_
  refine zxkVp (pc := 1) (zxrS (As := [.int (iI day)]) hx hb hml hown hG hX hw (c_X8_needDay l hl9 Γ K X Rf day  (by (first | assumption | omega))) cb_X8_needDay wl_X8_77 rfl ⟨Nat.le_of_ble_eq_true rfl, Nat.le_of_ble_eq_true rfl⟩ hl.1 rfl (Nat.le_of_ble_eq_true rfl) dX8_plusMonths_1 ⟨(by show 0 + 1 ≤ 2; omega), (by show 0 + 6 ≤ 12; omega)⟩) hw (fun E9 ce9 q9 H9 locs9 hxp9 hw9 hce9 hcv9 hcl9 => zxout (pc := 1) ht hlocks hw9 hce9 hcv9 hcl9 (by (obtain ⟨rfl, hq9⟩ := hxp9; (try dsimp only); first | exact ⟨rfl, (by (unfold cdPlus; (repeat' split) <;> omega))⟩ | exact Or.inl ⟨rfl, (by (unfold cdPlus; (repeat' split) <;> omega))⟩ | exact Or.inr ⟨rfl, (by (unfold cdPlus; (repeat' split) <;> omega))⟩ | exact Or.inr (Or.inl ⟨rfl, (by (unfold cdPlus; (repeat' split) <;> omega))⟩))) (by show 0 + 1 ≤ 2; omega) (by show 0 + 6 ≤ 12; omega)) (fun H locs hp1 hw => ?_)
  refine lv_iload_n (pc := 4) hx hb dX8_plusMonths_4 rfl (lv_at hl 1 rfl) ?_
  refine zkIp (pc := 5) (zrS (As := [.int (iI day)]) hx hb hml hown hG hw (c_X1_monthWith l Γ K X Rf day  (by (first | assumption | omega))) cb_X1_monthWith wl_X8_83 rfl ⟨Nat.le_of_ble_eq_true rfl, Nat.le_of_ble_eq_true rfl⟩ hl.1 rfl (Nat.le_of_ble_eq_true rfl) dX8_plusMonths_5 ⟨(by show 0 + 1 + 0 ≤ 2; omega), (by show 0 + 6 + 0 ≤ 12; omega)⟩) hw (fun r5 H locs hp5 hw => ?_)
  subst hp5
  have hp5f0 := mi_rng (d := day) (by omega) (by omega)
  refine zi2l (pc := 8) hx hb (by omega) dX8_plusMonths_8 ?_
  refine lv_iload_n (pc := 9) hx hb dX8_plusMonths_9 rfl (lv_at hl 2 rfl) ?_
  refine zi2l (pc := 10) hx hb (by omega) dX8_plusMonths_10 ?_
  refine zladd (pc := 11) hx hb dX8_plusMonths_11 ?_
  refine ztopL (fun x12 ex12 => ?_)
  refine lv_lstore_n (pc := 12) (lv' := [(3, .long (lJ x12)), (0, .ref x), (1, .int (iI day)), (2, .int (iI n9))]) hx hb dX8_plusMonths_12 rfl hl (by decide) rfl (fun ls hl => ?_)
  refine lv_lload_n (pc := 13) hx hb dX8_plusMonths_13 rfl (lv_at hl 0 rfl) ?_
  refine zlconst (pc := 14) (z := 0) hx hb rfl dX8_plusMonths_14 ?_
  refine zlcmp (pc := 15) hx hb ⟨by omega, by omega⟩ dX8_plusMonths_15 (fun r15 hr15 => ?_)
  refine zif_lt (pc := 16) hx hb 27 (by omega) dX8_plusMonths_16 (by decide) (fun c16 => ?_) (fun c16 => ?_)
  · skip
    exact zthrow (pc := 27) hx hb hl9 hown hG hX hw wn_X8_56 wi_javalangIllegalArgumentException (List.mem_of_getElem? (i := 4) rfl) zthr_60 (hl.1.trans hml.symm) ht dX8_plusMonths_27 dX8_plusMonths_30 dX8_plusMonths_31 dX8_plusMonths_33 dX8_plusMonths_36 (by show 6 ≤ _; exact Nat.le_of_ble_eq_true rfl) (Nat.le_of_ble_eq_true rfl) (by show 0 + 1 + 1 ≤ 2; omega) (by show 0 + 6 + 6 ≤ 12; omega) hlocks (by (try dsimp only); first | exact ⟨rfl, (by (unfold cdPlus; (repeat' split) <;> omega))⟩ | exact Or.inl ⟨rfl, (by (unfold cdPlus; (repeat' split) <;> omega))⟩ | exact Or.inr ⟨rfl, (by (unfold cdPlus; (repeat' split) <;> omega))⟩ | exact Or.inr (Or.inl ⟨rfl, (by (unfold cdPlus; (repeat' split) <;> omega))⟩) | exact Or.inr (Or.inr ⟨rfl, (by (unfold cdPlus; (repeat' split) <;> omega))⟩)) (by show 0 + 1 + 1 ≤ 2; omega) (by show 0 + 6 + 6 ≤ 12; omega)
  · skip
    refine lv_lload_n (pc := 19) hx hb dX8_plusMonths_19 rfl (lv_at hl 0 rfl) ?_
    refine zldc2 (pc := 20) (n := 2400) hx hb hown hG wk_X8_98 dX8_plusMonths_20 ?_
    refine zlcmp (pc := 23) hx hb ⟨by omega, by omega⟩ dX8_plusMonths_23 (fun r23 hr23 => ?_)
    refine zif_lt (pc := 24) hx hb 37 (by omega) dX8_plusMonths_24 (by decide) (fun c24 => ?_) (fun c24 => ?_)
    · skip
      refine lv_lload_n (pc := 37) hx hb dX8_plusMonths_37 rfl (lv_at hl 0 rfl) ?_
      refine zl2i (pc := 38) hx hb dX8_plusMonths_38 ?_
      refine lv_istore (pc := 39) (lv' := [(5, .int (iI x12)), (3, .long (lJ x12)), (0, .ref x), (1, .int (iI day)), (2, .int (iI n9))]) hx hb dX8_plusMonths_39 hl (by decide) rfl (fun ls hl => ?_)
      have hs9 := mB_succ (i := x12) (by omega) (by omega)
      have hq9 := mB_rng (mi day)
      have hq8 := mB_rng (x12 + 1)
      refine lv_iload (pc := 41) hx hb dX8_plusMonths_41 (lv_at hl 0 rfl) ?_
      refine zkIp (pc := 43) (zrS (As := [.int (iI x12)]) hx hb hml hown hG hw (c_X1_monthBegin l Γ K X Rf x12  (by (first | assumption | omega))) cb_X1_monthBegin wl_X8_74 rfl ⟨Nat.le_of_ble_eq_true rfl, Nat.le_of_ble_eq_true rfl⟩ hl.1 rfl (Nat.le_of_ble_eq_true rfl) dX8_plusMonths_43 ⟨(by show 0 + 1 + 0 ≤ 2; omega), (by show 0 + 6 + 0 ≤ 12; omega)⟩) hw (fun r43 H locs hp43 hw => ?_)
      subst hp43
      have hp43f0 := mB_rng x12
      refine lv_iload_n (pc := 46) hx hb dX8_plusMonths_46 rfl (lv_at hl 3 rfl) ?_
      refine zkIp (pc := 47) (zrS (As := [.int (iI day)]) hx hb hml hown hG hw (c_X1_numberInMonth l Γ K X Rf day  (by (first | assumption | omega))) cb_X1_numberInMonth wl_X8_86 rfl ⟨Nat.le_of_ble_eq_true rfl, Nat.le_of_ble_eq_true rfl⟩ hl.1 rfl (Nat.le_of_ble_eq_true rfl) dX8_plusMonths_47 ⟨(by show 0 + 1 + 0 ≤ 2; omega), (by show 0 + 6 + 0 ≤ 12; omega)⟩) hw (fun r47 H locs hp47 hw => ?_)
      subst hp47
      refine lv_iload (pc := 50) hx hb dX8_plusMonths_50 (lv_at hl 0 rfl) ?_
      refine zkIp (pc := 52) (zrS (As := [.int (iI x12)]) hx hb hml hown hG hw (c_X1_monthLength l Γ K X Rf x12  (by (first | assumption | omega))) cb_X1_monthLength wl_X8_69 rfl ⟨Nat.le_of_ble_eq_true rfl, Nat.le_of_ble_eq_true rfl⟩ hl.1 rfl (Nat.le_of_ble_eq_true rfl) dX8_plusMonths_52 ⟨(by show 0 + 1 + 0 ≤ 2; omega), (by show 0 + 6 + 0 ≤ 12; omega)⟩) hw (fun r52 H locs hp52 hw => ?_)
      subst hp52
      refine zmin (pc := 55) hx hb (hml.trans hl.1.symm) hown hG wl_X8_102 w1_zmn wi_javalangMath w2_zmn (Nat.le_of_ble_eq_true rfl) (Nat.le_of_ble_eq_true rfl) (by show 0 + 1 ≤ 2; omega) (by show 0 + 6 ≤ 12; omega) ⟨by omega, by omega⟩ dX8_plusMonths_55 ?_
      refine zadd (pc := 58) hx hb dX8_plusMonths_58 ?_
      refine ziconst (pc := 59) (n := 1) hx hb dX8_plusMonths_59 ?_
      refine zsub (pc := 60) hx hb dX8_plusMonths_60 ?_
      exact vx_ret (zretI (pc := 61) hx hb hlocks hr hw (by show 0 + 1 ≤ 2; omega) (by show 0 + 6 ≤ 12; omega) dX8_plusMonths_61 ⟨by (try dsimp only) <;> (exact ⟨by unfold vlPlus; rw [show mi day + n9 = x12 by omega], by (unfold cdPlus; (repeat' split) <;> omega)⟩), rfl, rfl, rfl⟩)
    · skip
      exact zthrow (pc := 27) hx hb hl9 hown hG hX hw wn_X8_56 wi_javalangIllegalArgumentException (List.mem_of_getElem? (i := 4) rfl) zthr_60 (hl.1.trans hml.symm) ht dX8_plusMonths_27 dX8_plusMonths_30 dX8_plusMonths_31 dX8_plusMonths_33 dX8_plusMonths_36 (by show 6 ≤ _; exact Nat.le_of_ble_eq_true rfl) (Nat.le_of_ble_eq_true rfl) (by show 0 + 1 + 1 ≤ 2; omega) (by show 0 + 6 + 6 ≤ 12; omega) hlocks (by (try dsimp only); first | exact ⟨rfl, (by (unfold cdPlus; (repeat' split) <;> omega))⟩ | exact Or.inl ⟨rfl, (by (unfold cdPlus; (repeat' split) <;> omega))⟩ | exact Or.inr ⟨rfl, (by (unfold cdPlus; (repeat' split) <;> omega))⟩ | exact Or.inr (Or.inl ⟨rfl, (by (unfold cdPlus; (repeat' split) <;> omega))⟩) | exact Or.inr (Or.inr ⟨rfl, (by (unfold cdPlus; (repeat' split) <;> omega))⟩)) (by show 0 + 1 + 1 ≤ 2; omega) (by show 0 + 6 + 6 ≤ 12; omega)
