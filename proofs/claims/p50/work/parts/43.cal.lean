set_option maxHeartbeats 4000000 in
set_option maxRecDepth 100000 in
theorem c_X8_needDay (l : Launch) (hl9 : l.stackTraces = false) (Γ : zG) (K : zK) (X : zX) (Rf : zR) (day : Int)  (h1 : fit day) : Cx l yX8_needDay cX8_needDay 1 none 6 1 6 Γ [.int (iI day)] K X Rf (pV (zn0 K X Rf (0 ≤ day ∧ day ≤ 73048))) (fun E : String => E = "java/lang/IndexOutOfBoundsException" ∧ ¬(0 ≤ day ∧ day ≤ 73048)) := by
  refine Cx.of (by decide +kernel) (Nat.le_of_ble_eq_true rfl) ?_
  intro p e s m below meth c ls hx hb hr hml hown hG hlocks hname ht hX hw hl
  have hl : lv_has ls 1 [(0, .int (iI day))] := hl
  refine lv_iload_n (pc := 0) hx hb dX8_needDay_0 rfl (lv_at hl 0 rfl) ?_
  refine zif_lt (pc := 1) hx hb 11 (by omega) dX8_needDay_1 (by decide) (fun c1 => ?_) (fun c1 => ?_)
  · skip
    exact zthrowW (pc := 11) hx hb hl9 hown hG hX hw wn_X8_387 wi_javalangIndexOutOfBoundsException (List.mem_of_getElem? (i := 23) rfl) zthr_391 (hl.1.trans hml.symm) ht dX8_needDay_11 dX8_needDay_14 dX8_needDay_15 dX8_needDay_18 dX8_needDay_21 (by show 6 ≤ _; exact Nat.le_of_ble_eq_true rfl) (Nat.le_of_ble_eq_true rfl) (by show 0 + 1 ≤ 1; omega) (by show 0 + 6 ≤ 6; omega) hlocks (by (try dsimp only); first | exact ⟨rfl, by omega⟩ | exact Or.inl ⟨rfl, by omega⟩ | exact Or.inr ⟨rfl, by omega⟩ | exact Or.inr (Or.inl ⟨rfl, by omega⟩) | exact Or.inr (Or.inr ⟨rfl, by omega⟩)) (by show 0 + 1 ≤ 1; omega) (by show 0 + 6 ≤ 6; omega)
  · skip
    refine lv_iload_n (pc := 4) hx hb dX8_needDay_4 rfl (lv_at hl 0 rfl) ?_
    refine zldcw (pc := 5) (n := 73048) hx hb hown hG wk_X8_386 dX8_needDay_5 ?_
    refine zicmp_le (pc := 8) hx hb 22 (by omega) (by omega) dX8_needDay_8 (by decide) (fun c8 => ?_) (fun c8 => ?_)
    · skip
      exact vx_ret (zretV (pc := 22) hx hb hlocks hr hw (Nat.zero_le _) (Nat.zero_le _) dX8_needDay_22 ⟨by omega, rfl, rfl, rfl⟩)
    · skip
      exact zthrowW (pc := 11) hx hb hl9 hown hG hX hw wn_X8_387 wi_javalangIndexOutOfBoundsException (List.mem_of_getElem? (i := 23) rfl) zthr_391 (hl.1.trans hml.symm) ht dX8_needDay_11 dX8_needDay_14 dX8_needDay_15 dX8_needDay_18 dX8_needDay_21 (by show 6 ≤ _; exact Nat.le_of_ble_eq_true rfl) (Nat.le_of_ble_eq_true rfl) (by show 0 + 1 ≤ 1; omega) (by show 0 + 6 ≤ 6; omega) hlocks (by (try dsimp only); first | exact ⟨rfl, by omega⟩ | exact Or.inl ⟨rfl, by omega⟩ | exact Or.inr ⟨rfl, by omega⟩ | exact Or.inr (Or.inl ⟨rfl, by omega⟩) | exact Or.inr (Or.inr ⟨rfl, by omega⟩)) (by show 0 + 1 ≤ 1; omega) (by show 0 + 6 ≤ 6; omega)
set_option maxHeartbeats 4000000 in
set_option maxRecDepth 100000 in
theorem c_X8_needMoment (l : Launch) (hl9 : l.stackTraces = false) (Γ : zG) (K : zK) (X : zX) (Rf : zR) (mo : Int)  (h1 : fit mo) : Cx l yX8_needMoment cX8_needMoment 1 none 6 1 6 Γ [.int (iI mo)] K X Rf (pV (zn0 K X Rf (0 ≤ mo ∧ mo ≤ 105190559))) (fun E : String => E = "java/lang/IndexOutOfBoundsException" ∧ ¬(0 ≤ mo ∧ mo ≤ 105190559)) := by
  refine Cx.of (by decide +kernel) (Nat.le_of_ble_eq_true rfl) ?_
  intro p e s m below meth c ls hx hb hr hml hown hG hlocks hname ht hX hw hl
  have hl : lv_has ls 1 [(0, .int (iI mo))] := hl
  refine lv_iload_n (pc := 0) hx hb dX8_needMoment_0 rfl (lv_at hl 0 rfl) ?_
  refine zif_lt (pc := 1) hx hb 10 (by omega) dX8_needMoment_1 (by decide) (fun c1 => ?_) (fun c1 => ?_)
  · skip
    exact zthrowW (pc := 10) hx hb hl9 hown hG hX hw wn_X8_387 wi_javalangIndexOutOfBoundsException (List.mem_of_getElem? (i := 22) rfl) zthr_391 (hl.1.trans hml.symm) ht dX8_needMoment_10 dX8_needMoment_13 dX8_needMoment_14 dX8_needMoment_17 dX8_needMoment_20 (by show 6 ≤ _; exact Nat.le_of_ble_eq_true rfl) (Nat.le_of_ble_eq_true rfl) (by show 0 + 1 ≤ 1; omega) (by show 0 + 6 ≤ 6; omega) hlocks (by (try dsimp only); first | exact ⟨rfl, by omega⟩ | exact Or.inl ⟨rfl, by omega⟩ | exact Or.inr ⟨rfl, by omega⟩ | exact Or.inr (Or.inl ⟨rfl, by omega⟩) | exact Or.inr (Or.inr ⟨rfl, by omega⟩)) (by show 0 + 1 ≤ 1; omega) (by show 0 + 6 ≤ 6; omega)
  · skip
    refine lv_iload_n (pc := 4) hx hb dX8_needMoment_4 rfl (lv_at hl 0 rfl) ?_
    refine zldc (pc := 5) (n := 105190559) hx hb hown hG wk_X8_200 dX8_needMoment_5 ?_
    refine zicmp_le (pc := 7) hx hb 21 (by omega) (by omega) dX8_needMoment_7 (by decide) (fun c7 => ?_) (fun c7 => ?_)
    · skip
      exact vx_ret (zretV (pc := 21) hx hb hlocks hr hw (Nat.zero_le _) (Nat.zero_le _) dX8_needMoment_21 ⟨by omega, rfl, rfl, rfl⟩)
    · skip
      exact zthrowW (pc := 10) hx hb hl9 hown hG hX hw wn_X8_387 wi_javalangIndexOutOfBoundsException (List.mem_of_getElem? (i := 22) rfl) zthr_391 (hl.1.trans hml.symm) ht dX8_needMoment_10 dX8_needMoment_13 dX8_needMoment_14 dX8_needMoment_17 dX8_needMoment_20 (by show 6 ≤ _; exact Nat.le_of_ble_eq_true rfl) (Nat.le_of_ble_eq_true rfl) (by show 0 + 1 ≤ 1; omega) (by show 0 + 6 ≤ 6; omega) hlocks (by (try dsimp only); first | exact ⟨rfl, by omega⟩ | exact Or.inl ⟨rfl, by omega⟩ | exact Or.inr ⟨rfl, by omega⟩ | exact Or.inr (Or.inl ⟨rfl, by omega⟩) | exact Or.inr (Or.inr ⟨rfl, by omega⟩)) (by show 0 + 1 ≤ 1; omega) (by show 0 + 6 ≤ 6; omega)
set_option maxHeartbeats 4000000 in
set_option maxRecDepth 100000 in
theorem c_X8_needYear (l : Launch) (hl9 : l.stackTraces = false) (Γ : zG) (K : zK) (X : zX) (Rf : zR) (year : Int)  (h1 : fit year) : Cx l yX8_needYear cX8_needYear 1 none 6 1 6 Γ [.int (iI year)] K X Rf (pV (zn0 K X Rf (1900 ≤ year ∧ year ≤ 2099))) (fun E : String => E = "java/lang/IllegalArgumentException" ∧ ¬(1900 ≤ year ∧ year ≤ 2099)) := by
  refine Cx.of (by decide +kernel) (Nat.le_of_ble_eq_true rfl) ?_
  intro p e s m below meth c ls hx hb hr hml hown hG hlocks hname ht hX hw hl
  have hl : lv_has ls 1 [(0, .int (iI year))] := hl
  refine lv_iload_n (pc := 0) hx hb dX8_needYear_0 rfl (lv_at hl 0 rfl) ?_
  refine zsipush (pc := 1) (n := 1900) hx hb dX8_needYear_1 rfl ?_
  refine zicmp_lt (pc := 4) hx hb 14 (by omega) (by omega) dX8_needYear_4 (by decide) (fun c4 => ?_) (fun c4 => ?_)
  · skip
    exact zthrowW (pc := 14) hx hb hl9 hown hG hX hw wn_X8_56 wi_javalangIllegalArgumentException (List.mem_of_getElem? (i := 4) rfl) zthr_60 (hl.1.trans hml.symm) ht dX8_needYear_14 dX8_needYear_17 dX8_needYear_18 dX8_needYear_21 dX8_needYear_24 (by show 6 ≤ _; exact Nat.le_of_ble_eq_true rfl) (Nat.le_of_ble_eq_true rfl) (by show 0 + 1 ≤ 1; omega) (by show 0 + 6 ≤ 6; omega) hlocks (by (try dsimp only); first | exact ⟨rfl, by omega⟩ | exact Or.inl ⟨rfl, by omega⟩ | exact Or.inr ⟨rfl, by omega⟩ | exact Or.inr (Or.inl ⟨rfl, by omega⟩) | exact Or.inr (Or.inr ⟨rfl, by omega⟩)) (by show 0 + 1 ≤ 1; omega) (by show 0 + 6 ≤ 6; omega)
  · skip
    refine lv_iload_n (pc := 7) hx hb dX8_needYear_7 rfl (lv_at hl 0 rfl) ?_
    refine zsipush (pc := 8) (n := 2099) hx hb dX8_needYear_8 rfl ?_
    refine zicmp_le (pc := 11) hx hb 25 (by omega) (by omega) dX8_needYear_11 (by decide) (fun c11 => ?_) (fun c11 => ?_)
    · skip
      exact vx_ret (zretV (pc := 25) hx hb hlocks hr hw (Nat.zero_le _) (Nat.zero_le _) dX8_needYear_25 ⟨by omega, rfl, rfl, rfl⟩)
    · skip
      exact zthrowW (pc := 14) hx hb hl9 hown hG hX hw wn_X8_56 wi_javalangIllegalArgumentException (List.mem_of_getElem? (i := 4) rfl) zthr_60 (hl.1.trans hml.symm) ht dX8_needYear_14 dX8_needYear_17 dX8_needYear_18 dX8_needYear_21 dX8_needYear_24 (by show 6 ≤ _; exact Nat.le_of_ble_eq_true rfl) (Nat.le_of_ble_eq_true rfl) (by show 0 + 1 ≤ 1; omega) (by show 0 + 6 ≤ 6; omega) hlocks (by (try dsimp only); first | exact ⟨rfl, by omega⟩ | exact Or.inl ⟨rfl, by omega⟩ | exact Or.inr ⟨rfl, by omega⟩ | exact Or.inr (Or.inl ⟨rfl, by omega⟩) | exact Or.inr (Or.inr ⟨rfl, by omega⟩)) (by show 0 + 1 ≤ 1; omega) (by show 0 + 6 ≤ 6; omega)
set_option maxHeartbeats 4000000 in
set_option maxRecDepth 100000 in
theorem c_X8_needYears (l : Launch) (hl9 : l.stackTraces = false) (Γ : zG) (K : zK) (X : zX) (Rf : zR) (fy : Int) (ly : Int)  (h1 : fit fy ∧ fit ly) : Cx l yX8_needYears cX8_needYears 2 none 7 2 12 Γ [.int (iI fy), .int (iI ly)] K X Rf (pV (zn0 K X Rf ((1900 ≤ fy ∧ fy ≤ 2099) ∧ fy ≤ ly ∧ ly ≤ 2099))) (fun E : String => E = "java/lang/IllegalArgumentException" ∧ ¬((1900 ≤ fy ∧ fy ≤ 2099) ∧ fy ≤ ly ∧ ly ≤ 2099)) := by
  refine Cx.of (by decide +kernel) (Nat.le_of_ble_eq_true rfl) ?_
  intro p e s m below meth c ls hx hb hr hml hown hG hlocks hname ht hX hw hl
  have hl : lv_has ls 2 [(0, .int (iI fy)), (1, .int (iI ly))] := hl
  refine lv_iload_n (pc := 0) hx hb dX8_needYears_0 rfl (lv_at hl 0 rfl) ?_
  refine zxkVp (pc := 1) (zxrS (As := [.int (iI fy)]) hx hb hml hown hG hX hw (c_X8_needYear l hl9 Γ K X Rf fy  (by (first | assumption | omega))) cb_X8_needYear wl_X8_53 rfl ⟨Nat.le_of_ble_eq_true rfl, Nat.le_of_ble_eq_true rfl⟩ hl.1 rfl (Nat.le_of_ble_eq_true rfl) dX8_needYears_1 ⟨(by show 0 + 1 ≤ 2; omega), (by show 0 + 6 ≤ 12; omega)⟩) hw (fun E9 ce9 q9 H9 locs9 hxp9 hw9 hce9 hcv9 hcl9 => zxout (pc := 1) ht hlocks hw9 hce9 hcv9 hcl9 (by (obtain ⟨rfl, hq9⟩ := hxp9; exact ⟨rfl, by omega⟩)) (by show 0 + 1 ≤ 2; omega) (by show 0 + 6 ≤ 12; omega)) (fun H locs hp1 hw => ?_)
  refine lv_iload_n (pc := 4) hx hb dX8_needYears_4 rfl (lv_at hl 1 rfl) ?_
  refine lv_iload_n (pc := 5) hx hb dX8_needYears_5 rfl (lv_at hl 0 rfl) ?_
  refine zicmp_lt (pc := 6) hx hb 16 (by omega) (by omega) dX8_needYears_6 (by decide) (fun c6 => ?_) (fun c6 => ?_)
  · skip
    exact zthrowW (pc := 16) hx hb hl9 hown hG hX hw wn_X8_56 wi_javalangIllegalArgumentException (List.mem_of_getElem? (i := 5) rfl) zthr_60 (hl.1.trans hml.symm) ht dX8_needYears_16 dX8_needYears_19 dX8_needYears_20 dX8_needYears_23 dX8_needYears_26 (by show 6 ≤ _; exact Nat.le_of_ble_eq_true rfl) (Nat.le_of_ble_eq_true rfl) (by show 0 + 1 + 1 ≤ 2; omega) (by show 0 + 6 + 6 ≤ 12; omega) hlocks (by (try dsimp only); first | exact ⟨rfl, by omega⟩ | exact Or.inl ⟨rfl, by omega⟩ | exact Or.inr ⟨rfl, by omega⟩ | exact Or.inr (Or.inl ⟨rfl, by omega⟩) | exact Or.inr (Or.inr ⟨rfl, by omega⟩)) (by show 0 + 1 + 1 ≤ 2; omega) (by show 0 + 6 + 6 ≤ 12; omega)
  · skip
    refine lv_iload_n (pc := 9) hx hb dX8_needYears_9 rfl (lv_at hl 1 rfl) ?_
    refine zsipush (pc := 10) (n := 2099) hx hb dX8_needYears_10 rfl ?_
    refine zicmp_le (pc := 13) hx hb 27 (by omega) (by omega) dX8_needYears_13 (by decide) (fun c13 => ?_) (fun c13 => ?_)
    · skip
      exact vx_ret (zretV (pc := 27) hx hb hlocks hr hw (by show 0 + 1 ≤ 2; omega) (by show 0 + 6 ≤ 12; omega) dX8_needYears_27 ⟨by omega, rfl, rfl, rfl⟩)
    · skip
      exact zthrowW (pc := 16) hx hb hl9 hown hG hX hw wn_X8_56 wi_javalangIllegalArgumentException (List.mem_of_getElem? (i := 5) rfl) zthr_60 (hl.1.trans hml.symm) ht dX8_needYears_16 dX8_needYears_19 dX8_needYears_20 dX8_needYears_23 dX8_needYears_26 (by show 6 ≤ _; exact Nat.le_of_ble_eq_true rfl) (Nat.le_of_ble_eq_true rfl) (by show 0 + 1 + 1 ≤ 2; omega) (by show 0 + 6 + 6 ≤ 12; omega) hlocks (by (try dsimp only); first | exact ⟨rfl, by omega⟩ | exact Or.inl ⟨rfl, by omega⟩ | exact Or.inr ⟨rfl, by omega⟩ | exact Or.inr (Or.inl ⟨rfl, by omega⟩) | exact Or.inr (Or.inr ⟨rfl, by omega⟩)) (by show 0 + 1 + 1 ≤ 2; omega) (by show 0 + 6 + 6 ≤ 12; omega)
set_option maxHeartbeats 4000000 in
set_option maxRecDepth 100000 in
theorem c_X8_needPattern (l : Launch) (hl9 : l.stackTraces = false) (Γ : zG) (K : zK) (X : zX) (Rf : zR) (x : Nat) (a : Int) (pr : Nat) (M : zM) (hk : K x = (1, 7)) (hr0 : Rf x 0 = some pr) (hkpr : K pr = (6, 24)) (hpt : ptOK K X Rf pr M) (h1 : fit a) (hb1 : 0 ≤ M 40 1 ∧ M 40 1 ≤ 24) : Cx l yX8_needPattern cX8_needPattern 3 (some (.object "ZoneCalendar$Pattern")) 6 1 6 Γ [.ref x, .int (iI a)] K X Rf (pR (zr0 K X Rf (fun r => (Rf pr a.toNat = some r ∧ K r = (1, 2) ∧ psame (X r) (patM M a.toNat)) ∧ 0 ≤ a ∧ a < M 40 1))) (fun E : String => E = "java/lang/IndexOutOfBoundsException" ∧ ¬(0 ≤ a ∧ a < M 40 1)) := by
  refine Cx.of (by decide +kernel) (Nat.le_of_ble_eq_true rfl) ?_
  intro p e s m below meth c ls hx hb hr hml hown hG hlocks hname ht hX hw hl
  have hl : lv_has ls 3 [(0, .ref x), (1, .int (iI a))] := hl
  refine lv_iload_n (pc := 0) hx hb dX8_needPattern_0 rfl (lv_at hl 1 rfl) ?_
  refine zif_lt (pc := 1) hx hb 13 (by omega) dX8_needPattern_1 (by decide) (fun c1 => ?_) (fun c1 => ?_)
  · skip
    refine lv_null (pc := 13) hx hb dX8_needPattern_13 ?_
    refine lv_goto (pc := 14) (tgt := 23) hx hb dX8_needPattern_14 (by decide) ?_
    refine lv_astore_nN (pc := 23) (lv' := [(2, .null), (0, .ref x), (1, .int (iI a))]) hx hb dX8_needPattern_23 rfl hl (by decide) rfl (fun ls hl => ?_)
    refine lv_aload_nN (pc := 24) hx hb dX8_needPattern_24 rfl (lv_at hl 0 rfl) ?_
    refine lv_ifnonnullN (pc := 25) hx hb dX8_needPattern_25 ?_
    exact zthrowW (pc := 28) hx hb hl9 hown hG hX hw wn_X8_387 wi_javalangIndexOutOfBoundsException (List.mem_of_getElem? (i := 3) rfl) zthr_391 (hl.1.trans hml.symm) ht dX8_needPattern_28 dX8_needPattern_31 dX8_needPattern_32 dX8_needPattern_35 dX8_needPattern_38 (by show 6 ≤ _; exact Nat.le_of_ble_eq_true rfl) (Nat.le_of_ble_eq_true rfl) (by show 0 + 1 ≤ 1; omega) (by show 0 + 6 ≤ 6; omega) hlocks (by (try dsimp only); first | exact ⟨rfl, by omega⟩ | exact Or.inl ⟨rfl, by omega⟩ | exact Or.inr ⟨rfl, by omega⟩ | exact Or.inr (Or.inl ⟨rfl, by omega⟩) | exact Or.inr (Or.inr ⟨rfl, by omega⟩)) (by show 0 + 1 ≤ 1; omega) (by show 0 + 6 ≤ 6; omega)
  · skip
    refine lv_iload_n (pc := 4) hx hb dX8_needPattern_4 rfl (lv_at hl 1 rfl) ?_
    refine lv_aload_n (pc := 5) hx hb dX8_needPattern_5 rfl (lv_at hl 0 rfl) ?_
    refine zgetR (pc := 6) hx hb hG hown hw hk (T := TX8) rfl 0 (by decide) rfl wf_X8_9 rfl hr0 dX8_needPattern_6 ?_
    refine zlen6 (pc := 9) hx hb hw hkpr dX8_needPattern_9 ?_
    refine zicmp_lt (pc := 10) hx hb 17 (by omega) (by omega) dX8_needPattern_10 (by decide) (fun c10 => ?_) (fun c10 => ?_)
    · skip
      refine lv_aload_n (pc := 17) hx hb dX8_needPattern_17 rfl (lv_at hl 0 rfl) ?_
      refine zgetR (pc := 18) hx hb hG hown hw hk (T := TX8) rfl 0 (by decide) rfl wf_X8_9 rfl hr0 dX8_needPattern_18 ?_
      refine lv_iload_n (pc := 21) hx hb dX8_needPattern_21 rfl (lv_at hl 1 rfl) ?_
      refine zaaldQ0 (pc := 22) hx hb hw hkpr ⟨by omega, by omega⟩ (by omega) dX8_needPattern_22 (fun hq22 => ?_) (fun q22 hq22 => ?_)
      · skip
        have hno := hpt.no (k := a.toNat) (by omega) hq22
        refine lv_astore_nN (pc := 23) (lv' := [(2, .null), (0, .ref x), (1, .int (iI a))]) hx hb dX8_needPattern_23 rfl hl (by decide) rfl (fun ls hl => ?_)
        refine lv_aload_nN (pc := 24) hx hb dX8_needPattern_24 rfl (lv_at hl 0 rfl) ?_
        refine lv_ifnonnullN (pc := 25) hx hb dX8_needPattern_25 ?_
        exact zthrowW (pc := 28) hx hb hl9 hown hG hX hw wn_X8_387 wi_javalangIndexOutOfBoundsException (List.mem_of_getElem? (i := 3) rfl) zthr_391 (hl.1.trans hml.symm) ht dX8_needPattern_28 dX8_needPattern_31 dX8_needPattern_32 dX8_needPattern_35 dX8_needPattern_38 (by show 6 ≤ _; exact Nat.le_of_ble_eq_true rfl) (Nat.le_of_ble_eq_true rfl) (by show 0 + 1 ≤ 1; omega) (by show 0 + 6 ≤ 6; omega) hlocks (by (try dsimp only); first | exact ⟨rfl, by omega⟩ | exact Or.inl ⟨rfl, by omega⟩ | exact Or.inr ⟨rfl, by omega⟩ | exact Or.inr (Or.inl ⟨rfl, by omega⟩) | exact Or.inr (Or.inr ⟨rfl, by omega⟩)) (by show 0 + 1 ≤ 1; omega) (by show 0 + 6 ≤ 6; omega)
      · skip
        obtain ⟨hqi, hqk, hqs⟩ := hpt.at (k := a.toNat) (by omega) hq22
        have hqh := hq22
        refine lv_astore_n (pc := 23) (lv' := [(2, .ref q22), (0, .ref x), (1, .int (iI a))]) hx hb dX8_needPattern_23 rfl hl (by decide) rfl (fun ls hl => ?_)
        refine lv_aload_n (pc := 24) hx hb dX8_needPattern_24 rfl (lv_at hl 0 rfl) ?_
        refine lv_ifnonnull (pc := 25) (tgt := 39) hx hb dX8_needPattern_25 (by decide) ?_
        refine lv_aload_n (pc := 39) hx hb dX8_needPattern_39 rfl (lv_at hl 0 rfl) ?_
        exact vx_ret (zretR (pc := 40) hx hb hlocks hr (by first | exact Or.inl ⟨_, rfl⟩ | exact Or.inr ⟨_, rfl⟩) hw (Nat.zero_le _) (Nat.zero_le _) dX8_needPattern_40 (by exact ⟨⟨⟨hqh, hqk, hqs⟩, by omega⟩, rfl, rfl, rfl⟩))
    · skip
      refine lv_null (pc := 13) hx hb dX8_needPattern_13 ?_
      refine lv_goto (pc := 14) (tgt := 23) hx hb dX8_needPattern_14 (by decide) ?_
      refine lv_astore_nN (pc := 23) (lv' := [(2, .null), (0, .ref x), (1, .int (iI a))]) hx hb dX8_needPattern_23 rfl hl (by decide) rfl (fun ls hl => ?_)
      refine lv_aload_nN (pc := 24) hx hb dX8_needPattern_24 rfl (lv_at hl 0 rfl) ?_
      refine lv_ifnonnullN (pc := 25) hx hb dX8_needPattern_25 ?_
      exact zthrowW (pc := 28) hx hb hl9 hown hG hX hw wn_X8_387 wi_javalangIndexOutOfBoundsException (List.mem_of_getElem? (i := 3) rfl) zthr_391 (hl.1.trans hml.symm) ht dX8_needPattern_28 dX8_needPattern_31 dX8_needPattern_32 dX8_needPattern_35 dX8_needPattern_38 (by show 6 ≤ _; exact Nat.le_of_ble_eq_true rfl) (Nat.le_of_ble_eq_true rfl) (by show 0 + 1 ≤ 1; omega) (by show 0 + 6 ≤ 6; omega) hlocks (by (try dsimp only); first | exact ⟨rfl, by omega⟩ | exact Or.inl ⟨rfl, by omega⟩ | exact Or.inr ⟨rfl, by omega⟩ | exact Or.inr (Or.inl ⟨rfl, by omega⟩) | exact Or.inr (Or.inr ⟨rfl, by omega⟩)) (by show 0 + 1 ≤ 1; omega) (by show 0 + 6 ≤ 6; omega)
set_option maxHeartbeats 4000000 in
set_option maxRecDepth 100000 in
theorem c_X8_needPlace (l : Launch) (hl9 : l.stackTraces = false) (Γ : zG) (K : zK) (X : zX) (Rf : zR) (x : Nat) (a : Int) (pl : Nat) (ρ : zL) (M : zM) (hk : K x = (1, 7)) (hr2 : Rf x 2 = some pl) (hkpl : K pl = (7, 6)) (hpl : plOK ρ K X Rf pl M) (h1 : fit a) (hb2 : 0 ≤ M 40 5 ∧ M 40 5 ≤ 6) : Cx l yX8_needPlace cX8_needPlace 3 (some (.object "ZoneCalendar$Place")) 6 1 6 Γ [.ref x, .int (iI a)] K X Rf (pR (zr0 K X Rf (fun r => (Rf pl a.toNat = some r ∧ plA ρ K X Rf (100 + 10 * a.toNat) r (M 6 a.toNat) (M 7 a.toNat).toNat (turM M a.toNat) (tupM M a.toNat)) ∧ 0 ≤ a ∧ a < M 40 5))) (fun E : String => E = "java/lang/IndexOutOfBoundsException" ∧ ¬(0 ≤ a ∧ a < M 40 5)) := by
  refine Cx.of (by decide +kernel) (Nat.le_of_ble_eq_true rfl) ?_
  intro p e s m below meth c ls hx hb hr hml hown hG hlocks hname ht hX hw hl
  have hl : lv_has ls 3 [(0, .ref x), (1, .int (iI a))] := hl
  refine lv_iload_n (pc := 0) hx hb dX8_needPlace_0 rfl (lv_at hl 1 rfl) ?_
  refine zif_lt (pc := 1) hx hb 13 (by omega) dX8_needPlace_1 (by decide) (fun c1 => ?_) (fun c1 => ?_)
  · skip
    refine lv_null (pc := 13) hx hb dX8_needPlace_13 ?_
    refine lv_goto (pc := 14) (tgt := 23) hx hb dX8_needPlace_14 (by decide) ?_
    refine lv_astore_nN (pc := 23) (lv' := [(2, .null), (0, .ref x), (1, .int (iI a))]) hx hb dX8_needPlace_23 rfl hl (by decide) rfl (fun ls hl => ?_)
    refine lv_aload_nN (pc := 24) hx hb dX8_needPlace_24 rfl (lv_at hl 0 rfl) ?_
    refine lv_ifnonnullN (pc := 25) hx hb dX8_needPlace_25 ?_
    exact zthrowW (pc := 28) hx hb hl9 hown hG hX hw wn_X8_387 wi_javalangIndexOutOfBoundsException (List.mem_of_getElem? (i := 2) rfl) zthr_391 (hl.1.trans hml.symm) ht dX8_needPlace_28 dX8_needPlace_31 dX8_needPlace_32 dX8_needPlace_35 dX8_needPlace_38 (by show 6 ≤ _; exact Nat.le_of_ble_eq_true rfl) (Nat.le_of_ble_eq_true rfl) (by show 0 + 1 ≤ 1; omega) (by show 0 + 6 ≤ 6; omega) hlocks (by (try dsimp only); first | exact ⟨rfl, by omega⟩ | exact Or.inl ⟨rfl, by omega⟩ | exact Or.inr ⟨rfl, by omega⟩ | exact Or.inr (Or.inl ⟨rfl, by omega⟩) | exact Or.inr (Or.inr ⟨rfl, by omega⟩)) (by show 0 + 1 ≤ 1; omega) (by show 0 + 6 ≤ 6; omega)
  · skip
    refine lv_iload_n (pc := 4) hx hb dX8_needPlace_4 rfl (lv_at hl 1 rfl) ?_
    refine lv_aload_n (pc := 5) hx hb dX8_needPlace_5 rfl (lv_at hl 0 rfl) ?_
    refine zgetR (pc := 6) hx hb hG hown hw hk (T := TX8) rfl 2 (by decide) rfl wf_X8_21 rfl hr2 dX8_needPlace_6 ?_
    refine zlen7 (pc := 9) hx hb hw hkpl dX8_needPlace_9 ?_
    refine zicmp_lt (pc := 10) hx hb 17 (by omega) (by omega) dX8_needPlace_10 (by decide) (fun c10 => ?_) (fun c10 => ?_)
    · skip
      refine lv_aload_n (pc := 17) hx hb dX8_needPlace_17 rfl (lv_at hl 0 rfl) ?_
      refine zgetR (pc := 18) hx hb hG hown hw hk (T := TX8) rfl 2 (by decide) rfl wf_X8_21 rfl hr2 dX8_needPlace_18 ?_
      refine lv_iload_n (pc := 21) hx hb dX8_needPlace_21 rfl (lv_at hl 1 rfl) ?_
      refine zaaldQ1 (pc := 22) hx hb hw hkpl ⟨by omega, by omega⟩ (by omega) dX8_needPlace_22 (fun hq22 => ?_) (fun q22 hq22 => ?_)
      · skip
        have hno := hpl.no (k := a.toNat) (by omega) hq22
        refine lv_astore_nN (pc := 23) (lv' := [(2, .null), (0, .ref x), (1, .int (iI a))]) hx hb dX8_needPlace_23 rfl hl (by decide) rfl (fun ls hl => ?_)
        refine lv_aload_nN (pc := 24) hx hb dX8_needPlace_24 rfl (lv_at hl 0 rfl) ?_
        refine lv_ifnonnullN (pc := 25) hx hb dX8_needPlace_25 ?_
        exact zthrowW (pc := 28) hx hb hl9 hown hG hX hw wn_X8_387 wi_javalangIndexOutOfBoundsException (List.mem_of_getElem? (i := 2) rfl) zthr_391 (hl.1.trans hml.symm) ht dX8_needPlace_28 dX8_needPlace_31 dX8_needPlace_32 dX8_needPlace_35 dX8_needPlace_38 (by show 6 ≤ _; exact Nat.le_of_ble_eq_true rfl) (Nat.le_of_ble_eq_true rfl) (by show 0 + 1 ≤ 1; omega) (by show 0 + 6 ≤ 6; omega) hlocks (by (try dsimp only); first | exact ⟨rfl, by omega⟩ | exact Or.inl ⟨rfl, by omega⟩ | exact Or.inr ⟨rfl, by omega⟩ | exact Or.inr (Or.inl ⟨rfl, by omega⟩) | exact Or.inr (Or.inr ⟨rfl, by omega⟩)) (by show 0 + 1 ≤ 1; omega) (by show 0 + 6 ≤ 6; omega)
      · skip
        obtain ⟨hqi, hqs⟩ := hpl.at (k := a.toNat) (by omega) hq22
        have hqh := hq22
        have hqk := hqs.1.1
        refine lv_astore_n (pc := 23) (lv' := [(2, .ref q22), (0, .ref x), (1, .int (iI a))]) hx hb dX8_needPlace_23 rfl hl (by decide) rfl (fun ls hl => ?_)
        refine lv_aload_n (pc := 24) hx hb dX8_needPlace_24 rfl (lv_at hl 0 rfl) ?_
        refine lv_ifnonnull (pc := 25) (tgt := 39) hx hb dX8_needPlace_25 (by decide) ?_
        refine lv_aload_n (pc := 39) hx hb dX8_needPlace_39 rfl (lv_at hl 0 rfl) ?_
        exact vx_ret (zretR (pc := 40) hx hb hlocks hr (by first | exact Or.inl ⟨_, rfl⟩ | exact Or.inr ⟨_, rfl⟩) hw (Nat.zero_le _) (Nat.zero_le _) dX8_needPlace_40 (by exact ⟨⟨⟨hqh, hqs⟩, by omega⟩, rfl, rfl, rfl⟩))
    · skip
      refine lv_null (pc := 13) hx hb dX8_needPlace_13 ?_
      refine lv_goto (pc := 14) (tgt := 23) hx hb dX8_needPlace_14 (by decide) ?_
      refine lv_astore_nN (pc := 23) (lv' := [(2, .null), (0, .ref x), (1, .int (iI a))]) hx hb dX8_needPlace_23 rfl hl (by decide) rfl (fun ls hl => ?_)
      refine lv_aload_nN (pc := 24) hx hb dX8_needPlace_24 rfl (lv_at hl 0 rfl) ?_
      refine lv_ifnonnullN (pc := 25) hx hb dX8_needPlace_25 ?_
      exact zthrowW (pc := 28) hx hb hl9 hown hG hX hw wn_X8_387 wi_javalangIndexOutOfBoundsException (List.mem_of_getElem? (i := 2) rfl) zthr_391 (hl.1.trans hml.symm) ht dX8_needPlace_28 dX8_needPlace_31 dX8_needPlace_32 dX8_needPlace_35 dX8_needPlace_38 (by show 6 ≤ _; exact Nat.le_of_ble_eq_true rfl) (Nat.le_of_ble_eq_true rfl) (by show 0 + 1 ≤ 1; omega) (by show 0 + 6 ≤ 6; omega) hlocks (by (try dsimp only); first | exact ⟨rfl, by omega⟩ | exact Or.inl ⟨rfl, by omega⟩ | exact Or.inr ⟨rfl, by omega⟩ | exact Or.inr (Or.inl ⟨rfl, by omega⟩) | exact Or.inr (Or.inr ⟨rfl, by omega⟩)) (by show 0 + 1 ≤ 1; omega) (by show 0 + 6 ≤ 6; omega)
set_option maxHeartbeats 4000000 in
set_option maxRecDepth 100000 in
theorem c_X8_needSeries (l : Launch) (hl9 : l.stackTraces = false) (Γ : zG) (K : zK) (X : zX) (Rf : zR) (x : Nat) (a : Int) (sr : Nat) (pl : Nat) (ρ : zL) (M : zM) (hk : K x = (1, 7)) (hr4 : Rf x 4 = some sr) (hksr : K sr = (8, 6)) (hse : seOK ρ K X Rf pl sr M) (h1 : fit a) (hb3 : 0 ≤ M 40 16 ∧ M 40 16 ≤ 6) : Cx l yX8_needSeries cX8_needSeries 3 (some (.object "ZoneCalendar$Series")) 6 1 6 Γ [.ref x, .int (iI a)] K X Rf (pR (zr0 K X Rf (fun r => (Rf sr a.toNat = some r ∧ ∃ p0, Rf pl (serM M a.toNat 0).toNat = some p0 ∧ seA ρ K X Rf (200 + 10 * a.toNat) r p0 (serM M a.toNat) (useM M a.toNat) (excM M a.toNat)) ∧ 0 ≤ a ∧ a < M 40 16))) (fun E : String => E = "java/lang/IndexOutOfBoundsException" ∧ ¬(0 ≤ a ∧ a < M 40 16)) := by
  refine Cx.of (by decide +kernel) (Nat.le_of_ble_eq_true rfl) ?_
  intro p e s m below meth c ls hx hb hr hml hown hG hlocks hname ht hX hw hl
  have hl : lv_has ls 3 [(0, .ref x), (1, .int (iI a))] := hl
  refine lv_iload_n (pc := 0) hx hb dX8_needSeries_0 rfl (lv_at hl 1 rfl) ?_
  refine zif_lt (pc := 1) hx hb 13 (by omega) dX8_needSeries_1 (by decide) (fun c1 => ?_) (fun c1 => ?_)
  · skip
    refine lv_null (pc := 13) hx hb dX8_needSeries_13 ?_
    refine lv_goto (pc := 14) (tgt := 23) hx hb dX8_needSeries_14 (by decide) ?_
    refine lv_astore_nN (pc := 23) (lv' := [(2, .null), (0, .ref x), (1, .int (iI a))]) hx hb dX8_needSeries_23 rfl hl (by decide) rfl (fun ls hl => ?_)
    refine lv_aload_nN (pc := 24) hx hb dX8_needSeries_24 rfl (lv_at hl 0 rfl) ?_
    refine lv_ifnonnullN (pc := 25) hx hb dX8_needSeries_25 ?_
    exact zthrowW (pc := 28) hx hb hl9 hown hG hX hw wn_X8_387 wi_javalangIndexOutOfBoundsException (List.mem_of_getElem? (i := 12) rfl) zthr_391 (hl.1.trans hml.symm) ht dX8_needSeries_28 dX8_needSeries_31 dX8_needSeries_32 dX8_needSeries_35 dX8_needSeries_38 (by show 6 ≤ _; exact Nat.le_of_ble_eq_true rfl) (Nat.le_of_ble_eq_true rfl) (by show 0 + 1 ≤ 1; omega) (by show 0 + 6 ≤ 6; omega) hlocks (by (try dsimp only); first | exact ⟨rfl, by omega⟩ | exact Or.inl ⟨rfl, by omega⟩ | exact Or.inr ⟨rfl, by omega⟩ | exact Or.inr (Or.inl ⟨rfl, by omega⟩) | exact Or.inr (Or.inr ⟨rfl, by omega⟩)) (by show 0 + 1 ≤ 1; omega) (by show 0 + 6 ≤ 6; omega)
  · skip
    refine lv_iload_n (pc := 4) hx hb dX8_needSeries_4 rfl (lv_at hl 1 rfl) ?_
    refine lv_aload_n (pc := 5) hx hb dX8_needSeries_5 rfl (lv_at hl 0 rfl) ?_
    refine zgetR (pc := 6) hx hb hG hown hw hk (T := TX8) rfl 4 (by decide) rfl wf_X8_30 rfl hr4 dX8_needSeries_6 ?_
    refine zlen8 (pc := 9) hx hb hw hksr dX8_needSeries_9 ?_
    refine zicmp_lt (pc := 10) hx hb 17 (by omega) (by omega) dX8_needSeries_10 (by decide) (fun c10 => ?_) (fun c10 => ?_)
    · skip
      refine lv_aload_n (pc := 17) hx hb dX8_needSeries_17 rfl (lv_at hl 0 rfl) ?_
      refine zgetR (pc := 18) hx hb hG hown hw hk (T := TX8) rfl 4 (by decide) rfl wf_X8_30 rfl hr4 dX8_needSeries_18 ?_
      refine lv_iload_n (pc := 21) hx hb dX8_needSeries_21 rfl (lv_at hl 1 rfl) ?_
      refine zaaldQ2 (pc := 22) hx hb hw hksr ⟨by omega, by omega⟩ (by omega) dX8_needSeries_22 (fun hq22 => ?_) (fun q22 hq22 => ?_)
      · skip
        have hno := hse.no (k := a.toNat) (by omega) hq22
        refine lv_astore_nN (pc := 23) (lv' := [(2, .null), (0, .ref x), (1, .int (iI a))]) hx hb dX8_needSeries_23 rfl hl (by decide) rfl (fun ls hl => ?_)
        refine lv_aload_nN (pc := 24) hx hb dX8_needSeries_24 rfl (lv_at hl 0 rfl) ?_
        refine lv_ifnonnullN (pc := 25) hx hb dX8_needSeries_25 ?_
        exact zthrowW (pc := 28) hx hb hl9 hown hG hX hw wn_X8_387 wi_javalangIndexOutOfBoundsException (List.mem_of_getElem? (i := 12) rfl) zthr_391 (hl.1.trans hml.symm) ht dX8_needSeries_28 dX8_needSeries_31 dX8_needSeries_32 dX8_needSeries_35 dX8_needSeries_38 (by show 6 ≤ _; exact Nat.le_of_ble_eq_true rfl) (Nat.le_of_ble_eq_true rfl) (by show 0 + 1 ≤ 1; omega) (by show 0 + 6 ≤ 6; omega) hlocks (by (try dsimp only); first | exact ⟨rfl, by omega⟩ | exact Or.inl ⟨rfl, by omega⟩ | exact Or.inr ⟨rfl, by omega⟩ | exact Or.inr (Or.inl ⟨rfl, by omega⟩) | exact Or.inr (Or.inr ⟨rfl, by omega⟩)) (by show 0 + 1 ≤ 1; omega) (by show 0 + 6 ≤ 6; omega)
      · skip
        obtain ⟨hqi, hqs⟩ := hse.at (k := a.toNat) (by omega) hq22
        have hqh := hq22
        obtain ⟨p09, hq1, hq2⟩ := id hqs
        have hqk := hq2.1.1
        refine lv_astore_n (pc := 23) (lv' := [(2, .ref q22), (0, .ref x), (1, .int (iI a))]) hx hb dX8_needSeries_23 rfl hl (by decide) rfl (fun ls hl => ?_)
        refine lv_aload_n (pc := 24) hx hb dX8_needSeries_24 rfl (lv_at hl 0 rfl) ?_
        refine lv_ifnonnull (pc := 25) (tgt := 39) hx hb dX8_needSeries_25 (by decide) ?_
        refine lv_aload_n (pc := 39) hx hb dX8_needSeries_39 rfl (lv_at hl 0 rfl) ?_
        exact vx_ret (zretR (pc := 40) hx hb hlocks hr (by first | exact Or.inl ⟨_, rfl⟩ | exact Or.inr ⟨_, rfl⟩) hw (Nat.zero_le _) (Nat.zero_le _) dX8_needSeries_40 (by exact ⟨⟨⟨hqh, hqs⟩, by omega⟩, rfl, rfl, rfl⟩))
    · skip
      refine lv_null (pc := 13) hx hb dX8_needSeries_13 ?_
      refine lv_goto (pc := 14) (tgt := 23) hx hb dX8_needSeries_14 (by decide) ?_
      refine lv_astore_nN (pc := 23) (lv' := [(2, .null), (0, .ref x), (1, .int (iI a))]) hx hb dX8_needSeries_23 rfl hl (by decide) rfl (fun ls hl => ?_)
      refine lv_aload_nN (pc := 24) hx hb dX8_needSeries_24 rfl (lv_at hl 0 rfl) ?_
      refine lv_ifnonnullN (pc := 25) hx hb dX8_needSeries_25 ?_
      exact zthrowW (pc := 28) hx hb hl9 hown hG hX hw wn_X8_387 wi_javalangIndexOutOfBoundsException (List.mem_of_getElem? (i := 12) rfl) zthr_391 (hl.1.trans hml.symm) ht dX8_needSeries_28 dX8_needSeries_31 dX8_needSeries_32 dX8_needSeries_35 dX8_needSeries_38 (by show 6 ≤ _; exact Nat.le_of_ble_eq_true rfl) (Nat.le_of_ble_eq_true rfl) (by show 0 + 1 ≤ 1; omega) (by show 0 + 6 ≤ 6; omega) hlocks (by (try dsimp only); first | exact ⟨rfl, by omega⟩ | exact Or.inl ⟨rfl, by omega⟩ | exact Or.inr ⟨rfl, by omega⟩ | exact Or.inr (Or.inl ⟨rfl, by omega⟩) | exact Or.inr (Or.inr ⟨rfl, by omega⟩)) (by show 0 + 1 ≤ 1; omega) (by show 0 + 6 ≤ 6; omega)
set_option maxHeartbeats 4000000 in
set_option maxRecDepth 100000 in
theorem c_X8_needDate (l : Launch) (hl9 : l.stackTraces = false) (Γ : zG) (K : zK) (X : zX) (Rf : zR) (se : Nat) (k9 : Int)  (hks : K se = (1, 4)) (h1 : fit k9 ∧ fit (X se 16)) : Cx l yX8_needDate cX8_needDate 2 none 6 1 6 Γ [.ref se, .int (iI k9)] K X Rf (pV (zn0 K X Rf (0 ≤ k9 ∧ k9 < X se 16))) (fun E : String => E = "java/lang/IndexOutOfBoundsException" ∧ ¬(0 ≤ k9 ∧ k9 < X se 16)) := by
  refine Cx.of (by decide +kernel) (Nat.le_of_ble_eq_true rfl) ?_
  intro p e s m below meth c ls hx hb hr hml hown hG hlocks hname ht hX hw hl
  have hl : lv_has ls 2 [(0, .ref se), (1, .int (iI k9))] := hl
  refine lv_iload_n (pc := 0) hx hb dX8_needDate_0 rfl (lv_at hl 1 rfl) ?_
  refine zif_lt (pc := 1) hx hb 12 (by omega) dX8_needDate_1 (by decide) (fun c1 => ?_) (fun c1 => ?_)
  · skip
    exact zthrowW (pc := 12) hx hb hl9 hown hG hX hw wn_X8_387 wi_javalangIndexOutOfBoundsException (List.mem_of_getElem? (i := 28) rfl) zthr_391 (hl.1.trans hml.symm) ht dX8_needDate_12 dX8_needDate_15 dX8_needDate_16 dX8_needDate_19 dX8_needDate_22 (by show 6 ≤ _; exact Nat.le_of_ble_eq_true rfl) (Nat.le_of_ble_eq_true rfl) (by show 0 + 1 ≤ 1; omega) (by show 0 + 6 ≤ 6; omega) hlocks (by (try dsimp only); first | exact ⟨rfl, by omega⟩ | exact Or.inl ⟨rfl, by omega⟩ | exact Or.inr ⟨rfl, by omega⟩ | exact Or.inr (Or.inl ⟨rfl, by omega⟩) | exact Or.inr (Or.inr ⟨rfl, by omega⟩)) (by show 0 + 1 ≤ 1; omega) (by show 0 + 6 ≤ 6; omega)
  · skip
    refine lv_iload_n (pc := 4) hx hb dX8_needDate_4 rfl (lv_at hl 1 rfl) ?_
    refine lv_aload_n (pc := 5) hx hb dX8_needDate_5 rfl (lv_at hl 0 rfl) ?_
    refine zgetI (pc := 6) hx hb hG hown hw hks (T := TX5) rfl 16 (by decide) rfl wf_X8_256 rfl dX8_needDate_6 ?_
    refine zicmp_lt (pc := 9) hx hb 23 (by omega) (by omega) dX8_needDate_9 (by decide) (fun c9 => ?_) (fun c9 => ?_)
    · skip
      exact vx_ret (zretV (pc := 23) hx hb hlocks hr hw (Nat.zero_le _) (Nat.zero_le _) dX8_needDate_23 ⟨by omega, rfl, rfl, rfl⟩)
    · skip
      exact zthrowW (pc := 12) hx hb hl9 hown hG hX hw wn_X8_387 wi_javalangIndexOutOfBoundsException (List.mem_of_getElem? (i := 28) rfl) zthr_391 (hl.1.trans hml.symm) ht dX8_needDate_12 dX8_needDate_15 dX8_needDate_16 dX8_needDate_19 dX8_needDate_22 (by show 6 ≤ _; exact Nat.le_of_ble_eq_true rfl) (Nat.le_of_ble_eq_true rfl) (by show 0 + 1 ≤ 1; omega) (by show 0 + 6 ≤ 6; omega) hlocks (by (try dsimp only); first | exact ⟨rfl, by omega⟩ | exact Or.inl ⟨rfl, by omega⟩ | exact Or.inr ⟨rfl, by omega⟩ | exact Or.inr (Or.inl ⟨rfl, by omega⟩) | exact Or.inr (Or.inr ⟨rfl, by omega⟩)) (by show 0 + 1 ≤ 1; omega) (by show 0 + 6 ≤ 6; omega)
set_option maxHeartbeats 4000000 in
set_option maxRecDepth 100000 in
theorem c_X8_dayOf (l : Launch) (hl9 : l.stackTraces = false) (Γ : zG) (K : zK) (X : zX) (Rf : zR) (x : Nat) (year : Int) (month : Int) (day : Int)  (hk : K x = (1, 7)) (h1 : fit year ∧ fit month ∧ fit day) : Cx l yX8_dayOf cX8_dayOf 5 (some .int) 7 2 12 Γ [.ref x, .int (iI year), .int (iI month), .int (iI day)] K X Rf (pI (zp0 K X Rf (fun r : Int => r = vlDate year month day ∧ cdDate year month day = 0))) (fun E : String => E = "java/lang/IllegalArgumentException" ∧ cdDate year month day = 1) := by
  refine Cx.of (by decide +kernel) (Nat.le_of_ble_eq_true rfl) ?_
  intro p e s m below meth c ls hx hb hr hml hown hG hlocks hname ht hX hw hl
  have hl : lv_has ls 5 [(0, .ref x), (1, .int (iI year)), (2, .int (iI month)), (3, .int (iI day))] := hl
  refine lv_iload_n (pc := 0) hx hb dX8_dayOf_0 rfl (lv_at hl 1 rfl) ?_
  refine zxkVp (pc := 1) (zxrS (As := [.int (iI year)]) hx hb hml hown hG hX hw (c_X8_needYear l hl9 Γ K X Rf year  (by (first | assumption | omega))) cb_X8_needYear wl_X8_53 rfl ⟨Nat.le_of_ble_eq_true rfl, Nat.le_of_ble_eq_true rfl⟩ hl.1 rfl (Nat.le_of_ble_eq_true rfl) dX8_dayOf_1 ⟨(by show 0 + 1 ≤ 2; omega), (by show 0 + 6 ≤ 12; omega)⟩) hw (fun E9 ce9 q9 H9 locs9 hxp9 hw9 hce9 hcv9 hcl9 => zxout (pc := 1) ht hlocks hw9 hce9 hcv9 hcl9 (by (obtain ⟨rfl, hq9⟩ := hxp9; (try dsimp only); first | exact ⟨rfl, (by (unfold cdDate; (repeat' split) <;> omega))⟩ | exact Or.inl ⟨rfl, (by (unfold cdDate; (repeat' split) <;> omega))⟩ | exact Or.inr ⟨rfl, (by (unfold cdDate; (repeat' split) <;> omega))⟩ | exact Or.inr (Or.inl ⟨rfl, (by (unfold cdDate; (repeat' split) <;> omega))⟩))) (by show 0 + 1 ≤ 2; omega) (by show 0 + 6 ≤ 12; omega)) (fun H locs hp1 hw => ?_)
  refine lv_iload_n (pc := 4) hx hb dX8_dayOf_4 rfl (lv_at hl 2 rfl) ?_
  refine ziconst (pc := 5) (n := 1) hx hb dX8_dayOf_5 ?_
  refine zicmp_lt (pc := 6) hx hb 15 (by omega) (by omega) dX8_dayOf_6 (by decide) (fun c6 => ?_) (fun c6 => ?_)
  · skip
    exact zthrow (pc := 15) hx hb hl9 hown hG hX hw wn_X8_56 wi_javalangIllegalArgumentException (List.mem_of_getElem? (i := 24) rfl) zthr_60 (hl.1.trans hml.symm) ht dX8_dayOf_15 dX8_dayOf_18 dX8_dayOf_19 dX8_dayOf_21 dX8_dayOf_24 (by show 6 ≤ _; exact Nat.le_of_ble_eq_true rfl) (Nat.le_of_ble_eq_true rfl) (by show 0 + 1 + 1 ≤ 2; omega) (by show 0 + 6 + 6 ≤ 12; omega) hlocks (by (try dsimp only); first | exact ⟨rfl, (by (unfold cdDate; (repeat' split) <;> omega))⟩ | exact Or.inl ⟨rfl, (by (unfold cdDate; (repeat' split) <;> omega))⟩ | exact Or.inr ⟨rfl, (by (unfold cdDate; (repeat' split) <;> omega))⟩ | exact Or.inr (Or.inl ⟨rfl, (by (unfold cdDate; (repeat' split) <;> omega))⟩) | exact Or.inr (Or.inr ⟨rfl, (by (unfold cdDate; (repeat' split) <;> omega))⟩)) (by show 0 + 1 + 1 ≤ 2; omega) (by show 0 + 6 + 6 ≤ 12; omega)
  · skip
    refine lv_iload_n (pc := 9) hx hb dX8_dayOf_9 rfl (lv_at hl 2 rfl) ?_
    refine zbipush (pc := 10) (n := 12) hx hb dX8_dayOf_10 rfl ?_
    refine zicmp_le (pc := 12) hx hb 25 (by omega) (by omega) dX8_dayOf_12 (by decide) (fun c12 => ?_) (fun c12 => ?_)
    · skip
      refine lv_iload_n (pc := 25) hx hb dX8_dayOf_25 rfl (lv_at hl 1 rfl) ?_
      refine zkIp (pc := 26) (zrS (As := [.int (iI year)]) hx hb hml hown hG hw (c_X1_januaryOf l Γ K X Rf year  ) cb_X1_januaryOf wl_X8_63 rfl ⟨Nat.le_of_ble_eq_true rfl, Nat.le_of_ble_eq_true rfl⟩ hl.1 rfl (Nat.le_of_ble_eq_true rfl) dX8_dayOf_26 ⟨(by show 0 + 1 + 0 ≤ 2; omega), (by show 0 + 6 + 0 ≤ 12; omega)⟩) hw (fun r26 H locs hp26 hw => ?_)
      subst hp26
      refine lv_iload_n (pc := 29) hx hb dX8_dayOf_29 rfl (lv_at hl 2 rfl) ?_
      refine zadd (pc := 30) hx hb dX8_dayOf_30 ?_
      refine ziconst (pc := 31) (n := 1) hx hb dX8_dayOf_31 ?_
      refine zsub (pc := 32) hx hb dX8_dayOf_32 ?_
      refine ztop (fun x33 ex33 => ?_)
      refine lv_istore (pc := 33) (lv' := [(4, .int (iI x33)), (0, .ref x), (1, .int (iI year)), (2, .int (iI month)), (3, .int (iI day))]) hx hb dX8_dayOf_33 hl (by decide) rfl (fun ls hl => ?_)
      refine lv_iload_n (pc := 35) hx hb dX8_dayOf_35 rfl (lv_at hl 4 rfl) ?_
      refine ziconst (pc := 36) (n := 1) hx hb dX8_dayOf_36 ?_
      refine zicmp_lt (pc := 37) hx hb 49 (by omega) (by omega) dX8_dayOf_37 (by decide) (fun c37 => ?_) (fun c37 => ?_)
      · skip
        exact zthrow (pc := 49) hx hb hl9 hown hG hX hw wn_X8_56 wi_javalangIllegalArgumentException (List.mem_of_getElem? (i := 25) rfl) zthr_60 (hl.1.trans hml.symm) ht dX8_dayOf_49 dX8_dayOf_52 dX8_dayOf_53 dX8_dayOf_55 dX8_dayOf_58 (by show 6 ≤ _; exact Nat.le_of_ble_eq_true rfl) (Nat.le_of_ble_eq_true rfl) (by show 0 + 1 + 1 ≤ 2; omega) (by show 0 + 6 + 6 ≤ 12; omega) hlocks (by (try dsimp only); first | exact ⟨rfl, (by (unfold cdDate; (repeat' split) <;> omega))⟩ | exact Or.inl ⟨rfl, (by (unfold cdDate; (repeat' split) <;> omega))⟩ | exact Or.inr ⟨rfl, (by (unfold cdDate; (repeat' split) <;> omega))⟩ | exact Or.inr (Or.inl ⟨rfl, (by (unfold cdDate; (repeat' split) <;> omega))⟩) | exact Or.inr (Or.inr ⟨rfl, (by (unfold cdDate; (repeat' split) <;> omega))⟩)) (by show 0 + 1 + 1 ≤ 2; omega) (by show 0 + 6 + 6 ≤ 12; omega)
      · skip
        refine lv_iload_n (pc := 40) hx hb dX8_dayOf_40 rfl (lv_at hl 4 rfl) ?_
        refine lv_iload (pc := 41) hx hb dX8_dayOf_41 (lv_at hl 0 rfl) ?_
        have hlm := lenM_mB (year := year) (month := month) (by omega) (by omega)
        have hx33 : x33 = 12 * (year - 1900) + month - 1 := by omega
        rw [← hx33] at hlm
        have hlr := lenM_rng (year - 1900) month
        refine zkIp (pc := 43) (zrS (As := [.int (iI x33)]) hx hb hml hown hG hw (c_X1_monthLength l Γ K X Rf x33  (by (first | assumption | omega))) cb_X1_monthLength wl_X8_69 rfl ⟨Nat.le_of_ble_eq_true rfl, Nat.le_of_ble_eq_true rfl⟩ hl.1 rfl (Nat.le_of_ble_eq_true rfl) dX8_dayOf_43 ⟨(by show 0 + 1 + 0 ≤ 2; omega), (by show 0 + 6 + 0 ≤ 12; omega)⟩) hw (fun r43 H locs hp43 hw => ?_)
        subst hp43
        refine zicmp_le (pc := 46) hx hb 59 (by omega) (by omega) dX8_dayOf_46 (by decide) (fun c46 => ?_) (fun c46 => ?_)
        · skip
          refine lv_iload (pc := 59) hx hb dX8_dayOf_59 (lv_at hl 0 rfl) ?_
          refine zkIp (pc := 61) (zrS (As := [.int (iI x33)]) hx hb hml hown hG hw (c_X1_monthBegin l Γ K X Rf x33  (by (first | assumption | omega))) cb_X1_monthBegin wl_X8_74 rfl ⟨Nat.le_of_ble_eq_true rfl, Nat.le_of_ble_eq_true rfl⟩ hl.1 rfl (Nat.le_of_ble_eq_true rfl) dX8_dayOf_61 ⟨(by show 0 + 1 + 0 ≤ 2; omega), (by show 0 + 6 + 0 ≤ 12; omega)⟩) hw (fun r61 H locs hp61 hw => ?_)
          subst hp61
          have hp61f0 := mB_rng x33
          refine lv_iload_n (pc := 64) hx hb dX8_dayOf_64 rfl (lv_at hl 4 rfl) ?_
          refine zadd (pc := 65) hx hb dX8_dayOf_65 ?_
          refine ziconst (pc := 66) (n := 1) hx hb dX8_dayOf_66 ?_
          refine zsub (pc := 67) hx hb dX8_dayOf_67 ?_
          exact vx_ret (zretI (pc := 68) hx hb hlocks hr hw (by show 0 + 1 ≤ 2; omega) (by show 0 + 6 ≤ 12; omega) dX8_dayOf_68 ⟨by (try dsimp only) <;> (exact ⟨by unfold vlDate; rw [← hx33], by (unfold cdDate; (repeat' split) <;> omega)⟩), rfl, rfl, rfl⟩)
        · skip
          exact zthrow (pc := 49) hx hb hl9 hown hG hX hw wn_X8_56 wi_javalangIllegalArgumentException (List.mem_of_getElem? (i := 25) rfl) zthr_60 (hl.1.trans hml.symm) ht dX8_dayOf_49 dX8_dayOf_52 dX8_dayOf_53 dX8_dayOf_55 dX8_dayOf_58 (by show 6 ≤ _; exact Nat.le_of_ble_eq_true rfl) (Nat.le_of_ble_eq_true rfl) (by show 0 + 1 + 1 ≤ 2; omega) (by show 0 + 6 + 6 ≤ 12; omega) hlocks (by (try dsimp only); first | exact ⟨rfl, (by (unfold cdDate; (repeat' split) <;> omega))⟩ | exact Or.inl ⟨rfl, (by (unfold cdDate; (repeat' split) <;> omega))⟩ | exact Or.inr ⟨rfl, (by (unfold cdDate; (repeat' split) <;> omega))⟩ | exact Or.inr (Or.inl ⟨rfl, (by (unfold cdDate; (repeat' split) <;> omega))⟩) | exact Or.inr (Or.inr ⟨rfl, (by (unfold cdDate; (repeat' split) <;> omega))⟩)) (by show 0 + 1 + 1 ≤ 2; omega) (by show 0 + 6 + 6 ≤ 12; omega)
    · skip
      exact zthrow (pc := 15) hx hb hl9 hown hG hX hw wn_X8_56 wi_javalangIllegalArgumentException (List.mem_of_getElem? (i := 24) rfl) zthr_60 (hl.1.trans hml.symm) ht dX8_dayOf_15 dX8_dayOf_18 dX8_dayOf_19 dX8_dayOf_21 dX8_dayOf_24 (by show 6 ≤ _; exact Nat.le_of_ble_eq_true rfl) (Nat.le_of_ble_eq_true rfl) (by show 0 + 1 + 1 ≤ 2; omega) (by show 0 + 6 + 6 ≤ 12; omega) hlocks (by (try dsimp only); first | exact ⟨rfl, (by (unfold cdDate; (repeat' split) <;> omega))⟩ | exact Or.inl ⟨rfl, (by (unfold cdDate; (repeat' split) <;> omega))⟩ | exact Or.inr ⟨rfl, (by (unfold cdDate; (repeat' split) <;> omega))⟩ | exact Or.inr (Or.inl ⟨rfl, (by (unfold cdDate; (repeat' split) <;> omega))⟩) | exact Or.inr (Or.inr ⟨rfl, (by (unfold cdDate; (repeat' split) <;> omega))⟩)) (by show 0 + 1 + 1 ≤ 2; omega) (by show 0 + 6 + 6 ≤ 12; omega)
set_option maxHeartbeats 4000000 in
set_option maxRecDepth 100000 in
theorem c_X8_yearOf (l : Launch) (hl9 : l.stackTraces = false) (Γ : zG) (K : zK) (X : zX) (Rf : zR) (x : Nat) (day : Int)  (hk : K x = (1, 7)) (h1 : fit day) : Cx l yX8_yearOf cX8_yearOf 2 (some .int) 7 1 6 Γ [.ref x, .int (iI day)] K X Rf (pI (zp0 K X Rf (fun r : Int => r = 1900 + yr day ∧ cdDay day = 0))) (fun E : String => E = "java/lang/IndexOutOfBoundsException" ∧ cdDay day = 1) := by
  refine Cx.of (by decide +kernel) (Nat.le_of_ble_eq_true rfl) ?_
  intro p e s m below meth c ls hx hb hr hml hown hG hlocks hname ht hX hw hl
  have hl : lv_has ls 2 [(0, .ref x), (1, .int (iI day))] := hl
  refine lv_iload_n (pc := 0) hx hb dX8_yearOf_0 rfl (lv_at hl 1 rfl) ?_
  refine zxkVp (pc := 1) (zxrS (As := [.int (iI day)]) hx hb hml hown hG hX hw (c_X8_needDay l hl9 Γ K X Rf day  (by (first | assumption | omega))) cb_X8_needDay wl_X8_77 rfl ⟨Nat.le_of_ble_eq_true rfl, Nat.le_of_ble_eq_true rfl⟩ hl.1 rfl (Nat.le_of_ble_eq_true rfl) dX8_yearOf_1 ⟨(by show 0 + 1 ≤ 1; omega), (by show 0 + 6 ≤ 6; omega)⟩) hw (fun E9 ce9 q9 H9 locs9 hxp9 hw9 hce9 hcv9 hcl9 => zxout (pc := 1) ht hlocks hw9 hce9 hcv9 hcl9 (by (obtain ⟨rfl, hq9⟩ := hxp9; (try dsimp only); first | exact ⟨rfl, (by (unfold cdDay; (repeat' split) <;> omega))⟩ | exact Or.inl ⟨rfl, (by (unfold cdDay; (repeat' split) <;> omega))⟩ | exact Or.inr ⟨rfl, (by (unfold cdDay; (repeat' split) <;> omega))⟩ | exact Or.inr (Or.inl ⟨rfl, (by (unfold cdDay; (repeat' split) <;> omega))⟩))) (by show 0 + 1 ≤ 1; omega) (by show 0 + 6 ≤ 6; omega)) (fun H locs hp1 hw => ?_)
  refine lv_iload_n (pc := 4) hx hb dX8_yearOf_4 rfl (lv_at hl 1 rfl) ?_
  refine zkIp (pc := 5) (zrS (As := [.int (iI day)]) hx hb hml hown hG hw (c_X1_yearWith l Γ K X Rf day  (by (first | assumption | omega))) cb_X1_yearWith wl_X8_80 rfl ⟨Nat.le_of_ble_eq_true rfl, Nat.le_of_ble_eq_true rfl⟩ hl.1 rfl (Nat.le_of_ble_eq_true rfl) dX8_yearOf_5 ⟨(by show 0 + 1 + 0 ≤ 1; omega), (by show 0 + 6 + 0 ≤ 6; omega)⟩) hw (fun r5 H locs hp5 hw => ?_)
  subst hp5
  have hp5f0 := yr_rng (d := day) (by omega) (by omega)
  exact vx_ret (zretI (pc := 8) hx hb hlocks hr hw (by show 0 + 1 ≤ 1; omega) (by show 0 + 6 ≤ 6; omega) dX8_yearOf_8 ⟨by (try dsimp only) <;> (exact ⟨by rfl, by (unfold cdDay; (repeat' split) <;> omega)⟩), rfl, rfl, rfl⟩)
set_option maxHeartbeats 4000000 in
set_option maxRecDepth 100000 in
theorem c_X8_monthOf (l : Launch) (hl9 : l.stackTraces = false) (Γ : zG) (K : zK) (X : zX) (Rf : zR) (x : Nat) (day : Int)  (hk : K x = (1, 7)) (h1 : fit day) : Cx l yX8_monthOf cX8_monthOf 2 (some .int) 7 1 6 Γ [.ref x, .int (iI day)] K X Rf (pI (zp0 K X Rf (fun r : Int => r = mi day % 12 + 1 ∧ cdDay day = 0))) (fun E : String => E = "java/lang/IndexOutOfBoundsException" ∧ cdDay day = 1) := by
  refine Cx.of (by decide +kernel) (Nat.le_of_ble_eq_true rfl) ?_
  intro p e s m below meth c ls hx hb hr hml hown hG hlocks hname ht hX hw hl
  have hl : lv_has ls 2 [(0, .ref x), (1, .int (iI day))] := hl
  refine lv_iload_n (pc := 0) hx hb dX8_monthOf_0 rfl (lv_at hl 1 rfl) ?_
  refine zxkVp (pc := 1) (zxrS (As := [.int (iI day)]) hx hb hml hown hG hX hw (c_X8_needDay l hl9 Γ K X Rf day  (by (first | assumption | omega))) cb_X8_needDay wl_X8_77 rfl ⟨Nat.le_of_ble_eq_true rfl, Nat.le_of_ble_eq_true rfl⟩ hl.1 rfl (Nat.le_of_ble_eq_true rfl) dX8_monthOf_1 ⟨(by show 0 + 1 ≤ 1; omega), (by show 0 + 6 ≤ 6; omega)⟩) hw (fun E9 ce9 q9 H9 locs9 hxp9 hw9 hce9 hcv9 hcl9 => zxout (pc := 1) ht hlocks hw9 hce9 hcv9 hcl9 (by (obtain ⟨rfl, hq9⟩ := hxp9; (try dsimp only); first | exact ⟨rfl, (by (unfold cdDay; (repeat' split) <;> omega))⟩ | exact Or.inl ⟨rfl, (by (unfold cdDay; (repeat' split) <;> omega))⟩ | exact Or.inr ⟨rfl, (by (unfold cdDay; (repeat' split) <;> omega))⟩ | exact Or.inr (Or.inl ⟨rfl, (by (unfold cdDay; (repeat' split) <;> omega))⟩))) (by show 0 + 1 ≤ 1; omega) (by show 0 + 6 ≤ 6; omega)) (fun H locs hp1 hw => ?_)
  refine lv_iload_n (pc := 4) hx hb dX8_monthOf_4 rfl (lv_at hl 1 rfl) ?_
  refine zkIp (pc := 5) (zrS (As := [.int (iI day)]) hx hb hml hown hG hw (c_X1_monthWith l Γ K X Rf day  (by (first | assumption | omega))) cb_X1_monthWith wl_X8_83 rfl ⟨Nat.le_of_ble_eq_true rfl, Nat.le_of_ble_eq_true rfl⟩ hl.1 rfl (Nat.le_of_ble_eq_true rfl) dX8_monthOf_5 ⟨(by show 0 + 1 + 0 ≤ 1; omega), (by show 0 + 6 + 0 ≤ 6; omega)⟩) hw (fun r5 H locs hp5 hw => ?_)
  subst hp5
  have hp5f0 := mi_rng (d := day) (by omega) (by omega)
  refine zbipush (pc := 8) (n := 12) hx hb dX8_monthOf_8 rfl ?_
  refine zrem (pc := 10) hx hb (by omega) dX8_monthOf_10 ?_
  refine ziconst (pc := 11) (n := 1) hx hb dX8_monthOf_11 ?_
  refine zadd (pc := 12) hx hb dX8_monthOf_12 ?_
  exact vx_ret (zretI (pc := 13) hx hb hlocks hr hw (by show 0 + 1 ≤ 1; omega) (by show 0 + 6 ≤ 6; omega) dX8_monthOf_13 ⟨by (try dsimp only) <;> (exact ⟨by rfl, by (unfold cdDay; (repeat' split) <;> omega)⟩), rfl, rfl, rfl⟩)
set_option maxHeartbeats 4000000 in
set_option maxRecDepth 100000 in
theorem c_X8_dayOfMonth (l : Launch) (hl9 : l.stackTraces = false) (Γ : zG) (K : zK) (X : zX) (Rf : zR) (x : Nat) (day : Int)  (hk : K x = (1, 7)) (h1 : fit day) : Cx l yX8_dayOfMonth cX8_dayOfMonth 2 (some .int) 7 1 6 Γ [.ref x, .int (iI day)] K X Rf (pI (zp0 K X Rf (fun r : Int => r = day - mB (mi day) + 1 ∧ cdDay day = 0))) (fun E : String => E = "java/lang/IndexOutOfBoundsException" ∧ cdDay day = 1) := by
  refine Cx.of (by decide +kernel) (Nat.le_of_ble_eq_true rfl) ?_
  intro p e s m below meth c ls hx hb hr hml hown hG hlocks hname ht hX hw hl
  have hl : lv_has ls 2 [(0, .ref x), (1, .int (iI day))] := hl
  refine lv_iload_n (pc := 0) hx hb dX8_dayOfMonth_0 rfl (lv_at hl 1 rfl) ?_
  refine zxkVp (pc := 1) (zxrS (As := [.int (iI day)]) hx hb hml hown hG hX hw (c_X8_needDay l hl9 Γ K X Rf day  (by (first | assumption | omega))) cb_X8_needDay wl_X8_77 rfl ⟨Nat.le_of_ble_eq_true rfl, Nat.le_of_ble_eq_true rfl⟩ hl.1 rfl (Nat.le_of_ble_eq_true rfl) dX8_dayOfMonth_1 ⟨(by show 0 + 1 ≤ 1; omega), (by show 0 + 6 ≤ 6; omega)⟩) hw (fun E9 ce9 q9 H9 locs9 hxp9 hw9 hce9 hcv9 hcl9 => zxout (pc := 1) ht hlocks hw9 hce9 hcv9 hcl9 (by (obtain ⟨rfl, hq9⟩ := hxp9; (try dsimp only); first | exact ⟨rfl, (by (unfold cdDay; (repeat' split) <;> omega))⟩ | exact Or.inl ⟨rfl, (by (unfold cdDay; (repeat' split) <;> omega))⟩ | exact Or.inr ⟨rfl, (by (unfold cdDay; (repeat' split) <;> omega))⟩ | exact Or.inr (Or.inl ⟨rfl, (by (unfold cdDay; (repeat' split) <;> omega))⟩))) (by show 0 + 1 ≤ 1; omega) (by show 0 + 6 ≤ 6; omega)) (fun H locs hp1 hw => ?_)
  refine lv_iload_n (pc := 4) hx hb dX8_dayOfMonth_4 rfl (lv_at hl 1 rfl) ?_
  refine zkIp (pc := 5) (zrS (As := [.int (iI day)]) hx hb hml hown hG hw (c_X1_numberInMonth l Γ K X Rf day  (by (first | assumption | omega))) cb_X1_numberInMonth wl_X8_86 rfl ⟨Nat.le_of_ble_eq_true rfl, Nat.le_of_ble_eq_true rfl⟩ hl.1 rfl (Nat.le_of_ble_eq_true rfl) dX8_dayOfMonth_5 ⟨(by show 0 + 1 + 0 ≤ 1; omega), (by show 0 + 6 + 0 ≤ 6; omega)⟩) hw (fun r5 H locs hp5 hw => ?_)
  subst hp5
  exact vx_ret (zretI (pc := 8) hx hb hlocks hr hw (by show 0 + 1 ≤ 1; omega) (by show 0 + 6 ≤ 6; omega) dX8_dayOfMonth_8 ⟨by (try dsimp only) <;> (exact ⟨by rfl, by (unfold cdDay; (repeat' split) <;> omega)⟩), rfl, rfl, rfl⟩)
