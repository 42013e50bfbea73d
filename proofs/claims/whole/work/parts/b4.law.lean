theorem cb_L_dayOf : zcl4 yL_dayOf cL_dayOf 6 (some .int) [(0, 12, 15, 13)] 5 := ⟨GG_mem (i := 4) (j := 7) rfl rfl, GG_mem (i := 4) (j := 6) rfl rfl, GG_mem (i := 4) (j := 5) rfl rfl, by decide +kernel⟩
theorem cb_L_yearOf : zcl4 yL_yearOf cL_yearOf 4 (some .int) [(0, 9, 12, 19)] 3 := ⟨GG_mem (i := 6) (j := 12) rfl rfl, GG_mem (i := 4) (j := 6) rfl rfl, GG_mem (i := 6) (j := 11) rfl rfl, by decide +kernel⟩
theorem cb_L_monthOf : zcl4 yL_monthOf cL_monthOf 4 (some .int) [(0, 9, 12, 19)] 3 := ⟨GG_mem (i := 7) (j := 20) rfl rfl, GG_mem (i := 4) (j := 6) rfl rfl, GG_mem (i := 7) (j := 19) rfl rfl, by decide +kernel⟩
theorem cb_L_dayOfMonth : zcl4 yL_dayOfMonth cL_dayOfMonth 4 (some .int) [(0, 9, 12, 19)] 3 := ⟨GG_mem (i := 8) (j := 15) rfl rfl, GG_mem (i := 4) (j := 6) rfl rfl, GG_mem (i := 8) (j := 14) rfl rfl, by decide +kernel⟩
theorem cb_L_weekdayOf : zcl4 yL_weekdayOf cL_weekdayOf 4 (some .int) [(0, 9, 12, 19)] 3 := ⟨GG_mem (i := 9) (j := 9) rfl rfl, GG_mem (i := 4) (j := 6) rfl rfl, GG_mem (i := 9) (j := 8) rfl rfl, by decide +kernel⟩
theorem cb_L_weekOf : zcl4 yL_weekOf cL_weekOf 4 (some .int) [(0, 9, 12, 19)] 3 := ⟨GG_mem (i := 10) (j := 3) rfl rfl, GG_mem (i := 4) (j := 6) rfl rfl, GG_mem (i := 10) (j := 2) rfl rfl, by decide +kernel⟩
theorem cb_L_yearOfWeek : zcl4 yL_yearOfWeek cL_yearOfWeek 4 (some .int) [(0, 9, 12, 19)] 3 := ⟨GG_mem (i := 10) (j := 21) rfl rfl, GG_mem (i := 4) (j := 6) rfl rfl, GG_mem (i := 10) (j := 20) rfl rfl, by decide +kernel⟩
theorem cb_L_easterOf : zcl4 yL_easterOf cL_easterOf 4 (some .int) [(0, 9, 12, 13)] 3 := ⟨GG_mem (i := 11) (j := 8) rfl rfl, GG_mem (i := 4) (j := 6) rfl rfl, GG_mem (i := 11) (j := 7) rfl rfl, by decide +kernel⟩
theorem cb_L_plusMonths : zcl4 yL_plusMonths cL_plusMonths 5 (some .int) [(0, 10, 13, 19), (0, 10, 17, 13)] 4 := ⟨GG_mem (i := 12) (j := 1) rfl rfl, GG_mem (i := 4) (j := 6) rfl rfl, GG_mem (i := 12) (j := 0) rfl rfl, by decide +kernel⟩
theorem cb_L_addPattern : zcl4 yL_addPattern cL_addPattern 6 (some .int) [(0, 12, 15, 13), (0, 12, 19, 46)] 5 := ⟨GG_mem (i := 12) (j := 16) rfl rfl, GG_mem (i := 4) (j := 6) rfl rfl, GG_mem (i := 12) (j := 15) rfl rfl, by decide +kernel⟩
theorem cb_L_daysTold : zcl4 yL_daysTold cL_daysTold 5 (some .int) [(0, 10, 13, 19), (0, 10, 17, 13)] 4 := ⟨GG_mem (i := 13) (j := 18) rfl rfl, GG_mem (i := 4) (j := 6) rfl rfl, GG_mem (i := 13) (j := 17) rfl rfl, by decide +kernel⟩
theorem cb_L_tells : zcl4 yL_tells cL_tells 5 (some .int) [(0, 17, 20, 19)] 4 := ⟨GG_mem (i := 15) (j := 9) rfl rfl, GG_mem (i := 4) (j := 6) rfl rfl, GG_mem (i := 15) (j := 8) rfl rfl, by decide +kernel⟩
theorem cb_L_nextTold : zcl4 yL_nextTold cL_nextTold 5 (some .int) [(0, 10, 13, 19)] 4 := ⟨GG_mem (i := 16) (j := 1) rfl rfl, GG_mem (i := 4) (j := 6) rfl rfl, GG_mem (i := 16) (j := 0) rfl rfl, by decide +kernel⟩
theorem cb_L_addPlace : zcl4 yL_addPlace cL_addPlace 4 (some .int) [(0, 9, 12, 13), (0, 9, 15, 46)] 3 := ⟨GG_mem (i := 16) (j := 21) rfl rfl, GG_mem (i := 4) (j := 6) rfl rfl, GG_mem (i := 16) (j := 20) rfl rfl, by decide +kernel⟩
theorem cb_L_addTurn : zcl4 yL_addTurn cL_addTurn 10 (some .int) [(0, 20, 23, 19), (0, 20, 27, 13), (0, 20, 31, 46)] 9 := ⟨GG_mem (i := 17) (j := 10) rfl rfl, GG_mem (i := 4) (j := 6) rfl rfl, GG_mem (i := 17) (j := 9) rfl rfl, by decide +kernel⟩
theorem cb_L_savingAt : zcl4 yL_savingAt cL_savingAt 5 (some .int) [(0, 10, 13, 19)] 4 := ⟨GG_mem (i := 20) (j := 19) rfl rfl, GG_mem (i := 4) (j := 6) rfl rfl, GG_mem (i := 20) (j := 18) rfl rfl, by decide +kernel⟩
theorem cb_L_localAt : zcl4 yL_localAt cL_localAt 5 (some .int) [(0, 10, 13, 19)] 4 := ⟨GG_mem (i := 25) (j := 8) rfl rfl, GG_mem (i := 4) (j := 6) rfl rfl, GG_mem (i := 25) (j := 7) rfl rfl, by decide +kernel⟩
theorem cb_L_nextChange : zcl4 yL_nextChange cL_nextChange 5 (some .int) [(0, 10, 13, 19)] 4 := ⟨GG_mem (i := 26) (j := 4) rfl rfl, GG_mem (i := 4) (j := 6) rfl rfl, GG_mem (i := 26) (j := 3) rfl rfl, by decide +kernel⟩
theorem cb_L_showsOften : zcl4 yL_showsOften cL_showsOften 5 (some .int) [(0, 10, 13, 19)] 4 := ⟨GG_mem (i := 26) (j := 23) rfl rfl, GG_mem (i := 4) (j := 6) rfl rfl, GG_mem (i := 26) (j := 22) rfl rfl, by decide +kernel⟩
theorem cb_L_momentOf : zcl4 yL_momentOf cL_momentOf 5 (some .int) [(0, 10, 13, 19)] 4 := ⟨GG_mem (i := 28) (j := 19) rfl rfl, GG_mem (i := 4) (j := 6) rfl rfl, GG_mem (i := 28) (j := 18) rfl rfl, by decide +kernel⟩
theorem cb_L_lastMomentOf : zcl4 yL_lastMomentOf cL_lastMomentOf 5 (some .int) [(0, 10, 13, 19)] 4 := ⟨GG_mem (i := 29) (j := 18) rfl rfl, GG_mem (i := 4) (j := 6) rfl rfl, GG_mem (i := 29) (j := 17) rfl rfl, by decide +kernel⟩
theorem cb_L_ahead : zcl4 yL_ahead cL_ahead 6 (some .int) [(0, 12, 15, 19)] 5 := ⟨GG_mem (i := 30) (j := 9) rfl rfl, GG_mem (i := 4) (j := 6) rfl rfl, GG_mem (i := 30) (j := 8) rfl rfl, by decide +kernel⟩
theorem cb_L_addSeries : zcl4 yL_addSeries cL_addSeries 8 (some .int) [(0, 16, 19, 19), (0, 16, 23, 13), (0, 16, 27, 46)] 7 := ⟨GG_mem (i := 30) (j := 20) rfl rfl, GG_mem (i := 4) (j := 6) rfl rfl, GG_mem (i := 30) (j := 19) rfl rfl, by decide +kernel⟩
theorem cb_L_usePattern : zcl4 yL_usePattern cL_usePattern 5 (some .int) [(0, 10, 13, 19), (0, 10, 17, 46)] 4 := ⟨GG_mem (i := 35) (j := 13) rfl rfl, GG_mem (i := 4) (j := 6) rfl rfl, GG_mem (i := 35) (j := 12) rfl rfl, by decide +kernel⟩
theorem cb_L_setChoice : zcl4 yL_setChoice cL_setChoice 5 (some .int) [(0, 10, 13, 19), (0, 10, 17, 13)] 4 := ⟨GG_mem (i := 36) (j := 14) rfl rfl, GG_mem (i := 4) (j := 6) rfl rfl, GG_mem (i := 36) (j := 13) rfl rfl, by decide +kernel⟩
theorem cb_L_setMost : zcl4 yL_setMost cL_setMost 5 (some .int) [(0, 10, 13, 19), (0, 10, 17, 13)] 4 := ⟨GG_mem (i := 37) (j := 6) rfl rfl, GG_mem (i := 4) (j := 6) rfl rfl, GG_mem (i := 37) (j := 5) rfl rfl, by decide +kernel⟩
theorem cb_L_setLast : zcl4 yL_setLast cL_setLast 5 (some .int) [(0, 10, 13, 19), (0, 10, 17, 13)] 4 := ⟨GG_mem (i := 37) (j := 18) rfl rfl, GG_mem (i := 4) (j := 6) rfl rfl, GG_mem (i := 37) (j := 17) rfl rfl, by decide +kernel⟩
theorem cb_L_except : zcl4 yL_except cL_except 5 (some .int) [(0, 10, 13, 19), (0, 10, 17, 46)] 4 := ⟨GG_mem (i := 38) (j := 8) rfl rfl, GG_mem (i := 4) (j := 6) rfl rfl, GG_mem (i := 38) (j := 7) rfl rfl, by decide +kernel⟩
theorem cb_L_dates : zcl4 yL_dates cL_dates 4 (some .int) [(0, 9, 12, 19)] 3 := ⟨GG_mem (i := 39) (j := 2) rfl rfl, GG_mem (i := 4) (j := 6) rfl rfl, GG_mem (i := 39) (j := 1) rfl rfl, by decide +kernel⟩
theorem cb_L_dateAt : zcl4 yL_dateAt cL_dateAt 5 (some .int) [(0, 10, 13, 19)] 4 := ⟨GG_mem (i := 40) (j := 10) rfl rfl, GG_mem (i := 4) (j := 6) rfl rfl, GG_mem (i := 40) (j := 9) rfl rfl, by decide +kernel⟩
theorem cb_L_dateFrom : zcl4 yL_dateFrom cL_dateFrom 5 (some .int) [(0, 10, 13, 19)] 4 := ⟨GG_mem (i := 41) (j := 8) rfl rfl, GG_mem (i := 4) (j := 6) rfl rfl, GG_mem (i := 41) (j := 7) rfl rfl, by decide +kernel⟩
theorem cb_L_dateMoment : zcl4 yL_dateMoment cL_dateMoment 5 (some .int) [(0, 10, 13, 19)] 4 := ⟨GG_mem (i := 42) (j := 0) rfl rfl, GG_mem (i := 4) (j := 6) rfl rfl, GG_mem (i := 41) (j := 23) rfl rfl, by decide +kernel⟩
theorem cb_L_common : zcl4 yL_common cL_common 5 (some .int) [(0, 10, 13, 19)] 4 := ⟨GG_mem (i := 42) (j := 20) rfl rfl, GG_mem (i := 4) (j := 6) rfl rfl, GG_mem (i := 42) (j := 19) rfl rfl, by decide +kernel⟩
theorem cb_L_widestGap : zcl4 yL_widestGap cL_widestGap 4 (some .int) [(0, 9, 12, 19)] 3 := ⟨GG_mem (i := 43) (j := 15) rfl rfl, GG_mem (i := 4) (j := 6) rfl rfl, GG_mem (i := 43) (j := 14) rfl rfl, by decide +kernel⟩
theorem cb_L_setWorkPlace : zcl4 yL_setWorkPlace cL_setWorkPlace 4 (some .int) [(0, 9, 12, 19)] 3 := ⟨GG_mem (i := 44) (j := 11) rfl rfl, GG_mem (i := 4) (j := 6) rfl rfl, GG_mem (i := 44) (j := 10) rfl rfl, by decide +kernel⟩
theorem cb_L_setWeek : zcl4 yL_setWeek cL_setWeek 4 (some .int) [(0, 9, 12, 13)] 3 := ⟨GG_mem (i := 45) (j := 0) rfl rfl, GG_mem (i := 4) (j := 6) rfl rfl, GG_mem (i := 44) (j := 23) rfl rfl, by decide +kernel⟩
theorem cb_L_setHours : zcl4 yL_setHours cL_setHours 5 (some .int) [(0, 10, 13, 13)] 4 := ⟨GG_mem (i := 45) (j := 13) rfl rfl, GG_mem (i := 4) (j := 6) rfl rfl, GG_mem (i := 45) (j := 12) rfl rfl, by decide +kernel⟩
theorem cb_L_addFeast : zcl4 yL_addFeast cL_addFeast 7 (some .int) [(0, 14, 17, 19), (0, 14, 21, 13), (0, 14, 25, 46)] 6 := ⟨GG_mem (i := 46) (j := 2) rfl rfl, GG_mem (i := 4) (j := 6) rfl rfl, GG_mem (i := 46) (j := 1) rfl rfl, by decide +kernel⟩
theorem cb_L_feastOn : zcl4 yL_feastOn cL_feastOn 4 (some .int) [(0, 9, 12, 19)] 3 := ⟨GG_mem (i := 47) (j := 3) rfl rfl, GG_mem (i := 4) (j := 6) rfl rfl, GG_mem (i := 47) (j := 2) rfl rfl, by decide +kernel⟩
theorem cb_L_isWorking : zcl4 yL_isWorking cL_isWorking 4 (some .int) [(0, 16, 19, 19)] 3 := ⟨GG_mem (i := 50) (j := 2) rfl rfl, GG_mem (i := 4) (j := 6) rfl rfl, GG_mem (i := 50) (j := 1) rfl rfl, by decide +kernel⟩
theorem cb_L_workingDays : zcl4 yL_workingDays cL_workingDays 5 (some .int) [(0, 10, 13, 19), (0, 10, 17, 13)] 4 := ⟨GG_mem (i := 50) (j := 22) rfl rfl, GG_mem (i := 4) (j := 6) rfl rfl, GG_mem (i := 50) (j := 21) rfl rfl, by decide +kernel⟩
theorem cb_L_plusWorking : zcl4 yL_plusWorking cL_plusWorking 5 (some .int) [(0, 10, 13, 19), (0, 10, 17, 13)] 4 := ⟨GG_mem (i := 51) (j := 20) rfl rfl, GG_mem (i := 4) (j := 6) rfl rfl, GG_mem (i := 51) (j := 19) rfl rfl, by decide +kernel⟩
theorem cb_L_isWorkingMinute : zcl4 yL_isWorkingMinute cL_isWorkingMinute 4 (some .int) [(0, 16, 19, 19)] 3 := ⟨GG_mem (i := 52) (j := 17) rfl rfl, GG_mem (i := 4) (j := 6) rfl rfl, GG_mem (i := 52) (j := 16) rfl rfl, by decide +kernel⟩
theorem cb_L_workWithin : zcl4 yL_workWithin cL_workWithin 5 (some .int) [(0, 10, 13, 19), (0, 10, 17, 13)] 4 := ⟨GG_mem (i := 54) (j := 7) rfl rfl, GG_mem (i := 4) (j := 6) rfl rfl, GG_mem (i := 54) (j := 6) rfl rfl, by decide +kernel⟩
theorem cb_L_doneAt : zcl4 yL_doneAt cL_doneAt 5 (some .int) [(0, 10, 13, 19), (0, 10, 17, 13)] 4 := ⟨GG_mem (i := 55) (j := 2) rfl rfl, GG_mem (i := 4) (j := 6) rfl rfl, GG_mem (i := 55) (j := 1) rfl rfl, by decide +kernel⟩
theorem cb_L_meanGap : zcl4 yL_meanGap cL_meanGap 4 (some .int) [(0, 8, 11, 19)] 3 := ⟨GG_mem (i := 55) (j := 22) rfl rfl, GG_mem (i := 4) (j := 6) rfl rfl, GG_mem (i := 55) (j := 21) rfl rfl, by decide +kernel⟩
set_option maxHeartbeats 4000000 in
set_option maxRecDepth 100000 in
theorem c_L_dayOf (l : Launch) (hl9 : l.stackTraces = false) (Γ : zG) (K : zK) (X : zX) (Rf : zR) (x : Nat) (year : Int) (month : Int) (day : Int) (out : Nat) (ρ : zL) (M : zM) (hC : repC ρ K X Rf x M) (hM : okM M) (h1 : fit year ∧ fit month ∧ fit day) (hko : K out = (4, 1)) (hlo : ρ out = 4000 ∨ ρ out = 4001) : Cl l yL_dayOf cL_dayOf 6 (some .int) [(0, 12, 15, 13)] 8 2 12 Γ [.ref x, .int (iI year), .int (iI month), .int (iI day), .ref out] K X Rf (pI (fun (r : Int) (K' : zK) (X' : zX) (R' : zR) => r = cdDate year month day ∧ (cdDate year month day = 0 → X' out 0 = (wI (vlDate year month day))) ∧ ∃ ρ', repC ρ' K' X' R' x M ∧ frO ρ K X Rf out ρ' K' X' R')) := by
  refine Cl.of (by decide +kernel) (Nat.le_of_ble_eq_true rfl) ?_
  intro p e s m below meth c ls hx hb hr hml hown hG h46 hlocks hname ht hX hw hl
  have hl : lv_has ls 6 [(0, .ref x), (1, .int (iI year)), (2, .int (iI month)), (3, .int (iI day)), (4, .ref out)] := hl
  have hCk := hC.1.1
  refine lv_aload (pc := 0) hx hb dL_dayOf_0 (lv_at hl 4 rfl) ?_
  refine ziconst (pc := 2) (n := 0) hx hb dL_dayOf_2 ?_
  refine lv_aload_n (pc := 3) hx hb dL_dayOf_3 rfl (lv_at hl 0 rfl) ?_
  refine lv_iload_n (pc := 4) hx hb dL_dayOf_4 rfl (lv_at hl 1 rfl) ?_
  refine lv_iload_n (pc := 5) hx hb dL_dayOf_5 rfl (lv_at hl 2 rfl) ?_
  refine lv_iload_n (pc := 6) hx hb dL_dayOf_6 rfl (lv_at hl 3 rfl) ?_
  refine zxkIp (pc := 7) (zxrV (As := [.int (iI year), .int (iI month), .int (iI day)]) hx hb hml hown hG hX hw (c_X8_dayOf l hl9 Γ K X Rf x year month day  (by (first | assumption | omega)) (by (first | assumption | omega))) (T := TX8) hCk rfl cb_X8_dayOf wl_L_7 rfl ⟨Nat.le_of_ble_eq_true rfl, Nat.le_of_ble_eq_true rfl⟩ hl.1 rfl (Nat.le_of_ble_eq_true rfl) dL_dayOf_7 ⟨(by show 0 + 2 ≤ 2; omega), (by show 0 + 12 ≤ 12; omega)⟩) hw (fun E9 ce9 q9 H locs hxp9 hw hce9 hcv9 hcl9 => ?_) (fun r7 H locs hp7 hw => ?_)
  · skip
    rcases hxp9 with ⟨rfl, hq9⟩
    · skip
      refine zht1 (pc := 7) ⟨0, 12, 15, 13⟩ hown hX ht rfl (by decide) (hG _ wn_L_13) zg_60 hce9 hcv9 hcl9 ?_
      refine lv_astore (pc := 15) (lv' := [(5, .ref q9), (0, .ref x), (1, .int (iI year)), (2, .int (iI month)), (3, .int (iI day)), (4, .ref out)]) hx hb dL_dayOf_15 hl (by decide) rfl (fun ls hl => ?_)
      refine ziconst (pc := 17) (n := 1) hx hb dL_dayOf_17 ?_
      exact zretI (pc := 18) hx hb hlocks hr hw (by show 0 + 2 ≤ 2; omega) (by show 0 + 12 ≤ 12; omega) dL_dayOf_18 (by exact ⟨hq9.symm, fun h => absurd (hq9.symm.trans h) (by decide), ρ, (by exact hC), frO_refl⟩)
  · skip
    obtain ⟨hv9, hc9⟩ := hp7
    refine zi2lw (pc := 10) hx hb dL_dayOf_10 ?_
    refine zlast (pc := 11) hx hb hw hko ⟨by omega, by omega⟩ (by omega) dL_dayOf_11 (fun H locs hw => ?_)
    obtain ⟨X11, eX11⟩ : ∃ Y : zX, Y = up2 X out 0 (wI r7) := ⟨_, rfl⟩
    replace hw := Wd.re hw rfl eX11 rfl
    refine lv_goto (pc := 12) (tgt := 19) hx hb dL_dayOf_12 (by decide) ?_
    refine ziconst (pc := 19) (n := 0) hx hb dL_dayOf_19 ?_
    exact zretI (pc := 20) hx hb hlocks hr hw (by show 0 + 2 ≤ 2; omega) (by show 0 + 12 ≤ 12; omega) dL_dayOf_20 (by have L9 := Lend hC frC_refl (Or.inl hko) hlo eX11; exact ⟨hc9.symm, fun _ => (L9.1.trans (congrArg wI hv9)), ρ, (by exact L9.2.1), L9.2.2⟩)
set_option maxHeartbeats 4000000 in
set_option maxRecDepth 100000 in
theorem c_L_yearOf (l : Launch) (hl9 : l.stackTraces = false) (Γ : zG) (K : zK) (X : zX) (Rf : zR) (x : Nat) (day : Int) (out : Nat) (ρ : zL) (M : zM) (hC : repC ρ K X Rf x M) (hM : okM M) (h1 : fit day) (hko : K out = (4, 1)) (hlo : ρ out = 4000 ∨ ρ out = 4001) : Cl l yL_yearOf cL_yearOf 4 (some .int) [(0, 9, 12, 19)] 8 1 6 Γ [.ref x, .int (iI day), .ref out] K X Rf (pI (fun (r : Int) (K' : zK) (X' : zX) (R' : zR) => r = cdDay day ∧ (cdDay day = 0 → X' out 0 = (wI (1900 + yr day))) ∧ ∃ ρ', repC ρ' K' X' R' x M ∧ frO ρ K X Rf out ρ' K' X' R')) := by
  refine Cl.of (by decide +kernel) (Nat.le_of_ble_eq_true rfl) ?_
  intro p e s m below meth c ls hx hb hr hml hown hG h46 hlocks hname ht hX hw hl
  have hl : lv_has ls 4 [(0, .ref x), (1, .int (iI day)), (2, .ref out)] := hl
  have hCk := hC.1.1
  refine lv_aload_n (pc := 0) hx hb dL_yearOf_0 rfl (lv_at hl 2 rfl) ?_
  refine ziconst (pc := 1) (n := 0) hx hb dL_yearOf_1 ?_
  refine lv_aload_n (pc := 2) hx hb dL_yearOf_2 rfl (lv_at hl 0 rfl) ?_
  refine lv_iload_n (pc := 3) hx hb dL_yearOf_3 rfl (lv_at hl 1 rfl) ?_
  refine zxkIp (pc := 4) (zxrV (As := [.int (iI day)]) hx hb hml hown hG hX hw (c_X8_yearOf l hl9 Γ K X Rf x day  (by (first | assumption | omega)) (by (first | assumption | omega))) (T := TX8) hCk rfl cb_X8_yearOf wl_L_15 rfl ⟨Nat.le_of_ble_eq_true rfl, Nat.le_of_ble_eq_true rfl⟩ hl.1 rfl (Nat.le_of_ble_eq_true rfl) dL_yearOf_4 ⟨(by show 0 + 1 ≤ 1; omega), (by show 0 + 6 ≤ 6; omega)⟩) hw (fun E9 ce9 q9 H locs hxp9 hw hce9 hcv9 hcl9 => ?_) (fun r4 H locs hp4 hw => ?_)
  · skip
    rcases hxp9 with ⟨rfl, hq9⟩
    · skip
      refine zht1 (pc := 4) ⟨0, 9, 12, 19⟩ hown hX ht rfl (by decide) (hG _ wn_L_19) zg_391 hce9 hcv9 hcl9 ?_
      refine lv_astore_n (pc := 12) (lv' := [(3, .ref q9), (0, .ref x), (1, .int (iI day)), (2, .ref out)]) hx hb dL_yearOf_12 rfl hl (by decide) rfl (fun ls hl => ?_)
      refine ziconst (pc := 13) (n := 1) hx hb dL_yearOf_13 ?_
      exact zretI (pc := 14) hx hb hlocks hr hw (by show 0 + 1 ≤ 1; omega) (by show 0 + 6 ≤ 6; omega) dL_yearOf_14 (by exact ⟨hq9.symm, fun h => absurd (hq9.symm.trans h) (by decide), ρ, (by exact hC), frO_refl⟩)
  · skip
    obtain ⟨hv9, hc9⟩ := hp4
    refine zi2lw (pc := 7) hx hb dL_yearOf_7 ?_
    refine zlast (pc := 8) hx hb hw hko ⟨by omega, by omega⟩ (by omega) dL_yearOf_8 (fun H locs hw => ?_)
    obtain ⟨X8, eX8⟩ : ∃ Y : zX, Y = up2 X out 0 (wI r4) := ⟨_, rfl⟩
    replace hw := Wd.re hw rfl eX8 rfl
    refine lv_goto (pc := 9) (tgt := 15) hx hb dL_yearOf_9 (by decide) ?_
    refine ziconst (pc := 15) (n := 0) hx hb dL_yearOf_15 ?_
    exact zretI (pc := 16) hx hb hlocks hr hw (by show 0 + 1 ≤ 1; omega) (by show 0 + 6 ≤ 6; omega) dL_yearOf_16 (by have L9 := Lend hC frC_refl (Or.inl hko) hlo eX8; exact ⟨hc9.symm, fun _ => (L9.1.trans (congrArg wI hv9)), ρ, (by exact L9.2.1), L9.2.2⟩)
set_option maxHeartbeats 4000000 in
set_option maxRecDepth 100000 in
theorem c_L_monthOf (l : Launch) (hl9 : l.stackTraces = false) (Γ : zG) (K : zK) (X : zX) (Rf : zR) (x : Nat) (day : Int) (out : Nat) (ρ : zL) (M : zM) (hC : repC ρ K X Rf x M) (hM : okM M) (h1 : fit day) (hko : K out = (4, 1)) (hlo : ρ out = 4000 ∨ ρ out = 4001) : Cl l yL_monthOf cL_monthOf 4 (some .int) [(0, 9, 12, 19)] 8 1 6 Γ [.ref x, .int (iI day), .ref out] K X Rf (pI (fun (r : Int) (K' : zK) (X' : zX) (R' : zR) => r = cdDay day ∧ (cdDay day = 0 → X' out 0 = (wI (mi day % 12 + 1))) ∧ ∃ ρ', repC ρ' K' X' R' x M ∧ frO ρ K X Rf out ρ' K' X' R')) := by
  refine Cl.of (by decide +kernel) (Nat.le_of_ble_eq_true rfl) ?_
  intro p e s m below meth c ls hx hb hr hml hown hG h46 hlocks hname ht hX hw hl
  have hl : lv_has ls 4 [(0, .ref x), (1, .int (iI day)), (2, .ref out)] := hl
  have hCk := hC.1.1
  refine lv_aload_n (pc := 0) hx hb dL_monthOf_0 rfl (lv_at hl 2 rfl) ?_
  refine ziconst (pc := 1) (n := 0) hx hb dL_monthOf_1 ?_
  refine lv_aload_n (pc := 2) hx hb dL_monthOf_2 rfl (lv_at hl 0 rfl) ?_
  refine lv_iload_n (pc := 3) hx hb dL_monthOf_3 rfl (lv_at hl 1 rfl) ?_
  refine zxkIp (pc := 4) (zxrV (As := [.int (iI day)]) hx hb hml hown hG hX hw (c_X8_monthOf l hl9 Γ K X Rf x day  (by (first | assumption | omega)) (by (first | assumption | omega))) (T := TX8) hCk rfl cb_X8_monthOf wl_L_21 rfl ⟨Nat.le_of_ble_eq_true rfl, Nat.le_of_ble_eq_true rfl⟩ hl.1 rfl (Nat.le_of_ble_eq_true rfl) dL_monthOf_4 ⟨(by show 0 + 1 ≤ 1; omega), (by show 0 + 6 ≤ 6; omega)⟩) hw (fun E9 ce9 q9 H locs hxp9 hw hce9 hcv9 hcl9 => ?_) (fun r4 H locs hp4 hw => ?_)
  · skip
    rcases hxp9 with ⟨rfl, hq9⟩
    · skip
      refine zht1 (pc := 4) ⟨0, 9, 12, 19⟩ hown hX ht rfl (by decide) (hG _ wn_L_19) zg_391 hce9 hcv9 hcl9 ?_
      refine lv_astore_n (pc := 12) (lv' := [(3, .ref q9), (0, .ref x), (1, .int (iI day)), (2, .ref out)]) hx hb dL_monthOf_12 rfl hl (by decide) rfl (fun ls hl => ?_)
      refine ziconst (pc := 13) (n := 1) hx hb dL_monthOf_13 ?_
      exact zretI (pc := 14) hx hb hlocks hr hw (by show 0 + 1 ≤ 1; omega) (by show 0 + 6 ≤ 6; omega) dL_monthOf_14 (by exact ⟨hq9.symm, fun h => absurd (hq9.symm.trans h) (by decide), ρ, (by exact hC), frO_refl⟩)
  · skip
    obtain ⟨hv9, hc9⟩ := hp4
    refine zi2lw (pc := 7) hx hb dL_monthOf_7 ?_
    refine zlast (pc := 8) hx hb hw hko ⟨by omega, by omega⟩ (by omega) dL_monthOf_8 (fun H locs hw => ?_)
    obtain ⟨X8, eX8⟩ : ∃ Y : zX, Y = up2 X out 0 (wI r4) := ⟨_, rfl⟩
    replace hw := Wd.re hw rfl eX8 rfl
    refine lv_goto (pc := 9) (tgt := 15) hx hb dL_monthOf_9 (by decide) ?_
    refine ziconst (pc := 15) (n := 0) hx hb dL_monthOf_15 ?_
    exact zretI (pc := 16) hx hb hlocks hr hw (by show 0 + 1 ≤ 1; omega) (by show 0 + 6 ≤ 6; omega) dL_monthOf_16 (by have L9 := Lend hC frC_refl (Or.inl hko) hlo eX8; exact ⟨hc9.symm, fun _ => (L9.1.trans (congrArg wI hv9)), ρ, (by exact L9.2.1), L9.2.2⟩)
set_option maxHeartbeats 4000000 in
set_option maxRecDepth 100000 in
theorem c_L_dayOfMonth (l : Launch) (hl9 : l.stackTraces = false) (Γ : zG) (K : zK) (X : zX) (Rf : zR) (x : Nat) (day : Int) (out : Nat) (ρ : zL) (M : zM) (hC : repC ρ K X Rf x M) (hM : okM M) (h1 : fit day) (hko : K out = (4, 1)) (hlo : ρ out = 4000 ∨ ρ out = 4001) : Cl l yL_dayOfMonth cL_dayOfMonth 4 (some .int) [(0, 9, 12, 19)] 8 1 6 Γ [.ref x, .int (iI day), .ref out] K X Rf (pI (fun (r : Int) (K' : zK) (X' : zX) (R' : zR) => r = cdDay day ∧ (cdDay day = 0 → X' out 0 = (wI (day - mB (mi day) + 1))) ∧ ∃ ρ', repC ρ' K' X' R' x M ∧ frO ρ K X Rf out ρ' K' X' R')) := by
  refine Cl.of (by decide +kernel) (Nat.le_of_ble_eq_true rfl) ?_
  intro p e s m below meth c ls hx hb hr hml hown hG h46 hlocks hname ht hX hw hl
  have hl : lv_has ls 4 [(0, .ref x), (1, .int (iI day)), (2, .ref out)] := hl
  have hCk := hC.1.1
  refine lv_aload_n (pc := 0) hx hb dL_dayOfMonth_0 rfl (lv_at hl 2 rfl) ?_
  refine ziconst (pc := 1) (n := 0) hx hb dL_dayOfMonth_1 ?_
  refine lv_aload_n (pc := 2) hx hb dL_dayOfMonth_2 rfl (lv_at hl 0 rfl) ?_
  refine lv_iload_n (pc := 3) hx hb dL_dayOfMonth_3 rfl (lv_at hl 1 rfl) ?_
  refine zxkIp (pc := 4) (zxrV (As := [.int (iI day)]) hx hb hml hown hG hX hw (c_X8_dayOfMonth l hl9 Γ K X Rf x day  (by (first | assumption | omega)) (by (first | assumption | omega))) (T := TX8) hCk rfl cb_X8_dayOfMonth wl_L_24 rfl ⟨Nat.le_of_ble_eq_true rfl, Nat.le_of_ble_eq_true rfl⟩ hl.1 rfl (Nat.le_of_ble_eq_true rfl) dL_dayOfMonth_4 ⟨(by show 0 + 1 ≤ 1; omega), (by show 0 + 6 ≤ 6; omega)⟩) hw (fun E9 ce9 q9 H locs hxp9 hw hce9 hcv9 hcl9 => ?_) (fun r4 H locs hp4 hw => ?_)
  · skip
    rcases hxp9 with ⟨rfl, hq9⟩
    · skip
      refine zht1 (pc := 4) ⟨0, 9, 12, 19⟩ hown hX ht rfl (by decide) (hG _ wn_L_19) zg_391 hce9 hcv9 hcl9 ?_
      refine lv_astore_n (pc := 12) (lv' := [(3, .ref q9), (0, .ref x), (1, .int (iI day)), (2, .ref out)]) hx hb dL_dayOfMonth_12 rfl hl (by decide) rfl (fun ls hl => ?_)
      refine ziconst (pc := 13) (n := 1) hx hb dL_dayOfMonth_13 ?_
      exact zretI (pc := 14) hx hb hlocks hr hw (by show 0 + 1 ≤ 1; omega) (by show 0 + 6 ≤ 6; omega) dL_dayOfMonth_14 (by exact ⟨hq9.symm, fun h => absurd (hq9.symm.trans h) (by decide), ρ, (by exact hC), frO_refl⟩)
  · skip
    obtain ⟨hv9, hc9⟩ := hp4
    refine zi2lw (pc := 7) hx hb dL_dayOfMonth_7 ?_
    refine zlast (pc := 8) hx hb hw hko ⟨by omega, by omega⟩ (by omega) dL_dayOfMonth_8 (fun H locs hw => ?_)
    obtain ⟨X8, eX8⟩ : ∃ Y : zX, Y = up2 X out 0 (wI r4) := ⟨_, rfl⟩
    replace hw := Wd.re hw rfl eX8 rfl
    refine lv_goto (pc := 9) (tgt := 15) hx hb dL_dayOfMonth_9 (by decide) ?_
    refine ziconst (pc := 15) (n := 0) hx hb dL_dayOfMonth_15 ?_
    exact zretI (pc := 16) hx hb hlocks hr hw (by show 0 + 1 ≤ 1; omega) (by show 0 + 6 ≤ 6; omega) dL_dayOfMonth_16 (by have L9 := Lend hC frC_refl (Or.inl hko) hlo eX8; exact ⟨hc9.symm, fun _ => (L9.1.trans (congrArg wI hv9)), ρ, (by exact L9.2.1), L9.2.2⟩)
set_option maxHeartbeats 4000000 in
set_option maxRecDepth 100000 in
theorem c_L_weekdayOf (l : Launch) (hl9 : l.stackTraces = false) (Γ : zG) (K : zK) (X : zX) (Rf : zR) (x : Nat) (day : Int) (out : Nat) (ρ : zL) (M : zM) (hC : repC ρ K X Rf x M) (hM : okM M) (h1 : fit day) (hko : K out = (4, 1)) (hlo : ρ out = 4000 ∨ ρ out = 4001) : Cl l yL_weekdayOf cL_weekdayOf 4 (some .int) [(0, 9, 12, 19)] 8 1 6 Γ [.ref x, .int (iI day), .ref out] K X Rf (pI (fun (r : Int) (K' : zK) (X' : zX) (R' : zR) => r = cdDay day ∧ (cdDay day = 0 → X' out 0 = (wI (day % 7))) ∧ ∃ ρ', repC ρ' K' X' R' x M ∧ frO ρ K X Rf out ρ' K' X' R')) := by
  refine Cl.of (by decide +kernel) (Nat.le_of_ble_eq_true rfl) ?_
  intro p e s m below meth c ls hx hb hr hml hown hG h46 hlocks hname ht hX hw hl
  have hl : lv_has ls 4 [(0, .ref x), (1, .int (iI day)), (2, .ref out)] := hl
  have hCk := hC.1.1
  refine lv_aload_n (pc := 0) hx hb dL_weekdayOf_0 rfl (lv_at hl 2 rfl) ?_
  refine ziconst (pc := 1) (n := 0) hx hb dL_weekdayOf_1 ?_
  refine lv_aload_n (pc := 2) hx hb dL_weekdayOf_2 rfl (lv_at hl 0 rfl) ?_
  refine lv_iload_n (pc := 3) hx hb dL_weekdayOf_3 rfl (lv_at hl 1 rfl) ?_
  refine zxkIp (pc := 4) (zxrV (As := [.int (iI day)]) hx hb hml hown hG hX hw (c_X8_weekdayOf l hl9 Γ K X Rf x day  (by (first | assumption | omega)) (by (first | assumption | omega))) (T := TX8) hCk rfl cb_X8_weekdayOf wl_L_27 rfl ⟨Nat.le_of_ble_eq_true rfl, Nat.le_of_ble_eq_true rfl⟩ hl.1 rfl (Nat.le_of_ble_eq_true rfl) dL_weekdayOf_4 ⟨(by show 0 + 1 ≤ 1; omega), (by show 0 + 6 ≤ 6; omega)⟩) hw (fun E9 ce9 q9 H locs hxp9 hw hce9 hcv9 hcl9 => ?_) (fun r4 H locs hp4 hw => ?_)
  · skip
    rcases hxp9 with ⟨rfl, hq9⟩
    · skip
      refine zht1 (pc := 4) ⟨0, 9, 12, 19⟩ hown hX ht rfl (by decide) (hG _ wn_L_19) zg_391 hce9 hcv9 hcl9 ?_
      refine lv_astore_n (pc := 12) (lv' := [(3, .ref q9), (0, .ref x), (1, .int (iI day)), (2, .ref out)]) hx hb dL_weekdayOf_12 rfl hl (by decide) rfl (fun ls hl => ?_)
      refine ziconst (pc := 13) (n := 1) hx hb dL_weekdayOf_13 ?_
      exact zretI (pc := 14) hx hb hlocks hr hw (by show 0 + 1 ≤ 1; omega) (by show 0 + 6 ≤ 6; omega) dL_weekdayOf_14 (by exact ⟨hq9.symm, fun h => absurd (hq9.symm.trans h) (by decide), ρ, (by exact hC), frO_refl⟩)
  · skip
    obtain ⟨hv9, hc9⟩ := hp4
    refine zi2lw (pc := 7) hx hb dL_weekdayOf_7 ?_
    refine zlast (pc := 8) hx hb hw hko ⟨by omega, by omega⟩ (by omega) dL_weekdayOf_8 (fun H locs hw => ?_)
    obtain ⟨X8, eX8⟩ : ∃ Y : zX, Y = up2 X out 0 (wI r4) := ⟨_, rfl⟩
    replace hw := Wd.re hw rfl eX8 rfl
    refine lv_goto (pc := 9) (tgt := 15) hx hb dL_weekdayOf_9 (by decide) ?_
    refine ziconst (pc := 15) (n := 0) hx hb dL_weekdayOf_15 ?_
    exact zretI (pc := 16) hx hb hlocks hr hw (by show 0 + 1 ≤ 1; omega) (by show 0 + 6 ≤ 6; omega) dL_weekdayOf_16 (by have L9 := Lend hC frC_refl (Or.inl hko) hlo eX8; exact ⟨hc9.symm, fun _ => (L9.1.trans (congrArg wI hv9)), ρ, (by exact L9.2.1), L9.2.2⟩)
set_option maxHeartbeats 4000000 in
set_option maxRecDepth 100000 in
theorem c_L_weekOf (l : Launch) (hl9 : l.stackTraces = false) (Γ : zG) (K : zK) (X : zX) (Rf : zR) (x : Nat) (day : Int) (out : Nat) (ρ : zL) (M : zM) (hC : repC ρ K X Rf x M) (hM : okM M) (h1 : fit day) (hko : K out = (4, 1)) (hlo : ρ out = 4000 ∨ ρ out = 4001) : Cl l yL_weekOf cL_weekOf 4 (some .int) [(0, 9, 12, 19)] 8 1 6 Γ [.ref x, .int (iI day), .ref out] K X Rf (pI (fun (r : Int) (K' : zK) (X' : zX) (R' : zR) => r = cdDay day ∧ (cdDay day = 0 → X' out 0 = (wI (vlWeek day))) ∧ ∃ ρ', repC ρ' K' X' R' x M ∧ frO ρ K X Rf out ρ' K' X' R')) := by
  refine Cl.of (by decide +kernel) (Nat.le_of_ble_eq_true rfl) ?_
  intro p e s m below meth c ls hx hb hr hml hown hG h46 hlocks hname ht hX hw hl
  have hl : lv_has ls 4 [(0, .ref x), (1, .int (iI day)), (2, .ref out)] := hl
  have hCk := hC.1.1
  refine lv_aload_n (pc := 0) hx hb dL_weekOf_0 rfl (lv_at hl 2 rfl) ?_
  refine ziconst (pc := 1) (n := 0) hx hb dL_weekOf_1 ?_
  refine lv_aload_n (pc := 2) hx hb dL_weekOf_2 rfl (lv_at hl 0 rfl) ?_
  refine lv_iload_n (pc := 3) hx hb dL_weekOf_3 rfl (lv_at hl 1 rfl) ?_
  refine zxkIp (pc := 4) (zxrV (As := [.int (iI day)]) hx hb hml hown hG hX hw (c_X8_weekOf l hl9 Γ K X Rf x day  (by (first | assumption | omega)) (by (first | assumption | omega))) (T := TX8) hCk rfl cb_X8_weekOf wl_L_30 rfl ⟨Nat.le_of_ble_eq_true rfl, Nat.le_of_ble_eq_true rfl⟩ hl.1 rfl (Nat.le_of_ble_eq_true rfl) dL_weekOf_4 ⟨(by show 0 + 1 ≤ 1; omega), (by show 0 + 6 ≤ 6; omega)⟩) hw (fun E9 ce9 q9 H locs hxp9 hw hce9 hcv9 hcl9 => ?_) (fun r4 H locs hp4 hw => ?_)
  · skip
    rcases hxp9 with ⟨rfl, hq9⟩
    · skip
      refine zht1 (pc := 4) ⟨0, 9, 12, 19⟩ hown hX ht rfl (by decide) (hG _ wn_L_19) zg_391 hce9 hcv9 hcl9 ?_
      refine lv_astore_n (pc := 12) (lv' := [(3, .ref q9), (0, .ref x), (1, .int (iI day)), (2, .ref out)]) hx hb dL_weekOf_12 rfl hl (by decide) rfl (fun ls hl => ?_)
      refine ziconst (pc := 13) (n := 1) hx hb dL_weekOf_13 ?_
      exact zretI (pc := 14) hx hb hlocks hr hw (by show 0 + 1 ≤ 1; omega) (by show 0 + 6 ≤ 6; omega) dL_weekOf_14 (by exact ⟨hq9.symm, fun h => absurd (hq9.symm.trans h) (by decide), ρ, (by exact hC), frO_refl⟩)
  · skip
    obtain ⟨hv9, hc9⟩ := hp4
    refine zi2lw (pc := 7) hx hb dL_weekOf_7 ?_
    refine zlast (pc := 8) hx hb hw hko ⟨by omega, by omega⟩ (by omega) dL_weekOf_8 (fun H locs hw => ?_)
    obtain ⟨X8, eX8⟩ : ∃ Y : zX, Y = up2 X out 0 (wI r4) := ⟨_, rfl⟩
    replace hw := Wd.re hw rfl eX8 rfl
    refine lv_goto (pc := 9) (tgt := 15) hx hb dL_weekOf_9 (by decide) ?_
    refine ziconst (pc := 15) (n := 0) hx hb dL_weekOf_15 ?_
    exact zretI (pc := 16) hx hb hlocks hr hw (by show 0 + 1 ≤ 1; omega) (by show 0 + 6 ≤ 6; omega) dL_weekOf_16 (by have L9 := Lend hC frC_refl (Or.inl hko) hlo eX8; exact ⟨hc9.symm, fun _ => (L9.1.trans (congrArg wI hv9)), ρ, (by exact L9.2.1), L9.2.2⟩)
set_option maxHeartbeats 4000000 in
set_option maxRecDepth 100000 in
theorem c_L_yearOfWeek (l : Launch) (hl9 : l.stackTraces = false) (Γ : zG) (K : zK) (X : zX) (Rf : zR) (x : Nat) (day : Int) (out : Nat) (ρ : zL) (M : zM) (hC : repC ρ K X Rf x M) (hM : okM M) (h1 : fit day) (hko : K out = (4, 1)) (hlo : ρ out = 4000 ∨ ρ out = 4001) : Cl l yL_yearOfWeek cL_yearOfWeek 4 (some .int) [(0, 9, 12, 19)] 8 1 6 Γ [.ref x, .int (iI day), .ref out] K X Rf (pI (fun (r : Int) (K' : zK) (X' : zX) (R' : zR) => r = cdDay day ∧ (cdDay day = 0 → X' out 0 = (wI (1900 + yr (day - day % 7 + 3)))) ∧ ∃ ρ', repC ρ' K' X' R' x M ∧ frO ρ K X Rf out ρ' K' X' R')) := by
  refine Cl.of (by decide +kernel) (Nat.le_of_ble_eq_true rfl) ?_
  intro p e s m below meth c ls hx hb hr hml hown hG h46 hlocks hname ht hX hw hl
  have hl : lv_has ls 4 [(0, .ref x), (1, .int (iI day)), (2, .ref out)] := hl
  have hCk := hC.1.1
  refine lv_aload_n (pc := 0) hx hb dL_yearOfWeek_0 rfl (lv_at hl 2 rfl) ?_
  refine ziconst (pc := 1) (n := 0) hx hb dL_yearOfWeek_1 ?_
  refine lv_aload_n (pc := 2) hx hb dL_yearOfWeek_2 rfl (lv_at hl 0 rfl) ?_
  refine lv_iload_n (pc := 3) hx hb dL_yearOfWeek_3 rfl (lv_at hl 1 rfl) ?_
  refine zxkIp (pc := 4) (zxrV (As := [.int (iI day)]) hx hb hml hown hG hX hw (c_X8_yearOfWeek l hl9 Γ K X Rf x day  (by (first | assumption | omega)) (by (first | assumption | omega))) (T := TX8) hCk rfl cb_X8_yearOfWeek wl_L_33 rfl ⟨Nat.le_of_ble_eq_true rfl, Nat.le_of_ble_eq_true rfl⟩ hl.1 rfl (Nat.le_of_ble_eq_true rfl) dL_yearOfWeek_4 ⟨(by show 0 + 1 ≤ 1; omega), (by show 0 + 6 ≤ 6; omega)⟩) hw (fun E9 ce9 q9 H locs hxp9 hw hce9 hcv9 hcl9 => ?_) (fun r4 H locs hp4 hw => ?_)
  · skip
    rcases hxp9 with ⟨rfl, hq9⟩
    · skip
      refine zht1 (pc := 4) ⟨0, 9, 12, 19⟩ hown hX ht rfl (by decide) (hG _ wn_L_19) zg_391 hce9 hcv9 hcl9 ?_
      refine lv_astore_n (pc := 12) (lv' := [(3, .ref q9), (0, .ref x), (1, .int (iI day)), (2, .ref out)]) hx hb dL_yearOfWeek_12 rfl hl (by decide) rfl (fun ls hl => ?_)
      refine ziconst (pc := 13) (n := 1) hx hb dL_yearOfWeek_13 ?_
      exact zretI (pc := 14) hx hb hlocks hr hw (by show 0 + 1 ≤ 1; omega) (by show 0 + 6 ≤ 6; omega) dL_yearOfWeek_14 (by exact ⟨hq9.symm, fun h => absurd (hq9.symm.trans h) (by decide), ρ, (by exact hC), frO_refl⟩)
  · skip
    obtain ⟨hv9, hc9⟩ := hp4
    refine zi2lw (pc := 7) hx hb dL_yearOfWeek_7 ?_
    refine zlast (pc := 8) hx hb hw hko ⟨by omega, by omega⟩ (by omega) dL_yearOfWeek_8 (fun H locs hw => ?_)
    obtain ⟨X8, eX8⟩ : ∃ Y : zX, Y = up2 X out 0 (wI r4) := ⟨_, rfl⟩
    replace hw := Wd.re hw rfl eX8 rfl
    refine lv_goto (pc := 9) (tgt := 15) hx hb dL_yearOfWeek_9 (by decide) ?_
    refine ziconst (pc := 15) (n := 0) hx hb dL_yearOfWeek_15 ?_
    exact zretI (pc := 16) hx hb hlocks hr hw (by show 0 + 1 ≤ 1; omega) (by show 0 + 6 ≤ 6; omega) dL_yearOfWeek_16 (by have L9 := Lend hC frC_refl (Or.inl hko) hlo eX8; exact ⟨hc9.symm, fun _ => (L9.1.trans (congrArg wI hv9)), ρ, (by exact L9.2.1), L9.2.2⟩)
set_option maxHeartbeats 4000000 in
set_option maxRecDepth 100000 in
theorem c_L_easterOf (l : Launch) (hl9 : l.stackTraces = false) (Γ : zG) (K : zK) (X : zX) (Rf : zR) (x : Nat) (year : Int) (out : Nat) (ρ : zL) (M : zM) (hC : repC ρ K X Rf x M) (hM : okM M) (h1 : fit year) (hko : K out = (4, 1)) (hlo : ρ out = 4000 ∨ ρ out = 4001) : Cl l yL_easterOf cL_easterOf 4 (some .int) [(0, 9, 12, 13)] 8 1 6 Γ [.ref x, .int (iI year), .ref out] K X Rf (pI (fun (r : Int) (K' : zK) (X' : zX) (R' : zR) => r = cdYear year ∧ (cdYear year = 0 → X' out 0 = (wI (est year))) ∧ ∃ ρ', repC ρ' K' X' R' x M ∧ frO ρ K X Rf out ρ' K' X' R')) := by
  refine Cl.of (by decide +kernel) (Nat.le_of_ble_eq_true rfl) ?_
  intro p e s m below meth c ls hx hb hr hml hown hG h46 hlocks hname ht hX hw hl
  have hl : lv_has ls 4 [(0, .ref x), (1, .int (iI year)), (2, .ref out)] := hl
  have hCk := hC.1.1
  refine lv_aload_n (pc := 0) hx hb dL_easterOf_0 rfl (lv_at hl 2 rfl) ?_
  refine ziconst (pc := 1) (n := 0) hx hb dL_easterOf_1 ?_
  refine lv_aload_n (pc := 2) hx hb dL_easterOf_2 rfl (lv_at hl 0 rfl) ?_
  refine lv_iload_n (pc := 3) hx hb dL_easterOf_3 rfl (lv_at hl 1 rfl) ?_
  refine zxkIp (pc := 4) (zxrV (As := [.int (iI year)]) hx hb hml hown hG hX hw (c_X8_easterOf l hl9 Γ K X Rf x year  (by (first | assumption | omega)) (by (first | assumption | omega))) (T := TX8) hCk rfl cb_X8_easterOf wl_L_36 rfl ⟨Nat.le_of_ble_eq_true rfl, Nat.le_of_ble_eq_true rfl⟩ hl.1 rfl (Nat.le_of_ble_eq_true rfl) dL_easterOf_4 ⟨(by show 0 + 1 ≤ 1; omega), (by show 0 + 6 ≤ 6; omega)⟩) hw (fun E9 ce9 q9 H locs hxp9 hw hce9 hcv9 hcl9 => ?_) (fun r4 H locs hp4 hw => ?_)
  · skip
    rcases hxp9 with ⟨rfl, hq9⟩
    · skip
      refine zht1 (pc := 4) ⟨0, 9, 12, 13⟩ hown hX ht rfl (by decide) (hG _ wn_L_13) zg_60 hce9 hcv9 hcl9 ?_
      refine lv_astore_n (pc := 12) (lv' := [(3, .ref q9), (0, .ref x), (1, .int (iI year)), (2, .ref out)]) hx hb dL_easterOf_12 rfl hl (by decide) rfl (fun ls hl => ?_)
      refine ziconst (pc := 13) (n := 1) hx hb dL_easterOf_13 ?_
      exact zretI (pc := 14) hx hb hlocks hr hw (by show 0 + 1 ≤ 1; omega) (by show 0 + 6 ≤ 6; omega) dL_easterOf_14 (by exact ⟨hq9.symm, fun h => absurd (hq9.symm.trans h) (by decide), ρ, (by exact hC), frO_refl⟩)
  · skip
    obtain ⟨hv9, hc9⟩ := hp4
    refine zi2lw (pc := 7) hx hb dL_easterOf_7 ?_
    refine zlast (pc := 8) hx hb hw hko ⟨by omega, by omega⟩ (by omega) dL_easterOf_8 (fun H locs hw => ?_)
    obtain ⟨X8, eX8⟩ : ∃ Y : zX, Y = up2 X out 0 (wI r4) := ⟨_, rfl⟩
    replace hw := Wd.re hw rfl eX8 rfl
    refine lv_goto (pc := 9) (tgt := 15) hx hb dL_easterOf_9 (by decide) ?_
    refine ziconst (pc := 15) (n := 0) hx hb dL_easterOf_15 ?_
    exact zretI (pc := 16) hx hb hlocks hr hw (by show 0 + 1 ≤ 1; omega) (by show 0 + 6 ≤ 6; omega) dL_easterOf_16 (by have L9 := Lend hC frC_refl (Or.inl hko) hlo eX8; exact ⟨hc9.symm, fun _ => (L9.1.trans (congrArg wI hv9)), ρ, (by exact L9.2.1), L9.2.2⟩)
set_option maxHeartbeats 4000000 in
set_option maxRecDepth 100000 in
theorem c_L_plusMonths (l : Launch) (hl9 : l.stackTraces = false) (Γ : zG) (K : zK) (X : zX) (Rf : zR) (x : Nat) (day : Int) (n9 : Int) (out : Nat) (ρ : zL) (M : zM) (hC : repC ρ K X Rf x M) (hM : okM M) (h1 : fit day) (h2 : fit n9) (hko : K out = (4, 1)) (hlo : ρ out = 4000 ∨ ρ out = 4001) : Cl l yL_plusMonths cL_plusMonths 5 (some .int) [(0, 10, 13, 19), (0, 10, 17, 13)] 8 2 12 Γ [.ref x, .int (iI day), .int (iI n9), .ref out] K X Rf (pI (fun (r : Int) (K' : zK) (X' : zX) (R' : zR) => r = cdPlus day n9 ∧ (cdPlus day n9 = 0 → X' out 0 = (wI (vlPlus day n9))) ∧ ∃ ρ', repC ρ' K' X' R' x M ∧ frO ρ K X Rf out ρ' K' X' R')) := by
  refine Cl.of (by decide +kernel) (Nat.le_of_ble_eq_true rfl) ?_
  intro p e s m below meth c ls hx hb hr hml hown hG h46 hlocks hname ht hX hw hl
  have hl : lv_has ls 5 [(0, .ref x), (1, .int (iI day)), (2, .int (iI n9)), (3, .ref out)] := hl
  have hCk := hC.1.1
  refine lv_aload_n (pc := 0) hx hb dL_plusMonths_0 rfl (lv_at hl 3 rfl) ?_
  refine ziconst (pc := 1) (n := 0) hx hb dL_plusMonths_1 ?_
  refine lv_aload_n (pc := 2) hx hb dL_plusMonths_2 rfl (lv_at hl 0 rfl) ?_
  refine lv_iload_n (pc := 3) hx hb dL_plusMonths_3 rfl (lv_at hl 1 rfl) ?_
  refine lv_iload_n (pc := 4) hx hb dL_plusMonths_4 rfl (lv_at hl 2 rfl) ?_
  refine zxkIp (pc := 5) (zxrV (As := [.int (iI day), .int (iI n9)]) hx hb hml hown hG hX hw (c_X8_plusMonths l hl9 Γ K X Rf x day n9  (by (first | assumption | omega)) (by (first | assumption | omega)) (by (first | assumption | omega))) (T := TX8) hCk rfl cb_X8_plusMonths wl_L_39 rfl ⟨Nat.le_of_ble_eq_true rfl, Nat.le_of_ble_eq_true rfl⟩ hl.1 rfl (Nat.le_of_ble_eq_true rfl) dL_plusMonths_5 ⟨(by show 0 + 2 ≤ 2; omega), (by show 0 + 12 ≤ 12; omega)⟩) hw (fun E9 ce9 q9 H locs hxp9 hw hce9 hcv9 hcl9 => ?_) (fun r5 H locs hp5 hw => ?_)
  · skip
    rcases hxp9 with ⟨rfl, hq9⟩ | ⟨rfl, hq9⟩
    · skip
      refine zht1 (pc := 5) ⟨0, 10, 13, 19⟩ hown hX ht rfl (by decide) (hG _ wn_L_19) zg_391 hce9 hcv9 hcl9 ?_
      refine lv_astore (pc := 13) (lv' := [(4, .ref q9), (0, .ref x), (1, .int (iI day)), (2, .int (iI n9)), (3, .ref out)]) hx hb dL_plusMonths_13 hl (by decide) rfl (fun ls hl => ?_)
      refine ziconst (pc := 15) (n := 1) hx hb dL_plusMonths_15 ?_
      exact zretI (pc := 16) hx hb hlocks hr hw (by show 0 + 2 ≤ 2; omega) (by show 0 + 12 ≤ 12; omega) dL_plusMonths_16 (by exact ⟨hq9.symm, fun h => absurd (hq9.symm.trans h) (by decide), ρ, (by exact hC), frO_refl⟩)
    · skip
      refine zht2 (pc := 5) ⟨0, 10, 13, 19⟩ ⟨0, 10, 17, 13⟩ hown hX ht rfl (by decide) (hG _ wn_L_13) zg_60 (by decide) (hG _ wn_L_19) znc1 hce9 hcv9 hcl9 ?_
      refine lv_astore (pc := 17) (lv' := [(4, .ref q9), (0, .ref x), (1, .int (iI day)), (2, .int (iI n9)), (3, .ref out)]) hx hb dL_plusMonths_17 hl (by decide) rfl (fun ls hl => ?_)
      refine ziconst (pc := 19) (n := 2) hx hb dL_plusMonths_19 ?_
      exact zretI (pc := 20) hx hb hlocks hr hw (by show 0 + 2 ≤ 2; omega) (by show 0 + 12 ≤ 12; omega) dL_plusMonths_20 (by exact ⟨hq9.symm, fun h => absurd (hq9.symm.trans h) (by decide), ρ, (by exact hC), frO_refl⟩)
  · skip
    obtain ⟨hv9, hc9⟩ := hp5
    refine zi2lw (pc := 8) hx hb dL_plusMonths_8 ?_
    refine zlast (pc := 9) hx hb hw hko ⟨by omega, by omega⟩ (by omega) dL_plusMonths_9 (fun H locs hw => ?_)
    obtain ⟨X9, eX9⟩ : ∃ Y : zX, Y = up2 X out 0 (wI r5) := ⟨_, rfl⟩
    replace hw := Wd.re hw rfl eX9 rfl
    refine lv_goto (pc := 10) (tgt := 21) hx hb dL_plusMonths_10 (by decide) ?_
    refine ziconst (pc := 21) (n := 0) hx hb dL_plusMonths_21 ?_
    exact zretI (pc := 22) hx hb hlocks hr hw (by show 0 + 2 ≤ 2; omega) (by show 0 + 12 ≤ 12; omega) dL_plusMonths_22 (by have L9 := Lend hC frC_refl (Or.inl hko) hlo eX9; exact ⟨hc9.symm, fun _ => (L9.1.trans (congrArg wI hv9)), ρ, (by exact L9.2.1), L9.2.2⟩)
set_option maxHeartbeats 4000000 in
set_option maxRecDepth 100000 in
theorem c_L_addPattern (l : Launch) (hl9 : l.stackTraces = false) (Γ : zG) (K : zK) (X : zX) (Rf : zR) (x : Nat) (mo : Int) (ki : Int) (nu : Int) (out : Nat) (ρ : zL) (M : zM) (hC : repC ρ K X Rf x M) (hM : okM M) (h1 : fit mo ∧ fit ki ∧ fit nu) (hko : K out = (4, 1)) (hlo : ρ out = 4000 ∨ ρ out = 4001) : Cl l yL_addPattern cL_addPattern 6 (some .int) [(0, 12, 15, 13), (0, 12, 19, 46)] 7 2 9 Γ [.ref x, .int (iI mo), .int (iI ki), .int (iI nu), .ref out] K X Rf (pI (fun (r : Int) (K' : zK) (X' : zX) (R' : zR) => r = cdAdp M mo ki nu ∧ (cdAdp M mo ki nu = 0 → X' out 0 = (wI (M 40 1))) ∧ ∃ ρ', repC ρ' K' X' R' x (if cdAdp M mo ki nu = 0 then (padM M (M 40 1).toNat mo ki nu) else M) ∧ frO ρ K X Rf out ρ' K' X' R')) := by
  refine Cl.of (by decide +kernel) (Nat.le_of_ble_eq_true rfl) ?_
  intro p e s m below meth c ls hx hb hr hml hown hG h46 hlocks hname ht hX hw hl
  have hl : lv_has ls 6 [(0, .ref x), (1, .int (iI mo)), (2, .int (iI ki)), (3, .int (iI nu)), (4, .ref out)] := hl
  have hCk := hC.1.1
  refine lv_aload (pc := 0) hx hb dL_addPattern_0 (lv_at hl 4 rfl) ?_
  refine ziconst (pc := 2) (n := 0) hx hb dL_addPattern_2 ?_
  refine lv_aload_n (pc := 3) hx hb dL_addPattern_3 rfl (lv_at hl 0 rfl) ?_
  refine lv_iload_n (pc := 4) hx hb dL_addPattern_4 rfl (lv_at hl 1 rfl) ?_
  refine lv_iload_n (pc := 5) hx hb dL_addPattern_5 rfl (lv_at hl 2 rfl) ?_
  refine lv_iload_n (pc := 6) hx hb dL_addPattern_6 rfl (lv_at hl 3 rfl) ?_
  refine zxkI (pc := 7) (zxrV (As := [.int (iI mo), .int (iI ki), .int (iI nu)]) hx hb hml hown hG hX hw (c_X8_addPattern l hl9 Γ K X Rf x mo ki nu (ρ) M (by (first | assumption | omega)) (by (first | assumption | omega)) (by (first | assumption | omega))) (T := TX8) hCk rfl cb_X8_addPattern wl_L_43 rfl ⟨Nat.le_of_ble_eq_true rfl, Nat.le_of_ble_eq_true rfl⟩ hl.1 rfl (Nat.le_of_ble_eq_true rfl) dL_addPattern_7 ⟨(by show 0 + 2 ≤ 2; omega), (by show 0 + 9 ≤ 9; omega)⟩) hw (fun E9 ce9 q9 H locs hxp9 hw hce9 hcv9 hcl9 => ?_) (fun r7 K7 X7 R7 H locs hp7 hw => ?_)
  · skip
    rcases hxp9 with ⟨rfl, hq9⟩ | ⟨rfl, hq9⟩
    · skip
      refine zht1 (pc := 7) ⟨0, 12, 15, 13⟩ hown hX ht rfl (by decide) (hG _ wn_L_13) zg_60 hce9 hcv9 hcl9 ?_
      refine lv_astore (pc := 15) (lv' := [(5, .ref q9), (0, .ref x), (1, .int (iI mo)), (2, .int (iI ki)), (3, .int (iI nu)), (4, .ref out)]) hx hb dL_addPattern_15 hl (by decide) rfl (fun ls hl => ?_)
      refine ziconst (pc := 17) (n := 1) hx hb dL_addPattern_17 ?_
      exact zretI (pc := 18) hx hb hlocks hr hw (by show 0 + 2 ≤ 2; omega) (by show 0 + 9 ≤ 9; omega) dL_addPattern_18 (by exact ⟨hq9.symm, fun h => absurd (hq9.symm.trans h) (by decide), ρ, (by rw [if_neg (by rw [hq9]; decide)]; exact hC), frO_refl⟩)
    · skip
      refine zht2 (pc := 7) ⟨0, 12, 15, 13⟩ ⟨0, 12, 19, 46⟩ hown hX ht rfl (by decide) h46 zg_121 (by decide) (hG _ wn_L_13) znc3 hce9 hcv9 hcl9 ?_
      refine lv_astore (pc := 19) (lv' := [(5, .ref q9), (0, .ref x), (1, .int (iI mo)), (2, .int (iI ki)), (3, .int (iI nu)), (4, .ref out)]) hx hb dL_addPattern_19 hl (by decide) rfl (fun ls hl => ?_)
      refine ziconst (pc := 21) (n := 2) hx hb dL_addPattern_21 ?_
      exact zretI (pc := 22) hx hb hlocks hr hw (by show 0 + 2 ≤ 2; omega) (by show 0 + 9 ≤ 9; omega) dL_addPattern_22 (by exact ⟨hq9.symm, fun h => absurd (hq9.symm.trans h) (by decide), ρ, (by rw [if_neg (by rw [hq9]; decide)]; exact hC), frO_refl⟩)
  · skip
    obtain ⟨⟨hv9, hc9⟩, ρ1, hC1, hf1⟩ := hp7
    obtain ⟨hko1, hlo1, -⟩ := hf1 out (by rw [hko]; exact Nat.succ_ne_zero _)
    rw [hko] at hko1
    refine zi2lw (pc := 10) hx hb dL_addPattern_10 ?_
    refine zlast (pc := 11) hx hb hw hko1 ⟨by omega, by omega⟩ (by omega) dL_addPattern_11 (fun H locs hw => ?_)
    obtain ⟨X11, eX11⟩ : ∃ Y : zX, Y = up2 X7 out 0 (wI r7) := ⟨_, rfl⟩
    replace hw := Wd.re hw rfl eX11 rfl
    refine lv_goto (pc := 12) (tgt := 23) hx hb dL_addPattern_12 (by decide) ?_
    refine ziconst (pc := 23) (n := 0) hx hb dL_addPattern_23 ?_
    exact zretI (pc := 24) hx hb hlocks hr hw (by show 0 + 2 ≤ 2; omega) (by show 0 + 9 ≤ 9; omega) dL_addPattern_24 (by have L9 := Lend hC1 hf1 (Or.inl hko) hlo eX11; exact ⟨hc9.symm, fun _ => (L9.1.trans (congrArg wI hv9)), ρ1, (by rw [if_pos hc9]; exact L9.2.1), L9.2.2⟩)
set_option maxHeartbeats 4000000 in
set_option maxRecDepth 100000 in
theorem c_L_daysTold (l : Launch) (hl9 : l.stackTraces = false) (Γ : zG) (K : zK) (X : zX) (Rf : zR) (x : Nat) (a : Int) (year : Int) (out : Nat) (ρ : zL) (M : zM) (hC : repC ρ K X Rf x M) (hM : okM M) (h1 : fit a ∧ fit year) (hko : K out = (4, 1)) (hlo : ρ out = 4000 ∨ ρ out = 4001) : Cl l yL_daysTold cL_daysTold 5 (some .int) [(0, 10, 13, 19), (0, 10, 17, 13)] 8 2 12 Γ [.ref x, .int (iI a), .int (iI year), .ref out] K X Rf (pI (fun (r : Int) (K' : zK) (X' : zX) (R' : zR) => r = cdPatY M a year ∧ (cdPatY M a year = 0 → X' out 0 = (wI (cntT (patM M a.toNat) (12 * (year - 1900)) 12))) ∧ ∃ ρ', repC ρ' K' X' R' x M ∧ frO ρ K X Rf out ρ' K' X' R')) := by
  refine Cl.of (by decide +kernel) (Nat.le_of_ble_eq_true rfl) ?_
  intro p e s m below meth c ls hx hb hr hml hown hG h46 hlocks hname ht hX hw hl
  have hl : lv_has ls 5 [(0, .ref x), (1, .int (iI a)), (2, .int (iI year)), (3, .ref out)] := hl
  have hCk := hC.1.1
  refine lv_aload_n (pc := 0) hx hb dL_daysTold_0 rfl (lv_at hl 3 rfl) ?_
  refine ziconst (pc := 1) (n := 0) hx hb dL_daysTold_1 ?_
  refine lv_aload_n (pc := 2) hx hb dL_daysTold_2 rfl (lv_at hl 0 rfl) ?_
  refine lv_iload_n (pc := 3) hx hb dL_daysTold_3 rfl (lv_at hl 1 rfl) ?_
  refine lv_iload_n (pc := 4) hx hb dL_daysTold_4 rfl (lv_at hl 2 rfl) ?_
  refine zxkIp (pc := 5) (zxrV (As := [.int (iI a), .int (iI year)]) hx hb hml hown hG hX hw (c_X8_daysTold l hl9 Γ K X Rf x a year (ρ) M (by (first | assumption | omega)) (by (first | assumption | omega)) (by (first | assumption | omega))) (T := TX8) hCk rfl cb_X8_daysTold wl_L_48 rfl ⟨Nat.le_of_ble_eq_true rfl, Nat.le_of_ble_eq_true rfl⟩ hl.1 rfl (Nat.le_of_ble_eq_true rfl) dL_daysTold_5 ⟨(by show 0 + 2 ≤ 2; omega), (by show 0 + 12 ≤ 12; omega)⟩) hw (fun E9 ce9 q9 H locs hxp9 hw hce9 hcv9 hcl9 => ?_) (fun r5 H locs hp5 hw => ?_)
  · skip
    rcases hxp9 with ⟨rfl, hq9⟩ | ⟨rfl, hq9⟩
    · skip
      refine zht1 (pc := 5) ⟨0, 10, 13, 19⟩ hown hX ht rfl (by decide) (hG _ wn_L_19) zg_391 hce9 hcv9 hcl9 ?_
      refine lv_astore (pc := 13) (lv' := [(4, .ref q9), (0, .ref x), (1, .int (iI a)), (2, .int (iI year)), (3, .ref out)]) hx hb dL_daysTold_13 hl (by decide) rfl (fun ls hl => ?_)
      refine ziconst (pc := 15) (n := 1) hx hb dL_daysTold_15 ?_
      exact zretI (pc := 16) hx hb hlocks hr hw (by show 0 + 2 ≤ 2; omega) (by show 0 + 12 ≤ 12; omega) dL_daysTold_16 (by exact ⟨hq9.symm, fun h => absurd (hq9.symm.trans h) (by decide), ρ, (by exact hC), frO_refl⟩)
    · skip
      refine zht2 (pc := 5) ⟨0, 10, 13, 19⟩ ⟨0, 10, 17, 13⟩ hown hX ht rfl (by decide) (hG _ wn_L_13) zg_60 (by decide) (hG _ wn_L_19) znc1 hce9 hcv9 hcl9 ?_
      refine lv_astore (pc := 17) (lv' := [(4, .ref q9), (0, .ref x), (1, .int (iI a)), (2, .int (iI year)), (3, .ref out)]) hx hb dL_daysTold_17 hl (by decide) rfl (fun ls hl => ?_)
      refine ziconst (pc := 19) (n := 2) hx hb dL_daysTold_19 ?_
      exact zretI (pc := 20) hx hb hlocks hr hw (by show 0 + 2 ≤ 2; omega) (by show 0 + 12 ≤ 12; omega) dL_daysTold_20 (by exact ⟨hq9.symm, fun h => absurd (hq9.symm.trans h) (by decide), ρ, (by exact hC), frO_refl⟩)
  · skip
    obtain ⟨hv9, hc9⟩ := hp5
    refine zi2lw (pc := 8) hx hb dL_daysTold_8 ?_
    refine zlast (pc := 9) hx hb hw hko ⟨by omega, by omega⟩ (by omega) dL_daysTold_9 (fun H locs hw => ?_)
    obtain ⟨X9, eX9⟩ : ∃ Y : zX, Y = up2 X out 0 (wI r5) := ⟨_, rfl⟩
    replace hw := Wd.re hw rfl eX9 rfl
    refine lv_goto (pc := 10) (tgt := 21) hx hb dL_daysTold_10 (by decide) ?_
    refine ziconst (pc := 21) (n := 0) hx hb dL_daysTold_21 ?_
    exact zretI (pc := 22) hx hb hlocks hr hw (by show 0 + 2 ≤ 2; omega) (by show 0 + 12 ≤ 12; omega) dL_daysTold_22 (by have L9 := Lend hC frC_refl (Or.inl hko) hlo eX9; exact ⟨hc9.symm, fun _ => (L9.1.trans (congrArg wI hv9)), ρ, (by exact L9.2.1), L9.2.2⟩)
set_option maxHeartbeats 4000000 in
set_option maxRecDepth 100000 in
theorem c_L_tells (l : Launch) (hl9 : l.stackTraces = false) (Γ : zG) (K : zK) (X : zX) (Rf : zR) (x : Nat) (a : Int) (day : Int) (out : Nat) (ρ : zL) (M : zM) (hC : repC ρ K X Rf x M) (hM : okM M) (h1 : fit a ∧ fit day) (hko : K out = (4, 1)) (hlo : ρ out = 4000 ∨ ρ out = 4001) : Cl l yL_tells cL_tells 5 (some .int) [(0, 17, 20, 19)] 8 2 12 Γ [.ref x, .int (iI a), .int (iI day), .ref out] K X Rf (pI (fun (r : Int) (K' : zK) (X' : zX) (R' : zR) => r = cdPatD M a day ∧ (cdPatD M a day = 0 → X' out 0 = (if told (patM M a.toNat) (mi day) = day then 1 else 0)) ∧ ∃ ρ', repC ρ' K' X' R' x M ∧ frO ρ K X Rf out ρ' K' X' R')) := by
  refine Cl.of (by decide +kernel) (Nat.le_of_ble_eq_true rfl) ?_
  intro p e s m below meth c ls hx hb hr hml hown hG h46 hlocks hname ht hX hw hl
  have hl : lv_has ls 5 [(0, .ref x), (1, .int (iI a)), (2, .int (iI day)), (3, .ref out)] := hl
  have hCk := hC.1.1
  refine lv_aload_n (pc := 0) hx hb dL_tells_0 rfl (lv_at hl 3 rfl) ?_
  refine ziconst (pc := 1) (n := 0) hx hb dL_tells_1 ?_
  refine lv_aload_n (pc := 2) hx hb dL_tells_2 rfl (lv_at hl 0 rfl) ?_
  refine lv_iload_n (pc := 3) hx hb dL_tells_3 rfl (lv_at hl 1 rfl) ?_
  refine lv_iload_n (pc := 4) hx hb dL_tells_4 rfl (lv_at hl 2 rfl) ?_
  refine zxkIp (pc := 5) (zxrV (As := [.int (iI a), .int (iI day)]) hx hb hml hown hG hX hw (c_X8_tells l hl9 Γ K X Rf x a day (ρ) M (by (first | assumption | omega)) (by (first | assumption | omega)) (by (first | assumption | omega))) (T := TX8) hCk rfl cb_X8_tells wl_L_51 rfl ⟨Nat.le_of_ble_eq_true rfl, Nat.le_of_ble_eq_true rfl⟩ hl.1 rfl (Nat.le_of_ble_eq_true rfl) dL_tells_5 ⟨(by show 0 + 2 ≤ 2; omega), (by show 0 + 12 ≤ 12; omega)⟩) hw (fun E9 ce9 q9 H locs hxp9 hw hce9 hcv9 hcl9 => ?_) (fun r5 H locs hp5 hw => ?_)
  · skip
    rcases hxp9 with ⟨rfl, hq9⟩
    · skip
      refine zht1 (pc := 5) ⟨0, 17, 20, 19⟩ hown hX ht rfl (by decide) (hG _ wn_L_19) zg_391 hce9 hcv9 hcl9 ?_
      refine lv_astore (pc := 20) (lv' := [(4, .ref q9), (0, .ref x), (1, .int (iI a)), (2, .int (iI day)), (3, .ref out)]) hx hb dL_tells_20 hl (by decide) rfl (fun ls hl => ?_)
      refine ziconst (pc := 22) (n := 1) hx hb dL_tells_22 ?_
      exact zretI (pc := 23) hx hb hlocks hr hw (by show 0 + 2 ≤ 2; omega) (by show 0 + 12 ≤ 12; omega) dL_tells_23 (by exact ⟨hq9.symm, fun h => absurd (hq9.symm.trans h) (by decide), ρ, (by exact hC), frO_refl⟩)
  · skip
    obtain ⟨hv9, hc9⟩ := hp5
    have hr9 : r5 = 0 ∨ r5 = 1 := by rw [hv9]; (try unfold bI); split <;> first | exact Or.inr rfl | exact Or.inl rfl
    refine zif_eq (pc := 8) hx hb 15 (by omega) dL_tells_8 (by decide) (fun c8 => ?_) (fun c8 => ?_)
    · skip
      refine zlconst (pc := 15) (z := 0) hx hb rfl dL_tells_15 ?_
      refine zlast (pc := 16) hx hb hw hko ⟨by omega, by omega⟩ (by omega) dL_tells_16 (fun H locs hw => ?_)
      obtain ⟨X16, eX16⟩ : ∃ Y : zX, Y = up2 X out 0 0 := ⟨_, rfl⟩
      replace hw := Wd.re hw rfl eX16 rfl
      refine lv_goto (pc := 17) (tgt := 24) hx hb dL_tells_17 (by decide) ?_
      refine ziconst (pc := 24) (n := 0) hx hb dL_tells_24 ?_
      exact zretI (pc := 25) hx hb hlocks hr hw (by show 0 + 2 ≤ 2; omega) (by show 0 + 12 ≤ 12; omega) dL_tells_25 (by have L9 := Lend hC frC_refl (Or.inl hko) hlo eX16; exact ⟨hc9.symm, fun _ => (L9.1.trans (by rw [← hv9]; omega)), ρ, (by exact L9.2.1), L9.2.2⟩)
    · skip
      refine zlconst (pc := 11) (z := 1) hx hb rfl dL_tells_11 ?_
      refine lv_goto (pc := 12) (tgt := 16) hx hb dL_tells_12 (by decide) ?_
      refine zlast (pc := 16) hx hb hw hko ⟨by omega, by omega⟩ (by omega) dL_tells_16 (fun H locs hw => ?_)
      obtain ⟨X16, eX16⟩ : ∃ Y : zX, Y = up2 X out 0 1 := ⟨_, rfl⟩
      replace hw := Wd.re hw rfl eX16 rfl
      refine lv_goto (pc := 17) (tgt := 24) hx hb dL_tells_17 (by decide) ?_
      refine ziconst (pc := 24) (n := 0) hx hb dL_tells_24 ?_
      exact zretI (pc := 25) hx hb hlocks hr hw (by show 0 + 2 ≤ 2; omega) (by show 0 + 12 ≤ 12; omega) dL_tells_25 (by have L9 := Lend hC frC_refl (Or.inl hko) hlo eX16; exact ⟨hc9.symm, fun _ => (L9.1.trans (by rw [← hv9]; omega)), ρ, (by exact L9.2.1), L9.2.2⟩)
set_option maxHeartbeats 4000000 in
set_option maxRecDepth 100000 in
theorem c_L_nextTold (l : Launch) (hl9 : l.stackTraces = false) (Γ : zG) (K : zK) (X : zX) (Rf : zR) (x : Nat) (a : Int) (day : Int) (out : Nat) (ρ : zL) (M : zM) (hC : repC ρ K X Rf x M) (hM : okM M) (h1 : fit a ∧ fit day) (hko : K out = (4, 1)) (hlo : ρ out = 4000 ∨ ρ out = 4001) : Cl l yL_nextTold cL_nextTold 5 (some .int) [(0, 10, 13, 19)] 8 2 12 Γ [.ref x, .int (iI a), .int (iI day), .ref out] K X Rf (pI (fun (r : Int) (K' : zK) (X' : zX) (R' : zR) => r = cdPatD M a day ∧ (cdPatD M a day = 0 → X' out 0 = (wI (nextT (patM M a.toNat) day))) ∧ ∃ ρ', repC ρ' K' X' R' x M ∧ frO ρ K X Rf out ρ' K' X' R')) := by
  refine Cl.of (by decide +kernel) (Nat.le_of_ble_eq_true rfl) ?_
  intro p e s m below meth c ls hx hb hr hml hown hG h46 hlocks hname ht hX hw hl
  have hl : lv_has ls 5 [(0, .ref x), (1, .int (iI a)), (2, .int (iI day)), (3, .ref out)] := hl
  have hCk := hC.1.1
  refine lv_aload_n (pc := 0) hx hb dL_nextTold_0 rfl (lv_at hl 3 rfl) ?_
  refine ziconst (pc := 1) (n := 0) hx hb dL_nextTold_1 ?_
  refine lv_aload_n (pc := 2) hx hb dL_nextTold_2 rfl (lv_at hl 0 rfl) ?_
  refine lv_iload_n (pc := 3) hx hb dL_nextTold_3 rfl (lv_at hl 1 rfl) ?_
  refine lv_iload_n (pc := 4) hx hb dL_nextTold_4 rfl (lv_at hl 2 rfl) ?_
  refine zxkIp (pc := 5) (zxrV (As := [.int (iI a), .int (iI day)]) hx hb hml hown hG hX hw (c_X8_nextTold l hl9 Γ K X Rf x a day (ρ) M (by (first | assumption | omega)) (by (first | assumption | omega)) (by (first | assumption | omega))) (T := TX8) hCk rfl cb_X8_nextTold wl_L_55 rfl ⟨Nat.le_of_ble_eq_true rfl, Nat.le_of_ble_eq_true rfl⟩ hl.1 rfl (Nat.le_of_ble_eq_true rfl) dL_nextTold_5 ⟨(by show 0 + 2 ≤ 2; omega), (by show 0 + 12 ≤ 12; omega)⟩) hw (fun E9 ce9 q9 H locs hxp9 hw hce9 hcv9 hcl9 => ?_) (fun r5 H locs hp5 hw => ?_)
  · skip
    rcases hxp9 with ⟨rfl, hq9⟩
    · skip
      refine zht1 (pc := 5) ⟨0, 10, 13, 19⟩ hown hX ht rfl (by decide) (hG _ wn_L_19) zg_391 hce9 hcv9 hcl9 ?_
      refine lv_astore (pc := 13) (lv' := [(4, .ref q9), (0, .ref x), (1, .int (iI a)), (2, .int (iI day)), (3, .ref out)]) hx hb dL_nextTold_13 hl (by decide) rfl (fun ls hl => ?_)
      refine ziconst (pc := 15) (n := 1) hx hb dL_nextTold_15 ?_
      exact zretI (pc := 16) hx hb hlocks hr hw (by show 0 + 2 ≤ 2; omega) (by show 0 + 12 ≤ 12; omega) dL_nextTold_16 (by exact ⟨hq9.symm, fun h => absurd (hq9.symm.trans h) (by decide), ρ, (by exact hC), frO_refl⟩)
  · skip
    obtain ⟨hv9, hc9⟩ := hp5
    refine zi2lw (pc := 8) hx hb dL_nextTold_8 ?_
    refine zlast (pc := 9) hx hb hw hko ⟨by omega, by omega⟩ (by omega) dL_nextTold_9 (fun H locs hw => ?_)
    obtain ⟨X9, eX9⟩ : ∃ Y : zX, Y = up2 X out 0 (wI r5) := ⟨_, rfl⟩
    replace hw := Wd.re hw rfl eX9 rfl
    refine lv_goto (pc := 10) (tgt := 17) hx hb dL_nextTold_10 (by decide) ?_
    refine ziconst (pc := 17) (n := 0) hx hb dL_nextTold_17 ?_
    exact zretI (pc := 18) hx hb hlocks hr hw (by show 0 + 2 ≤ 2; omega) (by show 0 + 12 ≤ 12; omega) dL_nextTold_18 (by have L9 := Lend hC frC_refl (Or.inl hko) hlo eX9; exact ⟨hc9.symm, fun _ => (L9.1.trans (congrArg wI hv9)), ρ, (by exact L9.2.1), L9.2.2⟩)
set_option maxHeartbeats 4000000 in
set_option maxRecDepth 100000 in
theorem c_L_addPlace (l : Launch) (hl9 : l.stackTraces = false) (Γ : zG) (K : zK) (X : zX) (Rf : zR) (x : Nat) (bs : Int) (out : Nat) (ρ : zL) (M : zM) (hC : repC ρ K X Rf x M) (hM : okM M) (h1 : fit bs) (hko : K out = (4, 1)) (hlo : ρ out = 4000 ∨ ρ out = 4001) : Cl l yL_addPlace cL_addPlace 4 (some .int) [(0, 9, 12, 13), (0, 9, 15, 46)] 7 6 2430 Γ [.ref x, .int (iI bs), .ref out] K X Rf (pI (fun (r : Int) (K' : zK) (X' : zX) (R' : zR) => r = cdApl M bs ∧ (cdApl M bs = 0 → X' out 0 = (wI (M 40 5))) ∧ ∃ ρ', repC ρ' K' X' R' x (if cdApl M bs = 0 then (plM M (M 40 5).toNat bs) else M) ∧ frO ρ K X Rf out ρ' K' X' R')) := by
  refine Cl.of (by decide +kernel) (Nat.le_of_ble_eq_true rfl) ?_
  intro p e s m below meth c ls hx hb hr hml hown hG h46 hlocks hname ht hX hw hl
  have hl : lv_has ls 4 [(0, .ref x), (1, .int (iI bs)), (2, .ref out)] := hl
  have hCk := hC.1.1
  refine lv_aload_n (pc := 0) hx hb dL_addPlace_0 rfl (lv_at hl 2 rfl) ?_
  refine ziconst (pc := 1) (n := 0) hx hb dL_addPlace_1 ?_
  refine lv_aload_n (pc := 2) hx hb dL_addPlace_2 rfl (lv_at hl 0 rfl) ?_
  refine lv_iload_n (pc := 3) hx hb dL_addPlace_3 rfl (lv_at hl 1 rfl) ?_
  refine zxkI (pc := 4) (zxrV (As := [.int (iI bs)]) hx hb hml hown hG hX hw (c_X8_addPlace l hl9 Γ K X Rf x bs (ρ) M (by (first | assumption | omega)) (by (first | assumption | omega)) (by (first | assumption | omega))) (T := TX8) hCk rfl cb_X8_addPlace wl_L_58 rfl ⟨Nat.le_of_ble_eq_true rfl, Nat.le_of_ble_eq_true rfl⟩ hl.1 rfl (Nat.le_of_ble_eq_true rfl) dL_addPlace_4 ⟨(by show 0 + 6 ≤ 6; omega), (by show 0 + 2430 ≤ 2430; omega)⟩) hw (fun E9 ce9 q9 H locs hxp9 hw hce9 hcv9 hcl9 => ?_) (fun r4 K4 X4 R4 H locs hp4 hw => ?_)
  · skip
    rcases hxp9 with ⟨rfl, hq9⟩ | ⟨rfl, hq9⟩
    · skip
      refine zht1 (pc := 4) ⟨0, 9, 12, 13⟩ hown hX ht rfl (by decide) (hG _ wn_L_13) zg_60 hce9 hcv9 hcl9 ?_
      refine lv_astore_n (pc := 12) (lv' := [(3, .ref q9), (0, .ref x), (1, .int (iI bs)), (2, .ref out)]) hx hb dL_addPlace_12 rfl hl (by decide) rfl (fun ls hl => ?_)
      refine ziconst (pc := 13) (n := 1) hx hb dL_addPlace_13 ?_
      exact zretI (pc := 14) hx hb hlocks hr hw (by show 0 + 6 ≤ 6; omega) (by show 0 + 2430 ≤ 2430; omega) dL_addPlace_14 (by exact ⟨hq9.symm, fun h => absurd (hq9.symm.trans h) (by decide), ρ, (by rw [if_neg (by rw [hq9]; decide)]; exact hC), frO_refl⟩)
    · skip
      refine zht2 (pc := 4) ⟨0, 9, 12, 13⟩ ⟨0, 9, 15, 46⟩ hown hX ht rfl (by decide) h46 zg_121 (by decide) (hG _ wn_L_13) znc3 hce9 hcv9 hcl9 ?_
      refine lv_astore_n (pc := 15) (lv' := [(3, .ref q9), (0, .ref x), (1, .int (iI bs)), (2, .ref out)]) hx hb dL_addPlace_15 rfl hl (by decide) rfl (fun ls hl => ?_)
      refine ziconst (pc := 16) (n := 2) hx hb dL_addPlace_16 ?_
      exact zretI (pc := 17) hx hb hlocks hr hw (by show 0 + 6 ≤ 6; omega) (by show 0 + 2430 ≤ 2430; omega) dL_addPlace_17 (by exact ⟨hq9.symm, fun h => absurd (hq9.symm.trans h) (by decide), ρ, (by rw [if_neg (by rw [hq9]; decide)]; exact hC), frO_refl⟩)
  · skip
    obtain ⟨⟨hv9, hc9⟩, ρ1, hC1, hf1⟩ := hp4
    obtain ⟨hko1, hlo1, -⟩ := hf1 out (by rw [hko]; exact Nat.succ_ne_zero _)
    rw [hko] at hko1
    refine zi2lw (pc := 7) hx hb dL_addPlace_7 ?_
    refine zlast (pc := 8) hx hb hw hko1 ⟨by omega, by omega⟩ (by omega) dL_addPlace_8 (fun H locs hw => ?_)
    obtain ⟨X8, eX8⟩ : ∃ Y : zX, Y = up2 X4 out 0 (wI r4) := ⟨_, rfl⟩
    replace hw := Wd.re hw rfl eX8 rfl
    refine lv_goto (pc := 9) (tgt := 18) hx hb dL_addPlace_9 (by decide) ?_
    refine ziconst (pc := 18) (n := 0) hx hb dL_addPlace_18 ?_
    exact zretI (pc := 19) hx hb hlocks hr hw (by show 0 + 6 ≤ 6; omega) (by show 0 + 2430 ≤ 2430; omega) dL_addPlace_19 (by have L9 := Lend hC1 hf1 (Or.inl hko) hlo eX8; exact ⟨hc9.symm, fun _ => (L9.1.trans (congrArg wI hv9)), ρ1, (by rw [if_pos hc9]; exact L9.2.1), L9.2.2⟩)
set_option maxHeartbeats 4000000 in
set_option maxRecDepth 100000 in
theorem c_L_addTurn (l : Launch) (hl9 : l.stackTraces = false) (Γ : zG) (K : zK) (X : zX) (Rf : zR) (x : Nat) (a : Int) (fy : Int) (ly : Int) (b9 : Int) (mn : Int) (cl : Int) (sv : Int) (out : Nat) (ρ : zL) (M : zM) (hC : repC ρ K X Rf x M) (hM : okM M) (h1 : fit a ∧ fit fy ∧ fit ly ∧ fit b9) (h2 : fit mn ∧ fit cl ∧ fit sv) (hko : K out = (4, 1)) (hlo : ρ out = 4000 ∨ ρ out = 4001) : Cl l yL_addTurn cL_addTurn 10 (some .int) [(0, 20, 23, 19), (0, 20, 27, 13), (0, 20, 31, 46)] 9 9 60 Γ [.ref x, .int (iI a), .int (iI fy), .int (iI ly), .int (iI b9), .int (iI mn), .int (iI cl), .int (iI sv), .ref out] K X Rf (pI (fun (r : Int) (K' : zK) (X' : zX) (R' : zR) => r = cdAtu M a fy ly b9 mn cl sv ∧ (cdAtu M a fy ly b9 mn cl sv = 0 → X' out 0 = (wI (M 7 a.toNat))) ∧ ∃ ρ', repC ρ' K' X' R' x (if cdAtu M a fy ly b9 mn cl sv = 0 then (tuM M a.toNat fy ly b9 mn cl sv) else M) ∧ frO ρ K X Rf out ρ' K' X' R')) := by
  refine Cl.of (by decide +kernel) (Nat.le_of_ble_eq_true rfl) ?_
  intro p e s m below meth c ls hx hb hr hml hown hG h46 hlocks hname ht hX hw hl
  have hl : lv_has ls 10 [(0, .ref x), (1, .int (iI a)), (2, .int (iI fy)), (3, .int (iI ly)), (4, .int (iI b9)), (5, .int (iI mn)), (6, .int (iI cl)), (7, .int (iI sv)), (8, .ref out)] := hl
  have hCk := hC.1.1
  refine lv_aload (pc := 0) hx hb dL_addTurn_0 (lv_at hl 8 rfl) ?_
  refine ziconst (pc := 2) (n := 0) hx hb dL_addTurn_2 ?_
  refine lv_aload_n (pc := 3) hx hb dL_addTurn_3 rfl (lv_at hl 0 rfl) ?_
  refine lv_iload_n (pc := 4) hx hb dL_addTurn_4 rfl (lv_at hl 1 rfl) ?_
  refine lv_iload_n (pc := 5) hx hb dL_addTurn_5 rfl (lv_at hl 2 rfl) ?_
  refine lv_iload_n (pc := 6) hx hb dL_addTurn_6 rfl (lv_at hl 3 rfl) ?_
  refine lv_iload (pc := 7) hx hb dL_addTurn_7 (lv_at hl 4 rfl) ?_
  refine lv_iload (pc := 9) hx hb dL_addTurn_9 (lv_at hl 5 rfl) ?_
  refine lv_iload (pc := 11) hx hb dL_addTurn_11 (lv_at hl 6 rfl) ?_
  refine lv_iload (pc := 13) hx hb dL_addTurn_13 (lv_at hl 7 rfl) ?_
  refine zxkI (pc := 15) (zxrV (As := [.int (iI a), .int (iI fy), .int (iI ly), .int (iI b9), .int (iI mn), .int (iI cl), .int (iI sv)]) hx hb hml hown hG hX hw (c_X8_addTurn l hl9 Γ K X Rf x a fy ly b9 mn cl sv (ρ) M (by (first | assumption | omega)) (by (first | assumption | omega)) (by (first | assumption | omega)) (by (first | assumption | omega))) (T := TX8) hCk rfl cb_X8_addTurn wl_L_61 rfl ⟨Nat.le_of_ble_eq_true rfl, Nat.le_of_ble_eq_true rfl⟩ hl.1 rfl (Nat.le_of_ble_eq_true rfl) dL_addTurn_15 ⟨(by show 0 + 9 ≤ 9; omega), (by show 0 + 60 ≤ 60; omega)⟩) hw (fun E9 ce9 q9 H locs hxp9 hw hce9 hcv9 hcl9 => ?_) (fun r15 K15 X15 R15 H locs hp15 hw => ?_)
  · skip
    rcases hxp9 with ⟨rfl, hq9⟩ | ⟨rfl, hq9⟩ | ⟨rfl, hq9⟩
    · skip
      refine zht1 (pc := 15) ⟨0, 20, 23, 19⟩ hown hX ht rfl (by decide) (hG _ wn_L_19) zg_391 hce9 hcv9 hcl9 ?_
      refine lv_astore (pc := 23) (lv' := [(9, .ref q9), (0, .ref x), (1, .int (iI a)), (2, .int (iI fy)), (3, .int (iI ly)), (4, .int (iI b9)), (5, .int (iI mn)), (6, .int (iI cl)), (7, .int (iI sv)), (8, .ref out)]) hx hb dL_addTurn_23 hl (by decide) rfl (fun ls hl => ?_)
      refine ziconst (pc := 25) (n := 1) hx hb dL_addTurn_25 ?_
      exact zretI (pc := 26) hx hb hlocks hr hw (by show 0 + 9 ≤ 9; omega) (by show 0 + 60 ≤ 60; omega) dL_addTurn_26 (by exact ⟨hq9.symm, fun h => absurd (hq9.symm.trans h) (by decide), ρ, (by rw [if_neg (by rw [hq9]; decide)]; exact hC), frO_refl⟩)
    · skip
      refine zht2 (pc := 15) ⟨0, 20, 23, 19⟩ ⟨0, 20, 27, 13⟩ hown hX ht rfl (by decide) (hG _ wn_L_13) zg_60 (by decide) (hG _ wn_L_19) znc1 hce9 hcv9 hcl9 ?_
      refine lv_astore (pc := 27) (lv' := [(9, .ref q9), (0, .ref x), (1, .int (iI a)), (2, .int (iI fy)), (3, .int (iI ly)), (4, .int (iI b9)), (5, .int (iI mn)), (6, .int (iI cl)), (7, .int (iI sv)), (8, .ref out)]) hx hb dL_addTurn_27 hl (by decide) rfl (fun ls hl => ?_)
      refine ziconst (pc := 29) (n := 2) hx hb dL_addTurn_29 ?_
      exact zretI (pc := 30) hx hb hlocks hr hw (by show 0 + 9 ≤ 9; omega) (by show 0 + 60 ≤ 60; omega) dL_addTurn_30 (by exact ⟨hq9.symm, fun h => absurd (hq9.symm.trans h) (by decide), ρ, (by rw [if_neg (by rw [hq9]; decide)]; exact hC), frO_refl⟩)
    · skip
      refine zht3 (pc := 15) ⟨0, 20, 23, 19⟩ ⟨0, 20, 27, 13⟩ ⟨0, 20, 31, 46⟩ hown hX ht rfl (by decide) h46 zg_121 (by decide) (hG _ wn_L_19) znc2 (by decide) (hG _ wn_L_13) znc3 hce9 hcv9 hcl9 ?_
      refine lv_astore (pc := 31) (lv' := [(9, .ref q9), (0, .ref x), (1, .int (iI a)), (2, .int (iI fy)), (3, .int (iI ly)), (4, .int (iI b9)), (5, .int (iI mn)), (6, .int (iI cl)), (7, .int (iI sv)), (8, .ref out)]) hx hb dL_addTurn_31 hl (by decide) rfl (fun ls hl => ?_)
      refine ziconst (pc := 33) (n := 3) hx hb dL_addTurn_33 ?_
      exact zretI (pc := 34) hx hb hlocks hr hw (by show 0 + 9 ≤ 9; omega) (by show 0 + 60 ≤ 60; omega) dL_addTurn_34 (by exact ⟨hq9.symm, fun h => absurd (hq9.symm.trans h) (by decide), ρ, (by rw [if_neg (by rw [hq9]; decide)]; exact hC), frO_refl⟩)
  · skip
    obtain ⟨⟨hv9, hc9⟩, ρ1, hC1, hf1⟩ := hp15
    obtain ⟨hko1, hlo1, -⟩ := hf1 out (by rw [hko]; exact Nat.succ_ne_zero _)
    rw [hko] at hko1
    refine zi2lw (pc := 18) hx hb dL_addTurn_18 ?_
    refine zlast (pc := 19) hx hb hw hko1 ⟨by omega, by omega⟩ (by omega) dL_addTurn_19 (fun H locs hw => ?_)
    obtain ⟨X19, eX19⟩ : ∃ Y : zX, Y = up2 X15 out 0 (wI r15) := ⟨_, rfl⟩
    replace hw := Wd.re hw rfl eX19 rfl
    refine lv_goto (pc := 20) (tgt := 35) hx hb dL_addTurn_20 (by decide) ?_
    refine ziconst (pc := 35) (n := 0) hx hb dL_addTurn_35 ?_
    exact zretI (pc := 36) hx hb hlocks hr hw (by show 0 + 9 ≤ 9; omega) (by show 0 + 60 ≤ 60; omega) dL_addTurn_36 (by have L9 := Lend hC1 hf1 (Or.inl hko) hlo eX19; exact ⟨hc9.symm, fun _ => (L9.1.trans (congrArg wI hv9)), ρ1, (by rw [if_pos hc9]; exact L9.2.1), L9.2.2⟩)
set_option maxHeartbeats 4000000 in
set_option maxRecDepth 100000 in
theorem c_L_savingAt (l : Launch) (hl9 : l.stackTraces = false) (Γ : zG) (K : zK) (X : zX) (Rf : zR) (x : Nat) (a : Int) (mo : Int) (out : Nat) (ρ : zL) (M : zM) (hC : repC ρ K X Rf x M) (hM : okM M) (h1 : fit a ∧ fit mo) (hko : K out = (4, 1)) (hlo : ρ out = 4000 ∨ ρ out = 4001) : Cl l yL_savingAt cL_savingAt 5 (some .int) [(0, 10, 13, 19)] 8 2 12 Γ [.ref x, .int (iI a), .int (iI mo), .ref out] K X Rf (pI (fun (r : Int) (K' : zK) (X' : zX) (R' : zR) => r = cdPlM M a mo ∧ (cdPlM M a mo = 0 → X' out 0 = (wI (savM M a.toNat mo))) ∧ ∃ ρ', repC ρ' K' X' R' x M ∧ frO ρ K X Rf out ρ' K' X' R')) := by
  refine Cl.of (by decide +kernel) (Nat.le_of_ble_eq_true rfl) ?_
  intro p e s m below meth c ls hx hb hr hml hown hG h46 hlocks hname ht hX hw hl
  have hl : lv_has ls 5 [(0, .ref x), (1, .int (iI a)), (2, .int (iI mo)), (3, .ref out)] := hl
  have hCk := hC.1.1
  refine lv_aload_n (pc := 0) hx hb dL_savingAt_0 rfl (lv_at hl 3 rfl) ?_
  refine ziconst (pc := 1) (n := 0) hx hb dL_savingAt_1 ?_
  refine lv_aload_n (pc := 2) hx hb dL_savingAt_2 rfl (lv_at hl 0 rfl) ?_
  refine lv_iload_n (pc := 3) hx hb dL_savingAt_3 rfl (lv_at hl 1 rfl) ?_
  refine lv_iload_n (pc := 4) hx hb dL_savingAt_4 rfl (lv_at hl 2 rfl) ?_
  refine zxkIp (pc := 5) (zxrV (As := [.int (iI a), .int (iI mo)]) hx hb hml hown hG hX hw (c_X8_savingAt l hl9 Γ K X Rf x a mo (ρ) M (by (first | assumption | omega)) (by (first | assumption | omega)) (by (first | assumption | omega))) (T := TX8) hCk rfl cb_X8_savingAt wl_L_65 rfl ⟨Nat.le_of_ble_eq_true rfl, Nat.le_of_ble_eq_true rfl⟩ hl.1 rfl (Nat.le_of_ble_eq_true rfl) dL_savingAt_5 ⟨(by show 0 + 2 ≤ 2; omega), (by show 0 + 12 ≤ 12; omega)⟩) hw (fun E9 ce9 q9 H locs hxp9 hw hce9 hcv9 hcl9 => ?_) (fun r5 H locs hp5 hw => ?_)
  · skip
    rcases hxp9 with ⟨rfl, hq9⟩
    · skip
      refine zht1 (pc := 5) ⟨0, 10, 13, 19⟩ hown hX ht rfl (by decide) (hG _ wn_L_19) zg_391 hce9 hcv9 hcl9 ?_
      refine lv_astore (pc := 13) (lv' := [(4, .ref q9), (0, .ref x), (1, .int (iI a)), (2, .int (iI mo)), (3, .ref out)]) hx hb dL_savingAt_13 hl (by decide) rfl (fun ls hl => ?_)
      refine ziconst (pc := 15) (n := 1) hx hb dL_savingAt_15 ?_
      exact zretI (pc := 16) hx hb hlocks hr hw (by show 0 + 2 ≤ 2; omega) (by show 0 + 12 ≤ 12; omega) dL_savingAt_16 (by exact ⟨hq9.symm, fun h => absurd (hq9.symm.trans h) (by decide), ρ, (by exact hC), frO_refl⟩)
  · skip
    obtain ⟨hv9, hc9⟩ := hp5
    refine zi2lw (pc := 8) hx hb dL_savingAt_8 ?_
    refine zlast (pc := 9) hx hb hw hko ⟨by omega, by omega⟩ (by omega) dL_savingAt_9 (fun H locs hw => ?_)
    obtain ⟨X9, eX9⟩ : ∃ Y : zX, Y = up2 X out 0 (wI r5) := ⟨_, rfl⟩
    replace hw := Wd.re hw rfl eX9 rfl
    refine lv_goto (pc := 10) (tgt := 17) hx hb dL_savingAt_10 (by decide) ?_
    refine ziconst (pc := 17) (n := 0) hx hb dL_savingAt_17 ?_
    exact zretI (pc := 18) hx hb hlocks hr hw (by show 0 + 2 ≤ 2; omega) (by show 0 + 12 ≤ 12; omega) dL_savingAt_18 (by have L9 := Lend hC frC_refl (Or.inl hko) hlo eX9; exact ⟨hc9.symm, fun _ => (L9.1.trans (congrArg wI hv9)), ρ, (by exact L9.2.1), L9.2.2⟩)
set_option maxHeartbeats 4000000 in
set_option maxRecDepth 100000 in
theorem c_L_localAt (l : Launch) (hl9 : l.stackTraces = false) (Γ : zG) (K : zK) (X : zX) (Rf : zR) (x : Nat) (a : Int) (mo : Int) (out : Nat) (ρ : zL) (M : zM) (hC : repC ρ K X Rf x M) (hM : okM M) (h1 : fit a ∧ fit mo) (hko : K out = (4, 1)) (hlo : ρ out = 4000 ∨ ρ out = 4001) : Cl l yL_localAt cL_localAt 5 (some .int) [(0, 10, 13, 19)] 8 2 12 Γ [.ref x, .int (iI a), .int (iI mo), .ref out] K X Rf (pI (fun (r : Int) (K' : zK) (X' : zX) (R' : zR) => r = cdPlM M a mo ∧ (cdPlM M a mo = 0 → X' out 0 = (wI (locM M a mo))) ∧ ∃ ρ', repC ρ' K' X' R' x M ∧ frO ρ K X Rf out ρ' K' X' R')) := by
  refine Cl.of (by decide +kernel) (Nat.le_of_ble_eq_true rfl) ?_
  intro p e s m below meth c ls hx hb hr hml hown hG h46 hlocks hname ht hX hw hl
  have hl : lv_has ls 5 [(0, .ref x), (1, .int (iI a)), (2, .int (iI mo)), (3, .ref out)] := hl
  have hCk := hC.1.1
  refine lv_aload_n (pc := 0) hx hb dL_localAt_0 rfl (lv_at hl 3 rfl) ?_
  refine ziconst (pc := 1) (n := 0) hx hb dL_localAt_1 ?_
  refine lv_aload_n (pc := 2) hx hb dL_localAt_2 rfl (lv_at hl 0 rfl) ?_
  refine lv_iload_n (pc := 3) hx hb dL_localAt_3 rfl (lv_at hl 1 rfl) ?_
  refine lv_iload_n (pc := 4) hx hb dL_localAt_4 rfl (lv_at hl 2 rfl) ?_
  refine zxkIp (pc := 5) (zxrV (As := [.int (iI a), .int (iI mo)]) hx hb hml hown hG hX hw (c_X8_localAt l hl9 Γ K X Rf x a mo (ρ) M (by (first | assumption | omega)) (by (first | assumption | omega)) (by (first | assumption | omega))) (T := TX8) hCk rfl cb_X8_localAt wl_L_68 rfl ⟨Nat.le_of_ble_eq_true rfl, Nat.le_of_ble_eq_true rfl⟩ hl.1 rfl (Nat.le_of_ble_eq_true rfl) dL_localAt_5 ⟨(by show 0 + 2 ≤ 2; omega), (by show 0 + 12 ≤ 12; omega)⟩) hw (fun E9 ce9 q9 H locs hxp9 hw hce9 hcv9 hcl9 => ?_) (fun r5 H locs hp5 hw => ?_)
  · skip
    rcases hxp9 with ⟨rfl, hq9⟩
    · skip
      refine zht1 (pc := 5) ⟨0, 10, 13, 19⟩ hown hX ht rfl (by decide) (hG _ wn_L_19) zg_391 hce9 hcv9 hcl9 ?_
      refine lv_astore (pc := 13) (lv' := [(4, .ref q9), (0, .ref x), (1, .int (iI a)), (2, .int (iI mo)), (3, .ref out)]) hx hb dL_localAt_13 hl (by decide) rfl (fun ls hl => ?_)
      refine ziconst (pc := 15) (n := 1) hx hb dL_localAt_15 ?_
      exact zretI (pc := 16) hx hb hlocks hr hw (by show 0 + 2 ≤ 2; omega) (by show 0 + 12 ≤ 12; omega) dL_localAt_16 (by exact ⟨hq9.symm, fun h => absurd (hq9.symm.trans h) (by decide), ρ, (by exact hC), frO_refl⟩)
  · skip
    obtain ⟨hv9, hc9⟩ := hp5
    refine zi2lw (pc := 8) hx hb dL_localAt_8 ?_
    refine zlast (pc := 9) hx hb hw hko ⟨by omega, by omega⟩ (by omega) dL_localAt_9 (fun H locs hw => ?_)
    obtain ⟨X9, eX9⟩ : ∃ Y : zX, Y = up2 X out 0 (wI r5) := ⟨_, rfl⟩
    replace hw := Wd.re hw rfl eX9 rfl
    refine lv_goto (pc := 10) (tgt := 17) hx hb dL_localAt_10 (by decide) ?_
    refine ziconst (pc := 17) (n := 0) hx hb dL_localAt_17 ?_
    exact zretI (pc := 18) hx hb hlocks hr hw (by show 0 + 2 ≤ 2; omega) (by show 0 + 12 ≤ 12; omega) dL_localAt_18 (by have L9 := Lend hC frC_refl (Or.inl hko) hlo eX9; exact ⟨hc9.symm, fun _ => (L9.1.trans (congrArg wI hv9)), ρ, (by exact L9.2.1), L9.2.2⟩)
set_option maxHeartbeats 4000000 in
set_option maxRecDepth 100000 in
theorem c_L_nextChange (l : Launch) (hl9 : l.stackTraces = false) (Γ : zG) (K : zK) (X : zX) (Rf : zR) (x : Nat) (a : Int) (mo : Int) (out : Nat) (ρ : zL) (M : zM) (hC : repC ρ K X Rf x M) (hM : okM M) (h1 : fit a ∧ fit mo) (hko : K out = (4, 1)) (hlo : ρ out = 4000 ∨ ρ out = 4001) : Cl l yL_nextChange cL_nextChange 5 (some .int) [(0, 10, 13, 19)] 8 2 12 Γ [.ref x, .int (iI a), .int (iI mo), .ref out] K X Rf (pI (fun (r : Int) (K' : zK) (X' : zX) (R' : zR) => r = cdPlM M a mo ∧ (cdPlM M a mo = 0 → X' out 0 = (wI (ncF (savM M a.toNat) mo))) ∧ ∃ ρ', repC ρ' K' X' R' x M ∧ frO ρ K X Rf out ρ' K' X' R')) := by
  refine Cl.of (by decide +kernel) (Nat.le_of_ble_eq_true rfl) ?_
  intro p e s m below meth c ls hx hb hr hml hown hG h46 hlocks hname ht hX hw hl
  have hl : lv_has ls 5 [(0, .ref x), (1, .int (iI a)), (2, .int (iI mo)), (3, .ref out)] := hl
  have hCk := hC.1.1
  refine lv_aload_n (pc := 0) hx hb dL_nextChange_0 rfl (lv_at hl 3 rfl) ?_
  refine ziconst (pc := 1) (n := 0) hx hb dL_nextChange_1 ?_
  refine lv_aload_n (pc := 2) hx hb dL_nextChange_2 rfl (lv_at hl 0 rfl) ?_
  refine lv_iload_n (pc := 3) hx hb dL_nextChange_3 rfl (lv_at hl 1 rfl) ?_
  refine lv_iload_n (pc := 4) hx hb dL_nextChange_4 rfl (lv_at hl 2 rfl) ?_
  refine zxkIp (pc := 5) (zxrV (As := [.int (iI a), .int (iI mo)]) hx hb hml hown hG hX hw (c_X8_nextChange l hl9 Γ K X Rf x a mo (ρ) M (by (first | assumption | omega)) (by (first | assumption | omega)) (by (first | assumption | omega))) (T := TX8) hCk rfl cb_X8_nextChange wl_L_71 rfl ⟨Nat.le_of_ble_eq_true rfl, Nat.le_of_ble_eq_true rfl⟩ hl.1 rfl (Nat.le_of_ble_eq_true rfl) dL_nextChange_5 ⟨(by show 0 + 2 ≤ 2; omega), (by show 0 + 12 ≤ 12; omega)⟩) hw (fun E9 ce9 q9 H locs hxp9 hw hce9 hcv9 hcl9 => ?_) (fun r5 H locs hp5 hw => ?_)
  · skip
    rcases hxp9 with ⟨rfl, hq9⟩
    · skip
      refine zht1 (pc := 5) ⟨0, 10, 13, 19⟩ hown hX ht rfl (by decide) (hG _ wn_L_19) zg_391 hce9 hcv9 hcl9 ?_
      refine lv_astore (pc := 13) (lv' := [(4, .ref q9), (0, .ref x), (1, .int (iI a)), (2, .int (iI mo)), (3, .ref out)]) hx hb dL_nextChange_13 hl (by decide) rfl (fun ls hl => ?_)
      refine ziconst (pc := 15) (n := 1) hx hb dL_nextChange_15 ?_
      exact zretI (pc := 16) hx hb hlocks hr hw (by show 0 + 2 ≤ 2; omega) (by show 0 + 12 ≤ 12; omega) dL_nextChange_16 (by exact ⟨hq9.symm, fun h => absurd (hq9.symm.trans h) (by decide), ρ, (by exact hC), frO_refl⟩)
  · skip
    obtain ⟨hv9, hc9⟩ := hp5
    refine zi2lw (pc := 8) hx hb dL_nextChange_8 ?_
    refine zlast (pc := 9) hx hb hw hko ⟨by omega, by omega⟩ (by omega) dL_nextChange_9 (fun H locs hw => ?_)
    obtain ⟨X9, eX9⟩ : ∃ Y : zX, Y = up2 X out 0 (wI r5) := ⟨_, rfl⟩
    replace hw := Wd.re hw rfl eX9 rfl
    refine lv_goto (pc := 10) (tgt := 17) hx hb dL_nextChange_10 (by decide) ?_
    refine ziconst (pc := 17) (n := 0) hx hb dL_nextChange_17 ?_
    exact zretI (pc := 18) hx hb hlocks hr hw (by show 0 + 2 ≤ 2; omega) (by show 0 + 12 ≤ 12; omega) dL_nextChange_18 (by have L9 := Lend hC frC_refl (Or.inl hko) hlo eX9; exact ⟨hc9.symm, fun _ => (L9.1.trans (congrArg wI hv9)), ρ, (by exact L9.2.1), L9.2.2⟩)
set_option maxHeartbeats 4000000 in
set_option maxRecDepth 100000 in
theorem c_L_showsOften (l : Launch) (hl9 : l.stackTraces = false) (Γ : zG) (K : zK) (X : zX) (Rf : zR) (x : Nat) (a : Int) (lo : Int) (out : Nat) (ρ : zL) (M : zM) (hC : repC ρ K X Rf x M) (hM : okM M) (h1 : fit a ∧ fit lo) (hko : K out = (4, 1)) (hlo : ρ out = 4000 ∨ ρ out = 4001) : Cl l yL_showsOften cL_showsOften 5 (some .int) [(0, 10, 13, 19)] 8 1 6 Γ [.ref x, .int (iI a), .int (iI lo), .ref out] K X Rf (pI (fun (r : Int) (K' : zK) (X' : zX) (R' : zR) => r = cdPl M a ∧ (cdPl M a = 0 → X' out 0 = (wI (shN (savM M a.toNat) (M 6 a.toNat) lo))) ∧ ∃ ρ', repC ρ' K' X' R' x M ∧ frO ρ K X Rf out ρ' K' X' R')) := by
  refine Cl.of (by decide +kernel) (Nat.le_of_ble_eq_true rfl) ?_
  intro p e s m below meth c ls hx hb hr hml hown hG h46 hlocks hname ht hX hw hl
  have hl : lv_has ls 5 [(0, .ref x), (1, .int (iI a)), (2, .int (iI lo)), (3, .ref out)] := hl
  have hCk := hC.1.1
  refine lv_aload_n (pc := 0) hx hb dL_showsOften_0 rfl (lv_at hl 3 rfl) ?_
  refine ziconst (pc := 1) (n := 0) hx hb dL_showsOften_1 ?_
  refine lv_aload_n (pc := 2) hx hb dL_showsOften_2 rfl (lv_at hl 0 rfl) ?_
  refine lv_iload_n (pc := 3) hx hb dL_showsOften_3 rfl (lv_at hl 1 rfl) ?_
  refine lv_iload_n (pc := 4) hx hb dL_showsOften_4 rfl (lv_at hl 2 rfl) ?_
  refine zxkIp (pc := 5) (zxrV (As := [.int (iI a), .int (iI lo)]) hx hb hml hown hG hX hw (c_X8_showsOften l hl9 Γ K X Rf x a lo (ρ) M (by (first | assumption | omega)) (by (first | assumption | omega)) (by (first | assumption | omega))) (T := TX8) hCk rfl cb_X8_showsOften wl_L_74 rfl ⟨Nat.le_of_ble_eq_true rfl, Nat.le_of_ble_eq_true rfl⟩ hl.1 rfl (Nat.le_of_ble_eq_true rfl) dL_showsOften_5 ⟨(by show 0 + 1 ≤ 1; omega), (by show 0 + 6 ≤ 6; omega)⟩) hw (fun E9 ce9 q9 H locs hxp9 hw hce9 hcv9 hcl9 => ?_) (fun r5 H locs hp5 hw => ?_)
  · skip
    rcases hxp9 with ⟨rfl, hq9⟩
    · skip
      refine zht1 (pc := 5) ⟨0, 10, 13, 19⟩ hown hX ht rfl (by decide) (hG _ wn_L_19) zg_391 hce9 hcv9 hcl9 ?_
      refine lv_astore (pc := 13) (lv' := [(4, .ref q9), (0, .ref x), (1, .int (iI a)), (2, .int (iI lo)), (3, .ref out)]) hx hb dL_showsOften_13 hl (by decide) rfl (fun ls hl => ?_)
      refine ziconst (pc := 15) (n := 1) hx hb dL_showsOften_15 ?_
      exact zretI (pc := 16) hx hb hlocks hr hw (by show 0 + 1 ≤ 1; omega) (by show 0 + 6 ≤ 6; omega) dL_showsOften_16 (by exact ⟨hq9.symm, fun h => absurd (hq9.symm.trans h) (by decide), ρ, (by exact hC), frO_refl⟩)
  · skip
    obtain ⟨hv9, hc9⟩ := hp5
    refine zi2lw (pc := 8) hx hb dL_showsOften_8 ?_
    refine zlast (pc := 9) hx hb hw hko ⟨by omega, by omega⟩ (by omega) dL_showsOften_9 (fun H locs hw => ?_)
    obtain ⟨X9, eX9⟩ : ∃ Y : zX, Y = up2 X out 0 (wI r5) := ⟨_, rfl⟩
    replace hw := Wd.re hw rfl eX9 rfl
    refine lv_goto (pc := 10) (tgt := 17) hx hb dL_showsOften_10 (by decide) ?_
    refine ziconst (pc := 17) (n := 0) hx hb dL_showsOften_17 ?_
    exact zretI (pc := 18) hx hb hlocks hr hw (by show 0 + 1 ≤ 1; omega) (by show 0 + 6 ≤ 6; omega) dL_showsOften_18 (by have L9 := Lend hC frC_refl (Or.inl hko) hlo eX9; exact ⟨hc9.symm, fun _ => (L9.1.trans (congrArg wI hv9)), ρ, (by exact L9.2.1), L9.2.2⟩)
set_option maxHeartbeats 4000000 in
set_option maxRecDepth 100000 in
theorem c_L_momentOf (l : Launch) (hl9 : l.stackTraces = false) (Γ : zG) (K : zK) (X : zX) (Rf : zR) (x : Nat) (a : Int) (lo : Int) (out : Nat) (ρ : zL) (M : zM) (hC : repC ρ K X Rf x M) (hM : okM M) (h1 : fit a ∧ fit lo) (hko : K out = (4, 1)) (hlo : ρ out = 4000 ∨ ρ out = 4001) : Cl l yL_momentOf cL_momentOf 5 (some .int) [(0, 10, 13, 19)] 8 1 6 Γ [.ref x, .int (iI a), .int (iI lo), .ref out] K X Rf (pI (fun (r : Int) (K' : zK) (X' : zX) (R' : zR) => r = cdPl M a ∧ (cdPl M a = 0 → X' out 0 = (wI (momF (savM M a.toNat) (M 6 a.toNat) lo))) ∧ ∃ ρ', repC ρ' K' X' R' x M ∧ frO ρ K X Rf out ρ' K' X' R')) := by
  refine Cl.of (by decide +kernel) (Nat.le_of_ble_eq_true rfl) ?_
  intro p e s m below meth c ls hx hb hr hml hown hG h46 hlocks hname ht hX hw hl
  have hl : lv_has ls 5 [(0, .ref x), (1, .int (iI a)), (2, .int (iI lo)), (3, .ref out)] := hl
  have hCk := hC.1.1
  refine lv_aload_n (pc := 0) hx hb dL_momentOf_0 rfl (lv_at hl 3 rfl) ?_
  refine ziconst (pc := 1) (n := 0) hx hb dL_momentOf_1 ?_
  refine lv_aload_n (pc := 2) hx hb dL_momentOf_2 rfl (lv_at hl 0 rfl) ?_
  refine lv_iload_n (pc := 3) hx hb dL_momentOf_3 rfl (lv_at hl 1 rfl) ?_
  refine lv_iload_n (pc := 4) hx hb dL_momentOf_4 rfl (lv_at hl 2 rfl) ?_
  refine zxkIp (pc := 5) (zxrV (As := [.int (iI a), .int (iI lo)]) hx hb hml hown hG hX hw (c_X8_momentOf l hl9 Γ K X Rf x a lo (ρ) M (by (first | assumption | omega)) (by (first | assumption | omega)) (by (first | assumption | omega))) (T := TX8) hCk rfl cb_X8_momentOf wl_L_77 rfl ⟨Nat.le_of_ble_eq_true rfl, Nat.le_of_ble_eq_true rfl⟩ hl.1 rfl (Nat.le_of_ble_eq_true rfl) dL_momentOf_5 ⟨(by show 0 + 1 ≤ 1; omega), (by show 0 + 6 ≤ 6; omega)⟩) hw (fun E9 ce9 q9 H locs hxp9 hw hce9 hcv9 hcl9 => ?_) (fun r5 H locs hp5 hw => ?_)
  · skip
    rcases hxp9 with ⟨rfl, hq9⟩
    · skip
      refine zht1 (pc := 5) ⟨0, 10, 13, 19⟩ hown hX ht rfl (by decide) (hG _ wn_L_19) zg_391 hce9 hcv9 hcl9 ?_
      refine lv_astore (pc := 13) (lv' := [(4, .ref q9), (0, .ref x), (1, .int (iI a)), (2, .int (iI lo)), (3, .ref out)]) hx hb dL_momentOf_13 hl (by decide) rfl (fun ls hl => ?_)
      refine ziconst (pc := 15) (n := 1) hx hb dL_momentOf_15 ?_
      exact zretI (pc := 16) hx hb hlocks hr hw (by show 0 + 1 ≤ 1; omega) (by show 0 + 6 ≤ 6; omega) dL_momentOf_16 (by exact ⟨hq9.symm, fun h => absurd (hq9.symm.trans h) (by decide), ρ, (by exact hC), frO_refl⟩)
  · skip
    obtain ⟨hv9, hc9⟩ := hp5
    refine zi2lw (pc := 8) hx hb dL_momentOf_8 ?_
    refine zlast (pc := 9) hx hb hw hko ⟨by omega, by omega⟩ (by omega) dL_momentOf_9 (fun H locs hw => ?_)
    obtain ⟨X9, eX9⟩ : ∃ Y : zX, Y = up2 X out 0 (wI r5) := ⟨_, rfl⟩
    replace hw := Wd.re hw rfl eX9 rfl
    refine lv_goto (pc := 10) (tgt := 17) hx hb dL_momentOf_10 (by decide) ?_
    refine ziconst (pc := 17) (n := 0) hx hb dL_momentOf_17 ?_
    exact zretI (pc := 18) hx hb hlocks hr hw (by show 0 + 1 ≤ 1; omega) (by show 0 + 6 ≤ 6; omega) dL_momentOf_18 (by have L9 := Lend hC frC_refl (Or.inl hko) hlo eX9; exact ⟨hc9.symm, fun _ => (L9.1.trans (congrArg wI hv9)), ρ, (by exact L9.2.1), L9.2.2⟩)
set_option maxHeartbeats 4000000 in
set_option maxRecDepth 100000 in
theorem c_L_lastMomentOf (l : Launch) (hl9 : l.stackTraces = false) (Γ : zG) (K : zK) (X : zX) (Rf : zR) (x : Nat) (a : Int) (lo : Int) (out : Nat) (ρ : zL) (M : zM) (hC : repC ρ K X Rf x M) (hM : okM M) (h1 : fit a ∧ fit lo) (hko : K out = (4, 1)) (hlo : ρ out = 4000 ∨ ρ out = 4001) : Cl l yL_lastMomentOf cL_lastMomentOf 5 (some .int) [(0, 10, 13, 19)] 8 1 6 Γ [.ref x, .int (iI a), .int (iI lo), .ref out] K X Rf (pI (fun (r : Int) (K' : zK) (X' : zX) (R' : zR) => r = cdPl M a ∧ (cdPl M a = 0 → X' out 0 = (wI (shL (savM M a.toNat) (M 6 a.toNat) lo))) ∧ ∃ ρ', repC ρ' K' X' R' x M ∧ frO ρ K X Rf out ρ' K' X' R')) := by
  refine Cl.of (by decide +kernel) (Nat.le_of_ble_eq_true rfl) ?_
  intro p e s m below meth c ls hx hb hr hml hown hG h46 hlocks hname ht hX hw hl
  have hl : lv_has ls 5 [(0, .ref x), (1, .int (iI a)), (2, .int (iI lo)), (3, .ref out)] := hl
  have hCk := hC.1.1
  refine lv_aload_n (pc := 0) hx hb dL_lastMomentOf_0 rfl (lv_at hl 3 rfl) ?_
  refine ziconst (pc := 1) (n := 0) hx hb dL_lastMomentOf_1 ?_
  refine lv_aload_n (pc := 2) hx hb dL_lastMomentOf_2 rfl (lv_at hl 0 rfl) ?_
  refine lv_iload_n (pc := 3) hx hb dL_lastMomentOf_3 rfl (lv_at hl 1 rfl) ?_
  refine lv_iload_n (pc := 4) hx hb dL_lastMomentOf_4 rfl (lv_at hl 2 rfl) ?_
  refine zxkIp (pc := 5) (zxrV (As := [.int (iI a), .int (iI lo)]) hx hb hml hown hG hX hw (c_X8_lastMomentOf l hl9 Γ K X Rf x a lo (ρ) M (by (first | assumption | omega)) (by (first | assumption | omega)) (by (first | assumption | omega))) (T := TX8) hCk rfl cb_X8_lastMomentOf wl_L_80 rfl ⟨Nat.le_of_ble_eq_true rfl, Nat.le_of_ble_eq_true rfl⟩ hl.1 rfl (Nat.le_of_ble_eq_true rfl) dL_lastMomentOf_5 ⟨(by show 0 + 1 ≤ 1; omega), (by show 0 + 6 ≤ 6; omega)⟩) hw (fun E9 ce9 q9 H locs hxp9 hw hce9 hcv9 hcl9 => ?_) (fun r5 H locs hp5 hw => ?_)
  · skip
    rcases hxp9 with ⟨rfl, hq9⟩
    · skip
      refine zht1 (pc := 5) ⟨0, 10, 13, 19⟩ hown hX ht rfl (by decide) (hG _ wn_L_19) zg_391 hce9 hcv9 hcl9 ?_
      refine lv_astore (pc := 13) (lv' := [(4, .ref q9), (0, .ref x), (1, .int (iI a)), (2, .int (iI lo)), (3, .ref out)]) hx hb dL_lastMomentOf_13 hl (by decide) rfl (fun ls hl => ?_)
      refine ziconst (pc := 15) (n := 1) hx hb dL_lastMomentOf_15 ?_
      exact zretI (pc := 16) hx hb hlocks hr hw (by show 0 + 1 ≤ 1; omega) (by show 0 + 6 ≤ 6; omega) dL_lastMomentOf_16 (by exact ⟨hq9.symm, fun h => absurd (hq9.symm.trans h) (by decide), ρ, (by exact hC), frO_refl⟩)
  · skip
    obtain ⟨hv9, hc9⟩ := hp5
    refine zi2lw (pc := 8) hx hb dL_lastMomentOf_8 ?_
    refine zlast (pc := 9) hx hb hw hko ⟨by omega, by omega⟩ (by omega) dL_lastMomentOf_9 (fun H locs hw => ?_)
    obtain ⟨X9, eX9⟩ : ∃ Y : zX, Y = up2 X out 0 (wI r5) := ⟨_, rfl⟩
    replace hw := Wd.re hw rfl eX9 rfl
    refine lv_goto (pc := 10) (tgt := 17) hx hb dL_lastMomentOf_10 (by decide) ?_
    refine ziconst (pc := 17) (n := 0) hx hb dL_lastMomentOf_17 ?_
    exact zretI (pc := 18) hx hb hlocks hr hw (by show 0 + 1 ≤ 1; omega) (by show 0 + 6 ≤ 6; omega) dL_lastMomentOf_18 (by have L9 := Lend hC frC_refl (Or.inl hko) hlo eX9; exact ⟨hc9.symm, fun _ => (L9.1.trans (congrArg wI hv9)), ρ, (by exact L9.2.1), L9.2.2⟩)
set_option maxHeartbeats 4000000 in
set_option maxRecDepth 100000 in
theorem c_L_ahead (l : Launch) (hl9 : l.stackTraces = false) (Γ : zG) (K : zK) (X : zX) (Rf : zR) (x : Nat) (a : Int) (b9 : Int) (mo : Int) (out : Nat) (ρ : zL) (M : zM) (hC : repC ρ K X Rf x M) (hM : okM M) (h1 : fit a ∧ fit b9 ∧ fit mo) (hko : K out = (4, 1)) (hlo : ρ out = 4000 ∨ ρ out = 4001) : Cl l yL_ahead cL_ahead 6 (some .int) [(0, 12, 15, 19)] 8 3 18 Γ [.ref x, .int (iI a), .int (iI b9), .int (iI mo), .ref out] K X Rf (pI (fun (r : Int) (K' : zK) (X' : zX) (R' : zR) => r = cdPlPlM M a b9 mo ∧ (cdPlPlM M a b9 mo = 0 → X' out 0 = (wI (locM M a mo - locM M b9 mo))) ∧ ∃ ρ', repC ρ' K' X' R' x M ∧ frO ρ K X Rf out ρ' K' X' R')) := by
  refine Cl.of (by decide +kernel) (Nat.le_of_ble_eq_true rfl) ?_
  intro p e s m below meth c ls hx hb hr hml hown hG h46 hlocks hname ht hX hw hl
  have hl : lv_has ls 6 [(0, .ref x), (1, .int (iI a)), (2, .int (iI b9)), (3, .int (iI mo)), (4, .ref out)] := hl
  have hCk := hC.1.1
  refine lv_aload (pc := 0) hx hb dL_ahead_0 (lv_at hl 4 rfl) ?_
  refine ziconst (pc := 2) (n := 0) hx hb dL_ahead_2 ?_
  refine lv_aload_n (pc := 3) hx hb dL_ahead_3 rfl (lv_at hl 0 rfl) ?_
  refine lv_iload_n (pc := 4) hx hb dL_ahead_4 rfl (lv_at hl 1 rfl) ?_
  refine lv_iload_n (pc := 5) hx hb dL_ahead_5 rfl (lv_at hl 2 rfl) ?_
  refine lv_iload_n (pc := 6) hx hb dL_ahead_6 rfl (lv_at hl 3 rfl) ?_
  refine zxkIp (pc := 7) (zxrV (As := [.int (iI a), .int (iI b9), .int (iI mo)]) hx hb hml hown hG hX hw (c_X8_ahead l hl9 Γ K X Rf x a b9 mo (ρ) M (by (first | assumption | omega)) (by (first | assumption | omega)) (by (first | assumption | omega))) (T := TX8) hCk rfl cb_X8_ahead wl_L_83 rfl ⟨Nat.le_of_ble_eq_true rfl, Nat.le_of_ble_eq_true rfl⟩ hl.1 rfl (Nat.le_of_ble_eq_true rfl) dL_ahead_7 ⟨(by show 0 + 3 ≤ 3; omega), (by show 0 + 18 ≤ 18; omega)⟩) hw (fun E9 ce9 q9 H locs hxp9 hw hce9 hcv9 hcl9 => ?_) (fun r7 H locs hp7 hw => ?_)
  · skip
    rcases hxp9 with ⟨rfl, hq9⟩
    · skip
      refine zht1 (pc := 7) ⟨0, 12, 15, 19⟩ hown hX ht rfl (by decide) (hG _ wn_L_19) zg_391 hce9 hcv9 hcl9 ?_
      refine lv_astore (pc := 15) (lv' := [(5, .ref q9), (0, .ref x), (1, .int (iI a)), (2, .int (iI b9)), (3, .int (iI mo)), (4, .ref out)]) hx hb dL_ahead_15 hl (by decide) rfl (fun ls hl => ?_)
      refine ziconst (pc := 17) (n := 1) hx hb dL_ahead_17 ?_
      exact zretI (pc := 18) hx hb hlocks hr hw (by show 0 + 3 ≤ 3; omega) (by show 0 + 18 ≤ 18; omega) dL_ahead_18 (by exact ⟨hq9.symm, fun h => absurd (hq9.symm.trans h) (by decide), ρ, (by exact hC), frO_refl⟩)
  · skip
    obtain ⟨hv9, hc9⟩ := hp7
    refine zi2lw (pc := 10) hx hb dL_ahead_10 ?_
    refine zlast (pc := 11) hx hb hw hko ⟨by omega, by omega⟩ (by omega) dL_ahead_11 (fun H locs hw => ?_)
    obtain ⟨X11, eX11⟩ : ∃ Y : zX, Y = up2 X out 0 (wI r7) := ⟨_, rfl⟩
    replace hw := Wd.re hw rfl eX11 rfl
    refine lv_goto (pc := 12) (tgt := 19) hx hb dL_ahead_12 (by decide) ?_
    refine ziconst (pc := 19) (n := 0) hx hb dL_ahead_19 ?_
    exact zretI (pc := 20) hx hb hlocks hr hw (by show 0 + 3 ≤ 3; omega) (by show 0 + 18 ≤ 18; omega) dL_ahead_20 (by have L9 := Lend hC frC_refl (Or.inl hko) hlo eX11; exact ⟨hc9.symm, fun _ => (L9.1.trans (congrArg wI hv9)), ρ, (by exact L9.2.1), L9.2.2⟩)
set_option maxHeartbeats 4000000 in
set_option maxRecDepth 100000 in
theorem c_L_addSeries (l : Launch) (hl9 : l.stackTraces = false) (Γ : zG) (K : zK) (X : zX) (Rf : zR) (x : Nat) (a : Int) (bg : Int) (ki : Int) (st : Int) (wd : Int) (out : Nat) (ρ : zL) (M : zM) (hC : repC ρ K X Rf x M) (hM : okM M) (h1 : fit a ∧ fit bg ∧ fit ki) (h2 : fit st ∧ fit wd) (hko : K out = (4, 1)) (hlo : ρ out = 4000 ∨ ρ out = 4001) : Cl l yL_addSeries cL_addSeries 8 (some .int) [(0, 16, 19, 19), (0, 16, 23, 13), (0, 16, 27, 46)] 8 8 4060 Γ [.ref x, .int (iI a), .int (iI bg), .int (iI ki), .int (iI st), .int (iI wd), .ref out] K X Rf (pI (fun (r : Int) (K' : zK) (X' : zX) (R' : zR) => r = cdAse M a bg ki st wd ∧ (cdAse M a bg ki st wd = 0 → X' out 0 = (wI (M 40 16))) ∧ ∃ ρ', repC ρ' K' X' R' x (if cdAse M a bg ki st wd = 0 then (seM M (M 40 16).toNat a bg ki st wd) else M) ∧ frO ρ K X Rf out ρ' K' X' R')) := by
  refine Cl.of (by decide +kernel) (Nat.le_of_ble_eq_true rfl) ?_
  intro p e s m below meth c ls hx hb hr hml hown hG h46 hlocks hname ht hX hw hl
  have hl : lv_has ls 8 [(0, .ref x), (1, .int (iI a)), (2, .int (iI bg)), (3, .int (iI ki)), (4, .int (iI st)), (5, .int (iI wd)), (6, .ref out)] := hl
  have hCk := hC.1.1
  refine lv_aload (pc := 0) hx hb dL_addSeries_0 (lv_at hl 6 rfl) ?_
  refine ziconst (pc := 2) (n := 0) hx hb dL_addSeries_2 ?_
  refine lv_aload_n (pc := 3) hx hb dL_addSeries_3 rfl (lv_at hl 0 rfl) ?_
  refine lv_iload_n (pc := 4) hx hb dL_addSeries_4 rfl (lv_at hl 1 rfl) ?_
  refine lv_iload_n (pc := 5) hx hb dL_addSeries_5 rfl (lv_at hl 2 rfl) ?_
  refine lv_iload_n (pc := 6) hx hb dL_addSeries_6 rfl (lv_at hl 3 rfl) ?_
  refine lv_iload (pc := 7) hx hb dL_addSeries_7 (lv_at hl 4 rfl) ?_
  refine lv_iload (pc := 9) hx hb dL_addSeries_9 (lv_at hl 5 rfl) ?_
  refine zxkI (pc := 11) (zxrV (As := [.int (iI a), .int (iI bg), .int (iI ki), .int (iI st), .int (iI wd)]) hx hb hml hown hG hX hw (c_X8_addSeries l hl9 Γ K X Rf x a bg ki st wd (ρ) M (by (first | assumption | omega)) (by (first | assumption | omega)) (by (first | assumption | omega)) (by (first | assumption | omega))) (T := TX8) hCk rfl cb_X8_addSeries wl_L_86 rfl ⟨Nat.le_of_ble_eq_true rfl, Nat.le_of_ble_eq_true rfl⟩ hl.1 rfl (Nat.le_of_ble_eq_true rfl) dL_addSeries_11 ⟨(by show 0 + 8 ≤ 8; omega), (by show 0 + 4060 ≤ 4060; omega)⟩) hw (fun E9 ce9 q9 H locs hxp9 hw hce9 hcv9 hcl9 => ?_) (fun r11 K11 X11 R11 H locs hp11 hw => ?_)
  · skip
    rcases hxp9 with ⟨rfl, hq9⟩ | ⟨rfl, hq9⟩ | ⟨rfl, hq9⟩
    · skip
      refine zht1 (pc := 11) ⟨0, 16, 19, 19⟩ hown hX ht rfl (by decide) (hG _ wn_L_19) zg_391 hce9 hcv9 hcl9 ?_
      refine lv_astore (pc := 19) (lv' := [(7, .ref q9), (0, .ref x), (1, .int (iI a)), (2, .int (iI bg)), (3, .int (iI ki)), (4, .int (iI st)), (5, .int (iI wd)), (6, .ref out)]) hx hb dL_addSeries_19 hl (by decide) rfl (fun ls hl => ?_)
      refine ziconst (pc := 21) (n := 1) hx hb dL_addSeries_21 ?_
      exact zretI (pc := 22) hx hb hlocks hr hw (by show 0 + 8 ≤ 8; omega) (by show 0 + 4060 ≤ 4060; omega) dL_addSeries_22 (by exact ⟨hq9.symm, fun h => absurd (hq9.symm.trans h) (by decide), ρ, (by rw [if_neg (by rw [hq9]; decide)]; exact hC), frO_refl⟩)
    · skip
      refine zht2 (pc := 11) ⟨0, 16, 19, 19⟩ ⟨0, 16, 23, 13⟩ hown hX ht rfl (by decide) (hG _ wn_L_13) zg_60 (by decide) (hG _ wn_L_19) znc1 hce9 hcv9 hcl9 ?_
      refine lv_astore (pc := 23) (lv' := [(7, .ref q9), (0, .ref x), (1, .int (iI a)), (2, .int (iI bg)), (3, .int (iI ki)), (4, .int (iI st)), (5, .int (iI wd)), (6, .ref out)]) hx hb dL_addSeries_23 hl (by decide) rfl (fun ls hl => ?_)
      refine ziconst (pc := 25) (n := 2) hx hb dL_addSeries_25 ?_
      exact zretI (pc := 26) hx hb hlocks hr hw (by show 0 + 8 ≤ 8; omega) (by show 0 + 4060 ≤ 4060; omega) dL_addSeries_26 (by exact ⟨hq9.symm, fun h => absurd (hq9.symm.trans h) (by decide), ρ, (by rw [if_neg (by rw [hq9]; decide)]; exact hC), frO_refl⟩)
    · skip
      refine zht3 (pc := 11) ⟨0, 16, 19, 19⟩ ⟨0, 16, 23, 13⟩ ⟨0, 16, 27, 46⟩ hown hX ht rfl (by decide) h46 zg_121 (by decide) (hG _ wn_L_19) znc2 (by decide) (hG _ wn_L_13) znc3 hce9 hcv9 hcl9 ?_
      refine lv_astore (pc := 27) (lv' := [(7, .ref q9), (0, .ref x), (1, .int (iI a)), (2, .int (iI bg)), (3, .int (iI ki)), (4, .int (iI st)), (5, .int (iI wd)), (6, .ref out)]) hx hb dL_addSeries_27 hl (by decide) rfl (fun ls hl => ?_)
      refine ziconst (pc := 29) (n := 3) hx hb dL_addSeries_29 ?_
      exact zretI (pc := 30) hx hb hlocks hr hw (by show 0 + 8 ≤ 8; omega) (by show 0 + 4060 ≤ 4060; omega) dL_addSeries_30 (by exact ⟨hq9.symm, fun h => absurd (hq9.symm.trans h) (by decide), ρ, (by rw [if_neg (by rw [hq9]; decide)]; exact hC), frO_refl⟩)
  · skip
    obtain ⟨⟨hv9, hc9⟩, ρ1, hC1, hf1⟩ := hp11
    obtain ⟨hko1, hlo1, -⟩ := hf1 out (by rw [hko]; exact Nat.succ_ne_zero _)
    rw [hko] at hko1
    refine zi2lw (pc := 14) hx hb dL_addSeries_14 ?_
    refine zlast (pc := 15) hx hb hw hko1 ⟨by omega, by omega⟩ (by omega) dL_addSeries_15 (fun H locs hw => ?_)
    obtain ⟨X15, eX15⟩ : ∃ Y : zX, Y = up2 X11 out 0 (wI r11) := ⟨_, rfl⟩
    replace hw := Wd.re hw rfl eX15 rfl
    refine lv_goto (pc := 16) (tgt := 31) hx hb dL_addSeries_16 (by decide) ?_
    refine ziconst (pc := 31) (n := 0) hx hb dL_addSeries_31 ?_
    exact zretI (pc := 32) hx hb hlocks hr hw (by show 0 + 8 ≤ 8; omega) (by show 0 + 4060 ≤ 4060; omega) dL_addSeries_32 (by have L9 := Lend hC1 hf1 (Or.inl hko) hlo eX15; exact ⟨hc9.symm, fun _ => (L9.1.trans (congrArg wI hv9)), ρ1, (by rw [if_pos hc9]; exact L9.2.1), L9.2.2⟩)
