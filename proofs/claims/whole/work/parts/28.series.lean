set_option maxHeartbeats 4000000 in
set_option maxRecDepth 100000 in
theorem c_X5_spanBegin (l : Launch) (Γ : zG) (K : zK) (X : zX) (Rf : zR) (se : Nat) (spans : Int) (Sd : Nat → Int) (hk : K se = (1, 4)) (hD : serD (X se) Sd) (hS : okS Sd) (h1 : 0 ≤ spans ∧ spans ≤ 250000) : Ct l yX5_spanBegin cX5_spanBegin 2 (some .int) 2 0 0 Γ [.ref se, .int (iI spans)] K X Rf (pI (zp0 K X Rf (fun r : Int => r = spB Sd spans))) := by
  refine Ct.of (by decide +kernel) (Nat.le_of_ble_eq_true rfl) ?_
  intro p e s m below meth c ls hx hb hr hml hown hG hlocks hname hw hl
  have hl : lv_has ls 2 [(0, .ref se), (1, .int (iI spans))] := hl
  have e2 : X se 2 = bdS Sd := hD.1.2.1
  have e3 : X se 3 = Sd 2 := hD.1.2.2.1
  refine lv_aload_n (pc := 0) hx hb dX5_spanBegin_0 rfl (lv_at hl 0 rfl) ?_
  refine zgetI (pc := 1) hx hb hG hown hw hk (T := TX5) rfl 3 (by decide) rfl wf_X5_19 rfl dX5_spanBegin_1 ?_
  rcases (by omega : (X se 3) = 0 ∨ (X se 3) = 1 ∨ (X se 3) = 2 ∨ ((X se 3) < 0 ∨ 2 < (X se 3))) with hs | hs | hs | hs
  · skip
    refine zswIn (pc := 4) (k := 0) (tgt := 32) hx hb hs dX5_spanBegin_4 (by decide) (by decide) rfl (by decide) ?_
    refine lv_aload_n (pc := 32) hx hb dX5_spanBegin_32 rfl (lv_at hl 0 rfl) ?_
    refine zgetI (pc := 33) hx hb hG hown hw hk (T := TX5) rfl 2 (by decide) rfl wf_X5_28 rfl dX5_spanBegin_33 ?_
    refine lv_iload_n (pc := 36) hx hb dX5_spanBegin_36 rfl (lv_at hl 1 rfl) ?_
    refine zadd (pc := 37) hx hb dX5_spanBegin_37 ?_
    exact zretI (pc := 38) hx hb hlocks hr hw (Nat.zero_le _) (Nat.zero_le _) dX5_spanBegin_38 ⟨by (try dsimp only) <;> (
                                        have d0 : Sd 2 = 0 ∨ Sd 2 = 1 ∨ Sd 2 = 2 ∨ Sd 2 = 3 := by omega
                                        unfold spB
                                        rw [e2]
                                        first
                                        | (rw [if_pos (by omega)])
                                        | (rw [if_neg (by omega), if_pos (by omega)])
                                        | (rw [if_neg (by omega), if_neg (by omega), if_pos (by omega)])
                                        | (rw [if_neg (by omega), if_neg (by omega), if_neg (by omega)])), rfl, rfl, rfl⟩
  · skip
    refine zswIn (pc := 38) (k := 1) (tgt := 39) hx hb hs dX5_spanBegin_4 (by decide) (by decide) rfl (by decide) ?_
    refine lv_aload_n (pc := 39) hx hb dX5_spanBegin_39 rfl (lv_at hl 0 rfl) ?_
    refine zgetI (pc := 40) hx hb hG hown hw hk (T := TX5) rfl 2 (by decide) rfl wf_X5_28 rfl dX5_spanBegin_40 ?_
    refine lv_aload_n (pc := 43) hx hb dX5_spanBegin_43 rfl (lv_at hl 0 rfl) ?_
    refine zgetI (pc := 44) hx hb hG hown hw hk (T := TX5) rfl 2 (by decide) rfl wf_X5_28 rfl dX5_spanBegin_44 ?_
    refine zkIp (pc := 47) (zrS (As := [.int (iI (X se 2))]) hx hb hml hown hG hw (c_X1_weekday l Γ K X Rf (X se 2)  (by (first | assumption | omega))) cb_X1_weekday wl_X5_102 rfl ⟨Nat.le_of_ble_eq_true rfl, Nat.le_of_ble_eq_true rfl⟩ hl.1 rfl (Nat.le_of_ble_eq_true rfl) dX5_spanBegin_47 ⟨Nat.zero_le _, Nat.zero_le _⟩) hw (fun r47 H locs hp47 hw => ?_)
    subst hp47
    refine zsub (pc := 50) hx hb dX5_spanBegin_50 ?_
    refine zbipush (pc := 51) (n := 7) hx hb dX5_spanBegin_51 rfl ?_
    refine lv_iload_n (pc := 53) hx hb dX5_spanBegin_53 rfl (lv_at hl 1 rfl) ?_
    refine zmul (pc := 54) hx hb dX5_spanBegin_54 ?_
    refine zadd (pc := 55) hx hb dX5_spanBegin_55 ?_
    exact zretI (pc := 56) hx hb hlocks hr hw (Nat.zero_le _) (Nat.zero_le _) dX5_spanBegin_56 ⟨by (try dsimp only) <;> (
                                        have d0 : Sd 2 = 0 ∨ Sd 2 = 1 ∨ Sd 2 = 2 ∨ Sd 2 = 3 := by omega
                                        unfold spB
                                        rw [e2]
                                        first
                                        | (rw [if_pos (by omega)])
                                        | (rw [if_neg (by omega), if_pos (by omega)])
                                        | (rw [if_neg (by omega), if_neg (by omega), if_pos (by omega)])
                                        | (rw [if_neg (by omega), if_neg (by omega), if_neg (by omega)])), rfl, rfl, rfl⟩
  · skip
    refine zswIn (pc := 56) (k := 2) (tgt := 57) hx hb hs dX5_spanBegin_4 (by decide) (by decide) rfl (by decide) ?_
    refine lv_aload_n (pc := 57) hx hb dX5_spanBegin_57 rfl (lv_at hl 0 rfl) ?_
    refine zgetI (pc := 58) hx hb hG hown hw hk (T := TX5) rfl 2 (by decide) rfl wf_X5_28 rfl dX5_spanBegin_58 ?_
    refine zkIp (pc := 61) (zrS (As := [.int (iI (X se 2))]) hx hb hml hown hG hw (c_X1_monthWith l Γ K X Rf (X se 2)  (by (first | assumption | omega))) cb_X1_monthWith wl_X5_41 rfl ⟨Nat.le_of_ble_eq_true rfl, Nat.le_of_ble_eq_true rfl⟩ hl.1 rfl (Nat.le_of_ble_eq_true rfl) dX5_spanBegin_61 ⟨Nat.zero_le _, Nat.zero_le _⟩) hw (fun r61 H locs hp61 hw => ?_)
    subst hp61
    have hp61f0 := mi_rng (d := (X se 2)) (by omega) (by omega)
    refine lv_iload_n (pc := 64) hx hb dX5_spanBegin_64 rfl (lv_at hl 1 rfl) ?_
    refine zadd (pc := 65) hx hb dX5_spanBegin_65 ?_
    refine zkIp (pc := 66) (zrS (As := [.int (iI ((mi (X se 2)) + spans))]) hx hb hml hown hG hw (c_X1_monthBegin l Γ K X Rf ((mi (X se 2)) + spans)  (by (first | assumption | omega))) cb_X1_monthBegin wl_X5_105 rfl ⟨Nat.le_of_ble_eq_true rfl, Nat.le_of_ble_eq_true rfl⟩ hl.1 rfl (Nat.le_of_ble_eq_true rfl) dX5_spanBegin_66 ⟨Nat.zero_le _, Nat.zero_le _⟩) hw (fun r66 H locs hp66 hw => ?_)
    subst hp66
    have hp66f0 := mB_rng ((mi (X se 2)) + spans)
    exact zretI (pc := 69) hx hb hlocks hr hw (Nat.zero_le _) (Nat.zero_le _) dX5_spanBegin_69 ⟨by (try dsimp only) <;> (
                                        have d0 : Sd 2 = 0 ∨ Sd 2 = 1 ∨ Sd 2 = 2 ∨ Sd 2 = 3 := by omega
                                        unfold spB
                                        rw [e2]
                                        first
                                        | (rw [if_pos (by omega)])
                                        | (rw [if_neg (by omega), if_pos (by omega)])
                                        | (rw [if_neg (by omega), if_neg (by omega), if_pos (by omega)])
                                        | (rw [if_neg (by omega), if_neg (by omega), if_neg (by omega)])), rfl, rfl, rfl⟩
  · skip
    refine zswOut (pc := 69) (tgt := 70) hx hb (by omega) hs dX5_spanBegin_4 (by decide) ?_
    refine lv_aload_n (pc := 70) hx hb dX5_spanBegin_70 rfl (lv_at hl 0 rfl) ?_
    refine zgetI (pc := 71) hx hb hG hown hw hk (T := TX5) rfl 2 (by decide) rfl wf_X5_28 rfl dX5_spanBegin_71 ?_
    refine zkIp (pc := 74) (zrS (As := [.int (iI (X se 2))]) hx hb hml hown hG hw (c_X1_yearWith l Γ K X Rf (X se 2)  (by (first | assumption | omega))) cb_X1_yearWith wl_X5_108 rfl ⟨Nat.le_of_ble_eq_true rfl, Nat.le_of_ble_eq_true rfl⟩ hl.1 rfl (Nat.le_of_ble_eq_true rfl) dX5_spanBegin_74 ⟨Nat.zero_le _, Nat.zero_le _⟩) hw (fun r74 H locs hp74 hw => ?_)
    subst hp74
    have hp74f0 := yr_rng (d := (X se 2)) (by omega) (by omega)
    refine lv_iload_n (pc := 77) hx hb dX5_spanBegin_77 rfl (lv_at hl 1 rfl) ?_
    refine zadd (pc := 78) hx hb dX5_spanBegin_78 ?_
    refine zkIp (pc := 79) (zrS (As := [.int (iI ((1900 + yr (X se 2)) + spans))]) hx hb hml hown hG hw (c_X1_januaryOf l Γ K X Rf ((1900 + yr (X se 2)) + spans)  ) cb_X1_januaryOf wl_X5_111 rfl ⟨Nat.le_of_ble_eq_true rfl, Nat.le_of_ble_eq_true rfl⟩ hl.1 rfl (Nat.le_of_ble_eq_true rfl) dX5_spanBegin_79 ⟨Nat.zero_le _, Nat.zero_le _⟩) hw (fun r79 H locs hp79 hw => ?_)
    subst hp79
    refine zkIp (pc := 82) (zrS (As := [.int (iI (12 * (((1900 + yr (X se 2)) + spans) - 1900)))]) hx hb hml hown hG hw (c_X1_monthBegin l Γ K X Rf (12 * (((1900 + yr (X se 2)) + spans) - 1900))  (by (first | assumption | omega))) cb_X1_monthBegin wl_X5_105 rfl ⟨Nat.le_of_ble_eq_true rfl, Nat.le_of_ble_eq_true rfl⟩ hl.1 rfl (Nat.le_of_ble_eq_true rfl) dX5_spanBegin_82 ⟨Nat.zero_le _, Nat.zero_le _⟩) hw (fun r82 H locs hp82 hw => ?_)
    subst hp82
    have hp82f0 := mB_rng (12 * (((1900 + yr (X se 2)) + spans) - 1900))
    exact zretI (pc := 85) hx hb hlocks hr hw (Nat.zero_le _) (Nat.zero_le _) dX5_spanBegin_85 ⟨by (try dsimp only) <;> (
                                        have d0 : Sd 2 = 0 ∨ Sd 2 = 1 ∨ Sd 2 = 2 ∨ Sd 2 = 3 := by omega
                                        unfold spB
                                        rw [e2]
                                        first
                                        | (rw [if_pos (by omega)])
                                        | (rw [if_neg (by omega), if_pos (by omega)])
                                        | (rw [if_neg (by omega), if_neg (by omega), if_pos (by omega)])
                                        | (rw [if_neg (by omega), if_neg (by omega), if_neg (by omega)])), rfl, rfl, rfl⟩
set_option maxHeartbeats 4000000 in
set_option maxRecDepth 100000 in
theorem c_X5_rightWeekdays (l : Launch) (Γ : zG) (K : zK) (X : zX) (Rf : zR) (se : Nat) (Sd : Nat → Int) (hk : K se = (1, 4)) (hD : serD (X se) Sd) (hS : okS Sd) : Ct l yX5_rightWeekdays cX5_rightWeekdays 1 (some .int) 2 0 0 Γ [.ref se] K X Rf (pI (zp0 K X Rf (fun r : Int => r = rwS Sd))) := by
  refine Ct.of (by decide +kernel) (Nat.le_of_ble_eq_true rfl) ?_
  intro p e s m below meth c ls hx hb hr hml hown hG hlocks hname hw hl
  have hl : lv_has ls 1 [(0, .ref se)] := hl
  have e2 : X se 2 = bdS Sd := hD.1.2.1
  refine lv_aload_n (pc := 0) hx hb dX5_rightWeekdays_0 rfl (lv_at hl 0 rfl) ?_
  refine zgetI (pc := 1) hx hb hG hown hw hk (T := TX5) rfl 5 (by decide) rfl wf_X5_25 rfl dX5_rightWeekdays_1 ?_
  refine zif_eq (pc := 4) hx hb 12 (by omega) dX5_rightWeekdays_4 (by decide) (fun c4 => ?_) (fun c4 => ?_)
  · skip
    refine lv_aload_n (pc := 12) hx hb dX5_rightWeekdays_12 rfl (lv_at hl 0 rfl) ?_
    refine zgetI (pc := 13) hx hb hG hown hw hk (T := TX5) rfl 3 (by decide) rfl wf_X5_19 rfl dX5_rightWeekdays_13 ?_
    refine ziconst (pc := 16) (n := 1) hx hb dX5_rightWeekdays_16 ?_
    refine zicmp_ne (pc := 17) hx hb 39 (by omega) (by omega) dX5_rightWeekdays_17 (by decide) (fun c17 => ?_) (fun c17 => ?_)
    · skip
      refine zbipush (pc := 39) (n := 127) hx hb dX5_rightWeekdays_39 rfl ?_
      exact zretI (pc := 41) hx hb hlocks hr hw (Nat.zero_le _) (Nat.zero_le _) dX5_rightWeekdays_41 ⟨by (try dsimp only) <;> (
                                        unfold rwS
                                        first
                                        | (rw [if_pos (by omega)]; omega)
                                        | (rw [if_neg (by omega), if_pos ⟨by omega, by omega⟩, e2])
                                        | (rw [if_neg (by omega), if_neg (by omega)])), rfl, rfl, rfl⟩
    · skip
      refine lv_aload_n (pc := 20) hx hb dX5_rightWeekdays_20 rfl (lv_at hl 0 rfl) ?_
      refine zgetI (pc := 21) hx hb hG hown hw hk (T := TX5) rfl 9 (by decide) rfl wf_X5_63 rfl dX5_rightWeekdays_21 ?_
      refine zif_ne (pc := 24) hx hb 39 (by omega) dX5_rightWeekdays_24 (by decide) (fun c24 => ?_) (fun c24 => ?_)
      · skip
        refine zbipush (pc := 39) (n := 127) hx hb dX5_rightWeekdays_39 rfl ?_
        exact zretI (pc := 41) hx hb hlocks hr hw (Nat.zero_le _) (Nat.zero_le _) dX5_rightWeekdays_41 ⟨by (try dsimp only) <;> (
                                        unfold rwS
                                        first
                                        | (rw [if_pos (by omega)]; omega)
                                        | (rw [if_neg (by omega), if_pos ⟨by omega, by omega⟩, e2])
                                        | (rw [if_neg (by omega), if_neg (by omega)])), rfl, rfl, rfl⟩
      · skip
        refine ziconst (pc := 27) (n := 1) hx hb dX5_rightWeekdays_27 ?_
        refine lv_aload_n (pc := 28) hx hb dX5_rightWeekdays_28 rfl (lv_at hl 0 rfl) ?_
        refine zgetI (pc := 29) hx hb hG hown hw hk (T := TX5) rfl 2 (by decide) rfl wf_X5_28 rfl dX5_rightWeekdays_29 ?_
        refine zkIp (pc := 32) (zrS (As := [.int (iI (X se 2))]) hx hb hml hown hG hw (c_X1_weekday l Γ K X Rf (X se 2)  (by (first | assumption | omega))) cb_X1_weekday wl_X5_102 rfl ⟨Nat.le_of_ble_eq_true rfl, Nat.le_of_ble_eq_true rfl⟩ hl.1 rfl (Nat.le_of_ble_eq_true rfl) dX5_rightWeekdays_32 ⟨Nat.zero_le _, Nat.zero_le _⟩) hw (fun r32 H locs hp32 hw => ?_)
        subst hp32
        refine zshl (pc := 35) hx hb (by omega) dX5_rightWeekdays_35 ?_
        refine lv_goto (pc := 36) (tgt := 41) hx hb dX5_rightWeekdays_36 (by decide) ?_
        exact zretI (pc := 41) hx hb hlocks hr hw (Nat.zero_le _) (Nat.zero_le _) dX5_rightWeekdays_41 ⟨by (try dsimp only) <;> (
                                        unfold rwS
                                        first
                                        | (rw [if_pos (by omega)]; omega)
                                        | (rw [if_neg (by omega), if_pos ⟨by omega, by omega⟩, e2])
                                        | (rw [if_neg (by omega), if_neg (by omega)])), rfl, rfl, rfl⟩
  · skip
    refine lv_aload_n (pc := 7) hx hb dX5_rightWeekdays_7 rfl (lv_at hl 0 rfl) ?_
    refine zgetI (pc := 8) hx hb hG hown hw hk (T := TX5) rfl 5 (by decide) rfl wf_X5_25 rfl dX5_rightWeekdays_8 ?_
    exact zretI (pc := 11) hx hb hlocks hr hw (Nat.zero_le _) (Nat.zero_le _) dX5_rightWeekdays_11 ⟨by (try dsimp only) <;> (
                                        unfold rwS
                                        first
                                        | (rw [if_pos (by omega)]; omega)
                                        | (rw [if_neg (by omega), if_pos ⟨by omega, by omega⟩, e2])
                                        | (rw [if_neg (by omega), if_neg (by omega)])), rfl, rfl, rfl⟩
set_option maxHeartbeats 4000000 in
set_option maxRecDepth 100000 in
theorem c_X5_isException (l : Launch) (Γ : zG) (K : zK) (X : zX) (Rf : zR) (se : Nat) (day : Int) (Sd : Nat → Int) (Ex : Nat → Int) (eo : Nat) (hk : K se = (1, 4)) (hD : serD (X se) Sd) (hS : okS Sd) (hr13 : Rf se 13 = some eo) (hkeo : K eo = (2, 8)) (hE : ∀ k : Nat, (k : Int) < Sd 10 → X eo k = Ex k) (h1 : fit day) : Ct l yX5_isException cX5_isException 3 (some .boolean) 0 0 0 Γ [.ref se, .int (iI day)] K X Rf (pI (zp0 K X Rf (fun r : Int => r = exV Ex day (Sd 10).toNat))) := by
  refine Ct.of (by decide +kernel) (Nat.le_of_ble_eq_true rfl) ?_
  intro p e s m below meth c ls hx hb hr hml hown hG hlocks hname hw hl
  have hl : lv_has ls 3 [(0, .ref se), (1, .int (iI day))] := hl
  refine ziconst (pc := 0) (n := 0) hx hb dX5_isException_0 ?_
  refine lv_istore_n (pc := 1) (lv' := [(2, .int (iI 0)), (0, .ref se), (1, .int (iI day))]) hx hb dX5_isException_1 rfl hl (by decide) rfl (fun ls hl => ?_)
  have lp2 : ∀ (n2 : Nat) (kk : Int) (H : Heap) (locs : List Loc), (hi : 0 ≤ kk ∧ kk ≤ Sd 10) → (hx9 : exB Ex day kk.toNat = false) → ((8 - kk).toNat < n2) → Wd Γ (zA K s.heap.size) K X Rf s H locs → ∀ ls : Array Slot, lv_has ls 3 [(2, .int (iI kk)), (0, .ref se), (1, .int (iI day))] → W p l e (rmL 0 0 0) s m ([.ref se, .int (iI day)] : List Value).toArray below meth c H locs 0 0 (MQ below (zQ Γ K s.heap.size (pI (zp0 K X Rf (fun r : Int => r = exV Ex day (Sd 10).toNat)))) ([.ref se, .int (iI day)] : List Value).toArray s 0 0 (zA K s.heap.size)) (F0 m 2 ls []) := by
    intro n2
    induction n2 with
    | zero => intro kk H locs hi hx9 hm2; exact absurd hm2 (Nat.not_lt_zero _)
    | succ n2 ih2 =>
      intro kk H locs hi hx9 hm2 hw ls hl
      refine lv_iload_n (pc := 2) hx hb dX5_isException_2 rfl (lv_at hl 0 rfl) ?_
      refine lv_aload_n (pc := 3) hx hb dX5_isException_3 rfl (lv_at hl 1 rfl) ?_
      refine zgetI (pc := 4) hx hb hG hown hw hk (T := TX5) rfl 14 (by decide) rfl wf_X5_79 rfl dX5_isException_4 ?_
      refine zicmp_ge (pc := 7) hx hb 37 (by omega) (by omega) dX5_isException_7 (by decide) (fun c7 => ?_) (fun c7 => ?_)
      · skip
        refine ziconst (pc := 37) (n := 0) hx hb dX5_isException_37 ?_
        exact zretZ (pc := 38) hx hb hlocks hr (Or.inl rfl) hw (Nat.zero_le _) (Nat.zero_le _) dX5_isException_38 ⟨by (try dsimp only) <;> (exact (exV_no (by rw [show (Sd 10).toNat = kk.toNat by omega]; exact hx9)).symm), rfl, rfl, rfl⟩
      · skip
        refine lv_iload_n (pc := 10) hx hb dX5_isException_10 rfl (lv_at hl 0 rfl) ?_
        refine lv_aload_n (pc := 11) hx hb dX5_isException_11 rfl (lv_at hl 1 rfl) ?_
        refine zgetR (pc := 12) hx hb hG hown hw hk (T := TX5) rfl 13 (by decide) rfl wf_X5_75 rfl hr13 dX5_isException_12 ?_
        refine zlen2 (pc := 15) hx hb hw hkeo dX5_isException_15 ?_
        refine zicmp_ge (pc := 16) hx hb 37 (by omega) (by omega) dX5_isException_16 (by decide) (fun c16 => ?_) (fun c16 => ?_)
        · skip
          exfalso; omega
        · skip
          refine lv_aload_n (pc := 19) hx hb dX5_isException_19 rfl (lv_at hl 1 rfl) ?_
          refine zgetR (pc := 20) hx hb hG hown hw hk (T := TX5) rfl 13 (by decide) rfl wf_X5_75 rfl hr13 dX5_isException_20 ?_
          refine lv_iload_n (pc := 23) hx hb dX5_isException_23 rfl (lv_at hl 0 rfl) ?_
          refine zald (pc := 24) hx hb hw hkeo ⟨by omega, by omega⟩ (by omega) dX5_isException_24 ?_
          have hek := hE kk.toNat (by omega)
          refine lv_iload_n (pc := 25) hx hb dX5_isException_25 rfl (lv_at hl 2 rfl) ?_
          refine zicmp_ne (pc := 26) hx hb 31 (by omega) (by omega) dX5_isException_26 (by decide) (fun c26 => ?_) (fun c26 => ?_)
          · skip
            refine ziinc (pc := 31) (lv' := [(2, .int (iI (kk + 1))), (0, .ref se), (1, .int (iI day))]) hx hb 0 dX5_isException_31 hl rfl (by decide) rfl (fun ls hl => ?_)
            obtain ⟨x31, ex31⟩ : ∃ zz : Int, zz = (kk + 1) := ⟨_, rfl⟩
            rw [← ex31] at hl
            refine lv_goto (pc := 34) (tgt := 2) hx hb dX5_isException_34 (by decide) ?_
            exact ih2 x31 _ _ (by (first | assumption | omega)) (by rw [ex31, show (kk + 1).toNat = kk.toNat + 1 by omega]; unfold exB; rw [hx9]; have := hE kk.toNat (by omega); simp; omega) (by omega) hw _ (lv_sub hl [0, 1, 2] rfl)
          · skip
            refine ziconst (pc := 29) (n := 1) hx hb dX5_isException_29 ?_
            exact zretZ (pc := 30) hx hb hlocks hr (Or.inr rfl) hw (Nat.zero_le _) (Nat.zero_le _) dX5_isException_30 ⟨by (try dsimp only) <;> (exact (exV_hit (k := kk.toNat) (by omega) (by omega)).symm), rfl, rfl, rfl⟩
  exact lp2 _ 0 _ _ (by (first | assumption | omega)) (by rfl) (Nat.lt_succ_self _) hw _ (lv_sub hl [0, 1, 2] rfl)
set_option maxHeartbeats 4000000 in
set_option maxRecDepth 100000 in
theorem c_X5_date (l : Launch) (Γ : zG) (K : zK) (X : zX) (Rf : zR) (se : Nat) (k : Int) (fo : Nat) (hk : K se = (1, 4)) (hr15 : Rf se 15 = some fo) (hkfo : K fo = (2, 4001)) (h16 : 0 ≤ X se 16 ∧ X se 16 ≤ 4001) (h1 : fit k) : Ct l yX5_date cX5_date 2 (some .int) 0 0 0 Γ [.ref se, .int (iI k)] K X Rf (pI (zp0 K X Rf (fun r : Int => r = dtA (X se 16) (X fo) k))) := by
  refine Ct.of (by decide +kernel) (Nat.le_of_ble_eq_true rfl) ?_
  intro p e s m below meth c ls hx hb hr hml hown hG hlocks hname hw hl
  have hl : lv_has ls 2 [(0, .ref se), (1, .int (iI k))] := hl
  refine lv_iload_n (pc := 0) hx hb dX5_date_0 rfl (lv_at hl 1 rfl) ?_
  refine zif_lt (pc := 1) hx hb 21 (by omega) dX5_date_1 (by decide) (fun c1 => ?_) (fun c1 => ?_)
  · skip
    refine ziconst (pc := 21) (n := (-1)) hx hb dX5_date_21 ?_
    refine lv_goto (pc := 22) (tgt := 31) hx hb dX5_date_22 (by decide) ?_
    exact zretI (pc := 31) hx hb hlocks hr hw (Nat.zero_le _) (Nat.zero_le _) dX5_date_31 ⟨by (try dsimp only) <;> (unfold dtA; first | (rw [if_pos (by omega)]) | (rw [if_neg (by omega)])), rfl, rfl, rfl⟩
  · skip
    refine lv_iload_n (pc := 4) hx hb dX5_date_4 rfl (lv_at hl 1 rfl) ?_
    refine lv_aload_n (pc := 5) hx hb dX5_date_5 rfl (lv_at hl 0 rfl) ?_
    refine zgetI (pc := 6) hx hb hG hown hw hk (T := TX5) rfl 16 (by decide) rfl wf_X5_85 rfl dX5_date_6 ?_
    refine zicmp_ge (pc := 9) hx hb 21 (by omega) (by omega) dX5_date_9 (by decide) (fun c9 => ?_) (fun c9 => ?_)
    · skip
      refine ziconst (pc := 21) (n := (-1)) hx hb dX5_date_21 ?_
      refine lv_goto (pc := 22) (tgt := 31) hx hb dX5_date_22 (by decide) ?_
      exact zretI (pc := 31) hx hb hlocks hr hw (Nat.zero_le _) (Nat.zero_le _) dX5_date_31 ⟨by (try dsimp only) <;> (unfold dtA; first | (rw [if_pos (by omega)]) | (rw [if_neg (by omega)])), rfl, rfl, rfl⟩
    · skip
      refine lv_iload_n (pc := 12) hx hb dX5_date_12 rfl (lv_at hl 1 rfl) ?_
      refine lv_aload_n (pc := 13) hx hb dX5_date_13 rfl (lv_at hl 0 rfl) ?_
      refine zgetR (pc := 14) hx hb hG hown hw hk (T := TX5) rfl 15 (by decide) rfl wf_X5_82 rfl hr15 dX5_date_14 ?_
      refine zlen2 (pc := 17) hx hb hw hkfo dX5_date_17 ?_
      refine zicmp_lt (pc := 18) hx hb 25 (by omega) (by omega) dX5_date_18 (by decide) (fun c18 => ?_) (fun c18 => ?_)
      · skip
        refine lv_aload_n (pc := 25) hx hb dX5_date_25 rfl (lv_at hl 0 rfl) ?_
        refine zgetR (pc := 26) hx hb hG hown hw hk (T := TX5) rfl 15 (by decide) rfl wf_X5_82 rfl hr15 dX5_date_26 ?_
        refine lv_iload_n (pc := 29) hx hb dX5_date_29 rfl (lv_at hl 1 rfl) ?_
        refine zald (pc := 30) hx hb hw hkfo ⟨by omega, by omega⟩ (by omega) dX5_date_30 ?_
        exact zretI (pc := 31) hx hb hlocks hr hw (Nat.zero_le _) (Nat.zero_le _) dX5_date_31 ⟨by (try dsimp only) <;> (unfold dtA; first | (rw [if_pos (by omega)]) | (rw [if_neg (by omega)])), rfl, rfl, rfl⟩
      · skip
        exfalso; omega
set_option maxHeartbeats 4000000 in
set_option maxRecDepth 100000 in
theorem c_X5_markDay (l : Launch) (Γ : zG) (K : zK) (X : zX) (Rf : zR) (dr : Nat) (day : Int) (right : Int) (na : Nat) (n : Nat) (hkd : K dr = (1, 0)) (hr0 : Rf dr 0 = some na) (hkn : K na = (2, n)) (hn : n ≤ 10000) (hb0 : (-100000 ≤ X dr 1 ∧ X dr 1 ≤ 200000) ∧ -100000 ≤ X dr 2 ∧ X dr 2 ≤ 200000) (hd : -100000 ≤ day ∧ day ≤ 200000) (h2 : 0 ≤ right ∧ right ≤ 127) : Ct l yX5_markDay cX5_markDay 3 none 2 0 0 Γ [.ref dr, .int (iI day), .int (iI right)] K X Rf (pV (zpv K Rf (fun X' : zX => X' = if bitw right day ≠ 0 then wrX X dr na n day 1 else X))) := by
  refine Ct.of (by decide +kernel) (Nat.le_of_ble_eq_true rfl) ?_
  intro p e s m below meth c ls hx hb hr hml hown hG hlocks hname hw hl
  have hl : lv_has ls 3 [(0, .ref dr), (1, .int (iI day)), (2, .int (iI right))] := hl
  refine lv_iload_n (pc := 0) hx hb dX5_markDay_0 rfl (lv_at hl 2 rfl) ?_
  refine lv_iload_n (pc := 1) hx hb dX5_markDay_1 rfl (lv_at hl 1 rfl) ?_
  refine zkIp (pc := 2) (zrS (As := [.int (iI right), .int (iI day)]) hx hb hml hown hG hw (c_X1_isIn l Γ K X Rf right day  (by (first | assumption | omega)) (by (first | assumption | omega))) cb_X1_isIn wl_X5_140 rfl ⟨Nat.le_of_ble_eq_true rfl, Nat.le_of_ble_eq_true rfl⟩ hl.1 rfl (Nat.le_of_ble_eq_true rfl) dX5_markDay_2 ⟨Nat.zero_le _, Nat.zero_le _⟩) hw (fun r2 H locs hp2 hw => ?_)
  subst hp2
  refine zif_eq (pc := 5) hx hb 14 (by omega) dX5_markDay_5 (by decide) (fun c5 => ?_) (fun c5 => ?_)
  · skip
    exact zretV (pc := 14) hx hb hlocks hr hw (Nat.zero_le _) (Nat.zero_le _) dX5_markDay_14 ⟨by (try dsimp only) <;> (first | (rw [if_pos (by omega)]; exact hp11) | (rw [if_neg (by omega)])), rfl, rfl⟩
  · skip
    refine lv_aload_n (pc := 8) hx hb dX5_markDay_8 rfl (lv_at hl 0 rfl) ?_
    refine lv_iload_n (pc := 9) hx hb dX5_markDay_9 rfl (lv_at hl 1 rfl) ?_
    refine ziconst (pc := 10) (n := 1) hx hb dX5_markDay_10 ?_
    refine zkVx (pc := 11) (zrV (As := [.int (iI day), .int (iI 1)]) hx hb hml hown hG hw (c_X0_write l Γ K X Rf dr day 1 na n (by (first | assumption | omega)) (by (first | assumption | omega)) (by (first | assumption | omega)) (by (first | assumption | omega)) (by (first | assumption | omega)) (by (first | assumption | omega))) (T := TX0) hkd rfl cb_X0_write wl_X5_144 rfl ⟨Nat.le_of_ble_eq_true rfl, Nat.le_of_ble_eq_true rfl⟩ hl.1 rfl (Nat.le_of_ble_eq_true rfl) dX5_markDay_11 ⟨Nat.zero_le _, Nat.zero_le _⟩) hw (fun X11 H locs hp11 hw => ?_)
    exact zretV (pc := 14) hx hb hlocks hr hw (Nat.zero_le _) (Nat.zero_le _) dX5_markDay_14 ⟨by (try dsimp only) <;> (first | (rw [if_pos (by omega)]; exact hp11) | (rw [if_neg (by omega)])), rfl, rfl⟩
set_option maxHeartbeats 4000000 in
set_option maxRecDepth 100000 in
theorem c_X5_markTold_n (l : Launch) (Γ : zG) (K : zK) (X : zX) (Rf : zR) (se : Nat) (dr : Nat) (Sd : Nat → Int) (na : Nat) (n : Nat) (hk : K se = (1, 4)) (hD : serD (X se) Sd) (hS : okS Sd) (hkd : K dr = (1, 0)) (hr0 : Rf dr 0 = some na) (hkn : K na = (2, n)) (hn : n ≤ 10000) (hrg : (0 ≤ X dr 1 ∧ X dr 1 ≤ X dr 2) ∧ X dr 2 ≤ 73048 ∧ X dr 2 - X dr 1 < n) : Ct l yX5_markTold cX5_markTold 7 none 3 0 0 Γ [.ref se, .ref dr, .null] K X Rf (pV (zpv K Rf (fun X' : zX => (∀ d : Int, X dr 1 ≤ d → d ≤ X dr 2 → rdv X' dr na n d = if bitw (rwS Sd) d ≠ 0 then 1 else rdv X dr na n d) ∧ (∀ a, a ≠ na → X' a = X a)))) := by
  refine Ct.of (by decide +kernel) (Nat.le_of_ble_eq_true rfl) ?_
  intro p e s m below meth c ls hx hb hr hml hown hG hlocks hname hw hl
  have hl : lv_has ls 7 [(0, .ref se), (1, .ref dr), (2, .null)] := hl
  have hne : dr ≠ na := zkne hkd hkn (by simp)
  refine lv_aload_n (pc := 0) hx hb dX5_markTold_0 rfl (lv_at hl 0 rfl) ?_
  refine zkIp (pc := 1) (zrV (As := []) hx hb hml hown hG hw (c_X5_rightWeekdays l Γ K X Rf se Sd (by (first | assumption | omega)) (by (first | assumption | omega)) (by (first | assumption | omega))) (T := TX5) hk rfl cb_X5_rightWeekdays wl_X5_124 rfl ⟨Nat.le_of_ble_eq_true rfl, Nat.le_of_ble_eq_true rfl⟩ hl.1 rfl (Nat.le_of_ble_eq_true rfl) dX5_markTold_1 ⟨Nat.zero_le _, Nat.zero_le _⟩) hw (fun r1 H locs hp1 hw => ?_)
  subst hp1
  have hp1f0 := rwS_rng (Sd := Sd) (by assumption)
  refine ztop (fun x4 ex4 => ?_)
  refine lv_istore_n (pc := 4) (lv' := [(3, .int (iI x4)), (0, .ref se), (1, .ref dr), (2, .null)]) hx hb dX5_markTold_4 rfl hl (by decide) rfl (fun ls hl => ?_)
  refine lv_aload_nN (pc := 5) hx hb dX5_markTold_5 rfl (lv_at hl 3 rfl) ?_
  refine lv_ifnonnullN (pc := 6) hx hb dX5_markTold_6 ?_
  refine lv_aload_n (pc := 9) hx hb dX5_markTold_9 rfl (lv_at hl 2 rfl) ?_
  refine zkIp (pc := 10) (zrV (As := []) hx hb hml hown hG hw (c_X0_firstDay l Γ K X Rf dr  (by (first | assumption | omega))) (T := TX0) hkd rfl cb_X0_firstDay wl_X5_128 rfl ⟨Nat.le_of_ble_eq_true rfl, Nat.le_of_ble_eq_true rfl⟩ hl.1 rfl (Nat.le_of_ble_eq_true rfl) dX5_markTold_10 ⟨Nat.zero_le _, Nat.zero_le _⟩) hw (fun r10 H locs hp10 hw => ?_)
  subst hp10
  refine ztop (fun x13 ex13 => ?_)
  refine lv_istore (pc := 13) (lv' := [(4, .int (iI x13)), (3, .int (iI x4)), (0, .ref se), (1, .ref dr), (2, .null)]) hx hb dX5_markTold_13 hl (by decide) rfl (fun ls hl => ?_)
  have lp15 : ∀ (n15 : Nat) (dd : Int) (XL15 : zX) (H : Heap) (locs : List Loc), (hi : X dr 1 ≤ dd ∧ dd ≤ X dr 2 + 1) → (hv : ∀ d : Int, X dr 1 ≤ d → d ≤ X dr 2 → rdv XL15 dr na n d = if d < dd ∧ bitw (rwS Sd) d ≠ 0 then 1 else rdv X dr na n d) → (ho : (∀ a, a ≠ na → XL15 a = X a)) → ((X dr 2 + 1 - dd).toNat < n15) → Wd Γ (zA K s.heap.size) K XL15 Rf s H locs → ∀ ls : Array Slot, lv_has ls 7 [(4, .int (iI dd)), (3, .int (iI x4)), (0, .ref se), (1, .ref dr), (2, .null)] → W p l e (rmL 3 0 0) s m ([.ref se, .ref dr, .null] : List Value).toArray below meth c H locs 0 0 (MQ below (zQ Γ K s.heap.size (pV (zpv K Rf (fun X' : zX => (∀ d : Int, X dr 1 ≤ d → d ≤ X dr 2 → rdv X' dr na n d = if bitw (rwS Sd) d ≠ 0 then 1 else rdv X dr na n d) ∧ (∀ a, a ≠ na → X' a = X a))))) ([.ref se, .ref dr, .null] : List Value).toArray s 0 0 (zA K s.heap.size)) (F0 m 15 ls []) := by
    intro n15
    induction n15 with
    | zero => intro dd XL15 H locs hi hv ho hm15; exact absurd hm15 (Nat.not_lt_zero _)
    | succ n15 ih15 =>
      intro dd XL15 H locs hi hv ho hm15 hw ls hl
      have hdr : XL15 dr = X dr := ho dr hne
      have hd1 : XL15 dr 1 = X dr 1 := by rw [hdr]
      have hd2 : XL15 dr 2 = X dr 2 := by rw [hdr]
      refine lv_iload (pc := 15) hx hb dX5_markTold_15 (lv_at hl 0 rfl) ?_
      refine lv_aload_n (pc := 17) hx hb dX5_markTold_17 rfl (lv_at hl 3 rfl) ?_
      refine zkIp (pc := 18) (zrV (As := []) hx hb hml hown hG hw (c_X0_lastDay l Γ K XL15 Rf dr  (by (first | assumption | omega))) (T := TX0) hkd rfl cb_X0_lastDay wl_X5_131 rfl ⟨Nat.le_of_ble_eq_true rfl, Nat.le_of_ble_eq_true rfl⟩ hl.1 rfl (Nat.le_of_ble_eq_true rfl) dX5_markTold_18 ⟨Nat.zero_le _, Nat.zero_le _⟩) hw (fun r18 H locs hp18 hw => ?_)
      subst hp18
      refine zicmp_gt (pc := 21) hx hb 37 (by omega) (by omega) dX5_markTold_21 (by decide) (fun c21 => ?_) (fun c21 => ?_)
      · skip
        exact zretV (pc := 37) hx hb hlocks hr hw (Nat.zero_le _) (Nat.zero_le _) dX5_markTold_37 ⟨by (try dsimp only) <;> (
                                        refine ⟨fun d g1 g2 => ?_, ho⟩
                                        rw [hv d g1 g2]
                                        by_cases g : bitw (rwS Sd) d ≠ 0
                                        · rw [if_pos ⟨by omega, g⟩, if_pos g]
                                        · rw [if_neg (fun h => g h.2), if_neg g]), rfl, rfl⟩
      · skip
        refine lv_aload_n (pc := 24) hx hb dX5_markTold_24 rfl (lv_at hl 3 rfl) ?_
        refine lv_iload (pc := 25) hx hb dX5_markTold_25 (lv_at hl 0 rfl) ?_
        refine lv_iload_n (pc := 27) hx hb dX5_markTold_27 rfl (lv_at hl 1 rfl) ?_
        refine zkVx (pc := 28) (zrS (As := [.ref dr, .int (iI dd), .int (iI x4)]) hx hb hml hown hG hw (c_X5_markDay l Γ K XL15 Rf dr dd x4 na n (by (first | assumption | omega)) (by (first | assumption | omega)) (by (first | assumption | omega)) (by (first | assumption | omega)) (by (first | assumption | omega)) (by (first | assumption | omega)) (by (first | assumption | omega))) cb_X5_markDay wl_X5_134 rfl ⟨Nat.le_of_ble_eq_true rfl, Nat.le_of_ble_eq_true rfl⟩ hl.1 rfl (Nat.le_of_ble_eq_true rfl) dX5_markTold_28 ⟨Nat.zero_le _, Nat.zero_le _⟩) hw (fun X28 H locs hp28 hw => ?_)
        refine ziinc (pc := 31) (lv' := [(4, .int (iI (dd + 1))), (3, .int (iI x4)), (0, .ref se), (1, .ref dr), (2, .null)]) hx hb 0 dX5_markTold_31 hl rfl (by decide) rfl (fun ls hl => ?_)
        obtain ⟨x31, ex31⟩ : ∃ zz : Int, zz = (dd + 1) := ⟨_, rfl⟩
        rw [← ex31] at hl
        refine lv_goto (pc := 34) (tgt := 15) hx hb dX5_markTold_34 (by decide) ?_
        exact ih15 x31 X28 _ _ (by (first | assumption | omega)) (by 
                                        intro d g1 g2
                                        rw [hp28]
                                        split
                                        · next q =>
                                          rw [rdv_wr hne, hd1, hd2]
                                          by_cases g : d = dd
                                          · subst g; rw [if_pos ⟨rfl, by omega⟩, if_pos ⟨by omega, by rw [← ex4]; exact q⟩]
                                          · rw [if_neg (fun h => g h.1), hv d g1 g2]
                                            by_cases g' : d < dd ∧ bitw (rwS Sd) d ≠ 0
                                            · rw [if_pos g', if_pos ⟨by omega, g'.2⟩]
                                            · rw [if_neg g', if_neg (fun h => g' ⟨by omega, h.2⟩)]
                                        · next q =>
                                          rw [hv d g1 g2]
                                          by_cases g' : d < dd ∧ bitw (rwS Sd) d ≠ 0
                                          · rw [if_pos g', if_pos ⟨by omega, g'.2⟩]
                                          · rw [if_neg g', if_neg (fun h => by
                                              by_cases g : d = dd
                                              · subst g; rw [← ex4] at h; exact q h.2
                                              · exact g' ⟨by omega, h.2⟩)]) (by intro a ha; rw [hp28]; split; rw [wrX_o ha]; exact ho a ha; exact ho a ha) (by omega) hw _ (lv_sub hl [0, 1, 2, 3, 4] rfl)
  exact lp15 _ x13 X _ _ (by (first | assumption | omega)) (by intro d h1 h2; rw [if_neg (by omega)]) (by intro a _; rfl) (Nat.lt_succ_self _) hw _ (lv_sub hl [0, 1, 2, 3, 4] rfl)
set_option maxHeartbeats 4000000 in
set_option maxRecDepth 100000 in
theorem c_X5_markTold (l : Launch) (Γ : zG) (K : zK) (X : zX) (Rf : zR) (se : Nat) (dr : Nat) (pa : Nat) (Sd : Nat → Int) (na : Nat) (n : Nat) (hk : K se = (1, 4)) (hD : serD (X se) Sd) (hS : okS Sd) (hkd : K dr = (1, 0)) (hr0 : Rf dr 0 = some na) (hkn : K na = (2, n)) (hn : n ≤ 10000) (hrg : (0 ≤ X dr 1 ∧ X dr 1 ≤ X dr 2) ∧ X dr 2 ≤ 73048 ∧ X dr 2 - X dr 1 < n) (hkp : K pa = (1, 2)) (hP : okP (X pa)) : Ct l yX5_markTold cX5_markTold 7 none 3 0 0 Γ [.ref se, .ref dr, .ref pa] K X Rf (pV (zpv K Rf (fun X' : zX => (∀ d : Int, X dr 1 ≤ d → d ≤ X dr 2 → rdv X' dr na n d = if told (X pa) (mi d) = d ∧ bitw (rwS Sd) d ≠ 0 then 1 else rdv X dr na n d) ∧ (∀ a, a ≠ na → X' a = X a)))) := by
  refine Ct.of (by decide +kernel) (Nat.le_of_ble_eq_true rfl) ?_
  intro p e s m below meth c ls hx hb hr hml hown hG hlocks hname hw hl
  have hl : lv_has ls 7 [(0, .ref se), (1, .ref dr), (2, .ref pa)] := hl
  have hne : dr ≠ na := zkne hkd hkn (by simp)
  have hnp : pa ≠ na := zkne hkp hkn (by simp)
  refine lv_aload_n (pc := 0) hx hb dX5_markTold_0 rfl (lv_at hl 0 rfl) ?_
  refine zkIp (pc := 1) (zrV (As := []) hx hb hml hown hG hw (c_X5_rightWeekdays l Γ K X Rf se Sd (by (first | assumption | omega)) (by (first | assumption | omega)) (by (first | assumption | omega))) (T := TX5) hk rfl cb_X5_rightWeekdays wl_X5_124 rfl ⟨Nat.le_of_ble_eq_true rfl, Nat.le_of_ble_eq_true rfl⟩ hl.1 rfl (Nat.le_of_ble_eq_true rfl) dX5_markTold_1 ⟨Nat.zero_le _, Nat.zero_le _⟩) hw (fun r1 H locs hp1 hw => ?_)
  subst hp1
  have hp1f0 := rwS_rng (Sd := Sd) (by assumption)
  refine ztop (fun x4 ex4 => ?_)
  refine lv_istore_n (pc := 4) (lv' := [(3, .int (iI x4)), (0, .ref se), (1, .ref dr), (2, .ref pa)]) hx hb dX5_markTold_4 rfl hl (by decide) rfl (fun ls hl => ?_)
  refine lv_aload_n (pc := 5) hx hb dX5_markTold_5 rfl (lv_at hl 3 rfl) ?_
  refine lv_ifnonnull (pc := 6) (tgt := 38) hx hb dX5_markTold_6 (by decide) ?_
  refine lv_aload_n (pc := 38) hx hb dX5_markTold_38 rfl (lv_at hl 2 rfl) ?_
  refine zkIp (pc := 39) (zrV (As := []) hx hb hml hown hG hw (c_X0_lastDay l Γ K X Rf dr  (by (first | assumption | omega))) (T := TX0) hkd rfl cb_X0_lastDay wl_X5_131 rfl ⟨Nat.le_of_ble_eq_true rfl, Nat.le_of_ble_eq_true rfl⟩ hl.1 rfl (Nat.le_of_ble_eq_true rfl) dX5_markTold_39 ⟨Nat.zero_le _, Nat.zero_le _⟩) hw (fun r39 H locs hp39 hw => ?_)
  subst hp39
  refine zkIp (pc := 42) (zrS (As := [.int (iI (X dr 2))]) hx hb hml hown hG hw (c_X1_monthWith l Γ K X Rf (X dr 2)  (by (first | assumption | omega))) cb_X1_monthWith wl_X5_41 rfl ⟨Nat.le_of_ble_eq_true rfl, Nat.le_of_ble_eq_true rfl⟩ hl.1 rfl (Nat.le_of_ble_eq_true rfl) dX5_markTold_42 ⟨Nat.zero_le _, Nat.zero_le _⟩) hw (fun r42 H locs hp42 hw => ?_)
  subst hp42
  have hp42f0 := mi_rng (d := (X dr 2)) (by omega) (by omega)
  refine ztop (fun x45 ex45 => ?_)
  refine lv_istore (pc := 45) (lv' := [(4, .int (iI x45)), (3, .int (iI x4)), (0, .ref se), (1, .ref dr), (2, .ref pa)]) hx hb dX5_markTold_45 hl (by decide) rfl (fun ls hl => ?_)
  refine lv_aload_n (pc := 47) hx hb dX5_markTold_47 rfl (lv_at hl 3 rfl) ?_
  refine zkIp (pc := 48) (zrV (As := []) hx hb hml hown hG hw (c_X0_firstDay l Γ K X Rf dr  (by (first | assumption | omega))) (T := TX0) hkd rfl cb_X0_firstDay wl_X5_128 rfl ⟨Nat.le_of_ble_eq_true rfl, Nat.le_of_ble_eq_true rfl⟩ hl.1 rfl (Nat.le_of_ble_eq_true rfl) dX5_markTold_48 ⟨Nat.zero_le _, Nat.zero_le _⟩) hw (fun r48 H locs hp48 hw => ?_)
  subst hp48
  refine zkIp (pc := 51) (zrS (As := [.int (iI (X dr 1))]) hx hb hml hown hG hw (c_X1_monthWith l Γ K X Rf (X dr 1)  (by (first | assumption | omega))) cb_X1_monthWith wl_X5_41 rfl ⟨Nat.le_of_ble_eq_true rfl, Nat.le_of_ble_eq_true rfl⟩ hl.1 rfl (Nat.le_of_ble_eq_true rfl) dX5_markTold_51 ⟨Nat.zero_le _, Nat.zero_le _⟩) hw (fun r51 H locs hp51 hw => ?_)
  subst hp51
  have hp51f0 := mi_rng (d := (X dr 1)) (by omega) (by omega)
  refine ztop (fun x54 ex54 => ?_)
  refine lv_istore (pc := 54) (lv' := [(5, .int (iI x54)), (4, .int (iI x45)), (3, .int (iI x4)), (0, .ref se), (1, .ref dr), (2, .ref pa)]) hx hb dX5_markTold_54 hl (by decide) rfl (fun ls hl => ?_)
  have lp56 : ∀ (n56 : Nat) (ix : Int) (XL56 : zX) (H : Heap) (locs : List Loc), (hi : mi (X dr 1) ≤ ix ∧ ix ≤ mi (X dr 2) + 1) → (hv : ∀ d : Int, X dr 1 ≤ d → d ≤ X dr 2 → rdv XL56 dr na n d = if (told (X pa) (mi d) = d ∧ mi d < ix) ∧ bitw (rwS Sd) d ≠ 0 then 1 else rdv X dr na n d) → (ho : (∀ a, a ≠ na → XL56 a = X a)) → ((mi (X dr 2) + 1 - ix).toNat < n56) → Wd Γ (zA K s.heap.size) K XL56 Rf s H locs → ∀ ls : Array Slot, lv_has ls 7 [(5, .int (iI ix)), (4, .int (iI x45)), (3, .int (iI x4)), (0, .ref se), (1, .ref dr), (2, .ref pa)] → W p l e (rmL 3 0 0) s m ([.ref se, .ref dr, .ref pa] : List Value).toArray below meth c H locs 0 0 (MQ below (zQ Γ K s.heap.size (pV (zpv K Rf (fun X' : zX => (∀ d : Int, X dr 1 ≤ d → d ≤ X dr 2 → rdv X' dr na n d = if told (X pa) (mi d) = d ∧ bitw (rwS Sd) d ≠ 0 then 1 else rdv X dr na n d) ∧ (∀ a, a ≠ na → X' a = X a))))) ([.ref se, .ref dr, .ref pa] : List Value).toArray s 0 0 (zA K s.heap.size)) (F0 m 56 ls []) := by
    intro n56
    induction n56 with
    | zero => intro ix XL56 H locs hi hv ho hm56; exact absurd hm56 (Nat.not_lt_zero _)
    | succ n56 ih56 =>
      intro ix XL56 H locs hi hv ho hm56 hw ls hl
      have hdr : XL56 dr = X dr := ho dr hne
      have hd1 : XL56 dr 1 = X dr 1 := by rw [hdr]
      have hd2 : XL56 dr 2 = X dr 2 := by rw [hdr]
      have hpa : XL56 pa = X pa := ho pa hnp
      have hm1 := mi_rng (d := X dr 1) (by omega) (by omega)
      have hm2 := mi_rng (d := X dr 2) (by omega) (by omega)
      refine lv_iload (pc := 56) hx hb dX5_markTold_56 (lv_at hl 0 rfl) ?_
      refine lv_iload (pc := 58) hx hb dX5_markTold_58 (lv_at hl 1 rfl) ?_
      refine zicmp_gt (pc := 60) hx hb 89 (by omega) (by omega) dX5_markTold_60 (by decide) (fun c60 => ?_) (fun c60 => ?_)
      · skip
        exact zretV (pc := 89) hx hb hlocks hr hw (Nat.zero_le _) (Nat.zero_le _) dX5_markTold_89 ⟨by (try dsimp only) <;> (
                                        refine ⟨fun d g1 g2 => ?_, ho⟩
                                        rw [hv d g1 g2]
                                        have hmd := mi_mono (a := d) (b := X dr 2) (by omega) (by omega) (by omega)
                                        by_cases g : told (X pa) (mi d) = d ∧ bitw (rwS Sd) d ≠ 0
                                        · rw [if_pos ⟨⟨g.1, by omega⟩, g.2⟩, if_pos g]
                                        · rw [if_neg (fun h => g ⟨h.1.1, h.2⟩), if_neg g]), rfl, rfl⟩
      · skip
        refine lv_aload_n (pc := 63) hx hb dX5_markTold_63 rfl (lv_at hl 5 rfl) ?_
        refine lv_iload (pc := 64) hx hb dX5_markTold_64 (lv_at hl 0 rfl) ?_
        refine zkIp (pc := 66) (zrV (As := [.int (iI ix)]) hx hb hml hown hG hw (c_X3_toldIn l Γ K XL56 Rf pa ix  (by (first | assumption | omega)) (by rw [hpa]; exact hP) (by (first | assumption | omega))) (T := TX3) hkp rfl cb_X3_toldIn wl_X5_137 rfl ⟨Nat.le_of_ble_eq_true rfl, Nat.le_of_ble_eq_true rfl⟩ hl.1 rfl (Nat.le_of_ble_eq_true rfl) dX5_markTold_66 ⟨Nat.zero_le _, Nat.zero_le _⟩) hw (fun r66 H locs hp66 hw => ?_)
        subst hp66
        have hp66f0 := told_rng (XL56 pa) ix
        refine ztop (fun x69 ex69 => ?_)
        refine lv_istore (pc := 69) (lv' := [(6, .int (iI x69)), (5, .int (iI ix)), (4, .int (iI x45)), (3, .int (iI x4)), (0, .ref se), (1, .ref dr), (2, .ref pa)]) hx hb dX5_markTold_69 hl (by decide) rfl (fun ls hl => ?_)
        refine lv_iload (pc := 71) hx hb dX5_markTold_71 (lv_at hl 0 rfl) ?_
        refine zif_lt (pc := 73) hx hb 83 (by omega) dX5_markTold_73 (by decide) (fun c73 => ?_) (fun c73 => ?_)
        · skip
          refine ziinc (pc := 83) (lv' := [(5, .int (iI (ix + 1))), (6, .int (iI x69)), (4, .int (iI x45)), (3, .int (iI x4)), (0, .ref se), (1, .ref dr), (2, .ref pa)]) hx hb 1 dX5_markTold_83 hl rfl (by decide) rfl (fun ls hl => ?_)
          obtain ⟨x83, ex83⟩ : ∃ zz : Int, zz = (ix + 1) := ⟨_, rfl⟩
          rw [← ex83] at hl
          refine lv_goto (pc := 86) (tgt := 56) hx hb dX5_markTold_86 (by decide) ?_
          exact ih56 x83 XL56 _ _ (by (first | assumption | omega)) (by 
                                        intro d g1 g2
                                        have hmd := mi_rng (d := d) (by omega) (by omega)
                                        first
                                        | (have hx0 : told (X pa) ix = x69 := by rw [ex69, hpa]
                                           have hmt := told_mi (P := X pa) (i := ix) (by omega) (by omega) (by omega)
                                           rw [hx0] at hmt
                                           rw [hp80]
                                           split
                                           · next q =>
                                             rw [rdv_wr hne, hd1, hd2]
                                             by_cases g : d = x69
                                             · subst g; rw [if_pos ⟨rfl, by omega⟩, if_pos ⟨⟨by rw [hmt, hx0], by omega⟩, by rw [← ex4]; exact q⟩]
                                             · rw [if_neg (fun h => g h.1), hv d g1 g2]
                                               by_cases g' : (told (X pa) (mi d) = d ∧ mi d < ix) ∧ bitw (rwS Sd) d ≠ 0
                                               · rw [if_pos g', if_pos ⟨⟨g'.1.1, by omega⟩, g'.2⟩]
                                               · rw [if_neg g', if_neg (fun h => by
                                                   by_cases w : mi d = ix
                                                   · rw [w, hx0] at h; exact g h.1.1.symm
                                                   · exact g' ⟨⟨h.1.1, by omega⟩, h.2⟩)]
                                           · next q =>
                                             rw [hv d g1 g2]
                                             by_cases g' : (told (X pa) (mi d) = d ∧ mi d < ix) ∧ bitw (rwS Sd) d ≠ 0
                                             · rw [if_pos g', if_pos ⟨⟨g'.1.1, by omega⟩, g'.2⟩]
                                             · rw [if_neg g', if_neg (fun h => by
                                                 by_cases w : mi d = ix
                                                 · rw [w, hx0] at h; rw [← h.1.1, ← ex4] at h; exact q h.2
                                                 · exact g' ⟨⟨h.1.1, by omega⟩, h.2⟩)])
                                        | (have hx0 : told (X pa) ix = x69 := by rw [ex69, hpa]
                                           rw [hv d g1 g2]
                                           by_cases g' : (told (X pa) (mi d) = d ∧ mi d < ix) ∧ bitw (rwS Sd) d ≠ 0
                                           · rw [if_pos g', if_pos ⟨⟨g'.1.1, by omega⟩, g'.2⟩]
                                           · rw [if_neg g', if_neg (fun h => by
                                               by_cases w : mi d = ix
                                               · rw [w, hx0] at h; omega
                                               · exact g' ⟨⟨h.1.1, by omega⟩, h.2⟩)])) (by intro a ha; first | (rw [hp80]; split; rw [wrX_o ha]; exact ho a ha; exact ho a ha) | exact ho a ha) (by omega) hw _ (lv_sub hl [0, 2, 3, 4, 5, 6] rfl)
        · skip
          refine lv_aload_n (pc := 76) hx hb dX5_markTold_76 rfl (lv_at hl 5 rfl) ?_
          refine lv_iload (pc := 77) hx hb dX5_markTold_77 (lv_at hl 0 rfl) ?_
          refine lv_iload_n (pc := 79) hx hb dX5_markTold_79 rfl (lv_at hl 3 rfl) ?_
          refine zkVx (pc := 80) (zrS (As := [.ref dr, .int (iI x69), .int (iI x4)]) hx hb hml hown hG hw (c_X5_markDay l Γ K XL56 Rf dr x69 x4 na n (by (first | assumption | omega)) (by (first | assumption | omega)) (by (first | assumption | omega)) (by (first | assumption | omega)) (by (first | assumption | omega)) (by (first | assumption | omega)) (by (first | assumption | omega))) cb_X5_markDay wl_X5_134 rfl ⟨Nat.le_of_ble_eq_true rfl, Nat.le_of_ble_eq_true rfl⟩ hl.1 rfl (Nat.le_of_ble_eq_true rfl) dX5_markTold_80 ⟨Nat.zero_le _, Nat.zero_le _⟩) hw (fun X80 H locs hp80 hw => ?_)
          refine ziinc (pc := 83) (lv' := [(5, .int (iI (ix + 1))), (6, .int (iI x69)), (4, .int (iI x45)), (3, .int (iI x4)), (0, .ref se), (1, .ref dr), (2, .ref pa)]) hx hb 1 dX5_markTold_83 hl rfl (by decide) rfl (fun ls hl => ?_)
          obtain ⟨x83, ex83⟩ : ∃ zz : Int, zz = (ix + 1) := ⟨_, rfl⟩
          rw [← ex83] at hl
          refine lv_goto (pc := 86) (tgt := 56) hx hb dX5_markTold_86 (by decide) ?_
          exact ih56 x83 X80 _ _ (by (first | assumption | omega)) (by 
                                        intro d g1 g2
                                        have hmd := mi_rng (d := d) (by omega) (by omega)
                                        first
                                        | (have hx0 : told (X pa) ix = x69 := by rw [ex69, hpa]
                                           have hmt := told_mi (P := X pa) (i := ix) (by omega) (by omega) (by omega)
                                           rw [hx0] at hmt
                                           rw [hp80]
                                           split
                                           · next q =>
                                             rw [rdv_wr hne, hd1, hd2]
                                             by_cases g : d = x69
                                             · subst g; rw [if_pos ⟨rfl, by omega⟩, if_pos ⟨⟨by rw [hmt, hx0], by omega⟩, by rw [← ex4]; exact q⟩]
                                             · rw [if_neg (fun h => g h.1), hv d g1 g2]
                                               by_cases g' : (told (X pa) (mi d) = d ∧ mi d < ix) ∧ bitw (rwS Sd) d ≠ 0
                                               · rw [if_pos g', if_pos ⟨⟨g'.1.1, by omega⟩, g'.2⟩]
                                               · rw [if_neg g', if_neg (fun h => by
                                                   by_cases w : mi d = ix
                                                   · rw [w, hx0] at h; exact g h.1.1.symm
                                                   · exact g' ⟨⟨h.1.1, by omega⟩, h.2⟩)]
                                           · next q =>
                                             rw [hv d g1 g2]
                                             by_cases g' : (told (X pa) (mi d) = d ∧ mi d < ix) ∧ bitw (rwS Sd) d ≠ 0
                                             · rw [if_pos g', if_pos ⟨⟨g'.1.1, by omega⟩, g'.2⟩]
                                             · rw [if_neg g', if_neg (fun h => by
                                                 by_cases w : mi d = ix
                                                 · rw [w, hx0] at h; rw [← h.1.1, ← ex4] at h; exact q h.2
                                                 · exact g' ⟨⟨h.1.1, by omega⟩, h.2⟩)])
                                        | (have hx0 : told (X pa) ix = x69 := by rw [ex69, hpa]
                                           rw [hv d g1 g2]
                                           by_cases g' : (told (X pa) (mi d) = d ∧ mi d < ix) ∧ bitw (rwS Sd) d ≠ 0
                                           · rw [if_pos g', if_pos ⟨⟨g'.1.1, by omega⟩, g'.2⟩]
                                           · rw [if_neg g', if_neg (fun h => by
                                               by_cases w : mi d = ix
                                               · rw [w, hx0] at h; omega
                                               · exact g' ⟨⟨h.1.1, by omega⟩, h.2⟩)])) (by intro a ha; first | (rw [hp80]; split; rw [wrX_o ha]; exact ho a ha; exact ho a ha) | exact ho a ha) (by omega) hw _ (lv_sub hl [0, 2, 3, 4, 5, 6] rfl)
  exact lp56 _ x54 X _ _ (by have := mi_mono (a := X dr 1) (b := X dr 2) (by omega) (by omega) (by omega); omega) (by intro d h1 h2; rw [if_neg]; have := mi_mono (a := X dr 1) (b := d) (by omega) (by omega) (by omega); omega) (by intro a _; rfl) (Nat.lt_succ_self _) hw _ (lv_sub hl [0, 1, 2, 3, 4, 5] rfl)
set_option maxHeartbeats 4000000 in
set_option maxRecDepth 100000 in
theorem c_X5_findCounting (l : Launch) (Γ : zG) (K : zK) (X : zX) (Rf : zR) (se : Nat) (dr : Nat) (Sd : Nat → Int) (Up : Nat → Nat → Int) (po : Nat) (na : Nat) (hk : K se = (1, 4)) (hD : serD (X se) Sd) (hS : okS Sd) (hr8 : Rf se 8 = some po) (hkpo : K po = (6, 4)) (hU : upOK K X Rf po Sd Up) (hUs : usOK K X Rf se Sd) (hkd : K dr = (1, 0)) (hr0 : Rf dr 0 = some na) (hkn : K na = (2, 4733)) : Ct l yX5_findCounting cX5_findCounting 3 none 4 0 0 Γ [.ref se, .ref dr] K X Rf (pV (zpv K Rf (fun X' : zX => ((∀ d : Int, spB Sd 0 ≤ d → d ≤ min (Sd 7 + 366) 73048 → rdv X' dr na 4733 d = if ctS Sd Up d then 1 else -1) ∧ X' dr 1 = spB Sd 0 ∧ X' dr 2 = min (Sd 7 + 366) 73048) ∧ (∀ a, a ≠ dr → a ≠ na → X' a = X a)))) := by
  refine Ct.of (by decide +kernel) (Nat.le_of_ble_eq_true rfl) ?_
  intro p e s m below meth c ls hx hb hr hml hown hG hlocks hname hw hl
  have hl : lv_has ls 3 [(0, .ref se), (1, .ref dr)] := hl
  have hne : dr ≠ na := zkne hkd hkn (by simp)
  have hn1 : se ≠ dr := fun q => by rw [q, hkd] at hk; cases hk
  have hn2 : se ≠ na := zkne hk hkn (by simp)
  have hb0 := spB_0 hS
  have hb1 := (spB_rng hS (i := 0) (by omega) (by omega))
  have e12 : X se 12 = Sd 7 := hD.2.2.2.2.1
  refine lv_aload_n (pc := 0) hx hb dX5_findCounting_0 rfl (lv_at hl 1 rfl) ?_
  refine lv_aload_n (pc := 1) hx hb dX5_findCounting_1 rfl (lv_at hl 0 rfl) ?_
  refine ziconst (pc := 2) (n := 0) hx hb dX5_findCounting_2 ?_
  refine zkIp (pc := 3) (zrV (As := [.int (iI 0)]) hx hb hml hown hG hw (c_X5_spanBegin l Γ K X Rf se 0 Sd (by (first | assumption | omega)) (by (first | assumption | omega)) (by (first | assumption | omega)) (by (first | assumption | omega))) (T := TX5) hk rfl cb_X5_spanBegin wl_X5_95 rfl ⟨Nat.le_of_ble_eq_true rfl, Nat.le_of_ble_eq_true rfl⟩ hl.1 rfl (Nat.le_of_ble_eq_true rfl) dX5_findCounting_3 ⟨Nat.zero_le _, Nat.zero_le _⟩) hw (fun r3 H locs hp3 hw => ?_)
  subst hp3
  have hp3f0 := spB_rng (Sd := Sd) (by assumption) (i := 0) (by omega) (by omega)
  refine lv_aload_n (pc := 6) hx hb dX5_findCounting_6 rfl (lv_at hl 0 rfl) ?_
  refine zgetI (pc := 7) hx hb hG hown hw hk (T := TX5) rfl 12 (by decide) rfl wf_X5_72 rfl dX5_findCounting_7 ?_
  refine zsipush (pc := 10) (n := 366) hx hb dX5_findCounting_10 rfl ?_
  refine zadd (pc := 13) hx hb dX5_findCounting_13 ?_
  refine zldc (pc := 14) (n := 73048) hx hb hown hG wk_X5_31 dX5_findCounting_14 ?_
  refine zmin (pc := 16) hx hb (hml.trans hl.1.symm) hown hG wl_X5_32 w1_zmn wi_javalangMath w2_zmn (Nat.le_of_ble_eq_true rfl) (Nat.le_of_ble_eq_true rfl) (Nat.zero_le _) (Nat.zero_le _) ⟨by omega, by omega⟩ dX5_findCounting_16 ?_
  refine zkVx (pc := 19) (zrV (As := [.int (iI (spB Sd 0)), .int (iI (min ((X se 12) + 366) 73048))]) hx hb hml hown hG hw (c_X0_clear l Γ K X Rf dr (spB Sd 0) (min ((X se 12) + 366) 73048) na 4733 (by (first | assumption | omega)) (by (first | assumption | omega)) (by (first | assumption | omega)) (by (first | assumption | omega)) (by (first | assumption | omega)) (by (first | assumption | omega))) (T := TX0) hkd rfl cb_X0_clear wl_X5_114 rfl ⟨Nat.le_of_ble_eq_true rfl, Nat.le_of_ble_eq_true rfl⟩ hl.1 rfl (Nat.le_of_ble_eq_true rfl) dX5_findCounting_19 ⟨Nat.zero_le _, Nat.zero_le _⟩) hw (fun X19 H locs hp19 hw => ?_)
  obtain ⟨hx1, hx2, hz19, ho19, -⟩ := hp19
  have hx2 : X19 dr 2 = min (Sd 7 + 366) 73048 := by omega
  have hX5 : X19 se = X se := ho19 se hn1 hn2
  have hD2 : serD (X19 se) Sd := by rw [hX5]; exact hD
  have hXp : ∀ a, K a = (1, 2) → X19 a = X a := fun a ha => ho19 a (fun q => by rw [q, hkd] at ha; cases ha) (zkne ha hkn (by simp))
  have hUs2 := hUs.mono (X' := X19) hXp
  refine lv_aload_n (pc := 22) hx hb dX5_findCounting_22 rfl (lv_at hl 0 rfl) ?_
  refine zgetI (pc := 23) hx hb hG hown hw hk (T := TX5) rfl 9 (by decide) rfl wf_X5_63 rfl dX5_findCounting_23 ?_
  refine zif_ne (pc := 26) hx hb 38 (by omega) dX5_findCounting_26 (by decide) (fun c26 => ?_) (fun c26 => ?_)
  · skip
    refine ziconst (pc := 38) (n := 0) hx hb dX5_findCounting_38 ?_
    refine lv_istore_n (pc := 39) (lv' := [(2, .int (iI 0)), (0, .ref se), (1, .ref dr)]) hx hb dX5_findCounting_39 rfl hl (by decide) rfl (fun ls hl => ?_)
    have lp40 : ∀ (n40 : Nat) (kk : Int) (XL40 : zX) (H : Heap) (locs : List Loc), (hi : 0 ≤ kk ∧ kk ≤ Sd 9) → (hv : ∀ d : Int, spB Sd 0 ≤ d → d ≤ min (Sd 7 + 366) 73048 → rdv XL40 dr na 4733 d = if ctK Sd Up d kk.toNat then 1 else -1) → (hd1 : XL40 dr 1 = spB Sd 0) → (hd2 : XL40 dr 2 = min (Sd 7 + 366) 73048) → (ho : ∀ a, a ≠ dr → a ≠ na → XL40 a = X a) → ((4 - kk).toNat < n40) → Wd Γ (zA K s.heap.size) K XL40 Rf s H locs → ∀ ls : Array Slot, lv_has ls 3 [(2, .int (iI kk)), (0, .ref se), (1, .ref dr)] → W p l e (rmL 4 0 0) s m ([.ref se, .ref dr] : List Value).toArray below meth c H locs 0 0 (MQ below (zQ Γ K s.heap.size (pV (zpv K Rf (fun X' : zX => ((∀ d : Int, spB Sd 0 ≤ d → d ≤ min (Sd 7 + 366) 73048 → rdv X' dr na 4733 d = if ctS Sd Up d then 1 else -1) ∧ X' dr 1 = spB Sd 0 ∧ X' dr 2 = min (Sd 7 + 366) 73048) ∧ (∀ a, a ≠ dr → a ≠ na → X' a = X a))))) ([.ref se, .ref dr] : List Value).toArray s 0 0 (zA K s.heap.size)) (F0 m 40 ls []) := by
      intro n40
      induction n40 with
      | zero => intro kk XL40 H locs hi hv hd1 hd2 ho hm40; exact absurd hm40 (Nat.not_lt_zero _)
      | succ n40 ih40 =>
        intro kk XL40 H locs hi hv hd1 hd2 ho hm40 hw ls hl
        have hX5 : XL40 se = X se := ho se hn1 hn2
        have hXp : ∀ a, K a = (1, 2) → XL40 a = X a := fun a ha => ho a (fun q => by rw [q, hkd] at ha; cases ha) (zkne ha hkn (by simp))
        have hU2 := hU.mono (X' := XL40) hXp
        have hD2 : serD (XL40 se) Sd := by rw [hX5]; exact hD
        refine lv_iload_n (pc := 40) hx hb dX5_findCounting_40 rfl (lv_at hl 0 rfl) ?_
        refine lv_aload_n (pc := 41) hx hb dX5_findCounting_41 rfl (lv_at hl 1 rfl) ?_
        refine zgetI (pc := 42) hx hb hG hown hw hk (T := TX5) rfl 9 (by decide) rfl wf_X5_63 rfl dX5_findCounting_42 ?_
        refine zicmp_ge (pc := 45) hx hb 74 (by omega) (by omega) dX5_findCounting_45 (by decide) (fun c45 => ?_) (fun c45 => ?_)
        · skip
          exact zretV (pc := 74) hx hb hlocks hr hw (Nat.zero_le _) (Nat.zero_le _) dX5_findCounting_74 ⟨by (try dsimp only) <;> (
                                        refine ⟨⟨fun d g1 g2 => ?_, hd1, hd2⟩, ho⟩
                                        rw [hv d g1 g2, show kk = Sd 9 by omega]; rfl), rfl, rfl⟩
        · skip
          refine lv_iload_n (pc := 48) hx hb dX5_findCounting_48 rfl (lv_at hl 0 rfl) ?_
          refine lv_aload_n (pc := 49) hx hb dX5_findCounting_49 rfl (lv_at hl 1 rfl) ?_
          refine zgetR (pc := 50) hx hb hG hown hw hk (T := TX5) rfl 8 (by decide) rfl wf_X5_59 rfl hr8 dX5_findCounting_50 ?_
          refine zlen6 (pc := 53) hx hb hw hkpo dX5_findCounting_53 ?_
          refine zicmp_ge (pc := 54) hx hb 74 (by omega) (by omega) dX5_findCounting_54 (by decide) (fun c54 => ?_) (fun c54 => ?_)
          · skip
            exfalso; omega
          · skip
            refine lv_aload_n (pc := 57) hx hb dX5_findCounting_57 rfl (lv_at hl 1 rfl) ?_
            refine lv_aload_n (pc := 58) hx hb dX5_findCounting_58 rfl (lv_at hl 2 rfl) ?_
            refine lv_aload_n (pc := 59) hx hb dX5_findCounting_59 rfl (lv_at hl 1 rfl) ?_
            refine zgetR (pc := 60) hx hb hG hown hw hk (T := TX5) rfl 8 (by decide) rfl wf_X5_59 rfl hr8 dX5_findCounting_60 ?_
            refine lv_iload_n (pc := 63) hx hb dX5_findCounting_63 rfl (lv_at hl 0 rfl) ?_
            obtain ⟨pa, hrp, hkp, hoP, hps⟩ := hU2 kk.toNat (by omega)
            refine zaaldR0 (pc := 64) hx hb hw hkpo ⟨by omega, by omega⟩ (by omega) hrp dX5_findCounting_64 ?_
            refine zkVx (pc := 65) (zrV (As := [.ref dr, .ref pa]) hx hb hml hown hG hw (c_X5_markTold l Γ K XL40 Rf se dr pa Sd na 4733 (by (first | assumption | omega)) (by (first | assumption | omega)) (by (first | assumption | omega)) (by (first | assumption | omega)) (by (first | assumption | omega)) (by (first | assumption | omega)) (by (first | assumption | omega)) (by (first | assumption | omega)) (by (first | assumption | omega)) (by (first | assumption | omega))) (T := TX5) hk rfl cb_X5_markTold wl_X5_120 rfl ⟨Nat.le_of_ble_eq_true rfl, Nat.le_of_ble_eq_true rfl⟩ hl.1 rfl (Nat.le_of_ble_eq_true rfl) dX5_findCounting_65 ⟨Nat.zero_le _, Nat.zero_le _⟩) hw (fun X65 H locs hp65 hw => ?_)
            obtain ⟨hv65, ho65⟩ := hp65
            refine ziinc (pc := 68) (lv' := [(2, .int (iI (kk + 1))), (0, .ref se), (1, .ref dr)]) hx hb 0 dX5_findCounting_68 hl rfl (by decide) rfl (fun ls hl => ?_)
            obtain ⟨x68, ex68⟩ : ∃ zz : Int, zz = (kk + 1) := ⟨_, rfl⟩
            rw [← ex68] at hl
            refine lv_goto (pc := 71) (tgt := 40) hx hb dX5_findCounting_71 (by decide) ?_
            exact ih40 x68 X65 _ _ (by (first | assumption | omega)) (by 
                                        intro d g1 g2
                                        rw [hv65 d (by omega) (by omega), hv d g1 g2, ex68, show (kk + 1).toNat = kk.toNat + 1 by omega, ctK_s (by omega), told_congr hps.1 hps.2.1 hps.2.2]) (by rw [ho65 dr hne]; exact hd1) (by rw [ho65 dr hne]; exact hd2) (by intro a h1 h2; rw [ho65 a h2]; exact ho a h1 h2) (by omega) hw _ (lv_sub hl [0, 1, 2] rfl)
    exact lp40 _ 0 X19 _ _ (by (first | assumption | omega)) (by first | exact hmv | (intro d g1 g2; rw [rdv_clear hz19, ctK_0 (by omega)]; rfl)) (by first | exact hmd1 | exact hx1) (by first | exact hmd2 | exact hx2) (by first | exact hmo | exact ho19) (Nat.lt_succ_self _) hw _ (lv_sub hl [0, 1, 2] rfl)
  · skip
    refine lv_aload_n (pc := 29) hx hb dX5_findCounting_29 rfl (lv_at hl 0 rfl) ?_
    refine lv_aload_n (pc := 30) hx hb dX5_findCounting_30 rfl (lv_at hl 1 rfl) ?_
    refine lv_aload_n (pc := 31) hx hb dX5_findCounting_31 rfl (lv_at hl 0 rfl) ?_
    refine zgetQ (pc := 32) hx hb hG hown hw hk (T := TX5) rfl 7 (by decide) rfl wf_X5_55 rfl dX5_findCounting_32 (fun hq32 => ?_) (fun q32 hq32 => ?_)
    · skip
      have hk2 : Sd 2 < 2 := by rcases hUs2 with ⟨w, _⟩ | ⟨_, us, w, _⟩; exact w; rw [hq32] at w; cases w
      refine zkVx (pc := 35) (zrV (As := [.ref dr, .null]) hx hb hml hown hG hw (c_X5_markTold_n l Γ K X19 Rf se dr Sd na 4733 (by (first | assumption | omega)) (by (first | assumption | omega)) (by (first | assumption | omega)) (by (first | assumption | omega)) (by (first | assumption | omega)) (by (first | assumption | omega)) (by (first | assumption | omega)) (by (first | assumption | omega))) (T := TX5) hk rfl cb_X5_markTold wl_X5_120 rfl ⟨Nat.le_of_ble_eq_true rfl, Nat.le_of_ble_eq_true rfl⟩ hl.1 rfl (Nat.le_of_ble_eq_true rfl) dX5_findCounting_35 ⟨Nat.zero_le _, Nat.zero_le _⟩) hw (fun X35 H locs hp35 hw => ?_)
      obtain ⟨hv35, ho35⟩ := hp35
      have hmd1 : X35 dr 1 = spB Sd 0 := by rw [ho35 dr hne]; exact hx1
      have hmd2 : X35 dr 2 = min (Sd 7 + 366) 73048 := by rw [ho35 dr hne]; exact hx2
      have hmo : ∀ a, a ≠ dr → a ≠ na → X35 a = X a := fun a h1 h2 => by rw [ho35 a h2]; exact ho19 a h1 h2
      have hmv : ∀ d : Int, spB Sd 0 ≤ d → d ≤ min (Sd 7 + 366) 73048 → rdv X35 dr na 4733 d = if ctK Sd Up d (0 : Int).toNat then 1 else -1 := by
        intro d g1 g2
        rw [hv35 d (by omega) (by omega), rdv_clear hz19]
        unfold ctK
        rw [if_pos (by omega)]
        first
        | (rw [if_pos hk2]; by_cases hq3 : bitw (rwS Sd) d = 0 <;> simp [hq3])
        | (rw [if_neg (by omega), told_congr hps.1 hps.2.1 hps.2.2]; by_cases hq3 : bitw (rwS Sd) d = 0 <;> by_cases hq2 : told (usS Sd) (mi d) = d <;> simp [hq3, hq2])
      refine ziconst (pc := 38) (n := 0) hx hb dX5_findCounting_38 ?_
      refine lv_istore_n (pc := 39) (lv' := [(2, .int (iI 0)), (0, .ref se), (1, .ref dr)]) hx hb dX5_findCounting_39 rfl hl (by decide) rfl (fun ls hl => ?_)
      have lp40 : ∀ (n40 : Nat) (kk : Int) (XL40 : zX) (H : Heap) (locs : List Loc), (hi : 0 ≤ kk ∧ kk ≤ Sd 9) → (hv : ∀ d : Int, spB Sd 0 ≤ d → d ≤ min (Sd 7 + 366) 73048 → rdv XL40 dr na 4733 d = if ctK Sd Up d kk.toNat then 1 else -1) → (hd1 : XL40 dr 1 = spB Sd 0) → (hd2 : XL40 dr 2 = min (Sd 7 + 366) 73048) → (ho : ∀ a, a ≠ dr → a ≠ na → XL40 a = X a) → ((4 - kk).toNat < n40) → Wd Γ (zA K s.heap.size) K XL40 Rf s H locs → ∀ ls : Array Slot, lv_has ls 3 [(2, .int (iI kk)), (0, .ref se), (1, .ref dr)] → W p l e (rmL 4 0 0) s m ([.ref se, .ref dr] : List Value).toArray below meth c H locs 0 0 (MQ below (zQ Γ K s.heap.size (pV (zpv K Rf (fun X' : zX => ((∀ d : Int, spB Sd 0 ≤ d → d ≤ min (Sd 7 + 366) 73048 → rdv X' dr na 4733 d = if ctS Sd Up d then 1 else -1) ∧ X' dr 1 = spB Sd 0 ∧ X' dr 2 = min (Sd 7 + 366) 73048) ∧ (∀ a, a ≠ dr → a ≠ na → X' a = X a))))) ([.ref se, .ref dr] : List Value).toArray s 0 0 (zA K s.heap.size)) (F0 m 40 ls []) := by
        intro n40
        induction n40 with
        | zero => intro kk XL40 H locs hi hv hd1 hd2 ho hm40; exact absurd hm40 (Nat.not_lt_zero _)
        | succ n40 ih40 =>
          intro kk XL40 H locs hi hv hd1 hd2 ho hm40 hw ls hl
          have hX5 : XL40 se = X se := ho se hn1 hn2
          have hXp : ∀ a, K a = (1, 2) → XL40 a = X a := fun a ha => ho a (fun q => by rw [q, hkd] at ha; cases ha) (zkne ha hkn (by simp))
          have hU2 := hU.mono (X' := XL40) hXp
          have hD2 : serD (XL40 se) Sd := by rw [hX5]; exact hD
          refine lv_iload_n (pc := 40) hx hb dX5_findCounting_40 rfl (lv_at hl 0 rfl) ?_
          refine lv_aload_n (pc := 41) hx hb dX5_findCounting_41 rfl (lv_at hl 1 rfl) ?_
          refine zgetI (pc := 42) hx hb hG hown hw hk (T := TX5) rfl 9 (by decide) rfl wf_X5_63 rfl dX5_findCounting_42 ?_
          refine zicmp_ge (pc := 45) hx hb 74 (by omega) (by omega) dX5_findCounting_45 (by decide) (fun c45 => ?_) (fun c45 => ?_)
          · skip
            exact zretV (pc := 74) hx hb hlocks hr hw (Nat.zero_le _) (Nat.zero_le _) dX5_findCounting_74 ⟨by (try dsimp only) <;> (
                                        refine ⟨⟨fun d g1 g2 => ?_, hd1, hd2⟩, ho⟩
                                        rw [hv d g1 g2, show kk = Sd 9 by omega]; rfl), rfl, rfl⟩
          · skip
            refine lv_iload_n (pc := 48) hx hb dX5_findCounting_48 rfl (lv_at hl 0 rfl) ?_
            refine lv_aload_n (pc := 49) hx hb dX5_findCounting_49 rfl (lv_at hl 1 rfl) ?_
            refine zgetR (pc := 50) hx hb hG hown hw hk (T := TX5) rfl 8 (by decide) rfl wf_X5_59 rfl hr8 dX5_findCounting_50 ?_
            refine zlen6 (pc := 53) hx hb hw hkpo dX5_findCounting_53 ?_
            refine zicmp_ge (pc := 54) hx hb 74 (by omega) (by omega) dX5_findCounting_54 (by decide) (fun c54 => ?_) (fun c54 => ?_)
            · skip
              exfalso; omega
            · skip
              refine lv_aload_n (pc := 57) hx hb dX5_findCounting_57 rfl (lv_at hl 1 rfl) ?_
              refine lv_aload_n (pc := 58) hx hb dX5_findCounting_58 rfl (lv_at hl 2 rfl) ?_
              refine lv_aload_n (pc := 59) hx hb dX5_findCounting_59 rfl (lv_at hl 1 rfl) ?_
              refine zgetR (pc := 60) hx hb hG hown hw hk (T := TX5) rfl 8 (by decide) rfl wf_X5_59 rfl hr8 dX5_findCounting_60 ?_
              refine lv_iload_n (pc := 63) hx hb dX5_findCounting_63 rfl (lv_at hl 0 rfl) ?_
              obtain ⟨pa, hrp, hkp, hoP, hps⟩ := hU2 kk.toNat (by omega)
              refine zaaldR0 (pc := 64) hx hb hw hkpo ⟨by omega, by omega⟩ (by omega) hrp dX5_findCounting_64 ?_
              refine zkVx (pc := 65) (zrV (As := [.ref dr, .ref pa]) hx hb hml hown hG hw (c_X5_markTold l Γ K XL40 Rf se dr pa Sd na 4733 (by (first | assumption | omega)) (by (first | assumption | omega)) (by (first | assumption | omega)) (by (first | assumption | omega)) (by (first | assumption | omega)) (by (first | assumption | omega)) (by (first | assumption | omega)) (by (first | assumption | omega)) (by (first | assumption | omega)) (by (first | assumption | omega))) (T := TX5) hk rfl cb_X5_markTold wl_X5_120 rfl ⟨Nat.le_of_ble_eq_true rfl, Nat.le_of_ble_eq_true rfl⟩ hl.1 rfl (Nat.le_of_ble_eq_true rfl) dX5_findCounting_65 ⟨Nat.zero_le _, Nat.zero_le _⟩) hw (fun X65 H locs hp65 hw => ?_)
              obtain ⟨hv65, ho65⟩ := hp65
              refine ziinc (pc := 68) (lv' := [(2, .int (iI (kk + 1))), (0, .ref se), (1, .ref dr)]) hx hb 0 dX5_findCounting_68 hl rfl (by decide) rfl (fun ls hl => ?_)
              obtain ⟨x68, ex68⟩ : ∃ zz : Int, zz = (kk + 1) := ⟨_, rfl⟩
              rw [← ex68] at hl
              refine lv_goto (pc := 71) (tgt := 40) hx hb dX5_findCounting_71 (by decide) ?_
              exact ih40 x68 X65 _ _ (by (first | assumption | omega)) (by 
                                        intro d g1 g2
                                        rw [hv65 d (by omega) (by omega), hv d g1 g2, ex68, show (kk + 1).toNat = kk.toNat + 1 by omega, ctK_s (by omega), told_congr hps.1 hps.2.1 hps.2.2]) (by rw [ho65 dr hne]; exact hd1) (by rw [ho65 dr hne]; exact hd2) (by intro a h1 h2; rw [ho65 a h2]; exact ho a h1 h2) (by omega) hw _ (lv_sub hl [0, 1, 2] rfl)
      exact lp40 _ 0 X35 _ _ (by (first | assumption | omega)) (by first | exact hmv | (intro d g1 g2; rw [rdv_clear hz19, ctK_0 (by omega)]; rfl)) (by first | exact hmd1 | exact hx1) (by first | exact hmd2 | exact hx2) (by first | exact hmo | exact ho19) (Nat.lt_succ_self _) hw _ (lv_sub hl [0, 1, 2] rfl)
    · skip
      obtain ⟨hk2, hkq, hPq, hps⟩ : 2 ≤ Sd 2 ∧ K q32 = (1, 2) ∧ okP (X19 q32) ∧ psame (X19 q32) (usS Sd) := by
        rcases hUs2 with ⟨_, w⟩ | ⟨w0, us, w, w2, w3, w4⟩
        · rw [hq32] at w; cases w
        · rw [hq32] at w; cases w; exact ⟨w0, w2, w3, w4⟩
      refine zkVx (pc := 35) (zrV (As := [.ref dr, .ref q32]) hx hb hml hown hG hw (c_X5_markTold l Γ K X19 Rf se dr q32 Sd na 4733 (by (first | assumption | omega)) (by (first | assumption | omega)) (by (first | assumption | omega)) (by (first | assumption | omega)) (by (first | assumption | omega)) (by (first | assumption | omega)) (by (first | assumption | omega)) (by (first | assumption | omega)) (by (first | assumption | omega)) (by (first | assumption | omega))) (T := TX5) hk rfl cb_X5_markTold wl_X5_120 rfl ⟨Nat.le_of_ble_eq_true rfl, Nat.le_of_ble_eq_true rfl⟩ hl.1 rfl (Nat.le_of_ble_eq_true rfl) dX5_findCounting_35 ⟨Nat.zero_le _, Nat.zero_le _⟩) hw (fun X35 H locs hp35 hw => ?_)
      obtain ⟨hv35, ho35⟩ := hp35
      have hmd1 : X35 dr 1 = spB Sd 0 := by rw [ho35 dr hne]; exact hx1
      have hmd2 : X35 dr 2 = min (Sd 7 + 366) 73048 := by rw [ho35 dr hne]; exact hx2
      have hmo : ∀ a, a ≠ dr → a ≠ na → X35 a = X a := fun a h1 h2 => by rw [ho35 a h2]; exact ho19 a h1 h2
      have hmv : ∀ d : Int, spB Sd 0 ≤ d → d ≤ min (Sd 7 + 366) 73048 → rdv X35 dr na 4733 d = if ctK Sd Up d (0 : Int).toNat then 1 else -1 := by
        intro d g1 g2
        rw [hv35 d (by omega) (by omega), rdv_clear hz19]
        unfold ctK
        rw [if_pos (by omega)]
        first
        | (rw [if_pos hk2]; by_cases hq3 : bitw (rwS Sd) d = 0 <;> simp [hq3])
        | (rw [if_neg (by omega), told_congr hps.1 hps.2.1 hps.2.2]; by_cases hq3 : bitw (rwS Sd) d = 0 <;> by_cases hq2 : told (usS Sd) (mi d) = d <;> simp [hq3, hq2])
      refine ziconst (pc := 38) (n := 0) hx hb dX5_findCounting_38 ?_
      refine lv_istore_n (pc := 39) (lv' := [(2, .int (iI 0)), (0, .ref se), (1, .ref dr)]) hx hb dX5_findCounting_39 rfl hl (by decide) rfl (fun ls hl => ?_)
      have lp40 : ∀ (n40 : Nat) (kk : Int) (XL40 : zX) (H : Heap) (locs : List Loc), (hi : 0 ≤ kk ∧ kk ≤ Sd 9) → (hv : ∀ d : Int, spB Sd 0 ≤ d → d ≤ min (Sd 7 + 366) 73048 → rdv XL40 dr na 4733 d = if ctK Sd Up d kk.toNat then 1 else -1) → (hd1 : XL40 dr 1 = spB Sd 0) → (hd2 : XL40 dr 2 = min (Sd 7 + 366) 73048) → (ho : ∀ a, a ≠ dr → a ≠ na → XL40 a = X a) → ((4 - kk).toNat < n40) → Wd Γ (zA K s.heap.size) K XL40 Rf s H locs → ∀ ls : Array Slot, lv_has ls 3 [(2, .int (iI kk)), (0, .ref se), (1, .ref dr)] → W p l e (rmL 4 0 0) s m ([.ref se, .ref dr] : List Value).toArray below meth c H locs 0 0 (MQ below (zQ Γ K s.heap.size (pV (zpv K Rf (fun X' : zX => ((∀ d : Int, spB Sd 0 ≤ d → d ≤ min (Sd 7 + 366) 73048 → rdv X' dr na 4733 d = if ctS Sd Up d then 1 else -1) ∧ X' dr 1 = spB Sd 0 ∧ X' dr 2 = min (Sd 7 + 366) 73048) ∧ (∀ a, a ≠ dr → a ≠ na → X' a = X a))))) ([.ref se, .ref dr] : List Value).toArray s 0 0 (zA K s.heap.size)) (F0 m 40 ls []) := by
        intro n40
        induction n40 with
        | zero => intro kk XL40 H locs hi hv hd1 hd2 ho hm40; exact absurd hm40 (Nat.not_lt_zero _)
        | succ n40 ih40 =>
          intro kk XL40 H locs hi hv hd1 hd2 ho hm40 hw ls hl
          have hX5 : XL40 se = X se := ho se hn1 hn2
          have hXp : ∀ a, K a = (1, 2) → XL40 a = X a := fun a ha => ho a (fun q => by rw [q, hkd] at ha; cases ha) (zkne ha hkn (by simp))
          have hU2 := hU.mono (X' := XL40) hXp
          have hD2 : serD (XL40 se) Sd := by rw [hX5]; exact hD
          refine lv_iload_n (pc := 40) hx hb dX5_findCounting_40 rfl (lv_at hl 0 rfl) ?_
          refine lv_aload_n (pc := 41) hx hb dX5_findCounting_41 rfl (lv_at hl 1 rfl) ?_
          refine zgetI (pc := 42) hx hb hG hown hw hk (T := TX5) rfl 9 (by decide) rfl wf_X5_63 rfl dX5_findCounting_42 ?_
          refine zicmp_ge (pc := 45) hx hb 74 (by omega) (by omega) dX5_findCounting_45 (by decide) (fun c45 => ?_) (fun c45 => ?_)
          · skip
            exact zretV (pc := 74) hx hb hlocks hr hw (Nat.zero_le _) (Nat.zero_le _) dX5_findCounting_74 ⟨by (try dsimp only) <;> (
                                        refine ⟨⟨fun d g1 g2 => ?_, hd1, hd2⟩, ho⟩
                                        rw [hv d g1 g2, show kk = Sd 9 by omega]; rfl), rfl, rfl⟩
          · skip
            refine lv_iload_n (pc := 48) hx hb dX5_findCounting_48 rfl (lv_at hl 0 rfl) ?_
            refine lv_aload_n (pc := 49) hx hb dX5_findCounting_49 rfl (lv_at hl 1 rfl) ?_
            refine zgetR (pc := 50) hx hb hG hown hw hk (T := TX5) rfl 8 (by decide) rfl wf_X5_59 rfl hr8 dX5_findCounting_50 ?_
            refine zlen6 (pc := 53) hx hb hw hkpo dX5_findCounting_53 ?_
            refine zicmp_ge (pc := 54) hx hb 74 (by omega) (by omega) dX5_findCounting_54 (by decide) (fun c54 => ?_) (fun c54 => ?_)
            · skip
              exfalso; omega
            · skip
              refine lv_aload_n (pc := 57) hx hb dX5_findCounting_57 rfl (lv_at hl 1 rfl) ?_
              refine lv_aload_n (pc := 58) hx hb dX5_findCounting_58 rfl (lv_at hl 2 rfl) ?_
              refine lv_aload_n (pc := 59) hx hb dX5_findCounting_59 rfl (lv_at hl 1 rfl) ?_
              refine zgetR (pc := 60) hx hb hG hown hw hk (T := TX5) rfl 8 (by decide) rfl wf_X5_59 rfl hr8 dX5_findCounting_60 ?_
              refine lv_iload_n (pc := 63) hx hb dX5_findCounting_63 rfl (lv_at hl 0 rfl) ?_
              obtain ⟨pa, hrp, hkp, hoP, hps⟩ := hU2 kk.toNat (by omega)
              refine zaaldR0 (pc := 64) hx hb hw hkpo ⟨by omega, by omega⟩ (by omega) hrp dX5_findCounting_64 ?_
              refine zkVx (pc := 65) (zrV (As := [.ref dr, .ref pa]) hx hb hml hown hG hw (c_X5_markTold l Γ K XL40 Rf se dr pa Sd na 4733 (by (first | assumption | omega)) (by (first | assumption | omega)) (by (first | assumption | omega)) (by (first | assumption | omega)) (by (first | assumption | omega)) (by (first | assumption | omega)) (by (first | assumption | omega)) (by (first | assumption | omega)) (by (first | assumption | omega)) (by (first | assumption | omega))) (T := TX5) hk rfl cb_X5_markTold wl_X5_120 rfl ⟨Nat.le_of_ble_eq_true rfl, Nat.le_of_ble_eq_true rfl⟩ hl.1 rfl (Nat.le_of_ble_eq_true rfl) dX5_findCounting_65 ⟨Nat.zero_le _, Nat.zero_le _⟩) hw (fun X65 H locs hp65 hw => ?_)
              obtain ⟨hv65, ho65⟩ := hp65
              refine ziinc (pc := 68) (lv' := [(2, .int (iI (kk + 1))), (0, .ref se), (1, .ref dr)]) hx hb 0 dX5_findCounting_68 hl rfl (by decide) rfl (fun ls hl => ?_)
              obtain ⟨x68, ex68⟩ : ∃ zz : Int, zz = (kk + 1) := ⟨_, rfl⟩
              rw [← ex68] at hl
              refine lv_goto (pc := 71) (tgt := 40) hx hb dX5_findCounting_71 (by decide) ?_
              exact ih40 x68 X65 _ _ (by (first | assumption | omega)) (by 
                                        intro d g1 g2
                                        rw [hv65 d (by omega) (by omega), hv d g1 g2, ex68, show (kk + 1).toNat = kk.toNat + 1 by omega, ctK_s (by omega), told_congr hps.1 hps.2.1 hps.2.2]) (by rw [ho65 dr hne]; exact hd1) (by rw [ho65 dr hne]; exact hd2) (by intro a h1 h2; rw [ho65 a h2]; exact ho a h1 h2) (by omega) hw _ (lv_sub hl [0, 1, 2] rfl)
      exact lp40 _ 0 X35 _ _ (by (first | assumption | omega)) (by first | exact hmv | (intro d g1 g2; rw [rdv_clear hz19, ctK_0 (by omega)]; rfl)) (by first | exact hmd1 | exact hx1) (by first | exact hmd2 | exact hx2) (by first | exact hmo | exact ho19) (Nat.lt_succ_self _) hw _ (lv_sub hl [0, 1, 2] rfl)
set_option maxHeartbeats 4000000 in
set_option maxRecDepth 100000 in
theorem c_X5_takeDay (l : Launch) (Γ : zG) (K : zK) (X : zX) (Rf : zR) (se : Nat) (day : Int) (Sd : Nat → Int) (Ex : Nat → Int) (st : Int × List Int) (eo : Nat) (fo : Nat) (hk : K se = (1, 4)) (hD : serD (X se) Sd) (hS : okS Sd) (hr13 : Rf se 13 = some eo) (hkeo : K eo = (2, 8)) (hE : ∀ k : Nat, (k : Int) < Sd 10 → X eo k = Ex k) (hr15 : Rf se 15 = some fo) (hkfo : K fo = (2, 4001)) (hst : repD X se fo st) (hsb : (0 ≤ st.1 ∧ st.1 ≤ 100000) ∧ (bdS Sd ≤ day → day ≤ Sd 7 → (st.2.length : Int) ≤ 4000)) (h1 : fit day) : Ct l yX5_takeDay cX5_takeDay 4 none 1 0 0 Γ [.ref se, .int (iI day)] K X Rf (pV (zpv K Rf (fun X' : zX => repD X' se fo (tkD Sd Ex st day) ∧ (∀ a, a ≠ se → a ≠ fo → X' a = X a) ∧ (∀ q, q ≠ 16 → q ≠ 17 → X' se q = X se q)))) := by
  refine Ct.of (by decide +kernel) (Nat.le_of_ble_eq_true rfl) ?_
  intro p e s m below meth c ls hx hb hr hml hown hG hlocks hname hw hl
  have hl : lv_has ls 4 [(0, .ref se), (1, .int (iI day))] := hl
  have hne : se ≠ fo := zkne hk hkfo (by simp)
  have heo1 : eo ≠ se := zkne hkeo hk (by simp)
  have heo2 : eo ≠ fo := fun q => by rw [q, hkfo] at hkeo; exact absurd hkeo (by decide)
  obtain ⟨hs17, hs16, hsf⟩ := id hst
  refine lv_aload_n (pc := 0) hx hb dX5_takeDay_0 rfl (lv_at hl 0 rfl) ?_
  refine zgetI (pc := 1) hx hb hG hown hw hk (T := TX5) rfl 11 (by decide) rfl wf_X5_69 rfl dX5_takeDay_1 ?_
  refine zif_eq (pc := 4) hx hb 22 (by omega) dX5_takeDay_4 (by decide) (fun c4 => ?_) (fun c4 => ?_)
  · skip
    refine ziconst (pc := 22) (n := 0) hx hb dX5_takeDay_22 ?_
    refine lv_istore_n (pc := 23) (lv' := [(2, .int (iI 0)), (0, .ref se), (1, .int (iI day))]) hx hb dX5_takeDay_23 rfl hl (by decide) rfl (fun ls hl => ?_)
    refine lv_iload_n (pc := 24) hx hb dX5_takeDay_24 rfl (lv_at hl 2 rfl) ?_
    refine lv_aload_n (pc := 25) hx hb dX5_takeDay_25 rfl (lv_at hl 1 rfl) ?_
    refine zgetI (pc := 26) hx hb hG hown hw hk (T := TX5) rfl 2 (by decide) rfl wf_X5_28 rfl dX5_takeDay_26 ?_
    refine zicmp_lt (pc := 29) hx hb 44 (by omega) (by omega) dX5_takeDay_29 (by decide) (fun c29 => ?_) (fun c29 => ?_)
    · skip
      exact zretV (pc := 44) hx hb hlocks hr hw (Nat.zero_le _) (Nat.zero_le _) dX5_takeDay_44 ⟨by (try dsimp only) <;> (rw [tkD_no (by omega)]; exact ⟨hst, fun _ _ _ => rfl, fun _ _ _ => rfl⟩), rfl, rfl⟩
    · skip
      refine lv_iload_n (pc := 32) hx hb dX5_takeDay_32 rfl (lv_at hl 2 rfl) ?_
      refine lv_aload_n (pc := 33) hx hb dX5_takeDay_33 rfl (lv_at hl 1 rfl) ?_
      refine zgetI (pc := 34) hx hb hG hown hw hk (T := TX5) rfl 12 (by decide) rfl wf_X5_72 rfl dX5_takeDay_34 ?_
      refine zicmp_gt (pc := 37) hx hb 44 (by omega) (by omega) dX5_takeDay_37 (by decide) (fun c37 => ?_) (fun c37 => ?_)
      · skip
        exact zretV (pc := 44) hx hb hlocks hr hw (Nat.zero_le _) (Nat.zero_le _) dX5_takeDay_44 ⟨by (try dsimp only) <;> (rw [tkD_no (by omega)]; exact ⟨hst, fun _ _ _ => rfl, fun _ _ _ => rfl⟩), rfl, rfl⟩
      · skip
        refine lv_iload_n (pc := 40) hx hb dX5_takeDay_40 rfl (lv_at hl 0 rfl) ?_
        refine zif_eq (pc := 41) hx hb 45 (by omega) dX5_takeDay_41 (by decide) (fun c41 => ?_) (fun c41 => ?_)
        · skip
          refine lv_aload_n (pc := 45) hx hb dX5_takeDay_45 rfl (lv_at hl 1 rfl) ?_
          refine lv_dup (pc := 46) hx hb dX5_takeDay_46 rfl ?_
          refine zgetI (pc := 47) hx hb hG hown hw hk (T := TX5) rfl 17 (by decide) rfl wf_X5_88 rfl dX5_takeDay_47 ?_
          refine ziconst (pc := 50) (n := 1) hx hb dX5_takeDay_50 ?_
          refine zadd (pc := 51) hx hb dX5_takeDay_51 ?_
          refine zputI (pc := 52) hx hb hG hown hw hk (T := TX5) rfl 17 (by decide) rfl wf_X5_88 rfl (by decide +kernel) rfl dX5_takeDay_52 (fun H locs hw => ?_)
          obtain ⟨X52, eX52⟩ : ∃ Y : zX, Y = up2 X se 17 ((X se 17) + 1) := ⟨_, rfl⟩
          rw [← eX52] at hw
          refine lv_aload_n (pc := 55) hx hb dX5_takeDay_55 rfl (lv_at hl 1 rfl) ?_
          refine zgetI (pc := 56) hx hb hG hown hw hk (T := TX5) rfl 16 (by decide) rfl wf_X5_85 rfl dX5_takeDay_56 ?_
          refine ztop (fun x59 ex59 => ?_)
          refine lv_istore_n (pc := 59) (lv' := [(3, .int (iI x59)), (2, .int (iI 0)), (0, .ref se), (1, .int (iI day))]) hx hb dX5_takeDay_59 rfl hl (by decide) rfl (fun ls hl => ?_)
          refine lv_aload_n (pc := 60) hx hb dX5_takeDay_60 rfl (lv_at hl 2 rfl) ?_
          refine lv_iload_n (pc := 61) hx hb dX5_takeDay_61 rfl (lv_at hl 3 rfl) ?_
          have hno : ¬(day < bdS Sd ∨ Sd 7 < day ∨ (Sd 6 ≠ 0 ∧ Sd 6 ≤ st.1)) := by omega
          have hD2 : serD (X52 se) Sd := hD.congr (fun q h1 h2 => by rw [eX52, up2_k h2])
          have hE2 : ∀ k : Nat, (k : Int) < Sd 10 → X52 eo k = Ex k := fun k hk => by rw [eX52, up2_o heo1]; exact hE k hk
          have hx59 : x59 = st.2.length := by rw [ex59, eX52, up2_k (by decide)]; exact hs16
          refine zkIp (pc := 62) (zrV (As := [.int (iI day)]) hx hb hml hown hG hw (c_X5_isException l Γ K X52 Rf se day Sd Ex eo (by (first | assumption | omega)) (by (first | assumption | omega)) (by (first | assumption | omega)) (by (first | assumption | omega)) (by (first | assumption | omega)) (by (first | assumption | omega)) (by (first | assumption | omega))) (T := TX5) hk rfl cb_X5_isException wl_X5_161 rfl ⟨Nat.le_of_ble_eq_true rfl, Nat.le_of_ble_eq_true rfl⟩ hl.1 rfl (Nat.le_of_ble_eq_true rfl) dX5_takeDay_62 ⟨Nat.zero_le _, Nat.zero_le _⟩) hw (fun r62 H locs hp62 hw => ?_)
          subst hp62
          have hev := exV_rng Ex day (Sd 10).toNat
          have hln := hsb.2 (by omega) (by omega)
          refine zif_ne (pc := 65) hx hb 95 (by omega) dX5_takeDay_65 (by decide) (fun c65 => ?_) (fun c65 => ?_)
          · skip
            exact zretV (pc := 95) hx hb hlocks hr hw (Nat.zero_le _) (Nat.zero_le _) dX5_takeDay_95 ⟨by (try dsimp only) <;> (
                                        first
                                        | (have hq : exB Ex day (Sd 10).toNat = true := by
                                             rcases hev with ⟨w, _⟩ | ⟨_, w⟩
                                             · omega
                                             · exact w
                                           rw [tkD_out hno hq]
                                           exact ⟨⟨by rw [eX52, up2_s, hs17], by rw [eX52, up2_k (by decide)]; exact hs16, fun j hj => by rw [eX52, up2_o (Ne.symm hne)]; exact hsf j hj⟩, fun a g1 g2 => by rw [eX52, up2_o g1], fun q g1 g2 => by rw [eX52, up2_k g2]⟩)
                                        | (have hq : exB Ex day (Sd 10).toNat = false := by
                                             rcases hev with ⟨_, w⟩ | ⟨w, _⟩
                                             · exact w
                                             · omega
                                           rw [tkD_in hno hq]
                                           refine ⟨⟨by rw [eX92, up2_k (by decide), eX87, up2_o hne, eX52, up2_s, hs17], by rw [eX92, up2_s, hx59]; simp, fun j hj => ?_⟩, fun a g1 g2 => by rw [eX92, up2_o g1, eX87, up2_o g2, eX52, up2_o g1], fun q g1 g2 => by rw [eX92, up2_k g1, eX87, up2_o hne, eX52, up2_k g2]⟩
                                           rw [eX92, up2_o (Ne.symm hne), eX87, up2_eq]
                                           have hj2 : j < (st.2 ++ [day]).length := hj
                                           rw [List.length_append, List.length_singleton] at hj2
                                           by_cases g : j = x59.toNat
                                           · rw [if_pos ⟨rfl, g⟩, show j = st.2.length by omega]; exact getD_snoc_r.symm
                                           · rw [if_neg (fun w => g w.2), eX52, up2_o (Ne.symm hne), hsf j (by omega)]; exact (getD_snoc_l (by omega)).symm)), rfl, rfl⟩
          · skip
            refine lv_iload_n (pc := 68) hx hb dX5_takeDay_68 rfl (lv_at hl 0 rfl) ?_
            refine zif_lt (pc := 69) hx hb 95 (by omega) dX5_takeDay_69 (by decide) (fun c69 => ?_) (fun c69 => ?_)
            · skip
              exfalso; omega
            · skip
              refine lv_iload_n (pc := 72) hx hb dX5_takeDay_72 rfl (lv_at hl 0 rfl) ?_
              refine lv_aload_n (pc := 73) hx hb dX5_takeDay_73 rfl (lv_at hl 2 rfl) ?_
              refine zgetR (pc := 74) hx hb hG hown hw hk (T := TX5) rfl 15 (by decide) rfl wf_X5_82 rfl hr15 dX5_takeDay_74 ?_
              refine zlen2 (pc := 77) hx hb hw hkfo dX5_takeDay_77 ?_
              refine zicmp_ge (pc := 78) hx hb 95 (by omega) (by omega) dX5_takeDay_78 (by decide) (fun c78 => ?_) (fun c78 => ?_)
              · skip
                exfalso; omega
              · skip
                refine lv_aload_n (pc := 81) hx hb dX5_takeDay_81 rfl (lv_at hl 2 rfl) ?_
                refine zgetR (pc := 82) hx hb hG hown hw hk (T := TX5) rfl 15 (by decide) rfl wf_X5_82 rfl hr15 dX5_takeDay_82 ?_
                refine lv_iload_n (pc := 85) hx hb dX5_takeDay_85 rfl (lv_at hl 0 rfl) ?_
                refine lv_iload_n (pc := 86) hx hb dX5_takeDay_86 rfl (lv_at hl 3 rfl) ?_
                refine zast (pc := 87) hx hb hw hkfo ⟨by omega, by omega⟩ (by omega) dX5_takeDay_87 (fun H locs hw => ?_)
                obtain ⟨X87, eX87⟩ : ∃ Y : zX, Y = up2 X52 fo x59.toNat day := ⟨_, rfl⟩
                rw [← eX87] at hw
                refine lv_aload_n (pc := 88) hx hb dX5_takeDay_88 rfl (lv_at hl 2 rfl) ?_
                refine lv_iload_n (pc := 89) hx hb dX5_takeDay_89 rfl (lv_at hl 0 rfl) ?_
                refine ziconst (pc := 90) (n := 1) hx hb dX5_takeDay_90 ?_
                refine zadd (pc := 91) hx hb dX5_takeDay_91 ?_
                refine zputI (pc := 92) hx hb hG hown hw hk (T := TX5) rfl 16 (by decide) rfl wf_X5_85 rfl (by decide +kernel) rfl dX5_takeDay_92 (fun H locs hw => ?_)
                obtain ⟨X92, eX92⟩ : ∃ Y : zX, Y = up2 X87 se 16 (x59 + 1) := ⟨_, rfl⟩
                rw [← eX92] at hw
                exact zretV (pc := 95) hx hb hlocks hr hw (Nat.zero_le _) (Nat.zero_le _) dX5_takeDay_95 ⟨by (try dsimp only) <;> (
                                        first
                                        | (have hq : exB Ex day (Sd 10).toNat = true := by
                                             rcases hev with ⟨w, _⟩ | ⟨_, w⟩
                                             · omega
                                             · exact w
                                           rw [tkD_out hno hq]
                                           exact ⟨⟨by rw [eX52, up2_s, hs17], by rw [eX52, up2_k (by decide)]; exact hs16, fun j hj => by rw [eX52, up2_o (Ne.symm hne)]; exact hsf j hj⟩, fun a g1 g2 => by rw [eX52, up2_o g1], fun q g1 g2 => by rw [eX52, up2_k g2]⟩)
                                        | (have hq : exB Ex day (Sd 10).toNat = false := by
                                             rcases hev with ⟨_, w⟩ | ⟨w, _⟩
                                             · exact w
                                             · omega
                                           rw [tkD_in hno hq]
                                           refine ⟨⟨by rw [eX92, up2_k (by decide), eX87, up2_o hne, eX52, up2_s, hs17], by rw [eX92, up2_s, hx59]; simp, fun j hj => ?_⟩, fun a g1 g2 => by rw [eX92, up2_o g1, eX87, up2_o g2, eX52, up2_o g1], fun q g1 g2 => by rw [eX92, up2_k g1, eX87, up2_o hne, eX52, up2_k g2]⟩
                                           rw [eX92, up2_o (Ne.symm hne), eX87, up2_eq]
                                           have hj2 : j < (st.2 ++ [day]).length := hj
                                           rw [List.length_append, List.length_singleton] at hj2
                                           by_cases g : j = x59.toNat
                                           · rw [if_pos ⟨rfl, g⟩, show j = st.2.length by omega]; exact getD_snoc_r.symm
                                           · rw [if_neg (fun w => g w.2), eX52, up2_o (Ne.symm hne), hsf j (by omega)]; exact (getD_snoc_l (by omega)).symm)), rfl, rfl⟩
        · skip
          exfalso; omega
  · skip
    refine lv_aload_n (pc := 7) hx hb dX5_takeDay_7 rfl (lv_at hl 0 rfl) ?_
    refine zgetI (pc := 8) hx hb hG hown hw hk (T := TX5) rfl 17 (by decide) rfl wf_X5_88 rfl dX5_takeDay_8 ?_
    refine lv_aload_n (pc := 11) hx hb dX5_takeDay_11 rfl (lv_at hl 0 rfl) ?_
    refine zgetI (pc := 12) hx hb hG hown hw hk (T := TX5) rfl 11 (by decide) rfl wf_X5_69 rfl dX5_takeDay_12 ?_
    refine zicmp_lt (pc := 15) hx hb 22 (by omega) (by omega) dX5_takeDay_15 (by decide) (fun c15 => ?_) (fun c15 => ?_)
    · skip
      refine ziconst (pc := 22) (n := 0) hx hb dX5_takeDay_22 ?_
      refine lv_istore_n (pc := 23) (lv' := [(2, .int (iI 0)), (0, .ref se), (1, .int (iI day))]) hx hb dX5_takeDay_23 rfl hl (by decide) rfl (fun ls hl => ?_)
      refine lv_iload_n (pc := 24) hx hb dX5_takeDay_24 rfl (lv_at hl 2 rfl) ?_
      refine lv_aload_n (pc := 25) hx hb dX5_takeDay_25 rfl (lv_at hl 1 rfl) ?_
      refine zgetI (pc := 26) hx hb hG hown hw hk (T := TX5) rfl 2 (by decide) rfl wf_X5_28 rfl dX5_takeDay_26 ?_
      refine zicmp_lt (pc := 29) hx hb 44 (by omega) (by omega) dX5_takeDay_29 (by decide) (fun c29 => ?_) (fun c29 => ?_)
      · skip
        exact zretV (pc := 44) hx hb hlocks hr hw (Nat.zero_le _) (Nat.zero_le _) dX5_takeDay_44 ⟨by (try dsimp only) <;> (rw [tkD_no (by omega)]; exact ⟨hst, fun _ _ _ => rfl, fun _ _ _ => rfl⟩), rfl, rfl⟩
      · skip
        refine lv_iload_n (pc := 32) hx hb dX5_takeDay_32 rfl (lv_at hl 2 rfl) ?_
        refine lv_aload_n (pc := 33) hx hb dX5_takeDay_33 rfl (lv_at hl 1 rfl) ?_
        refine zgetI (pc := 34) hx hb hG hown hw hk (T := TX5) rfl 12 (by decide) rfl wf_X5_72 rfl dX5_takeDay_34 ?_
        refine zicmp_gt (pc := 37) hx hb 44 (by omega) (by omega) dX5_takeDay_37 (by decide) (fun c37 => ?_) (fun c37 => ?_)
        · skip
          exact zretV (pc := 44) hx hb hlocks hr hw (Nat.zero_le _) (Nat.zero_le _) dX5_takeDay_44 ⟨by (try dsimp only) <;> (rw [tkD_no (by omega)]; exact ⟨hst, fun _ _ _ => rfl, fun _ _ _ => rfl⟩), rfl, rfl⟩
        · skip
          refine lv_iload_n (pc := 40) hx hb dX5_takeDay_40 rfl (lv_at hl 0 rfl) ?_
          refine zif_eq (pc := 41) hx hb 45 (by omega) dX5_takeDay_41 (by decide) (fun c41 => ?_) (fun c41 => ?_)
          · skip
            refine lv_aload_n (pc := 45) hx hb dX5_takeDay_45 rfl (lv_at hl 1 rfl) ?_
            refine lv_dup (pc := 46) hx hb dX5_takeDay_46 rfl ?_
            refine zgetI (pc := 47) hx hb hG hown hw hk (T := TX5) rfl 17 (by decide) rfl wf_X5_88 rfl dX5_takeDay_47 ?_
            refine ziconst (pc := 50) (n := 1) hx hb dX5_takeDay_50 ?_
            refine zadd (pc := 51) hx hb dX5_takeDay_51 ?_
            refine zputI (pc := 52) hx hb hG hown hw hk (T := TX5) rfl 17 (by decide) rfl wf_X5_88 rfl (by decide +kernel) rfl dX5_takeDay_52 (fun H locs hw => ?_)
            obtain ⟨X52, eX52⟩ : ∃ Y : zX, Y = up2 X se 17 ((X se 17) + 1) := ⟨_, rfl⟩
            rw [← eX52] at hw
            refine lv_aload_n (pc := 55) hx hb dX5_takeDay_55 rfl (lv_at hl 1 rfl) ?_
            refine zgetI (pc := 56) hx hb hG hown hw hk (T := TX5) rfl 16 (by decide) rfl wf_X5_85 rfl dX5_takeDay_56 ?_
            refine ztop (fun x59 ex59 => ?_)
            refine lv_istore_n (pc := 59) (lv' := [(3, .int (iI x59)), (2, .int (iI 0)), (0, .ref se), (1, .int (iI day))]) hx hb dX5_takeDay_59 rfl hl (by decide) rfl (fun ls hl => ?_)
            refine lv_aload_n (pc := 60) hx hb dX5_takeDay_60 rfl (lv_at hl 2 rfl) ?_
            refine lv_iload_n (pc := 61) hx hb dX5_takeDay_61 rfl (lv_at hl 3 rfl) ?_
            have hno : ¬(day < bdS Sd ∨ Sd 7 < day ∨ (Sd 6 ≠ 0 ∧ Sd 6 ≤ st.1)) := by omega
            have hD2 : serD (X52 se) Sd := hD.congr (fun q h1 h2 => by rw [eX52, up2_k h2])
            have hE2 : ∀ k : Nat, (k : Int) < Sd 10 → X52 eo k = Ex k := fun k hk => by rw [eX52, up2_o heo1]; exact hE k hk
            have hx59 : x59 = st.2.length := by rw [ex59, eX52, up2_k (by decide)]; exact hs16
            refine zkIp (pc := 62) (zrV (As := [.int (iI day)]) hx hb hml hown hG hw (c_X5_isException l Γ K X52 Rf se day Sd Ex eo (by (first | assumption | omega)) (by (first | assumption | omega)) (by (first | assumption | omega)) (by (first | assumption | omega)) (by (first | assumption | omega)) (by (first | assumption | omega)) (by (first | assumption | omega))) (T := TX5) hk rfl cb_X5_isException wl_X5_161 rfl ⟨Nat.le_of_ble_eq_true rfl, Nat.le_of_ble_eq_true rfl⟩ hl.1 rfl (Nat.le_of_ble_eq_true rfl) dX5_takeDay_62 ⟨Nat.zero_le _, Nat.zero_le _⟩) hw (fun r62 H locs hp62 hw => ?_)
            subst hp62
            have hev := exV_rng Ex day (Sd 10).toNat
            have hln := hsb.2 (by omega) (by omega)
            refine zif_ne (pc := 65) hx hb 95 (by omega) dX5_takeDay_65 (by decide) (fun c65 => ?_) (fun c65 => ?_)
            · skip
              exact zretV (pc := 95) hx hb hlocks hr hw (Nat.zero_le _) (Nat.zero_le _) dX5_takeDay_95 ⟨by (try dsimp only) <;> (
                                        first
                                        | (have hq : exB Ex day (Sd 10).toNat = true := by
                                             rcases hev with ⟨w, _⟩ | ⟨_, w⟩
                                             · omega
                                             · exact w
                                           rw [tkD_out hno hq]
                                           exact ⟨⟨by rw [eX52, up2_s, hs17], by rw [eX52, up2_k (by decide)]; exact hs16, fun j hj => by rw [eX52, up2_o (Ne.symm hne)]; exact hsf j hj⟩, fun a g1 g2 => by rw [eX52, up2_o g1], fun q g1 g2 => by rw [eX52, up2_k g2]⟩)
                                        | (have hq : exB Ex day (Sd 10).toNat = false := by
                                             rcases hev with ⟨_, w⟩ | ⟨w, _⟩
                                             · exact w
                                             · omega
                                           rw [tkD_in hno hq]
                                           refine ⟨⟨by rw [eX92, up2_k (by decide), eX87, up2_o hne, eX52, up2_s, hs17], by rw [eX92, up2_s, hx59]; simp, fun j hj => ?_⟩, fun a g1 g2 => by rw [eX92, up2_o g1, eX87, up2_o g2, eX52, up2_o g1], fun q g1 g2 => by rw [eX92, up2_k g1, eX87, up2_o hne, eX52, up2_k g2]⟩
                                           rw [eX92, up2_o (Ne.symm hne), eX87, up2_eq]
                                           have hj2 : j < (st.2 ++ [day]).length := hj
                                           rw [List.length_append, List.length_singleton] at hj2
                                           by_cases g : j = x59.toNat
                                           · rw [if_pos ⟨rfl, g⟩, show j = st.2.length by omega]; exact getD_snoc_r.symm
                                           · rw [if_neg (fun w => g w.2), eX52, up2_o (Ne.symm hne), hsf j (by omega)]; exact (getD_snoc_l (by omega)).symm)), rfl, rfl⟩
            · skip
              refine lv_iload_n (pc := 68) hx hb dX5_takeDay_68 rfl (lv_at hl 0 rfl) ?_
              refine zif_lt (pc := 69) hx hb 95 (by omega) dX5_takeDay_69 (by decide) (fun c69 => ?_) (fun c69 => ?_)
              · skip
                exfalso; omega
              · skip
                refine lv_iload_n (pc := 72) hx hb dX5_takeDay_72 rfl (lv_at hl 0 rfl) ?_
                refine lv_aload_n (pc := 73) hx hb dX5_takeDay_73 rfl (lv_at hl 2 rfl) ?_
                refine zgetR (pc := 74) hx hb hG hown hw hk (T := TX5) rfl 15 (by decide) rfl wf_X5_82 rfl hr15 dX5_takeDay_74 ?_
                refine zlen2 (pc := 77) hx hb hw hkfo dX5_takeDay_77 ?_
                refine zicmp_ge (pc := 78) hx hb 95 (by omega) (by omega) dX5_takeDay_78 (by decide) (fun c78 => ?_) (fun c78 => ?_)
                · skip
                  exfalso; omega
                · skip
                  refine lv_aload_n (pc := 81) hx hb dX5_takeDay_81 rfl (lv_at hl 2 rfl) ?_
                  refine zgetR (pc := 82) hx hb hG hown hw hk (T := TX5) rfl 15 (by decide) rfl wf_X5_82 rfl hr15 dX5_takeDay_82 ?_
                  refine lv_iload_n (pc := 85) hx hb dX5_takeDay_85 rfl (lv_at hl 0 rfl) ?_
                  refine lv_iload_n (pc := 86) hx hb dX5_takeDay_86 rfl (lv_at hl 3 rfl) ?_
                  refine zast (pc := 87) hx hb hw hkfo ⟨by omega, by omega⟩ (by omega) dX5_takeDay_87 (fun H locs hw => ?_)
                  obtain ⟨X87, eX87⟩ : ∃ Y : zX, Y = up2 X52 fo x59.toNat day := ⟨_, rfl⟩
                  rw [← eX87] at hw
                  refine lv_aload_n (pc := 88) hx hb dX5_takeDay_88 rfl (lv_at hl 2 rfl) ?_
                  refine lv_iload_n (pc := 89) hx hb dX5_takeDay_89 rfl (lv_at hl 0 rfl) ?_
                  refine ziconst (pc := 90) (n := 1) hx hb dX5_takeDay_90 ?_
                  refine zadd (pc := 91) hx hb dX5_takeDay_91 ?_
                  refine zputI (pc := 92) hx hb hG hown hw hk (T := TX5) rfl 16 (by decide) rfl wf_X5_85 rfl (by decide +kernel) rfl dX5_takeDay_92 (fun H locs hw => ?_)
                  obtain ⟨X92, eX92⟩ : ∃ Y : zX, Y = up2 X87 se 16 (x59 + 1) := ⟨_, rfl⟩
                  rw [← eX92] at hw
                  exact zretV (pc := 95) hx hb hlocks hr hw (Nat.zero_le _) (Nat.zero_le _) dX5_takeDay_95 ⟨by (try dsimp only) <;> (
                                        first
                                        | (have hq : exB Ex day (Sd 10).toNat = true := by
                                             rcases hev with ⟨w, _⟩ | ⟨_, w⟩
                                             · omega
                                             · exact w
                                           rw [tkD_out hno hq]
                                           exact ⟨⟨by rw [eX52, up2_s, hs17], by rw [eX52, up2_k (by decide)]; exact hs16, fun j hj => by rw [eX52, up2_o (Ne.symm hne)]; exact hsf j hj⟩, fun a g1 g2 => by rw [eX52, up2_o g1], fun q g1 g2 => by rw [eX52, up2_k g2]⟩)
                                        | (have hq : exB Ex day (Sd 10).toNat = false := by
                                             rcases hev with ⟨_, w⟩ | ⟨w, _⟩
                                             · exact w
                                             · omega
                                           rw [tkD_in hno hq]
                                           refine ⟨⟨by rw [eX92, up2_k (by decide), eX87, up2_o hne, eX52, up2_s, hs17], by rw [eX92, up2_s, hx59]; simp, fun j hj => ?_⟩, fun a g1 g2 => by rw [eX92, up2_o g1, eX87, up2_o g2, eX52, up2_o g1], fun q g1 g2 => by rw [eX92, up2_k g1, eX87, up2_o hne, eX52, up2_k g2]⟩
                                           rw [eX92, up2_o (Ne.symm hne), eX87, up2_eq]
                                           have hj2 : j < (st.2 ++ [day]).length := hj
                                           rw [List.length_append, List.length_singleton] at hj2
                                           by_cases g : j = x59.toNat
                                           · rw [if_pos ⟨rfl, g⟩, show j = st.2.length by omega]; exact getD_snoc_r.symm
                                           · rw [if_neg (fun w => g w.2), eX52, up2_o (Ne.symm hne), hsf j (by omega)]; exact (getD_snoc_l (by omega)).symm)), rfl, rfl⟩
          · skip
            exfalso; omega
    · skip
      refine ziconst (pc := 18) (n := 1) hx hb dX5_takeDay_18 ?_
      refine lv_goto (pc := 19) (tgt := 23) hx hb dX5_takeDay_19 (by decide) ?_
      refine lv_istore_n (pc := 23) (lv' := [(2, .int (iI 1)), (0, .ref se), (1, .int (iI day))]) hx hb dX5_takeDay_23 rfl hl (by decide) rfl (fun ls hl => ?_)
      refine lv_iload_n (pc := 24) hx hb dX5_takeDay_24 rfl (lv_at hl 2 rfl) ?_
      refine lv_aload_n (pc := 25) hx hb dX5_takeDay_25 rfl (lv_at hl 1 rfl) ?_
      refine zgetI (pc := 26) hx hb hG hown hw hk (T := TX5) rfl 2 (by decide) rfl wf_X5_28 rfl dX5_takeDay_26 ?_
      refine zicmp_lt (pc := 29) hx hb 44 (by omega) (by omega) dX5_takeDay_29 (by decide) (fun c29 => ?_) (fun c29 => ?_)
      · skip
        exact zretV (pc := 44) hx hb hlocks hr hw (Nat.zero_le _) (Nat.zero_le _) dX5_takeDay_44 ⟨by (try dsimp only) <;> (rw [tkD_no (by omega)]; exact ⟨hst, fun _ _ _ => rfl, fun _ _ _ => rfl⟩), rfl, rfl⟩
      · skip
        refine lv_iload_n (pc := 32) hx hb dX5_takeDay_32 rfl (lv_at hl 2 rfl) ?_
        refine lv_aload_n (pc := 33) hx hb dX5_takeDay_33 rfl (lv_at hl 1 rfl) ?_
        refine zgetI (pc := 34) hx hb hG hown hw hk (T := TX5) rfl 12 (by decide) rfl wf_X5_72 rfl dX5_takeDay_34 ?_
        refine zicmp_gt (pc := 37) hx hb 44 (by omega) (by omega) dX5_takeDay_37 (by decide) (fun c37 => ?_) (fun c37 => ?_)
        · skip
          exact zretV (pc := 44) hx hb hlocks hr hw (Nat.zero_le _) (Nat.zero_le _) dX5_takeDay_44 ⟨by (try dsimp only) <;> (rw [tkD_no (by omega)]; exact ⟨hst, fun _ _ _ => rfl, fun _ _ _ => rfl⟩), rfl, rfl⟩
        · skip
          refine lv_iload_n (pc := 40) hx hb dX5_takeDay_40 rfl (lv_at hl 0 rfl) ?_
          refine zif_eq (pc := 41) hx hb 45 (by omega) dX5_takeDay_41 (by decide) (fun c41 => ?_) (fun c41 => ?_)
          · skip
            exfalso; omega
          · skip
            exact zretV (pc := 44) hx hb hlocks hr hw (Nat.zero_le _) (Nat.zero_le _) dX5_takeDay_44 ⟨by (try dsimp only) <;> (rw [tkD_no (by omega)]; exact ⟨hst, fun _ _ _ => rfl, fun _ _ _ => rfl⟩), rfl, rfl⟩
set_option maxHeartbeats 4000000 in
set_option maxRecDepth 100000 in
theorem c_X5_chosen (l : Launch) (Γ : zG) (K : zK) (X : zX) (Rf : zR) (se : Nat) (dr : Nat) (first : Int) (en : Int) (Sd : Nat → Int) (Up : Nat → Nat → Int) (na : Nat) (hk : K se = (1, 4)) (hD : serD (X se) Sd) (hS : okS Sd) (hkd : K dr = (1, 0)) (hr0 : Rf dr 0 = some na) (hkn : K na = (2, 4733)) (hb0 : (-100000 ≤ X dr 1 ∧ X dr 1 ≤ 200000) ∧ -100000 ≤ X dr 2 ∧ X dr 2 ≤ 200000) (hW : ∀ d : Int, first ≤ d → d ≤ en → rdv X dr na 4733 d = if ctS Sd Up d then 1 else -1) (h1 : (0 ≤ first ∧ first ≤ en + 1) ∧ en ≤ 73048) (h5 : Sd 5 ≠ 0) : Ct l yX5_chosen cX5_chosen 7 (some .int) 2 0 0 Γ [.ref se, .ref dr, .int (iI first), .int (iI en)] K X Rf (pI (zp0 K X Rf (fun r : Int => r = chS Sd Up first en))) := by
  refine Ct.of (by decide +kernel) (Nat.le_of_ble_eq_true rfl) ?_
  intro p e s m below meth c ls hx hb hr hml hown hG hlocks hname hw hl
  have hl : lv_has ls 7 [(0, .ref se), (1, .ref dr), (2, .int (iI first)), (3, .int (iI en))] := hl
  refine lv_aload_n (pc := 0) hx hb dX5_chosen_0 rfl (lv_at hl 0 rfl) ?_
  refine zgetI (pc := 1) hx hb hG hown hw hk (T := TX5) rfl 10 (by decide) rfl wf_X5_66 rfl dX5_chosen_1 ?_
  refine zabs (pc := 4) hx hb (hml.trans hl.1.symm) hown hG wl_X5_158 w1_zab wi_javalangMath w2_zab (Nat.le_of_ble_eq_true rfl) (Nat.le_of_ble_eq_true rfl) (Nat.zero_le _) (Nat.zero_le _) (by omega) dX5_chosen_4 ?_
  refine ztop (fun x7 ex7 => ?_)
  refine lv_istore (pc := 7) (lv' := [(4, .int (iI x7)), (0, .ref se), (1, .ref dr), (2, .int (iI first)), (3, .int (iI en))]) hx hb dX5_chosen_7 hl (by decide) rfl (fun ls hl => ?_)
  have hx4 : (0 ≤ X se 10 ∧ x4 = X se 10) ∨ (X se 10 < 0 ∧ x4 = -X se 10) := by rw [ex4]; split <;> omega
  refine ziconst (pc := 9) (n := 0) hx hb dX5_chosen_9 ?_
  refine lv_istore (pc := 10) (lv' := [(5, .int (iI 0)), (4, .int (iI x7)), (0, .ref se), (1, .ref dr), (2, .int (iI first)), (3, .int (iI en))]) hx hb dX5_chosen_10 hl (by decide) rfl (fun ls hl => ?_)
  have lp12 : ∀ (n12 : Nat) (nn : Int) (wa : Int) (H : Heap) (locs : List Loc), (hi : 0 ≤ nn ∧ nn ≤ en - first + 1) → (hw9 : 1 ≤ wa ∧ wa ≤ 6) → (hc : chS Sd Up first en = if 0 < Sd 5 then chF (ctS Sd Up) (en - (first + nn) + 1).toNat (first + nn) wa else chB (ctS Sd Up) (en - nn - first + 1).toNat (en - nn) wa) → ((en - first + 1 - nn).toNat < n12) → Wd Γ (zA K s.heap.size) K X Rf s H locs → ∀ ls : Array Slot, lv_has ls 7 [(5, .int (iI nn)), (4, .int (iI wa)), (0, .ref se), (1, .ref dr), (2, .int (iI first)), (3, .int (iI en))] → W p l e (rmL 2 0 0) s m ([.ref se, .ref dr, .int (iI first), .int (iI en)] : List Value).toArray below meth c H locs 0 0 (MQ below (zQ Γ K s.heap.size (pI (zp0 K X Rf (fun r : Int => r = chS Sd Up first en)))) ([.ref se, .ref dr, .int (iI first), .int (iI en)] : List Value).toArray s 0 0 (zA K s.heap.size)) (F0 m 12 ls []) := by
    intro n12
    induction n12 with
    | zero => intro nn wa H locs hi hw9 hc hm12; exact absurd hm12 (Nat.not_lt_zero _)
    | succ n12 ih12 =>
      intro nn wa H locs hi hw9 hc hm12 hw ls hl
      refine lv_iload (pc := 12) hx hb dX5_chosen_12 (lv_at hl 0 rfl) ?_
      refine lv_iload_n (pc := 14) hx hb dX5_chosen_14 rfl (lv_at hl 5 rfl) ?_
      refine lv_iload_n (pc := 15) hx hb dX5_chosen_15 rfl (lv_at hl 4 rfl) ?_
      refine zsub (pc := 16) hx hb dX5_chosen_16 ?_
      refine zicmp_gt (pc := 17) hx hb 66 (by omega) (by omega) dX5_chosen_17 (by decide) (fun c17 => ?_) (fun c17 => ?_)
      · skip
        refine ziconst (pc := 66) (n := (-1)) hx hb dX5_chosen_66 ?_
        exact zretI (pc := 67) hx hb hlocks hr hw (Nat.zero_le _) (Nat.zero_le _) dX5_chosen_67 ⟨by (try dsimp only) <;> (rw [hc]; split; rw [chF_e (by omega)]; rw [chB_e (by omega)]), rfl, rfl, rfl⟩
      · skip
        refine lv_aload_n (pc := 20) hx hb dX5_chosen_20 rfl (lv_at hl 2 rfl) ?_
        refine zgetI (pc := 21) hx hb hG hown hw hk (T := TX5) rfl 10 (by decide) rfl wf_X5_66 rfl dX5_chosen_21 ?_
        refine zif_le (pc := 24) hx hb 34 (by omega) dX5_chosen_24 (by decide) (fun c24 => ?_) (fun c24 => ?_)
        · skip
          refine lv_iload_n (pc := 34) hx hb dX5_chosen_34 rfl (lv_at hl 5 rfl) ?_
          refine lv_iload (pc := 35) hx hb dX5_chosen_35 (lv_at hl 0 rfl) ?_
          refine zsub (pc := 37) hx hb dX5_chosen_37 ?_
          refine ztop (fun x38 ex38 => ?_)
          refine lv_istore (pc := 38) (lv' := [(6, .int (iI x38)), (5, .int (iI nn)), (4, .int (iI wa)), (0, .ref se), (1, .ref dr), (2, .int (iI first)), (3, .int (iI en))]) hx hb dX5_chosen_38 hl (by decide) rfl (fun ls hl => ?_)
          refine lv_aload_n (pc := 40) hx hb dX5_chosen_40 rfl (lv_at hl 4 rfl) ?_
          refine lv_iload (pc := 41) hx hb dX5_chosen_41 (lv_at hl 0 rfl) ?_
          refine zkIp (pc := 43) (zrV (As := [.int (iI x38)]) hx hb hml hown hG hw (c_X0_read l Γ K X Rf dr x38 na 4733 (by (first | assumption | omega)) (by (first | assumption | omega)) (by (first | assumption | omega)) (by (first | assumption | omega)) (by (first | assumption | omega)) (by (first | assumption | omega))) (T := TX0) hkd rfl cb_X0_read wl_X5_155 rfl ⟨Nat.le_of_ble_eq_true rfl, Nat.le_of_ble_eq_true rfl⟩ hl.1 rfl (Nat.le_of_ble_eq_true rfl) dX5_chosen_43 ⟨Nat.zero_le _, Nat.zero_le _⟩) hw (fun r43 H locs hp43 hw => ?_)
          subst hp43
          have hrw := hW x38 (by omega) (by omega)
          refine zif_le (pc := 46) hx hb 60 (by omega) dX5_chosen_46 (by decide) (fun c46 => ?_) (fun c46 => ?_)
          · skip
            have hcb : ctS Sd Up x38 = false := by
              cases hq : ctS Sd Up x38
              · rfl
              · rw [hq] at hrw; rw [hrw] at c46; simp at c46
            refine ziinc (pc := 60) (lv' := [(5, .int (iI (nn + 1))), (6, .int (iI x38)), (4, .int (iI wa)), (0, .ref se), (1, .ref dr), (2, .int (iI first)), (3, .int (iI en))]) hx hb 1 dX5_chosen_60 hl rfl (by decide) rfl (fun ls hl => ?_)
            obtain ⟨x60, ex60⟩ : ∃ zz : Int, zz = (nn + 1) := ⟨_, rfl⟩
            rw [← ex60] at hl
            refine lv_goto (pc := 63) (tgt := 12) hx hb dX5_chosen_63 (by decide) ?_
            exact ih12 x60 wa _ _ (by (first | assumption | omega)) (by omega) (by 
                                        rw [hc]
                                        by_cases h5p : 0 < Sd 5
                                        · rw [if_pos h5p, if_pos h5p, show first + nn = x38 by omega, show first + x60 = x38 + 1 by omega]
                                          first
                                          | exact chF_s (by omega) hcb
                                          | (rw [chF_t (by omega) hcb (by omega), show wa - 1 = x49 by omega])
                                        · rw [if_neg h5p, if_neg h5p, show en - nn = x38 by omega, show en - x60 = x38 - 1 by omega]
                                          first
                                          | exact chB_s (by omega) hcb
                                          | (rw [chB_t (by omega) hcb (by omega), show wa - 1 = x49 by omega])) (by omega) hw _ (lv_sub hl [0, 2, 3, 4, 5, 6] rfl)
          · skip
            have hcb : ctS Sd Up x38 = true := by
              cases hq : ctS Sd Up x38
              · rw [hq] at hrw; rw [hrw] at c46; simp at c46
              · rfl
            refine ziinc (pc := 49) (lv' := [(4, .int (iI (wa + (-1)))), (6, .int (iI x38)), (5, .int (iI nn)), (0, .ref se), (1, .ref dr), (2, .int (iI first)), (3, .int (iI en))]) hx hb 2 dX5_chosen_49 hl rfl (by decide) rfl (fun ls hl => ?_)
            obtain ⟨x49, ex49⟩ : ∃ zz : Int, zz = (wa + (-1)) := ⟨_, rfl⟩
            rw [← ex49] at hl
            refine lv_iload (pc := 52) hx hb dX5_chosen_52 (lv_at hl 0 rfl) ?_
            refine zif_ne (pc := 54) hx hb 60 (by omega) dX5_chosen_54 (by decide) (fun c54 => ?_) (fun c54 => ?_)
            · skip
              refine ziinc (pc := 60) (lv' := [(5, .int (iI (nn + 1))), (4, .int (iI x49)), (6, .int (iI x38)), (0, .ref se), (1, .ref dr), (2, .int (iI first)), (3, .int (iI en))]) hx hb 2 dX5_chosen_60 hl rfl (by decide) rfl (fun ls hl => ?_)
              obtain ⟨x60, ex60⟩ : ∃ zz : Int, zz = (nn + 1) := ⟨_, rfl⟩
              rw [← ex60] at hl
              refine lv_goto (pc := 63) (tgt := 12) hx hb dX5_chosen_63 (by decide) ?_
              exact ih12 x60 x49 _ _ (by (first | assumption | omega)) (by omega) (by 
                                        rw [hc]
                                        by_cases h5p : 0 < Sd 5
                                        · rw [if_pos h5p, if_pos h5p, show first + nn = x38 by omega, show first + x60 = x38 + 1 by omega]
                                          first
                                          | exact chF_s (by omega) hcb
                                          | (rw [chF_t (by omega) hcb (by omega), show wa - 1 = x49 by omega])
                                        · rw [if_neg h5p, if_neg h5p, show en - nn = x38 by omega, show en - x60 = x38 - 1 by omega]
                                          first
                                          | exact chB_s (by omega) hcb
                                          | (rw [chB_t (by omega) hcb (by omega), show wa - 1 = x49 by omega])) (by omega) hw _ (lv_sub hl [0, 1, 3, 4, 5, 6] rfl)
            · skip
              refine lv_iload (pc := 57) hx hb dX5_chosen_57 (lv_at hl 1 rfl) ?_
              exact zretI (pc := 59) hx hb hlocks hr hw (Nat.zero_le _) (Nat.zero_le _) dX5_chosen_59 ⟨by (try dsimp only) <;> (
                                        rw [hc]
                                        by_cases h5p : 0 < Sd 5
                                        · rw [if_pos h5p, show first + nn = x38 by omega, show wa = 1 by omega, chF_h (by omega) hcb]
                                        · rw [if_neg h5p, show en - nn = x38 by omega, show wa = 1 by omega, chB_h (by omega) hcb]), rfl, rfl, rfl⟩
        · skip
          refine lv_iload_n (pc := 27) hx hb dX5_chosen_27 rfl (lv_at hl 4 rfl) ?_
          refine lv_iload (pc := 28) hx hb dX5_chosen_28 (lv_at hl 0 rfl) ?_
          refine zadd (pc := 30) hx hb dX5_chosen_30 ?_
          refine lv_goto (pc := 31) (tgt := 38) hx hb dX5_chosen_31 (by decide) ?_
          refine ztop (fun x38 ex38 => ?_)
          refine lv_istore (pc := 38) (lv' := [(6, .int (iI x38)), (5, .int (iI nn)), (4, .int (iI wa)), (0, .ref se), (1, .ref dr), (2, .int (iI first)), (3, .int (iI en))]) hx hb dX5_chosen_38 hl (by decide) rfl (fun ls hl => ?_)
          refine lv_aload_n (pc := 40) hx hb dX5_chosen_40 rfl (lv_at hl 4 rfl) ?_
          refine lv_iload (pc := 41) hx hb dX5_chosen_41 (lv_at hl 0 rfl) ?_
          refine zkIp (pc := 43) (zrV (As := [.int (iI x38)]) hx hb hml hown hG hw (c_X0_read l Γ K X Rf dr x38 na 4733 (by (first | assumption | omega)) (by (first | assumption | omega)) (by (first | assumption | omega)) (by (first | assumption | omega)) (by (first | assumption | omega)) (by (first | assumption | omega))) (T := TX0) hkd rfl cb_X0_read wl_X5_155 rfl ⟨Nat.le_of_ble_eq_true rfl, Nat.le_of_ble_eq_true rfl⟩ hl.1 rfl (Nat.le_of_ble_eq_true rfl) dX5_chosen_43 ⟨Nat.zero_le _, Nat.zero_le _⟩) hw (fun r43 H locs hp43 hw => ?_)
          subst hp43
          have hrw := hW x38 (by omega) (by omega)
          refine zif_le (pc := 46) hx hb 60 (by omega) dX5_chosen_46 (by decide) (fun c46 => ?_) (fun c46 => ?_)
          · skip
            have hcb : ctS Sd Up x38 = false := by
              cases hq : ctS Sd Up x38
              · rfl
              · rw [hq] at hrw; rw [hrw] at c46; simp at c46
            refine ziinc (pc := 60) (lv' := [(5, .int (iI (nn + 1))), (6, .int (iI x38)), (4, .int (iI wa)), (0, .ref se), (1, .ref dr), (2, .int (iI first)), (3, .int (iI en))]) hx hb 1 dX5_chosen_60 hl rfl (by decide) rfl (fun ls hl => ?_)
            obtain ⟨x60, ex60⟩ : ∃ zz : Int, zz = (nn + 1) := ⟨_, rfl⟩
            rw [← ex60] at hl
            refine lv_goto (pc := 63) (tgt := 12) hx hb dX5_chosen_63 (by decide) ?_
            exact ih12 x60 wa _ _ (by (first | assumption | omega)) (by omega) (by 
                                        rw [hc]
                                        by_cases h5p : 0 < Sd 5
                                        · rw [if_pos h5p, if_pos h5p, show first + nn = x38 by omega, show first + x60 = x38 + 1 by omega]
                                          first
                                          | exact chF_s (by omega) hcb
                                          | (rw [chF_t (by omega) hcb (by omega), show wa - 1 = x49 by omega])
                                        · rw [if_neg h5p, if_neg h5p, show en - nn = x38 by omega, show en - x60 = x38 - 1 by omega]
                                          first
                                          | exact chB_s (by omega) hcb
                                          | (rw [chB_t (by omega) hcb (by omega), show wa - 1 = x49 by omega])) (by omega) hw _ (lv_sub hl [0, 2, 3, 4, 5, 6] rfl)
          · skip
            have hcb : ctS Sd Up x38 = true := by
              cases hq : ctS Sd Up x38
              · rw [hq] at hrw; rw [hrw] at c46; simp at c46
              · rfl
            refine ziinc (pc := 49) (lv' := [(4, .int (iI (wa + (-1)))), (6, .int (iI x38)), (5, .int (iI nn)), (0, .ref se), (1, .ref dr), (2, .int (iI first)), (3, .int (iI en))]) hx hb 2 dX5_chosen_49 hl rfl (by decide) rfl (fun ls hl => ?_)
            obtain ⟨x49, ex49⟩ : ∃ zz : Int, zz = (wa + (-1)) := ⟨_, rfl⟩
            rw [← ex49] at hl
            refine lv_iload (pc := 52) hx hb dX5_chosen_52 (lv_at hl 0 rfl) ?_
            refine zif_ne (pc := 54) hx hb 60 (by omega) dX5_chosen_54 (by decide) (fun c54 => ?_) (fun c54 => ?_)
            · skip
              refine ziinc (pc := 60) (lv' := [(5, .int (iI (nn + 1))), (4, .int (iI x49)), (6, .int (iI x38)), (0, .ref se), (1, .ref dr), (2, .int (iI first)), (3, .int (iI en))]) hx hb 2 dX5_chosen_60 hl rfl (by decide) rfl (fun ls hl => ?_)
              obtain ⟨x60, ex60⟩ : ∃ zz : Int, zz = (nn + 1) := ⟨_, rfl⟩
              rw [← ex60] at hl
              refine lv_goto (pc := 63) (tgt := 12) hx hb dX5_chosen_63 (by decide) ?_
              exact ih12 x60 x49 _ _ (by (first | assumption | omega)) (by omega) (by 
                                        rw [hc]
                                        by_cases h5p : 0 < Sd 5
                                        · rw [if_pos h5p, if_pos h5p, show first + nn = x38 by omega, show first + x60 = x38 + 1 by omega]
                                          first
                                          | exact chF_s (by omega) hcb
                                          | (rw [chF_t (by omega) hcb (by omega), show wa - 1 = x49 by omega])
                                        · rw [if_neg h5p, if_neg h5p, show en - nn = x38 by omega, show en - x60 = x38 - 1 by omega]
                                          first
                                          | exact chB_s (by omega) hcb
                                          | (rw [chB_t (by omega) hcb (by omega), show wa - 1 = x49 by omega])) (by omega) hw _ (lv_sub hl [0, 1, 3, 4, 5, 6] rfl)
            · skip
              refine lv_iload (pc := 57) hx hb dX5_chosen_57 (lv_at hl 1 rfl) ?_
              exact zretI (pc := 59) hx hb hlocks hr hw (Nat.zero_le _) (Nat.zero_le _) dX5_chosen_59 ⟨by (try dsimp only) <;> (
                                        rw [hc]
                                        by_cases h5p : 0 < Sd 5
                                        · rw [if_pos h5p, show first + nn = x38 by omega, show wa = 1 by omega, chF_h (by omega) hcb]
                                        · rw [if_neg h5p, show en - nn = x38 by omega, show wa = 1 by omega, chB_h (by omega) hcb]), rfl, rfl, rfl⟩
  exact lp12 _ 0 x7 _ _ (by (first | assumption | omega)) (by omega) (by unfold chS; rw [show first + 0 = first by omega, show en - 0 = en by omega]; split; rw [show x4 = Sd 5 by omega]; rw [show x4 = -Sd 5 by omega]) (Nat.lt_succ_self _) hw _ (lv_sub hl [0, 1, 2, 3, 4, 5] rfl)
set_option maxHeartbeats 4000000 in
set_option maxRecDepth 100000 in
theorem c_X5_takeSpan (l : Launch) (Γ : zG) (K : zK) (X : zX) (Rf : zR) (se : Nat) (dr : Nat) (first : Int) (en : Int) (Sd : Nat → Int) (Up : Nat → Nat → Int) (Ex : Nat → Int) (st : Int × List Int) (eo : Nat) (fo : Nat) (na : Nat) (hk : K se = (1, 4)) (hD : serD (X se) Sd) (hS : okS Sd) (hr13 : Rf se 13 = some eo) (hkeo : K eo = (2, 8)) (hE : ∀ k : Nat, (k : Int) < Sd 10 → X eo k = Ex k) (hr15 : Rf se 15 = some fo) (hkfo : K fo = (2, 4001)) (hkd : K dr = (1, 0)) (hr0 : Rf dr 0 = some na) (hkn : K na = (2, 4733)) (hb0 : (-100000 ≤ X dr 1 ∧ X dr 1 ≤ 200000) ∧ -100000 ≤ X dr 2 ∧ X dr 2 ≤ 200000) (hW : ∀ d : Int, first ≤ d → d ≤ en → rdv X dr na 4733 d = if ctS Sd Up d then 1 else -1) (h1 : (0 ≤ first ∧ first ≤ en + 1) ∧ en ≤ 73048) (hst : repD X se fo st) (hsb : dlB Sd first st) : Ct l yX5_takeSpan cX5_takeSpan 5 none 3 0 0 Γ [.ref se, .ref dr, .int (iI first), .int (iI en)] K X Rf (pV (zpv K Rf (fun X' : zX => repD X' se fo (tkS Sd Up Ex first en st) ∧ (∀ a, a ≠ se → a ≠ fo → X' a = X a) ∧ (∀ q, q ≠ 16 → q ≠ 17 → X' se q = X se q)))) := by
  refine Ct.of (by decide +kernel) (Nat.le_of_ble_eq_true rfl) ?_
  intro p e s m below meth c ls hx hb hr hml hown hG hlocks hname hw hl
  have hl : lv_has ls 5 [(0, .ref se), (1, .ref dr), (2, .int (iI first)), (3, .int (iI en))] := hl
  have hne : se ≠ fo := zkne hk hkfo (by simp)
  have hn1 : dr ≠ se := fun q => by rw [q, hk] at hkd; exact absurd hkd (by decide)
  have hn2 : dr ≠ fo := zkne hkd hkfo (by simp)
  have hn3 : na ≠ se := zkne hkn hk (by simp)
  have hn4 : na ≠ fo := fun q => by rw [q, hkfo] at hkn; exact absurd hkn (by decide)
  have hn5 : eo ≠ se := zkne hkeo hk (by simp)
  have hn6 : eo ≠ fo := fun q => by rw [q, hkfo] at hkeo; exact absurd hkeo (by decide)
  refine lv_aload_n (pc := 0) hx hb dX5_takeSpan_0 rfl (lv_at hl 0 rfl) ?_
  refine zgetI (pc := 1) hx hb hG hown hw hk (T := TX5) rfl 10 (by decide) rfl wf_X5_66 rfl dX5_takeSpan_1 ?_
  refine zif_eq (pc := 4) hx hb 19 (by omega) dX5_takeSpan_4 (by decide) (fun c4 => ?_) (fun c4 => ?_)
  · skip
    refine lv_iload_n (pc := 19) hx hb dX5_takeSpan_19 rfl (lv_at hl 2 rfl) ?_
    refine lv_istore (pc := 20) (lv' := [(4, .int (iI first)), (0, .ref se), (1, .ref dr), (2, .int (iI first)), (3, .int (iI en))]) hx hb dX5_takeSpan_20 hl (by decide) rfl (fun ls hl => ?_)
    have lp22 : ∀ (n22 : Nat) (dd : Int) (st2 : Int × List Int) (XL22 : zX) (H : Heap) (locs : List Loc), (hi : first ≤ dd ∧ dd ≤ en + 1) → (hr9 : repD XL22 se fo st2) → (hb9 : dlB Sd dd st2) → (ht9 : tkA Sd Up Ex (en - dd + 1).toNat dd st2 = tkA Sd Up Ex (en - first + 1).toNat first st) → (ho : (∀ a, a ≠ se → a ≠ fo → XL22 a = X a)) → (hq : (∀ q, q ≠ 16 → q ≠ 17 → XL22 se q = X se q)) → ((en + 1 - dd).toNat < n22) → Wd Γ (zA K s.heap.size) K XL22 Rf s H locs → ∀ ls : Array Slot, lv_has ls 5 [(4, .int (iI dd)), (0, .ref se), (1, .ref dr), (2, .int (iI first)), (3, .int (iI en))] → W p l e (rmL 3 0 0) s m ([.ref se, .ref dr, .int (iI first), .int (iI en)] : List Value).toArray below meth c H locs 0 0 (MQ below (zQ Γ K s.heap.size (pV (zpv K Rf (fun X' : zX => repD X' se fo (tkS Sd Up Ex first en st) ∧ (∀ a, a ≠ se → a ≠ fo → X' a = X a) ∧ (∀ q, q ≠ 16 → q ≠ 17 → X' se q = X se q))))) ([.ref se, .ref dr, .int (iI first), .int (iI en)] : List Value).toArray s 0 0 (zA K s.heap.size)) (F0 m 22 ls []) := by
      intro n22
      induction n22 with
      | zero => intro dd st2 XL22 H locs hi hr9 hb9 ht9 ho hq hm22; exact absurd hm22 (Nat.not_lt_zero _)
      | succ n22 ih22 =>
        intro dd st2 XL22 H locs hi hr9 hb9 ht9 ho hq hm22 hw ls hl
        have hdr : XL22 dr = X dr := ho dr hn1 hn2
        have hdn : XL22 na = X na := ho na hn3 hn4
        have hd1 : XL22 dr 1 = X dr 1 := by rw [hdr]
        have hd2 : XL22 dr 2 = X dr 2 := by rw [hdr]
        have hD2 : serD (XL22 se) Sd := hD.congr hq
        have hE2 : ∀ k : Nat, (k : Int) < Sd 10 → XL22 eo k = Ex k := fun k hk => by rw [ho eo hn5 hn6]; exact hE k hk
        have hb9a := hb9.1
        have hb9b := hb9.2.1
        refine lv_iload (pc := 22) hx hb dX5_takeSpan_22 (lv_at hl 0 rfl) ?_
        refine lv_iload_n (pc := 24) hx hb dX5_takeSpan_24 rfl (lv_at hl 4 rfl) ?_
        refine zicmp_gt (pc := 25) hx hb 49 (by omega) (by omega) dX5_takeSpan_25 (by decide) (fun c25 => ?_) (fun c25 => ?_)
        · skip
          exact zretV (pc := 49) hx hb hlocks hr hw (Nat.zero_le _) (Nat.zero_le _) dX5_takeSpan_49 ⟨by (try dsimp only) <;> (unfold tkS; rw [if_neg (by omega), ← ht9, tkA_e (by omega)]; exact ⟨hr9, ho, hq⟩), rfl, rfl⟩
        · skip
          refine lv_aload_n (pc := 28) hx hb dX5_takeSpan_28 rfl (lv_at hl 2 rfl) ?_
          refine lv_iload (pc := 29) hx hb dX5_takeSpan_29 (lv_at hl 0 rfl) ?_
          refine zkIp (pc := 31) (zrV (As := [.int (iI dd)]) hx hb hml hown hG hw (c_X0_read l Γ K XL22 Rf dr dd na 4733 (by (first | assumption | omega)) (by (first | assumption | omega)) (by (first | assumption | omega)) (by (first | assumption | omega)) (by (first | assumption | omega)) (by (first | assumption | omega))) (T := TX0) hkd rfl cb_X0_read wl_X5_155 rfl ⟨Nat.le_of_ble_eq_true rfl, Nat.le_of_ble_eq_true rfl⟩ hl.1 rfl (Nat.le_of_ble_eq_true rfl) dX5_takeSpan_31 ⟨Nat.zero_le _, Nat.zero_le _⟩) hw (fun r31 H locs hp31 hw => ?_)
          subst hp31
          have hrw := hW dd (by omega) (by omega)
          rw [← rdv_congr hdr hdn] at hrw
          refine zif_le (pc := 34) hx hb 43 (by omega) dX5_takeSpan_34 (by decide) (fun c34 => ?_) (fun c34 => ?_)
          · skip
            have hcb : ctS Sd Up dd = false := by
              cases hq : ctS Sd Up dd
              · rfl
              · rw [hq] at hrw; rw [hrw] at c34; simp at c34
            refine ziinc (pc := 43) (lv' := [(4, .int (iI (dd + 1))), (0, .ref se), (1, .ref dr), (2, .int (iI first)), (3, .int (iI en))]) hx hb 0 dX5_takeSpan_43 hl rfl (by decide) rfl (fun ls hl => ?_)
            obtain ⟨x43, ex43⟩ : ∃ zz : Int, zz = (dd + 1) := ⟨_, rfl⟩
            rw [← ex43] at hl
            refine lv_goto (pc := 46) (tgt := 22) hx hb dX5_takeSpan_46 (by decide) ?_
            exact ih22 x43 (if ctS Sd Up dd then tkD Sd Ex st2 dd else st2) XL22 _ _ (by (first | assumption | omega)) (by rw [hcb]; first | exact hr9 | exact hp40.1) (by rw [hcb, ex43]; first | exact hb9.mono (by omega) | (have := tkD_dlB (Ex := Ex) (d := dd) hb9 (by omega) (by omega); rw [show max dd (dd + 1) = dd + 1 by omega] at this; exact this)) (by rw [ex43, ← tkA_s (by omega)]; exact ht9) (by first | exact ho | exact fun a g1 g2 => (hp40.2.1 a g1 g2).trans (ho a g1 g2)) (by first | exact hq | exact fun q g1 g2 => (hp40.2.2 q g1 g2).trans (hq q g1 g2)) (by omega) hw _ (lv_sub hl [0, 1, 2, 3, 4] rfl)
          · skip
            have hcb : ctS Sd Up dd = true := by
              cases hq : ctS Sd Up dd
              · rw [hq] at hrw; rw [hrw] at c34; simp at c34
              · rfl
            refine lv_aload_n (pc := 37) hx hb dX5_takeSpan_37 rfl (lv_at hl 1 rfl) ?_
            refine lv_iload (pc := 38) hx hb dX5_takeSpan_38 (lv_at hl 0 rfl) ?_
            refine zkVx (pc := 40) (zrV (As := [.int (iI dd)]) hx hb hml hown hG hw (c_X5_takeDay l Γ K XL22 Rf se dd Sd Ex st2 eo fo (by (first | assumption | omega)) (by (first | assumption | omega)) (by (first | assumption | omega)) (by (first | assumption | omega)) (by (first | assumption | omega)) (by (first | assumption | omega)) (by (first | assumption | omega)) (by (first | assumption | omega)) (by exact hr9) (by (first | assumption | omega)) (by (first | assumption | omega))) (T := TX5) hk rfl cb_X5_takeDay wl_X5_151 rfl ⟨Nat.le_of_ble_eq_true rfl, Nat.le_of_ble_eq_true rfl⟩ hl.1 rfl (Nat.le_of_ble_eq_true rfl) dX5_takeSpan_40 ⟨Nat.zero_le _, Nat.zero_le _⟩) hw (fun X40 H locs hp40 hw => ?_)
            refine ziinc (pc := 43) (lv' := [(4, .int (iI (dd + 1))), (0, .ref se), (1, .ref dr), (2, .int (iI first)), (3, .int (iI en))]) hx hb 0 dX5_takeSpan_43 hl rfl (by decide) rfl (fun ls hl => ?_)
            obtain ⟨x43, ex43⟩ : ∃ zz : Int, zz = (dd + 1) := ⟨_, rfl⟩
            rw [← ex43] at hl
            refine lv_goto (pc := 46) (tgt := 22) hx hb dX5_takeSpan_46 (by decide) ?_
            exact ih22 x43 (if ctS Sd Up dd then tkD Sd Ex st2 dd else st2) X40 _ _ (by (first | assumption | omega)) (by rw [hcb]; first | exact hr9 | exact hp40.1) (by rw [hcb, ex43]; first | exact hb9.mono (by omega) | (have := tkD_dlB (Ex := Ex) (d := dd) hb9 (by omega) (by omega); rw [show max dd (dd + 1) = dd + 1 by omega] at this; exact this)) (by rw [ex43, ← tkA_s (by omega)]; exact ht9) (by first | exact ho | exact fun a g1 g2 => (hp40.2.1 a g1 g2).trans (ho a g1 g2)) (by first | exact hq | exact fun q g1 g2 => (hp40.2.2 q g1 g2).trans (hq q g1 g2)) (by omega) hw _ (lv_sub hl [0, 1, 2, 3, 4] rfl)
    exact lp22 _ first st X _ _ (by (first | assumption | omega)) (by exact hst) (by exact hsb) (by rfl) (by exact fun _ _ _ => rfl) (by exact fun _ _ _ => rfl) (Nat.lt_succ_self _) hw _ (lv_sub hl [0, 1, 2, 3, 4] rfl)
  · skip
    refine lv_aload_n (pc := 7) hx hb dX5_takeSpan_7 rfl (lv_at hl 0 rfl) ?_
    refine lv_aload_n (pc := 8) hx hb dX5_takeSpan_8 rfl (lv_at hl 0 rfl) ?_
    refine lv_aload_n (pc := 9) hx hb dX5_takeSpan_9 rfl (lv_at hl 1 rfl) ?_
    refine lv_iload_n (pc := 10) hx hb dX5_takeSpan_10 rfl (lv_at hl 2 rfl) ?_
    refine lv_iload_n (pc := 11) hx hb dX5_takeSpan_11 rfl (lv_at hl 3 rfl) ?_
    refine zkIp (pc := 12) (zrV (As := [.ref dr, .int (iI first), .int (iI en)]) hx hb hml hown hG hw (c_X5_chosen l Γ K X Rf se dr first en Sd Up na (by (first | assumption | omega)) (by (first | assumption | omega)) (by (first | assumption | omega)) (by (first | assumption | omega)) (by (first | assumption | omega)) (by (first | assumption | omega)) (by (first | assumption | omega)) (by (first | assumption | omega)) (by (first | assumption | omega)) (by (first | assumption | omega))) (T := TX5) hk rfl cb_X5_chosen wl_X5_147 rfl ⟨Nat.le_of_ble_eq_true rfl, Nat.le_of_ble_eq_true rfl⟩ hl.1 rfl (Nat.le_of_ble_eq_true rfl) dX5_takeSpan_12 ⟨Nat.zero_le _, Nat.zero_le _⟩) hw (fun r12 H locs hp12 hw => ?_)
    subst hp12
    have hp12f0 := chS_rng (Sd := Sd) (Up := Up) (a := first) (b := en) (by omega)
    refine zkVx (pc := 15) (zrV (As := [.int (iI (chS Sd Up first en))]) hx hb hml hown hG hw (c_X5_takeDay l Γ K X Rf se (chS Sd Up first en) Sd Ex st eo fo (by (first | assumption | omega)) (by (first | assumption | omega)) (by (first | assumption | omega)) (by (first | assumption | omega)) (by (first | assumption | omega)) (by (first | assumption | omega)) (by (first | assumption | omega)) (by (first | assumption | omega)) (by (first | assumption | omega)) (by have a1 := hsb.1; have a2 := hsb.2.1; omega) (by (first | assumption | omega))) (T := TX5) hk rfl cb_X5_takeDay wl_X5_151 rfl ⟨Nat.le_of_ble_eq_true rfl, Nat.le_of_ble_eq_true rfl⟩ hl.1 rfl (Nat.le_of_ble_eq_true rfl) dX5_takeSpan_15 ⟨Nat.zero_le _, Nat.zero_le _⟩) hw (fun X15 H locs hp15 hw => ?_)
    exact zretV (pc := 18) hx hb hlocks hr hw (Nat.zero_le _) (Nat.zero_le _) dX5_takeSpan_18 ⟨by (try dsimp only) <;> (unfold tkS; rw [if_pos (by omega)]; exact hp15), rfl, rfl⟩
set_option maxHeartbeats 4000000 in
set_option maxRecDepth 100000 in
theorem c_X5_findDates (l : Launch) (Γ : zG) (K : zK) (X : zX) (Rf : zR) (se : Nat) (dr : Nat) (Sd : Nat → Int) (Up : Nat → Nat → Int) (Ex : Nat → Int) (po : Nat) (eo : Nat) (fo : Nat) (na : Nat) (hk : K se = (1, 4)) (hD : serD (X se) Sd) (hS : okS Sd) (hr8 : Rf se 8 = some po) (hkpo : K po = (6, 4)) (hU : upOK K X Rf po Sd Up) (hUs : usOK K X Rf se Sd) (hr13 : Rf se 13 = some eo) (hkeo : K eo = (2, 8)) (hE : ∀ k : Nat, (k : Int) < Sd 10 → X eo k = Ex k) (hr15 : Rf se 15 = some fo) (hkfo : K fo = (2, 4001)) (hkd : K dr = (1, 0)) (hr0 : Rf dr 0 = some na) (hkn : K na = (2, 4733)) : Ct l yX5_findDates cX5_findDates 4 none 5 0 0 Γ [.ref se, .ref dr] K X Rf (pV (zpv K Rf (fun X' : zX => repD X' se fo (spS Sd Up Ex 4001 0 (0, [])) ∧ (∀ a, a ≠ se → a ≠ fo → a ≠ dr → a ≠ na → X' a = X a) ∧ (∀ q, q ≠ 16 → q ≠ 17 → X' se q = X se q)))) := by
  refine Ct.of (by decide +kernel) (Nat.le_of_ble_eq_true rfl) ?_
  intro p e s m below meth c ls hx hb hr hml hown hG hlocks hname hw hl
  have hl : lv_has ls 4 [(0, .ref se), (1, .ref dr)] := hl
  have hne : se ≠ fo := zkne hk hkfo (by simp)
  have hn1 : dr ≠ se := fun q => by rw [q, hk] at hkd; exact absurd hkd (by decide)
  have hn2 : dr ≠ fo := zkne hkd hkfo (by simp)
  have hn3 : na ≠ se := zkne hkn hk (by simp)
  have hn4 : na ≠ fo := fun q => by rw [q, hkfo] at hkn; exact absurd hkn (by decide)
  have hn5 : eo ≠ se := zkne hkeo hk (by simp)
  have hn6 : eo ≠ fo := fun q => by rw [q, hkfo] at hkeo; exact absurd hkeo (by decide)
  have hb0 := spB_0 hS
  refine lv_aload_n (pc := 0) hx hb dX5_findDates_0 rfl (lv_at hl 0 rfl) ?_
  refine ziconst (pc := 1) (n := 0) hx hb dX5_findDates_1 ?_
  refine zputI (pc := 2) hx hb hG hown hw hk (T := TX5) rfl 16 (by decide) rfl wf_X5_85 rfl (by decide +kernel) rfl dX5_findDates_2 (fun H locs hw => ?_)
  obtain ⟨X2, eX2⟩ : ∃ Y : zX, Y = up2 X se 16 0 := ⟨_, rfl⟩
  rw [← eX2] at hw
  refine lv_aload_n (pc := 5) hx hb dX5_findDates_5 rfl (lv_at hl 0 rfl) ?_
  refine ziconst (pc := 6) (n := 0) hx hb dX5_findDates_6 ?_
  refine zputI (pc := 7) hx hb hG hown hw hk (T := TX5) rfl 17 (by decide) rfl wf_X5_88 rfl (by decide +kernel) rfl dX5_findDates_7 (fun H locs hw => ?_)
  obtain ⟨X7, eX7⟩ : ∃ Y : zX, Y = up2 X2 se 17 0 := ⟨_, rfl⟩
  rw [← eX7] at hw
  refine lv_aload_n (pc := 10) hx hb dX5_findDates_10 rfl (lv_at hl 0 rfl) ?_
  refine lv_aload_n (pc := 11) hx hb dX5_findDates_11 rfl (lv_at hl 1 rfl) ?_
  have hD3 : serD (X7 se) Sd := hD.congr (fun q g1 g2 => by rw [eX7, up2_k g2, eX2, up2_k g1])
  have hX3 : ∀ a, K a = (1, 2) → X7 a = X a := fun a ha => by rw [eX7, up2_o (fun q => by rw [q, hk] at ha; exact absurd ha (by decide)), eX2, up2_o (fun q => by rw [q, hk] at ha; exact absurd ha (by decide))]
  refine zkVx (pc := 12) (zrV (As := [.ref dr]) hx hb hml hown hG hw (c_X5_findCounting l Γ K X7 Rf se dr Sd Up po na (by (first | assumption | omega)) (by (first | assumption | omega)) (by (first | assumption | omega)) (by (first | assumption | omega)) (by (first | assumption | omega)) (by exact hU.mono hX3) (by exact hUs.mono hX3) (by (first | assumption | omega)) (by (first | assumption | omega)) (by (first | assumption | omega))) (T := TX5) hk rfl cb_X5_findCounting wl_X5_91 rfl ⟨Nat.le_of_ble_eq_true rfl, Nat.le_of_ble_eq_true rfl⟩ hl.1 rfl (Nat.le_of_ble_eq_true rfl) dX5_findDates_12 ⟨Nat.zero_le _, Nat.zero_le _⟩) hw (fun X12 H locs hp12 hw => ?_)
  have hy : X12 se = X7 se := hp12.2 se (Ne.symm hn1) (Ne.symm hn3)
  refine ziconst (pc := 15) (n := 0) hx hb dX5_findDates_15 ?_
  refine lv_istore_n (pc := 16) (lv' := [(2, .int (iI 0)), (0, .ref se), (1, .ref dr)]) hx hb dX5_findDates_16 rfl hl (by decide) rfl (fun ls hl => ?_)
  have lp17 : ∀ (n17 : Nat) (nn : Int) (st2 : Int × List Int) (XL17 : zX) (H : Heap) (locs : List Loc), (hi : 0 ≤ nn ∧ nn ≤ 4001) → (hr9 : repD XL17 se fo st2) → (hb9 : dlB Sd (min (spB Sd (nn * Sd 3)) 73049) st2) → (ht9 : spS Sd Up Ex (4001 - nn).toNat nn st2 = spS Sd Up Ex 4001 0 (0, [])) → (hW9 : ∀ d : Int, spB Sd 0 ≤ d → d ≤ min (Sd 7 + 366) 73048 → rdv XL17 dr na 4733 d = if ctS Sd Up d then 1 else -1) → (hd1 : XL17 dr 1 = spB Sd 0) → (hd2 : XL17 dr 2 = min (Sd 7 + 366) 73048) → (ho : ∀ a, a ≠ se → a ≠ fo → a ≠ dr → a ≠ na → XL17 a = X a) → (hq : (∀ q, q ≠ 16 → q ≠ 17 → XL17 se q = X se q)) → ((4001 - nn).toNat < n17) → Wd Γ (zA K s.heap.size) K XL17 Rf s H locs → ∀ ls : Array Slot, lv_has ls 4 [(2, .int (iI nn)), (0, .ref se), (1, .ref dr)] → W p l e (rmL 5 0 0) s m ([.ref se, .ref dr] : List Value).toArray below meth c H locs 0 0 (MQ below (zQ Γ K s.heap.size (pV (zpv K Rf (fun X' : zX => repD X' se fo (spS Sd Up Ex 4001 0 (0, [])) ∧ (∀ a, a ≠ se → a ≠ fo → a ≠ dr → a ≠ na → X' a = X a) ∧ (∀ q, q ≠ 16 → q ≠ 17 → X' se q = X se q))))) ([.ref se, .ref dr] : List Value).toArray s 0 0 (zA K s.heap.size)) (F0 m 17 ls []) := by
    intro n17
    induction n17 with
    | zero => intro nn st2 XL17 H locs hi hr9 hb9 ht9 hW9 hd1 hd2 ho hq hm17; exact absurd hm17 (Nat.not_lt_zero _)
    | succ n17 ih17 =>
      intro nn st2 XL17 H locs hi hr9 hb9 ht9 hW9 hd1 hd2 ho hq hm17 hw ls hl
      have hD2 : serD (XL17 se) Sd := hD.congr hq
      have hE2 : ∀ k : Nat, (k : Int) < Sd 10 → XL17 eo k = Ex k := fun k hk => by rw [ho eo hn5 hn6 (zkne hkeo hkd (by simp)) (fun q => by rw [q, hkn] at hkeo; exact absurd hkeo (by decide))]; exact hE k hk
      have e4 : XL17 se 4 = Sd 3 := by rw [hq 4 (by decide) (by decide)]; exact hD.1.2.2.2.1
      have e12 : XL17 se 12 = Sd 7 := by rw [hq 12 (by decide) (by decide)]; exact hD.2.2.2.2.1
      have hnl0 : 0 ≤ nn * Sd 3 := Int.mul_nonneg hi.1 (by omega)
      have hnl1 : nn ≤ 4000 → nn * Sd 3 ≤ 240000 := fun q => Int.le_trans (Int.mul_le_mul_of_nonneg_right q (by omega)) (by omega)
      refine lv_iload_n (pc := 17) hx hb dX5_findDates_17 rfl (lv_at hl 0 rfl) ?_
      refine zsipush (pc := 18) (n := 4000) hx hb dX5_findDates_18 rfl ?_
      refine zicmp_gt (pc := 21) hx hb 77 (by omega) (by omega) dX5_findDates_21 (by decide) (fun c21 => ?_) (fun c21 => ?_)
      · skip
        exact zretV (pc := 77) hx hb hlocks hr hw (Nat.zero_le _) (Nat.zero_le _) dX5_findDates_77 ⟨by (try dsimp only) <;> (rw [← ht9, spS_h (by omega)]; exact ⟨hr9, ho, hq⟩), rfl, rfl⟩
      · skip
        refine lv_aload_n (pc := 24) hx hb dX5_findDates_24 rfl (lv_at hl 1 rfl) ?_
        refine lv_iload_n (pc := 25) hx hb dX5_findDates_25 rfl (lv_at hl 0 rfl) ?_
        refine lv_aload_n (pc := 26) hx hb dX5_findDates_26 rfl (lv_at hl 1 rfl) ?_
        refine zgetI (pc := 27) hx hb hG hown hw hk (T := TX5) rfl 4 (by decide) rfl wf_X5_22 rfl dX5_findDates_27 ?_
        refine zmul (pc := 30) hx hb dX5_findDates_30 ?_
        rw [e4]
        have hnl2 := hnl1 (by omega)
        refine zkIp (pc := 31) (zrV (As := [.int (iI (nn * (Sd 3)))]) hx hb hml hown hG hw (c_X5_spanBegin l Γ K XL17 Rf se (nn * (Sd 3)) Sd (by (first | assumption | omega)) (by (first | assumption | omega)) (by (first | assumption | omega)) (by (first | assumption | omega))) (T := TX5) hk rfl cb_X5_spanBegin wl_X5_95 rfl ⟨Nat.le_of_ble_eq_true rfl, Nat.le_of_ble_eq_true rfl⟩ hl.1 rfl (Nat.le_of_ble_eq_true rfl) dX5_findDates_31 ⟨Nat.zero_le _, Nat.zero_le _⟩) hw (fun r31 H locs hp31 hw => ?_)
        subst hp31
        have hp31f0 := spB_rng (Sd := Sd) (by assumption) (i := (nn * (Sd 3))) (by omega) (by omega)
        refine ztop (fun x34 ex34 => ?_)
        refine lv_istore_n (pc := 34) (lv' := [(3, .int (iI x34)), (2, .int (iI nn)), (0, .ref se), (1, .ref dr)]) hx hb dX5_findDates_34 rfl hl (by decide) rfl (fun ls hl => ?_)
        refine lv_iload_n (pc := 35) hx hb dX5_findDates_35 rfl (lv_at hl 0 rfl) ?_
        refine lv_aload_n (pc := 36) hx hb dX5_findDates_36 rfl (lv_at hl 2 rfl) ?_
        refine zgetI (pc := 37) hx hb hG hown hw hk (T := TX5) rfl 12 (by decide) rfl wf_X5_72 rfl dX5_findDates_37 ?_
        refine zicmp_le (pc := 40) hx hb 46 (by omega) (by omega) dX5_findDates_40 (by decide) (fun c40 => ?_) (fun c40 => ?_)
        · skip
          refine lv_aload_n (pc := 46) hx hb dX5_findDates_46 rfl (lv_at hl 2 rfl) ?_
          refine lv_aload_n (pc := 47) hx hb dX5_findDates_47 rfl (lv_at hl 3 rfl) ?_
          refine lv_iload_n (pc := 48) hx hb dX5_findDates_48 rfl (lv_at hl 0 rfl) ?_
          refine lv_aload_n (pc := 49) hx hb dX5_findDates_49 rfl (lv_at hl 2 rfl) ?_
          refine lv_iload_n (pc := 50) hx hb dX5_findDates_50 rfl (lv_at hl 1 rfl) ?_
          refine lv_aload_n (pc := 51) hx hb dX5_findDates_51 rfl (lv_at hl 2 rfl) ?_
          refine zgetI (pc := 52) hx hb hG hown hw hk (T := TX5) rfl 4 (by decide) rfl wf_X5_22 rfl dX5_findDates_52 ?_
          refine zmul (pc := 55) hx hb dX5_findDates_55 ?_
          refine ziconst (pc := 56) (n := 1) hx hb dX5_findDates_56 ?_
          refine zadd (pc := 57) hx hb dX5_findDates_57 ?_
          rw [e4]
          have hsc := spB_succ hS (i := nn * Sd 3) hnl0
          have hsm := spB_mono hS (i := 0) (j := nn * Sd 3) (by omega) hnl0
          have hb00 := (spB_rng hS (i := 0) (by omega) (by omega)).1
          refine zkIp (pc := 58) (zrV (As := [.int (iI ((nn * (Sd 3)) + 1))]) hx hb hml hown hG hw (c_X5_spanBegin l Γ K XL17 Rf se ((nn * (Sd 3)) + 1) Sd (by (first | assumption | omega)) (by (first | assumption | omega)) (by (first | assumption | omega)) (by (first | assumption | omega))) (T := TX5) hk rfl cb_X5_spanBegin wl_X5_95 rfl ⟨Nat.le_of_ble_eq_true rfl, Nat.le_of_ble_eq_true rfl⟩ hl.1 rfl (Nat.le_of_ble_eq_true rfl) dX5_findDates_58 ⟨Nat.zero_le _, Nat.zero_le _⟩) hw (fun r58 H locs hp58 hw => ?_)
          subst hp58
          have hp58f0 := spB_rng (Sd := Sd) (by assumption) (i := ((nn * (Sd 3)) + 1)) (by omega) (by omega)
          refine ziconst (pc := 61) (n := 1) hx hb dX5_findDates_61 ?_
          refine zsub (pc := 62) hx hb dX5_findDates_62 ?_
          refine zldc (pc := 63) (n := 73048) hx hb hown hG wk_X5_31 dX5_findDates_63 ?_
          refine zmin (pc := 65) hx hb (hml.trans hl.1.symm) hown hG wl_X5_32 w1_zmn wi_javalangMath w2_zmn (Nat.le_of_ble_eq_true rfl) (Nat.le_of_ble_eq_true rfl) (Nat.zero_le _) (Nat.zero_le _) ⟨by omega, by omega⟩ dX5_findDates_65 ?_
          refine zkVx (pc := 68) (zrV (As := [.ref dr, .int (iI x34), .int (iI (min ((spB Sd ((nn * (Sd 3)) + 1)) - 1) 73048))]) hx hb hml hown hG hw (c_X5_takeSpan l Γ K XL17 Rf se dr x34 (min ((spB Sd ((nn * (Sd 3)) + 1)) - 1) 73048) Sd Up Ex st2 eo fo na (by (first | assumption | omega)) (by (first | assumption | omega)) (by (first | assumption | omega)) (by (first | assumption | omega)) (by (first | assumption | omega)) (by (first | assumption | omega)) (by (first | assumption | omega)) (by (first | assumption | omega)) (by (first | assumption | omega)) (by (first | assumption | omega)) (by (first | assumption | omega)) (by (first | assumption | omega)) (by intro d g1 g2; exact hW9 d (by omega) (by omega)) (by (first | assumption | omega)) (by exact hr9) (by have q := hb9; rw [show min (spB Sd (nn * Sd 3)) 73049 = x34 by omega] at q; exact q)) (T := TX5) hk rfl cb_X5_takeSpan wl_X5_98 rfl ⟨Nat.le_of_ble_eq_true rfl, Nat.le_of_ble_eq_true rfl⟩ hl.1 rfl (Nat.le_of_ble_eq_true rfl) dX5_findDates_68 ⟨Nat.zero_le _, Nat.zero_le _⟩) hw (fun X68 H locs hp68 hw => ?_)
          refine ziinc (pc := 71) (lv' := [(2, .int (iI (nn + 1))), (3, .int (iI x34)), (0, .ref se), (1, .ref dr)]) hx hb 1 dX5_findDates_71 hl rfl (by decide) rfl (fun ls hl => ?_)
          obtain ⟨x71, ex71⟩ : ∃ zz : Int, zz = (nn + 1) := ⟨_, rfl⟩
          rw [← ex71] at hl
          refine lv_goto (pc := 74) (tgt := 17) hx hb dX5_findDates_74 (by decide) ?_
          have hmul : (nn + 1) * Sd 3 = nn * Sd 3 + Sd 3 := by rw [Int.add_mul, Int.one_mul]
          have hm2 := spB_mono hS (i := nn * Sd 3 + 1) (j := (nn + 1) * Sd 3) (by omega) (by omega)
          have hbx := hb9
          rw [show min (spB Sd (nn * Sd 3)) 73049 = x34 by omega] at hbx
          have hb10 := (tkS_dlB (Up := Up) (Ex := Ex) (a := x34) (b := min (spB Sd (nn * Sd 3 + 1) - 1) 73048) (st := st2) (by omega) (by omega) (by omega) hbx).mono (c' := min (spB Sd ((nn + 1) * Sd 3)) 73049) (by omega)
          exact ih17 x71 (tkS Sd Up Ex x34 (min (spB Sd (nn * Sd 3 + 1) - 1) 73048) st2) X68 _ _ (by (first | assumption | omega)) (by exact hp68.1) (by rw [ex71]; exact hb10) (by rw [ex71, ex34, ← spS_s (by omega) (by omega)]; exact ht9) (by intro d g1 g2; rw [rdv_congr (hp68.2.1 dr hn1 hn2) (hp68.2.1 na hn3 hn4)]; exact hW9 d g1 g2) (by rw [hp68.2.1 dr hn1 hn2]; exact hd1) (by rw [hp68.2.1 dr hn1 hn2]; exact hd2) (by intro a g1 g2 g3 g4; rw [hp68.2.1 a g1 g2]; exact ho a g1 g2 g3 g4) (by intro q g1 g2; rw [hp68.2.2 q g1 g2]; exact hq q g1 g2) (by omega) hw _ (lv_sub hl [0, 2, 3] rfl)
        · skip
          refine lv_goto (pc := 43) (tgt := 77) hx hb dX5_findDates_43 (by decide) ?_
          exact zretV (pc := 77) hx hb hlocks hr hw (Nat.zero_le _) (Nat.zero_le _) dX5_findDates_77 ⟨by (try dsimp only) <;> (rw [← ht9, spS_h (by omega)]; exact ⟨hr9, ho, hq⟩), rfl, rfl⟩
  exact lp17 _ 0 (0, []) X12 _ _ (by (first | assumption | omega)) (by exact ⟨by rw [hy, eX7, up2_s], by rw [hy, eX7, up2_k (by decide), eX2, up2_s]; rfl, fun j hj => absurd hj (Nat.not_lt_zero _)⟩) (by exact dlB_0 _ _) (by rfl) (by exact hp12.1.1) (by exact hp12.1.2.1) (by exact hp12.1.2.2) (by intro a g1 g2 g3 g4; rw [hp12.2 a g3 g4, eX7, up2_o g1, eX2, up2_o g1]) (by intro q g1 g2; rw [hy, eX7, up2_k g2, eX2, up2_k g1]) (Nat.lt_succ_self _) hw _ (lv_sub hl [0, 1, 2] rfl)
