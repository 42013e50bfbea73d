set_option maxHeartbeats 4000000 in
set_option maxRecDepth 100000 in
theorem c_X5_spanBegin (l : Launch) (Γ : zG) (K : zK) (X : zX) (Rf : zR) (se : Nat) (spans : Int) (Sd : Nat → Int) (hk : K se = (1, 4)) (hD : serD (X se) Sd) (hS : okS Sd) (h1 : 0 ≤ spans ∧ spans ≤ 250000) : Ct l yX5_spanBegin cX5_spanBegin 2 (some .int) 2 0 0 Γ [.ref se, .int (iI spans)] K X Rf (pI (zp0 K X Rf (fun r : Int => r = spB Sd spans))) := by
  refine Ct.of (by decide +kernel) (Nat.le_of_ble_eq_true rfl) ?_
  intro p e s m below meth c ls hx hb hr hml hown hG hlocks hname hw hl
  have hl : lv_has ls 2 [(0, .ref se), (1, .int (iI spans))] := hl
  have e2 : X se 2 = bdS Sd := hD.1.2.1
  have e3 : X se 3 = Sd 2 := hD.1.2.2.1
  refine lv_aload_n (pc := 0) hx hb dX5_spanBegin_0 rfl (lv_at hl 0 rfl) ?_
  refine zgetI (pc := 1) hx hb hG hown hw hk (T := TX5) rfl 3 (by decide) rfl wf_X5_19 rfl dX5_spanBegin_1 ?_
  rcases (by omega : (X se 3) = 0 ∨ (X se 3) = 1 ∨ (X se 3) = 2 ∨ ((X se 3) < 0 ∨ 2 < (X se 3))) with hs | hs | hs | hs
  · skip
    refine zswIn (pc := 4) (k := 0) (tgt := 32) hx hb hs dX5_spanBegin_4 (by decide) (by decide) rfl (by decide) ?_
    refine lv_aload_n (pc := 32) hx hb dX5_spanBegin_32 rfl (lv_at hl 0 rfl) ?_
    refine zgetI (pc := 33) hx hb hG hown hw hk (T := TX5) rfl 2 (by decide) rfl wf_X5_28 rfl dX5_spanBegin_33 ?_
    refine lv_iload_n (pc := 36) hx hb dX5_spanBegin_36 rfl (lv_at hl 1 rfl) ?_
    refine zadd (pc := 37) hx hb dX5_spanBegin_37 ?_
    exact zretI (pc := 38) hx hb hlocks hr hw (Nat.zero_le _) (Nat.zero_le _) dX5_spanBegin_38 ⟨by (try dsimp only) <;> (
                                        have d0 : Sd 2 = 0 ∨ Sd 2 = 1 ∨ Sd 2 = 2 ∨ Sd 2 = 3 := by omega
                                        unfold spB
                                        rw [e2]
                                        first
                                        | (rw [if_pos (by omega)])
                                        | (rw [if_neg (by omega), if_pos (by omega)])
                                        | (rw [if_neg (by omega), if_neg (by omega), if_pos (by omega)])
                                        | (rw [if_neg (by omega), if_neg (by omega), if_neg (by omega)])), rfl, rfl, rfl⟩
  · skip
    refine zswIn (pc := 4) (k := 1) (tgt := 39) hx hb hs dX5_spanBegin_4 (by decide) (by decide) rfl (by decide) ?_
    refine lv_aload_n (pc := 39) hx hb dX5_spanBegin_39 rfl (lv_at hl 0 rfl) ?_
    refine zgetI (pc := 40) hx hb hG hown hw hk (T := TX5) rfl 2 (by decide) rfl wf_X5_28 rfl dX5_spanBegin_40 ?_
    refine lv_aload_n (pc := 43) hx hb dX5_spanBegin_43 rfl (lv_at hl 0 rfl) ?_
    refine zgetI (pc := 44) hx hb hG hown hw hk (T := TX5) rfl 2 (by decide) rfl wf_X5_28 rfl dX5_spanBegin_44 ?_
    refine zkIp (pc := 47) (zrS (As := [.int (iI (X se 2))]) hx hb hml hown hG hw (c_X1_weekday l Γ K X Rf (X se 2)  (by (first | assumption | omega))) cb_X1_weekday wl_X5_102 rfl ⟨Nat.le_of_ble_eq_true rfl, Nat.le_of_ble_eq_true rfl⟩ hl.1 rfl (Nat.le_of_ble_eq_true rfl) dX5_spanBegin_47 ⟨Nat.zero_le _, Nat.zero_le _⟩) hw (fun r47 H locs hp47 hw => ?_)
    subst hp47
    refine zsub (pc := 50) hx hb dX5_spanBegin_50 ?_
    refine zbipush (pc := 51) (n := 7) hx hb dX5_spanBegin_51 rfl ?_
    refine lv_iload_n (pc := 53) hx hb dX5_spanBegin_53 rfl (lv_at hl 1 rfl) ?_
    refine zmul (pc := 54) hx hb dX5_spanBegin_54 ?_
    refine zadd (pc := 55) hx hb dX5_spanBegin_55 ?_
    exact zretI (pc := 56) hx hb hlocks hr hw (Nat.zero_le _) (Nat.zero_le _) dX5_spanBegin_56 ⟨by (try dsimp only) <;> (
                                        have d0 : Sd 2 = 0 ∨ Sd 2 = 1 ∨ Sd 2 = 2 ∨ Sd 2 = 3 := by omega
                                        unfold spB
                                        rw [e2]
                                        first
                                        | (rw [if_pos (by omega)])
                                        | (rw [if_neg (by omega), if_pos (by omega)])
                                        | (rw [if_neg (by omega), if_neg (by omega), if_pos (by omega)])
                                        | (rw [if_neg (by omega), if_neg (by omega), if_neg (by omega)])), rfl, rfl, rfl⟩
  · skip
    refine zswIn (pc := 4) (k := 2) (tgt := 57) hx hb hs dX5_spanBegin_4 (by decide) (by decide) rfl (by decide) ?_
    refine lv_aload_n (pc := 57) hx hb dX5_spanBegin_57 rfl (lv_at hl 0 rfl) ?_
    refine zgetI (pc := 58) hx hb hG hown hw hk (T := TX5) rfl 2 (by decide) rfl wf_X5_28 rfl dX5_spanBegin_58 ?_
    refine zkIp (pc := 61) (zrS (As := [.int (iI (X se 2))]) hx hb hml hown hG hw (c_X1_monthWith l Γ K X Rf (X se 2)  (by (first | assumption | omega))) cb_X1_monthWith wl_X5_41 rfl ⟨Nat.le_of_ble_eq_true rfl, Nat.le_of_ble_eq_true rfl⟩ hl.1 rfl (Nat.le_of_ble_eq_true rfl) dX5_spanBegin_61 ⟨Nat.zero_le _, Nat.zero_le _⟩) hw (fun r61 H locs hp61 hw => ?_)
    subst hp61
    have hp61f0 := mi_rng (d := (X se 2)) (by omega) (by omega)
    refine lv_iload_n (pc := 64) hx hb dX5_spanBegin_64 rfl (lv_at hl 1 rfl) ?_
    refine zadd (pc := 65) hx hb dX5_spanBegin_65 ?_
    refine zkIp (pc := 66) (zrS (As := [.int (iI ((mi (X se 2)) + spans))]) hx hb hml hown hG hw (c_X1_monthBegin l Γ K X Rf ((mi (X se 2)) + spans)  (by (first | assumption | omega))) cb_X1_monthBegin wl_X5_105 rfl ⟨Nat.le_of_ble_eq_true rfl, Nat.le_of_ble_eq_true rfl⟩ hl.1 rfl (Nat.le_of_ble_eq_true rfl) dX5_spanBegin_66 ⟨Nat.zero_le _, Nat.zero_le _⟩) hw (fun r66 H locs hp66 hw => ?_)
    subst hp66
    have hp66f0 := mB_rng ((mi (X se 2)) + spans)
    exact zretI (pc := 69) hx hb hlocks hr hw (Nat.zero_le _) (Nat.zero_le _) dX5_spanBegin_69 ⟨by (try dsimp only) <;> (
                                        have d0 : Sd 2 = 0 ∨ Sd 2 = 1 ∨ Sd 2 = 2 ∨ Sd 2 = 3 := by omega
                                        unfold spB
                                        rw [e2]
                                        first
                                        | (rw [if_pos (by omega)])
                                        | (rw [if_neg (by omega), if_pos (by omega)])
                                        | (rw [if_neg (by omega), if_neg (by omega), if_pos (by omega)])
                                        | (rw [if_neg (by omega), if_neg (by omega), if_neg (by omega)])), rfl, rfl, rfl⟩
  · skip
    refine zswOut (pc := 4) (tgt := 70) hx hb (by omega) hs dX5_spanBegin_4 (by decide) ?_
    refine lv_aload_n (pc := 70) hx hb dX5_spanBegin_70 rfl (lv_at hl 0 rfl) ?_
    refine zgetI (pc := 71) hx hb hG hown hw hk (T := TX5) rfl 2 (by decide) rfl wf_X5_28 rfl dX5_spanBegin_71 ?_
    refine zkIp (pc := 74) (zrS (As := [.int (iI (X se 2))]) hx hb hml hown hG hw (c_X1_yearWith l Γ K X Rf (X se 2)  (by (first | assumption | omega))) cb_X1_yearWith wl_X5_108 rfl ⟨Nat.le_of_ble_eq_true rfl, Nat.le_of_ble_eq_true rfl⟩ hl.1 rfl (Nat.le_of_ble_eq_true rfl) dX5_spanBegin_74 ⟨Nat.zero_le _, Nat.zero_le _⟩) hw (fun r74 H locs hp74 hw => ?_)
    subst hp74
    have hp74f0 := yr_rng (d := (X se 2)) (by omega) (by omega)
    refine lv_iload_n (pc := 77) hx hb dX5_spanBegin_77 rfl (lv_at hl 1 rfl) ?_
    refine zadd (pc := 78) hx hb dX5_spanBegin_78 ?_
    refine zkIp (pc := 79) (zrS (As := [.int (iI ((1900 + yr (X se 2)) + spans))]) hx hb hml hown hG hw (c_X1_januaryOf l Γ K X Rf ((1900 + yr (X se 2)) + spans)  ) cb_X1_januaryOf wl_X5_111 rfl ⟨Nat.le_of_ble_eq_true rfl, Nat.le_of_ble_eq_true rfl⟩ hl.1 rfl (Nat.le_of_ble_eq_true rfl) dX5_spanBegin_79 ⟨Nat.zero_le _, Nat.zero_le _⟩) hw (fun r79 H locs hp79 hw => ?_)
    subst hp79
    refine zkIp (pc := 82) (zrS (As := [.int (iI (12 * (((1900 + yr (X se 2)) + spans) - 1900)))]) hx hb hml hown hG hw (c_X1_monthBegin l Γ K X Rf (12 * (((1900 + yr (X se 2)) + spans) - 1900))  (by (first | assumption | omega))) cb_X1_monthBegin wl_X5_105 rfl ⟨Nat.le_of_ble_eq_true rfl, Nat.le_of_ble_eq_true rfl⟩ hl.1 rfl (Nat.le_of_ble_eq_true rfl) dX5_spanBegin_82 ⟨Nat.zero_le _, Nat.zero_le _⟩) hw (fun r82 H locs hp82 hw => ?_)
    subst hp82
    have hp82f0 := mB_rng (12 * (((1900 + yr (X se 2)) + spans) - 1900))
    exact zretI (pc := 85) hx hb hlocks hr hw (Nat.zero_le _) (Nat.zero_le _) dX5_spanBegin_85 ⟨by (try dsimp only) <;> (
                                        have d0 : Sd 2 = 0 ∨ Sd 2 = 1 ∨ Sd 2 = 2 ∨ Sd 2 = 3 := by omega
                                        unfold spB
                                        rw [e2]
                                        first
                                        | (rw [if_pos (by omega)])
                                        | (rw [if_neg (by omega), if_pos (by omega)])
                                        | (rw [if_neg (by omega), if_neg (by omega), if_pos (by omega)])
                                        | (rw [if_neg (by omega), if_neg (by omega), if_neg (by omega)])), rfl, rfl, rfl⟩
set_option maxHeartbeats 4000000 in
set_option maxRecDepth 100000 in
theorem c_X5_rightWeekdays (l : Launch) (Γ : zG) (K : zK) (X : zX) (Rf : zR) (se : Nat) (Sd : Nat → Int) (hk : K se = (1, 4)) (hD : serD (X se) Sd) (hS : okS Sd) : Ct l yX5_rightWeekdays cX5_rightWeekdays 1 (some .int) 2 0 0 Γ [.ref se] K X Rf (pI (zp0 K X Rf (fun r : Int => r = rwS Sd))) := by
  refine Ct.of (by decide +kernel) (Nat.le_of_ble_eq_true rfl) ?_
  intro p e s m below meth c ls hx hb hr hml hown hG hlocks hname hw hl
  have hl : lv_has ls 1 [(0, .ref se)] := hl
  have e2 : X se 2 = bdS Sd := hD.1.2.1
  refine lv_aload_n (pc := 0) hx hb dX5_rightWeekdays_0 rfl (lv_at hl 0 rfl) ?_
  refine zgetI (pc := 1) hx hb hG hown hw hk (T := TX5) rfl 5 (by decide) rfl wf_X5_25 rfl dX5_rightWeekdays_1 ?_
  refine zif_eq (pc := 4) hx hb 12 (by omega) dX5_rightWeekdays_4 (by decide) (fun c4 => ?_) (fun c4 => ?_)
  · skip
    refine lv_aload_n (pc := 12) hx hb dX5_rightWeekdays_12 rfl (lv_at hl 0 rfl) ?_
    refine zgetI (pc := 13) hx hb hG hown hw hk (T := TX5) rfl 3 (by decide) rfl wf_X5_19 rfl dX5_rightWeekdays_13 ?_
    refine ziconst (pc := 16) (n := 1) hx hb dX5_rightWeekdays_16 ?_
    refine zicmp_ne (pc := 17) hx hb 39 (by omega) (by omega) dX5_rightWeekdays_17 (by decide) (fun c17 => ?_) (fun c17 => ?_)
    · skip
      refine zbipush (pc := 39) (n := 127) hx hb dX5_rightWeekdays_39 rfl ?_
      exact zretI (pc := 41) hx hb hlocks hr hw (Nat.zero_le _) (Nat.zero_le _) dX5_rightWeekdays_41 ⟨by (try dsimp only) <;> (
                                        unfold rwS
                                        first
                                        | (rw [if_pos (by omega)]; omega)
                                        | (rw [if_neg (by omega), if_pos ⟨by omega, by omega⟩, e2])
                                        | (rw [if_neg (by omega), if_neg (by omega)])), rfl, rfl, rfl⟩
    · skip
      refine lv_aload_n (pc := 20) hx hb dX5_rightWeekdays_20 rfl (lv_at hl 0 rfl) ?_
      refine zgetI (pc := 21) hx hb hG hown hw hk (T := TX5) rfl 9 (by decide) rfl wf_X5_63 rfl dX5_rightWeekdays_21 ?_
      refine zif_ne (pc := 24) hx hb 39 (by omega) dX5_rightWeekdays_24 (by decide) (fun c24 => ?_) (fun c24 => ?_)
      · skip
        refine zbipush (pc := 39) (n := 127) hx hb dX5_rightWeekdays_39 rfl ?_
        exact zretI (pc := 41) hx hb hlocks hr hw (Nat.zero_le _) (Nat.zero_le _) dX5_rightWeekdays_41 ⟨by (try dsimp only) <;> (
                                        unfold rwS
                                        first
                                        | (rw [if_pos (by omega)]; omega)
                                        | (rw [if_neg (by omega), if_pos ⟨by omega, by omega⟩, e2])
                                        | (rw [if_neg (by omega), if_neg (by omega)])), rfl, rfl, rfl⟩
      · skip
        refine ziconst (pc := 27) (n := 1) hx hb dX5_rightWeekdays_27 ?_
        refine lv_aload_n (pc := 28) hx hb dX5_rightWeekdays_28 rfl (lv_at hl 0 rfl) ?_
        refine zgetI (pc := 29) hx hb hG hown hw hk (T := TX5) rfl 2 (by decide) rfl wf_X5_28 rfl dX5_rightWeekdays_29 ?_
        refine zkIp (pc := 32) (zrS (As := [.int (iI (X se 2))]) hx hb hml hown hG hw (c_X1_weekday l Γ K X Rf (X se 2)  (by (first | assumption | omega))) cb_X1_weekday wl_X5_102 rfl ⟨Nat.le_of_ble_eq_true rfl, Nat.le_of_ble_eq_true rfl⟩ hl.1 rfl (Nat.le_of_ble_eq_true rfl) dX5_rightWeekdays_32 ⟨Nat.zero_le _, Nat.zero_le _⟩) hw (fun r32 H locs hp32 hw => ?_)
        subst hp32
        refine zshl (pc := 35) hx hb (by omega) dX5_rightWeekdays_35 ?_
        refine lv_goto (pc := 36) (tgt := 41) hx hb dX5_rightWeekdays_36 (by decide) ?_
        exact zretI (pc := 41) hx hb hlocks hr hw (Nat.zero_le _) (Nat.zero_le _) dX5_rightWeekdays_41 ⟨by (try dsimp only) <;> (
                                        unfold rwS
                                        first
                                        | (rw [if_pos (by omega)]; omega)
                                        | (rw [if_neg (by omega), if_pos ⟨by omega, by omega⟩, e2])
                                        | (rw [if_neg (by omega), if_neg (by omega)])), rfl, rfl, rfl⟩
  · skip
    refine lv_aload_n (pc := 7) hx hb dX5_rightWeekdays_7 rfl (lv_at hl 0 rfl) ?_
    refine zgetI (pc := 8) hx hb hG hown hw hk (T := TX5) rfl 5 (by decide) rfl wf_X5_25 rfl dX5_rightWeekdays_8 ?_
    exact zretI (pc := 11) hx hb hlocks hr hw (Nat.zero_le _) (Nat.zero_le _) dX5_rightWeekdays_11 ⟨by (try dsimp only) <;> (
                                        unfold rwS
                                        first
                                        | (rw [if_pos (by omega)]; omega)
                                        | (rw [if_neg (by omega), if_pos ⟨by omega, by omega⟩, e2])
                                        | (rw [if_neg (by omega), if_neg (by omega)])), rfl, rfl, rfl⟩
set_option maxHeartbeats 4000000 in
set_option maxRecDepth 100000 in
theorem c_X5_isException (l : Launch) (Γ : zG) (K : zK) (X : zX) (Rf : zR) (se : Nat) (day : Int) (Sd : Nat → Int) (Ex : Nat → Int) (eo : Nat) (hk : K se = (1, 4)) (hD : serD (X se) Sd) (hS : okS Sd) (hr13 : Rf se 13 = some eo) (hkeo : K eo = (2, 8)) (hE : ∀ k : Nat, (k : Int) < Sd 10 → X eo k = Ex k ∧ 0 ≤ Ex k ∧ Ex k ≤ 73048) (h1 : fit day) : Ct l yX5_isException cX5_isException 3 (some .boolean) 0 0 0 Γ [.ref se, .int (iI day)] K X Rf (pI (zp0 K X Rf (fun r : Int => r = exV Ex day (Sd 10).toNat))) := by
  refine Ct.of (by decide +kernel) (Nat.le_of_ble_eq_true rfl) ?_
  intro p e s m below meth c ls hx hb hr hml hown hG hlocks hname hw hl
  have hl : lv_has ls 3 [(0, .ref se), (1, .int (iI day))] := hl
  refine ziconst (pc := 0) (n := 0) hx hb dX5_isException_0 ?_
  refine lv_istore_n (pc := 1) (lv' := [(2, .int (iI 0)), (0, .ref se), (1, .int (iI day))]) hx hb dX5_isException_1 rfl hl (by decide) rfl (fun ls hl => ?_)
  have lp2 : ∀ (n2 : Nat) (kk : Int) (H : Heap) (locs : List Loc), (hi : 0 ≤ kk ∧ kk ≤ Sd 10) → (hx9 : exB Ex day kk.toNat = false) → ((8 - kk).toNat < n2) → Wd Γ (zA K s.heap.size) K X Rf s H locs → ∀ ls : Array Slot, lv_has ls 3 [(2, .int (iI kk)), (0, .ref se), (1, .int (iI day))] → W p l e (rmL 0 0 0) s m ([.ref se, .int (iI day)] : List Value).toArray below meth c H locs 0 0 (MQ below (zQ Γ K s.heap.size (pI (zp0 K X Rf (fun r : Int => r = exV Ex day (Sd 10).toNat)))) ([.ref se, .int (iI day)] : List Value).toArray s 0 0 (zA K s.heap.size)) (F0 m 2 ls []) := by
    intro n2
    induction n2 with
    | zero => intro kk H locs hi hx9 hm2; exact absurd hm2 (Nat.not_lt_zero _)
    | succ n2 ih2 =>
      intro kk H locs hi hx9 hm2 hw ls hl
      refine lv_iload_n (pc := 2) hx hb dX5_isException_2 rfl (lv_at hl 0 rfl) ?_
      refine lv_aload_n (pc := 3) hx hb dX5_isException_3 rfl (lv_at hl 1 rfl) ?_
      refine zgetI (pc := 4) hx hb hG hown hw hk (T := TX5) rfl 14 (by decide) rfl wf_X5_79 rfl dX5_isException_4 ?_
      refine zicmp_ge (pc := 7) hx hb 37 (by omega) (by omega) dX5_isException_7 (by decide) (fun c7 => ?_) (fun c7 => ?_)
      · skip
        refine ziconst (pc := 37) (n := 0) hx hb dX5_isException_37 ?_
        exact zretZ (pc := 38) hx hb hlocks hr (Or.inl rfl) hw (Nat.zero_le _) (Nat.zero_le _) dX5_isException_38 ⟨by (try dsimp only) <;> (exact (exV_no (by rw [show (Sd 10).toNat = kk.toNat by omega]; exact hx9)).symm), rfl, rfl, rfl⟩
      · skip
        refine lv_iload_n (pc := 10) hx hb dX5_isException_10 rfl (lv_at hl 0 rfl) ?_
        refine lv_aload_n (pc := 11) hx hb dX5_isException_11 rfl (lv_at hl 1 rfl) ?_
        refine zgetR (pc := 12) hx hb hG hown hw hk (T := TX5) rfl 13 (by decide) rfl wf_X5_75 rfl hr13 dX5_isException_12 ?_
        refine zlen2 (pc := 15) hx hb hw hkeo dX5_isException_15 ?_
        refine zicmp_ge (pc := 16) hx hb 37 (by omega) (by omega) dX5_isException_16 (by decide) (fun c16 => ?_) (fun c16 => ?_)
        · skip
          exfalso; omega
        · skip
          refine lv_aload_n (pc := 19) hx hb dX5_isException_19 rfl (lv_at hl 1 rfl) ?_
          refine zgetR (pc := 20) hx hb hG hown hw hk (T := TX5) rfl 13 (by decide) rfl wf_X5_75 rfl hr13 dX5_isException_20 ?_
          refine lv_iload_n (pc := 23) hx hb dX5_isException_23 rfl (lv_at hl 0 rfl) ?_
          refine zald (pc := 24) hx hb hw hkeo ⟨by omega, by omega⟩ (by omega) dX5_isException_24 ?_
          have hek := hE kk.toNat (by omega)
          refine lv_iload_n (pc := 25) hx hb dX5_isException_25 rfl (lv_at hl 2 rfl) ?_
          refine zicmp_ne (pc := 26) hx hb 31 (by omega) (by omega) dX5_isException_26 (by decide) (fun c26 => ?_) (fun c26 => ?_)
          · skip
            refine ziinc (pc := 31) (lv' := [(2, .int (iI (kk + 1))), (0, .ref se), (1, .int (iI day))]) hx hb 0 dX5_isException_31 hl rfl (by decide) rfl (fun ls hl => ?_)
            obtain ⟨x31, ex31⟩ : ∃ zz : Int, zz = (kk + 1) := ⟨_, rfl⟩
            rw [← ex31] at hl
            refine lv_goto (pc := 34) (tgt := 2) hx hb dX5_isException_34 (by decide) ?_
            exact ih2 x31 _ _ (by (first | assumption | omega)) (by rw [ex31, show (kk + 1).toNat = kk.toNat + 1 by omega]; unfold exB; rw [hx9]; have := hE kk.toNat (by omega); simp; omega) (by omega) hw _ (lv_sub hl [0, 1, 2] rfl)
          · skip
            refine ziconst (pc := 29) (n := 1) hx hb dX5_isException_29 ?_
            exact zretZ (pc := 30) hx hb hlocks hr (Or.inr rfl) hw (Nat.zero_le _) (Nat.zero_le _) dX5_isException_30 ⟨by (try dsimp only) <;> (exact (exV_hit (k := kk.toNat) (by omega) (by omega)).symm), rfl, rfl, rfl⟩
  exact lp2 _ 0 _ _ (by (first | assumption | omega)) (by rfl) (Nat.lt_succ_self _) hw _ (lv_sub hl [0, 1, 2] rfl)
set_option maxHeartbeats 4000000 in
set_option maxRecDepth 100000 in
theorem c_X5_date (l : Launch) (Γ : zG) (K : zK) (X : zX) (Rf : zR) (se : Nat) (k : Int) (fo : Nat) (hk : K se = (1, 4)) (hr15 : Rf se 15 = some fo) (hkfo : K fo = (2, 4001)) (h16 : 0 ≤ X se 16 ∧ X se 16 ≤ 4001) (h1 : fit k) : Ct l yX5_date cX5_date 2 (some .int) 0 0 0 Γ [.ref se, .int (iI k)] K X Rf (pI (zp0 K X Rf (fun r : Int => r = dtA (X se 16) (X fo) k))) := by
  refine Ct.of (by decide +kernel) (Nat.le_of_ble_eq_true rfl) ?_
  intro p e s m below meth c ls hx hb hr hml hown hG hlocks hname hw hl
  have hl : lv_has ls 2 [(0, .ref se), (1, .int (iI k))] := hl
  refine lv_iload_n (pc := 0) hx hb dX5_date_0 rfl (lv_at hl 1 rfl) ?_
  refine zif_lt (pc := 1) hx hb 21 (by omega) dX5_date_1 (by decide) (fun c1 => ?_) (fun c1 => ?_)
  · skip
    refine ziconst (pc := 21) (n := (-1)) hx hb dX5_date_21 ?_
    refine lv_goto (pc := 22) (tgt := 31) hx hb dX5_date_22 (by decide) ?_
    exact zretI (pc := 31) hx hb hlocks hr hw (Nat.zero_le _) (Nat.zero_le _) dX5_date_31 ⟨by (try dsimp only) <;> (unfold dtA; first | (rw [if_pos (by omega)]) | (rw [if_neg (by omega)])), rfl, rfl, rfl⟩
  · skip
    refine lv_iload_n (pc := 4) hx hb dX5_date_4 rfl (lv_at hl 1 rfl) ?_
    refine lv_aload_n (pc := 5) hx hb dX5_date_5 rfl (lv_at hl 0 rfl) ?_
    refine zgetI (pc := 6) hx hb hG hown hw hk (T := TX5) rfl 16 (by decide) rfl wf_X5_85 rfl dX5_date_6 ?_
    refine zicmp_ge (pc := 9) hx hb 21 (by omega) (by omega) dX5_date_9 (by decide) (fun c9 => ?_) (fun c9 => ?_)
    · skip
      refine ziconst (pc := 21) (n := (-1)) hx hb dX5_date_21 ?_
      refine lv_goto (pc := 22) (tgt := 31) hx hb dX5_date_22 (by decide) ?_
      exact zretI (pc := 31) hx hb hlocks hr hw (Nat.zero_le _) (Nat.zero_le _) dX5_date_31 ⟨by (try dsimp only) <;> (unfold dtA; first | (rw [if_pos (by omega)]) | (rw [if_neg (by omega)])), rfl, rfl, rfl⟩
    · skip
      refine lv_iload_n (pc := 12) hx hb dX5_date_12 rfl (lv_at hl 1 rfl) ?_
      refine lv_aload_n (pc := 13) hx hb dX5_date_13 rfl (lv_at hl 0 rfl) ?_
      refine zgetR (pc := 14) hx hb hG hown hw hk (T := TX5) rfl 15 (by decide) rfl wf_X5_82 rfl hr15 dX5_date_14 ?_
      refine zlen2 (pc := 17) hx hb hw hkfo dX5_date_17 ?_
      refine zicmp_lt (pc := 18) hx hb 25 (by omega) (by omega) dX5_date_18 (by decide) (fun c18 => ?_) (fun c18 => ?_)
      · skip
        refine lv_aload_n (pc := 25) hx hb dX5_date_25 rfl (lv_at hl 0 rfl) ?_
        refine zgetR (pc := 26) hx hb hG hown hw hk (T := TX5) rfl 15 (by decide) rfl wf_X5_82 rfl hr15 dX5_date_26 ?_
        refine lv_iload_n (pc := 29) hx hb dX5_date_29 rfl (lv_at hl 1 rfl) ?_
        refine zald (pc := 30) hx hb hw hkfo ⟨by omega, by omega⟩ (by omega) dX5_date_30 ?_
        exact zretI (pc := 31) hx hb hlocks hr hw (Nat.zero_le _) (Nat.zero_le _) dX5_date_31 ⟨by (try dsimp only) <;> (unfold dtA; first | (rw [if_pos (by omega)]) | (rw [if_neg (by omega)])), rfl, rfl, rfl⟩
      · skip
        exfalso; omega
set_option maxHeartbeats 4000000 in
set_option maxRecDepth 100000 in
theorem c_X5_markDay (l : Launch) (Γ : zG) (K : zK) (X : zX) (Rf : zR) (dr : Nat) (day : Int) (right : Int) (na : Nat) (n : Nat) (hkd : K dr = (1, 0)) (hr0 : Rf dr 0 = some na) (hkn : K na = (2, n)) (hn : n ≤ 10000) (hb0 : (-100000 ≤ X dr 1 ∧ X dr 1 ≤ 200000) ∧ -100000 ≤ X dr 2 ∧ X dr 2 ≤ 200000) (hd : -100000 ≤ day ∧ day ≤ 200000) (h2 : 0 ≤ right ∧ right ≤ 127) : Ct l yX5_markDay cX5_markDay 3 none 2 0 0 Γ [.ref dr, .int (iI day), .int (iI right)] K X Rf (pV (zpv K Rf (fun X' : zX => X' = if bitw right day ≠ 0 then wrX X dr na n day 1 else X))) := by
  refine Ct.of (by decide +kernel) (Nat.le_of_ble_eq_true rfl) ?_
  intro p e s m below meth c ls hx hb hr hml hown hG hlocks hname hw hl
  have hl : lv_has ls 3 [(0, .ref dr), (1, .int (iI day)), (2, .int (iI right))] := hl
  refine lv_iload_n (pc := 0) hx hb dX5_markDay_0 rfl (lv_at hl 2 rfl) ?_
  refine lv_iload_n (pc := 1) hx hb dX5_markDay_1 rfl (lv_at hl 1 rfl) ?_
  refine zkIp (pc := 2) (zrS (As := [.int (iI right), .int (iI day)]) hx hb hml hown hG hw (c_X1_isIn l Γ K X Rf right day  (by (first | assumption | omega)) (by (first | assumption | omega))) cb_X1_isIn wl_X5_140 rfl ⟨Nat.le_of_ble_eq_true rfl, Nat.le_of_ble_eq_true rfl⟩ hl.1 rfl (Nat.le_of_ble_eq_true rfl) dX5_markDay_2 ⟨Nat.zero_le _, Nat.zero_le _⟩) hw (fun r2 H locs hp2 hw => ?_)
  subst hp2
  have hbr := bitw_01 right day
  refine zif_eq (pc := 5) hx hb 14 (by omega) dX5_markDay_5 (by decide) (fun c5 => ?_) (fun c5 => ?_)
  · skip
    exact zretV (pc := 14) hx hb hlocks hr hw (Nat.zero_le _) (Nat.zero_le _) dX5_markDay_14 ⟨by (try dsimp only) <;> (first | (rw [if_pos (by omega)]; exact hp11) | (rw [if_neg (by omega)])), rfl, rfl⟩
  · skip
    refine lv_aload_n (pc := 8) hx hb dX5_markDay_8 rfl (lv_at hl 0 rfl) ?_
    refine lv_iload_n (pc := 9) hx hb dX5_markDay_9 rfl (lv_at hl 1 rfl) ?_
    refine ziconst (pc := 10) (n := 1) hx hb dX5_markDay_10 ?_
    refine zkVx (pc := 11) (zrV (As := [.int (iI day), .int (iI 1)]) hx hb hml hown hG hw (c_X0_write l Γ K X Rf dr day 1 na n (by (first | assumption | omega)) (by (first | assumption | omega)) (by (first | assumption | omega)) (by (first | assumption | omega)) (by (first | assumption | omega)) (by (first | assumption | omega))) (T := TX0) hkd rfl cb_X0_write wl_X5_144 rfl ⟨Nat.le_of_ble_eq_true rfl, Nat.le_of_ble_eq_true rfl⟩ hl.1 rfl (Nat.le_of_ble_eq_true rfl) dX5_markDay_11 ⟨Nat.zero_le _, Nat.zero_le _⟩) hw (fun X11 H locs hp11 hw => ?_)
    exact zretV (pc := 14) hx hb hlocks hr hw (Nat.zero_le _) (Nat.zero_le _) dX5_markDay_14 ⟨by (try dsimp only) <;> (first | (rw [if_pos (by omega)]; exact hp11) | (rw [if_neg (by omega)])), rfl, rfl⟩
set_option maxHeartbeats 4000000 in
set_option maxRecDepth 100000 in
theorem c_X5_markTold_n (l : Launch) (Γ : zG) (K : zK) (X : zX) (Rf : zR) (se : Nat) (dr : Nat) (Sd : Nat → Int) (na : Nat) (n : Nat) (hk : K se = (1, 4)) (hD : serD (X se) Sd) (hS : okS Sd) (hkd : K dr = (1, 0)) (hr0 : Rf dr 0 = some na) (hkn : K na = (2, n)) (hn : n ≤ 10000) (hrg : (0 ≤ X dr 1 ∧ X dr 1 ≤ X dr 2) ∧ X dr 2 ≤ 73048 ∧ X dr 2 - X dr 1 < n) : Ct l yX5_markTold cX5_markTold 7 none 3 0 0 Γ [.ref se, .ref dr, .null] K X Rf (pV (zpv K Rf (fun X' : zX => (∀ d : Int, X dr 1 ≤ d → d ≤ X dr 2 → rdv X' dr na n d = if bitw (rwS Sd) d ≠ 0 then 1 else rdv X dr na n d) ∧ (∀ a, a ≠ na → X' a = X a)))) := by
  refine Ct.of (by decide +kernel) (Nat.le_of_ble_eq_true rfl) ?_
  intro p e s m below meth c ls hx hb hr hml hown hG hlocks hname hw hl
  have hl : lv_has ls 7 [(0, .ref se), (1, .ref dr), (2, .null)] := hl
  have hne : dr ≠ na := zkne hkd hkn (by simp)
  refine lv_aload_n (pc := 0) hx hb dX5_markTold_0 rfl (lv_at hl 0 rfl) ?_
  refine zkIp (pc := 1) (zrV (As := []) hx hb hml hown hG hw (c_X5_rightWeekdays l Γ K X Rf se Sd (by (first | assumption | omega)) (by (first | assumption | omega)) (by (first | assumption | omega))) (T := TX5) hk rfl cb_X5_rightWeekdays wl_X5_124 rfl ⟨Nat.le_of_ble_eq_true rfl, Nat.le_of_ble_eq_true rfl⟩ hl.1 rfl (Nat.le_of_ble_eq_true rfl) dX5_markTold_1 ⟨Nat.zero_le _, Nat.zero_le _⟩) hw (fun r1 H locs hp1 hw => ?_)
  subst hp1
  have hp1f0 := rwS_rng (Sd := Sd) (by assumption)
  refine ztop (fun x4 ex4 => ?_)
  refine lv_istore_n (pc := 4) (lv' := [(3, .int (iI x4)), (0, .ref se), (1, .ref dr), (2, .null)]) hx hb dX5_markTold_4 rfl hl (by decide) rfl (fun ls hl => ?_)
  refine lv_aload_nN (pc := 5) hx hb dX5_markTold_5 rfl (lv_at hl 3 rfl) ?_
  refine lv_ifnonnullN (pc := 6) hx hb dX5_markTold_6 ?_
  refine lv_aload_n (pc := 9) hx hb dX5_markTold_9 rfl (lv_at hl 2 rfl) ?_
  refine zkIp (pc := 10) (zrV (As := []) hx hb hml hown hG hw (c_X0_firstDay l Γ K X Rf dr  (by (first | assumption | omega))) (T := TX0) hkd rfl cb_X0_firstDay wl_X5_128 rfl ⟨Nat.le_of_ble_eq_true rfl, Nat.le_of_ble_eq_true rfl⟩ hl.1 rfl (Nat.le_of_ble_eq_true rfl) dX5_markTold_10 ⟨Nat.zero_le _, Nat.zero_le _⟩) hw (fun r10 H locs hp10 hw => ?_)
  subst hp10
  refine ztop (fun x13 ex13 => ?_)
  refine lv_istore (pc := 13) (lv' := [(4, .int (iI x13)), (3, .int (iI x4)), (0, .ref se), (1, .ref dr), (2, .null)]) hx hb dX5_markTold_13 hl (by decide) rfl (fun ls hl => ?_)
  have lp15 : ∀ (n15 : Nat) (dd : Int) (XL15 : zX) (H : Heap) (locs : List Loc), (hi : X dr 1 ≤ dd ∧ dd ≤ X dr 2 + 1) → (hv : ∀ d : Int, X dr 1 ≤ d → d ≤ X dr 2 → rdv XL15 dr na n d = if d < dd ∧ bitw (rwS Sd) d ≠ 0 then 1 else rdv X dr na n d) → (ho : (∀ a, a ≠ na → XL15 a = X a)) → ((X dr 2 + 1 - dd).toNat < n15) → Wd Γ (zA K s.heap.size) K XL15 Rf s H locs → ∀ ls : Array Slot, lv_has ls 7 [(4, .int (iI dd)), (3, .int (iI x4)), (0, .ref se), (1, .ref dr), (2, .null)] → W p l e (rmL 3 0 0) s m ([.ref se, .ref dr, .null] : List Value).toArray below meth c H locs 0 0 (MQ below (zQ Γ K s.heap.size (pV (zpv K Rf (fun X' : zX => (∀ d : Int, X dr 1 ≤ d → d ≤ X dr 2 → rdv X' dr na n d = if bitw (rwS Sd) d ≠ 0 then 1 else rdv X dr na n d) ∧ (∀ a, a ≠ na → X' a = X a))))) ([.ref se, .ref dr, .null] : List Value).toArray s 0 0 (zA K s.heap.size)) (F0 m 15 ls []) := by
    intro n15
    induction n15 with
    | zero => intro dd XL15 H locs hi hv ho hm15; exact absurd hm15 (Nat.not_lt_zero _)
    | succ n15 ih15 =>
      intro dd XL15 H locs hi hv ho hm15 hw ls hl
      have hdr : XL15 dr = X dr := ho dr hne
      have hd1 : XL15 dr 1 = X dr 1 := by rw [hdr]
      have hd2 : XL15 dr 2 = X dr 2 := by rw [hdr]
      refine lv_iload (pc := 15) hx hb dX5_markTold_15 (lv_at hl 0 rfl) ?_
      refine lv_aload_n (pc := 17) hx hb dX5_markTold_17 rfl (lv_at hl 3 rfl) ?_
      refine zkIp (pc := 18) (zrV (As := []) hx hb hml hown hG hw (c_X0_lastDay l Γ K XL15 Rf dr  (by (first | assumption | omega))) (T := TX0) hkd rfl cb_X0_lastDay wl_X5_131 rfl ⟨Nat.le_of_ble_eq_true rfl, Nat.le_of_ble_eq_true rfl⟩ hl.1 rfl (Nat.le_of_ble_eq_true rfl) dX5_markTold_18 ⟨Nat.zero_le _, Nat.zero_le _⟩) hw (fun r18 H locs hp18 hw => ?_)
      subst hp18
      refine zicmp_gt (pc := 21) hx hb 37 (by omega) (by omega) dX5_markTold_21 (by decide) (fun c21 => ?_) (fun c21 => ?_)
      · skip
        exact zretV (pc := 37) hx hb hlocks hr hw (Nat.zero_le _) (Nat.zero_le _) dX5_markTold_37 ⟨by (try dsimp only) <;> (
                                        refine ⟨fun d g1 g2 => ?_, ho⟩
                                        rw [hv d g1 g2]
                                        by_cases g : bitw (rwS Sd) d ≠ 0
                                        · rw [if_pos ⟨by omega, g⟩, if_pos g]
                                        · rw [if_neg (fun h => g h.2), if_neg g]), rfl, rfl⟩
      · skip
        refine lv_aload_n (pc := 24) hx hb dX5_markTold_24 rfl (lv_at hl 3 rfl) ?_
        refine lv_iload (pc := 25) hx hb dX5_markTold_25 (lv_at hl 0 rfl) ?_
        refine lv_iload_n (pc := 27) hx hb dX5_markTold_27 rfl (lv_at hl 1 rfl) ?_
        refine zkVx (pc := 28) (zrS (As := [.ref dr, .int (iI dd), .int (iI x4)]) hx hb hml hown hG hw (c_X5_markDay l Γ K XL15 Rf dr dd x4 na n (by (first | assumption | omega)) (by (first | assumption | omega)) (by (first | assumption | omega)) (by (first | assumption | omega)) (by (first | assumption | omega)) (by (first | assumption | omega)) (by (first | assumption | omega))) cb_X5_markDay wl_X5_134 rfl ⟨Nat.le_of_ble_eq_true rfl, Nat.le_of_ble_eq_true rfl⟩ hl.1 rfl (Nat.le_of_ble_eq_true rfl) dX5_markTold_28 ⟨Nat.zero_le _, Nat.zero_le _⟩) hw (fun X28 H locs hp28 hw => ?_)
        refine ziinc (pc := 31) (lv' := [(4, .int (iI (dd + 1))), (3, .int (iI x4)), (0, .ref se), (1, .ref dr), (2, .null)]) hx hb 0 dX5_markTold_31 hl rfl (by decide) rfl (fun ls hl => ?_)
        obtain ⟨x31, ex31⟩ : ∃ zz : Int, zz = (dd + 1) := ⟨_, rfl⟩
        rw [← ex31] at hl
        refine lv_goto (pc := 34) (tgt := 15) hx hb dX5_markTold_34 (by decide) ?_
        exact ih15 x31 X28 _ _ (by (first | assumption | omega)) (by 
                                        intro d g1 g2
                                        rw [hp28]
                                        split
                                        · next q =>
                                          rw [rdv_wr hne, hd1, hd2]
                                          by_cases g : d = dd
                                          · subst g; rw [if_pos ⟨rfl, by omega⟩, if_pos ⟨by omega, by rw [← ex4]; exact q⟩]
                                          · rw [if_neg (fun h => g h.1), hv d g1 g2]
                                            by_cases g' : d < dd ∧ bitw (rwS Sd) d ≠ 0
                                            · rw [if_pos g', if_pos ⟨by omega, g'.2⟩]
                                            · rw [if_neg g', if_neg (fun h => g' ⟨by omega, h.2⟩)]
                                        · next q =>
                                          rw [hv d g1 g2]
                                          by_cases g' : d < dd ∧ bitw (rwS Sd) d ≠ 0
                                          · rw [if_pos g', if_pos ⟨by omega, g'.2⟩]
                                          · rw [if_neg g', if_neg (fun h => by
                                              by_cases g : d = dd
                                              · subst g; rw [← ex4] at h; exact q h.2
                                              · exact g' ⟨by omega, h.2⟩)]) (by intro a ha; rw [hp28]; split; rw [wrX_o ha]; exact ho a ha; exact ho a ha) (by omega) hw _ (lv_sub hl [0, 1, 2, 3, 4] rfl)
  exact lp15 _ x13 X _ _ (by (first | assumption | omega)) (by intro d h1 h2; rw [if_neg (by omega)]) (by intro a _; rfl) (Nat.lt_succ_self _) hw _ (lv_sub hl [0, 1, 2, 3, 4] rfl)
set_option maxHeartbeats 4000000 in
set_option maxRecDepth 100000 in
theorem c_X5_markTold (l : Launch) (Γ : zG) (K : zK) (X : zX) (Rf : zR) (se : Nat) (dr : Nat) (pa : Nat) (Sd : Nat → Int) (na : Nat) (n : Nat) (hk : K se = (1, 4)) (hD : serD (X se) Sd) (hS : okS Sd) (hkd : K dr = (1, 0)) (hr0 : Rf dr 0 = some na) (hkn : K na = (2, n)) (hn : n ≤ 10000) (hrg : (0 ≤ X dr 1 ∧ X dr 1 ≤ X dr 2) ∧ X dr 2 ≤ 73048 ∧ X dr 2 - X dr 1 < n) (hkp : K pa = (1, 2)) (hP : okP (X pa)) : Ct l yX5_markTold cX5_markTold 7 none 3 0 0 Γ [.ref se, .ref dr, .ref pa] K X Rf (pV (zpv K Rf (fun X' : zX => (∀ d : Int, X dr 1 ≤ d → d ≤ X dr 2 → rdv X' dr na n d = if told (X pa) (mi d) = d ∧ bitw (rwS Sd) d ≠ 0 then 1 else rdv X dr na n d) ∧ (∀ a, a ≠ na → X' a = X a)))) := by
  refine Ct.of (by decide +kernel) (Nat.le_of_ble_eq_true rfl) ?_
  intro p e s m below meth c ls hx hb hr hml hown hG hlocks hname hw hl
  have hl : lv_has ls 7 [(0, .ref se), (1, .ref dr), (2, .ref pa)] := hl
  have hne : dr ≠ na := zkne hkd hkn (by simp)
  have hnp : pa ≠ na := zkne hkp hkn (by simp)
  refine lv_aload_n (pc := 0) hx hb dX5_markTold_0 rfl (lv_at hl 0 rfl) ?_
  refine zkIp (pc := 1) (zrV (As := []) hx hb hml hown hG hw (c_X5_rightWeekdays l Γ K X Rf se Sd (by (first | assumption | omega)) (by (first | assumption | omega)) (by (first | assumption | omega))) (T := TX5) hk rfl cb_X5_rightWeekdays wl_X5_124 rfl ⟨Nat.le_of_ble_eq_true rfl, Nat.le_of_ble_eq_true rfl⟩ hl.1 rfl (Nat.le_of_ble_eq_true rfl) dX5_markTold_1 ⟨Nat.zero_le _, Nat.zero_le _⟩) hw (fun r1 H locs hp1 hw => ?_)
  subst hp1
  have hp1f0 := rwS_rng (Sd := Sd) (by assumption)
  refine ztop (fun x4 ex4 => ?_)
  refine lv_istore_n (pc := 4) (lv' := [(3, .int (iI x4)), (0, .ref se), (1, .ref dr), (2, .ref pa)]) hx hb dX5_markTold_4 rfl hl (by decide) rfl (fun ls hl => ?_)
  refine lv_aload_n (pc := 5) hx hb dX5_markTold_5 rfl (lv_at hl 3 rfl) ?_
  refine lv_ifnonnull (pc := 6) (tgt := 38) hx hb dX5_markTold_6 (by decide) ?_
  refine lv_aload_n (pc := 38) hx hb dX5_markTold_38 rfl (lv_at hl 2 rfl) ?_
  refine zkIp (pc := 39) (zrV (As := []) hx hb hml hown hG hw (c_X0_lastDay l Γ K X Rf dr  (by (first | assumption | omega))) (T := TX0) hkd rfl cb_X0_lastDay wl_X5_131 rfl ⟨Nat.le_of_ble_eq_true rfl, Nat.le_of_ble_eq_true rfl⟩ hl.1 rfl (Nat.le_of_ble_eq_true rfl) dX5_markTold_39 ⟨Nat.zero_le _, Nat.zero_le _⟩) hw (fun r39 H locs hp39 hw => ?_)
  subst hp39
  refine zkIp (pc := 42) (zrS (As := [.int (iI (X dr 2))]) hx hb hml hown hG hw (c_X1_monthWith l Γ K X Rf (X dr 2)  (by (first | assumption | omega))) cb_X1_monthWith wl_X5_41 rfl ⟨Nat.le_of_ble_eq_true rfl, Nat.le_of_ble_eq_true rfl⟩ hl.1 rfl (Nat.le_of_ble_eq_true rfl) dX5_markTold_42 ⟨Nat.zero_le _, Nat.zero_le _⟩) hw (fun r42 H locs hp42 hw => ?_)
  subst hp42
  have hp42f0 := mi_rng (d := (X dr 2)) (by omega) (by omega)
  refine ztop (fun x45 ex45 => ?_)
  refine lv_istore (pc := 45) (lv' := [(4, .int (iI x45)), (3, .int (iI x4)), (0, .ref se), (1, .ref dr), (2, .ref pa)]) hx hb dX5_markTold_45 hl (by decide) rfl (fun ls hl => ?_)
  refine lv_aload_n (pc := 47) hx hb dX5_markTold_47 rfl (lv_at hl 3 rfl) ?_
  refine zkIp (pc := 48) (zrV (As := []) hx hb hml hown hG hw (c_X0_firstDay l Γ K X Rf dr  (by (first | assumption | omega))) (T := TX0) hkd rfl cb_X0_firstDay wl_X5_128 rfl ⟨Nat.le_of_ble_eq_true rfl, Nat.le_of_ble_eq_true rfl⟩ hl.1 rfl (Nat.le_of_ble_eq_true rfl) dX5_markTold_48 ⟨Nat.zero_le _, Nat.zero_le _⟩) hw (fun r48 H locs hp48 hw => ?_)
  subst hp48
  refine zkIp (pc := 51) (zrS (As := [.int (iI (X dr 1))]) hx hb hml hown hG hw (c_X1_monthWith l Γ K X Rf (X dr 1)  (by (first | assumption | omega))) cb_X1_monthWith wl_X5_41 rfl ⟨Nat.le_of_ble_eq_true rfl, Nat.le_of_ble_eq_true rfl⟩ hl.1 rfl (Nat.le_of_ble_eq_true rfl) dX5_markTold_51 ⟨Nat.zero_le _, Nat.zero_le _⟩) hw (fun r51 H locs hp51 hw => ?_)
  subst hp51
  have hp51f0 := mi_rng (d := (X dr 1)) (by omega) (by omega)
  refine ztop (fun x54 ex54 => ?_)
  refine lv_istore (pc := 54) (lv' := [(5, .int (iI x54)), (4, .int (iI x45)), (3, .int (iI x4)), (0, .ref se), (1, .ref dr), (2, .ref pa)]) hx hb dX5_markTold_54 hl (by decide) rfl (fun ls hl => ?_)
  have lp56 : ∀ (n56 : Nat) (ix : Int) (XL56 : zX) (H : Heap) (locs : List Loc), (hi : mi (X dr 1) ≤ ix ∧ ix ≤ mi (X dr 2) + 1) → (hv : ∀ d : Int, X dr 1 ≤ d → d ≤ X dr 2 → rdv XL56 dr na n d = if (told (X pa) (mi d) = d ∧ mi d < ix) ∧ bitw (rwS Sd) d ≠ 0 then 1 else rdv X dr na n d) → (ho : (∀ a, a ≠ na → XL56 a = X a)) → ((mi (X dr 2) + 1 - ix).toNat < n56) → Wd Γ (zA K s.heap.size) K XL56 Rf s H locs → ∀ ls : Array Slot, lv_has ls 7 [(5, .int (iI ix)), (4, .int (iI x45)), (3, .int (iI x4)), (0, .ref se), (1, .ref dr), (2, .ref pa)] → W p l e (rmL 3 0 0) s m ([.ref se, .ref dr, .ref pa] : List Value).toArray below meth c H locs 0 0 (MQ below (zQ Γ K s.heap.size (pV (zpv K Rf (fun X' : zX => (∀ d : Int, X dr 1 ≤ d → d ≤ X dr 2 → rdv X' dr na n d = if told (X pa) (mi d) = d ∧ bitw (rwS Sd) d ≠ 0 then 1 else rdv X dr na n d) ∧ (∀ a, a ≠ na → X' a = X a))))) ([.ref se, .ref dr, .ref pa] : List Value).toArray s 0 0 (zA K s.heap.size)) (F0 m 56 ls []) := by
    intro n56
    induction n56 with
    | zero => intro ix XL56 H locs hi hv ho hm56; exact absurd hm56 (Nat.not_lt_zero _)
    | succ n56 ih56 =>
      intro ix XL56 H locs hi hv ho hm56 hw ls hl
      have hdr : XL56 dr = X dr := ho dr hne
      have hd1 : XL56 dr 1 = X dr 1 := by rw [hdr]
      have hd2 : XL56 dr 2 = X dr 2 := by rw [hdr]
      have hpa : XL56 pa = X pa := ho pa hnp
      have hm1 := mi_rng (d := X dr 1) (by omega) (by omega)
      have hm2 := mi_rng (d := X dr 2) (by omega) (by omega)
      refine lv_iload (pc := 56) hx hb dX5_markTold_56 (lv_at hl 0 rfl) ?_
      refine lv_iload (pc := 58) hx hb dX5_markTold_58 (lv_at hl 1 rfl) ?_
      refine zicmp_gt (pc := 60) hx hb 89 (by omega) (by omega) dX5_markTold_60 (by decide) (fun c60 => ?_) (fun c60 => ?_)
      · skip
        exact zretV (pc := 89) hx hb hlocks hr hw (Nat.zero_le _) (Nat.zero_le _) dX5_markTold_89 ⟨by (try dsimp only) <;> (
                                        refine ⟨fun d g1 g2 => ?_, ho⟩
                                        rw [hv d g1 g2]
                                        have hmd := mi_mono (a := d) (b := X dr 2) (by omega) (by omega) (by omega)
                                        by_cases g : told (X pa) (mi d) = d ∧ bitw (rwS Sd) d ≠ 0
                                        · rw [if_pos ⟨⟨g.1, by omega⟩, g.2⟩, if_pos g]
                                        · rw [if_neg (fun h => g ⟨h.1.1, h.2⟩), if_neg g]), rfl, rfl⟩
      · skip
        refine lv_aload_n (pc := 63) hx hb dX5_markTold_63 rfl (lv_at hl 5 rfl) ?_
        refine lv_iload (pc := 64) hx hb dX5_markTold_64 (lv_at hl 0 rfl) ?_
        refine zkIp (pc := 66) (zrV (As := [.int (iI ix)]) hx hb hml hown hG hw (c_X3_toldIn l Γ K XL56 Rf pa ix  (by (first | assumption | omega)) (by rw [hpa]; exact hP) (by (first | assumption | omega))) (T := TX3) hkp rfl cb_X3_toldIn wl_X5_137 rfl ⟨Nat.le_of_ble_eq_true rfl, Nat.le_of_ble_eq_true rfl⟩ hl.1 rfl (Nat.le_of_ble_eq_true rfl) dX5_markTold_66 ⟨Nat.zero_le _, Nat.zero_le _⟩) hw (fun r66 H locs hp66 hw => ?_)
        subst hp66
        have hp66f0 := told_rng (XL56 pa) ix
        refine ztop (fun x69 ex69 => ?_)
        refine lv_istore (pc := 69) (lv' := [(6, .int (iI x69)), (5, .int (iI ix)), (4, .int (iI x45)), (3, .int (iI x4)), (0, .ref se), (1, .ref dr), (2, .ref pa)]) hx hb dX5_markTold_69 hl (by decide) rfl (fun ls hl => ?_)
        refine lv_iload (pc := 71) hx hb dX5_markTold_71 (lv_at hl 0 rfl) ?_
        refine zif_lt (pc := 73) hx hb 83 (by omega) dX5_markTold_73 (by decide) (fun c73 => ?_) (fun c73 => ?_)
        · skip
          refine ziinc (pc := 83) (lv' := [(5, .int (iI (ix + 1))), (6, .int (iI x69)), (4, .int (iI x45)), (3, .int (iI x4)), (0, .ref se), (1, .ref dr), (2, .ref pa)]) hx hb 1 dX5_markTold_83 hl rfl (by decide) rfl (fun ls hl => ?_)
          obtain ⟨x83, ex83⟩ : ∃ zz : Int, zz = (ix + 1) := ⟨_, rfl⟩
          rw [← ex83] at hl
          refine lv_goto (pc := 86) (tgt := 56) hx hb dX5_markTold_86 (by decide) ?_
          exact ih56 x83 XL56 _ _ (by (first | assumption | omega)) (by 
                                        intro d g1 g2
                                        have hmd := mi_rng (d := d) (by omega) (by omega)
                                        first
                                        | (have hx0 : told (X pa) ix = x69 := by rw [ex69, hpa]
                                           have hmt := told_mi (P := X pa) (i := ix) (by omega) (by omega) (by omega)
                                           rw [hx0] at hmt
                                           rw [hp80]
                                           split
                                           · next q =>
                                             rw [rdv_wr hne, hd1, hd2]
                                             by_cases g : d = x69
                                             · subst g; rw [if_pos ⟨rfl, by omega⟩, if_pos ⟨⟨by rw [hmt, hx0], by omega⟩, by rw [← ex4]; exact q⟩]
                                             · rw [if_neg (fun h => g h.1), hv d g1 g2]
                                               by_cases g' : (told (X pa) (mi d) = d ∧ mi d < ix) ∧ bitw (rwS Sd) d ≠ 0
                                               · rw [if_pos g', if_pos ⟨⟨g'.1.1, by omega⟩, g'.2⟩]
                                               · rw [if_neg g', if_neg (fun h => by
                                                   by_cases w : mi d = ix
                                                   · rw [w, hx0] at h; exact g h.1.1.symm
                                                   · exact g' ⟨⟨h.1.1, by omega⟩, h.2⟩)]
                                           · next q =>
                                             rw [hv d g1 g2]
                                             by_cases g' : (told (X pa) (mi d) = d ∧ mi d < ix) ∧ bitw (rwS Sd) d ≠ 0
                                             · rw [if_pos g', if_pos ⟨⟨g'.1.1, by omega⟩, g'.2⟩]
                                             · rw [if_neg g', if_neg (fun h => by
                                                 by_cases w : mi d = ix
                                                 · rw [w, hx0] at h; rw [← h.1.1, ← ex4] at h; exact q h.2
                                                 · exact g' ⟨⟨h.1.1, by omega⟩, h.2⟩)])
                                        | (have hx0 : told (X pa) ix = x69 := by rw [ex69, hpa]
                                           rw [hv d g1 g2]
                                           by_cases g' : (told (X pa) (mi d) = d ∧ mi d < ix) ∧ bitw (rwS Sd) d ≠ 0
                                           · rw [if_pos g', if_pos ⟨⟨g'.1.1, by omega⟩, g'.2⟩]
                                           · rw [if_neg g', if_neg (fun h => by
                                               by_cases w : mi d = ix
                                               · rw [w, hx0] at h; omega
                                               · exact g' ⟨⟨h.1.1, by omega⟩, h.2⟩)])) (by intro a ha; first | (rw [hp80]; split; rw [wrX_o ha]; exact ho a ha; exact ho a ha) | exact ho a ha) (by omega) hw _ (lv_sub hl [0, 2, 3, 4, 5, 6] rfl)
        · skip
          refine lv_aload_n (pc := 76) hx hb dX5_markTold_76 rfl (lv_at hl 5 rfl) ?_
          refine lv_iload (pc := 77) hx hb dX5_markTold_77 (lv_at hl 0 rfl) ?_
          refine lv_iload_n (pc := 79) hx hb dX5_markTold_79 rfl (lv_at hl 3 rfl) ?_
          refine zkVx (pc := 80) (zrS (As := [.ref dr, .int (iI x69), .int (iI x4)]) hx hb hml hown hG hw (c_X5_markDay l Γ K XL56 Rf dr x69 x4 na n (by (first | assumption | omega)) (by (first | assumption | omega)) (by (first | assumption | omega)) (by (first | assumption | omega)) (by (first | assumption | omega)) (by (first | assumption | omega)) (by (first | assumption | omega))) cb_X5_markDay wl_X5_134 rfl ⟨Nat.le_of_ble_eq_true rfl, Nat.le_of_ble_eq_true rfl⟩ hl.1 rfl (Nat.le_of_ble_eq_true rfl) dX5_markTold_80 ⟨Nat.zero_le _, Nat.zero_le _⟩) hw (fun X80 H locs hp80 hw => ?_)
          refine ziinc (pc := 83) (lv' := [(5, .int (iI (ix + 1))), (6, .int (iI x69)), (4, .int (iI x45)), (3, .int (iI x4)), (0, .ref se), (1, .ref dr), (2, .ref pa)]) hx hb 1 dX5_markTold_83 hl rfl (by decide) rfl (fun ls hl => ?_)
          obtain ⟨x83, ex83⟩ : ∃ zz : Int, zz = (ix + 1) := ⟨_, rfl⟩
          rw [← ex83] at hl
          refine lv_goto (pc := 86) (tgt := 56) hx hb dX5_markTold_86 (by decide) ?_
          exact ih56 x83 X80 _ _ (by (first | assumption | omega)) (by 
                                        intro d g1 g2
                                        have hmd := mi_rng (d := d) (by omega) (by omega)
                                        first
                                        | (have hx0 : told (X pa) ix = x69 := by rw [ex69, hpa]
                                           have hmt := told_mi (P := X pa) (i := ix) (by omega) (by omega) (by omega)
                                           rw [hx0] at hmt
                                           rw [hp80]
                                           split
                                           · next q =>
                                             rw [rdv_wr hne, hd1, hd2]
                                             by_cases g : d = x69
                                             · subst g; rw [if_pos ⟨rfl, by omega⟩, if_pos ⟨⟨by rw [hmt, hx0], by omega⟩, by rw [← ex4]; exact q⟩]
                                             · rw [if_neg (fun h => g h.1), hv d g1 g2]
                                               by_cases g' : (told (X pa) (mi d) = d ∧ mi d < ix) ∧ bitw (rwS Sd) d ≠ 0
                                               · rw [if_pos g', if_pos ⟨⟨g'.1.1, by omega⟩, g'.2⟩]
                                               · rw [if_neg g', if_neg (fun h => by
                                                   by_cases w : mi d = ix
                                                   · rw [w, hx0] at h; exact g h.1.1.symm
                                                   · exact g' ⟨⟨h.1.1, by omega⟩, h.2⟩)]
                                           · next q =>
                                             rw [hv d g1 g2]
                                             by_cases g' : (told (X pa) (mi d) = d ∧ mi d < ix) ∧ bitw (rwS Sd) d ≠ 0
                                             · rw [if_pos g', if_pos ⟨⟨g'.1.1, by omega⟩, g'.2⟩]
                                             · rw [if_neg g', if_neg (fun h => by
                                                 by_cases w : mi d = ix
                                                 · rw [w, hx0] at h; rw [← h.1.1, ← ex4] at h; exact q h.2
                                                 · exact g' ⟨⟨h.1.1, by omega⟩, h.2⟩)])
                                        | (have hx0 : told (X pa) ix = x69 := by rw [ex69, hpa]
                                           rw [hv d g1 g2]
                                           by_cases g' : (told (X pa) (mi d) = d ∧ mi d < ix) ∧ bitw (rwS Sd) d ≠ 0
                                           · rw [if_pos g', if_pos ⟨⟨g'.1.1, by omega⟩, g'.2⟩]
                                           · rw [if_neg g', if_neg (fun h => by
                                               by_cases w : mi d = ix
                                               · rw [w, hx0] at h; omega
                                               · exact g' ⟨⟨h.1.1, by omega⟩, h.2⟩)])) (by intro a ha; first | (rw [hp80]; split; rw [wrX_o ha]; exact ho a ha; exact ho a ha) | exact ho a ha) (by omega) hw _ (lv_sub hl [0, 2, 3, 4, 5, 6] rfl)
  exact lp56 _ x54 X _ _ (by have := mi_mono (a := X dr 1) (b := X dr 2) (by omega) (by omega) (by omega); omega) (by intro d h1 h2; rw [if_neg]; have := mi_mono (a := X dr 1) (b := d) (by omega) (by omega) (by omega); omega) (by intro a _; rfl) (Nat.lt_succ_self _) hw _ (lv_sub hl [0, 1, 2, 3, 4, 5] rfl)
