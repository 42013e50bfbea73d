set_option maxHeartbeats 4000000 in
set_option maxRecDepth 100000 in
theorem c_X3_greatestNumber (l : Launch) (Γ : zG) (K : zK) (X : zX) (Rf : zR) (kind : Int)  (h1 : fit kind) : Ct l yX3_greatestNumber cX3_greatestNumber 1 (some .int) 0 0 0 Γ [.int (iI kind)] K X Rf (pI (zp0 K X Rf (fun r : Int => r = if kind < 2 then 31 else if kind < 16 then 5 else 200))) := by
  refine Ct.of (by decide +kernel) (Nat.le_of_ble_eq_true rfl) ?_
  intro p e s m below meth c ls hx hb hr hml hown hG hlocks hname hw hl
  have hl : lv_has ls 1 [(0, .int (iI kind))] := hl
  refine lv_iload_n (pc := 0) hx hb dX3_greatestNumber_0 rfl (lv_at hl 0 rfl) ?_
  refine ziconst (pc := 1) (n := 2) hx hb dX3_greatestNumber_1 ?_
  refine zicmp_ge (pc := 2) hx hb 8 (by omega) (by omega) dX3_greatestNumber_2 (by decide) (fun c2 => ?_) (fun c2 => ?_)
  · skip
    refine lv_iload_n (pc := 8) hx hb dX3_greatestNumber_8 rfl (lv_at hl 0 rfl) ?_
    refine zbipush (pc := 9) (n := 16) hx hb dX3_greatestNumber_9 rfl ?_
    refine zicmp_ge (pc := 11) hx hb 18 (by omega) (by omega) dX3_greatestNumber_11 (by decide) (fun c11 => ?_) (fun c11 => ?_)
    · skip
      refine zsipush (pc := 18) (n := 200) hx hb dX3_greatestNumber_18 rfl ?_
      exact zretI (pc := 21) hx hb hlocks hr hw (Nat.zero_le _) (Nat.zero_le _) dX3_greatestNumber_21 ⟨by (try dsimp only) <;> ((first | assumption | omega)), rfl, rfl, rfl⟩
    · skip
      refine ziconst (pc := 14) (n := 5) hx hb dX3_greatestNumber_14 ?_
      refine lv_goto (pc := 15) (tgt := 21) hx hb dX3_greatestNumber_15 (by decide) ?_
      exact zretI (pc := 21) hx hb hlocks hr hw (Nat.zero_le _) (Nat.zero_le _) dX3_greatestNumber_21 ⟨by (try dsimp only) <;> ((first | assumption | omega)), rfl, rfl, rfl⟩
  · skip
    refine zbipush (pc := 5) (n := 31) hx hb dX3_greatestNumber_5 rfl ?_
    exact zretI (pc := 7) hx hb hlocks hr hw (Nat.zero_le _) (Nat.zero_le _) dX3_greatestNumber_7 ⟨by (try dsimp only) <;> ((first | assumption | omega)), rfl, rfl, rfl⟩
set_option maxHeartbeats 4000000 in
set_option maxRecDepth 100000 in
theorem c_X3_numberTold (l : Launch) (Γ : zG) (K : zK) (X : zX) (Rf : zR) (pa : Nat) (begin : Int) (length : Int)  (hk : K pa = (1, 2)) (hP : okP (X pa)) (h1 : 0 ≤ begin ∧ begin ≤ 73049) (h2 : 0 ≤ length ∧ length ≤ 31) : Ct l yX3_numberTold cX3_numberTold 3 (some .int) 1 0 0 Γ [.ref pa, .int (iI begin), .int (iI length)] K X Rf (pI (zp0 K X Rf (fun r : Int => r = numT (X pa) begin length))) := by
  refine Ct.of (by decide +kernel) (Nat.le_of_ble_eq_true rfl) ?_
  intro p e s m below meth c ls hx hb hr hml hown hG hlocks hname hw hl
  have hl : lv_has ls 3 [(0, .ref pa), (1, .int (iI begin)), (2, .int (iI length))] := hl
  refine lv_aload_n (pc := 0) hx hb dX3_numberTold_0 rfl (lv_at hl 0 rfl) ?_
  refine zgetI (pc := 1) hx hb hG hown hw hk (T := TX3) rfl 1 (by decide) rfl wf_X3_15 rfl dX3_numberTold_1 ?_
  refine zif_ne (pc := 4) hx hb 12 (by omega) dX3_numberTold_4 (by decide) (fun c4 => ?_) (fun c4 => ?_)
  · skip
    refine lv_aload_n (pc := 12) hx hb dX3_numberTold_12 rfl (lv_at hl 0 rfl) ?_
    refine zgetI (pc := 13) hx hb hG hown hw hk (T := TX3) rfl 1 (by decide) rfl wf_X3_15 rfl dX3_numberTold_13 ?_
    refine ziconst (pc := 16) (n := 1) hx hb dX3_numberTold_16 ?_
    refine zicmp_ne (pc := 17) hx hb 29 (by omega) (by omega) dX3_numberTold_17 (by decide) (fun c17 => ?_) (fun c17 => ?_)
    · skip
      refine lv_aload_n (pc := 29) hx hb dX3_numberTold_29 rfl (lv_at hl 0 rfl) ?_
      refine zgetI (pc := 30) hx hb hG hown hw hk (T := TX3) rfl 1 (by decide) rfl wf_X3_15 rfl dX3_numberTold_30 ?_
      refine zbipush (pc := 33) (n := 8) hx hb dX3_numberTold_33 rfl ?_
      refine zicmp_gt (pc := 35) hx hb 64 (by omega) (by omega) dX3_numberTold_35 (by decide) (fun c35 => ?_) (fun c35 => ?_)
      · skip
        refine lv_iload_n (pc := 64) hx hb dX3_numberTold_64 rfl (lv_at hl 2 rfl) ?_
        refine lv_iload_n (pc := 65) hx hb dX3_numberTold_65 rfl (lv_at hl 1 rfl) ?_
        refine lv_iload_n (pc := 66) hx hb dX3_numberTold_66 rfl (lv_at hl 2 rfl) ?_
        refine zadd (pc := 67) hx hb dX3_numberTold_67 ?_
        refine ziconst (pc := 68) (n := 1) hx hb dX3_numberTold_68 ?_
        refine zsub (pc := 69) hx hb dX3_numberTold_69 ?_
        refine lv_aload_n (pc := 70) hx hb dX3_numberTold_70 rfl (lv_at hl 0 rfl) ?_
        refine zgetI (pc := 71) hx hb hG hown hw hk (T := TX3) rfl 1 (by decide) rfl wf_X3_15 rfl dX3_numberTold_71 ?_
        refine zbipush (pc := 74) (n := 9) hx hb dX3_numberTold_74 rfl ?_
        refine zsub (pc := 76) hx hb dX3_numberTold_76 ?_
        refine zsub (pc := 77) hx hb dX3_numberTold_77 ?_
        refine zbipush (pc := 78) (n := 7) hx hb dX3_numberTold_78 rfl ?_
        refine zkIp (pc := 80) (zrS (As := [.int (iI (((begin + length) - 1) - ((X pa 1) - 9))), .int (iI 7)]) hx hb hml hown hG hw (c_J9_floorMod_7cf53 l Γ K X Rf (((begin + length) - 1) - ((X pa 1) - 9))  (by (first | assumption | omega))) cb_J9_floorMod_7cf53 wl_X3_34 rfl ⟨Nat.le_of_ble_eq_true rfl, Nat.le_of_ble_eq_true rfl⟩ hl.1 rfl (Nat.le_of_ble_eq_true rfl) dX3_numberTold_80 ⟨Nat.zero_le _, Nat.zero_le _⟩) hw (fun r80 H locs hp80 hw => ?_)
        subst hp80
        refine zsub (pc := 83) hx hb dX3_numberTold_83 ?_
        refine zbipush (pc := 84) (n := 7) hx hb dX3_numberTold_84 rfl ?_
        refine lv_aload_n (pc := 86) hx hb dX3_numberTold_86 rfl (lv_at hl 0 rfl) ?_
        refine zgetI (pc := 87) hx hb hG hown hw hk (T := TX3) rfl 2 (by decide) rfl wf_X3_18 rfl dX3_numberTold_87 ?_
        refine ziconst (pc := 90) (n := 1) hx hb dX3_numberTold_90 ?_
        refine zsub (pc := 91) hx hb dX3_numberTold_91 ?_
        refine zmul (pc := 92) hx hb dX3_numberTold_92 ?_
        refine zsub (pc := 93) hx hb dX3_numberTold_93 ?_
        exact zretI (pc := 94) hx hb hlocks hr hw (Nat.zero_le _) (Nat.zero_le _) dX3_numberTold_94 ⟨by (try dsimp only) <;> (unfold numT; (repeat' split) <;> omega), rfl, rfl, rfl⟩
      · skip
        refine ziconst (pc := 38) (n := 1) hx hb dX3_numberTold_38 ?_
        refine lv_aload_n (pc := 39) hx hb dX3_numberTold_39 rfl (lv_at hl 0 rfl) ?_
        refine zgetI (pc := 40) hx hb hG hown hw hk (T := TX3) rfl 1 (by decide) rfl wf_X3_15 rfl dX3_numberTold_40 ?_
        refine ziconst (pc := 43) (n := 2) hx hb dX3_numberTold_43 ?_
        refine zsub (pc := 44) hx hb dX3_numberTold_44 ?_
        refine lv_iload_n (pc := 45) hx hb dX3_numberTold_45 rfl (lv_at hl 1 rfl) ?_
        refine zsub (pc := 46) hx hb dX3_numberTold_46 ?_
        refine zbipush (pc := 47) (n := 7) hx hb dX3_numberTold_47 rfl ?_
        refine zkIp (pc := 49) (zrS (As := [.int (iI (((X pa 1) - 2) - begin)), .int (iI 7)]) hx hb hml hown hG hw (c_J9_floorMod_7cf53 l Γ K X Rf (((X pa 1) - 2) - begin)  (by (first | assumption | omega))) cb_J9_floorMod_7cf53 wl_X3_34 rfl ⟨Nat.le_of_ble_eq_true rfl, Nat.le_of_ble_eq_true rfl⟩ hl.1 rfl (Nat.le_of_ble_eq_true rfl) dX3_numberTold_49 ⟨Nat.zero_le _, Nat.zero_le _⟩) hw (fun r49 H locs hp49 hw => ?_)
        subst hp49
        refine zadd (pc := 52) hx hb dX3_numberTold_52 ?_
        refine zbipush (pc := 53) (n := 7) hx hb dX3_numberTold_53 rfl ?_
        refine lv_aload_n (pc := 55) hx hb dX3_numberTold_55 rfl (lv_at hl 0 rfl) ?_
        refine zgetI (pc := 56) hx hb hG hown hw hk (T := TX3) rfl 2 (by decide) rfl wf_X3_18 rfl dX3_numberTold_56 ?_
        refine ziconst (pc := 59) (n := 1) hx hb dX3_numberTold_59 ?_
        refine zsub (pc := 60) hx hb dX3_numberTold_60 ?_
        refine zmul (pc := 61) hx hb dX3_numberTold_61 ?_
        refine zadd (pc := 62) hx hb dX3_numberTold_62 ?_
        exact zretI (pc := 63) hx hb hlocks hr hw (Nat.zero_le _) (Nat.zero_le _) dX3_numberTold_63 ⟨by (try dsimp only) <;> (unfold numT; (repeat' split) <;> omega), rfl, rfl, rfl⟩
    · skip
      refine lv_iload_n (pc := 20) hx hb dX3_numberTold_20 rfl (lv_at hl 2 rfl) ?_
      refine lv_aload_n (pc := 21) hx hb dX3_numberTold_21 rfl (lv_at hl 0 rfl) ?_
      refine zgetI (pc := 22) hx hb hG hown hw hk (T := TX3) rfl 2 (by decide) rfl wf_X3_18 rfl dX3_numberTold_22 ?_
      refine zsub (pc := 25) hx hb dX3_numberTold_25 ?_
      refine ziconst (pc := 26) (n := 1) hx hb dX3_numberTold_26 ?_
      refine zadd (pc := 27) hx hb dX3_numberTold_27 ?_
      exact zretI (pc := 28) hx hb hlocks hr hw (Nat.zero_le _) (Nat.zero_le _) dX3_numberTold_28 ⟨by (try dsimp only) <;> (unfold numT; (repeat' split) <;> omega), rfl, rfl, rfl⟩
  · skip
    refine lv_aload_n (pc := 7) hx hb dX3_numberTold_7 rfl (lv_at hl 0 rfl) ?_
    refine zgetI (pc := 8) hx hb hG hown hw hk (T := TX3) rfl 2 (by decide) rfl wf_X3_18 rfl dX3_numberTold_8 ?_
    exact zretI (pc := 11) hx hb hlocks hr hw (Nat.zero_le _) (Nat.zero_le _) dX3_numberTold_11 ⟨by (try dsimp only) <;> (unfold numT; (repeat' split) <;> omega), rfl, rfl, rfl⟩
set_option maxHeartbeats 4000000 in
set_option maxRecDepth 100000 in
theorem c_X3_toldIn (l : Launch) (Γ : zG) (K : zK) (X : zX) (Rf : zR) (pa : Nat) (index : Int)  (hk : K pa = (1, 2)) (hP : okP (X pa)) (h1 : 0 ≤ index ∧ index < 2400) : Ct l yX3_toldIn cX3_toldIn 5 (some .int) 2 0 0 Γ [.ref pa, .int (iI index)] K X Rf (pI (zp0 K X Rf (fun r : Int => r = told (X pa) index))) := by
  refine Ct.of (by decide +kernel) (Nat.le_of_ble_eq_true rfl) ?_
  intro p e s m below meth c ls hx hb hr hml hown hG hlocks hname hw hl
  have hl : lv_has ls 5 [(0, .ref pa), (1, .int (iI index))] := hl
  refine lv_aload_n (pc := 0) hx hb dX3_toldIn_0 rfl (lv_at hl 0 rfl) ?_
  refine zgetI (pc := 1) hx hb hG hown hw hk (T := TX3) rfl 0 (by decide) rfl wf_X3_9 rfl dX3_toldIn_1 ?_
  refine zif_eq (pc := 4) hx hb 22 (by omega) dX3_toldIn_4 (by decide) (fun c4 => ?_) (fun c4 => ?_)
  · skip
    refine lv_iload_n (pc := 22) hx hb dX3_toldIn_22 rfl (lv_at hl 1 rfl) ?_
    refine zkIp (pc := 23) (zrS (As := [.int (iI index)]) hx hb hml hown hG hw (c_X1_monthBegin l Γ K X Rf index  (by (first | assumption | omega))) cb_X1_monthBegin wl_X3_21 rfl ⟨Nat.le_of_ble_eq_true rfl, Nat.le_of_ble_eq_true rfl⟩ hl.1 rfl (Nat.le_of_ble_eq_true rfl) dX3_toldIn_23 ⟨Nat.zero_le _, Nat.zero_le _⟩) hw (fun r23 H locs hp23 hw => ?_)
    subst hp23
    have hp23f0 := mB_rng index
    refine ztop (fun x26 ex26 => ?_)
    refine lv_istore_n (pc := 26) (lv' := [(2, .int (iI x26)), (0, .ref pa), (1, .int (iI index))]) hx hb dX3_toldIn_26 rfl hl (by decide) rfl (fun ls hl => ?_)
    refine lv_iload_n (pc := 27) hx hb dX3_toldIn_27 rfl (lv_at hl 2 rfl) ?_
    refine ziconst (pc := 28) (n := 1) hx hb dX3_toldIn_28 ?_
    refine zadd (pc := 29) hx hb dX3_toldIn_29 ?_
    refine zkIp (pc := 30) (zrS (As := [.int (iI (index + 1))]) hx hb hml hown hG hw (c_X1_monthBegin l Γ K X Rf (index + 1)  (by (first | assumption | omega))) cb_X1_monthBegin wl_X3_21 rfl ⟨Nat.le_of_ble_eq_true rfl, Nat.le_of_ble_eq_true rfl⟩ hl.1 rfl (Nat.le_of_ble_eq_true rfl) dX3_toldIn_30 ⟨Nat.zero_le _, Nat.zero_le _⟩) hw (fun r30 H locs hp30 hw => ?_)
    subst hp30
    have hp30f0 := mB_rng (index + 1)
    refine lv_iload_n (pc := 33) hx hb dX3_toldIn_33 rfl (lv_at hl 0 rfl) ?_
    refine zsub (pc := 34) hx hb dX3_toldIn_34 ?_
    refine ztop (fun x35 ex35 => ?_)
    refine lv_istore_n (pc := 35) (lv' := [(3, .int (iI x35)), (2, .int (iI x26)), (0, .ref pa), (1, .int (iI index))]) hx hb dX3_toldIn_35 rfl hl (by decide) rfl (fun ls hl => ?_)
    refine lv_aload_n (pc := 36) hx hb dX3_toldIn_36 rfl (lv_at hl 2 rfl) ?_
    refine zgetI (pc := 37) hx hb hG hown hw hk (T := TX3) rfl 1 (by decide) rfl wf_X3_15 rfl dX3_toldIn_37 ?_
    refine zbipush (pc := 40) (n := 16) hx hb dX3_toldIn_40 rfl ?_
    have jn81_0 : ∀ (t : Int) (H : Heap) (locs : List Loc), (hj : t = numA (X pa) index) → Wd Γ (zA K s.heap.size) K X Rf s H locs → ∀ ls : Array Slot, lv_has ls 5 [(3, .int (iI x35)), (2, .int (iI x26)), (0, .ref pa), (1, .int (iI index)), (4, .int (iI t))] → W p l e (rmL 2 0 0) s m ([.ref pa, .int (iI index)] : List Value).toArray below meth c H locs 0 0 (MQ below (zQ Γ K s.heap.size (pI (zp0 K X Rf (fun r : Int => r = told (X pa) index)))) ([.ref pa, .int (iI index)] : List Value).toArray s 0 0 (zA K s.heap.size)) (F0 m 81 ls []) := by
      intro t H locs hj hw ls hl
      have hs := mB_succ (i := index) (by omega) (by omega)
      have hna := numA_rng hP (i := index) (by omega) (by omega)
      refine lv_iload (pc := 81) hx hb dX3_toldIn_81 (lv_at hl 4 rfl) ?_
      refine ziconst (pc := 83) (n := 1) hx hb dX3_toldIn_83 ?_
      refine zicmp_lt (pc := 84) hx hb 93 (by omega) (by omega) dX3_toldIn_84 (by decide) (fun c84 => ?_) (fun c84 => ?_)
      · skip
        refine ziconst (pc := 93) (n := (-1)) hx hb dX3_toldIn_93 ?_
        refine lv_goto (pc := 94) (tgt := 103) hx hb dX3_toldIn_94 (by decide) ?_
        exact zretI (pc := 103) hx hb hlocks hr hw (Nat.zero_le _) (Nat.zero_le _) dX3_toldIn_103 ⟨by (try dsimp only) <;> (unfold told; (try rw [← hj]); (repeat' split) <;> omega), rfl, rfl, rfl⟩
      · skip
        refine lv_iload (pc := 87) hx hb dX3_toldIn_87 (lv_at hl 4 rfl) ?_
        refine lv_iload_n (pc := 89) hx hb dX3_toldIn_89 rfl (lv_at hl 0 rfl) ?_
        refine zicmp_le (pc := 90) hx hb 97 (by omega) (by omega) dX3_toldIn_90 (by decide) (fun c90 => ?_) (fun c90 => ?_)
        · skip
          refine lv_iload_n (pc := 97) hx hb dX3_toldIn_97 rfl (lv_at hl 1 rfl) ?_
          refine lv_iload (pc := 98) hx hb dX3_toldIn_98 (lv_at hl 4 rfl) ?_
          refine zadd (pc := 100) hx hb dX3_toldIn_100 ?_
          refine ziconst (pc := 101) (n := 1) hx hb dX3_toldIn_101 ?_
          refine zsub (pc := 102) hx hb dX3_toldIn_102 ?_
          exact zretI (pc := 103) hx hb hlocks hr hw (Nat.zero_le _) (Nat.zero_le _) dX3_toldIn_103 ⟨by (try dsimp only) <;> (unfold told; (try rw [← hj]); (repeat' split) <;> omega), rfl, rfl, rfl⟩
        · skip
          refine ziconst (pc := 93) (n := (-1)) hx hb dX3_toldIn_93 ?_
          refine lv_goto (pc := 94) (tgt := 103) hx hb dX3_toldIn_94 (by decide) ?_
          exact zretI (pc := 103) hx hb hlocks hr hw (Nat.zero_le _) (Nat.zero_le _) dX3_toldIn_103 ⟨by (try dsimp only) <;> (unfold told; (try rw [← hj]); (repeat' split) <;> omega), rfl, rfl, rfl⟩
    refine zicmp_ne (pc := 42) hx hb 73 (by omega) (by omega) dX3_toldIn_42 (by decide) (fun c42 => ?_) (fun c42 => ?_)
    · skip
      refine lv_aload_n (pc := 73) hx hb dX3_toldIn_73 rfl (lv_at hl 2 rfl) ?_
      refine lv_iload_n (pc := 74) hx hb dX3_toldIn_74 rfl (lv_at hl 1 rfl) ?_
      refine lv_iload_n (pc := 75) hx hb dX3_toldIn_75 rfl (lv_at hl 0 rfl) ?_
      have hs := mB_succ (i := index) (by omega) (by omega)
      refine zkIp (pc := 76) (zrV (As := [.int (iI x26), .int (iI x35)]) hx hb hml hown hG hw (c_X3_numberTold l Γ K X Rf pa x26 x35  (by (first | assumption | omega)) (by (first | assumption | omega)) (by (first | assumption | omega)) (by (first | assumption | omega))) (T := TX3) hk rfl cb_X3_numberTold wl_X3_30 rfl ⟨Nat.le_of_ble_eq_true rfl, Nat.le_of_ble_eq_true rfl⟩ hl.1 rfl (Nat.le_of_ble_eq_true rfl) dX3_toldIn_76 ⟨Nat.zero_le _, Nat.zero_le _⟩) hw (fun r76 H locs hp76 hw => ?_)
      subst hp76
      refine ztop (fun x79 ex79 => ?_)
      refine lv_istore (pc := 79) (lv' := [(4, .int (iI x79)), (3, .int (iI x35)), (2, .int (iI x26)), (0, .ref pa), (1, .int (iI index))]) hx hb dX3_toldIn_79 hl (by decide) rfl (fun ls hl => ?_)
      exact jn81_0 x79 _ _ (by first | (unfold numA; rw [if_neg (by assumption), ← ex26, ← ex35]; exact ex79) | (unfold numA; rw [if_pos (by omega), ← ex26]; exact ex68)) hw _ (lv_sub hl [1, 2, 3, 4, 0] rfl)
    · skip
      refine zsipush (pc := 45) (n := 1900) hx hb dX3_toldIn_45 rfl ?_
      refine lv_iload_n (pc := 48) hx hb dX3_toldIn_48 rfl (lv_at hl 3 rfl) ?_
      refine zbipush (pc := 49) (n := 12) hx hb dX3_toldIn_49 rfl ?_
      refine zdiv (pc := 51) hx hb (by omega) dX3_toldIn_51 ?_
      refine zadd (pc := 52) hx hb dX3_toldIn_52 ?_
      refine zkIp (pc := 53) (zrS (As := [.int (iI (1900 + (index / 12)))]) hx hb hml hown hG hw (c_X1_easter l Γ K X Rf (1900 + (index / 12))  (by (first | assumption | omega))) cb_X1_easter wl_X3_27 rfl ⟨Nat.le_of_ble_eq_true rfl, Nat.le_of_ble_eq_true rfl⟩ hl.1 rfl (Nat.le_of_ble_eq_true rfl) dX3_toldIn_53 ⟨Nat.zero_le _, Nat.zero_le _⟩) hw (fun r53 H locs hp53 hw => ?_)
      subst hp53
      refine lv_aload_n (pc := 56) hx hb dX3_toldIn_56 rfl (lv_at hl 2 rfl) ?_
      refine zgetI (pc := 57) hx hb hG hown hw hk (T := TX3) rfl 2 (by decide) rfl wf_X3_18 rfl dX3_toldIn_57 ?_
      refine zadd (pc := 60) hx hb dX3_toldIn_60 ?_
      refine zbipush (pc := 61) (n := 100) hx hb dX3_toldIn_61 rfl ?_
      refine zsub (pc := 63) hx hb dX3_toldIn_63 ?_
      refine lv_iload_n (pc := 64) hx hb dX3_toldIn_64 rfl (lv_at hl 1 rfl) ?_
      refine zsub (pc := 65) hx hb dX3_toldIn_65 ?_
      refine ziconst (pc := 66) (n := 1) hx hb dX3_toldIn_66 ?_
      refine zadd (pc := 67) hx hb dX3_toldIn_67 ?_
      refine ztop (fun x68 ex68 => ?_)
      refine lv_istore (pc := 68) (lv' := [(4, .int (iI x68)), (3, .int (iI x35)), (2, .int (iI x26)), (0, .ref pa), (1, .int (iI index))]) hx hb dX3_toldIn_68 hl (by decide) rfl (fun ls hl => ?_)
      refine lv_goto (pc := 70) (tgt := 81) hx hb dX3_toldIn_70 (by decide) ?_
      exact jn81_0 x68 _ _ (by first | (unfold numA; rw [if_neg (by assumption), ← ex26, ← ex35]; exact ex79) | (unfold numA; rw [if_pos (by omega), ← ex26]; exact ex68)) hw _ (lv_sub hl [1, 2, 3, 4, 0] rfl)
  · skip
    refine lv_aload_n (pc := 7) hx hb dX3_toldIn_7 rfl (lv_at hl 0 rfl) ?_
    refine zgetI (pc := 8) hx hb hG hown hw hk (T := TX3) rfl 0 (by decide) rfl wf_X3_9 rfl dX3_toldIn_8 ?_
    refine lv_iload_n (pc := 11) hx hb dX3_toldIn_11 rfl (lv_at hl 1 rfl) ?_
    refine zbipush (pc := 12) (n := 12) hx hb dX3_toldIn_12 rfl ?_
    refine zrem (pc := 14) hx hb (by omega) dX3_toldIn_14 ?_
    refine ziconst (pc := 15) (n := 1) hx hb dX3_toldIn_15 ?_
    refine zadd (pc := 16) hx hb dX3_toldIn_16 ?_
    refine zicmp_eq (pc := 17) hx hb 22 (by omega) (by omega) dX3_toldIn_17 (by decide) (fun c17 => ?_) (fun c17 => ?_)
    · skip
      refine lv_iload_n (pc := 22) hx hb dX3_toldIn_22 rfl (lv_at hl 1 rfl) ?_
      refine zkIp (pc := 23) (zrS (As := [.int (iI index)]) hx hb hml hown hG hw (c_X1_monthBegin l Γ K X Rf index  (by (first | assumption | omega))) cb_X1_monthBegin wl_X3_21 rfl ⟨Nat.le_of_ble_eq_true rfl, Nat.le_of_ble_eq_true rfl⟩ hl.1 rfl (Nat.le_of_ble_eq_true rfl) dX3_toldIn_23 ⟨Nat.zero_le _, Nat.zero_le _⟩) hw (fun r23 H locs hp23 hw => ?_)
      subst hp23
      have hp23f0 := mB_rng index
      refine ztop (fun x26 ex26 => ?_)
      refine lv_istore_n (pc := 26) (lv' := [(2, .int (iI x26)), (0, .ref pa), (1, .int (iI index))]) hx hb dX3_toldIn_26 rfl hl (by decide) rfl (fun ls hl => ?_)
      refine lv_iload_n (pc := 27) hx hb dX3_toldIn_27 rfl (lv_at hl 2 rfl) ?_
      refine ziconst (pc := 28) (n := 1) hx hb dX3_toldIn_28 ?_
      refine zadd (pc := 29) hx hb dX3_toldIn_29 ?_
      refine zkIp (pc := 30) (zrS (As := [.int (iI (index + 1))]) hx hb hml hown hG hw (c_X1_monthBegin l Γ K X Rf (index + 1)  (by (first | assumption | omega))) cb_X1_monthBegin wl_X3_21 rfl ⟨Nat.le_of_ble_eq_true rfl, Nat.le_of_ble_eq_true rfl⟩ hl.1 rfl (Nat.le_of_ble_eq_true rfl) dX3_toldIn_30 ⟨Nat.zero_le _, Nat.zero_le _⟩) hw (fun r30 H locs hp30 hw => ?_)
      subst hp30
      have hp30f0 := mB_rng (index + 1)
      refine lv_iload_n (pc := 33) hx hb dX3_toldIn_33 rfl (lv_at hl 0 rfl) ?_
      refine zsub (pc := 34) hx hb dX3_toldIn_34 ?_
      refine ztop (fun x35 ex35 => ?_)
      refine lv_istore_n (pc := 35) (lv' := [(3, .int (iI x35)), (2, .int (iI x26)), (0, .ref pa), (1, .int (iI index))]) hx hb dX3_toldIn_35 rfl hl (by decide) rfl (fun ls hl => ?_)
      refine lv_aload_n (pc := 36) hx hb dX3_toldIn_36 rfl (lv_at hl 2 rfl) ?_
      refine zgetI (pc := 37) hx hb hG hown hw hk (T := TX3) rfl 1 (by decide) rfl wf_X3_15 rfl dX3_toldIn_37 ?_
      refine zbipush (pc := 40) (n := 16) hx hb dX3_toldIn_40 rfl ?_
      have jn81_1 : ∀ (t : Int) (H : Heap) (locs : List Loc), (hj : t = numA (X pa) index) → Wd Γ (zA K s.heap.size) K X Rf s H locs → ∀ ls : Array Slot, lv_has ls 5 [(3, .int (iI x35)), (2, .int (iI x26)), (0, .ref pa), (1, .int (iI index)), (4, .int (iI t))] → W p l e (rmL 2 0 0) s m ([.ref pa, .int (iI index)] : List Value).toArray below meth c H locs 0 0 (MQ below (zQ Γ K s.heap.size (pI (zp0 K X Rf (fun r : Int => r = told (X pa) index)))) ([.ref pa, .int (iI index)] : List Value).toArray s 0 0 (zA K s.heap.size)) (F0 m 81 ls []) := by
        intro t H locs hj hw ls hl
        have hs := mB_succ (i := index) (by omega) (by omega)
        have hna := numA_rng hP (i := index) (by omega) (by omega)
        refine lv_iload (pc := 81) hx hb dX3_toldIn_81 (lv_at hl 4 rfl) ?_
        refine ziconst (pc := 83) (n := 1) hx hb dX3_toldIn_83 ?_
        refine zicmp_lt (pc := 84) hx hb 93 (by omega) (by omega) dX3_toldIn_84 (by decide) (fun c84 => ?_) (fun c84 => ?_)
        · skip
          refine ziconst (pc := 93) (n := (-1)) hx hb dX3_toldIn_93 ?_
          refine lv_goto (pc := 94) (tgt := 103) hx hb dX3_toldIn_94 (by decide) ?_
          exact zretI (pc := 103) hx hb hlocks hr hw (Nat.zero_le _) (Nat.zero_le _) dX3_toldIn_103 ⟨by (try dsimp only) <;> (unfold told; (try rw [← hj]); (repeat' split) <;> omega), rfl, rfl, rfl⟩
        · skip
          refine lv_iload (pc := 87) hx hb dX3_toldIn_87 (lv_at hl 4 rfl) ?_
          refine lv_iload_n (pc := 89) hx hb dX3_toldIn_89 rfl (lv_at hl 0 rfl) ?_
          refine zicmp_le (pc := 90) hx hb 97 (by omega) (by omega) dX3_toldIn_90 (by decide) (fun c90 => ?_) (fun c90 => ?_)
          · skip
            refine lv_iload_n (pc := 97) hx hb dX3_toldIn_97 rfl (lv_at hl 1 rfl) ?_
            refine lv_iload (pc := 98) hx hb dX3_toldIn_98 (lv_at hl 4 rfl) ?_
            refine zadd (pc := 100) hx hb dX3_toldIn_100 ?_
            refine ziconst (pc := 101) (n := 1) hx hb dX3_toldIn_101 ?_
            refine zsub (pc := 102) hx hb dX3_toldIn_102 ?_
            exact zretI (pc := 103) hx hb hlocks hr hw (Nat.zero_le _) (Nat.zero_le _) dX3_toldIn_103 ⟨by (try dsimp only) <;> (unfold told; (try rw [← hj]); (repeat' split) <;> omega), rfl, rfl, rfl⟩
          · skip
            refine ziconst (pc := 93) (n := (-1)) hx hb dX3_toldIn_93 ?_
            refine lv_goto (pc := 94) (tgt := 103) hx hb dX3_toldIn_94 (by decide) ?_
            exact zretI (pc := 103) hx hb hlocks hr hw (Nat.zero_le _) (Nat.zero_le _) dX3_toldIn_103 ⟨by (try dsimp only) <;> (unfold told; (try rw [← hj]); (repeat' split) <;> omega), rfl, rfl, rfl⟩
      refine zicmp_ne (pc := 42) hx hb 73 (by omega) (by omega) dX3_toldIn_42 (by decide) (fun c42 => ?_) (fun c42 => ?_)
      · skip
        refine lv_aload_n (pc := 73) hx hb dX3_toldIn_73 rfl (lv_at hl 2 rfl) ?_
        refine lv_iload_n (pc := 74) hx hb dX3_toldIn_74 rfl (lv_at hl 1 rfl) ?_
        refine lv_iload_n (pc := 75) hx hb dX3_toldIn_75 rfl (lv_at hl 0 rfl) ?_
        have hs := mB_succ (i := index) (by omega) (by omega)
        refine zkIp (pc := 76) (zrV (As := [.int (iI x26), .int (iI x35)]) hx hb hml hown hG hw (c_X3_numberTold l Γ K X Rf pa x26 x35  (by (first | assumption | omega)) (by (first | assumption | omega)) (by (first | assumption | omega)) (by (first | assumption | omega))) (T := TX3) hk rfl cb_X3_numberTold wl_X3_30 rfl ⟨Nat.le_of_ble_eq_true rfl, Nat.le_of_ble_eq_true rfl⟩ hl.1 rfl (Nat.le_of_ble_eq_true rfl) dX3_toldIn_76 ⟨Nat.zero_le _, Nat.zero_le _⟩) hw (fun r76 H locs hp76 hw => ?_)
        subst hp76
        refine ztop (fun x79 ex79 => ?_)
        refine lv_istore (pc := 79) (lv' := [(4, .int (iI x79)), (3, .int (iI x35)), (2, .int (iI x26)), (0, .ref pa), (1, .int (iI index))]) hx hb dX3_toldIn_79 hl (by decide) rfl (fun ls hl => ?_)
        exact jn81_1 x79 _ _ (by first | (unfold numA; rw [if_neg (by assumption), ← ex26, ← ex35]; exact ex79) | (unfold numA; rw [if_pos (by omega), ← ex26]; exact ex68)) hw _ (lv_sub hl [1, 2, 3, 4, 0] rfl)
      · skip
        refine zsipush (pc := 45) (n := 1900) hx hb dX3_toldIn_45 rfl ?_
        refine lv_iload_n (pc := 48) hx hb dX3_toldIn_48 rfl (lv_at hl 3 rfl) ?_
        refine zbipush (pc := 49) (n := 12) hx hb dX3_toldIn_49 rfl ?_
        refine zdiv (pc := 51) hx hb (by omega) dX3_toldIn_51 ?_
        refine zadd (pc := 52) hx hb dX3_toldIn_52 ?_
        refine zkIp (pc := 53) (zrS (As := [.int (iI (1900 + (index / 12)))]) hx hb hml hown hG hw (c_X1_easter l Γ K X Rf (1900 + (index / 12))  (by (first | assumption | omega))) cb_X1_easter wl_X3_27 rfl ⟨Nat.le_of_ble_eq_true rfl, Nat.le_of_ble_eq_true rfl⟩ hl.1 rfl (Nat.le_of_ble_eq_true rfl) dX3_toldIn_53 ⟨Nat.zero_le _, Nat.zero_le _⟩) hw (fun r53 H locs hp53 hw => ?_)
        subst hp53
        refine lv_aload_n (pc := 56) hx hb dX3_toldIn_56 rfl (lv_at hl 2 rfl) ?_
        refine zgetI (pc := 57) hx hb hG hown hw hk (T := TX3) rfl 2 (by decide) rfl wf_X3_18 rfl dX3_toldIn_57 ?_
        refine zadd (pc := 60) hx hb dX3_toldIn_60 ?_
        refine zbipush (pc := 61) (n := 100) hx hb dX3_toldIn_61 rfl ?_
        refine zsub (pc := 63) hx hb dX3_toldIn_63 ?_
        refine lv_iload_n (pc := 64) hx hb dX3_toldIn_64 rfl (lv_at hl 1 rfl) ?_
        refine zsub (pc := 65) hx hb dX3_toldIn_65 ?_
        refine ziconst (pc := 66) (n := 1) hx hb dX3_toldIn_66 ?_
        refine zadd (pc := 67) hx hb dX3_toldIn_67 ?_
        refine ztop (fun x68 ex68 => ?_)
        refine lv_istore (pc := 68) (lv' := [(4, .int (iI x68)), (3, .int (iI x35)), (2, .int (iI x26)), (0, .ref pa), (1, .int (iI index))]) hx hb dX3_toldIn_68 hl (by decide) rfl (fun ls hl => ?_)
        refine lv_goto (pc := 70) (tgt := 81) hx hb dX3_toldIn_70 (by decide) ?_
        exact jn81_1 x68 _ _ (by first | (unfold numA; rw [if_neg (by assumption), ← ex26, ← ex35]; exact ex79) | (unfold numA; rw [if_pos (by omega), ← ex26]; exact ex68)) hw _ (lv_sub hl [1, 2, 3, 4, 0] rfl)
    · skip
      refine ziconst (pc := 20) (n := (-1)) hx hb dX3_toldIn_20 ?_
      exact zretI (pc := 21) hx hb hlocks hr hw (Nat.zero_le _) (Nat.zero_le _) dX3_toldIn_21 ⟨by (try dsimp only) <;> (unfold told; (try rw [← hj]); (repeat' split) <;> omega), rfl, rfl, rfl⟩
set_option maxHeartbeats 4000000 in
set_option maxRecDepth 100000 in
theorem c_X3_countIn (l : Launch) (Γ : zG) (K : zK) (X : zX) (Rf : zR) (pa : Nat) (year : Int)  (hk : K pa = (1, 2)) (hP : okP (X pa)) (h1 : 1900 ≤ year ∧ year ≤ 2099) : Ct l yX3_countIn cX3_countIn 5 (some .int) 3 0 0 Γ [.ref pa, .int (iI year)] K X Rf (pI (zp0 K X Rf (fun r : Int => r = cntT (X pa) (12 * (year - 1900)) 12))) := by
  refine Ct.of (by decide +kernel) (Nat.le_of_ble_eq_true rfl) ?_
  intro p e s m below meth c ls hx hb hr hml hown hG hlocks hname hw hl
  have hl : lv_has ls 5 [(0, .ref pa), (1, .int (iI year))] := hl
  refine lv_iload_n (pc := 0) hx hb dX3_countIn_0 rfl (lv_at hl 1 rfl) ?_
  refine zkIp (pc := 1) (zrS (As := [.int (iI year)]) hx hb hml hown hG hw (c_X1_januaryOf l Γ K X Rf year  ) cb_X1_januaryOf wl_X3_39 rfl ⟨Nat.le_of_ble_eq_true rfl, Nat.le_of_ble_eq_true rfl⟩ hl.1 rfl (Nat.le_of_ble_eq_true rfl) dX3_countIn_1 ⟨Nat.zero_le _, Nat.zero_le _⟩) hw (fun r1 H locs hp1 hw => ?_)
  subst hp1
  refine ztop (fun x4 ex4 => ?_)
  refine lv_istore_n (pc := 4) (lv' := [(2, .int (iI x4)), (0, .ref pa), (1, .int (iI year))]) hx hb dX3_countIn_4 rfl hl (by decide) rfl (fun ls hl => ?_)
  refine ziconst (pc := 5) (n := 0) hx hb dX3_countIn_5 ?_
  refine lv_istore_n (pc := 6) (lv' := [(3, .int (iI 0)), (2, .int (iI x4)), (0, .ref pa), (1, .int (iI year))]) hx hb dX3_countIn_6 rfl hl (by decide) rfl (fun ls hl => ?_)
  refine lv_iload_n (pc := 7) hx hb dX3_countIn_7 rfl (lv_at hl 1 rfl) ?_
  refine lv_istore (pc := 8) (lv' := [(4, .int (iI x4)), (3, .int (iI 0)), (2, .int (iI x4)), (0, .ref pa), (1, .int (iI year))]) hx hb dX3_countIn_8 hl (by decide) rfl (fun ls hl => ?_)
  have lp10 : ∀ (n10 : Nat) (ix : Int) (cnt : Int) (H : Heap) (locs : List Loc), (hi : x4 ≤ ix ∧ ix ≤ x4 + 12) → (hc : cnt = cntT (X pa) x4 (ix - x4).toNat) → ((x4 + 12 - ix).toNat < n10) → Wd Γ (zA K s.heap.size) K X Rf s H locs → ∀ ls : Array Slot, lv_has ls 5 [(4, .int (iI ix)), (3, .int (iI cnt)), (2, .int (iI x4)), (0, .ref pa), (1, .int (iI year))] → W p l e (rmL 3 0 0) s m ([.ref pa, .int (iI year)] : List Value).toArray below meth c H locs 0 0 (MQ below (zQ Γ K s.heap.size (pI (zp0 K X Rf (fun r : Int => r = cntT (X pa) (12 * (year - 1900)) 12)))) ([.ref pa, .int (iI year)] : List Value).toArray s 0 0 (zA K s.heap.size)) (F0 m 10 ls []) := by
    intro n10
    induction n10 with
    | zero => intro ix cnt H locs hi hc hm10; exact absurd hm10 (Nat.not_lt_zero _)
    | succ n10 ih10 =>
      intro ix cnt H locs hi hc hm10 hw ls hl
      refine lv_iload (pc := 10) hx hb dX3_countIn_10 (lv_at hl 0 rfl) ?_
      refine lv_iload_n (pc := 12) hx hb dX3_countIn_12 rfl (lv_at hl 2 rfl) ?_
      refine zbipush (pc := 13) (n := 12) hx hb dX3_countIn_13 rfl ?_
      refine zadd (pc := 15) hx hb dX3_countIn_15 ?_
      refine zicmp_ge (pc := 16) hx hb 37 (by omega) (by omega) dX3_countIn_16 (by decide) (fun c16 => ?_) (fun c16 => ?_)
      · skip
        refine lv_iload_n (pc := 37) hx hb dX3_countIn_37 rfl (lv_at hl 1 rfl) ?_
        exact zretI (pc := 38) hx hb hlocks hr hw (Nat.zero_le _) (Nat.zero_le _) dX3_countIn_38 ⟨by (try dsimp only) <;> (rw [hc, show (ix - x4).toNat = 12 by omega, ex4]), rfl, rfl, rfl⟩
      · skip
        have hcr := cntT_rng (X pa) x4 (ix - x4).toNat
        refine lv_aload_n (pc := 19) hx hb dX3_countIn_19 rfl (lv_at hl 3 rfl) ?_
        refine lv_iload (pc := 20) hx hb dX3_countIn_20 (lv_at hl 0 rfl) ?_
        refine zkIp (pc := 22) (zrV (As := [.int (iI ix)]) hx hb hml hown hG hw (c_X3_toldIn l Γ K X Rf pa ix  (by (first | assumption | omega)) (by (first | assumption | omega)) (by (first | assumption | omega))) (T := TX3) hk rfl cb_X3_toldIn wl_X3_42 rfl ⟨Nat.le_of_ble_eq_true rfl, Nat.le_of_ble_eq_true rfl⟩ hl.1 rfl (Nat.le_of_ble_eq_true rfl) dX3_countIn_22 ⟨Nat.zero_le _, Nat.zero_le _⟩) hw (fun r22 H locs hp22 hw => ?_)
        subst hp22
        have hp22f0 := told_rng (X pa) ix
        refine zif_lt (pc := 25) hx hb 31 (by omega) dX3_countIn_25 (by decide) (fun c25 => ?_) (fun c25 => ?_)
        · skip
          refine ziinc (pc := 31) (lv' := [(4, .int (iI (ix + 1))), (3, .int (iI cnt)), (2, .int (iI x4)), (0, .ref pa), (1, .int (iI year))]) hx hb 0 dX3_countIn_31 hl rfl (by decide) rfl (fun ls hl => ?_)
          obtain ⟨x31, ex31⟩ : ∃ zz : Int, zz = (ix + 1) := ⟨_, rfl⟩
          rw [← ex31] at hl
          refine lv_goto (pc := 34) (tgt := 10) hx hb dX3_countIn_34 (by decide) ?_
          exact ih10 x31 cnt _ _ (by (first | assumption | omega)) (by rw [ex31, cntT_step (by omega), ← hc]; split <;> omega) (by omega) hw _ (lv_sub hl [0, 1, 2, 3, 4] rfl)
        · skip
          refine ziinc (pc := 28) (lv' := [(3, .int (iI (cnt + 1))), (4, .int (iI ix)), (2, .int (iI x4)), (0, .ref pa), (1, .int (iI year))]) hx hb 1 dX3_countIn_28 hl rfl (by decide) rfl (fun ls hl => ?_)
          obtain ⟨x28, ex28⟩ : ∃ zz : Int, zz = (cnt + 1) := ⟨_, rfl⟩
          rw [← ex28] at hl
          refine ziinc (pc := 31) (lv' := [(4, .int (iI (ix + 1))), (3, .int (iI x28)), (2, .int (iI x4)), (0, .ref pa), (1, .int (iI year))]) hx hb 1 dX3_countIn_31 hl rfl (by decide) rfl (fun ls hl => ?_)
          obtain ⟨x31, ex31⟩ : ∃ zz : Int, zz = (ix + 1) := ⟨_, rfl⟩
          rw [← ex31] at hl
          refine lv_goto (pc := 34) (tgt := 10) hx hb dX3_countIn_34 (by decide) ?_
          exact ih10 x31 x28 _ _ (by (first | assumption | omega)) (by rw [ex31, cntT_step (by omega), ← hc]; split <;> omega) (by omega) hw _ (lv_sub hl [0, 1, 2, 3, 4] rfl)
  exact lp10 _ x4 0 _ _ (by (first | assumption | omega)) (by rw [Int.sub_self]; rfl) (Nat.lt_succ_self _) hw _ (lv_sub hl [0, 1, 2, 3, 4] rfl)
set_option maxHeartbeats 4000000 in
set_option maxRecDepth 100000 in
theorem c_X3_firstFrom (l : Launch) (Γ : zG) (K : zK) (X : zX) (Rf : zR) (pa : Nat) (day : Int)  (hk : K pa = (1, 2)) (hP : okP (X pa)) (h1 : 0 ≤ day ∧ day ≤ 73048) : Ct l yX3_firstFrom cX3_firstFrom 4 (some .int) 3 0 0 Γ [.ref pa, .int (iI day)] K X Rf (pI (zp0 K X Rf (fun r : Int => r = nextT (X pa) day))) := by
  refine Ct.of (by decide +kernel) (Nat.le_of_ble_eq_true rfl) ?_
  intro p e s m below meth c ls hx hb hr hml hown hG hlocks hname hw hl
  have hl : lv_has ls 4 [(0, .ref pa), (1, .int (iI day))] := hl
  refine lv_iload_n (pc := 0) hx hb dX3_firstFrom_0 rfl (lv_at hl 1 rfl) ?_
  refine zkIp (pc := 1) (zrS (As := [.int (iI day)]) hx hb hml hown hG hw (c_X1_monthWith l Γ K X Rf day  (by (first | assumption | omega))) cb_X1_monthWith wl_X3_45 rfl ⟨Nat.le_of_ble_eq_true rfl, Nat.le_of_ble_eq_true rfl⟩ hl.1 rfl (Nat.le_of_ble_eq_true rfl) dX3_firstFrom_1 ⟨Nat.zero_le _, Nat.zero_le _⟩) hw (fun r1 H locs hp1 hw => ?_)
  subst hp1
  have hp1f0 := mi_rng (d := day) (by omega) (by omega)
  refine ztop (fun x4 ex4 => ?_)
  refine lv_istore_n (pc := 4) (lv' := [(2, .int (iI x4)), (0, .ref pa), (1, .int (iI day))]) hx hb dX3_firstFrom_4 rfl hl (by decide) rfl (fun ls hl => ?_)
  have lp5 : ∀ (n5 : Nat) (ix : Int) (H : Heap) (locs : List Loc), (hi : mi day ≤ ix ∧ ix ≤ 2400) → (hn : nxT (X pa) day (2400 - ix).toNat ix = nextT (X pa) day) → ((2400 - ix).toNat < n5) → Wd Γ (zA K s.heap.size) K X Rf s H locs → ∀ ls : Array Slot, lv_has ls 4 [(2, .int (iI ix)), (0, .ref pa), (1, .int (iI day))] → W p l e (rmL 3 0 0) s m ([.ref pa, .int (iI day)] : List Value).toArray below meth c H locs 0 0 (MQ below (zQ Γ K s.heap.size (pI (zp0 K X Rf (fun r : Int => r = nextT (X pa) day)))) ([.ref pa, .int (iI day)] : List Value).toArray s 0 0 (zA K s.heap.size)) (F0 m 5 ls []) := by
    intro n5
    induction n5 with
    | zero => intro ix H locs hi hn hm5; exact absurd hm5 (Nat.not_lt_zero _)
    | succ n5 ih5 =>
      intro ix H locs hi hn hm5 hw ls hl
      refine lv_iload_n (pc := 5) hx hb dX3_firstFrom_5 rfl (lv_at hl 0 rfl) ?_
      refine zsipush (pc := 6) (n := 2400) hx hb dX3_firstFrom_6 rfl ?_
      refine zicmp_ge (pc := 9) hx hb 31 (by omega) (by omega) dX3_firstFrom_9 (by decide) (fun c9 => ?_) (fun c9 => ?_)
      · skip
        refine ziconst (pc := 31) (n := (-1)) hx hb dX3_firstFrom_31 ?_
        exact zretI (pc := 32) hx hb hlocks hr hw (Nat.zero_le _) (Nat.zero_le _) dX3_firstFrom_32 ⟨by (try dsimp only) <;> (rw [← hn, nxT_end (by omega)]), rfl, rfl, rfl⟩
      · skip
        refine lv_aload_n (pc := 12) hx hb dX3_firstFrom_12 rfl (lv_at hl 1 rfl) ?_
        refine lv_iload_n (pc := 13) hx hb dX3_firstFrom_13 rfl (lv_at hl 0 rfl) ?_
        refine zkIp (pc := 14) (zrV (As := [.int (iI ix)]) hx hb hml hown hG hw (c_X3_toldIn l Γ K X Rf pa ix  (by (first | assumption | omega)) (by (first | assumption | omega)) (by (first | assumption | omega))) (T := TX3) hk rfl cb_X3_toldIn wl_X3_42 rfl ⟨Nat.le_of_ble_eq_true rfl, Nat.le_of_ble_eq_true rfl⟩ hl.1 rfl (Nat.le_of_ble_eq_true rfl) dX3_firstFrom_14 ⟨Nat.zero_le _, Nat.zero_le _⟩) hw (fun r14 H locs hp14 hw => ?_)
        subst hp14
        have hp14f0 := told_rng (X pa) ix
        refine ztop (fun x17 ex17 => ?_)
        refine lv_istore_n (pc := 17) (lv' := [(3, .int (iI x17)), (2, .int (iI ix)), (0, .ref pa), (1, .int (iI day))]) hx hb dX3_firstFrom_17 rfl hl (by decide) rfl (fun ls hl => ?_)
        refine lv_iload_n (pc := 18) hx hb dX3_firstFrom_18 rfl (lv_at hl 0 rfl) ?_
        refine lv_iload_n (pc := 19) hx hb dX3_firstFrom_19 rfl (lv_at hl 3 rfl) ?_
        refine zicmp_lt (pc := 20) hx hb 25 (by omega) (by omega) dX3_firstFrom_20 (by decide) (fun c20 => ?_) (fun c20 => ?_)
        · skip
          refine ziinc (pc := 25) (lv' := [(2, .int (iI (ix + 1))), (3, .int (iI x17)), (0, .ref pa), (1, .int (iI day))]) hx hb 1 dX3_firstFrom_25 hl rfl (by decide) rfl (fun ls hl => ?_)
          obtain ⟨x25, ex25⟩ : ∃ zz : Int, zz = (ix + 1) := ⟨_, rfl⟩
          rw [← ex25] at hl
          refine lv_goto (pc := 28) (tgt := 5) hx hb dX3_firstFrom_28 (by decide) ?_
          exact ih5 x25 _ _ (by (first | assumption | omega)) (by rw [ex25, ← nxT_step (by omega) (by omega)]; exact hn) (by omega) hw _ (lv_sub hl [0, 2, 3] rfl)
        · skip
          refine lv_iload_n (pc := 23) hx hb dX3_firstFrom_23 rfl (lv_at hl 0 rfl) ?_
          exact zretI (pc := 24) hx hb hlocks hr hw (Nat.zero_le _) (Nat.zero_le _) dX3_firstFrom_24 ⟨by (try dsimp only) <;> (rw [← hn, nxT_hit (by omega) (by omega)]; omega), rfl, rfl, rfl⟩
  exact lp5 _ x4 _ _ (by (first | assumption | omega)) (by rw [ex4]; rfl) (Nat.lt_succ_self _) hw _ (lv_sub hl [0, 1, 2] rfl)
