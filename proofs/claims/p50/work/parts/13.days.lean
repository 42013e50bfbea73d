set_option maxHeartbeats 4000000 in
set_option maxRecDepth 100000 in
theorem c_J9_floorMod_7cf53 (l : Launch) (Γ : zG) (K : zK) (X : zX) (Rf : zR) (x : Int)  (h1 : fit x) : Ct l yJ9_floorMod_7cf53 cJ9_floorMod_7cf53 3 (some .int) 0 0 0 Γ [.int (iI x), .int (iI 7)] K X Rf (pI (zp0 K X Rf (fun r : Int => r = x % 7))) := by
  refine Ct.ofF (by decide +kernel) (Nat.le_of_ble_eq_true rfl) ?_
  intro p e s m below meth c ls hx hb hr hml hown hG hlocks hname hw hl
  have hl : lv_has ls 3 [(0, .int (iI x)), (1, .int (iI 7))] := hl
  have ht := tm_spec x (y := 7) (by omega)
  refine lv_iload_n (pc := 0) hx hb dJ9_floorMod_7cf53_0 rfl (lv_at hl 0 rfl) ?_
  refine lv_iload_n (pc := 1) hx hb dJ9_floorMod_7cf53_1 rfl (lv_at hl 1 rfl) ?_
  refine ztmod (pc := 2) hx hb (by omega) dJ9_floorMod_7cf53_2 ?_
  refine ztop (fun x3 ex3 => ?_)
  refine lv_istore_n (pc := 3) (lv' := [(2, .int (iI x3)), (0, .int (iI x)), (1, .int (iI 7))]) hx hb dJ9_floorMod_7cf53_3 rfl hl (by decide) rfl (fun ls hl => ?_)
  refine lv_iload_n (pc := 4) hx hb dJ9_floorMod_7cf53_4 rfl (lv_at hl 1 rfl) ?_
  refine lv_iload_n (pc := 5) hx hb dJ9_floorMod_7cf53_5 rfl (lv_at hl 2 rfl) ?_
  refine zxor (pc := 6) hx hb (by omega) dJ9_floorMod_7cf53_6 (fun x6 hx6 => ?_)
  refine zif_ge (pc := 7) hx hb 18 (by omega) dJ9_floorMod_7cf53_7 (by decide) (fun c7 => ?_) (fun c7 => ?_)
  · skip
    refine lv_iload_n (pc := 18) hx hb dJ9_floorMod_7cf53_18 rfl (lv_at hl 0 rfl) ?_
    exact zretI (pc := 19) hx hb hlocks hr hw (Nat.zero_le _) (Nat.zero_le _) dJ9_floorMod_7cf53_19 ⟨by (try dsimp only) <;> ((first | assumption | omega)), rfl, rfl, rfl⟩
  · skip
    refine lv_iload_n (pc := 10) hx hb dJ9_floorMod_7cf53_10 rfl (lv_at hl 0 rfl) ?_
    refine zif_eq (pc := 11) hx hb 18 (by omega) dJ9_floorMod_7cf53_11 (by decide) (fun c11 => ?_) (fun c11 => ?_)
    · skip
      refine lv_iload_n (pc := 18) hx hb dJ9_floorMod_7cf53_18 rfl (lv_at hl 0 rfl) ?_
      exact zretI (pc := 19) hx hb hlocks hr hw (Nat.zero_le _) (Nat.zero_le _) dJ9_floorMod_7cf53_19 ⟨by (try dsimp only) <;> ((first | assumption | omega)), rfl, rfl, rfl⟩
    · skip
      refine lv_iload_n (pc := 14) hx hb dJ9_floorMod_7cf53_14 rfl (lv_at hl 0 rfl) ?_
      refine lv_iload_n (pc := 15) hx hb dJ9_floorMod_7cf53_15 rfl (lv_at hl 2 rfl) ?_
      refine zadd (pc := 16) hx hb dJ9_floorMod_7cf53_16 ?_
      exact zretI (pc := 17) hx hb hlocks hr hw (Nat.zero_le _) (Nat.zero_le _) dJ9_floorMod_7cf53_17 ⟨by (try dsimp only) <;> ((first | assumption | omega)), rfl, rfl, rfl⟩
set_option maxHeartbeats 4000000 in
set_option maxRecDepth 100000 in
theorem c_J9_floorDiv_7cf53 (l : Launch) (Γ : zG) (K : zK) (X : zX) (Rf : zR) (x : Int)  (h1 : fit x) : Ct l yJ9_floorDiv_7cf53 cJ9_floorDiv_7cf53 3 (some .int) 0 0 0 Γ [.int (iI x), .int (iI 1440)] K X Rf (pI (zp0 K X Rf (fun r : Int => r = x / 1440))) := by
  refine Ct.ofF (by decide +kernel) (Nat.le_of_ble_eq_true rfl) ?_
  intro p e s m below meth c ls hx hb hr hml hown hG hlocks hname hw hl
  have hl : lv_has ls 3 [(0, .int (iI x)), (1, .int (iI 1440))] := hl
  have ht := td_spec x (y := 1440) (by omega)
  refine lv_iload_n (pc := 0) hx hb dJ9_floorDiv_7cf53_0 rfl (lv_at hl 0 rfl) ?_
  refine lv_iload_n (pc := 1) hx hb dJ9_floorDiv_7cf53_1 rfl (lv_at hl 1 rfl) ?_
  refine ztdiv (pc := 2) hx hb (by omega) dJ9_floorDiv_7cf53_2 ?_
  refine ztop (fun x3 ex3 => ?_)
  refine lv_istore_n (pc := 3) (lv' := [(2, .int (iI x3)), (0, .int (iI x)), (1, .int (iI 1440))]) hx hb dJ9_floorDiv_7cf53_3 rfl hl (by decide) rfl (fun ls hl => ?_)
  refine lv_iload_n (pc := 4) hx hb dJ9_floorDiv_7cf53_4 rfl (lv_at hl 1 rfl) ?_
  refine lv_iload_n (pc := 5) hx hb dJ9_floorDiv_7cf53_5 rfl (lv_at hl 2 rfl) ?_
  refine zxor (pc := 6) hx hb (by omega) dJ9_floorDiv_7cf53_6 (fun x6 hx6 => ?_)
  refine zif_ge (pc := 7) hx hb 21 (by omega) dJ9_floorDiv_7cf53_7 (by decide) (fun c7 => ?_) (fun c7 => ?_)
  · skip
    refine lv_iload_n (pc := 21) hx hb dJ9_floorDiv_7cf53_21 rfl (lv_at hl 0 rfl) ?_
    exact zretI (pc := 22) hx hb hlocks hr hw (Nat.zero_le _) (Nat.zero_le _) dJ9_floorDiv_7cf53_22 ⟨by (try dsimp only) <;> ((first | assumption | omega)), rfl, rfl, rfl⟩
  · skip
    refine lv_iload_n (pc := 10) hx hb dJ9_floorDiv_7cf53_10 rfl (lv_at hl 0 rfl) ?_
    refine lv_iload_n (pc := 11) hx hb dJ9_floorDiv_7cf53_11 rfl (lv_at hl 2 rfl) ?_
    refine zmul (pc := 12) hx hb dJ9_floorDiv_7cf53_12 ?_
    refine lv_iload_n (pc := 13) hx hb dJ9_floorDiv_7cf53_13 rfl (lv_at hl 1 rfl) ?_
    refine zicmp_eq (pc := 14) hx hb 21 (by omega) (by omega) dJ9_floorDiv_7cf53_14 (by decide) (fun c14 => ?_) (fun c14 => ?_)
    · skip
      refine lv_iload_n (pc := 21) hx hb dJ9_floorDiv_7cf53_21 rfl (lv_at hl 0 rfl) ?_
      exact zretI (pc := 22) hx hb hlocks hr hw (Nat.zero_le _) (Nat.zero_le _) dJ9_floorDiv_7cf53_22 ⟨by (try dsimp only) <;> ((first | assumption | omega)), rfl, rfl, rfl⟩
    · skip
      refine lv_iload_n (pc := 17) hx hb dJ9_floorDiv_7cf53_17 rfl (lv_at hl 0 rfl) ?_
      refine ziconst (pc := 18) (n := 1) hx hb dJ9_floorDiv_7cf53_18 ?_
      refine zsub (pc := 19) hx hb dJ9_floorDiv_7cf53_19 ?_
      exact zretI (pc := 20) hx hb hlocks hr hw (Nat.zero_le _) (Nat.zero_le _) dJ9_floorDiv_7cf53_20 ⟨by (try dsimp only) <;> ((first | assumption | omega)), rfl, rfl, rfl⟩
set_option maxHeartbeats 4000000 in
set_option maxRecDepth 100000 in
theorem c_X1_yearWith (l : Launch) (Γ : zG) (K : zK) (X : zX) (Rf : zR) (day : Int)  (h1 : 0 ≤ day ∧ day ≤ 73048) : Ct l yX1_yearWith cX1_yearWith 1 (some .int) 0 0 0 Γ [.int (iI day)] K X Rf (pI (zp0 K X Rf (fun r : Int => r = 1900 + yr day))) := by
  refine Ct.of (by decide +kernel) (Nat.le_of_ble_eq_true rfl) ?_
  intro p e s m below meth c ls hx hb hr hml hown hG hlocks hname hw hl
  have hl : lv_has ls 1 [(0, .int (iI day))] := hl
  refine zsipush (pc := 0) (n := 1900) hx hb dX1_yearWith_0 rfl ?_
  refine ziconst (pc := 3) (n := 4) hx hb dX1_yearWith_3 ?_
  refine lv_iload_n (pc := 4) hx hb dX1_yearWith_4 rfl (lv_at hl 0 rfl) ?_
  refine ziconst (pc := 5) (n := 1) hx hb dX1_yearWith_5 ?_
  refine zadd (pc := 6) hx hb dX1_yearWith_6 ?_
  refine zmul (pc := 7) hx hb dX1_yearWith_7 ?_
  refine zsipush (pc := 8) (n := 1461) hx hb dX1_yearWith_8 rfl ?_
  refine zdiv (pc := 11) hx hb (by omega) dX1_yearWith_11 ?_
  refine zadd (pc := 12) hx hb dX1_yearWith_12 ?_
  exact zretI (pc := 13) hx hb hlocks hr hw (Nat.zero_le _) (Nat.zero_le _) dX1_yearWith_13 ⟨by (try dsimp only) <;> ((unfold yr; omega)), rfl, rfl, rfl⟩
set_option maxHeartbeats 4000000 in
set_option maxRecDepth 100000 in
theorem c_X1_januaryOf (l : Launch) (Γ : zG) (K : zK) (X : zX) (Rf : zR) (year : Int)   : Ct l yX1_januaryOf cX1_januaryOf 1 (some .int) 0 0 0 Γ [.int (iI year)] K X Rf (pI (zp0 K X Rf (fun r : Int => r = 12 * (year - 1900)))) := by
  refine Ct.of (by decide +kernel) (Nat.le_of_ble_eq_true rfl) ?_
  intro p e s m below meth c ls hx hb hr hml hown hG hlocks hname hw hl
  have hl : lv_has ls 1 [(0, .int (iI year))] := hl
  refine zbipush (pc := 0) (n := 12) hx hb dX1_januaryOf_0 rfl ?_
  refine lv_iload_n (pc := 2) hx hb dX1_januaryOf_2 rfl (lv_at hl 0 rfl) ?_
  refine zsipush (pc := 3) (n := 1900) hx hb dX1_januaryOf_3 rfl ?_
  refine zsub (pc := 6) hx hb dX1_januaryOf_6 ?_
  refine zmul (pc := 7) hx hb dX1_januaryOf_7 ?_
  exact zretI (pc := 8) hx hb hlocks hr hw (Nat.zero_le _) (Nat.zero_le _) dX1_januaryOf_8 ⟨by (try dsimp only) <;> ((first | assumption | omega)), rfl, rfl, rfl⟩
set_option maxHeartbeats 4000000 in
set_option maxRecDepth 100000 in
theorem c_X1_monthBegin (l : Launch) (Γ : zG) (K : zK) (X : zX) (Rf : zR) (index : Int)  (h1 : fit index) : Ct l yX1_monthBegin cX1_monthBegin 5 (some .int) 0 0 0 Γ [.int (iI index)] K X Rf (pI (zp0 K X Rf (fun r : Int => r = mB index))) := by
  refine Ct.of (by decide +kernel) (Nat.le_of_ble_eq_true rfl) ?_
  intro p e s m below meth c ls hx hb hr hml hown hG hlocks hname hw hl
  have hl : lv_has ls 5 [(0, .int (iI index))] := hl
  refine lv_iload_n (pc := 0) hx hb dX1_monthBegin_0 rfl (lv_at hl 0 rfl) ?_
  refine zif_ge (pc := 1) hx hb 6 (by omega) dX1_monthBegin_1 (by decide) (fun c1 => ?_) (fun c1 => ?_)
  · skip
    refine lv_iload_n (pc := 6) hx hb dX1_monthBegin_6 rfl (lv_at hl 0 rfl) ?_
    refine zsipush (pc := 7) (n := 2400) hx hb dX1_monthBegin_7 rfl ?_
    refine zicmp_lt (pc := 10) hx hb 16 (by omega) (by omega) dX1_monthBegin_10 (by decide) (fun c10 => ?_) (fun c10 => ?_)
    · skip
      refine lv_iload_n (pc := 16) hx hb dX1_monthBegin_16 rfl (lv_at hl 0 rfl) ?_
      refine zbipush (pc := 17) (n := 12) hx hb dX1_monthBegin_17 rfl ?_
      refine zdiv (pc := 19) hx hb (by omega) dX1_monthBegin_19 ?_
      refine ztop (fun x20 ex20 => ?_)
      refine lv_istore_n (pc := 20) (lv' := [(1, .int (iI x20)), (0, .int (iI index))]) hx hb dX1_monthBegin_20 rfl hl (by decide) rfl (fun ls hl => ?_)
      refine lv_iload_n (pc := 21) hx hb dX1_monthBegin_21 rfl (lv_at hl 1 rfl) ?_
      refine zbipush (pc := 22) (n := 12) hx hb dX1_monthBegin_22 rfl ?_
      refine zrem (pc := 24) hx hb (by omega) dX1_monthBegin_24 ?_
      refine ziconst (pc := 25) (n := 1) hx hb dX1_monthBegin_25 ?_
      refine zadd (pc := 26) hx hb dX1_monthBegin_26 ?_
      refine ztop (fun x27 ex27 => ?_)
      refine lv_istore_n (pc := 27) (lv' := [(2, .int (iI x27)), (1, .int (iI x20)), (0, .int (iI index))]) hx hb dX1_monthBegin_27 rfl hl (by decide) rfl (fun ls hl => ?_)
      refine zsipush (pc := 28) (n := 365) hx hb dX1_monthBegin_28 rfl ?_
      refine lv_iload_n (pc := 31) hx hb dX1_monthBegin_31 rfl (lv_at hl 1 rfl) ?_
      refine zmul (pc := 32) hx hb dX1_monthBegin_32 ?_
      refine lv_iload_n (pc := 33) hx hb dX1_monthBegin_33 rfl (lv_at hl 1 rfl) ?_
      refine ziconst (pc := 34) (n := 1) hx hb dX1_monthBegin_34 ?_
      refine zsub (pc := 35) hx hb dX1_monthBegin_35 ?_
      refine ziconst (pc := 36) (n := 4) hx hb dX1_monthBegin_36 ?_
      have ht := td_spec (x20 - 1) (y := 4) (by omega)
      refine ztdiv (pc := 37) hx hb (by omega) dX1_monthBegin_37 ?_
      refine zadd (pc := 38) hx hb dX1_monthBegin_38 ?_
      refine ztop (fun x39 ex39 => ?_)
      refine lv_istore_n (pc := 39) (lv' := [(3, .int (iI x39)), (2, .int (iI x27)), (1, .int (iI x20)), (0, .int (iI index))]) hx hb dX1_monthBegin_39 rfl hl (by decide) rfl (fun ls hl => ?_)
      refine lv_iload_n (pc := 40) hx hb dX1_monthBegin_40 rfl (lv_at hl 1 rfl) ?_
      refine ziconst (pc := 41) (n := 2) hx hb dX1_monthBegin_41 ?_
      refine zicmp_gt (pc := 42) hx hb 49 (by omega) (by omega) dX1_monthBegin_42 (by decide) (fun c42 => ?_) (fun c42 => ?_)
      · skip
        refine lv_iload_n (pc := 49) hx hb dX1_monthBegin_49 rfl (lv_at hl 2 rfl) ?_
        refine ziconst (pc := 50) (n := 4) hx hb dX1_monthBegin_50 ?_
        refine zrem (pc := 51) hx hb (by omega) dX1_monthBegin_51 ?_
        refine zif_ne (pc := 52) hx hb 63 (by omega) dX1_monthBegin_52 (by decide) (fun c52 => ?_) (fun c52 => ?_)
        · skip
          refine ziconst (pc := 63) (n := 2) hx hb dX1_monthBegin_63 ?_
          refine lv_istore (pc := 64) (lv' := [(4, .int (iI 2)), (3, .int (iI x39)), (2, .int (iI x27)), (1, .int (iI x20)), (0, .int (iI index))]) hx hb dX1_monthBegin_64 hl (by decide) rfl (fun ls hl => ?_)
          refine lv_iload_n (pc := 66) hx hb dX1_monthBegin_66 rfl (lv_at hl 1 rfl) ?_
          refine zsipush (pc := 67) (n := 367) hx hb dX1_monthBegin_67 rfl ?_
          refine lv_iload_n (pc := 70) hx hb dX1_monthBegin_70 rfl (lv_at hl 2 rfl) ?_
          refine zmul (pc := 71) hx hb dX1_monthBegin_71 ?_
          refine zsipush (pc := 72) (n := 362) hx hb dX1_monthBegin_72 rfl ?_
          refine zsub (pc := 75) hx hb dX1_monthBegin_75 ?_
          refine zbipush (pc := 76) (n := 12) hx hb dX1_monthBegin_76 rfl ?_
          refine zdiv (pc := 78) hx hb (by omega) dX1_monthBegin_78 ?_
          refine zadd (pc := 79) hx hb dX1_monthBegin_79 ?_
          refine lv_iload (pc := 80) hx hb dX1_monthBegin_80 (lv_at hl 0 rfl) ?_
          refine zsub (pc := 82) hx hb dX1_monthBegin_82 ?_
          exact zretI (pc := 83) hx hb hlocks hr hw (Nat.zero_le _) (Nat.zero_le _) dX1_monthBegin_83 ⟨by (try dsimp only) <;> ((have hf := mB_formula (i := index) (by omega) (by omega) _ rfl; omega)), rfl, rfl, rfl⟩
        · skip
          refine lv_iload_n (pc := 55) hx hb dX1_monthBegin_55 rfl (lv_at hl 2 rfl) ?_
          refine zif_eq (pc := 56) hx hb 63 (by omega) dX1_monthBegin_56 (by decide) (fun c56 => ?_) (fun c56 => ?_)
          · skip
            refine ziconst (pc := 63) (n := 2) hx hb dX1_monthBegin_63 ?_
            refine lv_istore (pc := 64) (lv' := [(4, .int (iI 2)), (3, .int (iI x39)), (2, .int (iI x27)), (1, .int (iI x20)), (0, .int (iI index))]) hx hb dX1_monthBegin_64 hl (by decide) rfl (fun ls hl => ?_)
            refine lv_iload_n (pc := 66) hx hb dX1_monthBegin_66 rfl (lv_at hl 1 rfl) ?_
            refine zsipush (pc := 67) (n := 367) hx hb dX1_monthBegin_67 rfl ?_
            refine lv_iload_n (pc := 70) hx hb dX1_monthBegin_70 rfl (lv_at hl 2 rfl) ?_
            refine zmul (pc := 71) hx hb dX1_monthBegin_71 ?_
            refine zsipush (pc := 72) (n := 362) hx hb dX1_monthBegin_72 rfl ?_
            refine zsub (pc := 75) hx hb dX1_monthBegin_75 ?_
            refine zbipush (pc := 76) (n := 12) hx hb dX1_monthBegin_76 rfl ?_
            refine zdiv (pc := 78) hx hb (by omega) dX1_monthBegin_78 ?_
            refine zadd (pc := 79) hx hb dX1_monthBegin_79 ?_
            refine lv_iload (pc := 80) hx hb dX1_monthBegin_80 (lv_at hl 0 rfl) ?_
            refine zsub (pc := 82) hx hb dX1_monthBegin_82 ?_
            exact zretI (pc := 83) hx hb hlocks hr hw (Nat.zero_le _) (Nat.zero_le _) dX1_monthBegin_83 ⟨by (try dsimp only) <;> ((have hf := mB_formula (i := index) (by omega) (by omega) _ rfl; omega)), rfl, rfl, rfl⟩
          · skip
            refine ziconst (pc := 59) (n := 1) hx hb dX1_monthBegin_59 ?_
            refine lv_goto (pc := 60) (tgt := 64) hx hb dX1_monthBegin_60 (by decide) ?_
            refine lv_istore (pc := 64) (lv' := [(4, .int (iI 1)), (3, .int (iI x39)), (2, .int (iI x27)), (1, .int (iI x20)), (0, .int (iI index))]) hx hb dX1_monthBegin_64 hl (by decide) rfl (fun ls hl => ?_)
            refine lv_iload_n (pc := 66) hx hb dX1_monthBegin_66 rfl (lv_at hl 1 rfl) ?_
            refine zsipush (pc := 67) (n := 367) hx hb dX1_monthBegin_67 rfl ?_
            refine lv_iload_n (pc := 70) hx hb dX1_monthBegin_70 rfl (lv_at hl 2 rfl) ?_
            refine zmul (pc := 71) hx hb dX1_monthBegin_71 ?_
            refine zsipush (pc := 72) (n := 362) hx hb dX1_monthBegin_72 rfl ?_
            refine zsub (pc := 75) hx hb dX1_monthBegin_75 ?_
            refine zbipush (pc := 76) (n := 12) hx hb dX1_monthBegin_76 rfl ?_
            refine zdiv (pc := 78) hx hb (by omega) dX1_monthBegin_78 ?_
            refine zadd (pc := 79) hx hb dX1_monthBegin_79 ?_
            refine lv_iload (pc := 80) hx hb dX1_monthBegin_80 (lv_at hl 0 rfl) ?_
            refine zsub (pc := 82) hx hb dX1_monthBegin_82 ?_
            exact zretI (pc := 83) hx hb hlocks hr hw (Nat.zero_le _) (Nat.zero_le _) dX1_monthBegin_83 ⟨by (try dsimp only) <;> ((have hf := mB_formula (i := index) (by omega) (by omega) _ rfl; omega)), rfl, rfl, rfl⟩
      · skip
        refine ziconst (pc := 45) (n := 0) hx hb dX1_monthBegin_45 ?_
        refine lv_goto (pc := 46) (tgt := 64) hx hb dX1_monthBegin_46 (by decide) ?_
        refine lv_istore (pc := 64) (lv' := [(4, .int (iI 0)), (3, .int (iI x39)), (2, .int (iI x27)), (1, .int (iI x20)), (0, .int (iI index))]) hx hb dX1_monthBegin_64 hl (by decide) rfl (fun ls hl => ?_)
        refine lv_iload_n (pc := 66) hx hb dX1_monthBegin_66 rfl (lv_at hl 1 rfl) ?_
        refine zsipush (pc := 67) (n := 367) hx hb dX1_monthBegin_67 rfl ?_
        refine lv_iload_n (pc := 70) hx hb dX1_monthBegin_70 rfl (lv_at hl 2 rfl) ?_
        refine zmul (pc := 71) hx hb dX1_monthBegin_71 ?_
        refine zsipush (pc := 72) (n := 362) hx hb dX1_monthBegin_72 rfl ?_
        refine zsub (pc := 75) hx hb dX1_monthBegin_75 ?_
        refine zbipush (pc := 76) (n := 12) hx hb dX1_monthBegin_76 rfl ?_
        refine zdiv (pc := 78) hx hb (by omega) dX1_monthBegin_78 ?_
        refine zadd (pc := 79) hx hb dX1_monthBegin_79 ?_
        refine lv_iload (pc := 80) hx hb dX1_monthBegin_80 (lv_at hl 0 rfl) ?_
        refine zsub (pc := 82) hx hb dX1_monthBegin_82 ?_
        exact zretI (pc := 83) hx hb hlocks hr hw (Nat.zero_le _) (Nat.zero_le _) dX1_monthBegin_83 ⟨by (try dsimp only) <;> ((have hf := mB_formula (i := index) (by omega) (by omega) _ rfl; omega)), rfl, rfl, rfl⟩
    · skip
      refine zldc (pc := 13) (n := 73049) hx hb hown hG wk_X1_11 dX1_monthBegin_13 ?_
      exact zretI (pc := 15) hx hb hlocks hr hw (Nat.zero_le _) (Nat.zero_le _) dX1_monthBegin_15 ⟨by (try dsimp only) <;> (exact (mB_big (by omega)).symm), rfl, rfl, rfl⟩
  · skip
    refine ziconst (pc := 4) (n := 0) hx hb dX1_monthBegin_4 ?_
    exact zretI (pc := 5) hx hb hlocks hr hw (Nat.zero_le _) (Nat.zero_le _) dX1_monthBegin_5 ⟨by (try dsimp only) <;> (exact (mB_neg (by omega)).symm), rfl, rfl, rfl⟩
set_option maxHeartbeats 4000000 in
set_option maxRecDepth 100000 in
theorem c_X1_monthLength (l : Launch) (Γ : zG) (K : zK) (X : zX) (Rf : zR) (index : Int)  (h1 : 0 ≤ index ∧ index < 2400) : Ct l yX1_monthLength cX1_monthLength 1 (some .int) 1 0 0 Γ [.int (iI index)] K X Rf (pI (zp0 K X Rf (fun r : Int => r = mB (index + 1) - mB index))) := by
  refine Ct.of (by decide +kernel) (Nat.le_of_ble_eq_true rfl) ?_
  intro p e s m below meth c ls hx hb hr hml hown hG hlocks hname hw hl
  have hl : lv_has ls 1 [(0, .int (iI index))] := hl
  refine lv_iload_n (pc := 0) hx hb dX1_monthLength_0 rfl (lv_at hl 0 rfl) ?_
  refine ziconst (pc := 1) (n := 1) hx hb dX1_monthLength_1 ?_
  refine zadd (pc := 2) hx hb dX1_monthLength_2 ?_
  refine zkIp (pc := 3) (zrS (As := [.int (iI (index + 1))]) hx hb hml hown hG hw (c_X1_monthBegin l Γ K X Rf (index + 1)  (by (first | assumption | omega))) cb_X1_monthBegin wl_X1_12 rfl ⟨Nat.le_of_ble_eq_true rfl, Nat.le_of_ble_eq_true rfl⟩ hl.1 rfl (Nat.le_of_ble_eq_true rfl) dX1_monthLength_3 ⟨Nat.zero_le _, Nat.zero_le _⟩) hw (fun r3 H locs hp3 hw => ?_)
  subst hp3
  have hp3f0 := mB_rng (index + 1)
  refine lv_iload_n (pc := 6) hx hb dX1_monthLength_6 rfl (lv_at hl 0 rfl) ?_
  refine zkIp (pc := 7) (zrS (As := [.int (iI index)]) hx hb hml hown hG hw (c_X1_monthBegin l Γ K X Rf index  (by (first | assumption | omega))) cb_X1_monthBegin wl_X1_12 rfl ⟨Nat.le_of_ble_eq_true rfl, Nat.le_of_ble_eq_true rfl⟩ hl.1 rfl (Nat.le_of_ble_eq_true rfl) dX1_monthLength_7 ⟨Nat.zero_le _, Nat.zero_le _⟩) hw (fun r7 H locs hp7 hw => ?_)
  subst hp7
  have hp7f0 := mB_rng index
  refine zsub (pc := 10) hx hb dX1_monthLength_10 ?_
  exact zretI (pc := 11) hx hb hlocks hr hw (Nat.zero_le _) (Nat.zero_le _) dX1_monthLength_11 ⟨by (try dsimp only) <;> ((first | assumption | omega)), rfl, rfl, rfl⟩
set_option maxHeartbeats 4000000 in
set_option maxRecDepth 100000 in
theorem c_X1_monthWith (l : Launch) (Γ : zG) (K : zK) (X : zX) (Rf : zR) (day : Int)  (h1 : 0 ≤ day ∧ day ≤ 73048) : Ct l yX1_monthWith cX1_monthWith 3 (some .int) 1 0 0 Γ [.int (iI day)] K X Rf (pI (zp0 K X Rf (fun r : Int => r = mi day))) := by
  refine Ct.of (by decide +kernel) (Nat.le_of_ble_eq_true rfl) ?_
  intro p e s m below meth c ls hx hb hr hml hown hG hlocks hname hw hl
  have hl : lv_has ls 3 [(0, .int (iI day))] := hl
  refine lv_iload_n (pc := 0) hx hb dX1_monthWith_0 rfl (lv_at hl 0 rfl) ?_
  refine zkIp (pc := 1) (zrS (As := [.int (iI day)]) hx hb hml hown hG hw (c_X1_yearWith l Γ K X Rf day  (by (first | assumption | omega))) cb_X1_yearWith wl_X1_16 rfl ⟨Nat.le_of_ble_eq_true rfl, Nat.le_of_ble_eq_true rfl⟩ hl.1 rfl (Nat.le_of_ble_eq_true rfl) dX1_monthWith_1 ⟨Nat.zero_le _, Nat.zero_le _⟩) hw (fun r1 H locs hp1 hw => ?_)
  subst hp1
  have hp1f0 := yr_rng (d := day) (by omega) (by omega)
  refine zkIp (pc := 4) (zrS (As := [.int (iI (1900 + yr day))]) hx hb hml hown hG hw (c_X1_januaryOf l Γ K X Rf (1900 + yr day)  ) cb_X1_januaryOf wl_X1_19 rfl ⟨Nat.le_of_ble_eq_true rfl, Nat.le_of_ble_eq_true rfl⟩ hl.1 rfl (Nat.le_of_ble_eq_true rfl) dX1_monthWith_4 ⟨Nat.zero_le _, Nat.zero_le _⟩) hw (fun r4 H locs hp4 hw => ?_)
  subst hp4
  refine ztop (fun x7 ex7 => ?_)
  refine lv_istore_n (pc := 7) (lv' := [(1, .int (iI x7)), (0, .int (iI day))]) hx hb dX1_monthWith_7 rfl hl (by decide) rfl (fun ls hl => ?_)
  refine lv_iload_n (pc := 8) hx hb dX1_monthWith_8 rfl (lv_at hl 0 rfl) ?_
  refine lv_iload_n (pc := 9) hx hb dX1_monthWith_9 rfl (lv_at hl 1 rfl) ?_
  refine lv_iload_n (pc := 10) hx hb dX1_monthWith_10 rfl (lv_at hl 0 rfl) ?_
  refine zkIp (pc := 11) (zrS (As := [.int (iI x7)]) hx hb hml hown hG hw (c_X1_monthBegin l Γ K X Rf x7  (by (first | assumption | omega))) cb_X1_monthBegin wl_X1_12 rfl ⟨Nat.le_of_ble_eq_true rfl, Nat.le_of_ble_eq_true rfl⟩ hl.1 rfl (Nat.le_of_ble_eq_true rfl) dX1_monthWith_11 ⟨Nat.zero_le _, Nat.zero_le _⟩) hw (fun r11 H locs hp11 hw => ?_)
  subst hp11
  have hp11f0 := mB_rng x7
  have e7 : mB x7 = yb (yr day) := by
    have e := mB_ym (y := yr day) (m := 0) (by omega) (by omega) (by omega) (by omega)
    rw [cum_0] at e
    rw [show x7 = 12 * yr day + 0 by omega, e]; omega
  refine zsub (pc := 14) hx hb dX1_monthWith_14 ?_
  refine zbipush (pc := 15) (n := 31) hx hb dX1_monthWith_15 rfl ?_
  refine zdiv (pc := 17) hx hb (by omega) dX1_monthWith_17 ?_
  refine zadd (pc := 18) hx hb dX1_monthWith_18 ?_
  refine ztop (fun x19 ex19 => ?_)
  refine lv_istore_n (pc := 19) (lv' := [(2, .int (iI x19)), (1, .int (iI x7)), (0, .int (iI day))]) hx hb dX1_monthWith_19 rfl hl (by decide) rfl (fun ls hl => ?_)
  have hg := mi_guess (d := day) (by omega) (by omega)
  rw [show 12 * yr day + (day - mB (12 * yr day)) / 31 = x19 by (rw [show 12 * yr day = x7 by omega]; omega)] at hg
  refine lv_iload_n (pc := 20) hx hb dX1_monthWith_20 rfl (lv_at hl 0 rfl) ?_
  refine ziconst (pc := 21) (n := 1) hx hb dX1_monthWith_21 ?_
  refine zadd (pc := 22) hx hb dX1_monthWith_22 ?_
  refine zkIp (pc := 23) (zrS (As := [.int (iI (x19 + 1))]) hx hb hml hown hG hw (c_X1_monthBegin l Γ K X Rf (x19 + 1)  (by (first | assumption | omega))) cb_X1_monthBegin wl_X1_12 rfl ⟨Nat.le_of_ble_eq_true rfl, Nat.le_of_ble_eq_true rfl⟩ hl.1 rfl (Nat.le_of_ble_eq_true rfl) dX1_monthWith_23 ⟨Nat.zero_le _, Nat.zero_le _⟩) hw (fun r23 H locs hp23 hw => ?_)
  subst hp23
  have hp23f0 := mB_rng (x19 + 1)
  refine lv_iload_n (pc := 26) hx hb dX1_monthWith_26 rfl (lv_at hl 2 rfl) ?_
  refine zicmp_gt (pc := 27) hx hb 36 (by omega) (by omega) dX1_monthWith_27 (by decide) (fun c27 => ?_) (fun c27 => ?_)
  · skip
    refine lv_iload_n (pc := 36) hx hb dX1_monthWith_36 rfl (lv_at hl 0 rfl) ?_
    exact zretI (pc := 37) hx hb hlocks hr hw (Nat.zero_le _) (Nat.zero_le _) dX1_monthWith_37 ⟨by (try dsimp only) <;> ((first | assumption | omega)), rfl, rfl, rfl⟩
  · skip
    refine lv_iload_n (pc := 30) hx hb dX1_monthWith_30 rfl (lv_at hl 0 rfl) ?_
    refine ziconst (pc := 31) (n := 1) hx hb dX1_monthWith_31 ?_
    refine zadd (pc := 32) hx hb dX1_monthWith_32 ?_
    refine lv_goto (pc := 33) (tgt := 37) hx hb dX1_monthWith_33 (by decide) ?_
    exact zretI (pc := 37) hx hb hlocks hr hw (Nat.zero_le _) (Nat.zero_le _) dX1_monthWith_37 ⟨by (try dsimp only) <;> ((first | assumption | omega)), rfl, rfl, rfl⟩
set_option maxHeartbeats 4000000 in
set_option maxRecDepth 100000 in
theorem c_X1_numberInMonth (l : Launch) (Γ : zG) (K : zK) (X : zX) (Rf : zR) (day : Int)  (h1 : 0 ≤ day ∧ day ≤ 73048) : Ct l yX1_numberInMonth cX1_numberInMonth 1 (some .int) 2 0 0 Γ [.int (iI day)] K X Rf (pI (zp0 K X Rf (fun r : Int => r = day - mB (mi day) + 1))) := by
  refine Ct.of (by decide +kernel) (Nat.le_of_ble_eq_true rfl) ?_
  intro p e s m below meth c ls hx hb hr hml hown hG hlocks hname hw hl
  have hl : lv_has ls 1 [(0, .int (iI day))] := hl
  refine lv_iload_n (pc := 0) hx hb dX1_numberInMonth_0 rfl (lv_at hl 0 rfl) ?_
  refine lv_iload_n (pc := 1) hx hb dX1_numberInMonth_1 rfl (lv_at hl 0 rfl) ?_
  refine zkIp (pc := 2) (zrS (As := [.int (iI day)]) hx hb hml hown hG hw (c_X1_monthWith l Γ K X Rf day  (by (first | assumption | omega))) cb_X1_monthWith wl_X1_22 rfl ⟨Nat.le_of_ble_eq_true rfl, Nat.le_of_ble_eq_true rfl⟩ hl.1 rfl (Nat.le_of_ble_eq_true rfl) dX1_numberInMonth_2 ⟨Nat.zero_le _, Nat.zero_le _⟩) hw (fun r2 H locs hp2 hw => ?_)
  subst hp2
  have hp2f0 := mi_rng (d := day) (by omega) (by omega)
  refine zkIp (pc := 5) (zrS (As := [.int (iI (mi day))]) hx hb hml hown hG hw (c_X1_monthBegin l Γ K X Rf (mi day)  (by (first | assumption | omega))) cb_X1_monthBegin wl_X1_12 rfl ⟨Nat.le_of_ble_eq_true rfl, Nat.le_of_ble_eq_true rfl⟩ hl.1 rfl (Nat.le_of_ble_eq_true rfl) dX1_numberInMonth_5 ⟨Nat.zero_le _, Nat.zero_le _⟩) hw (fun r5 H locs hp5 hw => ?_)
  subst hp5
  have hp5f0 := mB_rng (mi day)
  refine zsub (pc := 8) hx hb dX1_numberInMonth_8 ?_
  refine ziconst (pc := 9) (n := 1) hx hb dX1_numberInMonth_9 ?_
  refine zadd (pc := 10) hx hb dX1_numberInMonth_10 ?_
  exact zretI (pc := 11) hx hb hlocks hr hw (Nat.zero_le _) (Nat.zero_le _) dX1_numberInMonth_11 ⟨by (try dsimp only) <;> ((first | assumption | omega)), rfl, rfl, rfl⟩
set_option maxHeartbeats 4000000 in
set_option maxRecDepth 100000 in
theorem c_X1_weekday (l : Launch) (Γ : zG) (K : zK) (X : zX) (Rf : zR) (day : Int)  (h1 : fit day) : Ct l yX1_weekday cX1_weekday 1 (some .int) 1 0 0 Γ [.int (iI day)] K X Rf (pI (zp0 K X Rf (fun r : Int => r = day % 7))) := by
  refine Ct.of (by decide +kernel) (Nat.le_of_ble_eq_true rfl) ?_
  intro p e s m below meth c ls hx hb hr hml hown hG hlocks hname hw hl
  have hl : lv_has ls 1 [(0, .int (iI day))] := hl
  refine lv_iload_n (pc := 0) hx hb dX1_weekday_0 rfl (lv_at hl 0 rfl) ?_
  refine zbipush (pc := 1) (n := 7) hx hb dX1_weekday_1 rfl ?_
  refine zkIp (pc := 3) (zrS (As := [.int (iI day), .int (iI 7)]) hx hb hml hown hG hw (c_J9_floorMod_7cf53 l Γ K X Rf day  (by (first | assumption | omega))) cb_J9_floorMod_7cf53 wl_X1_25 rfl ⟨Nat.le_of_ble_eq_true rfl, Nat.le_of_ble_eq_true rfl⟩ hl.1 rfl (Nat.le_of_ble_eq_true rfl) dX1_weekday_3 ⟨Nat.zero_le _, Nat.zero_le _⟩) hw (fun r3 H locs hp3 hw => ?_)
  subst hp3
  exact zretI (pc := 6) hx hb hlocks hr hw (Nat.zero_le _) (Nat.zero_le _) dX1_weekday_6 ⟨by (try dsimp only) <;> ((first | assumption | omega)), rfl, rfl, rfl⟩
set_option maxHeartbeats 4000000 in
set_option maxRecDepth 100000 in
theorem c_X1_easter (l : Launch) (Γ : zG) (K : zK) (X : zX) (Rf : zR) (year : Int)  (h1 : 1900 ≤ year ∧ year ≤ 2099) : Ct l yX1_easter cX1_easter 7 (some .int) 1 0 0 Γ [.int (iI year)] K X Rf (pI (zp0 K X Rf (fun r : Int => r = est year))) := by
  refine Ct.of (by decide +kernel) (Nat.le_of_ble_eq_true rfl) ?_
  intro p e s m below meth c ls hx hb hr hml hown hG hlocks hname hw hl
  have hl : lv_has ls 7 [(0, .int (iI year))] := hl
  refine lv_iload_n (pc := 0) hx hb dX1_easter_0 rfl (lv_at hl 0 rfl) ?_
  refine zbipush (pc := 1) (n := 19) hx hb dX1_easter_1 rfl ?_
  refine zrem (pc := 3) hx hb (by omega) dX1_easter_3 ?_
  refine ztop (fun x4 ex4 => ?_)
  refine lv_istore_n (pc := 4) (lv' := [(1, .int (iI x4)), (0, .int (iI year))]) hx hb dX1_easter_4 rfl hl (by decide) rfl (fun ls hl => ?_)
  refine lv_iload_n (pc := 5) hx hb dX1_easter_5 rfl (lv_at hl 1 rfl) ?_
  refine zbipush (pc := 6) (n := 100) hx hb dX1_easter_6 rfl ?_
  refine zdiv (pc := 8) hx hb (by omega) dX1_easter_8 ?_
  refine ztop (fun x9 ex9 => ?_)
  refine lv_istore_n (pc := 9) (lv' := [(2, .int (iI x9)), (1, .int (iI x4)), (0, .int (iI year))]) hx hb dX1_easter_9 rfl hl (by decide) rfl (fun ls hl => ?_)
  refine lv_iload_n (pc := 10) hx hb dX1_easter_10 rfl (lv_at hl 2 rfl) ?_
  refine zbipush (pc := 11) (n := 100) hx hb dX1_easter_11 rfl ?_
  refine zrem (pc := 13) hx hb (by omega) dX1_easter_13 ?_
  refine ztop (fun x14 ex14 => ?_)
  refine lv_istore_n (pc := 14) (lv' := [(3, .int (iI x14)), (2, .int (iI x9)), (1, .int (iI x4)), (0, .int (iI year))]) hx hb dX1_easter_14 rfl hl (by decide) rfl (fun ls hl => ?_)
  refine zbipush (pc := 15) (n := 19) hx hb dX1_easter_15 rfl ?_
  refine lv_iload_n (pc := 17) hx hb dX1_easter_17 rfl (lv_at hl 2 rfl) ?_
  refine zmul (pc := 18) hx hb dX1_easter_18 ?_
  refine lv_iload_n (pc := 19) hx hb dX1_easter_19 rfl (lv_at hl 1 rfl) ?_
  refine zadd (pc := 20) hx hb dX1_easter_20 ?_
  refine lv_iload_n (pc := 21) hx hb dX1_easter_21 rfl (lv_at hl 1 rfl) ?_
  refine ziconst (pc := 22) (n := 4) hx hb dX1_easter_22 ?_
  refine zdiv (pc := 23) hx hb (by omega) dX1_easter_23 ?_
  refine zsub (pc := 24) hx hb dX1_easter_24 ?_
  refine lv_iload_n (pc := 25) hx hb dX1_easter_25 rfl (lv_at hl 1 rfl) ?_
  refine lv_iload_n (pc := 26) hx hb dX1_easter_26 rfl (lv_at hl 1 rfl) ?_
  refine zbipush (pc := 27) (n := 8) hx hb dX1_easter_27 rfl ?_
  refine zadd (pc := 29) hx hb dX1_easter_29 ?_
  refine zbipush (pc := 30) (n := 25) hx hb dX1_easter_30 rfl ?_
  refine zdiv (pc := 32) hx hb (by omega) dX1_easter_32 ?_
  refine zsub (pc := 33) hx hb dX1_easter_33 ?_
  refine ziconst (pc := 34) (n := 1) hx hb dX1_easter_34 ?_
  refine zadd (pc := 35) hx hb dX1_easter_35 ?_
  refine ziconst (pc := 36) (n := 3) hx hb dX1_easter_36 ?_
  refine zdiv (pc := 37) hx hb (by omega) dX1_easter_37 ?_
  refine zsub (pc := 38) hx hb dX1_easter_38 ?_
  refine zbipush (pc := 39) (n := 15) hx hb dX1_easter_39 rfl ?_
  refine zadd (pc := 41) hx hb dX1_easter_41 ?_
  refine zbipush (pc := 42) (n := 30) hx hb dX1_easter_42 rfl ?_
  refine zrem (pc := 44) hx hb (by omega) dX1_easter_44 ?_
  refine ztop (fun x45 ex45 => ?_)
  refine lv_istore (pc := 45) (lv' := [(4, .int (iI x45)), (3, .int (iI x14)), (2, .int (iI x9)), (1, .int (iI x4)), (0, .int (iI year))]) hx hb dX1_easter_45 hl (by decide) rfl (fun ls hl => ?_)
  refine zbipush (pc := 47) (n := 32) hx hb dX1_easter_47 rfl ?_
  refine ziconst (pc := 49) (n := 2) hx hb dX1_easter_49 ?_
  refine lv_iload_n (pc := 50) hx hb dX1_easter_50 rfl (lv_at hl 2 rfl) ?_
  refine ziconst (pc := 51) (n := 4) hx hb dX1_easter_51 ?_
  refine zrem (pc := 52) hx hb (by omega) dX1_easter_52 ?_
  refine zmul (pc := 53) hx hb dX1_easter_53 ?_
  refine zadd (pc := 54) hx hb dX1_easter_54 ?_
  refine ziconst (pc := 55) (n := 2) hx hb dX1_easter_55 ?_
  refine lv_iload_n (pc := 56) hx hb dX1_easter_56 rfl (lv_at hl 1 rfl) ?_
  refine ziconst (pc := 57) (n := 4) hx hb dX1_easter_57 ?_
  refine zdiv (pc := 58) hx hb (by omega) dX1_easter_58 ?_
  refine zmul (pc := 59) hx hb dX1_easter_59 ?_
  refine zadd (pc := 60) hx hb dX1_easter_60 ?_
  refine lv_iload (pc := 61) hx hb dX1_easter_61 (lv_at hl 0 rfl) ?_
  refine zsub (pc := 63) hx hb dX1_easter_63 ?_
  refine lv_iload_n (pc := 64) hx hb dX1_easter_64 rfl (lv_at hl 1 rfl) ?_
  refine ziconst (pc := 65) (n := 4) hx hb dX1_easter_65 ?_
  refine zrem (pc := 66) hx hb (by omega) dX1_easter_66 ?_
  refine zsub (pc := 67) hx hb dX1_easter_67 ?_
  refine zbipush (pc := 68) (n := 7) hx hb dX1_easter_68 rfl ?_
  refine zrem (pc := 70) hx hb (by omega) dX1_easter_70 ?_
  refine ztop (fun x71 ex71 => ?_)
  refine lv_istore (pc := 71) (lv' := [(5, .int (iI x71)), (4, .int (iI x45)), (3, .int (iI x14)), (2, .int (iI x9)), (1, .int (iI x4)), (0, .int (iI year))]) hx hb dX1_easter_71 hl (by decide) rfl (fun ls hl => ?_)
  refine lv_iload (pc := 73) hx hb dX1_easter_73 (lv_at hl 1 rfl) ?_
  refine lv_iload (pc := 75) hx hb dX1_easter_75 (lv_at hl 0 rfl) ?_
  refine zadd (pc := 77) hx hb dX1_easter_77 ?_
  refine zbipush (pc := 78) (n := 7) hx hb dX1_easter_78 rfl ?_
  refine lv_iload_n (pc := 80) hx hb dX1_easter_80 rfl (lv_at hl 4 rfl) ?_
  refine zbipush (pc := 81) (n := 11) hx hb dX1_easter_81 rfl ?_
  refine lv_iload (pc := 83) hx hb dX1_easter_83 (lv_at hl 1 rfl) ?_
  refine zmul (pc := 85) hx hb dX1_easter_85 ?_
  refine zadd (pc := 86) hx hb dX1_easter_86 ?_
  refine zbipush (pc := 87) (n := 22) hx hb dX1_easter_87 rfl ?_
  refine lv_iload (pc := 89) hx hb dX1_easter_89 (lv_at hl 0 rfl) ?_
  refine zmul (pc := 91) hx hb dX1_easter_91 ?_
  refine zadd (pc := 92) hx hb dX1_easter_92 ?_
  refine zsipush (pc := 93) (n := 451) hx hb dX1_easter_93 rfl ?_
  refine zdiv (pc := 96) hx hb (by omega) dX1_easter_96 ?_
  refine zmul (pc := 97) hx hb dX1_easter_97 ?_
  refine zsub (pc := 98) hx hb dX1_easter_98 ?_
  refine zbipush (pc := 99) (n := 114) hx hb dX1_easter_99 rfl ?_
  refine zadd (pc := 101) hx hb dX1_easter_101 ?_
  refine ztop (fun x102 ex102 => ?_)
  refine lv_istore (pc := 102) (lv' := [(6, .int (iI x102)), (5, .int (iI x71)), (4, .int (iI x45)), (3, .int (iI x14)), (2, .int (iI x9)), (1, .int (iI x4)), (0, .int (iI year))]) hx hb dX1_easter_102 hl (by decide) rfl (fun ls hl => ?_)
  refine lv_iload_n (pc := 104) hx hb dX1_easter_104 rfl (lv_at hl 6 rfl) ?_
  refine zkIp (pc := 105) (zrS (As := [.int (iI year)]) hx hb hml hown hG hw (c_X1_januaryOf l Γ K X Rf year  ) cb_X1_januaryOf wl_X1_19 rfl ⟨Nat.le_of_ble_eq_true rfl, Nat.le_of_ble_eq_true rfl⟩ hl.1 rfl (Nat.le_of_ble_eq_true rfl) dX1_easter_105 ⟨Nat.zero_le _, Nat.zero_le _⟩) hw (fun r105 H locs hp105 hw => ?_)
  subst hp105
  refine lv_iload (pc := 108) hx hb dX1_easter_108 (lv_at hl 0 rfl) ?_
  refine zbipush (pc := 110) (n := 31) hx hb dX1_easter_110 rfl ?_
  refine zdiv (pc := 112) hx hb (by omega) dX1_easter_112 ?_
  refine zadd (pc := 113) hx hb dX1_easter_113 ?_
  refine ziconst (pc := 114) (n := 1) hx hb dX1_easter_114 ?_
  refine zsub (pc := 115) hx hb dX1_easter_115 ?_
  refine zkIp (pc := 116) (zrS (As := [.int (iI (((12 * (year - 1900)) + (x102 / 31)) - 1))]) hx hb hml hown hG hw (c_X1_monthBegin l Γ K X Rf (((12 * (year - 1900)) + (x102 / 31)) - 1)  (by (first | assumption | omega))) cb_X1_monthBegin wl_X1_12 rfl ⟨Nat.le_of_ble_eq_true rfl, Nat.le_of_ble_eq_true rfl⟩ hl.1 rfl (Nat.le_of_ble_eq_true rfl) dX1_easter_116 ⟨Nat.zero_le _, Nat.zero_le _⟩) hw (fun r116 H locs hp116 hw => ?_)
  subst hp116
  have hp116f0 := mB_rng (((12 * (year - 1900)) + (x102 / 31)) - 1)
  refine lv_iload (pc := 119) hx hb dX1_easter_119 (lv_at hl 0 rfl) ?_
  refine zbipush (pc := 121) (n := 31) hx hb dX1_easter_121 rfl ?_
  refine zrem (pc := 123) hx hb (by omega) dX1_easter_123 ?_
  refine zadd (pc := 124) hx hb dX1_easter_124 ?_
  exact zretI (pc := 125) hx hb hlocks hr hw (Nat.zero_le _) (Nat.zero_le _) dX1_easter_125 ⟨by (try dsimp only) <;> (subst_vars; unfold est estf; rfl), rfl, rfl, rfl⟩
set_option maxHeartbeats 4000000 in
set_option maxRecDepth 100000 in
theorem c_X1_isIn (l : Launch) (Γ : zG) (K : zK) (X : zX) (Rf : zR) (weekdays : Int) (day : Int)  (h1 : fit day) (h2 : 0 ≤ weekdays ∧ weekdays < 2147483648) : Ct l yX1_isIn cX1_isIn 2 (some .boolean) 1 0 0 Γ [.int (iI weekdays), .int (iI day)] K X Rf (pI (zp0 K X Rf (fun r : Int => r = bitw weekdays day))) := by
  refine Ct.of (by decide +kernel) (Nat.le_of_ble_eq_true rfl) ?_
  intro p e s m below meth c ls hx hb hr hml hown hG hlocks hname hw hl
  have hl : lv_has ls 2 [(0, .int (iI weekdays)), (1, .int (iI day))] := hl
  refine lv_iload_n (pc := 0) hx hb dX1_isIn_0 rfl (lv_at hl 0 rfl) ?_
  refine lv_iload_n (pc := 1) hx hb dX1_isIn_1 rfl (lv_at hl 1 rfl) ?_
  refine zbipush (pc := 2) (n := 7) hx hb dX1_isIn_2 rfl ?_
  refine zkIp (pc := 4) (zrS (As := [.int (iI day), .int (iI 7)]) hx hb hml hown hG hw (c_J9_floorMod_7cf53 l Γ K X Rf day  (by (first | assumption | omega))) cb_J9_floorMod_7cf53 wl_X1_25 rfl ⟨Nat.le_of_ble_eq_true rfl, Nat.le_of_ble_eq_true rfl⟩ hl.1 rfl (Nat.le_of_ble_eq_true rfl) dX1_isIn_4 ⟨Nat.zero_le _, Nat.zero_le _⟩) hw (fun r4 H locs hp4 hw => ?_)
  subst hp4
  refine zshr (pc := 7) hx hb (by omega) dX1_isIn_7 ?_
  refine ziconst (pc := 8) (n := 1) hx hb dX1_isIn_8 ?_
  refine zand1 (pc := 9) hx hb dX1_isIn_9 ?_
  refine zif_eq (pc := 10) hx hb 17 (by omega) dX1_isIn_10 (by decide) (fun c10 => ?_) (fun c10 => ?_)
  · skip
    refine ziconst (pc := 17) (n := 0) hx hb dX1_isIn_17 ?_
    exact zretZ (pc := 18) hx hb hlocks hr (Or.inl rfl) hw (Nat.zero_le _) (Nat.zero_le _) dX1_isIn_18 ⟨by (try dsimp only) <;> (unfold bitw; omega), rfl, rfl, rfl⟩
  · skip
    refine ziconst (pc := 13) (n := 1) hx hb dX1_isIn_13 ?_
    refine lv_goto (pc := 14) (tgt := 18) hx hb dX1_isIn_14 (by decide) ?_
    exact zretZ (pc := 18) hx hb hlocks hr (Or.inr rfl) hw (Nat.zero_le _) (Nat.zero_le _) dX1_isIn_18 ⟨by (try dsimp only) <;> (unfold bitw; omega), rfl, rfl, rfl⟩
