set_option maxHeartbeats 4000000 in
set_option maxRecDepth 100000 in
theorem c_X9_is (l : Launch) (Γ : zG) (K : zK) (X : zX) (Rf : zR) (v : Int) (lo : Int) (hi : Int)  (h1 : fit v ∧ fit lo ∧ fit hi) : Ct l yX9_is cX9_is 3 (some .boolean) 0 0 0 Γ [.int (iI v), .int (iI lo), .int (iI hi)] K X Rf (pI (zp0 K X Rf (fun r : Int => r = if lo ≤ v ∧ v ≤ hi then 1 else 0))) := by
  refine Ct.of (by decide +kernel) (Nat.le_of_ble_eq_true rfl) ?_
  intro p e s m below meth c ls hx hb hr hml hown hG hlocks hname hw hl
  have hl : lv_has ls 3 [(0, .int (iI v)), (1, .int (iI lo)), (2, .int (iI hi))] := hl
  refine lv_iload_n (pc := 0) hx hb dX9_is_0 rfl (lv_at hl 0 rfl) ?_
  refine lv_iload_n (pc := 1) hx hb dX9_is_1 rfl (lv_at hl 1 rfl) ?_
  refine zicmp_lt (pc := 2) hx hb 14 (by omega) (by omega) dX9_is_2 (by decide) (fun c2 => ?_) (fun c2 => ?_)
  · skip
    refine ziconst (pc := 14) (n := 0) hx hb dX9_is_14 ?_
    exact zretZ (pc := 15) hx hb hlocks hr (Or.inl rfl) hw (Nat.zero_le _) (Nat.zero_le _) dX9_is_15 ⟨by (try dsimp only) <;> (first | (rw [if_pos (by omega)]) | (rw [if_neg (by omega)])), rfl, rfl, rfl⟩
  · skip
    refine lv_iload_n (pc := 5) hx hb dX9_is_5 rfl (lv_at hl 0 rfl) ?_
    refine lv_iload_n (pc := 6) hx hb dX9_is_6 rfl (lv_at hl 2 rfl) ?_
    refine zicmp_gt (pc := 7) hx hb 14 (by omega) (by omega) dX9_is_7 (by decide) (fun c7 => ?_) (fun c7 => ?_)
    · skip
      refine ziconst (pc := 14) (n := 0) hx hb dX9_is_14 ?_
      exact zretZ (pc := 15) hx hb hlocks hr (Or.inl rfl) hw (Nat.zero_le _) (Nat.zero_le _) dX9_is_15 ⟨by (try dsimp only) <;> (first | (rw [if_pos (by omega)]) | (rw [if_neg (by omega)])), rfl, rfl, rfl⟩
    · skip
      refine ziconst (pc := 10) (n := 1) hx hb dX9_is_10 ?_
      refine lv_goto (pc := 11) (tgt := 15) hx hb dX9_is_11 (by decide) ?_
      exact zretZ (pc := 15) hx hb hlocks hr (Or.inr rfl) hw (Nat.zero_le _) (Nat.zero_le _) dX9_is_15 ⟨by (try dsimp only) <;> (first | (rw [if_pos (by omega)]) | (rw [if_neg (by omega)])), rfl, rfl, rfl⟩
set_option maxHeartbeats 4000000 in
set_option maxRecDepth 100000 in
theorem c_X9_isDay (l : Launch) (Γ : zG) (K : zK) (X : zX) (Rf : zR) (day : Int)  (h1 : fit day) : Ct l yX9_isDay cX9_isDay 1 (some .boolean) 1 0 0 Γ [.int (iI day)] K X Rf (pI (zp0 K X Rf (fun r : Int => r = if 0 ≤ day ∧ day ≤ 73048 then 1 else 0))) := by
  refine Ct.of (by decide +kernel) (Nat.le_of_ble_eq_true rfl) ?_
  intro p e s m below meth c ls hx hb hr hml hown hG hlocks hname hw hl
  have hl : lv_has ls 1 [(0, .int (iI day))] := hl
  refine lv_iload_n (pc := 0) hx hb dX9_isDay_0 rfl (lv_at hl 0 rfl) ?_
  refine ziconst (pc := 1) (n := 0) hx hb dX9_isDay_1 ?_
  refine zldc (pc := 2) (n := 73048) hx hb hown hG wk_X9_90 dX9_isDay_2 ?_
  refine zkIp (pc := 4) (zrS (As := [.int (iI day), .int (iI 0), .int (iI 73048)]) hx hb hml hown hG hw (c_X9_is l Γ K X Rf day 0 73048  (by (first | assumption | omega))) cb_X9_is wl_X9_91 rfl ⟨Nat.le_of_ble_eq_true rfl, Nat.le_of_ble_eq_true rfl⟩ hl.1 rfl (Nat.le_of_ble_eq_true rfl) dX9_isDay_4 ⟨Nat.zero_le _, Nat.zero_le _⟩) hw (fun r4 H locs hp4 hw => ?_)
  subst hp4
  exact zretZ (pc := 7) hx hb hlocks hr (by omega) hw (Nat.zero_le _) (Nat.zero_le _) dX9_isDay_7 ⟨by (try dsimp only) <;> ((first | assumption | omega)), rfl, rfl, rfl⟩
set_option maxHeartbeats 4000000 in
set_option maxRecDepth 100000 in
theorem c_X9_isYear (l : Launch) (Γ : zG) (K : zK) (X : zX) (Rf : zR) (year : Int)  (h1 : fit year) : Ct l yX9_isYear cX9_isYear 1 (some .boolean) 1 0 0 Γ [.int (iI year)] K X Rf (pI (zp0 K X Rf (fun r : Int => r = if 1900 ≤ year ∧ year ≤ 2099 then 1 else 0))) := by
  refine Ct.of (by decide +kernel) (Nat.le_of_ble_eq_true rfl) ?_
  intro p e s m below meth c ls hx hb hr hml hown hG hlocks hname hw hl
  have hl : lv_has ls 1 [(0, .int (iI year))] := hl
  refine lv_iload_n (pc := 0) hx hb dX9_isYear_0 rfl (lv_at hl 0 rfl) ?_
  refine zsipush (pc := 1) (n := 1900) hx hb dX9_isYear_1 rfl ?_
  refine zsipush (pc := 4) (n := 2099) hx hb dX9_isYear_4 rfl ?_
  refine zkIp (pc := 7) (zrS (As := [.int (iI year), .int (iI 1900), .int (iI 2099)]) hx hb hml hown hG hw (c_X9_is l Γ K X Rf year 1900 2099  (by (first | assumption | omega))) cb_X9_is wl_X9_91 rfl ⟨Nat.le_of_ble_eq_true rfl, Nat.le_of_ble_eq_true rfl⟩ hl.1 rfl (Nat.le_of_ble_eq_true rfl) dX9_isYear_7 ⟨Nat.zero_le _, Nat.zero_le _⟩) hw (fun r7 H locs hp7 hw => ?_)
  subst hp7
  exact zretZ (pc := 10) hx hb hlocks hr (by omega) hw (Nat.zero_le _) (Nat.zero_le _) dX9_isYear_10 ⟨by (try dsimp only) <;> ((first | assumption | omega)), rfl, rfl, rfl⟩
set_option maxHeartbeats 4000000 in
set_option maxRecDepth 100000 in
theorem c_X9_isMoment (l : Launch) (Γ : zG) (K : zK) (X : zX) (Rf : zR) (mo : Int)  (h1 : fit mo) : Ct l yX9_isMoment cX9_isMoment 1 (some .boolean) 1 0 0 Γ [.int (iI mo)] K X Rf (pI (zp0 K X Rf (fun r : Int => r = if 0 ≤ mo ∧ mo ≤ 105190559 then 1 else 0))) := by
  refine Ct.of (by decide +kernel) (Nat.le_of_ble_eq_true rfl) ?_
  intro p e s m below meth c ls hx hb hr hml hown hG hlocks hname hw hl
  have hl : lv_has ls 1 [(0, .int (iI mo))] := hl
  refine lv_iload_n (pc := 0) hx hb dX9_isMoment_0 rfl (lv_at hl 0 rfl) ?_
  refine ziconst (pc := 1) (n := 0) hx hb dX9_isMoment_1 ?_
  refine zldc (pc := 2) (n := 105190559) hx hb hown hG wk_X9_95 dX9_isMoment_2 ?_
  refine zkIp (pc := 4) (zrS (As := [.int (iI mo), .int (iI 0), .int (iI 105190559)]) hx hb hml hown hG hw (c_X9_is l Γ K X Rf mo 0 105190559  (by (first | assumption | omega))) cb_X9_is wl_X9_91 rfl ⟨Nat.le_of_ble_eq_true rfl, Nat.le_of_ble_eq_true rfl⟩ hl.1 rfl (Nat.le_of_ble_eq_true rfl) dX9_isMoment_4 ⟨Nat.zero_le _, Nat.zero_le _⟩) hw (fun r4 H locs hp4 hw => ?_)
  subst hp4
  exact zretZ (pc := 7) hx hb hlocks hr (by omega) hw (Nat.zero_le _) (Nat.zero_le _) dX9_isMoment_7 ⟨by (try dsimp only) <;> ((first | assumption | omega)), rfl, rfl, rfl⟩
set_option maxHeartbeats 4000000 in
set_option maxRecDepth 100000 in
theorem c_X9_beginOf (l : Launch) (Γ : zG) (K : zK) (X : zX) (Rf : zR) (year : Int)  (h1 : 1900 ≤ year ∧ year ≤ 2099) : Ct l yX9_beginOf cX9_beginOf 1 (some .int) 0 0 0 Γ [.int (iI year)] K X Rf (pI (zp0 K X Rf (fun r : Int => r = yb (year - 1900)))) := by
  refine Ct.of (by decide +kernel) (Nat.le_of_ble_eq_true rfl) ?_
  intro p e s m below meth c ls hx hb hr hml hown hG hlocks hname hw hl
  have hl : lv_has ls 1 [(0, .int (iI year))] := hl
  refine zsipush (pc := 0) (n := 365) hx hb dX9_beginOf_0 rfl ?_
  refine lv_iload_n (pc := 3) hx hb dX9_beginOf_3 rfl (lv_at hl 0 rfl) ?_
  refine zsipush (pc := 4) (n := 1900) hx hb dX9_beginOf_4 rfl ?_
  refine zsub (pc := 7) hx hb dX9_beginOf_7 ?_
  refine zmul (pc := 8) hx hb dX9_beginOf_8 ?_
  refine lv_iload_n (pc := 9) hx hb dX9_beginOf_9 rfl (lv_at hl 0 rfl) ?_
  refine zsipush (pc := 10) (n := 1900) hx hb dX9_beginOf_10 rfl ?_
  refine zsub (pc := 13) hx hb dX9_beginOf_13 ?_
  refine ziconst (pc := 14) (n := 1) hx hb dX9_beginOf_14 ?_
  refine zsub (pc := 15) hx hb dX9_beginOf_15 ?_
  refine ziconst (pc := 16) (n := 4) hx hb dX9_beginOf_16 ?_
  have ht := td_spec (year - 1900 - 1) (y := 4) (by omega)
  refine ztdiv (pc := 17) hx hb (by omega) dX9_beginOf_17 ?_
  refine zadd (pc := 18) hx hb dX9_beginOf_18 ?_
  exact zretI (pc := 19) hx hb hlocks hr hw (Nat.zero_le _) (Nat.zero_le _) dX9_beginOf_19 ⟨by (try dsimp only) <;> (unfold yb; split <;> omega), rfl, rfl, rfl⟩
set_option maxHeartbeats 4000000 in
set_option maxRecDepth 100000 in
theorem c_X9_lengthOf (l : Launch) (Γ : zG) (K : zK) (X : zX) (Rf : zR) (year : Int) (month : Int)  (h1 : 1900 ≤ year ∧ year ≤ 2099) (h2 : 1 ≤ month ∧ month ≤ 12) : Ct l yX9_lengthOf cX9_lengthOf 2 (some .int) 0 0 0 Γ [.int (iI year), .int (iI month)] K X Rf (pI (zp0 K X Rf (fun r : Int => r = lenM (year - 1900) month))) := by
  refine Ct.of (by decide +kernel) (Nat.le_of_ble_eq_true rfl) ?_
  intro p e s m below meth c ls hx hb hr hml hown hG hlocks hname hw hl
  have hl : lv_has ls 2 [(0, .int (iI year)), (1, .int (iI month))] := hl
  refine lv_iload_n (pc := 0) hx hb dX9_lengthOf_0 rfl (lv_at hl 1 rfl) ?_
  refine ziconst (pc := 1) (n := 2) hx hb dX9_lengthOf_1 ?_
  refine zicmp_ne (pc := 2) hx hb 26 (by omega) (by omega) dX9_lengthOf_2 (by decide) (fun c2 => ?_) (fun c2 => ?_)
  · skip
    refine lv_iload_n (pc := 26) hx hb dX9_lengthOf_26 rfl (lv_at hl 1 rfl) ?_
    refine ziconst (pc := 27) (n := 4) hx hb dX9_lengthOf_27 ?_
    refine zicmp_eq (pc := 28) hx hb 49 (by omega) (by omega) dX9_lengthOf_28 (by decide) (fun c28 => ?_) (fun c28 => ?_)
    · skip
      refine zbipush (pc := 49) (n := 30) hx hb dX9_lengthOf_49 rfl ?_
      refine lv_goto (pc := 51) (tgt := 56) hx hb dX9_lengthOf_51 (by decide) ?_
      exact zretI (pc := 56) hx hb hlocks hr hw (Nat.zero_le _) (Nat.zero_le _) dX9_lengthOf_56 ⟨by (try dsimp only) <;> (unfold lenM; (repeat' split) <;> omega), rfl, rfl, rfl⟩
    · skip
      refine lv_iload_n (pc := 31) hx hb dX9_lengthOf_31 rfl (lv_at hl 1 rfl) ?_
      refine zbipush (pc := 32) (n := 6) hx hb dX9_lengthOf_32 rfl ?_
      refine zicmp_eq (pc := 34) hx hb 49 (by omega) (by omega) dX9_lengthOf_34 (by decide) (fun c34 => ?_) (fun c34 => ?_)
      · skip
        refine zbipush (pc := 49) (n := 30) hx hb dX9_lengthOf_49 rfl ?_
        refine lv_goto (pc := 51) (tgt := 56) hx hb dX9_lengthOf_51 (by decide) ?_
        exact zretI (pc := 56) hx hb hlocks hr hw (Nat.zero_le _) (Nat.zero_le _) dX9_lengthOf_56 ⟨by (try dsimp only) <;> (unfold lenM; (repeat' split) <;> omega), rfl, rfl, rfl⟩
      · skip
        refine lv_iload_n (pc := 37) hx hb dX9_lengthOf_37 rfl (lv_at hl 1 rfl) ?_
        refine zbipush (pc := 38) (n := 9) hx hb dX9_lengthOf_38 rfl ?_
        refine zicmp_eq (pc := 40) hx hb 49 (by omega) (by omega) dX9_lengthOf_40 (by decide) (fun c40 => ?_) (fun c40 => ?_)
        · skip
          refine zbipush (pc := 49) (n := 30) hx hb dX9_lengthOf_49 rfl ?_
          refine lv_goto (pc := 51) (tgt := 56) hx hb dX9_lengthOf_51 (by decide) ?_
          exact zretI (pc := 56) hx hb hlocks hr hw (Nat.zero_le _) (Nat.zero_le _) dX9_lengthOf_56 ⟨by (try dsimp only) <;> (unfold lenM; (repeat' split) <;> omega), rfl, rfl, rfl⟩
        · skip
          refine lv_iload_n (pc := 43) hx hb dX9_lengthOf_43 rfl (lv_at hl 1 rfl) ?_
          refine zbipush (pc := 44) (n := 11) hx hb dX9_lengthOf_44 rfl ?_
          refine zicmp_ne (pc := 46) hx hb 54 (by omega) (by omega) dX9_lengthOf_46 (by decide) (fun c46 => ?_) (fun c46 => ?_)
          · skip
            refine zbipush (pc := 54) (n := 31) hx hb dX9_lengthOf_54 rfl ?_
            exact zretI (pc := 56) hx hb hlocks hr hw (Nat.zero_le _) (Nat.zero_le _) dX9_lengthOf_56 ⟨by (try dsimp only) <;> (unfold lenM; (repeat' split) <;> omega), rfl, rfl, rfl⟩
          · skip
            refine zbipush (pc := 49) (n := 30) hx hb dX9_lengthOf_49 rfl ?_
            refine lv_goto (pc := 51) (tgt := 56) hx hb dX9_lengthOf_51 (by decide) ?_
            exact zretI (pc := 56) hx hb hlocks hr hw (Nat.zero_le _) (Nat.zero_le _) dX9_lengthOf_56 ⟨by (try dsimp only) <;> (unfold lenM; (repeat' split) <;> omega), rfl, rfl, rfl⟩
  · skip
    refine lv_iload_n (pc := 5) hx hb dX9_lengthOf_5 rfl (lv_at hl 0 rfl) ?_
    refine ziconst (pc := 6) (n := 4) hx hb dX9_lengthOf_6 ?_
    refine zrem (pc := 7) hx hb (by omega) dX9_lengthOf_7 ?_
    refine zif_ne (pc := 8) hx hb 23 (by omega) dX9_lengthOf_8 (by decide) (fun c8 => ?_) (fun c8 => ?_)
    · skip
      refine zbipush (pc := 23) (n := 28) hx hb dX9_lengthOf_23 rfl ?_
      exact zretI (pc := 25) hx hb hlocks hr hw (Nat.zero_le _) (Nat.zero_le _) dX9_lengthOf_25 ⟨by (try dsimp only) <;> (unfold lenM; (repeat' split) <;> omega), rfl, rfl, rfl⟩
    · skip
      refine lv_iload_n (pc := 11) hx hb dX9_lengthOf_11 rfl (lv_at hl 0 rfl) ?_
      refine zsipush (pc := 12) (n := 1900) hx hb dX9_lengthOf_12 rfl ?_
      refine zicmp_eq (pc := 15) hx hb 23 (by omega) (by omega) dX9_lengthOf_15 (by decide) (fun c15 => ?_) (fun c15 => ?_)
      · skip
        refine zbipush (pc := 23) (n := 28) hx hb dX9_lengthOf_23 rfl ?_
        exact zretI (pc := 25) hx hb hlocks hr hw (Nat.zero_le _) (Nat.zero_le _) dX9_lengthOf_25 ⟨by (try dsimp only) <;> (unfold lenM; (repeat' split) <;> omega), rfl, rfl, rfl⟩
      · skip
        refine zbipush (pc := 18) (n := 29) hx hb dX9_lengthOf_18 rfl ?_
        refine lv_goto (pc := 20) (tgt := 25) hx hb dX9_lengthOf_20 (by decide) ?_
        exact zretI (pc := 25) hx hb hlocks hr hw (Nat.zero_le _) (Nat.zero_le _) dX9_lengthOf_25 ⟨by (try dsimp only) <;> (unfold lenM; (repeat' split) <;> omega), rfl, rfl, rfl⟩
set_option maxHeartbeats 4000000 in
set_option maxRecDepth 100000 in
theorem c_X9_dayFor (l : Launch) (Γ : zG) (K : zK) (X : zX) (Rf : zR) (year : Int) (month : Int) (day : Int)  (h1 : 1900 ≤ year ∧ year ≤ 2099) (h2 : 1 ≤ month ∧ month ≤ 12) (h3 : -1000 ≤ day ∧ day ≤ 1000) : Ct l yX9_dayFor cX9_dayFor 5 (some .int) 1 0 0 Γ [.int (iI year), .int (iI month), .int (iI day)] K X Rf (pI (zp0 K X Rf (fun r : Int => r = mB (12 * (year - 1900) + month - 1) + day - 1))) := by
  refine Ct.of (by decide +kernel) (Nat.le_of_ble_eq_true rfl) ?_
  intro p e s m below meth c ls hx hb hr hml hown hG hlocks hname hw hl
  have hl : lv_has ls 5 [(0, .int (iI year)), (1, .int (iI month)), (2, .int (iI day))] := hl
  refine lv_iload_n (pc := 0) hx hb dX9_dayFor_0 rfl (lv_at hl 0 rfl) ?_
  refine zkIp (pc := 1) (zrS (As := [.int (iI year)]) hx hb hml hown hG hw (c_X9_beginOf l Γ K X Rf year  (by (first | assumption | omega))) cb_X9_beginOf wl_X9_96 rfl ⟨Nat.le_of_ble_eq_true rfl, Nat.le_of_ble_eq_true rfl⟩ hl.1 rfl (Nat.le_of_ble_eq_true rfl) dX9_dayFor_1 ⟨Nat.zero_le _, Nat.zero_le _⟩) hw (fun r1 H locs hp1 hw => ?_)
  subst hp1
  have hp1f0 := yb_rng (y := year - 1900) (by omega) (by omega)
  refine lv_iload_n (pc := 4) hx hb dX9_dayFor_4 rfl (lv_at hl 2 rfl) ?_
  refine zadd (pc := 5) hx hb dX9_dayFor_5 ?_
  refine ziconst (pc := 6) (n := 1) hx hb dX9_dayFor_6 ?_
  refine zsub (pc := 7) hx hb dX9_dayFor_7 ?_
  refine ztop (fun x8 ex8 => ?_)
  refine lv_istore_n (pc := 8) (lv' := [(3, .int (iI x8)), (0, .int (iI year)), (1, .int (iI month)), (2, .int (iI day))]) hx hb dX9_dayFor_8 rfl hl (by decide) rfl (fun ls hl => ?_)
  refine ziconst (pc := 9) (n := 1) hx hb dX9_dayFor_9 ?_
  refine lv_istore (pc := 10) (lv' := [(4, .int (iI 1)), (3, .int (iI x8)), (0, .int (iI year)), (1, .int (iI month)), (2, .int (iI day))]) hx hb dX9_dayFor_10 hl (by decide) rfl (fun ls hl => ?_)
  have lp12 : ∀ (n12 : Nat) (mm : Int) (ma : Int) (H : Heap) (locs : List Loc), (hi : 1 ≤ mm ∧ mm ≤ month) → (hma : ma = mB (12 * (year - 1900) + mm - 1) + day - 1) → ((month - mm).toNat < n12) → Wd Γ (zA K s.heap.size) K X Rf s H locs → ∀ ls : Array Slot, lv_has ls 5 [(4, .int (iI mm)), (3, .int (iI ma)), (0, .int (iI year)), (1, .int (iI month)), (2, .int (iI day))] → W p l e (rmL 1 0 0) s m ([.int (iI year), .int (iI month), .int (iI day)] : List Value).toArray below meth c H locs 0 0 (MQ below (zQ Γ K s.heap.size (pI (zp0 K X Rf (fun r : Int => r = mB (12 * (year - 1900) + month - 1) + day - 1)))) ([.int (iI year), .int (iI month), .int (iI day)] : List Value).toArray s 0 0 (zA K s.heap.size)) (F0 m 12 ls []) := by
    intro n12
    induction n12 with
    | zero => intro mm ma H locs hi hma hm12; exact absurd hm12 (Nat.not_lt_zero _)
    | succ n12 ih12 =>
      intro mm ma H locs hi hma hm12 hw ls hl
      have hmr := mB_rng (12 * (year - 1900) + mm - 1)
      refine lv_iload (pc := 12) hx hb dX9_dayFor_12 (lv_at hl 0 rfl) ?_
      refine lv_iload_n (pc := 14) hx hb dX9_dayFor_14 rfl (lv_at hl 3 rfl) ?_
      refine zicmp_ge (pc := 15) hx hb 33 (by omega) (by omega) dX9_dayFor_15 (by decide) (fun c15 => ?_) (fun c15 => ?_)
      · skip
        refine lv_iload_n (pc := 33) hx hb dX9_dayFor_33 rfl (lv_at hl 1 rfl) ?_
        exact zretI (pc := 34) hx hb hlocks hr hw (Nat.zero_le _) (Nat.zero_le _) dX9_dayFor_34 ⟨by (try dsimp only) <;> (rw [hma, show mm = month by omega]), rfl, rfl, rfl⟩
      · skip
        refine lv_iload_n (pc := 18) hx hb dX9_dayFor_18 rfl (lv_at hl 1 rfl) ?_
        refine lv_iload_n (pc := 19) hx hb dX9_dayFor_19 rfl (lv_at hl 2 rfl) ?_
        refine lv_iload (pc := 20) hx hb dX9_dayFor_20 (lv_at hl 0 rfl) ?_
        refine zkIp (pc := 22) (zrS (As := [.int (iI year), .int (iI mm)]) hx hb hml hown hG hw (c_X9_lengthOf l Γ K X Rf year mm  (by (first | assumption | omega)) (by (first | assumption | omega))) cb_X9_lengthOf wl_X9_100 rfl ⟨Nat.le_of_ble_eq_true rfl, Nat.le_of_ble_eq_true rfl⟩ hl.1 rfl (Nat.le_of_ble_eq_true rfl) dX9_dayFor_22 ⟨Nat.zero_le _, Nat.zero_le _⟩) hw (fun r22 H locs hp22 hw => ?_)
        subst hp22
        have hp22f0 := lenM_mB (year := year) (month := mm) (by omega) (by omega)
        have hp22f1 := lenM_rng (year - 1900) mm
        refine zadd (pc := 25) hx hb dX9_dayFor_25 ?_
        refine ztop (fun x26 ex26 => ?_)
        refine lv_istore_n (pc := 26) (lv' := [(3, .int (iI x26)), (4, .int (iI mm)), (0, .int (iI year)), (1, .int (iI month)), (2, .int (iI day))]) hx hb dX9_dayFor_26 rfl hl (by decide) rfl (fun ls hl => ?_)
        refine ziinc (pc := 27) (lv' := [(4, .int (iI (mm + 1))), (3, .int (iI x26)), (0, .int (iI year)), (1, .int (iI month)), (2, .int (iI day))]) hx hb 1 dX9_dayFor_27 hl rfl (by decide) rfl (fun ls hl => ?_)
        obtain ⟨x27, ex27⟩ : ∃ zz : Int, zz = (mm + 1) := ⟨_, rfl⟩
        rw [← ex27] at hl
        refine lv_goto (pc := 30) (tgt := 12) hx hb dX9_dayFor_30 (by decide) ?_
        exact ih12 x27 x26 _ _ (by (first | assumption | omega)) (by rw [ex27, show 12 * (year - 1900) + (mm + 1) - 1 = 12 * (year - 1900) + mm - 1 + 1 by omega]; omega) (by omega) hw _ (lv_sub hl [0, 1, 2, 3, 4] rfl)
  exact lp12 _ 1 x8 _ _ (by (first | assumption | omega)) (by rw [show 12 * (year - 1900) + 1 - 1 = 12 * (year - 1900) by omega, mB_jan (by omega) (by omega)]; omega) (Nat.lt_succ_self _) hw _ (lv_sub hl [0, 1, 2, 3, 4] rfl)
set_option maxHeartbeats 4000000 in
set_option maxRecDepth 100000 in
theorem c_X9_yearFor (l : Launch) (Γ : zG) (K : zK) (X : zX) (Rf : zR) (day : Int)  (h1 : 0 ≤ day ∧ day ≤ 73048) : Ct l yX9_yearFor cX9_yearFor 2 (some .int) 2 0 0 Γ [.int (iI day)] K X Rf (pI (zp0 K X Rf (fun r : Int => r = 1900 + yr day))) := by
  refine Ct.of (by decide +kernel) (Nat.le_of_ble_eq_true rfl) ?_
  intro p e s m below meth c ls hx hb hr hml hown hG hlocks hname hw hl
  have hl : lv_has ls 2 [(0, .int (iI day))] := hl
  have hyr := yr_rng (d := day) (by omega) (by omega)
  have hyg := yb_ge (y := yr day)
  refine zsipush (pc := 0) (n := 2099) hx hb dX9_yearFor_0 rfl ?_
  refine zsipush (pc := 3) (n := 1900) hx hb dX9_yearFor_3 rfl ?_
  refine lv_iload_n (pc := 6) hx hb dX9_yearFor_6 rfl (lv_at hl 0 rfl) ?_
  refine zsipush (pc := 7) (n := 365) hx hb dX9_yearFor_7 rfl ?_
  refine zdiv (pc := 10) hx hb (by omega) dX9_yearFor_10 ?_
  refine zadd (pc := 11) hx hb dX9_yearFor_11 ?_
  refine zmin (pc := 12) hx hb (hml.trans hl.1.symm) hown hG wl_X9_104 w1_zmn wi_javalangMath w2_zmn (Nat.le_of_ble_eq_true rfl) (Nat.le_of_ble_eq_true rfl) (Nat.zero_le _) (Nat.zero_le _) ⟨by omega, by omega⟩ dX9_yearFor_12 ?_
  refine ztop (fun x15 ex15 => ?_)
  refine lv_istore_n (pc := 15) (lv' := [(1, .int (iI x15)), (0, .int (iI day))]) hx hb dX9_yearFor_15 rfl hl (by decide) rfl (fun ls hl => ?_)
  have lp16 : ∀ (n16 : Nat) (yy : Int) (H : Heap) (locs : List Loc), (hi : 1900 + yr day ≤ yy ∧ yy ≤ 2099) → ((yy - 1900).toNat < n16) → Wd Γ (zA K s.heap.size) K X Rf s H locs → ∀ ls : Array Slot, lv_has ls 2 [(1, .int (iI yy)), (0, .int (iI day))] → W p l e (rmL 2 0 0) s m ([.int (iI day)] : List Value).toArray below meth c H locs 0 0 (MQ below (zQ Γ K s.heap.size (pI (zp0 K X Rf (fun r : Int => r = 1900 + yr day)))) ([.int (iI day)] : List Value).toArray s 0 0 (zA K s.heap.size)) (F0 m 16 ls []) := by
    intro n16
    induction n16 with
    | zero => intro yy H locs hi hm16; exact absurd hm16 (Nat.not_lt_zero _)
    | succ n16 ih16 =>
      intro yy H locs hi hm16 hw ls hl
      refine lv_iload_n (pc := 16) hx hb dX9_yearFor_16 rfl (lv_at hl 0 rfl) ?_
      refine zkIp (pc := 17) (zrS (As := [.int (iI yy)]) hx hb hml hown hG hw (c_X9_beginOf l Γ K X Rf yy  (by (first | assumption | omega))) cb_X9_beginOf wl_X9_96 rfl ⟨Nat.le_of_ble_eq_true rfl, Nat.le_of_ble_eq_true rfl⟩ hl.1 rfl (Nat.le_of_ble_eq_true rfl) dX9_yearFor_17 ⟨Nat.zero_le _, Nat.zero_le _⟩) hw (fun r17 H locs hp17 hw => ?_)
      subst hp17
      have hp17f0 := yb_rng (y := yy - 1900) (by omega) (by omega)
      refine lv_iload_n (pc := 20) hx hb dX9_yearFor_20 rfl (lv_at hl 1 rfl) ?_
      refine zicmp_le (pc := 21) hx hb 30 (by omega) (by omega) dX9_yearFor_21 (by decide) (fun c21 => ?_) (fun c21 => ?_)
      · skip
        refine lv_iload_n (pc := 30) hx hb dX9_yearFor_30 rfl (lv_at hl 0 rfl) ?_
        exact zretI (pc := 31) hx hb hlocks hr hw (Nat.zero_le _) (Nat.zero_le _) dX9_yearFor_31 ⟨by (try dsimp only) <;> (
                                        by_cases q : yy - 1900 = yr day
                                        · omega
                                        · have := yb_mono (a := yr day + 1) (b := yy - 1900) (by omega) (by omega)
                                          omega), rfl, rfl, rfl⟩
      · skip
        refine ziinc (pc := 24) (lv' := [(1, .int (iI (yy + (-1)))), (0, .int (iI day))]) hx hb 0 dX9_yearFor_24 hl rfl (by decide) rfl (fun ls hl => ?_)
        obtain ⟨x24, ex24⟩ : ∃ zz : Int, zz = (yy + (-1)) := ⟨_, rfl⟩
        rw [← ex24] at hl
        refine lv_goto (pc := 27) (tgt := 16) hx hb dX9_yearFor_27 (by decide) ?_
        have hst : ¬ yy - 1900 = yr day := fun q => by
          rw [q] at c21; omega
        exact ih16 x24 _ _ (by (first | assumption | omega)) (by omega) hw _ (lv_sub hl [0, 1] rfl)
  exact lp16 _ x15 _ _ (by (first | assumption | omega)) (Nat.lt_succ_self _) hw _ (lv_sub hl [0, 1] rfl)
set_option maxHeartbeats 4000000 in
set_option maxRecDepth 100000 in
theorem c_X9_monthFor (l : Launch) (Γ : zG) (K : zK) (X : zX) (Rf : zR) (day : Int)  (h1 : 0 ≤ day ∧ day ≤ 73048) : Ct l yX9_monthFor cX9_monthFor 4 (some .int) 3 0 0 Γ [.int (iI day)] K X Rf (pI (zp0 K X Rf (fun r : Int => r = mi day % 12 + 1))) := by
  refine Ct.of (by decide +kernel) (Nat.le_of_ble_eq_true rfl) ?_
  intro p e s m below meth c ls hx hb hr hml hown hG hlocks hname hw hl
  have hl : lv_has ls 4 [(0, .int (iI day))] := hl
  have hyr := yr_rng (d := day) (by omega) (by omega)
  refine lv_iload_n (pc := 0) hx hb dX9_monthFor_0 rfl (lv_at hl 0 rfl) ?_
  refine zkIp (pc := 1) (zrS (As := [.int (iI day)]) hx hb hml hown hG hw (c_X9_yearFor l Γ K X Rf day  (by (first | assumption | omega))) cb_X9_yearFor wl_X9_109 rfl ⟨Nat.le_of_ble_eq_true rfl, Nat.le_of_ble_eq_true rfl⟩ hl.1 rfl (Nat.le_of_ble_eq_true rfl) dX9_monthFor_1 ⟨Nat.zero_le _, Nat.zero_le _⟩) hw (fun r1 H locs hp1 hw => ?_)
  subst hp1
  have hp1f0 := yr_rng (d := day) (by omega) (by omega)
  refine ztop (fun x4 ex4 => ?_)
  refine lv_istore_n (pc := 4) (lv' := [(1, .int (iI x4)), (0, .int (iI day))]) hx hb dX9_monthFor_4 rfl hl (by decide) rfl (fun ls hl => ?_)
  refine ziconst (pc := 5) (n := 1) hx hb dX9_monthFor_5 ?_
  refine lv_istore_n (pc := 6) (lv' := [(2, .int (iI 1)), (1, .int (iI x4)), (0, .int (iI day))]) hx hb dX9_monthFor_6 rfl hl (by decide) rfl (fun ls hl => ?_)
  refine lv_iload_n (pc := 7) hx hb dX9_monthFor_7 rfl (lv_at hl 2 rfl) ?_
  refine lv_iload_n (pc := 8) hx hb dX9_monthFor_8 rfl (lv_at hl 1 rfl) ?_
  refine zkIp (pc := 9) (zrS (As := [.int (iI x4)]) hx hb hml hown hG hw (c_X9_beginOf l Γ K X Rf x4  (by (first | assumption | omega))) cb_X9_beginOf wl_X9_96 rfl ⟨Nat.le_of_ble_eq_true rfl, Nat.le_of_ble_eq_true rfl⟩ hl.1 rfl (Nat.le_of_ble_eq_true rfl) dX9_monthFor_9 ⟨Nat.zero_le _, Nat.zero_le _⟩) hw (fun r9 H locs hp9 hw => ?_)
  subst hp9
  have hp9f0 := yb_rng (y := x4 - 1900) (by omega) (by omega)
  refine zsub (pc := 12) hx hb dX9_monthFor_12 ?_
  refine ztop (fun x13 ex13 => ?_)
  refine lv_istore_n (pc := 13) (lv' := [(3, .int (iI x13)), (2, .int (iI 1)), (1, .int (iI x4)), (0, .int (iI day))]) hx hb dX9_monthFor_13 rfl hl (by decide) rfl (fun ls hl => ?_)
  have lp14 : ∀ (n14 : Nat) (lf : Int) (mo : Int) (H : Heap) (locs : List Loc), (hi : 1 ≤ mo ∧ mo ≤ 12) → (hlf : lf = day - mB (12 * (x4 - 1900) + mo - 1) ∧ 0 ≤ lf) → ((13 - mo).toNat < n14) → Wd Γ (zA K s.heap.size) K X Rf s H locs → ∀ ls : Array Slot, lv_has ls 4 [(3, .int (iI lf)), (2, .int (iI mo)), (1, .int (iI x4)), (0, .int (iI day))] → W p l e (rmL 3 0 0) s m ([.int (iI day)] : List Value).toArray below meth c H locs 0 0 (MQ below (zQ Γ K s.heap.size (pI (zp0 K X Rf (fun r : Int => r = mi day % 12 + 1)))) ([.int (iI day)] : List Value).toArray s 0 0 (zA K s.heap.size)) (F0 m 14 ls []) := by
    intro n14
    induction n14 with
    | zero => intro lf mo H locs hi hlf hm14; exact absurd hm14 (Nat.not_lt_zero _)
    | succ n14 ih14 =>
      intro lf mo H locs hi hlf hm14 hw ls hl
      have hmr := mB_rng (12 * (x4 - 1900) + mo - 1)
      refine lv_iload_n (pc := 14) hx hb dX9_monthFor_14 rfl (lv_at hl 0 rfl) ?_
      refine lv_iload_n (pc := 15) hx hb dX9_monthFor_15 rfl (lv_at hl 2 rfl) ?_
      refine lv_iload_n (pc := 16) hx hb dX9_monthFor_16 rfl (lv_at hl 1 rfl) ?_
      refine zkIp (pc := 17) (zrS (As := [.int (iI x4), .int (iI mo)]) hx hb hml hown hG hw (c_X9_lengthOf l Γ K X Rf x4 mo  (by (first | assumption | omega)) (by (first | assumption | omega))) cb_X9_lengthOf wl_X9_100 rfl ⟨Nat.le_of_ble_eq_true rfl, Nat.le_of_ble_eq_true rfl⟩ hl.1 rfl (Nat.le_of_ble_eq_true rfl) dX9_monthFor_17 ⟨Nat.zero_le _, Nat.zero_le _⟩) hw (fun r17 H locs hp17 hw => ?_)
      subst hp17
      have hp17f0 := lenM_mB (year := x4) (month := mo) (by omega) (by omega)
      have hp17f1 := lenM_rng (x4 - 1900) mo
      refine zicmp_lt (pc := 20) hx hb 37 (by omega) (by omega) dX9_monthFor_20 (by decide) (fun c20 => ?_) (fun c20 => ?_)
      · skip
        refine lv_iload_n (pc := 37) hx hb dX9_monthFor_37 rfl (lv_at hl 1 rfl) ?_
        exact zretI (pc := 38) hx hb hlocks hr hw (Nat.zero_le _) (Nat.zero_le _) dX9_monthFor_38 ⟨by (try dsimp only) <;> (
                                        have e := mi_uniq (d := day) (i := 12 * (x4 - 1900) + mo - 1) (by omega) (by omega) (by omega) (by omega)
                                        omega), rfl, rfl, rfl⟩
      · skip
        refine lv_iload_n (pc := 23) hx hb dX9_monthFor_23 rfl (lv_at hl 0 rfl) ?_
        refine lv_iload_n (pc := 24) hx hb dX9_monthFor_24 rfl (lv_at hl 2 rfl) ?_
        refine lv_iload_n (pc := 25) hx hb dX9_monthFor_25 rfl (lv_at hl 1 rfl) ?_
        refine zkIp (pc := 26) (zrS (As := [.int (iI x4), .int (iI mo)]) hx hb hml hown hG hw (c_X9_lengthOf l Γ K X Rf x4 mo  (by (first | assumption | omega)) (by (first | assumption | omega))) cb_X9_lengthOf wl_X9_100 rfl ⟨Nat.le_of_ble_eq_true rfl, Nat.le_of_ble_eq_true rfl⟩ hl.1 rfl (Nat.le_of_ble_eq_true rfl) dX9_monthFor_26 ⟨Nat.zero_le _, Nat.zero_le _⟩) hw (fun r26 H locs hp26 hw => ?_)
        subst hp26
        have hp26f0 := lenM_mB (year := x4) (month := mo) (by omega) (by omega)
        have hp26f1 := lenM_rng (x4 - 1900) mo
        refine zsub (pc := 29) hx hb dX9_monthFor_29 ?_
        refine ztop (fun x30 ex30 => ?_)
        refine lv_istore_n (pc := 30) (lv' := [(3, .int (iI x30)), (2, .int (iI mo)), (1, .int (iI x4)), (0, .int (iI day))]) hx hb dX9_monthFor_30 rfl hl (by decide) rfl (fun ls hl => ?_)
        refine ziinc (pc := 31) (lv' := [(2, .int (iI (mo + 1))), (3, .int (iI x30)), (1, .int (iI x4)), (0, .int (iI day))]) hx hb 1 dX9_monthFor_31 hl rfl (by decide) rfl (fun ls hl => ?_)
        obtain ⟨x31, ex31⟩ : ∃ zz : Int, zz = (mo + 1) := ⟨_, rfl⟩
        rw [← ex31] at hl
        refine lv_goto (pc := 34) (tgt := 14) hx hb dX9_monthFor_34 (by decide) ?_
        have hst : mo ≠ 12 := fun q => by
          have e := mB_dec (y := x4 - 1900) (by omega) (by omega)
          rw [show 12 * (x4 - 1900) + 12 = 12 * (x4 - 1900) + mo - 1 + 1 by omega, show x4 - 1900 + 1 = yr day + 1 by omega] at e
          omega
        exact ih14 x30 x31 _ _ (by (first | assumption | omega)) (by rw [ex31, show 12 * (x4 - 1900) + (mo + 1) - 1 = 12 * (x4 - 1900) + mo - 1 + 1 by omega]; omega) (by omega) hw _ (lv_sub hl [1, 0, 2, 3] rfl)
  exact lp14 _ x13 1 _ _ (by (first | assumption | omega)) (by rw [show 12 * (x4 - 1900) + 1 - 1 = 12 * (x4 - 1900) by omega, mB_jan (by omega) (by omega)]; have e9 : yb (x4 - 1900) = yb (yr day) := (by rw [show x4 - 1900 = yr day by omega]); omega) (Nat.lt_succ_self _) hw _ (lv_sub hl [0, 1, 2, 3] rfl)
set_option maxHeartbeats 4000000 in
set_option maxRecDepth 100000 in
theorem c_X9_dateFor (l : Launch) (Γ : zG) (K : zK) (X : zX) (Rf : zR) (day : Int)  (h1 : 0 ≤ day ∧ day ≤ 73048) : Ct l yX9_dateFor cX9_dateFor 1 (some .int) 4 0 0 Γ [.int (iI day)] K X Rf (pI (zp0 K X Rf (fun r : Int => r = day - mB (mi day) + 1))) := by
  refine Ct.of (by decide +kernel) (Nat.le_of_ble_eq_true rfl) ?_
  intro p e s m below meth c ls hx hb hr hml hown hG hlocks hname hw hl
  have hl : lv_has ls 1 [(0, .int (iI day))] := hl
  refine lv_iload_n (pc := 0) hx hb dX9_dateFor_0 rfl (lv_at hl 0 rfl) ?_
  refine lv_iload_n (pc := 1) hx hb dX9_dateFor_1 rfl (lv_at hl 0 rfl) ?_
  refine zkIp (pc := 2) (zrS (As := [.int (iI day)]) hx hb hml hown hG hw (c_X9_yearFor l Γ K X Rf day  (by (first | assumption | omega))) cb_X9_yearFor wl_X9_109 rfl ⟨Nat.le_of_ble_eq_true rfl, Nat.le_of_ble_eq_true rfl⟩ hl.1 rfl (Nat.le_of_ble_eq_true rfl) dX9_dateFor_2 ⟨Nat.zero_le _, Nat.zero_le _⟩) hw (fun r2 H locs hp2 hw => ?_)
  subst hp2
  have hp2f0 := yr_rng (d := day) (by omega) (by omega)
  refine lv_iload_n (pc := 5) hx hb dX9_dateFor_5 rfl (lv_at hl 0 rfl) ?_
  refine zkIp (pc := 6) (zrS (As := [.int (iI day)]) hx hb hml hown hG hw (c_X9_monthFor l Γ K X Rf day  (by (first | assumption | omega))) cb_X9_monthFor wl_X9_112 rfl ⟨Nat.le_of_ble_eq_true rfl, Nat.le_of_ble_eq_true rfl⟩ hl.1 rfl (Nat.le_of_ble_eq_true rfl) dX9_dateFor_6 ⟨Nat.zero_le _, Nat.zero_le _⟩) hw (fun r6 H locs hp6 hw => ?_)
  subst hp6
  have hp6f0 := mi_rng (d := day) (by omega) (by omega)
  have hp6f1 := yr_mi (d := day) (by omega) (by omega)
  refine ziconst (pc := 9) (n := 1) hx hb dX9_dateFor_9 ?_
  refine zkIp (pc := 10) (zrS (As := [.int (iI (1900 + yr day)), .int (iI (mi day % 12 + 1)), .int (iI 1)]) hx hb hml hown hG hw (c_X9_dayFor l Γ K X Rf (1900 + yr day) (mi day % 12 + 1) 1  (by (first | assumption | omega)) (by (first | assumption | omega)) (by (first | assumption | omega))) cb_X9_dayFor wl_X9_115 rfl ⟨Nat.le_of_ble_eq_true rfl, Nat.le_of_ble_eq_true rfl⟩ hl.1 rfl (Nat.le_of_ble_eq_true rfl) dX9_dateFor_10 ⟨Nat.zero_le _, Nat.zero_le _⟩) hw (fun r10 H locs hp10 hw => ?_)
  subst hp10
  have hp10f0 := mB_rng (12 * ((1900 + yr day) - 1900) + (mi day % 12 + 1) - 1)
  refine zsub (pc := 13) hx hb dX9_dateFor_13 ?_
  refine ziconst (pc := 14) (n := 1) hx hb dX9_dateFor_14 ?_
  refine zadd (pc := 15) hx hb dX9_dateFor_15 ?_
  exact zretI (pc := 16) hx hb hlocks hr hw (Nat.zero_le _) (Nat.zero_le _) dX9_dateFor_16 ⟨by (try dsimp only) <;> (rw [show 12 * (1900 + yr day - 1900) + (mi day % 12 + 1) - 1 = mi day by omega]; omega), rfl, rfl, rfl⟩
set_option maxHeartbeats 4000000 in
set_option maxRecDepth 100000 in
theorem c_X9_easterFor (l : Launch) (Γ : zG) (K : zK) (X : zX) (Rf : zR) (year : Int)  (h1 : 1900 ≤ year ∧ year ≤ 2099) : Ct l yX9_easterFor cX9_easterFor 7 (some .int) 2 0 0 Γ [.int (iI year)] K X Rf (pI (zp0 K X Rf (fun r : Int => r = est year))) := by
  refine Ct.of (by decide +kernel) (Nat.le_of_ble_eq_true rfl) ?_
  intro p e s m below meth c ls hx hb hr hml hown hG hlocks hname hw hl
  have hl : lv_has ls 7 [(0, .int (iI year))] := hl
  refine lv_iload_n (pc := 0) hx hb dX9_easterFor_0 rfl (lv_at hl 0 rfl) ?_
  refine zbipush (pc := 1) (n := 19) hx hb dX9_easterFor_1 rfl ?_
  refine zrem (pc := 3) hx hb (by omega) dX9_easterFor_3 ?_
  refine ztop (fun x4 ex4 => ?_)
  refine lv_istore_n (pc := 4) (lv' := [(1, .int (iI x4)), (0, .int (iI year))]) hx hb dX9_easterFor_4 rfl hl (by decide) rfl (fun ls hl => ?_)
  refine lv_iload_n (pc := 5) hx hb dX9_easterFor_5 rfl (lv_at hl 1 rfl) ?_
  refine zbipush (pc := 6) (n := 100) hx hb dX9_easterFor_6 rfl ?_
  refine zdiv (pc := 8) hx hb (by omega) dX9_easterFor_8 ?_
  refine ztop (fun x9 ex9 => ?_)
  refine lv_istore_n (pc := 9) (lv' := [(2, .int (iI x9)), (1, .int (iI x4)), (0, .int (iI year))]) hx hb dX9_easterFor_9 rfl hl (by decide) rfl (fun ls hl => ?_)
  refine lv_iload_n (pc := 10) hx hb dX9_easterFor_10 rfl (lv_at hl 2 rfl) ?_
  refine zbipush (pc := 11) (n := 100) hx hb dX9_easterFor_11 rfl ?_
  refine zrem (pc := 13) hx hb (by omega) dX9_easterFor_13 ?_
  refine ztop (fun x14 ex14 => ?_)
  refine lv_istore_n (pc := 14) (lv' := [(3, .int (iI x14)), (2, .int (iI x9)), (1, .int (iI x4)), (0, .int (iI year))]) hx hb dX9_easterFor_14 rfl hl (by decide) rfl (fun ls hl => ?_)
  refine zbipush (pc := 15) (n := 19) hx hb dX9_easterFor_15 rfl ?_
  refine lv_iload_n (pc := 17) hx hb dX9_easterFor_17 rfl (lv_at hl 2 rfl) ?_
  refine zmul (pc := 18) hx hb dX9_easterFor_18 ?_
  refine lv_iload_n (pc := 19) hx hb dX9_easterFor_19 rfl (lv_at hl 1 rfl) ?_
  refine zadd (pc := 20) hx hb dX9_easterFor_20 ?_
  refine lv_iload_n (pc := 21) hx hb dX9_easterFor_21 rfl (lv_at hl 1 rfl) ?_
  refine ziconst (pc := 22) (n := 4) hx hb dX9_easterFor_22 ?_
  refine zdiv (pc := 23) hx hb (by omega) dX9_easterFor_23 ?_
  refine zsub (pc := 24) hx hb dX9_easterFor_24 ?_
  refine lv_iload_n (pc := 25) hx hb dX9_easterFor_25 rfl (lv_at hl 1 rfl) ?_
  refine lv_iload_n (pc := 26) hx hb dX9_easterFor_26 rfl (lv_at hl 1 rfl) ?_
  refine zbipush (pc := 27) (n := 8) hx hb dX9_easterFor_27 rfl ?_
  refine zadd (pc := 29) hx hb dX9_easterFor_29 ?_
  refine zbipush (pc := 30) (n := 25) hx hb dX9_easterFor_30 rfl ?_
  refine zdiv (pc := 32) hx hb (by omega) dX9_easterFor_32 ?_
  refine zsub (pc := 33) hx hb dX9_easterFor_33 ?_
  refine ziconst (pc := 34) (n := 1) hx hb dX9_easterFor_34 ?_
  refine zadd (pc := 35) hx hb dX9_easterFor_35 ?_
  refine ziconst (pc := 36) (n := 3) hx hb dX9_easterFor_36 ?_
  refine zdiv (pc := 37) hx hb (by omega) dX9_easterFor_37 ?_
  refine zsub (pc := 38) hx hb dX9_easterFor_38 ?_
  refine zbipush (pc := 39) (n := 15) hx hb dX9_easterFor_39 rfl ?_
  refine zadd (pc := 41) hx hb dX9_easterFor_41 ?_
  refine zbipush (pc := 42) (n := 30) hx hb dX9_easterFor_42 rfl ?_
  refine zrem (pc := 44) hx hb (by omega) dX9_easterFor_44 ?_
  refine ztop (fun x45 ex45 => ?_)
  refine lv_istore (pc := 45) (lv' := [(4, .int (iI x45)), (3, .int (iI x14)), (2, .int (iI x9)), (1, .int (iI x4)), (0, .int (iI year))]) hx hb dX9_easterFor_45 hl (by decide) rfl (fun ls hl => ?_)
  refine zbipush (pc := 47) (n := 32) hx hb dX9_easterFor_47 rfl ?_
  refine ziconst (pc := 49) (n := 2) hx hb dX9_easterFor_49 ?_
  refine lv_iload_n (pc := 50) hx hb dX9_easterFor_50 rfl (lv_at hl 2 rfl) ?_
  refine ziconst (pc := 51) (n := 4) hx hb dX9_easterFor_51 ?_
  refine zrem (pc := 52) hx hb (by omega) dX9_easterFor_52 ?_
  refine zmul (pc := 53) hx hb dX9_easterFor_53 ?_
  refine zadd (pc := 54) hx hb dX9_easterFor_54 ?_
  refine ziconst (pc := 55) (n := 2) hx hb dX9_easterFor_55 ?_
  refine lv_iload_n (pc := 56) hx hb dX9_easterFor_56 rfl (lv_at hl 1 rfl) ?_
  refine ziconst (pc := 57) (n := 4) hx hb dX9_easterFor_57 ?_
  refine zdiv (pc := 58) hx hb (by omega) dX9_easterFor_58 ?_
  refine zmul (pc := 59) hx hb dX9_easterFor_59 ?_
  refine zadd (pc := 60) hx hb dX9_easterFor_60 ?_
  refine lv_iload (pc := 61) hx hb dX9_easterFor_61 (lv_at hl 0 rfl) ?_
  refine zsub (pc := 63) hx hb dX9_easterFor_63 ?_
  refine lv_iload_n (pc := 64) hx hb dX9_easterFor_64 rfl (lv_at hl 1 rfl) ?_
  refine ziconst (pc := 65) (n := 4) hx hb dX9_easterFor_65 ?_
  refine zrem (pc := 66) hx hb (by omega) dX9_easterFor_66 ?_
  refine zsub (pc := 67) hx hb dX9_easterFor_67 ?_
  refine zbipush (pc := 68) (n := 7) hx hb dX9_easterFor_68 rfl ?_
  refine zrem (pc := 70) hx hb (by omega) dX9_easterFor_70 ?_
  refine ztop (fun x71 ex71 => ?_)
  refine lv_istore (pc := 71) (lv' := [(5, .int (iI x71)), (4, .int (iI x45)), (3, .int (iI x14)), (2, .int (iI x9)), (1, .int (iI x4)), (0, .int (iI year))]) hx hb dX9_easterFor_71 hl (by decide) rfl (fun ls hl => ?_)
  refine lv_iload (pc := 73) hx hb dX9_easterFor_73 (lv_at hl 1 rfl) ?_
  refine lv_iload (pc := 75) hx hb dX9_easterFor_75 (lv_at hl 0 rfl) ?_
  refine zadd (pc := 77) hx hb dX9_easterFor_77 ?_
  refine zbipush (pc := 78) (n := 7) hx hb dX9_easterFor_78 rfl ?_
  refine lv_iload_n (pc := 80) hx hb dX9_easterFor_80 rfl (lv_at hl 4 rfl) ?_
  refine zbipush (pc := 81) (n := 11) hx hb dX9_easterFor_81 rfl ?_
  refine lv_iload (pc := 83) hx hb dX9_easterFor_83 (lv_at hl 1 rfl) ?_
  refine zmul (pc := 85) hx hb dX9_easterFor_85 ?_
  refine zadd (pc := 86) hx hb dX9_easterFor_86 ?_
  refine zbipush (pc := 87) (n := 22) hx hb dX9_easterFor_87 rfl ?_
  refine lv_iload (pc := 89) hx hb dX9_easterFor_89 (lv_at hl 0 rfl) ?_
  refine zmul (pc := 91) hx hb dX9_easterFor_91 ?_
  refine zadd (pc := 92) hx hb dX9_easterFor_92 ?_
  refine zsipush (pc := 93) (n := 451) hx hb dX9_easterFor_93 rfl ?_
  refine zdiv (pc := 96) hx hb (by omega) dX9_easterFor_96 ?_
  refine zmul (pc := 97) hx hb dX9_easterFor_97 ?_
  refine zsub (pc := 98) hx hb dX9_easterFor_98 ?_
  refine zbipush (pc := 99) (n := 114) hx hb dX9_easterFor_99 rfl ?_
  refine zadd (pc := 101) hx hb dX9_easterFor_101 ?_
  refine ztop (fun x102 ex102 => ?_)
  refine lv_istore (pc := 102) (lv' := [(6, .int (iI x102)), (5, .int (iI x71)), (4, .int (iI x45)), (3, .int (iI x14)), (2, .int (iI x9)), (1, .int (iI x4)), (0, .int (iI year))]) hx hb dX9_easterFor_102 hl (by decide) rfl (fun ls hl => ?_)
  have hf : x102 = estf year := by subst_vars; rfl
  have hfr := estf_rng (year := year) (by omega) (by omega)
  refine lv_iload_n (pc := 104) hx hb dX9_easterFor_104 rfl (lv_at hl 6 rfl) ?_
  refine lv_iload (pc := 105) hx hb dX9_easterFor_105 (lv_at hl 0 rfl) ?_
  refine zbipush (pc := 107) (n := 31) hx hb dX9_easterFor_107 rfl ?_
  refine zdiv (pc := 109) hx hb (by omega) dX9_easterFor_109 ?_
  refine lv_iload (pc := 110) hx hb dX9_easterFor_110 (lv_at hl 0 rfl) ?_
  refine zbipush (pc := 112) (n := 31) hx hb dX9_easterFor_112 rfl ?_
  refine zrem (pc := 114) hx hb (by omega) dX9_easterFor_114 ?_
  refine ziconst (pc := 115) (n := 1) hx hb dX9_easterFor_115 ?_
  refine zadd (pc := 116) hx hb dX9_easterFor_116 ?_
  refine zkIp (pc := 117) (zrS (As := [.int (iI year), .int (iI (x102 / 31)), .int (iI ((x102 % 31) + 1))]) hx hb hml hown hG hw (c_X9_dayFor l Γ K X Rf year (x102 / 31) ((x102 % 31) + 1)  (by (first | assumption | omega)) (by (first | assumption | omega)) (by (first | assumption | omega))) cb_X9_dayFor wl_X9_115 rfl ⟨Nat.le_of_ble_eq_true rfl, Nat.le_of_ble_eq_true rfl⟩ hl.1 rfl (Nat.le_of_ble_eq_true rfl) dX9_easterFor_117 ⟨Nat.zero_le _, Nat.zero_le _⟩) hw (fun r117 H locs hp117 hw => ?_)
  subst hp117
  have hp117f0 := mB_rng (12 * (year - 1900) + (x102 / 31) - 1)
  exact zretI (pc := 120) hx hb hlocks hr hw (Nat.zero_le _) (Nat.zero_le _) dX9_easterFor_120 ⟨by (try dsimp only) <;> (unfold est; rw [← hf]; omega), rfl, rfl, rfl⟩
set_option maxHeartbeats 4000000 in
set_option maxRecDepth 100000 in
theorem c_X9_thursday (l : Launch) (Γ : zG) (K : zK) (X : zX) (Rf : zR) (day : Int)  (h1 : 0 ≤ day ∧ day ≤ 73048) : Ct l yX9_thursday cX9_thursday 1 (some .int) 0 0 0 Γ [.int (iI day)] K X Rf (pI (zp0 K X Rf (fun r : Int => r = day - day % 7 + 3))) := by
  refine Ct.of (by decide +kernel) (Nat.le_of_ble_eq_true rfl) ?_
  intro p e s m below meth c ls hx hb hr hml hown hG hlocks hname hw hl
  have hl : lv_has ls 1 [(0, .int (iI day))] := hl
  refine lv_iload_n (pc := 0) hx hb dX9_thursday_0 rfl (lv_at hl 0 rfl) ?_
  refine zbipush (pc := 1) (n := 7) hx hb dX9_thursday_1 rfl ?_
  refine zdiv (pc := 3) hx hb (by omega) dX9_thursday_3 ?_
  refine zbipush (pc := 4) (n := 7) hx hb dX9_thursday_4 rfl ?_
  refine zmul (pc := 6) hx hb dX9_thursday_6 ?_
  refine ziconst (pc := 7) (n := 3) hx hb dX9_thursday_7 ?_
  refine zadd (pc := 8) hx hb dX9_thursday_8 ?_
  exact zretI (pc := 9) hx hb hlocks hr hw (Nat.zero_le _) (Nat.zero_le _) dX9_thursday_9 ⟨by (try dsimp only) <;> ((first | assumption | omega)), rfl, rfl, rfl⟩
set_option maxHeartbeats 4000000 in
set_option maxRecDepth 100000 in
theorem c_X9_refuse (l : Launch) (Γ : zG) (K : zK) (X : zX) (Rf : zR) (md : Nat) (nu : Int)  (hmd : K md = (1, 8)) : Ct l yX9_refuse cX9_refuse 2 (some .int) 0 0 0 Γ [.ref md, .int (iI nu)] K X Rf (pI (zpx K Rf (fun (r : Int) (X' : zX) => r = 0 ∧ X' = up2 X md 0 nu))) := by
  refine Ct.of (by decide +kernel) (Nat.le_of_ble_eq_true rfl) ?_
  intro p e s m below meth c ls hx hb hr hml hown hG hlocks hname hw hl
  have hl : lv_has ls 2 [(0, .ref md), (1, .int (iI nu))] := hl
  refine lv_aload_n (pc := 0) hx hb dX9_refuse_0 rfl (lv_at hl 0 rfl) ?_
  refine lv_iload_n (pc := 1) hx hb dX9_refuse_1 rfl (lv_at hl 1 rfl) ?_
  refine zputI (pc := 2) hx hb hG hown hw hmd (T := TX9) rfl 0 (by decide) rfl wf_X9_87 rfl (by decide +kernel) rfl dX9_refuse_2 (fun H locs hw => ?_)
  obtain ⟨X2, eX2⟩ : ∃ Y : zX, Y = up2 X md 0 nu := ⟨_, rfl⟩
  rw [← eX2] at hw
  refine ziconst (pc := 5) (n := 0) hx hb dX9_refuse_5 ?_
  exact zretI (pc := 6) hx hb hlocks hr hw (Nat.zero_le _) (Nat.zero_le _) dX9_refuse_6 ⟨by (try dsimp only) <;> (exact ⟨rfl, eX2⟩), rfl, rfl⟩
set_option maxHeartbeats 4000000 in
set_option maxRecDepth 100000 in
theorem c_X9_thrown (l : Launch) (Γ : zG) (K : zK) (X : zX) (Rf : zR) (md : Nat)  (hmd : K md = (1, 8)) : Ct l yX9_thrown cX9_thrown 1 (some .int) 0 0 0 Γ [.ref md] K X Rf (pI (zp0 K X Rf (fun r : Int => r = X md 0))) := by
  refine Ct.of (by decide +kernel) (Nat.le_of_ble_eq_true rfl) ?_
  intro p e s m below meth c ls hx hb hr hml hown hG hlocks hname hw hl
  have hl : lv_has ls 1 [(0, .ref md)] := hl
  refine lv_aload_n (pc := 0) hx hb dX9_thrown_0 rfl (lv_at hl 0 rfl) ?_
  refine zgetI (pc := 1) hx hb hG hown hw hmd (T := TX9) rfl 0 (by decide) rfl wf_X9_87 rfl dX9_thrown_1 ?_
  exact zretI (pc := 4) hx hb hlocks hr hw (Nat.zero_le _) (Nat.zero_le _) dX9_thrown_4 ⟨by (try dsimp only) <;> ((first | assumption | omega)), rfl, rfl, rfl⟩
set_option maxHeartbeats 4000000 in
set_option maxRecDepth 100000 in
theorem c_X9_toldIn (l : Launch) (Γ : zG) (K : zK) (X : zX) (Rf : zR) (md : Nat) (pattern : Int) (year : Int) (month : Int) (a2 : Nat) (a3 : Nat) (a4 : Nat) (hmd : K md = (1, 8)) (hB2 : Rf md 2 = some a2) (hB3 : Rf md 3 = some a3) (hB4 : Rf md 4 = some a4) (hA2 : K a2 = (2, 24)) (hA3 : K a3 = (2, 24)) (hA4 : K a4 = (2, 24)) (hP : okP2 (pfX X a2 a3 a4 pattern.toNat)) (h0 : 0 ≤ pattern ∧ pattern < 24) (h1 : 1900 ≤ year ∧ year ≤ 2099) (h2 : 1 ≤ month ∧ month ≤ 12) : Ct l yX9_toldIn cX9_toldIn 9 (some .int) 4 0 0 Γ [.ref md, .int (iI pattern), .int (iI year), .int (iI month)] K X Rf (pI (zp0 K X Rf (fun r : Int => r = told (pfX X a2 a3 a4 pattern.toNat) (12 * (year - 1900) + month - 1)))) := by
  refine Ct.of (by decide +kernel) (Nat.le_of_ble_eq_true rfl) ?_
  intro p e s m below meth c ls hx hb hr hml hown hG hlocks hname hw hl
  have hl : lv_has ls 9 [(0, .ref md), (1, .int (iI pattern)), (2, .int (iI year)), (3, .int (iI month))] := hl
  have e0 : pfX X a2 a3 a4 pattern.toNat 0 = X a2 pattern.toNat := rfl
  have e1 : pfX X a2 a3 a4 pattern.toNat 1 = X a3 pattern.toNat := rfl
  have e2 : pfX X a2 a3 a4 pattern.toNat 2 = X a4 pattern.toNat := rfl
  have hi12 : (12 * (year - 1900) + month - 1) % 12 + 1 = month := by omega
  refine lv_aload_n (pc := 0) hx hb dX9_toldIn_0 rfl (lv_at hl 0 rfl) ?_
  refine zgetR (pc := 1) hx hb hG hown hw hmd (T := TX9) rfl 3 (by decide) rfl wf_X9_13 rfl hB3 dX9_toldIn_1 ?_
  refine lv_iload_n (pc := 4) hx hb dX9_toldIn_4 rfl (lv_at hl 1 rfl) ?_
  refine zald (pc := 5) hx hb hw hA3 ⟨by omega, by omega⟩ (by omega) dX9_toldIn_5 ?_
  refine ztop (fun x6 ex6 => ?_)
  refine lv_istore (pc := 6) (lv' := [(4, .int (iI x6)), (0, .ref md), (1, .int (iI pattern)), (2, .int (iI year)), (3, .int (iI month))]) hx hb dX9_toldIn_6 hl (by decide) rfl (fun ls hl => ?_)
  refine lv_aload_n (pc := 8) hx hb dX9_toldIn_8 rfl (lv_at hl 1 rfl) ?_
  refine zgetR (pc := 9) hx hb hG hown hw hmd (T := TX9) rfl 4 (by decide) rfl wf_X9_16 rfl hB4 dX9_toldIn_9 ?_
  refine lv_iload_n (pc := 12) hx hb dX9_toldIn_12 rfl (lv_at hl 2 rfl) ?_
  refine zald (pc := 13) hx hb hw hA4 ⟨by omega, by omega⟩ (by omega) dX9_toldIn_13 ?_
  refine ztop (fun x14 ex14 => ?_)
  refine lv_istore (pc := 14) (lv' := [(5, .int (iI x14)), (4, .int (iI x6)), (0, .ref md), (1, .int (iI pattern)), (2, .int (iI year)), (3, .int (iI month))]) hx hb dX9_toldIn_14 hl (by decide) rfl (fun ls hl => ?_)
  refine lv_iload (pc := 16) hx hb dX9_toldIn_16 (lv_at hl 1 rfl) ?_
  refine zbipush (pc := 18) (n := 16) hx hb dX9_toldIn_18 rfl ?_
  refine zicmp_ne (pc := 20) hx hb 68 (by omega) (by omega) dX9_toldIn_20 (by decide) (fun c20 => ?_) (fun c20 => ?_)
  · skip
    refine lv_aload_n (pc := 68) hx hb dX9_toldIn_68 rfl (lv_at hl 2 rfl) ?_
    refine zgetR (pc := 69) hx hb hG hown hw hmd (T := TX9) rfl 2 (by decide) rfl wf_X9_9 rfl hB2 dX9_toldIn_69 ?_
    refine lv_iload_n (pc := 72) hx hb dX9_toldIn_72 rfl (lv_at hl 3 rfl) ?_
    refine zald (pc := 73) hx hb hw hA2 ⟨by omega, by omega⟩ (by omega) dX9_toldIn_73 ?_
    refine zif_eq (pc := 74) hx hb 89 (by omega) dX9_toldIn_74 (by decide) (fun c74 => ?_) (fun c74 => ?_)
    · skip
      refine lv_iload_n (pc := 89) hx hb dX9_toldIn_89 rfl (lv_at hl 4 rfl) ?_
      refine lv_iload_n (pc := 90) hx hb dX9_toldIn_90 rfl (lv_at hl 5 rfl) ?_
      refine ziconst (pc := 91) (n := 1) hx hb dX9_toldIn_91 ?_
      refine zkIp (pc := 92) (zrS (As := [.int (iI year), .int (iI month), .int (iI 1)]) hx hb hml hown hG hw (c_X9_dayFor l Γ K X Rf year month 1  (by (first | assumption | omega)) (by (first | assumption | omega)) (by (first | assumption | omega))) cb_X9_dayFor wl_X9_115 rfl ⟨Nat.le_of_ble_eq_true rfl, Nat.le_of_ble_eq_true rfl⟩ hl.1 rfl (Nat.le_of_ble_eq_true rfl) dX9_toldIn_92 ⟨Nat.zero_le _, Nat.zero_le _⟩) hw (fun r92 H locs hp92 hw => ?_)
      subst hp92
      have hp92f0 := mB_rng (12 * (year - 1900) + month - 1)
      refine ztop (fun x95 ex95 => ?_)
      refine lv_istore (pc := 95) (lv' := [(6, .int (iI x95)), (5, .int (iI x14)), (4, .int (iI x6)), (0, .ref md), (1, .int (iI pattern)), (2, .int (iI year)), (3, .int (iI month))]) hx hb dX9_toldIn_95 hl (by decide) rfl (fun ls hl => ?_)
      refine lv_iload_n (pc := 97) hx hb dX9_toldIn_97 rfl (lv_at hl 5 rfl) ?_
      refine lv_iload_n (pc := 98) hx hb dX9_toldIn_98 rfl (lv_at hl 6 rfl) ?_
      refine zkIp (pc := 99) (zrS (As := [.int (iI year), .int (iI month)]) hx hb hml hown hG hw (c_X9_lengthOf l Γ K X Rf year month  (by (first | assumption | omega)) (by (first | assumption | omega))) cb_X9_lengthOf wl_X9_100 rfl ⟨Nat.le_of_ble_eq_true rfl, Nat.le_of_ble_eq_true rfl⟩ hl.1 rfl (Nat.le_of_ble_eq_true rfl) dX9_toldIn_99 ⟨Nat.zero_le _, Nat.zero_le _⟩) hw (fun r99 H locs hp99 hw => ?_)
      subst hp99
      have hp99f0 := lenM_mB (year := year) (month := month) (by omega) (by omega)
      have hp99f1 := lenM_rng (year - 1900) month
      refine ztop (fun x102 ex102 => ?_)
      refine lv_istore (pc := 102) (lv' := [(7, .int (iI x102)), (6, .int (iI x95)), (5, .int (iI x14)), (4, .int (iI x6)), (0, .ref md), (1, .int (iI pattern)), (2, .int (iI year)), (3, .int (iI month))]) hx hb dX9_toldIn_102 hl (by decide) rfl (fun ls hl => ?_)
      refine lv_iload (pc := 104) hx hb dX9_toldIn_104 (lv_at hl 2 rfl) ?_
      refine lv_istore (pc := 106) (lv' := [(8, .int (iI x14)), (7, .int (iI x102)), (6, .int (iI x95)), (5, .int (iI x14)), (4, .int (iI x6)), (0, .ref md), (1, .int (iI pattern)), (2, .int (iI year)), (3, .int (iI month))]) hx hb dX9_toldIn_106 hl (by decide) rfl (fun ls hl => ?_)
      have jn206_0 : ∀ (dt : Int) (H : Heap) (locs : List Loc), (hj : dt = numT (pfX X a2 a3 a4 pattern.toNat) x95 x102) → Wd Γ (zA K s.heap.size) K X Rf s H locs → ∀ ls : Array Slot, lv_has ls 9 [(8, .int (iI dt)), (7, .int (iI x102)), (6, .int (iI x95)), (5, .int (iI x14)), (4, .int (iI x6)), (0, .ref md), (1, .int (iI pattern)), (2, .int (iI year)), (3, .int (iI month))] → W p l e (rmL 4 0 0) s m ([.ref md, .int (iI pattern), .int (iI year), .int (iI month)] : List Value).toArray below meth c H locs 0 0 (MQ below (zQ Γ K s.heap.size (pI (zp0 K X Rf (fun r : Int => r = told (pfX X a2 a3 a4 pattern.toNat) (12 * (year - 1900) + month - 1))))) ([.ref md, .int (iI pattern), .int (iI year), .int (iI month)] : List Value).toArray s 0 0 (zA K s.heap.size)) (F0 m 206 ls []) := by
        intro dt H locs hj hw ls hl
        have hx95 : x95 = mB (12 * (year - 1900) + month - 1) := by omega
        have hx102 : x102 = mB (12 * (year - 1900) + month - 1 + 1) - mB (12 * (year - 1900) + month - 1) := by omega
        have hlm := lenM_rng (year - 1900) month
        have hdt : -2000 ≤ dt ∧ dt ≤ 2000 := by
          rw [hj]; unfold numT; (repeat' split) <;> omega
        have htn := toldN (P := pfX X a2 a3 a4 pattern.toNat) (i := 12 * (year - 1900) + month - 1) (n := dt) (by omega) (by omega) (by rw [hj, hx95, hx102])
        refine lv_iload (pc := 206) hx hb dX9_toldIn_206 (lv_at hl 0 rfl) ?_
        refine ziconst (pc := 208) (n := 1) hx hb dX9_toldIn_208 ?_
        refine lv_iload (pc := 209) hx hb dX9_toldIn_209 (lv_at hl 1 rfl) ?_
        refine zkIp (pc := 211) (zrS (As := [.int (iI dt), .int (iI 1), .int (iI x102)]) hx hb hml hown hG hw (c_X9_is l Γ K X Rf dt 1 x102  (by (first | assumption | omega))) cb_X9_is wl_X9_91 rfl ⟨Nat.le_of_ble_eq_true rfl, Nat.le_of_ble_eq_true rfl⟩ hl.1 rfl (Nat.le_of_ble_eq_true rfl) dX9_toldIn_211 ⟨Nat.zero_le _, Nat.zero_le _⟩) hw (fun r211 H locs hp211 hw => ?_)
        subst hp211
        refine zif_eq (pc := 214) hx hb 227 (by omega) dX9_toldIn_214 (by decide) (fun c214 => ?_) (fun c214 => ?_)
        · skip
          refine ziconst (pc := 227) (n := (-1)) hx hb dX9_toldIn_227 ?_
          exact zretI (pc := 228) hx hb hlocks hr hw (Nat.zero_le _) (Nat.zero_le _) dX9_toldIn_228 ⟨by (try dsimp only) <;> (rw [htn]; first | (rw [if_pos ⟨by omega, by omega⟩]; omega) | (rw [if_neg (by omega)])), rfl, rfl, rfl⟩
        · skip
          refine lv_iload (pc := 217) hx hb dX9_toldIn_217 (lv_at hl 2 rfl) ?_
          refine lv_iload (pc := 219) hx hb dX9_toldIn_219 (lv_at hl 0 rfl) ?_
          refine zadd (pc := 221) hx hb dX9_toldIn_221 ?_
          refine ziconst (pc := 222) (n := 1) hx hb dX9_toldIn_222 ?_
          refine zsub (pc := 223) hx hb dX9_toldIn_223 ?_
          refine lv_goto (pc := 224) (tgt := 228) hx hb dX9_toldIn_224 (by decide) ?_
          exact zretI (pc := 228) hx hb hlocks hr hw (Nat.zero_le _) (Nat.zero_le _) dX9_toldIn_228 ⟨by (try dsimp only) <;> (rw [htn]; first | (rw [if_pos ⟨by omega, by omega⟩]; omega) | (rw [if_neg (by omega)])), rfl, rfl, rfl⟩
      refine lv_iload (pc := 108) hx hb dX9_toldIn_108 (lv_at hl 4 rfl) ?_
      refine ziconst (pc := 110) (n := 1) hx hb dX9_toldIn_110 ?_
      refine zicmp_ne (pc := 111) hx hb 123 (by omega) (by omega) dX9_toldIn_111 (by decide) (fun c111 => ?_) (fun c111 => ?_)
      · skip
        refine lv_iload (pc := 123) hx hb dX9_toldIn_123 (lv_at hl 4 rfl) ?_
        refine ziconst (pc := 125) (n := 2) hx hb dX9_toldIn_125 ?_
        refine zicmp_lt (pc := 126) hx hb 164 (by omega) (by omega) dX9_toldIn_126 (by decide) (fun c126 => ?_) (fun c126 => ?_)
        · skip
          refine lv_iload (pc := 164) hx hb dX9_toldIn_164 (lv_at hl 4 rfl) ?_
          refine zbipush (pc := 166) (n := 9) hx hb dX9_toldIn_166 rfl ?_
          refine zicmp_lt (pc := 168) hx hb 206 (by omega) (by omega) dX9_toldIn_168 (by decide) (fun c168 => ?_) (fun c168 => ?_)
          · skip
            exact jn206_0 x14 _ _ (by unfold numT; (repeat' split) <;> omega) hw _ (lv_sub hl [0, 1, 2, 3, 4, 5, 6, 7, 8] rfl)
          · skip
            refine lv_iload (pc := 171) hx hb dX9_toldIn_171 (lv_at hl 1 rfl) ?_
            refine lv_iload (pc := 173) hx hb dX9_toldIn_173 (lv_at hl 2 rfl) ?_
            refine lv_iload (pc := 175) hx hb dX9_toldIn_175 (lv_at hl 1 rfl) ?_
            refine zadd (pc := 177) hx hb dX9_toldIn_177 ?_
            refine ziconst (pc := 178) (n := 1) hx hb dX9_toldIn_178 ?_
            refine zsub (pc := 179) hx hb dX9_toldIn_179 ?_
            refine zbipush (pc := 180) (n := 7) hx hb dX9_toldIn_180 rfl ?_
            refine zrem (pc := 182) hx hb (by omega) dX9_toldIn_182 ?_
            refine lv_iload (pc := 183) hx hb dX9_toldIn_183 (lv_at hl 4 rfl) ?_
            refine zbipush (pc := 185) (n := 9) hx hb dX9_toldIn_185 rfl ?_
            refine zsub (pc := 187) hx hb dX9_toldIn_187 ?_
            refine zsub (pc := 188) hx hb dX9_toldIn_188 ?_
            refine zbipush (pc := 189) (n := 7) hx hb dX9_toldIn_189 rfl ?_
            refine zadd (pc := 191) hx hb dX9_toldIn_191 ?_
            refine zbipush (pc := 192) (n := 7) hx hb dX9_toldIn_192 rfl ?_
            refine zrem (pc := 194) hx hb (by omega) dX9_toldIn_194 ?_
            refine zsub (pc := 195) hx hb dX9_toldIn_195 ?_
            refine zbipush (pc := 196) (n := 7) hx hb dX9_toldIn_196 rfl ?_
            refine lv_iload (pc := 198) hx hb dX9_toldIn_198 (lv_at hl 3 rfl) ?_
            refine ziconst (pc := 200) (n := 1) hx hb dX9_toldIn_200 ?_
            refine zsub (pc := 201) hx hb dX9_toldIn_201 ?_
            refine zmul (pc := 202) hx hb dX9_toldIn_202 ?_
            refine zsub (pc := 203) hx hb dX9_toldIn_203 ?_
            refine ztop (fun x204 ex204 => ?_)
            refine lv_istore (pc := 204) (lv' := [(8, .int (iI x204)), (7, .int (iI x102)), (6, .int (iI x95)), (5, .int (iI x14)), (4, .int (iI x6)), (0, .ref md), (1, .int (iI pattern)), (2, .int (iI year)), (3, .int (iI month))]) hx hb dX9_toldIn_204 hl (by decide) rfl (fun ls hl => ?_)
            exact jn206_0 x204 _ _ (by unfold numT; (repeat' split) <;> omega) hw _ (lv_sub hl [0, 1, 2, 3, 4, 5, 6, 7, 8] rfl)
        · skip
          refine lv_iload (pc := 129) hx hb dX9_toldIn_129 (lv_at hl 4 rfl) ?_
          refine zbipush (pc := 131) (n := 9) hx hb dX9_toldIn_131 rfl ?_
          refine zicmp_ge (pc := 133) hx hb 164 (by omega) (by omega) dX9_toldIn_133 (by decide) (fun c133 => ?_) (fun c133 => ?_)
          · skip
            refine lv_iload (pc := 164) hx hb dX9_toldIn_164 (lv_at hl 4 rfl) ?_
            refine zbipush (pc := 166) (n := 9) hx hb dX9_toldIn_166 rfl ?_
            refine zicmp_lt (pc := 168) hx hb 206 (by omega) (by omega) dX9_toldIn_168 (by decide) (fun c168 => ?_) (fun c168 => ?_)
            · skip
              exact jn206_0 x14 _ _ (by unfold numT; (repeat' split) <;> omega) hw _ (lv_sub hl [0, 1, 2, 3, 4, 5, 6, 7, 8] rfl)
            · skip
              refine lv_iload (pc := 171) hx hb dX9_toldIn_171 (lv_at hl 1 rfl) ?_
              refine lv_iload (pc := 173) hx hb dX9_toldIn_173 (lv_at hl 2 rfl) ?_
              refine lv_iload (pc := 175) hx hb dX9_toldIn_175 (lv_at hl 1 rfl) ?_
              refine zadd (pc := 177) hx hb dX9_toldIn_177 ?_
              refine ziconst (pc := 178) (n := 1) hx hb dX9_toldIn_178 ?_
              refine zsub (pc := 179) hx hb dX9_toldIn_179 ?_
              refine zbipush (pc := 180) (n := 7) hx hb dX9_toldIn_180 rfl ?_
              refine zrem (pc := 182) hx hb (by omega) dX9_toldIn_182 ?_
              refine lv_iload (pc := 183) hx hb dX9_toldIn_183 (lv_at hl 4 rfl) ?_
              refine zbipush (pc := 185) (n := 9) hx hb dX9_toldIn_185 rfl ?_
              refine zsub (pc := 187) hx hb dX9_toldIn_187 ?_
              refine zsub (pc := 188) hx hb dX9_toldIn_188 ?_
              refine zbipush (pc := 189) (n := 7) hx hb dX9_toldIn_189 rfl ?_
              refine zadd (pc := 191) hx hb dX9_toldIn_191 ?_
              refine zbipush (pc := 192) (n := 7) hx hb dX9_toldIn_192 rfl ?_
              refine zrem (pc := 194) hx hb (by omega) dX9_toldIn_194 ?_
              refine zsub (pc := 195) hx hb dX9_toldIn_195 ?_
              refine zbipush (pc := 196) (n := 7) hx hb dX9_toldIn_196 rfl ?_
              refine lv_iload (pc := 198) hx hb dX9_toldIn_198 (lv_at hl 3 rfl) ?_
              refine ziconst (pc := 200) (n := 1) hx hb dX9_toldIn_200 ?_
              refine zsub (pc := 201) hx hb dX9_toldIn_201 ?_
              refine zmul (pc := 202) hx hb dX9_toldIn_202 ?_
              refine zsub (pc := 203) hx hb dX9_toldIn_203 ?_
              refine ztop (fun x204 ex204 => ?_)
              refine lv_istore (pc := 204) (lv' := [(8, .int (iI x204)), (7, .int (iI x102)), (6, .int (iI x95)), (5, .int (iI x14)), (4, .int (iI x6)), (0, .ref md), (1, .int (iI pattern)), (2, .int (iI year)), (3, .int (iI month))]) hx hb dX9_toldIn_204 hl (by decide) rfl (fun ls hl => ?_)
              exact jn206_0 x204 _ _ (by unfold numT; (repeat' split) <;> omega) hw _ (lv_sub hl [0, 1, 2, 3, 4, 5, 6, 7, 8] rfl)
          · skip
            refine ziconst (pc := 136) (n := 1) hx hb dX9_toldIn_136 ?_
            refine lv_iload (pc := 137) hx hb dX9_toldIn_137 (lv_at hl 4 rfl) ?_
            refine ziconst (pc := 139) (n := 2) hx hb dX9_toldIn_139 ?_
            refine zsub (pc := 140) hx hb dX9_toldIn_140 ?_
            refine lv_iload (pc := 141) hx hb dX9_toldIn_141 (lv_at hl 2 rfl) ?_
            refine zbipush (pc := 143) (n := 7) hx hb dX9_toldIn_143 rfl ?_
            refine zrem (pc := 145) hx hb (by omega) dX9_toldIn_145 ?_
            refine zsub (pc := 146) hx hb dX9_toldIn_146 ?_
            refine zbipush (pc := 147) (n := 7) hx hb dX9_toldIn_147 rfl ?_
            refine zadd (pc := 149) hx hb dX9_toldIn_149 ?_
            refine zbipush (pc := 150) (n := 7) hx hb dX9_toldIn_150 rfl ?_
            refine zrem (pc := 152) hx hb (by omega) dX9_toldIn_152 ?_
            refine zadd (pc := 153) hx hb dX9_toldIn_153 ?_
            refine zbipush (pc := 154) (n := 7) hx hb dX9_toldIn_154 rfl ?_
            refine lv_iload (pc := 156) hx hb dX9_toldIn_156 (lv_at hl 3 rfl) ?_
            refine ziconst (pc := 158) (n := 1) hx hb dX9_toldIn_158 ?_
            refine zsub (pc := 159) hx hb dX9_toldIn_159 ?_
            refine zmul (pc := 160) hx hb dX9_toldIn_160 ?_
            refine zadd (pc := 161) hx hb dX9_toldIn_161 ?_
            refine ztop (fun x162 ex162 => ?_)
            refine lv_istore (pc := 162) (lv' := [(8, .int (iI x162)), (7, .int (iI x102)), (6, .int (iI x95)), (5, .int (iI x14)), (4, .int (iI x6)), (0, .ref md), (1, .int (iI pattern)), (2, .int (iI year)), (3, .int (iI month))]) hx hb dX9_toldIn_162 hl (by decide) rfl (fun ls hl => ?_)
            refine lv_iload (pc := 164) hx hb dX9_toldIn_164 (lv_at hl 4 rfl) ?_
            refine zbipush (pc := 166) (n := 9) hx hb dX9_toldIn_166 rfl ?_
            refine zicmp_lt (pc := 168) hx hb 206 (by omega) (by omega) dX9_toldIn_168 (by decide) (fun c168 => ?_) (fun c168 => ?_)
            · skip
              exact jn206_0 x162 _ _ (by unfold numT; (repeat' split) <;> omega) hw _ (lv_sub hl [0, 1, 2, 3, 4, 5, 6, 7, 8] rfl)
            · skip
              refine lv_iload (pc := 171) hx hb dX9_toldIn_171 (lv_at hl 1 rfl) ?_
              refine lv_iload (pc := 173) hx hb dX9_toldIn_173 (lv_at hl 2 rfl) ?_
              refine lv_iload (pc := 175) hx hb dX9_toldIn_175 (lv_at hl 1 rfl) ?_
              refine zadd (pc := 177) hx hb dX9_toldIn_177 ?_
              refine ziconst (pc := 178) (n := 1) hx hb dX9_toldIn_178 ?_
              refine zsub (pc := 179) hx hb dX9_toldIn_179 ?_
              refine zbipush (pc := 180) (n := 7) hx hb dX9_toldIn_180 rfl ?_
              refine zrem (pc := 182) hx hb (by omega) dX9_toldIn_182 ?_
              refine lv_iload (pc := 183) hx hb dX9_toldIn_183 (lv_at hl 4 rfl) ?_
              refine zbipush (pc := 185) (n := 9) hx hb dX9_toldIn_185 rfl ?_
              refine zsub (pc := 187) hx hb dX9_toldIn_187 ?_
              refine zsub (pc := 188) hx hb dX9_toldIn_188 ?_
              refine zbipush (pc := 189) (n := 7) hx hb dX9_toldIn_189 rfl ?_
              refine zadd (pc := 191) hx hb dX9_toldIn_191 ?_
              refine zbipush (pc := 192) (n := 7) hx hb dX9_toldIn_192 rfl ?_
              refine zrem (pc := 194) hx hb (by omega) dX9_toldIn_194 ?_
              refine zsub (pc := 195) hx hb dX9_toldIn_195 ?_
              refine zbipush (pc := 196) (n := 7) hx hb dX9_toldIn_196 rfl ?_
              refine lv_iload (pc := 198) hx hb dX9_toldIn_198 (lv_at hl 3 rfl) ?_
              refine ziconst (pc := 200) (n := 1) hx hb dX9_toldIn_200 ?_
              refine zsub (pc := 201) hx hb dX9_toldIn_201 ?_
              refine zmul (pc := 202) hx hb dX9_toldIn_202 ?_
              refine zsub (pc := 203) hx hb dX9_toldIn_203 ?_
              refine ztop (fun x204 ex204 => ?_)
              refine lv_istore (pc := 204) (lv' := [(8, .int (iI x204)), (7, .int (iI x102)), (6, .int (iI x95)), (5, .int (iI x14)), (4, .int (iI x6)), (0, .ref md), (1, .int (iI pattern)), (2, .int (iI year)), (3, .int (iI month))]) hx hb dX9_toldIn_204 hl (by decide) rfl (fun ls hl => ?_)
              exact jn206_0 x204 _ _ (by unfold numT; (repeat' split) <;> omega) hw _ (lv_sub hl [0, 1, 2, 3, 4, 5, 6, 7, 8] rfl)
      · skip
        refine lv_iload (pc := 114) hx hb dX9_toldIn_114 (lv_at hl 1 rfl) ?_
        refine ziconst (pc := 116) (n := 1) hx hb dX9_toldIn_116 ?_
        refine zadd (pc := 117) hx hb dX9_toldIn_117 ?_
        refine lv_iload (pc := 118) hx hb dX9_toldIn_118 (lv_at hl 3 rfl) ?_
        refine zsub (pc := 120) hx hb dX9_toldIn_120 ?_
        refine ztop (fun x121 ex121 => ?_)
        refine lv_istore (pc := 121) (lv' := [(8, .int (iI x121)), (7, .int (iI x102)), (6, .int (iI x95)), (5, .int (iI x14)), (4, .int (iI x6)), (0, .ref md), (1, .int (iI pattern)), (2, .int (iI year)), (3, .int (iI month))]) hx hb dX9_toldIn_121 hl (by decide) rfl (fun ls hl => ?_)
        refine lv_iload (pc := 123) hx hb dX9_toldIn_123 (lv_at hl 4 rfl) ?_
        refine ziconst (pc := 125) (n := 2) hx hb dX9_toldIn_125 ?_
        refine zicmp_lt (pc := 126) hx hb 164 (by omega) (by omega) dX9_toldIn_126 (by decide) (fun c126 => ?_) (fun c126 => ?_)
        · skip
          refine lv_iload (pc := 164) hx hb dX9_toldIn_164 (lv_at hl 4 rfl) ?_
          refine zbipush (pc := 166) (n := 9) hx hb dX9_toldIn_166 rfl ?_
          refine zicmp_lt (pc := 168) hx hb 206 (by omega) (by omega) dX9_toldIn_168 (by decide) (fun c168 => ?_) (fun c168 => ?_)
          · skip
            exact jn206_0 x121 _ _ (by unfold numT; (repeat' split) <;> omega) hw _ (lv_sub hl [0, 1, 2, 3, 4, 5, 6, 7, 8] rfl)
          · skip
            refine lv_iload (pc := 171) hx hb dX9_toldIn_171 (lv_at hl 1 rfl) ?_
            refine lv_iload (pc := 173) hx hb dX9_toldIn_173 (lv_at hl 2 rfl) ?_
            refine lv_iload (pc := 175) hx hb dX9_toldIn_175 (lv_at hl 1 rfl) ?_
            refine zadd (pc := 177) hx hb dX9_toldIn_177 ?_
            refine ziconst (pc := 178) (n := 1) hx hb dX9_toldIn_178 ?_
            refine zsub (pc := 179) hx hb dX9_toldIn_179 ?_
            refine zbipush (pc := 180) (n := 7) hx hb dX9_toldIn_180 rfl ?_
            refine zrem (pc := 182) hx hb (by omega) dX9_toldIn_182 ?_
            refine lv_iload (pc := 183) hx hb dX9_toldIn_183 (lv_at hl 4 rfl) ?_
            refine zbipush (pc := 185) (n := 9) hx hb dX9_toldIn_185 rfl ?_
            refine zsub (pc := 187) hx hb dX9_toldIn_187 ?_
            refine zsub (pc := 188) hx hb dX9_toldIn_188 ?_
            refine zbipush (pc := 189) (n := 7) hx hb dX9_toldIn_189 rfl ?_
            refine zadd (pc := 191) hx hb dX9_toldIn_191 ?_
            refine zbipush (pc := 192) (n := 7) hx hb dX9_toldIn_192 rfl ?_
            refine zrem (pc := 194) hx hb (by omega) dX9_toldIn_194 ?_
            refine zsub (pc := 195) hx hb dX9_toldIn_195 ?_
            refine zbipush (pc := 196) (n := 7) hx hb dX9_toldIn_196 rfl ?_
            refine lv_iload (pc := 198) hx hb dX9_toldIn_198 (lv_at hl 3 rfl) ?_
            refine ziconst (pc := 200) (n := 1) hx hb dX9_toldIn_200 ?_
            refine zsub (pc := 201) hx hb dX9_toldIn_201 ?_
            refine zmul (pc := 202) hx hb dX9_toldIn_202 ?_
            refine zsub (pc := 203) hx hb dX9_toldIn_203 ?_
            refine ztop (fun x204 ex204 => ?_)
            refine lv_istore (pc := 204) (lv' := [(8, .int (iI x204)), (7, .int (iI x102)), (6, .int (iI x95)), (5, .int (iI x14)), (4, .int (iI x6)), (0, .ref md), (1, .int (iI pattern)), (2, .int (iI year)), (3, .int (iI month))]) hx hb dX9_toldIn_204 hl (by decide) rfl (fun ls hl => ?_)
            exact jn206_0 x204 _ _ (by unfold numT; (repeat' split) <;> omega) hw _ (lv_sub hl [0, 1, 2, 3, 4, 5, 6, 7, 8] rfl)
        · skip
          refine lv_iload (pc := 129) hx hb dX9_toldIn_129 (lv_at hl 4 rfl) ?_
          refine zbipush (pc := 131) (n := 9) hx hb dX9_toldIn_131 rfl ?_
          refine zicmp_ge (pc := 133) hx hb 164 (by omega) (by omega) dX9_toldIn_133 (by decide) (fun c133 => ?_) (fun c133 => ?_)
          · skip
            refine lv_iload (pc := 164) hx hb dX9_toldIn_164 (lv_at hl 4 rfl) ?_
            refine zbipush (pc := 166) (n := 9) hx hb dX9_toldIn_166 rfl ?_
            refine zicmp_lt (pc := 168) hx hb 206 (by omega) (by omega) dX9_toldIn_168 (by decide) (fun c168 => ?_) (fun c168 => ?_)
            · skip
              exact jn206_0 x121 _ _ (by unfold numT; (repeat' split) <;> omega) hw _ (lv_sub hl [0, 1, 2, 3, 4, 5, 6, 7, 8] rfl)
            · skip
              refine lv_iload (pc := 171) hx hb dX9_toldIn_171 (lv_at hl 1 rfl) ?_
              refine lv_iload (pc := 173) hx hb dX9_toldIn_173 (lv_at hl 2 rfl) ?_
              refine lv_iload (pc := 175) hx hb dX9_toldIn_175 (lv_at hl 1 rfl) ?_
              refine zadd (pc := 177) hx hb dX9_toldIn_177 ?_
              refine ziconst (pc := 178) (n := 1) hx hb dX9_toldIn_178 ?_
              refine zsub (pc := 179) hx hb dX9_toldIn_179 ?_
              refine zbipush (pc := 180) (n := 7) hx hb dX9_toldIn_180 rfl ?_
              refine zrem (pc := 182) hx hb (by omega) dX9_toldIn_182 ?_
              refine lv_iload (pc := 183) hx hb dX9_toldIn_183 (lv_at hl 4 rfl) ?_
              refine zbipush (pc := 185) (n := 9) hx hb dX9_toldIn_185 rfl ?_
              refine zsub (pc := 187) hx hb dX9_toldIn_187 ?_
              refine zsub (pc := 188) hx hb dX9_toldIn_188 ?_
              refine zbipush (pc := 189) (n := 7) hx hb dX9_toldIn_189 rfl ?_
              refine zadd (pc := 191) hx hb dX9_toldIn_191 ?_
              refine zbipush (pc := 192) (n := 7) hx hb dX9_toldIn_192 rfl ?_
              refine zrem (pc := 194) hx hb (by omega) dX9_toldIn_194 ?_
              refine zsub (pc := 195) hx hb dX9_toldIn_195 ?_
              refine zbipush (pc := 196) (n := 7) hx hb dX9_toldIn_196 rfl ?_
              refine lv_iload (pc := 198) hx hb dX9_toldIn_198 (lv_at hl 3 rfl) ?_
              refine ziconst (pc := 200) (n := 1) hx hb dX9_toldIn_200 ?_
              refine zsub (pc := 201) hx hb dX9_toldIn_201 ?_
              refine zmul (pc := 202) hx hb dX9_toldIn_202 ?_
              refine zsub (pc := 203) hx hb dX9_toldIn_203 ?_
              refine ztop (fun x204 ex204 => ?_)
              refine lv_istore (pc := 204) (lv' := [(8, .int (iI x204)), (7, .int (iI x102)), (6, .int (iI x95)), (5, .int (iI x14)), (4, .int (iI x6)), (0, .ref md), (1, .int (iI pattern)), (2, .int (iI year)), (3, .int (iI month))]) hx hb dX9_toldIn_204 hl (by decide) rfl (fun ls hl => ?_)
              exact jn206_0 x204 _ _ (by unfold numT; (repeat' split) <;> omega) hw _ (lv_sub hl [0, 1, 2, 3, 4, 5, 6, 7, 8] rfl)
          · skip
            refine ziconst (pc := 136) (n := 1) hx hb dX9_toldIn_136 ?_
            refine lv_iload (pc := 137) hx hb dX9_toldIn_137 (lv_at hl 4 rfl) ?_
            refine ziconst (pc := 139) (n := 2) hx hb dX9_toldIn_139 ?_
            refine zsub (pc := 140) hx hb dX9_toldIn_140 ?_
            refine lv_iload (pc := 141) hx hb dX9_toldIn_141 (lv_at hl 2 rfl) ?_
            refine zbipush (pc := 143) (n := 7) hx hb dX9_toldIn_143 rfl ?_
            refine zrem (pc := 145) hx hb (by omega) dX9_toldIn_145 ?_
            refine zsub (pc := 146) hx hb dX9_toldIn_146 ?_
            refine zbipush (pc := 147) (n := 7) hx hb dX9_toldIn_147 rfl ?_
            refine zadd (pc := 149) hx hb dX9_toldIn_149 ?_
            refine zbipush (pc := 150) (n := 7) hx hb dX9_toldIn_150 rfl ?_
            refine zrem (pc := 152) hx hb (by omega) dX9_toldIn_152 ?_
            refine zadd (pc := 153) hx hb dX9_toldIn_153 ?_
            refine zbipush (pc := 154) (n := 7) hx hb dX9_toldIn_154 rfl ?_
            refine lv_iload (pc := 156) hx hb dX9_toldIn_156 (lv_at hl 3 rfl) ?_
            refine ziconst (pc := 158) (n := 1) hx hb dX9_toldIn_158 ?_
            refine zsub (pc := 159) hx hb dX9_toldIn_159 ?_
            refine zmul (pc := 160) hx hb dX9_toldIn_160 ?_
            refine zadd (pc := 161) hx hb dX9_toldIn_161 ?_
            refine ztop (fun x162 ex162 => ?_)
            refine lv_istore (pc := 162) (lv' := [(8, .int (iI x162)), (7, .int (iI x102)), (6, .int (iI x95)), (5, .int (iI x14)), (4, .int (iI x6)), (0, .ref md), (1, .int (iI pattern)), (2, .int (iI year)), (3, .int (iI month))]) hx hb dX9_toldIn_162 hl (by decide) rfl (fun ls hl => ?_)
            refine lv_iload (pc := 164) hx hb dX9_toldIn_164 (lv_at hl 4 rfl) ?_
            refine zbipush (pc := 166) (n := 9) hx hb dX9_toldIn_166 rfl ?_
            refine zicmp_lt (pc := 168) hx hb 206 (by omega) (by omega) dX9_toldIn_168 (by decide) (fun c168 => ?_) (fun c168 => ?_)
            · skip
              exact jn206_0 x162 _ _ (by unfold numT; (repeat' split) <;> omega) hw _ (lv_sub hl [0, 1, 2, 3, 4, 5, 6, 7, 8] rfl)
            · skip
              refine lv_iload (pc := 171) hx hb dX9_toldIn_171 (lv_at hl 1 rfl) ?_
              refine lv_iload (pc := 173) hx hb dX9_toldIn_173 (lv_at hl 2 rfl) ?_
              refine lv_iload (pc := 175) hx hb dX9_toldIn_175 (lv_at hl 1 rfl) ?_
              refine zadd (pc := 177) hx hb dX9_toldIn_177 ?_
              refine ziconst (pc := 178) (n := 1) hx hb dX9_toldIn_178 ?_
              refine zsub (pc := 179) hx hb dX9_toldIn_179 ?_
              refine zbipush (pc := 180) (n := 7) hx hb dX9_toldIn_180 rfl ?_
              refine zrem (pc := 182) hx hb (by omega) dX9_toldIn_182 ?_
              refine lv_iload (pc := 183) hx hb dX9_toldIn_183 (lv_at hl 4 rfl) ?_
              refine zbipush (pc := 185) (n := 9) hx hb dX9_toldIn_185 rfl ?_
              refine zsub (pc := 187) hx hb dX9_toldIn_187 ?_
              refine zsub (pc := 188) hx hb dX9_toldIn_188 ?_
              refine zbipush (pc := 189) (n := 7) hx hb dX9_toldIn_189 rfl ?_
              refine zadd (pc := 191) hx hb dX9_toldIn_191 ?_
              refine zbipush (pc := 192) (n := 7) hx hb dX9_toldIn_192 rfl ?_
              refine zrem (pc := 194) hx hb (by omega) dX9_toldIn_194 ?_
              refine zsub (pc := 195) hx hb dX9_toldIn_195 ?_
              refine zbipush (pc := 196) (n := 7) hx hb dX9_toldIn_196 rfl ?_
              refine lv_iload (pc := 198) hx hb dX9_toldIn_198 (lv_at hl 3 rfl) ?_
              refine ziconst (pc := 200) (n := 1) hx hb dX9_toldIn_200 ?_
              refine zsub (pc := 201) hx hb dX9_toldIn_201 ?_
              refine zmul (pc := 202) hx hb dX9_toldIn_202 ?_
              refine zsub (pc := 203) hx hb dX9_toldIn_203 ?_
              refine ztop (fun x204 ex204 => ?_)
              refine lv_istore (pc := 204) (lv' := [(8, .int (iI x204)), (7, .int (iI x102)), (6, .int (iI x95)), (5, .int (iI x14)), (4, .int (iI x6)), (0, .ref md), (1, .int (iI pattern)), (2, .int (iI year)), (3, .int (iI month))]) hx hb dX9_toldIn_204 hl (by decide) rfl (fun ls hl => ?_)
              exact jn206_0 x204 _ _ (by unfold numT; (repeat' split) <;> omega) hw _ (lv_sub hl [0, 1, 2, 3, 4, 5, 6, 7, 8] rfl)
    · skip
      refine lv_aload_n (pc := 77) hx hb dX9_toldIn_77 rfl (lv_at hl 2 rfl) ?_
      refine zgetR (pc := 78) hx hb hG hown hw hmd (T := TX9) rfl 2 (by decide) rfl wf_X9_9 rfl hB2 dX9_toldIn_78 ?_
      refine lv_iload_n (pc := 81) hx hb dX9_toldIn_81 rfl (lv_at hl 3 rfl) ?_
      refine zald (pc := 82) hx hb hw hA2 ⟨by omega, by omega⟩ (by omega) dX9_toldIn_82 ?_
      refine lv_iload_n (pc := 83) hx hb dX9_toldIn_83 rfl (lv_at hl 5 rfl) ?_
      refine zicmp_eq (pc := 84) hx hb 89 (by omega) (by omega) dX9_toldIn_84 (by decide) (fun c84 => ?_) (fun c84 => ?_)
      · skip
        refine lv_iload_n (pc := 89) hx hb dX9_toldIn_89 rfl (lv_at hl 4 rfl) ?_
        refine lv_iload_n (pc := 90) hx hb dX9_toldIn_90 rfl (lv_at hl 5 rfl) ?_
        refine ziconst (pc := 91) (n := 1) hx hb dX9_toldIn_91 ?_
        refine zkIp (pc := 92) (zrS (As := [.int (iI year), .int (iI month), .int (iI 1)]) hx hb hml hown hG hw (c_X9_dayFor l Γ K X Rf year month 1  (by (first | assumption | omega)) (by (first | assumption | omega)) (by (first | assumption | omega))) cb_X9_dayFor wl_X9_115 rfl ⟨Nat.le_of_ble_eq_true rfl, Nat.le_of_ble_eq_true rfl⟩ hl.1 rfl (Nat.le_of_ble_eq_true rfl) dX9_toldIn_92 ⟨Nat.zero_le _, Nat.zero_le _⟩) hw (fun r92 H locs hp92 hw => ?_)
        subst hp92
        have hp92f0 := mB_rng (12 * (year - 1900) + month - 1)
        refine ztop (fun x95 ex95 => ?_)
        refine lv_istore (pc := 95) (lv' := [(6, .int (iI x95)), (5, .int (iI x14)), (4, .int (iI x6)), (0, .ref md), (1, .int (iI pattern)), (2, .int (iI year)), (3, .int (iI month))]) hx hb dX9_toldIn_95 hl (by decide) rfl (fun ls hl => ?_)
        refine lv_iload_n (pc := 97) hx hb dX9_toldIn_97 rfl (lv_at hl 5 rfl) ?_
        refine lv_iload_n (pc := 98) hx hb dX9_toldIn_98 rfl (lv_at hl 6 rfl) ?_
        refine zkIp (pc := 99) (zrS (As := [.int (iI year), .int (iI month)]) hx hb hml hown hG hw (c_X9_lengthOf l Γ K X Rf year month  (by (first | assumption | omega)) (by (first | assumption | omega))) cb_X9_lengthOf wl_X9_100 rfl ⟨Nat.le_of_ble_eq_true rfl, Nat.le_of_ble_eq_true rfl⟩ hl.1 rfl (Nat.le_of_ble_eq_true rfl) dX9_toldIn_99 ⟨Nat.zero_le _, Nat.zero_le _⟩) hw (fun r99 H locs hp99 hw => ?_)
        subst hp99
        have hp99f0 := lenM_mB (year := year) (month := month) (by omega) (by omega)
        have hp99f1 := lenM_rng (year - 1900) month
        refine ztop (fun x102 ex102 => ?_)
        refine lv_istore (pc := 102) (lv' := [(7, .int (iI x102)), (6, .int (iI x95)), (5, .int (iI x14)), (4, .int (iI x6)), (0, .ref md), (1, .int (iI pattern)), (2, .int (iI year)), (3, .int (iI month))]) hx hb dX9_toldIn_102 hl (by decide) rfl (fun ls hl => ?_)
        refine lv_iload (pc := 104) hx hb dX9_toldIn_104 (lv_at hl 2 rfl) ?_
        refine lv_istore (pc := 106) (lv' := [(8, .int (iI x14)), (7, .int (iI x102)), (6, .int (iI x95)), (5, .int (iI x14)), (4, .int (iI x6)), (0, .ref md), (1, .int (iI pattern)), (2, .int (iI year)), (3, .int (iI month))]) hx hb dX9_toldIn_106 hl (by decide) rfl (fun ls hl => ?_)
        have jn206_1 : ∀ (dt : Int) (H : Heap) (locs : List Loc), (hj : dt = numT (pfX X a2 a3 a4 pattern.toNat) x95 x102) → Wd Γ (zA K s.heap.size) K X Rf s H locs → ∀ ls : Array Slot, lv_has ls 9 [(8, .int (iI dt)), (7, .int (iI x102)), (6, .int (iI x95)), (5, .int (iI x14)), (4, .int (iI x6)), (0, .ref md), (1, .int (iI pattern)), (2, .int (iI year)), (3, .int (iI month))] → W p l e (rmL 4 0 0) s m ([.ref md, .int (iI pattern), .int (iI year), .int (iI month)] : List Value).toArray below meth c H locs 0 0 (MQ below (zQ Γ K s.heap.size (pI (zp0 K X Rf (fun r : Int => r = told (pfX X a2 a3 a4 pattern.toNat) (12 * (year - 1900) + month - 1))))) ([.ref md, .int (iI pattern), .int (iI year), .int (iI month)] : List Value).toArray s 0 0 (zA K s.heap.size)) (F0 m 206 ls []) := by
          intro dt H locs hj hw ls hl
          have hx95 : x95 = mB (12 * (year - 1900) + month - 1) := by omega
          have hx102 : x102 = mB (12 * (year - 1900) + month - 1 + 1) - mB (12 * (year - 1900) + month - 1) := by omega
          have hlm := lenM_rng (year - 1900) month
          have hdt : -2000 ≤ dt ∧ dt ≤ 2000 := by
            rw [hj]; unfold numT; (repeat' split) <;> omega
          have htn := toldN (P := pfX X a2 a3 a4 pattern.toNat) (i := 12 * (year - 1900) + month - 1) (n := dt) (by omega) (by omega) (by rw [hj, hx95, hx102])
          refine lv_iload (pc := 206) hx hb dX9_toldIn_206 (lv_at hl 0 rfl) ?_
          refine ziconst (pc := 208) (n := 1) hx hb dX9_toldIn_208 ?_
          refine lv_iload (pc := 209) hx hb dX9_toldIn_209 (lv_at hl 1 rfl) ?_
          refine zkIp (pc := 211) (zrS (As := [.int (iI dt), .int (iI 1), .int (iI x102)]) hx hb hml hown hG hw (c_X9_is l Γ K X Rf dt 1 x102  (by (first | assumption | omega))) cb_X9_is wl_X9_91 rfl ⟨Nat.le_of_ble_eq_true rfl, Nat.le_of_ble_eq_true rfl⟩ hl.1 rfl (Nat.le_of_ble_eq_true rfl) dX9_toldIn_211 ⟨Nat.zero_le _, Nat.zero_le _⟩) hw (fun r211 H locs hp211 hw => ?_)
          subst hp211
          refine zif_eq (pc := 214) hx hb 227 (by omega) dX9_toldIn_214 (by decide) (fun c214 => ?_) (fun c214 => ?_)
          · skip
            refine ziconst (pc := 227) (n := (-1)) hx hb dX9_toldIn_227 ?_
            exact zretI (pc := 228) hx hb hlocks hr hw (Nat.zero_le _) (Nat.zero_le _) dX9_toldIn_228 ⟨by (try dsimp only) <;> (rw [htn]; first | (rw [if_pos ⟨by omega, by omega⟩]; omega) | (rw [if_neg (by omega)])), rfl, rfl, rfl⟩
          · skip
            refine lv_iload (pc := 217) hx hb dX9_toldIn_217 (lv_at hl 2 rfl) ?_
            refine lv_iload (pc := 219) hx hb dX9_toldIn_219 (lv_at hl 0 rfl) ?_
            refine zadd (pc := 221) hx hb dX9_toldIn_221 ?_
            refine ziconst (pc := 222) (n := 1) hx hb dX9_toldIn_222 ?_
            refine zsub (pc := 223) hx hb dX9_toldIn_223 ?_
            refine lv_goto (pc := 224) (tgt := 228) hx hb dX9_toldIn_224 (by decide) ?_
            exact zretI (pc := 228) hx hb hlocks hr hw (Nat.zero_le _) (Nat.zero_le _) dX9_toldIn_228 ⟨by (try dsimp only) <;> (rw [htn]; first | (rw [if_pos ⟨by omega, by omega⟩]; omega) | (rw [if_neg (by omega)])), rfl, rfl, rfl⟩
        refine lv_iload (pc := 108) hx hb dX9_toldIn_108 (lv_at hl 4 rfl) ?_
        refine ziconst (pc := 110) (n := 1) hx hb dX9_toldIn_110 ?_
        refine zicmp_ne (pc := 111) hx hb 123 (by omega) (by omega) dX9_toldIn_111 (by decide) (fun c111 => ?_) (fun c111 => ?_)
        · skip
          refine lv_iload (pc := 123) hx hb dX9_toldIn_123 (lv_at hl 4 rfl) ?_
          refine ziconst (pc := 125) (n := 2) hx hb dX9_toldIn_125 ?_
          refine zicmp_lt (pc := 126) hx hb 164 (by omega) (by omega) dX9_toldIn_126 (by decide) (fun c126 => ?_) (fun c126 => ?_)
          · skip
            refine lv_iload (pc := 164) hx hb dX9_toldIn_164 (lv_at hl 4 rfl) ?_
            refine zbipush (pc := 166) (n := 9) hx hb dX9_toldIn_166 rfl ?_
            refine zicmp_lt (pc := 168) hx hb 206 (by omega) (by omega) dX9_toldIn_168 (by decide) (fun c168 => ?_) (fun c168 => ?_)
            · skip
              exact jn206_1 x14 _ _ (by unfold numT; (repeat' split) <;> omega) hw _ (lv_sub hl [0, 1, 2, 3, 4, 5, 6, 7, 8] rfl)
            · skip
              refine lv_iload (pc := 171) hx hb dX9_toldIn_171 (lv_at hl 1 rfl) ?_
              refine lv_iload (pc := 173) hx hb dX9_toldIn_173 (lv_at hl 2 rfl) ?_
              refine lv_iload (pc := 175) hx hb dX9_toldIn_175 (lv_at hl 1 rfl) ?_
              refine zadd (pc := 177) hx hb dX9_toldIn_177 ?_
              refine ziconst (pc := 178) (n := 1) hx hb dX9_toldIn_178 ?_
              refine zsub (pc := 179) hx hb dX9_toldIn_179 ?_
              refine zbipush (pc := 180) (n := 7) hx hb dX9_toldIn_180 rfl ?_
              refine zrem (pc := 182) hx hb (by omega) dX9_toldIn_182 ?_
              refine lv_iload (pc := 183) hx hb dX9_toldIn_183 (lv_at hl 4 rfl) ?_
              refine zbipush (pc := 185) (n := 9) hx hb dX9_toldIn_185 rfl ?_
              refine zsub (pc := 187) hx hb dX9_toldIn_187 ?_
              refine zsub (pc := 188) hx hb dX9_toldIn_188 ?_
              refine zbipush (pc := 189) (n := 7) hx hb dX9_toldIn_189 rfl ?_
              refine zadd (pc := 191) hx hb dX9_toldIn_191 ?_
              refine zbipush (pc := 192) (n := 7) hx hb dX9_toldIn_192 rfl ?_
              refine zrem (pc := 194) hx hb (by omega) dX9_toldIn_194 ?_
              refine zsub (pc := 195) hx hb dX9_toldIn_195 ?_
              refine zbipush (pc := 196) (n := 7) hx hb dX9_toldIn_196 rfl ?_
              refine lv_iload (pc := 198) hx hb dX9_toldIn_198 (lv_at hl 3 rfl) ?_
              refine ziconst (pc := 200) (n := 1) hx hb dX9_toldIn_200 ?_
              refine zsub (pc := 201) hx hb dX9_toldIn_201 ?_
              refine zmul (pc := 202) hx hb dX9_toldIn_202 ?_
              refine zsub (pc := 203) hx hb dX9_toldIn_203 ?_
              refine ztop (fun x204 ex204 => ?_)
              refine lv_istore (pc := 204) (lv' := [(8, .int (iI x204)), (7, .int (iI x102)), (6, .int (iI x95)), (5, .int (iI x14)), (4, .int (iI x6)), (0, .ref md), (1, .int (iI pattern)), (2, .int (iI year)), (3, .int (iI month))]) hx hb dX9_toldIn_204 hl (by decide) rfl (fun ls hl => ?_)
              exact jn206_1 x204 _ _ (by unfold numT; (repeat' split) <;> omega) hw _ (lv_sub hl [0, 1, 2, 3, 4, 5, 6, 7, 8] rfl)
          · skip
            refine lv_iload (pc := 129) hx hb dX9_toldIn_129 (lv_at hl 4 rfl) ?_
            refine zbipush (pc := 131) (n := 9) hx hb dX9_toldIn_131 rfl ?_
            refine zicmp_ge (pc := 133) hx hb 164 (by omega) (by omega) dX9_toldIn_133 (by decide) (fun c133 => ?_) (fun c133 => ?_)
            · skip
              refine lv_iload (pc := 164) hx hb dX9_toldIn_164 (lv_at hl 4 rfl) ?_
              refine zbipush (pc := 166) (n := 9) hx hb dX9_toldIn_166 rfl ?_
              refine zicmp_lt (pc := 168) hx hb 206 (by omega) (by omega) dX9_toldIn_168 (by decide) (fun c168 => ?_) (fun c168 => ?_)
              · skip
                exact jn206_1 x14 _ _ (by unfold numT; (repeat' split) <;> omega) hw _ (lv_sub hl [0, 1, 2, 3, 4, 5, 6, 7, 8] rfl)
              · skip
                refine lv_iload (pc := 171) hx hb dX9_toldIn_171 (lv_at hl 1 rfl) ?_
                refine lv_iload (pc := 173) hx hb dX9_toldIn_173 (lv_at hl 2 rfl) ?_
                refine lv_iload (pc := 175) hx hb dX9_toldIn_175 (lv_at hl 1 rfl) ?_
                refine zadd (pc := 177) hx hb dX9_toldIn_177 ?_
                refine ziconst (pc := 178) (n := 1) hx hb dX9_toldIn_178 ?_
                refine zsub (pc := 179) hx hb dX9_toldIn_179 ?_
                refine zbipush (pc := 180) (n := 7) hx hb dX9_toldIn_180 rfl ?_
                refine zrem (pc := 182) hx hb (by omega) dX9_toldIn_182 ?_
                refine lv_iload (pc := 183) hx hb dX9_toldIn_183 (lv_at hl 4 rfl) ?_
                refine zbipush (pc := 185) (n := 9) hx hb dX9_toldIn_185 rfl ?_
                refine zsub (pc := 187) hx hb dX9_toldIn_187 ?_
                refine zsub (pc := 188) hx hb dX9_toldIn_188 ?_
                refine zbipush (pc := 189) (n := 7) hx hb dX9_toldIn_189 rfl ?_
                refine zadd (pc := 191) hx hb dX9_toldIn_191 ?_
                refine zbipush (pc := 192) (n := 7) hx hb dX9_toldIn_192 rfl ?_
                refine zrem (pc := 194) hx hb (by omega) dX9_toldIn_194 ?_
                refine zsub (pc := 195) hx hb dX9_toldIn_195 ?_
                refine zbipush (pc := 196) (n := 7) hx hb dX9_toldIn_196 rfl ?_
                refine lv_iload (pc := 198) hx hb dX9_toldIn_198 (lv_at hl 3 rfl) ?_
                refine ziconst (pc := 200) (n := 1) hx hb dX9_toldIn_200 ?_
                refine zsub (pc := 201) hx hb dX9_toldIn_201 ?_
                refine zmul (pc := 202) hx hb dX9_toldIn_202 ?_
                refine zsub (pc := 203) hx hb dX9_toldIn_203 ?_
                refine ztop (fun x204 ex204 => ?_)
                refine lv_istore (pc := 204) (lv' := [(8, .int (iI x204)), (7, .int (iI x102)), (6, .int (iI x95)), (5, .int (iI x14)), (4, .int (iI x6)), (0, .ref md), (1, .int (iI pattern)), (2, .int (iI year)), (3, .int (iI month))]) hx hb dX9_toldIn_204 hl (by decide) rfl (fun ls hl => ?_)
                exact jn206_1 x204 _ _ (by unfold numT; (repeat' split) <;> omega) hw _ (lv_sub hl [0, 1, 2, 3, 4, 5, 6, 7, 8] rfl)
            · skip
              refine ziconst (pc := 136) (n := 1) hx hb dX9_toldIn_136 ?_
              refine lv_iload (pc := 137) hx hb dX9_toldIn_137 (lv_at hl 4 rfl) ?_
              refine ziconst (pc := 139) (n := 2) hx hb dX9_toldIn_139 ?_
              refine zsub (pc := 140) hx hb dX9_toldIn_140 ?_
              refine lv_iload (pc := 141) hx hb dX9_toldIn_141 (lv_at hl 2 rfl) ?_
              refine zbipush (pc := 143) (n := 7) hx hb dX9_toldIn_143 rfl ?_
              refine zrem (pc := 145) hx hb (by omega) dX9_toldIn_145 ?_
              refine zsub (pc := 146) hx hb dX9_toldIn_146 ?_
              refine zbipush (pc := 147) (n := 7) hx hb dX9_toldIn_147 rfl ?_
              refine zadd (pc := 149) hx hb dX9_toldIn_149 ?_
              refine zbipush (pc := 150) (n := 7) hx hb dX9_toldIn_150 rfl ?_
              refine zrem (pc := 152) hx hb (by omega) dX9_toldIn_152 ?_
              refine zadd (pc := 153) hx hb dX9_toldIn_153 ?_
              refine zbipush (pc := 154) (n := 7) hx hb dX9_toldIn_154 rfl ?_
              refine lv_iload (pc := 156) hx hb dX9_toldIn_156 (lv_at hl 3 rfl) ?_
              refine ziconst (pc := 158) (n := 1) hx hb dX9_toldIn_158 ?_
              refine zsub (pc := 159) hx hb dX9_toldIn_159 ?_
              refine zmul (pc := 160) hx hb dX9_toldIn_160 ?_
              refine zadd (pc := 161) hx hb dX9_toldIn_161 ?_
              refine ztop (fun x162 ex162 => ?_)
              refine lv_istore (pc := 162) (lv' := [(8, .int (iI x162)), (7, .int (iI x102)), (6, .int (iI x95)), (5, .int (iI x14)), (4, .int (iI x6)), (0, .ref md), (1, .int (iI pattern)), (2, .int (iI year)), (3, .int (iI month))]) hx hb dX9_toldIn_162 hl (by decide) rfl (fun ls hl => ?_)
              refine lv_iload (pc := 164) hx hb dX9_toldIn_164 (lv_at hl 4 rfl) ?_
              refine zbipush (pc := 166) (n := 9) hx hb dX9_toldIn_166 rfl ?_
              refine zicmp_lt (pc := 168) hx hb 206 (by omega) (by omega) dX9_toldIn_168 (by decide) (fun c168 => ?_) (fun c168 => ?_)
              · skip
                exact jn206_1 x162 _ _ (by unfold numT; (repeat' split) <;> omega) hw _ (lv_sub hl [0, 1, 2, 3, 4, 5, 6, 7, 8] rfl)
              · skip
                refine lv_iload (pc := 171) hx hb dX9_toldIn_171 (lv_at hl 1 rfl) ?_
                refine lv_iload (pc := 173) hx hb dX9_toldIn_173 (lv_at hl 2 rfl) ?_
                refine lv_iload (pc := 175) hx hb dX9_toldIn_175 (lv_at hl 1 rfl) ?_
                refine zadd (pc := 177) hx hb dX9_toldIn_177 ?_
                refine ziconst (pc := 178) (n := 1) hx hb dX9_toldIn_178 ?_
                refine zsub (pc := 179) hx hb dX9_toldIn_179 ?_
                refine zbipush (pc := 180) (n := 7) hx hb dX9_toldIn_180 rfl ?_
                refine zrem (pc := 182) hx hb (by omega) dX9_toldIn_182 ?_
                refine lv_iload (pc := 183) hx hb dX9_toldIn_183 (lv_at hl 4 rfl) ?_
                refine zbipush (pc := 185) (n := 9) hx hb dX9_toldIn_185 rfl ?_
                refine zsub (pc := 187) hx hb dX9_toldIn_187 ?_
                refine zsub (pc := 188) hx hb dX9_toldIn_188 ?_
                refine zbipush (pc := 189) (n := 7) hx hb dX9_toldIn_189 rfl ?_
                refine zadd (pc := 191) hx hb dX9_toldIn_191 ?_
                refine zbipush (pc := 192) (n := 7) hx hb dX9_toldIn_192 rfl ?_
                refine zrem (pc := 194) hx hb (by omega) dX9_toldIn_194 ?_
                refine zsub (pc := 195) hx hb dX9_toldIn_195 ?_
                refine zbipush (pc := 196) (n := 7) hx hb dX9_toldIn_196 rfl ?_
                refine lv_iload (pc := 198) hx hb dX9_toldIn_198 (lv_at hl 3 rfl) ?_
                refine ziconst (pc := 200) (n := 1) hx hb dX9_toldIn_200 ?_
                refine zsub (pc := 201) hx hb dX9_toldIn_201 ?_
                refine zmul (pc := 202) hx hb dX9_toldIn_202 ?_
                refine zsub (pc := 203) hx hb dX9_toldIn_203 ?_
                refine ztop (fun x204 ex204 => ?_)
                refine lv_istore (pc := 204) (lv' := [(8, .int (iI x204)), (7, .int (iI x102)), (6, .int (iI x95)), (5, .int (iI x14)), (4, .int (iI x6)), (0, .ref md), (1, .int (iI pattern)), (2, .int (iI year)), (3, .int (iI month))]) hx hb dX9_toldIn_204 hl (by decide) rfl (fun ls hl => ?_)
                exact jn206_1 x204 _ _ (by unfold numT; (repeat' split) <;> omega) hw _ (lv_sub hl [0, 1, 2, 3, 4, 5, 6, 7, 8] rfl)
        · skip
          refine lv_iload (pc := 114) hx hb dX9_toldIn_114 (lv_at hl 1 rfl) ?_
          refine ziconst (pc := 116) (n := 1) hx hb dX9_toldIn_116 ?_
          refine zadd (pc := 117) hx hb dX9_toldIn_117 ?_
          refine lv_iload (pc := 118) hx hb dX9_toldIn_118 (lv_at hl 3 rfl) ?_
          refine zsub (pc := 120) hx hb dX9_toldIn_120 ?_
          refine ztop (fun x121 ex121 => ?_)
          refine lv_istore (pc := 121) (lv' := [(8, .int (iI x121)), (7, .int (iI x102)), (6, .int (iI x95)), (5, .int (iI x14)), (4, .int (iI x6)), (0, .ref md), (1, .int (iI pattern)), (2, .int (iI year)), (3, .int (iI month))]) hx hb dX9_toldIn_121 hl (by decide) rfl (fun ls hl => ?_)
          refine lv_iload (pc := 123) hx hb dX9_toldIn_123 (lv_at hl 4 rfl) ?_
          refine ziconst (pc := 125) (n := 2) hx hb dX9_toldIn_125 ?_
          refine zicmp_lt (pc := 126) hx hb 164 (by omega) (by omega) dX9_toldIn_126 (by decide) (fun c126 => ?_) (fun c126 => ?_)
          · skip
            refine lv_iload (pc := 164) hx hb dX9_toldIn_164 (lv_at hl 4 rfl) ?_
            refine zbipush (pc := 166) (n := 9) hx hb dX9_toldIn_166 rfl ?_
            refine zicmp_lt (pc := 168) hx hb 206 (by omega) (by omega) dX9_toldIn_168 (by decide) (fun c168 => ?_) (fun c168 => ?_)
            · skip
              exact jn206_1 x121 _ _ (by unfold numT; (repeat' split) <;> omega) hw _ (lv_sub hl [0, 1, 2, 3, 4, 5, 6, 7, 8] rfl)
            · skip
              refine lv_iload (pc := 171) hx hb dX9_toldIn_171 (lv_at hl 1 rfl) ?_
              refine lv_iload (pc := 173) hx hb dX9_toldIn_173 (lv_at hl 2 rfl) ?_
              refine lv_iload (pc := 175) hx hb dX9_toldIn_175 (lv_at hl 1 rfl) ?_
              refine zadd (pc := 177) hx hb dX9_toldIn_177 ?_
              refine ziconst (pc := 178) (n := 1) hx hb dX9_toldIn_178 ?_
              refine zsub (pc := 179) hx hb dX9_toldIn_179 ?_
              refine zbipush (pc := 180) (n := 7) hx hb dX9_toldIn_180 rfl ?_
              refine zrem (pc := 182) hx hb (by omega) dX9_toldIn_182 ?_
              refine lv_iload (pc := 183) hx hb dX9_toldIn_183 (lv_at hl 4 rfl) ?_
              refine zbipush (pc := 185) (n := 9) hx hb dX9_toldIn_185 rfl ?_
              refine zsub (pc := 187) hx hb dX9_toldIn_187 ?_
              refine zsub (pc := 188) hx hb dX9_toldIn_188 ?_
              refine zbipush (pc := 189) (n := 7) hx hb dX9_toldIn_189 rfl ?_
              refine zadd (pc := 191) hx hb dX9_toldIn_191 ?_
              refine zbipush (pc := 192) (n := 7) hx hb dX9_toldIn_192 rfl ?_
              refine zrem (pc := 194) hx hb (by omega) dX9_toldIn_194 ?_
              refine zsub (pc := 195) hx hb dX9_toldIn_195 ?_
              refine zbipush (pc := 196) (n := 7) hx hb dX9_toldIn_196 rfl ?_
              refine lv_iload (pc := 198) hx hb dX9_toldIn_198 (lv_at hl 3 rfl) ?_
              refine ziconst (pc := 200) (n := 1) hx hb dX9_toldIn_200 ?_
              refine zsub (pc := 201) hx hb dX9_toldIn_201 ?_
              refine zmul (pc := 202) hx hb dX9_toldIn_202 ?_
              refine zsub (pc := 203) hx hb dX9_toldIn_203 ?_
              refine ztop (fun x204 ex204 => ?_)
              refine lv_istore (pc := 204) (lv' := [(8, .int (iI x204)), (7, .int (iI x102)), (6, .int (iI x95)), (5, .int (iI x14)), (4, .int (iI x6)), (0, .ref md), (1, .int (iI pattern)), (2, .int (iI year)), (3, .int (iI month))]) hx hb dX9_toldIn_204 hl (by decide) rfl (fun ls hl => ?_)
              exact jn206_1 x204 _ _ (by unfold numT; (repeat' split) <;> omega) hw _ (lv_sub hl [0, 1, 2, 3, 4, 5, 6, 7, 8] rfl)
          · skip
            refine lv_iload (pc := 129) hx hb dX9_toldIn_129 (lv_at hl 4 rfl) ?_
            refine zbipush (pc := 131) (n := 9) hx hb dX9_toldIn_131 rfl ?_
            refine zicmp_ge (pc := 133) hx hb 164 (by omega) (by omega) dX9_toldIn_133 (by decide) (fun c133 => ?_) (fun c133 => ?_)
            · skip
              refine lv_iload (pc := 164) hx hb dX9_toldIn_164 (lv_at hl 4 rfl) ?_
              refine zbipush (pc := 166) (n := 9) hx hb dX9_toldIn_166 rfl ?_
              refine zicmp_lt (pc := 168) hx hb 206 (by omega) (by omega) dX9_toldIn_168 (by decide) (fun c168 => ?_) (fun c168 => ?_)
              · skip
                exact jn206_1 x121 _ _ (by unfold numT; (repeat' split) <;> omega) hw _ (lv_sub hl [0, 1, 2, 3, 4, 5, 6, 7, 8] rfl)
              · skip
                refine lv_iload (pc := 171) hx hb dX9_toldIn_171 (lv_at hl 1 rfl) ?_
                refine lv_iload (pc := 173) hx hb dX9_toldIn_173 (lv_at hl 2 rfl) ?_
                refine lv_iload (pc := 175) hx hb dX9_toldIn_175 (lv_at hl 1 rfl) ?_
                refine zadd (pc := 177) hx hb dX9_toldIn_177 ?_
                refine ziconst (pc := 178) (n := 1) hx hb dX9_toldIn_178 ?_
                refine zsub (pc := 179) hx hb dX9_toldIn_179 ?_
                refine zbipush (pc := 180) (n := 7) hx hb dX9_toldIn_180 rfl ?_
                refine zrem (pc := 182) hx hb (by omega) dX9_toldIn_182 ?_
                refine lv_iload (pc := 183) hx hb dX9_toldIn_183 (lv_at hl 4 rfl) ?_
                refine zbipush (pc := 185) (n := 9) hx hb dX9_toldIn_185 rfl ?_
                refine zsub (pc := 187) hx hb dX9_toldIn_187 ?_
                refine zsub (pc := 188) hx hb dX9_toldIn_188 ?_
                refine zbipush (pc := 189) (n := 7) hx hb dX9_toldIn_189 rfl ?_
                refine zadd (pc := 191) hx hb dX9_toldIn_191 ?_
                refine zbipush (pc := 192) (n := 7) hx hb dX9_toldIn_192 rfl ?_
                refine zrem (pc := 194) hx hb (by omega) dX9_toldIn_194 ?_
                refine zsub (pc := 195) hx hb dX9_toldIn_195 ?_
                refine zbipush (pc := 196) (n := 7) hx hb dX9_toldIn_196 rfl ?_
                refine lv_iload (pc := 198) hx hb dX9_toldIn_198 (lv_at hl 3 rfl) ?_
                refine ziconst (pc := 200) (n := 1) hx hb dX9_toldIn_200 ?_
                refine zsub (pc := 201) hx hb dX9_toldIn_201 ?_
                refine zmul (pc := 202) hx hb dX9_toldIn_202 ?_
                refine zsub (pc := 203) hx hb dX9_toldIn_203 ?_
                refine ztop (fun x204 ex204 => ?_)
                refine lv_istore (pc := 204) (lv' := [(8, .int (iI x204)), (7, .int (iI x102)), (6, .int (iI x95)), (5, .int (iI x14)), (4, .int (iI x6)), (0, .ref md), (1, .int (iI pattern)), (2, .int (iI year)), (3, .int (iI month))]) hx hb dX9_toldIn_204 hl (by decide) rfl (fun ls hl => ?_)
                exact jn206_1 x204 _ _ (by unfold numT; (repeat' split) <;> omega) hw _ (lv_sub hl [0, 1, 2, 3, 4, 5, 6, 7, 8] rfl)
            · skip
              refine ziconst (pc := 136) (n := 1) hx hb dX9_toldIn_136 ?_
              refine lv_iload (pc := 137) hx hb dX9_toldIn_137 (lv_at hl 4 rfl) ?_
              refine ziconst (pc := 139) (n := 2) hx hb dX9_toldIn_139 ?_
              refine zsub (pc := 140) hx hb dX9_toldIn_140 ?_
              refine lv_iload (pc := 141) hx hb dX9_toldIn_141 (lv_at hl 2 rfl) ?_
              refine zbipush (pc := 143) (n := 7) hx hb dX9_toldIn_143 rfl ?_
              refine zrem (pc := 145) hx hb (by omega) dX9_toldIn_145 ?_
              refine zsub (pc := 146) hx hb dX9_toldIn_146 ?_
              refine zbipush (pc := 147) (n := 7) hx hb dX9_toldIn_147 rfl ?_
              refine zadd (pc := 149) hx hb dX9_toldIn_149 ?_
              refine zbipush (pc := 150) (n := 7) hx hb dX9_toldIn_150 rfl ?_
              refine zrem (pc := 152) hx hb (by omega) dX9_toldIn_152 ?_
              refine zadd (pc := 153) hx hb dX9_toldIn_153 ?_
              refine zbipush (pc := 154) (n := 7) hx hb dX9_toldIn_154 rfl ?_
              refine lv_iload (pc := 156) hx hb dX9_toldIn_156 (lv_at hl 3 rfl) ?_
              refine ziconst (pc := 158) (n := 1) hx hb dX9_toldIn_158 ?_
              refine zsub (pc := 159) hx hb dX9_toldIn_159 ?_
              refine zmul (pc := 160) hx hb dX9_toldIn_160 ?_
              refine zadd (pc := 161) hx hb dX9_toldIn_161 ?_
              refine ztop (fun x162 ex162 => ?_)
              refine lv_istore (pc := 162) (lv' := [(8, .int (iI x162)), (7, .int (iI x102)), (6, .int (iI x95)), (5, .int (iI x14)), (4, .int (iI x6)), (0, .ref md), (1, .int (iI pattern)), (2, .int (iI year)), (3, .int (iI month))]) hx hb dX9_toldIn_162 hl (by decide) rfl (fun ls hl => ?_)
              refine lv_iload (pc := 164) hx hb dX9_toldIn_164 (lv_at hl 4 rfl) ?_
              refine zbipush (pc := 166) (n := 9) hx hb dX9_toldIn_166 rfl ?_
              refine zicmp_lt (pc := 168) hx hb 206 (by omega) (by omega) dX9_toldIn_168 (by decide) (fun c168 => ?_) (fun c168 => ?_)
              · skip
                exact jn206_1 x162 _ _ (by unfold numT; (repeat' split) <;> omega) hw _ (lv_sub hl [0, 1, 2, 3, 4, 5, 6, 7, 8] rfl)
              · skip
                refine lv_iload (pc := 171) hx hb dX9_toldIn_171 (lv_at hl 1 rfl) ?_
                refine lv_iload (pc := 173) hx hb dX9_toldIn_173 (lv_at hl 2 rfl) ?_
                refine lv_iload (pc := 175) hx hb dX9_toldIn_175 (lv_at hl 1 rfl) ?_
                refine zadd (pc := 177) hx hb dX9_toldIn_177 ?_
                refine ziconst (pc := 178) (n := 1) hx hb dX9_toldIn_178 ?_
                refine zsub (pc := 179) hx hb dX9_toldIn_179 ?_
                refine zbipush (pc := 180) (n := 7) hx hb dX9_toldIn_180 rfl ?_
                refine zrem (pc := 182) hx hb (by omega) dX9_toldIn_182 ?_
                refine lv_iload (pc := 183) hx hb dX9_toldIn_183 (lv_at hl 4 rfl) ?_
                refine zbipush (pc := 185) (n := 9) hx hb dX9_toldIn_185 rfl ?_
                refine zsub (pc := 187) hx hb dX9_toldIn_187 ?_
                refine zsub (pc := 188) hx hb dX9_toldIn_188 ?_
                refine zbipush (pc := 189) (n := 7) hx hb dX9_toldIn_189 rfl ?_
                refine zadd (pc := 191) hx hb dX9_toldIn_191 ?_
                refine zbipush (pc := 192) (n := 7) hx hb dX9_toldIn_192 rfl ?_
                refine zrem (pc := 194) hx hb (by omega) dX9_toldIn_194 ?_
                refine zsub (pc := 195) hx hb dX9_toldIn_195 ?_
                refine zbipush (pc := 196) (n := 7) hx hb dX9_toldIn_196 rfl ?_
                refine lv_iload (pc := 198) hx hb dX9_toldIn_198 (lv_at hl 3 rfl) ?_
                refine ziconst (pc := 200) (n := 1) hx hb dX9_toldIn_200 ?_
                refine zsub (pc := 201) hx hb dX9_toldIn_201 ?_
                refine zmul (pc := 202) hx hb dX9_toldIn_202 ?_
                refine zsub (pc := 203) hx hb dX9_toldIn_203 ?_
                refine ztop (fun x204 ex204 => ?_)
                refine lv_istore (pc := 204) (lv' := [(8, .int (iI x204)), (7, .int (iI x102)), (6, .int (iI x95)), (5, .int (iI x14)), (4, .int (iI x6)), (0, .ref md), (1, .int (iI pattern)), (2, .int (iI year)), (3, .int (iI month))]) hx hb dX9_toldIn_204 hl (by decide) rfl (fun ls hl => ?_)
                exact jn206_1 x204 _ _ (by unfold numT; (repeat' split) <;> omega) hw _ (lv_sub hl [0, 1, 2, 3, 4, 5, 6, 7, 8] rfl)
      · skip
        refine ziconst (pc := 87) (n := (-1)) hx hb dX9_toldIn_87 ?_
        exact zretI (pc := 88) hx hb hlocks hr hw (Nat.zero_le _) (Nat.zero_le _) dX9_toldIn_88 ⟨by (try dsimp only) <;> (rw [told0 (by omega)]), rfl, rfl, rfl⟩
  · skip
    refine lv_iload_n (pc := 23) hx hb dX9_toldIn_23 rfl (lv_at hl 4 rfl) ?_
    refine zkIp (pc := 24) (zrS (As := [.int (iI year)]) hx hb hml hown hG hw (c_X9_easterFor l Γ K X Rf year  (by (first | assumption | omega))) cb_X9_easterFor wl_X9_135 rfl ⟨Nat.le_of_ble_eq_true rfl, Nat.le_of_ble_eq_true rfl⟩ hl.1 rfl (Nat.le_of_ble_eq_true rfl) dX9_toldIn_24 ⟨Nat.zero_le _, Nat.zero_le _⟩) hw (fun r24 H locs hp24 hw => ?_)
    subst hp24
    have hp24f0 := est_rng year
    refine lv_iload (pc := 27) hx hb dX9_toldIn_27 (lv_at hl 0 rfl) ?_
    refine zadd (pc := 29) hx hb dX9_toldIn_29 ?_
    refine zbipush (pc := 30) (n := 100) hx hb dX9_toldIn_30 rfl ?_
    refine zsub (pc := 32) hx hb dX9_toldIn_32 ?_
    refine ztop (fun x33 ex33 => ?_)
    refine lv_istore (pc := 33) (lv' := [(6, .int (iI x33)), (5, .int (iI x14)), (4, .int (iI x6)), (0, .ref md), (1, .int (iI pattern)), (2, .int (iI year)), (3, .int (iI month))]) hx hb dX9_toldIn_33 hl (by decide) rfl (fun ls hl => ?_)
    have h16 := told16 (P := pfX X a2 a3 a4 pattern.toNat) (y := year) (m := month) (d := x33) (by omega) (by omega) (by omega) (by omega) (by omega)
    refine lv_iload (pc := 35) hx hb dX9_toldIn_35 (lv_at hl 0 rfl) ?_
    refine zkIp (pc := 37) (zrS (As := [.int (iI x33)]) hx hb hml hown hG hw (c_X9_isDay l Γ K X Rf x33  (by (first | assumption | omega))) cb_X9_isDay wl_X9_126 rfl ⟨Nat.le_of_ble_eq_true rfl, Nat.le_of_ble_eq_true rfl⟩ hl.1 rfl (Nat.le_of_ble_eq_true rfl) dX9_toldIn_37 ⟨Nat.zero_le _, Nat.zero_le _⟩) hw (fun r37 H locs hp37 hw => ?_)
    subst hp37
    refine zif_eq (pc := 40) hx hb 66 (by omega) dX9_toldIn_40 (by decide) (fun c40 => ?_) (fun c40 => ?_)
    · skip
      refine ziconst (pc := 66) (n := (-1)) hx hb dX9_toldIn_66 ?_
      exact zretI (pc := 67) hx hb hlocks hr hw (Nat.zero_le _) (Nat.zero_le _) dX9_toldIn_67 ⟨by (try dsimp only) <;> (rw [h16]; first | (rw [if_pos ⟨by omega, by omega, by omega⟩]) | (rw [if_neg (by omega)])), rfl, rfl, rfl⟩
    · skip
      refine lv_iload (pc := 43) hx hb dX9_toldIn_43 (lv_at hl 0 rfl) ?_
      refine zkIp (pc := 45) (zrS (As := [.int (iI x33)]) hx hb hml hown hG hw (c_X9_yearFor l Γ K X Rf x33  (by (first | assumption | omega))) cb_X9_yearFor wl_X9_109 rfl ⟨Nat.le_of_ble_eq_true rfl, Nat.le_of_ble_eq_true rfl⟩ hl.1 rfl (Nat.le_of_ble_eq_true rfl) dX9_toldIn_45 ⟨Nat.zero_le _, Nat.zero_le _⟩) hw (fun r45 H locs hp45 hw => ?_)
      subst hp45
      have hp45f0 := yr_rng (d := x33) (by omega) (by omega)
      have hyr := yr_rng (d := x33) (by omega) (by omega)
      refine lv_iload_n (pc := 48) hx hb dX9_toldIn_48 rfl (lv_at hl 5 rfl) ?_
      refine zicmp_ne (pc := 49) hx hb 66 (by omega) (by omega) dX9_toldIn_49 (by decide) (fun c49 => ?_) (fun c49 => ?_)
      · skip
        refine ziconst (pc := 66) (n := (-1)) hx hb dX9_toldIn_66 ?_
        exact zretI (pc := 67) hx hb hlocks hr hw (Nat.zero_le _) (Nat.zero_le _) dX9_toldIn_67 ⟨by (try dsimp only) <;> (rw [h16]; first | (rw [if_pos ⟨by omega, by omega, by omega⟩]) | (rw [if_neg (by omega)])), rfl, rfl, rfl⟩
      · skip
        refine lv_iload (pc := 52) hx hb dX9_toldIn_52 (lv_at hl 0 rfl) ?_
        refine zkIp (pc := 54) (zrS (As := [.int (iI x33)]) hx hb hml hown hG hw (c_X9_monthFor l Γ K X Rf x33  (by (first | assumption | omega))) cb_X9_monthFor wl_X9_112 rfl ⟨Nat.le_of_ble_eq_true rfl, Nat.le_of_ble_eq_true rfl⟩ hl.1 rfl (Nat.le_of_ble_eq_true rfl) dX9_toldIn_54 ⟨Nat.zero_le _, Nat.zero_le _⟩) hw (fun r54 H locs hp54 hw => ?_)
        subst hp54
        have hp54f0 := mi_rng (d := x33) (by omega) (by omega)
        have hp54f1 := yr_mi (d := x33) (by omega) (by omega)
        refine lv_iload_n (pc := 57) hx hb dX9_toldIn_57 rfl (lv_at hl 6 rfl) ?_
        refine zicmp_ne (pc := 58) hx hb 66 (by omega) (by omega) dX9_toldIn_58 (by decide) (fun c58 => ?_) (fun c58 => ?_)
        · skip
          refine ziconst (pc := 66) (n := (-1)) hx hb dX9_toldIn_66 ?_
          exact zretI (pc := 67) hx hb hlocks hr hw (Nat.zero_le _) (Nat.zero_le _) dX9_toldIn_67 ⟨by (try dsimp only) <;> (rw [h16]; first | (rw [if_pos ⟨by omega, by omega, by omega⟩]) | (rw [if_neg (by omega)])), rfl, rfl, rfl⟩
        · skip
          refine lv_iload (pc := 61) hx hb dX9_toldIn_61 (lv_at hl 0 rfl) ?_
          refine lv_goto (pc := 63) (tgt := 67) hx hb dX9_toldIn_63 (by decide) ?_
          exact zretI (pc := 67) hx hb hlocks hr hw (Nat.zero_le _) (Nat.zero_le _) dX9_toldIn_67 ⟨by (try dsimp only) <;> (rw [h16]; first | (rw [if_pos ⟨by omega, by omega, by omega⟩]) | (rw [if_neg (by omega)])), rfl, rfl, rfl⟩
set_option maxHeartbeats 4000000 in
set_option maxRecDepth 100000 in
theorem c_X9_isTold (l : Launch) (Γ : zG) (K : zK) (X : zX) (Rf : zR) (md : Nat) (pattern : Int) (day : Int) (a2 : Nat) (a3 : Nat) (a4 : Nat) (hmd : K md = (1, 8)) (hB2 : Rf md 2 = some a2) (hB3 : Rf md 3 = some a3) (hB4 : Rf md 4 = some a4) (hA2 : K a2 = (2, 24)) (hA3 : K a3 = (2, 24)) (hA4 : K a4 = (2, 24)) (hP : okP2 (pfX X a2 a3 a4 pattern.toNat)) (h0 : 0 ≤ pattern ∧ pattern < 24) (h1 : 0 ≤ day ∧ day ≤ 73048) : Ct l yX9_isTold cX9_isTold 3 (some .boolean) 5 0 0 Γ [.ref md, .int (iI pattern), .int (iI day)] K X Rf (pI (zp0 K X Rf (fun r : Int => r = if told (pfX X a2 a3 a4 pattern.toNat) (mi day) = day then 1 else 0))) := by
  refine Ct.of (by decide +kernel) (Nat.le_of_ble_eq_true rfl) ?_
  intro p e s m below meth c ls hx hb hr hml hown hG hlocks hname hw hl
  have hl : lv_has ls 3 [(0, .ref md), (1, .int (iI pattern)), (2, .int (iI day))] := hl
  refine lv_aload_n (pc := 0) hx hb dX9_isTold_0 rfl (lv_at hl 0 rfl) ?_
  refine lv_iload_n (pc := 1) hx hb dX9_isTold_1 rfl (lv_at hl 1 rfl) ?_
  refine lv_iload_n (pc := 2) hx hb dX9_isTold_2 rfl (lv_at hl 2 rfl) ?_
  refine zkIp (pc := 3) (zrS (As := [.int (iI day)]) hx hb hml hown hG hw (c_X9_yearFor l Γ K X Rf day  (by (first | assumption | omega))) cb_X9_yearFor wl_X9_109 rfl ⟨Nat.le_of_ble_eq_true rfl, Nat.le_of_ble_eq_true rfl⟩ hl.1 rfl (Nat.le_of_ble_eq_true rfl) dX9_isTold_3 ⟨Nat.zero_le _, Nat.zero_le _⟩) hw (fun r3 H locs hp3 hw => ?_)
  subst hp3
  have hp3f0 := yr_rng (d := day) (by omega) (by omega)
  refine lv_iload_n (pc := 6) hx hb dX9_isTold_6 rfl (lv_at hl 2 rfl) ?_
  refine zkIp (pc := 7) (zrS (As := [.int (iI day)]) hx hb hml hown hG hw (c_X9_monthFor l Γ K X Rf day  (by (first | assumption | omega))) cb_X9_monthFor wl_X9_112 rfl ⟨Nat.le_of_ble_eq_true rfl, Nat.le_of_ble_eq_true rfl⟩ hl.1 rfl (Nat.le_of_ble_eq_true rfl) dX9_isTold_7 ⟨Nat.zero_le _, Nat.zero_le _⟩) hw (fun r7 H locs hp7 hw => ?_)
  subst hp7
  have hp7f0 := mi_rng (d := day) (by omega) (by omega)
  have hp7f1 := yr_mi (d := day) (by omega) (by omega)
  refine zkIp (pc := 10) (zrV (As := [.int (iI pattern), .int (iI (1900 + yr day)), .int (iI (mi day % 12 + 1))]) hx hb hml hown hG hw (c_X9_toldIn l Γ K X Rf md pattern (1900 + yr day) (mi day % 12 + 1) a2 a3 a4 (by (first | assumption | omega)) (by (first | assumption | omega)) (by (first | assumption | omega)) (by (first | assumption | omega)) (by (first | assumption | omega)) (by (first | assumption | omega)) (by (first | assumption | omega)) (by (first | assumption | omega)) (by (first | assumption | omega)) (by (first | assumption | omega)) (by (first | assumption | omega))) (T := TX9) hmd rfl cb_X9_toldIn wl_X9_145 rfl ⟨Nat.le_of_ble_eq_true rfl, Nat.le_of_ble_eq_true rfl⟩ hl.1 rfl (Nat.le_of_ble_eq_true rfl) dX9_isTold_10 ⟨Nat.zero_le _, Nat.zero_le _⟩) hw (fun r10 H locs hp10 hw => ?_)
  subst hp10
  have hp10f0 := told_rng (pfX X a2 a3 a4 pattern.toNat) (12 * ((1900 + yr day) - 1900) + (mi day % 12 + 1) - 1)
  have hmi : 12 * (1900 + yr day - 1900) + (mi day % 12 + 1) - 1 = mi day := by omega
  rw [hmi]
  have htr := told_rng (pfX X a2 a3 a4 pattern.toNat) (mi day)
  refine lv_iload_n (pc := 13) hx hb dX9_isTold_13 rfl (lv_at hl 2 rfl) ?_
  refine zicmp_ne (pc := 14) hx hb 21 (by omega) (by omega) dX9_isTold_14 (by decide) (fun c14 => ?_) (fun c14 => ?_)
  · skip
    refine ziconst (pc := 21) (n := 0) hx hb dX9_isTold_21 ?_
    exact zretZ (pc := 22) hx hb hlocks hr (Or.inl rfl) hw (Nat.zero_le _) (Nat.zero_le _) dX9_isTold_22 ⟨by (try dsimp only) <;> (first | (rw [if_pos (by omega)]) | (rw [if_neg (by omega)])), rfl, rfl, rfl⟩
  · skip
    refine ziconst (pc := 17) (n := 1) hx hb dX9_isTold_17 ?_
    refine lv_goto (pc := 18) (tgt := 22) hx hb dX9_isTold_18 (by decide) ?_
    exact zretZ (pc := 22) hx hb hlocks hr (Or.inr rfl) hw (Nat.zero_le _) (Nat.zero_le _) dX9_isTold_22 ⟨by (try dsimp only) <;> (first | (rw [if_pos (by omega)]) | (rw [if_neg (by omega)])), rfl, rfl, rfl⟩
set_option maxHeartbeats 4000000 in
set_option maxRecDepth 100000 in
theorem c_X9_nextOf (l : Launch) (Γ : zG) (K : zK) (X : zX) (Rf : zR) (md : Nat) (pattern : Int) (day : Int) (a2 : Nat) (a3 : Nat) (a4 : Nat) (hmd : K md = (1, 8)) (hB2 : Rf md 2 = some a2) (hB3 : Rf md 3 = some a3) (hB4 : Rf md 4 = some a4) (hA2 : K a2 = (2, 24)) (hA3 : K a3 = (2, 24)) (hA4 : K a4 = (2, 24)) (hP : okP2 (pfX X a2 a3 a4 pattern.toNat)) (h0 : 0 ≤ pattern ∧ pattern < 24) (h1 : 0 ≤ day ∧ day ≤ 73048) : Ct l yX9_nextOf cX9_nextOf 6 (some .int) 5 0 0 Γ [.ref md, .int (iI pattern), .int (iI day)] K X Rf (pI (zp0 K X Rf (fun r : Int => r = nextT (pfX X a2 a3 a4 pattern.toNat) day))) := by
  refine Ct.of (by decide +kernel) (Nat.le_of_ble_eq_true rfl) ?_
  intro p e s m below meth c ls hx hb hr hml hown hG hlocks hname hw hl
  have hl : lv_has ls 6 [(0, .ref md), (1, .int (iI pattern)), (2, .int (iI day))] := hl
  refine lv_iload_n (pc := 0) hx hb dX9_nextOf_0 rfl (lv_at hl 2 rfl) ?_
  refine zkIp (pc := 1) (zrS (As := [.int (iI day)]) hx hb hml hown hG hw (c_X9_yearFor l Γ K X Rf day  (by (first | assumption | omega))) cb_X9_yearFor wl_X9_109 rfl ⟨Nat.le_of_ble_eq_true rfl, Nat.le_of_ble_eq_true rfl⟩ hl.1 rfl (Nat.le_of_ble_eq_true rfl) dX9_nextOf_1 ⟨Nat.zero_le _, Nat.zero_le _⟩) hw (fun r1 H locs hp1 hw => ?_)
  subst hp1
  have hp1f0 := yr_rng (d := day) (by omega) (by omega)
  refine ztop (fun x4 ex4 => ?_)
  refine lv_istore_n (pc := 4) (lv' := [(3, .int (iI x4)), (0, .ref md), (1, .int (iI pattern)), (2, .int (iI day))]) hx hb dX9_nextOf_4 rfl hl (by decide) rfl (fun ls hl => ?_)
  have lp5 : ∀ (n5 : Nat) (yy : Int) (H : Heap) (locs : List Loc), (hi : 1900 + yr day ≤ yy ∧ yy ≤ 2100) → (hn : nextT (pfX X a2 a3 a4 pattern.toNat) day = nxT (pfX X a2 a3 a4 pattern.toNat) day (2400 - 12 * (yy - 1900)).toNat (12 * (yy - 1900))) → ((2100 - yy).toNat < n5) → Wd Γ (zA K s.heap.size) K X Rf s H locs → ∀ ls : Array Slot, lv_has ls 6 [(3, .int (iI yy)), (0, .ref md), (1, .int (iI pattern)), (2, .int (iI day))] → W p l e (rmL 5 0 0) s m ([.ref md, .int (iI pattern), .int (iI day)] : List Value).toArray below meth c H locs 0 0 (MQ below (zQ Γ K s.heap.size (pI (zp0 K X Rf (fun r : Int => r = nextT (pfX X a2 a3 a4 pattern.toNat) day)))) ([.ref md, .int (iI pattern), .int (iI day)] : List Value).toArray s 0 0 (zA K s.heap.size)) (F0 m 5 ls []) := by
    intro n5
    induction n5 with
    | zero => intro yy H locs hi hn hm5; exact absurd hm5 (Nat.not_lt_zero _)
    | succ n5 ih5 =>
      intro yy H locs hi hn hm5 hw ls hl
      refine lv_iload_n (pc := 5) hx hb dX9_nextOf_5 rfl (lv_at hl 0 rfl) ?_
      refine zsipush (pc := 6) (n := 2099) hx hb dX9_nextOf_6 rfl ?_
      refine zicmp_gt (pc := 9) hx hb 53 (by omega) (by omega) dX9_nextOf_9 (by decide) (fun c9 => ?_) (fun c9 => ?_)
      · skip
        refine ziconst (pc := 53) (n := (-1)) hx hb dX9_nextOf_53 ?_
        exact zretI (pc := 54) hx hb hlocks hr hw (Nat.zero_le _) (Nat.zero_le _) dX9_nextOf_54 ⟨by (try dsimp only) <;> (rw [hn, nxT_end (by omega)]), rfl, rfl, rfl⟩
      · skip
        refine ziconst (pc := 12) (n := 1) hx hb dX9_nextOf_12 ?_
        refine lv_istore (pc := 13) (lv' := [(4, .int (iI 1)), (3, .int (iI yy)), (0, .ref md), (1, .int (iI pattern)), (2, .int (iI day))]) hx hb dX9_nextOf_13 hl (by decide) rfl (fun ls hl => ?_)
        have lp15 : ∀ (n15 : Nat) (mm : Int) (H : Heap) (locs : List Loc), (hm : 1 ≤ mm ∧ mm ≤ 13) → (hn2 : nextT (pfX X a2 a3 a4 pattern.toNat) day = nxT (pfX X a2 a3 a4 pattern.toNat) day (2400 - (12 * (yy - 1900) + mm - 1)).toNat (12 * (yy - 1900) + mm - 1)) → ((13 - mm).toNat < n15) → Wd Γ (zA K s.heap.size) K X Rf s H locs → ∀ ls : Array Slot, lv_has ls 6 [(4, .int (iI mm)), (3, .int (iI yy)), (0, .ref md), (1, .int (iI pattern)), (2, .int (iI day))] → W p l e (rmL 5 0 0) s m ([.ref md, .int (iI pattern), .int (iI day)] : List Value).toArray below meth c H locs 0 0 (MQ below (zQ Γ K s.heap.size (pI (zp0 K X Rf (fun r : Int => r = nextT (pfX X a2 a3 a4 pattern.toNat) day)))) ([.ref md, .int (iI pattern), .int (iI day)] : List Value).toArray s 0 0 (zA K s.heap.size)) (F0 m 15 ls []) := by
          intro n15
          induction n15 with
          | zero => intro mm H locs hm hn2 hm15; exact absurd hm15 (Nat.not_lt_zero _)
          | succ n15 ih15 =>
            intro mm H locs hm hn2 hm15 hw ls hl
            refine lv_iload (pc := 15) hx hb dX9_nextOf_15 (lv_at hl 0 rfl) ?_
            refine zbipush (pc := 17) (n := 12) hx hb dX9_nextOf_17 rfl ?_
            refine zicmp_gt (pc := 19) hx hb 47 (by omega) (by omega) dX9_nextOf_19 (by decide) (fun c19 => ?_) (fun c19 => ?_)
            · skip
              refine ziinc (pc := 47) (lv' := [(3, .int (iI (yy + 1))), (4, .int (iI mm)), (0, .ref md), (1, .int (iI pattern)), (2, .int (iI day))]) hx hb 1 dX9_nextOf_47 hl rfl (by decide) rfl (fun ls hl => ?_)
              obtain ⟨x47, ex47⟩ : ∃ zz : Int, zz = (yy + 1) := ⟨_, rfl⟩
              rw [← ex47] at hl
              refine lv_goto (pc := 50) (tgt := 5) hx hb dX9_nextOf_50 (by decide) ?_
              exact ih5 x47 _ _ (by (first | assumption | omega)) (by rw [hn2, ex47, show 12 * (yy + 1 - 1900) = 12 * (yy - 1900) + mm - 1 by omega]) (by omega) hw _ (lv_sub hl [0, 2, 3, 4] rfl)
            · skip
              refine lv_aload_n (pc := 22) hx hb dX9_nextOf_22 rfl (lv_at hl 2 rfl) ?_
              refine lv_iload_n (pc := 23) hx hb dX9_nextOf_23 rfl (lv_at hl 3 rfl) ?_
              refine lv_iload_n (pc := 24) hx hb dX9_nextOf_24 rfl (lv_at hl 1 rfl) ?_
              refine lv_iload (pc := 25) hx hb dX9_nextOf_25 (lv_at hl 0 rfl) ?_
              refine zkIp (pc := 27) (zrV (As := [.int (iI pattern), .int (iI yy), .int (iI mm)]) hx hb hml hown hG hw (c_X9_toldIn l Γ K X Rf md pattern yy mm a2 a3 a4 (by (first | assumption | omega)) (by (first | assumption | omega)) (by (first | assumption | omega)) (by (first | assumption | omega)) (by (first | assumption | omega)) (by (first | assumption | omega)) (by (first | assumption | omega)) (by (first | assumption | omega)) (by (first | assumption | omega)) (by (first | assumption | omega)) (by (first | assumption | omega))) (T := TX9) hmd rfl cb_X9_toldIn wl_X9_145 rfl ⟨Nat.le_of_ble_eq_true rfl, Nat.le_of_ble_eq_true rfl⟩ hl.1 rfl (Nat.le_of_ble_eq_true rfl) dX9_nextOf_27 ⟨Nat.zero_le _, Nat.zero_le _⟩) hw (fun r27 H locs hp27 hw => ?_)
              subst hp27
              have hp27f0 := told_rng (pfX X a2 a3 a4 pattern.toNat) (12 * (yy - 1900) + mm - 1)
              refine ztop (fun x30 ex30 => ?_)
              refine lv_istore (pc := 30) (lv' := [(5, .int (iI x30)), (4, .int (iI mm)), (3, .int (iI yy)), (0, .ref md), (1, .int (iI pattern)), (2, .int (iI day))]) hx hb dX9_nextOf_30 hl (by decide) rfl (fun ls hl => ?_)
              refine lv_iload (pc := 32) hx hb dX9_nextOf_32 (lv_at hl 0 rfl) ?_
              refine lv_iload_n (pc := 34) hx hb dX9_nextOf_34 rfl (lv_at hl 5 rfl) ?_
              refine zicmp_lt (pc := 35) hx hb 41 (by omega) (by omega) dX9_nextOf_35 (by decide) (fun c35 => ?_) (fun c35 => ?_)
              · skip
                refine ziinc (pc := 41) (lv' := [(4, .int (iI (mm + 1))), (5, .int (iI x30)), (3, .int (iI yy)), (0, .ref md), (1, .int (iI pattern)), (2, .int (iI day))]) hx hb 1 dX9_nextOf_41 hl rfl (by decide) rfl (fun ls hl => ?_)
                obtain ⟨x41, ex41⟩ : ∃ zz : Int, zz = (mm + 1) := ⟨_, rfl⟩
                rw [← ex41] at hl
                refine lv_goto (pc := 44) (tgt := 15) hx hb dX9_nextOf_44 (by decide) ?_
                exact ih15 x41 _ _ (by (first | assumption | omega)) (by rw [hn2, nxT_step (by omega) (by omega), ex41, show 12 * (yy - 1900) + mm - 1 + 1 = 12 * (yy - 1900) + (mm + 1) - 1 by omega]) (by omega) hw _ (lv_sub hl [0, 2, 3, 4, 5] rfl)
              · skip
                refine lv_iload (pc := 38) hx hb dX9_nextOf_38 (lv_at hl 0 rfl) ?_
                exact zretI (pc := 40) hx hb hlocks hr hw (Nat.zero_le _) (Nat.zero_le _) dX9_nextOf_40 ⟨by (try dsimp only) <;> (rw [hn2, nxT_hit (by omega) (by omega)]; omega), rfl, rfl, rfl⟩
        exact lp15 _ 1 _ _ (by (first | assumption | omega)) (by rw [hn, show 12 * (yy - 1900) + 1 - 1 = 12 * (yy - 1900) by omega]) (Nat.lt_succ_self _) hw _ (lv_sub hl [0, 1, 2, 3, 4] rfl)
  exact lp5 _ x4 _ _ (by (first | assumption | omega)) (by have hym := yr_mi (d := day) (by omega) (by omega); have hmr := mi_rng (d := day) (by omega) (by omega); exact (nextT_ahead ⟨by omega, by omega⟩ (by omega) (by omega)).symm) (Nat.lt_succ_self _) hw _ (lv_sub hl [0, 1, 2, 3] rfl)
set_option maxHeartbeats 4000000 in
set_option maxRecDepth 100000 in
theorem c_X9_isPattern (l : Launch) (Γ : zG) (K : zK) (X : zX) (Rf : zR) (md : Nat) (a : Int)  (hmd : K md = (1, 8)) (h1 : fit a ∧ -1000 ≤ X md 1 ∧ X md 1 ≤ 1000) : Ct l yX9_isPattern cX9_isPattern 2 (some .boolean) 1 0 0 Γ [.ref md, .int (iI a)] K X Rf (pI (zp0 K X Rf (fun r : Int => r = if 0 ≤ a ∧ a ≤ X md 1 - 1 then 1 else 0))) := by
  refine Ct.of (by decide +kernel) (Nat.le_of_ble_eq_true rfl) ?_
  intro p e s m below meth c ls hx hb hr hml hown hG hlocks hname hw hl
  have hl : lv_has ls 2 [(0, .ref md), (1, .int (iI a))] := hl
  refine lv_iload_n (pc := 0) hx hb dX9_isPattern_0 rfl (lv_at hl 1 rfl) ?_
  refine ziconst (pc := 1) (n := 0) hx hb dX9_isPattern_1 ?_
  refine lv_aload_n (pc := 2) hx hb dX9_isPattern_2 rfl (lv_at hl 0 rfl) ?_
  refine zgetI (pc := 3) hx hb hG hown hw hmd (T := TX9) rfl 1 (by decide) rfl wf_X9_142 rfl dX9_isPattern_3 ?_
  refine ziconst (pc := 6) (n := 1) hx hb dX9_isPattern_6 ?_
  refine zsub (pc := 7) hx hb dX9_isPattern_7 ?_
  refine zkIp (pc := 8) (zrS (As := [.int (iI a), .int (iI 0), .int (iI ((X md 1) - 1))]) hx hb hml hown hG hw (c_X9_is l Γ K X Rf a 0 ((X md 1) - 1)  (by (first | assumption | omega))) cb_X9_is wl_X9_91 rfl ⟨Nat.le_of_ble_eq_true rfl, Nat.le_of_ble_eq_true rfl⟩ hl.1 rfl (Nat.le_of_ble_eq_true rfl) dX9_isPattern_8 ⟨Nat.zero_le _, Nat.zero_le _⟩) hw (fun r8 H locs hp8 hw => ?_)
  subst hp8
  exact zretZ (pc := 11) hx hb hlocks hr (by omega) hw (Nat.zero_le _) (Nat.zero_le _) dX9_isPattern_11 ⟨by (try dsimp only) <;> ((first | assumption | omega)), rfl, rfl, rfl⟩
