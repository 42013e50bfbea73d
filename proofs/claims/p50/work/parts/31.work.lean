set_option maxHeartbeats 4000000 in
set_option maxRecDepth 100000 in
theorem c_X7_takes (l : Launch) (Γ : zG) (K : zK) (X : zX) (Rf : zR) (wo : Nat) (day : Int) (way : Int) (number : Int) (fa : Nat) (fn : Nat) (hk : K wo = (1, 6)) (hw2 : 1 ≤ X wo 2 ∧ X wo 2 ≤ 127) (hr7 : Rf wo 7 = some fa) (hkfa : K fa = (1, 0)) (hr0 : Rf fa 0 = some fn) (hkfn : K fn = (2, 1701)) (hb0 : (-100000 ≤ X fa 1 ∧ X fa 1 ≤ 200000) ∧ -100000 ≤ X fa 2 ∧ X fa 2 ≤ 200000) (hvr : fvr X fn) (h1 : -100000 ≤ day ∧ day ≤ 200000) (h2 : fit way ∧ fit number) : Ct l yX7_takes cX7_takes 5 (some .boolean) 1 0 0 Γ [.ref wo, .int (iI day), .int (iI way), .int (iI number)] K X Rf (pI (zp0 K X Rf (fun r : Int => r = bI (frD (X wo 2) way (rkG X fa fn number) day)))) := by
  refine Ct.of (by decide +kernel) (Nat.le_of_ble_eq_true rfl) ?_
  intro p e s m below meth c ls hx hb hr hml hown hG hlocks hname hw hl
  have hl : lv_has ls 5 [(0, .ref wo), (1, .int (iI day)), (2, .int (iI way)), (3, .int (iI number))] := hl
  refine lv_aload_n (pc := 0) hx hb dX7_takes_0 rfl (lv_at hl 0 rfl) ?_
  refine zgetI (pc := 1) hx hb hG hown hw hk (T := TX7) rfl 2 (by decide) rfl wf_X7_24 rfl dX7_takes_1 ?_
  refine lv_iload_n (pc := 4) hx hb dX7_takes_4 rfl (lv_at hl 1 rfl) ?_
  refine zbipush (pc := 5) (n := 7) hx hb dX7_takes_5 rfl ?_
  refine zkIp (pc := 7) (zrS (As := [.int (iI day), .int (iI 7)]) hx hb hml hown hG hw (c_J9_floorMod_7cf53 l Γ K X Rf day  (by (first | assumption | omega))) cb_J9_floorMod_7cf53 wl_X7_115 rfl ⟨Nat.le_of_ble_eq_true rfl, Nat.le_of_ble_eq_true rfl⟩ hl.1 rfl (Nat.le_of_ble_eq_true rfl) dX7_takes_7 ⟨Nat.zero_le _, Nat.zero_le _⟩) hw (fun r7 H locs hp7 hw => ?_)
  subst hp7
  refine zshr (pc := 10) hx hb (by omega) dX7_takes_10 ?_
  refine ziconst (pc := 11) (n := 1) hx hb dX7_takes_11 ?_
  refine zand1 (pc := 12) hx hb dX7_takes_12 ?_
  have hbw : bitw (X wo 2) day = X wo 2 / 2 ^ (day % 7).toNat % 2 := rfl
  refine zif_ne (pc := 13) hx hb 18 (by omega) dX7_takes_13 (by decide) (fun c13 => ?_) (fun c13 => ?_)
  · skip
    refine lv_aload_n (pc := 18) hx hb dX7_takes_18 rfl (lv_at hl 0 rfl) ?_
    refine zgetR (pc := 19) hx hb hG hown hw hk (T := TX7) rfl 7 (by decide) rfl wf_X7_45 rfl hr7 dX7_takes_19 ?_
    refine lv_iload_n (pc := 22) hx hb dX7_takes_22 rfl (lv_at hl 1 rfl) ?_
    refine zkIp (pc := 23) (zrV (As := [.int (iI day)]) hx hb hml hown hG hw (c_X0_read l Γ K X Rf fa day fn 1701 (by (first | assumption | omega)) (by (first | assumption | omega)) (by (first | assumption | omega)) (by (first | assumption | omega)) (by (first | assumption | omega)) (by (first | assumption | omega))) (T := TX0) hkfa rfl cb_X0_read wl_X7_105 rfl ⟨Nat.le_of_ble_eq_true rfl, Nat.le_of_ble_eq_true rfl⟩ hl.1 rfl (Nat.le_of_ble_eq_true rfl) dX7_takes_23 ⟨Nat.zero_le _, Nat.zero_le _⟩) hw (fun r23 H locs hp23 hw => ?_)
    subst hp23
    refine ztop (fun x26 ex26 => ?_)
    refine lv_istore (pc := 26) (lv' := [(4, .int (iI x26)), (0, .ref wo), (1, .int (iI day)), (2, .int (iI way)), (3, .int (iI number))]) hx hb dX7_takes_26 hl (by decide) rfl (fun ls hl => ?_)
    have hv := rdv_fvr (fa := fa) hvr day
    have hrk := rkG_iff (X := X) (fa := fa) (fn := fn) (k := number) (d := day)
    rw [← ex26] at hrk hv
    refine lv_iload_n (pc := 28) hx hb dX7_takes_28 rfl (lv_at hl 3 rfl) ?_
    refine ziconst (pc := 29) (n := 3) hx hb dX7_takes_29 ?_
    refine zicmp_ne (pc := 30) hx hb 44 (by omega) (by omega) dX7_takes_30 (by decide) (fun c30 => ?_) (fun c30 => ?_)
    · skip
      refine ziconst (pc := 44) (n := 1) hx hb dX7_takes_44 ?_
      refine lv_goto (pc := 45) (tgt := 49) hx hb dX7_takes_45 (by decide) ?_
      exact zretZ (pc := 49) hx hb hlocks hr (Or.inr rfl) hw (Nat.zero_le _) (Nat.zero_le _) dX7_takes_49 ⟨by (try dsimp only) <;> (first | (rw [frI_1 (by omega) (by omega)]) | (rw [frI_0 (by omega)])), rfl, rfl, rfl⟩
    · skip
      refine lv_iload (pc := 33) hx hb dX7_takes_33 (lv_at hl 0 rfl) ?_
      refine zif_lt (pc := 35) hx hb 44 (by omega) dX7_takes_35 (by decide) (fun c35 => ?_) (fun c35 => ?_)
      · skip
        refine ziconst (pc := 44) (n := 1) hx hb dX7_takes_44 ?_
        refine lv_goto (pc := 45) (tgt := 49) hx hb dX7_takes_45 (by decide) ?_
        exact zretZ (pc := 49) hx hb hlocks hr (Or.inr rfl) hw (Nat.zero_le _) (Nat.zero_le _) dX7_takes_49 ⟨by (try dsimp only) <;> (first | (rw [frI_1 (by omega) (by omega)]) | (rw [frI_0 (by omega)])), rfl, rfl, rfl⟩
      · skip
        refine lv_iload (pc := 38) hx hb dX7_takes_38 (lv_at hl 0 rfl) ?_
        refine lv_iload_n (pc := 40) hx hb dX7_takes_40 rfl (lv_at hl 4 rfl) ?_
        refine zicmp_lt (pc := 41) hx hb 48 (by omega) (by omega) dX7_takes_41 (by decide) (fun c41 => ?_) (fun c41 => ?_)
        · skip
          refine ziconst (pc := 48) (n := 0) hx hb dX7_takes_48 ?_
          exact zretZ (pc := 49) hx hb hlocks hr (Or.inl rfl) hw (Nat.zero_le _) (Nat.zero_le _) dX7_takes_49 ⟨by (try dsimp only) <;> (first | (rw [frI_1 (by omega) (by omega)]) | (rw [frI_0 (by omega)])), rfl, rfl, rfl⟩
        · skip
          refine ziconst (pc := 44) (n := 1) hx hb dX7_takes_44 ?_
          refine lv_goto (pc := 45) (tgt := 49) hx hb dX7_takes_45 (by decide) ?_
          exact zretZ (pc := 49) hx hb hlocks hr (Or.inr rfl) hw (Nat.zero_le _) (Nat.zero_le _) dX7_takes_49 ⟨by (try dsimp only) <;> (first | (rw [frI_1 (by omega) (by omega)]) | (rw [frI_0 (by omega)])), rfl, rfl, rfl⟩
  · skip
    refine ziconst (pc := 16) (n := 0) hx hb dX7_takes_16 ?_
    exact zretZ (pc := 17) hx hb hlocks hr (Or.inl rfl) hw (Nat.zero_le _) (Nat.zero_le _) dX7_takes_17 ⟨by (try dsimp only) <;> (rw [frI_0 (by omega)]), rfl, rfl, rfl⟩
set_option maxHeartbeats 4000000 in
set_option maxRecDepth 100000 in
theorem c_X7_moved (l : Launch) (Γ : zG) (K : zK) (X : zX) (Rf : zR) (wo : Nat) (day : Int) (way : Int) (number : Int) (fa : Nat) (fn : Nat) (hk : K wo = (1, 6)) (hw2 : 1 ≤ X wo 2 ∧ X wo 2 ≤ 127) (hr7 : Rf wo 7 = some fa) (hkfa : K fa = (1, 0)) (hr0 : Rf fa 0 = some fn) (hkfn : K fn = (2, 1701)) (hb0 : (-100000 ≤ X fa 1 ∧ X fa 1 ≤ 200000) ∧ -100000 ≤ X fa 2 ∧ X fa 2 ≤ 200000) (hvr : fvr X fn) (h1 : 0 ≤ day ∧ day ≤ 73048) (h2 : (0 ≤ way ∧ way ≤ 3) ∧ fit number) : Ct l yX7_moved cX7_moved 5 (some .int) 2 0 0 Γ [.ref wo, .int (iI day), .int (iI way), .int (iI number)] K X Rf (pI (zp0 K X Rf (fun r : Int => r = mvD (frD (X wo 2) way (rkG X fa fn number)) way day))) := by
  refine Ct.of (by decide +kernel) (Nat.le_of_ble_eq_true rfl) ?_
  intro p e s m below meth c ls hx hb hr hml hown hG hlocks hname hw hl
  have hl : lv_has ls 5 [(0, .ref wo), (1, .int (iI day)), (2, .int (iI way)), (3, .int (iI number))] := hl
  refine lv_iload_n (pc := 0) hx hb dX7_moved_0 rfl (lv_at hl 2 rfl) ?_
  refine zif_eq (pc := 1) hx hb 14 (by omega) dX7_moved_1 (by decide) (fun c1 => ?_) (fun c1 => ?_)
  · skip
    refine lv_iload_n (pc := 14) hx hb dX7_moved_14 rfl (lv_at hl 1 rfl) ?_
    exact zretI (pc := 15) hx hb hlocks hr hw (Nat.zero_le _) (Nat.zero_le _) dX7_moved_15 ⟨by (try dsimp only) <;> (unfold mvD; first | (rw [if_pos (Or.inl (by omega))]) | (rw [if_pos (Or.inr q11)])), rfl, rfl, rfl⟩
  · skip
    refine lv_aload_n (pc := 4) hx hb dX7_moved_4 rfl (lv_at hl 0 rfl) ?_
    refine lv_iload_n (pc := 5) hx hb dX7_moved_5 rfl (lv_at hl 1 rfl) ?_
    refine lv_iload_n (pc := 6) hx hb dX7_moved_6 rfl (lv_at hl 2 rfl) ?_
    refine lv_iload_n (pc := 7) hx hb dX7_moved_7 rfl (lv_at hl 3 rfl) ?_
    refine zkIp (pc := 8) (zrV (As := [.int (iI day), .int (iI way), .int (iI number)]) hx hb hml hown hG hw (c_X7_takes l Γ K X Rf wo day way number fa fn (by (first | assumption | omega)) (by (first | assumption | omega)) (by (first | assumption | omega)) (by (first | assumption | omega)) (by (first | assumption | omega)) (by (first | assumption | omega)) (by (first | assumption | omega)) (by (first | assumption | omega)) (by (first | assumption | omega)) (by (first | assumption | omega))) (T := TX7) hk rfl cb_X7_takes wl_X7_111 rfl ⟨Nat.le_of_ble_eq_true rfl, Nat.le_of_ble_eq_true rfl⟩ hl.1 rfl (Nat.le_of_ble_eq_true rfl) dX7_moved_8 ⟨Nat.zero_le _, Nat.zero_le _⟩) hw (fun r8 H locs hp8 hw => ?_)
    subst hp8
    have hp8f0 := bI_rng (frD (X wo 2) way (rkG X fa fn number) day)
    refine zif_eq (pc := 11) hx hb 16 (by omega) dX7_moved_11 (by decide) (fun c11 => ?_) (fun c11 => ?_)
    · skip
      have q11 := bI_0 c11
      refine ziconst (pc := 16) (n := 1) hx hb dX7_moved_16 ?_
      refine lv_istore (pc := 17) (lv' := [(4, .int (iI 1)), (0, .ref wo), (1, .int (iI day)), (2, .int (iI way)), (3, .int (iI number))]) hx hb dX7_moved_17 hl (by decide) rfl (fun ls hl => ?_)
      have lp19 : ∀ (n19 : Nat) (kk : Int) (H : Heap) (locs : List Loc), (hi : 1 ≤ kk ∧ kk ≤ 61) → (hm : mvD (frD (X wo 2) way (rkG X fa fn number)) way day = mvS (frD (X wo 2) way (rkG X fa fn number)) way day (61 - kk).toNat kk) → ((61 - kk).toNat < n19) → Wd Γ (zA K s.heap.size) K X Rf s H locs → ∀ ls : Array Slot, lv_has ls 5 [(4, .int (iI kk)), (0, .ref wo), (1, .int (iI day)), (2, .int (iI way)), (3, .int (iI number))] → W p l e (rmL 2 0 0) s m ([.ref wo, .int (iI day), .int (iI way), .int (iI number)] : List Value).toArray below meth c H locs 0 0 (MQ below (zQ Γ K s.heap.size (pI (zp0 K X Rf (fun r : Int => r = mvD (frD (X wo 2) way (rkG X fa fn number)) way day)))) ([.ref wo, .int (iI day), .int (iI way), .int (iI number)] : List Value).toArray s 0 0 (zA K s.heap.size)) (F0 m 19 ls []) := by
        intro n19
        induction n19 with
        | zero => intro kk H locs hi hm hm19; exact absurd hm19 (Nat.not_lt_zero _)
        | succ n19 ih19 =>
          intro kk H locs hi hm hm19 hw ls hl
          refine lv_iload (pc := 19) hx hb dX7_moved_19 (lv_at hl 0 rfl) ?_
          refine zbipush (pc := 21) (n := 60) hx hb dX7_moved_21 rfl ?_
          refine zicmp_gt (pc := 23) hx hb 73 (by omega) (by omega) dX7_moved_23 (by decide) (fun c23 => ?_) (fun c23 => ?_)
          · skip
            refine ziconst (pc := 73) (n := (-1)) hx hb dX7_moved_73 ?_
            exact zretI (pc := 74) hx hb hlocks hr hw (Nat.zero_le _) (Nat.zero_le _) dX7_moved_74 ⟨by (try dsimp only) <;> (rw [hm, mvS_e (by omega)]), rfl, rfl, rfl⟩
          · skip
            refine lv_aload_n (pc := 26) hx hb dX7_moved_26 rfl (lv_at hl 1 rfl) ?_
            refine lv_iload_n (pc := 27) hx hb dX7_moved_27 rfl (lv_at hl 2 rfl) ?_
            refine lv_iload (pc := 28) hx hb dX7_moved_28 (lv_at hl 0 rfl) ?_
            refine zadd (pc := 30) hx hb dX7_moved_30 ?_
            refine lv_iload_n (pc := 31) hx hb dX7_moved_31 rfl (lv_at hl 3 rfl) ?_
            refine lv_iload_n (pc := 32) hx hb dX7_moved_32 rfl (lv_at hl 4 rfl) ?_
            refine zkIp (pc := 33) (zrV (As := [.int (iI (day + kk)), .int (iI way), .int (iI number)]) hx hb hml hown hG hw (c_X7_takes l Γ K X Rf wo (day + kk) way number fa fn (by (first | assumption | omega)) (by (first | assumption | omega)) (by (first | assumption | omega)) (by (first | assumption | omega)) (by (first | assumption | omega)) (by (first | assumption | omega)) (by (first | assumption | omega)) (by (first | assumption | omega)) (by (first | assumption | omega)) (by (first | assumption | omega))) (T := TX7) hk rfl cb_X7_takes wl_X7_111 rfl ⟨Nat.le_of_ble_eq_true rfl, Nat.le_of_ble_eq_true rfl⟩ hl.1 rfl (Nat.le_of_ble_eq_true rfl) dX7_moved_33 ⟨Nat.zero_le _, Nat.zero_le _⟩) hw (fun r33 H locs hp33 hw => ?_)
            subst hp33
            have hp33f0 := bI_rng (frD (X wo 2) way (rkG X fa fn number) (day + kk))
            refine zif_eq (pc := 36) hx hb 44 (by omega) dX7_moved_36 (by decide) (fun c36 => ?_) (fun c36 => ?_)
            · skip
              have q36 := bI_0 c36
              refine lv_iload_n (pc := 44) hx hb dX7_moved_44 rfl (lv_at hl 3 rfl) ?_
              refine ziconst (pc := 45) (n := 2) hx hb dX7_moved_45 ?_
              refine zicmp_ne (pc := 46) hx hb 67 (by omega) (by omega) dX7_moved_46 (by decide) (fun c46 => ?_) (fun c46 => ?_)
              · skip
                refine ziinc (pc := 67) (lv' := [(4, .int (iI (kk + 1))), (0, .ref wo), (1, .int (iI day)), (2, .int (iI way)), (3, .int (iI number))]) hx hb 0 dX7_moved_67 hl rfl (by decide) rfl (fun ls hl => ?_)
                obtain ⟨x67, ex67⟩ : ∃ zz : Int, zz = (kk + 1) := ⟨_, rfl⟩
                rw [← ex67] at hl
                refine lv_goto (pc := 70) (tgt := 19) hx hb dX7_moved_70 (by decide) ?_
                exact ih19 x67 _ _ (by (first | assumption | omega)) (by rw [hm, ex67]; first | exact mvS_c (by omega) q36 (Or.inl (by omega)) | exact mvS_c (by omega) q36 (Or.inr q59)) (by omega) hw _ (lv_sub hl [0, 1, 2, 3, 4] rfl)
              · skip
                refine lv_aload_n (pc := 49) hx hb dX7_moved_49 rfl (lv_at hl 1 rfl) ?_
                refine lv_iload_n (pc := 50) hx hb dX7_moved_50 rfl (lv_at hl 2 rfl) ?_
                refine lv_iload (pc := 51) hx hb dX7_moved_51 (lv_at hl 0 rfl) ?_
                refine zsub (pc := 53) hx hb dX7_moved_53 ?_
                refine lv_iload_n (pc := 54) hx hb dX7_moved_54 rfl (lv_at hl 3 rfl) ?_
                refine lv_iload_n (pc := 55) hx hb dX7_moved_55 rfl (lv_at hl 4 rfl) ?_
                refine zkIp (pc := 56) (zrV (As := [.int (iI (day - kk)), .int (iI way), .int (iI number)]) hx hb hml hown hG hw (c_X7_takes l Γ K X Rf wo (day - kk) way number fa fn (by (first | assumption | omega)) (by (first | assumption | omega)) (by (first | assumption | omega)) (by (first | assumption | omega)) (by (first | assumption | omega)) (by (first | assumption | omega)) (by (first | assumption | omega)) (by (first | assumption | omega)) (by (first | assumption | omega)) (by (first | assumption | omega))) (T := TX7) hk rfl cb_X7_takes wl_X7_111 rfl ⟨Nat.le_of_ble_eq_true rfl, Nat.le_of_ble_eq_true rfl⟩ hl.1 rfl (Nat.le_of_ble_eq_true rfl) dX7_moved_56 ⟨Nat.zero_le _, Nat.zero_le _⟩) hw (fun r56 H locs hp56 hw => ?_)
                subst hp56
                have hp56f0 := bI_rng (frD (X wo 2) way (rkG X fa fn number) (day - kk))
                refine zif_eq (pc := 59) hx hb 67 (by omega) dX7_moved_59 (by decide) (fun c59 => ?_) (fun c59 => ?_)
                · skip
                  have q59 := bI_0 c59
                  refine ziinc (pc := 67) (lv' := [(4, .int (iI (kk + 1))), (0, .ref wo), (1, .int (iI day)), (2, .int (iI way)), (3, .int (iI number))]) hx hb 0 dX7_moved_67 hl rfl (by decide) rfl (fun ls hl => ?_)
                  obtain ⟨x67, ex67⟩ : ∃ zz : Int, zz = (kk + 1) := ⟨_, rfl⟩
                  rw [← ex67] at hl
                  refine lv_goto (pc := 70) (tgt := 19) hx hb dX7_moved_70 (by decide) ?_
                  exact ih19 x67 _ _ (by (first | assumption | omega)) (by rw [hm, ex67]; first | exact mvS_c (by omega) q36 (Or.inl (by omega)) | exact mvS_c (by omega) q36 (Or.inr q59)) (by omega) hw _ (lv_sub hl [0, 1, 2, 3, 4] rfl)
                · skip
                  have q59 := bI_1 c59
                  refine lv_iload_n (pc := 62) hx hb dX7_moved_62 rfl (lv_at hl 2 rfl) ?_
                  refine lv_iload (pc := 63) hx hb dX7_moved_63 (lv_at hl 0 rfl) ?_
                  refine zsub (pc := 65) hx hb dX7_moved_65 ?_
                  exact zretI (pc := 66) hx hb hlocks hr hw (Nat.zero_le _) (Nat.zero_le _) dX7_moved_66 ⟨by (try dsimp only) <;> (rw [hm, mvS_b (by omega) q36 (by omega) q59]), rfl, rfl, rfl⟩
            · skip
              have q36 := bI_1 c36
              refine lv_iload_n (pc := 39) hx hb dX7_moved_39 rfl (lv_at hl 2 rfl) ?_
              refine lv_iload (pc := 40) hx hb dX7_moved_40 (lv_at hl 0 rfl) ?_
              refine zadd (pc := 42) hx hb dX7_moved_42 ?_
              exact zretI (pc := 43) hx hb hlocks hr hw (Nat.zero_le _) (Nat.zero_le _) dX7_moved_43 ⟨by (try dsimp only) <;> (rw [hm, mvS_a (by omega) q36]), rfl, rfl, rfl⟩
      exact lp19 _ 1 _ _ (by (first | assumption | omega)) (by unfold mvD; rw [if_neg (by rintro (q | q); omega; rw [q11] at q; exact absurd q (by simp))]) (Nat.lt_succ_self _) hw _ (lv_sub hl [0, 1, 2, 3, 4] rfl)
    · skip
      have q11 := bI_1 c11
      refine lv_iload_n (pc := 14) hx hb dX7_moved_14 rfl (lv_at hl 1 rfl) ?_
      exact zretI (pc := 15) hx hb hlocks hr hw (Nat.zero_le _) (Nat.zero_le _) dX7_moved_15 ⟨by (try dsimp only) <;> (unfold mvD; first | (rw [if_pos (Or.inl (by omega))]) | (rw [if_pos (Or.inr q11)])), rfl, rfl, rfl⟩
set_option maxHeartbeats 4000000 in
set_option maxRecDepth 100000 in
theorem c_X7_findFeast (l : Launch) (Γ : zG) (K : zK) (X : zX) (Rf : zR) (wo : Nat) (fo : Nat) (number : Int) (fm_ : Int) (lm_ : Int) (fa : Nat) (fn : Nat) (pa : Nat) (G : Int → Int) (lo : Int) (lo2 : Int) (hk : K wo = (1, 6)) (hw2 : 1 ≤ X wo 2 ∧ X wo 2 ≤ 127) (hr7 : Rf wo 7 = some fa) (hkfa : K fa = (1, 0)) (hr0 : Rf fa 0 = some fn) (hkfn : K fn = (2, 1701)) (hvr : fvr X fn) (hkfo : K fo = (1, 1)) (hrp : Rf fo 2 = some pa) (hkp : K pa = (1, 2)) (hP : okP (X pa)) (hF : 0 ≤ X fo 3 ∧ X fo 3 ≤ 3) (hnum : 0 ≤ number ∧ number ≤ 19) (hmm : (0 ≤ fm_ ∧ fm_ ≤ 100000) ∧ -100000 ≤ lm_ ∧ lm_ < 2400) (hlo : loR lo lo2) (hGd : ∀ d, -1 ≤ G d ∧ G d < number) (hrow : (0 ≤ X fa 1 ∧ X fa 1 ≤ lo ∧ X fa 1 ≤ 100000) ∧ X fa 2 ≤ 73048 ∧ X fa 2 - X fa 1 < 1701 ∧ -100000 ≤ X fa 2) (hA0 : ∀ d : Int, lo ≤ d → d ≤ X fa 2 → rdv X fa fn 1701 d = G d) : Ct l yX7_findFeast cX7_findFeast 8 none 3 0 0 Γ [.ref wo, .ref fo, .int (iI number), .int (iI fm_), .int (iI lm_)] K X Rf (pV (zpv K Rf (fun X' : zX => (∀ d : Int, lo2 ≤ d → d ≤ X fa 2 → rdv X' fa fn 1701 d = bF (X wo 2) (X fo 3) (X pa) G number fm_ lm_ d) ∧ fvr X' fn ∧ (∀ a, a ≠ fn → X' a = X a)))) := by
  refine Ct.of (by decide +kernel) (Nat.le_of_ble_eq_true rfl) ?_
  intro p e s m below meth c ls hx hb hr hml hown hG hlocks hname hw hl
  have hl : lv_has ls 8 [(0, .ref wo), (1, .ref fo), (2, .int (iI number)), (3, .int (iI fm_)), (4, .int (iI lm_))] := hl
  have hne : fa ≠ fn := zkne hkfa hkfn (by simp)
  have hn1 : wo ≠ fn := zkne hk hkfn (by simp)
  have hn2 : fo ≠ fn := zkne hkfo hkfn (by simp)
  have hn3 : pa ≠ fn := zkne hkp hkfn (by simp)
  have hst := fi_start (w := X wo 2) (way := X fo 3) (P := X pa) (num := number) (a := fm_) hlo (fun d => (hGd d).1) hA0
  refine lv_iload_n (pc := 0) hx hb dX7_findFeast_0 rfl (lv_at hl 3 rfl) ?_
  refine lv_istore (pc := 1) (lv' := [(5, .int (iI fm_)), (0, .ref wo), (1, .ref fo), (2, .int (iI number)), (3, .int (iI fm_)), (4, .int (iI lm_))]) hx hb dX7_findFeast_1 hl (by decide) rfl (fun ls hl => ?_)
  have lp3 : ∀ (n3 : Nat) (ix : Int) (XL3 : zX) (H : Heap) (locs : List Loc), (hi : fm_ ≤ ix ∧ (ix ≤ lm_ + 1 ∨ ix = fm_)) → (hfA : fiA XL3 fa fn G number lo) → (hfB : fiB XL3 fa fn (X wo 2) (X fo 3) (X pa) G number fm_ (ix - 1) lo2) → (hv2 : fvr XL3 fn) → (ho : ∀ a, a ≠ fn → XL3 a = X a) → ((lm_ + 1 - ix).toNat < n3) → Wd Γ (zA K s.heap.size) K XL3 Rf s H locs → ∀ ls : Array Slot, lv_has ls 8 [(5, .int (iI ix)), (0, .ref wo), (1, .ref fo), (2, .int (iI number)), (3, .int (iI fm_)), (4, .int (iI lm_))] → W p l e (rmL 3 0 0) s m ([.ref wo, .ref fo, .int (iI number), .int (iI fm_), .int (iI lm_)] : List Value).toArray below meth c H locs 0 0 (MQ below (zQ Γ K s.heap.size (pV (zpv K Rf (fun X' : zX => (∀ d : Int, lo2 ≤ d → d ≤ X fa 2 → rdv X' fa fn 1701 d = bF (X wo 2) (X fo 3) (X pa) G number fm_ lm_ d) ∧ fvr X' fn ∧ (∀ a, a ≠ fn → X' a = X a))))) ([.ref wo, .ref fo, .int (iI number), .int (iI fm_), .int (iI lm_)] : List Value).toArray s 0 0 (zA K s.heap.size)) (F0 m 3 ls []) := by
    intro n3
    induction n3 with
    | zero => intro ix XL3 H locs hi hfA hfB hv2 ho hm3; exact absurd hm3 (Nat.not_lt_zero _)
    | succ n3 ih3 =>
      intro ix XL3 H locs hi hfA hfB hv2 ho hm3 hw ls hl
      have hfa9 : XL3 fa = X fa := ho fa hne
      have hd1 : XL3 fa 1 = X fa 1 := by rw [hfa9]
      have hd2 : XL3 fa 2 = X fa 2 := by rw [hfa9]
      have hwo2 : XL3 wo 2 = X wo 2 := by rw [ho wo hn1]
      have hfo3 : XL3 fo 3 = X fo 3 := by rw [ho fo hn2]
      have hpa : XL3 pa = X pa := ho pa hn3
      have hlo2 : 0 ≤ lo2 := by omega
      refine lv_iload (pc := 3) hx hb dX7_findFeast_3 (lv_at hl 0 rfl) ?_
      refine lv_iload (pc := 5) hx hb dX7_findFeast_5 (lv_at hl 5 rfl) ?_
      refine zicmp_gt (pc := 7) hx hb 71 (by omega) (by omega) dX7_findFeast_7 (by decide) (fun c7 => ?_) (fun c7 => ?_)
      · skip
        exact zretV (pc := 71) hx hb hlocks hr hw (Nat.zero_le _) (Nat.zero_le _) dX7_findFeast_71 ⟨by (try dsimp only) <;> (
                                        refine ⟨fun d g1 g2 => ?_, hv2, ho⟩
                                        rw [hfB d g1 (by omega)]
                                        by_cases q : ix = lm_ + 1
                                        · rw [q, show lm_ + 1 - 1 = lm_ by omega]
                                        · exact bF_e (by omega) (by omega)), rfl, rfl⟩
      · skip
        refine lv_aload_n (pc := 10) hx hb dX7_findFeast_10 rfl (lv_at hl 2 rfl) ?_
        refine zgetR (pc := 11) hx hb hG hown hw hkfo (T := TX2) rfl 2 (by decide) rfl wf_X7_89 rfl hrp dX7_findFeast_11 ?_
        refine lv_iload (pc := 14) hx hb dX7_findFeast_14 (lv_at hl 0 rfl) ?_
        refine zkIp (pc := 16) (zrV (As := [.int (iI ix)]) hx hb hml hown hG hw (c_X3_toldIn l Γ K XL3 Rf pa ix  (by (first | assumption | omega)) (by rw [hpa]; exact hP) (by (first | assumption | omega))) (T := TX3) hkp rfl cb_X3_toldIn wl_X7_93 rfl ⟨Nat.le_of_ble_eq_true rfl, Nat.le_of_ble_eq_true rfl⟩ hl.1 rfl (Nat.le_of_ble_eq_true rfl) dX7_findFeast_16 ⟨Nat.zero_le _, Nat.zero_le _⟩) hw (fun r16 H locs hp16 hw => ?_)
        subst hp16
        have hp16f0 := told_rng (XL3 pa) ix
        refine ztop (fun x19 ex19 => ?_)
        refine lv_istore (pc := 19) (lv' := [(6, .int (iI x19)), (5, .int (iI ix)), (0, .ref wo), (1, .ref fo), (2, .int (iI number)), (3, .int (iI fm_)), (4, .int (iI lm_))]) hx hb dX7_findFeast_19 hl (by decide) rfl (fun ls hl => ?_)
        refine lv_iload (pc := 21) hx hb dX7_findFeast_21 (lv_at hl 0 rfl) ?_
        refine zif_ge (pc := 23) hx hb 30 (by omega) dX7_findFeast_23 (by decide) (fun c23 => ?_) (fun c23 => ?_)
        · skip
          refine lv_aload_n (pc := 30) hx hb dX7_findFeast_30 rfl (lv_at hl 2 rfl) ?_
          refine lv_iload (pc := 31) hx hb dX7_findFeast_31 (lv_at hl 0 rfl) ?_
          refine lv_aload_n (pc := 33) hx hb dX7_findFeast_33 rfl (lv_at hl 3 rfl) ?_
          refine zgetI (pc := 34) hx hb hG hown hw hkfo (T := TX2) rfl 3 (by decide) rfl wf_X7_98 rfl dX7_findFeast_34 ?_
          refine lv_iload_n (pc := 37) hx hb dX7_findFeast_37 rfl (lv_at hl 4 rfl) ?_
          refine zkIp (pc := 38) (zrV (As := [.int (iI x19), .int (iI (XL3 fo 3)), .int (iI number)]) hx hb hml hown hG hw (c_X7_moved l Γ K XL3 Rf wo x19 (XL3 fo 3) number fa fn (by (first | assumption | omega)) (by (first | assumption | omega)) (by (first | assumption | omega)) (by (first | assumption | omega)) (by (first | assumption | omega)) (by (first | assumption | omega)) (by (first | assumption | omega)) (by (first | assumption | omega)) (by (first | assumption | omega)) (by (first | assumption | omega))) (T := TX7) hk rfl cb_X7_moved wl_X7_101 rfl ⟨Nat.le_of_ble_eq_true rfl, Nat.le_of_ble_eq_true rfl⟩ hl.1 rfl (Nat.le_of_ble_eq_true rfl) dX7_findFeast_38 ⟨Nat.zero_le _, Nat.zero_le _⟩) hw (fun r38 H locs hp38 hw => ?_)
          subst hp38
          have hp38f0 := mvD_rng (frD (XL3 wo 2) (XL3 fo 3) (rkG XL3 fa fn number)) (XL3 fo 3) x19
          refine ztop (fun x41 ex41 => ?_)
          refine lv_istore (pc := 41) (lv' := [(7, .int (iI x41)), (6, .int (iI x19)), (5, .int (iI ix)), (0, .ref wo), (1, .ref fo), (2, .int (iI number)), (3, .int (iI fm_)), (4, .int (iI lm_))]) hx hb dX7_findFeast_41 hl (by decide) rfl (fun ls hl => ?_)
          refine lv_aload_n (pc := 43) hx hb dX7_findFeast_43 rfl (lv_at hl 3 rfl) ?_
          refine zgetR (pc := 44) hx hb hG hown hw hk (T := TX7) rfl 7 (by decide) rfl wf_X7_45 rfl hr7 dX7_findFeast_44 ?_
          refine lv_iload (pc := 47) hx hb dX7_findFeast_47 (lv_at hl 0 rfl) ?_
          refine zkIp (pc := 49) (zrV (As := [.int (iI x41)]) hx hb hml hown hG hw (c_X0_read l Γ K XL3 Rf fa x41 fn 1701 (by (first | assumption | omega)) (by (first | assumption | omega)) (by (first | assumption | omega)) (by (first | assumption | omega)) (by (first | assumption | omega)) (by (first | assumption | omega))) (T := TX0) hkfa rfl cb_X0_read wl_X7_105 rfl ⟨Nat.le_of_ble_eq_true rfl, Nat.le_of_ble_eq_true rfl⟩ hl.1 rfl (Nat.le_of_ble_eq_true rfl) dX7_findFeast_49 ⟨Nat.zero_le _, Nat.zero_le _⟩) hw (fun r49 H locs hp49 hw => ?_)
          subst hp49
          have hv9 := rdv_fvr (fa := fa) hv2
          have hv9 : ∀ d, -1 ≤ rdv XL3 fa fn 1701 d ∧ rdv XL3 fa fn 1701 d ≤ 19 := fun d => rdv_fvr hv2 d
          have hv8 := hv9 (-1)
          try have hv7 := hv9 x41
          refine zif_ge (pc := 52) hx hb 65 (by omega) dX7_findFeast_52 (by decide) (fun c52 => ?_) (fun c52 => ?_)
          · skip
            refine ziinc (pc := 65) (lv' := [(5, .int (iI (ix + 1))), (7, .int (iI x41)), (6, .int (iI x19)), (0, .ref wo), (1, .ref fo), (2, .int (iI number)), (3, .int (iI fm_)), (4, .int (iI lm_))]) hx hb 2 dX7_findFeast_65 hl rfl (by decide) rfl (fun ls hl => ?_)
            obtain ⟨x65, ex65⟩ : ∃ zz : Int, zz = (ix + 1) := ⟨_, rfl⟩
            rw [← ex65] at hl
            refine lv_goto (pc := 68) (tgt := 3) hx hb dX7_findFeast_68 (by decide) ?_
            have hstp : fiA XL3 fa fn G number lo ∧ fiB XL3 fa fn (X wo 2) (X fo 3) (X pa) G number fm_ (ix - 1 + 1) lo2 := by
              have eix : ix - 1 + 1 = ix := by omega
              first
              | exact ⟨hfA, fi_skip hfB hlo2 (fun d => (hGd d).2) (fun d _ _ _ g _ => by rw [eix, ← hpa, ← ex19] at g; omega)⟩
              | (rw [show X62 = XL3 from by rw [hp62]; unfold wrX; rw [if_pos (by omega)]]; exact ⟨hfA, fi_skip hfB hlo2 (fun d => (hGd d).2) (fun d _ _ _ g _ => by rw [eix, ← hpa, ← ex19] at g; omega)⟩)
              | exact fi_put (day := x41) hne hfA hfB hlo hGd hnum.1 ⟨by omega, by omega, by omega⟩ (by rw [eix, ← hpa, ← ex19]; omega) (by rw [ex41, hwo2, hfo3, eix, ← hpa, ← ex19]) (by rw [if_pos (by omega)]; exact hp62) (by omega)
              | exact fi_put (day := x41) hne hfA hfB hlo hGd hnum.1 ⟨by omega, by omega, by omega⟩ (by rw [eix, ← hpa, ← ex19]; omega) (by rw [ex41, hwo2, hfo3, eix, ← hpa, ← ex19]) (by rw [if_neg (by omega)]) (by omega)
            exact ih3 x65 XL3 _ _ (by (first | assumption | omega)) (by exact hstp.1) (by rw [ex65, show ix + 1 - 1 = ix - 1 + 1 by omega]; exact hstp.2) (by first | (rw [hp62]; exact fvr_wr hv2 (by omega)) | exact hv2) (by first | (intro a ha; rw [hp62, wrX_o ha]; exact ho a ha) | exact ho) (by omega) hw _ (lv_sub hl [0, 3, 4, 5, 6, 7] rfl)
          · skip
            refine lv_aload_n (pc := 55) hx hb dX7_findFeast_55 rfl (lv_at hl 3 rfl) ?_
            refine zgetR (pc := 56) hx hb hG hown hw hk (T := TX7) rfl 7 (by decide) rfl wf_X7_45 rfl hr7 dX7_findFeast_56 ?_
            refine lv_iload (pc := 59) hx hb dX7_findFeast_59 (lv_at hl 0 rfl) ?_
            refine lv_iload_n (pc := 61) hx hb dX7_findFeast_61 rfl (lv_at hl 5 rfl) ?_
            refine zkVx (pc := 62) (zrV (As := [.int (iI x41), .int (iI number)]) hx hb hml hown hG hw (c_X0_write l Γ K XL3 Rf fa x41 number fn 1701 (by (first | assumption | omega)) (by (first | assumption | omega)) (by (first | assumption | omega)) (by (first | assumption | omega)) (by (first | assumption | omega)) (by (first | assumption | omega))) (T := TX0) hkfa rfl cb_X0_write wl_X7_108 rfl ⟨Nat.le_of_ble_eq_true rfl, Nat.le_of_ble_eq_true rfl⟩ hl.1 rfl (Nat.le_of_ble_eq_true rfl) dX7_findFeast_62 ⟨Nat.zero_le _, Nat.zero_le _⟩) hw (fun X62 H locs hp62 hw => ?_)
            refine ziinc (pc := 65) (lv' := [(5, .int (iI (ix + 1))), (7, .int (iI x41)), (6, .int (iI x19)), (0, .ref wo), (1, .ref fo), (2, .int (iI number)), (3, .int (iI fm_)), (4, .int (iI lm_))]) hx hb 2 dX7_findFeast_65 hl rfl (by decide) rfl (fun ls hl => ?_)
            obtain ⟨x65, ex65⟩ : ∃ zz : Int, zz = (ix + 1) := ⟨_, rfl⟩
            rw [← ex65] at hl
            refine lv_goto (pc := 68) (tgt := 3) hx hb dX7_findFeast_68 (by decide) ?_
            have hstp : fiA X62 fa fn G number lo ∧ fiB X62 fa fn (X wo 2) (X fo 3) (X pa) G number fm_ (ix - 1 + 1) lo2 := by
              have eix : ix - 1 + 1 = ix := by omega
              first
              | exact ⟨hfA, fi_skip hfB hlo2 (fun d => (hGd d).2) (fun d _ _ _ g _ => by rw [eix, ← hpa, ← ex19] at g; omega)⟩
              | (rw [show X62 = XL3 from by rw [hp62]; unfold wrX; rw [if_pos (by omega)]]; exact ⟨hfA, fi_skip hfB hlo2 (fun d => (hGd d).2) (fun d _ _ _ g _ => by rw [eix, ← hpa, ← ex19] at g; omega)⟩)
              | exact fi_put (day := x41) hne hfA hfB hlo hGd hnum.1 ⟨by omega, by omega, by omega⟩ (by rw [eix, ← hpa, ← ex19]; omega) (by rw [ex41, hwo2, hfo3, eix, ← hpa, ← ex19]) (by rw [if_pos (by omega)]; exact hp62) (by omega)
              | exact fi_put (day := x41) hne hfA hfB hlo hGd hnum.1 ⟨by omega, by omega, by omega⟩ (by rw [eix, ← hpa, ← ex19]; omega) (by rw [ex41, hwo2, hfo3, eix, ← hpa, ← ex19]) (by rw [if_neg (by omega)]) (by omega)
            exact ih3 x65 X62 _ _ (by (first | assumption | omega)) (by exact hstp.1) (by rw [ex65, show ix + 1 - 1 = ix - 1 + 1 by omega]; exact hstp.2) (by first | (rw [hp62]; exact fvr_wr hv2 (by omega)) | exact hv2) (by first | (intro a ha; rw [hp62, wrX_o ha]; exact ho a ha) | exact ho) (by omega) hw _ (lv_sub hl [0, 3, 4, 5, 6, 7] rfl)
        · skip
          refine ziconst (pc := 26) (n := (-1)) hx hb dX7_findFeast_26 ?_
          refine lv_goto (pc := 27) (tgt := 41) hx hb dX7_findFeast_27 (by decide) ?_
          refine lv_istore (pc := 41) (lv' := [(7, .int (iI (-1))), (6, .int (iI x19)), (5, .int (iI ix)), (0, .ref wo), (1, .ref fo), (2, .int (iI number)), (3, .int (iI fm_)), (4, .int (iI lm_))]) hx hb dX7_findFeast_41 hl (by decide) rfl (fun ls hl => ?_)
          refine lv_aload_n (pc := 43) hx hb dX7_findFeast_43 rfl (lv_at hl 3 rfl) ?_
          refine zgetR (pc := 44) hx hb hG hown hw hk (T := TX7) rfl 7 (by decide) rfl wf_X7_45 rfl hr7 dX7_findFeast_44 ?_
          refine lv_iload (pc := 47) hx hb dX7_findFeast_47 (lv_at hl 0 rfl) ?_
          refine zkIp (pc := 49) (zrV (As := [.int (iI (-1))]) hx hb hml hown hG hw (c_X0_read l Γ K XL3 Rf fa (-1) fn 1701 (by (first | assumption | omega)) (by (first | assumption | omega)) (by (first | assumption | omega)) (by (first | assumption | omega)) (by (first | assumption | omega)) (by (first | assumption | omega))) (T := TX0) hkfa rfl cb_X0_read wl_X7_105 rfl ⟨Nat.le_of_ble_eq_true rfl, Nat.le_of_ble_eq_true rfl⟩ hl.1 rfl (Nat.le_of_ble_eq_true rfl) dX7_findFeast_49 ⟨Nat.zero_le _, Nat.zero_le _⟩) hw (fun r49 H locs hp49 hw => ?_)
          subst hp49
          have hv9 := rdv_fvr (fa := fa) hv2
          have hv9 : ∀ d, -1 ≤ rdv XL3 fa fn 1701 d ∧ rdv XL3 fa fn 1701 d ≤ 19 := fun d => rdv_fvr hv2 d
          have hv8 := hv9 (-1)
          try have hv7 := hv9 x41
          refine zif_ge (pc := 52) hx hb 65 (by omega) dX7_findFeast_52 (by decide) (fun c52 => ?_) (fun c52 => ?_)
          · skip
            refine ziinc (pc := 65) (lv' := [(5, .int (iI (ix + 1))), (7, .int (iI (-1))), (6, .int (iI x19)), (0, .ref wo), (1, .ref fo), (2, .int (iI number)), (3, .int (iI fm_)), (4, .int (iI lm_))]) hx hb 2 dX7_findFeast_65 hl rfl (by decide) rfl (fun ls hl => ?_)
            obtain ⟨x65, ex65⟩ : ∃ zz : Int, zz = (ix + 1) := ⟨_, rfl⟩
            rw [← ex65] at hl
            refine lv_goto (pc := 68) (tgt := 3) hx hb dX7_findFeast_68 (by decide) ?_
            have hstp : fiA XL3 fa fn G number lo ∧ fiB XL3 fa fn (X wo 2) (X fo 3) (X pa) G number fm_ (ix - 1 + 1) lo2 := by
              have eix : ix - 1 + 1 = ix := by omega
              first
              | exact ⟨hfA, fi_skip hfB hlo2 (fun d => (hGd d).2) (fun d _ _ _ g _ => by rw [eix, ← hpa, ← ex19] at g; omega)⟩
              | (rw [show X62 = XL3 from by rw [hp62]; unfold wrX; rw [if_pos (by omega)]]; exact ⟨hfA, fi_skip hfB hlo2 (fun d => (hGd d).2) (fun d _ _ _ g _ => by rw [eix, ← hpa, ← ex19] at g; omega)⟩)
              | exact fi_put (day := x41) hne hfA hfB hlo hGd hnum.1 ⟨by omega, by omega, by omega⟩ (by rw [eix, ← hpa, ← ex19]; omega) (by rw [ex41, hwo2, hfo3, eix, ← hpa, ← ex19]) (by rw [if_pos (by omega)]; exact hp62) (by omega)
              | exact fi_put (day := x41) hne hfA hfB hlo hGd hnum.1 ⟨by omega, by omega, by omega⟩ (by rw [eix, ← hpa, ← ex19]; omega) (by rw [ex41, hwo2, hfo3, eix, ← hpa, ← ex19]) (by rw [if_neg (by omega)]) (by omega)
            exact ih3 x65 XL3 _ _ (by (first | assumption | omega)) (by exact hstp.1) (by rw [ex65, show ix + 1 - 1 = ix - 1 + 1 by omega]; exact hstp.2) (by first | (rw [hp62]; exact fvr_wr hv2 (by omega)) | exact hv2) (by first | (intro a ha; rw [hp62, wrX_o ha]; exact ho a ha) | exact ho) (by omega) hw _ (lv_sub hl [0, 3, 4, 5, 6, 7] rfl)
          · skip
            refine lv_aload_n (pc := 55) hx hb dX7_findFeast_55 rfl (lv_at hl 3 rfl) ?_
            refine zgetR (pc := 56) hx hb hG hown hw hk (T := TX7) rfl 7 (by decide) rfl wf_X7_45 rfl hr7 dX7_findFeast_56 ?_
            refine lv_iload (pc := 59) hx hb dX7_findFeast_59 (lv_at hl 0 rfl) ?_
            refine lv_iload_n (pc := 61) hx hb dX7_findFeast_61 rfl (lv_at hl 5 rfl) ?_
            refine zkVx (pc := 62) (zrV (As := [.int (iI (-1)), .int (iI number)]) hx hb hml hown hG hw (c_X0_write l Γ K XL3 Rf fa (-1) number fn 1701 (by (first | assumption | omega)) (by (first | assumption | omega)) (by (first | assumption | omega)) (by (first | assumption | omega)) (by (first | assumption | omega)) (by (first | assumption | omega))) (T := TX0) hkfa rfl cb_X0_write wl_X7_108 rfl ⟨Nat.le_of_ble_eq_true rfl, Nat.le_of_ble_eq_true rfl⟩ hl.1 rfl (Nat.le_of_ble_eq_true rfl) dX7_findFeast_62 ⟨Nat.zero_le _, Nat.zero_le _⟩) hw (fun X62 H locs hp62 hw => ?_)
            refine ziinc (pc := 65) (lv' := [(5, .int (iI (ix + 1))), (7, .int (iI (-1))), (6, .int (iI x19)), (0, .ref wo), (1, .ref fo), (2, .int (iI number)), (3, .int (iI fm_)), (4, .int (iI lm_))]) hx hb 2 dX7_findFeast_65 hl rfl (by decide) rfl (fun ls hl => ?_)
            obtain ⟨x65, ex65⟩ : ∃ zz : Int, zz = (ix + 1) := ⟨_, rfl⟩
            rw [← ex65] at hl
            refine lv_goto (pc := 68) (tgt := 3) hx hb dX7_findFeast_68 (by decide) ?_
            have hstp : fiA X62 fa fn G number lo ∧ fiB X62 fa fn (X wo 2) (X fo 3) (X pa) G number fm_ (ix - 1 + 1) lo2 := by
              have eix : ix - 1 + 1 = ix := by omega
              first
              | exact ⟨hfA, fi_skip hfB hlo2 (fun d => (hGd d).2) (fun d _ _ _ g _ => by rw [eix, ← hpa, ← ex19] at g; omega)⟩
              | (rw [show X62 = XL3 from by rw [hp62]; unfold wrX; rw [if_pos (by omega)]]; exact ⟨hfA, fi_skip hfB hlo2 (fun d => (hGd d).2) (fun d _ _ _ g _ => by rw [eix, ← hpa, ← ex19] at g; omega)⟩)
              | exact fi_put (day := x41) hne hfA hfB hlo hGd hnum.1 ⟨by omega, by omega, by omega⟩ (by rw [eix, ← hpa, ← ex19]; omega) (by rw [ex41, hwo2, hfo3, eix, ← hpa, ← ex19]) (by rw [if_pos (by omega)]; exact hp62) (by omega)
              | exact fi_put (day := x41) hne hfA hfB hlo hGd hnum.1 ⟨by omega, by omega, by omega⟩ (by rw [eix, ← hpa, ← ex19]; omega) (by rw [ex41, hwo2, hfo3, eix, ← hpa, ← ex19]) (by rw [if_neg (by omega)]) (by omega)
            exact ih3 x65 X62 _ _ (by (first | assumption | omega)) (by exact hstp.1) (by rw [ex65, show ix + 1 - 1 = ix - 1 + 1 by omega]; exact hstp.2) (by first | (rw [hp62]; exact fvr_wr hv2 (by omega)) | exact hv2) (by first | (intro a ha; rw [hp62, wrX_o ha]; exact ho a ha) | exact ho) (by omega) hw _ (lv_sub hl [0, 3, 4, 5, 6, 7] rfl)
  exact lp3 _ fm_ X _ _ (by (first | assumption | omega)) (by exact hst.1) (by exact hst.2) (by exact hvr) (by exact fun _ _ => rfl) (Nat.lt_succ_self _) hw _ (lv_sub hl [0, 1, 2, 3, 4, 5] rfl)
set_option maxHeartbeats 4000000 in
set_option maxRecDepth 100000 in
theorem c_X7_findFeasts (l : Launch) (Γ : zG) (K : zK) (X : zX) (Rf : zR) (wo : Nat) (fst : Int) (lst : Int) (fa : Nat) (fn : Nat) (fe : Nat) (F : Nat → Nat → Int) (Fp : Nat → Nat → Int) (n : Nat) (hk : K wo = (1, 6)) (hw2 : 1 ≤ X wo 2 ∧ X wo 2 ≤ 127) (hr7 : Rf wo 7 = some fa) (hkfa : K fa = (1, 0)) (hr0 : Rf fa 0 = some fn) (hkfn : K fn = (2, 1701)) (hr5 : Rf wo 5 = some fe) (hkfe : K fe = (10, 20)) (hfs : fstOK K X Rf fe n F Fp) (hn : X wo 6 = n ∧ n ≤ 20) (hvr : fvr X fn) (h1 : (0 ≤ fst ∧ fst ≤ 73048) ∧ -1000 ≤ lst ∧ lst ≤ fst + 500) : Ct l yX7_findFeasts cX7_findFeasts 8 none 4 0 0 Γ [.ref wo, .int (iI fst), .int (iI lst)] K X Rf (pV (zpv K Rf (fun X' : zX => (∀ d : Int, fst ≤ d → d ≤ lst → d ≤ 73048 → rdv X' fa fn 1701 d = Fa (X wo 2) F Fp n d) ∧ (fvr X' fn ∧ ((-100000 ≤ X' fa 1 ∧ X' fa 1 ≤ 200000) ∧ -100000 ≤ X' fa 2 ∧ X' fa 2 ≤ 200000)) ∧ (∀ a, a ≠ fa → a ≠ fn → X' a = X a)))) := by
  refine Ct.of (by decide +kernel) (Nat.le_of_ble_eq_true rfl) ?_
  intro p e s m below meth c ls hx hb hr hml hown hG hlocks hname hw hl
  have hl : lv_has ls 8 [(0, .ref wo), (1, .int (iI fst)), (2, .int (iI lst))] := hl
  have hne : fa ≠ fn := zkne hkfa hkfn (by simp)
  have hn1 : wo ≠ fn := zkne hk hkfn (by simp)
  have hn2 : wo ≠ fa := fun q => by rw [q, hkfa] at hk; exact absurd hk (by decide)
  refine lv_aload_n (pc := 0) hx hb dX7_findFeasts_0 rfl (lv_at hl 0 rfl) ?_
  refine zgetR (pc := 1) hx hb hG hown hw hk (T := TX7) rfl 7 (by decide) rfl wf_X7_45 rfl hr7 dX7_findFeasts_1 ?_
  refine ziconst (pc := 4) (n := 0) hx hb dX7_findFeasts_4 ?_
  refine lv_iload_n (pc := 5) hx hb dX7_findFeasts_5 rfl (lv_at hl 1 rfl) ?_
  refine zbipush (pc := 6) (n := 60) hx hb dX7_findFeasts_6 rfl ?_
  refine lv_aload_n (pc := 8) hx hb dX7_findFeasts_8 rfl (lv_at hl 0 rfl) ?_
  refine zgetI (pc := 9) hx hb hG hown hw hk (T := TX7) rfl 6 (by decide) rfl wf_X7_39 rfl dX7_findFeasts_9 ?_
  refine zmul (pc := 12) hx hb dX7_findFeasts_12 ?_
  refine zsub (pc := 13) hx hb dX7_findFeasts_13 ?_
  refine zmax (pc := 14) hx hb (hml.trans hl.1.symm) hown hG wl_X7_49 w1_zmx wi_javalangMath w2_zmx (Nat.le_of_ble_eq_true rfl) (Nat.le_of_ble_eq_true rfl) (Nat.zero_le _) (Nat.zero_le _) ⟨by omega, by omega⟩ dX7_findFeasts_14 ?_
  refine lv_iload_n (pc := 17) hx hb dX7_findFeasts_17 rfl (lv_at hl 2 rfl) ?_
  refine zldc (pc := 18) (n := 73048) hx hb hown hG wk_X7_55 dX7_findFeasts_18 ?_
  refine zmin (pc := 20) hx hb (hml.trans hl.1.symm) hown hG wl_X7_56 w1_zmn wi_javalangMath w2_zmn (Nat.le_of_ble_eq_true rfl) (Nat.le_of_ble_eq_true rfl) (Nat.zero_le _) (Nat.zero_le _) ⟨by omega, by omega⟩ dX7_findFeasts_20 ?_
  refine zkVx (pc := 23) (zrV (As := [.int (iI (max 0 (fst - (60 * (X wo 6))))), .int (iI (min lst 73048))]) hx hb hml hown hG hw (c_X0_clear l Γ K X Rf fa (max 0 (fst - (60 * (X wo 6)))) (min lst 73048) fn 1701 (by (first | assumption | omega)) (by (first | assumption | omega)) (by (first | assumption | omega)) (by (first | assumption | omega)) (by (first | assumption | omega)) (by (first | assumption | omega))) (T := TX0) hkfa rfl cb_X0_clear wl_X7_59 rfl ⟨Nat.le_of_ble_eq_true rfl, Nat.le_of_ble_eq_true rfl⟩ hl.1 rfl (Nat.le_of_ble_eq_true rfl) dX7_findFeasts_23 ⟨Nat.zero_le _, Nat.zero_le _⟩) hw (fun X23 H locs hp23 hw => ?_)
  obtain ⟨hx1, hx2, hz23, ho23, hs23⟩ := hp23
  obtain ⟨w0, hw0⟩ : ∃ w0 : Int, w0 = X23 fa 1 := ⟨_, rfl⟩
  obtain ⟨L, hL⟩ : ∃ L : Int, L = X23 fa 2 := ⟨_, rfl⟩
  have hw0e : w0 = max 0 (fst - 60 * n) := by omega
  have hLe : L = min lst 73048 := by omega
  refine ziconst (pc := 26) (n := 0) hx hb dX7_findFeasts_26 ?_
  refine lv_aload_n (pc := 27) hx hb dX7_findFeasts_27 rfl (lv_at hl 0 rfl) ?_
  refine zgetR (pc := 28) hx hb hG hown hw hk (T := TX7) rfl 7 (by decide) rfl wf_X7_45 rfl hr7 dX7_findFeasts_28 ?_
  refine zkIp (pc := 31) (zrV (As := []) hx hb hml hown hG hw (c_X0_firstDay l Γ K X23 Rf fa  (by (first | assumption | omega))) (T := TX0) hkfa rfl cb_X0_firstDay wl_X7_63 rfl ⟨Nat.le_of_ble_eq_true rfl, Nat.le_of_ble_eq_true rfl⟩ hl.1 rfl (Nat.le_of_ble_eq_true rfl) dX7_findFeasts_31 ⟨Nat.zero_le _, Nat.zero_le _⟩) hw (fun r31 H locs hp31 hw => ?_)
  subst hp31
  refine zbipush (pc := 34) (n := 60) hx hb dX7_findFeasts_34 rfl ?_
  refine zsub (pc := 36) hx hb dX7_findFeasts_36 ?_
  refine zmax (pc := 37) hx hb (hml.trans hl.1.symm) hown hG wl_X7_49 w1_zmx wi_javalangMath w2_zmx (Nat.le_of_ble_eq_true rfl) (Nat.le_of_ble_eq_true rfl) (Nat.zero_le _) (Nat.zero_le _) ⟨by omega, by omega⟩ dX7_findFeasts_37 ?_
  refine zkIp (pc := 40) (zrS (As := [.int (iI (max 0 ((X23 fa 1) - 60)))]) hx hb hml hown hG hw (c_X1_monthWith l Γ K X23 Rf (max 0 ((X23 fa 1) - 60))  (by (first | assumption | omega))) cb_X1_monthWith wl_X7_67 rfl ⟨Nat.le_of_ble_eq_true rfl, Nat.le_of_ble_eq_true rfl⟩ hl.1 rfl (Nat.le_of_ble_eq_true rfl) dX7_findFeasts_40 ⟨Nat.zero_le _, Nat.zero_le _⟩) hw (fun r40 H locs hp40 hw => ?_)
  subst hp40
  have hp40f0 := mi_rng (d := (max 0 ((X23 fa 1) - 60))) (by omega) (by omega)
  refine ztop (fun x43 ex43 => ?_)
  refine lv_istore_n (pc := 43) (lv' := [(3, .int (iI x43)), (0, .ref wo), (1, .int (iI fst)), (2, .int (iI lst))]) hx hb dX7_findFeasts_43 rfl hl (by decide) rfl (fun ls hl => ?_)
  refine ziconst (pc := 44) (n := 0) hx hb dX7_findFeasts_44 ?_
  refine lv_aload_n (pc := 45) hx hb dX7_findFeasts_45 rfl (lv_at hl 1 rfl) ?_
  refine zgetR (pc := 46) hx hb hG hown hw hk (T := TX7) rfl 7 (by decide) rfl wf_X7_45 rfl hr7 dX7_findFeasts_46 ?_
  refine zkIp (pc := 49) (zrV (As := []) hx hb hml hown hG hw (c_X0_lastDay l Γ K X23 Rf fa  (by (first | assumption | omega))) (T := TX0) hkfa rfl cb_X0_lastDay wl_X7_73 rfl ⟨Nat.le_of_ble_eq_true rfl, Nat.le_of_ble_eq_true rfl⟩ hl.1 rfl (Nat.le_of_ble_eq_true rfl) dX7_findFeasts_49 ⟨Nat.zero_le _, Nat.zero_le _⟩) hw (fun r49 H locs hp49 hw => ?_)
  subst hp49
  refine zbipush (pc := 52) (n := 60) hx hb dX7_findFeasts_52 rfl ?_
  refine zadd (pc := 54) hx hb dX7_findFeasts_54 ?_
  refine zldc (pc := 55) (n := 73048) hx hb hown hG wk_X7_55 dX7_findFeasts_55 ?_
  refine zmin (pc := 57) hx hb (hml.trans hl.1.symm) hown hG wl_X7_56 w1_zmn wi_javalangMath w2_zmn (Nat.le_of_ble_eq_true rfl) (Nat.le_of_ble_eq_true rfl) (Nat.zero_le _) (Nat.zero_le _) ⟨by omega, by omega⟩ dX7_findFeasts_57 ?_
  refine zmax (pc := 60) hx hb (hml.trans hl.1.symm) hown hG wl_X7_49 w1_zmx wi_javalangMath w2_zmx (Nat.le_of_ble_eq_true rfl) (Nat.le_of_ble_eq_true rfl) (Nat.zero_le _) (Nat.zero_le _) ⟨by omega, by omega⟩ dX7_findFeasts_60 ?_
  refine zkIp (pc := 63) (zrS (As := [.int (iI (max 0 (min ((X23 fa 2) + 60) 73048)))]) hx hb hml hown hG hw (c_X1_monthWith l Γ K X23 Rf (max 0 (min ((X23 fa 2) + 60) 73048))  (by (first | assumption | omega))) cb_X1_monthWith wl_X7_67 rfl ⟨Nat.le_of_ble_eq_true rfl, Nat.le_of_ble_eq_true rfl⟩ hl.1 rfl (Nat.le_of_ble_eq_true rfl) dX7_findFeasts_63 ⟨Nat.zero_le _, Nat.zero_le _⟩) hw (fun r63 H locs hp63 hw => ?_)
  subst hp63
  have hp63f0 := mi_rng (d := (max 0 (min ((X23 fa 2) + 60) 73048))) (by omega) (by omega)
  refine ztop (fun x66 ex66 => ?_)
  refine lv_istore (pc := 66) (lv' := [(4, .int (iI x66)), (3, .int (iI x43)), (0, .ref wo), (1, .int (iI fst)), (2, .int (iI lst))]) hx hb dX7_findFeasts_66 hl (by decide) rfl (fun ls hl => ?_)
  refine ziconst (pc := 68) (n := 0) hx hb dX7_findFeasts_68 ?_
  refine lv_istore (pc := 69) (lv' := [(5, .int (iI 0)), (4, .int (iI x66)), (3, .int (iI x43)), (0, .ref wo), (1, .int (iI fst)), (2, .int (iI lst))]) hx hb dX7_findFeasts_69 hl (by decide) rfl (fun ls hl => ?_)
  have lp71 : ∀ (n71 : Nat) (kk : Int) (XL71 : zX) (H : Heap) (locs : List Loc), (hi : 0 ≤ kk ∧ kk ≤ n) → (hfl : ∀ d : Int, loF w0 kk ≤ d → d ≤ L → rdv XL71 fa fn 1701 d = Fa (X wo 2) F Fp kk.toNat d) → (hv2 : fvr XL71 fn) → (hd1 : XL71 fa 1 = w0) → (hd2 : XL71 fa 2 = L) → (ho : ∀ a, a ≠ fa → a ≠ fn → XL71 a = X a) → (((n : Int) - kk).toNat < n71) → Wd Γ (zA K s.heap.size) K XL71 Rf s H locs → ∀ ls : Array Slot, lv_has ls 8 [(5, .int (iI kk)), (4, .int (iI x66)), (3, .int (iI x43)), (0, .ref wo), (1, .int (iI fst)), (2, .int (iI lst))] → W p l e (rmL 4 0 0) s m ([.ref wo, .int (iI fst), .int (iI lst)] : List Value).toArray below meth c H locs 0 0 (MQ below (zQ Γ K s.heap.size (pV (zpv K Rf (fun X' : zX => (∀ d : Int, fst ≤ d → d ≤ lst → d ≤ 73048 → rdv X' fa fn 1701 d = Fa (X wo 2) F Fp n d) ∧ (fvr X' fn ∧ ((-100000 ≤ X' fa 1 ∧ X' fa 1 ≤ 200000) ∧ -100000 ≤ X' fa 2 ∧ X' fa 2 ≤ 200000)) ∧ (∀ a, a ≠ fa → a ≠ fn → X' a = X a))))) ([.ref wo, .int (iI fst), .int (iI lst)] : List Value).toArray s 0 0 (zA K s.heap.size)) (F0 m 71 ls []) := by
    intro n71
    induction n71 with
    | zero => intro kk XL71 H locs hi hfl hv2 hd1 hd2 ho hm71; exact absurd hm71 (Nat.not_lt_zero _)
    | succ n71 ih71 =>
      intro kk XL71 H locs hi hfl hv2 hd1 hd2 ho hm71 hw ls hl
      have hwo9 : XL71 wo = X wo := ho wo hn2 hn1
      have hw6 : XL71 wo 6 = n := by rw [hwo9]; exact hn.1
      have hw2b : XL71 wo 2 = X wo 2 := by rw [hwo9]
      have hfs2 := hfs.mono (X' := XL71) (fun a ha => ho a (by rintro rfl; rcases ha with h | h <;> (rw [hkfa] at h; exact absurd h (by decide))) (by rintro rfl; rcases ha with h | h <;> (rw [hkfn] at h; exact absurd h (by decide))))
      have hls := loF_s w0 kk (by omega) (by omega)
      refine lv_iload (pc := 71) hx hb dX7_findFeasts_71 (lv_at hl 0 rfl) ?_
      refine lv_aload_n (pc := 73) hx hb dX7_findFeasts_73 rfl (lv_at hl 3 rfl) ?_
      refine zgetI (pc := 74) hx hb hG hown hw hk (T := TX7) rfl 6 (by decide) rfl wf_X7_39 rfl dX7_findFeasts_74 ?_
      refine zicmp_ge (pc := 77) hx hb 150 (by omega) (by omega) dX7_findFeasts_77 (by decide) (fun c77 => ?_) (fun c77 => ?_)
      · skip
        exact zretV (pc := 150) hx hb hlocks hr hw (Nat.zero_le _) (Nat.zero_le _) dX7_findFeasts_150 ⟨by (try dsimp only) <;> (
                                        refine ⟨fun d g1 g2 g3 => ?_, ⟨hv2, by omega⟩, ho⟩
                                        rw [hfl d (by unfold loF; split <;> omega) (by omega), show kk.toNat = n by omega]), rfl, rfl⟩
      · skip
        refine lv_iload (pc := 80) hx hb dX7_findFeasts_80 (lv_at hl 0 rfl) ?_
        refine lv_aload_n (pc := 82) hx hb dX7_findFeasts_82 rfl (lv_at hl 3 rfl) ?_
        refine zgetR (pc := 83) hx hb hG hown hw hk (T := TX7) rfl 5 (by decide) rfl wf_X7_35 rfl hr5 dX7_findFeasts_83 ?_
        refine zlen10 (pc := 86) hx hb hw hkfe dX7_findFeasts_86 ?_
        refine zicmp_ge (pc := 87) hx hb 150 (by omega) (by omega) dX7_findFeasts_87 (by decide) (fun c87 => ?_) (fun c87 => ?_)
        · skip
          exfalso; omega
        · skip
          refine lv_aload_n (pc := 90) hx hb dX7_findFeasts_90 rfl (lv_at hl 3 rfl) ?_
          refine zgetR (pc := 91) hx hb hG hown hw hk (T := TX7) rfl 5 (by decide) rfl wf_X7_35 rfl hr5 dX7_findFeasts_91 ?_
          refine lv_iload (pc := 94) hx hb dX7_findFeasts_94 (lv_at hl 0 rfl) ?_
          refine zaaldQ4 (pc := 96) hx hb hw hkfe ⟨by omega, by omega⟩ (by omega) dX7_findFeasts_96 (fun hq96 => ?_) (fun q96 hq96 => ?_)
          · skip
            have hno := hfs2.no (k := kk.toNat) (by omega) hq96
            exfalso; omega
          · skip
            obtain ⟨hlt, hkq, pa, hrp, hkp, hoF, hoP, hfsm, hpsm⟩ := hfs2.at (k := kk.toNat) (by omega) hq96
            refine lv_astore (pc := 97) (lv' := [(6, .ref q96), (5, .int (iI kk)), (4, .int (iI x66)), (3, .int (iI x43)), (0, .ref wo), (1, .int (iI fst)), (2, .int (iI lst))]) hx hb dX7_findFeasts_97 hl (by decide) rfl (fun ls hl => ?_)
            refine lv_aload (pc := 99) hx hb dX7_findFeasts_99 (lv_at hl 0 rfl) ?_
            refine lv_ifnull (pc := 101) hx hb dX7_findFeasts_101 ?_
            refine lv_iload_n (pc := 104) hx hb dX7_findFeasts_104 rfl (lv_at hl 3 rfl) ?_
            refine lv_aload (pc := 105) hx hb dX7_findFeasts_105 (lv_at hl 0 rfl) ?_
            refine zgetI (pc := 107) hx hb hG hown hw hkq (T := TX2) rfl 0 (by decide) rfl wf_X7_76 rfl dX7_findFeasts_107 ?_
            refine zkIp (pc := 110) (zrS (As := [.int (iI (XL71 q96 0))]) hx hb hml hown hG hw (c_X1_januaryOf l Γ K XL71 Rf (XL71 q96 0)  ) cb_X1_januaryOf wl_X7_79 rfl ⟨Nat.le_of_ble_eq_true rfl, Nat.le_of_ble_eq_true rfl⟩ hl.1 rfl (Nat.le_of_ble_eq_true rfl) dX7_findFeasts_110 ⟨Nat.zero_le _, Nat.zero_le _⟩) hw (fun r110 H locs hp110 hw => ?_)
            subst hp110
            refine zmax (pc := 113) hx hb (hml.trans hl.1.symm) hown hG wl_X7_49 w1_zmx wi_javalangMath w2_zmx (Nat.le_of_ble_eq_true rfl) (Nat.le_of_ble_eq_true rfl) (Nat.zero_le _) (Nat.zero_le _) ⟨by omega, by omega⟩ dX7_findFeasts_113 ?_
            refine ztop (fun x116 ex116 => ?_)
            refine lv_istore (pc := 116) (lv' := [(7, .int (iI x116)), (6, .ref q96), (5, .int (iI kk)), (4, .int (iI x66)), (3, .int (iI x43)), (0, .ref wo), (1, .int (iI fst)), (2, .int (iI lst))]) hx hb dX7_findFeasts_116 hl (by decide) rfl (fun ls hl => ?_)
            refine lv_aload_n (pc := 118) hx hb dX7_findFeasts_118 rfl (lv_at hl 5 rfl) ?_
            refine lv_aload (pc := 119) hx hb dX7_findFeasts_119 (lv_at hl 1 rfl) ?_
            refine lv_iload (pc := 121) hx hb dX7_findFeasts_121 (lv_at hl 2 rfl) ?_
            refine lv_iload (pc := 123) hx hb dX7_findFeasts_123 (lv_at hl 0 rfl) ?_
            refine lv_iload (pc := 125) hx hb dX7_findFeasts_125 (lv_at hl 3 rfl) ?_
            refine lv_aload (pc := 127) hx hb dX7_findFeasts_127 (lv_at hl 1 rfl) ?_
            refine zgetI (pc := 129) hx hb hG hown hw hkq (T := TX2) rfl 1 (by decide) rfl wf_X7_82 rfl dX7_findFeasts_129 ?_
            refine zkIp (pc := 132) (zrS (As := [.int (iI (XL71 q96 1))]) hx hb hml hown hG hw (c_X1_januaryOf l Γ K XL71 Rf (XL71 q96 1)  ) cb_X1_januaryOf wl_X7_79 rfl ⟨Nat.le_of_ble_eq_true rfl, Nat.le_of_ble_eq_true rfl⟩ hl.1 rfl (Nat.le_of_ble_eq_true rfl) dX7_findFeasts_132 ⟨Nat.zero_le _, Nat.zero_le _⟩) hw (fun r132 H locs hp132 hw => ?_)
            subst hp132
            refine zbipush (pc := 135) (n := 11) hx hb dX7_findFeasts_135 rfl ?_
            refine zadd (pc := 137) hx hb dX7_findFeasts_137 ?_
            refine zmin (pc := 138) hx hb (hml.trans hl.1.symm) hown hG wl_X7_56 w1_zmn wi_javalangMath w2_zmn (Nat.le_of_ble_eq_true rfl) (Nat.le_of_ble_eq_true rfl) (Nat.zero_le _) (Nat.zero_le _) ⟨by omega, by omega⟩ dX7_findFeasts_138 ?_
            refine zkVx (pc := 141) (zrV (As := [.ref q96, .int (iI kk), .int (iI x116), .int (iI (min x66 ((12 * ((XL71 q96 1) - 1900)) + 11)))]) hx hb hml hown hG hw (c_X7_findFeast l Γ K XL71 Rf wo q96 kk x116 (min x66 ((12 * ((XL71 q96 1) - 1900)) + 11)) fa fn pa (Fa (X wo 2) F Fp kk.toNat) (loF w0 kk) (loF w0 (kk + 1)) (by (first | assumption | omega)) (by rw [hw2b]; exact hw2) (by (first | assumption | omega)) (by (first | assumption | omega)) (by (first | assumption | omega)) (by (first | assumption | omega)) (by (first | assumption | omega)) (by (first | assumption | omega)) (by (first | assumption | omega)) (by (first | assumption | omega)) (by (first | assumption | omega)) (by (first | assumption | omega)) (by (first | assumption | omega)) (by (first | assumption | omega)) (by exact hls.1) (by intro d; have := Fa_rng (X wo 2) F Fp kk.toNat d; omega) (by (first | assumption | omega)) (by intro d g1 g2; exact hfl d g1 (by omega))) (T := TX7) hk rfl cb_X7_findFeast wl_X7_85 rfl ⟨Nat.le_of_ble_eq_true rfl, Nat.le_of_ble_eq_true rfl⟩ hl.1 rfl (Nat.le_of_ble_eq_true rfl) dX7_findFeasts_141 ⟨Nat.zero_le _, Nat.zero_le _⟩) hw (fun X141 H locs hp141 hw => ?_)
            rw [hw2b] at hp141
            refine ziinc (pc := 144) (lv' := [(5, .int (iI (kk + 1))), (7, .int (iI x116)), (6, .ref q96), (4, .int (iI x66)), (3, .int (iI x43)), (0, .ref wo), (1, .int (iI fst)), (2, .int (iI lst))]) hx hb 2 dX7_findFeasts_144 hl rfl (by decide) rfl (fun ls hl => ?_)
            obtain ⟨x144, ex144⟩ : ∃ zz : Int, zz = (kk + 1) := ⟨_, rfl⟩
            rw [← ex144] at hl
            refine lv_goto (pc := 147) (tgt := 71) hx hb dX7_findFeasts_147 (by decide) ?_
            exact ih71 x144 X141 _ _ (by (first | assumption | omega)) (by 
                                        intro d g1 g2
                                        have g3 := (loF_s w0 (kk + 1) (by omega) (by omega)).2
                                        rw [ex144] at g1 ⊢
                                        rw [hp141.1 d g1 (by omega), show (kk + 1).toNat = kk.toNat + 1 by omega, Fa_s, ← hfsm.1, ← hfsm.2.1, ← hfsm.2.2, Int.toNat_of_nonneg hi.1, bF_win (f := X23 fa 1) (l := X23 fa 2) (a := 12 * (XL71 q96 0 - 1900)) (b := 12 * (XL71 q96 1 - 1900) + 11) (by omega) (by omega) (by omega) (by omega) (by omega)]
                                        exact bF_congr rfl hpsm rfl rfl) (by exact hp141.2.1) (by rw [hp141.2.2 fa hne]; exact hd1) (by rw [hp141.2.2 fa hne]; exact hd2) (by intro a g1 g2; rw [hp141.2.2 a g2]; exact ho a g1 g2) (by omega) hw _ (lv_sub hl [0, 3, 4, 5, 6, 7] rfl)
  exact lp71 _ 0 X23 _ _ (by (first | assumption | omega)) (by intro d _ _; rw [rdv_clear hz23]; rfl) (by intro j hj; rcases hs23 j with q | q <;> rw [q]; omega; exact hvr j hj) (by exact hw0.symm) (by exact hL.symm) (by exact ho23) (Nat.lt_succ_self _) hw _ (lv_sub hl [0, 1, 2, 3, 4, 5] rfl)
set_option maxHeartbeats 4000000 in
set_option maxRecDepth 100000 in
theorem c_X7_feastFound (l : Launch) (Γ : zG) (K : zK) (X : zX) (Rf : zR) (wo : Nat) (day : Int) (fa : Nat) (fn : Nat) (hk : K wo = (1, 6)) (hr7 : Rf wo 7 = some fa) (hkfa : K fa = (1, 0)) (hr0 : Rf fa 0 = some fn) (hkfn : K fn = (2, 1701)) (hb0 : (-100000 ≤ X fa 1 ∧ X fa 1 ≤ 200000) ∧ -100000 ≤ X fa 2 ∧ X fa 2 ≤ 200000) (h1 : -100000 ≤ day ∧ day ≤ 200000) : Ct l yX7_feastFound cX7_feastFound 2 (some .int) 1 0 0 Γ [.ref wo, .int (iI day)] K X Rf (pI (zp0 K X Rf (fun r : Int => r = rdv X fa fn 1701 day))) := by
  refine Ct.of (by decide +kernel) (Nat.le_of_ble_eq_true rfl) ?_
  intro p e s m below meth c ls hx hb hr hml hown hG hlocks hname hw hl
  have hl : lv_has ls 2 [(0, .ref wo), (1, .int (iI day))] := hl
  refine lv_aload_n (pc := 0) hx hb dX7_feastFound_0 rfl (lv_at hl 0 rfl) ?_
  refine zgetR (pc := 1) hx hb hG hown hw hk (T := TX7) rfl 7 (by decide) rfl wf_X7_45 rfl hr7 dX7_feastFound_1 ?_
  refine lv_iload_n (pc := 4) hx hb dX7_feastFound_4 rfl (lv_at hl 1 rfl) ?_
  refine zkIp (pc := 5) (zrV (As := [.int (iI day)]) hx hb hml hown hG hw (c_X0_read l Γ K X Rf fa day fn 1701 (by (first | assumption | omega)) (by (first | assumption | omega)) (by (first | assumption | omega)) (by (first | assumption | omega)) (by (first | assumption | omega)) (by (first | assumption | omega))) (T := TX0) hkfa rfl cb_X0_read wl_X7_105 rfl ⟨Nat.le_of_ble_eq_true rfl, Nat.le_of_ble_eq_true rfl⟩ hl.1 rfl (Nat.le_of_ble_eq_true rfl) dX7_feastFound_5 ⟨Nat.zero_le _, Nat.zero_le _⟩) hw (fun r5 H locs hp5 hw => ?_)
  subst hp5
  exact zretI (pc := 8) hx hb hlocks hr hw (Nat.zero_le _) (Nat.zero_le _) dX7_feastFound_8 ⟨by (try dsimp only) <;> ((first | assumption | omega)), rfl, rfl, rfl⟩
set_option maxHeartbeats 4000000 in
set_option maxRecDepth 100000 in
theorem c_X7_worksOn (l : Launch) (Γ : zG) (K : zK) (X : zX) (Rf : zR) (wo : Nat) (day : Int) (fa : Nat) (fn : Nat) (hk : K wo = (1, 6)) (hw2 : 1 ≤ X wo 2 ∧ X wo 2 ≤ 127) (hr7 : Rf wo 7 = some fa) (hkfa : K fa = (1, 0)) (hr0 : Rf fa 0 = some fn) (hkfn : K fn = (2, 1701)) (hb0 : (-100000 ≤ X fa 1 ∧ X fa 1 ≤ 200000) ∧ -100000 ≤ X fa 2 ∧ X fa 2 ≤ 200000) (hvr : fvr X fn) (h1 : -100000 ≤ day ∧ day ≤ 200000) : Ct l yX7_worksOn cX7_worksOn 2 (some .boolean) 2 0 0 Γ [.ref wo, .int (iI day)] K X Rf (pI (zp0 K X Rf (fun r : Int => r = bI (wkF (X wo 2) (rdv X fa fn 1701) day)))) := by
  refine Ct.of (by decide +kernel) (Nat.le_of_ble_eq_true rfl) ?_
  intro p e s m below meth c ls hx hb hr hml hown hG hlocks hname hw hl
  have hl : lv_has ls 2 [(0, .ref wo), (1, .int (iI day))] := hl
  refine lv_aload_n (pc := 0) hx hb dX7_worksOn_0 rfl (lv_at hl 0 rfl) ?_
  refine zgetI (pc := 1) hx hb hG hown hw hk (T := TX7) rfl 2 (by decide) rfl wf_X7_24 rfl dX7_worksOn_1 ?_
  refine lv_iload_n (pc := 4) hx hb dX7_worksOn_4 rfl (lv_at hl 1 rfl) ?_
  refine zkIp (pc := 5) (zrS (As := [.int (iI (X wo 2)), .int (iI day)]) hx hb hml hown hG hw (c_X1_isIn l Γ K X Rf (X wo 2) day  (by (first | assumption | omega)) (by (first | assumption | omega))) cb_X1_isIn wl_X7_118 rfl ⟨Nat.le_of_ble_eq_true rfl, Nat.le_of_ble_eq_true rfl⟩ hl.1 rfl (Nat.le_of_ble_eq_true rfl) dX7_worksOn_5 ⟨Nat.zero_le _, Nat.zero_le _⟩) hw (fun r5 H locs hp5 hw => ?_)
  subst hp5
  have hbw := bitw_01 (X wo 2) day
  refine zif_eq (pc := 8) hx hb 26 (by omega) dX7_worksOn_8 (by decide) (fun c8 => ?_) (fun c8 => ?_)
  · skip
    refine ziconst (pc := 26) (n := 0) hx hb dX7_worksOn_26 ?_
    exact zretZ (pc := 27) hx hb hlocks hr (Or.inl rfl) hw (Nat.zero_le _) (Nat.zero_le _) dX7_worksOn_27 ⟨by (try dsimp only) <;> (first | (rw [wkI_1 (by omega) (by omega)]) | (rw [wkI_0 (by omega)])), rfl, rfl, rfl⟩
  · skip
    refine lv_aload_n (pc := 11) hx hb dX7_worksOn_11 rfl (lv_at hl 0 rfl) ?_
    refine zgetR (pc := 12) hx hb hG hown hw hk (T := TX7) rfl 7 (by decide) rfl wf_X7_45 rfl hr7 dX7_worksOn_12 ?_
    refine lv_iload_n (pc := 15) hx hb dX7_worksOn_15 rfl (lv_at hl 1 rfl) ?_
    refine zkIp (pc := 16) (zrV (As := [.int (iI day)]) hx hb hml hown hG hw (c_X0_read l Γ K X Rf fa day fn 1701 (by (first | assumption | omega)) (by (first | assumption | omega)) (by (first | assumption | omega)) (by (first | assumption | omega)) (by (first | assumption | omega)) (by (first | assumption | omega))) (T := TX0) hkfa rfl cb_X0_read wl_X7_105 rfl ⟨Nat.le_of_ble_eq_true rfl, Nat.le_of_ble_eq_true rfl⟩ hl.1 rfl (Nat.le_of_ble_eq_true rfl) dX7_worksOn_16 ⟨Nat.zero_le _, Nat.zero_le _⟩) hw (fun r16 H locs hp16 hw => ?_)
    subst hp16
    have hv := rdv_fvr (fa := fa) hvr day
    refine zif_ge (pc := 19) hx hb 26 (by omega) dX7_worksOn_19 (by decide) (fun c19 => ?_) (fun c19 => ?_)
    · skip
      refine ziconst (pc := 26) (n := 0) hx hb dX7_worksOn_26 ?_
      exact zretZ (pc := 27) hx hb hlocks hr (Or.inl rfl) hw (Nat.zero_le _) (Nat.zero_le _) dX7_worksOn_27 ⟨by (try dsimp only) <;> (first | (rw [wkI_1 (by omega) (by omega)]) | (rw [wkI_0 (by omega)])), rfl, rfl, rfl⟩
    · skip
      refine ziconst (pc := 22) (n := 1) hx hb dX7_worksOn_22 ?_
      refine lv_goto (pc := 23) (tgt := 27) hx hb dX7_worksOn_23 (by decide) ?_
      exact zretZ (pc := 27) hx hb hlocks hr (Or.inr rfl) hw (Nat.zero_le _) (Nat.zero_le _) dX7_worksOn_27 ⟨by (try dsimp only) <;> (first | (rw [wkI_1 (by omega) (by omega)]) | (rw [wkI_0 (by omega)])), rfl, rfl, rfl⟩
set_option maxHeartbeats 4000000 in
set_option maxRecDepth 100000 in
theorem c_X7_countDays (l : Launch) (Γ : zG) (K : zK) (X : zX) (Rf : zR) (wo : Nat) (fr : Int) (days : Int) (fa : Nat) (fn : Nat) (fe : Nat) (F : Nat → Nat → Int) (Fp : Nat → Nat → Int) (n : Nat) (hk : K wo = (1, 6)) (hw2 : 1 ≤ X wo 2 ∧ X wo 2 ≤ 127) (hr7 : Rf wo 7 = some fa) (hkfa : K fa = (1, 0)) (hr0 : Rf fa 0 = some fn) (hkfn : K fn = (2, 1701)) (hr5 : Rf wo 5 = some fe) (hkfe : K fe = (10, 20)) (hfs : fstOK K X Rf fe n F Fp) (hn : X wo 6 = n ∧ n ≤ 20) (hvr : fvr X fn) (h1 : (0 ≤ fr ∧ fr ≤ 73048) ∧ (0 ≤ days ∧ days ≤ 400) ∧ fr + days ≤ 73049) : Ct l yX7_countDays cX7_countDays 5 (some .int) 5 0 0 Γ [.ref wo, .int (iI fr), .int (iI days)] K X Rf (pI (zpx K Rf (fun (r : Int) (X' : zX) => r = cP (wkF (X wo 2) (Fa (X wo 2) F Fp n)) (fr + days - fr).toNat fr ∧ (fvr X' fn ∧ ((-100000 ≤ X' fa 1 ∧ X' fa 1 ≤ 200000) ∧ -100000 ≤ X' fa 2 ∧ X' fa 2 ≤ 200000)) ∧ (∀ a, a ≠ fa → a ≠ fn → X' a = X a)))) := by
  refine Ct.of (by decide +kernel) (Nat.le_of_ble_eq_true rfl) ?_
  intro p e s m below meth c ls hx hb hr hml hown hG hlocks hname hw hl
  have hl : lv_has ls 5 [(0, .ref wo), (1, .int (iI fr)), (2, .int (iI days))] := hl
  have hne : fa ≠ fn := zkne hkfa hkfn (by simp)
  have hn1 : wo ≠ fn := zkne hk hkfn (by simp)
  have hn2 : wo ≠ fa := fun q => by rw [q, hkfa] at hk; exact absurd hk (by decide)
  refine lv_aload_n (pc := 0) hx hb dX7_countDays_0 rfl (lv_at hl 0 rfl) ?_
  refine lv_iload_n (pc := 1) hx hb dX7_countDays_1 rfl (lv_at hl 1 rfl) ?_
  refine lv_iload_n (pc := 2) hx hb dX7_countDays_2 rfl (lv_at hl 1 rfl) ?_
  refine lv_iload_n (pc := 3) hx hb dX7_countDays_3 rfl (lv_at hl 2 rfl) ?_
  refine zadd (pc := 4) hx hb dX7_countDays_4 ?_
  refine zkVx (pc := 5) (zrV (As := [.int (iI fr), .int (iI (fr + days))]) hx hb hml hown hG hw (c_X7_findFeasts l Γ K X Rf wo fr (fr + days) fa fn fe F Fp n (by (first | assumption | omega)) (by (first | assumption | omega)) (by (first | assumption | omega)) (by (first | assumption | omega)) (by (first | assumption | omega)) (by (first | assumption | omega)) (by (first | assumption | omega)) (by (first | assumption | omega)) (by (first | assumption | omega)) (by (first | assumption | omega)) (by (first | assumption | omega)) (by (first | assumption | omega))) (T := TX7) hk rfl cb_X7_findFeasts wl_X7_122 rfl ⟨Nat.le_of_ble_eq_true rfl, Nat.le_of_ble_eq_true rfl⟩ hl.1 rfl (Nat.le_of_ble_eq_true rfl) dX7_countDays_5 ⟨Nat.zero_le _, Nat.zero_le _⟩) hw (fun X5 H locs hp5 hw => ?_)
  obtain ⟨hf5, ⟨hv5, hb5⟩, ho5⟩ := hp5
  have hwo9 : X5 wo = X wo := ho5 wo hn2 hn1
  have hw2b : X5 wo 2 = X wo 2 := by rw [hwo9]
  refine ziconst (pc := 8) (n := 0) hx hb dX7_countDays_8 ?_
  refine lv_istore_n (pc := 9) (lv' := [(3, .int (iI 0)), (0, .ref wo), (1, .int (iI fr)), (2, .int (iI days))]) hx hb dX7_countDays_9 rfl hl (by decide) rfl (fun ls hl => ?_)
  refine lv_iload_n (pc := 10) hx hb dX7_countDays_10 rfl (lv_at hl 2 rfl) ?_
  refine lv_istore (pc := 11) (lv' := [(4, .int (iI fr)), (3, .int (iI 0)), (0, .ref wo), (1, .int (iI fr)), (2, .int (iI days))]) hx hb dX7_countDays_11 hl (by decide) rfl (fun ls hl => ?_)
  have lp13 : ∀ (n13 : Nat) (dd : Int) (ct : Int) (H : Heap) (locs : List Loc), (hi : fr ≤ dd ∧ dd ≤ fr + days) → (hc : ct = cP (wkF (X wo 2) (Fa (X wo 2) F Fp n)) (dd - fr).toNat fr) → ((fr + days - dd).toNat < n13) → Wd Γ (zA K s.heap.size) K X5 Rf s H locs → ∀ ls : Array Slot, lv_has ls 5 [(4, .int (iI dd)), (3, .int (iI ct)), (0, .ref wo), (1, .int (iI fr)), (2, .int (iI days))] → W p l e (rmL 5 0 0) s m ([.ref wo, .int (iI fr), .int (iI days)] : List Value).toArray below meth c H locs 0 0 (MQ below (zQ Γ K s.heap.size (pI (zpx K Rf (fun (r : Int) (X' : zX) => r = cP (wkF (X wo 2) (Fa (X wo 2) F Fp n)) (fr + days - fr).toNat fr ∧ (fvr X' fn ∧ ((-100000 ≤ X' fa 1 ∧ X' fa 1 ≤ 200000) ∧ -100000 ≤ X' fa 2 ∧ X' fa 2 ≤ 200000)) ∧ (∀ a, a ≠ fa → a ≠ fn → X' a = X a))))) ([.ref wo, .int (iI fr), .int (iI days)] : List Value).toArray s 0 0 (zA K s.heap.size)) (F0 m 13 ls []) := by
    intro n13
    induction n13 with
    | zero => intro dd ct H locs hi hc hm13; exact absurd hm13 (Nat.not_lt_zero _)
    | succ n13 ih13 =>
      intro dd ct H locs hi hc hm13 hw ls hl
      have hct := cP_rng (p := wkF (X wo 2) (Fa (X wo 2) F Fp n)) (b := dd) fr
      refine lv_iload (pc := 13) hx hb dX7_countDays_13 (lv_at hl 0 rfl) ?_
      refine lv_iload_n (pc := 15) hx hb dX7_countDays_15 rfl (lv_at hl 3 rfl) ?_
      refine lv_iload_n (pc := 16) hx hb dX7_countDays_16 rfl (lv_at hl 4 rfl) ?_
      refine zadd (pc := 17) hx hb dX7_countDays_17 ?_
      refine zicmp_ge (pc := 18) hx hb 39 (by omega) (by omega) dX7_countDays_18 (by decide) (fun c18 => ?_) (fun c18 => ?_)
      · skip
        refine lv_iload_n (pc := 39) hx hb dX7_countDays_39 rfl (lv_at hl 1 rfl) ?_
        exact zretI (pc := 40) hx hb hlocks hr hw (Nat.zero_le _) (Nat.zero_le _) dX7_countDays_40 ⟨by (try dsimp only) <;> (exact ⟨by rw [hc, show dd = fr + days by omega], ⟨hv5, hb5⟩, ho5⟩), rfl, rfl⟩
      · skip
        refine lv_aload_n (pc := 21) hx hb dX7_countDays_21 rfl (lv_at hl 2 rfl) ?_
        refine lv_iload (pc := 22) hx hb dX7_countDays_22 (lv_at hl 0 rfl) ?_
        refine zkIp (pc := 24) (zrV (As := [.int (iI dd)]) hx hb hml hown hG hw (c_X7_worksOn l Γ K X5 Rf wo dd fa fn (by (first | assumption | omega)) (by (first | assumption | omega)) (by (first | assumption | omega)) (by (first | assumption | omega)) (by (first | assumption | omega)) (by (first | assumption | omega)) (by (first | assumption | omega)) (by (first | assumption | omega)) (by (first | assumption | omega))) (T := TX7) hk rfl cb_X7_worksOn wl_X7_125 rfl ⟨Nat.le_of_ble_eq_true rfl, Nat.le_of_ble_eq_true rfl⟩ hl.1 rfl (Nat.le_of_ble_eq_true rfl) dX7_countDays_24 ⟨Nat.zero_le _, Nat.zero_le _⟩) hw (fun r24 H locs hp24 hw => ?_)
        subst hp24
        have hp24f0 := bI_rng (wkF (X5 wo 2) (rdv X5 fa fn 1701) dd)
        have hwk : wkF (X5 wo 2) (rdv X5 fa fn 1701) dd = wkF (X wo 2) (Fa (X wo 2) F Fp n) dd := by rw [hw2b]; exact wkF_congr (hf5 dd (by omega) (by omega) (by omega))
        refine zif_eq (pc := 27) hx hb 33 (by omega) dX7_countDays_27 (by decide) (fun c27 => ?_) (fun c27 => ?_)
        · skip
          have q27 := bI_0 c27
          rw [hwk] at q27
          refine ziinc (pc := 33) (lv' := [(4, .int (iI (dd + 1))), (3, .int (iI ct)), (0, .ref wo), (1, .int (iI fr)), (2, .int (iI days))]) hx hb 0 dX7_countDays_33 hl rfl (by decide) rfl (fun ls hl => ?_)
          obtain ⟨x33, ex33⟩ : ∃ zz : Int, zz = (dd + 1) := ⟨_, rfl⟩
          rw [← ex33] at hl
          refine lv_goto (pc := 36) (tgt := 13) hx hb dX7_countDays_36 (by decide) ?_
          exact ih13 x33 ct _ _ (by (first | assumption | omega)) (by rw [ex33, cP_last (by omega), ← hc]; first | (rw [if_neg (by rw [q27]; simp)]; omega) | (rw [if_pos q27]; omega)) (by omega) hw _ (lv_sub hl [0, 1, 2, 3, 4] rfl)
        · skip
          have q27 := bI_1 c27
          rw [hwk] at q27
          refine ziinc (pc := 30) (lv' := [(3, .int (iI (ct + 1))), (4, .int (iI dd)), (0, .ref wo), (1, .int (iI fr)), (2, .int (iI days))]) hx hb 1 dX7_countDays_30 hl rfl (by decide) rfl (fun ls hl => ?_)
          obtain ⟨x30, ex30⟩ : ∃ zz : Int, zz = (ct + 1) := ⟨_, rfl⟩
          rw [← ex30] at hl
          refine ziinc (pc := 33) (lv' := [(4, .int (iI (dd + 1))), (3, .int (iI x30)), (0, .ref wo), (1, .int (iI fr)), (2, .int (iI days))]) hx hb 1 dX7_countDays_33 hl rfl (by decide) rfl (fun ls hl => ?_)
          obtain ⟨x33, ex33⟩ : ∃ zz : Int, zz = (dd + 1) := ⟨_, rfl⟩
          rw [← ex33] at hl
          refine lv_goto (pc := 36) (tgt := 13) hx hb dX7_countDays_36 (by decide) ?_
          exact ih13 x33 x30 _ _ (by (first | assumption | omega)) (by rw [ex33, cP_last (by omega), ← hc]; first | (rw [if_neg (by rw [q27]; simp)]; omega) | (rw [if_pos q27]; omega)) (by omega) hw _ (lv_sub hl [0, 1, 2, 3, 4] rfl)
  exact lp13 _ fr 0 _ _ (by (first | assumption | omega)) (by rw [cP_e (Int.le_refl _)]) (Nat.lt_succ_self _) hw _ (lv_sub hl [0, 1, 2, 3, 4] rfl)
set_option maxHeartbeats 4000000 in
set_option maxRecDepth 100000 in
theorem c_X7_dayBehind (l : Launch) (Γ : zG) (K : zK) (X : zX) (Rf : zR) (wo : Nat) (day : Int) (days : Int) (fa : Nat) (fn : Nat) (fe : Nat) (F : Nat → Nat → Int) (Fp : Nat → Nat → Int) (n : Nat) (hk : K wo = (1, 6)) (hw2 : 1 ≤ X wo 2 ∧ X wo 2 ≤ 127) (hr7 : Rf wo 7 = some fa) (hkfa : K fa = (1, 0)) (hr0 : Rf fa 0 = some fn) (hkfn : K fn = (2, 1701)) (hr5 : Rf wo 5 = some fe) (hkfe : K fe = (10, 20)) (hfs : fstOK K X Rf fe n F Fp) (hn : X wo 6 = n ∧ n ≤ 20) (hvr : fvr X fn) (hb0 : (-100000 ≤ X fa 1 ∧ X fa 1 ≤ 200000) ∧ -100000 ≤ X fa 2 ∧ X fa 2 ≤ 200000) (h1 : (0 ≤ day ∧ day ≤ 73048) ∧ (-200 ≤ days ∧ days ≤ 200)) : Ct l yX7_dayBehind cX7_dayBehind 7 (some .int) 5 0 0 Γ [.ref wo, .int (iI day), .int (iI days)] K X Rf (pI (zpx K Rf (fun (r : Int) (X' : zX) => r = bhF (wkF (X wo 2) (Fa (X wo 2) F Fp n)) day days ∧ (fvr X' fn ∧ ((-100000 ≤ X' fa 1 ∧ X' fa 1 ≤ 200000) ∧ -100000 ≤ X' fa 2 ∧ X' fa 2 ≤ 200000)) ∧ (∀ a, a ≠ fa → a ≠ fn → X' a = X a)))) := by
  refine Ct.of (by decide +kernel) (Nat.le_of_ble_eq_true rfl) ?_
  intro p e s m below meth c ls hx hb hr hml hown hG hlocks hname hw hl
  have hl : lv_has ls 7 [(0, .ref wo), (1, .int (iI day)), (2, .int (iI days))] := hl
  have hne : fa ≠ fn := zkne hkfa hkfn (by simp)
  have hn1 : wo ≠ fn := zkne hk hkfn (by simp)
  have hn2 : wo ≠ fa := fun q => by rw [q, hkfa] at hk; exact absurd hk (by decide)
  refine lv_iload_n (pc := 0) hx hb dX7_dayBehind_0 rfl (lv_at hl 2 rfl) ?_
  refine zif_ne (pc := 1) hx hb 6 (by omega) dX7_dayBehind_1 (by decide) (fun c1 => ?_) (fun c1 => ?_)
  · skip
    refine lv_iload_n (pc := 6) hx hb dX7_dayBehind_6 rfl (lv_at hl 2 rfl) ?_
    refine zif_le (pc := 7) hx hb 14 (by omega) dX7_dayBehind_7 (by decide) (fun c7 => ?_) (fun c7 => ?_)
    · skip
      refine ziconst (pc := 14) (n := (-1)) hx hb dX7_dayBehind_14 ?_
      refine lv_istore_n (pc := 15) (lv' := [(3, .int (iI (-1))), (0, .ref wo), (1, .int (iI day)), (2, .int (iI days))]) hx hb dX7_dayBehind_15 rfl hl (by decide) rfl (fun ls hl => ?_)
      refine ziconst (pc := 16) (n := 0) hx hb dX7_dayBehind_16 ?_
      refine lv_iload_n (pc := 17) hx hb dX7_dayBehind_17 rfl (lv_at hl 2 rfl) ?_
      refine lv_iload_n (pc := 18) hx hb dX7_dayBehind_18 rfl (lv_at hl 0 rfl) ?_
      refine zsipush (pc := 19) (n := 500) hx hb dX7_dayBehind_19 rfl ?_
      refine zmul (pc := 22) hx hb dX7_dayBehind_22 ?_
      refine zadd (pc := 23) hx hb dX7_dayBehind_23 ?_
      refine zldc (pc := 24) (n := 73048) hx hb hown hG wk_X7_55 dX7_dayBehind_24 ?_
      refine zmin (pc := 26) hx hb (hml.trans hl.1.symm) hown hG wl_X7_56 w1_zmn wi_javalangMath w2_zmn (Nat.le_of_ble_eq_true rfl) (Nat.le_of_ble_eq_true rfl) (Nat.zero_le _) (Nat.zero_le _) ⟨by omega, by omega⟩ dX7_dayBehind_26 ?_
      refine zmax (pc := 29) hx hb (hml.trans hl.1.symm) hown hG wl_X7_49 w1_zmx wi_javalangMath w2_zmx (Nat.le_of_ble_eq_true rfl) (Nat.le_of_ble_eq_true rfl) (Nat.zero_le _) (Nat.zero_le _) ⟨by omega, by omega⟩ dX7_dayBehind_29 ?_
      refine ztop (fun x32 ex32 => ?_)
      refine lv_istore (pc := 32) (lv' := [(4, .int (iI x32)), (3, .int (iI (-1))), (0, .ref wo), (1, .int (iI day)), (2, .int (iI days))]) hx hb dX7_dayBehind_32 hl (by decide) rfl (fun ls hl => ?_)
      have hx32 : (0 < days ∧ x32 = min (day + 500) 73048) ∨ (days < 0 ∧ x32 = max 0 (day - 500)) := by omega
      refine lv_aload_n (pc := 34) hx hb dX7_dayBehind_34 rfl (lv_at hl 2 rfl) ?_
      refine lv_iload_n (pc := 35) hx hb dX7_dayBehind_35 rfl (lv_at hl 3 rfl) ?_
      refine lv_iload (pc := 36) hx hb dX7_dayBehind_36 (lv_at hl 0 rfl) ?_
      refine zmin (pc := 38) hx hb (hml.trans hl.1.symm) hown hG wl_X7_56 w1_zmn wi_javalangMath w2_zmn (Nat.le_of_ble_eq_true rfl) (Nat.le_of_ble_eq_true rfl) (Nat.zero_le _) (Nat.zero_le _) ⟨by omega, by omega⟩ dX7_dayBehind_38 ?_
      refine lv_iload_n (pc := 41) hx hb dX7_dayBehind_41 rfl (lv_at hl 3 rfl) ?_
      refine lv_iload (pc := 42) hx hb dX7_dayBehind_42 (lv_at hl 0 rfl) ?_
      refine zmax (pc := 44) hx hb (hml.trans hl.1.symm) hown hG wl_X7_49 w1_zmx wi_javalangMath w2_zmx (Nat.le_of_ble_eq_true rfl) (Nat.le_of_ble_eq_true rfl) (Nat.zero_le _) (Nat.zero_le _) ⟨by omega, by omega⟩ dX7_dayBehind_44 ?_
      refine zkVx (pc := 47) (zrV (As := [.int (iI (min day x32)), .int (iI (max day x32))]) hx hb hml hown hG hw (c_X7_findFeasts l Γ K X Rf wo (min day x32) (max day x32) fa fn fe F Fp n (by (first | assumption | omega)) (by (first | assumption | omega)) (by (first | assumption | omega)) (by (first | assumption | omega)) (by (first | assumption | omega)) (by (first | assumption | omega)) (by (first | assumption | omega)) (by (first | assumption | omega)) (by (first | assumption | omega)) (by (first | assumption | omega)) (by (first | assumption | omega)) (by (first | assumption | omega))) (T := TX7) hk rfl cb_X7_findFeasts wl_X7_122 rfl ⟨Nat.le_of_ble_eq_true rfl, Nat.le_of_ble_eq_true rfl⟩ hl.1 rfl (Nat.le_of_ble_eq_true rfl) dX7_dayBehind_47 ⟨Nat.zero_le _, Nat.zero_le _⟩) hw (fun X47 H locs hp47 hw => ?_)
      obtain ⟨hf5, ⟨hv5, hb5⟩, ho5⟩ := hp47
      have hwo9 : X47 wo = X wo := ho5 wo hn2 hn1
      have hw2b : X47 wo 2 = X wo 2 := by rw [hwo9]
      refine lv_iload_n (pc := 50) hx hb dX7_dayBehind_50 rfl (lv_at hl 4 rfl) ?_
      refine zabs (pc := 51) hx hb (hml.trans hl.1.symm) hown hG wl_X7_129 w1_zab wi_javalangMath w2_zab (Nat.le_of_ble_eq_true rfl) (Nat.le_of_ble_eq_true rfl) (Nat.zero_le _) (Nat.zero_le _) (by omega) dX7_dayBehind_51 ?_
      refine ztop (fun x54 ex54 => ?_)
      refine lv_istore (pc := 54) (lv' := [(5, .int (iI x54)), (4, .int (iI x32)), (3, .int (iI (-1))), (0, .ref wo), (1, .int (iI day)), (2, .int (iI days))]) hx hb dX7_dayBehind_54 hl (by decide) rfl (fun ls hl => ?_)
      refine ziconst (pc := 56) (n := 1) hx hb dX7_dayBehind_56 ?_
      refine lv_istore (pc := 57) (lv' := [(6, .int (iI 1)), (5, .int (iI x54)), (4, .int (iI x32)), (3, .int (iI (-1))), (0, .ref wo), (1, .int (iI day)), (2, .int (iI days))]) hx hb dX7_dayBehind_57 hl (by decide) rfl (fun ls hl => ?_)
      have lp59 : ∀ (n59 : Nat) (aw : Int) (lf : Int) (H : Heap) (locs : List Loc), (hi : 1 ≤ aw ∧ aw ≤ 501) → (hl9 : 1 ≤ lf ∧ lf ≤ 200) → (hc : bhF (wkF (X wo 2) (Fa (X wo 2) F Fp n)) day days = if 0 < days then chF (wkF (X wo 2) (Fa (X wo 2) F Fp n)) (x32 - (day + aw) + 1).toNat (day + aw) lf else chB (wkF (X wo 2) (Fa (X wo 2) F Fp n)) (day - aw - x32 + 1).toNat (day - aw) lf) → ((501 - aw).toNat < n59) → Wd Γ (zA K s.heap.size) K X47 Rf s H locs → ∀ ls : Array Slot, lv_has ls 7 [(6, .int (iI aw)), (5, .int (iI lf)), (4, .int (iI x32)), (3, .int (iI (-1))), (0, .ref wo), (1, .int (iI day)), (2, .int (iI days))] → W p l e (rmL 5 0 0) s m ([.ref wo, .int (iI day), .int (iI days)] : List Value).toArray below meth c H locs 0 0 (MQ below (zQ Γ K s.heap.size (pI (zpx K Rf (fun (r : Int) (X' : zX) => r = bhF (wkF (X wo 2) (Fa (X wo 2) F Fp n)) day days ∧ (fvr X' fn ∧ ((-100000 ≤ X' fa 1 ∧ X' fa 1 ≤ 200000) ∧ -100000 ≤ X' fa 2 ∧ X' fa 2 ≤ 200000)) ∧ (∀ a, a ≠ fa → a ≠ fn → X' a = X a))))) ([.ref wo, .int (iI day), .int (iI days)] : List Value).toArray s 0 0 (zA K s.heap.size)) (F0 m 59 ls []) := by
        intro n59
        induction n59 with
        | zero => intro aw lf H locs hi hl9 hc hm59; exact absurd hm59 (Nat.not_lt_zero _)
        | succ n59 ih59 =>
          intro aw lf H locs hi hl9 hc hm59 hw ls hl
          refine lv_iload (pc := 59) hx hb dX7_dayBehind_59 (lv_at hl 0 rfl) ?_
          refine lv_iload (pc := 61) hx hb dX7_dayBehind_61 (lv_at hl 2 rfl) ?_
          refine lv_iload_n (pc := 63) hx hb dX7_dayBehind_63 rfl (lv_at hl 5 rfl) ?_
          refine zsub (pc := 64) hx hb dX7_dayBehind_64 ?_
          refine zabs (pc := 65) hx hb (hml.trans hl.1.symm) hown hG wl_X7_129 w1_zab wi_javalangMath w2_zab (Nat.le_of_ble_eq_true rfl) (Nat.le_of_ble_eq_true rfl) (Nat.zero_le _) (Nat.zero_le _) (by omega) dX7_dayBehind_65 ?_
          refine zicmp_gt (pc := 68) hx hb 105 (by omega) (by omega) dX7_dayBehind_68 (by decide) (fun c68 => ?_) (fun c68 => ?_)
          · skip
            refine ziconst (pc := 105) (n := (-1)) hx hb dX7_dayBehind_105 ?_
            exact zretI (pc := 106) hx hb hlocks hr hw (Nat.zero_le _) (Nat.zero_le _) dX7_dayBehind_106 ⟨by (try dsimp only) <;> (
                                        refine ⟨?_, ⟨hv5, hb5⟩, ho5⟩
                                        rw [hc]
                                        by_cases q9 : 0 < days
                                        · first
                                          | (exfalso; omega)
                                          | (rw [if_pos q9, chF_e (by omega)])
                                        · first
                                          | (exfalso; omega)
                                          | (rw [if_neg q9, chB_e (by omega)])), rfl, rfl⟩
          · skip
            refine lv_aload_n (pc := 71) hx hb dX7_dayBehind_71 rfl (lv_at hl 4 rfl) ?_
            refine lv_iload_n (pc := 72) hx hb dX7_dayBehind_72 rfl (lv_at hl 5 rfl) ?_
            refine lv_iload_n (pc := 73) hx hb dX7_dayBehind_73 rfl (lv_at hl 3 rfl) ?_
            refine lv_iload (pc := 74) hx hb dX7_dayBehind_74 (lv_at hl 0 rfl) ?_
            refine zmul (pc := 76) hx hb dX7_dayBehind_76 ?_
            refine zadd (pc := 77) hx hb dX7_dayBehind_77 ?_
            refine zkIp (pc := 78) (zrV (As := [.int (iI (day + ((-1) * aw)))]) hx hb hml hown hG hw (c_X7_worksOn l Γ K X47 Rf wo (day + ((-1) * aw)) fa fn (by (first | assumption | omega)) (by (first | assumption | omega)) (by (first | assumption | omega)) (by (first | assumption | omega)) (by (first | assumption | omega)) (by (first | assumption | omega)) (by (first | assumption | omega)) (by (first | assumption | omega)) (by (first | assumption | omega))) (T := TX7) hk rfl cb_X7_worksOn wl_X7_125 rfl ⟨Nat.le_of_ble_eq_true rfl, Nat.le_of_ble_eq_true rfl⟩ hl.1 rfl (Nat.le_of_ble_eq_true rfl) dX7_dayBehind_78 ⟨Nat.zero_le _, Nat.zero_le _⟩) hw (fun r78 H locs hp78 hw => ?_)
            subst hp78
            have hp78f0 := bI_rng (wkF (X47 wo 2) (rdv X47 fa fn 1701) (day + ((-1) * aw)))
            have hwk : ∀ d9 : Int, d9 = (if 0 < days then day + aw else day - aw) → wkF (X47 wo 2) (rdv X47 fa fn 1701) d9 = wkF (X wo 2) (Fa (X wo 2) F Fp n) (if 0 < days then day + aw else day - aw) := fun d9 hd9 => by rw [hw2b, ← hd9]; exact wkF_congr (hf5 d9 (by omega) (by omega) (by omega))
            refine zif_eq (pc := 81) hx hb 99 (by omega) dX7_dayBehind_81 (by decide) (fun c81 => ?_) (fun c81 => ?_)
            · skip
              have q81 := bI_0 c81
              rw [hwk _ (by omega)] at q81
              first | (rw [if_pos (by omega)] at q81) | (rw [if_neg (by omega)] at q81)
              refine ziinc (pc := 99) (lv' := [(6, .int (iI (aw + 1))), (5, .int (iI lf)), (4, .int (iI x32)), (3, .int (iI (-1))), (0, .ref wo), (1, .int (iI day)), (2, .int (iI days))]) hx hb 0 dX7_dayBehind_99 hl rfl (by decide) rfl (fun ls hl => ?_)
              obtain ⟨x99, ex99⟩ : ∃ zz : Int, zz = (aw + 1) := ⟨_, rfl⟩
              rw [← ex99] at hl
              refine lv_goto (pc := 102) (tgt := 59) hx hb dX7_dayBehind_102 (by decide) ?_
              exact ih59 x99 lf _ _ (by (first | assumption | omega)) (by omega) (by 
                                        rw [hc]
                                        by_cases q9 : 0 < days
                                        · rw [if_pos q9, if_pos q9, show day + x99 = day + aw + 1 by omega]
                                          first
                                          | exact chF_s (by omega) q81
                                          | (rw [chF_t (by omega) q81 (by omega), show lf - 1 = x84 by omega])
                                          | (exfalso; omega)
                                        · rw [if_neg q9, if_neg q9, show day - x99 = day - aw - 1 by omega]
                                          first
                                          | exact chB_s (by omega) q81
                                          | (rw [chB_t (by omega) q81 (by omega), show lf - 1 = x84 by omega])
                                          | (exfalso; omega)) (by omega) hw _ (lv_sub hl [0, 1, 2, 3, 4, 5, 6] rfl)
            · skip
              have q81 := bI_1 c81
              rw [hwk _ (by omega)] at q81
              first | (rw [if_pos (by omega)] at q81) | (rw [if_neg (by omega)] at q81)
              refine ziinc (pc := 84) (lv' := [(5, .int (iI (lf + (-1)))), (6, .int (iI aw)), (4, .int (iI x32)), (3, .int (iI (-1))), (0, .ref wo), (1, .int (iI day)), (2, .int (iI days))]) hx hb 1 dX7_dayBehind_84 hl rfl (by decide) rfl (fun ls hl => ?_)
              obtain ⟨x84, ex84⟩ : ∃ zz : Int, zz = (lf + (-1)) := ⟨_, rfl⟩
              rw [← ex84] at hl
              refine lv_iload (pc := 87) hx hb dX7_dayBehind_87 (lv_at hl 0 rfl) ?_
              refine zif_ne (pc := 89) hx hb 99 (by omega) dX7_dayBehind_89 (by decide) (fun c89 => ?_) (fun c89 => ?_)
              · skip
                refine ziinc (pc := 99) (lv' := [(6, .int (iI (aw + 1))), (5, .int (iI x84)), (4, .int (iI x32)), (3, .int (iI (-1))), (0, .ref wo), (1, .int (iI day)), (2, .int (iI days))]) hx hb 1 dX7_dayBehind_99 hl rfl (by decide) rfl (fun ls hl => ?_)
                obtain ⟨x99, ex99⟩ : ∃ zz : Int, zz = (aw + 1) := ⟨_, rfl⟩
                rw [← ex99] at hl
                refine lv_goto (pc := 102) (tgt := 59) hx hb dX7_dayBehind_102 (by decide) ?_
                exact ih59 x99 x84 _ _ (by (first | assumption | omega)) (by omega) (by 
                                        rw [hc]
                                        by_cases q9 : 0 < days
                                        · rw [if_pos q9, if_pos q9, show day + x99 = day + aw + 1 by omega]
                                          first
                                          | exact chF_s (by omega) q81
                                          | (rw [chF_t (by omega) q81 (by omega), show lf - 1 = x84 by omega])
                                          | (exfalso; omega)
                                        · rw [if_neg q9, if_neg q9, show day - x99 = day - aw - 1 by omega]
                                          first
                                          | exact chB_s (by omega) q81
                                          | (rw [chB_t (by omega) q81 (by omega), show lf - 1 = x84 by omega])
                                          | (exfalso; omega)) (by omega) hw _ (lv_sub hl [0, 1, 2, 3, 4, 5, 6] rfl)
              · skip
                refine lv_iload_n (pc := 92) hx hb dX7_dayBehind_92 rfl (lv_at hl 5 rfl) ?_
                refine lv_iload_n (pc := 93) hx hb dX7_dayBehind_93 rfl (lv_at hl 3 rfl) ?_
                refine lv_iload (pc := 94) hx hb dX7_dayBehind_94 (lv_at hl 1 rfl) ?_
                refine zmul (pc := 96) hx hb dX7_dayBehind_96 ?_
                refine zadd (pc := 97) hx hb dX7_dayBehind_97 ?_
                exact zretI (pc := 98) hx hb hlocks hr hw (Nat.zero_le _) (Nat.zero_le _) dX7_dayBehind_98 ⟨by (try dsimp only) <;> (
                                        refine ⟨?_, ⟨hv5, hb5⟩, ho5⟩
                                        rw [hc, show lf = 1 by omega]
                                        by_cases q9 : 0 < days
                                        · first
                                          | (exfalso; omega)
                                          | (rw [if_pos q9, chF_h (by omega) q81]; omega)
                                        · first
                                          | (exfalso; omega)
                                          | (rw [if_neg q9, chB_h (by omega) q81]; omega)), rfl, rfl⟩
      exact lp59 _ 1 x54 _ _ (by (first | assumption | omega)) (by omega) (by unfold bhF; rw [if_neg (by omega)]; by_cases q9 : 0 < days; rw [if_pos q9, if_pos q9, show min (day + 500) 73048 = x32 by omega, show x54 = days by omega]; rw [if_neg q9, if_neg q9, show max 0 (day - 500) = x32 by omega, show x54 = -days by omega]) (Nat.lt_succ_self _) hw _ (lv_sub hl [0, 1, 2, 3, 4, 5, 6] rfl)
    · skip
      refine ziconst (pc := 10) (n := 1) hx hb dX7_dayBehind_10 ?_
      refine lv_goto (pc := 11) (tgt := 15) hx hb dX7_dayBehind_11 (by decide) ?_
      refine lv_istore_n (pc := 15) (lv' := [(3, .int (iI 1)), (0, .ref wo), (1, .int (iI day)), (2, .int (iI days))]) hx hb dX7_dayBehind_15 rfl hl (by decide) rfl (fun ls hl => ?_)
      refine ziconst (pc := 16) (n := 0) hx hb dX7_dayBehind_16 ?_
      refine lv_iload_n (pc := 17) hx hb dX7_dayBehind_17 rfl (lv_at hl 2 rfl) ?_
      refine lv_iload_n (pc := 18) hx hb dX7_dayBehind_18 rfl (lv_at hl 0 rfl) ?_
      refine zsipush (pc := 19) (n := 500) hx hb dX7_dayBehind_19 rfl ?_
      refine zmul (pc := 22) hx hb dX7_dayBehind_22 ?_
      refine zadd (pc := 23) hx hb dX7_dayBehind_23 ?_
      refine zldc (pc := 24) (n := 73048) hx hb hown hG wk_X7_55 dX7_dayBehind_24 ?_
      refine zmin (pc := 26) hx hb (hml.trans hl.1.symm) hown hG wl_X7_56 w1_zmn wi_javalangMath w2_zmn (Nat.le_of_ble_eq_true rfl) (Nat.le_of_ble_eq_true rfl) (Nat.zero_le _) (Nat.zero_le _) ⟨by omega, by omega⟩ dX7_dayBehind_26 ?_
      refine zmax (pc := 29) hx hb (hml.trans hl.1.symm) hown hG wl_X7_49 w1_zmx wi_javalangMath w2_zmx (Nat.le_of_ble_eq_true rfl) (Nat.le_of_ble_eq_true rfl) (Nat.zero_le _) (Nat.zero_le _) ⟨by omega, by omega⟩ dX7_dayBehind_29 ?_
      refine ztop (fun x32 ex32 => ?_)
      refine lv_istore (pc := 32) (lv' := [(4, .int (iI x32)), (3, .int (iI 1)), (0, .ref wo), (1, .int (iI day)), (2, .int (iI days))]) hx hb dX7_dayBehind_32 hl (by decide) rfl (fun ls hl => ?_)
      have hx32 : (0 < days ∧ x32 = min (day + 500) 73048) ∨ (days < 0 ∧ x32 = max 0 (day - 500)) := by omega
      refine lv_aload_n (pc := 34) hx hb dX7_dayBehind_34 rfl (lv_at hl 2 rfl) ?_
      refine lv_iload_n (pc := 35) hx hb dX7_dayBehind_35 rfl (lv_at hl 3 rfl) ?_
      refine lv_iload (pc := 36) hx hb dX7_dayBehind_36 (lv_at hl 0 rfl) ?_
      refine zmin (pc := 38) hx hb (hml.trans hl.1.symm) hown hG wl_X7_56 w1_zmn wi_javalangMath w2_zmn (Nat.le_of_ble_eq_true rfl) (Nat.le_of_ble_eq_true rfl) (Nat.zero_le _) (Nat.zero_le _) ⟨by omega, by omega⟩ dX7_dayBehind_38 ?_
      refine lv_iload_n (pc := 41) hx hb dX7_dayBehind_41 rfl (lv_at hl 3 rfl) ?_
      refine lv_iload (pc := 42) hx hb dX7_dayBehind_42 (lv_at hl 0 rfl) ?_
      refine zmax (pc := 44) hx hb (hml.trans hl.1.symm) hown hG wl_X7_49 w1_zmx wi_javalangMath w2_zmx (Nat.le_of_ble_eq_true rfl) (Nat.le_of_ble_eq_true rfl) (Nat.zero_le _) (Nat.zero_le _) ⟨by omega, by omega⟩ dX7_dayBehind_44 ?_
      refine zkVx (pc := 47) (zrV (As := [.int (iI (min day x32)), .int (iI (max day x32))]) hx hb hml hown hG hw (c_X7_findFeasts l Γ K X Rf wo (min day x32) (max day x32) fa fn fe F Fp n (by (first | assumption | omega)) (by (first | assumption | omega)) (by (first | assumption | omega)) (by (first | assumption | omega)) (by (first | assumption | omega)) (by (first | assumption | omega)) (by (first | assumption | omega)) (by (first | assumption | omega)) (by (first | assumption | omega)) (by (first | assumption | omega)) (by (first | assumption | omega)) (by (first | assumption | omega))) (T := TX7) hk rfl cb_X7_findFeasts wl_X7_122 rfl ⟨Nat.le_of_ble_eq_true rfl, Nat.le_of_ble_eq_true rfl⟩ hl.1 rfl (Nat.le_of_ble_eq_true rfl) dX7_dayBehind_47 ⟨Nat.zero_le _, Nat.zero_le _⟩) hw (fun X47 H locs hp47 hw => ?_)
      obtain ⟨hf5, ⟨hv5, hb5⟩, ho5⟩ := hp47
      have hwo9 : X47 wo = X wo := ho5 wo hn2 hn1
      have hw2b : X47 wo 2 = X wo 2 := by rw [hwo9]
      refine lv_iload_n (pc := 50) hx hb dX7_dayBehind_50 rfl (lv_at hl 4 rfl) ?_
      refine zabs (pc := 51) hx hb (hml.trans hl.1.symm) hown hG wl_X7_129 w1_zab wi_javalangMath w2_zab (Nat.le_of_ble_eq_true rfl) (Nat.le_of_ble_eq_true rfl) (Nat.zero_le _) (Nat.zero_le _) (by omega) dX7_dayBehind_51 ?_
      refine ztop (fun x54 ex54 => ?_)
      refine lv_istore (pc := 54) (lv' := [(5, .int (iI x54)), (4, .int (iI x32)), (3, .int (iI 1)), (0, .ref wo), (1, .int (iI day)), (2, .int (iI days))]) hx hb dX7_dayBehind_54 hl (by decide) rfl (fun ls hl => ?_)
      refine ziconst (pc := 56) (n := 1) hx hb dX7_dayBehind_56 ?_
      refine lv_istore (pc := 57) (lv' := [(6, .int (iI 1)), (5, .int (iI x54)), (4, .int (iI x32)), (3, .int (iI 1)), (0, .ref wo), (1, .int (iI day)), (2, .int (iI days))]) hx hb dX7_dayBehind_57 hl (by decide) rfl (fun ls hl => ?_)
      have lp59 : ∀ (n59 : Nat) (aw : Int) (lf : Int) (H : Heap) (locs : List Loc), (hi : 1 ≤ aw ∧ aw ≤ 501) → (hl9 : 1 ≤ lf ∧ lf ≤ 200) → (hc : bhF (wkF (X wo 2) (Fa (X wo 2) F Fp n)) day days = if 0 < days then chF (wkF (X wo 2) (Fa (X wo 2) F Fp n)) (x32 - (day + aw) + 1).toNat (day + aw) lf else chB (wkF (X wo 2) (Fa (X wo 2) F Fp n)) (day - aw - x32 + 1).toNat (day - aw) lf) → ((501 - aw).toNat < n59) → Wd Γ (zA K s.heap.size) K X47 Rf s H locs → ∀ ls : Array Slot, lv_has ls 7 [(6, .int (iI aw)), (5, .int (iI lf)), (4, .int (iI x32)), (3, .int (iI 1)), (0, .ref wo), (1, .int (iI day)), (2, .int (iI days))] → W p l e (rmL 5 0 0) s m ([.ref wo, .int (iI day), .int (iI days)] : List Value).toArray below meth c H locs 0 0 (MQ below (zQ Γ K s.heap.size (pI (zpx K Rf (fun (r : Int) (X' : zX) => r = bhF (wkF (X wo 2) (Fa (X wo 2) F Fp n)) day days ∧ (fvr X' fn ∧ ((-100000 ≤ X' fa 1 ∧ X' fa 1 ≤ 200000) ∧ -100000 ≤ X' fa 2 ∧ X' fa 2 ≤ 200000)) ∧ (∀ a, a ≠ fa → a ≠ fn → X' a = X a))))) ([.ref wo, .int (iI day), .int (iI days)] : List Value).toArray s 0 0 (zA K s.heap.size)) (F0 m 59 ls []) := by
        intro n59
        induction n59 with
        | zero => intro aw lf H locs hi hl9 hc hm59; exact absurd hm59 (Nat.not_lt_zero _)
        | succ n59 ih59 =>
          intro aw lf H locs hi hl9 hc hm59 hw ls hl
          refine lv_iload (pc := 59) hx hb dX7_dayBehind_59 (lv_at hl 0 rfl) ?_
          refine lv_iload (pc := 61) hx hb dX7_dayBehind_61 (lv_at hl 2 rfl) ?_
          refine lv_iload_n (pc := 63) hx hb dX7_dayBehind_63 rfl (lv_at hl 5 rfl) ?_
          refine zsub (pc := 64) hx hb dX7_dayBehind_64 ?_
          refine zabs (pc := 65) hx hb (hml.trans hl.1.symm) hown hG wl_X7_129 w1_zab wi_javalangMath w2_zab (Nat.le_of_ble_eq_true rfl) (Nat.le_of_ble_eq_true rfl) (Nat.zero_le _) (Nat.zero_le _) (by omega) dX7_dayBehind_65 ?_
          refine zicmp_gt (pc := 68) hx hb 105 (by omega) (by omega) dX7_dayBehind_68 (by decide) (fun c68 => ?_) (fun c68 => ?_)
          · skip
            refine ziconst (pc := 105) (n := (-1)) hx hb dX7_dayBehind_105 ?_
            exact zretI (pc := 106) hx hb hlocks hr hw (Nat.zero_le _) (Nat.zero_le _) dX7_dayBehind_106 ⟨by (try dsimp only) <;> (
                                        refine ⟨?_, ⟨hv5, hb5⟩, ho5⟩
                                        rw [hc]
                                        by_cases q9 : 0 < days
                                        · first
                                          | (exfalso; omega)
                                          | (rw [if_pos q9, chF_e (by omega)])
                                        · first
                                          | (exfalso; omega)
                                          | (rw [if_neg q9, chB_e (by omega)])), rfl, rfl⟩
          · skip
            refine lv_aload_n (pc := 71) hx hb dX7_dayBehind_71 rfl (lv_at hl 4 rfl) ?_
            refine lv_iload_n (pc := 72) hx hb dX7_dayBehind_72 rfl (lv_at hl 5 rfl) ?_
            refine lv_iload_n (pc := 73) hx hb dX7_dayBehind_73 rfl (lv_at hl 3 rfl) ?_
            refine lv_iload (pc := 74) hx hb dX7_dayBehind_74 (lv_at hl 0 rfl) ?_
            refine zmul (pc := 76) hx hb dX7_dayBehind_76 ?_
            refine zadd (pc := 77) hx hb dX7_dayBehind_77 ?_
            refine zkIp (pc := 78) (zrV (As := [.int (iI (day + (1 * aw)))]) hx hb hml hown hG hw (c_X7_worksOn l Γ K X47 Rf wo (day + (1 * aw)) fa fn (by (first | assumption | omega)) (by (first | assumption | omega)) (by (first | assumption | omega)) (by (first | assumption | omega)) (by (first | assumption | omega)) (by (first | assumption | omega)) (by (first | assumption | omega)) (by (first | assumption | omega)) (by (first | assumption | omega))) (T := TX7) hk rfl cb_X7_worksOn wl_X7_125 rfl ⟨Nat.le_of_ble_eq_true rfl, Nat.le_of_ble_eq_true rfl⟩ hl.1 rfl (Nat.le_of_ble_eq_true rfl) dX7_dayBehind_78 ⟨Nat.zero_le _, Nat.zero_le _⟩) hw (fun r78 H locs hp78 hw => ?_)
            subst hp78
            have hp78f0 := bI_rng (wkF (X47 wo 2) (rdv X47 fa fn 1701) (day + (1 * aw)))
            have hwk : ∀ d9 : Int, d9 = (if 0 < days then day + aw else day - aw) → wkF (X47 wo 2) (rdv X47 fa fn 1701) d9 = wkF (X wo 2) (Fa (X wo 2) F Fp n) (if 0 < days then day + aw else day - aw) := fun d9 hd9 => by rw [hw2b, ← hd9]; exact wkF_congr (hf5 d9 (by omega) (by omega) (by omega))
            refine zif_eq (pc := 81) hx hb 99 (by omega) dX7_dayBehind_81 (by decide) (fun c81 => ?_) (fun c81 => ?_)
            · skip
              have q81 := bI_0 c81
              rw [hwk _ (by omega)] at q81
              first | (rw [if_pos (by omega)] at q81) | (rw [if_neg (by omega)] at q81)
              refine ziinc (pc := 99) (lv' := [(6, .int (iI (aw + 1))), (5, .int (iI lf)), (4, .int (iI x32)), (3, .int (iI 1)), (0, .ref wo), (1, .int (iI day)), (2, .int (iI days))]) hx hb 0 dX7_dayBehind_99 hl rfl (by decide) rfl (fun ls hl => ?_)
              obtain ⟨x99, ex99⟩ : ∃ zz : Int, zz = (aw + 1) := ⟨_, rfl⟩
              rw [← ex99] at hl
              refine lv_goto (pc := 102) (tgt := 59) hx hb dX7_dayBehind_102 (by decide) ?_
              exact ih59 x99 lf _ _ (by (first | assumption | omega)) (by omega) (by 
                                        rw [hc]
                                        by_cases q9 : 0 < days
                                        · rw [if_pos q9, if_pos q9, show day + x99 = day + aw + 1 by omega]
                                          first
                                          | exact chF_s (by omega) q81
                                          | (rw [chF_t (by omega) q81 (by omega), show lf - 1 = x84 by omega])
                                          | (exfalso; omega)
                                        · rw [if_neg q9, if_neg q9, show day - x99 = day - aw - 1 by omega]
                                          first
                                          | exact chB_s (by omega) q81
                                          | (rw [chB_t (by omega) q81 (by omega), show lf - 1 = x84 by omega])
                                          | (exfalso; omega)) (by omega) hw _ (lv_sub hl [0, 1, 2, 3, 4, 5, 6] rfl)
            · skip
              have q81 := bI_1 c81
              rw [hwk _ (by omega)] at q81
              first | (rw [if_pos (by omega)] at q81) | (rw [if_neg (by omega)] at q81)
              refine ziinc (pc := 84) (lv' := [(5, .int (iI (lf + (-1)))), (6, .int (iI aw)), (4, .int (iI x32)), (3, .int (iI 1)), (0, .ref wo), (1, .int (iI day)), (2, .int (iI days))]) hx hb 1 dX7_dayBehind_84 hl rfl (by decide) rfl (fun ls hl => ?_)
              obtain ⟨x84, ex84⟩ : ∃ zz : Int, zz = (lf + (-1)) := ⟨_, rfl⟩
              rw [← ex84] at hl
              refine lv_iload (pc := 87) hx hb dX7_dayBehind_87 (lv_at hl 0 rfl) ?_
              refine zif_ne (pc := 89) hx hb 99 (by omega) dX7_dayBehind_89 (by decide) (fun c89 => ?_) (fun c89 => ?_)
              · skip
                refine ziinc (pc := 99) (lv' := [(6, .int (iI (aw + 1))), (5, .int (iI x84)), (4, .int (iI x32)), (3, .int (iI 1)), (0, .ref wo), (1, .int (iI day)), (2, .int (iI days))]) hx hb 1 dX7_dayBehind_99 hl rfl (by decide) rfl (fun ls hl => ?_)
                obtain ⟨x99, ex99⟩ : ∃ zz : Int, zz = (aw + 1) := ⟨_, rfl⟩
                rw [← ex99] at hl
                refine lv_goto (pc := 102) (tgt := 59) hx hb dX7_dayBehind_102 (by decide) ?_
                exact ih59 x99 x84 _ _ (by (first | assumption | omega)) (by omega) (by 
                                        rw [hc]
                                        by_cases q9 : 0 < days
                                        · rw [if_pos q9, if_pos q9, show day + x99 = day + aw + 1 by omega]
                                          first
                                          | exact chF_s (by omega) q81
                                          | (rw [chF_t (by omega) q81 (by omega), show lf - 1 = x84 by omega])
                                          | (exfalso; omega)
                                        · rw [if_neg q9, if_neg q9, show day - x99 = day - aw - 1 by omega]
                                          first
                                          | exact chB_s (by omega) q81
                                          | (rw [chB_t (by omega) q81 (by omega), show lf - 1 = x84 by omega])
                                          | (exfalso; omega)) (by omega) hw _ (lv_sub hl [0, 1, 2, 3, 4, 5, 6] rfl)
              · skip
                refine lv_iload_n (pc := 92) hx hb dX7_dayBehind_92 rfl (lv_at hl 5 rfl) ?_
                refine lv_iload_n (pc := 93) hx hb dX7_dayBehind_93 rfl (lv_at hl 3 rfl) ?_
                refine lv_iload (pc := 94) hx hb dX7_dayBehind_94 (lv_at hl 1 rfl) ?_
                refine zmul (pc := 96) hx hb dX7_dayBehind_96 ?_
                refine zadd (pc := 97) hx hb dX7_dayBehind_97 ?_
                exact zretI (pc := 98) hx hb hlocks hr hw (Nat.zero_le _) (Nat.zero_le _) dX7_dayBehind_98 ⟨by (try dsimp only) <;> (
                                        refine ⟨?_, ⟨hv5, hb5⟩, ho5⟩
                                        rw [hc, show lf = 1 by omega]
                                        by_cases q9 : 0 < days
                                        · first
                                          | (exfalso; omega)
                                          | (rw [if_pos q9, chF_h (by omega) q81]; omega)
                                        · first
                                          | (exfalso; omega)
                                          | (rw [if_neg q9, chB_h (by omega) q81]; omega)), rfl, rfl⟩
      exact lp59 _ 1 x54 _ _ (by (first | assumption | omega)) (by omega) (by unfold bhF; rw [if_neg (by omega)]; by_cases q9 : 0 < days; rw [if_pos q9, if_pos q9, show min (day + 500) 73048 = x32 by omega, show x54 = days by omega]; rw [if_neg q9, if_neg q9, show max 0 (day - 500) = x32 by omega, show x54 = -days by omega]) (Nat.lt_succ_self _) hw _ (lv_sub hl [0, 1, 2, 3, 4, 5, 6] rfl)
  · skip
    refine lv_iload_n (pc := 4) hx hb dX7_dayBehind_4 rfl (lv_at hl 1 rfl) ?_
    exact zretI (pc := 5) hx hb hlocks hr hw (Nat.zero_le _) (Nat.zero_le _) dX7_dayBehind_5 ⟨by (try dsimp only) <;> (exact ⟨by unfold bhF; rw [if_pos (by omega)], ⟨hvr, hb0⟩, fun _ _ _ => rfl⟩), rfl, rfl⟩
