set_option maxHeartbeats 4000000 in
set_option maxRecDepth 100000 in
theorem c_X6_toldIn (l : Launch) (Γ : zG) (K : zK) (X : zX) (Rf : zR) (tu : Nat) (year : Int) (pa : Nat) (hk : K tu = (1, 5)) (hr2 : Rf tu 2 = some pa) (hkp : K pa = (1, 2)) (hT : okT (X tu)) (hP : okP (X pa)) (h1 : 1900 ≤ year ∧ year ≤ 2099) : Ct l yX6_toldIn cX6_toldIn 5 (some .int) 3 0 0 Γ [.ref tu, .int (iI year)] K X Rf (pI (zp0 K X Rf (fun r : Int => r = tTold (X tu) (X pa) year))) := by
  refine Ct.of (by decide +kernel) (Nat.le_of_ble_eq_true rfl) ?_
  intro p e s m below meth c ls hx hb hr hml hown hG hlocks hname hw hl
  have hl : lv_has ls 5 [(0, .ref tu), (1, .int (iI year))] := hl
  refine lv_iload_n (pc := 0) hx hb dX6_toldIn_0 rfl (lv_at hl 1 rfl) ?_
  refine lv_aload_n (pc := 1) hx hb dX6_toldIn_1 rfl (lv_at hl 0 rfl) ?_
  refine zgetI (pc := 2) hx hb hG hown hw hk (T := TX6) rfl 0 (by decide) rfl wf_X6_9 rfl dX6_toldIn_2 ?_
  refine zicmp_lt (pc := 5) hx hb 16 (by omega) (by omega) dX6_toldIn_5 (by decide) (fun c5 => ?_) (fun c5 => ?_)
  · skip
    refine ziconst (pc := 16) (n := (-1)) hx hb dX6_toldIn_16 ?_
    exact zretI (pc := 17) hx hb hlocks hr hw (Nat.zero_le _) (Nat.zero_le _) dX6_toldIn_17 ⟨by (try dsimp only) <;> (unfold tTold; rw [if_pos (by omega)]), rfl, rfl, rfl⟩
  · skip
    refine lv_iload_n (pc := 8) hx hb dX6_toldIn_8 rfl (lv_at hl 1 rfl) ?_
    refine lv_aload_n (pc := 9) hx hb dX6_toldIn_9 rfl (lv_at hl 0 rfl) ?_
    refine zgetI (pc := 10) hx hb hG hown hw hk (T := TX6) rfl 1 (by decide) rfl wf_X6_15 rfl dX6_toldIn_10 ?_
    refine zicmp_le (pc := 13) hx hb 18 (by omega) (by omega) dX6_toldIn_13 (by decide) (fun c13 => ?_) (fun c13 => ?_)
    · skip
      refine lv_iload_n (pc := 18) hx hb dX6_toldIn_18 rfl (lv_at hl 1 rfl) ?_
      refine zkIp (pc := 19) (zrS (As := [.int (iI year)]) hx hb hml hown hG hw (c_X1_januaryOf l Γ K X Rf year  ) cb_X1_januaryOf wl_X6_31 rfl ⟨Nat.le_of_ble_eq_true rfl, Nat.le_of_ble_eq_true rfl⟩ hl.1 rfl (Nat.le_of_ble_eq_true rfl) dX6_toldIn_19 ⟨Nat.zero_le _, Nat.zero_le _⟩) hw (fun r19 H locs hp19 hw => ?_)
      subst hp19
      refine ztop (fun x22 ex22 => ?_)
      refine lv_istore_n (pc := 22) (lv' := [(2, .int (iI x22)), (0, .ref tu), (1, .int (iI year))]) hx hb dX6_toldIn_22 rfl hl (by decide) rfl (fun ls hl => ?_)
      refine lv_iload_n (pc := 23) hx hb dX6_toldIn_23 rfl (lv_at hl 0 rfl) ?_
      refine lv_istore_n (pc := 24) (lv' := [(3, .int (iI x22)), (2, .int (iI x22)), (0, .ref tu), (1, .int (iI year))]) hx hb dX6_toldIn_24 rfl hl (by decide) rfl (fun ls hl => ?_)
      have lp25 : ∀ (n25 : Nat) (ix : Int) (H : Heap) (locs : List Loc), (hi : x22 ≤ ix ∧ ix ≤ x22 + 12) → (hn : nxT (X pa) 0 (x22 + 12 - ix).toNat ix = nxT (X pa) 0 12 (12 * (year - 1900))) → ((x22 + 12 - ix).toNat < n25) → Wd Γ (zA K s.heap.size) K X Rf s H locs → ∀ ls : Array Slot, lv_has ls 5 [(3, .int (iI ix)), (2, .int (iI x22)), (0, .ref tu), (1, .int (iI year))] → W p l e (rmL 3 0 0) s m ([.ref tu, .int (iI year)] : List Value).toArray below meth c H locs 0 0 (MQ below (zQ Γ K s.heap.size (pI (zp0 K X Rf (fun r : Int => r = tTold (X tu) (X pa) year)))) ([.ref tu, .int (iI year)] : List Value).toArray s 0 0 (zA K s.heap.size)) (F0 m 25 ls []) := by
        intro n25
        induction n25 with
        | zero => intro ix H locs hi hn hm25; exact absurd hm25 (Nat.not_lt_zero _)
        | succ n25 ih25 =>
          intro ix H locs hi hn hm25 hw ls hl
          refine lv_iload_n (pc := 25) hx hb dX6_toldIn_25 rfl (lv_at hl 0 rfl) ?_
          refine lv_iload_n (pc := 26) hx hb dX6_toldIn_26 rfl (lv_at hl 1 rfl) ?_
          refine zbipush (pc := 27) (n := 12) hx hb dX6_toldIn_27 rfl ?_
          refine zadd (pc := 29) hx hb dX6_toldIn_29 ?_
          refine zicmp_ge (pc := 30) hx hb 66 (by omega) (by omega) dX6_toldIn_30 (by decide) (fun c30 => ?_) (fun c30 => ?_)
          · skip
            refine ziconst (pc := 66) (n := (-1)) hx hb dX6_toldIn_66 ?_
            exact zretI (pc := 67) hx hb hlocks hr hw (Nat.zero_le _) (Nat.zero_le _) dX6_toldIn_67 ⟨by (try dsimp only) <;> (unfold tTold; rw [if_neg (by omega), ← hn, nxT_end (by omega), if_pos (by omega)]), rfl, rfl, rfl⟩
          · skip
            refine lv_aload_n (pc := 33) hx hb dX6_toldIn_33 rfl (lv_at hl 2 rfl) ?_
            refine zgetR (pc := 34) hx hb hG hown hw hk (T := TX6) rfl 2 (by decide) rfl wf_X6_18 rfl hr2 dX6_toldIn_34 ?_
            refine lv_iload_n (pc := 37) hx hb dX6_toldIn_37 rfl (lv_at hl 0 rfl) ?_
            refine zkIp (pc := 38) (zrV (As := [.int (iI ix)]) hx hb hml hown hG hw (c_X3_toldIn l Γ K X Rf pa ix  (by (first | assumption | omega)) (by (first | assumption | omega)) (by (first | assumption | omega))) (T := TX3) hkp rfl cb_X3_toldIn wl_X6_37 rfl ⟨Nat.le_of_ble_eq_true rfl, Nat.le_of_ble_eq_true rfl⟩ hl.1 rfl (Nat.le_of_ble_eq_true rfl) dX6_toldIn_38 ⟨Nat.zero_le _, Nat.zero_le _⟩) hw (fun r38 H locs hp38 hw => ?_)
            subst hp38
            have hp38f0 := told_rng (X pa) ix
            refine ztop (fun x41 ex41 => ?_)
            refine lv_istore (pc := 41) (lv' := [(4, .int (iI x41)), (3, .int (iI ix)), (2, .int (iI x22)), (0, .ref tu), (1, .int (iI year))]) hx hb dX6_toldIn_41 hl (by decide) rfl (fun ls hl => ?_)
            refine lv_iload (pc := 43) hx hb dX6_toldIn_43 (lv_at hl 0 rfl) ?_
            refine zif_lt (pc := 45) hx hb 60 (by omega) dX6_toldIn_45 (by decide) (fun c45 => ?_) (fun c45 => ?_)
            · skip
              refine ziinc (pc := 60) (lv' := [(3, .int (iI (ix + 1))), (4, .int (iI x41)), (2, .int (iI x22)), (0, .ref tu), (1, .int (iI year))]) hx hb 1 dX6_toldIn_60 hl rfl (by decide) rfl (fun ls hl => ?_)
              obtain ⟨x60, ex60⟩ : ∃ zz : Int, zz = (ix + 1) := ⟨_, rfl⟩
              rw [← ex60] at hl
              refine lv_goto (pc := 63) (tgt := 25) hx hb dX6_toldIn_63 (by decide) ?_
              exact ih25 x60 _ _ (by (first | assumption | omega)) (by rw [ex60, ← nxT_step (by omega) (by omega)]; exact hn) (by omega) hw _ (lv_sub hl [0, 2, 3, 4] rfl)
            · skip
              refine zsipush (pc := 48) (n := 1440) hx hb dX6_toldIn_48 rfl ?_
              refine lv_iload (pc := 51) hx hb dX6_toldIn_51 (lv_at hl 0 rfl) ?_
              refine zmul (pc := 53) hx hb dX6_toldIn_53 ?_
              refine lv_aload_n (pc := 54) hx hb dX6_toldIn_54 rfl (lv_at hl 3 rfl) ?_
              refine zgetI (pc := 55) hx hb hG hown hw hk (T := TX6) rfl 3 (by decide) rfl wf_X6_22 rfl dX6_toldIn_55 ?_
              refine zadd (pc := 58) hx hb dX6_toldIn_58 ?_
              exact zretI (pc := 59) hx hb hlocks hr hw (Nat.zero_le _) (Nat.zero_le _) dX6_toldIn_59 ⟨by (try dsimp only) <;> (unfold tTold; rw [if_neg (by omega), ← hn, nxT_hit (by omega) (by omega), if_neg (by omega)]; omega), rfl, rfl, rfl⟩
      exact lp25 _ x22 _ _ (by (first | assumption | omega)) (by rw [show (x22 + 12 - x22).toNat = 12 by omega, ex22]) (Nat.lt_succ_self _) hw _ (lv_sub hl [0, 1, 2, 3] rfl)
    · skip
      refine ziconst (pc := 16) (n := (-1)) hx hb dX6_toldIn_16 ?_
      exact zretI (pc := 17) hx hb hlocks hr hw (Nat.zero_le _) (Nat.zero_le _) dX6_toldIn_17 ⟨by (try dsimp only) <;> (unfold tTold; rw [if_pos (by omega)]), rfl, rfl, rfl⟩
set_option maxHeartbeats 4000000 in
set_option maxRecDepth 100000 in
theorem c_X6_momentOfTold (l : Launch) (Γ : zG) (K : zK) (X : zX) (Rf : zR) (tu : Nat) (td : Int) (base : Int) (sv : Int)  (hk : K tu = (1, 5)) (hT : okT (X tu)) : Ct l yX6_momentOfTold cX6_momentOfTold 5 (some .int) 0 0 0 Γ [.ref tu, .int (iI td), .int (iI base), .int (iI sv)] K X Rf (pI (zp0 K X Rf (fun r : Int => r = tMom (X tu) td base sv))) := by
  refine Ct.of (by decide +kernel) (Nat.le_of_ble_eq_true rfl) ?_
  intro p e s m below meth c ls hx hb hr hml hown hG hlocks hname hw hl
  have hl : lv_has ls 5 [(0, .ref tu), (1, .int (iI td)), (2, .int (iI base)), (3, .int (iI sv))] := hl
  refine lv_iload_n (pc := 0) hx hb dX6_momentOfTold_0 rfl (lv_at hl 1 rfl) ?_
  refine lv_istore (pc := 1) (lv' := [(4, .int (iI td)), (0, .ref tu), (1, .int (iI td)), (2, .int (iI base)), (3, .int (iI sv))]) hx hb dX6_momentOfTold_1 hl (by decide) rfl (fun ls hl => ?_)
  refine lv_aload_n (pc := 3) hx hb dX6_momentOfTold_3 rfl (lv_at hl 1 rfl) ?_
  refine zgetI (pc := 4) hx hb hG hown hw hk (T := TX6) rfl 4 (by decide) rfl wf_X6_25 rfl dX6_momentOfTold_4 ?_
  refine ziconst (pc := 7) (n := 2) hx hb dX6_momentOfTold_7 ?_
  refine zicmp_eq (pc := 8) hx hb 17 (by omega) (by omega) dX6_momentOfTold_8 (by decide) (fun c8 => ?_) (fun c8 => ?_)
  · skip
    refine lv_aload_n (pc := 17) hx hb dX6_momentOfTold_17 rfl (lv_at hl 1 rfl) ?_
    refine zgetI (pc := 18) hx hb hG hown hw hk (T := TX6) rfl 4 (by decide) rfl wf_X6_25 rfl dX6_momentOfTold_18 ?_
    refine zif_ne (pc := 21) hx hb 30 (by omega) dX6_momentOfTold_21 (by decide) (fun c21 => ?_) (fun c21 => ?_)
    · skip
      refine lv_iload (pc := 30) hx hb dX6_momentOfTold_30 (lv_at hl 0 rfl) ?_
      exact zretI (pc := 32) hx hb hlocks hr hw (Nat.zero_le _) (Nat.zero_le _) dX6_momentOfTold_32 ⟨by (try dsimp only) <;> (unfold tMom; (repeat' split) <;> omega), rfl, rfl, rfl⟩
    · skip
      refine lv_iload (pc := 24) hx hb dX6_momentOfTold_24 (lv_at hl 0 rfl) ?_
      refine lv_iload_n (pc := 26) hx hb dX6_momentOfTold_26 rfl (lv_at hl 4 rfl) ?_
      refine zsub (pc := 27) hx hb dX6_momentOfTold_27 ?_
      refine ztop (fun x28 ex28 => ?_)
      refine lv_istore (pc := 28) (lv' := [(4, .int (iI x28)), (0, .ref tu), (1, .int (iI td)), (2, .int (iI base)), (3, .int (iI sv))]) hx hb dX6_momentOfTold_28 hl (by decide) rfl (fun ls hl => ?_)
      refine lv_iload (pc := 30) hx hb dX6_momentOfTold_30 (lv_at hl 0 rfl) ?_
      exact zretI (pc := 32) hx hb hlocks hr hw (Nat.zero_le _) (Nat.zero_le _) dX6_momentOfTold_32 ⟨by (try dsimp only) <;> (unfold tMom; (repeat' split) <;> omega), rfl, rfl, rfl⟩
  · skip
    refine lv_iload (pc := 11) hx hb dX6_momentOfTold_11 (lv_at hl 0 rfl) ?_
    refine lv_iload_n (pc := 13) hx hb dX6_momentOfTold_13 rfl (lv_at hl 3 rfl) ?_
    refine zsub (pc := 14) hx hb dX6_momentOfTold_14 ?_
    refine ztop (fun x15 ex15 => ?_)
    refine lv_istore (pc := 15) (lv' := [(4, .int (iI x15)), (0, .ref tu), (1, .int (iI td)), (2, .int (iI base)), (3, .int (iI sv))]) hx hb dX6_momentOfTold_15 hl (by decide) rfl (fun ls hl => ?_)
    refine lv_aload_n (pc := 17) hx hb dX6_momentOfTold_17 rfl (lv_at hl 1 rfl) ?_
    refine zgetI (pc := 18) hx hb hG hown hw hk (T := TX6) rfl 4 (by decide) rfl wf_X6_25 rfl dX6_momentOfTold_18 ?_
    refine zif_ne (pc := 21) hx hb 30 (by omega) dX6_momentOfTold_21 (by decide) (fun c21 => ?_) (fun c21 => ?_)
    · skip
      refine lv_iload (pc := 30) hx hb dX6_momentOfTold_30 (lv_at hl 0 rfl) ?_
      exact zretI (pc := 32) hx hb hlocks hr hw (Nat.zero_le _) (Nat.zero_le _) dX6_momentOfTold_32 ⟨by (try dsimp only) <;> (unfold tMom; (repeat' split) <;> omega), rfl, rfl, rfl⟩
    · skip
      refine lv_iload (pc := 24) hx hb dX6_momentOfTold_24 (lv_at hl 0 rfl) ?_
      refine lv_iload_n (pc := 26) hx hb dX6_momentOfTold_26 rfl (lv_at hl 4 rfl) ?_
      refine zsub (pc := 27) hx hb dX6_momentOfTold_27 ?_
      refine ztop (fun x28 ex28 => ?_)
      refine lv_istore (pc := 28) (lv' := [(4, .int (iI x28)), (0, .ref tu), (1, .int (iI td)), (2, .int (iI base)), (3, .int (iI sv))]) hx hb dX6_momentOfTold_28 hl (by decide) rfl (fun ls hl => ?_)
      refine lv_iload (pc := 30) hx hb dX6_momentOfTold_30 (lv_at hl 0 rfl) ?_
      exact zretI (pc := 32) hx hb hlocks hr hw (Nat.zero_le _) (Nat.zero_le _) dX6_momentOfTold_32 ⟨by (try dsimp only) <;> (unfold tMom; (repeat' split) <;> omega), rfl, rfl, rfl⟩
set_option maxHeartbeats 4000000 in
set_option maxRecDepth 100000 in
theorem c_X4_hasRoom (l : Launch) (Γ : zG) (K : zK) (X : zX) (Rf : zR) (p0 : Nat) (tu : Nat) (hk : K p0 = (1, 3)) (hr1 : Rf p0 1 = some tu) (hktu : K tu = (9, 6)) (h1 : 0 ≤ X p0 2 ∧ X p0 2 ≤ 6) : Ct l yX4_hasRoom cX4_hasRoom 1 (some .boolean) 0 0 0 Γ [.ref p0] K X Rf (pI (zp0 K X Rf (fun r : Int => r = if X p0 2 < 6 then 1 else 0))) := by
  refine Ct.of (by decide +kernel) (Nat.le_of_ble_eq_true rfl) ?_
  intro p e s m below meth c ls hx hb hr hml hown hG hlocks hname hw hl
  have hl : lv_has ls 1 [(0, .ref p0)] := hl
  refine lv_aload_n (pc := 0) hx hb dX4_hasRoom_0 rfl (lv_at hl 0 rfl) ?_
  refine zgetI (pc := 1) hx hb hG hown hw hk (T := TX4) rfl 2 (by decide) rfl wf_X4_21 rfl dX4_hasRoom_1 ?_
  refine lv_aload_n (pc := 4) hx hb dX4_hasRoom_4 rfl (lv_at hl 0 rfl) ?_
  refine zgetR (pc := 5) hx hb hG hown hw hk (T := TX4) rfl 1 (by decide) rfl wf_X4_17 rfl hr1 dX4_hasRoom_5 ?_
  refine zlen9 (pc := 8) hx hb hw hktu dX4_hasRoom_8 ?_
  refine zicmp_ge (pc := 9) hx hb 16 (by omega) (by omega) dX4_hasRoom_9 (by decide) (fun c9 => ?_) (fun c9 => ?_)
  · skip
    refine ziconst (pc := 16) (n := 0) hx hb dX4_hasRoom_16 ?_
    exact zretZ (pc := 17) hx hb hlocks hr (Or.inl rfl) hw (Nat.zero_le _) (Nat.zero_le _) dX4_hasRoom_17 ⟨by (try dsimp only) <;> ((first | assumption | omega)), rfl, rfl, rfl⟩
  · skip
    refine ziconst (pc := 12) (n := 1) hx hb dX4_hasRoom_12 ?_
    refine lv_goto (pc := 13) (tgt := 17) hx hb dX4_hasRoom_13 (by decide) ?_
    exact zretZ (pc := 17) hx hb hlocks hr (Or.inr rfl) hw (Nat.zero_le _) (Nat.zero_le _) dX4_hasRoom_17 ⟨by (try dsimp only) <;> ((first | assumption | omega)), rfl, rfl, rfl⟩
set_option maxHeartbeats 4000000 in
set_option maxRecDepth 100000 in
theorem c_X4_tellTurns (l : Launch) (Γ : zG) (K : zK) (X : zX) (Rf : zR) (p0 : Nat) (year : Int) (tu : Nat) (to : Nat) (n : Nat) (T : Nat → Nat → Int) (Pt : Nat → Nat → Int) (hk : K p0 = (1, 3)) (hr1 : Rf p0 1 = some tu) (hr3 : Rf p0 3 = some to) (hktu : K tu = (9, 6)) (hkto : K to = (2, 6)) (hTu : turnsOK K X Rf tu n T Pt) (hn : n ≤ 6) (h1 : 1900 ≤ year ∧ year ≤ 2099) : Ct l yX4_tellTurns cX4_tellTurns 4 none 4 0 0 Γ [.ref p0, .int (iI year)] K X Rf (pV (zpv K Rf (fun X' : zX => (∀ k : Nat, k < 6 → X' to k = tvE T Pt n year k) ∧ (∀ a, a ≠ to → X' a = X a)))) := by
  refine Ct.of (by decide +kernel) (Nat.le_of_ble_eq_true rfl) ?_
  intro p e s m below meth c ls hx hb hr hml hown hG hlocks hname hw hl
  have hl : lv_has ls 4 [(0, .ref p0), (1, .int (iI year))] := hl
  refine ziconst (pc := 0) (n := 0) hx hb dX4_tellTurns_0 ?_
  refine lv_istore_n (pc := 1) (lv' := [(2, .int (iI 0)), (0, .ref p0), (1, .int (iI year))]) hx hb dX4_tellTurns_1 rfl hl (by decide) rfl (fun ls hl => ?_)
  have lp2 : ∀ (n2 : Nat) (ix : Int) (XL2 : zX) (H : Heap) (locs : List Loc), (hi : 0 ≤ ix ∧ ix ≤ 6) → (ht : ∀ k : Nat, (k : Int) < ix → XL2 to k = tvE T Pt n year k) → (ho : ∀ a, a ≠ to → XL2 a = X a) → ((6 - ix).toNat < n2) → Wd Γ (zA K s.heap.size) K XL2 Rf s H locs → ∀ ls : Array Slot, lv_has ls 4 [(2, .int (iI ix)), (0, .ref p0), (1, .int (iI year))] → W p l e (rmL 4 0 0) s m ([.ref p0, .int (iI year)] : List Value).toArray below meth c H locs 0 0 (MQ below (zQ Γ K s.heap.size (pV (zpv K Rf (fun X' : zX => (∀ k : Nat, k < 6 → X' to k = tvE T Pt n year k) ∧ (∀ a, a ≠ to → X' a = X a))))) ([.ref p0, .int (iI year)] : List Value).toArray s 0 0 (zA K s.heap.size)) (F0 m 2 ls []) := by
    intro n2
    induction n2 with
    | zero => intro ix XL2 H locs hi ht ho hm2; exact absurd hm2 (Nat.not_lt_zero _)
    | succ n2 ih2 =>
      intro ix XL2 H locs hi ht ho hm2 hw ls hl
      have hTu2 := hTu.mono (X' := XL2) (fun a ha => ho a (by rintro rfl; rcases ha with h | h <;> (rw [hkto] at h; cases h)))
      refine lv_iload_n (pc := 2) hx hb dX4_tellTurns_2 rfl (lv_at hl 0 rfl) ?_
      refine lv_aload_n (pc := 3) hx hb dX4_tellTurns_3 rfl (lv_at hl 1 rfl) ?_
      refine zgetR (pc := 4) hx hb hG hown hw hk (T := TX4) rfl 3 (by decide) rfl wf_X4_24 rfl hr3 dX4_tellTurns_4 ?_
      refine zlen2 (pc := 7) hx hb hw hkto dX4_tellTurns_7 ?_
      refine zicmp_ge (pc := 8) hx hb 52 (by omega) (by omega) dX4_tellTurns_8 (by decide) (fun c8 => ?_) (fun c8 => ?_)
      · skip
        exact zretV (pc := 52) hx hb hlocks hr hw (Nat.zero_le _) (Nat.zero_le _) dX4_tellTurns_52 ⟨by (try dsimp only) <;> (exact ⟨fun k hk => ht k (by omega), ho⟩), rfl, rfl⟩
      · skip
        refine lv_iload_n (pc := 11) hx hb dX4_tellTurns_11 rfl (lv_at hl 0 rfl) ?_
        refine lv_aload_n (pc := 12) hx hb dX4_tellTurns_12 rfl (lv_at hl 1 rfl) ?_
        refine zgetR (pc := 13) hx hb hG hown hw hk (T := TX4) rfl 1 (by decide) rfl wf_X4_17 rfl hr1 dX4_tellTurns_13 ?_
        refine zlen9 (pc := 16) hx hb hw hktu dX4_tellTurns_16 ?_
        refine zicmp_ge (pc := 17) hx hb 52 (by omega) (by omega) dX4_tellTurns_17 (by decide) (fun c17 => ?_) (fun c17 => ?_)
        · skip
          exact zretV (pc := 52) hx hb hlocks hr hw (Nat.zero_le _) (Nat.zero_le _) dX4_tellTurns_52 ⟨by (try dsimp only) <;> (exact ⟨fun k hk => ht k (by omega), ho⟩), rfl, rfl⟩
        · skip
          refine lv_aload_n (pc := 20) hx hb dX4_tellTurns_20 rfl (lv_at hl 1 rfl) ?_
          refine zgetR (pc := 21) hx hb hG hown hw hk (T := TX4) rfl 1 (by decide) rfl wf_X4_17 rfl hr1 dX4_tellTurns_21 ?_
          refine lv_iload_n (pc := 24) hx hb dX4_tellTurns_24 rfl (lv_at hl 0 rfl) ?_
          refine zaaldQ3 (pc := 25) hx hb hw hktu ⟨by omega, by omega⟩ (by omega) dX4_tellTurns_25 (fun hq25 => ?_) (fun q25 hq25 => ?_)
          · skip
            have hno := hTu.no (k := ix.toNat) (by omega) hq25
            refine lv_astore_nN (pc := 26) (lv' := [(3, .null), (2, .int (iI ix)), (0, .ref p0), (1, .int (iI year))]) hx hb dX4_tellTurns_26 rfl hl (by decide) rfl (fun ls hl => ?_)
            refine lv_aload_n (pc := 27) hx hb dX4_tellTurns_27 rfl (lv_at hl 2 rfl) ?_
            refine zgetR (pc := 28) hx hb hG hown hw hk (T := TX4) rfl 3 (by decide) rfl wf_X4_24 rfl hr3 dX4_tellTurns_28 ?_
            refine lv_iload_n (pc := 31) hx hb dX4_tellTurns_31 rfl (lv_at hl 1 rfl) ?_
            refine lv_aload_nN (pc := 32) hx hb dX4_tellTurns_32 rfl (lv_at hl 0 rfl) ?_
            refine lv_ifnonnullN (pc := 33) hx hb dX4_tellTurns_33 ?_
            refine ziconst (pc := 36) (n := (-1)) hx hb dX4_tellTurns_36 ?_
            refine lv_goto (pc := 37) (tgt := 45) hx hb dX4_tellTurns_37 (by decide) ?_
            refine zast (pc := 45) hx hb hw hkto ⟨by omega, by omega⟩ (by omega) dX4_tellTurns_45 (fun H locs hw => ?_)
            obtain ⟨X45, eX45⟩ : ∃ Y : zX, Y = up2 XL2 to ix.toNat (-1) := ⟨_, rfl⟩
            rw [← eX45] at hw
            refine ziinc (pc := 46) (lv' := [(2, .int (iI (ix + 1))), (3, .null), (0, .ref p0), (1, .int (iI year))]) hx hb 1 dX4_tellTurns_46 hl rfl (by decide) rfl (fun ls hl => ?_)
            obtain ⟨x46, ex46⟩ : ∃ zz : Int, zz = (ix + 1) := ⟨_, rfl⟩
            rw [← ex46] at hl
            refine lv_goto (pc := 49) (tgt := 2) hx hb dX4_tellTurns_49 (by decide) ?_
            exact ih2 x46 X45 _ _ (by (first | assumption | omega)) (by 
                                        intro k h
                                        rw [eX45, up2_eq]
                                        split
                                        · next q =>
                                          have e9 : k = ix.toNat := q.2
                                          unfold tvE
                                          first
                                            | (rw [e9, if_neg (by omega)])
                                            | (rw [e9, if_pos hlt]; exact tTold_congr hts hps year)
                                        · next q => exact ht k (by have : ¬ k = ix.toNat := fun z => q ⟨rfl, z⟩; omega)) (by intro a ha; rw [eX45, up2_o ha]; exact ho a ha) (by omega) hw _ (lv_sub hl [0, 2, 3] rfl)
          · skip
            obtain ⟨hlt, hka, pa, hrp, hkp, hoT, hoP, hts, hps⟩ := hTu2.at (k := ix.toNat) (by omega) hq25
            refine lv_astore_n (pc := 26) (lv' := [(3, .ref q25), (2, .int (iI ix)), (0, .ref p0), (1, .int (iI year))]) hx hb dX4_tellTurns_26 rfl hl (by decide) rfl (fun ls hl => ?_)
            refine lv_aload_n (pc := 27) hx hb dX4_tellTurns_27 rfl (lv_at hl 2 rfl) ?_
            refine zgetR (pc := 28) hx hb hG hown hw hk (T := TX4) rfl 3 (by decide) rfl wf_X4_24 rfl hr3 dX4_tellTurns_28 ?_
            refine lv_iload_n (pc := 31) hx hb dX4_tellTurns_31 rfl (lv_at hl 1 rfl) ?_
            refine lv_aload_n (pc := 32) hx hb dX4_tellTurns_32 rfl (lv_at hl 0 rfl) ?_
            refine lv_ifnonnull (pc := 33) (tgt := 40) hx hb dX4_tellTurns_33 (by decide) ?_
            refine lv_aload_n (pc := 40) hx hb dX4_tellTurns_40 rfl (lv_at hl 0 rfl) ?_
            refine lv_iload_n (pc := 41) hx hb dX4_tellTurns_41 rfl (lv_at hl 3 rfl) ?_
            refine zkIp (pc := 42) (zrV (As := [.int (iI year)]) hx hb hml hown hG hw (c_X6_toldIn l Γ K XL2 Rf q25 year pa (by (first | assumption | omega)) (by (first | assumption | omega)) (by (first | assumption | omega)) (by (first | assumption | omega)) (by (first | assumption | omega)) (by (first | assumption | omega))) (T := TX6) hka rfl cb_X6_toldIn wl_X4_49 rfl ⟨Nat.le_of_ble_eq_true rfl, Nat.le_of_ble_eq_true rfl⟩ hl.1 rfl (Nat.le_of_ble_eq_true rfl) dX4_tellTurns_42 ⟨Nat.zero_le _, Nat.zero_le _⟩) hw (fun r42 H locs hp42 hw => ?_)
            subst hp42
            have hp42f0 := tTold_rng (T := XL2 q25) (P := XL2 pa) (by assumption) year
            refine zast (pc := 45) hx hb hw hkto ⟨by omega, by omega⟩ (by omega) dX4_tellTurns_45 (fun H locs hw => ?_)
            obtain ⟨X45, eX45⟩ : ∃ Y : zX, Y = up2 XL2 to ix.toNat (tTold (XL2 q25) (XL2 pa) year) := ⟨_, rfl⟩
            rw [← eX45] at hw
            refine ziinc (pc := 46) (lv' := [(2, .int (iI (ix + 1))), (3, .ref q25), (0, .ref p0), (1, .int (iI year))]) hx hb 1 dX4_tellTurns_46 hl rfl (by decide) rfl (fun ls hl => ?_)
            obtain ⟨x46, ex46⟩ : ∃ zz : Int, zz = (ix + 1) := ⟨_, rfl⟩
            rw [← ex46] at hl
            refine lv_goto (pc := 49) (tgt := 2) hx hb dX4_tellTurns_49 (by decide) ?_
            exact ih2 x46 X45 _ _ (by (first | assumption | omega)) (by 
                                        intro k h
                                        rw [eX45, up2_eq]
                                        split
                                        · next q =>
                                          have e9 : k = ix.toNat := q.2
                                          unfold tvE
                                          first
                                            | (rw [e9, if_neg (by omega)])
                                            | (rw [e9, if_pos hlt]; exact tTold_congr hts hps year)
                                        · next q => exact ht k (by have : ¬ k = ix.toNat := fun z => q ⟨rfl, z⟩; omega)) (by intro a ha; rw [eX45, up2_o ha]; exact ho a ha) (by omega) hw _ (lv_sub hl [0, 2, 3] rfl)
  exact lp2 _ 0 X _ _ (by (first | assumption | omega)) (by intro k h; omega) (by intro a _; rfl) (Nat.lt_succ_self _) hw _ (lv_sub hl [0, 1, 2] rfl)
set_option maxHeartbeats 4000000 in
set_option maxRecDepth 100000 in
theorem c_X4_takeEarliest (l : Launch) (Γ : zG) (K : zK) (X : zX) (Rf : zR) (p0 : Nat) (to : Nat) (hk : K p0 = (1, 3)) (hr3 : Rf p0 3 = some to) (hkto : K to = (2, 6)) (hb9 : ∀ k : Nat, k < 6 → -1 ≤ X to k ∧ X to k ≤ 105190559) : Ct l yX4_takeEarliest cX4_takeEarliest 4 (some .int) 0 0 0 Γ [.ref p0] K X Rf (pI (zpx K Rf (fun (r : Int) (X' : zX) => (r = -1 ∧ X' = X ∧ ∀ k : Nat, k < 6 → X to k < 0) ∨ ((0 ≤ r ∧ r < 6) ∧ 0 ≤ X to r.toNat ∧ (∀ k : Nat, k < 6 → 0 ≤ X to k → X to r.toNat ≤ X to k ∧ (k < r.toNat → X to r.toNat < X to k)) ∧ X' = up2 X to r.toNat (-1))))) := by
  refine Ct.of (by decide +kernel) (Nat.le_of_ble_eq_true rfl) ?_
  intro p e s m below meth c ls hx hb hr hml hown hG hlocks hname hw hl
  have hl : lv_has ls 4 [(0, .ref p0)] := hl
  refine ziconst (pc := 0) (n := (-1)) hx hb dX4_takeEarliest_0 ?_
  refine lv_istore_n (pc := 1) (lv' := [(1, .int (iI (-1))), (0, .ref p0)]) hx hb dX4_takeEarliest_1 rfl hl (by decide) rfl (fun ls hl => ?_)
  refine zldc (pc := 2) (n := 105190560) hx hb hown hG wk_X4_66 dX4_takeEarliest_2 ?_
  refine lv_istore_n (pc := 4) (lv' := [(2, .int (iI 105190560)), (1, .int (iI (-1))), (0, .ref p0)]) hx hb dX4_takeEarliest_4 rfl hl (by decide) rfl (fun ls hl => ?_)
  refine ziconst (pc := 5) (n := 0) hx hb dX4_takeEarliest_5 ?_
  refine lv_istore_n (pc := 6) (lv' := [(3, .int (iI 0)), (2, .int (iI 105190560)), (1, .int (iI (-1))), (0, .ref p0)]) hx hb dX4_takeEarliest_6 rfl hl (by decide) rfl (fun ls hl => ?_)
  have lp7 : ∀ (n7 : Nat) (ix : Int) (lst : Int) (fd : Int) (H : Heap) (locs : List Loc), (hi : 0 ≤ ix ∧ ix ≤ 6) → (hlb : 0 ≤ lst ∧ lst ≤ 105190560) → (hf : (fd = -1 ∧ lst = 105190560 ∧ ∀ k : Nat, (k : Int) < ix → X to k < 0) ∨ ((0 ≤ fd ∧ fd < ix) ∧ lst = X to fd.toNat ∧ 0 ≤ lst ∧ ∀ k : Nat, (k : Int) < ix → 0 ≤ X to k → lst ≤ X to k ∧ ((k : Int) < fd → lst < X to k))) → ((6 - ix).toNat < n7) → Wd Γ (zA K s.heap.size) K X Rf s H locs → ∀ ls : Array Slot, lv_has ls 4 [(3, .int (iI ix)), (2, .int (iI lst)), (1, .int (iI fd)), (0, .ref p0)] → W p l e (rmL 0 0 0) s m ([.ref p0] : List Value).toArray below meth c H locs 0 0 (MQ below (zQ Γ K s.heap.size (pI (zpx K Rf (fun (r : Int) (X' : zX) => (r = -1 ∧ X' = X ∧ ∀ k : Nat, k < 6 → X to k < 0) ∨ ((0 ≤ r ∧ r < 6) ∧ 0 ≤ X to r.toNat ∧ (∀ k : Nat, k < 6 → 0 ≤ X to k → X to r.toNat ≤ X to k ∧ (k < r.toNat → X to r.toNat < X to k)) ∧ X' = up2 X to r.toNat (-1)))))) ([.ref p0] : List Value).toArray s 0 0 (zA K s.heap.size)) (F0 m 7 ls []) := by
    intro n7
    induction n7 with
    | zero => intro ix lst fd H locs hi hlb hf hm7; exact absurd hm7 (Nat.not_lt_zero _)
    | succ n7 ih7 =>
      intro ix lst fd H locs hi hlb hf hm7 hw ls hl
      have hbx : ix < 6 → -1 ≤ X to ix.toNat ∧ X to ix.toNat ≤ 105190559 := fun q => hb9 _ (by omega)
      refine lv_iload_n (pc := 7) hx hb dX4_takeEarliest_7 rfl (lv_at hl 0 rfl) ?_
      refine lv_aload_n (pc := 8) hx hb dX4_takeEarliest_8 rfl (lv_at hl 3 rfl) ?_
      refine zgetR (pc := 9) hx hb hG hown hw hk (T := TX4) rfl 3 (by decide) rfl wf_X4_24 rfl hr3 dX4_takeEarliest_9 ?_
      refine zlen2 (pc := 12) hx hb hw hkto dX4_takeEarliest_12 ?_
      refine zicmp_ge (pc := 13) hx hb 50 (by omega) (by omega) dX4_takeEarliest_13 (by decide) (fun c13 => ?_) (fun c13 => ?_)
      · skip
        refine lv_iload_n (pc := 50) hx hb dX4_takeEarliest_50 rfl (lv_at hl 2 rfl) ?_
        refine zif_lt (pc := 51) hx hb 70 (by omega) dX4_takeEarliest_51 (by decide) (fun c51 => ?_) (fun c51 => ?_)
        · skip
          refine lv_iload_n (pc := 70) hx hb dX4_takeEarliest_70 rfl (lv_at hl 2 rfl) ?_
          exact zretI (pc := 71) hx hb hlocks hr hw (Nat.zero_le _) (Nat.zero_le _) dX4_takeEarliest_71 ⟨by (try dsimp only) <;> (first
        | (left
           rcases hf with ⟨f1, f2, g⟩ | ⟨g1, g2, g3, g4⟩
           · exact ⟨f1, rfl, fun k hk => g k (by omega)⟩
           · omega)
        | (right
           rcases hf with ⟨f1, f2, g⟩ | ⟨g1, g2, g3, g4⟩
           · omega
           · refine ⟨⟨by omega, by omega⟩, by omega, fun k hk h0 => ?_, eX69⟩
             have := g4 k (by omega) h0
             omega)), rfl, rfl⟩
        · skip
          refine lv_iload_n (pc := 54) hx hb dX4_takeEarliest_54 rfl (lv_at hl 2 rfl) ?_
          refine lv_aload_n (pc := 55) hx hb dX4_takeEarliest_55 rfl (lv_at hl 3 rfl) ?_
          refine zgetR (pc := 56) hx hb hG hown hw hk (T := TX4) rfl 3 (by decide) rfl wf_X4_24 rfl hr3 dX4_takeEarliest_56 ?_
          refine zlen2 (pc := 59) hx hb hw hkto dX4_takeEarliest_59 ?_
          refine zicmp_ge (pc := 60) hx hb 70 (by omega) (by omega) dX4_takeEarliest_60 (by decide) (fun c60 => ?_) (fun c60 => ?_)
          · skip
            exfalso; omega
          · skip
            refine lv_aload_n (pc := 63) hx hb dX4_takeEarliest_63 rfl (lv_at hl 3 rfl) ?_
            refine zgetR (pc := 64) hx hb hG hown hw hk (T := TX4) rfl 3 (by decide) rfl wf_X4_24 rfl hr3 dX4_takeEarliest_64 ?_
            refine lv_iload_n (pc := 67) hx hb dX4_takeEarliest_67 rfl (lv_at hl 2 rfl) ?_
            refine ziconst (pc := 68) (n := (-1)) hx hb dX4_takeEarliest_68 ?_
            refine zast (pc := 69) hx hb hw hkto ⟨by omega, by omega⟩ (by omega) dX4_takeEarliest_69 (fun H locs hw => ?_)
            obtain ⟨X69, eX69⟩ : ∃ Y : zX, Y = up2 X to fd.toNat (-1) := ⟨_, rfl⟩
            rw [← eX69] at hw
            refine lv_iload_n (pc := 70) hx hb dX4_takeEarliest_70 rfl (lv_at hl 2 rfl) ?_
            exact zretI (pc := 71) hx hb hlocks hr hw (Nat.zero_le _) (Nat.zero_le _) dX4_takeEarliest_71 ⟨by (try dsimp only) <;> (first
        | (left
           rcases hf with ⟨f1, f2, g⟩ | ⟨g1, g2, g3, g4⟩
           · exact ⟨f1, rfl, fun k hk => g k (by omega)⟩
           · omega)
        | (right
           rcases hf with ⟨f1, f2, g⟩ | ⟨g1, g2, g3, g4⟩
           · omega
           · refine ⟨⟨by omega, by omega⟩, by omega, fun k hk h0 => ?_, eX69⟩
             have := g4 k (by omega) h0
             omega)), rfl, rfl⟩
      · skip
        refine lv_aload_n (pc := 16) hx hb dX4_takeEarliest_16 rfl (lv_at hl 3 rfl) ?_
        refine zgetR (pc := 17) hx hb hG hown hw hk (T := TX4) rfl 3 (by decide) rfl wf_X4_24 rfl hr3 dX4_takeEarliest_17 ?_
        refine lv_iload_n (pc := 20) hx hb dX4_takeEarliest_20 rfl (lv_at hl 0 rfl) ?_
        refine zald (pc := 21) hx hb hw hkto ⟨by omega, by omega⟩ (by omega) dX4_takeEarliest_21 ?_
        refine zif_lt (pc := 22) hx hb 44 (by omega) dX4_takeEarliest_22 (by decide) (fun c22 => ?_) (fun c22 => ?_)
        · skip
          refine ziinc (pc := 44) (lv' := [(3, .int (iI (ix + 1))), (2, .int (iI lst)), (1, .int (iI fd)), (0, .ref p0)]) hx hb 0 dX4_takeEarliest_44 hl rfl (by decide) rfl (fun ls hl => ?_)
          obtain ⟨x44, ex44⟩ : ∃ zz : Int, zz = (ix + 1) := ⟨_, rfl⟩
          rw [← ex44] at hl
          refine lv_goto (pc := 47) (tgt := 7) hx hb dX4_takeEarliest_47 (by decide) ?_
          exact ih7 x44 lst fd _ _ (by (first | assumption | omega)) (by (first | assumption | omega)) (by first
        | (right
           refine ⟨⟨by omega, by omega⟩, by omega, by omega, fun k h h0 => ?_⟩
           by_cases q : (k : Int) = ix
           · have e9 : k = ix.toNat := by omega
             subst e9; omega
           · rcases hf with ⟨_, _, g⟩ | ⟨g1, g2, g3, g4⟩
             · have := g k (by omega); omega
             · have := g4 k (by omega) h0; omega)
        | (rcases hf with ⟨f1, f2, g⟩ | ⟨g1, g2, g3, g4⟩
           · left
             refine ⟨f1, f2, fun k h => ?_⟩
             by_cases q : (k : Int) = ix
             · have e9 : k = ix.toNat := by omega
               subst e9; omega
             · exact g k (by omega)
           · right
             refine ⟨⟨by omega, by omega⟩, g2, g3, fun k h h0 => ?_⟩
             by_cases q : (k : Int) = ix
             · have e9 : k = ix.toNat := by omega
               subst e9; omega
             · exact g4 k (by omega) h0)) (by omega) hw _ (lv_sub hl [0, 1, 2, 3] rfl)
        · skip
          refine lv_aload_n (pc := 25) hx hb dX4_takeEarliest_25 rfl (lv_at hl 3 rfl) ?_
          refine zgetR (pc := 26) hx hb hG hown hw hk (T := TX4) rfl 3 (by decide) rfl wf_X4_24 rfl hr3 dX4_takeEarliest_26 ?_
          refine lv_iload_n (pc := 29) hx hb dX4_takeEarliest_29 rfl (lv_at hl 0 rfl) ?_
          refine zald (pc := 30) hx hb hw hkto ⟨by omega, by omega⟩ (by omega) dX4_takeEarliest_30 ?_
          refine lv_iload_n (pc := 31) hx hb dX4_takeEarliest_31 rfl (lv_at hl 1 rfl) ?_
          refine zicmp_ge (pc := 32) hx hb 44 (by omega) (by omega) dX4_takeEarliest_32 (by decide) (fun c32 => ?_) (fun c32 => ?_)
          · skip
            refine ziinc (pc := 44) (lv' := [(3, .int (iI (ix + 1))), (2, .int (iI lst)), (1, .int (iI fd)), (0, .ref p0)]) hx hb 0 dX4_takeEarliest_44 hl rfl (by decide) rfl (fun ls hl => ?_)
            obtain ⟨x44, ex44⟩ : ∃ zz : Int, zz = (ix + 1) := ⟨_, rfl⟩
            rw [← ex44] at hl
            refine lv_goto (pc := 47) (tgt := 7) hx hb dX4_takeEarliest_47 (by decide) ?_
            exact ih7 x44 lst fd _ _ (by (first | assumption | omega)) (by (first | assumption | omega)) (by first
        | (right
           refine ⟨⟨by omega, by omega⟩, by omega, by omega, fun k h h0 => ?_⟩
           by_cases q : (k : Int) = ix
           · have e9 : k = ix.toNat := by omega
             subst e9; omega
           · rcases hf with ⟨_, _, g⟩ | ⟨g1, g2, g3, g4⟩
             · have := g k (by omega); omega
             · have := g4 k (by omega) h0; omega)
        | (rcases hf with ⟨f1, f2, g⟩ | ⟨g1, g2, g3, g4⟩
           · left
             refine ⟨f1, f2, fun k h => ?_⟩
             by_cases q : (k : Int) = ix
             · have e9 : k = ix.toNat := by omega
               subst e9; omega
             · exact g k (by omega)
           · right
             refine ⟨⟨by omega, by omega⟩, g2, g3, fun k h h0 => ?_⟩
             by_cases q : (k : Int) = ix
             · have e9 : k = ix.toNat := by omega
               subst e9; omega
             · exact g4 k (by omega) h0)) (by omega) hw _ (lv_sub hl [0, 1, 2, 3] rfl)
          · skip
            refine lv_iload_n (pc := 35) hx hb dX4_takeEarliest_35 rfl (lv_at hl 0 rfl) ?_
            refine lv_istore_n (pc := 36) (lv' := [(1, .int (iI ix)), (3, .int (iI ix)), (2, .int (iI lst)), (0, .ref p0)]) hx hb dX4_takeEarliest_36 rfl hl (by decide) rfl (fun ls hl => ?_)
            refine lv_aload_n (pc := 37) hx hb dX4_takeEarliest_37 rfl (lv_at hl 3 rfl) ?_
            refine zgetR (pc := 38) hx hb hG hown hw hk (T := TX4) rfl 3 (by decide) rfl wf_X4_24 rfl hr3 dX4_takeEarliest_38 ?_
            refine lv_iload_n (pc := 41) hx hb dX4_takeEarliest_41 rfl (lv_at hl 1 rfl) ?_
            refine zald (pc := 42) hx hb hw hkto ⟨by omega, by omega⟩ (by omega) dX4_takeEarliest_42 ?_
            refine ztop (fun x43 ex43 => ?_)
            refine lv_istore_n (pc := 43) (lv' := [(2, .int (iI x43)), (1, .int (iI ix)), (3, .int (iI ix)), (0, .ref p0)]) hx hb dX4_takeEarliest_43 rfl hl (by decide) rfl (fun ls hl => ?_)
            refine ziinc (pc := 44) (lv' := [(3, .int (iI (ix + 1))), (2, .int (iI x43)), (1, .int (iI ix)), (0, .ref p0)]) hx hb 2 dX4_takeEarliest_44 hl rfl (by decide) rfl (fun ls hl => ?_)
            obtain ⟨x44, ex44⟩ : ∃ zz : Int, zz = (ix + 1) := ⟨_, rfl⟩
            rw [← ex44] at hl
            refine lv_goto (pc := 47) (tgt := 7) hx hb dX4_takeEarliest_47 (by decide) ?_
            exact ih7 x44 x43 ix _ _ (by (first | assumption | omega)) (by (first | assumption | omega)) (by first
        | (right
           refine ⟨⟨by omega, by omega⟩, by omega, by omega, fun k h h0 => ?_⟩
           by_cases q : (k : Int) = ix
           · have e9 : k = ix.toNat := by omega
             subst e9; omega
           · rcases hf with ⟨_, _, g⟩ | ⟨g1, g2, g3, g4⟩
             · have := g k (by omega); omega
             · have := g4 k (by omega) h0; omega)
        | (rcases hf with ⟨f1, f2, g⟩ | ⟨g1, g2, g3, g4⟩
           · left
             refine ⟨f1, f2, fun k h => ?_⟩
             by_cases q : (k : Int) = ix
             · have e9 : k = ix.toNat := by omega
               subst e9; omega
             · exact g k (by omega)
           · right
             refine ⟨⟨by omega, by omega⟩, g2, g3, fun k h h0 => ?_⟩
             by_cases q : (k : Int) = ix
             · have e9 : k = ix.toNat := by omega
               subst e9; omega
             · exact g4 k (by omega) h0)) (by omega) hw _ (lv_sub hl [0, 1, 2, 3] rfl)
  exact lp7 _ 0 105190560 (-1) _ _ (by (first | assumption | omega)) (by (first | assumption | omega)) (by left; exact ⟨rfl, rfl, fun k h => by omega⟩) (Nat.lt_succ_self _) hw _ (lv_sub hl [0, 1, 2, 3] rfl)
set_option maxHeartbeats 4000000 in
set_option maxRecDepth 100000 in
theorem c_X4_addPiece (l : Launch) (Γ : zG) (K : zK) (X : zX) (Rf : zR) (p0 : Nat) (moment : Int) (saving : Int) (be : Nat) (sa : Nat) (hk : K p0 = (1, 3)) (hr4 : Rf p0 4 = some be) (hr5 : Rf p0 5 = some sa) (hkbe : K be = (2, 1201)) (hksa : K sa = (2, 1201)) (h1 : fit moment ∧ fit saving) (h2 : 0 ≤ X p0 6 ∧ X p0 6 ≤ 1200) (h3 : 0 < X p0 6 → 0 ≤ X be (X p0 6 - 1).toNat ∧ X be (X p0 6 - 1).toNat ≤ 105190559) : Ct l yX4_addPiece cX4_addPiece 7 none 2 0 0 Γ [.ref p0, .int (iI moment), .int (iI saving)] K X Rf (pV (zpv K Rf (fun X' : zX => X' = apX X p0 be sa moment saving))) := by
  refine Ct.of (by decide +kernel) (Nat.le_of_ble_eq_true rfl) ?_
  intro p e s m below meth c ls hx hb hr hml hown hG hlocks hname hw hl
  have hl : lv_has ls 7 [(0, .ref p0), (1, .int (iI moment)), (2, .int (iI saving))] := hl
  refine lv_iload_n (pc := 0) hx hb dX4_addPiece_0 rfl (lv_at hl 1 rfl) ?_
  refine zldc (pc := 1) (n := 105190559) hx hb hown hG wk_X4_67 dX4_addPiece_1 ?_
  refine zicmp_le (pc := 3) hx hb 7 (by omega) (by omega) dX4_addPiece_3 (by decide) (fun c3 => ?_) (fun c3 => ?_)
  · skip
    refine lv_iload_n (pc := 7) hx hb dX4_addPiece_7 rfl (lv_at hl 1 rfl) ?_
    refine ziconst (pc := 8) (n := 0) hx hb dX4_addPiece_8 ?_
    refine zmax (pc := 9) hx hb (hml.trans hl.1.symm) hown hG wl_X4_57 w1_zmx wi_javalangMath w2_zmx (Nat.le_of_ble_eq_true rfl) (Nat.le_of_ble_eq_true rfl) (Nat.zero_le _) (Nat.zero_le _) ⟨by omega, by omega⟩ dX4_addPiece_9 ?_
    refine ztop (fun x12 ex12 => ?_)
    refine lv_istore_n (pc := 12) (lv' := [(3, .int (iI x12)), (0, .ref p0), (1, .int (iI moment)), (2, .int (iI saving))]) hx hb dX4_addPiece_12 rfl hl (by decide) rfl (fun ls hl => ?_)
    refine lv_aload_n (pc := 13) hx hb dX4_addPiece_13 rfl (lv_at hl 1 rfl) ?_
    refine zgetI (pc := 14) hx hb hG hown hw hk (T := TX4) rfl 6 (by decide) rfl wf_X4_34 rfl dX4_addPiece_14 ?_
    refine ziconst (pc := 17) (n := 1) hx hb dX4_addPiece_17 ?_
    refine zsub (pc := 18) hx hb dX4_addPiece_18 ?_
    refine ztop (fun x19 ex19 => ?_)
    refine lv_istore (pc := 19) (lv' := [(4, .int (iI x19)), (3, .int (iI x12)), (0, .ref p0), (1, .int (iI moment)), (2, .int (iI saving))]) hx hb dX4_addPiece_19 hl (by decide) rfl (fun ls hl => ?_)
    refine lv_iload (pc := 21) hx hb dX4_addPiece_21 (lv_at hl 0 rfl) ?_
    refine zif_lt (pc := 23) hx hb 51 (by omega) dX4_addPiece_23 (by decide) (fun c23 => ?_) (fun c23 => ?_)
    · skip
      refine ziconst (pc := 51) (n := 0) hx hb dX4_addPiece_51 ?_
      refine lv_istore (pc := 52) (lv' := [(5, .int (iI 0)), (4, .int (iI x19)), (3, .int (iI x12)), (0, .ref p0), (1, .int (iI moment)), (2, .int (iI saving))]) hx hb dX4_addPiece_52 hl (by decide) rfl (fun ls hl => ?_)
      refine lv_iload (pc := 54) hx hb dX4_addPiece_54 (lv_at hl 0 rfl) ?_
      refine zif_eq (pc := 56) hx hb 64 (by omega) dX4_addPiece_56 (by decide) (fun c56 => ?_) (fun c56 => ?_)
      · skip
        refine lv_aload_n (pc := 64) hx hb dX4_addPiece_64 rfl (lv_at hl 3 rfl) ?_
        refine zgetI (pc := 65) hx hb hG hown hw hk (T := TX4) rfl 6 (by decide) rfl wf_X4_34 rfl dX4_addPiece_65 ?_
        refine ztop (fun x68 ex68 => ?_)
        refine lv_istore (pc := 68) (lv' := [(6, .int (iI x68)), (5, .int (iI 0)), (4, .int (iI x19)), (3, .int (iI x12)), (0, .ref p0), (1, .int (iI moment)), (2, .int (iI saving))]) hx hb dX4_addPiece_68 hl (by decide) rfl (fun ls hl => ?_)
        refine lv_iload (pc := 70) hx hb dX4_addPiece_70 (lv_at hl 0 rfl) ?_
        refine zif_lt (pc := 72) hx hb 119 (by omega) dX4_addPiece_72 (by decide) (fun c72 => ?_) (fun c72 => ?_)
        · skip
          exfalso; omega
        · skip
          refine lv_iload (pc := 75) hx hb dX4_addPiece_75 (lv_at hl 0 rfl) ?_
          refine lv_aload_n (pc := 77) hx hb dX4_addPiece_77 rfl (lv_at hl 4 rfl) ?_
          refine zgetR (pc := 78) hx hb hG hown hw hk (T := TX4) rfl 4 (by decide) rfl wf_X4_28 rfl hr4 dX4_addPiece_78 ?_
          refine zlen2 (pc := 81) hx hb hw hkbe dX4_addPiece_81 ?_
          refine zicmp_ge (pc := 82) hx hb 119 (by omega) (by omega) dX4_addPiece_82 (by decide) (fun c82 => ?_) (fun c82 => ?_)
          · skip
            exfalso; omega
          · skip
            refine lv_iload (pc := 85) hx hb dX4_addPiece_85 (lv_at hl 0 rfl) ?_
            refine lv_aload_n (pc := 87) hx hb dX4_addPiece_87 rfl (lv_at hl 4 rfl) ?_
            refine zgetR (pc := 88) hx hb hG hown hw hk (T := TX4) rfl 5 (by decide) rfl wf_X4_31 rfl hr5 dX4_addPiece_88 ?_
            refine zlen2 (pc := 91) hx hb hw hksa dX4_addPiece_91 ?_
            refine zicmp_ge (pc := 92) hx hb 119 (by omega) (by omega) dX4_addPiece_92 (by decide) (fun c92 => ?_) (fun c92 => ?_)
            · skip
              exfalso; omega
            · skip
              refine lv_aload_n (pc := 95) hx hb dX4_addPiece_95 rfl (lv_at hl 4 rfl) ?_
              refine zgetR (pc := 96) hx hb hG hown hw hk (T := TX4) rfl 4 (by decide) rfl wf_X4_28 rfl hr4 dX4_addPiece_96 ?_
              refine lv_iload (pc := 99) hx hb dX4_addPiece_99 (lv_at hl 0 rfl) ?_
              refine lv_iload_n (pc := 101) hx hb dX4_addPiece_101 rfl (lv_at hl 3 rfl) ?_
              refine zast (pc := 102) hx hb hw hkbe ⟨by omega, by omega⟩ (by omega) dX4_addPiece_102 (fun H locs hw => ?_)
              obtain ⟨X102, eX102⟩ : ∃ Y : zX, Y = up2 X be x68.toNat x12 := ⟨_, rfl⟩
              rw [← eX102] at hw
              refine lv_aload_n (pc := 103) hx hb dX4_addPiece_103 rfl (lv_at hl 4 rfl) ?_
              refine zgetR (pc := 104) hx hb hG hown hw hk (T := TX4) rfl 5 (by decide) rfl wf_X4_31 rfl hr5 dX4_addPiece_104 ?_
              refine lv_iload (pc := 107) hx hb dX4_addPiece_107 (lv_at hl 0 rfl) ?_
              refine lv_iload_n (pc := 109) hx hb dX4_addPiece_109 rfl (lv_at hl 6 rfl) ?_
              refine zast (pc := 110) hx hb hw hksa ⟨by omega, by omega⟩ (by omega) dX4_addPiece_110 (fun H locs hw => ?_)
              obtain ⟨X110, eX110⟩ : ∃ Y : zX, Y = up2 X102 sa x68.toNat saving := ⟨_, rfl⟩
              rw [← eX110] at hw
              refine lv_aload_n (pc := 111) hx hb dX4_addPiece_111 rfl (lv_at hl 4 rfl) ?_
              refine lv_iload (pc := 112) hx hb dX4_addPiece_112 (lv_at hl 0 rfl) ?_
              refine ziconst (pc := 114) (n := 1) hx hb dX4_addPiece_114 ?_
              refine zadd (pc := 115) hx hb dX4_addPiece_115 ?_
              refine zputI (pc := 116) hx hb hG hown hw hk (T := TX4) rfl 6 (by decide) rfl wf_X4_34 rfl (by decide +kernel) rfl dX4_addPiece_116 (fun H locs hw => ?_)
              obtain ⟨X116, eX116⟩ : ∃ Y : zX, Y = up2 X110 p0 6 (x68 + 1) := ⟨_, rfl⟩
              rw [← eX116] at hw
              exact zretV (pc := 119) hx hb hlocks hr hw (Nat.zero_le _) (Nat.zero_le _) dX4_addPiece_119 ⟨by (try dsimp only) <;> (
                                        unfold apX; rw [if_neg (by omega)]
                                        first
                                        | (rw [if_pos (by refine ⟨by omega, ?_⟩; rw [← ex12, ← ex19]; omega), ← ex19, ← ex12, ← eX102, ← eX110]; exact eX116)
                                        | (rw [if_neg (by rintro ⟨q1, q2⟩; rw [← ex12, ← ex19] at q2; omega), ← ex12]; first | (rw [← ex68, ← eX102, ← eX110]; exact eX116) | (rw [← eX102, ← eX110]; exact eX116))), rfl, rfl⟩
      · skip
        exfalso; omega
    · skip
      refine lv_iload (pc := 26) hx hb dX4_addPiece_26 (lv_at hl 0 rfl) ?_
      refine lv_aload_n (pc := 28) hx hb dX4_addPiece_28 rfl (lv_at hl 2 rfl) ?_
      refine zgetR (pc := 29) hx hb hG hown hw hk (T := TX4) rfl 4 (by decide) rfl wf_X4_28 rfl hr4 dX4_addPiece_29 ?_
      refine zlen2 (pc := 32) hx hb hw hkbe dX4_addPiece_32 ?_
      refine zicmp_ge (pc := 33) hx hb 51 (by omega) (by omega) dX4_addPiece_33 (by decide) (fun c33 => ?_) (fun c33 => ?_)
      · skip
        exfalso; omega
      · skip
        refine lv_aload_n (pc := 36) hx hb dX4_addPiece_36 rfl (lv_at hl 2 rfl) ?_
        refine zgetR (pc := 37) hx hb hG hown hw hk (T := TX4) rfl 4 (by decide) rfl wf_X4_28 rfl hr4 dX4_addPiece_37 ?_
        refine lv_iload (pc := 40) hx hb dX4_addPiece_40 (lv_at hl 0 rfl) ?_
        have h3b : 0 ≤ X be x19.toNat ∧ X be x19.toNat ≤ 105190559 := by rw [ex19]; exact h3 (by omega)
        refine zald (pc := 42) hx hb hw hkbe ⟨by omega, by omega⟩ (by omega) dX4_addPiece_42 ?_
        refine lv_iload_n (pc := 43) hx hb dX4_addPiece_43 rfl (lv_at hl 1 rfl) ?_
        refine zicmp_ne (pc := 44) hx hb 51 (by omega) (by omega) dX4_addPiece_44 (by decide) (fun c44 => ?_) (fun c44 => ?_)
        · skip
          refine ziconst (pc := 51) (n := 0) hx hb dX4_addPiece_51 ?_
          refine lv_istore (pc := 52) (lv' := [(5, .int (iI 0)), (4, .int (iI x19)), (3, .int (iI x12)), (0, .ref p0), (1, .int (iI moment)), (2, .int (iI saving))]) hx hb dX4_addPiece_52 hl (by decide) rfl (fun ls hl => ?_)
          refine lv_iload (pc := 54) hx hb dX4_addPiece_54 (lv_at hl 0 rfl) ?_
          refine zif_eq (pc := 56) hx hb 64 (by omega) dX4_addPiece_56 (by decide) (fun c56 => ?_) (fun c56 => ?_)
          · skip
            refine lv_aload_n (pc := 64) hx hb dX4_addPiece_64 rfl (lv_at hl 3 rfl) ?_
            refine zgetI (pc := 65) hx hb hG hown hw hk (T := TX4) rfl 6 (by decide) rfl wf_X4_34 rfl dX4_addPiece_65 ?_
            refine ztop (fun x68 ex68 => ?_)
            refine lv_istore (pc := 68) (lv' := [(6, .int (iI x68)), (5, .int (iI 0)), (4, .int (iI x19)), (3, .int (iI x12)), (0, .ref p0), (1, .int (iI moment)), (2, .int (iI saving))]) hx hb dX4_addPiece_68 hl (by decide) rfl (fun ls hl => ?_)
            refine lv_iload (pc := 70) hx hb dX4_addPiece_70 (lv_at hl 0 rfl) ?_
            refine zif_lt (pc := 72) hx hb 119 (by omega) dX4_addPiece_72 (by decide) (fun c72 => ?_) (fun c72 => ?_)
            · skip
              exfalso; omega
            · skip
              refine lv_iload (pc := 75) hx hb dX4_addPiece_75 (lv_at hl 0 rfl) ?_
              refine lv_aload_n (pc := 77) hx hb dX4_addPiece_77 rfl (lv_at hl 4 rfl) ?_
              refine zgetR (pc := 78) hx hb hG hown hw hk (T := TX4) rfl 4 (by decide) rfl wf_X4_28 rfl hr4 dX4_addPiece_78 ?_
              refine zlen2 (pc := 81) hx hb hw hkbe dX4_addPiece_81 ?_
              refine zicmp_ge (pc := 82) hx hb 119 (by omega) (by omega) dX4_addPiece_82 (by decide) (fun c82 => ?_) (fun c82 => ?_)
              · skip
                exfalso; omega
              · skip
                refine lv_iload (pc := 85) hx hb dX4_addPiece_85 (lv_at hl 0 rfl) ?_
                refine lv_aload_n (pc := 87) hx hb dX4_addPiece_87 rfl (lv_at hl 4 rfl) ?_
                refine zgetR (pc := 88) hx hb hG hown hw hk (T := TX4) rfl 5 (by decide) rfl wf_X4_31 rfl hr5 dX4_addPiece_88 ?_
                refine zlen2 (pc := 91) hx hb hw hksa dX4_addPiece_91 ?_
                refine zicmp_ge (pc := 92) hx hb 119 (by omega) (by omega) dX4_addPiece_92 (by decide) (fun c92 => ?_) (fun c92 => ?_)
                · skip
                  exfalso; omega
                · skip
                  refine lv_aload_n (pc := 95) hx hb dX4_addPiece_95 rfl (lv_at hl 4 rfl) ?_
                  refine zgetR (pc := 96) hx hb hG hown hw hk (T := TX4) rfl 4 (by decide) rfl wf_X4_28 rfl hr4 dX4_addPiece_96 ?_
                  refine lv_iload (pc := 99) hx hb dX4_addPiece_99 (lv_at hl 0 rfl) ?_
                  refine lv_iload_n (pc := 101) hx hb dX4_addPiece_101 rfl (lv_at hl 3 rfl) ?_
                  refine zast (pc := 102) hx hb hw hkbe ⟨by omega, by omega⟩ (by omega) dX4_addPiece_102 (fun H locs hw => ?_)
                  obtain ⟨X102, eX102⟩ : ∃ Y : zX, Y = up2 X be x68.toNat x12 := ⟨_, rfl⟩
                  rw [← eX102] at hw
                  refine lv_aload_n (pc := 103) hx hb dX4_addPiece_103 rfl (lv_at hl 4 rfl) ?_
                  refine zgetR (pc := 104) hx hb hG hown hw hk (T := TX4) rfl 5 (by decide) rfl wf_X4_31 rfl hr5 dX4_addPiece_104 ?_
                  refine lv_iload (pc := 107) hx hb dX4_addPiece_107 (lv_at hl 0 rfl) ?_
                  refine lv_iload_n (pc := 109) hx hb dX4_addPiece_109 rfl (lv_at hl 6 rfl) ?_
                  refine zast (pc := 110) hx hb hw hksa ⟨by omega, by omega⟩ (by omega) dX4_addPiece_110 (fun H locs hw => ?_)
                  obtain ⟨X110, eX110⟩ : ∃ Y : zX, Y = up2 X102 sa x68.toNat saving := ⟨_, rfl⟩
                  rw [← eX110] at hw
                  refine lv_aload_n (pc := 111) hx hb dX4_addPiece_111 rfl (lv_at hl 4 rfl) ?_
                  refine lv_iload (pc := 112) hx hb dX4_addPiece_112 (lv_at hl 0 rfl) ?_
                  refine ziconst (pc := 114) (n := 1) hx hb dX4_addPiece_114 ?_
                  refine zadd (pc := 115) hx hb dX4_addPiece_115 ?_
                  refine zputI (pc := 116) hx hb hG hown hw hk (T := TX4) rfl 6 (by decide) rfl wf_X4_34 rfl (by decide +kernel) rfl dX4_addPiece_116 (fun H locs hw => ?_)
                  obtain ⟨X116, eX116⟩ : ∃ Y : zX, Y = up2 X110 p0 6 (x68 + 1) := ⟨_, rfl⟩
                  rw [← eX116] at hw
                  exact zretV (pc := 119) hx hb hlocks hr hw (Nat.zero_le _) (Nat.zero_le _) dX4_addPiece_119 ⟨by (try dsimp only) <;> (
                                        unfold apX; rw [if_neg (by omega)]
                                        first
                                        | (rw [if_pos (by refine ⟨by omega, ?_⟩; rw [← ex12, ← ex19]; omega), ← ex19, ← ex12, ← eX102, ← eX110]; exact eX116)
                                        | (rw [if_neg (by rintro ⟨q1, q2⟩; rw [← ex12, ← ex19] at q2; omega), ← ex12]; first | (rw [← ex68, ← eX102, ← eX110]; exact eX116) | (rw [← eX102, ← eX110]; exact eX116))), rfl, rfl⟩
          · skip
            exfalso; omega
        · skip
          refine ziconst (pc := 47) (n := 1) hx hb dX4_addPiece_47 ?_
          refine lv_goto (pc := 48) (tgt := 52) hx hb dX4_addPiece_48 (by decide) ?_
          refine lv_istore (pc := 52) (lv' := [(5, .int (iI 1)), (4, .int (iI x19)), (3, .int (iI x12)), (0, .ref p0), (1, .int (iI moment)), (2, .int (iI saving))]) hx hb dX4_addPiece_52 hl (by decide) rfl (fun ls hl => ?_)
          refine lv_iload (pc := 54) hx hb dX4_addPiece_54 (lv_at hl 0 rfl) ?_
          refine zif_eq (pc := 56) hx hb 64 (by omega) dX4_addPiece_56 (by decide) (fun c56 => ?_) (fun c56 => ?_)
          · skip
            exfalso; omega
          · skip
            refine lv_iload (pc := 59) hx hb dX4_addPiece_59 (lv_at hl 1 rfl) ?_
            refine lv_goto (pc := 61) (tgt := 68) hx hb dX4_addPiece_61 (by decide) ?_
            refine lv_istore (pc := 68) (lv' := [(6, .int (iI x19)), (5, .int (iI 1)), (4, .int (iI x19)), (3, .int (iI x12)), (0, .ref p0), (1, .int (iI moment)), (2, .int (iI saving))]) hx hb dX4_addPiece_68 hl (by decide) rfl (fun ls hl => ?_)
            refine lv_iload (pc := 70) hx hb dX4_addPiece_70 (lv_at hl 0 rfl) ?_
            refine zif_lt (pc := 72) hx hb 119 (by omega) dX4_addPiece_72 (by decide) (fun c72 => ?_) (fun c72 => ?_)
            · skip
              exfalso; omega
            · skip
              refine lv_iload (pc := 75) hx hb dX4_addPiece_75 (lv_at hl 0 rfl) ?_
              refine lv_aload_n (pc := 77) hx hb dX4_addPiece_77 rfl (lv_at hl 4 rfl) ?_
              refine zgetR (pc := 78) hx hb hG hown hw hk (T := TX4) rfl 4 (by decide) rfl wf_X4_28 rfl hr4 dX4_addPiece_78 ?_
              refine zlen2 (pc := 81) hx hb hw hkbe dX4_addPiece_81 ?_
              refine zicmp_ge (pc := 82) hx hb 119 (by omega) (by omega) dX4_addPiece_82 (by decide) (fun c82 => ?_) (fun c82 => ?_)
              · skip
                exfalso; omega
              · skip
                refine lv_iload (pc := 85) hx hb dX4_addPiece_85 (lv_at hl 0 rfl) ?_
                refine lv_aload_n (pc := 87) hx hb dX4_addPiece_87 rfl (lv_at hl 4 rfl) ?_
                refine zgetR (pc := 88) hx hb hG hown hw hk (T := TX4) rfl 5 (by decide) rfl wf_X4_31 rfl hr5 dX4_addPiece_88 ?_
                refine zlen2 (pc := 91) hx hb hw hksa dX4_addPiece_91 ?_
                refine zicmp_ge (pc := 92) hx hb 119 (by omega) (by omega) dX4_addPiece_92 (by decide) (fun c92 => ?_) (fun c92 => ?_)
                · skip
                  exfalso; omega
                · skip
                  refine lv_aload_n (pc := 95) hx hb dX4_addPiece_95 rfl (lv_at hl 4 rfl) ?_
                  refine zgetR (pc := 96) hx hb hG hown hw hk (T := TX4) rfl 4 (by decide) rfl wf_X4_28 rfl hr4 dX4_addPiece_96 ?_
                  refine lv_iload (pc := 99) hx hb dX4_addPiece_99 (lv_at hl 0 rfl) ?_
                  refine lv_iload_n (pc := 101) hx hb dX4_addPiece_101 rfl (lv_at hl 3 rfl) ?_
                  refine zast (pc := 102) hx hb hw hkbe ⟨by omega, by omega⟩ (by omega) dX4_addPiece_102 (fun H locs hw => ?_)
                  obtain ⟨X102, eX102⟩ : ∃ Y : zX, Y = up2 X be x19.toNat x12 := ⟨_, rfl⟩
                  rw [← eX102] at hw
                  refine lv_aload_n (pc := 103) hx hb dX4_addPiece_103 rfl (lv_at hl 4 rfl) ?_
                  refine zgetR (pc := 104) hx hb hG hown hw hk (T := TX4) rfl 5 (by decide) rfl wf_X4_31 rfl hr5 dX4_addPiece_104 ?_
                  refine lv_iload (pc := 107) hx hb dX4_addPiece_107 (lv_at hl 0 rfl) ?_
                  refine lv_iload_n (pc := 109) hx hb dX4_addPiece_109 rfl (lv_at hl 6 rfl) ?_
                  refine zast (pc := 110) hx hb hw hksa ⟨by omega, by omega⟩ (by omega) dX4_addPiece_110 (fun H locs hw => ?_)
                  obtain ⟨X110, eX110⟩ : ∃ Y : zX, Y = up2 X102 sa x19.toNat saving := ⟨_, rfl⟩
                  rw [← eX110] at hw
                  refine lv_aload_n (pc := 111) hx hb dX4_addPiece_111 rfl (lv_at hl 4 rfl) ?_
                  refine lv_iload (pc := 112) hx hb dX4_addPiece_112 (lv_at hl 0 rfl) ?_
                  refine ziconst (pc := 114) (n := 1) hx hb dX4_addPiece_114 ?_
                  refine zadd (pc := 115) hx hb dX4_addPiece_115 ?_
                  refine zputI (pc := 116) hx hb hG hown hw hk (T := TX4) rfl 6 (by decide) rfl wf_X4_34 rfl (by decide +kernel) rfl dX4_addPiece_116 (fun H locs hw => ?_)
                  obtain ⟨X116, eX116⟩ : ∃ Y : zX, Y = up2 X110 p0 6 (x19 + 1) := ⟨_, rfl⟩
                  rw [← eX116] at hw
                  exact zretV (pc := 119) hx hb hlocks hr hw (Nat.zero_le _) (Nat.zero_le _) dX4_addPiece_119 ⟨by (try dsimp only) <;> (
                                        unfold apX; rw [if_neg (by omega)]
                                        first
                                        | (rw [if_pos (by refine ⟨by omega, ?_⟩; rw [← ex12, ← ex19]; omega), ← ex19, ← ex12, ← eX102, ← eX110]; exact eX116)
                                        | (rw [if_neg (by rintro ⟨q1, q2⟩; rw [← ex12, ← ex19] at q2; omega), ← ex12]; first | (rw [← ex68, ← eX102, ← eX110]; exact eX116) | (rw [← eX102, ← eX110]; exact eX116))), rfl, rfl⟩
  · skip
    exact zretV (pc := 6) hx hb hlocks hr hw (Nat.zero_le _) (Nat.zero_le _) dX4_addPiece_6 ⟨by (try dsimp only) <;> (unfold apX; rw [if_pos (by omega)]), rfl, rfl⟩
