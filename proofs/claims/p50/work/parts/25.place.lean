set_option maxHeartbeats 4000000 in
set_option maxRecDepth 100000 in
theorem c_X4_pieceBegin (l : Launch) (Γ : zG) (K : zK) (X : zX) (Rf : zR) (p0 : Nat) (piece : Int) (be : Nat) (sa : Nat) (sv : Int → Int) (hk : K p0 = (1, 3)) (hr4 : Rf p0 4 = some be) (hr5 : Rf p0 5 = some sa) (hkbe : K be = (2, 1201)) (hksa : K sa = (2, 1201)) (hp : prep (X be) (X sa) (X p0 6) sv) (hbase : -840 ≤ X p0 0 ∧ X p0 0 ≤ 840) (h1 : fit piece) : Ct l yX4_pieceBegin cX4_pieceBegin 2 (some .int) 0 0 0 Γ [.ref p0, .int (iI piece)] K X Rf (pI (zp0 K X Rf (fun r : Int => r = pbg (X be) (X p0 6) piece))) := by
  refine Ct.of (by decide +kernel) (Nat.le_of_ble_eq_true rfl) ?_
  intro p e s m below meth c ls hx hb hr hml hown hG hlocks hname hw hl
  have hl : lv_has ls 2 [(0, .ref p0), (1, .int (iI piece))] := hl
  have hc := hp.1
  refine lv_iload_n (pc := 0) hx hb dX4_pieceBegin_0 rfl (lv_at hl 1 rfl) ?_
  refine zif_lt (pc := 1) hx hb 21 (by omega) dX4_pieceBegin_1 (by decide) (fun c1 => ?_) (fun c1 => ?_)
  · skip
    refine zldc (pc := 21) (n := 105190560) hx hb hown hG wk_X4_66 dX4_pieceBegin_21 ?_
    refine lv_goto (pc := 23) (tgt := 32) hx hb dX4_pieceBegin_23 (by decide) ?_
    exact zretI (pc := 32) hx hb hlocks hr hw (Nat.zero_le _) (Nat.zero_le _) dX4_pieceBegin_32 ⟨by (try dsimp only) <;> (unfold pbg; first | (rw [if_pos (by omega)]) | (rw [if_neg (by omega)])), rfl, rfl, rfl⟩
  · skip
    refine lv_iload_n (pc := 4) hx hb dX4_pieceBegin_4 rfl (lv_at hl 1 rfl) ?_
    refine lv_aload_n (pc := 5) hx hb dX4_pieceBegin_5 rfl (lv_at hl 0 rfl) ?_
    refine zgetI (pc := 6) hx hb hG hown hw hk (T := TX4) rfl 6 (by decide) rfl wf_X4_34 rfl dX4_pieceBegin_6 ?_
    refine zicmp_ge (pc := 9) hx hb 21 (by omega) (by omega) dX4_pieceBegin_9 (by decide) (fun c9 => ?_) (fun c9 => ?_)
    · skip
      refine zldc (pc := 21) (n := 105190560) hx hb hown hG wk_X4_66 dX4_pieceBegin_21 ?_
      refine lv_goto (pc := 23) (tgt := 32) hx hb dX4_pieceBegin_23 (by decide) ?_
      exact zretI (pc := 32) hx hb hlocks hr hw (Nat.zero_le _) (Nat.zero_le _) dX4_pieceBegin_32 ⟨by (try dsimp only) <;> (unfold pbg; first | (rw [if_pos (by omega)]) | (rw [if_neg (by omega)])), rfl, rfl, rfl⟩
    · skip
      refine lv_iload_n (pc := 12) hx hb dX4_pieceBegin_12 rfl (lv_at hl 1 rfl) ?_
      refine lv_aload_n (pc := 13) hx hb dX4_pieceBegin_13 rfl (lv_at hl 0 rfl) ?_
      refine zgetR (pc := 14) hx hb hG hown hw hk (T := TX4) rfl 4 (by decide) rfl wf_X4_28 rfl hr4 dX4_pieceBegin_14 ?_
      refine zlen2 (pc := 17) hx hb hw hkbe dX4_pieceBegin_17 ?_
      refine zicmp_lt (pc := 18) hx hb 26 (by omega) (by omega) dX4_pieceBegin_18 (by decide) (fun c18 => ?_) (fun c18 => ?_)
      · skip
        refine lv_aload_n (pc := 26) hx hb dX4_pieceBegin_26 rfl (lv_at hl 0 rfl) ?_
        refine zgetR (pc := 27) hx hb hG hown hw hk (T := TX4) rfl 4 (by decide) rfl wf_X4_28 rfl hr4 dX4_pieceBegin_27 ?_
        refine lv_iload_n (pc := 30) hx hb dX4_pieceBegin_30 rfl (lv_at hl 1 rfl) ?_
        refine zald (pc := 31) hx hb hw hkbe ⟨by omega, by omega⟩ (by omega) dX4_pieceBegin_31 ?_
        exact zretI (pc := 32) hx hb hlocks hr hw (Nat.zero_le _) (Nat.zero_le _) dX4_pieceBegin_32 ⟨by (try dsimp only) <;> (unfold pbg; first | (rw [if_pos (by omega)]) | (rw [if_neg (by omega)])), rfl, rfl, rfl⟩
      · skip
        exfalso; omega
set_option maxHeartbeats 4000000 in
set_option maxRecDepth 100000 in
theorem c_X4_pieceSaving (l : Launch) (Γ : zG) (K : zK) (X : zX) (Rf : zR) (p0 : Nat) (piece : Int) (be : Nat) (sa : Nat) (sv : Int → Int) (hk : K p0 = (1, 3)) (hr4 : Rf p0 4 = some be) (hr5 : Rf p0 5 = some sa) (hkbe : K be = (2, 1201)) (hksa : K sa = (2, 1201)) (hp : prep (X be) (X sa) (X p0 6) sv) (hbase : -840 ≤ X p0 0 ∧ X p0 0 ≤ 840) (h1 : fit piece) : Ct l yX4_pieceSaving cX4_pieceSaving 2 (some .int) 0 0 0 Γ [.ref p0, .int (iI piece)] K X Rf (pI (zp0 K X Rf (fun r : Int => r = psv (X sa) (X p0 6) piece))) := by
  refine Ct.of (by decide +kernel) (Nat.le_of_ble_eq_true rfl) ?_
  intro p e s m below meth c ls hx hb hr hml hown hG hlocks hname hw hl
  have hl : lv_has ls 2 [(0, .ref p0), (1, .int (iI piece))] := hl
  have hc := hp.1
  refine lv_iload_n (pc := 0) hx hb dX4_pieceSaving_0 rfl (lv_at hl 1 rfl) ?_
  refine zif_lt (pc := 1) hx hb 21 (by omega) dX4_pieceSaving_1 (by decide) (fun c1 => ?_) (fun c1 => ?_)
  · skip
    refine ziconst (pc := 21) (n := 0) hx hb dX4_pieceSaving_21 ?_
    refine lv_goto (pc := 22) (tgt := 31) hx hb dX4_pieceSaving_22 (by decide) ?_
    exact zretI (pc := 31) hx hb hlocks hr hw (Nat.zero_le _) (Nat.zero_le _) dX4_pieceSaving_31 ⟨by (try dsimp only) <;> (unfold psv; first | (rw [if_pos (by omega)]) | (rw [if_neg (by omega)])), rfl, rfl, rfl⟩
  · skip
    refine lv_iload_n (pc := 4) hx hb dX4_pieceSaving_4 rfl (lv_at hl 1 rfl) ?_
    refine lv_aload_n (pc := 5) hx hb dX4_pieceSaving_5 rfl (lv_at hl 0 rfl) ?_
    refine zgetI (pc := 6) hx hb hG hown hw hk (T := TX4) rfl 6 (by decide) rfl wf_X4_34 rfl dX4_pieceSaving_6 ?_
    refine zicmp_ge (pc := 9) hx hb 21 (by omega) (by omega) dX4_pieceSaving_9 (by decide) (fun c9 => ?_) (fun c9 => ?_)
    · skip
      refine ziconst (pc := 21) (n := 0) hx hb dX4_pieceSaving_21 ?_
      refine lv_goto (pc := 22) (tgt := 31) hx hb dX4_pieceSaving_22 (by decide) ?_
      exact zretI (pc := 31) hx hb hlocks hr hw (Nat.zero_le _) (Nat.zero_le _) dX4_pieceSaving_31 ⟨by (try dsimp only) <;> (unfold psv; first | (rw [if_pos (by omega)]) | (rw [if_neg (by omega)])), rfl, rfl, rfl⟩
    · skip
      refine lv_iload_n (pc := 12) hx hb dX4_pieceSaving_12 rfl (lv_at hl 1 rfl) ?_
      refine lv_aload_n (pc := 13) hx hb dX4_pieceSaving_13 rfl (lv_at hl 0 rfl) ?_
      refine zgetR (pc := 14) hx hb hG hown hw hk (T := TX4) rfl 5 (by decide) rfl wf_X4_31 rfl hr5 dX4_pieceSaving_14 ?_
      refine zlen2 (pc := 17) hx hb hw hksa dX4_pieceSaving_17 ?_
      refine zicmp_lt (pc := 18) hx hb 25 (by omega) (by omega) dX4_pieceSaving_18 (by decide) (fun c18 => ?_) (fun c18 => ?_)
      · skip
        refine lv_aload_n (pc := 25) hx hb dX4_pieceSaving_25 rfl (lv_at hl 0 rfl) ?_
        refine zgetR (pc := 26) hx hb hG hown hw hk (T := TX4) rfl 5 (by decide) rfl wf_X4_31 rfl hr5 dX4_pieceSaving_26 ?_
        refine lv_iload_n (pc := 29) hx hb dX4_pieceSaving_29 rfl (lv_at hl 1 rfl) ?_
        refine zald (pc := 30) hx hb hw hksa ⟨by omega, by omega⟩ (by omega) dX4_pieceSaving_30 ?_
        exact zretI (pc := 31) hx hb hlocks hr hw (Nat.zero_le _) (Nat.zero_le _) dX4_pieceSaving_31 ⟨by (try dsimp only) <;> (unfold psv; first | (rw [if_pos (by omega)]) | (rw [if_neg (by omega)])), rfl, rfl, rfl⟩
      · skip
        exfalso; omega
set_option maxHeartbeats 4000000 in
set_option maxRecDepth 100000 in
theorem c_X4_pieceShift (l : Launch) (Γ : zG) (K : zK) (X : zX) (Rf : zR) (p0 : Nat) (piece : Int) (be : Nat) (sa : Nat) (sv : Int → Int) (hk : K p0 = (1, 3)) (hr4 : Rf p0 4 = some be) (hr5 : Rf p0 5 = some sa) (hkbe : K be = (2, 1201)) (hksa : K sa = (2, 1201)) (hp : prep (X be) (X sa) (X p0 6) sv) (hbase : -840 ≤ X p0 0 ∧ X p0 0 ≤ 840) (h1 : fit piece) : Ct l yX4_pieceShift cX4_pieceShift 2 (some .int) 1 0 0 Γ [.ref p0, .int (iI piece)] K X Rf (pI (zp0 K X Rf (fun r : Int => r = X p0 0 + psv (X sa) (X p0 6) piece))) := by
  refine Ct.of (by decide +kernel) (Nat.le_of_ble_eq_true rfl) ?_
  intro p e s m below meth c ls hx hb hr hml hown hG hlocks hname hw hl
  have hl : lv_has ls 2 [(0, .ref p0), (1, .int (iI piece))] := hl
  refine lv_aload_n (pc := 0) hx hb dX4_pieceShift_0 rfl (lv_at hl 0 rfl) ?_
  refine zgetI (pc := 1) hx hb hG hown hw hk (T := TX4) rfl 0 (by decide) rfl wf_X4_9 rfl dX4_pieceShift_1 ?_
  refine lv_aload_n (pc := 4) hx hb dX4_pieceShift_4 rfl (lv_at hl 0 rfl) ?_
  refine lv_iload_n (pc := 5) hx hb dX4_pieceShift_5 rfl (lv_at hl 1 rfl) ?_
  refine zkIp (pc := 6) (zrV (As := [.int (iI piece)]) hx hb hml hown hG hw (c_X4_pieceSaving l Γ K X Rf p0 piece be sa sv (by (first | assumption | omega)) (by (first | assumption | omega)) (by (first | assumption | omega)) (by (first | assumption | omega)) (by (first | assumption | omega)) (by (first | assumption | omega)) (by (first | assumption | omega)) (by (first | assumption | omega))) (T := TX4) hk rfl cb_X4_pieceSaving wl_X4_68 rfl ⟨Nat.le_of_ble_eq_true rfl, Nat.le_of_ble_eq_true rfl⟩ hl.1 rfl (Nat.le_of_ble_eq_true rfl) dX4_pieceShift_6 ⟨Nat.zero_le _, Nat.zero_le _⟩) hw (fun r6 H locs hp6 hw => ?_)
  subst hp6
  have hp6f0 := psv_rng (by assumption : prep (X be) (X sa) (X p0 6) sv) piece
  refine zadd (pc := 9) hx hb dX4_pieceShift_9 ?_
  exact zretI (pc := 10) hx hb hlocks hr hw (Nat.zero_le _) (Nat.zero_le _) dX4_pieceShift_10 ⟨by (try dsimp only) <;> ((first | assumption | omega)), rfl, rfl, rfl⟩
set_option maxHeartbeats 4000000 in
set_option maxRecDepth 100000 in
theorem c_X4_pieceWith (l : Launch) (Γ : zG) (K : zK) (X : zX) (Rf : zR) (p0 : Nat) (moment : Int) (be : Nat) (sa : Nat) (sv : Int → Int) (hk : K p0 = (1, 3)) (hr4 : Rf p0 4 = some be) (hr5 : Rf p0 5 = some sa) (hkbe : K be = (2, 1201)) (hksa : K sa = (2, 1201)) (hp : prep (X be) (X sa) (X p0 6) sv) (hbase : -840 ≤ X p0 0 ∧ X p0 0 ≤ 840) (h1 : -1000000000000 ≤ moment ∧ moment ≤ 1000000000000) : Ct l yX4_pieceWith cX4_pieceWith 7 (some .int) 1 0 0 Γ [.ref p0, .long (lJ moment)] K X Rf (pI (zp0 K X Rf (fun r : Int => pwOK (X be) (X p0 6) moment r))) := by
  refine Ct.of (by decide +kernel) (Nat.le_of_ble_eq_true rfl) ?_
  intro p e s m below meth c ls hx hb hr hml hown hG hlocks hname hw hl
  have hl : lv_has ls 7 [(0, .ref p0), (1, .long (lJ moment))] := hl
  have hc := hp.1
  refine ziconst (pc := 0) (n := 0) hx hb dX4_pieceWith_0 ?_
  refine lv_istore_n (pc := 1) (lv' := [(3, .int (iI 0)), (0, .ref p0), (1, .long (lJ moment))]) hx hb dX4_pieceWith_1 rfl hl (by decide) rfl (fun ls hl => ?_)
  refine lv_aload_n (pc := 2) hx hb dX4_pieceWith_2 rfl (lv_at hl 1 rfl) ?_
  refine zgetI (pc := 3) hx hb hG hown hw hk (T := TX4) rfl 6 (by decide) rfl wf_X4_34 rfl dX4_pieceWith_3 ?_
  refine ziconst (pc := 6) (n := 1) hx hb dX4_pieceWith_6 ?_
  refine zsub (pc := 7) hx hb dX4_pieceWith_7 ?_
  refine ztop (fun x8 ex8 => ?_)
  refine lv_istore (pc := 8) (lv' := [(4, .int (iI x8)), (3, .int (iI 0)), (0, .ref p0), (1, .long (lJ moment))]) hx hb dX4_pieceWith_8 hl (by decide) rfl (fun ls hl => ?_)
  refine ziconst (pc := 10) (n := 0) hx hb dX4_pieceWith_10 ?_
  refine lv_istore (pc := 11) (lv' := [(5, .int (iI 0)), (4, .int (iI x8)), (3, .int (iI 0)), (0, .ref p0), (1, .long (lJ moment))]) hx hb dX4_pieceWith_11 hl (by decide) rfl (fun ls hl => ?_)
  have lp13 : ∀ (n13 : Nat) (it : Int) (hi : Int) (lo : Int) (H : Heap) (locs : List Loc), (h5 : 0 ≤ it ∧ it ≤ 32) → (h6 : 0 ≤ lo ∧ lo ≤ hi ∧ hi ≤ X p0 6 - 1) → (h7 : lo = 0 ∨ pbg (X be) (X p0 6) lo ≤ moment) → (h8 : hi = X p0 6 - 1 ∨ moment < pbg (X be) (X p0 6) (hi + 1)) → (h9 : hi - lo ≤ hbv it) → ((32 - it).toNat < n13) → Wd Γ (zA K s.heap.size) K X Rf s H locs → ∀ ls : Array Slot, lv_has ls 7 [(5, .int (iI it)), (4, .int (iI hi)), (3, .int (iI lo)), (0, .ref p0), (1, .long (lJ moment))] → W p l e (rmL 1 0 0) s m ([.ref p0, .long (lJ moment)] : List Value).toArray below meth c H locs 0 0 (MQ below (zQ Γ K s.heap.size (pI (zp0 K X Rf (fun r : Int => pwOK (X be) (X p0 6) moment r)))) ([.ref p0, .long (lJ moment)] : List Value).toArray s 0 0 (zA K s.heap.size)) (F0 m 13 ls []) := by
    intro n13
    induction n13 with
    | zero => intro it hi lo H locs h5 h6 h7 h8 h9 hm13; exact absurd hm13 (Nat.not_lt_zero _)
    | succ n13 ih13 =>
      intro it hi lo H locs h5 h6 h7 h8 h9 hm13 hw ls hl
      refine lv_iload (pc := 13) hx hb dX4_pieceWith_13 (lv_at hl 0 rfl) ?_
      refine zbipush (pc := 15) (n := 32) hx hb dX4_pieceWith_15 rfl ?_
      refine zicmp_ge (pc := 17) hx hb 66 (by omega) (by omega) dX4_pieceWith_17 (by decide) (fun c17 => ?_) (fun c17 => ?_)
      · skip
        refine lv_iload_n (pc := 66) hx hb dX4_pieceWith_66 rfl (lv_at hl 2 rfl) ?_
        exact zretI (pc := 67) hx hb hlocks hr hw (Nat.zero_le _) (Nat.zero_le _) dX4_pieceWith_67 ⟨by (try dsimp only) <;> (
                                        have hee : lo = hi := by
                                          first
                                          | omega
                                          | (have e32 : it = 32 := by omega
                                             rw [e32, hbv_32] at h9; omega)
                                        subst hee
                                        exact ⟨by omega, h7, fun q => by rcases h8 with w | w; omega; exact w⟩), rfl, rfl, rfl⟩
      · skip
        refine lv_iload_n (pc := 20) hx hb dX4_pieceWith_20 rfl (lv_at hl 2 rfl) ?_
        refine lv_iload (pc := 21) hx hb dX4_pieceWith_21 (lv_at hl 1 rfl) ?_
        refine zicmp_ge (pc := 23) hx hb 66 (by omega) (by omega) dX4_pieceWith_23 (by decide) (fun c23 => ?_) (fun c23 => ?_)
        · skip
          refine lv_iload_n (pc := 66) hx hb dX4_pieceWith_66 rfl (lv_at hl 2 rfl) ?_
          exact zretI (pc := 67) hx hb hlocks hr hw (Nat.zero_le _) (Nat.zero_le _) dX4_pieceWith_67 ⟨by (try dsimp only) <;> (
                                        have hee : lo = hi := by
                                          first
                                          | omega
                                          | (have e32 : it = 32 := by omega
                                             rw [e32, hbv_32] at h9; omega)
                                        subst hee
                                        exact ⟨by omega, h7, fun q => by rcases h8 with w | w; omega; exact w⟩), rfl, rfl, rfl⟩
        · skip
          refine lv_iload_n (pc := 26) hx hb dX4_pieceWith_26 rfl (lv_at hl 2 rfl) ?_
          refine lv_iload (pc := 27) hx hb dX4_pieceWith_27 (lv_at hl 1 rfl) ?_
          refine zadd (pc := 29) hx hb dX4_pieceWith_29 ?_
          refine ziconst (pc := 30) (n := 1) hx hb dX4_pieceWith_30 ?_
          refine zadd (pc := 31) hx hb dX4_pieceWith_31 ?_
          refine ziconst (pc := 32) (n := 2) hx hb dX4_pieceWith_32 ?_
          refine zdiv (pc := 33) hx hb (by omega) dX4_pieceWith_33 ?_
          refine ztop (fun x34 ex34 => ?_)
          refine lv_istore (pc := 34) (lv' := [(6, .int (iI x34)), (5, .int (iI it)), (4, .int (iI hi)), (3, .int (iI lo)), (0, .ref p0), (1, .long (lJ moment))]) hx hb dX4_pieceWith_34 hl (by decide) rfl (fun ls hl => ?_)
          refine lv_aload_n (pc := 36) hx hb dX4_pieceWith_36 rfl (lv_at hl 4 rfl) ?_
          refine lv_iload (pc := 37) hx hb dX4_pieceWith_37 (lv_at hl 0 rfl) ?_
          refine zkIp (pc := 39) (zrV (As := [.int (iI x34)]) hx hb hml hown hG hw (c_X4_pieceBegin l Γ K X Rf p0 x34 be sa sv (by (first | assumption | omega)) (by (first | assumption | omega)) (by (first | assumption | omega)) (by (first | assumption | omega)) (by (first | assumption | omega)) (by (first | assumption | omega)) (by (first | assumption | omega)) (by (first | assumption | omega))) (T := TX4) hk rfl cb_X4_pieceBegin wl_X4_71 rfl ⟨Nat.le_of_ble_eq_true rfl, Nat.le_of_ble_eq_true rfl⟩ hl.1 rfl (Nat.le_of_ble_eq_true rfl) dX4_pieceWith_39 ⟨Nat.zero_le _, Nat.zero_le _⟩) hw (fun r39 H locs hp39 hw => ?_)
          subst hp39
          have hp39f0 := pbg_rng (by assumption : prep (X be) (X sa) (X p0 6) sv) x34
          refine zi2l (pc := 42) hx hb (by omega) dX4_pieceWith_42 ?_
          refine lv_lload_n (pc := 43) hx hb dX4_pieceWith_43 rfl (lv_at hl 5 rfl) ?_
          refine zlcmp (pc := 44) hx hb ⟨by omega, by omega⟩ dX4_pieceWith_44 (fun r44 hr44 => ?_)
          refine zif_gt (pc := 45) hx hb 54 (by omega) dX4_pieceWith_45 (by decide) (fun c45 => ?_) (fun c45 => ?_)
          · skip
            refine lv_iload (pc := 54) hx hb dX4_pieceWith_54 (lv_at hl 0 rfl) ?_
            refine ziconst (pc := 56) (n := 1) hx hb dX4_pieceWith_56 ?_
            refine zsub (pc := 57) hx hb dX4_pieceWith_57 ?_
            refine ztop (fun x58 ex58 => ?_)
            refine lv_istore (pc := 58) (lv' := [(4, .int (iI x58)), (6, .int (iI x34)), (5, .int (iI it)), (3, .int (iI lo)), (0, .ref p0), (1, .long (lJ moment))]) hx hb dX4_pieceWith_58 hl (by decide) rfl (fun ls hl => ?_)
            refine ziinc (pc := 60) (lv' := [(5, .int (iI (it + 1))), (4, .int (iI x58)), (6, .int (iI x34)), (3, .int (iI lo)), (0, .ref p0), (1, .long (lJ moment))]) hx hb 2 dX4_pieceWith_60 hl rfl (by decide) rfl (fun ls hl => ?_)
            obtain ⟨x60, ex60⟩ : ∃ zz : Int, zz = (it + 1) := ⟨_, rfl⟩
            rw [← ex60] at hl
            refine lv_goto (pc := 63) (tgt := 13) hx hb dX4_pieceWith_63 (by decide) ?_
            exact ih13 x60 x58 lo _ _ (by (first | assumption | omega)) (by (first | assumption | omega)) (by first | exact h7 | exact Or.inr (by omega)) (by first | exact h8 | (exact Or.inr (by rw [show x58 + 1 = x34 by omega]; omega))) (by rw [ex60, hbv_s h5.1]; omega) (by omega) hw _ (lv_sub hl [0, 1, 3, 4, 5] rfl)
          · skip
            refine lv_iload (pc := 48) hx hb dX4_pieceWith_48 (lv_at hl 0 rfl) ?_
            refine lv_istore_n (pc := 50) (lv' := [(3, .int (iI x34)), (6, .int (iI x34)), (5, .int (iI it)), (4, .int (iI hi)), (0, .ref p0), (1, .long (lJ moment))]) hx hb dX4_pieceWith_50 rfl hl (by decide) rfl (fun ls hl => ?_)
            refine lv_goto (pc := 51) (tgt := 60) hx hb dX4_pieceWith_51 (by decide) ?_
            refine ziinc (pc := 60) (lv' := [(5, .int (iI (it + 1))), (3, .int (iI x34)), (6, .int (iI x34)), (4, .int (iI hi)), (0, .ref p0), (1, .long (lJ moment))]) hx hb 2 dX4_pieceWith_60 hl rfl (by decide) rfl (fun ls hl => ?_)
            obtain ⟨x60, ex60⟩ : ∃ zz : Int, zz = (it + 1) := ⟨_, rfl⟩
            rw [← ex60] at hl
            refine lv_goto (pc := 63) (tgt := 13) hx hb dX4_pieceWith_63 (by decide) ?_
            exact ih13 x60 hi x34 _ _ (by (first | assumption | omega)) (by (first | assumption | omega)) (by first | exact h7 | exact Or.inr (by omega)) (by first | exact h8 | (exact Or.inr (by rw [show x58 + 1 = x34 by omega]; omega))) (by rw [ex60, hbv_s h5.1]; omega) (by omega) hw _ (lv_sub hl [0, 3, 1, 4, 5] rfl)
  exact lp13 _ 0 x8 0 _ _ (by (first | assumption | omega)) (by (first | assumption | omega)) (by exact Or.inl rfl) (by exact Or.inl (by omega)) (by rw [hbv_0]; omega) (Nat.lt_succ_self _) hw _ (lv_sub hl [0, 1, 2, 3, 4] rfl)
set_option maxHeartbeats 4000000 in
set_option maxRecDepth 100000 in
theorem c_X4_savingThen (l : Launch) (Γ : zG) (K : zK) (X : zX) (Rf : zR) (p0 : Nat) (moment : Int) (be : Nat) (sa : Nat) (sv : Int → Int) (hk : K p0 = (1, 3)) (hr4 : Rf p0 4 = some be) (hr5 : Rf p0 5 = some sa) (hkbe : K be = (2, 1201)) (hksa : K sa = (2, 1201)) (hp : prep (X be) (X sa) (X p0 6) sv) (hbase : -840 ≤ X p0 0 ∧ X p0 0 ≤ 840) (h1 : 0 ≤ moment ∧ moment ≤ 105190559) : Ct l yX4_savingThen cX4_savingThen 2 (some .int) 2 0 0 Γ [.ref p0, .int (iI moment)] K X Rf (pI (zp0 K X Rf (fun r : Int => r = sv moment))) := by
  refine Ct.of (by decide +kernel) (Nat.le_of_ble_eq_true rfl) ?_
  intro p e s m below meth c ls hx hb hr hml hown hG hlocks hname hw hl
  have hl : lv_has ls 2 [(0, .ref p0), (1, .int (iI moment))] := hl
  refine lv_aload_n (pc := 0) hx hb dX4_savingThen_0 rfl (lv_at hl 0 rfl) ?_
  refine lv_aload_n (pc := 1) hx hb dX4_savingThen_1 rfl (lv_at hl 0 rfl) ?_
  refine lv_iload_n (pc := 2) hx hb dX4_savingThen_2 rfl (lv_at hl 1 rfl) ?_
  refine zi2l (pc := 3) hx hb (by omega) dX4_savingThen_3 ?_
  refine zkIp (pc := 4) (zrV (As := [.long (lJ moment)]) hx hb hml hown hG hw (c_X4_pieceWith l Γ K X Rf p0 moment be sa sv (by (first | assumption | omega)) (by (first | assumption | omega)) (by (first | assumption | omega)) (by (first | assumption | omega)) (by (first | assumption | omega)) (by (first | assumption | omega)) (by (first | assumption | omega)) (by (first | assumption | omega))) (T := TX4) hk rfl cb_X4_pieceWith wl_X4_74 rfl ⟨Nat.le_of_ble_eq_true rfl, Nat.le_of_ble_eq_true rfl⟩ hl.1 rfl (Nat.le_of_ble_eq_true rfl) dX4_savingThen_4 ⟨Nat.zero_le _, Nat.zero_le _⟩) hw (fun r4 H locs hp4 hw => ?_)
  have hp4f0 := hp4
  have hpc := hp.1
  have hpw := hp4.1
  refine zkIp (pc := 7) (zrV (As := [.int (iI r4)]) hx hb hml hown hG hw (c_X4_pieceSaving l Γ K X Rf p0 r4 be sa sv (by (first | assumption | omega)) (by (first | assumption | omega)) (by (first | assumption | omega)) (by (first | assumption | omega)) (by (first | assumption | omega)) (by (first | assumption | omega)) (by (first | assumption | omega)) (by (first | assumption | omega))) (T := TX4) hk rfl cb_X4_pieceSaving wl_X4_68 rfl ⟨Nat.le_of_ble_eq_true rfl, Nat.le_of_ble_eq_true rfl⟩ hl.1 rfl (Nat.le_of_ble_eq_true rfl) dX4_savingThen_7 ⟨Nat.zero_le _, Nat.zero_le _⟩) hw (fun r7 H locs hp7 hw => ?_)
  subst hp7
  have hp7f0 := psv_rng (by assumption : prep (X be) (X sa) (X p0 6) sv) r4
  exact zretI (pc := 10) hx hb hlocks hr hw (Nat.zero_le _) (Nat.zero_le _) dX4_savingThen_10 ⟨by (try dsimp only) <;> (exact (pw_sv hp hp4 h1.1 h1.2).symm), rfl, rfl, rfl⟩
set_option maxHeartbeats 4000000 in
set_option maxRecDepth 100000 in
theorem c_X4_show (l : Launch) (Γ : zG) (K : zK) (X : zX) (Rf : zR) (p0 : Nat) (moment : Int) (be : Nat) (sa : Nat) (sv : Int → Int) (hk : K p0 = (1, 3)) (hr4 : Rf p0 4 = some be) (hr5 : Rf p0 5 = some sa) (hkbe : K be = (2, 1201)) (hksa : K sa = (2, 1201)) (hp : prep (X be) (X sa) (X p0 6) sv) (hbase : -840 ≤ X p0 0 ∧ X p0 0 ≤ 840) (h1 : 0 ≤ moment ∧ moment ≤ 105190559) : Ct l yX4_show cX4_show 2 (some .int) 3 0 0 Γ [.ref p0, .int (iI moment)] K X Rf (pI (zp0 K X Rf (fun r : Int => r = moment + X p0 0 + sv moment))) := by
  refine Ct.of (by decide +kernel) (Nat.le_of_ble_eq_true rfl) ?_
  intro p e s m below meth c ls hx hb hr hml hown hG hlocks hname hw hl
  have hl : lv_has ls 2 [(0, .ref p0), (1, .int (iI moment))] := hl
  refine lv_iload_n (pc := 0) hx hb dX4_show_0 rfl (lv_at hl 1 rfl) ?_
  refine lv_aload_n (pc := 1) hx hb dX4_show_1 rfl (lv_at hl 0 rfl) ?_
  refine zgetI (pc := 2) hx hb hG hown hw hk (T := TX4) rfl 0 (by decide) rfl wf_X4_9 rfl dX4_show_2 ?_
  refine zadd (pc := 5) hx hb dX4_show_5 ?_
  refine lv_aload_n (pc := 6) hx hb dX4_show_6 rfl (lv_at hl 0 rfl) ?_
  refine lv_iload_n (pc := 7) hx hb dX4_show_7 rfl (lv_at hl 1 rfl) ?_
  refine zkIp (pc := 8) (zrV (As := [.int (iI moment)]) hx hb hml hown hG hw (c_X4_savingThen l Γ K X Rf p0 moment be sa sv (by (first | assumption | omega)) (by (first | assumption | omega)) (by (first | assumption | omega)) (by (first | assumption | omega)) (by (first | assumption | omega)) (by (first | assumption | omega)) (by (first | assumption | omega)) (by (first | assumption | omega))) (T := TX4) hk rfl cb_X4_savingThen wl_X4_78 rfl ⟨Nat.le_of_ble_eq_true rfl, Nat.le_of_ble_eq_true rfl⟩ hl.1 rfl (Nat.le_of_ble_eq_true rfl) dX4_show_8 ⟨Nat.zero_le _, Nat.zero_le _⟩) hw (fun r8 H locs hp8 hw => ?_)
  subst hp8
  have hp8f0 := sv_rng (by assumption : prep (X be) (X sa) (X p0 6) sv) (m := moment) (by omega) (by omega)
  refine zadd (pc := 11) hx hb dX4_show_11 ?_
  exact zretI (pc := 12) hx hb hlocks hr hw (Nat.zero_le _) (Nat.zero_le _) dX4_show_12 ⟨by (try dsimp only) <;> ((first | assumption | omega)), rfl, rfl, rfl⟩
set_option maxHeartbeats 4000000 in
set_option maxRecDepth 100000 in
theorem c_X4_changeBehind (l : Launch) (Γ : zG) (K : zK) (X : zX) (Rf : zR) (p0 : Nat) (moment : Int) (be : Nat) (sa : Nat) (sv : Int → Int) (hk : K p0 = (1, 3)) (hr4 : Rf p0 4 = some be) (hr5 : Rf p0 5 = some sa) (hkbe : K be = (2, 1201)) (hksa : K sa = (2, 1201)) (hp : prep (X be) (X sa) (X p0 6) sv) (hbase : -840 ≤ X p0 0 ∧ X p0 0 ≤ 840) (h1 : 0 ≤ moment ∧ moment ≤ 105190559) : Ct l yX4_changeBehind cX4_changeBehind 3 (some .int) 2 0 0 Γ [.ref p0, .int (iI moment)] K X Rf (pI (zp0 K X Rf (fun r : Int => r = ncF sv moment))) := by
  refine Ct.of (by decide +kernel) (Nat.le_of_ble_eq_true rfl) ?_
  intro p e s m below meth c ls hx hb hr hml hown hG hlocks hname hw hl
  have hl : lv_has ls 3 [(0, .ref p0), (1, .int (iI moment))] := hl
  refine lv_aload_n (pc := 0) hx hb dX4_changeBehind_0 rfl (lv_at hl 0 rfl) ?_
  refine lv_iload_n (pc := 1) hx hb dX4_changeBehind_1 rfl (lv_at hl 1 rfl) ?_
  refine zi2l (pc := 2) hx hb (by omega) dX4_changeBehind_2 ?_
  refine zkIp (pc := 3) (zrV (As := [.long (lJ moment)]) hx hb hml hown hG hw (c_X4_pieceWith l Γ K X Rf p0 moment be sa sv (by (first | assumption | omega)) (by (first | assumption | omega)) (by (first | assumption | omega)) (by (first | assumption | omega)) (by (first | assumption | omega)) (by (first | assumption | omega)) (by (first | assumption | omega)) (by (first | assumption | omega))) (T := TX4) hk rfl cb_X4_pieceWith wl_X4_74 rfl ⟨Nat.le_of_ble_eq_true rfl, Nat.le_of_ble_eq_true rfl⟩ hl.1 rfl (Nat.le_of_ble_eq_true rfl) dX4_changeBehind_3 ⟨Nat.zero_le _, Nat.zero_le _⟩) hw (fun r3 H locs hp3 hw => ?_)
  have hp3f0 := hp3
  have hpc := hp.1
  have hpw := hp3.1
  refine ziconst (pc := 6) (n := 1) hx hb dX4_changeBehind_6 ?_
  refine zadd (pc := 7) hx hb dX4_changeBehind_7 ?_
  refine ztop (fun x8 ex8 => ?_)
  refine lv_istore_n (pc := 8) (lv' := [(2, .int (iI x8)), (0, .ref p0), (1, .int (iI moment))]) hx hb dX4_changeBehind_8 rfl hl (by decide) rfl (fun ls hl => ?_)
  have lp9 : ∀ (n9 : Nat) (pi : Int) (H : Heap) (locs : List Loc), (h5 : 1 ≤ pi ∧ pi ≤ X p0 6) → (h6 : ncF sv moment = fP (chg sv) (105190560 - pbg (X be) (X p0 6) pi).toNat (pbg (X be) (X p0 6) pi)) → ((X p0 6 - pi).toNat < n9) → Wd Γ (zA K s.heap.size) K X Rf s H locs → ∀ ls : Array Slot, lv_has ls 3 [(2, .int (iI pi)), (0, .ref p0), (1, .int (iI moment))] → W p l e (rmL 2 0 0) s m ([.ref p0, .int (iI moment)] : List Value).toArray below meth c H locs 0 0 (MQ below (zQ Γ K s.heap.size (pI (zp0 K X Rf (fun r : Int => r = ncF sv moment)))) ([.ref p0, .int (iI moment)] : List Value).toArray s 0 0 (zA K s.heap.size)) (F0 m 9 ls []) := by
    intro n9
    induction n9 with
    | zero => intro pi H locs h5 h6 hm9; exact absurd hm9 (Nat.not_lt_zero _)
    | succ n9 ih9 =>
      intro pi H locs h5 h6 hm9 hw ls hl
      refine lv_iload_n (pc := 9) hx hb dX4_changeBehind_9 rfl (lv_at hl 0 rfl) ?_
      refine lv_aload_n (pc := 10) hx hb dX4_changeBehind_10 rfl (lv_at hl 1 rfl) ?_
      refine zgetI (pc := 11) hx hb hG hown hw hk (T := TX4) rfl 6 (by decide) rfl wf_X4_34 rfl dX4_changeBehind_11 ?_
      refine zicmp_ge (pc := 14) hx hb 44 (by omega) (by omega) dX4_changeBehind_14 (by decide) (fun c14 => ?_) (fun c14 => ?_)
      · skip
        refine ziconst (pc := 44) (n := (-1)) hx hb dX4_changeBehind_44 ?_
        exact zretI (pc := 45) hx hb hlocks hr hw (Nat.zero_le _) (Nat.zero_le _) dX4_changeBehind_45 ⟨by (try dsimp only) <;> (rw [h6, show pi = X p0 6 by omega, pbg_c hp]; rfl), rfl, rfl, rfl⟩
      · skip
        refine lv_aload_n (pc := 17) hx hb dX4_changeBehind_17 rfl (lv_at hl 1 rfl) ?_
        refine lv_iload_n (pc := 18) hx hb dX4_changeBehind_18 rfl (lv_at hl 0 rfl) ?_
        refine zkIp (pc := 19) (zrV (As := [.int (iI pi)]) hx hb hml hown hG hw (c_X4_pieceSaving l Γ K X Rf p0 pi be sa sv (by (first | assumption | omega)) (by (first | assumption | omega)) (by (first | assumption | omega)) (by (first | assumption | omega)) (by (first | assumption | omega)) (by (first | assumption | omega)) (by (first | assumption | omega)) (by (first | assumption | omega))) (T := TX4) hk rfl cb_X4_pieceSaving wl_X4_68 rfl ⟨Nat.le_of_ble_eq_true rfl, Nat.le_of_ble_eq_true rfl⟩ hl.1 rfl (Nat.le_of_ble_eq_true rfl) dX4_changeBehind_19 ⟨Nat.zero_le _, Nat.zero_le _⟩) hw (fun r19 H locs hp19 hw => ?_)
        subst hp19
        have hp19f0 := psv_rng (by assumption : prep (X be) (X sa) (X p0 6) sv) pi
        refine lv_aload_n (pc := 22) hx hb dX4_changeBehind_22 rfl (lv_at hl 1 rfl) ?_
        refine lv_iload_n (pc := 23) hx hb dX4_changeBehind_23 rfl (lv_at hl 0 rfl) ?_
        refine ziconst (pc := 24) (n := 1) hx hb dX4_changeBehind_24 ?_
        refine zsub (pc := 25) hx hb dX4_changeBehind_25 ?_
        refine zkIp (pc := 26) (zrV (As := [.int (iI (pi - 1))]) hx hb hml hown hG hw (c_X4_pieceSaving l Γ K X Rf p0 (pi - 1) be sa sv (by (first | assumption | omega)) (by (first | assumption | omega)) (by (first | assumption | omega)) (by (first | assumption | omega)) (by (first | assumption | omega)) (by (first | assumption | omega)) (by (first | assumption | omega)) (by (first | assumption | omega))) (T := TX4) hk rfl cb_X4_pieceSaving wl_X4_68 rfl ⟨Nat.le_of_ble_eq_true rfl, Nat.le_of_ble_eq_true rfl⟩ hl.1 rfl (Nat.le_of_ble_eq_true rfl) dX4_changeBehind_26 ⟨Nat.zero_le _, Nat.zero_le _⟩) hw (fun r26 H locs hp26 hw => ?_)
        subst hp26
        have hp26f0 := psv_rng (by assumption : prep (X be) (X sa) (X p0 6) sv) (pi - 1)
        refine zicmp_eq (pc := 29) hx hb 38 (by omega) (by omega) dX4_changeBehind_29 (by decide) (fun c29 => ?_) (fun c29 => ?_)
        · skip
          refine ziinc (pc := 38) (lv' := [(2, .int (iI (pi + 1))), (0, .ref p0), (1, .int (iI moment))]) hx hb 0 dX4_changeBehind_38 hl rfl (by decide) rfl (fun ls hl => ?_)
          obtain ⟨x38, ex38⟩ : ∃ zz : Int, zz = (pi + 1) := ⟨_, rfl⟩
          rw [← ex38] at hl
          refine lv_goto (pc := 41) (tgt := 9) hx hb dX4_changeBehind_41 (by decide) ?_
          exact ih9 x38 _ _ (by (first | assumption | omega)) (by rw [ex38, ← ncF_step hp (by omega) (by omega) (by omega)]; exact h6) (by omega) hw _ (lv_sub hl [0, 1, 2] rfl)
        · skip
          refine lv_aload_n (pc := 32) hx hb dX4_changeBehind_32 rfl (lv_at hl 1 rfl) ?_
          refine lv_iload_n (pc := 33) hx hb dX4_changeBehind_33 rfl (lv_at hl 0 rfl) ?_
          refine zkIp (pc := 34) (zrV (As := [.int (iI pi)]) hx hb hml hown hG hw (c_X4_pieceBegin l Γ K X Rf p0 pi be sa sv (by (first | assumption | omega)) (by (first | assumption | omega)) (by (first | assumption | omega)) (by (first | assumption | omega)) (by (first | assumption | omega)) (by (first | assumption | omega)) (by (first | assumption | omega)) (by (first | assumption | omega))) (T := TX4) hk rfl cb_X4_pieceBegin wl_X4_71 rfl ⟨Nat.le_of_ble_eq_true rfl, Nat.le_of_ble_eq_true rfl⟩ hl.1 rfl (Nat.le_of_ble_eq_true rfl) dX4_changeBehind_34 ⟨Nat.zero_le _, Nat.zero_le _⟩) hw (fun r34 H locs hp34 hw => ?_)
          subst hp34
          have hp34f0 := pbg_rng (by assumption : prep (X be) (X sa) (X p0 6) sv) pi
          exact zretI (pc := 37) hx hb hlocks hr hw (Nat.zero_le _) (Nat.zero_le _) dX4_changeBehind_37 ⟨by (try dsimp only) <;> (rw [h6, ncF_hit hp (by omega) (by omega) (by omega)]), rfl, rfl, rfl⟩
  exact lp9 _ x8 _ _ (by (first | assumption | omega)) (by rw [ex8]; exact ncF_start hp hp3 h1.1 h1.2) (Nat.lt_succ_self _) hw _ (lv_sub hl [0, 1, 2] rfl)
set_option maxHeartbeats 4000000 in
set_option maxRecDepth 100000 in
theorem c_X4_shownIn (l : Launch) (Γ : zG) (K : zK) (X : zX) (Rf : zR) (p0 : Nat) (piece : Int) (loc : Int) (be : Nat) (sa : Nat) (sv : Int → Int) (hk : K p0 = (1, 3)) (hr4 : Rf p0 4 = some be) (hr5 : Rf p0 5 = some sa) (hkbe : K be = (2, 1201)) (hksa : K sa = (2, 1201)) (hp : prep (X be) (X sa) (X p0 6) sv) (hbase : -840 ≤ X p0 0 ∧ X p0 0 ≤ 840) (h1 : 0 ≤ piece ∧ piece ≤ 2000) (h2 : fit loc) : Ct l yX4_shownIn cX4_shownIn 5 (some .int) 2 0 0 Γ [.ref p0, .int (iI piece), .int (iI loc)] K X Rf (pI (zp0 K X Rf (fun r : Int => r = shi (X be) (X sa) (X p0 6) (X p0 0) piece loc))) := by
  refine Ct.of (by decide +kernel) (Nat.le_of_ble_eq_true rfl) ?_
  intro p e s m below meth c ls hx hb hr hml hown hG hlocks hname hw hl
  have hl : lv_has ls 5 [(0, .ref p0), (1, .int (iI piece)), (2, .int (iI loc))] := hl
  refine lv_iload_n (pc := 0) hx hb dX4_shownIn_0 rfl (lv_at hl 2 rfl) ?_
  refine zi2l (pc := 1) hx hb (by omega) dX4_shownIn_1 ?_
  refine lv_aload_n (pc := 2) hx hb dX4_shownIn_2 rfl (lv_at hl 0 rfl) ?_
  refine lv_iload_n (pc := 3) hx hb dX4_shownIn_3 rfl (lv_at hl 1 rfl) ?_
  refine zkIp (pc := 4) (zrV (As := [.int (iI piece)]) hx hb hml hown hG hw (c_X4_pieceShift l Γ K X Rf p0 piece be sa sv (by (first | assumption | omega)) (by (first | assumption | omega)) (by (first | assumption | omega)) (by (first | assumption | omega)) (by (first | assumption | omega)) (by (first | assumption | omega)) (by (first | assumption | omega)) (by (first | assumption | omega))) (T := TX4) hk rfl cb_X4_pieceShift wl_X4_81 rfl ⟨Nat.le_of_ble_eq_true rfl, Nat.le_of_ble_eq_true rfl⟩ hl.1 rfl (Nat.le_of_ble_eq_true rfl) dX4_shownIn_4 ⟨Nat.zero_le _, Nat.zero_le _⟩) hw (fun r4 H locs hp4 hw => ?_)
  subst hp4
  have hp4f0 := psv_rng (by assumption : prep (X be) (X sa) (X p0 6) sv) piece
  refine zi2l (pc := 7) hx hb (by omega) dX4_shownIn_7 ?_
  refine zlsub (pc := 8) hx hb dX4_shownIn_8 ?_
  refine ztopL (fun x9 ex9 => ?_)
  refine lv_lstore_n (pc := 9) (lv' := [(3, .long (lJ x9)), (0, .ref p0), (1, .int (iI piece)), (2, .int (iI loc))]) hx hb dX4_shownIn_9 rfl hl (by decide) rfl (fun ls hl => ?_)
  refine lv_lload_n (pc := 10) hx hb dX4_shownIn_10 rfl (lv_at hl 0 rfl) ?_
  refine lv_aload_n (pc := 11) hx hb dX4_shownIn_11 rfl (lv_at hl 1 rfl) ?_
  refine lv_iload_n (pc := 12) hx hb dX4_shownIn_12 rfl (lv_at hl 2 rfl) ?_
  refine zkIp (pc := 13) (zrV (As := [.int (iI piece)]) hx hb hml hown hG hw (c_X4_pieceBegin l Γ K X Rf p0 piece be sa sv (by (first | assumption | omega)) (by (first | assumption | omega)) (by (first | assumption | omega)) (by (first | assumption | omega)) (by (first | assumption | omega)) (by (first | assumption | omega)) (by (first | assumption | omega)) (by (first | assumption | omega))) (T := TX4) hk rfl cb_X4_pieceBegin wl_X4_71 rfl ⟨Nat.le_of_ble_eq_true rfl, Nat.le_of_ble_eq_true rfl⟩ hl.1 rfl (Nat.le_of_ble_eq_true rfl) dX4_shownIn_13 ⟨Nat.zero_le _, Nat.zero_le _⟩) hw (fun r13 H locs hp13 hw => ?_)
  subst hp13
  have hp13f0 := pbg_rng (by assumption : prep (X be) (X sa) (X p0 6) sv) piece
  refine zi2l (pc := 16) hx hb (by omega) dX4_shownIn_16 ?_
  refine zlcmp (pc := 17) hx hb ⟨by omega, by omega⟩ dX4_shownIn_17 (fun r17 hr17 => ?_)
  refine zif_lt (pc := 18) hx hb 39 (by omega) dX4_shownIn_18 (by decide) (fun c18 => ?_) (fun c18 => ?_)
  · skip
    refine ziconst (pc := 39) (n := (-1)) hx hb dX4_shownIn_39 ?_
    exact zretI (pc := 40) hx hb hlocks hr hw (Nat.zero_le _) (Nat.zero_le _) dX4_shownIn_40 ⟨by (try dsimp only) <;> (unfold shi; first | (rw [if_pos (by omega)]; omega) | (rw [if_neg (by omega)])), rfl, rfl, rfl⟩
  · skip
    refine lv_lload_n (pc := 21) hx hb dX4_shownIn_21 rfl (lv_at hl 0 rfl) ?_
    refine lv_aload_n (pc := 22) hx hb dX4_shownIn_22 rfl (lv_at hl 1 rfl) ?_
    refine lv_iload_n (pc := 23) hx hb dX4_shownIn_23 rfl (lv_at hl 2 rfl) ?_
    refine ziconst (pc := 24) (n := 1) hx hb dX4_shownIn_24 ?_
    refine zadd (pc := 25) hx hb dX4_shownIn_25 ?_
    refine zkIp (pc := 26) (zrV (As := [.int (iI (piece + 1))]) hx hb hml hown hG hw (c_X4_pieceBegin l Γ K X Rf p0 (piece + 1) be sa sv (by (first | assumption | omega)) (by (first | assumption | omega)) (by (first | assumption | omega)) (by (first | assumption | omega)) (by (first | assumption | omega)) (by (first | assumption | omega)) (by (first | assumption | omega)) (by (first | assumption | omega))) (T := TX4) hk rfl cb_X4_pieceBegin wl_X4_71 rfl ⟨Nat.le_of_ble_eq_true rfl, Nat.le_of_ble_eq_true rfl⟩ hl.1 rfl (Nat.le_of_ble_eq_true rfl) dX4_shownIn_26 ⟨Nat.zero_le _, Nat.zero_le _⟩) hw (fun r26 H locs hp26 hw => ?_)
    subst hp26
    have hp26f0 := pbg_rng (by assumption : prep (X be) (X sa) (X p0 6) sv) (piece + 1)
    refine zi2l (pc := 29) hx hb (by omega) dX4_shownIn_29 ?_
    refine zlcmp (pc := 30) hx hb ⟨by omega, by omega⟩ dX4_shownIn_30 (fun r30 hr30 => ?_)
    refine zif_ge (pc := 31) hx hb 39 (by omega) dX4_shownIn_31 (by decide) (fun c31 => ?_) (fun c31 => ?_)
    · skip
      refine ziconst (pc := 39) (n := (-1)) hx hb dX4_shownIn_39 ?_
      exact zretI (pc := 40) hx hb hlocks hr hw (Nat.zero_le _) (Nat.zero_le _) dX4_shownIn_40 ⟨by (try dsimp only) <;> (unfold shi; first | (rw [if_pos (by omega)]; omega) | (rw [if_neg (by omega)])), rfl, rfl, rfl⟩
    · skip
      refine lv_lload_n (pc := 34) hx hb dX4_shownIn_34 rfl (lv_at hl 0 rfl) ?_
      refine zl2i (pc := 35) hx hb dX4_shownIn_35 ?_
      refine lv_goto (pc := 36) (tgt := 40) hx hb dX4_shownIn_36 (by decide) ?_
      exact zretI (pc := 40) hx hb hlocks hr hw (Nat.zero_le _) (Nat.zero_le _) dX4_shownIn_40 ⟨by (try dsimp only) <;> (unfold shi; first | (rw [if_pos (by omega)]; omega) | (rw [if_neg (by omega)])), rfl, rfl, rfl⟩
set_option maxHeartbeats 4000000 in
set_option maxRecDepth 100000 in
theorem c_X4_earliest (l : Launch) (Γ : zG) (K : zK) (X : zX) (Rf : zR) (p0 : Nat) (loc : Int)  (hk : K p0 = (1, 3)) (hbase : -840 ≤ X p0 0 ∧ X p0 0 ≤ 840) (h1 : fit loc) : Ct l yX4_earliest cX4_earliest 2 (some .long) 0 0 0 Γ [.ref p0, .int (iI loc)] K X Rf (pL (zp0 K X Rf (fun r : Int => r = loc - X p0 0 - 180))) := by
  refine Ct.of (by decide +kernel) (Nat.le_of_ble_eq_true rfl) ?_
  intro p e s m below meth c ls hx hb hr hml hown hG hlocks hname hw hl
  have hl : lv_has ls 2 [(0, .ref p0), (1, .int (iI loc))] := hl
  refine lv_iload_n (pc := 0) hx hb dX4_earliest_0 rfl (lv_at hl 1 rfl) ?_
  refine zi2l (pc := 1) hx hb (by omega) dX4_earliest_1 ?_
  refine lv_aload_n (pc := 2) hx hb dX4_earliest_2 rfl (lv_at hl 0 rfl) ?_
  refine zgetI (pc := 3) hx hb hG hown hw hk (T := TX4) rfl 0 (by decide) rfl wf_X4_9 rfl dX4_earliest_3 ?_
  refine zi2l (pc := 6) hx hb (by omega) dX4_earliest_6 ?_
  refine zlsub (pc := 7) hx hb dX4_earliest_7 ?_
  refine zldc2 (pc := 8) (n := 180) hx hb hown hG wk_X4_84 dX4_earliest_8 ?_
  refine zlsub (pc := 11) hx hb dX4_earliest_11 ?_
  exact zretL (pc := 12) hx hb hlocks hr hw (Nat.zero_le _) (Nat.zero_le _) dX4_earliest_12 ⟨by (try dsimp only) <;> ((first | assumption | omega)), rfl, rfl, rfl⟩
set_option maxHeartbeats 4000000 in
set_option maxRecDepth 100000 in
theorem c_X4_latest (l : Launch) (Γ : zG) (K : zK) (X : zX) (Rf : zR) (p0 : Nat) (loc : Int)  (hk : K p0 = (1, 3)) (hbase : -840 ≤ X p0 0 ∧ X p0 0 ≤ 840) (h1 : fit loc) : Ct l yX4_latest cX4_latest 2 (some .long) 0 0 0 Γ [.ref p0, .int (iI loc)] K X Rf (pL (zp0 K X Rf (fun r : Int => r = loc - X p0 0))) := by
  refine Ct.of (by decide +kernel) (Nat.le_of_ble_eq_true rfl) ?_
  intro p e s m below meth c ls hx hb hr hml hown hG hlocks hname hw hl
  have hl : lv_has ls 2 [(0, .ref p0), (1, .int (iI loc))] := hl
  refine lv_iload_n (pc := 0) hx hb dX4_latest_0 rfl (lv_at hl 1 rfl) ?_
  refine zi2l (pc := 1) hx hb (by omega) dX4_latest_1 ?_
  refine lv_aload_n (pc := 2) hx hb dX4_latest_2 rfl (lv_at hl 0 rfl) ?_
  refine zgetI (pc := 3) hx hb hG hown hw hk (T := TX4) rfl 0 (by decide) rfl wf_X4_9 rfl dX4_latest_3 ?_
  refine zi2l (pc := 6) hx hb (by omega) dX4_latest_6 ?_
  refine zlsub (pc := 7) hx hb dX4_latest_7 ?_
  exact zretL (pc := 8) hx hb hlocks hr hw (Nat.zero_le _) (Nat.zero_le _) dX4_latest_8 ⟨by (try dsimp only) <;> ((first | assumption | omega)), rfl, rfl, rfl⟩
set_option maxHeartbeats 4000000 in
set_option maxRecDepth 100000 in
theorem c_X4_countShown (l : Launch) (Γ : zG) (K : zK) (X : zX) (Rf : zR) (p0 : Nat) (loc : Int) (be : Nat) (sa : Nat) (sv : Int → Int) (hk : K p0 = (1, 3)) (hr4 : Rf p0 4 = some be) (hr5 : Rf p0 5 = some sa) (hkbe : K be = (2, 1201)) (hksa : K sa = (2, 1201)) (hp : prep (X be) (X sa) (X p0 6) sv) (hbase : -840 ≤ X p0 0 ∧ X p0 0 ≤ 840) (h1 : fit loc) : Ct l yX4_countShown cX4_countShown 5 (some .int) 3 0 0 Γ [.ref p0, .int (iI loc)] K X Rf (pI (zp0 K X Rf (fun r : Int => r = shN sv (X p0 0) loc))) := by
  refine Ct.of (by decide +kernel) (Nat.le_of_ble_eq_true rfl) ?_
  intro p e s m below meth c ls hx hb hr hml hown hG hlocks hname hw hl
  have hl : lv_has ls 5 [(0, .ref p0), (1, .int (iI loc))] := hl
  refine lv_aload_n (pc := 0) hx hb dX4_countShown_0 rfl (lv_at hl 0 rfl) ?_
  refine lv_aload_n (pc := 1) hx hb dX4_countShown_1 rfl (lv_at hl 0 rfl) ?_
  refine lv_iload_n (pc := 2) hx hb dX4_countShown_2 rfl (lv_at hl 1 rfl) ?_
  refine zkLp (pc := 3) (zrV (As := [.int (iI loc)]) hx hb hml hown hG hw (c_X4_latest l Γ K X Rf p0 loc  (by (first | assumption | omega)) (by (first | assumption | omega)) (by (first | assumption | omega))) (T := TX4) hk rfl cb_X4_latest wl_X4_86 rfl ⟨Nat.le_of_ble_eq_true rfl, Nat.le_of_ble_eq_true rfl⟩ hl.1 rfl (Nat.le_of_ble_eq_true rfl) dX4_countShown_3 ⟨Nat.zero_le _, Nat.zero_le _⟩) hw (fun r3 H locs hp3 hw => ?_)
  subst hp3
  refine zkIp (pc := 6) (zrV (As := [.long (lJ (loc - X p0 0))]) hx hb hml hown hG hw (c_X4_pieceWith l Γ K X Rf p0 (loc - X p0 0) be sa sv (by (first | assumption | omega)) (by (first | assumption | omega)) (by (first | assumption | omega)) (by (first | assumption | omega)) (by (first | assumption | omega)) (by (first | assumption | omega)) (by (first | assumption | omega)) (by (first | assumption | omega))) (T := TX4) hk rfl cb_X4_pieceWith wl_X4_74 rfl ⟨Nat.le_of_ble_eq_true rfl, Nat.le_of_ble_eq_true rfl⟩ hl.1 rfl (Nat.le_of_ble_eq_true rfl) dX4_countShown_6 ⟨Nat.zero_le _, Nat.zero_le _⟩) hw (fun r6 H locs hp6 hw => ?_)
  have hp6f0 := hp6
  have hpc := hp.1
  have hpw := hp6.1
  refine lv_istore_n (pc := 9) (lv' := [(2, .int (iI r6)), (0, .ref p0), (1, .int (iI loc))]) hx hb dX4_countShown_9 rfl hl (by decide) rfl (fun ls hl => ?_)
  refine ziconst (pc := 10) (n := 0) hx hb dX4_countShown_10 ?_
  refine lv_istore_n (pc := 11) (lv' := [(3, .int (iI 0)), (2, .int (iI r6)), (0, .ref p0), (1, .int (iI loc))]) hx hb dX4_countShown_11 rfl hl (by decide) rfl (fun ls hl => ?_)
  refine lv_aload_n (pc := 12) hx hb dX4_countShown_12 rfl (lv_at hl 2 rfl) ?_
  refine lv_aload_n (pc := 13) hx hb dX4_countShown_13 rfl (lv_at hl 2 rfl) ?_
  refine lv_iload_n (pc := 14) hx hb dX4_countShown_14 rfl (lv_at hl 3 rfl) ?_
  refine zkLp (pc := 15) (zrV (As := [.int (iI loc)]) hx hb hml hown hG hw (c_X4_earliest l Γ K X Rf p0 loc  (by (first | assumption | omega)) (by (first | assumption | omega)) (by (first | assumption | omega))) (T := TX4) hk rfl cb_X4_earliest wl_X4_90 rfl ⟨Nat.le_of_ble_eq_true rfl, Nat.le_of_ble_eq_true rfl⟩ hl.1 rfl (Nat.le_of_ble_eq_true rfl) dX4_countShown_15 ⟨Nat.zero_le _, Nat.zero_le _⟩) hw (fun r15 H locs hp15 hw => ?_)
  subst hp15
  refine zkIp (pc := 18) (zrV (As := [.long (lJ (loc - X p0 0 - 180))]) hx hb hml hown hG hw (c_X4_pieceWith l Γ K X Rf p0 (loc - X p0 0 - 180) be sa sv (by (first | assumption | omega)) (by (first | assumption | omega)) (by (first | assumption | omega)) (by (first | assumption | omega)) (by (first | assumption | omega)) (by (first | assumption | omega)) (by (first | assumption | omega)) (by (first | assumption | omega))) (T := TX4) hk rfl cb_X4_pieceWith wl_X4_74 rfl ⟨Nat.le_of_ble_eq_true rfl, Nat.le_of_ble_eq_true rfl⟩ hl.1 rfl (Nat.le_of_ble_eq_true rfl) dX4_countShown_18 ⟨Nat.zero_le _, Nat.zero_le _⟩) hw (fun r18 H locs hp18 hw => ?_)
  have hp18f0 := hp18
  refine lv_istore (pc := 21) (lv' := [(4, .int (iI r18)), (3, .int (iI 0)), (2, .int (iI r6)), (0, .ref p0), (1, .int (iI loc))]) hx hb dX4_countShown_21 hl (by decide) rfl (fun ls hl => ?_)
  have lp23 : ∀ (n23 : Nat) (pi : Int) (ct : Int) (H : Heap) (locs : List Loc), (h5 : 0 ≤ pi ∧ pi ≤ r6 + 1) → (h6 : ct = cP (shw sv (X p0 0) loc) (pbg (X be) (X p0 6) pi - 0).toNat 0) → ((2000 - pi).toNat < n23) → Wd Γ (zA K s.heap.size) K X Rf s H locs → ∀ ls : Array Slot, lv_has ls 5 [(4, .int (iI pi)), (3, .int (iI ct)), (2, .int (iI r6)), (0, .ref p0), (1, .int (iI loc))] → W p l e (rmL 3 0 0) s m ([.ref p0, .int (iI loc)] : List Value).toArray below meth c H locs 0 0 (MQ below (zQ Γ K s.heap.size (pI (zp0 K X Rf (fun r : Int => r = shN sv (X p0 0) loc)))) ([.ref p0, .int (iI loc)] : List Value).toArray s 0 0 (zA K s.heap.size)) (F0 m 23 ls []) := by
    intro n23
    induction n23 with
    | zero => intro pi ct H locs h5 h6 hm23; exact absurd hm23 (Nat.not_lt_zero _)
    | succ n23 ih23 =>
      intro pi ct H locs h5 h6 hm23 hw ls hl
      have hct := cP_rng (p := shw sv (X p0 0) loc) (b := pbg (X be) (X p0 6) pi) 0
      have hbg := pbg_rng hp pi
      refine lv_iload (pc := 23) hx hb dX4_countShown_23 (lv_at hl 0 rfl) ?_
      refine lv_iload_n (pc := 25) hx hb dX4_countShown_25 rfl (lv_at hl 2 rfl) ?_
      refine zicmp_gt (pc := 26) hx hb 48 (by omega) (by omega) dX4_countShown_26 (by decide) (fun c26 => ?_) (fun c26 => ?_)
      · skip
        refine lv_iload_n (pc := 48) hx hb dX4_countShown_48 rfl (lv_at hl 1 rfl) ?_
        exact zretI (pc := 49) hx hb hlocks hr hw (Nat.zero_le _) (Nat.zero_le _) dX4_countShown_49 ⟨by (try dsimp only) <;> (rw [shN_end hp hp6 (i := pi) (by omega)]; exact h6), rfl, rfl, rfl⟩
      · skip
        refine lv_aload_n (pc := 29) hx hb dX4_countShown_29 rfl (lv_at hl 3 rfl) ?_
        refine lv_iload (pc := 30) hx hb dX4_countShown_30 (lv_at hl 0 rfl) ?_
        refine lv_iload_n (pc := 32) hx hb dX4_countShown_32 rfl (lv_at hl 4 rfl) ?_
        refine zkIp (pc := 33) (zrV (As := [.int (iI pi), .int (iI loc)]) hx hb hml hown hG hw (c_X4_shownIn l Γ K X Rf p0 pi loc be sa sv (by (first | assumption | omega)) (by (first | assumption | omega)) (by (first | assumption | omega)) (by (first | assumption | omega)) (by (first | assumption | omega)) (by (first | assumption | omega)) (by (first | assumption | omega)) (by (first | assumption | omega)) (by (first | assumption | omega))) (T := TX4) hk rfl cb_X4_shownIn wl_X4_93 rfl ⟨Nat.le_of_ble_eq_true rfl, Nat.le_of_ble_eq_true rfl⟩ hl.1 rfl (Nat.le_of_ble_eq_true rfl) dX4_countShown_33 ⟨Nat.zero_le _, Nat.zero_le _⟩) hw (fun r33 H locs hp33 hw => ?_)
        subst hp33
        have hp33f0 := shi_rng (by assumption : prep (X be) (X sa) (X p0 6) sv) (X p0 0) pi loc
        refine zif_lt (pc := 36) hx hb 42 (by omega) dX4_countShown_36 (by decide) (fun c36 => ?_) (fun c36 => ?_)
        · skip
          refine ziinc (pc := 42) (lv' := [(4, .int (iI (pi + 1))), (3, .int (iI ct)), (2, .int (iI r6)), (0, .ref p0), (1, .int (iI loc))]) hx hb 0 dX4_countShown_42 hl rfl (by decide) rfl (fun ls hl => ?_)
          obtain ⟨x42, ex42⟩ : ∃ zz : Int, zz = (pi + 1) := ⟨_, rfl⟩
          rw [← ex42] at hl
          refine lv_goto (pc := 45) (tgt := 23) hx hb dX4_countShown_45 (by decide) ?_
          exact ih23 x42 ct _ _ (by (first | assumption | omega)) (by rw [ex42, shN_step hp (by omega) (by omega), ← h6]; first | (rw [if_pos (by omega)]; omega) | (rw [if_neg (by omega)]; omega)) (by omega) hw _ (lv_sub hl [0, 1, 2, 3, 4] rfl)
        · skip
          refine ziinc (pc := 39) (lv' := [(3, .int (iI (ct + 1))), (4, .int (iI pi)), (2, .int (iI r6)), (0, .ref p0), (1, .int (iI loc))]) hx hb 1 dX4_countShown_39 hl rfl (by decide) rfl (fun ls hl => ?_)
          obtain ⟨x39, ex39⟩ : ∃ zz : Int, zz = (ct + 1) := ⟨_, rfl⟩
          rw [← ex39] at hl
          refine ziinc (pc := 42) (lv' := [(4, .int (iI (pi + 1))), (3, .int (iI x39)), (2, .int (iI r6)), (0, .ref p0), (1, .int (iI loc))]) hx hb 1 dX4_countShown_42 hl rfl (by decide) rfl (fun ls hl => ?_)
          obtain ⟨x42, ex42⟩ : ∃ zz : Int, zz = (pi + 1) := ⟨_, rfl⟩
          rw [← ex42] at hl
          refine lv_goto (pc := 45) (tgt := 23) hx hb dX4_countShown_45 (by decide) ?_
          exact ih23 x42 x39 _ _ (by (first | assumption | omega)) (by rw [ex42, shN_step hp (by omega) (by omega), ← h6]; first | (rw [if_pos (by omega)]; omega) | (rw [if_neg (by omega)]; omega)) (by omega) hw _ (lv_sub hl [0, 1, 2, 3, 4] rfl)
  exact lp23 _ r18 0 _ _ (by have := pw_le hp hp18 hp6 (by omega); have := hp18.1; omega) (by rw [shN_start hp hp18]) (Nat.lt_succ_self _) hw _ (lv_sub hl [0, 1, 2, 3, 4] rfl)
set_option maxHeartbeats 4000000 in
set_option maxRecDepth 100000 in
theorem c_X4_lastShown (l : Launch) (Γ : zG) (K : zK) (X : zX) (Rf : zR) (p0 : Nat) (loc : Int) (be : Nat) (sa : Nat) (sv : Int → Int) (hk : K p0 = (1, 3)) (hr4 : Rf p0 4 = some be) (hr5 : Rf p0 5 = some sa) (hkbe : K be = (2, 1201)) (hksa : K sa = (2, 1201)) (hp : prep (X be) (X sa) (X p0 6) sv) (hbase : -840 ≤ X p0 0 ∧ X p0 0 ≤ 840) (h1 : fit loc) : Ct l yX4_lastShown cX4_lastShown 5 (some .int) 3 0 0 Γ [.ref p0, .int (iI loc)] K X Rf (pI (zp0 K X Rf (fun r : Int => r = shL sv (X p0 0) loc))) := by
  refine Ct.of (by decide +kernel) (Nat.le_of_ble_eq_true rfl) ?_
  intro p e s m below meth c ls hx hb hr hml hown hG hlocks hname hw hl
  have hl : lv_has ls 5 [(0, .ref p0), (1, .int (iI loc))] := hl
  refine lv_aload_n (pc := 0) hx hb dX4_lastShown_0 rfl (lv_at hl 0 rfl) ?_
  refine lv_aload_n (pc := 1) hx hb dX4_lastShown_1 rfl (lv_at hl 0 rfl) ?_
  refine lv_iload_n (pc := 2) hx hb dX4_lastShown_2 rfl (lv_at hl 1 rfl) ?_
  refine zkLp (pc := 3) (zrV (As := [.int (iI loc)]) hx hb hml hown hG hw (c_X4_earliest l Γ K X Rf p0 loc  (by (first | assumption | omega)) (by (first | assumption | omega)) (by (first | assumption | omega))) (T := TX4) hk rfl cb_X4_earliest wl_X4_90 rfl ⟨Nat.le_of_ble_eq_true rfl, Nat.le_of_ble_eq_true rfl⟩ hl.1 rfl (Nat.le_of_ble_eq_true rfl) dX4_lastShown_3 ⟨Nat.zero_le _, Nat.zero_le _⟩) hw (fun r3 H locs hp3 hw => ?_)
  subst hp3
  refine zkIp (pc := 6) (zrV (As := [.long (lJ (loc - X p0 0 - 180))]) hx hb hml hown hG hw (c_X4_pieceWith l Γ K X Rf p0 (loc - X p0 0 - 180) be sa sv (by (first | assumption | omega)) (by (first | assumption | omega)) (by (first | assumption | omega)) (by (first | assumption | omega)) (by (first | assumption | omega)) (by (first | assumption | omega)) (by (first | assumption | omega)) (by (first | assumption | omega))) (T := TX4) hk rfl cb_X4_pieceWith wl_X4_74 rfl ⟨Nat.le_of_ble_eq_true rfl, Nat.le_of_ble_eq_true rfl⟩ hl.1 rfl (Nat.le_of_ble_eq_true rfl) dX4_lastShown_6 ⟨Nat.zero_le _, Nat.zero_le _⟩) hw (fun r6 H locs hp6 hw => ?_)
  have hp6f0 := hp6
  have hpc := hp.1
  have hpw := hp6.1
  refine lv_istore_n (pc := 9) (lv' := [(2, .int (iI r6)), (0, .ref p0), (1, .int (iI loc))]) hx hb dX4_lastShown_9 rfl hl (by decide) rfl (fun ls hl => ?_)
  refine lv_aload_n (pc := 10) hx hb dX4_lastShown_10 rfl (lv_at hl 1 rfl) ?_
  refine lv_aload_n (pc := 11) hx hb dX4_lastShown_11 rfl (lv_at hl 1 rfl) ?_
  refine lv_iload_n (pc := 12) hx hb dX4_lastShown_12 rfl (lv_at hl 2 rfl) ?_
  refine zkLp (pc := 13) (zrV (As := [.int (iI loc)]) hx hb hml hown hG hw (c_X4_latest l Γ K X Rf p0 loc  (by (first | assumption | omega)) (by (first | assumption | omega)) (by (first | assumption | omega))) (T := TX4) hk rfl cb_X4_latest wl_X4_86 rfl ⟨Nat.le_of_ble_eq_true rfl, Nat.le_of_ble_eq_true rfl⟩ hl.1 rfl (Nat.le_of_ble_eq_true rfl) dX4_lastShown_13 ⟨Nat.zero_le _, Nat.zero_le _⟩) hw (fun r13 H locs hp13 hw => ?_)
  subst hp13
  refine zkIp (pc := 16) (zrV (As := [.long (lJ (loc - X p0 0))]) hx hb hml hown hG hw (c_X4_pieceWith l Γ K X Rf p0 (loc - X p0 0) be sa sv (by (first | assumption | omega)) (by (first | assumption | omega)) (by (first | assumption | omega)) (by (first | assumption | omega)) (by (first | assumption | omega)) (by (first | assumption | omega)) (by (first | assumption | omega)) (by (first | assumption | omega))) (T := TX4) hk rfl cb_X4_pieceWith wl_X4_74 rfl ⟨Nat.le_of_ble_eq_true rfl, Nat.le_of_ble_eq_true rfl⟩ hl.1 rfl (Nat.le_of_ble_eq_true rfl) dX4_lastShown_16 ⟨Nat.zero_le _, Nat.zero_le _⟩) hw (fun r16 H locs hp16 hw => ?_)
  have hp16f0 := hp16
  have hpw2 := hp16.1
  refine lv_istore_n (pc := 19) (lv' := [(3, .int (iI r16)), (2, .int (iI r6)), (0, .ref p0), (1, .int (iI loc))]) hx hb dX4_lastShown_19 rfl hl (by decide) rfl (fun ls hl => ?_)
  have lp20 : ∀ (n20 : Nat) (pi : Int) (H : Heap) (locs : List Loc), (h5 : r6 - 1 ≤ pi ∧ pi ≤ r16) → (h6 : shL sv (X p0 0) loc = lP (shw sv (X p0 0) loc) (pbg (X be) (X p0 6) (pi + 1) - 0).toNat 0) → ((pi + 1).toNat < n20) → Wd Γ (zA K s.heap.size) K X Rf s H locs → ∀ ls : Array Slot, lv_has ls 5 [(3, .int (iI pi)), (2, .int (iI r6)), (0, .ref p0), (1, .int (iI loc))] → W p l e (rmL 3 0 0) s m ([.ref p0, .int (iI loc)] : List Value).toArray below meth c H locs 0 0 (MQ below (zQ Γ K s.heap.size (pI (zp0 K X Rf (fun r : Int => r = shL sv (X p0 0) loc)))) ([.ref p0, .int (iI loc)] : List Value).toArray s 0 0 (zA K s.heap.size)) (F0 m 20 ls []) := by
    intro n20
    induction n20 with
    | zero => intro pi H locs h5 h6 hm20; exact absurd hm20 (Nat.not_lt_zero _)
    | succ n20 ih20 =>
      intro pi H locs h5 h6 hm20 hw ls hl
      refine lv_iload_n (pc := 20) hx hb dX4_lastShown_20 rfl (lv_at hl 0 rfl) ?_
      refine lv_iload_n (pc := 21) hx hb dX4_lastShown_21 rfl (lv_at hl 1 rfl) ?_
      refine zicmp_lt (pc := 22) hx hb 47 (by omega) (by omega) dX4_lastShown_22 (by decide) (fun c22 => ?_) (fun c22 => ?_)
      · skip
        refine ziconst (pc := 47) (n := (-1)) hx hb dX4_lastShown_47 ?_
        exact zretI (pc := 48) hx hb hlocks hr hw (Nat.zero_le _) (Nat.zero_le _) dX4_lastShown_48 ⟨by (try dsimp only) <;> (rw [h6, show pi + 1 = r6 by omega, shL_end hp hp6]), rfl, rfl, rfl⟩
      · skip
        refine lv_aload_n (pc := 25) hx hb dX4_lastShown_25 rfl (lv_at hl 2 rfl) ?_
        refine lv_iload_n (pc := 26) hx hb dX4_lastShown_26 rfl (lv_at hl 0 rfl) ?_
        refine lv_iload_n (pc := 27) hx hb dX4_lastShown_27 rfl (lv_at hl 3 rfl) ?_
        refine zkIp (pc := 28) (zrV (As := [.int (iI pi), .int (iI loc)]) hx hb hml hown hG hw (c_X4_shownIn l Γ K X Rf p0 pi loc be sa sv (by (first | assumption | omega)) (by (first | assumption | omega)) (by (first | assumption | omega)) (by (first | assumption | omega)) (by (first | assumption | omega)) (by (first | assumption | omega)) (by (first | assumption | omega)) (by (first | assumption | omega)) (by (first | assumption | omega))) (T := TX4) hk rfl cb_X4_shownIn wl_X4_93 rfl ⟨Nat.le_of_ble_eq_true rfl, Nat.le_of_ble_eq_true rfl⟩ hl.1 rfl (Nat.le_of_ble_eq_true rfl) dX4_lastShown_28 ⟨Nat.zero_le _, Nat.zero_le _⟩) hw (fun r28 H locs hp28 hw => ?_)
        subst hp28
        have hp28f0 := shi_rng (by assumption : prep (X be) (X sa) (X p0 6) sv) (X p0 0) pi loc
        refine ztop (fun x31 ex31 => ?_)
        refine lv_istore (pc := 31) (lv' := [(4, .int (iI x31)), (3, .int (iI pi)), (2, .int (iI r6)), (0, .ref p0), (1, .int (iI loc))]) hx hb dX4_lastShown_31 hl (by decide) rfl (fun ls hl => ?_)
        refine lv_iload (pc := 33) hx hb dX4_lastShown_33 (lv_at hl 0 rfl) ?_
        refine zif_lt (pc := 35) hx hb 41 (by omega) dX4_lastShown_35 (by decide) (fun c35 => ?_) (fun c35 => ?_)
        · skip
          refine ziinc (pc := 41) (lv' := [(3, .int (iI (pi + (-1)))), (4, .int (iI x31)), (2, .int (iI r6)), (0, .ref p0), (1, .int (iI loc))]) hx hb 1 dX4_lastShown_41 hl rfl (by decide) rfl (fun ls hl => ?_)
          obtain ⟨x41, ex41⟩ : ∃ zz : Int, zz = (pi + (-1)) := ⟨_, rfl⟩
          rw [← ex41] at hl
          refine lv_goto (pc := 44) (tgt := 20) hx hb dX4_lastShown_44 (by decide) ?_
          exact ih20 x41 _ _ (by (first | assumption | omega)) (by rw [show x41 + 1 = pi by omega, ← shL_step hp (by omega) (by omega) (by omega)]; exact h6) (by omega) hw _ (lv_sub hl [0, 2, 3, 4] rfl)
        · skip
          refine lv_iload (pc := 38) hx hb dX4_lastShown_38 (lv_at hl 0 rfl) ?_
          exact zretI (pc := 40) hx hb hlocks hr hw (Nat.zero_le _) (Nat.zero_le _) dX4_lastShown_40 ⟨by (try dsimp only) <;> (rw [h6, shL_hit hp (by omega) (by omega) (by omega)]; omega), rfl, rfl, rfl⟩
  exact lp20 _ r16 _ _ (by have := pw_le hp hp6 hp16 (by omega); omega) (by exact shL_start hp hp16) (Nat.lt_succ_self _) hw _ (lv_sub hl [0, 1, 2, 3] rfl)
set_option maxHeartbeats 4000000 in
set_option maxRecDepth 100000 in
theorem c_X4_momentPassing (l : Launch) (Γ : zG) (K : zK) (X : zX) (Rf : zR) (p0 : Nat) (loc : Int) (fst_ : Int) (lst_ : Int) (be : Nat) (sa : Nat) (sv : Int → Int) (hk : K p0 = (1, 3)) (hr4 : Rf p0 4 = some be) (hr5 : Rf p0 5 = some sa) (hkbe : K be = (2, 1201)) (hksa : K sa = (2, 1201)) (hp : prep (X be) (X sa) (X p0 6) sv) (hbase : -840 ≤ X p0 0 ∧ X p0 0 ≤ 840) (h1 : fit loc) (h2 : pwOK (X be) (X p0 6) (loc - X p0 0 - 180) fst_) (h3 : pwOK (X be) (X p0 6) (loc - X p0 0) lst_) : Ct l yX4_momentPassing cX4_momentPassing 7 (some .int) 2 0 0 Γ [.ref p0, .int (iI loc), .int (iI fst_), .int (iI lst_)] K X Rf (pI (zp0 K X Rf (fun r : Int => r = psF sv (X p0 0) loc))) := by
  refine Ct.of (by decide +kernel) (Nat.le_of_ble_eq_true rfl) ?_
  intro p e s m below meth c ls hx hb hr hml hown hG hlocks hname hw hl
  have hl : lv_has ls 7 [(0, .ref p0), (1, .int (iI loc)), (2, .int (iI fst_)), (3, .int (iI lst_))] := hl
  have hpc := hp.1
  have hpw2 := h2.1
  have hpw3 := h3.1
  have hle := pw_le hp h2 h3 (by omega)
  refine ziconst (pc := 0) (n := 1) hx hb dX4_momentPassing_0 ?_
  refine lv_iload_n (pc := 1) hx hb dX4_momentPassing_1 rfl (lv_at hl 2 rfl) ?_
  refine zmax (pc := 2) hx hb (hml.trans hl.1.symm) hown hG wl_X4_57 w1_zmx wi_javalangMath w2_zmx (Nat.le_of_ble_eq_true rfl) (Nat.le_of_ble_eq_true rfl) (Nat.zero_le _) (Nat.zero_le _) ⟨by omega, by omega⟩ dX4_momentPassing_2 ?_
  refine ztop (fun x5 ex5 => ?_)
  refine lv_istore (pc := 5) (lv' := [(4, .int (iI x5)), (0, .ref p0), (1, .int (iI loc)), (2, .int (iI fst_)), (3, .int (iI lst_))]) hx hb dX4_momentPassing_5 hl (by decide) rfl (fun ls hl => ?_)
  have lp7 : ∀ (n7 : Nat) (pi : Int) (H : Heap) (locs : List Loc), (h5 : 1 ≤ pi ∧ pi ≤ lst_ + 1) → (h6 : psF sv (X p0 0) loc = fP (psg sv (X p0 0) loc) (105190560 - pbg (X be) (X p0 6) pi).toNat (pbg (X be) (X p0 6) pi)) → ((2000 - pi).toNat < n7) → Wd Γ (zA K s.heap.size) K X Rf s H locs → ∀ ls : Array Slot, lv_has ls 7 [(4, .int (iI pi)), (0, .ref p0), (1, .int (iI loc)), (2, .int (iI fst_)), (3, .int (iI lst_))] → W p l e (rmL 2 0 0) s m ([.ref p0, .int (iI loc), .int (iI fst_), .int (iI lst_)] : List Value).toArray below meth c H locs 0 0 (MQ below (zQ Γ K s.heap.size (pI (zp0 K X Rf (fun r : Int => r = psF sv (X p0 0) loc)))) ([.ref p0, .int (iI loc), .int (iI fst_), .int (iI lst_)] : List Value).toArray s 0 0 (zA K s.heap.size)) (F0 m 7 ls []) := by
    intro n7
    induction n7 with
    | zero => intro pi H locs h5 h6 hm7; exact absurd hm7 (Nat.not_lt_zero _)
    | succ n7 ih7 =>
      intro pi H locs h5 h6 hm7 hw ls hl
      refine lv_iload (pc := 7) hx hb dX4_momentPassing_7 (lv_at hl 0 rfl) ?_
      refine lv_iload_n (pc := 9) hx hb dX4_momentPassing_9 rfl (lv_at hl 4 rfl) ?_
      refine zicmp_gt (pc := 10) hx hb 72 (by omega) (by omega) dX4_momentPassing_10 (by decide) (fun c10 => ?_) (fun c10 => ?_)
      · skip
        refine ziconst (pc := 72) (n := (-1)) hx hb dX4_momentPassing_72 ?_
        exact zretI (pc := 73) hx hb hlocks hr hw (Nat.zero_le _) (Nat.zero_le _) dX4_momentPassing_73 ⟨by (try dsimp only) <;> (rw [h6, psF_end hp h3 (by omega) (by omega)]), rfl, rfl, rfl⟩
      · skip
        refine lv_aload_n (pc := 13) hx hb dX4_momentPassing_13 rfl (lv_at hl 1 rfl) ?_
        refine lv_iload (pc := 14) hx hb dX4_momentPassing_14 (lv_at hl 0 rfl) ?_
        refine zkIp (pc := 16) (zrV (As := [.int (iI pi)]) hx hb hml hown hG hw (c_X4_pieceBegin l Γ K X Rf p0 pi be sa sv (by (first | assumption | omega)) (by (first | assumption | omega)) (by (first | assumption | omega)) (by (first | assumption | omega)) (by (first | assumption | omega)) (by (first | assumption | omega)) (by (first | assumption | omega)) (by (first | assumption | omega))) (T := TX4) hk rfl cb_X4_pieceBegin wl_X4_71 rfl ⟨Nat.le_of_ble_eq_true rfl, Nat.le_of_ble_eq_true rfl⟩ hl.1 rfl (Nat.le_of_ble_eq_true rfl) dX4_momentPassing_16 ⟨Nat.zero_le _, Nat.zero_le _⟩) hw (fun r16 H locs hp16 hw => ?_)
        subst hp16
        have hp16f0 := pbg_rng (by assumption : prep (X be) (X sa) (X p0 6) sv) pi
        refine ztop (fun x19 ex19 => ?_)
        refine lv_istore (pc := 19) (lv' := [(5, .int (iI x19)), (4, .int (iI pi)), (0, .ref p0), (1, .int (iI loc)), (2, .int (iI fst_)), (3, .int (iI lst_))]) hx hb dX4_momentPassing_19 hl (by decide) rfl (fun ls hl => ?_)
        refine lv_iload (pc := 21) hx hb dX4_momentPassing_21 (lv_at hl 0 rfl) ?_
        refine ziconst (pc := 23) (n := 1) hx hb dX4_momentPassing_23 ?_
        refine zsub (pc := 24) hx hb dX4_momentPassing_24 ?_
        refine lv_aload_n (pc := 25) hx hb dX4_momentPassing_25 rfl (lv_at hl 2 rfl) ?_
        refine lv_iload (pc := 26) hx hb dX4_momentPassing_26 (lv_at hl 1 rfl) ?_
        refine ziconst (pc := 28) (n := 1) hx hb dX4_momentPassing_28 ?_
        refine zsub (pc := 29) hx hb dX4_momentPassing_29 ?_
        refine zkIp (pc := 30) (zrV (As := [.int (iI (pi - 1))]) hx hb hml hown hG hw (c_X4_pieceShift l Γ K X Rf p0 (pi - 1) be sa sv (by (first | assumption | omega)) (by (first | assumption | omega)) (by (first | assumption | omega)) (by (first | assumption | omega)) (by (first | assumption | omega)) (by (first | assumption | omega)) (by (first | assumption | omega)) (by (first | assumption | omega))) (T := TX4) hk rfl cb_X4_pieceShift wl_X4_81 rfl ⟨Nat.le_of_ble_eq_true rfl, Nat.le_of_ble_eq_true rfl⟩ hl.1 rfl (Nat.le_of_ble_eq_true rfl) dX4_momentPassing_30 ⟨Nat.zero_le _, Nat.zero_le _⟩) hw (fun r30 H locs hp30 hw => ?_)
        subst hp30
        have hp30f0 := psv_rng (by assumption : prep (X be) (X sa) (X p0 6) sv) (pi - 1)
        refine zadd (pc := 33) hx hb dX4_momentPassing_33 ?_
        refine lv_iload_n (pc := 34) hx hb dX4_momentPassing_34 rfl (lv_at hl 3 rfl) ?_
        refine zicmp_ge (pc := 35) hx hb 42 (by omega) (by omega) dX4_momentPassing_35 (by decide) (fun c35 => ?_) (fun c35 => ?_)
        · skip
          refine ziconst (pc := 42) (n := 0) hx hb dX4_momentPassing_42 ?_
          refine lv_istore (pc := 43) (lv' := [(6, .int (iI 0)), (5, .int (iI x19)), (4, .int (iI pi)), (0, .ref p0), (1, .int (iI loc)), (2, .int (iI fst_)), (3, .int (iI lst_))]) hx hb dX4_momentPassing_43 hl (by decide) rfl (fun ls hl => ?_)
          refine lv_iload (pc := 45) hx hb dX4_momentPassing_45 (lv_at hl 0 rfl) ?_
          refine zif_eq (pc := 47) hx hb 66 (by omega) dX4_momentPassing_47 (by decide) (fun c47 => ?_) (fun c47 => ?_)
          · skip
            refine ziinc (pc := 66) (lv' := [(4, .int (iI (pi + 1))), (6, .int (iI 0)), (5, .int (iI x19)), (0, .ref p0), (1, .int (iI loc)), (2, .int (iI fst_)), (3, .int (iI lst_))]) hx hb 2 dX4_momentPassing_66 hl rfl (by decide) rfl (fun ls hl => ?_)
            obtain ⟨x66, ex66⟩ : ∃ zz : Int, zz = (pi + 1) := ⟨_, rfl⟩
            rw [← ex66] at hl
            refine lv_goto (pc := 69) (tgt := 7) hx hb dX4_momentPassing_69 (by decide) ?_
            exact ih7 x66 _ _ (by (first | assumption | omega)) (by rw [ex66, ← psF_step hp (by omega) (by omega) (by omega)]; exact h6) (by omega) hw _ (lv_sub hl [0, 3, 4, 5, 6] rfl)
          · skip
            exfalso; omega
        · skip
          refine ziconst (pc := 38) (n := 1) hx hb dX4_momentPassing_38 ?_
          refine lv_goto (pc := 39) (tgt := 43) hx hb dX4_momentPassing_39 (by decide) ?_
          refine lv_istore (pc := 43) (lv' := [(6, .int (iI 1)), (5, .int (iI x19)), (4, .int (iI pi)), (0, .ref p0), (1, .int (iI loc)), (2, .int (iI fst_)), (3, .int (iI lst_))]) hx hb dX4_momentPassing_43 hl (by decide) rfl (fun ls hl => ?_)
          refine lv_iload (pc := 45) hx hb dX4_momentPassing_45 (lv_at hl 0 rfl) ?_
          refine zif_eq (pc := 47) hx hb 66 (by omega) dX4_momentPassing_47 (by decide) (fun c47 => ?_) (fun c47 => ?_)
          · skip
            exfalso; omega
          · skip
            refine lv_iload (pc := 50) hx hb dX4_momentPassing_50 (lv_at hl 1 rfl) ?_
            refine lv_aload_n (pc := 52) hx hb dX4_momentPassing_52 rfl (lv_at hl 3 rfl) ?_
            refine lv_iload (pc := 53) hx hb dX4_momentPassing_53 (lv_at hl 2 rfl) ?_
            refine zkIp (pc := 55) (zrV (As := [.int (iI pi)]) hx hb hml hown hG hw (c_X4_pieceShift l Γ K X Rf p0 pi be sa sv (by (first | assumption | omega)) (by (first | assumption | omega)) (by (first | assumption | omega)) (by (first | assumption | omega)) (by (first | assumption | omega)) (by (first | assumption | omega)) (by (first | assumption | omega)) (by (first | assumption | omega))) (T := TX4) hk rfl cb_X4_pieceShift wl_X4_81 rfl ⟨Nat.le_of_ble_eq_true rfl, Nat.le_of_ble_eq_true rfl⟩ hl.1 rfl (Nat.le_of_ble_eq_true rfl) dX4_momentPassing_55 ⟨Nat.zero_le _, Nat.zero_le _⟩) hw (fun r55 H locs hp55 hw => ?_)
            subst hp55
            have hp55f0 := psv_rng (by assumption : prep (X be) (X sa) (X p0 6) sv) pi
            refine zadd (pc := 58) hx hb dX4_momentPassing_58 ?_
            refine lv_iload_n (pc := 59) hx hb dX4_momentPassing_59 rfl (lv_at hl 4 rfl) ?_
            refine zicmp_le (pc := 60) hx hb 66 (by omega) (by omega) dX4_momentPassing_60 (by decide) (fun c60 => ?_) (fun c60 => ?_)
            · skip
              refine ziinc (pc := 66) (lv' := [(4, .int (iI (pi + 1))), (6, .int (iI 1)), (5, .int (iI x19)), (0, .ref p0), (1, .int (iI loc)), (2, .int (iI fst_)), (3, .int (iI lst_))]) hx hb 2 dX4_momentPassing_66 hl rfl (by decide) rfl (fun ls hl => ?_)
              obtain ⟨x66, ex66⟩ : ∃ zz : Int, zz = (pi + 1) := ⟨_, rfl⟩
              rw [← ex66] at hl
              refine lv_goto (pc := 69) (tgt := 7) hx hb dX4_momentPassing_69 (by decide) ?_
              exact ih7 x66 _ _ (by (first | assumption | omega)) (by rw [ex66, ← psF_step hp (by omega) (by omega) (by omega)]; exact h6) (by omega) hw _ (lv_sub hl [0, 3, 4, 5, 6] rfl)
            · skip
              refine lv_iload (pc := 63) hx hb dX4_momentPassing_63 (lv_at hl 1 rfl) ?_
              exact zretI (pc := 65) hx hb hlocks hr hw (Nat.zero_le _) (Nat.zero_le _) dX4_momentPassing_65 ⟨by (try dsimp only) <;> (rw [h6, psF_hit hp (by omega) (by omega) (by omega)]; omega), rfl, rfl, rfl⟩
  exact lp7 _ x5 _ _ (by (first | assumption | omega)) (by rw [ex5]; exact psF_start hp h2) (Nat.lt_succ_self _) hw _ (lv_sub hl [0, 1, 2, 3, 4] rfl)
set_option maxHeartbeats 4000000 in
set_option maxRecDepth 100000 in
theorem c_X4_momentFor (l : Launch) (Γ : zG) (K : zK) (X : zX) (Rf : zR) (p0 : Nat) (loc : Int) (be : Nat) (sa : Nat) (sv : Int → Int) (hk : K p0 = (1, 3)) (hr4 : Rf p0 4 = some be) (hr5 : Rf p0 5 = some sa) (hkbe : K be = (2, 1201)) (hksa : K sa = (2, 1201)) (hp : prep (X be) (X sa) (X p0 6) sv) (hbase : -840 ≤ X p0 0 ∧ X p0 0 ≤ 840) (h1 : fit loc) : Ct l yX4_momentFor cX4_momentFor 6 (some .int) 3 0 0 Γ [.ref p0, .int (iI loc)] K X Rf (pI (zp0 K X Rf (fun r : Int => r = momF sv (X p0 0) loc))) := by
  refine Ct.of (by decide +kernel) (Nat.le_of_ble_eq_true rfl) ?_
  intro p e s m below meth c ls hx hb hr hml hown hG hlocks hname hw hl
  have hl : lv_has ls 6 [(0, .ref p0), (1, .int (iI loc))] := hl
  refine lv_aload_n (pc := 0) hx hb dX4_momentFor_0 rfl (lv_at hl 0 rfl) ?_
  refine lv_aload_n (pc := 1) hx hb dX4_momentFor_1 rfl (lv_at hl 0 rfl) ?_
  refine lv_iload_n (pc := 2) hx hb dX4_momentFor_2 rfl (lv_at hl 1 rfl) ?_
  refine zkLp (pc := 3) (zrV (As := [.int (iI loc)]) hx hb hml hown hG hw (c_X4_earliest l Γ K X Rf p0 loc  (by (first | assumption | omega)) (by (first | assumption | omega)) (by (first | assumption | omega))) (T := TX4) hk rfl cb_X4_earliest wl_X4_90 rfl ⟨Nat.le_of_ble_eq_true rfl, Nat.le_of_ble_eq_true rfl⟩ hl.1 rfl (Nat.le_of_ble_eq_true rfl) dX4_momentFor_3 ⟨Nat.zero_le _, Nat.zero_le _⟩) hw (fun r3 H locs hp3 hw => ?_)
  subst hp3
  refine zkIp (pc := 6) (zrV (As := [.long (lJ (loc - X p0 0 - 180))]) hx hb hml hown hG hw (c_X4_pieceWith l Γ K X Rf p0 (loc - X p0 0 - 180) be sa sv (by (first | assumption | omega)) (by (first | assumption | omega)) (by (first | assumption | omega)) (by (first | assumption | omega)) (by (first | assumption | omega)) (by (first | assumption | omega)) (by (first | assumption | omega)) (by (first | assumption | omega))) (T := TX4) hk rfl cb_X4_pieceWith wl_X4_74 rfl ⟨Nat.le_of_ble_eq_true rfl, Nat.le_of_ble_eq_true rfl⟩ hl.1 rfl (Nat.le_of_ble_eq_true rfl) dX4_momentFor_6 ⟨Nat.zero_le _, Nat.zero_le _⟩) hw (fun r6 H locs hp6 hw => ?_)
  have hp6f0 := hp6
  have hpc := hp.1
  have hpw := hp6.1
  refine lv_istore_n (pc := 9) (lv' := [(2, .int (iI r6)), (0, .ref p0), (1, .int (iI loc))]) hx hb dX4_momentFor_9 rfl hl (by decide) rfl (fun ls hl => ?_)
  refine lv_aload_n (pc := 10) hx hb dX4_momentFor_10 rfl (lv_at hl 1 rfl) ?_
  refine lv_aload_n (pc := 11) hx hb dX4_momentFor_11 rfl (lv_at hl 1 rfl) ?_
  refine lv_iload_n (pc := 12) hx hb dX4_momentFor_12 rfl (lv_at hl 2 rfl) ?_
  refine zkLp (pc := 13) (zrV (As := [.int (iI loc)]) hx hb hml hown hG hw (c_X4_latest l Γ K X Rf p0 loc  (by (first | assumption | omega)) (by (first | assumption | omega)) (by (first | assumption | omega))) (T := TX4) hk rfl cb_X4_latest wl_X4_86 rfl ⟨Nat.le_of_ble_eq_true rfl, Nat.le_of_ble_eq_true rfl⟩ hl.1 rfl (Nat.le_of_ble_eq_true rfl) dX4_momentFor_13 ⟨Nat.zero_le _, Nat.zero_le _⟩) hw (fun r13 H locs hp13 hw => ?_)
  subst hp13
  refine zkIp (pc := 16) (zrV (As := [.long (lJ (loc - X p0 0))]) hx hb hml hown hG hw (c_X4_pieceWith l Γ K X Rf p0 (loc - X p0 0) be sa sv (by (first | assumption | omega)) (by (first | assumption | omega)) (by (first | assumption | omega)) (by (first | assumption | omega)) (by (first | assumption | omega)) (by (first | assumption | omega)) (by (first | assumption | omega)) (by (first | assumption | omega))) (T := TX4) hk rfl cb_X4_pieceWith wl_X4_74 rfl ⟨Nat.le_of_ble_eq_true rfl, Nat.le_of_ble_eq_true rfl⟩ hl.1 rfl (Nat.le_of_ble_eq_true rfl) dX4_momentFor_16 ⟨Nat.zero_le _, Nat.zero_le _⟩) hw (fun r16 H locs hp16 hw => ?_)
  have hp16f0 := hp16
  have hpw2 := hp16.1
  refine lv_istore_n (pc := 19) (lv' := [(3, .int (iI r16)), (2, .int (iI r6)), (0, .ref p0), (1, .int (iI loc))]) hx hb dX4_momentFor_19 rfl hl (by decide) rfl (fun ls hl => ?_)
  refine lv_iload_n (pc := 20) hx hb dX4_momentFor_20 rfl (lv_at hl 1 rfl) ?_
  refine lv_istore (pc := 21) (lv' := [(4, .int (iI r6)), (3, .int (iI r16)), (2, .int (iI r6)), (0, .ref p0), (1, .int (iI loc))]) hx hb dX4_momentFor_21 hl (by decide) rfl (fun ls hl => ?_)
  have lp23 : ∀ (n23 : Nat) (pi : Int) (H : Heap) (locs : List Loc), (h5 : 0 ≤ pi ∧ pi ≤ r16 + 1) → (h6 : shF sv (X p0 0) loc = fP (shw sv (X p0 0) loc) (105190560 - pbg (X be) (X p0 6) pi).toNat (pbg (X be) (X p0 6) pi)) → ((2000 - pi).toNat < n23) → Wd Γ (zA K s.heap.size) K X Rf s H locs → ∀ ls : Array Slot, lv_has ls 6 [(4, .int (iI pi)), (3, .int (iI r16)), (2, .int (iI r6)), (0, .ref p0), (1, .int (iI loc))] → W p l e (rmL 3 0 0) s m ([.ref p0, .int (iI loc)] : List Value).toArray below meth c H locs 0 0 (MQ below (zQ Γ K s.heap.size (pI (zp0 K X Rf (fun r : Int => r = momF sv (X p0 0) loc)))) ([.ref p0, .int (iI loc)] : List Value).toArray s 0 0 (zA K s.heap.size)) (F0 m 23 ls []) := by
    intro n23
    induction n23 with
    | zero => intro pi H locs h5 h6 hm23; exact absurd hm23 (Nat.not_lt_zero _)
    | succ n23 ih23 =>
      intro pi H locs h5 h6 hm23 hw ls hl
      refine lv_iload (pc := 23) hx hb dX4_momentFor_23 (lv_at hl 0 rfl) ?_
      refine lv_iload_n (pc := 25) hx hb dX4_momentFor_25 rfl (lv_at hl 1 rfl) ?_
      refine zicmp_gt (pc := 26) hx hb 52 (by omega) (by omega) dX4_momentFor_26 (by decide) (fun c26 => ?_) (fun c26 => ?_)
      · skip
        refine lv_aload_n (pc := 52) hx hb dX4_momentFor_52 rfl (lv_at hl 3 rfl) ?_
        refine lv_iload_n (pc := 53) hx hb dX4_momentFor_53 rfl (lv_at hl 4 rfl) ?_
        refine lv_iload_n (pc := 54) hx hb dX4_momentFor_54 rfl (lv_at hl 2 rfl) ?_
        refine lv_iload_n (pc := 55) hx hb dX4_momentFor_55 rfl (lv_at hl 1 rfl) ?_
        refine zkIp (pc := 56) (zrV (As := [.int (iI loc), .int (iI r6), .int (iI r16)]) hx hb hml hown hG hw (c_X4_momentPassing l Γ K X Rf p0 loc r6 r16 be sa sv (by (first | assumption | omega)) (by (first | assumption | omega)) (by (first | assumption | omega)) (by (first | assumption | omega)) (by (first | assumption | omega)) (by (first | assumption | omega)) (by (first | assumption | omega)) (by (first | assumption | omega)) (by (first | assumption | omega)) (by (first | assumption | omega))) (T := TX4) hk rfl cb_X4_momentPassing wl_X4_96 rfl ⟨Nat.le_of_ble_eq_true rfl, Nat.le_of_ble_eq_true rfl⟩ hl.1 rfl (Nat.le_of_ble_eq_true rfl) dX4_momentFor_56 ⟨Nat.zero_le _, Nat.zero_le _⟩) hw (fun r56 H locs hp56 hw => ?_)
        subst hp56
        exact zretI (pc := 59) hx hb hlocks hr hw (Nat.zero_le _) (Nat.zero_le _) dX4_momentFor_59 ⟨by (try dsimp only) <;> (have e9 := h6; rw [shF_end hp hp16 (by omega)] at e9; unfold momF; rw [if_neg (by omega)]), rfl, rfl, rfl⟩
      · skip
        refine lv_aload_n (pc := 29) hx hb dX4_momentFor_29 rfl (lv_at hl 3 rfl) ?_
        refine lv_iload (pc := 30) hx hb dX4_momentFor_30 (lv_at hl 0 rfl) ?_
        refine lv_iload_n (pc := 32) hx hb dX4_momentFor_32 rfl (lv_at hl 4 rfl) ?_
        refine zkIp (pc := 33) (zrV (As := [.int (iI pi), .int (iI loc)]) hx hb hml hown hG hw (c_X4_shownIn l Γ K X Rf p0 pi loc be sa sv (by (first | assumption | omega)) (by (first | assumption | omega)) (by (first | assumption | omega)) (by (first | assumption | omega)) (by (first | assumption | omega)) (by (first | assumption | omega)) (by (first | assumption | omega)) (by (first | assumption | omega)) (by (first | assumption | omega))) (T := TX4) hk rfl cb_X4_shownIn wl_X4_93 rfl ⟨Nat.le_of_ble_eq_true rfl, Nat.le_of_ble_eq_true rfl⟩ hl.1 rfl (Nat.le_of_ble_eq_true rfl) dX4_momentFor_33 ⟨Nat.zero_le _, Nat.zero_le _⟩) hw (fun r33 H locs hp33 hw => ?_)
        subst hp33
        have hp33f0 := shi_rng (by assumption : prep (X be) (X sa) (X p0 6) sv) (X p0 0) pi loc
        refine ztop (fun x36 ex36 => ?_)
        refine lv_istore (pc := 36) (lv' := [(5, .int (iI x36)), (4, .int (iI pi)), (3, .int (iI r16)), (2, .int (iI r6)), (0, .ref p0), (1, .int (iI loc))]) hx hb dX4_momentFor_36 hl (by decide) rfl (fun ls hl => ?_)
        refine lv_iload (pc := 38) hx hb dX4_momentFor_38 (lv_at hl 0 rfl) ?_
        refine zif_lt (pc := 40) hx hb 46 (by omega) dX4_momentFor_40 (by decide) (fun c40 => ?_) (fun c40 => ?_)
        · skip
          refine ziinc (pc := 46) (lv' := [(4, .int (iI (pi + 1))), (5, .int (iI x36)), (3, .int (iI r16)), (2, .int (iI r6)), (0, .ref p0), (1, .int (iI loc))]) hx hb 1 dX4_momentFor_46 hl rfl (by decide) rfl (fun ls hl => ?_)
          obtain ⟨x46, ex46⟩ : ∃ zz : Int, zz = (pi + 1) := ⟨_, rfl⟩
          rw [← ex46] at hl
          refine lv_goto (pc := 49) (tgt := 23) hx hb dX4_momentFor_49 (by decide) ?_
          exact ih23 x46 _ _ (by (first | assumption | omega)) (by rw [ex46, ← shF_step hp (by omega) (by omega) (by omega)]; exact h6) (by omega) hw _ (lv_sub hl [0, 2, 3, 4, 5] rfl)
        · skip
          refine lv_iload (pc := 43) hx hb dX4_momentFor_43 (lv_at hl 0 rfl) ?_
          exact zretI (pc := 45) hx hb hlocks hr hw (Nat.zero_le _) (Nat.zero_le _) dX4_momentFor_45 ⟨by (try dsimp only) <;> (have e9 := h6; rw [shF_hit hp (by omega) (by omega) (by omega)] at e9; unfold momF; rw [if_pos (by omega)]; omega), rfl, rfl, rfl⟩
  exact lp23 _ r6 _ _ (by have := pw_le hp hp6 hp16 (by omega); have := hp6.1; omega) (by exact shF_start hp hp6) (Nat.lt_succ_self _) hw _ (lv_sub hl [0, 1, 2, 3, 4] rfl)
