set_option maxHeartbeats 4000000 in
set_option maxRecDepth 100000 in
theorem c_X5_date_L (l : Launch) (Γ : zG) (K : zK) (X : zX) (Rf : zR) (se : Nat) (k : Int) (fo : Nat) (ll : List Int) (hk : K se = (1, 4)) (hr15 : Rf se 15 = some fo) (hkfo : K fo = (2, 4001)) (hl9 : dtR X se fo ll) (h1 : fit k) : Ct l yX5_date cX5_date 2 (some .int) 0 0 0 Γ [.ref se, .int (iI k)] K X Rf (pI (zp0 K X Rf (fun r : Int => r = dtL ll k))) := by
  refine Ct.of (by decide +kernel) (Nat.le_of_ble_eq_true rfl) ?_
  intro p e s m below meth c ls hx hb hr hml hown hG hlocks hname hw hl
  have hl : lv_has ls 2 [(0, .ref se), (1, .int (iI k))] := hl
  have hl1 := hl9.1
  have hl2 := hl9.2.1
  refine lv_iload_n (pc := 0) hx hb dX5_date_0 rfl (lv_at hl 1 rfl) ?_
  refine zif_lt (pc := 1) hx hb 21 (by omega) dX5_date_1 (by decide) (fun c1 => ?_) (fun c1 => ?_)
  · skip
    refine ziconst (pc := 21) (n := (-1)) hx hb dX5_date_21 ?_
    refine lv_goto (pc := 22) (tgt := 31) hx hb dX5_date_22 (by decide) ?_
    exact zretI (pc := 31) hx hb hlocks hr hw (Nat.zero_le _) (Nat.zero_le _) dX5_date_31 ⟨by (try dsimp only) <;> (unfold dtL; first | (rw [if_pos (by omega)]) | (rw [if_neg (by omega)]; exact hl9.2.2.1 _ (by omega))), rfl, rfl, rfl⟩
  · skip
    refine lv_iload_n (pc := 4) hx hb dX5_date_4 rfl (lv_at hl 1 rfl) ?_
    refine lv_aload_n (pc := 5) hx hb dX5_date_5 rfl (lv_at hl 0 rfl) ?_
    refine zgetI (pc := 6) hx hb hG hown hw hk (T := TX5) rfl 16 (by decide) rfl wf_X5_85 rfl dX5_date_6 ?_
    refine zicmp_ge (pc := 9) hx hb 21 (by omega) (by omega) dX5_date_9 (by decide) (fun c9 => ?_) (fun c9 => ?_)
    · skip
      refine ziconst (pc := 21) (n := (-1)) hx hb dX5_date_21 ?_
      refine lv_goto (pc := 22) (tgt := 31) hx hb dX5_date_22 (by decide) ?_
      exact zretI (pc := 31) hx hb hlocks hr hw (Nat.zero_le _) (Nat.zero_le _) dX5_date_31 ⟨by (try dsimp only) <;> (unfold dtL; first | (rw [if_pos (by omega)]) | (rw [if_neg (by omega)]; exact hl9.2.2.1 _ (by omega))), rfl, rfl, rfl⟩
    · skip
      refine lv_iload_n (pc := 12) hx hb dX5_date_12 rfl (lv_at hl 1 rfl) ?_
      refine lv_aload_n (pc := 13) hx hb dX5_date_13 rfl (lv_at hl 0 rfl) ?_
      refine zgetR (pc := 14) hx hb hG hown hw hk (T := TX5) rfl 15 (by decide) rfl wf_X5_82 rfl hr15 dX5_date_14 ?_
      refine zlen2 (pc := 17) hx hb hw hkfo dX5_date_17 ?_
      refine zicmp_lt (pc := 18) hx hb 25 (by omega) (by omega) dX5_date_18 (by decide) (fun c18 => ?_) (fun c18 => ?_)
      · skip
        refine lv_aload_n (pc := 25) hx hb dX5_date_25 rfl (lv_at hl 0 rfl) ?_
        refine zgetR (pc := 26) hx hb hG hown hw hk (T := TX5) rfl 15 (by decide) rfl wf_X5_82 rfl hr15 dX5_date_26 ?_
        refine lv_iload_n (pc := 29) hx hb dX5_date_29 rfl (lv_at hl 1 rfl) ?_
        refine zald (pc := 30) hx hb hw hkfo ⟨by omega, by omega⟩ (by omega) dX5_date_30 ?_
        exact zretI (pc := 31) hx hb hlocks hr hw (Nat.zero_le _) (Nat.zero_le _) dX5_date_31 ⟨by (try dsimp only) <;> (unfold dtL; first | (rw [if_pos (by omega)]) | (rw [if_neg (by omega)]; exact hl9.2.2.1 _ (by omega))), rfl, rfl, rfl⟩
      · skip
        exfalso; omega
set_option maxHeartbeats 4000000 in
set_option maxRecDepth 100000 in
theorem c_X5_firstFrom (l : Launch) (Γ : zG) (K : zK) (X : zX) (Rf : zR) (se : Nat) (day : Int) (fo : Nat) (ll : List Int) (hk : K se = (1, 4)) (hr15 : Rf se 15 = some fo) (hkfo : K fo = (2, 4001)) (hl9 : dtR X se fo ll) (h1 : fit day) : Ct l yX5_firstFrom cX5_firstFrom 3 (some .int) 1 0 0 Γ [.ref se, .int (iI day)] K X Rf (pI (zp0 K X Rf (fun r : Int => r = ffD ll day))) := by
  refine Ct.of (by decide +kernel) (Nat.le_of_ble_eq_true rfl) ?_
  intro p e s m below meth c ls hx hb hr hml hown hG hlocks hname hw hl
  have hl : lv_has ls 3 [(0, .ref se), (1, .int (iI day))] := hl
  have hl1 := hl9.1
  have hl2 := hl9.2.1
  refine ziconst (pc := 0) (n := 0) hx hb dX5_firstFrom_0 ?_
  refine lv_istore_n (pc := 1) (lv' := [(2, .int (iI 0)), (0, .ref se), (1, .int (iI day))]) hx hb dX5_firstFrom_1 rfl hl (by decide) rfl (fun ls hl => ?_)
  have lp2 : ∀ (n2 : Nat) (kk : Int) (H : Heap) (locs : List Loc), (hi : 0 ≤ kk ∧ kk ≤ ll.length) → (h6 : ffD ll day = fP (fun k => decide (day ≤ ll.getD k.toNat 0)) ((ll.length : Int) - kk).toNat kk) → (((ll.length : Int) - kk).toNat < n2) → Wd Γ (zA K s.heap.size) K X Rf s H locs → ∀ ls : Array Slot, lv_has ls 3 [(2, .int (iI kk)), (0, .ref se), (1, .int (iI day))] → W p l e (rmL 1 0 0) s m ([.ref se, .int (iI day)] : List Value).toArray below meth c H locs 0 0 (MQ below (zQ Γ K s.heap.size (pI (zp0 K X Rf (fun r : Int => r = ffD ll day)))) ([.ref se, .int (iI day)] : List Value).toArray s 0 0 (zA K s.heap.size)) (F0 m 2 ls []) := by
    intro n2
    induction n2 with
    | zero => intro kk H locs hi h6 hm2; exact absurd hm2 (Nat.not_lt_zero _)
    | succ n2 ih2 =>
      intro kk H locs hi h6 hm2 hw ls hl
      refine lv_iload_n (pc := 2) hx hb dX5_firstFrom_2 rfl (lv_at hl 0 rfl) ?_
      refine lv_aload_n (pc := 3) hx hb dX5_firstFrom_3 rfl (lv_at hl 1 rfl) ?_
      refine zgetI (pc := 4) hx hb hG hown hw hk (T := TX5) rfl 16 (by decide) rfl wf_X5_85 rfl dX5_firstFrom_4 ?_
      refine zicmp_ge (pc := 7) hx hb 27 (by omega) (by omega) dX5_firstFrom_7 (by decide) (fun c7 => ?_) (fun c7 => ?_)
      · skip
        refine ziconst (pc := 27) (n := (-1)) hx hb dX5_firstFrom_27 ?_
        exact zretI (pc := 28) hx hb hlocks hr hw (Nat.zero_le _) (Nat.zero_le _) dX5_firstFrom_28 ⟨by (try dsimp only) <;> (rw [h6, fP_e (by omega)]), rfl, rfl, rfl⟩
      · skip
        refine lv_aload_n (pc := 10) hx hb dX5_firstFrom_10 rfl (lv_at hl 1 rfl) ?_
        refine lv_iload_n (pc := 11) hx hb dX5_firstFrom_11 rfl (lv_at hl 0 rfl) ?_
        refine zkIp (pc := 12) (zrV (As := [.int (iI kk)]) hx hb hml hown hG hw (c_X5_date_L l Γ K X Rf se kk fo ll (by (first | assumption | omega)) (by (first | assumption | omega)) (by (first | assumption | omega)) (by (first | assumption | omega)) (by (first | assumption | omega))) (T := TX5) hk rfl cb_X5_date wl_X5_165 rfl ⟨Nat.le_of_ble_eq_true rfl, Nat.le_of_ble_eq_true rfl⟩ hl.1 rfl (Nat.le_of_ble_eq_true rfl) dX5_firstFrom_12 ⟨Nat.zero_le _, Nat.zero_le _⟩) hw (fun r12 H locs hp12 hw => ?_)
        subst hp12
        have hp12f0 := dtL_rng (by assumption : dtR X se fo ll) kk
        have hdl := dtL_in (l := ll) (k := kk) (by omega) (by omega)
        refine lv_iload_n (pc := 15) hx hb dX5_firstFrom_15 rfl (lv_at hl 2 rfl) ?_
        refine zicmp_lt (pc := 16) hx hb 21 (by omega) (by omega) dX5_firstFrom_16 (by decide) (fun c16 => ?_) (fun c16 => ?_)
        · skip
          refine ziinc (pc := 21) (lv' := [(2, .int (iI (kk + 1))), (0, .ref se), (1, .int (iI day))]) hx hb 0 dX5_firstFrom_21 hl rfl (by decide) rfl (fun ls hl => ?_)
          obtain ⟨x21, ex21⟩ : ∃ zz : Int, zz = (kk + 1) := ⟨_, rfl⟩
          rw [← ex21] at hl
          refine lv_goto (pc := 24) (tgt := 2) hx hb dX5_firstFrom_24 (by decide) ?_
          exact ih2 x21 _ _ (by (first | assumption | omega)) (by rw [h6, ffD_s (by omega) (by omega), ex21]) (by omega) hw _ (lv_sub hl [0, 1, 2] rfl)
        · skip
          refine lv_iload_n (pc := 19) hx hb dX5_firstFrom_19 rfl (lv_at hl 0 rfl) ?_
          exact zretI (pc := 20) hx hb hlocks hr hw (Nat.zero_le _) (Nat.zero_le _) dX5_firstFrom_20 ⟨by (try dsimp only) <;> (rw [h6, ffD_h (by omega) (by omega)]), rfl, rfl, rfl⟩
  exact lp2 _ 0 _ _ (by (first | assumption | omega)) (by rfl) (Nat.lt_succ_self _) hw _ (lv_sub hl [0, 1, 2] rfl)
set_option maxHeartbeats 4000000 in
set_option maxRecDepth 100000 in
theorem c_X5_momentOfDate (l : Launch) (Γ : zG) (K : zK) (X : zX) (Rf : zR) (se : Nat) (k : Int) (fo : Nat) (ll : List Int) (p0 : Nat) (be : Nat) (sa : Nat) (sv : Int → Int) (hk : K se = (1, 4)) (hr15 : Rf se 15 = some fo) (hkfo : K fo = (2, 4001)) (hl9 : dtR X se fo ll) (hr0 : Rf se 0 = some p0) (hkp0 : K p0 = (1, 3)) (hr4 : Rf p0 4 = some be) (hr5 : Rf p0 5 = some sa) (hkbe : K be = (2, 1201)) (hksa : K sa = (2, 1201)) (hp : prep (X be) (X sa) (X p0 6) sv) (hbase : -840 ≤ X p0 0 ∧ X p0 0 ≤ 840) (h1 : fit k) (hb1 : 0 ≤ X se 1 ∧ X se 1 ≤ 105190559) : Ct l yX5_momentOfDate cX5_momentOfDate 2 (some .int) 4 0 0 Γ [.ref se, .int (iI k)] K X Rf (pI (zp0 K X Rf (fun r : Int => r = momF sv (X p0 0) (1440 * dtL ll k + X se 1 % 1440)))) := by
  refine Ct.of (by decide +kernel) (Nat.le_of_ble_eq_true rfl) ?_
  intro p e s m below meth c ls hx hb hr hml hown hG hlocks hname hw hl
  have hl : lv_has ls 2 [(0, .ref se), (1, .int (iI k))] := hl
  have hl1 := hl9.1
  have hl2 := hl9.2.1
  refine lv_aload_n (pc := 0) hx hb dX5_momentOfDate_0 rfl (lv_at hl 0 rfl) ?_
  refine zgetR (pc := 1) hx hb hG hown hw hk (T := TX5) rfl 0 (by decide) rfl wf_X5_11 rfl hr0 dX5_momentOfDate_1 ?_
  refine zsipush (pc := 4) (n := 1440) hx hb dX5_momentOfDate_4 rfl ?_
  refine lv_aload_n (pc := 7) hx hb dX5_momentOfDate_7 rfl (lv_at hl 0 rfl) ?_
  refine lv_iload_n (pc := 8) hx hb dX5_momentOfDate_8 rfl (lv_at hl 1 rfl) ?_
  refine zkIp (pc := 9) (zrV (As := [.int (iI k)]) hx hb hml hown hG hw (c_X5_date_L l Γ K X Rf se k fo ll (by (first | assumption | omega)) (by (first | assumption | omega)) (by (first | assumption | omega)) (by (first | assumption | omega)) (by (first | assumption | omega))) (T := TX5) hk rfl cb_X5_date wl_X5_165 rfl ⟨Nat.le_of_ble_eq_true rfl, Nat.le_of_ble_eq_true rfl⟩ hl.1 rfl (Nat.le_of_ble_eq_true rfl) dX5_momentOfDate_9 ⟨Nat.zero_le _, Nat.zero_le _⟩) hw (fun r9 H locs hp9 hw => ?_)
  subst hp9
  have hp9f0 := dtL_rng (by assumption : dtR X se fo ll) k
  refine zmul (pc := 12) hx hb dX5_momentOfDate_12 ?_
  refine lv_aload_n (pc := 13) hx hb dX5_momentOfDate_13 rfl (lv_at hl 0 rfl) ?_
  refine zgetI (pc := 14) hx hb hG hown hw hk (T := TX5) rfl 1 (by decide) rfl wf_X5_15 rfl dX5_momentOfDate_14 ?_
  refine zsipush (pc := 17) (n := 1440) hx hb dX5_momentOfDate_17 rfl ?_
  refine zrem (pc := 20) hx hb (by omega) dX5_momentOfDate_20 ?_
  refine zadd (pc := 21) hx hb dX5_momentOfDate_21 ?_
  refine zkIp (pc := 22) (zrV (As := [.int (iI ((1440 * (dtL ll k)) + ((X se 1) % 1440)))]) hx hb hml hown hG hw (c_X4_momentFor l Γ K X Rf p0 ((1440 * (dtL ll k)) + ((X se 1) % 1440)) be sa sv (by exact hkp0) (by (first | assumption | omega)) (by (first | assumption | omega)) (by (first | assumption | omega)) (by (first | assumption | omega)) (by (first | assumption | omega)) (by (first | assumption | omega)) (by (first | assumption | omega))) (T := TX4) hkp0 rfl cb_X4_momentFor wl_X5_168 rfl ⟨Nat.le_of_ble_eq_true rfl, Nat.le_of_ble_eq_true rfl⟩ hl.1 rfl (Nat.le_of_ble_eq_true rfl) dX5_momentOfDate_22 ⟨Nat.zero_le _, Nat.zero_le _⟩) hw (fun r22 H locs hp22 hw => ?_)
  subst hp22
  have hp22f0 := momF_rng (sv := sv) (X p0 0) ((1440 * (dtL ll k)) + ((X se 1) % 1440))
  exact zretI (pc := 25) hx hb hlocks hr hw (Nat.zero_le _) (Nat.zero_le _) dX5_momentOfDate_25 ⟨by (try dsimp only) <;> ((first | assumption | omega)), rfl, rfl, rfl⟩
set_option maxHeartbeats 4000000 in
set_option maxRecDepth 100000 in
theorem c_X5_countShared (l : Launch) (Γ : zG) (K : zK) (X : zX) (Rf : zR) (se : Nat) (ot : Nat) (fo : Nat) (ll : List Int) (fo2 : Nat) (l2 : List Int) (hk : K se = (1, 4)) (hr15 : Rf se 15 = some fo) (hkfo : K fo = (2, 4001)) (hl9 : dtR X se fo ll) (hk2 : K ot = (1, 4)) (hr152 : Rf ot 15 = some fo2) (hkfo2 : K fo2 = (2, 4001)) (hl92 : dtR X ot fo2 l2) : Ct l yX5_countShared cX5_countShared 6 (some .int) 1 0 0 Γ [.ref se, .ref ot] K X Rf (pI (zp0 K X Rf (fun r : Int => r = shD ll l2))) := by
  refine Ct.of (by decide +kernel) (Nat.le_of_ble_eq_true rfl) ?_
  intro p e s m below meth c ls hx hb hr hml hown hG hlocks hname hw hl
  have hl : lv_has ls 6 [(0, .ref se), (1, .ref ot)] := hl
  have hl1 := hl9.1
  have hl2 := hl9.2.1
  have hl12 := hl92.1
  have hl22 := hl92.2.1
  refine ziconst (pc := 0) (n := 0) hx hb dX5_countShared_0 ?_
  refine lv_istore_n (pc := 1) (lv' := [(2, .int (iI 0)), (0, .ref se), (1, .ref ot)]) hx hb dX5_countShared_1 rfl hl (by decide) rfl (fun ls hl => ?_)
  refine ziconst (pc := 2) (n := 0) hx hb dX5_countShared_2 ?_
  refine lv_istore_n (pc := 3) (lv' := [(3, .int (iI 0)), (2, .int (iI 0)), (0, .ref se), (1, .ref ot)]) hx hb dX5_countShared_3 rfl hl (by decide) rfl (fun ls hl => ?_)
  refine ziconst (pc := 4) (n := 0) hx hb dX5_countShared_4 ?_
  refine lv_istore (pc := 5) (lv' := [(4, .int (iI 0)), (3, .int (iI 0)), (2, .int (iI 0)), (0, .ref se), (1, .ref ot)]) hx hb dX5_countShared_5 hl (by decide) rfl (fun ls hl => ?_)
  have lp7 : ∀ (n7 : Nat) (kk : Int) (th : Int) (ct : Int) (H : Heap) (locs : List Loc), (hi : (0 ≤ kk ∧ kk ≤ ll.length) ∧ (0 ≤ th ∧ th ≤ l2.length) ∧ 0 ≤ ct ∧ ct ≤ kk) → (h6 : ct + shD (ll.drop kk.toNat) (l2.drop th.toNat) = shD ll l2) → (((ll.length : Int) - kk).toNat < n7) → Wd Γ (zA K s.heap.size) K X Rf s H locs → ∀ ls : Array Slot, lv_has ls 6 [(4, .int (iI kk)), (3, .int (iI th)), (2, .int (iI ct)), (0, .ref se), (1, .ref ot)] → W p l e (rmL 1 0 0) s m ([.ref se, .ref ot] : List Value).toArray below meth c H locs 0 0 (MQ below (zQ Γ K s.heap.size (pI (zp0 K X Rf (fun r : Int => r = shD ll l2)))) ([.ref se, .ref ot] : List Value).toArray s 0 0 (zA K s.heap.size)) (F0 m 7 ls []) := by
    intro n7
    induction n7 with
    | zero => intro kk th ct H locs hi h6 hm7; exact absurd hm7 (Nat.not_lt_zero _)
    | succ n7 ih7 =>
      intro kk th ct H locs hi h6 hm7 hw ls hl
      refine lv_iload (pc := 7) hx hb dX5_countShared_7 (lv_at hl 0 rfl) ?_
      refine lv_aload_n (pc := 9) hx hb dX5_countShared_9 rfl (lv_at hl 3 rfl) ?_
      refine zgetI (pc := 10) hx hb hG hown hw hk (T := TX5) rfl 16 (by decide) rfl wf_X5_85 rfl dX5_countShared_10 ?_
      refine zicmp_ge (pc := 13) hx hb 67 (by omega) (by omega) dX5_countShared_13 (by decide) (fun c13 => ?_) (fun c13 => ?_)
      · skip
        refine lv_iload_n (pc := 67) hx hb dX5_countShared_67 rfl (lv_at hl 2 rfl) ?_
        exact zretI (pc := 68) hx hb hlocks hr hw (Nat.zero_le _) (Nat.zero_le _) dX5_countShared_68 ⟨by (try dsimp only) <;> (rw [← h6, shD_e (by omega)]; omega), rfl, rfl, rfl⟩
      · skip
        refine lv_aload_n (pc := 16) hx hb dX5_countShared_16 rfl (lv_at hl 3 rfl) ?_
        refine lv_iload (pc := 17) hx hb dX5_countShared_17 (lv_at hl 0 rfl) ?_
        refine zkIp (pc := 19) (zrV (As := [.int (iI kk)]) hx hb hml hown hG hw (c_X5_date_L l Γ K X Rf se kk fo ll (by (first | assumption | omega)) (by (first | assumption | omega)) (by (first | assumption | omega)) (by (first | assumption | omega)) (by (first | assumption | omega))) (T := TX5) hk rfl cb_X5_date wl_X5_165 rfl ⟨Nat.le_of_ble_eq_true rfl, Nat.le_of_ble_eq_true rfl⟩ hl.1 rfl (Nat.le_of_ble_eq_true rfl) dX5_countShared_19 ⟨Nat.zero_le _, Nat.zero_le _⟩) hw (fun r19 H locs hp19 hw => ?_)
        subst hp19
        have hp19f0 := dtL_rng (by assumption : dtR X se fo ll) kk
        have hdl := dtL_in (l := ll) (k := kk) (by omega) (by omega)
        refine ztop (fun x22 ex22 => ?_)
        refine lv_istore (pc := 22) (lv' := [(5, .int (iI x22)), (4, .int (iI kk)), (3, .int (iI th)), (2, .int (iI ct)), (0, .ref se), (1, .ref ot)]) hx hb dX5_countShared_22 hl (by decide) rfl (fun ls hl => ?_)
        have lp24 : ∀ (n24 : Nat) (tt : Int) (H : Heap) (locs : List Loc), (hj : 0 ≤ tt ∧ tt ≤ l2.length) → (hsk : skD x22 (l2.drop tt.toNat) = skD x22 (l2.drop th.toNat)) → (((l2.length : Int) - tt).toNat < n24) → Wd Γ (zA K s.heap.size) K X Rf s H locs → ∀ ls : Array Slot, lv_has ls 6 [(5, .int (iI x22)), (4, .int (iI kk)), (3, .int (iI tt)), (2, .int (iI ct)), (0, .ref se), (1, .ref ot)] → W p l e (rmL 1 0 0) s m ([.ref se, .ref ot] : List Value).toArray below meth c H locs 0 0 (MQ below (zQ Γ K s.heap.size (pI (zp0 K X Rf (fun r : Int => r = shD ll l2)))) ([.ref se, .ref ot] : List Value).toArray s 0 0 (zA K s.heap.size)) (F0 m 24 ls []) := by
          intro n24
          induction n24 with
          | zero => intro tt H locs hj hsk hm24; exact absurd hm24 (Nat.not_lt_zero _)
          | succ n24 ih24 =>
            intro tt H locs hj hsk hm24 hw ls hl
            refine lv_iload_n (pc := 24) hx hb dX5_countShared_24 rfl (lv_at hl 2 rfl) ?_
            refine lv_aload_n (pc := 25) hx hb dX5_countShared_25 rfl (lv_at hl 5 rfl) ?_
            refine zgetI (pc := 26) hx hb hG hown hw hk2 (T := TX5) rfl 16 (by decide) rfl wf_X5_85 rfl dX5_countShared_26 ?_
            refine zicmp_ge (pc := 29) hx hb 48 (by omega) (by omega) dX5_countShared_29 (by decide) (fun c29 => ?_) (fun c29 => ?_)
            · skip
              refine lv_aload_n (pc := 48) hx hb dX5_countShared_48 rfl (lv_at hl 5 rfl) ?_
              refine lv_iload_n (pc := 49) hx hb dX5_countShared_49 rfl (lv_at hl 2 rfl) ?_
              have hde : dtL l2 tt = if l2.length ≤ tt.toNat then -1 else l2.getD tt.toNat 0 := by
                by_cases g : l2.length ≤ tt.toNat
                · rw [if_pos g, dtL_out (by omega)]
                · rw [if_neg g, dtL_in (by omega) (by omega)]
              refine zkIp (pc := 50) (zrV (As := [.int (iI tt)]) hx hb hml hown hG hw (c_X5_date_L l Γ K X Rf ot tt fo2 l2 (by exact hk2) (by (first | assumption | omega)) (by (first | assumption | omega)) (by (first | assumption | omega)) (by (first | assumption | omega))) (T := TX5) hk2 rfl cb_X5_date wl_X5_165 rfl ⟨Nat.le_of_ble_eq_true rfl, Nat.le_of_ble_eq_true rfl⟩ hl.1 rfl (Nat.le_of_ble_eq_true rfl) dX5_countShared_50 ⟨Nat.zero_le _, Nat.zero_le _⟩) hw (fun r50 H locs hp50 hw => ?_)
              subst hp50
              have hp50f0 := dtL_rng (by assumption : dtR X ot fo2 l2) tt
              refine lv_iload (pc := 53) hx hb dX5_countShared_53 (lv_at hl 0 rfl) ?_
              refine zicmp_ne (pc := 55) hx hb 61 (by omega) (by omega) dX5_countShared_55 (by decide) (fun c55 => ?_) (fun c55 => ?_)
              · skip
                refine ziinc (pc := 61) (lv' := [(4, .int (iI (kk + 1))), (5, .int (iI x22)), (3, .int (iI tt)), (2, .int (iI ct)), (0, .ref se), (1, .ref ot)]) hx hb 1 dX5_countShared_61 hl rfl (by decide) rfl (fun ls hl => ?_)
                obtain ⟨x61, ex61⟩ : ∃ zz : Int, zz = (kk + 1) := ⟨_, rfl⟩
                rw [← ex61] at hl
                refine lv_goto (pc := 64) (tgt := 7) hx hb dX5_countShared_64 (by decide) ?_
                exact ih7 x61 tt ct _ _ (by (first | assumption | omega)) (by 
                                        rw [← h6, ex61, show (kk + 1).toNat = kk.toNat + 1 by omega, shD_s (l := ll) (o := l2) (k := kk.toNat) (t := tt.toNat) (d := x22) (e := dtL l2 tt) (by omega) (by omega) (by omega) hde (by omega) hsk]
                                        first
                                        | (rw [if_pos (by omega)]; omega)
                                        | (rw [if_neg (by omega)]; omega)) (by omega) hw _ (lv_sub hl [0, 2, 3, 4, 5] rfl)
              · skip
                refine ziinc (pc := 58) (lv' := [(2, .int (iI (ct + 1))), (5, .int (iI x22)), (4, .int (iI kk)), (3, .int (iI tt)), (0, .ref se), (1, .ref ot)]) hx hb 3 dX5_countShared_58 hl rfl (by decide) rfl (fun ls hl => ?_)
                obtain ⟨x58, ex58⟩ : ∃ zz : Int, zz = (ct + 1) := ⟨_, rfl⟩
                rw [← ex58] at hl
                refine ziinc (pc := 61) (lv' := [(4, .int (iI (kk + 1))), (2, .int (iI x58)), (5, .int (iI x22)), (3, .int (iI tt)), (0, .ref se), (1, .ref ot)]) hx hb 2 dX5_countShared_61 hl rfl (by decide) rfl (fun ls hl => ?_)
                obtain ⟨x61, ex61⟩ : ∃ zz : Int, zz = (kk + 1) := ⟨_, rfl⟩
                rw [← ex61] at hl
                refine lv_goto (pc := 64) (tgt := 7) hx hb dX5_countShared_64 (by decide) ?_
                exact ih7 x61 tt x58 _ _ (by (first | assumption | omega)) (by 
                                        rw [← h6, ex61, show (kk + 1).toNat = kk.toNat + 1 by omega, shD_s (l := ll) (o := l2) (k := kk.toNat) (t := tt.toNat) (d := x22) (e := dtL l2 tt) (by omega) (by omega) (by omega) hde (by omega) hsk]
                                        first
                                        | (rw [if_pos (by omega)]; omega)
                                        | (rw [if_neg (by omega)]; omega)) (by omega) hw _ (lv_sub hl [0, 3, 1, 4, 5] rfl)
            · skip
              refine lv_aload_n (pc := 32) hx hb dX5_countShared_32 rfl (lv_at hl 5 rfl) ?_
              refine lv_iload_n (pc := 33) hx hb dX5_countShared_33 rfl (lv_at hl 2 rfl) ?_
              refine zkIp (pc := 34) (zrV (As := [.int (iI tt)]) hx hb hml hown hG hw (c_X5_date_L l Γ K X Rf ot tt fo2 l2 (by exact hk2) (by (first | assumption | omega)) (by (first | assumption | omega)) (by (first | assumption | omega)) (by (first | assumption | omega))) (T := TX5) hk2 rfl cb_X5_date wl_X5_165 rfl ⟨Nat.le_of_ble_eq_true rfl, Nat.le_of_ble_eq_true rfl⟩ hl.1 rfl (Nat.le_of_ble_eq_true rfl) dX5_countShared_34 ⟨Nat.zero_le _, Nat.zero_le _⟩) hw (fun r34 H locs hp34 hw => ?_)
              subst hp34
              have hp34f0 := dtL_rng (by assumption : dtR X ot fo2 l2) tt
              have hdl2 := dtL_in (l := l2) (k := tt) (by omega) (by omega)
              refine lv_iload (pc := 37) hx hb dX5_countShared_37 (lv_at hl 0 rfl) ?_
              refine zicmp_ge (pc := 39) hx hb 48 (by omega) (by omega) dX5_countShared_39 (by decide) (fun c39 => ?_) (fun c39 => ?_)
              · skip
                refine lv_aload_n (pc := 48) hx hb dX5_countShared_48 rfl (lv_at hl 5 rfl) ?_
                refine lv_iload_n (pc := 49) hx hb dX5_countShared_49 rfl (lv_at hl 2 rfl) ?_
                have hde : dtL l2 tt = if l2.length ≤ tt.toNat then -1 else l2.getD tt.toNat 0 := by
                  by_cases g : l2.length ≤ tt.toNat
                  · rw [if_pos g, dtL_out (by omega)]
                  · rw [if_neg g, dtL_in (by omega) (by omega)]
                refine zkIp (pc := 50) (zrV (As := [.int (iI tt)]) hx hb hml hown hG hw (c_X5_date_L l Γ K X Rf ot tt fo2 l2 (by exact hk2) (by (first | assumption | omega)) (by (first | assumption | omega)) (by (first | assumption | omega)) (by (first | assumption | omega))) (T := TX5) hk2 rfl cb_X5_date wl_X5_165 rfl ⟨Nat.le_of_ble_eq_true rfl, Nat.le_of_ble_eq_true rfl⟩ hl.1 rfl (Nat.le_of_ble_eq_true rfl) dX5_countShared_50 ⟨Nat.zero_le _, Nat.zero_le _⟩) hw (fun r50 H locs hp50 hw => ?_)
                subst hp50
                have hp50f0 := dtL_rng (by assumption : dtR X ot fo2 l2) tt
                refine lv_iload (pc := 53) hx hb dX5_countShared_53 (lv_at hl 0 rfl) ?_
                refine zicmp_ne (pc := 55) hx hb 61 (by omega) (by omega) dX5_countShared_55 (by decide) (fun c55 => ?_) (fun c55 => ?_)
                · skip
                  refine ziinc (pc := 61) (lv' := [(4, .int (iI (kk + 1))), (5, .int (iI x22)), (3, .int (iI tt)), (2, .int (iI ct)), (0, .ref se), (1, .ref ot)]) hx hb 1 dX5_countShared_61 hl rfl (by decide) rfl (fun ls hl => ?_)
                  obtain ⟨x61, ex61⟩ : ∃ zz : Int, zz = (kk + 1) := ⟨_, rfl⟩
                  rw [← ex61] at hl
                  refine lv_goto (pc := 64) (tgt := 7) hx hb dX5_countShared_64 (by decide) ?_
                  exact ih7 x61 tt ct _ _ (by (first | assumption | omega)) (by 
                                        rw [← h6, ex61, show (kk + 1).toNat = kk.toNat + 1 by omega, shD_s (l := ll) (o := l2) (k := kk.toNat) (t := tt.toNat) (d := x22) (e := dtL l2 tt) (by omega) (by omega) (by omega) hde (by omega) hsk]
                                        first
                                        | (rw [if_pos (by omega)]; omega)
                                        | (rw [if_neg (by omega)]; omega)) (by omega) hw _ (lv_sub hl [0, 2, 3, 4, 5] rfl)
                · skip
                  refine ziinc (pc := 58) (lv' := [(2, .int (iI (ct + 1))), (5, .int (iI x22)), (4, .int (iI kk)), (3, .int (iI tt)), (0, .ref se), (1, .ref ot)]) hx hb 3 dX5_countShared_58 hl rfl (by decide) rfl (fun ls hl => ?_)
                  obtain ⟨x58, ex58⟩ : ∃ zz : Int, zz = (ct + 1) := ⟨_, rfl⟩
                  rw [← ex58] at hl
                  refine ziinc (pc := 61) (lv' := [(4, .int (iI (kk + 1))), (2, .int (iI x58)), (5, .int (iI x22)), (3, .int (iI tt)), (0, .ref se), (1, .ref ot)]) hx hb 2 dX5_countShared_61 hl rfl (by decide) rfl (fun ls hl => ?_)
                  obtain ⟨x61, ex61⟩ : ∃ zz : Int, zz = (kk + 1) := ⟨_, rfl⟩
                  rw [← ex61] at hl
                  refine lv_goto (pc := 64) (tgt := 7) hx hb dX5_countShared_64 (by decide) ?_
                  exact ih7 x61 tt x58 _ _ (by (first | assumption | omega)) (by 
                                        rw [← h6, ex61, show (kk + 1).toNat = kk.toNat + 1 by omega, shD_s (l := ll) (o := l2) (k := kk.toNat) (t := tt.toNat) (d := x22) (e := dtL l2 tt) (by omega) (by omega) (by omega) hde (by omega) hsk]
                                        first
                                        | (rw [if_pos (by omega)]; omega)
                                        | (rw [if_neg (by omega)]; omega)) (by omega) hw _ (lv_sub hl [0, 3, 1, 4, 5] rfl)
              · skip
                refine ziinc (pc := 42) (lv' := [(3, .int (iI (tt + 1))), (5, .int (iI x22)), (4, .int (iI kk)), (2, .int (iI ct)), (0, .ref se), (1, .ref ot)]) hx hb 2 dX5_countShared_42 hl rfl (by decide) rfl (fun ls hl => ?_)
                obtain ⟨x42, ex42⟩ : ∃ zz : Int, zz = (tt + 1) := ⟨_, rfl⟩
                rw [← ex42] at hl
                refine lv_goto (pc := 45) (tgt := 24) hx hb dX5_countShared_45 (by decide) ?_
                exact ih24 x42 _ _ (by (first | assumption | omega)) (by rw [← hsk, ex42, show (tt + 1).toNat = tt.toNat + 1 by omega, ← skD_lt (by omega) (by omega)]) (by omega) hw _ (lv_sub hl [1, 2, 0, 3, 4, 5] rfl)
        exact lp24 _ th _ _ (by (first | assumption | omega)) (by rfl) (Nat.lt_succ_self _) hw _ (lv_sub hl [0, 1, 2, 3, 4, 5] rfl)
  exact lp7 _ 0 0 0 _ _ (by (first | assumption | omega)) (by rw [Int.zero_add]; rfl) (Nat.lt_succ_self _) hw _ (lv_sub hl [0, 1, 2, 3, 4] rfl)
set_option maxHeartbeats 4000000 in
set_option maxRecDepth 100000 in
theorem c_X5_greatestGap (l : Launch) (Γ : zG) (K : zK) (X : zX) (Rf : zR) (se : Nat) (fo : Nat) (ll : List Int) (hk : K se = (1, 4)) (hr15 : Rf se 15 = some fo) (hkfo : K fo = (2, 4001)) (hl9 : dtR X se fo ll) : Ct l yX5_greatestGap cX5_greatestGap 3 (some .int) 2 0 0 Γ [.ref se] K X Rf (pI (zp0 K X Rf (fun r : Int => r = wdD ll))) := by
  refine Ct.of (by decide +kernel) (Nat.le_of_ble_eq_true rfl) ?_
  intro p e s m below meth c ls hx hb hr hml hown hG hlocks hname hw hl
  have hl : lv_has ls 3 [(0, .ref se)] := hl
  have hl1 := hl9.1
  have hl2 := hl9.2.1
  refine ziconst (pc := 0) (n := 0) hx hb dX5_greatestGap_0 ?_
  refine lv_istore_n (pc := 1) (lv' := [(1, .int (iI 0)), (0, .ref se)]) hx hb dX5_greatestGap_1 rfl hl (by decide) rfl (fun ls hl => ?_)
  refine ziconst (pc := 2) (n := 1) hx hb dX5_greatestGap_2 ?_
  refine lv_istore_n (pc := 3) (lv' := [(2, .int (iI 1)), (1, .int (iI 0)), (0, .ref se)]) hx hb dX5_greatestGap_3 rfl hl (by decide) rfl (fun ls hl => ?_)
  have lp4 : ∀ (n4 : Nat) (kk : Int) (gr : Int) (H : Heap) (locs : List Loc), (hi : 1 ≤ kk ∧ kk ≤ 4002) → (hg : 0 ≤ gr ∧ gr ≤ 73048) → (h6 : max gr (wdA (ll.getD (kk - 1).toNat 0) (ll.drop kk.toNat)) = wdD ll) → (((ll.length : Int) - kk).toNat < n4) → Wd Γ (zA K s.heap.size) K X Rf s H locs → ∀ ls : Array Slot, lv_has ls 3 [(2, .int (iI kk)), (1, .int (iI gr)), (0, .ref se)] → W p l e (rmL 2 0 0) s m ([.ref se] : List Value).toArray below meth c H locs 0 0 (MQ below (zQ Γ K s.heap.size (pI (zp0 K X Rf (fun r : Int => r = wdD ll)))) ([.ref se] : List Value).toArray s 0 0 (zA K s.heap.size)) (F0 m 4 ls []) := by
    intro n4
    induction n4 with
    | zero => intro kk gr H locs hi hg h6 hm4; exact absurd hm4 (Nat.not_lt_zero _)
    | succ n4 ih4 =>
      intro kk gr H locs hi hg h6 hm4 hw ls hl
      refine lv_iload_n (pc := 4) hx hb dX5_greatestGap_4 rfl (lv_at hl 0 rfl) ?_
      refine lv_aload_n (pc := 5) hx hb dX5_greatestGap_5 rfl (lv_at hl 2 rfl) ?_
      refine zgetI (pc := 6) hx hb hG hown hw hk (T := TX5) rfl 16 (by decide) rfl wf_X5_85 rfl dX5_greatestGap_6 ?_
      refine zicmp_ge (pc := 9) hx hb 36 (by omega) (by omega) dX5_greatestGap_9 (by decide) (fun c9 => ?_) (fun c9 => ?_)
      · skip
        refine lv_iload_n (pc := 36) hx hb dX5_greatestGap_36 rfl (lv_at hl 1 rfl) ?_
        exact zretI (pc := 37) hx hb hlocks hr hw (Nat.zero_le _) (Nat.zero_le _) dX5_greatestGap_37 ⟨by (try dsimp only) <;> (rw [← h6, wdA_e (by omega)]; omega), rfl, rfl, rfl⟩
      · skip
        refine lv_iload_n (pc := 12) hx hb dX5_greatestGap_12 rfl (lv_at hl 1 rfl) ?_
        refine lv_aload_n (pc := 13) hx hb dX5_greatestGap_13 rfl (lv_at hl 2 rfl) ?_
        refine lv_iload_n (pc := 14) hx hb dX5_greatestGap_14 rfl (lv_at hl 0 rfl) ?_
        refine zkIp (pc := 15) (zrV (As := [.int (iI kk)]) hx hb hml hown hG hw (c_X5_date_L l Γ K X Rf se kk fo ll (by (first | assumption | omega)) (by (first | assumption | omega)) (by (first | assumption | omega)) (by (first | assumption | omega)) (by (first | assumption | omega))) (T := TX5) hk rfl cb_X5_date wl_X5_165 rfl ⟨Nat.le_of_ble_eq_true rfl, Nat.le_of_ble_eq_true rfl⟩ hl.1 rfl (Nat.le_of_ble_eq_true rfl) dX5_greatestGap_15 ⟨Nat.zero_le _, Nat.zero_le _⟩) hw (fun r15 H locs hp15 hw => ?_)
        subst hp15
        have hp15f0 := dtL_rng (by assumption : dtR X se fo ll) kk
        have hdl := dtL_in (l := ll) (k := kk) (by omega) (by omega)
        refine lv_aload_n (pc := 18) hx hb dX5_greatestGap_18 rfl (lv_at hl 2 rfl) ?_
        refine lv_iload_n (pc := 19) hx hb dX5_greatestGap_19 rfl (lv_at hl 0 rfl) ?_
        refine ziconst (pc := 20) (n := 1) hx hb dX5_greatestGap_20 ?_
        refine zsub (pc := 21) hx hb dX5_greatestGap_21 ?_
        refine zkIp (pc := 22) (zrV (As := [.int (iI (kk - 1))]) hx hb hml hown hG hw (c_X5_date_L l Γ K X Rf se (kk - 1) fo ll (by (first | assumption | omega)) (by (first | assumption | omega)) (by (first | assumption | omega)) (by (first | assumption | omega)) (by (first | assumption | omega))) (T := TX5) hk rfl cb_X5_date wl_X5_165 rfl ⟨Nat.le_of_ble_eq_true rfl, Nat.le_of_ble_eq_true rfl⟩ hl.1 rfl (Nat.le_of_ble_eq_true rfl) dX5_greatestGap_22 ⟨Nat.zero_le _, Nat.zero_le _⟩) hw (fun r22 H locs hp22 hw => ?_)
        subst hp22
        have hp22f0 := dtL_rng (by assumption : dtR X se fo ll) (kk - 1)
        have hdl2 := dtL_in (l := ll) (k := kk - 1) (by omega) (by omega)
        refine zsub (pc := 25) hx hb dX5_greatestGap_25 ?_
        refine zmax (pc := 26) hx hb (hml.trans hl.1.symm) hown hG wl_X5_173 w1_zmx wi_javalangMath w2_zmx (Nat.le_of_ble_eq_true rfl) (Nat.le_of_ble_eq_true rfl) (Nat.zero_le _) (Nat.zero_le _) ⟨by omega, by omega⟩ dX5_greatestGap_26 ?_
        refine ztop (fun x29 ex29 => ?_)
        refine lv_istore_n (pc := 29) (lv' := [(1, .int (iI x29)), (2, .int (iI kk)), (0, .ref se)]) hx hb dX5_greatestGap_29 rfl hl (by decide) rfl (fun ls hl => ?_)
        refine ziinc (pc := 30) (lv' := [(2, .int (iI (kk + 1))), (1, .int (iI x29)), (0, .ref se)]) hx hb 1 dX5_greatestGap_30 hl rfl (by decide) rfl (fun ls hl => ?_)
        obtain ⟨x30, ex30⟩ : ∃ zz : Int, zz = (kk + 1) := ⟨_, rfl⟩
        rw [← ex30] at hl
        refine lv_goto (pc := 33) (tgt := 4) hx hb dX5_greatestGap_33 (by decide) ?_
        exact ih4 x30 x29 _ _ (by (first | assumption | omega)) (by (first | assumption | omega)) (by rw [← h6, ex30, show (kk + 1 - 1).toNat = kk.toNat by omega, show (kk + 1).toNat = kk.toNat + 1 by omega, wdA_s (k := kk.toNat) (by omega) (ll.getD (kk - 1).toNat 0)]; omega) (by omega) hw _ (lv_sub hl [0, 1, 2] rfl)
  exact lp4 _ 1 0 _ _ (by (first | assumption | omega)) (by (first | assumption | omega)) (by exact wdD_start ll) (Nat.lt_succ_self _) hw _ (lv_sub hl [0, 1, 2] rfl)
set_option maxHeartbeats 4000000 in
set_option maxRecDepth 100000 in
theorem c_X5_meanOfGaps (l : Launch) (Γ : zG) (K : zK) (X : zX) (Rf : zR) (se : Nat) (fo : Nat) (ll : List Int) (hk : K se = (1, 4)) (hr15 : Rf se 15 = some fo) (hkfo : K fo = (2, 4001)) (hl9 : dtR X se fo ll) : Ct l yX5_meanOfGaps cX5_meanOfGaps 2 (some .double) 1 0 0 Γ [.ref se] K X Rf (pD (zp0 K X Rf (fun r : Int => r = mgL ll))) := by
  refine Ct.of (by decide +kernel) (Nat.le_of_ble_eq_true rfl) ?_
  intro p e s m below meth c ls hx hb hr hml hown hG hlocks hname hw hl
  have hl : lv_has ls 2 [(0, .ref se)] := hl
  have hl1 := hl9.1
  have hl2 := hl9.2.1
  refine lv_aload_n (pc := 0) hx hb dX5_meanOfGaps_0 rfl (lv_at hl 0 rfl) ?_
  refine zgetI (pc := 1) hx hb hG hown hw hk (T := TX5) rfl 16 (by decide) rfl wf_X5_85 rfl dX5_meanOfGaps_1 ?_
  refine ziconst (pc := 4) (n := 1) hx hb dX5_meanOfGaps_4 ?_
  refine zsub (pc := 5) hx hb dX5_meanOfGaps_5 ?_
  refine ztop (fun x6 ex6 => ?_)
  refine lv_istore_n (pc := 6) (lv' := [(1, .int (iI x6)), (0, .ref se)]) hx hb dX5_meanOfGaps_6 rfl hl (by decide) rfl (fun ls hl => ?_)
  refine lv_iload_n (pc := 7) hx hb dX5_meanOfGaps_7 rfl (lv_at hl 0 rfl) ?_
  refine ziconst (pc := 8) (n := 1) hx hb dX5_meanOfGaps_8 ?_
  refine zicmp_ge (pc := 9) hx hb 14 (by omega) (by omega) dX5_meanOfGaps_9 (by decide) (fun c9 => ?_) (fun c9 => ?_)
  · skip
    refine lv_aload_n (pc := 14) hx hb dX5_meanOfGaps_14 rfl (lv_at hl 1 rfl) ?_
    refine lv_iload_n (pc := 15) hx hb dX5_meanOfGaps_15 rfl (lv_at hl 0 rfl) ?_
    refine zkIp (pc := 16) (zrV (As := [.int (iI x6)]) hx hb hml hown hG hw (c_X5_date_L l Γ K X Rf se x6 fo ll (by (first | assumption | omega)) (by (first | assumption | omega)) (by (first | assumption | omega)) (by (first | assumption | omega)) (by (first | assumption | omega))) (T := TX5) hk rfl cb_X5_date wl_X5_165 rfl ⟨Nat.le_of_ble_eq_true rfl, Nat.le_of_ble_eq_true rfl⟩ hl.1 rfl (Nat.le_of_ble_eq_true rfl) dX5_meanOfGaps_16 ⟨Nat.zero_le _, Nat.zero_le _⟩) hw (fun r16 H locs hp16 hw => ?_)
    subst hp16
    have hp16f0 := dtL_rng (by assumption : dtR X se fo ll) x6
    refine lv_aload_n (pc := 19) hx hb dX5_meanOfGaps_19 rfl (lv_at hl 1 rfl) ?_
    refine ziconst (pc := 20) (n := 0) hx hb dX5_meanOfGaps_20 ?_
    refine zkIp (pc := 21) (zrV (As := [.int (iI 0)]) hx hb hml hown hG hw (c_X5_date_L l Γ K X Rf se 0 fo ll (by (first | assumption | omega)) (by (first | assumption | omega)) (by (first | assumption | omega)) (by (first | assumption | omega)) (by (first | assumption | omega))) (T := TX5) hk rfl cb_X5_date wl_X5_165 rfl ⟨Nat.le_of_ble_eq_true rfl, Nat.le_of_ble_eq_true rfl⟩ hl.1 rfl (Nat.le_of_ble_eq_true rfl) dX5_meanOfGaps_21 ⟨Nat.zero_le _, Nat.zero_le _⟩) hw (fun r21 H locs hp21 hw => ?_)
    subst hp21
    have hp21f0 := dtL_rng (by assumption : dtR X se fo ll) 0
    refine zsub (pc := 24) hx hb dX5_meanOfGaps_24 ?_
    refine lv_i2d (pc := 25) hx hb dX5_meanOfGaps_25 ?_
    refine lv_iload_n (pc := 26) hx hb dX5_meanOfGaps_26 rfl (lv_at hl 0 rfl) ?_
    refine lv_i2d (pc := 27) hx hb dX5_meanOfGaps_27 ?_
    refine zmean (pc := 28) hx hb ⟨by omega, by omega⟩ dX5_meanOfGaps_28 ?_
    exact zretD (pc := 29) hx hb hlocks hr hw (Nat.zero_le _) (Nat.zero_le _) dX5_meanOfGaps_29 ⟨by (try dsimp only) <;> (
                                        unfold mgL
                                        first
                                        | (rw [if_pos (by omega)])
                                        | (rw [if_neg (by omega), dtL_in (by omega) (by omega), dtL_in (by omega) (by omega), show x6.toNat = ll.length - 1 by omega, show x6 = (ll.length : Int) - 1 by omega]; rfl)), rfl, rfl, rfl⟩
  · skip
    refine zdconst0 (pc := 12) hx hb dX5_meanOfGaps_12 ?_
    exact zretD (pc := 13) hx hb hlocks hr hw (Nat.zero_le _) (Nat.zero_le _) dX5_meanOfGaps_13 ⟨by (try dsimp only) <;> (
                                        unfold mgL
                                        first
                                        | (rw [if_pos (by omega)])
                                        | (rw [if_neg (by omega), dtL_in (by omega) (by omega), dtL_in (by omega) (by omega), show x6.toNat = ll.length - 1 by omega, show x6 = (ll.length : Int) - 1 by omega]; rfl)), rfl, rfl, rfl⟩
