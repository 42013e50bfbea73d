set_option maxHeartbeats 4000000 in
set_option maxRecDepth 100000 in
theorem c_X9_of (l : Launch) (Γ : zG) (K : zK) (X : zX) (Rf : zR) (md : Nat) (n : Int) (q : Int) (a17 : Nat) (hmd : K md = (1, 8)) (hB17 : Rf md 17 = some a17) (hA17 : K a17 = (2, 66)) (h1 : (0 ≤ n ∧ n < 6) ∧ 0 ≤ q ∧ q < 11) : Ct l yX9_of cX9_of 3 (some .int) 0 0 0 Γ [.ref md, .int (iI n), .int (iI q)] K X Rf (pI (zp0 K X Rf (fun r : Int => r = X a17 (11 * n + q).toNat))) := by
  refine Ct.of (by decide +kernel) (Nat.le_of_ble_eq_true rfl) ?_
  intro p e s m below meth c ls hx hb hr hml hown hG hlocks hname hw hl
  have hl : lv_has ls 3 [(0, .ref md), (1, .int (iI n)), (2, .int (iI q))] := hl
  refine lv_aload_n (pc := 0) hx hb dX9_of_0 rfl (lv_at hl 0 rfl) ?_
  refine zgetR (pc := 1) hx hb hG hown hw hmd (T := TX9) rfl 17 (by decide) rfl wf_X9_39 rfl hB17 dX9_of_1 ?_
  refine zbipush (pc := 4) (n := 11) hx hb dX9_of_4 rfl ?_
  refine lv_iload_n (pc := 6) hx hb dX9_of_6 rfl (lv_at hl 1 rfl) ?_
  refine zmul (pc := 7) hx hb dX9_of_7 ?_
  refine lv_iload_n (pc := 8) hx hb dX9_of_8 rfl (lv_at hl 2 rfl) ?_
  refine zadd (pc := 9) hx hb dX9_of_9 ?_
  refine zald (pc := 10) hx hb hw hA17 ⟨by omega, by omega⟩ (by omega) dX9_of_10 ?_
  exact zretI (pc := 11) hx hb hlocks hr hw (Nat.zero_le _) (Nat.zero_le _) dX9_of_11 ⟨by (try dsimp only) <;> ((first | assumption | omega)), rfl, rfl, rfl⟩
set_option maxHeartbeats 4000000 in
set_option maxRecDepth 100000 in
theorem c_X9_isOut (l : Launch) (Γ : zG) (K : zK) (X : zX) (Rf : zR) (md : Nat) (n : Int) (day : Int) (a17 : Nat) (a19 : Nat) (E : Nat → Int) (nn : Nat) (hmd : K md = (1, 8)) (hB17 : Rf md 17 = some a17) (hB19 : Rf md 19 = some a19) (hA17 : K a17 = (2, 66)) (hA19 : K a19 = (2, 48)) (h1 : (0 ≤ n ∧ n < 6) ∧ fit day) (hc : X a17 (11 * n + 10).toNat = nn ∧ nn ≤ 8) (hE : ∀ k, k < nn → X a19 (8 * n.toNat + k) = E k ∧ fit (E k)) : Ct l yX9_isOut cX9_isOut 5 (some .boolean) 1 0 0 Γ [.ref md, .int (iI n), .int (iI day)] K X Rf (pI (zp0 K X Rf (fun r : Int => r = exV E day nn))) := by
  refine Ct.of (by decide +kernel) (Nat.le_of_ble_eq_true rfl) ?_
  intro p e s m below meth c ls hx hb hr hml hown hG hlocks hname hw hl
  have hl : lv_has ls 5 [(0, .ref md), (1, .int (iI n)), (2, .int (iI day))] := hl
  refine ziconst (pc := 0) (n := 0) hx hb dX9_isOut_0 ?_
  refine lv_istore_n (pc := 1) (lv' := [(3, .int (iI 0)), (0, .ref md), (1, .int (iI n)), (2, .int (iI day))]) hx hb dX9_isOut_1 rfl hl (by decide) rfl (fun ls hl => ?_)
  refine ziconst (pc := 2) (n := 0) hx hb dX9_isOut_2 ?_
  refine lv_istore (pc := 3) (lv' := [(4, .int (iI 0)), (3, .int (iI 0)), (0, .ref md), (1, .int (iI n)), (2, .int (iI day))]) hx hb dX9_isOut_3 hl (by decide) rfl (fun ls hl => ?_)
  have lp5 : ∀ (n5 : Nat) (kk : Int) (is : Int) (H : Heap) (locs : List Loc), (hi : 0 ≤ kk ∧ kk ≤ nn) → (hs : is = exV E day kk.toNat) → (((nn : Int) - kk).toNat < n5) → Wd Γ (zA K s.heap.size) K X Rf s H locs → ∀ ls : Array Slot, lv_has ls 5 [(4, .int (iI kk)), (3, .int (iI is)), (0, .ref md), (1, .int (iI n)), (2, .int (iI day))] → W p l e (rmL 1 0 0) s m ([.ref md, .int (iI n), .int (iI day)] : List Value).toArray below meth c H locs 0 0 (MQ below (zQ Γ K s.heap.size (pI (zp0 K X Rf (fun r : Int => r = exV E day nn)))) ([.ref md, .int (iI n), .int (iI day)] : List Value).toArray s 0 0 (zA K s.heap.size)) (F0 m 5 ls []) := by
    intro n5
    induction n5 with
    | zero => intro kk is H locs hi hs hm5; exact absurd hm5 (Nat.not_lt_zero _)
    | succ n5 ih5 =>
      intro kk is H locs hi hs hm5 hw ls hl
      have hev := exV_rng E day kk.toNat
      refine lv_iload (pc := 5) hx hb dX9_isOut_5 (lv_at hl 0 rfl) ?_
      refine lv_aload_n (pc := 7) hx hb dX9_isOut_7 rfl (lv_at hl 2 rfl) ?_
      refine lv_iload_n (pc := 8) hx hb dX9_isOut_8 rfl (lv_at hl 3 rfl) ?_
      refine zbipush (pc := 9) (n := 10) hx hb dX9_isOut_9 rfl ?_
      refine zkIp (pc := 11) (zrV (As := [.int (iI n), .int (iI 10)]) hx hb hml hown hG hw (c_X9_of l Γ K X Rf md n 10 a17 (by (first | assumption | omega)) (by (first | assumption | omega)) (by (first | assumption | omega)) (by (first | assumption | omega))) (T := TX9) hmd rfl cb_X9_of wl_X9_234 rfl ⟨Nat.le_of_ble_eq_true rfl, Nat.le_of_ble_eq_true rfl⟩ hl.1 rfl (Nat.le_of_ble_eq_true rfl) dX9_isOut_11 ⟨Nat.zero_le _, Nat.zero_le _⟩) hw (fun r11 H locs hp11 hw => ?_)
      subst hp11
      refine zicmp_ge (pc := 14) hx hb 47 (by omega) (by omega) dX9_isOut_14 (by decide) (fun c14 => ?_) (fun c14 => ?_)
      · skip
        refine lv_iload_n (pc := 47) hx hb dX9_isOut_47 rfl (lv_at hl 1 rfl) ?_
        exact zretZ (pc := 48) hx hb hlocks hr (by omega) hw (Nat.zero_le _) (Nat.zero_le _) dX9_isOut_48 ⟨by (try dsimp only) <;> (rw [hs, show kk.toNat = nn by omega]), rfl, rfl, rfl⟩
      · skip
        refine lv_iload_n (pc := 17) hx hb dX9_isOut_17 rfl (lv_at hl 1 rfl) ?_
        refine lv_aload_n (pc := 18) hx hb dX9_isOut_18 rfl (lv_at hl 2 rfl) ?_
        refine zgetR (pc := 19) hx hb hG hown hw hmd (T := TX9) rfl 19 (by decide) rfl wf_X9_45 rfl hB19 dX9_isOut_19 ?_
        refine zbipush (pc := 22) (n := 8) hx hb dX9_isOut_22 rfl ?_
        refine lv_iload_n (pc := 24) hx hb dX9_isOut_24 rfl (lv_at hl 3 rfl) ?_
        refine zmul (pc := 25) hx hb dX9_isOut_25 ?_
        refine lv_iload (pc := 26) hx hb dX9_isOut_26 (lv_at hl 0 rfl) ?_
        refine zadd (pc := 28) hx hb dX9_isOut_28 ?_
        refine zald (pc := 29) hx hb hw hA19 ⟨by omega, by omega⟩ (by omega) dX9_isOut_29 ?_
        refine lv_iload_n (pc := 30) hx hb dX9_isOut_30 rfl (lv_at hl 4 rfl) ?_
        have hEk := hE kk.toNat (by omega)
        have hix : (8 * n + kk).toNat = 8 * n.toNat + kk.toNat := by omega
        have hXk : X a19 (8 * n + kk).toNat = E kk.toNat := by rw [hix]; exact hEk.1
        refine zicmp_ne (pc := 31) hx hb 38 (by omega) (by omega) dX9_isOut_31 (by decide) (fun c31 => ?_) (fun c31 => ?_)
        · skip
          refine ziconst (pc := 38) (n := 0) hx hb dX9_isOut_38 ?_
          refine zor01 (pc := 39) hx hb (by omega) dX9_isOut_39 ?_
          refine ztop (fun x40 ex40 => ?_)
          refine lv_istore_n (pc := 40) (lv' := [(3, .int (iI x40)), (4, .int (iI kk)), (0, .ref md), (1, .int (iI n)), (2, .int (iI day))]) hx hb dX9_isOut_40 rfl hl (by decide) rfl (fun ls hl => ?_)
          refine ziinc (pc := 41) (lv' := [(4, .int (iI (kk + 1))), (3, .int (iI x40)), (0, .ref md), (1, .int (iI n)), (2, .int (iI day))]) hx hb 1 dX9_isOut_41 hl rfl (by decide) rfl (fun ls hl => ?_)
          obtain ⟨x41, ex41⟩ : ∃ zz : Int, zz = (kk + 1) := ⟨_, rfl⟩
          rw [← ex41] at hl
          refine lv_goto (pc := 44) (tgt := 5) hx hb dX9_isOut_44 (by decide) ?_
          exact ih5 x41 x40 _ _ (by (first | assumption | omega)) (by rw [ex40, ex41, show (kk + 1).toNat = kk.toNat + 1 by omega]; first | (rw [exV_y (by omega)]; omega) | (rw [exV_n (by omega), ← hs]; omega)) (by omega) hw _ (lv_sub hl [0, 1, 2, 3, 4] rfl)
        · skip
          refine ziconst (pc := 34) (n := 1) hx hb dX9_isOut_34 ?_
          refine lv_goto (pc := 35) (tgt := 39) hx hb dX9_isOut_35 (by decide) ?_
          refine zor01 (pc := 39) hx hb (by omega) dX9_isOut_39 ?_
          refine ztop (fun x40 ex40 => ?_)
          refine lv_istore_n (pc := 40) (lv' := [(3, .int (iI x40)), (4, .int (iI kk)), (0, .ref md), (1, .int (iI n)), (2, .int (iI day))]) hx hb dX9_isOut_40 rfl hl (by decide) rfl (fun ls hl => ?_)
          refine ziinc (pc := 41) (lv' := [(4, .int (iI (kk + 1))), (3, .int (iI x40)), (0, .ref md), (1, .int (iI n)), (2, .int (iI day))]) hx hb 1 dX9_isOut_41 hl rfl (by decide) rfl (fun ls hl => ?_)
          obtain ⟨x41, ex41⟩ : ∃ zz : Int, zz = (kk + 1) := ⟨_, rfl⟩
          rw [← ex41] at hl
          refine lv_goto (pc := 44) (tgt := 5) hx hb dX9_isOut_44 (by decide) ?_
          exact ih5 x41 x40 _ _ (by (first | assumption | omega)) (by rw [ex40, ex41, show (kk + 1).toNat = kk.toNat + 1 by omega]; first | (rw [exV_y (by omega)]; omega) | (rw [exV_n (by omega), ← hs]; omega)) (by omega) hw _ (lv_sub hl [0, 1, 2, 3, 4] rfl)
  exact lp5 _ 0 0 _ _ (by (first | assumption | omega)) (by rfl) (Nat.lt_succ_self _) hw _ (lv_sub hl [0, 1, 2, 3, 4] rfl)
set_option maxHeartbeats 4000000 in
set_option maxRecDepth 100000 in
theorem c_X9_usePattern (l : Launch) (Γ : zG) (K : zK) (X : zX) (Rf : zR) (md : Nat) (a : Int) (b9 : Int) (ρ : zL) (M : zM) (hR : repR ρ K X Rf md M) (hM : okM M) (h1 : fit a ∧ fit b9) : Ct l yX9_usePattern cX9_usePattern 3 (some .int) 2 0 0 Γ [.ref md, .int (iI a), .int (iI b9)] K X Rf (pI (fun (r : Int) (K' : zK) (X' : zX) (R' : zR) => (cdUse M a b9 = 0 → r = serM M a.toNat 9 + 1) ∧ X' md 0 = cdUse M a b9 ∧ ∃ ρ', repR ρ' K' X' R' md (if cdUse M a b9 = 0 then usaM M a.toNat b9 else M) ∧ frR ρ K X Rf ρ' K' X' R' ∧ ptR X' R' md ≤ ptR X Rf md + 5000)) := by
  refine Ct.of (by decide +kernel) (Nat.le_of_ble_eq_true rfl) ?_
  intro p e s m below meth c ls hx hb hr hml hown hG hlocks hname hw hl
  have hl : lv_has ls 3 [(0, .ref md), (1, .int (iI a)), (2, .int (iI b9))] := hl
  obtain ⟨hmd, hlmd⟩ := id hR.1
  obtain ⟨⟨hb1, hb2, hb3, hb4⟩, hokP, hokL, hokS, hokW, hokF⟩ := id hM
  have hq1 : X md 1 = M 40 1 := hR.2.1 1 rfl
  have hq5 : X md 5 = M 40 5 := hR.2.1 5 rfl
  have hq16 : X md 16 = M 40 16 := hR.2.1 16 rfl
  have hq25 : X md 25 = M 40 25 := hR.2.1 25 rfl
  have hq26 : X md 26 = M 40 26 := hR.2.1 26 rfl
  have hq27 : X md 27 = M 40 27 := hR.2.1 27 rfl
  have hq28 : X md 28 = M 40 28 := hR.2.1 28 rfl
  have hq29 : X md 29 = M 40 29 := hR.2.1 29 rfl
  obtain ⟨a17, hB17, hA17, hL17, hD17⟩ : ∃ a, Rf md 17 = some a ∧ K a = (2, 66) ∧ ρ a = 2018 ∧ X a = M 17 := hR.fd 17 (by decide) rfl
  have hN17 : Apt a17 md := zkn2 hA17 hmd (by simp)
  obtain ⟨a18, hB18, hA18, hL18, hD18⟩ : ∃ a, Rf md 18 = some a ∧ K a = (2, 24) ∧ ρ a = 2019 ∧ X a = M 18 := hR.fd 18 (by decide) rfl
  have hN18 : Apt a18 md := zkn2 hA18 hmd (by simp)
  obtain ⟨a22, hB22, hA22, hL22⟩ : ∃ a, Rf md 22 = some a ∧ K a = (11, 6) ∧ ρ a = 2023 := hR.ff 22 (by decide)
  have hN22 : Apt a22 md := zkn2 hA22 hmd (by simp)
  refine lv_aload_n (pc := 0) hx hb dX9_usePattern_0 rfl (lv_at hl 0 rfl) ?_
  refine ziconst (pc := 1) (n := 0) hx hb dX9_usePattern_1 ?_
  refine zputI (pc := 2) hx hb hG hown hw hmd (T := TX9) rfl 0 (by decide) rfl wf_X9_87 rfl (by decide +kernel) rfl dX9_usePattern_2 (fun H locs hw => ?_)
  obtain ⟨X2, eX2⟩ : ∃ Y : zX, Y = up2 X md 0 0 := ⟨_, rfl⟩
  rw [← eX2] at hw
  have hE17 : X2 a17 = M 17 := by rw [eX2, up2_o hN17]; exact hD17
  have hE18 : X2 a18 = M 18 := by rw [eX2, up2_o hN18]; exact hD18
  have hz1 : X2 md 1 = M 40 1 := by rw [eX2, up2_k (by decide)]; exact hq1
  have hz16 : X2 md 16 = M 40 16 := by rw [eX2, up2_k (by decide)]; exact hq16
  refine lv_aload_n (pc := 5) hx hb dX9_usePattern_5 rfl (lv_at hl 0 rfl) ?_
  refine lv_iload_n (pc := 6) hx hb dX9_usePattern_6 rfl (lv_at hl 1 rfl) ?_
  refine zkIp (pc := 7) (zrV (As := [.int (iI a)]) hx hb hml hown hG hw (c_X9_isSeries l Γ K X2 Rf md a  (by (first | assumption | omega)) (by (first | assumption | omega))) (T := TX9) hmd rfl cb_X9_isSeries wl_X9_231 rfl ⟨Nat.le_of_ble_eq_true rfl, Nat.le_of_ble_eq_true rfl⟩ hl.1 rfl (Nat.le_of_ble_eq_true rfl) dX9_usePattern_7 ⟨Nat.zero_le _, Nat.zero_le _⟩) hw (fun r7 H locs hp7 hw => ?_)
  subst hp7
  refine zif_eq (pc := 10) hx hb 21 (by omega) dX9_usePattern_10 (by decide) (fun c10 => ?_) (fun c10 => ?_)
  · skip
    replace c10 := it0 c10
    refine lv_aload_n (pc := 21) hx hb dX9_usePattern_21 rfl (lv_at hl 0 rfl) ?_
    refine ziconst (pc := 22) (n := 1) hx hb dX9_usePattern_22 ?_
    refine zkIx (pc := 23) (zrV (As := [.int (iI 1)]) hx hb hml hown hG hw (c_X9_refuse l Γ K X2 Rf md 1  (by (first | assumption | omega))) (T := TX9) hmd rfl cb_X9_refuse wl_X9_123 rfl ⟨Nat.le_of_ble_eq_true rfl, Nat.le_of_ble_eq_true rfl⟩ hl.1 rfl (Nat.le_of_ble_eq_true rfl) dX9_usePattern_23 ⟨Nat.zero_le _, Nat.zero_le _⟩) hw (fun r23 X23 H locs hp23 hw => ?_)
    obtain ⟨hrf23, eX23⟩ := hp23
    exact zretI (pc := 26) hx hb hlocks hr hw (Nat.zero_le _) (Nat.zero_le _) dX9_usePattern_26 (by refine ⟨fun hz => by (exfalso; revert hz; (unfold cdUse; (repeat' split) <;> omega)), ?_⟩; exact hR.no (by (unfold cdUse; (repeat' split) <;> omega)) (by rw [eX23]; (try rw [eX2]); (try rw [up2_up2]); exact thr_c (by (unfold cdUse; (repeat' split) <;> omega))))
  · skip
    replace c10 := it1 c10
    refine lv_aload_n (pc := 13) hx hb dX9_usePattern_13 rfl (lv_at hl 0 rfl) ?_
    refine lv_iload_n (pc := 14) hx hb dX9_usePattern_14 rfl (lv_at hl 2 rfl) ?_
    refine zkIp (pc := 15) (zrV (As := [.int (iI b9)]) hx hb hml hown hG hw (c_X9_isPattern l Γ K X2 Rf md b9  (by (first | assumption | omega)) (by (first | assumption | omega))) (T := TX9) hmd rfl cb_X9_isPattern wl_X9_148 rfl ⟨Nat.le_of_ble_eq_true rfl, Nat.le_of_ble_eq_true rfl⟩ hl.1 rfl (Nat.le_of_ble_eq_true rfl) dX9_usePattern_15 ⟨Nat.zero_le _, Nat.zero_le _⟩) hw (fun r15 H locs hp15 hw => ?_)
    subst hp15
    refine zif_ne (pc := 18) hx hb 27 (by omega) dX9_usePattern_18 (by decide) (fun c18 => ?_) (fun c18 => ?_)
    · skip
      replace c18 := it1 c18
      refine lv_aload_n (pc := 27) hx hb dX9_usePattern_27 rfl (lv_at hl 0 rfl) ?_
      refine lv_iload_n (pc := 28) hx hb dX9_usePattern_28 rfl (lv_at hl 1 rfl) ?_
      refine zbipush (pc := 29) (n := 9) hx hb dX9_usePattern_29 rfl ?_
      refine zkIp (pc := 31) (zrV (As := [.int (iI a), .int (iI 9)]) hx hb hml hown hG hw (c_X9_of l Γ K X2 Rf md a 9 a17 (by (first | assumption | omega)) (by (first | assumption | omega)) (by (first | assumption | omega)) (by (first | assumption | omega))) (T := TX9) hmd rfl cb_X9_of wl_X9_234 rfl ⟨Nat.le_of_ble_eq_true rfl, Nat.le_of_ble_eq_true rfl⟩ hl.1 rfl (Nat.le_of_ble_eq_true rfl) dX9_usePattern_31 ⟨Nat.zero_le _, Nat.zero_le _⟩) hw (fun r31 H locs hp31 hw => ?_)
      subst hp31
      have hv31 : X2 a17 (11 * a + 9).toNat = serM M a.toNat 9 := by rw [hE17, show (11 * a + 9).toNat = 11 * a.toNat + 9 by omega]; exact (serM_17 (by decide)).symm
      have hoS := (hokS a.toNat (by omega)).1
      refine ziconst (pc := 34) (n := 4) hx hb dX9_usePattern_34 ?_
      refine zicmp_ne (pc := 35) hx hb 44 (by omega) (by omega) dX9_usePattern_35 (by decide) (fun c35 => ?_) (fun c35 => ?_)
      · skip
        refine lv_aload_n (pc := 44) hx hb dX9_usePattern_44 rfl (lv_at hl 0 rfl) ?_
        refine zgetR (pc := 45) hx hb hG hown hw hmd (T := TX9) rfl 18 (by decide) rfl wf_X9_42 rfl hB18 dX9_usePattern_45 ?_
        refine ziconst (pc := 48) (n := 4) hx hb dX9_usePattern_48 ?_
        refine lv_iload_n (pc := 49) hx hb dX9_usePattern_49 rfl (lv_at hl 1 rfl) ?_
        refine zmul (pc := 50) hx hb dX9_usePattern_50 ?_
        refine lv_aload_n (pc := 51) hx hb dX9_usePattern_51 rfl (lv_at hl 0 rfl) ?_
        refine lv_iload_n (pc := 52) hx hb dX9_usePattern_52 rfl (lv_at hl 1 rfl) ?_
        refine zbipush (pc := 53) (n := 9) hx hb dX9_usePattern_53 rfl ?_
        refine zkIp (pc := 55) (zrV (As := [.int (iI a), .int (iI 9)]) hx hb hml hown hG hw (c_X9_of l Γ K X2 Rf md a 9 a17 (by (first | assumption | omega)) (by (first | assumption | omega)) (by (first | assumption | omega)) (by (first | assumption | omega))) (T := TX9) hmd rfl cb_X9_of wl_X9_234 rfl ⟨Nat.le_of_ble_eq_true rfl, Nat.le_of_ble_eq_true rfl⟩ hl.1 rfl (Nat.le_of_ble_eq_true rfl) dX9_usePattern_55 ⟨Nat.zero_le _, Nat.zero_le _⟩) hw (fun r55 H locs hp55 hw => ?_)
        subst hp55
        have hv55 : X2 a17 (11 * a + 9).toNat = serM M a.toNat 9 := by rw [hE17, show (11 * a + 9).toNat = 11 * a.toNat + 9 by omega]; exact (serM_17 (by decide)).symm
        have hoS := (hokS a.toNat (by omega)).1
        refine zadd (pc := 58) hx hb dX9_usePattern_58 ?_
        refine lv_iload_n (pc := 59) hx hb dX9_usePattern_59 rfl (lv_at hl 2 rfl) ?_
        refine zast (pc := 60) hx hb hw hA18 ⟨by omega, by omega⟩ (by omega) dX9_usePattern_60 (fun H locs hw => ?_)
        obtain ⟨X60, eX60⟩ : ∃ Y : zX, Y = up2 X2 a18 ((4 * a) + (X2 a17 (11 * a + 9).toNat)).toNat b9 := ⟨_, rfl⟩
        rw [← eX60] at hw
        rw [hv55, show (4 * a + serM M a.toNat 9).toNat = 4 * a.toNat + (serM M a.toNat 9).toNat by omega] at eX60
        have hv60 : X60 a17 (11 * a + 9).toNat = serM M a.toNat 9 := by rw [eX60, up2_o (zne9 hL17 hL18 (by decide))]; exact hv55
        refine lv_aload_n (pc := 61) hx hb dX9_usePattern_61 rfl (lv_at hl 0 rfl) ?_
        refine zgetR (pc := 62) hx hb hG hown hw hmd (T := TX9) rfl 17 (by decide) rfl wf_X9_39 rfl hB17 dX9_usePattern_62 ?_
        refine zbipush (pc := 65) (n := 11) hx hb dX9_usePattern_65 rfl ?_
        refine lv_iload_n (pc := 67) hx hb dX9_usePattern_67 rfl (lv_at hl 1 rfl) ?_
        refine zmul (pc := 68) hx hb dX9_usePattern_68 ?_
        refine zbipush (pc := 69) (n := 9) hx hb dX9_usePattern_69 rfl ?_
        refine zadd (pc := 71) hx hb dX9_usePattern_71 ?_
        refine lv_dup2_11 (pc := 72) hx hb dX9_usePattern_72 rfl rfl ?_
        refine zald (pc := 73) hx hb hw hA17 ⟨by omega, by omega⟩ (by omega) dX9_usePattern_73 ?_
        refine ziconst (pc := 74) (n := 1) hx hb dX9_usePattern_74 ?_
        refine zadd (pc := 75) hx hb dX9_usePattern_75 ?_
        refine zast (pc := 76) hx hb hw hA17 ⟨by omega, by omega⟩ (by omega) dX9_usePattern_76 (fun H locs hw => ?_)
        obtain ⟨X76, eX76⟩ : ∃ Y : zX, Y = up2 X60 a17 ((11 * a) + 9).toNat ((X60 a17 ((11 * a) + 9).toNat) + 1) := ⟨_, rfl⟩
        rw [← eX76] at hw
        have hv76 : X76 a17 (11 * a + 9).toNat = serM M a.toNat 9 + 1 := by rw [eX76, up2_s, hv60]
        rw [hv60, show (11 * a + 9).toNat = 11 * a.toNat + 9 by omega] at eX76
        refine lv_aload_n (pc := 77) hx hb dX9_usePattern_77 rfl (lv_at hl 0 rfl) ?_
        refine zgetR (pc := 78) hx hb hG hown hw hmd (T := TX9) rfl 22 (by decide) rfl wf_X9_51 rfl hB22 dX9_usePattern_78 ?_
        refine lv_iload_n (pc := 81) hx hb dX9_usePattern_81 rfl (lv_at hl 1 rfl) ?_
        refine lv_null (pc := 82) hx hb dX9_usePattern_82 ?_
        refine zaastN5 (pc := 83) hx hb hw hA22 ⟨by omega, by omega⟩ (by omega) dX9_usePattern_83 (fun H locs hw => ?_)
        obtain ⟨R83, eR83⟩ : ∃ Y : zR, Y = up2 Rf a22 a.toNat none := ⟨_, rfl⟩
        rw [← eR83] at hw
        have hr83 : R83 md 17 = some a17 := by rw [eR83, up2_a (zkn2 hmd hA22 (by simp))]; exact hB17
        have hr83_1 : R83 md 18 = some a18 := by rw [eR83, up2_a (zkn2 hmd hA22 (by simp))]; exact hB18
        have hr83_2 : R83 md 22 = some a22 := by rw [eR83, up2_a (zkn2 hmd hA22 (by simp))]; exact hB22
        have hr83_3 : R83 a22 a.toNat = none := by rw [eR83]; exact up2_s
        refine lv_aload_n (pc := 84) hx hb dX9_usePattern_84 rfl (lv_at hl 0 rfl) ?_
        refine lv_iload_n (pc := 85) hx hb dX9_usePattern_85 rfl (lv_at hl 1 rfl) ?_
        refine zbipush (pc := 86) (n := 9) hx hb dX9_usePattern_86 rfl ?_
        refine zkIp (pc := 88) (zrV (As := [.int (iI a), .int (iI 9)]) hx hb hml hown hG hw (c_X9_of l Γ K X76 R83 md a 9 a17 (by (first | assumption | omega)) (by (first | assumption | omega)) (by (first | assumption | omega)) (by (first | assumption | omega))) (T := TX9) hmd rfl cb_X9_of wl_X9_234 rfl ⟨Nat.le_of_ble_eq_true rfl, Nat.le_of_ble_eq_true rfl⟩ hl.1 rfl (Nat.le_of_ble_eq_true rfl) dX9_usePattern_88 ⟨Nat.zero_le _, Nat.zero_le _⟩) hw (fun r88 H locs hp88 hw => ?_)
        subst hp88
        exact zretI (pc := 91) hx hb hlocks hr hw (Nat.zero_le _) (Nat.zero_le _) dX9_usePattern_91 (by 
                                        refine ⟨fun _ => by omega, ?_⟩
                                        have hnZ := (((hR.n.own (q := 0) (v := 0) rfl).row (f := 18) (a := a18) (k := (4 * a.toNat + (serM M a.toNat 9).toNat)) (v := b9) (by decide) hB18 rfl).row (f := 17) (a := a17) (k := (11 * a.toNat + 9)) (v := (serM M a.toNat 9 + 1)) (by decide) hB17 rfl)
                                        have hAZ : ∀ a9, (K a9).1 ≠ 0 → ρ a9 ≠ 2000 → (∀ f, daM f = true → ρ a9 ≠ 2001 + f) → X76 a9 = X a9 := fun a9 _ g1 g2 => by rw [eX76, up2_o (fun g => g2 17 rfl (by rw [g]; exact hL17)), eX60, up2_o (fun g => g2 18 rfl (by rw [g]; exact hL18)), eX2, up2_o (fun g => g1 (by rw [g]; exact hlmd))]
                                        have h35Z : X76 md 35 = X md 35 ∨ X76 md 35 = 0 := Or.inl (by rw [eX76, up2_o (Ne.symm hN17), eX60, up2_o (Ne.symm hN18), eX2, up2_k (by decide)])
                                        have h0Z : X76 md 0 = 0 := by rw [eX76, up2_o (Ne.symm hN17), eX60, up2_o (Ne.symm hN18), eX2, up2_s]
                                        have hnY : repN ρ K X76 Rf md (usaM M a.toNat b9) := by rw [eX76, eX60, eX2]; exact hnZ
                                        rw [eR83]
                                        exact hR.mutS (n := a.toNat) (cd := cdUse M a b9) hB22 hnY hAZ h35Z h0Z (fun f g1 g2 _ => usaM_f g1 g2) (fun k g => usaM_oth g ⟨by omega, by omega⟩) (by (unfold cdUse; (repeat' split) <;> omega)))
      · skip
        refine lv_aload_n (pc := 38) hx hb dX9_usePattern_38 rfl (lv_at hl 0 rfl) ?_
        refine ziconst (pc := 39) (n := 2) hx hb dX9_usePattern_39 ?_
        refine zkIx (pc := 40) (zrV (As := [.int (iI 2)]) hx hb hml hown hG hw (c_X9_refuse l Γ K X2 Rf md 2  (by (first | assumption | omega))) (T := TX9) hmd rfl cb_X9_refuse wl_X9_123 rfl ⟨Nat.le_of_ble_eq_true rfl, Nat.le_of_ble_eq_true rfl⟩ hl.1 rfl (Nat.le_of_ble_eq_true rfl) dX9_usePattern_40 ⟨Nat.zero_le _, Nat.zero_le _⟩) hw (fun r40 X40 H locs hp40 hw => ?_)
        obtain ⟨hrf40, eX40⟩ := hp40
        exact zretI (pc := 43) hx hb hlocks hr hw (Nat.zero_le _) (Nat.zero_le _) dX9_usePattern_43 (by refine ⟨fun hz => by (exfalso; revert hz; (unfold cdUse; (repeat' split) <;> omega)), ?_⟩; exact hR.no (by (unfold cdUse; (repeat' split) <;> omega)) (by rw [eX40]; (try rw [eX2]); (try rw [up2_up2]); exact thr_c (by (unfold cdUse; (repeat' split) <;> omega))))
    · skip
      replace c18 := it0 c18
      refine lv_aload_n (pc := 21) hx hb dX9_usePattern_21 rfl (lv_at hl 0 rfl) ?_
      refine ziconst (pc := 22) (n := 1) hx hb dX9_usePattern_22 ?_
      refine zkIx (pc := 23) (zrV (As := [.int (iI 1)]) hx hb hml hown hG hw (c_X9_refuse l Γ K X2 Rf md 1  (by (first | assumption | omega))) (T := TX9) hmd rfl cb_X9_refuse wl_X9_123 rfl ⟨Nat.le_of_ble_eq_true rfl, Nat.le_of_ble_eq_true rfl⟩ hl.1 rfl (Nat.le_of_ble_eq_true rfl) dX9_usePattern_23 ⟨Nat.zero_le _, Nat.zero_le _⟩) hw (fun r23 X23 H locs hp23 hw => ?_)
      obtain ⟨hrf23, eX23⟩ := hp23
      exact zretI (pc := 26) hx hb hlocks hr hw (Nat.zero_le _) (Nat.zero_le _) dX9_usePattern_26 (by refine ⟨fun hz => by (exfalso; revert hz; (unfold cdUse; (repeat' split) <;> omega)), ?_⟩; exact hR.no (by (unfold cdUse; (repeat' split) <;> omega)) (by rw [eX23]; (try rw [eX2]); (try rw [up2_up2]); exact thr_c (by (unfold cdUse; (repeat' split) <;> omega))))
set_option maxHeartbeats 4000000 in
set_option maxRecDepth 100000 in
theorem c_X9_set (l : Launch) (Γ : zG) (K : zK) (X : zX) (Rf : zR) (md : Nat) (a : Int) (what : Int) (v : Int) (lo : Int) (hi : Int) (ρ : zL) (M : zM) (q : Nat) (hR : repR ρ K X Rf md M) (hM : okM M) (h1 : fit a ∧ fit v ∧ fit lo ∧ fit hi) (hq : what = (q : Int) ∧ q < 11) : Ct l yX9_set cX9_set 7 (some .int) 2 0 0 Γ [.ref md, .int (iI a), .int (iI what), .int (iI v), .int (iI lo), .int (iI hi)] K X Rf (pI (fun (r : Int) (K' : zK) (X' : zX) (R' : zR) => (cdSet M a v lo hi = 0 → r = serM M a.toNat q) ∧ X' md 0 = cdSet M a v lo hi ∧ ∃ ρ', repR ρ' K' X' R' md (if cdSet M a v lo hi = 0 then up2 M 17 (11 * a.toNat + q) v else M) ∧ frR ρ K X Rf ρ' K' X' R' ∧ ptR X' R' md ≤ ptR X Rf md + 5000)) := by
  refine Ct.of (by decide +kernel) (Nat.le_of_ble_eq_true rfl) ?_
  intro p e s m below meth c ls hx hb hr hml hown hG hlocks hname hw hl
  have hl : lv_has ls 7 [(0, .ref md), (1, .int (iI a)), (2, .int (iI what)), (3, .int (iI v)), (4, .int (iI lo)), (5, .int (iI hi))] := hl
  obtain ⟨hmd, hlmd⟩ := id hR.1
  obtain ⟨⟨hb1, hb2, hb3, hb4⟩, hokP, hokL, hokS, hokW, hokF⟩ := id hM
  have hq1 : X md 1 = M 40 1 := hR.2.1 1 rfl
  have hq5 : X md 5 = M 40 5 := hR.2.1 5 rfl
  have hq16 : X md 16 = M 40 16 := hR.2.1 16 rfl
  have hq25 : X md 25 = M 40 25 := hR.2.1 25 rfl
  have hq26 : X md 26 = M 40 26 := hR.2.1 26 rfl
  have hq27 : X md 27 = M 40 27 := hR.2.1 27 rfl
  have hq28 : X md 28 = M 40 28 := hR.2.1 28 rfl
  have hq29 : X md 29 = M 40 29 := hR.2.1 29 rfl
  obtain ⟨a17, hB17, hA17, hL17, hD17⟩ : ∃ a, Rf md 17 = some a ∧ K a = (2, 66) ∧ ρ a = 2018 ∧ X a = M 17 := hR.fd 17 (by decide) rfl
  have hN17 : Apt a17 md := zkn2 hA17 hmd (by simp)
  obtain ⟨a22, hB22, hA22, hL22⟩ : ∃ a, Rf md 22 = some a ∧ K a = (11, 6) ∧ ρ a = 2023 := hR.ff 22 (by decide)
  have hN22 : Apt a22 md := zkn2 hA22 hmd (by simp)
  refine lv_aload_n (pc := 0) hx hb dX9_set_0 rfl (lv_at hl 0 rfl) ?_
  refine ziconst (pc := 1) (n := 0) hx hb dX9_set_1 ?_
  refine zputI (pc := 2) hx hb hG hown hw hmd (T := TX9) rfl 0 (by decide) rfl wf_X9_87 rfl (by decide +kernel) rfl dX9_set_2 (fun H locs hw => ?_)
  obtain ⟨X2, eX2⟩ : ∃ Y : zX, Y = up2 X md 0 0 := ⟨_, rfl⟩
  rw [← eX2] at hw
  have hE17 : X2 a17 = M 17 := by rw [eX2, up2_o hN17]; exact hD17
  have hz16 : X2 md 16 = M 40 16 := by rw [eX2, up2_k (by decide)]; exact hq16
  refine lv_aload_n (pc := 5) hx hb dX9_set_5 rfl (lv_at hl 0 rfl) ?_
  refine lv_iload_n (pc := 6) hx hb dX9_set_6 rfl (lv_at hl 1 rfl) ?_
  refine zkIp (pc := 7) (zrV (As := [.int (iI a)]) hx hb hml hown hG hw (c_X9_isSeries l Γ K X2 Rf md a  (by (first | assumption | omega)) (by (first | assumption | omega))) (T := TX9) hmd rfl cb_X9_isSeries wl_X9_231 rfl ⟨Nat.le_of_ble_eq_true rfl, Nat.le_of_ble_eq_true rfl⟩ hl.1 rfl (Nat.le_of_ble_eq_true rfl) dX9_set_7 ⟨Nat.zero_le _, Nat.zero_le _⟩) hw (fun r7 H locs hp7 hw => ?_)
  subst hp7
  refine zif_ne (pc := 10) hx hb 19 (by omega) dX9_set_10 (by decide) (fun c10 => ?_) (fun c10 => ?_)
  · skip
    replace c10 := it1 c10
    refine lv_iload_n (pc := 19) hx hb dX9_set_19 rfl (lv_at hl 3 rfl) ?_
    refine lv_iload (pc := 20) hx hb dX9_set_20 (lv_at hl 4 rfl) ?_
    refine lv_iload (pc := 22) hx hb dX9_set_22 (lv_at hl 5 rfl) ?_
    refine zkIp (pc := 24) (zrS (As := [.int (iI v), .int (iI lo), .int (iI hi)]) hx hb hml hown hG hw (c_X9_is l Γ K X2 Rf v lo hi  (by (first | assumption | omega))) cb_X9_is wl_X9_91 rfl ⟨Nat.le_of_ble_eq_true rfl, Nat.le_of_ble_eq_true rfl⟩ hl.1 rfl (Nat.le_of_ble_eq_true rfl) dX9_set_24 ⟨Nat.zero_le _, Nat.zero_le _⟩) hw (fun r24 H locs hp24 hw => ?_)
    subst hp24
    refine zif_ne (pc := 27) hx hb 36 (by omega) dX9_set_27 (by decide) (fun c27 => ?_) (fun c27 => ?_)
    · skip
      replace c27 := it1 c27
      refine lv_aload_n (pc := 36) hx hb dX9_set_36 rfl (lv_at hl 0 rfl) ?_
      refine lv_iload_n (pc := 37) hx hb dX9_set_37 rfl (lv_at hl 1 rfl) ?_
      refine lv_iload_n (pc := 38) hx hb dX9_set_38 rfl (lv_at hl 2 rfl) ?_
      refine zkIp (pc := 39) (zrV (As := [.int (iI a), .int (iI what)]) hx hb hml hown hG hw (c_X9_of l Γ K X2 Rf md a what a17 (by (first | assumption | omega)) (by (first | assumption | omega)) (by (first | assumption | omega)) (by (first | assumption | omega))) (T := TX9) hmd rfl cb_X9_of wl_X9_234 rfl ⟨Nat.le_of_ble_eq_true rfl, Nat.le_of_ble_eq_true rfl⟩ hl.1 rfl (Nat.le_of_ble_eq_true rfl) dX9_set_39 ⟨Nat.zero_le _, Nat.zero_le _⟩) hw (fun r39 H locs hp39 hw => ?_)
      subst hp39
      have hv39 : X2 a17 (11 * a + what).toNat = serM M a.toNat q := by rw [hE17, show (11 * a + what).toNat = 11 * a.toNat + q by omega]; exact (serM_17 hq.2).symm
      refine ztop (fun x42 ex42 => ?_)
      refine lv_istore (pc := 42) (lv' := [(6, .int (iI x42)), (0, .ref md), (1, .int (iI a)), (2, .int (iI what)), (3, .int (iI v)), (4, .int (iI lo)), (5, .int (iI hi))]) hx hb dX9_set_42 hl (by decide) rfl (fun ls hl => ?_)
      refine lv_aload_n (pc := 44) hx hb dX9_set_44 rfl (lv_at hl 1 rfl) ?_
      refine zgetR (pc := 45) hx hb hG hown hw hmd (T := TX9) rfl 17 (by decide) rfl wf_X9_39 rfl hB17 dX9_set_45 ?_
      refine zbipush (pc := 48) (n := 11) hx hb dX9_set_48 rfl ?_
      refine lv_iload_n (pc := 50) hx hb dX9_set_50 rfl (lv_at hl 2 rfl) ?_
      refine zmul (pc := 51) hx hb dX9_set_51 ?_
      refine lv_iload_n (pc := 52) hx hb dX9_set_52 rfl (lv_at hl 3 rfl) ?_
      refine zadd (pc := 53) hx hb dX9_set_53 ?_
      refine lv_iload_n (pc := 54) hx hb dX9_set_54 rfl (lv_at hl 4 rfl) ?_
      refine zast (pc := 55) hx hb hw hA17 ⟨by omega, by omega⟩ (by omega) dX9_set_55 (fun H locs hw => ?_)
      obtain ⟨X55, eX55⟩ : ∃ Y : zX, Y = up2 X2 a17 ((11 * a) + what).toNat v := ⟨_, rfl⟩
      rw [← eX55] at hw
      rw [show (11 * a + what).toNat = 11 * a.toNat + q by omega] at eX55
      refine lv_aload_n (pc := 56) hx hb dX9_set_56 rfl (lv_at hl 1 rfl) ?_
      refine zgetR (pc := 57) hx hb hG hown hw hmd (T := TX9) rfl 22 (by decide) rfl wf_X9_51 rfl hB22 dX9_set_57 ?_
      refine lv_iload_n (pc := 60) hx hb dX9_set_60 rfl (lv_at hl 2 rfl) ?_
      refine lv_null (pc := 61) hx hb dX9_set_61 ?_
      refine zaastN5 (pc := 62) hx hb hw hA22 ⟨by omega, by omega⟩ (by omega) dX9_set_62 (fun H locs hw => ?_)
      obtain ⟨R62, eR62⟩ : ∃ Y : zR, Y = up2 Rf a22 a.toNat none := ⟨_, rfl⟩
      rw [← eR62] at hw
      have hr62 : R62 md 17 = some a17 := by rw [eR62, up2_a (zkn2 hmd hA22 (by simp))]; exact hB17
      have hr62_1 : R62 md 22 = some a22 := by rw [eR62, up2_a (zkn2 hmd hA22 (by simp))]; exact hB22
      have hr62_2 : R62 a22 a.toNat = none := by rw [eR62]; exact up2_s
      refine lv_iload (pc := 63) hx hb dX9_set_63 (lv_at hl 0 rfl) ?_
      exact zretI (pc := 65) hx hb hlocks hr hw (Nat.zero_le _) (Nat.zero_le _) dX9_set_65 (by 
                                        refine ⟨fun _ => by omega, ?_⟩
                                        have hnZ := ((hR.n.own (q := 0) (v := 0) rfl).row (f := 17) (a := a17) (k := (11 * a.toNat + q)) (v := v) (by decide) hB17 rfl)
                                        have hAZ : ∀ a9, (K a9).1 ≠ 0 → ρ a9 ≠ 2000 → (∀ f, daM f = true → ρ a9 ≠ 2001 + f) → X55 a9 = X a9 := fun a9 _ g1 g2 => by rw [eX55, up2_o (fun g => g2 17 rfl (by rw [g]; exact hL17)), eX2, up2_o (fun g => g1 (by rw [g]; exact hlmd))]
                                        have h35Z : X55 md 35 = X md 35 ∨ X55 md 35 = 0 := Or.inl (by rw [eX55, up2_o (Ne.symm hN17), eX2, up2_k (by decide)])
                                        have h0Z : X55 md 0 = 0 := by rw [eX55, up2_o (Ne.symm hN17), eX2, up2_s]
                                        have hnY : repN ρ K X55 Rf md (up2 M 17 (11 * a.toNat + q) v) := by rw [eX55, eX2]; exact hnZ
                                        rw [eR62]
                                        exact hR.mutS (n := a.toNat) (cd := cdSet M a v lo hi) hB22 hnY hAZ h35Z h0Z (fun f g1 _ _ => set_f g1) (fun k g => set_d hq.2 g) (by (unfold cdSet; (repeat' split) <;> omega)))
    · skip
      replace c27 := it0 c27
      refine lv_aload_n (pc := 30) hx hb dX9_set_30 rfl (lv_at hl 0 rfl) ?_
      refine ziconst (pc := 31) (n := 2) hx hb dX9_set_31 ?_
      refine zkIx (pc := 32) (zrV (As := [.int (iI 2)]) hx hb hml hown hG hw (c_X9_refuse l Γ K X2 Rf md 2  (by (first | assumption | omega))) (T := TX9) hmd rfl cb_X9_refuse wl_X9_123 rfl ⟨Nat.le_of_ble_eq_true rfl, Nat.le_of_ble_eq_true rfl⟩ hl.1 rfl (Nat.le_of_ble_eq_true rfl) dX9_set_32 ⟨Nat.zero_le _, Nat.zero_le _⟩) hw (fun r32 X32 H locs hp32 hw => ?_)
      obtain ⟨hrf32, eX32⟩ := hp32
      exact zretI (pc := 35) hx hb hlocks hr hw (Nat.zero_le _) (Nat.zero_le _) dX9_set_35 (by refine ⟨fun hz => by (exfalso; revert hz; (unfold cdSet; (repeat' split) <;> omega)), ?_⟩; exact hR.no (by (unfold cdSet; (repeat' split) <;> omega)) (by rw [eX32]; (try rw [eX2]); (try rw [up2_up2]); exact thr_c (by (unfold cdSet; (repeat' split) <;> omega))))
  · skip
    replace c10 := it0 c10
    refine lv_aload_n (pc := 13) hx hb dX9_set_13 rfl (lv_at hl 0 rfl) ?_
    refine ziconst (pc := 14) (n := 1) hx hb dX9_set_14 ?_
    refine zkIx (pc := 15) (zrV (As := [.int (iI 1)]) hx hb hml hown hG hw (c_X9_refuse l Γ K X2 Rf md 1  (by (first | assumption | omega))) (T := TX9) hmd rfl cb_X9_refuse wl_X9_123 rfl ⟨Nat.le_of_ble_eq_true rfl, Nat.le_of_ble_eq_true rfl⟩ hl.1 rfl (Nat.le_of_ble_eq_true rfl) dX9_set_15 ⟨Nat.zero_le _, Nat.zero_le _⟩) hw (fun r15 X15 H locs hp15 hw => ?_)
    obtain ⟨hrf15, eX15⟩ := hp15
    exact zretI (pc := 18) hx hb hlocks hr hw (Nat.zero_le _) (Nat.zero_le _) dX9_set_18 (by refine ⟨fun hz => by (exfalso; revert hz; (unfold cdSet; (repeat' split) <;> omega)), ?_⟩; exact hR.no (by (unfold cdSet; (repeat' split) <;> omega)) (by rw [eX15]; (try rw [eX2]); (try rw [up2_up2]); exact thr_c (by (unfold cdSet; (repeat' split) <;> omega))))
set_option maxHeartbeats 4000000 in
set_option maxRecDepth 100000 in
theorem c_X9_setChoice (l : Launch) (Γ : zG) (K : zK) (X : zX) (Rf : zR) (md : Nat) (a : Int) (v : Int) (ρ : zL) (M : zM) (hR : repR ρ K X Rf md M) (hM : okM M) (h1 : fit a ∧ fit v) : Ct l yX9_setChoice cX9_setChoice 3 (some .int) 3 0 0 Γ [.ref md, .int (iI a), .int (iI v)] K X Rf (pI (fun (r : Int) (K' : zK) (X' : zX) (R' : zR) => (cdSet M a v (-6) 6 = 0 → r = serM M a.toNat 5) ∧ X' md 0 = cdSet M a v (-6) 6 ∧ ∃ ρ', repR ρ' K' X' R' md (if cdSet M a v (-6) 6 = 0 then up2 M 17 (11 * a.toNat + 5) v else M) ∧ frR ρ K X Rf ρ' K' X' R' ∧ ptR X' R' md ≤ ptR X Rf md + 5000)) := by
  refine Ct.of (by decide +kernel) (Nat.le_of_ble_eq_true rfl) ?_
  intro p e s m below meth c ls hx hb hr hml hown hG hlocks hname hw hl
  have hl : lv_has ls 3 [(0, .ref md), (1, .int (iI a)), (2, .int (iI v))] := hl
  obtain ⟨hmd, hlmd⟩ := id hR.1
  refine lv_aload_n (pc := 0) hx hb dX9_setChoice_0 rfl (lv_at hl 0 rfl) ?_
  refine lv_iload_n (pc := 1) hx hb dX9_setChoice_1 rfl (lv_at hl 1 rfl) ?_
  refine ziconst (pc := 2) (n := 5) hx hb dX9_setChoice_2 ?_
  refine lv_iload_n (pc := 3) hx hb dX9_setChoice_3 rfl (lv_at hl 2 rfl) ?_
  refine zbipush (pc := 4) (n := (-6)) hx hb dX9_setChoice_4 rfl ?_
  refine zbipush (pc := 6) (n := 6) hx hb dX9_setChoice_6 rfl ?_
  refine zkI (pc := 8) (zrV (As := [.int (iI a), .int (iI 5), .int (iI v), .int (iI (-6)), .int (iI 6)]) hx hb hml hown hG hw (c_X9_set l Γ K X Rf md a 5 v (-6) 6 (ρ) M 5 (by (first | assumption | omega)) (by (first | assumption | omega)) (by (first | assumption | omega)) (by (first | assumption | omega))) (T := TX9) hmd rfl cb_X9_set wl_X9_237 rfl ⟨Nat.le_of_ble_eq_true rfl, Nat.le_of_ble_eq_true rfl⟩ hl.1 rfl (Nat.le_of_ble_eq_true rfl) dX9_setChoice_8 ⟨Nat.zero_le _, Nat.zero_le _⟩) hw (fun r8 K8 X8 R8 H locs hp8 hw => ?_)
  exact zretI (pc := 11) hx hb hlocks hr hw (Nat.zero_le _) (Nat.zero_le _) dX9_setChoice_11 (by exact hp8)
set_option maxHeartbeats 4000000 in
set_option maxRecDepth 100000 in
theorem c_X9_setMost (l : Launch) (Γ : zG) (K : zK) (X : zX) (Rf : zR) (md : Nat) (a : Int) (v : Int) (ρ : zL) (M : zM) (hR : repR ρ K X Rf md M) (hM : okM M) (h1 : fit a ∧ fit v) : Ct l yX9_setMost cX9_setMost 3 (some .int) 3 0 0 Γ [.ref md, .int (iI a), .int (iI v)] K X Rf (pI (fun (r : Int) (K' : zK) (X' : zX) (R' : zR) => (cdSet M a v 0 500 = 0 → r = serM M a.toNat 6) ∧ X' md 0 = cdSet M a v 0 500 ∧ ∃ ρ', repR ρ' K' X' R' md (if cdSet M a v 0 500 = 0 then up2 M 17 (11 * a.toNat + 6) v else M) ∧ frR ρ K X Rf ρ' K' X' R' ∧ ptR X' R' md ≤ ptR X Rf md + 5000)) := by
  refine Ct.of (by decide +kernel) (Nat.le_of_ble_eq_true rfl) ?_
  intro p e s m below meth c ls hx hb hr hml hown hG hlocks hname hw hl
  have hl : lv_has ls 3 [(0, .ref md), (1, .int (iI a)), (2, .int (iI v))] := hl
  obtain ⟨hmd, hlmd⟩ := id hR.1
  refine lv_aload_n (pc := 0) hx hb dX9_setMost_0 rfl (lv_at hl 0 rfl) ?_
  refine lv_iload_n (pc := 1) hx hb dX9_setMost_1 rfl (lv_at hl 1 rfl) ?_
  refine zbipush (pc := 2) (n := 6) hx hb dX9_setMost_2 rfl ?_
  refine lv_iload_n (pc := 4) hx hb dX9_setMost_4 rfl (lv_at hl 2 rfl) ?_
  refine ziconst (pc := 5) (n := 0) hx hb dX9_setMost_5 ?_
  refine zsipush (pc := 6) (n := 500) hx hb dX9_setMost_6 rfl ?_
  refine zkI (pc := 9) (zrV (As := [.int (iI a), .int (iI 6), .int (iI v), .int (iI 0), .int (iI 500)]) hx hb hml hown hG hw (c_X9_set l Γ K X Rf md a 6 v 0 500 (ρ) M 6 (by (first | assumption | omega)) (by (first | assumption | omega)) (by (first | assumption | omega)) (by (first | assumption | omega))) (T := TX9) hmd rfl cb_X9_set wl_X9_237 rfl ⟨Nat.le_of_ble_eq_true rfl, Nat.le_of_ble_eq_true rfl⟩ hl.1 rfl (Nat.le_of_ble_eq_true rfl) dX9_setMost_9 ⟨Nat.zero_le _, Nat.zero_le _⟩) hw (fun r9 K9 X9 R9 H locs hp9 hw => ?_)
  exact zretI (pc := 12) hx hb hlocks hr hw (Nat.zero_le _) (Nat.zero_le _) dX9_setMost_12 (by exact hp9)
set_option maxHeartbeats 4000000 in
set_option maxRecDepth 100000 in
theorem c_X9_setLast (l : Launch) (Γ : zG) (K : zK) (X : zX) (Rf : zR) (md : Nat) (a : Int) (v : Int) (ρ : zL) (M : zM) (hR : repR ρ K X Rf md M) (hM : okM M) (h1 : fit a ∧ fit v) : Ct l yX9_setLast cX9_setLast 3 (some .int) 3 0 0 Γ [.ref md, .int (iI a), .int (iI v)] K X Rf (pI (fun (r : Int) (K' : zK) (X' : zX) (R' : zR) => (cdSet M a v (serM M a.toNat 1 / 1440) (serM M a.toNat 8) = 0 → r = serM M a.toNat 7) ∧ X' md 0 = cdSet M a v (serM M a.toNat 1 / 1440) (serM M a.toNat 8) ∧ ∃ ρ', repR ρ' K' X' R' md (if cdSet M a v (serM M a.toNat 1 / 1440) (serM M a.toNat 8) = 0 then up2 M 17 (11 * a.toNat + 7) v else M) ∧ frR ρ K X Rf ρ' K' X' R' ∧ ptR X' R' md ≤ ptR X Rf md + 5000)) := by
  refine Ct.of (by decide +kernel) (Nat.le_of_ble_eq_true rfl) ?_
  intro p e s m below meth c ls hx hb hr hml hown hG hlocks hname hw hl
  have hl : lv_has ls 3 [(0, .ref md), (1, .int (iI a)), (2, .int (iI v))] := hl
  obtain ⟨hmd, hlmd⟩ := id hR.1
  obtain ⟨⟨hb1, hb2, hb3, hb4⟩, hokP, hokL, hokS, hokW, hokF⟩ := id hM
  have hq1 : X md 1 = M 40 1 := hR.2.1 1 rfl
  have hq5 : X md 5 = M 40 5 := hR.2.1 5 rfl
  have hq16 : X md 16 = M 40 16 := hR.2.1 16 rfl
  have hq25 : X md 25 = M 40 25 := hR.2.1 25 rfl
  have hq26 : X md 26 = M 40 26 := hR.2.1 26 rfl
  have hq27 : X md 27 = M 40 27 := hR.2.1 27 rfl
  have hq28 : X md 28 = M 40 28 := hR.2.1 28 rfl
  have hq29 : X md 29 = M 40 29 := hR.2.1 29 rfl
  obtain ⟨a17, hB17, hA17, hL17, hD17⟩ : ∃ a, Rf md 17 = some a ∧ K a = (2, 66) ∧ ρ a = 2018 ∧ X a = M 17 := hR.fd 17 (by decide) rfl
  have hN17 : Apt a17 md := zkn2 hA17 hmd (by simp)
  refine lv_aload_n (pc := 0) hx hb dX9_setLast_0 rfl (lv_at hl 0 rfl) ?_
  refine lv_iload_n (pc := 1) hx hb dX9_setLast_1 rfl (lv_at hl 1 rfl) ?_
  refine zkIp (pc := 2) (zrV (As := [.int (iI a)]) hx hb hml hown hG hw (c_X9_isSeries l Γ K X Rf md a  (by (first | assumption | omega)) (by (first | assumption | omega))) (T := TX9) hmd rfl cb_X9_isSeries wl_X9_231 rfl ⟨Nat.le_of_ble_eq_true rfl, Nat.le_of_ble_eq_true rfl⟩ hl.1 rfl (Nat.le_of_ble_eq_true rfl) dX9_setLast_2 ⟨Nat.zero_le _, Nat.zero_le _⟩) hw (fun r2 H locs hp2 hw => ?_)
  subst hp2
  refine zif_eq (pc := 5) hx hb 36 (by omega) dX9_setLast_5 (by decide) (fun c5 => ?_) (fun c5 => ?_)
  · skip
    replace c5 := it0 c5
    refine lv_aload_n (pc := 36) hx hb dX9_setLast_36 rfl (lv_at hl 0 rfl) ?_
    refine lv_iload_n (pc := 37) hx hb dX9_setLast_37 rfl (lv_at hl 1 rfl) ?_
    refine zbipush (pc := 38) (n := 7) hx hb dX9_setLast_38 rfl ?_
    refine lv_iload_n (pc := 40) hx hb dX9_setLast_40 rfl (lv_at hl 2 rfl) ?_
    refine ziconst (pc := 41) (n := 0) hx hb dX9_setLast_41 ?_
    refine ziconst (pc := 42) (n := 0) hx hb dX9_setLast_42 ?_
    refine zkI (pc := 43) (zrV (As := [.int (iI a), .int (iI 7), .int (iI v), .int (iI 0), .int (iI 0)]) hx hb hml hown hG hw (c_X9_set l Γ K X Rf md a 7 v 0 0 (ρ) M 7 (by (first | assumption | omega)) (by (first | assumption | omega)) (by (first | assumption | omega)) (by (first | assumption | omega))) (T := TX9) hmd rfl cb_X9_set wl_X9_237 rfl ⟨Nat.le_of_ble_eq_true rfl, Nat.le_of_ble_eq_true rfl⟩ hl.1 rfl (Nat.le_of_ble_eq_true rfl) dX9_setLast_43 ⟨Nat.zero_le _, Nat.zero_le _⟩) hw (fun r43 K43 X43 R43 H locs hp43 hw => ?_)
    exact zretI (pc := 46) hx hb hlocks hr hw (Nat.zero_le _) (Nat.zero_le _) dX9_setLast_46 (by first | (rw [hv16, hv27] at hp30; exact hp30) | (have e9 : cdSet M a v (serM M a.toNat 1 / 1440) (serM M a.toNat 8) = cdSet M a v 0 0 := (by unfold cdSet; rw [if_neg (by omega), if_neg (by omega)]); rw [e9]; exact hp43))
  · skip
    replace c5 := it1 c5
    refine lv_aload_n (pc := 8) hx hb dX9_setLast_8 rfl (lv_at hl 0 rfl) ?_
    refine lv_iload_n (pc := 9) hx hb dX9_setLast_9 rfl (lv_at hl 1 rfl) ?_
    refine zbipush (pc := 10) (n := 7) hx hb dX9_setLast_10 rfl ?_
    refine lv_iload_n (pc := 12) hx hb dX9_setLast_12 rfl (lv_at hl 2 rfl) ?_
    refine lv_aload_n (pc := 13) hx hb dX9_setLast_13 rfl (lv_at hl 0 rfl) ?_
    refine lv_iload_n (pc := 14) hx hb dX9_setLast_14 rfl (lv_at hl 1 rfl) ?_
    refine ziconst (pc := 15) (n := 1) hx hb dX9_setLast_15 ?_
    refine zkIp (pc := 16) (zrV (As := [.int (iI a), .int (iI 1)]) hx hb hml hown hG hw (c_X9_of l Γ K X Rf md a 1 a17 (by (first | assumption | omega)) (by (first | assumption | omega)) (by (first | assumption | omega)) (by (first | assumption | omega))) (T := TX9) hmd rfl cb_X9_of wl_X9_234 rfl ⟨Nat.le_of_ble_eq_true rfl, Nat.le_of_ble_eq_true rfl⟩ hl.1 rfl (Nat.le_of_ble_eq_true rfl) dX9_setLast_16 ⟨Nat.zero_le _, Nat.zero_le _⟩) hw (fun r16 H locs hp16 hw => ?_)
    subst hp16
    have hv16 : X a17 (11 * a + 1).toNat = serM M a.toNat 1 := by rw [hD17, show (11 * a + 1).toNat = 11 * a.toNat + 1 by omega]; exact (serM_17 (by decide)).symm
    have hoS := (hokS a.toNat (by omega)).1
    refine zsipush (pc := 19) (n := 1440) hx hb dX9_setLast_19 rfl ?_
    refine zdiv (pc := 22) hx hb (by omega) dX9_setLast_22 ?_
    refine lv_aload_n (pc := 23) hx hb dX9_setLast_23 rfl (lv_at hl 0 rfl) ?_
    refine lv_iload_n (pc := 24) hx hb dX9_setLast_24 rfl (lv_at hl 1 rfl) ?_
    refine zbipush (pc := 25) (n := 8) hx hb dX9_setLast_25 rfl ?_
    refine zkIp (pc := 27) (zrV (As := [.int (iI a), .int (iI 8)]) hx hb hml hown hG hw (c_X9_of l Γ K X Rf md a 8 a17 (by (first | assumption | omega)) (by (first | assumption | omega)) (by (first | assumption | omega)) (by (first | assumption | omega))) (T := TX9) hmd rfl cb_X9_of wl_X9_234 rfl ⟨Nat.le_of_ble_eq_true rfl, Nat.le_of_ble_eq_true rfl⟩ hl.1 rfl (Nat.le_of_ble_eq_true rfl) dX9_setLast_27 ⟨Nat.zero_le _, Nat.zero_le _⟩) hw (fun r27 H locs hp27 hw => ?_)
    subst hp27
    have hv27 : X a17 (11 * a + 8).toNat = serM M a.toNat 8 := by rw [hD17, show (11 * a + 8).toNat = 11 * a.toNat + 8 by omega]; exact (serM_17 (by decide)).symm
    have hoS := (hokS a.toNat (by omega)).1
    refine zkI (pc := 30) (zrV (As := [.int (iI a), .int (iI 7), .int (iI v), .int (iI ((X a17 (11 * a + 1).toNat) / 1440)), .int (iI (X a17 (11 * a + 8).toNat))]) hx hb hml hown hG hw (c_X9_set l Γ K X Rf md a 7 v ((X a17 (11 * a + 1).toNat) / 1440) (X a17 (11 * a + 8).toNat) (ρ) M 7 (by (first | assumption | omega)) (by (first | assumption | omega)) (by (first | assumption | omega)) (by (first | assumption | omega))) (T := TX9) hmd rfl cb_X9_set wl_X9_237 rfl ⟨Nat.le_of_ble_eq_true rfl, Nat.le_of_ble_eq_true rfl⟩ hl.1 rfl (Nat.le_of_ble_eq_true rfl) dX9_setLast_30 ⟨Nat.zero_le _, Nat.zero_le _⟩) hw (fun r30 K30 X30 R30 H locs hp30 hw => ?_)
    refine lv_goto (pc := 33) (tgt := 46) hx hb dX9_setLast_33 (by decide) ?_
    exact zretI (pc := 46) hx hb hlocks hr hw (Nat.zero_le _) (Nat.zero_le _) dX9_setLast_46 (by first | (rw [hv16, hv27] at hp30; exact hp30) | (have e9 : cdSet M a v (serM M a.toNat 1 / 1440) (serM M a.toNat 8) = cdSet M a v 0 0 := (by unfold cdSet; rw [if_neg (by omega), if_neg (by omega)]); rw [e9]; exact hp43))
set_option maxHeartbeats 4000000 in
set_option maxRecDepth 100000 in
theorem c_X9_except (l : Launch) (Γ : zG) (K : zK) (X : zX) (Rf : zR) (md : Nat) (a : Int) (day : Int) (ρ : zL) (M : zM) (hR : repR ρ K X Rf md M) (hM : okM M) (h1 : fit a ∧ fit day) : Ct l yX9_except cX9_except 3 (some .int) 2 0 0 Γ [.ref md, .int (iI a), .int (iI day)] K X Rf (pI (fun (r : Int) (K' : zK) (X' : zX) (R' : zR) => (cdExc M a day = 0 → r = vlExc M a day) ∧ X' md 0 = cdExc M a day ∧ ∃ ρ', repR ρ' K' X' R' md (if cdExc M a day = 0 then nxExc M a day else M) ∧ frR ρ K X Rf ρ' K' X' R' ∧ ptR X' R' md ≤ ptR X Rf md + 5000)) := by
  refine Ct.of (by decide +kernel) (Nat.le_of_ble_eq_true rfl) ?_
  intro p e s m below meth c ls hx hb hr hml hown hG hlocks hname hw hl
  have hl : lv_has ls 3 [(0, .ref md), (1, .int (iI a)), (2, .int (iI day))] := hl
  obtain ⟨hmd, hlmd⟩ := id hR.1
  obtain ⟨⟨hb1, hb2, hb3, hb4⟩, hokP, hokL, hokS, hokW, hokF⟩ := id hM
  have hq1 : X md 1 = M 40 1 := hR.2.1 1 rfl
  have hq5 : X md 5 = M 40 5 := hR.2.1 5 rfl
  have hq16 : X md 16 = M 40 16 := hR.2.1 16 rfl
  have hq25 : X md 25 = M 40 25 := hR.2.1 25 rfl
  have hq26 : X md 26 = M 40 26 := hR.2.1 26 rfl
  have hq27 : X md 27 = M 40 27 := hR.2.1 27 rfl
  have hq28 : X md 28 = M 40 28 := hR.2.1 28 rfl
  have hq29 : X md 29 = M 40 29 := hR.2.1 29 rfl
  obtain ⟨a17, hB17, hA17, hL17, hD17⟩ : ∃ a, Rf md 17 = some a ∧ K a = (2, 66) ∧ ρ a = 2018 ∧ X a = M 17 := hR.fd 17 (by decide) rfl
  have hN17 : Apt a17 md := zkn2 hA17 hmd (by simp)
  obtain ⟨a19, hB19, hA19, hL19, hD19⟩ : ∃ a, Rf md 19 = some a ∧ K a = (2, 48) ∧ ρ a = 2020 ∧ X a = M 19 := hR.fd 19 (by decide) rfl
  have hN19 : Apt a19 md := zkn2 hA19 hmd (by simp)
  obtain ⟨a22, hB22, hA22, hL22⟩ : ∃ a, Rf md 22 = some a ∧ K a = (11, 6) ∧ ρ a = 2023 := hR.ff 22 (by decide)
  have hN22 : Apt a22 md := zkn2 hA22 hmd (by simp)
  refine lv_aload_n (pc := 0) hx hb dX9_except_0 rfl (lv_at hl 0 rfl) ?_
  refine ziconst (pc := 1) (n := 0) hx hb dX9_except_1 ?_
  refine zputI (pc := 2) hx hb hG hown hw hmd (T := TX9) rfl 0 (by decide) rfl wf_X9_87 rfl (by decide +kernel) rfl dX9_except_2 (fun H locs hw => ?_)
  obtain ⟨X2, eX2⟩ : ∃ Y : zX, Y = up2 X md 0 0 := ⟨_, rfl⟩
  rw [← eX2] at hw
  have hE17 : X2 a17 = M 17 := by rw [eX2, up2_o hN17]; exact hD17
  have hE19 : X2 a19 = M 19 := by rw [eX2, up2_o hN19]; exact hD19
  have hz16 : X2 md 16 = M 40 16 := by rw [eX2, up2_k (by decide)]; exact hq16
  refine lv_aload_n (pc := 5) hx hb dX9_except_5 rfl (lv_at hl 0 rfl) ?_
  refine lv_iload_n (pc := 6) hx hb dX9_except_6 rfl (lv_at hl 1 rfl) ?_
  refine zkIp (pc := 7) (zrV (As := [.int (iI a)]) hx hb hml hown hG hw (c_X9_isSeries l Γ K X2 Rf md a  (by (first | assumption | omega)) (by (first | assumption | omega))) (T := TX9) hmd rfl cb_X9_isSeries wl_X9_231 rfl ⟨Nat.le_of_ble_eq_true rfl, Nat.le_of_ble_eq_true rfl⟩ hl.1 rfl (Nat.le_of_ble_eq_true rfl) dX9_except_7 ⟨Nat.zero_le _, Nat.zero_le _⟩) hw (fun r7 H locs hp7 hw => ?_)
  subst hp7
  refine zif_eq (pc := 10) hx hb 20 (by omega) dX9_except_10 (by decide) (fun c10 => ?_) (fun c10 => ?_)
  · skip
    replace c10 := it0 c10
    refine lv_aload_n (pc := 20) hx hb dX9_except_20 rfl (lv_at hl 0 rfl) ?_
    refine ziconst (pc := 21) (n := 1) hx hb dX9_except_21 ?_
    refine zkIx (pc := 22) (zrV (As := [.int (iI 1)]) hx hb hml hown hG hw (c_X9_refuse l Γ K X2 Rf md 1  (by (first | assumption | omega))) (T := TX9) hmd rfl cb_X9_refuse wl_X9_123 rfl ⟨Nat.le_of_ble_eq_true rfl, Nat.le_of_ble_eq_true rfl⟩ hl.1 rfl (Nat.le_of_ble_eq_true rfl) dX9_except_22 ⟨Nat.zero_le _, Nat.zero_le _⟩) hw (fun r22 X22 H locs hp22 hw => ?_)
    obtain ⟨hrf22, eX22⟩ := hp22
    exact zretI (pc := 25) hx hb hlocks hr hw (Nat.zero_le _) (Nat.zero_le _) dX9_except_25 (by refine ⟨fun hz => by (exfalso; revert hz; (unfold cdExc; (repeat' split) <;> omega)), ?_⟩; exact hR.no (by (unfold cdExc; (repeat' split) <;> omega)) (by rw [eX22]; (try rw [eX2]); (try rw [up2_up2]); exact thr_c (by (unfold cdExc; (repeat' split) <;> omega))))
  · skip
    replace c10 := it1 c10
    refine lv_iload_n (pc := 13) hx hb dX9_except_13 rfl (lv_at hl 2 rfl) ?_
    refine zkIp (pc := 14) (zrS (As := [.int (iI day)]) hx hb hml hown hG hw (c_X9_isDay l Γ K X2 Rf day  (by (first | assumption | omega))) cb_X9_isDay wl_X9_126 rfl ⟨Nat.le_of_ble_eq_true rfl, Nat.le_of_ble_eq_true rfl⟩ hl.1 rfl (Nat.le_of_ble_eq_true rfl) dX9_except_14 ⟨Nat.zero_le _, Nat.zero_le _⟩) hw (fun r14 H locs hp14 hw => ?_)
    subst hp14
    refine zif_ne (pc := 17) hx hb 26 (by omega) dX9_except_17 (by decide) (fun c17 => ?_) (fun c17 => ?_)
    · skip
      replace c17 := it1 c17
      have hv29 : X2 a17 (11 * a + 10).toNat = serM M a.toNat 10 := by rw [hE17, show (11 * a + 10).toNat = 11 * a.toNat + 10 by omega]; exact (serM_17 (by decide)).symm
      have hoS := (hokS a.toNat (by omega)).1
      have hc29 : X2 a17 (11 * a + 10).toNat = ((serM M a.toNat 10).toNat : Int) ∧ (serM M a.toNat 10).toNat ≤ 8 := by omega
      have hE29 : ∀ k, k < (serM M a.toNat 10).toNat → X2 a19 (8 * a.toNat + k) = excM M a.toNat k ∧ fit (excM M a.toNat k) := fun k hk9 => by
        have h9 := (hokS a.toNat (by omega)).2.2.2 k (by omega)
        rw [hE19]
        refine ⟨?_, by omega⟩
        unfold excM; rw [if_pos (by omega)]
      have hxv := exV_rng (excM M a.toNat) day (serM M a.toNat 10).toNat
      refine lv_aload_n (pc := 26) hx hb dX9_except_26 rfl (lv_at hl 0 rfl) ?_
      refine lv_iload_n (pc := 27) hx hb dX9_except_27 rfl (lv_at hl 1 rfl) ?_
      refine lv_iload_n (pc := 28) hx hb dX9_except_28 rfl (lv_at hl 2 rfl) ?_
      refine zkIp (pc := 29) (zrV (As := [.int (iI a), .int (iI day)]) hx hb hml hown hG hw (c_X9_isOut l Γ K X2 Rf md a day a17 a19 (excM M a.toNat) ((serM M a.toNat 10).toNat) (by (first | assumption | omega)) (by (first | assumption | omega)) (by (first | assumption | omega)) (by (first | assumption | omega)) (by (first | assumption | omega)) (by (first | assumption | omega)) (by (first | assumption | omega)) (by (first | assumption | omega))) (T := TX9) hmd rfl cb_X9_isOut wl_X9_241 rfl ⟨Nat.le_of_ble_eq_true rfl, Nat.le_of_ble_eq_true rfl⟩ hl.1 rfl (Nat.le_of_ble_eq_true rfl) dX9_except_29 ⟨Nat.zero_le _, Nat.zero_le _⟩) hw (fun r29 H locs hp29 hw => ?_)
      subst hp29
      refine zif_eq (pc := 32) hx hb 43 (by omega) dX9_except_32 (by decide) (fun c32 => ?_) (fun c32 => ?_)
      · skip
        refine lv_aload_n (pc := 43) hx hb dX9_except_43 rfl (lv_at hl 0 rfl) ?_
        refine lv_iload_n (pc := 44) hx hb dX9_except_44 rfl (lv_at hl 1 rfl) ?_
        refine zbipush (pc := 45) (n := 10) hx hb dX9_except_45 rfl ?_
        refine zkIp (pc := 47) (zrV (As := [.int (iI a), .int (iI 10)]) hx hb hml hown hG hw (c_X9_of l Γ K X2 Rf md a 10 a17 (by (first | assumption | omega)) (by (first | assumption | omega)) (by (first | assumption | omega)) (by (first | assumption | omega))) (T := TX9) hmd rfl cb_X9_of wl_X9_234 rfl ⟨Nat.le_of_ble_eq_true rfl, Nat.le_of_ble_eq_true rfl⟩ hl.1 rfl (Nat.le_of_ble_eq_true rfl) dX9_except_47 ⟨Nat.zero_le _, Nat.zero_le _⟩) hw (fun r47 H locs hp47 hw => ?_)
        subst hp47
        have hv47 : X2 a17 (11 * a + 10).toNat = serM M a.toNat 10 := by rw [hE17, show (11 * a + 10).toNat = 11 * a.toNat + 10 by omega]; exact (serM_17 (by decide)).symm
        have hoS := (hokS a.toNat (by omega)).1
        refine zbipush (pc := 50) (n := 8) hx hb dX9_except_50 rfl ?_
        refine zicmp_ne (pc := 52) hx hb 61 (by omega) (by omega) dX9_except_52 (by decide) (fun c52 => ?_) (fun c52 => ?_)
        · skip
          refine lv_aload_n (pc := 61) hx hb dX9_except_61 rfl (lv_at hl 0 rfl) ?_
          refine zgetR (pc := 62) hx hb hG hown hw hmd (T := TX9) rfl 19 (by decide) rfl wf_X9_45 rfl hB19 dX9_except_62 ?_
          refine zbipush (pc := 65) (n := 8) hx hb dX9_except_65 rfl ?_
          refine lv_iload_n (pc := 67) hx hb dX9_except_67 rfl (lv_at hl 1 rfl) ?_
          refine zmul (pc := 68) hx hb dX9_except_68 ?_
          refine lv_aload_n (pc := 69) hx hb dX9_except_69 rfl (lv_at hl 0 rfl) ?_
          refine lv_iload_n (pc := 70) hx hb dX9_except_70 rfl (lv_at hl 1 rfl) ?_
          refine zbipush (pc := 71) (n := 10) hx hb dX9_except_71 rfl ?_
          refine zkIp (pc := 73) (zrV (As := [.int (iI a), .int (iI 10)]) hx hb hml hown hG hw (c_X9_of l Γ K X2 Rf md a 10 a17 (by (first | assumption | omega)) (by (first | assumption | omega)) (by (first | assumption | omega)) (by (first | assumption | omega))) (T := TX9) hmd rfl cb_X9_of wl_X9_234 rfl ⟨Nat.le_of_ble_eq_true rfl, Nat.le_of_ble_eq_true rfl⟩ hl.1 rfl (Nat.le_of_ble_eq_true rfl) dX9_except_73 ⟨Nat.zero_le _, Nat.zero_le _⟩) hw (fun r73 H locs hp73 hw => ?_)
          subst hp73
          have hv73 : X2 a17 (11 * a + 10).toNat = serM M a.toNat 10 := by rw [hE17, show (11 * a + 10).toNat = 11 * a.toNat + 10 by omega]; exact (serM_17 (by decide)).symm
          have hoS := (hokS a.toNat (by omega)).1
          refine zadd (pc := 76) hx hb dX9_except_76 ?_
          refine lv_iload_n (pc := 77) hx hb dX9_except_77 rfl (lv_at hl 2 rfl) ?_
          refine zast (pc := 78) hx hb hw hA19 ⟨by omega, by omega⟩ (by omega) dX9_except_78 (fun H locs hw => ?_)
          obtain ⟨X78, eX78⟩ : ∃ Y : zX, Y = up2 X2 a19 ((8 * a) + (X2 a17 (11 * a + 10).toNat)).toNat day := ⟨_, rfl⟩
          rw [← eX78] at hw
          rw [hv73, show (8 * a + serM M a.toNat 10).toNat = 8 * a.toNat + (serM M a.toNat 10).toNat by omega] at eX78
          have hv78 : X78 a17 (11 * a + 10).toNat = serM M a.toNat 10 := by rw [eX78, up2_o (zne9 hL17 hL19 (by decide))]; exact hv73
          refine lv_aload_n (pc := 79) hx hb dX9_except_79 rfl (lv_at hl 0 rfl) ?_
          refine zgetR (pc := 80) hx hb hG hown hw hmd (T := TX9) rfl 17 (by decide) rfl wf_X9_39 rfl hB17 dX9_except_80 ?_
          refine zbipush (pc := 83) (n := 11) hx hb dX9_except_83 rfl ?_
          refine lv_iload_n (pc := 85) hx hb dX9_except_85 rfl (lv_at hl 1 rfl) ?_
          refine zmul (pc := 86) hx hb dX9_except_86 ?_
          refine zbipush (pc := 87) (n := 10) hx hb dX9_except_87 rfl ?_
          refine zadd (pc := 89) hx hb dX9_except_89 ?_
          refine lv_dup2_11 (pc := 90) hx hb dX9_except_90 rfl rfl ?_
          refine zald (pc := 91) hx hb hw hA17 ⟨by omega, by omega⟩ (by omega) dX9_except_91 ?_
          refine ziconst (pc := 92) (n := 1) hx hb dX9_except_92 ?_
          refine zadd (pc := 93) hx hb dX9_except_93 ?_
          refine zast (pc := 94) hx hb hw hA17 ⟨by omega, by omega⟩ (by omega) dX9_except_94 (fun H locs hw => ?_)
          obtain ⟨X94, eX94⟩ : ∃ Y : zX, Y = up2 X78 a17 ((11 * a) + 10).toNat ((X78 a17 ((11 * a) + 10).toNat) + 1) := ⟨_, rfl⟩
          rw [← eX94] at hw
          have hv94 : X94 a17 (11 * a + 10).toNat = serM M a.toNat 10 + 1 := by rw [eX94, up2_s, hv78]
          rw [hv78, show (11 * a + 10).toNat = 11 * a.toNat + 10 by omega] at eX94
          refine lv_aload_n (pc := 95) hx hb dX9_except_95 rfl (lv_at hl 0 rfl) ?_
          refine zgetR (pc := 96) hx hb hG hown hw hmd (T := TX9) rfl 22 (by decide) rfl wf_X9_51 rfl hB22 dX9_except_96 ?_
          refine lv_iload_n (pc := 99) hx hb dX9_except_99 rfl (lv_at hl 1 rfl) ?_
          refine lv_null (pc := 100) hx hb dX9_except_100 ?_
          refine zaastN5 (pc := 101) hx hb hw hA22 ⟨by omega, by omega⟩ (by omega) dX9_except_101 (fun H locs hw => ?_)
          obtain ⟨R101, eR101⟩ : ∃ Y : zR, Y = up2 Rf a22 a.toNat none := ⟨_, rfl⟩
          rw [← eR101] at hw
          have hr101 : R101 md 17 = some a17 := by rw [eR101, up2_a (zkn2 hmd hA22 (by simp))]; exact hB17
          have hr101_1 : R101 md 19 = some a19 := by rw [eR101, up2_a (zkn2 hmd hA22 (by simp))]; exact hB19
          have hr101_2 : R101 md 22 = some a22 := by rw [eR101, up2_a (zkn2 hmd hA22 (by simp))]; exact hB22
          have hr101_3 : R101 a22 a.toNat = none := by rw [eR101]; exact up2_s
          refine lv_aload_n (pc := 102) hx hb dX9_except_102 rfl (lv_at hl 0 rfl) ?_
          refine lv_iload_n (pc := 103) hx hb dX9_except_103 rfl (lv_at hl 1 rfl) ?_
          refine zbipush (pc := 104) (n := 10) hx hb dX9_except_104 rfl ?_
          refine zkIp (pc := 106) (zrV (As := [.int (iI a), .int (iI 10)]) hx hb hml hown hG hw (c_X9_of l Γ K X94 R101 md a 10 a17 (by (first | assumption | omega)) (by (first | assumption | omega)) (by (first | assumption | omega)) (by (first | assumption | omega))) (T := TX9) hmd rfl cb_X9_of wl_X9_234 rfl ⟨Nat.le_of_ble_eq_true rfl, Nat.le_of_ble_eq_true rfl⟩ hl.1 rfl (Nat.le_of_ble_eq_true rfl) dX9_except_106 ⟨Nat.zero_le _, Nat.zero_le _⟩) hw (fun r106 H locs hp106 hw => ?_)
          subst hp106
          exact zretI (pc := 109) hx hb hlocks hr hw (Nat.zero_le _) (Nat.zero_le _) dX9_except_109 (by 
                                        refine ⟨fun _ => by unfold vlExc; rw [if_neg (by omega)]; omega, ?_⟩
                                        have e9 : nxExc M a day = exaM M a.toNat day := by unfold nxExc; rw [if_neg (by omega)]
                                        rw [e9]
                                        have hnZ := (((hR.n.own (q := 0) (v := 0) rfl).row (f := 19) (a := a19) (k := (8 * a.toNat + (serM M a.toNat 10).toNat)) (v := day) (by decide) hB19 rfl).row (f := 17) (a := a17) (k := (11 * a.toNat + 10)) (v := (serM M a.toNat 10 + 1)) (by decide) hB17 rfl)
                                        have hAZ : ∀ a9, (K a9).1 ≠ 0 → ρ a9 ≠ 2000 → (∀ f, daM f = true → ρ a9 ≠ 2001 + f) → X94 a9 = X a9 := fun a9 _ g1 g2 => by rw [eX94, up2_o (fun g => g2 17 rfl (by rw [g]; exact hL17)), eX78, up2_o (fun g => g2 19 rfl (by rw [g]; exact hL19)), eX2, up2_o (fun g => g1 (by rw [g]; exact hlmd))]
                                        have h35Z : X94 md 35 = X md 35 ∨ X94 md 35 = 0 := Or.inl (by rw [eX94, up2_o (Ne.symm hN17), eX78, up2_o (Ne.symm hN19), eX2, up2_k (by decide)])
                                        have h0Z : X94 md 0 = 0 := by rw [eX94, up2_o (Ne.symm hN17), eX78, up2_o (Ne.symm hN19), eX2, up2_s]
                                        have hnY : repN ρ K X94 Rf md (exaM M a.toNat day) := by rw [eX94, eX78, eX2]; exact hnZ
                                        rw [eR101]
                                        exact hR.mutS (n := a.toNat) (cd := cdExc M a day) hB22 hnY hAZ h35Z h0Z (fun f g1 _ g3 => exaM_f g1 g3) (fun k g => exaM_oth g ⟨by omega, by omega⟩) (by (unfold cdExc; (repeat' split) <;> omega)))
        · skip
          refine lv_aload_n (pc := 55) hx hb dX9_except_55 rfl (lv_at hl 0 rfl) ?_
          refine ziconst (pc := 56) (n := 2) hx hb dX9_except_56 ?_
          refine zkIx (pc := 57) (zrV (As := [.int (iI 2)]) hx hb hml hown hG hw (c_X9_refuse l Γ K X2 Rf md 2  (by (first | assumption | omega))) (T := TX9) hmd rfl cb_X9_refuse wl_X9_123 rfl ⟨Nat.le_of_ble_eq_true rfl, Nat.le_of_ble_eq_true rfl⟩ hl.1 rfl (Nat.le_of_ble_eq_true rfl) dX9_except_57 ⟨Nat.zero_le _, Nat.zero_le _⟩) hw (fun r57 X57 H locs hp57 hw => ?_)
          obtain ⟨hrf57, eX57⟩ := hp57
          exact zretI (pc := 60) hx hb hlocks hr hw (Nat.zero_le _) (Nat.zero_le _) dX9_except_60 (by refine ⟨fun hz => by (exfalso; revert hz; (unfold cdExc; (repeat' split) <;> omega)), ?_⟩; exact hR.no (by (unfold cdExc; (repeat' split) <;> omega)) (by rw [eX57]; (try rw [eX2]); (try rw [up2_up2]); exact thr_c (by (unfold cdExc; (repeat' split) <;> omega))))
      · skip
        refine lv_aload_n (pc := 35) hx hb dX9_except_35 rfl (lv_at hl 0 rfl) ?_
        refine lv_iload_n (pc := 36) hx hb dX9_except_36 rfl (lv_at hl 1 rfl) ?_
        refine zbipush (pc := 37) (n := 10) hx hb dX9_except_37 rfl ?_
        refine zkIp (pc := 39) (zrV (As := [.int (iI a), .int (iI 10)]) hx hb hml hown hG hw (c_X9_of l Γ K X2 Rf md a 10 a17 (by (first | assumption | omega)) (by (first | assumption | omega)) (by (first | assumption | omega)) (by (first | assumption | omega))) (T := TX9) hmd rfl cb_X9_of wl_X9_234 rfl ⟨Nat.le_of_ble_eq_true rfl, Nat.le_of_ble_eq_true rfl⟩ hl.1 rfl (Nat.le_of_ble_eq_true rfl) dX9_except_39 ⟨Nat.zero_le _, Nat.zero_le _⟩) hw (fun r39 H locs hp39 hw => ?_)
        subst hp39
        have hv39 : X2 a17 (11 * a + 10).toNat = serM M a.toNat 10 := by rw [hE17, show (11 * a + 10).toNat = 11 * a.toNat + 10 by omega]; exact (serM_17 (by decide)).symm
        have hoS := (hokS a.toNat (by omega)).1
        exact zretI (pc := 42) hx hb hlocks hr hw (Nat.zero_le _) (Nat.zero_le _) dX9_except_42 (by 
                                        refine ⟨fun _ => by unfold vlExc; rw [if_pos (by omega)]; omega, ?_⟩
                                        have e9 : nxExc M a day = M := by unfold nxExc; rw [if_pos (by omega)]
                                        rw [e9, ite_self]
                                        exact hR.same (by rw [eX2]; exact thr_c (by (unfold cdExc; (repeat' split) <;> omega))))
    · skip
      replace c17 := it0 c17
      refine lv_aload_n (pc := 20) hx hb dX9_except_20 rfl (lv_at hl 0 rfl) ?_
      refine ziconst (pc := 21) (n := 1) hx hb dX9_except_21 ?_
      refine zkIx (pc := 22) (zrV (As := [.int (iI 1)]) hx hb hml hown hG hw (c_X9_refuse l Γ K X2 Rf md 1  (by (first | assumption | omega))) (T := TX9) hmd rfl cb_X9_refuse wl_X9_123 rfl ⟨Nat.le_of_ble_eq_true rfl, Nat.le_of_ble_eq_true rfl⟩ hl.1 rfl (Nat.le_of_ble_eq_true rfl) dX9_except_22 ⟨Nat.zero_le _, Nat.zero_le _⟩) hw (fun r22 X22 H locs hp22 hw => ?_)
      obtain ⟨hrf22, eX22⟩ := hp22
      exact zretI (pc := 25) hx hb hlocks hr hw (Nat.zero_le _) (Nat.zero_le _) dX9_except_25 (by refine ⟨fun hz => by (exfalso; revert hz; (unfold cdExc; (repeat' split) <;> omega)), ?_⟩; exact hR.no (by (unfold cdExc; (repeat' split) <;> omega)) (by rw [eX22]; (try rw [eX2]); (try rw [up2_up2]); exact thr_c (by (unfold cdExc; (repeat' split) <;> omega))))
