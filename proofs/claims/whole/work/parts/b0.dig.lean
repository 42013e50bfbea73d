set_option maxHeartbeats 4000000 in
set_option maxRecDepth 100000 in
theorem c_X9_widest_R (l : Launch) (Γ : zG) (K : zK) (X : zX) (Rf : zR) (md : Nat) (n : Int) (ρ : zL) (M : zM) (hR : repR ρ K X Rf md M) (hM : okM M) (h1 : 0 ≤ n ∧ n < M 40 16) : Ct l yX9_widest cX9_widest 5 (some .int) 9 1 (dnC Rf md n.toNat) Γ [.ref md, .int (iI n)] K X Rf (pI (fun (r : Int) (K' : zK) (X' : zX) (R' : zR) => r = wdD (datM M n.toNat) ∧ (∃ ρ', repR ρ' K' X' R' md M ∧ frR ρ K X Rf ρ' K' X' R') ∧ (∀ q, q = 0 ∨ q = 36 → X' md q = X md q) ∧ lsR X Rf X' R' md ∧ dnC R' md n.toNat = 0 ∧ ∀ a, (K a).1 ≠ 0 → 3000 ≤ ρ a → X' a = X a)) := by
  refine Ct.of (by decide +kernel) (Nat.le_of_ble_eq_true rfl) ?_
  intro p e s m below meth c ls hx hb hr hml hown hG hlocks hname hw hl
  have hl : lv_has ls 5 [(0, .ref md), (1, .int (iI n))] := hl
  obtain ⟨hmd, hlmd⟩ := id hR.1
  obtain ⟨⟨hb1, hb2, hb3, hb4⟩, hokP, hokL, hokS, hokW, hokF⟩ := id hM
  have hq1 : X md 1 = M 40 1 := hR.2.1 1 rfl
  have hq5 : X md 5 = M 40 5 := hR.2.1 5 rfl
  have hq16 : X md 16 = M 40 16 := hR.2.1 16 rfl
  have hq25 : X md 25 = M 40 25 := hR.2.1 25 rfl
  have hq26 : X md 26 = M 40 26 := hR.2.1 26 rfl
  have hq27 : X md 27 = M 40 27 := hR.2.1 27 rfl
  have hq28 : X md 28 = M 40 28 := hR.2.1 28 rfl
  have hq29 : X md 29 = M 40 29 := hR.2.1 29 rfl
  have hf_ := frR_refl (ρ := ρ) (K := K) (X := X) (Rf := Rf)
  have h0_ : ∀ q, q = 0 ∨ q = 36 → X md q = X md q := fun _ _ => rfl
  have hls_ := lsR_refl (X := X) (Rf := Rf) (md := md)
  have hdl : (((datM M n.toNat)).length : Int) ≤ 4001 := dtS_len (Up := useM M n.toNat) (Ex := excM M n.toNat) (hokS n.toNat (by omega)).1
  have hdv : ∀ k, k < ((datM M n.toNat)).length → 0 ≤ (datM M n.toNat).getD k 0 ∧ (datM M n.toNat).getD k 0 ≤ 73048 := fun k hk => dtS_get (Up := useM M n.toNat) (Ex := excM M n.toNat) (hokS n.toNat (by omega)).1 k hk
  refine lv_aload_n (pc := 0) hx hb dX9_widest_0 rfl (lv_at hl 0 rfl) ?_
  refine lv_iload_n (pc := 1) hx hb dX9_widest_1 rfl (lv_at hl 1 rfl) ?_
  have hdc2 := dnC_le (Rf := Rf) (md := md) (n := n.toNat)
  refine zkR (pc := 2) (zrV (As := [.int (iI n)]) hx hb hml hown hG hw (c_X9_dated l Γ K X Rf md n (ρ) M (by (first | assumption | omega)) (by (first | assumption | omega)) (by (first | assumption | omega))) (T := TX9) hmd rfl cb_X9_dated wl_X9_266 rfl ⟨Nat.le_of_ble_eq_true rfl, Nat.le_of_ble_eq_true rfl⟩ hl.1 rfl (Nat.le_of_ble_eq_true rfl) dX9_widest_2 ⟨(by show 0 + 1 ≤ 1; omega), (by show 0 + (dnC Rf md n.toNat) ≤ (dnC Rf md n.toNat); omega)⟩) hw (fun r2 K2 X2 R2 H locs hp2 hw => ?_)
  obtain ⟨ρ2, ⟨hR2, hg2, hz2⟩, ⟨hkr2, hlr2, hvr2⟩, ⟨hs2, hd2⟩, hy2⟩ := hp2
  obtain ⟨hmd2, hlm2⟩ := id hR2.1
  have hf2 := hf_.trans hg2
  have h02 := fun q hq => (hz2 q hq).trans (h0_ q hq)
  have hls2 := hls_.trans hs2
  refine lv_astore_n (pc := 5) (lv' := [(2, .ref r2), (0, .ref md), (1, .int (iI n))]) hx hb dX9_widest_5 rfl hl (by decide) rfl (fun ls hl => ?_)
  refine ziconst (pc := 6) (n := 0) hx hb dX9_widest_6 ?_
  refine lv_istore_n (pc := 7) (lv' := [(3, .int (iI 0)), (2, .ref r2), (0, .ref md), (1, .int (iI n))]) hx hb dX9_widest_7 rfl hl (by decide) rfl (fun ls hl => ?_)
  refine ziconst (pc := 8) (n := 1) hx hb dX9_widest_8 ?_
  refine lv_istore (pc := 9) (lv' := [(4, .int (iI 1)), (3, .int (iI 0)), (2, .ref r2), (0, .ref md), (1, .int (iI n))]) hx hb dX9_widest_9 hl (by decide) rfl (fun ls hl => ?_)
  have lp11 : ∀ (n11 : Nat) (kk : Int) (gr : Int) (H : Heap) (locs : List Loc), (hi : 1 ≤ kk ∧ kk ≤ 4002) → (hg : 0 ≤ gr ∧ gr ≤ 73048) → (h6 : max gr (wdA ((datM M n.toNat).getD (kk - 1).toNat 0) ((datM M n.toNat).drop kk.toNat)) = wdD (datM M n.toNat)) → ((((datM M n.toNat).length : Int) - kk).toNat < n11) → Wd Γ (zA K s.heap.size) K2 X2 R2 s H locs → ∀ ls : Array Slot, lv_has ls 5 [(4, .int (iI kk)), (3, .int (iI gr)), (2, .ref r2), (0, .ref md), (1, .int (iI n))] → W p l e (rmL 9 1 (dnC Rf md n.toNat)) s m ([.ref md, .int (iI n)] : List Value).toArray below meth c H locs (0 + 1) (0 + (dnC Rf md n.toNat)) (MQ below (zQ Γ K s.heap.size (pI (fun (r : Int) (K' : zK) (X' : zX) (R' : zR) => r = wdD (datM M n.toNat) ∧ (∃ ρ', repR ρ' K' X' R' md M ∧ frR ρ K X Rf ρ' K' X' R') ∧ (∀ q, q = 0 ∨ q = 36 → X' md q = X md q) ∧ lsR X Rf X' R' md ∧ dnC R' md n.toNat = 0 ∧ ∀ a, (K a).1 ≠ 0 → 3000 ≤ ρ a → X' a = X a))) ([.ref md, .int (iI n)] : List Value).toArray s 1 (dnC Rf md n.toNat) (zA K s.heap.size)) (F0 m 11 ls []) := by
    intro n11
    induction n11 with
    | zero => intro kk gr H locs hi hg h6 hm11; exact absurd hm11 (Nat.not_lt_zero _)
    | succ n11 ih11 =>
      intro kk gr H locs hi hg h6 hm11 hw ls hl
      refine lv_iload (pc := 11) hx hb dX9_widest_11 (lv_at hl 0 rfl) ?_
      refine lv_aload_n (pc := 13) hx hb dX9_widest_13 rfl (lv_at hl 2 rfl) ?_
      refine zlen2 (pc := 14) hx hb hw hkr2 dX9_widest_14 ?_
      refine zicmp_ge (pc := 15) hx hb 40 (by omega) (by omega) dX9_widest_15 (by decide) (fun c15 => ?_) (fun c15 => ?_)
      · skip
        refine lv_iload_n (pc := 40) hx hb dX9_widest_40 rfl (lv_at hl 1 rfl) ?_
        exact zretI (pc := 41) hx hb hlocks hr hw (by show 0 + 1 ≤ 1; omega) (by show 0 + (dnC Rf md n.toNat) ≤ (dnC Rf md n.toNat); omega) dX9_widest_41 (by exact ⟨by rw [← h6, wdA_e (by omega)]; omega, ⟨ρ2, hR2, hf2⟩, h02, hls2, hd2, hy2⟩)
      · skip
        have hk1 := hvr2 kk.toNat (by omega)
        have hk2 := hdv kk.toNat (by omega)
        have hk3 := hvr2 (kk - 1).toNat (by omega)
        have hk4 := hdv (kk - 1).toNat (by omega)
        refine lv_iload_n (pc := 18) hx hb dX9_widest_18 rfl (lv_at hl 1 rfl) ?_
        refine lv_aload_n (pc := 19) hx hb dX9_widest_19 rfl (lv_at hl 2 rfl) ?_
        refine lv_iload (pc := 20) hx hb dX9_widest_20 (lv_at hl 0 rfl) ?_
        refine zald (pc := 22) hx hb hw hkr2 ⟨by omega, by omega⟩ (by omega) dX9_widest_22 ?_
        refine lv_aload_n (pc := 23) hx hb dX9_widest_23 rfl (lv_at hl 2 rfl) ?_
        refine lv_iload (pc := 24) hx hb dX9_widest_24 (lv_at hl 0 rfl) ?_
        refine ziconst (pc := 26) (n := 1) hx hb dX9_widest_26 ?_
        refine zsub (pc := 27) hx hb dX9_widest_27 ?_
        refine zald (pc := 28) hx hb hw hkr2 ⟨by omega, by omega⟩ (by omega) dX9_widest_28 ?_
        refine zsub (pc := 29) hx hb dX9_widest_29 ?_
        refine zmax (pc := 30) hx hb (hml.trans hl.1.symm) hown hG wl_X9_182 w1_zmx wi_javalangMath w2_zmx (Nat.le_of_ble_eq_true rfl) (Nat.le_of_ble_eq_true rfl) (by show 0 + 1 ≤ 1; omega) (by show 0 + (dnC Rf md n.toNat) ≤ (dnC Rf md n.toNat); omega) ⟨by omega, by omega⟩ dX9_widest_30 ?_
        refine ztop (fun x33 ex33 => ?_)
        refine lv_istore_n (pc := 33) (lv' := [(3, .int (iI x33)), (4, .int (iI kk)), (2, .ref r2), (0, .ref md), (1, .int (iI n))]) hx hb dX9_widest_33 rfl hl (by decide) rfl (fun ls hl => ?_)
        refine ziinc (pc := 34) (lv' := [(4, .int (iI (kk + 1))), (3, .int (iI x33)), (2, .ref r2), (0, .ref md), (1, .int (iI n))]) hx hb 1 dX9_widest_34 hl rfl (by decide) rfl (fun ls hl => ?_)
        obtain ⟨x34, ex34⟩ : ∃ zz : Int, zz = (kk + 1) := ⟨_, rfl⟩
        rw [← ex34] at hl
        refine lv_goto (pc := 37) (tgt := 11) hx hb dX9_widest_37 (by decide) ?_
        exact ih11 x34 x33 _ _ (by (first | assumption | omega)) (by (first | assumption | omega)) (by rw [← h6, ex34, show (kk + 1 - 1).toNat = kk.toNat by omega, show (kk + 1).toNat = kk.toNat + 1 by omega, wdA_s (k := kk.toNat) (by omega) ((datM M n.toNat).getD (kk - 1).toNat 0)]; omega) (by omega) hw _ (lv_sub hl [0, 1, 2, 3, 4] rfl)
  exact lp11 _ 1 0 _ _ (by (first | assumption | omega)) (by (first | assumption | omega)) (by exact wdD_start (datM M n.toNat)) (Nat.lt_succ_self _) hw _ (lv_sub hl [0, 1, 2, 3, 4] rfl)
set_option maxHeartbeats 4000000 in
set_option maxRecDepth 100000 in
theorem c_X9_shared_R (l : Launch) (Γ : zG) (K : zK) (X : zX) (Rf : zR) (md : Nat) (n : Int) (o9 : Int) (ρ : zL) (M : zM) (hR : repR ρ K X Rf md M) (hM : okM M) (h1 : 0 ≤ n ∧ n < M 40 16) (h2 : 0 ≤ o9 ∧ o9 < M 40 16) : Ct l yX9_shared cX9_shared 11 (some .int) 9 2 (dnC Rf md n.toNat + dnC Rf md o9.toNat) Γ [.ref md, .int (iI n), .int (iI o9)] K X Rf (pI (fun (r : Int) (K' : zK) (X' : zX) (R' : zR) => r = shD (datM M n.toNat) (datM M o9.toNat) ∧ (∃ ρ', repR ρ' K' X' R' md M ∧ frR ρ K X Rf ρ' K' X' R') ∧ (∀ q, q = 0 ∨ q = 36 → X' md q = X md q) ∧ lsR X Rf X' R' md ∧ dnC R' md n.toNat = 0 ∧ dnC R' md o9.toNat = 0 ∧ ∀ a, (K a).1 ≠ 0 → 3000 ≤ ρ a → X' a = X a)) := by
  refine Ct.of (by decide +kernel) (Nat.le_of_ble_eq_true rfl) ?_
  intro p e s m below meth c ls hx hb hr hml hown hG hlocks hname hw hl
  have hl : lv_has ls 11 [(0, .ref md), (1, .int (iI n)), (2, .int (iI o9))] := hl
  obtain ⟨hmd, hlmd⟩ := id hR.1
  obtain ⟨⟨hb1, hb2, hb3, hb4⟩, hokP, hokL, hokS, hokW, hokF⟩ := id hM
  have hq1 : X md 1 = M 40 1 := hR.2.1 1 rfl
  have hq5 : X md 5 = M 40 5 := hR.2.1 5 rfl
  have hq16 : X md 16 = M 40 16 := hR.2.1 16 rfl
  have hq25 : X md 25 = M 40 25 := hR.2.1 25 rfl
  have hq26 : X md 26 = M 40 26 := hR.2.1 26 rfl
  have hq27 : X md 27 = M 40 27 := hR.2.1 27 rfl
  have hq28 : X md 28 = M 40 28 := hR.2.1 28 rfl
  have hq29 : X md 29 = M 40 29 := hR.2.1 29 rfl
  have hf_ := frR_refl (ρ := ρ) (K := K) (X := X) (Rf := Rf)
  have h0_ : ∀ q, q = 0 ∨ q = 36 → X md q = X md q := fun _ _ => rfl
  have hls_ := lsR_refl (X := X) (Rf := Rf) (md := md)
  have hdl : (((datM M n.toNat)).length : Int) ≤ 4001 := dtS_len (Up := useM M n.toNat) (Ex := excM M n.toNat) (hokS n.toNat (by omega)).1
  have hdv : ∀ k, k < ((datM M n.toNat)).length → 0 ≤ (datM M n.toNat).getD k 0 ∧ (datM M n.toNat).getD k 0 ≤ 73048 := fun k hk => dtS_get (Up := useM M n.toNat) (Ex := excM M n.toNat) (hokS n.toNat (by omega)).1 k hk
  have hdlo : (((datM M o9.toNat)).length : Int) ≤ 4001 := dtS_len (Up := useM M o9.toNat) (Ex := excM M o9.toNat) (hokS o9.toNat (by omega)).1
  have hdvo : ∀ k, k < ((datM M o9.toNat)).length → 0 ≤ (datM M o9.toNat).getD k 0 ∧ (datM M o9.toNat).getD k 0 ≤ 73048 := fun k hk => dtS_get (Up := useM M o9.toNat) (Ex := excM M o9.toNat) (hokS o9.toNat (by omega)).1 k hk
  refine lv_aload_n (pc := 0) hx hb dX9_shared_0 rfl (lv_at hl 0 rfl) ?_
  refine lv_iload_n (pc := 1) hx hb dX9_shared_1 rfl (lv_at hl 1 rfl) ?_
  have hdc2 := dnC_le (Rf := Rf) (md := md) (n := n.toNat)
  refine zkR (pc := 2) (zrV (As := [.int (iI n)]) hx hb hml hown hG hw (c_X9_dated l Γ K X Rf md n (ρ) M (by (first | assumption | omega)) (by (first | assumption | omega)) (by (first | assumption | omega))) (T := TX9) hmd rfl cb_X9_dated wl_X9_266 rfl ⟨Nat.le_of_ble_eq_true rfl, Nat.le_of_ble_eq_true rfl⟩ hl.1 rfl (Nat.le_of_ble_eq_true rfl) dX9_shared_2 ⟨(by show 0 + 1 ≤ 2; omega), (by show 0 + (dnC Rf md n.toNat) ≤ (dnC Rf md n.toNat + dnC Rf md o9.toNat); omega)⟩) hw (fun r2 K2 X2 R2 H locs hp2 hw => ?_)
  obtain ⟨ρ2, ⟨hR2, hg2, hz2⟩, ⟨hkr2, hlr2, hvr2⟩, ⟨hs2, hd2⟩, hy2⟩ := hp2
  obtain ⟨hmd2, hlm2⟩ := id hR2.1
  have hf2 := hf_.trans hg2
  have h02 := fun q hq => (hz2 q hq).trans (h0_ q hq)
  have hls2 := hls_.trans hs2
  refine lv_astore_n (pc := 5) (lv' := [(3, .ref r2), (0, .ref md), (1, .int (iI n)), (2, .int (iI o9))]) hx hb dX9_shared_5 rfl hl (by decide) rfl (fun ls hl => ?_)
  refine lv_aload_n (pc := 6) hx hb dX9_shared_6 rfl (lv_at hl 1 rfl) ?_
  refine lv_iload_n (pc := 7) hx hb dX9_shared_7 rfl (lv_at hl 3 rfl) ?_
  have hdc8 := dnC_le (Rf := R2) (md := md) (n := o9.toNat)
  have hdc8b := hs2.2 o9.toNat
  refine zkR (pc := 8) (zrV (As := [.int (iI o9)]) hx hb hml hown hG hw (c_X9_dated l Γ K2 X2 R2 md o9 (ρ2) M (by (first | assumption | omega)) (by (first | assumption | omega)) (by (first | assumption | omega))) (T := TX9) hmd2 rfl cb_X9_dated wl_X9_266 rfl ⟨Nat.le_of_ble_eq_true rfl, Nat.le_of_ble_eq_true rfl⟩ hl.1 rfl (Nat.le_of_ble_eq_true rfl) dX9_shared_8 ⟨(by show 0 + 1 + 1 ≤ 2; omega), (by show 0 + (dnC Rf md n.toNat) + (dnC R2 md o9.toNat) ≤ (dnC Rf md n.toNat + dnC Rf md o9.toNat); omega)⟩) hw (fun r8 K8 X8 R8 H locs hp8 hw => ?_)
  obtain ⟨ρ8, ⟨hR8, hg8, hz8⟩, ⟨hkr8, hlr8, hvr8⟩, ⟨hs8, hd8⟩, hy8⟩ := hp8
  obtain ⟨hmd8, hlm8⟩ := id hR8.1
  have hf8 := hf2.trans hg8
  have h08 := fun q hq => (hz8 q hq).trans (h02 q hq)
  have hls8 := hls2.trans hs8
  have hkr2b : K8 r2 = (2, (datM M n.toNat).length) := by rw [(hg8 r2 (zk1 hkr2)).1]; exact hkr2
  have hX2b := hy8 r2 (zk1 hkr2) (by rw [hlr2]; omega)
  have hv2b : ∀ j, j < (datM M n.toNat).length → X8 r2 j = (datM M n.toNat).getD j 0 := fun j hj => by rw [hX2b]; exact hvr2 j hj
  refine lv_astore (pc := 11) (lv' := [(4, .ref r8), (3, .ref r2), (0, .ref md), (1, .int (iI n)), (2, .int (iI o9))]) hx hb dX9_shared_11 hl (by decide) rfl (fun ls hl => ?_)
  refine ziconst (pc := 13) (n := 0) hx hb dX9_shared_13 ?_
  refine lv_istore (pc := 14) (lv' := [(5, .int (iI 0)), (4, .ref r8), (3, .ref r2), (0, .ref md), (1, .int (iI n)), (2, .int (iI o9))]) hx hb dX9_shared_14 hl (by decide) rfl (fun ls hl => ?_)
  refine ziconst (pc := 16) (n := 0) hx hb dX9_shared_16 ?_
  refine lv_istore (pc := 17) (lv' := [(6, .int (iI 0)), (5, .int (iI 0)), (4, .ref r8), (3, .ref r2), (0, .ref md), (1, .int (iI n)), (2, .int (iI o9))]) hx hb dX9_shared_17 hl (by decide) rfl (fun ls hl => ?_)
  refine lv_aload_n (pc := 19) hx hb dX9_shared_19 rfl (lv_at hl 3 rfl) ?_
  refine lv_astore (pc := 20) (lv' := [(7, .ref r2), (6, .int (iI 0)), (5, .int (iI 0)), (4, .ref r8), (3, .ref r2), (0, .ref md), (1, .int (iI n)), (2, .int (iI o9))]) hx hb dX9_shared_20 hl (by decide) rfl (fun ls hl => ?_)
  refine lv_aload (pc := 22) hx hb dX9_shared_22 (lv_at hl 0 rfl) ?_
  refine zlen2 (pc := 24) hx hb hw hkr2b dX9_shared_24 ?_
  refine ztop (fun x25 ex25 => ?_)
  refine lv_istore (pc := 25) (lv' := [(8, .int (iI x25)), (7, .ref r2), (6, .int (iI 0)), (5, .int (iI 0)), (4, .ref r8), (3, .ref r2), (0, .ref md), (1, .int (iI n)), (2, .int (iI o9))]) hx hb dX9_shared_25 hl (by decide) rfl (fun ls hl => ?_)
  refine ziconst (pc := 27) (n := 0) hx hb dX9_shared_27 ?_
  refine lv_istore (pc := 28) (lv' := [(9, .int (iI 0)), (8, .int (iI x25)), (7, .ref r2), (6, .int (iI 0)), (5, .int (iI 0)), (4, .ref r8), (3, .ref r2), (0, .ref md), (1, .int (iI n)), (2, .int (iI o9))]) hx hb dX9_shared_28 hl (by decide) rfl (fun ls hl => ?_)
  have lp30 : ∀ (n30 : Nat) (kk : Int) (th : Int) (ct : Int) (H : Heap) (locs : List Loc), (hi : (0 ≤ kk ∧ kk ≤ (datM M n.toNat).length) ∧ (0 ≤ th ∧ th ≤ (datM M o9.toNat).length) ∧ 0 ≤ ct ∧ ct ≤ kk) → (h6 : ct + shD ((datM M n.toNat).drop kk.toNat) ((datM M o9.toNat).drop th.toNat) = shD (datM M n.toNat) (datM M o9.toNat)) → ((((datM M n.toNat).length : Int) - kk).toNat < n30) → Wd Γ (zA K s.heap.size) K8 X8 R8 s H locs → ∀ ls : Array Slot, lv_has ls 11 [(9, .int (iI kk)), (8, .int (iI x25)), (7, .ref r2), (6, .int (iI th)), (5, .int (iI ct)), (4, .ref r8), (3, .ref r2), (0, .ref md), (1, .int (iI n)), (2, .int (iI o9))] → W p l e (rmL 9 2 (dnC Rf md n.toNat + dnC Rf md o9.toNat)) s m ([.ref md, .int (iI n), .int (iI o9)] : List Value).toArray below meth c H locs (0 + 1 + 1) (0 + (dnC Rf md n.toNat) + (dnC R2 md o9.toNat)) (MQ below (zQ Γ K s.heap.size (pI (fun (r : Int) (K' : zK) (X' : zX) (R' : zR) => r = shD (datM M n.toNat) (datM M o9.toNat) ∧ (∃ ρ', repR ρ' K' X' R' md M ∧ frR ρ K X Rf ρ' K' X' R') ∧ (∀ q, q = 0 ∨ q = 36 → X' md q = X md q) ∧ lsR X Rf X' R' md ∧ dnC R' md n.toNat = 0 ∧ dnC R' md o9.toNat = 0 ∧ ∀ a, (K a).1 ≠ 0 → 3000 ≤ ρ a → X' a = X a))) ([.ref md, .int (iI n), .int (iI o9)] : List Value).toArray s 2 (dnC Rf md n.toNat + dnC Rf md o9.toNat) (zA K s.heap.size)) (F0 m 30 ls []) := by
    intro n30
    induction n30 with
    | zero => intro kk th ct H locs hi h6 hm30; exact absurd hm30 (Nat.not_lt_zero _)
    | succ n30 ih30 =>
      intro kk th ct H locs hi h6 hm30 hw ls hl
      refine lv_iload (pc := 30) hx hb dX9_shared_30 (lv_at hl 0 rfl) ?_
      refine lv_iload (pc := 32) hx hb dX9_shared_32 (lv_at hl 1 rfl) ?_
      refine zicmp_ge (pc := 34) hx hb 102 (by omega) (by omega) dX9_shared_34 (by decide) (fun c34 => ?_) (fun c34 => ?_)
      · skip
        refine lv_iload (pc := 102) hx hb dX9_shared_102 (lv_at hl 4 rfl) ?_
        exact zretI (pc := 104) hx hb hlocks hr hw (by show 0 + 1 + 1 ≤ 2; omega) (by show 0 + (dnC Rf md n.toNat) + (dnC R2 md o9.toNat) ≤ (dnC Rf md n.toNat + dnC Rf md o9.toNat); omega) dX9_shared_104 (by exact ⟨by rw [← h6, shD_e (by omega)]; omega, ⟨ρ8, hR8, hf8⟩, h08, hls8, by have := hs8.2 n.toNat; omega, hd8, fun b h8 h9 => by rw [hy8 b (by rw [(hg2 b h8).1]; exact h8) (by rw [(hg2 b h8).2.1]; exact h9)]; exact hy2 b h8 h9⟩)
      · skip
        refine lv_aload (pc := 37) hx hb dX9_shared_37 (lv_at hl 2 rfl) ?_
        refine lv_iload (pc := 39) hx hb dX9_shared_39 (lv_at hl 0 rfl) ?_
        have hk42 := hv2b kk.toNat (by omega)
        have hk43 := hdv kk.toNat (by omega)
        refine zald (pc := 41) hx hb hw hkr2b ⟨by omega, by omega⟩ (by omega) dX9_shared_41 ?_
        refine ztop (fun x42 ex42 => ?_)
        refine lv_istore (pc := 42) (lv' := [(10, .int (iI x42)), (9, .int (iI kk)), (8, .int (iI x25)), (7, .ref r2), (6, .int (iI th)), (5, .int (iI ct)), (4, .ref r8), (3, .ref r2), (0, .ref md), (1, .int (iI n)), (2, .int (iI o9))]) hx hb dX9_shared_42 hl (by decide) rfl (fun ls hl => ?_)
        have lp44 : ∀ (n44 : Nat) (tt : Int) (H : Heap) (locs : List Loc), (hj : 0 ≤ tt ∧ tt ≤ (datM M o9.toNat).length) → (hsk : skD x42 ((datM M o9.toNat).drop tt.toNat) = skD x42 ((datM M o9.toNat).drop th.toNat)) → ((((datM M o9.toNat).length : Int) - tt).toNat < n44) → Wd Γ (zA K s.heap.size) K8 X8 R8 s H locs → ∀ ls : Array Slot, lv_has ls 11 [(10, .int (iI x42)), (9, .int (iI kk)), (8, .int (iI x25)), (7, .ref r2), (6, .int (iI tt)), (5, .int (iI ct)), (4, .ref r8), (3, .ref r2), (0, .ref md), (1, .int (iI n)), (2, .int (iI o9))] → W p l e (rmL 9 2 (dnC Rf md n.toNat + dnC Rf md o9.toNat)) s m ([.ref md, .int (iI n), .int (iI o9)] : List Value).toArray below meth c H locs (0 + 1 + 1) (0 + (dnC Rf md n.toNat) + (dnC R2 md o9.toNat)) (MQ below (zQ Γ K s.heap.size (pI (fun (r : Int) (K' : zK) (X' : zX) (R' : zR) => r = shD (datM M n.toNat) (datM M o9.toNat) ∧ (∃ ρ', repR ρ' K' X' R' md M ∧ frR ρ K X Rf ρ' K' X' R') ∧ (∀ q, q = 0 ∨ q = 36 → X' md q = X md q) ∧ lsR X Rf X' R' md ∧ dnC R' md n.toNat = 0 ∧ dnC R' md o9.toNat = 0 ∧ ∀ a, (K a).1 ≠ 0 → 3000 ≤ ρ a → X' a = X a))) ([.ref md, .int (iI n), .int (iI o9)] : List Value).toArray s 2 (dnC Rf md n.toNat + dnC Rf md o9.toNat) (zA K s.heap.size)) (F0 m 44 ls []) := by
          intro n44
          induction n44 with
          | zero => intro tt H locs hj hsk hm44; exact absurd hm44 (Nat.not_lt_zero _)
          | succ n44 ih44 =>
            intro tt H locs hj hsk hm44 hw ls hl
            refine lv_iload (pc := 44) hx hb dX9_shared_44 (lv_at hl 4 rfl) ?_
            refine lv_aload (pc := 46) hx hb dX9_shared_46 (lv_at hl 6 rfl) ?_
            refine zlen2 (pc := 48) hx hb hw hkr8 dX9_shared_48 ?_
            refine zicmp_ge (pc := 49) hx hb 68 (by omega) (by omega) dX9_shared_49 (by decide) (fun c49 => ?_) (fun c49 => ?_)
            · skip
              have hde : dtL (datM M o9.toNat) tt = if (datM M o9.toNat).length ≤ tt.toNat then -1 else (datM M o9.toNat).getD tt.toNat 0 := by
                by_cases g : (datM M o9.toNat).length ≤ tt.toNat
                · rw [if_pos g, dtL_out (by omega)]
                · rw [if_neg g, dtL_in (by omega) (by omega)]
              refine lv_iload (pc := 68) hx hb dX9_shared_68 (lv_at hl 5 rfl) ?_
              refine lv_iload (pc := 70) hx hb dX9_shared_70 (lv_at hl 4 rfl) ?_
              refine lv_aload (pc := 72) hx hb dX9_shared_72 (lv_at hl 6 rfl) ?_
              refine zlen2 (pc := 74) hx hb hw hkr8 dX9_shared_74 ?_
              refine zicmp_ge (pc := 75) hx hb 92 (by omega) (by omega) dX9_shared_75 (by decide) (fun c75 => ?_) (fun c75 => ?_)
              · skip
                have hdo := dtL_out (l := (datM M o9.toNat)) (k := tt) (by omega)
                refine ziconst (pc := 92) (n := 0) hx hb dX9_shared_92 ?_
                refine zadd (pc := 93) hx hb dX9_shared_93 ?_
                refine ztop (fun x94 ex94 => ?_)
                refine lv_istore (pc := 94) (lv' := [(5, .int (iI x94)), (10, .int (iI x42)), (9, .int (iI kk)), (8, .int (iI x25)), (7, .ref r2), (6, .int (iI tt)), (4, .ref r8), (3, .ref r2), (0, .ref md), (1, .int (iI n)), (2, .int (iI o9))]) hx hb dX9_shared_94 hl (by decide) rfl (fun ls hl => ?_)
                refine ziinc (pc := 96) (lv' := [(9, .int (iI (kk + 1))), (5, .int (iI x94)), (10, .int (iI x42)), (8, .int (iI x25)), (7, .ref r2), (6, .int (iI tt)), (4, .ref r8), (3, .ref r2), (0, .ref md), (1, .int (iI n)), (2, .int (iI o9))]) hx hb 2 dX9_shared_96 hl rfl (by decide) rfl (fun ls hl => ?_)
                obtain ⟨x96, ex96⟩ : ∃ zz : Int, zz = (kk + 1) := ⟨_, rfl⟩
                rw [← ex96] at hl
                refine lv_goto (pc := 99) (tgt := 30) hx hb dX9_shared_99 (by decide) ?_
                exact ih30 x96 tt x94 _ _ (by (first | assumption | omega)) (by 
                                        rw [← h6, ex96, show (kk + 1).toNat = kk.toNat + 1 by omega, shD_s (l := (datM M n.toNat)) (o := (datM M o9.toNat)) (k := kk.toNat) (t := tt.toNat) (d := x42) (e := dtL (datM M o9.toNat) tt) (by omega) (by omega) (by omega) hde (by omega) hsk]
                                        first
                                        | (rw [if_pos (by omega)]; omega)
                                        | (rw [if_neg (by omega)]; omega)) (by omega) hw _ (lv_sub hl [0, 3, 4, 5, 1, 6, 7, 8, 9, 10] rfl)
              · skip
                have ho52 := hvr8 tt.toNat (by omega)
                have ho53 := hdvo tt.toNat (by omega)
                have hdi := dtL_in (l := (datM M o9.toNat)) (k := tt) (by omega) (by omega)
                refine lv_aload (pc := 78) hx hb dX9_shared_78 (lv_at hl 6 rfl) ?_
                refine lv_iload (pc := 80) hx hb dX9_shared_80 (lv_at hl 4 rfl) ?_
                refine zald (pc := 82) hx hb hw hkr8 ⟨by omega, by omega⟩ (by omega) dX9_shared_82 ?_
                refine lv_iload (pc := 83) hx hb dX9_shared_83 (lv_at hl 0 rfl) ?_
                refine zicmp_ne (pc := 85) hx hb 92 (by omega) (by omega) dX9_shared_85 (by decide) (fun c85 => ?_) (fun c85 => ?_)
                · skip
                  refine ziconst (pc := 92) (n := 0) hx hb dX9_shared_92 ?_
                  refine zadd (pc := 93) hx hb dX9_shared_93 ?_
                  refine ztop (fun x94 ex94 => ?_)
                  refine lv_istore (pc := 94) (lv' := [(5, .int (iI x94)), (10, .int (iI x42)), (9, .int (iI kk)), (8, .int (iI x25)), (7, .ref r2), (6, .int (iI tt)), (4, .ref r8), (3, .ref r2), (0, .ref md), (1, .int (iI n)), (2, .int (iI o9))]) hx hb dX9_shared_94 hl (by decide) rfl (fun ls hl => ?_)
                  refine ziinc (pc := 96) (lv' := [(9, .int (iI (kk + 1))), (5, .int (iI x94)), (10, .int (iI x42)), (8, .int (iI x25)), (7, .ref r2), (6, .int (iI tt)), (4, .ref r8), (3, .ref r2), (0, .ref md), (1, .int (iI n)), (2, .int (iI o9))]) hx hb 2 dX9_shared_96 hl rfl (by decide) rfl (fun ls hl => ?_)
                  obtain ⟨x96, ex96⟩ : ∃ zz : Int, zz = (kk + 1) := ⟨_, rfl⟩
                  rw [← ex96] at hl
                  refine lv_goto (pc := 99) (tgt := 30) hx hb dX9_shared_99 (by decide) ?_
                  exact ih30 x96 tt x94 _ _ (by (first | assumption | omega)) (by 
                                        rw [← h6, ex96, show (kk + 1).toNat = kk.toNat + 1 by omega, shD_s (l := (datM M n.toNat)) (o := (datM M o9.toNat)) (k := kk.toNat) (t := tt.toNat) (d := x42) (e := dtL (datM M o9.toNat) tt) (by omega) (by omega) (by omega) hde (by omega) hsk]
                                        first
                                        | (rw [if_pos (by omega)]; omega)
                                        | (rw [if_neg (by omega)]; omega)) (by omega) hw _ (lv_sub hl [0, 3, 4, 5, 1, 6, 7, 8, 9, 10] rfl)
                · skip
                  refine ziconst (pc := 88) (n := 1) hx hb dX9_shared_88 ?_
                  refine lv_goto (pc := 89) (tgt := 93) hx hb dX9_shared_89 (by decide) ?_
                  refine zadd (pc := 93) hx hb dX9_shared_93 ?_
                  refine ztop (fun x94 ex94 => ?_)
                  refine lv_istore (pc := 94) (lv' := [(5, .int (iI x94)), (10, .int (iI x42)), (9, .int (iI kk)), (8, .int (iI x25)), (7, .ref r2), (6, .int (iI tt)), (4, .ref r8), (3, .ref r2), (0, .ref md), (1, .int (iI n)), (2, .int (iI o9))]) hx hb dX9_shared_94 hl (by decide) rfl (fun ls hl => ?_)
                  refine ziinc (pc := 96) (lv' := [(9, .int (iI (kk + 1))), (5, .int (iI x94)), (10, .int (iI x42)), (8, .int (iI x25)), (7, .ref r2), (6, .int (iI tt)), (4, .ref r8), (3, .ref r2), (0, .ref md), (1, .int (iI n)), (2, .int (iI o9))]) hx hb 2 dX9_shared_96 hl rfl (by decide) rfl (fun ls hl => ?_)
                  obtain ⟨x96, ex96⟩ : ∃ zz : Int, zz = (kk + 1) := ⟨_, rfl⟩
                  rw [← ex96] at hl
                  refine lv_goto (pc := 99) (tgt := 30) hx hb dX9_shared_99 (by decide) ?_
                  exact ih30 x96 tt x94 _ _ (by (first | assumption | omega)) (by 
                                        rw [← h6, ex96, show (kk + 1).toNat = kk.toNat + 1 by omega, shD_s (l := (datM M n.toNat)) (o := (datM M o9.toNat)) (k := kk.toNat) (t := tt.toNat) (d := x42) (e := dtL (datM M o9.toNat) tt) (by omega) (by omega) (by omega) hde (by omega) hsk]
                                        first
                                        | (rw [if_pos (by omega)]; omega)
                                        | (rw [if_neg (by omega)]; omega)) (by omega) hw _ (lv_sub hl [0, 3, 4, 5, 1, 6, 7, 8, 9, 10] rfl)
            · skip
              have ho52 := hvr8 tt.toNat (by omega)
              have ho53 := hdvo tt.toNat (by omega)
              refine lv_aload (pc := 52) hx hb dX9_shared_52 (lv_at hl 6 rfl) ?_
              refine lv_iload (pc := 54) hx hb dX9_shared_54 (lv_at hl 4 rfl) ?_
              refine zald (pc := 56) hx hb hw hkr8 ⟨by omega, by omega⟩ (by omega) dX9_shared_56 ?_
              refine lv_iload (pc := 57) hx hb dX9_shared_57 (lv_at hl 0 rfl) ?_
              refine zicmp_ge (pc := 59) hx hb 68 (by omega) (by omega) dX9_shared_59 (by decide) (fun c59 => ?_) (fun c59 => ?_)
              · skip
                have hde : dtL (datM M o9.toNat) tt = if (datM M o9.toNat).length ≤ tt.toNat then -1 else (datM M o9.toNat).getD tt.toNat 0 := by
                  by_cases g : (datM M o9.toNat).length ≤ tt.toNat
                  · rw [if_pos g, dtL_out (by omega)]
                  · rw [if_neg g, dtL_in (by omega) (by omega)]
                refine lv_iload (pc := 68) hx hb dX9_shared_68 (lv_at hl 5 rfl) ?_
                refine lv_iload (pc := 70) hx hb dX9_shared_70 (lv_at hl 4 rfl) ?_
                refine lv_aload (pc := 72) hx hb dX9_shared_72 (lv_at hl 6 rfl) ?_
                refine zlen2 (pc := 74) hx hb hw hkr8 dX9_shared_74 ?_
                refine zicmp_ge (pc := 75) hx hb 92 (by omega) (by omega) dX9_shared_75 (by decide) (fun c75 => ?_) (fun c75 => ?_)
                · skip
                  have hdo := dtL_out (l := (datM M o9.toNat)) (k := tt) (by omega)
                  refine ziconst (pc := 92) (n := 0) hx hb dX9_shared_92 ?_
                  refine zadd (pc := 93) hx hb dX9_shared_93 ?_
                  refine ztop (fun x94 ex94 => ?_)
                  refine lv_istore (pc := 94) (lv' := [(5, .int (iI x94)), (10, .int (iI x42)), (9, .int (iI kk)), (8, .int (iI x25)), (7, .ref r2), (6, .int (iI tt)), (4, .ref r8), (3, .ref r2), (0, .ref md), (1, .int (iI n)), (2, .int (iI o9))]) hx hb dX9_shared_94 hl (by decide) rfl (fun ls hl => ?_)
                  refine ziinc (pc := 96) (lv' := [(9, .int (iI (kk + 1))), (5, .int (iI x94)), (10, .int (iI x42)), (8, .int (iI x25)), (7, .ref r2), (6, .int (iI tt)), (4, .ref r8), (3, .ref r2), (0, .ref md), (1, .int (iI n)), (2, .int (iI o9))]) hx hb 2 dX9_shared_96 hl rfl (by decide) rfl (fun ls hl => ?_)
                  obtain ⟨x96, ex96⟩ : ∃ zz : Int, zz = (kk + 1) := ⟨_, rfl⟩
                  rw [← ex96] at hl
                  refine lv_goto (pc := 99) (tgt := 30) hx hb dX9_shared_99 (by decide) ?_
                  exact ih30 x96 tt x94 _ _ (by (first | assumption | omega)) (by 
                                        rw [← h6, ex96, show (kk + 1).toNat = kk.toNat + 1 by omega, shD_s (l := (datM M n.toNat)) (o := (datM M o9.toNat)) (k := kk.toNat) (t := tt.toNat) (d := x42) (e := dtL (datM M o9.toNat) tt) (by omega) (by omega) (by omega) hde (by omega) hsk]
                                        first
                                        | (rw [if_pos (by omega)]; omega)
                                        | (rw [if_neg (by omega)]; omega)) (by omega) hw _ (lv_sub hl [0, 3, 4, 5, 1, 6, 7, 8, 9, 10] rfl)
                · skip
                  have ho52 := hvr8 tt.toNat (by omega)
                  have ho53 := hdvo tt.toNat (by omega)
                  have hdi := dtL_in (l := (datM M o9.toNat)) (k := tt) (by omega) (by omega)
                  refine lv_aload (pc := 78) hx hb dX9_shared_78 (lv_at hl 6 rfl) ?_
                  refine lv_iload (pc := 80) hx hb dX9_shared_80 (lv_at hl 4 rfl) ?_
                  refine zald (pc := 82) hx hb hw hkr8 ⟨by omega, by omega⟩ (by omega) dX9_shared_82 ?_
                  refine lv_iload (pc := 83) hx hb dX9_shared_83 (lv_at hl 0 rfl) ?_
                  refine zicmp_ne (pc := 85) hx hb 92 (by omega) (by omega) dX9_shared_85 (by decide) (fun c85 => ?_) (fun c85 => ?_)
                  · skip
                    refine ziconst (pc := 92) (n := 0) hx hb dX9_shared_92 ?_
                    refine zadd (pc := 93) hx hb dX9_shared_93 ?_
                    refine ztop (fun x94 ex94 => ?_)
                    refine lv_istore (pc := 94) (lv' := [(5, .int (iI x94)), (10, .int (iI x42)), (9, .int (iI kk)), (8, .int (iI x25)), (7, .ref r2), (6, .int (iI tt)), (4, .ref r8), (3, .ref r2), (0, .ref md), (1, .int (iI n)), (2, .int (iI o9))]) hx hb dX9_shared_94 hl (by decide) rfl (fun ls hl => ?_)
                    refine ziinc (pc := 96) (lv' := [(9, .int (iI (kk + 1))), (5, .int (iI x94)), (10, .int (iI x42)), (8, .int (iI x25)), (7, .ref r2), (6, .int (iI tt)), (4, .ref r8), (3, .ref r2), (0, .ref md), (1, .int (iI n)), (2, .int (iI o9))]) hx hb 2 dX9_shared_96 hl rfl (by decide) rfl (fun ls hl => ?_)
                    obtain ⟨x96, ex96⟩ : ∃ zz : Int, zz = (kk + 1) := ⟨_, rfl⟩
                    rw [← ex96] at hl
                    refine lv_goto (pc := 99) (tgt := 30) hx hb dX9_shared_99 (by decide) ?_
                    exact ih30 x96 tt x94 _ _ (by (first | assumption | omega)) (by 
                                        rw [← h6, ex96, show (kk + 1).toNat = kk.toNat + 1 by omega, shD_s (l := (datM M n.toNat)) (o := (datM M o9.toNat)) (k := kk.toNat) (t := tt.toNat) (d := x42) (e := dtL (datM M o9.toNat) tt) (by omega) (by omega) (by omega) hde (by omega) hsk]
                                        first
                                        | (rw [if_pos (by omega)]; omega)
                                        | (rw [if_neg (by omega)]; omega)) (by omega) hw _ (lv_sub hl [0, 3, 4, 5, 1, 6, 7, 8, 9, 10] rfl)
                  · skip
                    refine ziconst (pc := 88) (n := 1) hx hb dX9_shared_88 ?_
                    refine lv_goto (pc := 89) (tgt := 93) hx hb dX9_shared_89 (by decide) ?_
                    refine zadd (pc := 93) hx hb dX9_shared_93 ?_
                    refine ztop (fun x94 ex94 => ?_)
                    refine lv_istore (pc := 94) (lv' := [(5, .int (iI x94)), (10, .int (iI x42)), (9, .int (iI kk)), (8, .int (iI x25)), (7, .ref r2), (6, .int (iI tt)), (4, .ref r8), (3, .ref r2), (0, .ref md), (1, .int (iI n)), (2, .int (iI o9))]) hx hb dX9_shared_94 hl (by decide) rfl (fun ls hl => ?_)
                    refine ziinc (pc := 96) (lv' := [(9, .int (iI (kk + 1))), (5, .int (iI x94)), (10, .int (iI x42)), (8, .int (iI x25)), (7, .ref r2), (6, .int (iI tt)), (4, .ref r8), (3, .ref r2), (0, .ref md), (1, .int (iI n)), (2, .int (iI o9))]) hx hb 2 dX9_shared_96 hl rfl (by decide) rfl (fun ls hl => ?_)
                    obtain ⟨x96, ex96⟩ : ∃ zz : Int, zz = (kk + 1) := ⟨_, rfl⟩
                    rw [← ex96] at hl
                    refine lv_goto (pc := 99) (tgt := 30) hx hb dX9_shared_99 (by decide) ?_
                    exact ih30 x96 tt x94 _ _ (by (first | assumption | omega)) (by 
                                        rw [← h6, ex96, show (kk + 1).toNat = kk.toNat + 1 by omega, shD_s (l := (datM M n.toNat)) (o := (datM M o9.toNat)) (k := kk.toNat) (t := tt.toNat) (d := x42) (e := dtL (datM M o9.toNat) tt) (by omega) (by omega) (by omega) hde (by omega) hsk]
                                        first
                                        | (rw [if_pos (by omega)]; omega)
                                        | (rw [if_neg (by omega)]; omega)) (by omega) hw _ (lv_sub hl [0, 3, 4, 5, 1, 6, 7, 8, 9, 10] rfl)
              · skip
                refine ziinc (pc := 62) (lv' := [(6, .int (iI (tt + 1))), (10, .int (iI x42)), (9, .int (iI kk)), (8, .int (iI x25)), (7, .ref r2), (5, .int (iI ct)), (4, .ref r8), (3, .ref r2), (0, .ref md), (1, .int (iI n)), (2, .int (iI o9))]) hx hb 4 dX9_shared_62 hl rfl (by decide) rfl (fun ls hl => ?_)
                obtain ⟨x62, ex62⟩ : ∃ zz : Int, zz = (tt + 1) := ⟨_, rfl⟩
                rw [← ex62] at hl
                refine lv_goto (pc := 65) (tgt := 44) hx hb dX9_shared_65 (by decide) ?_
                exact ih44 x62 _ _ (by (first | assumption | omega)) (by rw [← hsk, ex62, show (tt + 1).toNat = tt.toNat + 1 by omega, ← skD_lt (by omega) (by omega)]) (by omega) hw _ (lv_sub hl [1, 2, 3, 4, 0, 5, 6, 7, 8, 9, 10] rfl)
        exact lp44 _ th _ _ (by (first | assumption | omega)) (by rfl) (Nat.lt_succ_self _) hw _ (lv_sub hl [0, 1, 2, 3, 4, 5, 6, 7, 8, 9, 10] rfl)
  exact lp30 _ 0 0 0 _ _ (by (first | assumption | omega)) (by rw [Int.zero_add]; rfl) (Nat.lt_succ_self _) hw _ (lv_sub hl [0, 1, 2, 3, 4, 5, 6, 7, 8, 9] rfl)
set_option maxHeartbeats 4000000 in
set_option maxRecDepth 100000 in
theorem c_X9_add (l : Launch) (Γ : zG) (K : zK) (X : zX) (Rf : zR) (md : Nat) (x9 : Int)  (hmd : K md = (1, 8)) : Ct l yX9_add cX9_add 2 none 0 0 0 Γ [.ref md, .int (iI x9)] K X Rf (pV (zpv K Rf (fun X' : zX => X' = up2 X md 36 (mx (X md 36) (wI x9))))) := by
  refine Ct.of (by decide +kernel) (Nat.le_of_ble_eq_true rfl) ?_
  intro p e s m below meth c ls hx hb hr hml hown hG hlocks hname hw hl
  have hl : lv_has ls 2 [(0, .ref md), (1, .int (iI x9))] := hl
  refine lv_aload_n (pc := 0) hx hb dX9_add_0 rfl (lv_at hl 0 rfl) ?_
  refine lv_aload_n (pc := 1) hx hb dX9_add_1 rfl (lv_at hl 0 rfl) ?_
  refine zgetL (pc := 2) hx hb hG hown hw hmd (T := TX9) rfl 36 (by decide) rfl wf_X9_336 rfl dX9_add_2 ?_
  refine zldc2 (pc := 5) (n := 31) hx hb hown hG wk_X9_340 dX9_add_5 ?_
  refine zlmul (pc := 8) hx hb dX9_add_8 ?_
  refine lv_iload_n (pc := 9) hx hb dX9_add_9 rfl (lv_at hl 1 rfl) ?_
  refine zi2lw (pc := 10) hx hb dX9_add_10 ?_
  refine zladd (pc := 11) hx hb dX9_add_11 ?_
  refine zputL (pc := 12) hx hb hG hown hw hmd (T := TX9) rfl 36 (by decide) rfl wf_X9_336 rfl (by decide +kernel) rfl dX9_add_12 (fun H locs hw => ?_)
  obtain ⟨X12, eX12⟩ : ∃ Y : zX, Y = up2 X md 36 (((X md 36) * 31) + (wI x9)) := ⟨_, rfl⟩
  rw [← eX12] at hw
  exact zretV (pc := 15) hx hb hlocks hr hw (Nat.zero_le _) (Nat.zero_le _) dX9_add_15 ⟨by (try dsimp only) <;> (first | rfl | assumption | (rw [eX12]; rfl)), rfl, rfl⟩
set_option maxHeartbeats 4000000 in
set_option maxRecDepth 100000 in
theorem c_X9_addSeries_ (l : Launch) (Γ : zG) (K : zK) (X : zX) (Rf : zR) (md : Nat) (n : Int) (ρ : zL) (M : zM) (hR : repR ρ K X Rf md M) (hM : okM M) (h1 : 0 ≤ n ∧ n < M 40 16) (hla : dlC X Rf md (serM M n.toNat 0).toNat = 0) : Ct l yX9_addSeries_ cX9_addSeries_ 4 none 91 20 (seC Rf md M n.toNat) Γ [.ref md, .int (iI n)] K X Rf (pV (fun (K' : zK) (X' : zX) (R' : zR) => X' md 36 = dgSe M n.toNat (X md 36) ∧ (∃ ρ', repR ρ' K' X' R' md M ∧ frR ρ K X Rf ρ' K' X' R') ∧ lsR X Rf X' R' md ∧ dnC R' md n.toNat = 0 ∧ pnE R' md M + seC Rf md M n.toNat ≤ pnE Rf md M)) := by
  refine Ct.of (by decide +kernel) (Nat.le_of_ble_eq_true rfl) ?_
  intro p e s m below meth c ls hx hb hr hml hown hG hlocks hname hw hl
  have hl : lv_has ls 4 [(0, .ref md), (1, .int (iI n))] := hl
  obtain ⟨hmd, hlmd⟩ := id hR.1
  obtain ⟨⟨hb1, hb2, hb3, hb4⟩, hokP, hokL, hokS, hokW, hokF⟩ := id hM
  have hq1 : X md 1 = M 40 1 := hR.2.1 1 rfl
  have hq5 : X md 5 = M 40 5 := hR.2.1 5 rfl
  have hq16 : X md 16 = M 40 16 := hR.2.1 16 rfl
  have hq25 : X md 25 = M 40 25 := hR.2.1 25 rfl
  have hq26 : X md 26 = M 40 26 := hR.2.1 26 rfl
  have hq27 : X md 27 = M 40 27 := hR.2.1 27 rfl
  have hq28 : X md 28 = M 40 28 := hR.2.1 28 rfl
  have hq29 : X md 29 = M 40 29 := hR.2.1 29 rfl
  have hf_ := frR_refl (ρ := ρ) (K := K) (X := X) (Rf := Rf)
  have h0_ : ∀ q, q = 0 ∨ q = 36 → X md q = X md q := fun _ _ => rfl
  have hls_ := lsR_refl (X := X) (Rf := Rf) (md := md)
  have hdl : (((datM M n.toNat)).length : Int) ≤ 4001 := dtS_len (Up := useM M n.toNat) (Ex := excM M n.toNat) (hokS n.toNat (by omega)).1
  have hdv : ∀ k, k < ((datM M n.toNat)).length → 0 ≤ (datM M n.toNat).getD k 0 ∧ (datM M n.toNat).getD k 0 ≤ 73048 := fun k hk => dtS_get (Up := useM M n.toNat) (Ex := excM M n.toNat) (hokS n.toNat (by omega)).1 k hk
  have hse0 : (datM M n.toNat).length = 0 → seC Rf md M n.toNat = dnC Rf md n.toNat := fun g => if_pos g
  have hse1 : (datM M n.toNat).length ≠ 0 → seC Rf md M n.toNat = pnE Rf md M := fun g => if_neg g
  have hn6 : n.toNat < 6 := by omega
  have hnz : ((n.toNat : Nat) : Int) < M 40 16 := by omega
  have hpl9 := (hokS n.toNat (by omega)).2.1
  have hwr := wdD_rng (l := datM M n.toNat) hdv
  have hdse := dn_se (Rf := Rf) (md := md) hn6 hnz
  refine lv_aload_n (pc := 0) hx hb dX9_addSeries__0 rfl (lv_at hl 0 rfl) ?_
  refine lv_iload_n (pc := 1) hx hb dX9_addSeries__1 rfl (lv_at hl 1 rfl) ?_
  have hdc2 := dnC_le (Rf := Rf) (md := md) (n := n.toNat)
  refine zkR (pc := 2) (zrV (As := [.int (iI n)]) hx hb hml hown hG hw (c_X9_dated l Γ K X Rf md n (ρ) M (by (first | assumption | omega)) (by (first | assumption | omega)) (by (first | assumption | omega))) (T := TX9) hmd rfl cb_X9_dated wl_X9_266 rfl ⟨Nat.le_of_ble_eq_true rfl, Nat.le_of_ble_eq_true rfl⟩ hl.1 rfl (Nat.le_of_ble_eq_true rfl) dX9_addSeries__2 ⟨(by show 0 + 1 ≤ 20; omega), (by show 0 + (dnC Rf md n.toNat) ≤ (seC Rf md M n.toNat); omega)⟩) hw (fun r2 K2 X2 R2 H locs hp2 hw => ?_)
  obtain ⟨ρ2, ⟨hR2, hg2, hz2⟩, ⟨hkr2, hlr2, hvr2⟩, ⟨hs2, hd2⟩, hy2⟩ := hp2
  obtain ⟨hmd2, hlm2⟩ := id hR2.1
  have hf2 := hf_.trans hg2
  have h02 := fun q hq => (hz2 q hq).trans (h0_ q hq)
  have hls2 := hls_.trans hs2
  have hpn2 := pn_dec (M := M) hs2 hn6 hnz hd2
  refine lv_astore_n (pc := 5) (lv' := [(2, .ref r2), (0, .ref md), (1, .int (iI n))]) hx hb dX9_addSeries__5 rfl hl (by decide) rfl (fun ls hl => ?_)
  refine lv_aload_n (pc := 6) hx hb dX9_addSeries__6 rfl (lv_at hl 1 rfl) ?_
  refine lv_aload_n (pc := 7) hx hb dX9_addSeries__7 rfl (lv_at hl 0 rfl) ?_
  refine zlen2 (pc := 8) hx hb hw hkr2 dX9_addSeries__8 ?_
  refine zkVx (pc := 9) (zrV (As := [.int (iI ((((datM M n.toNat).length) : Nat) : Int))]) hx hb hml hown hG hw (c_X9_add l Γ K2 X2 R2 md ((((datM M n.toNat).length) : Nat) : Int)  (by (first | assumption | omega))) (T := TX9) hmd2 rfl cb_X9_add wl_X9_342 rfl ⟨Nat.le_of_ble_eq_true rfl, Nat.le_of_ble_eq_true rfl⟩ hl.1 rfl (Nat.le_of_ble_eq_true rfl) dX9_addSeries__9 ⟨(by show 0 + 1 + 0 ≤ 20; omega), (by show 0 + (dnC Rf md n.toNat) + 0 ≤ (seC Rf md M n.toNat); omega)⟩) hw (fun X9 H locs hp9 hw => ?_)
  have eX9 := hp9
  have hR9 : repR ρ2 K2 X9 R2 md M := by rw [eX9]; exact hR2.own ⟨rfl, by decide⟩
  have hs9 : lsR X2 R2 X9 R2 md := by rw [eX9]; exact lsR_own hR2
  have hg9 : frR ρ2 K2 X2 R2 ρ2 K2 X9 R2 := by rw [eX9]; exact frR_own hR2
  have h36_9 := congrFun (congrFun eX9 md) 36
  rw [up2_s] at h36_9
  have hn9 : ∀ b, b ≠ md → X9 b = X2 b := fun b hb => by rw [eX9]; exact up2_o hb
  refine lv_aload_n (pc := 12) hx hb dX9_addSeries__12 rfl (lv_at hl 1 rfl) ?_
  refine lv_aload_n (pc := 13) hx hb dX9_addSeries__13 rfl (lv_at hl 1 rfl) ?_
  refine lv_iload_n (pc := 14) hx hb dX9_addSeries__14 rfl (lv_at hl 2 rfl) ?_
  refine zkI (pc := 15) (zrV (As := [.int (iI n)]) hx hb hml hown hG hw (c_X9_widest_R l Γ K2 X9 R2 md n (ρ2) M (by (first | assumption | omega)) (by (first | assumption | omega)) (by (first | assumption | omega))) (T := TX9) hmd2 rfl cb_X9_widest wl_X9_278 rfl ⟨Nat.le_of_ble_eq_true rfl, Nat.le_of_ble_eq_true rfl⟩ hl.1 rfl (Nat.le_of_ble_eq_true rfl) dX9_addSeries__15 ⟨(by show 0 + 1 + 1 ≤ 20; omega), (by show 0 + (dnC Rf md n.toNat) + (dnC R2 md n.toNat) ≤ (seC Rf md M n.toNat); omega)⟩) hw (fun r15 K15 X15 R15 H locs hp15 hw => ?_)
  obtain ⟨hv15, ⟨ρ15, hR15, hg15⟩, hz15, hs15, hd15, hy15⟩ := hp15
  obtain ⟨hmd15, hlm15⟩ := id hR15.1
  have hk15 : K15 r2 = (2, (datM M n.toNat).length) := by rw [(hg15 r2 (zk1 hkr2)).1]; exact hkr2
  have hl15 : ρ15 r2 = 3020 + n.toNat := by rw [(hg15 r2 (zk1 hkr2)).2.1]; exact hlr2
  have hx15 : X15 r2 = X2 r2 := by rw [hy15 r2 (zk1 hkr2) (by rw [hlr2]; omega)]; exact hn9 r2 (zkn2 hkr2 hmd2 (by simp))
  have hv15r : ∀ j, j < (datM M n.toNat).length → X15 r2 j = (datM M n.toNat).getD j 0 := fun j hj => by rw [hx15]; exact hvr2 j hj
  have hpn15 := pn_mono (M := M) (hs9.trans hs15)
  refine zkVx (pc := 18) (zrV (As := [.int (iI r15)]) hx hb hml hown hG hw (c_X9_add l Γ K15 X15 R15 md r15  (by (first | assumption | omega))) (T := TX9) hmd15 rfl cb_X9_add wl_X9_342 rfl ⟨Nat.le_of_ble_eq_true rfl, Nat.le_of_ble_eq_true rfl⟩ hl.1 rfl (Nat.le_of_ble_eq_true rfl) dX9_addSeries__18 ⟨(by show 0 + 1 + 1 + 0 ≤ 20; omega), (by show 0 + (dnC Rf md n.toNat) + (dnC R2 md n.toNat) + 0 ≤ (seC Rf md M n.toNat); omega)⟩) hw (fun X18 H locs hp18 hw => ?_)
  have eX18 := hp18
  have hR18 : repR ρ15 K15 X18 R15 md M := by rw [eX18]; exact hR15.own ⟨rfl, by decide⟩
  have hs18 : lsR X15 R15 X18 R15 md := by rw [eX18]; exact lsR_own hR15
  have hg18 : frR ρ15 K15 X15 R15 ρ15 K15 X18 R15 := by rw [eX18]; exact frR_own hR15
  have h36_18 := congrFun (congrFun eX18 md) 36
  rw [up2_s] at h36_18
  have hn18 : ∀ b, b ≠ md → X18 b = X15 b := fun b hb => by rw [eX18]; exact up2_o hb
  refine lv_aload_n (pc := 21) hx hb dX9_addSeries__21 rfl (lv_at hl 0 rfl) ?_
  refine zlen2 (pc := 22) hx hb hw hk15 dX9_addSeries__22 ?_
  refine zif_ne (pc := 23) hx hb 27 (by omega) dX9_addSeries__23 (by decide) (fun c23 => ?_) (fun c23 => ?_)
  · skip
    have hse2 := hse1 (by omega)
    refine ziconst (pc := 27) (n := 0) hx hb dX9_addSeries__27 ?_
    refine lv_istore_n (pc := 28) (lv' := [(3, .int (iI 0)), (2, .ref r2), (0, .ref md), (1, .int (iI n))]) hx hb dX9_addSeries__28 rfl hl (by decide) rfl (fun ls hl => ?_)
    have lp29 : ∀ (n29 : Nat) (kk : Int) (ρL : zL) (cz : Nat) (sz : Nat) (KL29 : zK) (XL29 : zX) (RL29 : zR) (H : Heap) (locs : List Loc), (hkk : (kk = 0 ∧ XL29 md 36 = (mx (mx (X md 36) (wI ((datM M n.toNat).length : Int))) (wI (wdD (datM M n.toNat))))) ∨ (0 < kk ∧ kk = ((datM M n.toNat).length : Int) - 1 ∧ XL29 md 36 = (mx (mx (mx (mx (X md 36) (wI ((datM M n.toNat).length : Int))) (wI (wdD (datM M n.toNat)))) (wI (dtL (datM M n.toNat) 0))) (wI (dmM M n.toNat 0)))) ∨ (((datM M n.toNat).length : Int) ≤ kk ∧ XL29 md 36 = dgD2 M n.toNat (mx (mx (X md 36) (wI ((datM M n.toNat).length : Int))) (wI (wdD (datM M n.toNat)))))) → (hk0 : 0 ≤ kk ∧ kk ≤ 8002) → (hR9 : repR ρL KL29 XL29 RL29 md M) → (hf9 : frR ρ K X Rf ρL KL29 XL29 RL29) → (hls : lsR X Rf XL29 RL29 md) → (hkL : KL29 r2 = (2, (datM M n.toNat).length)) → (hlL : ρL r2 = 3020 + n.toNat) → (hvL : ∀ j, j < (datM M n.toNat).length → XL29 r2 j = (datM M n.toNat).getD j 0) → (hnL : dnC RL29 md n.toNat = 0) → (hcs9 : cz ≤ 2 ∧ sz + pnE RL29 md M ≤ pnE Rf md M) → ((((datM M n.toNat).length : Int) - kk).toNat < n29) → Wd Γ (zA K s.heap.size) KL29 XL29 RL29 s H locs → ∀ ls : Array Slot, lv_has ls 4 [(3, .int (iI kk)), (2, .ref r2), (0, .ref md), (1, .int (iI n))] → W p l e (rmL 91 20 (seC Rf md M n.toNat)) s m ([.ref md, .int (iI n)] : List Value).toArray below meth c H locs cz sz (MQ below (zQ Γ K s.heap.size (pV (fun (K' : zK) (X' : zX) (R' : zR) => X' md 36 = dgSe M n.toNat (X md 36) ∧ (∃ ρ', repR ρ' K' X' R' md M ∧ frR ρ K X Rf ρ' K' X' R') ∧ lsR X Rf X' R' md ∧ dnC R' md n.toNat = 0 ∧ pnE R' md M + seC Rf md M n.toNat ≤ pnE Rf md M))) ([.ref md, .int (iI n)] : List Value).toArray s 20 (seC Rf md M n.toNat) (zA K s.heap.size)) (F0 m 29 ls []) := by
      intro n29
      induction n29 with
      | zero => intro kk ρL cz sz KL29 XL29 RL29 H locs hkk hk0 hR9 hf9 hls hkL hlL hvL hnL hcs9 hm29; exact absurd hm29 (Nat.not_lt_zero _)
      | succ n29 ih29 =>
        intro kk ρL cz sz KL29 XL29 RL29 H locs hkk hk0 hR9 hf9 hls hkL hlL hvL hnL hcs9 hm29 hw ls hl
        obtain ⟨hmdL, hlmL⟩ := id hR9.1
        have hlaL := dl_0 hls hla
        refine lv_iload_n (pc := 29) hx hb dX9_addSeries__29 rfl (lv_at hl 0 rfl) ?_
        refine lv_aload_n (pc := 30) hx hb dX9_addSeries__30 rfl (lv_at hl 1 rfl) ?_
        refine zlen2 (pc := 31) hx hb hw hkL dX9_addSeries__31 ?_
        refine zicmp_ge (pc := 32) hx hb 68 (by omega) (by omega) dX9_addSeries__32 (by decide) (fun c32 => ?_) (fun c32 => ?_)
        · skip
          refine ziconst (pc := 68) (n := 0) hx hb dX9_addSeries__68 ?_
          refine lv_istore_n (pc := 69) (lv' := [(3, .int (iI 0)), (2, .ref r2), (0, .ref md), (1, .int (iI n))]) hx hb dX9_addSeries__69 rfl hl (by decide) rfl (fun ls hl => ?_)
          have lp70 : ∀ (n70 : Nat) (oo : Int) (ρL : zL) (cz : Nat) (sz : Nat) (KL70 : zK) (XL70 : zX) (RL70 : zR) (H : Heap) (locs : List Loc), (hoo : 0 ≤ oo ∧ oo ≤ M 40 16) → (hall : ∀ k : Nat, (k : Int) < oo → dnC RL70 md k = 0) → (hv70 : XL70 md 36 = dgL (dgSh M n.toNat) (dgD2 M n.toNat (mx (mx (X md 36) (wI ((datM M n.toNat).length : Int))) (wI (wdD (datM M n.toNat))))) oo.toNat) → (hR9 : repR ρL KL70 XL70 RL70 md M) → (hf9 : frR ρ K X Rf ρL KL70 XL70 RL70) → (hls : lsR X Rf XL70 RL70 md) → (hkL : KL70 r2 = (2, (datM M n.toNat).length)) → (hlL : ρL r2 = 3020 + n.toNat) → (hvL : ∀ j, j < (datM M n.toNat).length → XL70 r2 j = (datM M n.toNat).getD j 0) → (hnL : dnC RL70 md n.toNat = 0) → (hcs9 : cz ≤ 2 + 2 * oo.toNat ∧ sz + pnE RL70 md M ≤ pnE Rf md M) → ((M 40 16 - oo).toNat < n70) → Wd Γ (zA K s.heap.size) KL70 XL70 RL70 s H locs → ∀ ls : Array Slot, lv_has ls 4 [(3, .int (iI oo)), (2, .ref r2), (0, .ref md), (1, .int (iI n))] → W p l e (rmL 91 20 (seC Rf md M n.toNat)) s m ([.ref md, .int (iI n)] : List Value).toArray below meth c H locs cz sz (MQ below (zQ Γ K s.heap.size (pV (fun (K' : zK) (X' : zX) (R' : zR) => X' md 36 = dgSe M n.toNat (X md 36) ∧ (∃ ρ', repR ρ' K' X' R' md M ∧ frR ρ K X Rf ρ' K' X' R') ∧ lsR X Rf X' R' md ∧ dnC R' md n.toNat = 0 ∧ pnE R' md M + seC Rf md M n.toNat ≤ pnE Rf md M))) ([.ref md, .int (iI n)] : List Value).toArray s 20 (seC Rf md M n.toNat) (zA K s.heap.size)) (F0 m 70 ls []) := by
            intro n70
            induction n70 with
            | zero => intro oo ρL cz sz KL70 XL70 RL70 H locs hoo hall hv70 hR9 hf9 hls hkL hlL hvL hnL hcs9 hm70; exact absurd hm70 (Nat.not_lt_zero _)
            | succ n70 ih70 =>
              intro oo ρL cz sz KL70 XL70 RL70 H locs hoo hall hv70 hR9 hf9 hls hkL hlL hvL hnL hcs9 hm70 hw ls hl
              obtain ⟨hmdL, hlmL⟩ := id hR9.1
              have hlaL := dl_0 hls hla
              refine lv_iload_n (pc := 70) hx hb dX9_addSeries__70 rfl (lv_at hl 0 rfl) ?_
              refine lv_aload_n (pc := 71) hx hb dX9_addSeries__71 rfl (lv_at hl 2 rfl) ?_
              have h16 : XL70 md 16 = M 40 16 := hR9.2.1 16 rfl
              refine zgetI (pc := 72) hx hb hG hown hw hmdL (T := TX9) rfl 16 (by decide) rfl wf_X9_228 rfl dX9_addSeries__72 ?_
              refine zicmp_ge (pc := 75) hx hb 94 (by omega) (by omega) dX9_addSeries__75 (by decide) (fun c75 => ?_) (fun c75 => ?_)
              · skip
                exact zretV (pc := 94) hx hb hlocks hr hw (by show cz ≤ 20; omega) (by show sz ≤ (seC Rf md M n.toNat); omega) dX9_addSeries__94 (by refine ⟨?_, ⟨ρL, hR9, hf9⟩, hls, hnL, by rw [pn_0 (fun k hk => hall k (by omega)), hse1 (by omega)]; omega⟩; unfold dgSe dgDt; rw [if_pos hnz, if_pos (by omega), hv70]; rw [show oo = M 40 16 by omega]; exact (dgL_to (c := (M 40 16).toNat) (fun k w hk => by unfold dgSh; rw [if_neg (by omega)]) (by omega) _).symm)
              · skip
                refine lv_aload_n (pc := 78) hx hb dX9_addSeries__78 rfl (lv_at hl 2 rfl) ?_
                refine lv_aload_n (pc := 79) hx hb dX9_addSeries__79 rfl (lv_at hl 2 rfl) ?_
                refine lv_iload_n (pc := 80) hx hb dX9_addSeries__80 rfl (lv_at hl 3 rfl) ?_
                refine lv_iload_n (pc := 81) hx hb dX9_addSeries__81 rfl (lv_at hl 0 rfl) ?_
                have hdl82 := dn_le (Rf := RL70) (md := md) (M := M) (n := oo.toNat) (by omega) (by omega)
                refine zkI (pc := 82) (zrV (As := [.int (iI n), .int (iI oo)]) hx hb hml hown hG hw (c_X9_shared_R l Γ KL70 XL70 RL70 md n oo (ρL) M (by (first | assumption | omega)) (by (first | assumption | omega)) (by (first | assumption | omega)) (by (first | assumption | omega))) (T := TX9) hmdL rfl cb_X9_shared wl_X9_275 rfl ⟨Nat.le_of_ble_eq_true rfl, Nat.le_of_ble_eq_true rfl⟩ hl.1 rfl (Nat.le_of_ble_eq_true rfl) dX9_addSeries__82 ⟨(by show cz + 2 ≤ 20; omega), (by show sz + (dnC RL70 md n.toNat + dnC RL70 md oo.toNat) ≤ (seC Rf md M n.toNat); omega)⟩) hw (fun r82 K82 X82 R82 H locs hp82 hw => ?_)
                obtain ⟨hv82, ⟨ρ82, hR82, hg82⟩, hz82, hs82, hd82, he82, hy82⟩ := hp82
                obtain ⟨hmd82, hlm82⟩ := id hR82.1
                have hk82 : K82 r2 = (2, (datM M n.toNat).length) := by rw [(hg82 r2 (zk1 hkL)).1]; exact hkL
                have hl82 : ρ82 r2 = 3020 + n.toNat := by rw [(hg82 r2 (zk1 hkL)).2.1]; exact hlL
                have hx82 : X82 r2 = XL70 r2 := hy82 r2 (zk1 hkL) (by rw [hlL]; omega)
                have hpn82 := pn_dec (M := M) (n := oo.toNat) hs82 (by omega) (by omega) he82
                refine zkVx (pc := 85) (zrV (As := [.int (iI r82)]) hx hb hml hown hG hw (c_X9_add l Γ K82 X82 R82 md r82  (by (first | assumption | omega))) (T := TX9) hmd82 rfl cb_X9_add wl_X9_342 rfl ⟨Nat.le_of_ble_eq_true rfl, Nat.le_of_ble_eq_true rfl⟩ hl.1 rfl (Nat.le_of_ble_eq_true rfl) dX9_addSeries__85 ⟨(by show cz + 2 + 0 ≤ 20; omega), (by show sz + (dnC RL70 md n.toNat + dnC RL70 md oo.toNat) + 0 ≤ (seC Rf md M n.toNat); omega)⟩) hw (fun X85 H locs hp85 hw => ?_)
                have eX85 := hp85
                have hR85 : repR ρ82 K82 X85 R82 md M := by rw [eX85]; exact hR82.own ⟨rfl, by decide⟩
                have hs85 : lsR X82 R82 X85 R82 md := by rw [eX85]; exact lsR_own hR82
                have hg85 : frR ρ82 K82 X82 R82 ρ82 K82 X85 R82 := by rw [eX85]; exact frR_own hR82
                have h36_85 := congrFun (congrFun eX85 md) 36
                rw [up2_s] at h36_85
                have hn85 : ∀ b, b ≠ md → X85 b = X82 b := fun b hb => by rw [eX85]; exact up2_o hb
                refine ziinc (pc := 88) (lv' := [(3, .int (iI (oo + 1))), (2, .ref r2), (0, .ref md), (1, .int (iI n))]) hx hb 0 dX9_addSeries__88 hl rfl (by decide) rfl (fun ls hl => ?_)
                obtain ⟨x88, ex88⟩ : ∃ zz : Int, zz = (oo + 1) := ⟨_, rfl⟩
                rw [← ex88] at hl
                refine lv_goto (pc := 91) (tgt := 70) hx hb dX9_addSeries__91 (by decide) ?_
                exact ih70 x88 (ρ82) (cz + 2) (sz + (dnC RL70 md n.toNat + dnC RL70 md oo.toNat)) K82 X85 R82 _ _ (by omega) (by intro k g; by_cases w : (k : Int) < oo; exact dn_0 (hs82.trans hs85) (hall k w); (rw [show k = oo.toNat by omega]; exact dn_0 hs85 he82)) (by rw [ex88, dgL_s hoo.1, h36_85, (show X82 md 36 = XL70 md 36 from hz82 36 (Or.inr rfl)), hv70, hv82]; unfold dgSh; rw [if_pos (by omega)]) (by exact hR85) (by exact (hf9.trans hg82).trans hg85) (by exact (hls.trans hs82).trans hs85) (by exact hk82) (by exact hl82) (by intro j hj; rw [hn85 r2 (zkn2 hk82 hmd82 (by simp)), hx82]; exact hvL j hj) (by exact hd82) (by have h9 := pn_mono (M := M) hs85; omega) (by omega) hw _ (lv_sub hl [0, 1, 2, 3] rfl)
          exact lp70 _ 0 (ρL) cz sz KL29 XL29 RL29 _ _ (by omega) (by intro k g; omega) (by rcases hkk with ⟨h1, h2⟩ | ⟨h1, h2, h3⟩ | ⟨h1, h2⟩; omega; omega; exact h2) (by exact hR9) (by exact hf9) (by exact hls) (by exact hkL) (by exact hlL) (by exact hvL) (by exact hnL) (by omega) (Nat.lt_succ_self _) hw _ (lv_sub hl [0, 1, 2, 3] rfl)
        · skip
          refine lv_aload_n (pc := 35) hx hb dX9_addSeries__35 rfl (lv_at hl 2 rfl) ?_
          refine lv_aload_n (pc := 36) hx hb dX9_addSeries__36 rfl (lv_at hl 1 rfl) ?_
          refine lv_iload_n (pc := 37) hx hb dX9_addSeries__37 rfl (lv_at hl 0 rfl) ?_
          have hvk := hvL kk.toNat (by omega)
          refine zald (pc := 38) hx hb hw hkL ⟨by omega, by omega⟩ (by omega) dX9_addSeries__38 ?_
          refine zkVx (pc := 39) (zrV (As := [.int (iI (XL29 r2 kk.toNat))]) hx hb hml hown hG hw (c_X9_add l Γ KL29 XL29 RL29 md (XL29 r2 kk.toNat)  (by (first | assumption | omega))) (T := TX9) hmdL rfl cb_X9_add wl_X9_342 rfl ⟨Nat.le_of_ble_eq_true rfl, Nat.le_of_ble_eq_true rfl⟩ hl.1 rfl (Nat.le_of_ble_eq_true rfl) dX9_addSeries__39 ⟨(by show cz + 0 ≤ 20; omega), (by show sz + 0 ≤ (seC Rf md M n.toNat); omega)⟩) hw (fun X39 H locs hp39 hw => ?_)
          have eX39 := hp39
          have hR39 : repR ρL KL29 X39 RL29 md M := by rw [eX39]; exact hR9.own ⟨rfl, by decide⟩
          have hs39 : lsR XL29 RL29 X39 RL29 md := by rw [eX39]; exact lsR_own hR9
          have hg39 : frR ρL KL29 XL29 RL29 ρL KL29 X39 RL29 := by rw [eX39]; exact frR_own hR9
          have h36_39 := congrFun (congrFun eX39 md) 36
          rw [up2_s] at h36_39
          have hn39 : ∀ b, b ≠ md → X39 b = XL29 b := fun b hb => by rw [eX39]; exact up2_o hb
          refine lv_aload_n (pc := 42) hx hb dX9_addSeries__42 rfl (lv_at hl 2 rfl) ?_
          refine lv_aload_n (pc := 43) hx hb dX9_addSeries__43 rfl (lv_at hl 2 rfl) ?_
          refine lv_iload_n (pc := 44) hx hb dX9_addSeries__44 rfl (lv_at hl 3 rfl) ?_
          refine lv_aload_n (pc := 45) hx hb dX9_addSeries__45 rfl (lv_at hl 1 rfl) ?_
          refine lv_iload_n (pc := 46) hx hb dX9_addSeries__46 rfl (lv_at hl 0 rfl) ?_
          refine zald (pc := 47) hx hb hw hkL ⟨by omega, by omega⟩ (by omega) dX9_addSeries__47 ?_
          have hla39 : dlC X39 RL29 md (serM M n.toNat 0).toNat = 0 := dl_0 hs39 hlaL
          have hdx := hdv kk.toNat (by omega)
          have hvx : X39 r2 kk.toNat = (datM M n.toNat).getD kk.toNat 0 := by rw [hn39 r2 (zkn2 hkL hmdL (by simp))]; exact hvL kk.toNat (by omega)
          rw [hvx]
          refine zkI (pc := 48) (zrV (As := [.int (iI n), .int (iI ((datM M n.toNat).getD kk.toNat 0))]) hx hb hml hown hG hw (c_X9_momentOfDate l Γ KL29 X39 RL29 md n ((datM M n.toNat).getD kk.toNat 0) (ρL) M (by (first | assumption | omega)) (by (first | assumption | omega)) (by (first | assumption | omega)) (by (first | assumption | omega))) (T := TX9) hmdL rfl cb_X9_momentOfDate wl_X9_272 rfl ⟨Nat.le_of_ble_eq_true rfl, Nat.le_of_ble_eq_true rfl⟩ hl.1 rfl (Nat.le_of_ble_eq_true rfl) dX9_addSeries__48 ⟨(by show cz + (min 5 (dlC X39 RL29 md (serM M n.toNat 0).toNat)) ≤ 20; omega), (by show sz + (dlC X39 RL29 md (serM M n.toNat 0).toNat) ≤ (seC Rf md M n.toNat); omega)⟩) hw (fun r48 K48 X48 R48 H locs hp48 hw => ?_)
          obtain ⟨hv48, ρ48, ⟨hR48, hg48, hz48⟩, ⟨hs48, hd48⟩, hy48⟩ := hp48
          obtain ⟨hmd48, hlm48⟩ := id hR48.1
          have hk48 : K48 r2 = (2, (datM M n.toNat).length) := by rw [(hg48 r2 (zk1 hkL)).1]; exact hkL
          have hl48 : ρ48 r2 = 3020 + n.toNat := by rw [(hg48 r2 (zk1 hkL)).2.1]; exact hlL
          have hx48 : X48 r2 = XL29 r2 := by rw [hy48 r2 (zk1 hkL) (by rw [hlL]; omega)]; exact hn39 r2 (zkn2 hkL hmdL (by simp))
          refine zkVx (pc := 51) (zrV (As := [.int (iI r48)]) hx hb hml hown hG hw (c_X9_add l Γ K48 X48 R48 md r48  (by (first | assumption | omega))) (T := TX9) hmd48 rfl cb_X9_add wl_X9_342 rfl ⟨Nat.le_of_ble_eq_true rfl, Nat.le_of_ble_eq_true rfl⟩ hl.1 rfl (Nat.le_of_ble_eq_true rfl) dX9_addSeries__51 ⟨(by show cz + (min 5 (dlC X39 RL29 md (serM M n.toNat 0).toNat)) + 0 ≤ 20; omega), (by show sz + (dlC X39 RL29 md (serM M n.toNat 0).toNat) + 0 ≤ (seC Rf md M n.toNat); omega)⟩) hw (fun X51 H locs hp51 hw => ?_)
          have eX51 := hp51
          have hR51 : repR ρ48 K48 X51 R48 md M := by rw [eX51]; exact hR48.own ⟨rfl, by decide⟩
          have hs51 : lsR X48 R48 X51 R48 md := by rw [eX51]; exact lsR_own hR48
          have hg51 : frR ρ48 K48 X48 R48 ρ48 K48 X51 R48 := by rw [eX51]; exact frR_own hR48
          have h36_51 := congrFun (congrFun eX51 md) 36
          rw [up2_s] at h36_51
          have hn51 : ∀ b, b ≠ md → X51 b = X48 b := fun b hb => by rw [eX51]; exact up2_o hb
          refine lv_iload_n (pc := 54) hx hb dX9_addSeries__54 rfl (lv_at hl 0 rfl) ?_
          refine ziconst (pc := 55) (n := 1) hx hb dX9_addSeries__55 ?_
          refine lv_aload_n (pc := 56) hx hb dX9_addSeries__56 rfl (lv_at hl 1 rfl) ?_
          refine zlen2 (pc := 57) hx hb hw hk48 dX9_addSeries__57 ?_
          refine ziconst (pc := 58) (n := 1) hx hb dX9_addSeries__58 ?_
          refine zsub (pc := 59) hx hb dX9_addSeries__59 ?_
          refine zmax (pc := 60) hx hb (hml.trans hl.1.symm) hown hG wl_X9_182 w1_zmx wi_javalangMath w2_zmx (Nat.le_of_ble_eq_true rfl) (Nat.le_of_ble_eq_true rfl) (by show cz + (min 5 (dlC X39 RL29 md (serM M n.toNat 0).toNat)) ≤ 20; omega) (by show sz + (dlC X39 RL29 md (serM M n.toNat 0).toNat) ≤ (seC Rf md M n.toNat); omega) ⟨by omega, by omega⟩ dX9_addSeries__60 ?_
          refine zadd (pc := 63) hx hb dX9_addSeries__63 ?_
          refine ztop (fun x64 ex64 => ?_)
          refine lv_istore_n (pc := 64) (lv' := [(3, .int (iI x64)), (2, .ref r2), (0, .ref md), (1, .int (iI n))]) hx hb dX9_addSeries__64 rfl hl (by decide) rfl (fun ls hl => ?_)
          refine lv_goto (pc := 65) (tgt := 29) hx hb dX9_addSeries__65 (by decide) ?_
          exact ih29 x64 (ρ48) (cz + (min 5 (dlC X39 RL29 md (serM M n.toNat 0).toNat))) (sz + (dlC X39 RL29 md (serM M n.toNat 0).toNat)) K48 X51 R48 _ _ (by 
                                        have hq : X51 md 36 = mx (mx (XL29 md 36) (wI (dtL (datM M n.toNat) kk))) (wI (dmM M n.toNat kk)) := by
                                          rw [h36_51, (show X48 md 36 = X39 md 36 from hz48 36 (Or.inr rfl)), h36_39, hv48, dtL_in (by omega) (by omega)]
                                          unfold dmM
                                          rw [dtL_in (by omega) (by omega)]
                                          first | rfl | (congr 3; exact hvL kk.toNat (by omega)) | (rw [hvL kk.toNat (by omega)])
                                        rcases hkk with ⟨h1, h2⟩ | ⟨h1, h2, h3⟩ | ⟨h1, _⟩
                                        · rw [h1, h2] at hq
                                          by_cases g : 0 < ((datM M n.toNat).length : Int) - 1
                                          · exact Or.inr (Or.inl ⟨by omega, by omega, hq⟩)
                                          · refine Or.inr (Or.inr ⟨by omega, ?_⟩)
                                            unfold dgD2; rw [if_neg g]; exact hq
                                        · refine Or.inr (Or.inr ⟨by omega, ?_⟩)
                                          unfold dgD2; rw [if_pos (by omega), ← h2, hq, h3]
                                        · omega) (by omega) (by exact hR51) (by exact ((hf9.trans hg39).trans hg48).trans hg51) (by exact ((hls.trans hs39).trans hs48).trans hs51) (by exact hk48) (by exact hl48) (by intro j hj; rw [hn51 r2 (zkn2 hk48 hmd48 (by simp)), hx48]; exact hvL j hj) (by exact dn_0 ((hs39.trans hs48).trans hs51) hnL) (by have h9 := pn_mono (M := M) ((hs39.trans hs48).trans hs51); omega) (by omega) hw _ (lv_sub hl [0, 1, 2, 3] rfl)
    exact lp29 _ 0 (ρ15) (0 + 1 + 1) (0 + (dnC Rf md n.toNat) + (dnC R2 md n.toNat)) K15 X18 R15 _ _ (by refine Or.inl ⟨rfl, ?_⟩; rw [h36_18, (show X15 md 36 = X9 md 36 from hz15 36 (Or.inr rfl)), h36_9, (show X2 md 36 = X md 36 from hz2 36 (Or.inr rfl)), hv15]) (by omega) (by exact hR18) (by exact ((hg2.trans hg9).trans hg15).trans hg18) (by exact ((hs2.trans hs9).trans hs15).trans hs18) (by exact hk15) (by exact hl15) (by intro j hj; rw [hn18 r2 (zkn2 hk15 hmd15 (by simp))]; exact hv15r j hj) (by exact hd15) (by omega) (Nat.lt_succ_self _) hw _ (lv_sub hl [0, 1, 2, 3] rfl)
  · skip
    have hse2 := hse0 (by omega)
    exact zretV (pc := 26) hx hb hlocks hr hw (by show 0 + 1 + 1 ≤ 20; omega) (by show 0 + (dnC Rf md n.toNat) + (dnC R2 md n.toNat) ≤ (seC Rf md M n.toNat); omega) dX9_addSeries__26 (by refine ⟨?_, ⟨ρ15, hR18, ((hg2.trans hg9).trans hg15).trans hg18⟩, ((hs2.trans hs9).trans hs15).trans hs18, hd15, by have h9 := pn_mono (M := M) ((hs9.trans hs15).trans hs18); rw [hse0 (by omega)]; omega⟩; unfold dgSe; rw [if_pos hnz, if_neg (by omega), h36_18, (show X15 md 36 = X9 md 36 from hz15 36 (Or.inr rfl)), h36_9, (show X2 md 36 = X md 36 from hz2 36 (Or.inr rfl)), hv15])
set_option maxHeartbeats 4000000 in
set_option maxRecDepth 100000 in
theorem c_X9_digest (l : Launch) (Γ : zG) (K : zK) (X : zX) (Rf : zR) (md : Nat) (ρ : zL) (M : zM) (hR : repR ρ K X Rf md M) (hM : okM M) : Ct l yX9_digest cX9_digest 2 (some .long) 92 200 (plE X Rf md + pnE Rf md M) Γ [.ref md] K X Rf (pL (fun (r : Int) (K' : zK) (X' : zX) (R' : zR) => r = dgM M ∧ X' md 0 = 0 ∧ (∃ ρ', repR ρ' K' X' R' md M ∧ frR ρ K X Rf ρ' K' X' R') ∧ lsR X Rf X' R' md ∧ ptR X' R' md + (plE X Rf md + pnE Rf md M) ≤ ptR X Rf md)) := by
  refine Ct.of (by decide +kernel) (Nat.le_of_ble_eq_true rfl) ?_
  intro p e s m below meth c ls hx hb hr hml hown hG hlocks hname hw hl
  have hl : lv_has ls 2 [(0, .ref md)] := hl
  obtain ⟨hmd, hlmd⟩ := id hR.1
  obtain ⟨⟨hb1, hb2, hb3, hb4⟩, hokP, hokL, hokS, hokW, hokF⟩ := id hM
  have hq1 : X md 1 = M 40 1 := hR.2.1 1 rfl
  have hq5 : X md 5 = M 40 5 := hR.2.1 5 rfl
  have hq16 : X md 16 = M 40 16 := hR.2.1 16 rfl
  have hq25 : X md 25 = M 40 25 := hR.2.1 25 rfl
  have hq26 : X md 26 = M 40 26 := hR.2.1 26 rfl
  have hq27 : X md 27 = M 40 27 := hR.2.1 27 rfl
  have hq28 : X md 28 = M 40 28 := hR.2.1 28 rfl
  have hq29 : X md 29 = M 40 29 := hR.2.1 29 rfl
  obtain ⟨a2, hB2, hA2, hL2, hD2⟩ : ∃ a, Rf md 2 = some a ∧ K a = (2, 24) ∧ ρ a = 2003 ∧ X a = M 2 := hR.fd 2 (by decide) rfl
  have hN2 : Apt a2 md := zkn2 hA2 hmd (by simp)
  obtain ⟨a3, hB3, hA3, hL3, hD3⟩ : ∃ a, Rf md 3 = some a ∧ K a = (2, 24) ∧ ρ a = 2004 ∧ X a = M 3 := hR.fd 3 (by decide) rfl
  have hN3 : Apt a3 md := zkn2 hA3 hmd (by simp)
  obtain ⟨a4, hB4, hA4, hL4, hD4⟩ : ∃ a, Rf md 4 = some a ∧ K a = (2, 24) ∧ ρ a = 2005 ∧ X a = M 4 := hR.fd 4 (by decide) rfl
  have hN4 : Apt a4 md := zkn2 hA4 hmd (by simp)
  refine lv_aload_n (pc := 0) hx hb dX9_digest_0 rfl (lv_at hl 0 rfl) ?_
  refine ziconst (pc := 1) (n := 0) hx hb dX9_digest_1 ?_
  refine zputI (pc := 2) hx hb hG hown hw hmd (T := TX9) rfl 0 (by decide) rfl wf_X9_87 rfl (by decide +kernel) rfl dX9_digest_2 (fun H locs hw => ?_)
  obtain ⟨X2, eX2⟩ : ∃ Y : zX, Y = up2 X md 0 0 := ⟨_, rfl⟩
  rw [← eX2] at hw
  have hR2 : repR ρ K X2 Rf md M := by rw [eX2]; exact hR.own ⟨rfl, by decide⟩
  have hf2 : frR ρ K X Rf ρ K X2 Rf := by rw [eX2]; exact frR_own hR
  have hls2 : lsR X Rf X2 Rf md := by rw [eX2]; exact lsR_own hR
  refine lv_aload_n (pc := 5) hx hb dX9_digest_5 rfl (lv_at hl 0 rfl) ?_
  refine zldc2 (pc := 6) (n := 2441) hx hb hown hG wk_X9_345 dX9_digest_6 ?_
  refine zputL (pc := 9) hx hb hG hown hw hmd (T := TX9) rfl 36 (by decide) rfl wf_X9_336 rfl (by decide +kernel) rfl dX9_digest_9 (fun H locs hw => ?_)
  obtain ⟨X9, eX9⟩ : ∃ Y : zX, Y = up2 X2 md 36 2441 := ⟨_, rfl⟩
  rw [← eX9] at hw
  have hR99 : repR ρ K X9 Rf md M := by rw [eX9]; exact hR2.own ⟨rfl, by decide⟩
  have hf99 : frR ρ K X2 Rf ρ K X9 Rf := by rw [eX9]; exact frR_own hR2
  have hls9 : lsR X2 Rf X9 Rf md := by rw [eX9]; exact lsR_own hR2
  have h17v : X9 md 1 = M 40 1 := hR99.2.1 1 rfl
  refine lv_aload_n (pc := 12) hx hb dX9_digest_12 rfl (lv_at hl 0 rfl) ?_
  refine lv_aload_n (pc := 13) hx hb dX9_digest_13 rfl (lv_at hl 0 rfl) ?_
  refine zgetI (pc := 14) hx hb hG hown hw hmd (T := TX9) rfl 1 (by decide) rfl wf_X9_142 rfl dX9_digest_14 ?_
  refine zkVx (pc := 17) (zrV (As := [.int (iI (X9 md 1))]) hx hb hml hown hG hw (c_X9_add l Γ K X9 Rf md (X9 md 1)  (by (first | assumption | omega))) (T := TX9) hmd rfl cb_X9_add wl_X9_342 rfl ⟨Nat.le_of_ble_eq_true rfl, Nat.le_of_ble_eq_true rfl⟩ hl.1 rfl (Nat.le_of_ble_eq_true rfl) dX9_digest_17 ⟨Nat.zero_le _, Nat.zero_le _⟩) hw (fun X17 H locs hp17 hw => ?_)
  have eX17 := hp17
  have hR17 : repR ρ K X17 Rf md M := by rw [eX17]; exact hR99.own ⟨rfl, by decide⟩
  have hs17 : lsR X9 Rf X17 Rf md := by rw [eX17]; exact lsR_own hR99
  have hg17 : frR ρ K X9 Rf ρ K X17 Rf := by rw [eX17]; exact frR_own hR99
  have h36_17 := congrFun (congrFun eX17 md) 36
  rw [up2_s] at h36_17
  have hn17 : ∀ b, b ≠ md → X17 b = X9 b := fun b hb => by rw [eX17]; exact up2_o hb
  refine ziconst (pc := 20) (n := 0) hx hb dX9_digest_20 ?_
  refine lv_istore_n (pc := 21) (lv' := [(1, .int (iI 0)), (0, .ref md)]) hx hb dX9_digest_21 rfl hl (by decide) rfl (fun ls hl => ?_)
  have lp22 : ∀ (n22 : Nat) (kk : Int) (XL22 : zX) (H : Heap) (locs : List Loc), (hi : 0 ≤ kk ∧ kk ≤ M 40 1) → (ho : ∀ b, b ≠ md → XL22 b = X b) → (hR9 : repR ρ K XL22 Rf md M) → (hls : lsR X Rf XL22 Rf md) → (hf9 : frR ρ K X Rf ρ K XL22 Rf) → (hv : XL22 md 36 = dgL (dgPa M) (mx 2441 (wI (M 40 1))) kk.toNat) → ((M 40 1 - kk).toNat < n22) → Wd Γ (zA K s.heap.size) K XL22 Rf s H locs → ∀ ls : Array Slot, lv_has ls 2 [(1, .int (iI kk)), (0, .ref md)] → W p l e (rmL 92 200 (plE X Rf md + pnE Rf md M)) s m ([.ref md] : List Value).toArray below meth c H locs 0 0 (MQ below (zQ Γ K s.heap.size (pL (fun (r : Int) (K' : zK) (X' : zX) (R' : zR) => r = dgM M ∧ X' md 0 = 0 ∧ (∃ ρ', repR ρ' K' X' R' md M ∧ frR ρ K X Rf ρ' K' X' R') ∧ lsR X Rf X' R' md ∧ ptR X' R' md + (plE X Rf md + pnE Rf md M) ≤ ptR X Rf md))) ([.ref md] : List Value).toArray s 200 (plE X Rf md + pnE Rf md M) (zA K s.heap.size)) (F0 m 22 ls []) := by
    intro n22
    induction n22 with
    | zero => intro kk XL22 H locs hi ho hR9 hls hf9 hv hm22; exact absurd hm22 (Nat.not_lt_zero _)
    | succ n22 ih22 =>
      intro kk XL22 H locs hi ho hR9 hls hf9 hv hm22 hw ls hl
      have h1L : XL22 md 1 = M 40 1 := hR9.2.1 1 rfl
      refine lv_iload_n (pc := 22) hx hb dX9_digest_22 rfl (lv_at hl 0 rfl) ?_
      refine lv_aload_n (pc := 23) hx hb dX9_digest_23 rfl (lv_at hl 1 rfl) ?_
      refine zgetI (pc := 24) hx hb hG hown hw hmd (T := TX9) rfl 1 (by decide) rfl wf_X9_142 rfl dX9_digest_24 ?_
      refine zicmp_ge (pc := 27) hx hb 60 (by omega) (by omega) dX9_digest_27 (by decide) (fun c27 => ?_) (fun c27 => ?_)
      · skip
        refine lv_aload_n (pc := 60) hx hb dX9_digest_60 rfl (lv_at hl 1 rfl) ?_
        refine lv_aload_n (pc := 61) hx hb dX9_digest_61 rfl (lv_at hl 1 rfl) ?_
        have h5L2 : XL22 md 5 = M 40 5 := hR9.2.1 5 rfl
        refine zgetI (pc := 62) hx hb hG hown hw hmd (T := TX9) rfl 5 (by decide) rfl wf_X9_158 rfl dX9_digest_62 ?_
        refine zkVx (pc := 65) (zrV (As := [.int (iI (XL22 md 5))]) hx hb hml hown hG hw (c_X9_add l Γ K XL22 Rf md (XL22 md 5)  (by (first | assumption | omega))) (T := TX9) hmd rfl cb_X9_add wl_X9_342 rfl ⟨Nat.le_of_ble_eq_true rfl, Nat.le_of_ble_eq_true rfl⟩ hl.1 rfl (Nat.le_of_ble_eq_true rfl) dX9_digest_65 ⟨Nat.zero_le _, Nat.zero_le _⟩) hw (fun X65 H locs hp65 hw => ?_)
        have eX65 := hp65
        have hR65 : repR ρ K X65 Rf md M := by rw [eX65]; exact hR9.own ⟨rfl, by decide⟩
        have hs65 : lsR XL22 Rf X65 Rf md := by rw [eX65]; exact lsR_own hR9
        have hg65 : frR ρ K XL22 Rf ρ K X65 Rf := by rw [eX65]; exact frR_own hR9
        have h36_65 := congrFun (congrFun eX65 md) 36
        rw [up2_s] at h36_65
        have hn65 : ∀ b, b ≠ md → X65 b = XL22 b := fun b hb => by rw [eX65]; exact up2_o hb
        refine ziconst (pc := 68) (n := 0) hx hb dX9_digest_68 ?_
        refine lv_istore_n (pc := 69) (lv' := [(1, .int (iI 0)), (0, .ref md)]) hx hb dX9_digest_69 rfl hl (by decide) rfl (fun ls hl => ?_)
        have lp70 : ∀ (n70 : Nat) (kk : Int) (ρL : zL) (cz : Nat) (sz : Nat) (KL70 : zK) (XL70 : zX) (RL70 : zR) (H : Heap) (locs : List Loc), (hi : 0 ≤ kk ∧ kk ≤ M 40 5) → (hR9 : repR ρL KL70 XL70 RL70 md M) → (hls : lsR X Rf XL70 RL70 md) → (hf9 : frR ρ K X Rf ρL KL70 XL70 RL70) → (hla : ∀ p : Nat, (p : Int) < kk → dlC XL70 RL70 md p = 0) → (hv : XL70 md 36 = dgL (dgPl M) (mx (dgL (dgPa M) (mx 2441 (wI (M 40 1))) 24) (wI (M 40 5))) kk.toNat) → (hcs9 : cz ≤ 5 * kk.toNat ∧ sz + plE XL70 RL70 md ≤ plE X Rf md) → ((M 40 5 - kk).toNat < n70) → Wd Γ (zA K s.heap.size) KL70 XL70 RL70 s H locs → ∀ ls : Array Slot, lv_has ls 2 [(1, .int (iI kk)), (0, .ref md)] → W p l e (rmL 92 200 (plE X Rf md + pnE Rf md M)) s m ([.ref md] : List Value).toArray below meth c H locs cz sz (MQ below (zQ Γ K s.heap.size (pL (fun (r : Int) (K' : zK) (X' : zX) (R' : zR) => r = dgM M ∧ X' md 0 = 0 ∧ (∃ ρ', repR ρ' K' X' R' md M ∧ frR ρ K X Rf ρ' K' X' R') ∧ lsR X Rf X' R' md ∧ ptR X' R' md + (plE X Rf md + pnE Rf md M) ≤ ptR X Rf md))) ([.ref md] : List Value).toArray s 200 (plE X Rf md + pnE Rf md M) (zA K s.heap.size)) (F0 m 70 ls []) := by
          intro n70
          induction n70 with
          | zero => intro kk ρL cz sz KL70 XL70 RL70 H locs hi hR9 hls hf9 hla hv hcs9 hm70; exact absurd hm70 (Nat.not_lt_zero _)
          | succ n70 ih70 =>
            intro kk ρL cz sz KL70 XL70 RL70 H locs hi hR9 hls hf9 hla hv hcs9 hm70 hw ls hl
            obtain ⟨hmdL, hlmL⟩ := id hR9.1
            have h5L : XL70 md 5 = M 40 5 := hR9.2.1 5 rfl
            refine lv_iload_n (pc := 70) hx hb dX9_digest_70 rfl (lv_at hl 0 rfl) ?_
            refine lv_aload_n (pc := 71) hx hb dX9_digest_71 rfl (lv_at hl 1 rfl) ?_
            refine zgetI (pc := 72) hx hb hG hown hw hmdL (T := TX9) rfl 5 (by decide) rfl wf_X9_158 rfl dX9_digest_72 ?_
            refine zicmp_ge (pc := 75) hx hb 167 (by omega) (by omega) dX9_digest_75 (by decide) (fun c75 => ?_) (fun c75 => ?_)
            · skip
              refine lv_aload_n (pc := 167) hx hb dX9_digest_167 rfl (lv_at hl 1 rfl) ?_
              refine lv_aload_n (pc := 168) hx hb dX9_digest_168 rfl (lv_at hl 1 rfl) ?_
              have h16L2 : XL70 md 16 = M 40 16 := hR9.2.1 16 rfl
              refine zgetI (pc := 169) hx hb hG hown hw hmdL (T := TX9) rfl 16 (by decide) rfl wf_X9_228 rfl dX9_digest_169 ?_
              refine zkVx (pc := 172) (zrV (As := [.int (iI (XL70 md 16))]) hx hb hml hown hG hw (c_X9_add l Γ KL70 XL70 RL70 md (XL70 md 16)  (by (first | assumption | omega))) (T := TX9) hmdL rfl cb_X9_add wl_X9_342 rfl ⟨Nat.le_of_ble_eq_true rfl, Nat.le_of_ble_eq_true rfl⟩ hl.1 rfl (Nat.le_of_ble_eq_true rfl) dX9_digest_172 ⟨(by show cz + 0 ≤ 200; omega), (by show sz + 0 ≤ (plE X Rf md + pnE Rf md M); omega)⟩) hw (fun X172 H locs hp172 hw => ?_)
              have eX172 := hp172
              have hR172 : repR ρL KL70 X172 RL70 md M := by rw [eX172]; exact hR9.own ⟨rfl, by decide⟩
              have hs172 : lsR XL70 RL70 X172 RL70 md := by rw [eX172]; exact lsR_own hR9
              have hg172 : frR ρL KL70 XL70 RL70 ρL KL70 X172 RL70 := by rw [eX172]; exact frR_own hR9
              have h36_172 := congrFun (congrFun eX172 md) 36
              rw [up2_s] at h36_172
              have hn172 : ∀ b, b ≠ md → X172 b = XL70 b := fun b hb => by rw [eX172]; exact up2_o hb
              refine ziconst (pc := 175) (n := 0) hx hb dX9_digest_175 ?_
              refine lv_istore_n (pc := 176) (lv' := [(1, .int (iI 0)), (0, .ref md)]) hx hb dX9_digest_176 rfl hl (by decide) rfl (fun ls hl => ?_)
              have lp177 : ∀ (n177 : Nat) (kk : Int) (ρL : zL) (cz : Nat) (sz : Nat) (KL177 : zK) (XL177 : zX) (RL177 : zR) (H : Heap) (locs : List Loc), (hi : 0 ≤ kk ∧ kk ≤ M 40 16) → (hR9 : repR ρL KL177 XL177 RL177 md M) → (hls : lsR X Rf XL177 RL177 md) → (hf9 : frR ρ K X Rf ρL KL177 XL177 RL177) → (hla : ∀ p : Nat, (p : Int) < M 40 5 → dlC XL177 RL177 md p = 0) → (hna : ∀ n : Nat, (n : Int) < kk → dnC RL177 md n = 0) → (hv : XL177 md 36 = dgL (dgSe M) (mx (dgL (dgPl M) (mx (dgL (dgPa M) (mx 2441 (wI (M 40 1))) 24) (wI (M 40 5))) 6) (wI (M 40 16))) kk.toNat) → (hcs9 : cz ≤ 30 + 20 * kk.toNat ∧ sz + pnE RL177 md M ≤ plE X Rf md + pnE Rf md M) → ((M 40 16 - kk).toNat < n177) → Wd Γ (zA K s.heap.size) KL177 XL177 RL177 s H locs → ∀ ls : Array Slot, lv_has ls 2 [(1, .int (iI kk)), (0, .ref md)] → W p l e (rmL 92 200 (plE X Rf md + pnE Rf md M)) s m ([.ref md] : List Value).toArray below meth c H locs cz sz (MQ below (zQ Γ K s.heap.size (pL (fun (r : Int) (K' : zK) (X' : zX) (R' : zR) => r = dgM M ∧ X' md 0 = 0 ∧ (∃ ρ', repR ρ' K' X' R' md M ∧ frR ρ K X Rf ρ' K' X' R') ∧ lsR X Rf X' R' md ∧ ptR X' R' md + (plE X Rf md + pnE Rf md M) ≤ ptR X Rf md))) ([.ref md] : List Value).toArray s 200 (plE X Rf md + pnE Rf md M) (zA K s.heap.size)) (F0 m 177 ls []) := by
                intro n177
                induction n177 with
                | zero => intro kk ρL cz sz KL177 XL177 RL177 H locs hi hR9 hls hf9 hla hna hv hcs9 hm177; exact absurd hm177 (Nat.not_lt_zero _)
                | succ n177 ih177 =>
                  intro kk ρL cz sz KL177 XL177 RL177 H locs hi hR9 hls hf9 hla hna hv hcs9 hm177 hw ls hl
                  obtain ⟨hmdL, hlmL⟩ := id hR9.1
                  have h16L : XL177 md 16 = M 40 16 := hR9.2.1 16 rfl
                  refine lv_iload_n (pc := 177) hx hb dX9_digest_177 rfl (lv_at hl 0 rfl) ?_
                  refine lv_aload_n (pc := 178) hx hb dX9_digest_178 rfl (lv_at hl 1 rfl) ?_
                  refine zgetI (pc := 179) hx hb hG hown hw hmdL (T := TX9) rfl 16 (by decide) rfl wf_X9_228 rfl dX9_digest_179 ?_
                  refine zicmp_ge (pc := 182) hx hb 196 (by omega) (by omega) dX9_digest_182 (by decide) (fun c182 => ?_) (fun c182 => ?_)
                  · skip
                    refine zldcw (pc := 196) (n := 36500) hx hb hown hG wk_X9_360 dX9_digest_196 ?_
                    refine lv_istore_n (pc := 199) (lv' := [(1, .int (iI 36500)), (0, .ref md)]) hx hb dX9_digest_199 rfl hl (by decide) rfl (fun ls hl => ?_)
                    have lp200 : ∀ (n200 : Nat) (dd : Int) (XL200 : zX) (H : Heap) (locs : List Loc), (hdd : 36500 ≤ dd ∧ dd ≤ 36520) → (hR8 : repR ρL KL177 XL200 RL177 md M) → (hls8 : lsR X Rf XL200 RL177 md) → (hf8 : frR ρ K X Rf ρL KL177 XL200 RL177) → (hsX : lsR XL177 RL177 XL200 RL177 md) → (hv8 : XL200 md 36 = dgL (dgDy M) (dgL (dgSe M) (mx (dgL (dgPl M) (mx (dgL (dgPa M) (mx 2441 (wI (M 40 1))) 24) (wI (M 40 5))) 6) (wI (M 40 16))) 6) (dd - 36500).toNat) → ((36520 - dd).toNat < n200) → Wd Γ (zA K s.heap.size) KL177 XL200 RL177 s H locs → ∀ ls : Array Slot, lv_has ls 2 [(1, .int (iI dd)), (0, .ref md)] → W p l e (rmL 92 200 (plE X Rf md + pnE Rf md M)) s m ([.ref md] : List Value).toArray below meth c H locs cz sz (MQ below (zQ Γ K s.heap.size (pL (fun (r : Int) (K' : zK) (X' : zX) (R' : zR) => r = dgM M ∧ X' md 0 = 0 ∧ (∃ ρ', repR ρ' K' X' R' md M ∧ frR ρ K X Rf ρ' K' X' R') ∧ lsR X Rf X' R' md ∧ ptR X' R' md + (plE X Rf md + pnE Rf md M) ≤ ptR X Rf md))) ([.ref md] : List Value).toArray s 200 (plE X Rf md + pnE Rf md M) (zA K s.heap.size)) (F0 m 200 ls []) := by
                      intro n200
                      induction n200 with
                      | zero => intro dd XL200 H locs hdd hR8 hls8 hf8 hsX hv8 hm200; exact absurd hm200 (Nat.not_lt_zero _)
                      | succ n200 ih200 =>
                        intro dd XL200 H locs hdd hR8 hls8 hf8 hsX hv8 hm200 hw ls hl
                        refine lv_iload_n (pc := 200) hx hb dX9_digest_200 rfl (lv_at hl 0 rfl) ?_
                        refine zldcw (pc := 201) (n := 36520) hx hb hown hG wk_X9_361 dX9_digest_201 ?_
                        refine zicmp_ge (pc := 204) hx hb 239 (by omega) (by omega) dX9_digest_204 (by decide) (fun c204 => ?_) (fun c204 => ?_)
                        · skip
                          refine lv_aload_n (pc := 239) hx hb dX9_digest_239 rfl (lv_at hl 1 rfl) ?_
                          refine lv_aload_n (pc := 240) hx hb dX9_digest_240 rfl (lv_at hl 1 rfl) ?_
                          refine zldcw (pc := 241) (n := 36500) hx hb hown hG wk_X9_360 dX9_digest_241 ?_
                          refine zsipush (pc := 244) (n := 400) hx hb dX9_digest_244 rfl ?_
                          refine zkIx (pc := 247) (zrV (As := [.int (iI 36500), .int (iI 400)]) hx hb hml hown hG hw (c_X9_worksWithin l Γ KL177 XL200 RL177 md 36500 400 (ρL) M (by (first | assumption | omega)) (by (first | assumption | omega)) (by (first | assumption | omega))) (T := TX9) hmdL rfl cb_X9_worksWithin wl_X9_313 rfl ⟨Nat.le_of_ble_eq_true rfl, Nat.le_of_ble_eq_true rfl⟩ hl.1 rfl (Nat.le_of_ble_eq_true rfl) dX9_digest_247 ⟨(by show cz + 0 ≤ 200; omega), (by show sz + 0 ≤ (plE X Rf md + pnE Rf md M); omega)⟩) hw (fun r247 X247 H locs hp247 hw => ?_)
                          obtain ⟨hr247z, hR247, hf247, h0247, hfs247⟩ := hp247
                          have hs247 := hfs247.ls hR8
                          refine zkVx (pc := 250) (zrV (As := [.int (iI r247)]) hx hb hml hown hG hw (c_X9_add l Γ KL177 X247 RL177 md r247  (by (first | assumption | omega))) (T := TX9) hmdL rfl cb_X9_add wl_X9_342 rfl ⟨Nat.le_of_ble_eq_true rfl, Nat.le_of_ble_eq_true rfl⟩ hl.1 rfl (Nat.le_of_ble_eq_true rfl) dX9_digest_250 ⟨(by show cz + 0 ≤ 200; omega), (by show sz + 0 ≤ (plE X Rf md + pnE Rf md M); omega)⟩) hw (fun X250 H locs hp250 hw => ?_)
                          have eX250 := hp250
                          have hR250 : repR ρL KL177 X250 RL177 md M := by rw [eX250]; exact hR247.own ⟨rfl, by decide⟩
                          have hs250 : lsR X247 RL177 X250 RL177 md := by rw [eX250]; exact lsR_own hR247
                          have hg250 : frR ρL KL177 X247 RL177 ρL KL177 X250 RL177 := by rw [eX250]; exact frR_own hR247
                          have h36_250 := congrFun (congrFun eX250 md) 36
                          rw [up2_s] at h36_250
                          have hn250 : ∀ b, b ≠ md → X250 b = X247 b := fun b hb => by rw [eX250]; exact up2_o hb
                          refine lv_aload_n (pc := 253) hx hb dX9_digest_253 rfl (lv_at hl 1 rfl) ?_
                          refine lv_aload_n (pc := 254) hx hb dX9_digest_254 rfl (lv_at hl 1 rfl) ?_
                          refine zldcw (pc := 255) (n := 36500) hx hb hown hG wk_X9_360 dX9_digest_255 ?_
                          refine zbipush (pc := 258) (n := 20) hx hb dX9_digest_258 rfl ?_
                          refine zkIx (pc := 260) (zrV (As := [.int (iI 36500), .int (iI 20)]) hx hb hml hown hG hw (c_X9_behind l Γ KL177 X250 RL177 md 36500 20 (ρL) M (by (first | assumption | omega)) (by (first | assumption | omega)) (by (first | assumption | omega))) (T := TX9) hmdL rfl cb_X9_behind wl_X9_319 rfl ⟨Nat.le_of_ble_eq_true rfl, Nat.le_of_ble_eq_true rfl⟩ hl.1 rfl (Nat.le_of_ble_eq_true rfl) dX9_digest_260 ⟨(by show cz + 0 ≤ 200; omega), (by show sz + 0 ≤ (plE X Rf md + pnE Rf md M); omega)⟩) hw (fun r260 X260 H locs hp260 hw => ?_)
                          obtain ⟨hr260z, hR260, hf260, h0260, hfs260⟩ := hp260
                          have hs260 := hfs260.ls hR250
                          refine zkVx (pc := 263) (zrV (As := [.int (iI r260)]) hx hb hml hown hG hw (c_X9_add l Γ KL177 X260 RL177 md r260  (by (first | assumption | omega))) (T := TX9) hmdL rfl cb_X9_add wl_X9_342 rfl ⟨Nat.le_of_ble_eq_true rfl, Nat.le_of_ble_eq_true rfl⟩ hl.1 rfl (Nat.le_of_ble_eq_true rfl) dX9_digest_263 ⟨(by show cz + 0 ≤ 200; omega), (by show sz + 0 ≤ (plE X Rf md + pnE Rf md M); omega)⟩) hw (fun X263 H locs hp263 hw => ?_)
                          have eX263 := hp263
                          have hR263 : repR ρL KL177 X263 RL177 md M := by rw [eX263]; exact hR260.own ⟨rfl, by decide⟩
                          have hs263 : lsR X260 RL177 X263 RL177 md := by rw [eX263]; exact lsR_own hR260
                          have hg263 : frR ρL KL177 X260 RL177 ρL KL177 X263 RL177 := by rw [eX263]; exact frR_own hR260
                          have h36_263 := congrFun (congrFun eX263 md) 36
                          rw [up2_s] at h36_263
                          have hn263 : ∀ b, b ≠ md → X263 b = X260 b := fun b hb => by rw [eX263]; exact up2_o hb
                          have hdw263 : dwC X263 RL177 md M = 0 := by
                            have h9 := dwC_ls (M := M) (((((hsX.trans hs247).trans hs250).trans hs260).trans hs263))
                            have h8 : dwC XL177 RL177 md M = 0 := by
                              unfold dwC; split
                              · rfl
                              · exact hla _ (by have h7 := hokW.1; omega)
                            omega
                          refine lv_aload_n (pc := 266) hx hb dX9_digest_266 rfl (lv_at hl 1 rfl) ?_
                          refine lv_aload_n (pc := 267) hx hb dX9_digest_267 rfl (lv_at hl 1 rfl) ?_
                          refine zldcw (pc := 268) (n := 52560000) hx hb hown hG wk_X9_362 dX9_digest_268 ?_
                          refine zsipush (pc := 271) (n := 20000) hx hb dX9_digest_271 rfl ?_
                          refine zkI (pc := 274) (zrV (As := [.int (iI 52560000), .int (iI 20000)]) hx hb hml hown hG hw (c_X9_workIn l Γ KL177 X263 RL177 md 52560000 20000 (ρL) M (by (first | assumption | omega)) (by (first | assumption | omega)) (by (first | assumption | omega))) (T := TX9) hmdL rfl cb_X9_workIn wl_X9_330 rfl ⟨Nat.le_of_ble_eq_true rfl, Nat.le_of_ble_eq_true rfl⟩ hl.1 rfl (Nat.le_of_ble_eq_true rfl) dX9_digest_274 ⟨(by show cz + (min 5 (dwC X263 RL177 md M)) ≤ 200; omega), (by show sz + (dwC X263 RL177 md M) ≤ (plE X Rf md + pnE Rf md M); omega)⟩) hw (fun r274 K274 X274 R274 H locs hp274 hw => ?_)
                          obtain ⟨hv274, ρ274, ⟨hR274, hg274, hz274⟩, hs274, hy274⟩ := hp274
                          obtain ⟨hmd274, hlm274⟩ := id hR274.1
                          have hz36_274 := hz274 36 (Or.inr rfl)
                          refine zkVx (pc := 277) (zrV (As := [.int (iI r274)]) hx hb hml hown hG hw (c_X9_add l Γ K274 X274 R274 md r274  (by (first | assumption | omega))) (T := TX9) hmd274 rfl cb_X9_add wl_X9_342 rfl ⟨Nat.le_of_ble_eq_true rfl, Nat.le_of_ble_eq_true rfl⟩ hl.1 rfl (Nat.le_of_ble_eq_true rfl) dX9_digest_277 ⟨(by show cz + (min 5 (dwC X263 RL177 md M)) + 0 ≤ 200; omega), (by show sz + (dwC X263 RL177 md M) + 0 ≤ (plE X Rf md + pnE Rf md M); omega)⟩) hw (fun X277 H locs hp277 hw => ?_)
                          have eX277 := hp277
                          have hR277 : repR ρ274 K274 X277 R274 md M := by rw [eX277]; exact hR274.own ⟨rfl, by decide⟩
                          have hs277 : lsR X274 R274 X277 R274 md := by rw [eX277]; exact lsR_own hR274
                          have hg277 : frR ρ274 K274 X274 R274 ρ274 K274 X277 R274 := by rw [eX277]; exact frR_own hR274
                          have h36_277 := congrFun (congrFun eX277 md) 36
                          rw [up2_s] at h36_277
                          have hn277 : ∀ b, b ≠ md → X277 b = X274 b := fun b hb => by rw [eX277]; exact up2_o hb
                          have hdw277 : dwC X277 R274 md M = 0 := by have h9 := dwC_ls (M := M) (hs274.trans hs277); omega
                          refine lv_aload_n (pc := 280) hx hb dX9_digest_280 rfl (lv_at hl 1 rfl) ?_
                          refine lv_aload_n (pc := 281) hx hb dX9_digest_281 rfl (lv_at hl 1 rfl) ?_
                          refine zldcw (pc := 282) (n := 52560000) hx hb hown hG wk_X9_362 dX9_digest_282 ?_
                          refine zsipush (pc := 285) (n := 3000) hx hb dX9_digest_285 rfl ?_
                          refine zkI (pc := 288) (zrV (As := [.int (iI 52560000), .int (iI 3000)]) hx hb hml hown hG hw (c_X9_done l Γ K274 X277 R274 md 52560000 3000 (ρ274) M (by (first | assumption | omega)) (by (first | assumption | omega)) (by (first | assumption | omega))) (T := TX9) hmd274 rfl cb_X9_done wl_X9_333 rfl ⟨Nat.le_of_ble_eq_true rfl, Nat.le_of_ble_eq_true rfl⟩ hl.1 rfl (Nat.le_of_ble_eq_true rfl) dX9_digest_288 ⟨(by show cz + (min 5 (dwC X263 RL177 md M)) + (min 5 (dwC X277 R274 md M)) ≤ 200; omega), (by show sz + (dwC X263 RL177 md M) + (dwC X277 R274 md M) ≤ (plE X Rf md + pnE Rf md M); omega)⟩) hw (fun r288 K288 X288 R288 H locs hp288 hw => ?_)
                          obtain ⟨hv288, ρ288, ⟨hR288, hg288, hz288⟩, hs288, hy288⟩ := hp288
                          obtain ⟨hmd288, hlm288⟩ := id hR288.1
                          have hz36_288 := hz288 36 (Or.inr rfl)
                          refine zkVx (pc := 291) (zrV (As := [.int (iI r288)]) hx hb hml hown hG hw (c_X9_add l Γ K288 X288 R288 md r288  (by (first | assumption | omega))) (T := TX9) hmd288 rfl cb_X9_add wl_X9_342 rfl ⟨Nat.le_of_ble_eq_true rfl, Nat.le_of_ble_eq_true rfl⟩ hl.1 rfl (Nat.le_of_ble_eq_true rfl) dX9_digest_291 ⟨(by show cz + (min 5 (dwC X263 RL177 md M)) + (min 5 (dwC X277 R274 md M)) + 0 ≤ 200; omega), (by show sz + (dwC X263 RL177 md M) + (dwC X277 R274 md M) + 0 ≤ (plE X Rf md + pnE Rf md M); omega)⟩) hw (fun X291 H locs hp291 hw => ?_)
                          have eX291 := hp291
                          have hR291 : repR ρ288 K288 X291 R288 md M := by rw [eX291]; exact hR288.own ⟨rfl, by decide⟩
                          have hs291 : lsR X288 R288 X291 R288 md := by rw [eX291]; exact lsR_own hR288
                          have hg291 : frR ρ288 K288 X288 R288 ρ288 K288 X291 R288 := by rw [eX291]; exact frR_own hR288
                          have h36_291 := congrFun (congrFun eX291 md) 36
                          rw [up2_s] at h36_291
                          have hn291 : ∀ b, b ≠ md → X291 b = X288 b := fun b hb => by rw [eX291]; exact up2_o hb
                          refine lv_aload_n (pc := 294) hx hb dX9_digest_294 rfl (lv_at hl 1 rfl) ?_
                          refine ziconst (pc := 295) (n := 0) hx hb dX9_digest_295 ?_
                          refine zputI (pc := 296) hx hb hG hown hw hmd288 (T := TX9) rfl 0 (by decide) rfl wf_X9_87 rfl (by decide +kernel) rfl dX9_digest_296 (fun H locs hw => ?_)
                          obtain ⟨X296, eX296⟩ : ∃ Y : zX, Y = up2 X291 md 0 0 := ⟨_, rfl⟩
                          rw [← eX296] at hw
                          refine lv_aload_n (pc := 299) hx hb dX9_digest_299 rfl (lv_at hl 1 rfl) ?_
                          refine zgetL (pc := 300) hx hb hG hown hw hmd288 (T := TX9) rfl 36 (by decide) rfl wf_X9_336 rfl dX9_digest_300 ?_
                          exact zretL (pc := 303) hx hb hlocks hr hw (by show cz + (min 5 (dwC X263 RL177 md M)) + (min 5 (dwC X277 R274 md M)) ≤ 200; omega) (by show sz + (dwC X263 RL177 md M) + (dwC X277 R274 md M) ≤ (plE X Rf md + pnE Rf md M); omega) dX9_digest_303 (by 
                                        have hR96 : repR ρ288 K288 X296 R288 md M := by rw [eX296]; exact hR291.own ⟨rfl, by decide⟩
                                        have hg96 : frR ρ288 K288 X291 R288 ρ288 K288 X296 R288 := by rw [eX296]; exact frR_own hR291
                                        have hs96 : lsR X291 R288 X296 R288 md := by rw [eX296]; exact lsR_own hR291
                                        have hsA : lsR XL177 RL177 X296 R288 md := (((((((hsX.trans hs247).trans hs250).trans hs260).trans hs263).trans hs274).trans hs277).trans hs288).trans (hs291.trans hs96)
                                        have hlsA : lsR X Rf X296 R288 md := hls.trans hsA
                                        refine ⟨?_, by rw [eX296]; exact up2_s, ⟨ρ288, hR96, ((((((((hf8.trans hf247).trans hg250).trans hf260).trans hg263).trans hg274).trans hg277).trans hg288).trans hg291).trans hg96⟩, hlsA, ptR_end hlsA (fun p hp => ?_) (fun n hn => dn_0 hsA (hna n (by omega)))⟩
                                        · rw [eX296, up2_k (by decide), h36_291, hz36_288, h36_277, hz36_274, h36_263, (h0260 36 (Or.inr rfl)), h36_250, (h0247 36 (Or.inr rfl)), hv8, hr247z, hr260z, hv274, hv288, show dd = 36520 by omega, show (36520 - 36500 : Int).toNat = 20 from rfl]
                                          first | done | (unfold dgM dgWo; first | done | rfl)
                                        · by_cases g : (p : Int) < M 40 5
                                          · exact dl_0 hsA (hla p g)
                                          · obtain ⟨b9, w1, w2, w3⟩ := hR96.a9
                                            rw [dlC_a w1, if_neg]
                                            have h9 := hR96.offn hM w1 hp (by omega)
                                            omega)
                        · skip
                          refine lv_aload_n (pc := 207) hx hb dX9_digest_207 rfl (lv_at hl 1 rfl) ?_
                          refine lv_aload_n (pc := 208) hx hb dX9_digest_208 rfl (lv_at hl 1 rfl) ?_
                          refine lv_iload_n (pc := 209) hx hb dX9_digest_209 rfl (lv_at hl 0 rfl) ?_
                          refine zkIx (pc := 210) (zrV (As := [.int (iI dd)]) hx hb hml hown hG hw (c_X9_feastAt l Γ KL177 XL200 RL177 md dd (ρL) M (by (first | assumption | omega)) (by (first | assumption | omega)) (by (first | assumption | omega))) (T := TX9) hmdL rfl cb_X9_feastAt wl_X9_307 rfl ⟨Nat.le_of_ble_eq_true rfl, Nat.le_of_ble_eq_true rfl⟩ hl.1 rfl (Nat.le_of_ble_eq_true rfl) dX9_digest_210 ⟨(by show cz + 0 ≤ 200; omega), (by show sz + 0 ≤ (plE X Rf md + pnE Rf md M); omega)⟩) hw (fun r210 X210 H locs hp210 hw => ?_)
                          obtain ⟨hr210z, hR210, hf210, h0210, hfs210⟩ := hp210
                          have hs210 := hfs210.ls hR8
                          refine zkVx (pc := 213) (zrV (As := [.int (iI r210)]) hx hb hml hown hG hw (c_X9_add l Γ KL177 X210 RL177 md r210  (by (first | assumption | omega))) (T := TX9) hmdL rfl cb_X9_add wl_X9_342 rfl ⟨Nat.le_of_ble_eq_true rfl, Nat.le_of_ble_eq_true rfl⟩ hl.1 rfl (Nat.le_of_ble_eq_true rfl) dX9_digest_213 ⟨(by show cz + 0 ≤ 200; omega), (by show sz + 0 ≤ (plE X Rf md + pnE Rf md M); omega)⟩) hw (fun X213 H locs hp213 hw => ?_)
                          have eX213 := hp213
                          have hR213 : repR ρL KL177 X213 RL177 md M := by rw [eX213]; exact hR210.own ⟨rfl, by decide⟩
                          have hs213 : lsR X210 RL177 X213 RL177 md := by rw [eX213]; exact lsR_own hR210
                          have hg213 : frR ρL KL177 X210 RL177 ρL KL177 X213 RL177 := by rw [eX213]; exact frR_own hR210
                          have h36_213 := congrFun (congrFun eX213 md) 36
                          rw [up2_s] at h36_213
                          have hn213 : ∀ b, b ≠ md → X213 b = X210 b := fun b hb => by rw [eX213]; exact up2_o hb
                          refine lv_aload_n (pc := 216) hx hb dX9_digest_216 rfl (lv_at hl 1 rfl) ?_
                          refine lv_aload_n (pc := 217) hx hb dX9_digest_217 rfl (lv_at hl 1 rfl) ?_
                          refine lv_iload_n (pc := 218) hx hb dX9_digest_218 rfl (lv_at hl 0 rfl) ?_
                          refine zkIx (pc := 219) (zrV (As := [.int (iI dd)]) hx hb hml hown hG hw (c_X9_works l Γ KL177 X213 RL177 md dd (ρL) M (by (first | assumption | omega)) (by (first | assumption | omega)) (by (first | assumption | omega))) (T := TX9) hmdL rfl cb_X9_works wl_X9_310 rfl ⟨Nat.le_of_ble_eq_true rfl, Nat.le_of_ble_eq_true rfl⟩ hl.1 rfl (Nat.le_of_ble_eq_true rfl) dX9_digest_219 ⟨(by show cz + 0 ≤ 200; omega), (by show sz + 0 ≤ (plE X Rf md + pnE Rf md M); omega)⟩) hw (fun r219 X219 H locs hp219 hw => ?_)
                          obtain ⟨hr219z, hR219, hf219, h0219, hfs219⟩ := hp219
                          have hs219 := hfs219.ls hR213
                          have hbi := bI_rng (wkdM M dd)
                          refine zif_eq (pc := 222) hx hb 229 (by omega) dX9_digest_222 (by decide) (fun c222 => ?_) (fun c222 => ?_)
                          · skip
                            have q222 := bI_0 (hr219z.symm.trans c222)
                            refine ziconst (pc := 229) (n := 0) hx hb dX9_digest_229 ?_
                            refine zkVx (pc := 230) (zrV (As := [.int (iI 0)]) hx hb hml hown hG hw (c_X9_add l Γ KL177 X219 RL177 md 0  (by (first | assumption | omega))) (T := TX9) hmdL rfl cb_X9_add wl_X9_342 rfl ⟨Nat.le_of_ble_eq_true rfl, Nat.le_of_ble_eq_true rfl⟩ hl.1 rfl (Nat.le_of_ble_eq_true rfl) dX9_digest_230 ⟨(by show cz + 0 ≤ 200; omega), (by show sz + 0 ≤ (plE X Rf md + pnE Rf md M); omega)⟩) hw (fun X230 H locs hp230 hw => ?_)
                            have eX230 := hp230
                            have hR230 : repR ρL KL177 X230 RL177 md M := by rw [eX230]; exact hR219.own ⟨rfl, by decide⟩
                            have hs230 : lsR X219 RL177 X230 RL177 md := by rw [eX230]; exact lsR_own hR219
                            have hg230 : frR ρL KL177 X219 RL177 ρL KL177 X230 RL177 := by rw [eX230]; exact frR_own hR219
                            have h36_230 := congrFun (congrFun eX230 md) 36
                            rw [up2_s] at h36_230
                            have hn230 : ∀ b, b ≠ md → X230 b = X219 b := fun b hb => by rw [eX230]; exact up2_o hb
                            have hsY : lsR XL200 RL177 X230 RL177 md := ((hs210.trans hs213).trans hs219).trans hs230
                            have hgY : frR ρL KL177 XL200 RL177 ρL KL177 X230 RL177 := ((hf210.trans hg213).trans hf219).trans hg230
                            refine ziinc (pc := 233) (lv' := [(1, .int (iI (dd + 1))), (0, .ref md)]) hx hb 0 dX9_digest_233 hl rfl (by decide) rfl (fun ls hl => ?_)
                            obtain ⟨x233, ex233⟩ : ∃ zz : Int, zz = (dd + 1) := ⟨_, rfl⟩
                            rw [← ex233] at hl
                            refine lv_goto (pc := 236) (tgt := 200) hx hb dX9_digest_236 (by decide) ?_
                            exact ih200 x233 X230 _ _ (by (first | assumption | omega)) (by exact hR230) (by exact hls8.trans hsY) (by exact hf8.trans hgY) (by exact hsX.trans hsY) (by rw [ex233, show (dd + 1 - 36500) = (dd - 36500) + 1 by omega, dgL_s (by omega), h36_230, (h0219 36 (Or.inr rfl)), h36_213, (h0210 36 (Or.inr rfl)), hv8, hr210z]; unfold dgDy; rw [show (36500 + (((dd - 36500).toNat : Nat) : Int)) = dd by omega]; first | (rw [q222, if_pos rfl, wI_s (z := 1) (by omega)]) | (rw [q222, if_neg (by simp), wI_s (z := 0) (by omega)])) (by omega) hw _ (lv_sub hl [0, 1] rfl)
                          · skip
                            have q222 := bI_1 (fun g => c222 (hr219z.trans g))
                            refine ziconst (pc := 225) (n := 1) hx hb dX9_digest_225 ?_
                            refine lv_goto (pc := 226) (tgt := 230) hx hb dX9_digest_226 (by decide) ?_
                            refine zkVx (pc := 230) (zrV (As := [.int (iI 1)]) hx hb hml hown hG hw (c_X9_add l Γ KL177 X219 RL177 md 1  (by (first | assumption | omega))) (T := TX9) hmdL rfl cb_X9_add wl_X9_342 rfl ⟨Nat.le_of_ble_eq_true rfl, Nat.le_of_ble_eq_true rfl⟩ hl.1 rfl (Nat.le_of_ble_eq_true rfl) dX9_digest_230 ⟨(by show cz + 0 ≤ 200; omega), (by show sz + 0 ≤ (plE X Rf md + pnE Rf md M); omega)⟩) hw (fun X230 H locs hp230 hw => ?_)
                            have eX230 := hp230
                            have hR230 : repR ρL KL177 X230 RL177 md M := by rw [eX230]; exact hR219.own ⟨rfl, by decide⟩
                            have hs230 : lsR X219 RL177 X230 RL177 md := by rw [eX230]; exact lsR_own hR219
                            have hg230 : frR ρL KL177 X219 RL177 ρL KL177 X230 RL177 := by rw [eX230]; exact frR_own hR219
                            have h36_230 := congrFun (congrFun eX230 md) 36
                            rw [up2_s] at h36_230
                            have hn230 : ∀ b, b ≠ md → X230 b = X219 b := fun b hb => by rw [eX230]; exact up2_o hb
                            have hsY : lsR XL200 RL177 X230 RL177 md := ((hs210.trans hs213).trans hs219).trans hs230
                            have hgY : frR ρL KL177 XL200 RL177 ρL KL177 X230 RL177 := ((hf210.trans hg213).trans hf219).trans hg230
                            refine ziinc (pc := 233) (lv' := [(1, .int (iI (dd + 1))), (0, .ref md)]) hx hb 0 dX9_digest_233 hl rfl (by decide) rfl (fun ls hl => ?_)
                            obtain ⟨x233, ex233⟩ : ∃ zz : Int, zz = (dd + 1) := ⟨_, rfl⟩
                            rw [← ex233] at hl
                            refine lv_goto (pc := 236) (tgt := 200) hx hb dX9_digest_236 (by decide) ?_
                            exact ih200 x233 X230 _ _ (by (first | assumption | omega)) (by exact hR230) (by exact hls8.trans hsY) (by exact hf8.trans hgY) (by exact hsX.trans hsY) (by rw [ex233, show (dd + 1 - 36500) = (dd - 36500) + 1 by omega, dgL_s (by omega), h36_230, (h0219 36 (Or.inr rfl)), h36_213, (h0210 36 (Or.inr rfl)), hv8, hr210z]; unfold dgDy; rw [show (36500 + (((dd - 36500).toNat : Nat) : Int)) = dd by omega]; first | (rw [q222, if_pos rfl, wI_s (z := 1) (by omega)]) | (rw [q222, if_neg (by simp), wI_s (z := 0) (by omega)])) (by omega) hw _ (lv_sub hl [0, 1] rfl)
                    exact lp200 _ 36500 XL177 _ _ (by (first | assumption | omega)) (by exact hR9) (by exact hls) (by exact hf9) (by exact lsR_refl) (by rw [hv, show kk = M 40 16 by omega, dgL_to (f := dgSe M) (c := (M 40 16).toNat) (n := 6) (fun k w hk => by unfold dgSe; rw [if_neg (by omega)]) (by omega)]; rfl) (Nat.lt_succ_self _) hw _ (lv_sub hl [0, 1] rfl)
                  · skip
                    refine lv_aload_n (pc := 185) hx hb dX9_digest_185 rfl (lv_at hl 1 rfl) ?_
                    refine lv_iload_n (pc := 186) hx hb dX9_digest_186 rfl (lv_at hl 0 rfl) ?_
                    have hss := (hokS kk.toNat (by omega)).2.1
                    have hsek := se_le (Rf := RL177) (md := md) (M := M) (n := kk.toNat) (by omega) (by omega)
                    have hla87 := hla (serM M kk.toNat 0).toNat (by omega)
                    refine zkV (pc := 187) (zrV (As := [.int (iI kk)]) hx hb hml hown hG hw (c_X9_addSeries_ l Γ KL177 XL177 RL177 md kk (ρL) M (by (first | assumption | omega)) (by (first | assumption | omega)) (by (first | assumption | omega)) (by (first | assumption | omega))) (T := TX9) hmdL rfl cb_X9_addSeries_ wl_X9_357 rfl ⟨Nat.le_of_ble_eq_true rfl, Nat.le_of_ble_eq_true rfl⟩ hl.1 rfl (Nat.le_of_ble_eq_true rfl) dX9_digest_187 ⟨(by show cz + 20 ≤ 200; omega), (by show sz + (seC RL177 md M kk.toNat) ≤ (plE X Rf md + pnE Rf md M); omega)⟩) hw (fun K187 X187 R187 H locs hp187 hw => ?_)
                    obtain ⟨hv187, ⟨ρ187, hR187, hg187⟩, hs187, hd187, hp187⟩ := hp187
                    obtain ⟨hmd187, hlm187⟩ := id hR187.1
                    refine ziinc (pc := 190) (lv' := [(1, .int (iI (kk + 1))), (0, .ref md)]) hx hb 0 dX9_digest_190 hl rfl (by decide) rfl (fun ls hl => ?_)
                    obtain ⟨x190, ex190⟩ : ∃ zz : Int, zz = (kk + 1) := ⟨_, rfl⟩
                    rw [← ex190] at hl
                    refine lv_goto (pc := 193) (tgt := 177) hx hb dX9_digest_193 (by decide) ?_
                    exact ih177 x190 (ρ187) (cz + 20) (sz + (seC RL177 md M kk.toNat)) K187 X187 R187 _ _ (by omega) (by exact hR187) (by exact hls.trans hs187) (by exact hf9.trans hg187) (by intro p g; exact dl_0 hs187 (hla p g)) (by intro n g; by_cases w : (n : Int) < kk; exact dn_0 hs187 (hna n w); (rw [show n = kk.toNat by omega]; exact hd187)) (by rw [ex190, dgL_s hi.1, hv187, hv]) (by omega) (by omega) hw _ (lv_sub hl [0, 1] rfl)
              exact lp177 _ 0 (ρL) cz sz KL70 X172 RL70 _ _ (by omega) (by exact hR172) (by exact hls.trans hs172) (by exact hf9.trans hg172) (by intro p g; exact dl_0 hs172 (hla p (by omega))) (by intro n g; omega) (by rw [h36_172, hv, show kk = M 40 5 by omega, dgL_to (f := dgPl M) (c := (M 40 5).toNat) (n := 6) (fun k w hk => by unfold dgPl; rw [if_neg (by omega)]) (by omega)]; first | rfl | (rw [h16L2]; rfl)) (by have h9 := pn_mono (M := M) (hls.trans hs172); omega) (Nat.lt_succ_self _) hw _ (lv_sub hl [0, 1] rfl)
            · skip
              refine lv_aload_n (pc := 78) hx hb dX9_digest_78 rfl (lv_at hl 1 rfl) ?_
              refine lv_aload_n (pc := 79) hx hb dX9_digest_79 rfl (lv_at hl 1 rfl) ?_
              refine lv_iload_n (pc := 80) hx hb dX9_digest_80 rfl (lv_at hl 0 rfl) ?_
              refine zldcw (pc := 81) (n := 52596000) hx hb hown hG wk_X9_351 dX9_digest_81 ?_
              have hdlk := dl_le (X := XL70) (Rf := RL70) (md := md) (p := kk.toNat) (by omega)
              have hcd84 : cdPlM M kk 52596000 = 0 := by unfold cdPlM; rw [if_pos ⟨by omega, by omega, by omega⟩]
              refine zkI (pc := 84) (zrV (As := [.int (iI kk), .int (iI 52596000)]) hx hb hml hown hG hw (c_X9_savingAt l Γ KL70 XL70 RL70 md kk 52596000 (ρL) M (by (first | assumption | omega)) (by (first | assumption | omega)) (by (first | assumption | omega))) (T := TX9) hmdL rfl cb_X9_savingAt wl_X9_352 rfl ⟨Nat.le_of_ble_eq_true rfl, Nat.le_of_ble_eq_true rfl⟩ hl.1 rfl (Nat.le_of_ble_eq_true rfl) dX9_digest_84 ⟨(by show cz + (min 5 (dlC XL70 RL70 md kk.toNat)) ≤ 200; omega), (by show sz + (dlC XL70 RL70 md kk.toNat) ≤ (plE X Rf md + pnE Rf md M); omega)⟩) hw (fun r84 K84 X84 R84 H locs hp84 hw => ?_)
              obtain ⟨hv84, hz84, ⟨ρ84, hR84, hg84⟩, hs84, h36s84, hd84⟩ := hp84
              obtain ⟨hmd84, hlm84⟩ := id hR84.1
              have hv84b := hv84 hcd84
              have hd84b := hd84 hcd84
              refine zkVx (pc := 87) (zrV (As := [.int (iI r84)]) hx hb hml hown hG hw (c_X9_add l Γ K84 X84 R84 md r84  (by (first | assumption | omega))) (T := TX9) hmd84 rfl cb_X9_add wl_X9_342 rfl ⟨Nat.le_of_ble_eq_true rfl, Nat.le_of_ble_eq_true rfl⟩ hl.1 rfl (Nat.le_of_ble_eq_true rfl) dX9_digest_87 ⟨(by show cz + (min 5 (dlC XL70 RL70 md kk.toNat)) + 0 ≤ 200; omega), (by show sz + (dlC XL70 RL70 md kk.toNat) + 0 ≤ (plE X Rf md + pnE Rf md M); omega)⟩) hw (fun X87 H locs hp87 hw => ?_)
              have eX87 := hp87
              have hR87 : repR ρ84 K84 X87 R84 md M := by rw [eX87]; exact hR84.own ⟨rfl, by decide⟩
              have hs87 : lsR X84 R84 X87 R84 md := by rw [eX87]; exact lsR_own hR84
              have hg87 : frR ρ84 K84 X84 R84 ρ84 K84 X87 R84 := by rw [eX87]; exact frR_own hR84
              have h36_87 := congrFun (congrFun eX87 md) 36
              rw [up2_s] at h36_87
              have hn87 : ∀ b, b ≠ md → X87 b = X84 b := fun b hb => by rw [eX87]; exact up2_o hb
              have hd87 := dl_0 hs87 hd84b
              refine lv_aload_n (pc := 90) hx hb dX9_digest_90 rfl (lv_at hl 1 rfl) ?_
              refine lv_aload_n (pc := 91) hx hb dX9_digest_91 rfl (lv_at hl 1 rfl) ?_
              refine lv_iload_n (pc := 92) hx hb dX9_digest_92 rfl (lv_at hl 0 rfl) ?_
              refine zldcw (pc := 93) (n := 52596000) hx hb hown hG wk_X9_351 dX9_digest_93 ?_
              refine zkI (pc := 96) (zrV (As := [.int (iI kk), .int (iI 52596000)]) hx hb hml hown hG hw (c_X9_local l Γ K84 X87 R84 md kk 52596000 (ρ84) M (by (first | assumption | omega)) (by (first | assumption | omega)) (by (first | assumption | omega)) (by (first | assumption | omega))) (T := TX9) hmd84 rfl cb_X9_local wl_X9_198 rfl ⟨Nat.le_of_ble_eq_true rfl, Nat.le_of_ble_eq_true rfl⟩ hl.1 rfl (Nat.le_of_ble_eq_true rfl) dX9_digest_96 ⟨(by show cz + (min 5 (dlC XL70 RL70 md kk.toNat)) + (min 5 (dlC X87 R84 md kk.toNat)) ≤ 200; omega), (by show sz + (dlC XL70 RL70 md kk.toNat) + (dlC X87 R84 md kk.toNat) ≤ (plE X Rf md + pnE Rf md M); omega)⟩) hw (fun r96 K96 X96 R96 H locs hp96 hw => ?_)
              obtain ⟨hv96, ρ96, ⟨hR96, hg96, hz96⟩, ⟨hs96, hd96⟩, hy96⟩ := hp96
              obtain ⟨hmd96, hlm96⟩ := id hR96.1
              have hz36_96 := hz96 36 (Or.inr rfl)
              refine zkVx (pc := 99) (zrV (As := [.int (iI r96)]) hx hb hml hown hG hw (c_X9_add l Γ K96 X96 R96 md r96  (by (first | assumption | omega))) (T := TX9) hmd96 rfl cb_X9_add wl_X9_342 rfl ⟨Nat.le_of_ble_eq_true rfl, Nat.le_of_ble_eq_true rfl⟩ hl.1 rfl (Nat.le_of_ble_eq_true rfl) dX9_digest_99 ⟨(by show cz + (min 5 (dlC XL70 RL70 md kk.toNat)) + (min 5 (dlC X87 R84 md kk.toNat)) + 0 ≤ 200; omega), (by show sz + (dlC XL70 RL70 md kk.toNat) + (dlC X87 R84 md kk.toNat) + 0 ≤ (plE X Rf md + pnE Rf md M); omega)⟩) hw (fun X99 H locs hp99 hw => ?_)
              have eX99 := hp99
              have hR99 : repR ρ96 K96 X99 R96 md M := by rw [eX99]; exact hR96.own ⟨rfl, by decide⟩
              have hs99 : lsR X96 R96 X99 R96 md := by rw [eX99]; exact lsR_own hR96
              have hg99 : frR ρ96 K96 X96 R96 ρ96 K96 X99 R96 := by rw [eX99]; exact frR_own hR96
              have h36_99 := congrFun (congrFun eX99 md) 36
              rw [up2_s] at h36_99
              have hn99 : ∀ b, b ≠ md → X99 b = X96 b := fun b hb => by rw [eX99]; exact up2_o hb
              have hd99 := dl_0 hs99 hd96
              refine lv_aload_n (pc := 102) hx hb dX9_digest_102 rfl (lv_at hl 1 rfl) ?_
              refine lv_aload_n (pc := 103) hx hb dX9_digest_103 rfl (lv_at hl 1 rfl) ?_
              refine lv_iload_n (pc := 104) hx hb dX9_digest_104 rfl (lv_at hl 0 rfl) ?_
              refine zldcw (pc := 105) (n := 52596000) hx hb hown hG wk_X9_351 dX9_digest_105 ?_
              refine zkI (pc := 108) (zrV (As := [.int (iI kk), .int (iI 52596000)]) hx hb hml hown hG hw (c_X9_changeBehind l Γ K96 X99 R96 md kk 52596000 (ρ96) M (by (first | assumption | omega)) (by (first | assumption | omega)) (by (first | assumption | omega)) (by (first | assumption | omega))) (T := TX9) hmd96 rfl cb_X9_changeBehind wl_X9_201 rfl ⟨Nat.le_of_ble_eq_true rfl, Nat.le_of_ble_eq_true rfl⟩ hl.1 rfl (Nat.le_of_ble_eq_true rfl) dX9_digest_108 ⟨(by show cz + (min 5 (dlC XL70 RL70 md kk.toNat)) + (min 5 (dlC X87 R84 md kk.toNat)) + (min 5 (dlC X99 R96 md kk.toNat)) ≤ 200; omega), (by show sz + (dlC XL70 RL70 md kk.toNat) + (dlC X87 R84 md kk.toNat) + (dlC X99 R96 md kk.toNat) ≤ (plE X Rf md + pnE Rf md M); omega)⟩) hw (fun r108 K108 X108 R108 H locs hp108 hw => ?_)
              obtain ⟨hv108, ρ108, ⟨hR108, hg108, hz108⟩, ⟨hs108, hd108⟩, hy108⟩ := hp108
              obtain ⟨hmd108, hlm108⟩ := id hR108.1
              have hz36_108 := hz108 36 (Or.inr rfl)
              refine zkVx (pc := 111) (zrV (As := [.int (iI r108)]) hx hb hml hown hG hw (c_X9_add l Γ K108 X108 R108 md r108  (by (first | assumption | omega))) (T := TX9) hmd108 rfl cb_X9_add wl_X9_342 rfl ⟨Nat.le_of_ble_eq_true rfl, Nat.le_of_ble_eq_true rfl⟩ hl.1 rfl (Nat.le_of_ble_eq_true rfl) dX9_digest_111 ⟨(by show cz + (min 5 (dlC XL70 RL70 md kk.toNat)) + (min 5 (dlC X87 R84 md kk.toNat)) + (min 5 (dlC X99 R96 md kk.toNat)) + 0 ≤ 200; omega), (by show sz + (dlC XL70 RL70 md kk.toNat) + (dlC X87 R84 md kk.toNat) + (dlC X99 R96 md kk.toNat) + 0 ≤ (plE X Rf md + pnE Rf md M); omega)⟩) hw (fun X111 H locs hp111 hw => ?_)
              have eX111 := hp111
              have hR111 : repR ρ108 K108 X111 R108 md M := by rw [eX111]; exact hR108.own ⟨rfl, by decide⟩
              have hs111 : lsR X108 R108 X111 R108 md := by rw [eX111]; exact lsR_own hR108
              have hg111 : frR ρ108 K108 X108 R108 ρ108 K108 X111 R108 := by rw [eX111]; exact frR_own hR108
              have h36_111 := congrFun (congrFun eX111 md) 36
              rw [up2_s] at h36_111
              have hn111 : ∀ b, b ≠ md → X111 b = X108 b := fun b hb => by rw [eX111]; exact up2_o hb
              have hd111 := dl_0 hs111 hd108
              refine lv_aload_n (pc := 114) hx hb dX9_digest_114 rfl (lv_at hl 1 rfl) ?_
              refine lv_iload_n (pc := 115) hx hb dX9_digest_115 rfl (lv_at hl 0 rfl) ?_
              refine zldc2 (pc := 116) (n := 52740120) hx hb hown hG wk_X9_355 dX9_digest_116 ?_
              refine zkV (pc := 119) (zrV (As := [.int (iI kk), .long (lJ 52740120)]) hx hb hml hown hG hw (c_X9_find l Γ K108 X111 R108 md kk 52740120 (ρ108) M (by (first | assumption | omega)) (by (first | assumption | omega)) (by (first | assumption | omega)) (by (first | assumption | omega))) (T := TX9) hmd108 rfl cb_X9_find wl_X9_221 rfl ⟨Nat.le_of_ble_eq_true rfl, Nat.le_of_ble_eq_true rfl⟩ hl.1 rfl (Nat.le_of_ble_eq_true rfl) dX9_digest_119 ⟨(by show cz + (min 5 (dlC XL70 RL70 md kk.toNat)) + (min 5 (dlC X87 R84 md kk.toNat)) + (min 5 (dlC X99 R96 md kk.toNat)) + (min 5 (dlC X111 R108 md kk.toNat)) ≤ 200; omega), (by show sz + (dlC XL70 RL70 md kk.toNat) + (dlC X87 R84 md kk.toNat) + (dlC X99 R96 md kk.toNat) + (dlC X111 R108 md kk.toNat) ≤ (plE X Rf md + pnE Rf md M); omega)⟩) hw (fun K119 X119 R119 H locs hp119 hw => ?_)
              obtain ⟨⟨v12, v13, v14, v15⟩, ρ119, ⟨hR119, hg119, hz119⟩, ⟨hs119, hd119⟩, hy119⟩ := hp119
              obtain ⟨hmd119, hlm119⟩ := id hR119.1
              have hz36_119 := hz119 36 (Or.inr rfl)
              refine lv_aload_n (pc := 122) hx hb dX9_digest_122 rfl (lv_at hl 1 rfl) ?_
              refine lv_aload_n (pc := 123) hx hb dX9_digest_123 rfl (lv_at hl 1 rfl) ?_
              refine zgetI (pc := 124) hx hb hG hown hw hmd119 (T := TX9) rfl 14 (by decide) rfl wf_X9_210 rfl dX9_digest_124 ?_
              refine zkVx (pc := 127) (zrV (As := [.int (iI (X119 md 14))]) hx hb hml hown hG hw (c_X9_add l Γ K119 X119 R119 md (X119 md 14)  (by (first | assumption | omega))) (T := TX9) hmd119 rfl cb_X9_add wl_X9_342 rfl ⟨Nat.le_of_ble_eq_true rfl, Nat.le_of_ble_eq_true rfl⟩ hl.1 rfl (Nat.le_of_ble_eq_true rfl) dX9_digest_127 ⟨(by show cz + (min 5 (dlC XL70 RL70 md kk.toNat)) + (min 5 (dlC X87 R84 md kk.toNat)) + (min 5 (dlC X99 R96 md kk.toNat)) + (min 5 (dlC X111 R108 md kk.toNat)) + 0 ≤ 200; omega), (by show sz + (dlC XL70 RL70 md kk.toNat) + (dlC X87 R84 md kk.toNat) + (dlC X99 R96 md kk.toNat) + (dlC X111 R108 md kk.toNat) + 0 ≤ (plE X Rf md + pnE Rf md M); omega)⟩) hw (fun X127 H locs hp127 hw => ?_)
              have eX127 := hp127
              have hR127 : repR ρ119 K119 X127 R119 md M := by rw [eX127]; exact hR119.own ⟨rfl, by decide⟩
              have hs127 : lsR X119 R119 X127 R119 md := by rw [eX127]; exact lsR_own hR119
              have hg127 : frR ρ119 K119 X119 R119 ρ119 K119 X127 R119 := by rw [eX127]; exact frR_own hR119
              have h36_127 := congrFun (congrFun eX127 md) 36
              rw [up2_s] at h36_127
              have hn127 : ∀ b, b ≠ md → X127 b = X119 b := fun b hb => by rw [eX127]; exact up2_o hb
              have hsf : -1 ≤ shF (savM M kk.toNat) (M 6 kk.toNat) 52740120 ∧ shF (savM M kk.toNat) (M 6 kk.toNat) 52740120 < 105190560 := by have h9 := fP_rng (p := shw (savM M kk.toNat) (M 6 kk.toNat) 52740120) (a := 0) (b := 105190560) (by omega) (by omega); exact h9
              have hq14 := v14
              have w12 : X127 md 12 = shF (savM M kk.toNat) (M 6 kk.toNat) 52740120 := by rw [eX127, up2_k (by decide)]; exact v12
              have w15 : X127 md 15 = psF (savM M kk.toNat) (M 6 kk.toNat) 52740120 := by rw [eX127, up2_k (by decide)]; exact v15
              have w13 : X127 md 13 = shL (savM M kk.toNat) (M 6 kk.toNat) 52740120 := by rw [eX127, up2_k (by decide)]; exact v13
              have hps := fP_rng (p := psg (savM M kk.toNat) (M 6 kk.toNat) 52740120) (a := 1) (b := 105190560) (by omega) (by omega)
              have hpsz : -1 ≤ psF (savM M kk.toNat) (M 6 kk.toNat) 52740120 ∧ psF (savM M kk.toNat) (M 6 kk.toNat) 52740120 < 105190560 := hps
              refine lv_aload_n (pc := 130) hx hb dX9_digest_130 rfl (lv_at hl 1 rfl) ?_
              have jn150_0 : ∀ (mf9 : Int) (H : Heap) (locs : List Loc), (hmf : mf9 = momF (savM M kk.toNat) (M 6 kk.toNat) 52740120) → Wd Γ (zA K s.heap.size) K119 X127 R119 s H locs → ∀ ls : Array Slot, lv_has ls 2 [(1, .int (iI kk)), (0, .ref md)] → W p l e (rmL 92 200 (plE X Rf md + pnE Rf md M)) s m ([.ref md] : List Value).toArray below meth c H locs (cz + (min 5 (dlC XL70 RL70 md kk.toNat)) + (min 5 (dlC X87 R84 md kk.toNat)) + (min 5 (dlC X99 R96 md kk.toNat)) + (min 5 (dlC X111 R108 md kk.toNat))) (sz + (dlC XL70 RL70 md kk.toNat) + (dlC X87 R84 md kk.toNat) + (dlC X99 R96 md kk.toNat) + (dlC X111 R108 md kk.toNat)) (MQ below (zQ Γ K s.heap.size (pL (fun (r : Int) (K' : zK) (X' : zX) (R' : zR) => r = dgM M ∧ X' md 0 = 0 ∧ (∃ ρ', repR ρ' K' X' R' md M ∧ frR ρ K X Rf ρ' K' X' R') ∧ lsR X Rf X' R' md ∧ ptR X' R' md + (plE X Rf md + pnE Rf md M) ≤ ptR X Rf md))) ([.ref md] : List Value).toArray s 200 (plE X Rf md + pnE Rf md M) (zA K s.heap.size)) (F0 m 150 ls [.int (iI mf9), .ref md]) := by
                intro mf9 H locs hmf hw ls hl
                refine zkVx (pc := 150) (zrV (As := [.int (iI mf9)]) hx hb hml hown hG hw (c_X9_add l Γ K119 X127 R119 md mf9  (by (first | assumption | omega))) (T := TX9) hmd119 rfl cb_X9_add wl_X9_342 rfl ⟨Nat.le_of_ble_eq_true rfl, Nat.le_of_ble_eq_true rfl⟩ hl.1 rfl (Nat.le_of_ble_eq_true rfl) dX9_digest_150 ⟨(by show cz + (min 5 (dlC XL70 RL70 md kk.toNat)) + (min 5 (dlC X87 R84 md kk.toNat)) + (min 5 (dlC X99 R96 md kk.toNat)) + (min 5 (dlC X111 R108 md kk.toNat)) + 0 ≤ 200; omega), (by show sz + (dlC XL70 RL70 md kk.toNat) + (dlC X87 R84 md kk.toNat) + (dlC X99 R96 md kk.toNat) + (dlC X111 R108 md kk.toNat) + 0 ≤ (plE X Rf md + pnE Rf md M); omega)⟩) hw (fun X150 H locs hp150 hw => ?_)
                have eX150 := hp150
                have hR150 : repR ρ119 K119 X150 R119 md M := by rw [eX150]; exact hR127.own ⟨rfl, by decide⟩
                have hs150 : lsR X127 R119 X150 R119 md := by rw [eX150]; exact lsR_own hR127
                have hg150 : frR ρ119 K119 X127 R119 ρ119 K119 X150 R119 := by rw [eX150]; exact frR_own hR127
                have h36_150 := congrFun (congrFun eX150 md) 36
                rw [up2_s] at h36_150
                have hn150 : ∀ b, b ≠ md → X150 b = X127 b := fun b hb => by rw [eX150]; exact up2_o hb
                have hq13 : X150 md 13 = shL (savM M kk.toNat) (M 6 kk.toNat) 52740120 := by rw [eX150, up2_k (by decide)]; exact w13
                refine lv_aload_n (pc := 153) hx hb dX9_digest_153 rfl (lv_at hl 1 rfl) ?_
                refine lv_aload_n (pc := 154) hx hb dX9_digest_154 rfl (lv_at hl 1 rfl) ?_
                refine zgetI (pc := 155) hx hb hG hown hw hmd119 (T := TX9) rfl 13 (by decide) rfl wf_X9_207 rfl dX9_digest_155 ?_
                refine zkVx (pc := 158) (zrV (As := [.int (iI (X150 md 13))]) hx hb hml hown hG hw (c_X9_add l Γ K119 X150 R119 md (X150 md 13)  (by (first | assumption | omega))) (T := TX9) hmd119 rfl cb_X9_add wl_X9_342 rfl ⟨Nat.le_of_ble_eq_true rfl, Nat.le_of_ble_eq_true rfl⟩ hl.1 rfl (Nat.le_of_ble_eq_true rfl) dX9_digest_158 ⟨(by show cz + (min 5 (dlC XL70 RL70 md kk.toNat)) + (min 5 (dlC X87 R84 md kk.toNat)) + (min 5 (dlC X99 R96 md kk.toNat)) + (min 5 (dlC X111 R108 md kk.toNat)) + 0 ≤ 200; omega), (by show sz + (dlC XL70 RL70 md kk.toNat) + (dlC X87 R84 md kk.toNat) + (dlC X99 R96 md kk.toNat) + (dlC X111 R108 md kk.toNat) + 0 ≤ (plE X Rf md + pnE Rf md M); omega)⟩) hw (fun X158 H locs hp158 hw => ?_)
                have eX158 := hp158
                have hR158 : repR ρ119 K119 X158 R119 md M := by rw [eX158]; exact hR150.own ⟨rfl, by decide⟩
                have hs158 : lsR X150 R119 X158 R119 md := by rw [eX158]; exact lsR_own hR150
                have hg158 : frR ρ119 K119 X150 R119 ρ119 K119 X158 R119 := by rw [eX158]; exact frR_own hR150
                have h36_158 := congrFun (congrFun eX158 md) 36
                rw [up2_s] at h36_158
                have hn158 : ∀ b, b ≠ md → X158 b = X150 b := fun b hb => by rw [eX158]; exact up2_o hb
                have hs84Z : lsR X84 R84 X158 R119 md := ((((((hs87.trans hs96).trans hs99).trans hs108).trans hs111).trans hs119).trans hs127).trans (hs150.trans hs158)
                have hsZ : lsR XL70 RL70 X158 R119 md := hs84.trans hs84Z
                have hgZ : frR ρL KL70 XL70 RL70 ρ119 K119 X158 R119 := ((((((((hg84.trans hg87).trans hg96).trans hg99).trans hg108).trans hg111).trans hg119).trans hg127).trans hg150).trans hg158
                refine ziinc (pc := 161) (lv' := [(1, .int (iI (kk + 1))), (0, .ref md)]) hx hb 0 dX9_digest_161 hl rfl (by decide) rfl (fun ls hl => ?_)
                obtain ⟨x161, ex161⟩ : ∃ zz : Int, zz = (kk + 1) := ⟨_, rfl⟩
                rw [← ex161] at hl
                refine lv_goto (pc := 164) (tgt := 70) hx hb dX9_digest_164 (by decide) ?_
                exact ih70 x161 (ρ119) (cz + (min 5 (dlC XL70 RL70 md kk.toNat)) + (min 5 (dlC X87 R84 md kk.toNat)) + (min 5 (dlC X99 R96 md kk.toNat)) + (min 5 (dlC X111 R108 md kk.toNat))) (sz + (dlC XL70 RL70 md kk.toNat) + (dlC X87 R84 md kk.toNat) + (dlC X99 R96 md kk.toNat) + (dlC X111 R108 md kk.toNat)) K119 X158 R119 _ _ (by omega) (by exact hR158) (by exact hls.trans hsZ) (by exact hf9.trans hgZ) (by intro p g; by_cases w : (p : Int) < kk; exact dl_0 hsZ (hla p w); (rw [show p = kk.toNat by omega]; exact dl_0 hs84Z hd84b)) (by rw [ex161, dgL_s hi.1, h36_158, h36_150, h36_127, hz36_119, h36_111, hz36_108, h36_99, hz36_96, h36_87, h36s84, hv]; unfold dgPl; rw [if_pos (by omega), hq14, hmf, hq13, hv108, hv96, hv84b]) (by have h9 := pl_dec hs84 (by omega) hd84b; have h8 := pl_mono hs84Z; omega) (by omega) hw _ (lv_sub hl [0, 1] rfl)
              refine lv_aload_n (pc := 131) hx hb dX9_digest_131 rfl (lv_at hl 1 rfl) ?_
              refine zgetI (pc := 132) hx hb hG hown hw hmd119 (T := TX9) rfl 12 (by decide) rfl wf_X9_204 rfl dX9_digest_132 ?_
              refine ziconst (pc := 135) (n := (-1)) hx hb dX9_digest_135 ?_
              refine zicmp_eq (pc := 136) hx hb 146 (by omega) (by omega) dX9_digest_136 (by decide) (fun c136 => ?_) (fun c136 => ?_)
              · skip
                refine lv_aload_n (pc := 146) hx hb dX9_digest_146 rfl (lv_at hl 1 rfl) ?_
                refine zgetI (pc := 147) hx hb hG hown hw hmd119 (T := TX9) rfl 15 (by decide) rfl wf_X9_213 rfl dX9_digest_147 ?_
                exact jn150_0 (X127 md 15) _ _ (by unfold momF; first | (rw [if_pos (by omega)]; omega) | (rw [if_neg (by omega)]; omega)) hw _ (lv_sub hl [0, 1] rfl)
              · skip
                refine lv_aload_n (pc := 139) hx hb dX9_digest_139 rfl (lv_at hl 1 rfl) ?_
                refine zgetI (pc := 140) hx hb hG hown hw hmd119 (T := TX9) rfl 12 (by decide) rfl wf_X9_204 rfl dX9_digest_140 ?_
                refine lv_goto (pc := 143) (tgt := 150) hx hb dX9_digest_143 (by decide) ?_
                exact jn150_0 (X127 md 12) _ _ (by unfold momF; first | (rw [if_pos (by omega)]; omega) | (rw [if_neg (by omega)]; omega)) hw _ (lv_sub hl [0, 1] rfl)
        exact lp70 _ 0 (ρ) 0 0 K X65 Rf _ _ (by omega) (by exact hR65) (by exact hls.trans hs65) (by exact hf9.trans hg65) (by intro p g; omega) (by rw [h36_65, hv, show kk = M 40 1 by omega, dgL_to (f := dgPa M) (c := (M 40 1).toNat) (n := 24) (fun k w hk => by unfold dgPa; rw [if_neg (by omega)]) (by omega)]; first | rfl | (rw [h5L2]; rfl)) (by have h9 := pl_mono (hls.trans hs65); omega) (Nat.lt_succ_self _) hw _ (lv_sub hl [0, 1] rfl)
      · skip
        refine lv_aload_n (pc := 30) hx hb dX9_digest_30 rfl (lv_at hl 1 rfl) ?_
        refine lv_aload_n (pc := 31) hx hb dX9_digest_31 rfl (lv_at hl 1 rfl) ?_
        refine lv_iload_n (pc := 32) hx hb dX9_digest_32 rfl (lv_at hl 0 rfl) ?_
        refine zsipush (pc := 33) (n := 2000) hx hb dX9_digest_33 rfl ?_
        have hcd36 : cdPatY M kk 2000 = 0 := by unfold cdPatY; rw [if_pos ⟨by omega, by omega⟩, if_pos ⟨by omega, by omega⟩]
        refine zkIx (pc := 36) (zrV (As := [.int (iI kk), .int (iI 2000)]) hx hb hml hown hG hw (c_X9_daysTold l Γ K XL22 Rf md kk 2000 (ρ) M (by (first | assumption | omega)) (by (first | assumption | omega)) (by (first | assumption | omega))) (T := TX9) hmd rfl cb_X9_daysTold wl_X9_347 rfl ⟨Nat.le_of_ble_eq_true rfl, Nat.le_of_ble_eq_true rfl⟩ hl.1 rfl (Nat.le_of_ble_eq_true rfl) dX9_digest_36 ⟨Nat.zero_le _, Nat.zero_le _⟩) hw (fun r36 X36 H locs hp36 hw => ?_)
        obtain ⟨hv36, eX36⟩ := hp36
        have hv36b := hv36 hcd36
        have hR36 : repR ρ K X36 Rf md M := by rw [eX36]; exact hR9.own ⟨rfl, by decide⟩
        have hs36 : lsR XL22 Rf X36 Rf md := by rw [eX36]; exact lsR_own hR9
        have hg36 : frR ρ K XL22 Rf ρ K X36 Rf := by rw [eX36]; exact frR_own hR9
        refine zkVx (pc := 39) (zrV (As := [.int (iI r36)]) hx hb hml hown hG hw (c_X9_add l Γ K X36 Rf md r36  (by (first | assumption | omega))) (T := TX9) hmd rfl cb_X9_add wl_X9_342 rfl ⟨Nat.le_of_ble_eq_true rfl, Nat.le_of_ble_eq_true rfl⟩ hl.1 rfl (Nat.le_of_ble_eq_true rfl) dX9_digest_39 ⟨Nat.zero_le _, Nat.zero_le _⟩) hw (fun X39 H locs hp39 hw => ?_)
        have eX39 := hp39
        have hR39 : repR ρ K X39 Rf md M := by rw [eX39]; exact hR36.own ⟨rfl, by decide⟩
        have hs39 : lsR X36 Rf X39 Rf md := by rw [eX39]; exact lsR_own hR36
        have hg39 : frR ρ K X36 Rf ρ K X39 Rf := by rw [eX39]; exact frR_own hR36
        have h36_39 := congrFun (congrFun eX39 md) 36
        rw [up2_s] at h36_39
        have hn39 : ∀ b, b ≠ md → X39 b = X36 b := fun b hb => by rw [eX39]; exact up2_o hb
        have hpf : pfX X39 a2 a3 a4 kk.toNat = patM M kk.toNat := pfX_M (by rw [hn39 a2 hN2, eX36, up2_o hN2, ho a2 hN2]; exact hD2) (by rw [hn39 a3 hN3, eX36, up2_o hN3, ho a3 hN3]; exact hD3) (by rw [hn39 a4 hN4, eX36, up2_o hN4, ho a4 hN4]; exact hD4)
        have hP9 : okP2 (pfX X39 a2 a3 a4 kk.toNat) := by rw [hpf]; exact hokP kk.toNat (by omega)
        refine lv_aload_n (pc := 42) hx hb dX9_digest_42 rfl (lv_at hl 1 rfl) ?_
        refine lv_aload_n (pc := 43) hx hb dX9_digest_43 rfl (lv_at hl 1 rfl) ?_
        refine lv_iload_n (pc := 44) hx hb dX9_digest_44 rfl (lv_at hl 0 rfl) ?_
        refine zldcw (pc := 45) (n := 36600) hx hb hown hG wk_X9_350 dX9_digest_45 ?_
        refine zkIp (pc := 48) (zrV (As := [.int (iI kk), .int (iI 36600)]) hx hb hml hown hG hw (c_X9_nextOf l Γ K X39 Rf md kk 36600 a2 a3 a4 (by (first | assumption | omega)) (by (first | assumption | omega)) (by (first | assumption | omega)) (by (first | assumption | omega)) (by (first | assumption | omega)) (by (first | assumption | omega)) (by (first | assumption | omega)) (by (first | assumption | omega)) (by (first | assumption | omega)) (by (first | assumption | omega))) (T := TX9) hmd rfl cb_X9_nextOf wl_X9_155 rfl ⟨Nat.le_of_ble_eq_true rfl, Nat.le_of_ble_eq_true rfl⟩ hl.1 rfl (Nat.le_of_ble_eq_true rfl) dX9_digest_48 ⟨Nat.zero_le _, Nat.zero_le _⟩) hw (fun r48 H locs hp48 hw => ?_)
        subst hp48
        have hp48f0 := nxT_rng (pfX X39 a2 a3 a4 kk.toNat) 36600 (2400 - mi 36600).toNat (mi 36600)
        refine zkVx (pc := 51) (zrV (As := [.int (iI (nextT (pfX X39 a2 a3 a4 kk.toNat) 36600))]) hx hb hml hown hG hw (c_X9_add l Γ K X39 Rf md (nextT (pfX X39 a2 a3 a4 kk.toNat) 36600)  (by (first | assumption | omega))) (T := TX9) hmd rfl cb_X9_add wl_X9_342 rfl ⟨Nat.le_of_ble_eq_true rfl, Nat.le_of_ble_eq_true rfl⟩ hl.1 rfl (Nat.le_of_ble_eq_true rfl) dX9_digest_51 ⟨Nat.zero_le _, Nat.zero_le _⟩) hw (fun X51 H locs hp51 hw => ?_)
        have eX51 := hp51
        have hR51 : repR ρ K X51 Rf md M := by rw [eX51]; exact hR39.own ⟨rfl, by decide⟩
        have hs51 : lsR X39 Rf X51 Rf md := by rw [eX51]; exact lsR_own hR39
        have hg51 : frR ρ K X39 Rf ρ K X51 Rf := by rw [eX51]; exact frR_own hR39
        have h36_51 := congrFun (congrFun eX51 md) 36
        rw [up2_s] at h36_51
        have hn51 : ∀ b, b ≠ md → X51 b = X39 b := fun b hb => by rw [eX51]; exact up2_o hb
        refine ziinc (pc := 54) (lv' := [(1, .int (iI (kk + 1))), (0, .ref md)]) hx hb 0 dX9_digest_54 hl rfl (by decide) rfl (fun ls hl => ?_)
        obtain ⟨x54, ex54⟩ : ∃ zz : Int, zz = (kk + 1) := ⟨_, rfl⟩
        rw [← ex54] at hl
        refine lv_goto (pc := 57) (tgt := 22) hx hb dX9_digest_57 (by decide) ?_
        exact ih22 x54 X51 _ _ (by omega) (by intro b hb; rw [hn51 b hb, hn39 b hb, eX36, up2_o hb]; exact ho b hb) (by exact hR51) (by exact ((hls.trans hs36).trans hs39).trans hs51) (by exact ((hf9.trans hg36).trans hg39).trans hg51) (by rw [ex54, dgL_s hi.1, h36_51, h36_39, show X36 md 36 = XL22 md 36 by rw [eX36]; exact up2_k (by decide), hv, hv36b, hpf]; unfold dgPa; rw [if_pos (by omega)]; first | done | rfl) (by omega) hw _ (lv_sub hl [0, 1] rfl)
  exact lp22 _ 0 X17 _ _ (by omega) (by intro b hb; rw [hn17 b hb, eX9, up2_o hb, eX2, up2_o hb]) (by exact hR17) (by exact (hls2.trans hls9).trans hs17) (by exact (hf2.trans hf99).trans hg17) (by rw [h36_17, show X9 md 36 = 2441 by rw [eX9]; exact up2_s]; first | rfl | (rw [h17v]; rfl)) (Nat.lt_succ_self _) hw _ (lv_sub hl [0, 1] rfl)
