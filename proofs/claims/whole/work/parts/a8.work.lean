set_option maxHeartbeats 4000000 in
set_option maxRecDepth 100000 in
theorem c_X9_localOfWork (l : Launch) (Γ : zG) (K : zK) (X : zX) (Rf : zR) (md : Nat) (mt : Int) (ρ : zL) (M : zM) (hR : repR ρ K X Rf md M) (hM : okM M) (h2 : 0 ≤ mt ∧ mt ≤ 105190559) : Ct l yX9_localOfWork cX9_localOfWork 2 (some .int) 88 (min 5 (dwC X Rf md M)) (dwC X Rf md M) Γ [.ref md, .int (iI mt)] K X Rf (pI (fun (r : Int) (K' : zK) (X' : zX) (R' : zR) => r = mt + cbsM M + csvM M mt ∧ ∃ ρ', (repR ρ' K' X' R' md M ∧ frR ρ K X Rf ρ' K' X' R' ∧ (∀ q, q = 0 ∨ q = 36 → X' md q = X md q)) ∧ (lsR X Rf X' R' md ∧ dwC X' R' md M = 0) ∧ ∀ a, (K a).1 ≠ 0 → 3000 ≤ ρ a → X' a = X a)) := by
  refine Ct.of (by decide +kernel) (Nat.le_of_ble_eq_true rfl) ?_
  intro p e s m below meth c ls hx hb hr hml hown hG hlocks hname hw hl
  have hl : lv_has ls 2 [(0, .ref md), (1, .int (iI mt))] := hl
  obtain ⟨hmd, hlmd⟩ := id hR.1
  obtain ⟨⟨hb1, hb2, hb3, hb4⟩, hokP, hokL, hokS, hokW, hokF⟩ := id hM
  have hq1 : X md 1 = M 40 1 := hR.2.1 1 rfl
  have hq5 : X md 5 = M 40 5 := hR.2.1 5 rfl
  have hq16 : X md 16 = M 40 16 := hR.2.1 16 rfl
  have hq25 : X md 25 = M 40 25 := hR.2.1 25 rfl
  have hq26 : X md 26 = M 40 26 := hR.2.1 26 rfl
  have hq27 : X md 27 = M 40 27 := hR.2.1 27 rfl
  have hq28 : X md 28 = M 40 28 := hR.2.1 28 rfl
  have hq29 : X md 29 = M 40 29 := hR.2.1 29 rfl
  have hW9 := hokW.1
  have hwd9 : M 40 25 ≠ -1 → dwC X Rf md M = dlC X Rf md (M 40 25).toNat := fun g => if_neg g
  have hwd0 : M 40 25 = -1 → dwC X Rf md M = 0 := fun g => if_pos g
  refine lv_aload_n (pc := 0) hx hb dX9_localOfWork_0 rfl (lv_at hl 0 rfl) ?_
  refine zgetI (pc := 1) hx hb hG hown hw hmd (T := TX9) rfl 25 (by decide) rfl wf_X9_57 rfl dX9_localOfWork_1 ?_
  refine ziconst (pc := 4) (n := (-1)) hx hb dX9_localOfWork_4 ?_
  rw [hq25]
  refine zicmp_ne (pc := 5) hx hb 12 (by omega) (by omega) dX9_localOfWork_5 (by decide) (fun c5 => ?_) (fun c5 => ?_)
  · skip
    refine lv_aload_n (pc := 12) hx hb dX9_localOfWork_12 rfl (lv_at hl 0 rfl) ?_
    refine lv_aload_n (pc := 13) hx hb dX9_localOfWork_13 rfl (lv_at hl 0 rfl) ?_
    refine zgetI (pc := 14) hx hb hG hown hw hmd (T := TX9) rfl 25 (by decide) rfl wf_X9_57 rfl dX9_localOfWork_14 ?_
    rw [hq25]
    refine lv_iload_n (pc := 17) hx hb dX9_localOfWork_17 rfl (lv_at hl 1 rfl) ?_
    have hwd8 := hwd9 c5
    refine zkI (pc := 18) (zrV (As := [.int (iI (M 40 25)), .int (iI mt)]) hx hb hml hown hG hw (c_X9_local l Γ K X Rf md (M 40 25) mt (ρ) M (by (first | assumption | omega)) (by (first | assumption | omega)) (by (first | assumption | omega)) (by (first | assumption | omega))) (T := TX9) hmd rfl cb_X9_local wl_X9_198 rfl ⟨Nat.le_of_ble_eq_true rfl, Nat.le_of_ble_eq_true rfl⟩ hl.1 rfl (Nat.le_of_ble_eq_true rfl) dX9_localOfWork_18 ⟨(by show 0 + (min 5 (dlC X Rf md (M 40 25).toNat)) ≤ (min 5 (dwC X Rf md M)); omega), (by show 0 + (dlC X Rf md (M 40 25).toNat) ≤ (dwC X Rf md M); omega)⟩) hw (fun r18 K18 X18 R18 H locs hp18 hw => ?_)
    obtain ⟨hv18, ρ18, ⟨hR18, hg18, hz18⟩, ⟨hs18, hd18⟩, hy18⟩ := hp18
    exact zretI (pc := 21) hx hb hlocks hr hw (by show 0 + (min 5 (dlC X Rf md (M 40 25).toNat)) ≤ (min 5 (dwC X Rf md M)); omega) (by show 0 + (dlC X Rf md (M 40 25).toNat) ≤ (dwC X Rf md M); omega) dX9_localOfWork_21 (by 
                                        first
                                        | (have hv : M 40 25 = -1 := c5
                                           exact ⟨by unfold cbsM csvM; rw [if_pos hv, if_pos hv]; omega, ρ, ⟨hR, frR_refl, fun _ _ => rfl⟩, ⟨lsR_refl, if_pos hv⟩, fun _ _ _ => rfl⟩)
                                        | exact ⟨by unfold cbsM csvM; rw [if_neg c5, if_neg c5]; exact hv18, ρ18, ⟨hR18, hg18, hz18⟩, ⟨hs18, by unfold dwC; rw [if_neg c5]; exact hd18⟩, hy18⟩)
  · skip
    refine lv_iload_n (pc := 8) hx hb dX9_localOfWork_8 rfl (lv_at hl 1 rfl) ?_
    refine lv_goto (pc := 9) (tgt := 21) hx hb dX9_localOfWork_9 (by decide) ?_
    exact zretI (pc := 21) hx hb hlocks hr hw (Nat.zero_le _) (Nat.zero_le _) dX9_localOfWork_21 (by 
                                        first
                                        | (have hv : M 40 25 = -1 := c5
                                           exact ⟨by unfold cbsM csvM; rw [if_pos hv, if_pos hv]; omega, ρ, ⟨hR, frR_refl, fun _ _ => rfl⟩, ⟨lsR_refl, if_pos hv⟩, fun _ _ _ => rfl⟩)
                                        | exact ⟨by unfold cbsM csvM; rw [if_neg c5, if_neg c5]; exact hv18, ρ18, ⟨hR18, hg18, hz18⟩, ⟨hs18, by unfold dwC; rw [if_neg c5]; exact hd18⟩, hy18⟩)
set_option maxHeartbeats 4000000 in
set_option maxRecDepth 100000 in
theorem c_X9_isWork (l : Launch) (Γ : zG) (K : zK) (X : zX) (Rf : zR) (md : Nat) (mt : Int) (ρ : zL) (M : zM) (hR : repR ρ K X Rf md M) (hM : okM M) (h2 : 0 ≤ mt ∧ mt ≤ 105190559) : Ct l yX9_isWork cX9_isWork 3 (some .boolean) 89 (min 5 (dwC X Rf md M)) (dwC X Rf md M) Γ [.ref md, .int (iI mt)] K X Rf (pI (fun (r : Int) (K' : zK) (X' : zX) (R' : zR) => r = bI (wkmM M mt) ∧ ∃ ρ', (repR ρ' K' X' R' md M ∧ frR ρ K X Rf ρ' K' X' R' ∧ (∀ q, q = 0 ∨ q = 36 → X' md q = X md q)) ∧ (lsR X Rf X' R' md ∧ dwC X' R' md M = 0) ∧ ∀ a, (K a).1 ≠ 0 → 3000 ≤ ρ a → X' a = X a)) := by
  refine Ct.of (by decide +kernel) (Nat.le_of_ble_eq_true rfl) ?_
  intro p e s m below meth c ls hx hb hr hml hown hG hlocks hname hw hl
  have hl : lv_has ls 3 [(0, .ref md), (1, .int (iI mt))] := hl
  obtain ⟨hmd, hlmd⟩ := id hR.1
  obtain ⟨⟨hb1, hb2, hb3, hb4⟩, hokP, hokL, hokS, hokW, hokF⟩ := id hM
  have hq1 : X md 1 = M 40 1 := hR.2.1 1 rfl
  have hq5 : X md 5 = M 40 5 := hR.2.1 5 rfl
  have hq16 : X md 16 = M 40 16 := hR.2.1 16 rfl
  have hq25 : X md 25 = M 40 25 := hR.2.1 25 rfl
  have hq26 : X md 26 = M 40 26 := hR.2.1 26 rfl
  have hq27 : X md 27 = M 40 27 := hR.2.1 27 rfl
  have hq28 : X md 28 = M 40 28 := hR.2.1 28 rfl
  have hq29 : X md 29 = M 40 29 := hR.2.1 29 rfl
  have hW9 := hokW.1
  have hwd9 : M 40 25 ≠ -1 → dwC X Rf md M = dlC X Rf md (M 40 25).toNat := fun g => if_neg g
  have hwd0 : M 40 25 = -1 → dwC X Rf md M = 0 := fun g => if_pos g
  have hcs : (-840 ≤ cbsM M ∧ cbsM M ≤ 840) ∧ 0 ≤ csvM M mt ∧ csvM M mt ≤ 180 := by
    unfold cbsM csvM
    by_cases g : M 40 25 = -1
    · rw [if_pos g, if_pos g]; omega
    · rw [if_neg g, if_neg g]
      have hb := (hokL (M 40 25).toNat (by omega)).1
      rw [savM_hp]
      have he := evSv_rng hM (p := (M 40 25).toNat) (by omega) (hpM_spec (M := M) (p := (M 40 25).toNat) mt).1
      omega
  refine lv_aload_n (pc := 0) hx hb dX9_isWork_0 rfl (lv_at hl 0 rfl) ?_
  refine lv_iload_n (pc := 1) hx hb dX9_isWork_1 rfl (lv_at hl 1 rfl) ?_
  refine zkI (pc := 2) (zrV (As := [.int (iI mt)]) hx hb hml hown hG hw (c_X9_localOfWork l Γ K X Rf md mt (ρ) M (by (first | assumption | omega)) (by (first | assumption | omega)) (by (first | assumption | omega))) (T := TX9) hmd rfl cb_X9_localOfWork wl_X9_322 rfl ⟨Nat.le_of_ble_eq_true rfl, Nat.le_of_ble_eq_true rfl⟩ hl.1 rfl (Nat.le_of_ble_eq_true rfl) dX9_isWork_2 ⟨(by show 0 + (min 5 (dwC X Rf md M)) ≤ (min 5 (dwC X Rf md M)); omega), (by show 0 + (dwC X Rf md M) ≤ (dwC X Rf md M); omega)⟩) hw (fun r2 K2 X2 R2 H locs hp2 hw => ?_)
  obtain ⟨hv2, ρ2, ⟨hR2, hg2, hz2⟩, ⟨hs2, hd2⟩, hy2⟩ := hp2
  obtain ⟨hmd2, hlm2⟩ := id hR2.1
  have h27 : X2 md 27 = M 40 27 := hR2.2.1 27 rfl
  have h28 : X2 md 28 = M 40 28 := hR2.2.1 28 rfl
  refine lv_istore_n (pc := 5) (lv' := [(2, .int (iI r2)), (0, .ref md), (1, .int (iI mt))]) hx hb dX9_isWork_5 rfl hl (by decide) rfl (fun ls hl => ?_)
  refine lv_iload_n (pc := 6) hx hb dX9_isWork_6 rfl (lv_at hl 0 rfl) ?_
  refine zif_lt (pc := 7) hx hb 16 (by omega) dX9_isWork_7 (by decide) (fun c7 => ?_) (fun c7 => ?_)
  · skip
    refine ziconst (pc := 16) (n := 0) hx hb dX9_isWork_16 ?_
    exact zretZ (pc := 17) hx hb hlocks hr (Or.inl rfl) hw (by show 0 + (min 5 (dwC X Rf md M)) ≤ (min 5 (dwC X Rf md M)); omega) (by show 0 + (dwC X Rf md M) ≤ (dwC X Rf md M); omega) dX9_isWork_17 (by exact ⟨by rw [wkm_0 hv2 (fun g => by have h9 := g.1; omega)], ρ2, ⟨hR2, hg2, hz2⟩, ⟨hs2, hd2⟩, hy2⟩)
  · skip
    refine lv_iload_n (pc := 10) hx hb dX9_isWork_10 rfl (lv_at hl 0 rfl) ?_
    refine zldc (pc := 11) (n := 105190559) hx hb hown hG wk_X9_95 dX9_isWork_11 ?_
    refine zicmp_le (pc := 13) hx hb 18 (by omega) (by omega) dX9_isWork_13 (by decide) (fun c13 => ?_) (fun c13 => ?_)
    · skip
      refine lv_iload_n (pc := 18) hx hb dX9_isWork_18 rfl (lv_at hl 0 rfl) ?_
      refine zsipush (pc := 19) (n := 1440) hx hb dX9_isWork_19 rfl ?_
      refine zrem (pc := 22) hx hb (by omega) dX9_isWork_22 ?_
      refine lv_aload_n (pc := 23) hx hb dX9_isWork_23 rfl (lv_at hl 1 rfl) ?_
      refine zgetI (pc := 24) hx hb hG hown hw hmd2 (T := TX9) rfl 27 (by decide) rfl wf_X9_64 rfl dX9_isWork_24 ?_
      refine lv_aload_n (pc := 27) hx hb dX9_isWork_27 rfl (lv_at hl 1 rfl) ?_
      refine zgetI (pc := 28) hx hb hG hown hw hmd2 (T := TX9) rfl 28 (by decide) rfl wf_X9_67 rfl dX9_isWork_28 ?_
      refine ziconst (pc := 31) (n := 1) hx hb dX9_isWork_31 ?_
      refine zsub (pc := 32) hx hb dX9_isWork_32 ?_
      refine zkIp (pc := 33) (zrS (As := [.int (iI (r2 % 1440)), .int (iI (X2 md 27)), .int (iI ((X2 md 28) - 1))]) hx hb hml hown hG hw (c_X9_is l Γ K2 X2 R2 (r2 % 1440) (X2 md 27) ((X2 md 28) - 1)  (by (first | assumption | omega))) cb_X9_is wl_X9_91 rfl ⟨Nat.le_of_ble_eq_true rfl, Nat.le_of_ble_eq_true rfl⟩ hl.1 rfl (Nat.le_of_ble_eq_true rfl) dX9_isWork_33 ⟨(by show 0 + (min 5 (dwC X Rf md M)) + 0 ≤ (min 5 (dwC X Rf md M)); omega), (by show 0 + (dwC X Rf md M) + 0 ≤ (dwC X Rf md M); omega)⟩) hw (fun r33 H locs hp33 hw => ?_)
      subst hp33
      refine zif_eq (pc := 36) hx hb 55 (by omega) dX9_isWork_36 (by decide) (fun c36 => ?_) (fun c36 => ?_)
      · skip
        replace c36 := it0 c36
        refine ziconst (pc := 55) (n := 0) hx hb dX9_isWork_55 ?_
        exact zretZ (pc := 56) hx hb hlocks hr (Or.inl rfl) hw (by show 0 + (min 5 (dwC X Rf md M)) ≤ (min 5 (dwC X Rf md M)); omega) (by show 0 + (dwC X Rf md M) ≤ (dwC X Rf md M); omega) dX9_isWork_56 (by first | (exact ⟨by rw [wkm_0 hv2 (fun g => by have h9 := g.2.1; omega)], ρ2, ⟨hR2, hg2, hz2⟩, ⟨hs2, hd2⟩, hy2⟩; done) | (exact ⟨by rw [wkm_1 hv2 ⟨by omega, by omega, q48⟩], ρ2, hL45, hD45, hY45⟩; done) | exact ⟨by rw [wkm_0 hv2 (fun g => by have h9 := g.2.2; rw [q48] at h9; cases h9)], ρ2, hL45, hD45, hY45⟩)
      · skip
        replace c36 := it1 c36
        refine lv_aload_n (pc := 39) hx hb dX9_isWork_39 rfl (lv_at hl 1 rfl) ?_
        refine lv_iload_n (pc := 40) hx hb dX9_isWork_40 rfl (lv_at hl 0 rfl) ?_
        refine zsipush (pc := 41) (n := 1440) hx hb dX9_isWork_41 rfl ?_
        refine zdiv (pc := 44) hx hb (by omega) dX9_isWork_44 ?_
        refine zkIx (pc := 45) (zrV (As := [.int (iI (r2 / 1440))]) hx hb hml hown hG hw (c_X9_works l Γ K2 X2 R2 md (r2 / 1440) (ρ2) M (by (first | assumption | omega)) (by (first | assumption | omega)) (by (first | assumption | omega))) (T := TX9) hmd2 rfl cb_X9_works wl_X9_310 rfl ⟨Nat.le_of_ble_eq_true rfl, Nat.le_of_ble_eq_true rfl⟩ hl.1 rfl (Nat.le_of_ble_eq_true rfl) dX9_isWork_45 ⟨(by show 0 + (min 5 (dwC X Rf md M)) + 0 ≤ (min 5 (dwC X Rf md M)); omega), (by show 0 + (dwC X Rf md M) + 0 ≤ (dwC X Rf md M); omega)⟩) hw (fun r45 X45 H locs hp45 hw => ?_)
        obtain ⟨hr45, hR45, hg45, hz45, hf45⟩ := hp45
        have hbi := bI_rng (wkdM M (r2 / 1440))
        have hL45 : repR ρ2 K2 X45 R2 md M ∧ frR ρ K X Rf ρ2 K2 X45 R2 ∧ (∀ q, q = 0 ∨ q = 36 → X45 md q = X md q) := ⟨hR45, hg2.trans hg45, fun q g => by rw [hz45 q g]; exact hz2 q g⟩
        have hD45 : lsR X Rf X45 R2 md ∧ dwC X45 R2 md M = 0 := ⟨hs2.trans (hf45.ls hR2), by have h9 := dwC_ls (M := M) (hf45.ls hR2); omega⟩
        have hY45 : ∀ a, (K a).1 ≠ 0 → 3000 ≤ ρ a → X45 a = X a := fun b h8 h9 => by
          have w := (hg2 b h8).2.1
          rw [hf45 b (by omega) (by omega)]; exact hy2 b h8 h9
        refine zif_eq (pc := 48) hx hb 55 (by omega) dX9_isWork_48 (by decide) (fun c48 => ?_) (fun c48 => ?_)
        · skip
          have q48 := bI_0 (hr45.symm.trans c48)
          refine ziconst (pc := 55) (n := 0) hx hb dX9_isWork_55 ?_
          exact zretZ (pc := 56) hx hb hlocks hr (Or.inl rfl) hw (by show 0 + (min 5 (dwC X Rf md M)) ≤ (min 5 (dwC X Rf md M)); omega) (by show 0 + (dwC X Rf md M) ≤ (dwC X Rf md M); omega) dX9_isWork_56 (by first | (exact ⟨by rw [wkm_0 hv2 (fun g => by have h9 := g.2.1; omega)], ρ2, ⟨hR2, hg2, hz2⟩, ⟨hs2, hd2⟩, hy2⟩; done) | (exact ⟨by rw [wkm_1 hv2 ⟨by omega, by omega, q48⟩], ρ2, hL45, hD45, hY45⟩; done) | exact ⟨by rw [wkm_0 hv2 (fun g => by have h9 := g.2.2; rw [q48] at h9; cases h9)], ρ2, hL45, hD45, hY45⟩)
        · skip
          have q48 := bI_1 (fun g => c48 (hr45.trans g))
          refine ziconst (pc := 51) (n := 1) hx hb dX9_isWork_51 ?_
          refine lv_goto (pc := 52) (tgt := 56) hx hb dX9_isWork_52 (by decide) ?_
          exact zretZ (pc := 56) hx hb hlocks hr (Or.inr rfl) hw (by show 0 + (min 5 (dwC X Rf md M)) ≤ (min 5 (dwC X Rf md M)); omega) (by show 0 + (dwC X Rf md M) ≤ (dwC X Rf md M); omega) dX9_isWork_56 (by first | (exact ⟨by rw [wkm_0 hv2 (fun g => by have h9 := g.2.1; omega)], ρ2, ⟨hR2, hg2, hz2⟩, ⟨hs2, hd2⟩, hy2⟩; done) | (exact ⟨by rw [wkm_1 hv2 ⟨by omega, by omega, q48⟩], ρ2, hL45, hD45, hY45⟩; done) | exact ⟨by rw [wkm_0 hv2 (fun g => by have h9 := g.2.2; rw [q48] at h9; cases h9)], ρ2, hL45, hD45, hY45⟩)
    · skip
      refine ziconst (pc := 16) (n := 0) hx hb dX9_isWork_16 ?_
      exact zretZ (pc := 17) hx hb hlocks hr (Or.inl rfl) hw (by show 0 + (min 5 (dwC X Rf md M)) ≤ (min 5 (dwC X Rf md M)); omega) (by show 0 + (dwC X Rf md M) ≤ (dwC X Rf md M); omega) dX9_isWork_17 (by exact ⟨by rw [wkm_0 hv2 (fun g => by have h9 := g.1; omega)], ρ2, ⟨hR2, hg2, hz2⟩, ⟨hs2, hd2⟩, hy2⟩)
set_option maxHeartbeats 4000000 in
set_option maxRecDepth 100000 in
theorem c_X9_workIn (l : Launch) (Γ : zG) (K : zK) (X : zX) (Rf : zR) (md : Nat) (fr : Int) (mn : Int) (ρ : zL) (M : zM) (hR : repR ρ K X Rf md M) (hM : okM M) (h2 : (0 ≤ fr ∧ fr ≤ 105190559) ∧ (0 ≤ mn ∧ mn ≤ 50000) ∧ fr + mn ≤ 105190560) : Ct l yX9_workIn cX9_workIn 5 (some .int) 90 (min 5 (dwC X Rf md M)) (dwC X Rf md M) Γ [.ref md, .int (iI fr), .int (iI mn)] K X Rf (pI (fun (r : Int) (K' : zK) (X' : zX) (R' : zR) => r = cP (wkmM M) (fr + mn - fr).toNat fr ∧ ∃ ρ', (repR ρ' K' X' R' md M ∧ frR ρ K X Rf ρ' K' X' R' ∧ (∀ q, q = 0 ∨ q = 36 → X' md q = X md q)) ∧ lsR X Rf X' R' md ∧ ∀ a, (K a).1 ≠ 0 → 3000 ≤ ρ a → X' a = X a)) := by
  refine Ct.of (by decide +kernel) (Nat.le_of_ble_eq_true rfl) ?_
  intro p e s m below meth c ls hx hb hr hml hown hG hlocks hname hw hl
  have hl : lv_has ls 5 [(0, .ref md), (1, .int (iI fr)), (2, .int (iI mn))] := hl
  obtain ⟨hmd, hlmd⟩ := id hR.1
  obtain ⟨⟨hb1, hb2, hb3, hb4⟩, hokP, hokL, hokS, hokW, hokF⟩ := id hM
  have hq1 : X md 1 = M 40 1 := hR.2.1 1 rfl
  have hq5 : X md 5 = M 40 5 := hR.2.1 5 rfl
  have hq16 : X md 16 = M 40 16 := hR.2.1 16 rfl
  have hq25 : X md 25 = M 40 25 := hR.2.1 25 rfl
  have hq26 : X md 26 = M 40 26 := hR.2.1 26 rfl
  have hq27 : X md 27 = M 40 27 := hR.2.1 27 rfl
  have hq28 : X md 28 = M 40 28 := hR.2.1 28 rfl
  have hq29 : X md 29 = M 40 29 := hR.2.1 29 rfl
  refine ziconst (pc := 0) (n := 0) hx hb dX9_workIn_0 ?_
  refine lv_istore_n (pc := 1) (lv' := [(3, .int (iI 0)), (0, .ref md), (1, .int (iI fr)), (2, .int (iI mn))]) hx hb dX9_workIn_1 rfl hl (by decide) rfl (fun ls hl => ?_)
  refine lv_iload_n (pc := 2) hx hb dX9_workIn_2 rfl (lv_at hl 2 rfl) ?_
  refine lv_istore (pc := 3) (lv' := [(4, .int (iI fr)), (3, .int (iI 0)), (0, .ref md), (1, .int (iI fr)), (2, .int (iI mn))]) hx hb dX9_workIn_3 hl (by decide) rfl (fun ls hl => ?_)
  have lp5 : ∀ (n5 : Nat) (mm : Int) (ct : Int) (ρL : zL) (cz : Nat) (sz : Nat) (KL5 : zK) (XL5 : zX) (RL5 : zR) (H : Heap) (locs : List Loc), (hi : fr ≤ mm ∧ mm ≤ fr + mn) → (hc : ct = cP (wkmM M) (mm - fr).toNat fr) → (hR9 : repR ρL KL5 XL5 RL5 md M) → (hf9 : frR ρ K X Rf ρL KL5 XL5 RL5) → (h09 : ∀ q, q = 0 ∨ q = 36 → XL5 md q = X md q) → (hls : lsR X Rf XL5 RL5 md) → (hyr : ∀ a, (K a).1 ≠ 0 → 3000 ≤ ρ a → XL5 a = X a) → (hcs9 : cz + min 5 (dwC XL5 RL5 md M) ≤ min 5 (dwC X Rf md M) ∧ sz + dwC XL5 RL5 md M ≤ dwC X Rf md M) → ((fr + mn - mm).toNat < n5) → Wd Γ (zA K s.heap.size) KL5 XL5 RL5 s H locs → ∀ ls : Array Slot, lv_has ls 5 [(4, .int (iI mm)), (3, .int (iI ct)), (0, .ref md), (1, .int (iI fr)), (2, .int (iI mn))] → W p l e (rmL 90 (min 5 (dwC X Rf md M)) (dwC X Rf md M)) s m ([.ref md, .int (iI fr), .int (iI mn)] : List Value).toArray below meth c H locs cz sz (MQ below (zQ Γ K s.heap.size (pI (fun (r : Int) (K' : zK) (X' : zX) (R' : zR) => r = cP (wkmM M) (fr + mn - fr).toNat fr ∧ ∃ ρ', (repR ρ' K' X' R' md M ∧ frR ρ K X Rf ρ' K' X' R' ∧ (∀ q, q = 0 ∨ q = 36 → X' md q = X md q)) ∧ lsR X Rf X' R' md ∧ ∀ a, (K a).1 ≠ 0 → 3000 ≤ ρ a → X' a = X a))) ([.ref md, .int (iI fr), .int (iI mn)] : List Value).toArray s (min 5 (dwC X Rf md M)) (dwC X Rf md M) (zA K s.heap.size)) (F0 m 5 ls []) := by
    intro n5
    induction n5 with
    | zero => intro mm ct ρL cz sz KL5 XL5 RL5 H locs hi hc hR9 hf9 h09 hls hyr hcs9 hm5; exact absurd hm5 (Nat.not_lt_zero _)
    | succ n5 ih5 =>
      intro mm ct ρL cz sz KL5 XL5 RL5 H locs hi hc hR9 hf9 h09 hls hyr hcs9 hm5 hw ls hl
      obtain ⟨hmdL, hlmL⟩ := id hR9.1
      have hct := cP_rng (p := wkmM M) (b := mm) fr
      have hct2 := hct.2 (by omega)
      refine lv_iload (pc := 5) hx hb dX9_workIn_5 (lv_at hl 0 rfl) ?_
      refine lv_iload_n (pc := 7) hx hb dX9_workIn_7 rfl (lv_at hl 3 rfl) ?_
      refine lv_iload_n (pc := 8) hx hb dX9_workIn_8 rfl (lv_at hl 4 rfl) ?_
      refine zadd (pc := 9) hx hb dX9_workIn_9 ?_
      refine zicmp_ge (pc := 10) hx hb 36 (by omega) (by omega) dX9_workIn_10 (by decide) (fun c10 => ?_) (fun c10 => ?_)
      · skip
        refine lv_iload_n (pc := 36) hx hb dX9_workIn_36 rfl (lv_at hl 1 rfl) ?_
        exact zretI (pc := 37) hx hb hlocks hr hw (by show cz ≤ (min 5 (dwC X Rf md M)); omega) (by show sz ≤ (dwC X Rf md M); omega) dX9_workIn_37 (by exact ⟨by rw [hc, show mm = fr + mn by omega], ρL, ⟨hR9, hf9, h09⟩, hls, hyr⟩)
      · skip
        refine lv_iload_n (pc := 13) hx hb dX9_workIn_13 rfl (lv_at hl 1 rfl) ?_
        refine lv_aload_n (pc := 14) hx hb dX9_workIn_14 rfl (lv_at hl 2 rfl) ?_
        refine lv_iload (pc := 15) hx hb dX9_workIn_15 (lv_at hl 0 rfl) ?_
        refine zkI (pc := 17) (zrV (As := [.int (iI mm)]) hx hb hml hown hG hw (c_X9_isWork l Γ KL5 XL5 RL5 md mm (ρL) M (by (first | assumption | omega)) (by (first | assumption | omega)) (by (first | assumption | omega))) (T := TX9) hmdL rfl cb_X9_isWork wl_X9_325 rfl ⟨Nat.le_of_ble_eq_true rfl, Nat.le_of_ble_eq_true rfl⟩ hl.1 rfl (Nat.le_of_ble_eq_true rfl) dX9_workIn_17 ⟨(by show cz + (min 5 (dwC XL5 RL5 md M)) ≤ (min 5 (dwC X Rf md M)); omega), (by show sz + (dwC XL5 RL5 md M) ≤ (dwC X Rf md M); omega)⟩) hw (fun r17 K17 X17 R17 H locs hp17 hw => ?_)
        obtain ⟨hv17, ρ17, ⟨hR17, hg17, hz17⟩, ⟨hs17, hd17⟩, hy17⟩ := hp17
        obtain ⟨hmd17, hlm17⟩ := id hR17.1
        have hbi := bI_rng (wkmM M mm)
        refine zif_eq (pc := 20) hx hb 27 (by omega) dX9_workIn_20 (by decide) (fun c20 => ?_) (fun c20 => ?_)
        · skip
          have q20 := bI_0 (hv17.symm.trans c20)
          refine ziconst (pc := 27) (n := 0) hx hb dX9_workIn_27 ?_
          refine zadd (pc := 28) hx hb dX9_workIn_28 ?_
          refine ztop (fun x29 ex29 => ?_)
          refine lv_istore_n (pc := 29) (lv' := [(3, .int (iI x29)), (4, .int (iI mm)), (0, .ref md), (1, .int (iI fr)), (2, .int (iI mn))]) hx hb dX9_workIn_29 rfl hl (by decide) rfl (fun ls hl => ?_)
          refine ziinc (pc := 30) (lv' := [(4, .int (iI (mm + 1))), (3, .int (iI x29)), (0, .ref md), (1, .int (iI fr)), (2, .int (iI mn))]) hx hb 1 dX9_workIn_30 hl rfl (by decide) rfl (fun ls hl => ?_)
          obtain ⟨x30, ex30⟩ : ∃ zz : Int, zz = (mm + 1) := ⟨_, rfl⟩
          rw [← ex30] at hl
          refine lv_goto (pc := 33) (tgt := 5) hx hb dX9_workIn_33 (by decide) ?_
          exact ih5 x30 x29 (ρ17) (cz + (min 5 (dwC XL5 RL5 md M))) (sz + (dwC XL5 RL5 md M)) K17 X17 R17 _ _ (by (first | assumption | omega)) (by rw [ex30, cP_last (by omega), ← hc]; first | (rw [if_neg (by rw [q20]; simp)]; omega) | (rw [if_pos q20]; omega)) (by exact hR17) (by exact hf9.trans hg17) (by exact fun q hq => by rw [hz17 q hq, h09 q hq]) (by exact hls.trans hs17) (by exact fun b h8 h9 => by rw [hy17 b (by rw [(hf9 b h8).1]; exact h8) (by rw [(hf9 b h8).2.1]; exact h9)]; exact hyr b h8 h9) (by rw [hd17]; omega) (by omega) hw _ (lv_sub hl [0, 1, 2, 3, 4] rfl)
        · skip
          have q20 := bI_1 (fun g => c20 (hv17.trans g))
          refine ziconst (pc := 23) (n := 1) hx hb dX9_workIn_23 ?_
          refine lv_goto (pc := 24) (tgt := 28) hx hb dX9_workIn_24 (by decide) ?_
          refine zadd (pc := 28) hx hb dX9_workIn_28 ?_
          refine ztop (fun x29 ex29 => ?_)
          refine lv_istore_n (pc := 29) (lv' := [(3, .int (iI x29)), (4, .int (iI mm)), (0, .ref md), (1, .int (iI fr)), (2, .int (iI mn))]) hx hb dX9_workIn_29 rfl hl (by decide) rfl (fun ls hl => ?_)
          refine ziinc (pc := 30) (lv' := [(4, .int (iI (mm + 1))), (3, .int (iI x29)), (0, .ref md), (1, .int (iI fr)), (2, .int (iI mn))]) hx hb 1 dX9_workIn_30 hl rfl (by decide) rfl (fun ls hl => ?_)
          obtain ⟨x30, ex30⟩ : ∃ zz : Int, zz = (mm + 1) := ⟨_, rfl⟩
          rw [← ex30] at hl
          refine lv_goto (pc := 33) (tgt := 5) hx hb dX9_workIn_33 (by decide) ?_
          exact ih5 x30 x29 (ρ17) (cz + (min 5 (dwC XL5 RL5 md M))) (sz + (dwC XL5 RL5 md M)) K17 X17 R17 _ _ (by (first | assumption | omega)) (by rw [ex30, cP_last (by omega), ← hc]; first | (rw [if_neg (by rw [q20]; simp)]; omega) | (rw [if_pos q20]; omega)) (by exact hR17) (by exact hf9.trans hg17) (by exact fun q hq => by rw [hz17 q hq, h09 q hq]) (by exact hls.trans hs17) (by exact fun b h8 h9 => by rw [hy17 b (by rw [(hf9 b h8).1]; exact h8) (by rw [(hf9 b h8).2.1]; exact h9)]; exact hyr b h8 h9) (by rw [hd17]; omega) (by omega) hw _ (lv_sub hl [0, 1, 2, 3, 4] rfl)
  exact lp5 _ fr 0 (ρ) 0 0 K X Rf _ _ (by (first | assumption | omega)) (by rw [cP_e (Int.le_refl _)]) (by exact hR) (by exact frR_refl) (by exact fun _ _ => rfl) (by exact lsR_refl) (by exact fun _ _ _ => rfl) (by omega) (Nat.lt_succ_self _) hw _ (lv_sub hl [0, 1, 2, 3, 4] rfl)
set_option maxHeartbeats 4000000 in
set_option maxRecDepth 100000 in
theorem c_X9_done (l : Launch) (Γ : zG) (K : zK) (X : zX) (Rf : zR) (md : Nat) (fr : Int) (wk : Int) (ρ : zL) (M : zM) (hR : repR ρ K X Rf md M) (hM : okM M) (h2 : (0 ≤ fr ∧ fr ≤ 105190559) ∧ (1 ≤ wk ∧ wk ≤ 10000)) : Ct l yX9_done cX9_done 5 (some .int) 90 (min 5 (dwC X Rf md M)) (dwC X Rf md M) Γ [.ref md, .int (iI fr), .int (iI wk)] K X Rf (pI (fun (r : Int) (K' : zK) (X' : zX) (R' : zR) => r = dnF (wkmM M) fr wk (min (fr + 50000) 105190559) ∧ ∃ ρ', (repR ρ' K' X' R' md M ∧ frR ρ K X Rf ρ' K' X' R' ∧ (∀ q, q = 0 ∨ q = 36 → X' md q = X md q)) ∧ lsR X Rf X' R' md ∧ ∀ a, (K a).1 ≠ 0 → 3000 ≤ ρ a → X' a = X a)) := by
  refine Ct.of (by decide +kernel) (Nat.le_of_ble_eq_true rfl) ?_
  intro p e s m below meth c ls hx hb hr hml hown hG hlocks hname hw hl
  have hl : lv_has ls 5 [(0, .ref md), (1, .int (iI fr)), (2, .int (iI wk))] := hl
  obtain ⟨hmd, hlmd⟩ := id hR.1
  obtain ⟨⟨hb1, hb2, hb3, hb4⟩, hokP, hokL, hokS, hokW, hokF⟩ := id hM
  have hq1 : X md 1 = M 40 1 := hR.2.1 1 rfl
  have hq5 : X md 5 = M 40 5 := hR.2.1 5 rfl
  have hq16 : X md 16 = M 40 16 := hR.2.1 16 rfl
  have hq25 : X md 25 = M 40 25 := hR.2.1 25 rfl
  have hq26 : X md 26 = M 40 26 := hR.2.1 26 rfl
  have hq27 : X md 27 = M 40 27 := hR.2.1 27 rfl
  have hq28 : X md 28 = M 40 28 := hR.2.1 28 rfl
  have hq29 : X md 29 = M 40 29 := hR.2.1 29 rfl
  refine lv_iload_n (pc := 0) hx hb dX9_done_0 rfl (lv_at hl 2 rfl) ?_
  refine lv_istore_n (pc := 1) (lv' := [(3, .int (iI wk)), (0, .ref md), (1, .int (iI fr)), (2, .int (iI wk))]) hx hb dX9_done_1 rfl hl (by decide) rfl (fun ls hl => ?_)
  refine lv_iload_n (pc := 2) hx hb dX9_done_2 rfl (lv_at hl 2 rfl) ?_
  refine lv_istore (pc := 3) (lv' := [(4, .int (iI fr)), (3, .int (iI wk)), (0, .ref md), (1, .int (iI fr)), (2, .int (iI wk))]) hx hb dX9_done_3 hl (by decide) rfl (fun ls hl => ?_)
  have lp5 : ∀ (n5 : Nat) (mm : Int) (lf : Int) (ρL : zL) (cz : Nat) (sz : Nat) (KL5 : zK) (XL5 : zX) (RL5 : zR) (H : Heap) (locs : List Loc), (hi : fr ≤ mm ∧ mm ≤ fr + 50000 ∧ mm ≤ 105190559) → (hc : lf = wk - cP (wkmM M) (mm - fr).toNat fr) → (hn9 : ∀ m, fr ≤ m → m < mm → cP (wkmM M) (m - fr).toNat fr < wk) → (hlf : 0 ≤ lf) → (hR9 : repR ρL KL5 XL5 RL5 md M) → (hf9 : frR ρ K X Rf ρL KL5 XL5 RL5) → (h09 : ∀ q, q = 0 ∨ q = 36 → XL5 md q = X md q) → (hls : lsR X Rf XL5 RL5 md) → (hyr : ∀ a, (K a).1 ≠ 0 → 3000 ≤ ρ a → XL5 a = X a) → (hcs9 : cz + min 5 (dwC XL5 RL5 md M) ≤ min 5 (dwC X Rf md M) ∧ sz + dwC XL5 RL5 md M ≤ dwC X Rf md M) → ((fr + 50001 - mm).toNat < n5) → Wd Γ (zA K s.heap.size) KL5 XL5 RL5 s H locs → ∀ ls : Array Slot, lv_has ls 5 [(4, .int (iI mm)), (3, .int (iI lf)), (0, .ref md), (1, .int (iI fr)), (2, .int (iI wk))] → W p l e (rmL 90 (min 5 (dwC X Rf md M)) (dwC X Rf md M)) s m ([.ref md, .int (iI fr), .int (iI wk)] : List Value).toArray below meth c H locs cz sz (MQ below (zQ Γ K s.heap.size (pI (fun (r : Int) (K' : zK) (X' : zX) (R' : zR) => r = dnF (wkmM M) fr wk (min (fr + 50000) 105190559) ∧ ∃ ρ', (repR ρ' K' X' R' md M ∧ frR ρ K X Rf ρ' K' X' R' ∧ (∀ q, q = 0 ∨ q = 36 → X' md q = X md q)) ∧ lsR X Rf X' R' md ∧ ∀ a, (K a).1 ≠ 0 → 3000 ≤ ρ a → X' a = X a))) ([.ref md, .int (iI fr), .int (iI wk)] : List Value).toArray s (min 5 (dwC X Rf md M)) (dwC X Rf md M) (zA K s.heap.size)) (F0 m 5 ls []) := by
    intro n5
    induction n5 with
    | zero => intro mm lf ρL cz sz KL5 XL5 RL5 H locs hi hc hn9 hlf hR9 hf9 h09 hls hyr hcs9 hm5; exact absurd hm5 (Nat.not_lt_zero _)
    | succ n5 ih5 =>
      intro mm lf ρL cz sz KL5 XL5 RL5 H locs hi hc hn9 hlf hR9 hf9 h09 hls hyr hcs9 hm5 hw ls hl
      obtain ⟨hmdL, hlmL⟩ := id hR9.1
      have hct := cP_rng (p := wkmM M) (b := mm) fr
      have hct2 := hct.2 (by omega)
      refine lv_iload_n (pc := 5) hx hb dX9_done_5 rfl (lv_at hl 1 rfl) ?_
      refine zif_le (pc := 6) hx hb 46 (by omega) dX9_done_6 (by decide) (fun c6 => ?_) (fun c6 => ?_)
      · skip
        refine lv_iload (pc := 46) hx hb dX9_done_46 (lv_at hl 0 rfl) ?_
        exact zretI (pc := 48) hx hb hlocks hr hw (by show cz ≤ (min 5 (dwC X Rf md M)); omega) (by show sz ≤ (dwC X Rf md M); omega) dX9_done_48 (by have hgt : fr < mm := (by by_cases g : fr < mm; exact g; (exfalso; rw [show (mm - fr).toNat = 0 by omega] at hc; have h9 : cP (wkmM M) 0 fr = 0 := rfl; omega)); exact ⟨by rw [dnF_hit (t := mm) (by omega) (by omega) (by omega) (fun m g1 g2 => hn9 m (by omega) g2)], ρL, ⟨hR9, hf9, h09⟩, hls, hyr⟩)
      · skip
        refine lv_iload (pc := 9) hx hb dX9_done_9 (lv_at hl 0 rfl) ?_
        refine zldc (pc := 11) (n := 105190559) hx hb hown hG wk_X9_95 dX9_done_11 ?_
        refine zicmp_eq (pc := 13) hx hb 26 (by omega) (by omega) dX9_done_13 (by decide) (fun c13 => ?_) (fun c13 => ?_)
        · skip
          refine ziconst (pc := 26) (n := (-1)) hx hb dX9_done_26 ?_
          exact zretI (pc := 27) hx hb hlocks hr hw (by show cz ≤ (min 5 (dwC X Rf md M)); omega) (by show sz ≤ (dwC X Rf md M); omega) dX9_done_27 (by exact ⟨by rw [dnF_none (by omega) (by rw [show min (fr + 50000) 105190559 = mm by omega]; omega)], ρL, ⟨hR9, hf9, h09⟩, hls, hyr⟩)
        · skip
          refine lv_iload (pc := 16) hx hb dX9_done_16 (lv_at hl 0 rfl) ?_
          refine lv_iload_n (pc := 18) hx hb dX9_done_18 rfl (lv_at hl 3 rfl) ?_
          refine zsub (pc := 19) hx hb dX9_done_19 ?_
          refine zldcw (pc := 20) (n := 50000) hx hb hown hG wk_X9_328 dX9_done_20 ?_
          refine zicmp_ne (pc := 23) hx hb 28 (by omega) (by omega) dX9_done_23 (by decide) (fun c23 => ?_) (fun c23 => ?_)
          · skip
            refine lv_aload_n (pc := 28) hx hb dX9_done_28 rfl (lv_at hl 2 rfl) ?_
            refine lv_iload (pc := 29) hx hb dX9_done_29 (lv_at hl 0 rfl) ?_
            refine zkI (pc := 31) (zrV (As := [.int (iI mm)]) hx hb hml hown hG hw (c_X9_isWork l Γ KL5 XL5 RL5 md mm (ρL) M (by (first | assumption | omega)) (by (first | assumption | omega)) (by (first | assumption | omega))) (T := TX9) hmdL rfl cb_X9_isWork wl_X9_325 rfl ⟨Nat.le_of_ble_eq_true rfl, Nat.le_of_ble_eq_true rfl⟩ hl.1 rfl (Nat.le_of_ble_eq_true rfl) dX9_done_31 ⟨(by show cz + (min 5 (dwC XL5 RL5 md M)) ≤ (min 5 (dwC X Rf md M)); omega), (by show sz + (dwC XL5 RL5 md M) ≤ (dwC X Rf md M); omega)⟩) hw (fun r31 K31 X31 R31 H locs hp31 hw => ?_)
            obtain ⟨hv31, ρ31, ⟨hR31, hg31, hz31⟩, ⟨hs31, hd31⟩, hy31⟩ := hp31
            obtain ⟨hmd31, hlm31⟩ := id hR31.1
            have hbi := bI_rng (wkmM M mm)
            refine zif_eq (pc := 34) hx hb 40 (by omega) dX9_done_34 (by decide) (fun c34 => ?_) (fun c34 => ?_)
            · skip
              have q34 := bI_0 (hv31.symm.trans c34)
              refine ziinc (pc := 40) (lv' := [(4, .int (iI (mm + 1))), (3, .int (iI lf)), (0, .ref md), (1, .int (iI fr)), (2, .int (iI wk))]) hx hb 0 dX9_done_40 hl rfl (by decide) rfl (fun ls hl => ?_)
              obtain ⟨x40, ex40⟩ : ∃ zz : Int, zz = (mm + 1) := ⟨_, rfl⟩
              rw [← ex40] at hl
              refine lv_goto (pc := 43) (tgt := 5) hx hb dX9_done_43 (by decide) ?_
              exact ih5 x40 lf (ρ31) (cz + (min 5 (dwC XL5 RL5 md M))) (sz + (dwC XL5 RL5 md M)) K31 X31 R31 _ _ (by (first | assumption | omega)) (by rw [ex40, cP_last (by omega)]; first | (rw [if_neg (by rw [q34]; simp)]; omega) | (rw [if_pos q34]; omega)) (by intro m g1 g2; by_cases g : m = mm; (rw [g]; omega); exact hn9 m g1 (by omega)) (by omega) (by exact hR31) (by exact hf9.trans hg31) (by exact fun q hq => by rw [hz31 q hq, h09 q hq]) (by exact hls.trans hs31) (by exact fun b h8 h9 => by rw [hy31 b (by rw [(hf9 b h8).1]; exact h8) (by rw [(hf9 b h8).2.1]; exact h9)]; exact hyr b h8 h9) (by rw [hd31]; omega) (by omega) hw _ (lv_sub hl [0, 1, 2, 3, 4] rfl)
            · skip
              have q34 := bI_1 (fun g => c34 (hv31.trans g))
              refine ziinc (pc := 37) (lv' := [(3, .int (iI (lf + (-1)))), (4, .int (iI mm)), (0, .ref md), (1, .int (iI fr)), (2, .int (iI wk))]) hx hb 1 dX9_done_37 hl rfl (by decide) rfl (fun ls hl => ?_)
              obtain ⟨x37, ex37⟩ : ∃ zz : Int, zz = (lf + (-1)) := ⟨_, rfl⟩
              rw [← ex37] at hl
              refine ziinc (pc := 40) (lv' := [(4, .int (iI (mm + 1))), (3, .int (iI x37)), (0, .ref md), (1, .int (iI fr)), (2, .int (iI wk))]) hx hb 1 dX9_done_40 hl rfl (by decide) rfl (fun ls hl => ?_)
              obtain ⟨x40, ex40⟩ : ∃ zz : Int, zz = (mm + 1) := ⟨_, rfl⟩
              rw [← ex40] at hl
              refine lv_goto (pc := 43) (tgt := 5) hx hb dX9_done_43 (by decide) ?_
              exact ih5 x40 x37 (ρ31) (cz + (min 5 (dwC XL5 RL5 md M))) (sz + (dwC XL5 RL5 md M)) K31 X31 R31 _ _ (by (first | assumption | omega)) (by rw [ex40, cP_last (by omega)]; first | (rw [if_neg (by rw [q34]; simp)]; omega) | (rw [if_pos q34]; omega)) (by intro m g1 g2; by_cases g : m = mm; (rw [g]; omega); exact hn9 m g1 (by omega)) (by omega) (by exact hR31) (by exact hf9.trans hg31) (by exact fun q hq => by rw [hz31 q hq, h09 q hq]) (by exact hls.trans hs31) (by exact fun b h8 h9 => by rw [hy31 b (by rw [(hf9 b h8).1]; exact h8) (by rw [(hf9 b h8).2.1]; exact h9)]; exact hyr b h8 h9) (by rw [hd31]; omega) (by omega) hw _ (lv_sub hl [0, 1, 2, 3, 4] rfl)
          · skip
            refine ziconst (pc := 26) (n := (-1)) hx hb dX9_done_26 ?_
            exact zretI (pc := 27) hx hb hlocks hr hw (by show cz ≤ (min 5 (dwC X Rf md M)); omega) (by show sz ≤ (dwC X Rf md M); omega) dX9_done_27 (by exact ⟨by rw [dnF_none (by omega) (by rw [show min (fr + 50000) 105190559 = mm by omega]; omega)], ρL, ⟨hR9, hf9, h09⟩, hls, hyr⟩)
  exact lp5 _ fr wk (ρ) 0 0 K X Rf _ _ (by (first | assumption | omega)) (by rw [cP_e (Int.le_refl _)]; omega) (by intro m g1 g2; omega) (by omega) (by exact hR) (by exact frR_refl) (by exact fun _ _ => rfl) (by exact lsR_refl) (by exact fun _ _ _ => rfl) (by omega) (Nat.lt_succ_self _) hw _ (lv_sub hl [0, 1, 2, 3, 4] rfl)
set_option maxHeartbeats 4000000 in
set_option maxRecDepth 100000 in
theorem c_X9_isWorkingMinute (l : Launch) (Γ : zG) (K : zK) (X : zX) (Rf : zR) (md : Nat) (mo : Int) (ρ : zL) (M : zM) (hR : repR ρ K X Rf md M) (hM : okM M) (h1 : fit mo) : Ct l yX9_isWorkingMinute cX9_isWorkingMinute 2 (some .boolean) 90 5 5000 Γ [.ref md, .int (iI mo)] K X Rf (pI (fun (r : Int) (K' : zK) (X' : zX) (R' : zR) => (cdMom mo = 0 → r = bI (wkmM M mo)) ∧ X' md 0 = cdMom mo ∧ (∃ ρ', repR ρ' K' X' R' md M ∧ frR ρ K X Rf ρ' K' X' R') ∧ lsR X Rf X' R' md ∧ X' md 36 = X md 36)) := by
  refine Ct.of (by decide +kernel) (Nat.le_of_ble_eq_true rfl) ?_
  intro p e s m below meth c ls hx hb hr hml hown hG hlocks hname hw hl
  have hl : lv_has ls 2 [(0, .ref md), (1, .int (iI mo))] := hl
  obtain ⟨hmd, hlmd⟩ := id hR.1
  obtain ⟨⟨hb1, hb2, hb3, hb4⟩, hokP, hokL, hokS, hokW, hokF⟩ := id hM
  have hq1 : X md 1 = M 40 1 := hR.2.1 1 rfl
  have hq5 : X md 5 = M 40 5 := hR.2.1 5 rfl
  have hq16 : X md 16 = M 40 16 := hR.2.1 16 rfl
  have hq25 : X md 25 = M 40 25 := hR.2.1 25 rfl
  have hq26 : X md 26 = M 40 26 := hR.2.1 26 rfl
  have hq27 : X md 27 = M 40 27 := hR.2.1 27 rfl
  have hq28 : X md 28 = M 40 28 := hR.2.1 28 rfl
  have hq29 : X md 29 = M 40 29 := hR.2.1 29 rfl
  refine lv_aload_n (pc := 0) hx hb dX9_isWorkingMinute_0 rfl (lv_at hl 0 rfl) ?_
  refine ziconst (pc := 1) (n := 0) hx hb dX9_isWorkingMinute_1 ?_
  refine zputI (pc := 2) hx hb hG hown hw hmd (T := TX9) rfl 0 (by decide) rfl wf_X9_87 rfl (by decide +kernel) rfl dX9_isWorkingMinute_2 (fun H locs hw => ?_)
  obtain ⟨X2, eX2⟩ : ∃ Y : zX, Y = up2 X md 0 0 := ⟨_, rfl⟩
  rw [← eX2] at hw
  have hR2 : repR ρ K X2 Rf md M := by rw [eX2]; exact hR.own ⟨rfl, by decide⟩
  have hf2 : frR ρ K X Rf ρ K X2 Rf := by rw [eX2]; exact frR_own hR
  have h02 : ∀ q, q = 0 ∨ q = 36 → X2 md q = X2 md q := fun _ _ => rfl
  have e02 : X2 md 0 = 0 := by rw [eX2]; exact up2_s
  have e362 : X2 md 36 = X md 36 := by rw [eX2]; exact up2_k (by decide)
  have hls2 : lsR X Rf X2 Rf md := by rw [eX2]; exact lsR_own hR
  refine lv_iload_n (pc := 5) hx hb dX9_isWorkingMinute_5 rfl (lv_at hl 1 rfl) ?_
  refine zkIp (pc := 6) (zrS (As := [.int (iI mo)]) hx hb hml hown hG hw (c_X9_isMoment l Γ K X2 Rf mo  (by (first | assumption | omega))) cb_X9_isMoment wl_X9_195 rfl ⟨Nat.le_of_ble_eq_true rfl, Nat.le_of_ble_eq_true rfl⟩ hl.1 rfl (Nat.le_of_ble_eq_true rfl) dX9_isWorkingMinute_6 ⟨Nat.zero_le _, Nat.zero_le _⟩) hw (fun r6 H locs hp6 hw => ?_)
  subst hp6
  refine zif_eq (pc := 9) hx hb 18 (by omega) dX9_isWorkingMinute_9 (by decide) (fun c9 => ?_) (fun c9 => ?_)
  · skip
    replace c9 := it0 c9
    refine lv_aload_n (pc := 18) hx hb dX9_isWorkingMinute_18 rfl (lv_at hl 0 rfl) ?_
    refine ziconst (pc := 19) (n := 1) hx hb dX9_isWorkingMinute_19 ?_
    refine zputI (pc := 20) hx hb hG hown hw hmd (T := TX9) rfl 0 (by decide) rfl wf_X9_87 rfl (by decide +kernel) rfl dX9_isWorkingMinute_20 (fun H locs hw => ?_)
    obtain ⟨X20, eX20⟩ : ∃ Y : zX, Y = up2 X2 md 0 1 := ⟨_, rfl⟩
    rw [← eX20] at hw
    refine ziconst (pc := 23) (n := 0) hx hb dX9_isWorkingMinute_23 ?_
    exact zretZ (pc := 24) hx hb hlocks hr (Or.inl rfl) hw (Nat.zero_le _) (Nat.zero_le _) dX9_isWorkingMinute_24 (by rw [eX20]; refine ⟨fun hz => by (exfalso; revert hz; (unfold cdMom; (repeat' split) <;> omega)), by rw [up2_s]; symm; (unfold cdMom; (repeat' split) <;> omega), ⟨ρ, hR2.own ⟨rfl, by decide⟩, hf2.trans (frR_own hR2)⟩, hls2.trans (lsR_own hR2), by rw [up2_k (by decide)]; exact e362⟩)
  · skip
    replace c9 := it1 c9
    refine lv_aload_n (pc := 12) hx hb dX9_isWorkingMinute_12 rfl (lv_at hl 0 rfl) ?_
    refine lv_iload_n (pc := 13) hx hb dX9_isWorkingMinute_13 rfl (lv_at hl 1 rfl) ?_
    have hdw14 := dwC_le (X := X2) (Rf := Rf) (md := md) (M := M)
    refine zkI (pc := 14) (zrV (As := [.int (iI mo)]) hx hb hml hown hG hw (c_X9_isWork l Γ K X2 Rf md mo (ρ) M (by (first | assumption | omega)) (by (first | assumption | omega)) (by (first | assumption | omega))) (T := TX9) hmd rfl cb_X9_isWork wl_X9_325 rfl ⟨Nat.le_of_ble_eq_true rfl, Nat.le_of_ble_eq_true rfl⟩ hl.1 rfl (Nat.le_of_ble_eq_true rfl) dX9_isWorkingMinute_14 ⟨(by show 0 + (min 5 (dwC X2 Rf md M)) ≤ 5; omega), (by show 0 + (dwC X2 Rf md M) ≤ 5000; omega)⟩) hw (fun r14 K14 X14 R14 H locs hp14 hw => ?_)
    obtain ⟨hv14, ρ14, ⟨hR14, hg14, hz14⟩, ⟨hs14, hd14⟩, hy14⟩ := hp14
    obtain ⟨hmd14, hlm14⟩ := id hR14.1
    have hf14 := hf2.trans hg14
    have h014 := fun q hq => (hz14 q hq).trans (h02 q hq)
    have hls14 := hls2.trans hs14
    have hbi := bI_rng (wkmM M mo)
    exact zretZ (pc := 17) hx hb hlocks hr (by omega) hw (by show 0 + (min 5 (dwC X2 Rf md M)) ≤ 5; omega) (by show 0 + (dwC X2 Rf md M) ≤ 5000; omega) dX9_isWorkingMinute_17 (by first | (rw [eX14]; refine ⟨fun hz => by (exfalso; revert hz; (unfold cdMom; (repeat' split) <;> omega)), by rw [up2_s]; symm; (unfold cdMom; (repeat' split) <;> omega), ⟨ρ, hR2.own ⟨rfl, by decide⟩, hf2.trans (frR_own hR2)⟩, hls2.trans (lsR_own hR2), by rw [up2_k (by decide), h02 36 (Or.inr rfl)]; exact e362⟩) | exact ⟨fun _ => by exact hv14, by rw [h014 0 (Or.inl rfl), e02]; symm; (unfold cdMom; (repeat' split) <;> omega), ⟨ρ14, hR14, hf14⟩, hls14, by rw [h014 36 (Or.inr rfl)]; exact e362⟩)
set_option maxHeartbeats 4000000 in
set_option maxRecDepth 100000 in
theorem c_X9_workWithin (l : Launch) (Γ : zG) (K : zK) (X : zX) (Rf : zR) (md : Nat) (fr : Int) (mn : Int) (ρ : zL) (M : zM) (hR : repR ρ K X Rf md M) (hM : okM M) (h1 : fit fr ∧ fit mn) : Ct l yX9_workWithin cX9_workWithin 3 (some .int) 91 5 5000 Γ [.ref md, .int (iI fr), .int (iI mn)] K X Rf (pI (fun (r : Int) (K' : zK) (X' : zX) (R' : zR) => (cdWwi fr mn = 0 → r = cP (wkmM M) (fr + mn - fr).toNat fr) ∧ X' md 0 = cdWwi fr mn ∧ (∃ ρ', repR ρ' K' X' R' md M ∧ frR ρ K X Rf ρ' K' X' R') ∧ lsR X Rf X' R' md ∧ X' md 36 = X md 36)) := by
  refine Ct.of (by decide +kernel) (Nat.le_of_ble_eq_true rfl) ?_
  intro p e s m below meth c ls hx hb hr hml hown hG hlocks hname hw hl
  have hl : lv_has ls 3 [(0, .ref md), (1, .int (iI fr)), (2, .int (iI mn))] := hl
  obtain ⟨hmd, hlmd⟩ := id hR.1
  obtain ⟨⟨hb1, hb2, hb3, hb4⟩, hokP, hokL, hokS, hokW, hokF⟩ := id hM
  have hq1 : X md 1 = M 40 1 := hR.2.1 1 rfl
  have hq5 : X md 5 = M 40 5 := hR.2.1 5 rfl
  have hq16 : X md 16 = M 40 16 := hR.2.1 16 rfl
  have hq25 : X md 25 = M 40 25 := hR.2.1 25 rfl
  have hq26 : X md 26 = M 40 26 := hR.2.1 26 rfl
  have hq27 : X md 27 = M 40 27 := hR.2.1 27 rfl
  have hq28 : X md 28 = M 40 28 := hR.2.1 28 rfl
  have hq29 : X md 29 = M 40 29 := hR.2.1 29 rfl
  refine lv_aload_n (pc := 0) hx hb dX9_workWithin_0 rfl (lv_at hl 0 rfl) ?_
  refine ziconst (pc := 1) (n := 0) hx hb dX9_workWithin_1 ?_
  refine zputI (pc := 2) hx hb hG hown hw hmd (T := TX9) rfl 0 (by decide) rfl wf_X9_87 rfl (by decide +kernel) rfl dX9_workWithin_2 (fun H locs hw => ?_)
  obtain ⟨X2, eX2⟩ : ∃ Y : zX, Y = up2 X md 0 0 := ⟨_, rfl⟩
  rw [← eX2] at hw
  have hR2 : repR ρ K X2 Rf md M := by rw [eX2]; exact hR.own ⟨rfl, by decide⟩
  have hf2 : frR ρ K X Rf ρ K X2 Rf := by rw [eX2]; exact frR_own hR
  have h02 : ∀ q, q = 0 ∨ q = 36 → X2 md q = X2 md q := fun _ _ => rfl
  have e02 : X2 md 0 = 0 := by rw [eX2]; exact up2_s
  have e362 : X2 md 36 = X md 36 := by rw [eX2]; exact up2_k (by decide)
  have hls2 : lsR X Rf X2 Rf md := by rw [eX2]; exact lsR_own hR
  refine lv_iload_n (pc := 5) hx hb dX9_workWithin_5 rfl (lv_at hl 1 rfl) ?_
  refine zkIp (pc := 6) (zrS (As := [.int (iI fr)]) hx hb hml hown hG hw (c_X9_isMoment l Γ K X2 Rf fr  (by (first | assumption | omega))) cb_X9_isMoment wl_X9_195 rfl ⟨Nat.le_of_ble_eq_true rfl, Nat.le_of_ble_eq_true rfl⟩ hl.1 rfl (Nat.le_of_ble_eq_true rfl) dX9_workWithin_6 ⟨Nat.zero_le _, Nat.zero_le _⟩) hw (fun r6 H locs hp6 hw => ?_)
  subst hp6
  refine zif_ne (pc := 9) hx hb 18 (by omega) dX9_workWithin_9 (by decide) (fun c9 => ?_) (fun c9 => ?_)
  · skip
    replace c9 := it1 c9
    refine lv_iload_n (pc := 18) hx hb dX9_workWithin_18 rfl (lv_at hl 2 rfl) ?_
    refine ziconst (pc := 19) (n := 0) hx hb dX9_workWithin_19 ?_
    refine zldcw (pc := 20) (n := 50000) hx hb hown hG wk_X9_328 dX9_workWithin_20 ?_
    refine zkIp (pc := 23) (zrS (As := [.int (iI mn), .int (iI 0), .int (iI 50000)]) hx hb hml hown hG hw (c_X9_is l Γ K X2 Rf mn 0 50000  (by (first | assumption | omega))) cb_X9_is wl_X9_91 rfl ⟨Nat.le_of_ble_eq_true rfl, Nat.le_of_ble_eq_true rfl⟩ hl.1 rfl (Nat.le_of_ble_eq_true rfl) dX9_workWithin_23 ⟨Nat.zero_le _, Nat.zero_le _⟩) hw (fun r23 H locs hp23 hw => ?_)
    subst hp23
    refine zif_eq (pc := 26) hx hb 47 (by omega) dX9_workWithin_26 (by decide) (fun c26 => ?_) (fun c26 => ?_)
    · skip
      replace c26 := it0 c26
      refine lv_aload_n (pc := 47) hx hb dX9_workWithin_47 rfl (lv_at hl 0 rfl) ?_
      refine ziconst (pc := 48) (n := 2) hx hb dX9_workWithin_48 ?_
      refine zkIx (pc := 49) (zrV (As := [.int (iI 2)]) hx hb hml hown hG hw (c_X9_refuse l Γ K X2 Rf md 2  (by (first | assumption | omega))) (T := TX9) hmd rfl cb_X9_refuse wl_X9_123 rfl ⟨Nat.le_of_ble_eq_true rfl, Nat.le_of_ble_eq_true rfl⟩ hl.1 rfl (Nat.le_of_ble_eq_true rfl) dX9_workWithin_49 ⟨Nat.zero_le _, Nat.zero_le _⟩) hw (fun r49 X49 H locs hp49 hw => ?_)
      obtain ⟨hrf49, eX49⟩ := hp49
      exact zretI (pc := 52) hx hb hlocks hr hw (Nat.zero_le _) (Nat.zero_le _) dX9_workWithin_52 (by first | (rw [eX49]; refine ⟨fun hz => by (exfalso; revert hz; (unfold cdWwi; (repeat' split) <;> omega)), by rw [up2_s]; symm; (unfold cdWwi; (repeat' split) <;> omega), ⟨ρ, hR2.own ⟨rfl, by decide⟩, hf2.trans (frR_own hR2)⟩, hls2.trans (lsR_own hR2), by rw [up2_k (by decide), h02 36 (Or.inr rfl)]; exact e362⟩) | exact ⟨fun _ => by exact hv41, by rw [h041 0 (Or.inl rfl), e02]; symm; (unfold cdWwi; (repeat' split) <;> omega), ⟨ρ41, hR41, hf41⟩, hls41, by rw [h041 36 (Or.inr rfl)]; exact e362⟩)
    · skip
      replace c26 := it1 c26
      refine lv_iload_n (pc := 29) hx hb dX9_workWithin_29 rfl (lv_at hl 1 rfl) ?_
      refine lv_iload_n (pc := 30) hx hb dX9_workWithin_30 rfl (lv_at hl 2 rfl) ?_
      refine zadd (pc := 31) hx hb dX9_workWithin_31 ?_
      refine zldcw (pc := 32) (n := 105190560) hx hb hown hG wk_X9_329 dX9_workWithin_32 ?_
      refine zicmp_gt (pc := 35) hx hb 47 (by omega) (by omega) dX9_workWithin_35 (by decide) (fun c35 => ?_) (fun c35 => ?_)
      · skip
        refine lv_aload_n (pc := 47) hx hb dX9_workWithin_47 rfl (lv_at hl 0 rfl) ?_
        refine ziconst (pc := 48) (n := 2) hx hb dX9_workWithin_48 ?_
        refine zkIx (pc := 49) (zrV (As := [.int (iI 2)]) hx hb hml hown hG hw (c_X9_refuse l Γ K X2 Rf md 2  (by (first | assumption | omega))) (T := TX9) hmd rfl cb_X9_refuse wl_X9_123 rfl ⟨Nat.le_of_ble_eq_true rfl, Nat.le_of_ble_eq_true rfl⟩ hl.1 rfl (Nat.le_of_ble_eq_true rfl) dX9_workWithin_49 ⟨Nat.zero_le _, Nat.zero_le _⟩) hw (fun r49 X49 H locs hp49 hw => ?_)
        obtain ⟨hrf49, eX49⟩ := hp49
        exact zretI (pc := 52) hx hb hlocks hr hw (Nat.zero_le _) (Nat.zero_le _) dX9_workWithin_52 (by first | (rw [eX49]; refine ⟨fun hz => by (exfalso; revert hz; (unfold cdWwi; (repeat' split) <;> omega)), by rw [up2_s]; symm; (unfold cdWwi; (repeat' split) <;> omega), ⟨ρ, hR2.own ⟨rfl, by decide⟩, hf2.trans (frR_own hR2)⟩, hls2.trans (lsR_own hR2), by rw [up2_k (by decide), h02 36 (Or.inr rfl)]; exact e362⟩) | exact ⟨fun _ => by exact hv41, by rw [h041 0 (Or.inl rfl), e02]; symm; (unfold cdWwi; (repeat' split) <;> omega), ⟨ρ41, hR41, hf41⟩, hls41, by rw [h041 36 (Or.inr rfl)]; exact e362⟩)
      · skip
        refine lv_aload_n (pc := 38) hx hb dX9_workWithin_38 rfl (lv_at hl 0 rfl) ?_
        refine lv_iload_n (pc := 39) hx hb dX9_workWithin_39 rfl (lv_at hl 1 rfl) ?_
        refine lv_iload_n (pc := 40) hx hb dX9_workWithin_40 rfl (lv_at hl 2 rfl) ?_
        have hdw41 := dwC_le (X := X2) (Rf := Rf) (md := md) (M := M)
        refine zkI (pc := 41) (zrV (As := [.int (iI fr), .int (iI mn)]) hx hb hml hown hG hw (c_X9_workIn l Γ K X2 Rf md fr mn (ρ) M (by (first | assumption | omega)) (by (first | assumption | omega)) (by (first | assumption | omega))) (T := TX9) hmd rfl cb_X9_workIn wl_X9_330 rfl ⟨Nat.le_of_ble_eq_true rfl, Nat.le_of_ble_eq_true rfl⟩ hl.1 rfl (Nat.le_of_ble_eq_true rfl) dX9_workWithin_41 ⟨(by show 0 + (min 5 (dwC X2 Rf md M)) ≤ 5; omega), (by show 0 + (dwC X2 Rf md M) ≤ 5000; omega)⟩) hw (fun r41 K41 X41 R41 H locs hp41 hw => ?_)
        obtain ⟨hv41, ρ41, ⟨hR41, hg41, hz41⟩, hs41, hy41⟩ := hp41
        obtain ⟨hmd41, hlm41⟩ := id hR41.1
        have hf41 := hf2.trans hg41
        have h041 := fun q hq => (hz41 q hq).trans (h02 q hq)
        have hls41 := hls2.trans hs41
        refine lv_goto (pc := 44) (tgt := 52) hx hb dX9_workWithin_44 (by decide) ?_
        exact zretI (pc := 52) hx hb hlocks hr hw (by show 0 + (min 5 (dwC X2 Rf md M)) ≤ 5; omega) (by show 0 + (dwC X2 Rf md M) ≤ 5000; omega) dX9_workWithin_52 (by first | (rw [eX41]; refine ⟨fun hz => by (exfalso; revert hz; (unfold cdWwi; (repeat' split) <;> omega)), by rw [up2_s]; symm; (unfold cdWwi; (repeat' split) <;> omega), ⟨ρ, hR2.own ⟨rfl, by decide⟩, hf2.trans (frR_own hR2)⟩, hls2.trans (lsR_own hR2), by rw [up2_k (by decide), h02 36 (Or.inr rfl)]; exact e362⟩) | exact ⟨fun _ => by exact hv41, by rw [h041 0 (Or.inl rfl), e02]; symm; (unfold cdWwi; (repeat' split) <;> omega), ⟨ρ41, hR41, hf41⟩, hls41, by rw [h041 36 (Or.inr rfl)]; exact e362⟩)
  · skip
    replace c9 := it0 c9
    refine lv_aload_n (pc := 12) hx hb dX9_workWithin_12 rfl (lv_at hl 0 rfl) ?_
    refine ziconst (pc := 13) (n := 1) hx hb dX9_workWithin_13 ?_
    refine zkIx (pc := 14) (zrV (As := [.int (iI 1)]) hx hb hml hown hG hw (c_X9_refuse l Γ K X2 Rf md 1  (by (first | assumption | omega))) (T := TX9) hmd rfl cb_X9_refuse wl_X9_123 rfl ⟨Nat.le_of_ble_eq_true rfl, Nat.le_of_ble_eq_true rfl⟩ hl.1 rfl (Nat.le_of_ble_eq_true rfl) dX9_workWithin_14 ⟨Nat.zero_le _, Nat.zero_le _⟩) hw (fun r14 X14 H locs hp14 hw => ?_)
    obtain ⟨hrf14, eX14⟩ := hp14
    exact zretI (pc := 17) hx hb hlocks hr hw (Nat.zero_le _) (Nat.zero_le _) dX9_workWithin_17 (by first | (rw [eX14]; refine ⟨fun hz => by (exfalso; revert hz; (unfold cdWwi; (repeat' split) <;> omega)), by rw [up2_s]; symm; (unfold cdWwi; (repeat' split) <;> omega), ⟨ρ, hR2.own ⟨rfl, by decide⟩, hf2.trans (frR_own hR2)⟩, hls2.trans (lsR_own hR2), by rw [up2_k (by decide), h02 36 (Or.inr rfl)]; exact e362⟩) | exact ⟨fun _ => by exact hv41, by rw [h041 0 (Or.inl rfl), e02]; symm; (unfold cdWwi; (repeat' split) <;> omega), ⟨ρ41, hR41, hf41⟩, hls41, by rw [h041 36 (Or.inr rfl)]; exact e362⟩)
set_option maxHeartbeats 4000000 in
set_option maxRecDepth 100000 in
theorem c_X9_doneAt (l : Launch) (Γ : zG) (K : zK) (X : zX) (Rf : zR) (md : Nat) (fr : Int) (wk : Int) (ρ : zL) (M : zM) (hR : repR ρ K X Rf md M) (hM : okM M) (h1 : fit fr ∧ fit wk) : Ct l yX9_doneAt cX9_doneAt 3 (some .int) 91 5 5000 Γ [.ref md, .int (iI fr), .int (iI wk)] K X Rf (pI (fun (r : Int) (K' : zK) (X' : zX) (R' : zR) => (cdDon fr wk = 0 → r = dnF (wkmM M) fr wk (min (fr + 50000) 105190559)) ∧ X' md 0 = cdDon fr wk ∧ (∃ ρ', repR ρ' K' X' R' md M ∧ frR ρ K X Rf ρ' K' X' R') ∧ lsR X Rf X' R' md ∧ X' md 36 = X md 36)) := by
  refine Ct.of (by decide +kernel) (Nat.le_of_ble_eq_true rfl) ?_
  intro p e s m below meth c ls hx hb hr hml hown hG hlocks hname hw hl
  have hl : lv_has ls 3 [(0, .ref md), (1, .int (iI fr)), (2, .int (iI wk))] := hl
  obtain ⟨hmd, hlmd⟩ := id hR.1
  obtain ⟨⟨hb1, hb2, hb3, hb4⟩, hokP, hokL, hokS, hokW, hokF⟩ := id hM
  have hq1 : X md 1 = M 40 1 := hR.2.1 1 rfl
  have hq5 : X md 5 = M 40 5 := hR.2.1 5 rfl
  have hq16 : X md 16 = M 40 16 := hR.2.1 16 rfl
  have hq25 : X md 25 = M 40 25 := hR.2.1 25 rfl
  have hq26 : X md 26 = M 40 26 := hR.2.1 26 rfl
  have hq27 : X md 27 = M 40 27 := hR.2.1 27 rfl
  have hq28 : X md 28 = M 40 28 := hR.2.1 28 rfl
  have hq29 : X md 29 = M 40 29 := hR.2.1 29 rfl
  refine lv_aload_n (pc := 0) hx hb dX9_doneAt_0 rfl (lv_at hl 0 rfl) ?_
  refine ziconst (pc := 1) (n := 0) hx hb dX9_doneAt_1 ?_
  refine zputI (pc := 2) hx hb hG hown hw hmd (T := TX9) rfl 0 (by decide) rfl wf_X9_87 rfl (by decide +kernel) rfl dX9_doneAt_2 (fun H locs hw => ?_)
  obtain ⟨X2, eX2⟩ : ∃ Y : zX, Y = up2 X md 0 0 := ⟨_, rfl⟩
  rw [← eX2] at hw
  have hR2 : repR ρ K X2 Rf md M := by rw [eX2]; exact hR.own ⟨rfl, by decide⟩
  have hf2 : frR ρ K X Rf ρ K X2 Rf := by rw [eX2]; exact frR_own hR
  have h02 : ∀ q, q = 0 ∨ q = 36 → X2 md q = X2 md q := fun _ _ => rfl
  have e02 : X2 md 0 = 0 := by rw [eX2]; exact up2_s
  have e362 : X2 md 36 = X md 36 := by rw [eX2]; exact up2_k (by decide)
  have hls2 : lsR X Rf X2 Rf md := by rw [eX2]; exact lsR_own hR
  refine lv_iload_n (pc := 5) hx hb dX9_doneAt_5 rfl (lv_at hl 1 rfl) ?_
  refine zkIp (pc := 6) (zrS (As := [.int (iI fr)]) hx hb hml hown hG hw (c_X9_isMoment l Γ K X2 Rf fr  (by (first | assumption | omega))) cb_X9_isMoment wl_X9_195 rfl ⟨Nat.le_of_ble_eq_true rfl, Nat.le_of_ble_eq_true rfl⟩ hl.1 rfl (Nat.le_of_ble_eq_true rfl) dX9_doneAt_6 ⟨Nat.zero_le _, Nat.zero_le _⟩) hw (fun r6 H locs hp6 hw => ?_)
  subst hp6
  refine zif_ne (pc := 9) hx hb 18 (by omega) dX9_doneAt_9 (by decide) (fun c9 => ?_) (fun c9 => ?_)
  · skip
    replace c9 := it1 c9
    refine lv_iload_n (pc := 18) hx hb dX9_doneAt_18 rfl (lv_at hl 2 rfl) ?_
    refine ziconst (pc := 19) (n := 1) hx hb dX9_doneAt_19 ?_
    refine zsipush (pc := 20) (n := 10000) hx hb dX9_doneAt_20 rfl ?_
    refine zkIp (pc := 23) (zrS (As := [.int (iI wk), .int (iI 1), .int (iI 10000)]) hx hb hml hown hG hw (c_X9_is l Γ K X2 Rf wk 1 10000  (by (first | assumption | omega))) cb_X9_is wl_X9_91 rfl ⟨Nat.le_of_ble_eq_true rfl, Nat.le_of_ble_eq_true rfl⟩ hl.1 rfl (Nat.le_of_ble_eq_true rfl) dX9_doneAt_23 ⟨Nat.zero_le _, Nat.zero_le _⟩) hw (fun r23 H locs hp23 hw => ?_)
    subst hp23
    refine zif_eq (pc := 26) hx hb 38 (by omega) dX9_doneAt_26 (by decide) (fun c26 => ?_) (fun c26 => ?_)
    · skip
      replace c26 := it0 c26
      refine lv_aload_n (pc := 38) hx hb dX9_doneAt_38 rfl (lv_at hl 0 rfl) ?_
      refine ziconst (pc := 39) (n := 2) hx hb dX9_doneAt_39 ?_
      refine zkIx (pc := 40) (zrV (As := [.int (iI 2)]) hx hb hml hown hG hw (c_X9_refuse l Γ K X2 Rf md 2  (by (first | assumption | omega))) (T := TX9) hmd rfl cb_X9_refuse wl_X9_123 rfl ⟨Nat.le_of_ble_eq_true rfl, Nat.le_of_ble_eq_true rfl⟩ hl.1 rfl (Nat.le_of_ble_eq_true rfl) dX9_doneAt_40 ⟨Nat.zero_le _, Nat.zero_le _⟩) hw (fun r40 X40 H locs hp40 hw => ?_)
      obtain ⟨hrf40, eX40⟩ := hp40
      exact zretI (pc := 43) hx hb hlocks hr hw (Nat.zero_le _) (Nat.zero_le _) dX9_doneAt_43 (by first | (rw [eX40]; refine ⟨fun hz => by (exfalso; revert hz; (unfold cdDon; (repeat' split) <;> omega)), by rw [up2_s]; symm; (unfold cdDon; (repeat' split) <;> omega), ⟨ρ, hR2.own ⟨rfl, by decide⟩, hf2.trans (frR_own hR2)⟩, hls2.trans (lsR_own hR2), by rw [up2_k (by decide), h02 36 (Or.inr rfl)]; exact e362⟩) | exact ⟨fun _ => by exact hv32, by rw [h032 0 (Or.inl rfl), e02]; symm; (unfold cdDon; (repeat' split) <;> omega), ⟨ρ32, hR32, hf32⟩, hls32, by rw [h032 36 (Or.inr rfl)]; exact e362⟩)
    · skip
      replace c26 := it1 c26
      refine lv_aload_n (pc := 29) hx hb dX9_doneAt_29 rfl (lv_at hl 0 rfl) ?_
      refine lv_iload_n (pc := 30) hx hb dX9_doneAt_30 rfl (lv_at hl 1 rfl) ?_
      refine lv_iload_n (pc := 31) hx hb dX9_doneAt_31 rfl (lv_at hl 2 rfl) ?_
      have hdw32 := dwC_le (X := X2) (Rf := Rf) (md := md) (M := M)
      refine zkI (pc := 32) (zrV (As := [.int (iI fr), .int (iI wk)]) hx hb hml hown hG hw (c_X9_done l Γ K X2 Rf md fr wk (ρ) M (by (first | assumption | omega)) (by (first | assumption | omega)) (by (first | assumption | omega))) (T := TX9) hmd rfl cb_X9_done wl_X9_333 rfl ⟨Nat.le_of_ble_eq_true rfl, Nat.le_of_ble_eq_true rfl⟩ hl.1 rfl (Nat.le_of_ble_eq_true rfl) dX9_doneAt_32 ⟨(by show 0 + (min 5 (dwC X2 Rf md M)) ≤ 5; omega), (by show 0 + (dwC X2 Rf md M) ≤ 5000; omega)⟩) hw (fun r32 K32 X32 R32 H locs hp32 hw => ?_)
      obtain ⟨hv32, ρ32, ⟨hR32, hg32, hz32⟩, hs32, hy32⟩ := hp32
      obtain ⟨hmd32, hlm32⟩ := id hR32.1
      have hf32 := hf2.trans hg32
      have h032 := fun q hq => (hz32 q hq).trans (h02 q hq)
      have hls32 := hls2.trans hs32
      refine lv_goto (pc := 35) (tgt := 43) hx hb dX9_doneAt_35 (by decide) ?_
      exact zretI (pc := 43) hx hb hlocks hr hw (by show 0 + (min 5 (dwC X2 Rf md M)) ≤ 5; omega) (by show 0 + (dwC X2 Rf md M) ≤ 5000; omega) dX9_doneAt_43 (by first | (rw [eX32]; refine ⟨fun hz => by (exfalso; revert hz; (unfold cdDon; (repeat' split) <;> omega)), by rw [up2_s]; symm; (unfold cdDon; (repeat' split) <;> omega), ⟨ρ, hR2.own ⟨rfl, by decide⟩, hf2.trans (frR_own hR2)⟩, hls2.trans (lsR_own hR2), by rw [up2_k (by decide), h02 36 (Or.inr rfl)]; exact e362⟩) | exact ⟨fun _ => by exact hv32, by rw [h032 0 (Or.inl rfl), e02]; symm; (unfold cdDon; (repeat' split) <;> omega), ⟨ρ32, hR32, hf32⟩, hls32, by rw [h032 36 (Or.inr rfl)]; exact e362⟩)
  · skip
    replace c9 := it0 c9
    refine lv_aload_n (pc := 12) hx hb dX9_doneAt_12 rfl (lv_at hl 0 rfl) ?_
    refine ziconst (pc := 13) (n := 1) hx hb dX9_doneAt_13 ?_
    refine zkIx (pc := 14) (zrV (As := [.int (iI 1)]) hx hb hml hown hG hw (c_X9_refuse l Γ K X2 Rf md 1  (by (first | assumption | omega))) (T := TX9) hmd rfl cb_X9_refuse wl_X9_123 rfl ⟨Nat.le_of_ble_eq_true rfl, Nat.le_of_ble_eq_true rfl⟩ hl.1 rfl (Nat.le_of_ble_eq_true rfl) dX9_doneAt_14 ⟨Nat.zero_le _, Nat.zero_le _⟩) hw (fun r14 X14 H locs hp14 hw => ?_)
    obtain ⟨hrf14, eX14⟩ := hp14
    exact zretI (pc := 17) hx hb hlocks hr hw (Nat.zero_le _) (Nat.zero_le _) dX9_doneAt_17 (by first | (rw [eX14]; refine ⟨fun hz => by (exfalso; revert hz; (unfold cdDon; (repeat' split) <;> omega)), by rw [up2_s]; symm; (unfold cdDon; (repeat' split) <;> omega), ⟨ρ, hR2.own ⟨rfl, by decide⟩, hf2.trans (frR_own hR2)⟩, hls2.trans (lsR_own hR2), by rw [up2_k (by decide), h02 36 (Or.inr rfl)]; exact e362⟩) | exact ⟨fun _ => by exact hv32, by rw [h032 0 (Or.inl rfl), e02]; symm; (unfold cdDon; (repeat' split) <;> omega), ⟨ρ32, hR32, hf32⟩, hls32, by rw [h032 36 (Or.inr rfl)]; exact e362⟩)
