set_option maxHeartbeats 4000000 in
set_option maxRecDepth 100000 in
theorem c_X8_setWeek (l : Launch) (hl9 : l.stackTraces = false) (Γ : zG) (K : zK) (X : zX) (Rf : zR) (x : Nat) (w9 : Int) (ρ : zL) (M : zM) (hC : repC ρ K X Rf x M) (hM : okM M) (h1 : fit w9) : Cx l yX8_setWeek cX8_setWeek 3 (some .int) 6 1 6 Γ [.ref x, .int (iI w9)] K X Rf (pI (fun (r : Int) (K' : zK) (X' : zX) (R' : zR) => (r = M 40 26 ∧ cdWk w9 = 0) ∧ ∃ ρ', repC ρ' K' X' R' x (upM M 26 w9) ∧ frC ρ K X Rf ρ' K' X' R')) (fun E : String => E = "java/lang/IllegalArgumentException" ∧ cdWk w9 = 1) := by
  refine Cx.of (by decide +kernel) (Nat.le_of_ble_eq_true rfl) ?_
  intro p e s m below meth c ls hx hb hr hml hown hG hlocks hname ht hX hw hl
  have hl : lv_has ls 3 [(0, .ref x), (1, .int (iI w9))] := hl
  obtain ⟨⟨hk, hlx⟩, pr, pl, sr, dr, na, wo, ⟨hr0, hr2, hr4, hr6, hr7, hrd⟩, ⟨hkpr, hkpl, hksr, hkdr, hkna⟩, ⟨hlpr, hlpl, hlsr, hldr, hlna⟩, ⟨hx1, hx3, hx5⟩, hpt, hpl, hse, hwo⟩ := id hC
  obtain ⟨⟨hb1, hb2, hb3, hb4⟩, hokP, hokL, hokS, hokW, hokF⟩ := id hM
  obtain ⟨⟨hkw, hlw⟩, fe, fa, fn, p09, ⟨hw1, hw5, hw7, hrf⟩, ⟨hkfe, hkfa, hkfn⟩, ⟨hlfe, hlfa, hlfn⟩, ⟨hw0, hwk2, hwk3, hwk4, hwk6⟩, hfs, hvr, hfb, hwp⟩ := id hwo
  obtain ⟨hwb1, hwb2, hwb3, hwb4⟩ := hokW
  have hnn : X wo 6 = ((M 40 29).toNat : Int) ∧ (M 40 29).toNat ≤ 20 := by omega
  have hne9 : fa ≠ fn := zkne hkfa hkfn (by simp)
  have hnw1 : wo ≠ fn := zkne hkw hkfn (by simp)
  have hnw2 : wo ≠ fa := zkn2 hkw hkfa (by simp)
  refine lv_iload_n (pc := 0) hx hb dX8_setWeek_0 rfl (lv_at hl 1 rfl) ?_
  refine ziconst (pc := 1) (n := 1) hx hb dX8_setWeek_1 ?_
  refine zicmp_lt (pc := 2) hx hb 11 (by omega) (by omega) dX8_setWeek_2 (by decide) (fun c2 => ?_) (fun c2 => ?_)
  · skip
    exact zthrowW (pc := 11) hx hb hl9 hown hG hX hw wn_X8_56 wi_javalangIllegalArgumentException (List.mem_of_getElem? (i := 15) rfl) zthr_60 (hl.1.trans hml.symm) ht dX8_setWeek_11 dX8_setWeek_14 dX8_setWeek_15 dX8_setWeek_18 dX8_setWeek_21 (by show 6 ≤ _; exact Nat.le_of_ble_eq_true rfl) (Nat.le_of_ble_eq_true rfl) (by show 0 + 1 ≤ 1; omega) (by show 0 + 6 ≤ 6; omega) hlocks (by (try dsimp only); first | exact ⟨rfl, (by (unfold cdWk; (repeat' split) <;> omega))⟩ | exact Or.inl ⟨rfl, (by (unfold cdWk; (repeat' split) <;> omega))⟩ | exact Or.inr ⟨rfl, (by (unfold cdWk; (repeat' split) <;> omega))⟩ | exact Or.inr (Or.inl ⟨rfl, (by (unfold cdWk; (repeat' split) <;> omega))⟩) | exact Or.inr (Or.inr ⟨rfl, (by (unfold cdWk; (repeat' split) <;> omega))⟩)) (by show 0 + 1 ≤ 1; omega) (by show 0 + 6 ≤ 6; omega)
  · skip
    refine lv_iload_n (pc := 5) hx hb dX8_setWeek_5 rfl (lv_at hl 1 rfl) ?_
    refine zbipush (pc := 6) (n := 127) hx hb dX8_setWeek_6 rfl ?_
    refine zicmp_le (pc := 8) hx hb 22 (by omega) (by omega) dX8_setWeek_8 (by decide) (fun c8 => ?_) (fun c8 => ?_)
    · skip
      refine lv_aload_n (pc := 22) hx hb dX8_setWeek_22 rfl (lv_at hl 0 rfl) ?_
      refine zgetR (pc := 23) hx hb hG hown hw hk (T := TX8) rfl 7 (by decide) rfl wf_X8_49 rfl hr7 dX8_setWeek_23 ?_
      refine zgetI (pc := 26) hx hb hG hown hw hkw (T := TX7) rfl 2 (by decide) rfl wf_X8_287 rfl dX8_setWeek_26 ?_
      refine ztop (fun x29 ex29 => ?_)
      refine lv_istore_n (pc := 29) (lv' := [(2, .int (iI x29)), (0, .ref x), (1, .int (iI w9))]) hx hb dX8_setWeek_29 rfl hl (by decide) rfl (fun ls hl => ?_)
      refine lv_aload_n (pc := 30) hx hb dX8_setWeek_30 rfl (lv_at hl 1 rfl) ?_
      refine zgetR (pc := 31) hx hb hG hown hw hk (T := TX8) rfl 7 (by decide) rfl wf_X8_49 rfl hr7 dX8_setWeek_31 ?_
      refine lv_iload_n (pc := 34) hx hb dX8_setWeek_34 rfl (lv_at hl 2 rfl) ?_
      refine zputI (pc := 35) hx hb hG hown hw hkw (T := TX7) rfl 2 (by decide) rfl wf_X8_287 rfl (by decide +kernel) rfl dX8_setWeek_35 (fun H locs hw => ?_)
      obtain ⟨X35, eX35⟩ : ∃ Y : zX, Y = up2 X wo 2 w9 := ⟨_, rfl⟩
      rw [← eX35] at hw
      refine lv_iload_n (pc := 38) hx hb dX8_setWeek_38 rfl (lv_at hl 0 rfl) ?_
      exact vx_ret (zretI (pc := 39) hx hb hlocks hr hw (Nat.zero_le _) (Nat.zero_le _) dX8_setWeek_39 (by 
                                        refine ⟨⟨by omega, by (unfold cdWk; (repeat' split) <;> omega)⟩, ?_⟩
                                        rw [eX35]
                                        exact hC.wo1 hr7 (fun a ha => up2_o ha) (fun f hf => up2_o hf) (up2_k (by decide)) (up2_k (by decide)) (up2_k (by decide)) (up2_k (by decide)) (up2_k (by decide)) (up2_k (by decide)) (up2_k (by decide)) (by rw [up2_s]; exact up2_s.symm) (by rw [up2_k (by decide), hwk3]; exact (up2_k (by decide)).symm) (by rw [up2_k (by decide), hwk4]; exact (up2_k (by decide)).symm)))
    · skip
      exact zthrowW (pc := 11) hx hb hl9 hown hG hX hw wn_X8_56 wi_javalangIllegalArgumentException (List.mem_of_getElem? (i := 15) rfl) zthr_60 (hl.1.trans hml.symm) ht dX8_setWeek_11 dX8_setWeek_14 dX8_setWeek_15 dX8_setWeek_18 dX8_setWeek_21 (by show 6 ≤ _; exact Nat.le_of_ble_eq_true rfl) (Nat.le_of_ble_eq_true rfl) (by show 0 + 1 ≤ 1; omega) (by show 0 + 6 ≤ 6; omega) hlocks (by (try dsimp only); first | exact ⟨rfl, (by (unfold cdWk; (repeat' split) <;> omega))⟩ | exact Or.inl ⟨rfl, (by (unfold cdWk; (repeat' split) <;> omega))⟩ | exact Or.inr ⟨rfl, (by (unfold cdWk; (repeat' split) <;> omega))⟩ | exact Or.inr (Or.inl ⟨rfl, (by (unfold cdWk; (repeat' split) <;> omega))⟩) | exact Or.inr (Or.inr ⟨rfl, (by (unfold cdWk; (repeat' split) <;> omega))⟩)) (by show 0 + 1 ≤ 1; omega) (by show 0 + 6 ≤ 6; omega)
set_option maxHeartbeats 4000000 in
set_option maxRecDepth 100000 in
theorem c_X8_setMost (l : Launch) (hl9 : l.stackTraces = false) (Γ : zG) (K : zK) (X : zX) (Rf : zR) (x : Nat) (a : Int) (v : Int) (ρ : zL) (M : zM) (hC : repC ρ K X Rf x M) (hM : okM M) (h1 : fit a ∧ fit v) : Cx l yX8_setMost cX8_setMost 5 (some .int) 7 2 12 Γ [.ref x, .int (iI a), .int (iI v)] K X Rf (pI (fun (r : Int) (K' : zK) (X' : zX) (R' : zR) => (r = serM M a.toNat 6 ∧ cdSet M a v 0 500 = 0) ∧ ∃ ρ', repC ρ' K' X' R' x (up2 M 17 (11 * a.toNat + 6) v) ∧ frC ρ K X Rf ρ' K' X' R')) (fun E : String => (E = "java/lang/IndexOutOfBoundsException" ∧ cdSet M a v 0 500 = 1) ∨ (E = "java/lang/IllegalArgumentException" ∧ cdSet M a v 0 500 = 2)) := by
  refine Cx.of (by decide +kernel) (Nat.le_of_ble_eq_true rfl) ?_
  intro p e s m below meth c ls hx hb hr hml hown hG hlocks hname ht hX hw hl
  have hl : lv_has ls 5 [(0, .ref x), (1, .int (iI a)), (2, .int (iI v))] := hl
  obtain ⟨⟨hk, hlx⟩, pr, pl, sr, dr, na, wo, ⟨hr0, hr2, hr4, hr6, hr7, hrd⟩, ⟨hkpr, hkpl, hksr, hkdr, hkna⟩, ⟨hlpr, hlpl, hlsr, hldr, hlna⟩, ⟨hx1, hx3, hx5⟩, hpt, hpl, hse, hwo⟩ := id hC
  obtain ⟨⟨hb1, hb2, hb3, hb4⟩, hokP, hokL, hokS, hokW, hokF⟩ := id hM
  obtain ⟨M2, hM2⟩ : ∃ M2, M2 = up2 M 17 (11 * a.toNat + 6) v := ⟨_, rfl⟩
  have hsj : ∀ j, serM M2 a.toNat j = if j = 6 then v else serM M a.toNat j := fun j => by rw [hM2]; exact serM_sam (by decide) j
  refine lv_aload_n (pc := 0) hx hb dX8_setMost_0 rfl (lv_at hl 0 rfl) ?_
  refine lv_iload_n (pc := 1) hx hb dX8_setMost_1 rfl (lv_at hl 1 rfl) ?_
  refine zxkRp (pc := 2) (zxrV (As := [.int (iI a)]) hx hb hml hown hG hX hw (c_X8_needSeries l hl9 Γ K X Rf x a sr pl (ρ) M (by (first | assumption | omega)) (by (first | assumption | omega)) (by (first | assumption | omega)) (by (first | assumption | omega)) (by (first | assumption | omega)) (by (first | assumption | omega))) (T := TX8) hk rfl cb_X8_needSeries wl_X8_214 rfl ⟨Nat.le_of_ble_eq_true rfl, Nat.le_of_ble_eq_true rfl⟩ hl.1 rfl (Nat.le_of_ble_eq_true rfl) dX8_setMost_2 ⟨(by show 0 + 1 ≤ 2; omega), (by show 0 + 6 ≤ 12; omega)⟩) hw (fun E9 ce9 q9 H9 locs9 hxp9 hw9 hce9 hcv9 hcl9 => zxout (pc := 2) ht hlocks hw9 hce9 hcv9 hcl9 (by (obtain ⟨rfl, hq9⟩ := hxp9; (try dsimp only); first | exact ⟨rfl, (by (unfold cdSet; (repeat' split) <;> omega))⟩ | exact Or.inl ⟨rfl, (by (unfold cdSet; (repeat' split) <;> omega))⟩ | exact Or.inr ⟨rfl, (by (unfold cdSet; (repeat' split) <;> omega))⟩ | exact Or.inr (Or.inl ⟨rfl, (by (unfold cdSet; (repeat' split) <;> omega))⟩))) (by show 0 + 1 ≤ 2; omega) (by show 0 + 6 ≤ 12; omega)) (fun r2 H locs hp2 hw => ?_)
  obtain ⟨⟨hrs2, p02, hrp2, ⟨hks2, hls2⟩, po2, eo2, fo2, ⟨hr02, hr82, hr132, hr152⟩, ⟨hkpo2, hkeo2, hkfo2⟩, ⟨hlpo2, hleo2, hlfo2⟩, hD2, hS2, hU2, hUs2, hE2, hdt2⟩, his2⟩ := hp2
  have hdq2 : dtR X r2 fo2 (datM M (a).toNat) := hdt2
  have hdn2 := hdq2.1
  have hdm2 := hdq2.2.1
  have hsb2 : X r2 1 = serM M (a).toNat 1 := hD2.1.1
  have hsd2 : 0 ≤ serM M (a).toNat 1 ∧ serM M (a).toNat 1 ≤ 105190559 := hS2.1
  have hoS0 := (hokS a.toNat (by omega)).1
  have hsF : (X r2 1 = serM M a.toNat 1 ∧ X r2 2 = bdS (serM M a.toNat) ∧ X r2 6 = serM M a.toNat 8) ∧ X r2 10 = serM M a.toNat 5 ∧ X r2 11 = serM M a.toNat 6 ∧ X r2 12 = serM M a.toNat 7 := ⟨⟨hD2.1.1, hD2.1.2.1, hD2.1.2.2.2.2.2⟩, hD2.2.2.1, hD2.2.2.2.1, hD2.2.2.2.2.1⟩
  refine lv_astore_n (pc := 5) (lv' := [(3, .ref r2), (0, .ref x), (1, .int (iI a)), (2, .int (iI v))]) hx hb dX8_setMost_5 rfl hl (by decide) rfl (fun ls hl => ?_)
  refine lv_iload_n (pc := 6) hx hb dX8_setMost_6 rfl (lv_at hl 3 rfl) ?_
  refine zif_lt (pc := 7) hx hb 17 (by omega) dX8_setMost_7 (by decide) (fun c7 => ?_) (fun c7 => ?_)
  · skip
    exact zthrow (pc := 17) hx hb hl9 hown hG hX hw wn_X8_56 wi_javalangIllegalArgumentException (List.mem_of_getElem? (i := 14) rfl) zthr_60 (hl.1.trans hml.symm) ht dX8_setMost_17 dX8_setMost_20 dX8_setMost_21 dX8_setMost_23 dX8_setMost_26 (by show 6 ≤ _; exact Nat.le_of_ble_eq_true rfl) (Nat.le_of_ble_eq_true rfl) (by show 0 + 1 + 1 ≤ 2; omega) (by show 0 + 6 + 6 ≤ 12; omega) hlocks (by (try dsimp only); first | exact ⟨rfl, (by (unfold cdSet; (repeat' split) <;> omega))⟩ | exact Or.inl ⟨rfl, (by (unfold cdSet; (repeat' split) <;> omega))⟩ | exact Or.inr ⟨rfl, (by (unfold cdSet; (repeat' split) <;> omega))⟩ | exact Or.inr (Or.inl ⟨rfl, (by (unfold cdSet; (repeat' split) <;> omega))⟩) | exact Or.inr (Or.inr ⟨rfl, (by (unfold cdSet; (repeat' split) <;> omega))⟩)) (by show 0 + 1 + 1 ≤ 2; omega) (by show 0 + 6 + 6 ≤ 12; omega)
  · skip
    refine lv_iload_n (pc := 10) hx hb dX8_setMost_10 rfl (lv_at hl 3 rfl) ?_
    refine zsipush (pc := 11) (n := 500) hx hb dX8_setMost_11 rfl ?_
    refine zicmp_le (pc := 14) hx hb 27 (by omega) (by omega) dX8_setMost_14 (by decide) (fun c14 => ?_) (fun c14 => ?_)
    · skip
      refine lv_aload_n (pc := 27) hx hb dX8_setMost_27 rfl (lv_at hl 0 rfl) ?_
      refine zgetI (pc := 28) hx hb hG hown hw hks2 (T := TX5) rfl 11 (by decide) rfl wf_X8_229 rfl dX8_setMost_28 ?_
      refine ztop (fun x31 ex31 => ?_)
      refine lv_istore (pc := 31) (lv' := [(4, .int (iI x31)), (3, .ref r2), (0, .ref x), (1, .int (iI a)), (2, .int (iI v))]) hx hb dX8_setMost_31 hl (by decide) rfl (fun ls hl => ?_)
      refine lv_aload_n (pc := 33) hx hb dX8_setMost_33 rfl (lv_at hl 1 rfl) ?_
      refine lv_iload_n (pc := 34) hx hb dX8_setMost_34 rfl (lv_at hl 4 rfl) ?_
      refine zputI (pc := 35) hx hb hG hown hw hks2 (T := TX5) rfl 11 (by decide) rfl wf_X8_229 rfl (by decide +kernel) rfl dX8_setMost_35 (fun H locs hw => ?_)
      obtain ⟨X35, eX35⟩ : ∃ Y : zX, Y = up2 X r2 11 v := ⟨_, rfl⟩
      rw [← eX35] at hw
      have hoS := (hokS a.toNat (by omega)).1
      have hup : useM M2 a.toNat = useM M a.toNat := by rw [hM2]; exact useM_f (up2_o (by decide)) patM_17 _
      have hex : excM M2 a.toNat = excM M a.toNat := by rw [hM2]; exact excM_f (up2_o (by decide)) _
      have hpnz : ∀ a9, K a9 = (1, 2) → X35 a9 = X a9 := fun a9 h9 => by rw [eX35, up2_o (not_k2 hks2 (by simp) h9)]
      have hs0z : serM M2 a.toNat 0 = serM M a.toNat 0 := by rw [hsj, if_neg (by decide)]
      have hs1z : serM M2 a.toNat 1 = serM M a.toNat 1 := by rw [hsj, if_neg (by decide)]
      have hs2z : serM M2 a.toNat 2 = serM M a.toNat 2 := by rw [hsj, if_neg (by decide)]
      have hs3z : serM M2 a.toNat 3 = serM M a.toNat 3 := by rw [hsj, if_neg (by decide)]
      have hs4z : serM M2 a.toNat 4 = serM M a.toNat 4 := by rw [hsj, if_neg (by decide)]
      have hs5z : serM M2 a.toNat 5 = serM M a.toNat 5 := by rw [hsj, if_neg (by decide)]
      have hs6z : serM M2 a.toNat 6 = v := by rw [hsj, if_pos rfl]
      have hs7z : serM M2 a.toNat 7 = serM M a.toNat 7 := by rw [hsj, if_neg (by decide)]
      have hs8z : serM M2 a.toNat 8 = serM M a.toNat 8 := by rw [hsj, if_neg (by decide)]
      have hs9z : serM M2 a.toNat 9 = serM M a.toNat 9 := by rw [hsj, if_neg (by decide)]
      have hs10z : serM M2 a.toNat 10 = serM M a.toNat 10 := by rw [hsj, if_neg (by decide)]
      have hDz : serD (X35 r2) (serM M2 a.toNat) := serD_upd hD2 hs1z hs2z hs3z hs4z hs8z (by rw [eX35, up2_k (by decide), hs9z]; exact hD2.2.1) (by rw [eX35, up2_k (by decide), hs5z]; exact hD2.2.2.1) (by rw [eX35, up2_s, hs6z]) (by rw [eX35, up2_k (by decide), hs7z]; exact hD2.2.2.2.2.1) (by rw [eX35, up2_k (by decide), hs10z]; exact hD2.2.2.2.2.2) (fun q9 h9 => by rw [eX35, up2_k (by omega)])
      have hbdz : bdS (serM M2 a.toNat) = bdS (serM M a.toNat) := by unfold bdS; rw [hs1z]
      have hoz : okS (serM M2 a.toNat) := by omega
      have hUz : upOK K X35 Rf po2 (serM M2 a.toNat) (useM M2 a.toNat) := fun k9 h9 => by rw [hup]; obtain ⟨pa9, g1, g2, g3, g4⟩ := hU2 k9 (by omega); exact ⟨pa9, g1, g2, by rw [hpnz pa9 g2]; exact g3, by rw [hpnz pa9 g2]; exact g4⟩
      have hUsz : usOK K X35 Rf r2 (serM M2 a.toNat) := usOK_upd hUs2 hs1z hs2z hpnz rfl
      have hnez1 : eo2 ≠ r2 := zkne hkeo2 hks2 (by simp)
      have hEz : ∀ k9 : Nat, (k9 : Int) < serM M2 a.toNat 10 → X35 eo2 k9 = excM M2 a.toNat k9 ∧ 0 ≤ excM M2 a.toNat k9 ∧ excM M2 a.toNat k9 ≤ 73048 := fun k9 h9 => by rw [hex, eX35, up2_o hnez1]; exact hE2 k9 (by omega)
      refine lv_aload_n (pc := 38) hx hb dX8_setMost_38 rfl (lv_at hl 1 rfl) ?_
      refine lv_aload_n (pc := 39) hx hb dX8_setMost_39 rfl (lv_at hl 2 rfl) ?_
      refine zgetR (pc := 40) hx hb hG hown hw hk (T := TX8) rfl 6 (by decide) rfl wf_X8_42 rfl hr6 dX8_setMost_40 ?_
      refine zkVx (pc := 43) (zrV (As := [.ref dr]) hx hb hml hown hG hw (c_X5_findDates l Γ K X35 Rf r2 dr (serM M2 a.toNat) (useM M2 a.toNat) (excM M2 a.toNat) po2 eo2 fo2 na (by (first | assumption | omega)) (by (first | assumption | omega)) (by (first | assumption | omega)) (by (first | assumption | omega)) (by (first | assumption | omega)) (by (first | assumption | omega)) (by (first | assumption | omega)) (by (first | assumption | omega)) (by (first | assumption | omega)) (by (first | assumption | omega)) (by (first | assumption | omega)) (by (first | assumption | omega)) (by (first | assumption | omega)) (by (first | assumption | omega)) (by (first | assumption | omega))) (T := TX5) hks2 rfl cb_X5_findDates wl_X8_210 rfl ⟨Nat.le_of_ble_eq_true rfl, Nat.le_of_ble_eq_true rfl⟩ hl.1 rfl (Nat.le_of_ble_eq_true rfl) dX8_setMost_43 ⟨(by show 0 + 1 + 0 ≤ 2; omega), (by show 0 + 6 + 0 ≤ 12; omega)⟩) hw (fun X43 H locs hp43 hw => ?_)
      refine lv_iload (pc := 46) hx hb dX8_setMost_46 (lv_at hl 0 rfl) ?_
      exact vx_ret (zretI (pc := 48) hx hb hlocks hr hw (by show 0 + 1 ≤ 2; omega) (by show 0 + 6 ≤ 12; omega) dX8_setMost_48 (by 
                                        refine ⟨⟨by omega, by (unfold cdSet; (repeat' split) <;> omega)⟩, ?_⟩
                                        obtain ⟨hrp9, hoo9, hqq9⟩ := hp43
                                        rw [← hM2]
                                        have hnf : r2 ≠ fo2 := zkne hks2 hkfo2 (by simp)
                                        have hnd : r2 ≠ dr := zkn2 hks2 hkdr (by simp)
                                        have hnn : r2 ≠ na := zkne hks2 hkna (by simp)
                                        refine hC.ser (n := a.toNat) hr4 (by omega) hrs2 hr6 hrd hr82 hr132 hr152 (fun a9 g1 g2 g3 g4 g5 g6 => ⟨by rw [hoo9 a9 g1 g2 g3 g4, eX35, up2_o g1], rfl⟩) rfl (fun f g1 g2 g3 => by rw [hM2]; exact up2_o g1) (fun k9 g => ⟨by rw [hM2]; exact serM_oth (by decide) g, by rw [hM2]; exact useM_f (up2_o (by decide)) patM_17 _, by rw [hM2]; exact excM_f (up2_o (by decide)) _⟩) hs0z (fun p9 g => ?_)
                                        have hne2 : eo2 ≠ fo2 := zkn2 hkeo2 hkfo2 (by simp)
                                        have hne3 : eo2 ≠ dr := zkne hkeo2 hkdr (by simp)
                                        have hne4 : eo2 ≠ na := zkn2 hkeo2 hkna (by simp)
                                        exact seA_new (Rf := Rf) ⟨hks2, hls2⟩ ⟨g, hr82, hr132, hr152⟩ ⟨hkpo2, hkeo2, hkfo2⟩ ⟨hlpo2, hleo2, hlfo2⟩ hDz hoz hUz hUsz hEz (fun a9 h9 => hoo9 a9 (not_k2 hks2 (by simp) h9) (not_k2 hkfo2 (by simp) h9) (not_k2 hkdr (by simp) h9) (not_k2 hkna (by simp) h9)) (hoo9 eo2 hnez1 hne2 hne3 hne4) hqq9 hrp9))
    · skip
      exact zthrow (pc := 17) hx hb hl9 hown hG hX hw wn_X8_56 wi_javalangIllegalArgumentException (List.mem_of_getElem? (i := 14) rfl) zthr_60 (hl.1.trans hml.symm) ht dX8_setMost_17 dX8_setMost_20 dX8_setMost_21 dX8_setMost_23 dX8_setMost_26 (by show 6 ≤ _; exact Nat.le_of_ble_eq_true rfl) (Nat.le_of_ble_eq_true rfl) (by show 0 + 1 + 1 ≤ 2; omega) (by show 0 + 6 + 6 ≤ 12; omega) hlocks (by (try dsimp only); first | exact ⟨rfl, (by (unfold cdSet; (repeat' split) <;> omega))⟩ | exact Or.inl ⟨rfl, (by (unfold cdSet; (repeat' split) <;> omega))⟩ | exact Or.inr ⟨rfl, (by (unfold cdSet; (repeat' split) <;> omega))⟩ | exact Or.inr (Or.inl ⟨rfl, (by (unfold cdSet; (repeat' split) <;> omega))⟩) | exact Or.inr (Or.inr ⟨rfl, (by (unfold cdSet; (repeat' split) <;> omega))⟩)) (by show 0 + 1 + 1 ≤ 2; omega) (by show 0 + 6 + 6 ≤ 12; omega)
