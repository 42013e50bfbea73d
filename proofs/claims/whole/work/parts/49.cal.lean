set_option maxHeartbeats 4000000 in
set_option maxRecDepth 100000 in
theorem c_X8_setWeek (l : Launch) (hl9 : l.stackTraces = false) (Γ : zG) (K : zK) (X : zX) (Rf : zR) (x : Nat) (w9 : Int) (ρ : zL) (M : zM) (hC : repC ρ K X Rf x M) (hM : okM M) (h1 : fit w9) : Cx l yX8_setWeek cX8_setWeek 3 (some .int) 6 1 6 Γ [.ref x, .int (iI w9)] K X Rf (pI (fun (r : Int) (K' : zK) (X' : zX) (R' : zR) => (r = M 40 26 ∧ cdWk w9 = 0) ∧ ∃ ρ', repC ρ' K' X' R' x (upM M 26 w9) ∧ frC ρ K X Rf ρ' K' X' R')) (fun E : String => E = "java/lang/IllegalArgumentException" ∧ cdWk w9 = 1) := by
  refine Cx.of (by decide +kernel) (Nat.le_of_ble_eq_true rfl) ?_
  intro p e s m below meth c ls hx hb hr hml hown hG hlocks hname ht hX hw hl
  have hl : lv_has ls 3 [(0, .ref x), (1, .int (iI w9))] := hl
  obtain ⟨⟨hk, hlx⟩, pr, pl, sr, dr, na, wo, ⟨hr0, hr2, hr4, hr6, hr7, hrd⟩, ⟨hkpr, hkpl, hksr, hkdr, hkna⟩, ⟨hlpr, hlpl, hlsr, hldr, hlna⟩, ⟨hx1, hx3, hx5⟩, hpt, hpl, hse, hwo⟩ := id hC
  obtain ⟨⟨hb1, hb2, hb3, hb4⟩, hokP, hokL, hokS, hokW, hokF⟩ := id hM
  obtain ⟨⟨hkw, hlw⟩, fe, fa, fn, p09, ⟨hw1, hw5, hw7, hrf⟩, ⟨hkfe, hkfa, hkfn⟩, ⟨hlfe, hlfa, hlfn⟩, ⟨hw0, hwk2, hwk3, hwk4, hwk6⟩, hfs, hvr, hfb, hwp⟩ := id hwo
  obtain ⟨hwb1, hwb2, hwb3, hwb4⟩ := hokW
  have hnn : X wo 6 = ((M 40 29).toNat : Int) ∧ (M 40 29).toNat ≤ 20 := by omega
  have hne9 : fa ≠ fn := zkne hkfa hkfn (by simp)
  have hnw1 : wo ≠ fn := zkne hkw hkfn (by simp)
  have hnw2 : wo ≠ fa := zkn2 hkw hkfa (by simp)
  refine lv_iload_n (pc := 0) hx hb dX8_setWeek_0 rfl (lv_at hl 1 rfl) ?_
  refine ziconst (pc := 1) (n := 1) hx hb dX8_setWeek_1 ?_
  refine zicmp_lt (pc := 2) hx hb 11 (by omega) (by omega) dX8_setWeek_2 (by decide) (fun c2 => ?_) (fun c2 => ?_)
  · skip
    exact zthrowW (pc := 11) hx hb hl9 hown hG hX hw wn_X8_56 wi_javalangIllegalArgumentException (List.mem_of_getElem? (i := 28) rfl) zthr_60 (hl.1.trans hml.symm) ht dX8_setWeek_11 dX8_setWeek_14 dX8_setWeek_15 dX8_setWeek_18 dX8_setWeek_21 (by show 6 ≤ _; exact Nat.le_of_ble_eq_true rfl) (Nat.le_of_ble_eq_true rfl) (by show 0 + 1 ≤ 1; omega) (by show 0 + 6 ≤ 6; omega) hlocks (by (try dsimp only); first | exact ⟨rfl, (by (unfold cdWk; (repeat' split) <;> omega))⟩ | exact Or.inl ⟨rfl, (by (unfold cdWk; (repeat' split) <;> omega))⟩ | exact Or.inr ⟨rfl, (by (unfold cdWk; (repeat' split) <;> omega))⟩ | exact Or.inr (Or.inl ⟨rfl, (by (unfold cdWk; (repeat' split) <;> omega))⟩) | exact Or.inr (Or.inr ⟨rfl, (by (unfold cdWk; (repeat' split) <;> omega))⟩)) (by show 0 + 1 ≤ 1; omega) (by show 0 + 6 ≤ 6; omega)
  · skip
    refine lv_iload_n (pc := 5) hx hb dX8_setWeek_5 rfl (lv_at hl 1 rfl) ?_
    refine zbipush (pc := 6) (n := 127) hx hb dX8_setWeek_6 rfl ?_
    refine zicmp_le (pc := 8) hx hb 22 (by omega) (by omega) dX8_setWeek_8 (by decide) (fun c8 => ?_) (fun c8 => ?_)
    · skip
      refine lv_aload_n (pc := 22) hx hb dX8_setWeek_22 rfl (lv_at hl 0 rfl) ?_
      refine zgetR (pc := 23) hx hb hG hown hw hk (T := TX8) rfl 7 (by decide) rfl wf_X8_49 rfl hr7 dX8_setWeek_23 ?_
      refine zgetI (pc := 26) hx hb hG hown hw hkw (T := TX7) rfl 2 (by decide) rfl wf_X8_287 rfl dX8_setWeek_26 ?_
      refine ztop (fun x29 ex29 => ?_)
      refine lv_istore_n (pc := 29) (lv' := [(2, .int (iI x29)), (0, .ref x), (1, .int (iI w9))]) hx hb dX8_setWeek_29 rfl hl (by decide) rfl (fun ls hl => ?_)
      refine lv_aload_n (pc := 30) hx hb dX8_setWeek_30 rfl (lv_at hl 1 rfl) ?_
      refine zgetR (pc := 31) hx hb hG hown hw hk (T := TX8) rfl 7 (by decide) rfl wf_X8_49 rfl hr7 dX8_setWeek_31 ?_
      refine lv_iload_n (pc := 34) hx hb dX8_setWeek_34 rfl (lv_at hl 2 rfl) ?_
      refine zputI (pc := 35) hx hb hG hown hw hkw (T := TX7) rfl 2 (by decide) rfl wf_X8_287 rfl (by decide +kernel) rfl dX8_setWeek_35 (fun H locs hw => ?_)
      obtain ⟨X35, eX35⟩ : ∃ Y : zX, Y = up2 X wo 2 w9 := ⟨_, rfl⟩
      rw [← eX35] at hw
      refine lv_iload_n (pc := 38) hx hb dX8_setWeek_38 rfl (lv_at hl 0 rfl) ?_
      exact vx_ret (zretI (pc := 39) hx hb hlocks hr hw (Nat.zero_le _) (Nat.zero_le _) dX8_setWeek_39 (by 
                                        refine ⟨⟨by omega, by (unfold cdWk; (repeat' split) <;> omega)⟩, ?_⟩
                                        rw [eX35]
                                        exact hC.wo1 hr7 (fun a ha => up2_o ha) (fun f hf => up2_o hf) (up2_k (by decide)) (up2_k (by decide)) (up2_k (by decide)) (up2_k (by decide)) (up2_k (by decide)) (up2_k (by decide)) (up2_k (by decide)) (by rw [up2_s]; exact up2_s.symm) (by rw [up2_k (by decide), hwk3]; exact (up2_k (by decide)).symm) (by rw [up2_k (by decide), hwk4]; exact (up2_k (by decide)).symm)))
    · skip
      exact zthrowW (pc := 11) hx hb hl9 hown hG hX hw wn_X8_56 wi_javalangIllegalArgumentException (List.mem_of_getElem? (i := 28) rfl) zthr_60 (hl.1.trans hml.symm) ht dX8_setWeek_11 dX8_setWeek_14 dX8_setWeek_15 dX8_setWeek_18 dX8_setWeek_21 (by show 6 ≤ _; exact Nat.le_of_ble_eq_true rfl) (Nat.le_of_ble_eq_true rfl) (by show 0 + 1 ≤ 1; omega) (by show 0 + 6 ≤ 6; omega) hlocks (by (try dsimp only); first | exact ⟨rfl, (by (unfold cdWk; (repeat' split) <;> omega))⟩ | exact Or.inl ⟨rfl, (by (unfold cdWk; (repeat' split) <;> omega))⟩ | exact Or.inr ⟨rfl, (by (unfold cdWk; (repeat' split) <;> omega))⟩ | exact Or.inr (Or.inl ⟨rfl, (by (unfold cdWk; (repeat' split) <;> omega))⟩) | exact Or.inr (Or.inr ⟨rfl, (by (unfold cdWk; (repeat' split) <;> omega))⟩)) (by show 0 + 1 ≤ 1; omega) (by show 0 + 6 ≤ 6; omega)
set_option maxHeartbeats 4000000 in
set_option maxRecDepth 100000 in
theorem c_X8_setHours (l : Launch) (hl9 : l.stackTraces = false) (Γ : zG) (K : zK) (X : zX) (Rf : zR) (x : Nat) (f9 : Int) (l9 : Int) (ρ : zL) (M : zM) (hC : repC ρ K X Rf x M) (hM : okM M) (h1 : fit f9 ∧ fit l9) : Cx l yX8_setHours cX8_setHours 3 (some .int) 6 1 6 Γ [.ref x, .int (iI f9), .int (iI l9)] K X Rf (pI (fun (r : Int) (K' : zK) (X' : zX) (R' : zR) => (r = l9 - f9 ∧ cdHr f9 l9 = 0) ∧ ∃ ρ', repC ρ' K' X' R' x (upM (upM M 27 f9) 28 l9) ∧ frC ρ K X Rf ρ' K' X' R')) (fun E : String => E = "java/lang/IllegalArgumentException" ∧ cdHr f9 l9 = 1) := by
  refine Cx.of (by decide +kernel) (Nat.le_of_ble_eq_true rfl) ?_
  intro p e s m below meth c ls hx hb hr hml hown hG hlocks hname ht hX hw hl
  have hl : lv_has ls 3 [(0, .ref x), (1, .int (iI f9)), (2, .int (iI l9))] := hl
  obtain ⟨⟨hk, hlx⟩, pr, pl, sr, dr, na, wo, ⟨hr0, hr2, hr4, hr6, hr7, hrd⟩, ⟨hkpr, hkpl, hksr, hkdr, hkna⟩, ⟨hlpr, hlpl, hlsr, hldr, hlna⟩, ⟨hx1, hx3, hx5⟩, hpt, hpl, hse, hwo⟩ := id hC
  obtain ⟨⟨hb1, hb2, hb3, hb4⟩, hokP, hokL, hokS, hokW, hokF⟩ := id hM
  obtain ⟨⟨hkw, hlw⟩, fe, fa, fn, p09, ⟨hw1, hw5, hw7, hrf⟩, ⟨hkfe, hkfa, hkfn⟩, ⟨hlfe, hlfa, hlfn⟩, ⟨hw0, hwk2, hwk3, hwk4, hwk6⟩, hfs, hvr, hfb, hwp⟩ := id hwo
  obtain ⟨hwb1, hwb2, hwb3, hwb4⟩ := hokW
  have hnn : X wo 6 = ((M 40 29).toNat : Int) ∧ (M 40 29).toNat ≤ 20 := by omega
  have hne9 : fa ≠ fn := zkne hkfa hkfn (by simp)
  have hnw1 : wo ≠ fn := zkne hkw hkfn (by simp)
  have hnw2 : wo ≠ fa := zkn2 hkw hkfa (by simp)
  refine lv_iload_n (pc := 0) hx hb dX8_setHours_0 rfl (lv_at hl 1 rfl) ?_
  refine zif_lt (pc := 1) hx hb 11 (by omega) dX8_setHours_1 (by decide) (fun c1 => ?_) (fun c1 => ?_)
  · skip
    exact zthrowW (pc := 11) hx hb hl9 hown hG hX hw wn_X8_56 wi_javalangIllegalArgumentException (List.mem_of_getElem? (i := 29) rfl) zthr_60 (hl.1.trans hml.symm) ht dX8_setHours_11 dX8_setHours_14 dX8_setHours_15 dX8_setHours_18 dX8_setHours_21 (by show 6 ≤ _; exact Nat.le_of_ble_eq_true rfl) (Nat.le_of_ble_eq_true rfl) (by show 0 + 1 ≤ 1; omega) (by show 0 + 6 ≤ 6; omega) hlocks (by (try dsimp only); first | exact ⟨rfl, (by (unfold cdHr; (repeat' split) <;> omega))⟩ | exact Or.inl ⟨rfl, (by (unfold cdHr; (repeat' split) <;> omega))⟩ | exact Or.inr ⟨rfl, (by (unfold cdHr; (repeat' split) <;> omega))⟩ | exact Or.inr (Or.inl ⟨rfl, (by (unfold cdHr; (repeat' split) <;> omega))⟩) | exact Or.inr (Or.inr ⟨rfl, (by (unfold cdHr; (repeat' split) <;> omega))⟩)) (by show 0 + 1 ≤ 1; omega) (by show 0 + 6 ≤ 6; omega)
  · skip
    refine lv_iload_n (pc := 4) hx hb dX8_setHours_4 rfl (lv_at hl 1 rfl) ?_
    refine zsipush (pc := 5) (n := 1440) hx hb dX8_setHours_5 rfl ?_
    refine zicmp_lt (pc := 8) hx hb 22 (by omega) (by omega) dX8_setHours_8 (by decide) (fun c8 => ?_) (fun c8 => ?_)
    · skip
      refine lv_iload_n (pc := 22) hx hb dX8_setHours_22 rfl (lv_at hl 2 rfl) ?_
      refine lv_iload_n (pc := 23) hx hb dX8_setHours_23 rfl (lv_at hl 1 rfl) ?_
      refine zicmp_le (pc := 24) hx hb 34 (by omega) (by omega) dX8_setHours_24 (by decide) (fun c24 => ?_) (fun c24 => ?_)
      · skip
        exact zthrowW (pc := 34) hx hb hl9 hown hG hX hw wn_X8_56 wi_javalangIllegalArgumentException (List.mem_of_getElem? (i := 30) rfl) zthr_60 (hl.1.trans hml.symm) ht dX8_setHours_34 dX8_setHours_37 dX8_setHours_38 dX8_setHours_41 dX8_setHours_44 (by show 6 ≤ _; exact Nat.le_of_ble_eq_true rfl) (Nat.le_of_ble_eq_true rfl) (by show 0 + 1 ≤ 1; omega) (by show 0 + 6 ≤ 6; omega) hlocks (by (try dsimp only); first | exact ⟨rfl, (by (unfold cdHr; (repeat' split) <;> omega))⟩ | exact Or.inl ⟨rfl, (by (unfold cdHr; (repeat' split) <;> omega))⟩ | exact Or.inr ⟨rfl, (by (unfold cdHr; (repeat' split) <;> omega))⟩ | exact Or.inr (Or.inl ⟨rfl, (by (unfold cdHr; (repeat' split) <;> omega))⟩) | exact Or.inr (Or.inr ⟨rfl, (by (unfold cdHr; (repeat' split) <;> omega))⟩)) (by show 0 + 1 ≤ 1; omega) (by show 0 + 6 ≤ 6; omega)
      · skip
        refine lv_iload_n (pc := 27) hx hb dX8_setHours_27 rfl (lv_at hl 2 rfl) ?_
        refine zsipush (pc := 28) (n := 1440) hx hb dX8_setHours_28 rfl ?_
        refine zicmp_le (pc := 31) hx hb 45 (by omega) (by omega) dX8_setHours_31 (by decide) (fun c31 => ?_) (fun c31 => ?_)
        · skip
          refine lv_aload_n (pc := 45) hx hb dX8_setHours_45 rfl (lv_at hl 0 rfl) ?_
          refine zgetR (pc := 46) hx hb hG hown hw hk (T := TX8) rfl 7 (by decide) rfl wf_X8_49 rfl hr7 dX8_setHours_46 ?_
          refine lv_iload_n (pc := 49) hx hb dX8_setHours_49 rfl (lv_at hl 1 rfl) ?_
          refine zputI (pc := 50) hx hb hG hown hw hkw (T := TX7) rfl 3 (by decide) rfl wf_X8_294 rfl (by decide +kernel) rfl dX8_setHours_50 (fun H locs hw => ?_)
          obtain ⟨X50, eX50⟩ : ∃ Y : zX, Y = up2 X wo 3 f9 := ⟨_, rfl⟩
          rw [← eX50] at hw
          refine lv_aload_n (pc := 53) hx hb dX8_setHours_53 rfl (lv_at hl 0 rfl) ?_
          refine zgetR (pc := 54) hx hb hG hown hw hk (T := TX8) rfl 7 (by decide) rfl wf_X8_49 rfl hr7 dX8_setHours_54 ?_
          refine lv_iload_n (pc := 57) hx hb dX8_setHours_57 rfl (lv_at hl 2 rfl) ?_
          refine zputI (pc := 58) hx hb hG hown hw hkw (T := TX7) rfl 4 (by decide) rfl wf_X8_297 rfl (by decide +kernel) rfl dX8_setHours_58 (fun H locs hw => ?_)
          obtain ⟨X58, eX58⟩ : ∃ Y : zX, Y = up2 X50 wo 4 l9 := ⟨_, rfl⟩
          rw [← eX58] at hw
          refine lv_iload_n (pc := 61) hx hb dX8_setHours_61 rfl (lv_at hl 2 rfl) ?_
          refine lv_iload_n (pc := 62) hx hb dX8_setHours_62 rfl (lv_at hl 1 rfl) ?_
          refine zsub (pc := 63) hx hb dX8_setHours_63 ?_
          exact vx_ret (zretI (pc := 64) hx hb hlocks hr hw (Nat.zero_le _) (Nat.zero_le _) dX8_setHours_64 (by 
                                        refine ⟨⟨by omega, by (unfold cdHr; (repeat' split) <;> omega)⟩, ?_⟩
                                        rw [eX58, eX50]
                                        exact hC.wo1 hr7 (fun a ha => by rw [up2_o ha, up2_o ha]) (fun f hf => by unfold upM; rw [up2_o hf, up2_o hf]) (by unfold upM; rw [up2_k (by decide), up2_k (by decide)]) (by unfold upM; rw [up2_k (by decide), up2_k (by decide)]) (by unfold upM; rw [up2_k (by decide), up2_k (by decide)]) (by unfold upM; rw [up2_k (by decide), up2_k (by decide)]) (by unfold upM; rw [up2_k (by decide), up2_k (by decide)]) (by rw [up2_k (by decide), up2_k (by decide)]) (by rw [up2_k (by decide), up2_k (by decide)]) (by rw [up2_k (by decide), up2_k (by decide), hwk2]; unfold upM; rw [up2_k (by decide), up2_k (by decide)]) (by rw [up2_k (by decide), up2_s]; unfold upM; rw [up2_k (by decide), up2_s]) (by rw [up2_s]; unfold upM; rw [up2_s])))
        · skip
          exact zthrowW (pc := 34) hx hb hl9 hown hG hX hw wn_X8_56 wi_javalangIllegalArgumentException (List.mem_of_getElem? (i := 30) rfl) zthr_60 (hl.1.trans hml.symm) ht dX8_setHours_34 dX8_setHours_37 dX8_setHours_38 dX8_setHours_41 dX8_setHours_44 (by show 6 ≤ _; exact Nat.le_of_ble_eq_true rfl) (Nat.le_of_ble_eq_true rfl) (by show 0 + 1 ≤ 1; omega) (by show 0 + 6 ≤ 6; omega) hlocks (by (try dsimp only); first | exact ⟨rfl, (by (unfold cdHr; (repeat' split) <;> omega))⟩ | exact Or.inl ⟨rfl, (by (unfold cdHr; (repeat' split) <;> omega))⟩ | exact Or.inr ⟨rfl, (by (unfold cdHr; (repeat' split) <;> omega))⟩ | exact Or.inr (Or.inl ⟨rfl, (by (unfold cdHr; (repeat' split) <;> omega))⟩) | exact Or.inr (Or.inr ⟨rfl, (by (unfold cdHr; (repeat' split) <;> omega))⟩)) (by show 0 + 1 ≤ 1; omega) (by show 0 + 6 ≤ 6; omega)
    · skip
      exact zthrowW (pc := 11) hx hb hl9 hown hG hX hw wn_X8_56 wi_javalangIllegalArgumentException (List.mem_of_getElem? (i := 29) rfl) zthr_60 (hl.1.trans hml.symm) ht dX8_setHours_11 dX8_setHours_14 dX8_setHours_15 dX8_setHours_18 dX8_setHours_21 (by show 6 ≤ _; exact Nat.le_of_ble_eq_true rfl) (Nat.le_of_ble_eq_true rfl) (by show 0 + 1 ≤ 1; omega) (by show 0 + 6 ≤ 6; omega) hlocks (by (try dsimp only); first | exact ⟨rfl, (by (unfold cdHr; (repeat' split) <;> omega))⟩ | exact Or.inl ⟨rfl, (by (unfold cdHr; (repeat' split) <;> omega))⟩ | exact Or.inr ⟨rfl, (by (unfold cdHr; (repeat' split) <;> omega))⟩ | exact Or.inr (Or.inl ⟨rfl, (by (unfold cdHr; (repeat' split) <;> omega))⟩) | exact Or.inr (Or.inr ⟨rfl, (by (unfold cdHr; (repeat' split) <;> omega))⟩)) (by show 0 + 1 ≤ 1; omega) (by show 0 + 6 ≤ 6; omega)
set_option maxHeartbeats 4000000 in
set_option maxRecDepth 100000 in
theorem c_X8_setWorkPlace (l : Launch) (hl9 : l.stackTraces = false) (Γ : zG) (K : zK) (X : zX) (Rf : zR) (x : Nat) (a : Int) (ρ : zL) (M : zM) (hC : repC ρ K X Rf x M) (hM : okM M) (h1 : fit a) : Cx l yX8_setWorkPlace cX8_setWorkPlace 4 (some .int) 7 1 6 Γ [.ref x, .int (iI a)] K X Rf (pI (fun (r : Int) (K' : zK) (X' : zX) (R' : zR) => (r = M 40 25 ∧ cdPl M a = 0) ∧ ∃ ρ', repC ρ' K' X' R' x (upM M 25 a) ∧ frC ρ K X Rf ρ' K' X' R')) (fun E : String => E = "java/lang/IndexOutOfBoundsException" ∧ cdPl M a = 1) := by
  refine Cx.of (by decide +kernel) (Nat.le_of_ble_eq_true rfl) ?_
  intro p e s m below meth c ls hx hb hr hml hown hG hlocks hname ht hX hw hl
  have hl : lv_has ls 4 [(0, .ref x), (1, .int (iI a))] := hl
  obtain ⟨⟨hk, hlx⟩, pr, pl, sr, dr, na, wo, ⟨hr0, hr2, hr4, hr6, hr7, hrd⟩, ⟨hkpr, hkpl, hksr, hkdr, hkna⟩, ⟨hlpr, hlpl, hlsr, hldr, hlna⟩, ⟨hx1, hx3, hx5⟩, hpt, hpl, hse, hwo⟩ := id hC
  obtain ⟨⟨hb1, hb2, hb3, hb4⟩, hokP, hokL, hokS, hokW, hokF⟩ := id hM
  obtain ⟨⟨hkw, hlw⟩, fe, fa, fn, p09, ⟨hw1, hw5, hw7, hrf⟩, ⟨hkfe, hkfa, hkfn⟩, ⟨hlfe, hlfa, hlfn⟩, ⟨hw0, hwk2, hwk3, hwk4, hwk6⟩, hfs, hvr, hfb, hwp⟩ := id hwo
  obtain ⟨hwb1, hwb2, hwb3, hwb4⟩ := hokW
  have hnn : X wo 6 = ((M 40 29).toNat : Int) ∧ (M 40 29).toNat ≤ 20 := by omega
  have hne9 : fa ≠ fn := zkne hkfa hkfn (by simp)
  have hnw1 : wo ≠ fn := zkne hkw hkfn (by simp)
  have hnw2 : wo ≠ fa := zkn2 hkw hkfa (by simp)
  refine lv_aload_n (pc := 0) hx hb dX8_setWorkPlace_0 rfl (lv_at hl 0 rfl) ?_
  refine lv_iload_n (pc := 1) hx hb dX8_setWorkPlace_1 rfl (lv_at hl 1 rfl) ?_
  refine zxkRp (pc := 2) (zxrV (As := [.int (iI a)]) hx hb hml hown hG hX hw (c_X8_needPlace l hl9 Γ K X Rf x a pl (ρ) M (by (first | assumption | omega)) (by (first | assumption | omega)) (by (first | assumption | omega)) (by (first | assumption | omega)) (by (first | assumption | omega)) (by (first | assumption | omega))) (T := TX8) hk rfl cb_X8_needPlace wl_X8_143 rfl ⟨Nat.le_of_ble_eq_true rfl, Nat.le_of_ble_eq_true rfl⟩ hl.1 rfl (Nat.le_of_ble_eq_true rfl) dX8_setWorkPlace_2 ⟨(by show 0 + 1 ≤ 1; omega), (by show 0 + 6 ≤ 6; omega)⟩) hw (fun E9 ce9 q9 H9 locs9 hxp9 hw9 hce9 hcv9 hcl9 => zxout (pc := 2) ht hlocks hw9 hce9 hcv9 hcl9 (by (obtain ⟨rfl, hq9⟩ := hxp9; (try dsimp only); first | exact ⟨rfl, (by (unfold cdPl; (repeat' split) <;> omega))⟩ | exact Or.inl ⟨rfl, (by (unfold cdPl; (repeat' split) <;> omega))⟩ | exact Or.inr ⟨rfl, (by (unfold cdPl; (repeat' split) <;> omega))⟩ | exact Or.inr (Or.inl ⟨rfl, (by (unfold cdPl; (repeat' split) <;> omega))⟩))) (by show 0 + 1 ≤ 1; omega) (by show 0 + 6 ≤ 6; omega)) (fun r2 H locs hp2 hw => ?_)
  obtain ⟨⟨hrp2, ⟨hkp2, hlp2⟩, tu2, to2, be2, sa2, ⟨hr12, hr32, hr42, hr52⟩, ⟨hk12, hk32, hk42, hk52⟩, ⟨hl12, hl32, hl42, hl52⟩, htu2, hn62, hct2, ⟨hbs2, hbr2⟩, hpp2⟩, hip2⟩ := hp2
  have hbs92 : -840 ≤ X r2 0 ∧ X r2 0 ≤ 840 := by omega
  have hpq2 : prep (X be2) (X sa2) (X r2 6) (savM M (a).toNat) := hpp2
  refine lv_astore_n (pc := 5) (lv' := [(2, .ref r2), (0, .ref x), (1, .int (iI a))]) hx hb dX8_setWorkPlace_5 rfl hl (by decide) rfl (fun ls hl => ?_)
  refine lv_aload_n (pc := 6) hx hb dX8_setWorkPlace_6 rfl (lv_at hl 1 rfl) ?_
  refine zgetR (pc := 7) hx hb hG hown hw hk (T := TX8) rfl 7 (by decide) rfl wf_X8_49 rfl hr7 dX8_setWorkPlace_7 ?_
  refine zgetI (pc := 10) hx hb hG hown hw hkw (T := TX7) rfl 0 (by decide) rfl wf_X8_278 rfl dX8_setWorkPlace_10 ?_
  refine ztop (fun x13 ex13 => ?_)
  refine lv_istore_n (pc := 13) (lv' := [(3, .int (iI x13)), (2, .ref r2), (0, .ref x), (1, .int (iI a))]) hx hb dX8_setWorkPlace_13 rfl hl (by decide) rfl (fun ls hl => ?_)
  refine lv_aload_n (pc := 14) hx hb dX8_setWorkPlace_14 rfl (lv_at hl 2 rfl) ?_
  refine zgetR (pc := 15) hx hb hG hown hw hk (T := TX8) rfl 7 (by decide) rfl wf_X8_49 rfl hr7 dX8_setWorkPlace_15 ?_
  refine lv_aload_n (pc := 18) hx hb dX8_setWorkPlace_18 rfl (lv_at hl 1 rfl) ?_
  refine zputR (pc := 19) hx hb hG hown hw hkw (T := TX7) (ty := .object "ZoneCalendar$Place") rfl 1 (by decide) rfl wf_X8_281 rfl (by decide +kernel) rfl rfl rfl dX8_setWorkPlace_19 (fun H locs hw => ?_)
  obtain ⟨R19, eR19⟩ : ∃ Y : zR, Y = up2 Rf wo 1 (some r2) := ⟨_, rfl⟩
  rw [← eR19] at hw
  have hr19 : R19 x 0 = some pr := by rw [eR19, up2_a (zkn2 hk hkw (by simp))]; exact hr0
  have hr19_1 : R19 x 2 = some pl := by rw [eR19, up2_a (zkn2 hk hkw (by simp))]; exact hr2
  have hr19_2 : R19 x 4 = some sr := by rw [eR19, up2_a (zkn2 hk hkw (by simp))]; exact hr4
  have hr19_3 : R19 x 6 = some dr := by rw [eR19, up2_a (zkn2 hk hkw (by simp))]; exact hr6
  have hr19_4 : R19 x 7 = some wo := by rw [eR19, up2_a (zkn2 hk hkw (by simp))]; exact hr7
  have hr19_5 : R19 dr 0 = some na := by rw [eR19, up2_a (zkn2 hkdr hkw (by simp))]; exact hrd
  have hr19_6 : R19 wo 5 = some fe := by rw [eR19, up2_k (by first | decide | omega)]; exact hw5
  have hr19_7 : R19 wo 7 = some fa := by rw [eR19, up2_k (by first | decide | omega)]; exact hw7
  have hr19_8 : R19 fa 0 = some fn := by rw [eR19, up2_a (zkn2 hkfa hkw (by simp))]; exact hrf
  have hr19_9 : R19 r2 1 = some tu2 := by rw [eR19, up2_a (zkn2 hkp2 hkw (by simp))]; exact hr12
  have hr19_10 : R19 r2 3 = some to2 := by rw [eR19, up2_a (zkn2 hkp2 hkw (by simp))]; exact hr32
  have hr19_11 : R19 r2 4 = some be2 := by rw [eR19, up2_a (zkn2 hkp2 hkw (by simp))]; exact hr42
  have hr19_12 : R19 r2 5 = some sa2 := by rw [eR19, up2_a (zkn2 hkp2 hkw (by simp))]; exact hr52
  have hr19_13 : R19 wo 1 = some r2 := by rw [eR19]; exact up2_s
  refine lv_aload_n (pc := 22) hx hb dX8_setWorkPlace_22 rfl (lv_at hl 2 rfl) ?_
  refine zgetR (pc := 23) hx hb hG hown hw hk (T := TX8) rfl 7 (by decide) rfl wf_X8_49 rfl hr19_4 dX8_setWorkPlace_23 ?_
  refine lv_iload_n (pc := 26) hx hb dX8_setWorkPlace_26 rfl (lv_at hl 3 rfl) ?_
  refine zputI (pc := 27) hx hb hG hown hw hkw (T := TX7) rfl 0 (by decide) rfl wf_X8_278 rfl (by decide +kernel) rfl dX8_setWorkPlace_27 (fun H locs hw => ?_)
  obtain ⟨X27, eX27⟩ : ∃ Y : zX, Y = up2 X wo 0 a := ⟨_, rfl⟩
  rw [← eX27] at hw
  refine lv_iload_n (pc := 30) hx hb dX8_setWorkPlace_30 rfl (lv_at hl 0 rfl) ?_
  exact vx_ret (zretI (pc := 31) hx hb hlocks hr hw (by show 0 + 1 ≤ 1; omega) (by show 0 + 6 ≤ 6; omega) dX8_setWorkPlace_31 (by 
                                        refine ⟨⟨by omega, by (unfold cdPl; (repeat' split) <;> omega)⟩, ?_⟩
                                        rw [eX27, eR19]
                                        exact hC.wop hr7 hr2 (by omega) hrp2))
set_option maxHeartbeats 4000000 in
set_option maxRecDepth 100000 in
theorem c_X8_setChoice (l : Launch) (hl9 : l.stackTraces = false) (Γ : zG) (K : zK) (X : zX) (Rf : zR) (x : Nat) (a : Int) (v : Int) (ρ : zL) (M : zM) (hC : repC ρ K X Rf x M) (hM : okM M) (h1 : fit a ∧ fit v) : Cx l yX8_setChoice cX8_setChoice 5 (some .int) 7 2 12 Γ [.ref x, .int (iI a), .int (iI v)] K X Rf (pI (fun (r : Int) (K' : zK) (X' : zX) (R' : zR) => (r = serM M a.toNat 5 ∧ cdSet M a v (-6) 6 = 0) ∧ ∃ ρ', repC ρ' K' X' R' x (up2 M 17 (11 * a.toNat + 5) v) ∧ frC ρ K X Rf ρ' K' X' R')) (fun E : String => (E = "java/lang/IndexOutOfBoundsException" ∧ cdSet M a v (-6) 6 = 1) ∨ (E = "java/lang/IllegalArgumentException" ∧ cdSet M a v (-6) 6 = 2)) := by
  refine Cx.of (by decide +kernel) (Nat.le_of_ble_eq_true rfl) ?_
  intro p e s m below meth c ls hx hb hr hml hown hG hlocks hname ht hX hw hl
  have hl : lv_has ls 5 [(0, .ref x), (1, .int (iI a)), (2, .int (iI v))] := hl
  obtain ⟨⟨hk, hlx⟩, pr, pl, sr, dr, na, wo, ⟨hr0, hr2, hr4, hr6, hr7, hrd⟩, ⟨hkpr, hkpl, hksr, hkdr, hkna⟩, ⟨hlpr, hlpl, hlsr, hldr, hlna⟩, ⟨hx1, hx3, hx5⟩, hpt, hpl, hse, hwo⟩ := id hC
  obtain ⟨⟨hb1, hb2, hb3, hb4⟩, hokP, hokL, hokS, hokW, hokF⟩ := id hM
  obtain ⟨M2, hM2⟩ : ∃ M2, M2 = up2 M 17 (11 * a.toNat + 5) v := ⟨_, rfl⟩
  have hsj : ∀ j, serM M2 a.toNat j = if j = 5 then v else serM M a.toNat j := fun j => by rw [hM2]; exact serM_sam (by decide) j
  refine lv_aload_n (pc := 0) hx hb dX8_setChoice_0 rfl (lv_at hl 0 rfl) ?_
  refine lv_iload_n (pc := 1) hx hb dX8_setChoice_1 rfl (lv_at hl 1 rfl) ?_
  refine zxkRp (pc := 2) (zxrV (As := [.int (iI a)]) hx hb hml hown hG hX hw (c_X8_needSeries l hl9 Γ K X Rf x a sr pl (ρ) M (by (first | assumption | omega)) (by (first | assumption | omega)) (by (first | assumption | omega)) (by (first | assumption | omega)) (by (first | assumption | omega)) (by (first | assumption | omega))) (T := TX8) hk rfl cb_X8_needSeries wl_X8_214 rfl ⟨Nat.le_of_ble_eq_true rfl, Nat.le_of_ble_eq_true rfl⟩ hl.1 rfl (Nat.le_of_ble_eq_true rfl) dX8_setChoice_2 ⟨(by show 0 + 1 ≤ 2; omega), (by show 0 + 6 ≤ 12; omega)⟩) hw (fun E9 ce9 q9 H9 locs9 hxp9 hw9 hce9 hcv9 hcl9 => zxout (pc := 2) ht hlocks hw9 hce9 hcv9 hcl9 (by (obtain ⟨rfl, hq9⟩ := hxp9; (try dsimp only); first | exact ⟨rfl, (by (unfold cdSet; (repeat' split) <;> omega))⟩ | exact Or.inl ⟨rfl, (by (unfold cdSet; (repeat' split) <;> omega))⟩ | exact Or.inr ⟨rfl, (by (unfold cdSet; (repeat' split) <;> omega))⟩ | exact Or.inr (Or.inl ⟨rfl, (by (unfold cdSet; (repeat' split) <;> omega))⟩))) (by show 0 + 1 ≤ 2; omega) (by show 0 + 6 ≤ 12; omega)) (fun r2 H locs hp2 hw => ?_)
  obtain ⟨⟨hrs2, p02, hrp2, ⟨hks2, hls2⟩, po2, eo2, fo2, ⟨hr02, hr82, hr132, hr152⟩, ⟨hkpo2, hkeo2, hkfo2⟩, ⟨hlpo2, hleo2, hlfo2⟩, hD2, hS2, hU2, hUs2, hE2, hdt2⟩, his2⟩ := hp2
  have hdq2 : dtR X r2 fo2 (datM M (a).toNat) := hdt2
  have hdn2 := hdq2.1
  have hdm2 := hdq2.2.1
  have hsb2 : X r2 1 = serM M (a).toNat 1 := hD2.1.1
  have hsd2 : 0 ≤ serM M (a).toNat 1 ∧ serM M (a).toNat 1 ≤ 105190559 := hS2.1
  have hoS0 := (hokS a.toNat (by omega)).1
  have hsF : (X r2 1 = serM M a.toNat 1 ∧ X r2 2 = bdS (serM M a.toNat) ∧ X r2 6 = serM M a.toNat 8) ∧ X r2 10 = serM M a.toNat 5 ∧ X r2 11 = serM M a.toNat 6 ∧ X r2 12 = serM M a.toNat 7 := ⟨⟨hD2.1.1, hD2.1.2.1, hD2.1.2.2.2.2.2⟩, hD2.2.2.1, hD2.2.2.2.1, hD2.2.2.2.2.1⟩
  refine lv_astore_n (pc := 5) (lv' := [(3, .ref r2), (0, .ref x), (1, .int (iI a)), (2, .int (iI v))]) hx hb dX8_setChoice_5 rfl hl (by decide) rfl (fun ls hl => ?_)
  refine lv_iload_n (pc := 6) hx hb dX8_setChoice_6 rfl (lv_at hl 3 rfl) ?_
  refine zbipush (pc := 7) (n := (-6)) hx hb dX8_setChoice_7 rfl ?_
  refine zicmp_lt (pc := 9) hx hb 18 (by omega) (by omega) dX8_setChoice_9 (by decide) (fun c9 => ?_) (fun c9 => ?_)
  · skip
    exact zthrow (pc := 18) hx hb hl9 hown hG hX hw wn_X8_56 wi_javalangIllegalArgumentException (List.mem_of_getElem? (i := 23) rfl) zthr_60 (hl.1.trans hml.symm) ht dX8_setChoice_18 dX8_setChoice_21 dX8_setChoice_22 dX8_setChoice_24 dX8_setChoice_27 (by show 6 ≤ _; exact Nat.le_of_ble_eq_true rfl) (Nat.le_of_ble_eq_true rfl) (by show 0 + 1 + 1 ≤ 2; omega) (by show 0 + 6 + 6 ≤ 12; omega) hlocks (by (try dsimp only); first | exact ⟨rfl, (by (unfold cdSet; (repeat' split) <;> omega))⟩ | exact Or.inl ⟨rfl, (by (unfold cdSet; (repeat' split) <;> omega))⟩ | exact Or.inr ⟨rfl, (by (unfold cdSet; (repeat' split) <;> omega))⟩ | exact Or.inr (Or.inl ⟨rfl, (by (unfold cdSet; (repeat' split) <;> omega))⟩) | exact Or.inr (Or.inr ⟨rfl, (by (unfold cdSet; (repeat' split) <;> omega))⟩)) (by show 0 + 1 + 1 ≤ 2; omega) (by show 0 + 6 + 6 ≤ 12; omega)
  · skip
    refine lv_iload_n (pc := 12) hx hb dX8_setChoice_12 rfl (lv_at hl 3 rfl) ?_
    refine zbipush (pc := 13) (n := 6) hx hb dX8_setChoice_13 rfl ?_
    refine zicmp_le (pc := 15) hx hb 28 (by omega) (by omega) dX8_setChoice_15 (by decide) (fun c15 => ?_) (fun c15 => ?_)
    · skip
      refine lv_aload_n (pc := 28) hx hb dX8_setChoice_28 rfl (lv_at hl 0 rfl) ?_
      refine zgetI (pc := 29) hx hb hG hown hw hks2 (T := TX5) rfl 10 (by decide) rfl wf_X8_224 rfl dX8_setChoice_29 ?_
      refine ztop (fun x32 ex32 => ?_)
      refine lv_istore (pc := 32) (lv' := [(4, .int (iI x32)), (3, .ref r2), (0, .ref x), (1, .int (iI a)), (2, .int (iI v))]) hx hb dX8_setChoice_32 hl (by decide) rfl (fun ls hl => ?_)
      refine lv_aload_n (pc := 34) hx hb dX8_setChoice_34 rfl (lv_at hl 1 rfl) ?_
      refine lv_iload_n (pc := 35) hx hb dX8_setChoice_35 rfl (lv_at hl 4 rfl) ?_
      refine zputI (pc := 36) hx hb hG hown hw hks2 (T := TX5) rfl 10 (by decide) rfl wf_X8_224 rfl (by decide +kernel) rfl dX8_setChoice_36 (fun H locs hw => ?_)
      obtain ⟨X36, eX36⟩ : ∃ Y : zX, Y = up2 X r2 10 v := ⟨_, rfl⟩
      rw [← eX36] at hw
      have hoS := (hokS a.toNat (by omega)).1
      have hup : useM M2 a.toNat = useM M a.toNat := by rw [hM2]; exact useM_f (up2_o (by decide)) patM_17 _
      have hex : excM M2 a.toNat = excM M a.toNat := by rw [hM2]; exact excM_f (up2_o (by decide)) _
      have hpnz : ∀ a9, K a9 = (1, 2) → X36 a9 = X a9 := fun a9 h9 => by rw [eX36, up2_o (not_k2 hks2 (by simp) h9)]
      have hs0z : serM M2 a.toNat 0 = serM M a.toNat 0 := by rw [hsj, if_neg (by decide)]
      have hs1z : serM M2 a.toNat 1 = serM M a.toNat 1 := by rw [hsj, if_neg (by decide)]
      have hs2z : serM M2 a.toNat 2 = serM M a.toNat 2 := by rw [hsj, if_neg (by decide)]
      have hs3z : serM M2 a.toNat 3 = serM M a.toNat 3 := by rw [hsj, if_neg (by decide)]
      have hs4z : serM M2 a.toNat 4 = serM M a.toNat 4 := by rw [hsj, if_neg (by decide)]
      have hs5z : serM M2 a.toNat 5 = v := by rw [hsj, if_pos rfl]
      have hs6z : serM M2 a.toNat 6 = serM M a.toNat 6 := by rw [hsj, if_neg (by decide)]
      have hs7z : serM M2 a.toNat 7 = serM M a.toNat 7 := by rw [hsj, if_neg (by decide)]
      have hs8z : serM M2 a.toNat 8 = serM M a.toNat 8 := by rw [hsj, if_neg (by decide)]
      have hs9z : serM M2 a.toNat 9 = serM M a.toNat 9 := by rw [hsj, if_neg (by decide)]
      have hs10z : serM M2 a.toNat 10 = serM M a.toNat 10 := by rw [hsj, if_neg (by decide)]
      have hDz : serD (X36 r2) (serM M2 a.toNat) := serD_upd hD2 hs1z hs2z hs3z hs4z hs8z (by rw [eX36, up2_k (by decide), hs9z]; exact hD2.2.1) (by rw [eX36, up2_s, hs5z]) (by rw [eX36, up2_k (by decide), hs6z]; exact hD2.2.2.2.1) (by rw [eX36, up2_k (by decide), hs7z]; exact hD2.2.2.2.2.1) (by rw [eX36, up2_k (by decide), hs10z]; exact hD2.2.2.2.2.2) (fun q9 h9 => by rw [eX36, up2_k (by omega)])
      have hbdz : bdS (serM M2 a.toNat) = bdS (serM M a.toNat) := by unfold bdS; rw [hs1z]
      have hoz : okS (serM M2 a.toNat) := by omega
      have hUz : upOK K X36 Rf po2 (serM M2 a.toNat) (useM M2 a.toNat) := fun k9 h9 => by rw [hup]; obtain ⟨pa9, g1, g2, g3, g4⟩ := hU2 k9 (by omega); exact ⟨pa9, g1, g2, by rw [hpnz pa9 g2]; exact g3, by rw [hpnz pa9 g2]; exact g4⟩
      have hUsz : usOK K X36 Rf r2 (serM M2 a.toNat) := usOK_upd hUs2 hs1z hs2z hpnz rfl
      have hnez1 : eo2 ≠ r2 := zkne hkeo2 hks2 (by simp)
      have hEz : ∀ k9 : Nat, (k9 : Int) < serM M2 a.toNat 10 → X36 eo2 k9 = excM M2 a.toNat k9 ∧ 0 ≤ excM M2 a.toNat k9 ∧ excM M2 a.toNat k9 ≤ 73048 := fun k9 h9 => by rw [hex, eX36, up2_o hnez1]; exact hE2 k9 (by omega)
      refine lv_aload_n (pc := 39) hx hb dX8_setChoice_39 rfl (lv_at hl 1 rfl) ?_
      refine lv_aload_n (pc := 40) hx hb dX8_setChoice_40 rfl (lv_at hl 2 rfl) ?_
      refine zgetR (pc := 41) hx hb hG hown hw hk (T := TX8) rfl 6 (by decide) rfl wf_X8_42 rfl hr6 dX8_setChoice_41 ?_
      refine zkVx (pc := 44) (zrV (As := [.ref dr]) hx hb hml hown hG hw (c_X5_findDates l Γ K X36 Rf r2 dr (serM M2 a.toNat) (useM M2 a.toNat) (excM M2 a.toNat) po2 eo2 fo2 na (by (first | assumption | omega)) (by (first | assumption | omega)) (by (first | assumption | omega)) (by (first | assumption | omega)) (by (first | assumption | omega)) (by (first | assumption | omega)) (by (first | assumption | omega)) (by (first | assumption | omega)) (by (first | assumption | omega)) (by (first | assumption | omega)) (by (first | assumption | omega)) (by (first | assumption | omega)) (by (first | assumption | omega)) (by (first | assumption | omega)) (by (first | assumption | omega))) (T := TX5) hks2 rfl cb_X5_findDates wl_X8_210 rfl ⟨Nat.le_of_ble_eq_true rfl, Nat.le_of_ble_eq_true rfl⟩ hl.1 rfl (Nat.le_of_ble_eq_true rfl) dX8_setChoice_44 ⟨(by show 0 + 1 + 0 ≤ 2; omega), (by show 0 + 6 + 0 ≤ 12; omega)⟩) hw (fun X44 H locs hp44 hw => ?_)
      refine lv_iload (pc := 47) hx hb dX8_setChoice_47 (lv_at hl 0 rfl) ?_
      exact vx_ret (zretI (pc := 49) hx hb hlocks hr hw (by show 0 + 1 ≤ 2; omega) (by show 0 + 6 ≤ 12; omega) dX8_setChoice_49 (by 
                                        refine ⟨⟨by omega, by (unfold cdSet; (repeat' split) <;> omega)⟩, ?_⟩
                                        obtain ⟨hrp9, hoo9, hqq9⟩ := hp44
                                        rw [← hM2]
                                        have hnf : r2 ≠ fo2 := zkne hks2 hkfo2 (by simp)
                                        have hnd : r2 ≠ dr := zkn2 hks2 hkdr (by simp)
                                        have hnn : r2 ≠ na := zkne hks2 hkna (by simp)
                                        refine hC.ser (n := a.toNat) hr4 (by omega) hrs2 hr6 hrd hr82 hr132 hr152 (fun a9 g1 g2 g3 g4 g5 g6 => ⟨by rw [hoo9 a9 g1 g2 g3 g4, eX36, up2_o g1], rfl⟩) rfl (fun f g1 g2 g3 => by rw [hM2]; exact up2_o g1) (fun k9 g => ⟨by rw [hM2]; exact serM_oth (by decide) g, by rw [hM2]; exact useM_f (up2_o (by decide)) patM_17 _, by rw [hM2]; exact excM_f (up2_o (by decide)) _⟩) hs0z (fun p9 g => ?_)
                                        have hne2 : eo2 ≠ fo2 := zkn2 hkeo2 hkfo2 (by simp)
                                        have hne3 : eo2 ≠ dr := zkne hkeo2 hkdr (by simp)
                                        have hne4 : eo2 ≠ na := zkn2 hkeo2 hkna (by simp)
                                        exact seA_new (Rf := Rf) ⟨hks2, hls2⟩ ⟨g, hr82, hr132, hr152⟩ ⟨hkpo2, hkeo2, hkfo2⟩ ⟨hlpo2, hleo2, hlfo2⟩ hDz hoz hUz hUsz hEz (fun a9 h9 => hoo9 a9 (not_k2 hks2 (by simp) h9) (not_k2 hkfo2 (by simp) h9) (not_k2 hkdr (by simp) h9) (not_k2 hkna (by simp) h9)) (hoo9 eo2 hnez1 hne2 hne3 hne4) hqq9 hrp9))
    · skip
      exact zthrow (pc := 18) hx hb hl9 hown hG hX hw wn_X8_56 wi_javalangIllegalArgumentException (List.mem_of_getElem? (i := 23) rfl) zthr_60 (hl.1.trans hml.symm) ht dX8_setChoice_18 dX8_setChoice_21 dX8_setChoice_22 dX8_setChoice_24 dX8_setChoice_27 (by show 6 ≤ _; exact Nat.le_of_ble_eq_true rfl) (Nat.le_of_ble_eq_true rfl) (by show 0 + 1 + 1 ≤ 2; omega) (by show 0 + 6 + 6 ≤ 12; omega) hlocks (by (try dsimp only); first | exact ⟨rfl, (by (unfold cdSet; (repeat' split) <;> omega))⟩ | exact Or.inl ⟨rfl, (by (unfold cdSet; (repeat' split) <;> omega))⟩ | exact Or.inr ⟨rfl, (by (unfold cdSet; (repeat' split) <;> omega))⟩ | exact Or.inr (Or.inl ⟨rfl, (by (unfold cdSet; (repeat' split) <;> omega))⟩) | exact Or.inr (Or.inr ⟨rfl, (by (unfold cdSet; (repeat' split) <;> omega))⟩)) (by show 0 + 1 + 1 ≤ 2; omega) (by show 0 + 6 + 6 ≤ 12; omega)
set_option maxHeartbeats 4000000 in
set_option maxRecDepth 100000 in
theorem c_X8_setMost (l : Launch) (hl9 : l.stackTraces = false) (Γ : zG) (K : zK) (X : zX) (Rf : zR) (x : Nat) (a : Int) (v : Int) (ρ : zL) (M : zM) (hC : repC ρ K X Rf x M) (hM : okM M) (h1 : fit a ∧ fit v) : Cx l yX8_setMost cX8_setMost 5 (some .int) 7 2 12 Γ [.ref x, .int (iI a), .int (iI v)] K X Rf (pI (fun (r : Int) (K' : zK) (X' : zX) (R' : zR) => (r = serM M a.toNat 6 ∧ cdSet M a v 0 500 = 0) ∧ ∃ ρ', repC ρ' K' X' R' x (up2 M 17 (11 * a.toNat + 6) v) ∧ frC ρ K X Rf ρ' K' X' R')) (fun E : String => (E = "java/lang/IndexOutOfBoundsException" ∧ cdSet M a v 0 500 = 1) ∨ (E = "java/lang/IllegalArgumentException" ∧ cdSet M a v 0 500 = 2)) := by
  refine Cx.of (by decide +kernel) (Nat.le_of_ble_eq_true rfl) ?_
  intro p e s m below meth c ls hx hb hr hml hown hG hlocks hname ht hX hw hl
  have hl : lv_has ls 5 [(0, .ref x), (1, .int (iI a)), (2, .int (iI v))] := hl
  obtain ⟨⟨hk, hlx⟩, pr, pl, sr, dr, na, wo, ⟨hr0, hr2, hr4, hr6, hr7, hrd⟩, ⟨hkpr, hkpl, hksr, hkdr, hkna⟩, ⟨hlpr, hlpl, hlsr, hldr, hlna⟩, ⟨hx1, hx3, hx5⟩, hpt, hpl, hse, hwo⟩ := id hC
  obtain ⟨⟨hb1, hb2, hb3, hb4⟩, hokP, hokL, hokS, hokW, hokF⟩ := id hM
  obtain ⟨M2, hM2⟩ : ∃ M2, M2 = up2 M 17 (11 * a.toNat + 6) v := ⟨_, rfl⟩
  have hsj : ∀ j, serM M2 a.toNat j = if j = 6 then v else serM M a.toNat j := fun j => by rw [hM2]; exact serM_sam (by decide) j
  refine lv_aload_n (pc := 0) hx hb dX8_setMost_0 rfl (lv_at hl 0 rfl) ?_
  refine lv_iload_n (pc := 1) hx hb dX8_setMost_1 rfl (lv_at hl 1 rfl) ?_
  refine zxkRp (pc := 2) (zxrV (As := [.int (iI a)]) hx hb hml hown hG hX hw (c_X8_needSeries l hl9 Γ K X Rf x a sr pl (ρ) M (by (first | assumption | omega)) (by (first | assumption | omega)) (by (first | assumption | omega)) (by (first | assumption | omega)) (by (first | assumption | omega)) (by (first | assumption | omega))) (T := TX8) hk rfl cb_X8_needSeries wl_X8_214 rfl ⟨Nat.le_of_ble_eq_true rfl, Nat.le_of_ble_eq_true rfl⟩ hl.1 rfl (Nat.le_of_ble_eq_true rfl) dX8_setMost_2 ⟨(by show 0 + 1 ≤ 2; omega), (by show 0 + 6 ≤ 12; omega)⟩) hw (fun E9 ce9 q9 H9 locs9 hxp9 hw9 hce9 hcv9 hcl9 => zxout (pc := 2) ht hlocks hw9 hce9 hcv9 hcl9 (by (obtain ⟨rfl, hq9⟩ := hxp9; (try dsimp only); first | exact ⟨rfl, (by (unfold cdSet; (repeat' split) <;> omega))⟩ | exact Or.inl ⟨rfl, (by (unfold cdSet; (repeat' split) <;> omega))⟩ | exact Or.inr ⟨rfl, (by (unfold cdSet; (repeat' split) <;> omega))⟩ | exact Or.inr (Or.inl ⟨rfl, (by (unfold cdSet; (repeat' split) <;> omega))⟩))) (by show 0 + 1 ≤ 2; omega) (by show 0 + 6 ≤ 12; omega)) (fun r2 H locs hp2 hw => ?_)
  obtain ⟨⟨hrs2, p02, hrp2, ⟨hks2, hls2⟩, po2, eo2, fo2, ⟨hr02, hr82, hr132, hr152⟩, ⟨hkpo2, hkeo2, hkfo2⟩, ⟨hlpo2, hleo2, hlfo2⟩, hD2, hS2, hU2, hUs2, hE2, hdt2⟩, his2⟩ := hp2
  have hdq2 : dtR X r2 fo2 (datM M (a).toNat) := hdt2
  have hdn2 := hdq2.1
  have hdm2 := hdq2.2.1
  have hsb2 : X r2 1 = serM M (a).toNat 1 := hD2.1.1
  have hsd2 : 0 ≤ serM M (a).toNat 1 ∧ serM M (a).toNat 1 ≤ 105190559 := hS2.1
  have hoS0 := (hokS a.toNat (by omega)).1
  have hsF : (X r2 1 = serM M a.toNat 1 ∧ X r2 2 = bdS (serM M a.toNat) ∧ X r2 6 = serM M a.toNat 8) ∧ X r2 10 = serM M a.toNat 5 ∧ X r2 11 = serM M a.toNat 6 ∧ X r2 12 = serM M a.toNat 7 := ⟨⟨hD2.1.1, hD2.1.2.1, hD2.1.2.2.2.2.2⟩, hD2.2.2.1, hD2.2.2.2.1, hD2.2.2.2.2.1⟩
  refine lv_astore_n (pc := 5) (lv' := [(3, .ref r2), (0, .ref x), (1, .int (iI a)), (2, .int (iI v))]) hx hb dX8_setMost_5 rfl hl (by decide) rfl (fun ls hl => ?_)
  refine lv_iload_n (pc := 6) hx hb dX8_setMost_6 rfl (lv_at hl 3 rfl) ?_
  refine zif_lt (pc := 7) hx hb 17 (by omega) dX8_setMost_7 (by decide) (fun c7 => ?_) (fun c7 => ?_)
  · skip
    exact zthrow (pc := 17) hx hb hl9 hown hG hX hw wn_X8_56 wi_javalangIllegalArgumentException (List.mem_of_getElem? (i := 24) rfl) zthr_60 (hl.1.trans hml.symm) ht dX8_setMost_17 dX8_setMost_20 dX8_setMost_21 dX8_setMost_23 dX8_setMost_26 (by show 6 ≤ _; exact Nat.le_of_ble_eq_true rfl) (Nat.le_of_ble_eq_true rfl) (by show 0 + 1 + 1 ≤ 2; omega) (by show 0 + 6 + 6 ≤ 12; omega) hlocks (by (try dsimp only); first | exact ⟨rfl, (by (unfold cdSet; (repeat' split) <;> omega))⟩ | exact Or.inl ⟨rfl, (by (unfold cdSet; (repeat' split) <;> omega))⟩ | exact Or.inr ⟨rfl, (by (unfold cdSet; (repeat' split) <;> omega))⟩ | exact Or.inr (Or.inl ⟨rfl, (by (unfold cdSet; (repeat' split) <;> omega))⟩) | exact Or.inr (Or.inr ⟨rfl, (by (unfold cdSet; (repeat' split) <;> omega))⟩)) (by show 0 + 1 + 1 ≤ 2; omega) (by show 0 + 6 + 6 ≤ 12; omega)
  · skip
    refine lv_iload_n (pc := 10) hx hb dX8_setMost_10 rfl (lv_at hl 3 rfl) ?_
    refine zsipush (pc := 11) (n := 500) hx hb dX8_setMost_11 rfl ?_
    refine zicmp_le (pc := 14) hx hb 27 (by omega) (by omega) dX8_setMost_14 (by decide) (fun c14 => ?_) (fun c14 => ?_)
    · skip
      refine lv_aload_n (pc := 27) hx hb dX8_setMost_27 rfl (lv_at hl 0 rfl) ?_
      refine zgetI (pc := 28) hx hb hG hown hw hks2 (T := TX5) rfl 11 (by decide) rfl wf_X8_229 rfl dX8_setMost_28 ?_
      refine ztop (fun x31 ex31 => ?_)
      refine lv_istore (pc := 31) (lv' := [(4, .int (iI x31)), (3, .ref r2), (0, .ref x), (1, .int (iI a)), (2, .int (iI v))]) hx hb dX8_setMost_31 hl (by decide) rfl (fun ls hl => ?_)
      refine lv_aload_n (pc := 33) hx hb dX8_setMost_33 rfl (lv_at hl 1 rfl) ?_
      refine lv_iload_n (pc := 34) hx hb dX8_setMost_34 rfl (lv_at hl 4 rfl) ?_
      refine zputI (pc := 35) hx hb hG hown hw hks2 (T := TX5) rfl 11 (by decide) rfl wf_X8_229 rfl (by decide +kernel) rfl dX8_setMost_35 (fun H locs hw => ?_)
      obtain ⟨X35, eX35⟩ : ∃ Y : zX, Y = up2 X r2 11 v := ⟨_, rfl⟩
      rw [← eX35] at hw
      have hoS := (hokS a.toNat (by omega)).1
      have hup : useM M2 a.toNat = useM M a.toNat := by rw [hM2]; exact useM_f (up2_o (by decide)) patM_17 _
      have hex : excM M2 a.toNat = excM M a.toNat := by rw [hM2]; exact excM_f (up2_o (by decide)) _
      have hpnz : ∀ a9, K a9 = (1, 2) → X35 a9 = X a9 := fun a9 h9 => by rw [eX35, up2_o (not_k2 hks2 (by simp) h9)]
      have hs0z : serM M2 a.toNat 0 = serM M a.toNat 0 := by rw [hsj, if_neg (by decide)]
      have hs1z : serM M2 a.toNat 1 = serM M a.toNat 1 := by rw [hsj, if_neg (by decide)]
      have hs2z : serM M2 a.toNat 2 = serM M a.toNat 2 := by rw [hsj, if_neg (by decide)]
      have hs3z : serM M2 a.toNat 3 = serM M a.toNat 3 := by rw [hsj, if_neg (by decide)]
      have hs4z : serM M2 a.toNat 4 = serM M a.toNat 4 := by rw [hsj, if_neg (by decide)]
      have hs5z : serM M2 a.toNat 5 = serM M a.toNat 5 := by rw [hsj, if_neg (by decide)]
      have hs6z : serM M2 a.toNat 6 = v := by rw [hsj, if_pos rfl]
      have hs7z : serM M2 a.toNat 7 = serM M a.toNat 7 := by rw [hsj, if_neg (by decide)]
      have hs8z : serM M2 a.toNat 8 = serM M a.toNat 8 := by rw [hsj, if_neg (by decide)]
      have hs9z : serM M2 a.toNat 9 = serM M a.toNat 9 := by rw [hsj, if_neg (by decide)]
      have hs10z : serM M2 a.toNat 10 = serM M a.toNat 10 := by rw [hsj, if_neg (by decide)]
      have hDz : serD (X35 r2) (serM M2 a.toNat) := serD_upd hD2 hs1z hs2z hs3z hs4z hs8z (by rw [eX35, up2_k (by decide), hs9z]; exact hD2.2.1) (by rw [eX35, up2_k (by decide), hs5z]; exact hD2.2.2.1) (by rw [eX35, up2_s, hs6z]) (by rw [eX35, up2_k (by decide), hs7z]; exact hD2.2.2.2.2.1) (by rw [eX35, up2_k (by decide), hs10z]; exact hD2.2.2.2.2.2) (fun q9 h9 => by rw [eX35, up2_k (by omega)])
      have hbdz : bdS (serM M2 a.toNat) = bdS (serM M a.toNat) := by unfold bdS; rw [hs1z]
      have hoz : okS (serM M2 a.toNat) := by omega
      have hUz : upOK K X35 Rf po2 (serM M2 a.toNat) (useM M2 a.toNat) := fun k9 h9 => by rw [hup]; obtain ⟨pa9, g1, g2, g3, g4⟩ := hU2 k9 (by omega); exact ⟨pa9, g1, g2, by rw [hpnz pa9 g2]; exact g3, by rw [hpnz pa9 g2]; exact g4⟩
      have hUsz : usOK K X35 Rf r2 (serM M2 a.toNat) := usOK_upd hUs2 hs1z hs2z hpnz rfl
      have hnez1 : eo2 ≠ r2 := zkne hkeo2 hks2 (by simp)
      have hEz : ∀ k9 : Nat, (k9 : Int) < serM M2 a.toNat 10 → X35 eo2 k9 = excM M2 a.toNat k9 ∧ 0 ≤ excM M2 a.toNat k9 ∧ excM M2 a.toNat k9 ≤ 73048 := fun k9 h9 => by rw [hex, eX35, up2_o hnez1]; exact hE2 k9 (by omega)
      refine lv_aload_n (pc := 38) hx hb dX8_setMost_38 rfl (lv_at hl 1 rfl) ?_
      refine lv_aload_n (pc := 39) hx hb dX8_setMost_39 rfl (lv_at hl 2 rfl) ?_
      refine zgetR (pc := 40) hx hb hG hown hw hk (T := TX8) rfl 6 (by decide) rfl wf_X8_42 rfl hr6 dX8_setMost_40 ?_
      refine zkVx (pc := 43) (zrV (As := [.ref dr]) hx hb hml hown hG hw (c_X5_findDates l Γ K X35 Rf r2 dr (serM M2 a.toNat) (useM M2 a.toNat) (excM M2 a.toNat) po2 eo2 fo2 na (by (first | assumption | omega)) (by (first | assumption | omega)) (by (first | assumption | omega)) (by (first | assumption | omega)) (by (first | assumption | omega)) (by (first | assumption | omega)) (by (first | assumption | omega)) (by (first | assumption | omega)) (by (first | assumption | omega)) (by (first | assumption | omega)) (by (first | assumption | omega)) (by (first | assumption | omega)) (by (first | assumption | omega)) (by (first | assumption | omega)) (by (first | assumption | omega))) (T := TX5) hks2 rfl cb_X5_findDates wl_X8_210 rfl ⟨Nat.le_of_ble_eq_true rfl, Nat.le_of_ble_eq_true rfl⟩ hl.1 rfl (Nat.le_of_ble_eq_true rfl) dX8_setMost_43 ⟨(by show 0 + 1 + 0 ≤ 2; omega), (by show 0 + 6 + 0 ≤ 12; omega)⟩) hw (fun X43 H locs hp43 hw => ?_)
      refine lv_iload (pc := 46) hx hb dX8_setMost_46 (lv_at hl 0 rfl) ?_
      exact vx_ret (zretI (pc := 48) hx hb hlocks hr hw (by show 0 + 1 ≤ 2; omega) (by show 0 + 6 ≤ 12; omega) dX8_setMost_48 (by 
                                        refine ⟨⟨by omega, by (unfold cdSet; (repeat' split) <;> omega)⟩, ?_⟩
                                        obtain ⟨hrp9, hoo9, hqq9⟩ := hp43
                                        rw [← hM2]
                                        have hnf : r2 ≠ fo2 := zkne hks2 hkfo2 (by simp)
                                        have hnd : r2 ≠ dr := zkn2 hks2 hkdr (by simp)
                                        have hnn : r2 ≠ na := zkne hks2 hkna (by simp)
                                        refine hC.ser (n := a.toNat) hr4 (by omega) hrs2 hr6 hrd hr82 hr132 hr152 (fun a9 g1 g2 g3 g4 g5 g6 => ⟨by rw [hoo9 a9 g1 g2 g3 g4, eX35, up2_o g1], rfl⟩) rfl (fun f g1 g2 g3 => by rw [hM2]; exact up2_o g1) (fun k9 g => ⟨by rw [hM2]; exact serM_oth (by decide) g, by rw [hM2]; exact useM_f (up2_o (by decide)) patM_17 _, by rw [hM2]; exact excM_f (up2_o (by decide)) _⟩) hs0z (fun p9 g => ?_)
                                        have hne2 : eo2 ≠ fo2 := zkn2 hkeo2 hkfo2 (by simp)
                                        have hne3 : eo2 ≠ dr := zkne hkeo2 hkdr (by simp)
                                        have hne4 : eo2 ≠ na := zkn2 hkeo2 hkna (by simp)
                                        exact seA_new (Rf := Rf) ⟨hks2, hls2⟩ ⟨g, hr82, hr132, hr152⟩ ⟨hkpo2, hkeo2, hkfo2⟩ ⟨hlpo2, hleo2, hlfo2⟩ hDz hoz hUz hUsz hEz (fun a9 h9 => hoo9 a9 (not_k2 hks2 (by simp) h9) (not_k2 hkfo2 (by simp) h9) (not_k2 hkdr (by simp) h9) (not_k2 hkna (by simp) h9)) (hoo9 eo2 hnez1 hne2 hne3 hne4) hqq9 hrp9))
    · skip
      exact zthrow (pc := 17) hx hb hl9 hown hG hX hw wn_X8_56 wi_javalangIllegalArgumentException (List.mem_of_getElem? (i := 24) rfl) zthr_60 (hl.1.trans hml.symm) ht dX8_setMost_17 dX8_setMost_20 dX8_setMost_21 dX8_setMost_23 dX8_setMost_26 (by show 6 ≤ _; exact Nat.le_of_ble_eq_true rfl) (Nat.le_of_ble_eq_true rfl) (by show 0 + 1 + 1 ≤ 2; omega) (by show 0 + 6 + 6 ≤ 12; omega) hlocks (by (try dsimp only); first | exact ⟨rfl, (by (unfold cdSet; (repeat' split) <;> omega))⟩ | exact Or.inl ⟨rfl, (by (unfold cdSet; (repeat' split) <;> omega))⟩ | exact Or.inr ⟨rfl, (by (unfold cdSet; (repeat' split) <;> omega))⟩ | exact Or.inr (Or.inl ⟨rfl, (by (unfold cdSet; (repeat' split) <;> omega))⟩) | exact Or.inr (Or.inr ⟨rfl, (by (unfold cdSet; (repeat' split) <;> omega))⟩)) (by show 0 + 1 + 1 ≤ 2; omega) (by show 0 + 6 + 6 ≤ 12; omega)
set_option maxHeartbeats 4000000 in
set_option maxRecDepth 100000 in
theorem c_X8_setLast (l : Launch) (hl9 : l.stackTraces = false) (Γ : zG) (K : zK) (X : zX) (Rf : zR) (x : Nat) (a : Int) (v : Int) (ρ : zL) (M : zM) (hC : repC ρ K X Rf x M) (hM : okM M) (h1 : fit a ∧ fit v) : Cx l yX8_setLast cX8_setLast 5 (some .int) 7 2 12 Γ [.ref x, .int (iI a), .int (iI v)] K X Rf (pI (fun (r : Int) (K' : zK) (X' : zX) (R' : zR) => (r = serM M a.toNat 7 ∧ cdSet M a v (serM M a.toNat 1 / 1440) (serM M a.toNat 8) = 0) ∧ ∃ ρ', repC ρ' K' X' R' x (up2 M 17 (11 * a.toNat + 7) v) ∧ frC ρ K X Rf ρ' K' X' R')) (fun E : String => (E = "java/lang/IndexOutOfBoundsException" ∧ cdSet M a v (serM M a.toNat 1 / 1440) (serM M a.toNat 8) = 1) ∨ (E = "java/lang/IllegalArgumentException" ∧ cdSet M a v (serM M a.toNat 1 / 1440) (serM M a.toNat 8) = 2)) := by
  refine Cx.of (by decide +kernel) (Nat.le_of_ble_eq_true rfl) ?_
  intro p e s m below meth c ls hx hb hr hml hown hG hlocks hname ht hX hw hl
  have hl : lv_has ls 5 [(0, .ref x), (1, .int (iI a)), (2, .int (iI v))] := hl
  obtain ⟨⟨hk, hlx⟩, pr, pl, sr, dr, na, wo, ⟨hr0, hr2, hr4, hr6, hr7, hrd⟩, ⟨hkpr, hkpl, hksr, hkdr, hkna⟩, ⟨hlpr, hlpl, hlsr, hldr, hlna⟩, ⟨hx1, hx3, hx5⟩, hpt, hpl, hse, hwo⟩ := id hC
  obtain ⟨⟨hb1, hb2, hb3, hb4⟩, hokP, hokL, hokS, hokW, hokF⟩ := id hM
  obtain ⟨M2, hM2⟩ : ∃ M2, M2 = up2 M 17 (11 * a.toNat + 7) v := ⟨_, rfl⟩
  have hsj : ∀ j, serM M2 a.toNat j = if j = 7 then v else serM M a.toNat j := fun j => by rw [hM2]; exact serM_sam (by decide) j
  refine lv_aload_n (pc := 0) hx hb dX8_setLast_0 rfl (lv_at hl 0 rfl) ?_
  refine lv_iload_n (pc := 1) hx hb dX8_setLast_1 rfl (lv_at hl 1 rfl) ?_
  refine zxkRp (pc := 2) (zxrV (As := [.int (iI a)]) hx hb hml hown hG hX hw (c_X8_needSeries l hl9 Γ K X Rf x a sr pl (ρ) M (by (first | assumption | omega)) (by (first | assumption | omega)) (by (first | assumption | omega)) (by (first | assumption | omega)) (by (first | assumption | omega)) (by (first | assumption | omega))) (T := TX8) hk rfl cb_X8_needSeries wl_X8_214 rfl ⟨Nat.le_of_ble_eq_true rfl, Nat.le_of_ble_eq_true rfl⟩ hl.1 rfl (Nat.le_of_ble_eq_true rfl) dX8_setLast_2 ⟨(by show 0 + 1 ≤ 2; omega), (by show 0 + 6 ≤ 12; omega)⟩) hw (fun E9 ce9 q9 H9 locs9 hxp9 hw9 hce9 hcv9 hcl9 => zxout (pc := 2) ht hlocks hw9 hce9 hcv9 hcl9 (by (obtain ⟨rfl, hq9⟩ := hxp9; (try dsimp only); first | exact ⟨rfl, (by (unfold cdSet; (repeat' split) <;> omega))⟩ | exact Or.inl ⟨rfl, (by (unfold cdSet; (repeat' split) <;> omega))⟩ | exact Or.inr ⟨rfl, (by (unfold cdSet; (repeat' split) <;> omega))⟩ | exact Or.inr (Or.inl ⟨rfl, (by (unfold cdSet; (repeat' split) <;> omega))⟩))) (by show 0 + 1 ≤ 2; omega) (by show 0 + 6 ≤ 12; omega)) (fun r2 H locs hp2 hw => ?_)
  obtain ⟨⟨hrs2, p02, hrp2, ⟨hks2, hls2⟩, po2, eo2, fo2, ⟨hr02, hr82, hr132, hr152⟩, ⟨hkpo2, hkeo2, hkfo2⟩, ⟨hlpo2, hleo2, hlfo2⟩, hD2, hS2, hU2, hUs2, hE2, hdt2⟩, his2⟩ := hp2
  have hdq2 : dtR X r2 fo2 (datM M (a).toNat) := hdt2
  have hdn2 := hdq2.1
  have hdm2 := hdq2.2.1
  have hsb2 : X r2 1 = serM M (a).toNat 1 := hD2.1.1
  have hsd2 : 0 ≤ serM M (a).toNat 1 ∧ serM M (a).toNat 1 ≤ 105190559 := hS2.1
  have hoS0 := (hokS a.toNat (by omega)).1
  have hsF : (X r2 1 = serM M a.toNat 1 ∧ X r2 2 = bdS (serM M a.toNat) ∧ X r2 6 = serM M a.toNat 8) ∧ X r2 10 = serM M a.toNat 5 ∧ X r2 11 = serM M a.toNat 6 ∧ X r2 12 = serM M a.toNat 7 := ⟨⟨hD2.1.1, hD2.1.2.1, hD2.1.2.2.2.2.2⟩, hD2.2.2.1, hD2.2.2.2.1, hD2.2.2.2.2.1⟩
  refine lv_astore_n (pc := 5) (lv' := [(3, .ref r2), (0, .ref x), (1, .int (iI a)), (2, .int (iI v))]) hx hb dX8_setLast_5 rfl hl (by decide) rfl (fun ls hl => ?_)
  refine lv_iload_n (pc := 6) hx hb dX8_setLast_6 rfl (lv_at hl 3 rfl) ?_
  refine lv_aload_n (pc := 7) hx hb dX8_setLast_7 rfl (lv_at hl 0 rfl) ?_
  refine zgetI (pc := 8) hx hb hG hown hw hks2 (T := TX5) rfl 2 (by decide) rfl wf_X8_232 rfl dX8_setLast_8 ?_
  refine zicmp_lt (pc := 11) hx hb 22 (by omega) (by omega) dX8_setLast_11 (by decide) (fun c11 => ?_) (fun c11 => ?_)
  · skip
    exact zthrow (pc := 22) hx hb hl9 hown hG hX hw wn_X8_56 wi_javalangIllegalArgumentException (List.mem_of_getElem? (i := 25) rfl) zthr_60 (hl.1.trans hml.symm) ht dX8_setLast_22 dX8_setLast_25 dX8_setLast_26 dX8_setLast_28 dX8_setLast_31 (by show 6 ≤ _; exact Nat.le_of_ble_eq_true rfl) (Nat.le_of_ble_eq_true rfl) (by show 0 + 1 + 1 ≤ 2; omega) (by show 0 + 6 + 6 ≤ 12; omega) hlocks (by (try dsimp only); first | exact ⟨rfl, (by (unfold cdSet; (repeat' split) <;> omega))⟩ | exact Or.inl ⟨rfl, (by (unfold cdSet; (repeat' split) <;> omega))⟩ | exact Or.inr ⟨rfl, (by (unfold cdSet; (repeat' split) <;> omega))⟩ | exact Or.inr (Or.inl ⟨rfl, (by (unfold cdSet; (repeat' split) <;> omega))⟩) | exact Or.inr (Or.inr ⟨rfl, (by (unfold cdSet; (repeat' split) <;> omega))⟩)) (by show 0 + 1 + 1 ≤ 2; omega) (by show 0 + 6 + 6 ≤ 12; omega)
  · skip
    refine lv_iload_n (pc := 14) hx hb dX8_setLast_14 rfl (lv_at hl 3 rfl) ?_
    refine lv_aload_n (pc := 15) hx hb dX8_setLast_15 rfl (lv_at hl 0 rfl) ?_
    refine zgetI (pc := 16) hx hb hG hown hw hks2 (T := TX5) rfl 6 (by decide) rfl wf_X8_235 rfl dX8_setLast_16 ?_
    refine zicmp_le (pc := 19) hx hb 32 (by omega) (by omega) dX8_setLast_19 (by decide) (fun c19 => ?_) (fun c19 => ?_)
    · skip
      refine lv_aload_n (pc := 32) hx hb dX8_setLast_32 rfl (lv_at hl 0 rfl) ?_
      refine zgetI (pc := 33) hx hb hG hown hw hks2 (T := TX5) rfl 12 (by decide) rfl wf_X8_240 rfl dX8_setLast_33 ?_
      refine ztop (fun x36 ex36 => ?_)
      refine lv_istore (pc := 36) (lv' := [(4, .int (iI x36)), (3, .ref r2), (0, .ref x), (1, .int (iI a)), (2, .int (iI v))]) hx hb dX8_setLast_36 hl (by decide) rfl (fun ls hl => ?_)
      refine lv_aload_n (pc := 38) hx hb dX8_setLast_38 rfl (lv_at hl 1 rfl) ?_
      refine lv_iload_n (pc := 39) hx hb dX8_setLast_39 rfl (lv_at hl 4 rfl) ?_
      refine zputI (pc := 40) hx hb hG hown hw hks2 (T := TX5) rfl 12 (by decide) rfl wf_X8_240 rfl (by decide +kernel) rfl dX8_setLast_40 (fun H locs hw => ?_)
      obtain ⟨X40, eX40⟩ : ∃ Y : zX, Y = up2 X r2 12 v := ⟨_, rfl⟩
      rw [← eX40] at hw
      have hoS := (hokS a.toNat (by omega)).1
      have hup : useM M2 a.toNat = useM M a.toNat := by rw [hM2]; exact useM_f (up2_o (by decide)) patM_17 _
      have hex : excM M2 a.toNat = excM M a.toNat := by rw [hM2]; exact excM_f (up2_o (by decide)) _
      have hpnz : ∀ a9, K a9 = (1, 2) → X40 a9 = X a9 := fun a9 h9 => by rw [eX40, up2_o (not_k2 hks2 (by simp) h9)]
      have hs0z : serM M2 a.toNat 0 = serM M a.toNat 0 := by rw [hsj, if_neg (by decide)]
      have hs1z : serM M2 a.toNat 1 = serM M a.toNat 1 := by rw [hsj, if_neg (by decide)]
      have hs2z : serM M2 a.toNat 2 = serM M a.toNat 2 := by rw [hsj, if_neg (by decide)]
      have hs3z : serM M2 a.toNat 3 = serM M a.toNat 3 := by rw [hsj, if_neg (by decide)]
      have hs4z : serM M2 a.toNat 4 = serM M a.toNat 4 := by rw [hsj, if_neg (by decide)]
      have hs5z : serM M2 a.toNat 5 = serM M a.toNat 5 := by rw [hsj, if_neg (by decide)]
      have hs6z : serM M2 a.toNat 6 = serM M a.toNat 6 := by rw [hsj, if_neg (by decide)]
      have hs7z : serM M2 a.toNat 7 = v := by rw [hsj, if_pos rfl]
      have hs8z : serM M2 a.toNat 8 = serM M a.toNat 8 := by rw [hsj, if_neg (by decide)]
      have hs9z : serM M2 a.toNat 9 = serM M a.toNat 9 := by rw [hsj, if_neg (by decide)]
      have hs10z : serM M2 a.toNat 10 = serM M a.toNat 10 := by rw [hsj, if_neg (by decide)]
      have hDz : serD (X40 r2) (serM M2 a.toNat) := serD_upd hD2 hs1z hs2z hs3z hs4z hs8z (by rw [eX40, up2_k (by decide), hs9z]; exact hD2.2.1) (by rw [eX40, up2_k (by decide), hs5z]; exact hD2.2.2.1) (by rw [eX40, up2_k (by decide), hs6z]; exact hD2.2.2.2.1) (by rw [eX40, up2_s, hs7z]) (by rw [eX40, up2_k (by decide), hs10z]; exact hD2.2.2.2.2.2) (fun q9 h9 => by rw [eX40, up2_k (by omega)])
      have hbdz : bdS (serM M2 a.toNat) = bdS (serM M a.toNat) := by unfold bdS; rw [hs1z]
      have hoz : okS (serM M2 a.toNat) := by omega
      have hUz : upOK K X40 Rf po2 (serM M2 a.toNat) (useM M2 a.toNat) := fun k9 h9 => by rw [hup]; obtain ⟨pa9, g1, g2, g3, g4⟩ := hU2 k9 (by omega); exact ⟨pa9, g1, g2, by rw [hpnz pa9 g2]; exact g3, by rw [hpnz pa9 g2]; exact g4⟩
      have hUsz : usOK K X40 Rf r2 (serM M2 a.toNat) := usOK_upd hUs2 hs1z hs2z hpnz rfl
      have hnez1 : eo2 ≠ r2 := zkne hkeo2 hks2 (by simp)
      have hEz : ∀ k9 : Nat, (k9 : Int) < serM M2 a.toNat 10 → X40 eo2 k9 = excM M2 a.toNat k9 ∧ 0 ≤ excM M2 a.toNat k9 ∧ excM M2 a.toNat k9 ≤ 73048 := fun k9 h9 => by rw [hex, eX40, up2_o hnez1]; exact hE2 k9 (by omega)
      refine lv_aload_n (pc := 43) hx hb dX8_setLast_43 rfl (lv_at hl 1 rfl) ?_
      refine lv_aload_n (pc := 44) hx hb dX8_setLast_44 rfl (lv_at hl 2 rfl) ?_
      refine zgetR (pc := 45) hx hb hG hown hw hk (T := TX8) rfl 6 (by decide) rfl wf_X8_42 rfl hr6 dX8_setLast_45 ?_
      refine zkVx (pc := 48) (zrV (As := [.ref dr]) hx hb hml hown hG hw (c_X5_findDates l Γ K X40 Rf r2 dr (serM M2 a.toNat) (useM M2 a.toNat) (excM M2 a.toNat) po2 eo2 fo2 na (by (first | assumption | omega)) (by (first | assumption | omega)) (by (first | assumption | omega)) (by (first | assumption | omega)) (by (first | assumption | omega)) (by (first | assumption | omega)) (by (first | assumption | omega)) (by (first | assumption | omega)) (by (first | assumption | omega)) (by (first | assumption | omega)) (by (first | assumption | omega)) (by (first | assumption | omega)) (by (first | assumption | omega)) (by (first | assumption | omega)) (by (first | assumption | omega))) (T := TX5) hks2 rfl cb_X5_findDates wl_X8_210 rfl ⟨Nat.le_of_ble_eq_true rfl, Nat.le_of_ble_eq_true rfl⟩ hl.1 rfl (Nat.le_of_ble_eq_true rfl) dX8_setLast_48 ⟨(by show 0 + 1 + 0 ≤ 2; omega), (by show 0 + 6 + 0 ≤ 12; omega)⟩) hw (fun X48 H locs hp48 hw => ?_)
      refine lv_iload (pc := 51) hx hb dX8_setLast_51 (lv_at hl 0 rfl) ?_
      exact vx_ret (zretI (pc := 53) hx hb hlocks hr hw (by show 0 + 1 ≤ 2; omega) (by show 0 + 6 ≤ 12; omega) dX8_setLast_53 (by 
                                        refine ⟨⟨by omega, by (unfold cdSet; (repeat' split) <;> omega)⟩, ?_⟩
                                        obtain ⟨hrp9, hoo9, hqq9⟩ := hp48
                                        rw [← hM2]
                                        have hnf : r2 ≠ fo2 := zkne hks2 hkfo2 (by simp)
                                        have hnd : r2 ≠ dr := zkn2 hks2 hkdr (by simp)
                                        have hnn : r2 ≠ na := zkne hks2 hkna (by simp)
                                        refine hC.ser (n := a.toNat) hr4 (by omega) hrs2 hr6 hrd hr82 hr132 hr152 (fun a9 g1 g2 g3 g4 g5 g6 => ⟨by rw [hoo9 a9 g1 g2 g3 g4, eX40, up2_o g1], rfl⟩) rfl (fun f g1 g2 g3 => by rw [hM2]; exact up2_o g1) (fun k9 g => ⟨by rw [hM2]; exact serM_oth (by decide) g, by rw [hM2]; exact useM_f (up2_o (by decide)) patM_17 _, by rw [hM2]; exact excM_f (up2_o (by decide)) _⟩) hs0z (fun p9 g => ?_)
                                        have hne2 : eo2 ≠ fo2 := zkn2 hkeo2 hkfo2 (by simp)
                                        have hne3 : eo2 ≠ dr := zkne hkeo2 hkdr (by simp)
                                        have hne4 : eo2 ≠ na := zkn2 hkeo2 hkna (by simp)
                                        exact seA_new (Rf := Rf) ⟨hks2, hls2⟩ ⟨g, hr82, hr132, hr152⟩ ⟨hkpo2, hkeo2, hkfo2⟩ ⟨hlpo2, hleo2, hlfo2⟩ hDz hoz hUz hUsz hEz (fun a9 h9 => hoo9 a9 (not_k2 hks2 (by simp) h9) (not_k2 hkfo2 (by simp) h9) (not_k2 hkdr (by simp) h9) (not_k2 hkna (by simp) h9)) (hoo9 eo2 hnez1 hne2 hne3 hne4) hqq9 hrp9))
    · skip
      exact zthrow (pc := 22) hx hb hl9 hown hG hX hw wn_X8_56 wi_javalangIllegalArgumentException (List.mem_of_getElem? (i := 25) rfl) zthr_60 (hl.1.trans hml.symm) ht dX8_setLast_22 dX8_setLast_25 dX8_setLast_26 dX8_setLast_28 dX8_setLast_31 (by show 6 ≤ _; exact Nat.le_of_ble_eq_true rfl) (Nat.le_of_ble_eq_true rfl) (by show 0 + 1 + 1 ≤ 2; omega) (by show 0 + 6 + 6 ≤ 12; omega) hlocks (by (try dsimp only); first | exact ⟨rfl, (by (unfold cdSet; (repeat' split) <;> omega))⟩ | exact Or.inl ⟨rfl, (by (unfold cdSet; (repeat' split) <;> omega))⟩ | exact Or.inr ⟨rfl, (by (unfold cdSet; (repeat' split) <;> omega))⟩ | exact Or.inr (Or.inl ⟨rfl, (by (unfold cdSet; (repeat' split) <;> omega))⟩) | exact Or.inr (Or.inr ⟨rfl, (by (unfold cdSet; (repeat' split) <;> omega))⟩)) (by show 0 + 1 + 1 ≤ 2; omega) (by show 0 + 6 + 6 ≤ 12; omega)
