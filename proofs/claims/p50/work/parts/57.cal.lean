set_option maxHeartbeats 4000000 in
set_option maxRecDepth 100000 in
theorem c_X8_addSeries_k0 (l : Launch) (hl9 : l.stackTraces = false) (Γ : zG) (K : zK) (X : zX) (Rf : zR) (x : Nat) (a : Int) (bg : Int) (ki : Int) (st : Int) (wd : Int) (ρ : zL) (M : zM) (hC : repC ρ K X Rf x M) (hM : okM M) (h1 : fit a ∧ fit bg ∧ fit ki) (h2 : fit st ∧ fit wd) (hv : ki < 2) : Cx l yX8_addSeries cX8_addSeries 9 (some .int) 7 8 4060 Γ [.ref x, .int (iI a), .int (iI bg), .int (iI ki), .int (iI st), .int (iI wd)] K X Rf (pI (fun (r : Int) (K' : zK) (X' : zX) (R' : zR) => (r = M 40 16 ∧ cdAse M a bg ki st wd = 0) ∧ ∃ ρ', repC ρ' K' X' R' x (seM M (M 40 16).toNat a bg ki st wd) ∧ frC ρ K X Rf ρ' K' X' R')) (fun E : String => (E = "java/lang/IndexOutOfBoundsException" ∧ cdAse M a bg ki st wd = 1) ∨ (E = "java/lang/IllegalArgumentException" ∧ cdAse M a bg ki st wd = 2) ∨ (E = "java/lang/IllegalStateException" ∧ cdAse M a bg ki st wd = 3)) := by
  refine Cx.of (by decide +kernel) (Nat.le_of_ble_eq_true rfl) ?_
  intro p e s m below meth c ls hx hb hr hml hown hG hlocks hname ht hX hw hl
  have hl : lv_has ls 9 [(0, .ref x), (1, .int (iI a)), (2, .int (iI bg)), (3, .int (iI ki)), (4, .int (iI st)), (5, .int (iI wd))] := hl
  obtain ⟨⟨hk, hlx⟩, pr, pl, sr, dr, na, wo, ⟨hr0, hr2, hr4, hr6, hr7, hrd⟩, ⟨hkpr, hkpl, hksr, hkdr, hkna⟩, ⟨hlpr, hlpl, hlsr, hldr, hlna⟩, ⟨hx1, hx3, hx5⟩, hpt, hpl, hse, hwo⟩ := id hC
  obtain ⟨⟨hb1, hb2, hb3, hb4⟩, hokP, hokL, hokS, hokW, hokF⟩ := id hM
  obtain ⟨i9, hi9⟩ : ∃ i9 : Nat, M 40 16 = i9 := ⟨(M 40 16).toNat, by omega⟩
  refine lv_aload_n (pc := 0) hx hb dX8_addSeries_0 rfl (lv_at hl 0 rfl) ?_
  refine lv_iload_n (pc := 1) hx hb dX8_addSeries_1 rfl (lv_at hl 1 rfl) ?_
  refine zxkRp (pc := 2) (zxrV (As := [.int (iI a)]) hx hb hml hown hG hX hw (c_X8_needPlace l hl9 Γ K X Rf x a pl (ρ) M (by (first | assumption | omega)) (by (first | assumption | omega)) (by (first | assumption | omega)) (by (first | assumption | omega)) (by (first | assumption | omega)) (by (first | assumption | omega))) (T := TX8) hk rfl cb_X8_needPlace wl_X8_143 rfl ⟨Nat.le_of_ble_eq_true rfl, Nat.le_of_ble_eq_true rfl⟩ hl.1 rfl (Nat.le_of_ble_eq_true rfl) dX8_addSeries_2 ⟨(by show 0 + 1 ≤ 8; omega), (by show 0 + 6 ≤ 4060; omega)⟩) hw (fun E9 ce9 q9 H9 locs9 hxp9 hw9 hce9 hcv9 hcl9 => zxout (pc := 2) ht hlocks hw9 hce9 hcv9 hcl9 (by (obtain ⟨rfl, hq9⟩ := hxp9; (try dsimp only); first | exact ⟨rfl, (by (unfold cdAse; (repeat' split) <;> omega))⟩ | exact Or.inl ⟨rfl, (by (unfold cdAse; (repeat' split) <;> omega))⟩ | exact Or.inr ⟨rfl, (by (unfold cdAse; (repeat' split) <;> omega))⟩ | exact Or.inr (Or.inl ⟨rfl, (by (unfold cdAse; (repeat' split) <;> omega))⟩))) (by show 0 + 1 ≤ 8; omega) (by show 0 + 6 ≤ 4060; omega)) (fun r2 H locs hp2 hw => ?_)
  obtain ⟨⟨hrp2, ⟨hkp2, hlp2⟩, tu2, to2, be2, sa2, ⟨hr12, hr32, hr42, hr52⟩, ⟨hk12, hk32, hk42, hk52⟩, ⟨hl12, hl32, hl42, hl52⟩, htu2, hn62, hct2, ⟨hbs2, hbr2⟩, hpp2⟩, hip2⟩ := hp2
  have hbs92 : -840 ≤ X r2 0 ∧ X r2 0 ≤ 840 := by omega
  have hpq2 : prep (X be2) (X sa2) (X r2 6) (savM M (a).toNat) := hpp2
  refine lv_astore (pc := 5) (lv' := [(6, .ref r2), (0, .ref x), (1, .int (iI a)), (2, .int (iI bg)), (3, .int (iI ki)), (4, .int (iI st)), (5, .int (iI wd))]) hx hb dX8_addSeries_5 hl (by decide) rfl (fun ls hl => ?_)
  refine lv_iload_n (pc := 7) hx hb dX8_addSeries_7 rfl (lv_at hl 3 rfl) ?_
  refine zif_lt (pc := 8) hx hb 17 (by omega) dX8_addSeries_8 (by decide) (fun c8 => ?_) (fun c8 => ?_)
  · skip
    exact zthrow (pc := 17) hx hb hl9 hown hG hX hw wn_X8_56 wi_javalangIllegalArgumentException (List.mem_of_getElem? (i := 9) rfl) zthr_60 (hl.1.trans hml.symm) ht dX8_addSeries_17 dX8_addSeries_20 dX8_addSeries_21 dX8_addSeries_23 dX8_addSeries_26 (by show 6 ≤ _; exact Nat.le_of_ble_eq_true rfl) (Nat.le_of_ble_eq_true rfl) (by show 0 + 1 + 1 ≤ 8; omega) (by show 0 + 6 + 6 ≤ 4060; omega) hlocks (by (try dsimp only); first | exact ⟨rfl, (by (unfold cdAse; (repeat' split) <;> omega))⟩ | exact Or.inl ⟨rfl, (by (unfold cdAse; (repeat' split) <;> omega))⟩ | exact Or.inr ⟨rfl, (by (unfold cdAse; (repeat' split) <;> omega))⟩ | exact Or.inr (Or.inl ⟨rfl, (by (unfold cdAse; (repeat' split) <;> omega))⟩) | exact Or.inr (Or.inr ⟨rfl, (by (unfold cdAse; (repeat' split) <;> omega))⟩)) (by show 0 + 1 + 1 ≤ 8; omega) (by show 0 + 6 + 6 ≤ 4060; omega)
  · skip
    refine lv_iload_n (pc := 11) hx hb dX8_addSeries_11 rfl (lv_at hl 3 rfl) ?_
    refine zldc (pc := 12) (n := 105190559) hx hb hown hG wk_X8_200 dX8_addSeries_12 ?_
    refine zicmp_le (pc := 14) hx hb 27 (by omega) (by omega) dX8_addSeries_14 (by decide) (fun c14 => ?_) (fun c14 => ?_)
    · skip
      refine lv_iload_n (pc := 27) hx hb dX8_addSeries_27 rfl (lv_at hl 4 rfl) ?_
      refine zif_lt (pc := 28) hx hb 61 (by omega) dX8_addSeries_28 (by decide) (fun c28 => ?_) (fun c28 => ?_)
      · skip
        exact zthrow (pc := 61) hx hb hl9 hown hG hX hw wn_X8_56 wi_javalangIllegalArgumentException (List.mem_of_getElem? (i := 10) rfl) zthr_60 (hl.1.trans hml.symm) ht dX8_addSeries_61 dX8_addSeries_64 dX8_addSeries_65 dX8_addSeries_67 dX8_addSeries_70 (by show 6 ≤ _; exact Nat.le_of_ble_eq_true rfl) (Nat.le_of_ble_eq_true rfl) (by show 0 + 1 + 1 ≤ 8; omega) (by show 0 + 6 + 6 ≤ 4060; omega) hlocks (by (try dsimp only); first | exact ⟨rfl, (by (unfold cdAse; (repeat' split) <;> omega))⟩ | exact Or.inl ⟨rfl, (by (unfold cdAse; (repeat' split) <;> omega))⟩ | exact Or.inr ⟨rfl, (by (unfold cdAse; (repeat' split) <;> omega))⟩ | exact Or.inr (Or.inl ⟨rfl, (by (unfold cdAse; (repeat' split) <;> omega))⟩) | exact Or.inr (Or.inr ⟨rfl, (by (unfold cdAse; (repeat' split) <;> omega))⟩)) (by show 0 + 1 + 1 ≤ 8; omega) (by show 0 + 6 + 6 ≤ 4060; omega)
      · skip
        refine lv_iload_n (pc := 31) hx hb dX8_addSeries_31 rfl (lv_at hl 4 rfl) ?_
        refine ziconst (pc := 32) (n := 3) hx hb dX8_addSeries_32 ?_
        refine zicmp_gt (pc := 33) hx hb 61 (by omega) (by omega) dX8_addSeries_33 (by decide) (fun c33 => ?_) (fun c33 => ?_)
        · skip
          exact zthrow (pc := 61) hx hb hl9 hown hG hX hw wn_X8_56 wi_javalangIllegalArgumentException (List.mem_of_getElem? (i := 10) rfl) zthr_60 (hl.1.trans hml.symm) ht dX8_addSeries_61 dX8_addSeries_64 dX8_addSeries_65 dX8_addSeries_67 dX8_addSeries_70 (by show 6 ≤ _; exact Nat.le_of_ble_eq_true rfl) (Nat.le_of_ble_eq_true rfl) (by show 0 + 1 + 1 ≤ 8; omega) (by show 0 + 6 + 6 ≤ 4060; omega) hlocks (by (try dsimp only); first | exact ⟨rfl, (by (unfold cdAse; (repeat' split) <;> omega))⟩ | exact Or.inl ⟨rfl, (by (unfold cdAse; (repeat' split) <;> omega))⟩ | exact Or.inr ⟨rfl, (by (unfold cdAse; (repeat' split) <;> omega))⟩ | exact Or.inr (Or.inl ⟨rfl, (by (unfold cdAse; (repeat' split) <;> omega))⟩) | exact Or.inr (Or.inr ⟨rfl, (by (unfold cdAse; (repeat' split) <;> omega))⟩)) (by show 0 + 1 + 1 ≤ 8; omega) (by show 0 + 6 + 6 ≤ 4060; omega)
        · skip
          refine lv_iload (pc := 36) hx hb dX8_addSeries_36 (lv_at hl 5 rfl) ?_
          refine ziconst (pc := 38) (n := 1) hx hb dX8_addSeries_38 ?_
          refine zicmp_lt (pc := 39) hx hb 61 (by omega) (by omega) dX8_addSeries_39 (by decide) (fun c39 => ?_) (fun c39 => ?_)
          · skip
            exact zthrow (pc := 61) hx hb hl9 hown hG hX hw wn_X8_56 wi_javalangIllegalArgumentException (List.mem_of_getElem? (i := 10) rfl) zthr_60 (hl.1.trans hml.symm) ht dX8_addSeries_61 dX8_addSeries_64 dX8_addSeries_65 dX8_addSeries_67 dX8_addSeries_70 (by show 6 ≤ _; exact Nat.le_of_ble_eq_true rfl) (Nat.le_of_ble_eq_true rfl) (by show 0 + 1 + 1 ≤ 8; omega) (by show 0 + 6 + 6 ≤ 4060; omega) hlocks (by (try dsimp only); first | exact ⟨rfl, (by (unfold cdAse; (repeat' split) <;> omega))⟩ | exact Or.inl ⟨rfl, (by (unfold cdAse; (repeat' split) <;> omega))⟩ | exact Or.inr ⟨rfl, (by (unfold cdAse; (repeat' split) <;> omega))⟩ | exact Or.inr (Or.inl ⟨rfl, (by (unfold cdAse; (repeat' split) <;> omega))⟩) | exact Or.inr (Or.inr ⟨rfl, (by (unfold cdAse; (repeat' split) <;> omega))⟩)) (by show 0 + 1 + 1 ≤ 8; omega) (by show 0 + 6 + 6 ≤ 4060; omega)
          · skip
            refine lv_iload (pc := 42) hx hb dX8_addSeries_42 (lv_at hl 5 rfl) ?_
            refine zbipush (pc := 44) (n := 60) hx hb dX8_addSeries_44 rfl ?_
            refine zicmp_gt (pc := 46) hx hb 61 (by omega) (by omega) dX8_addSeries_46 (by decide) (fun c46 => ?_) (fun c46 => ?_)
            · skip
              exact zthrow (pc := 61) hx hb hl9 hown hG hX hw wn_X8_56 wi_javalangIllegalArgumentException (List.mem_of_getElem? (i := 10) rfl) zthr_60 (hl.1.trans hml.symm) ht dX8_addSeries_61 dX8_addSeries_64 dX8_addSeries_65 dX8_addSeries_67 dX8_addSeries_70 (by show 6 ≤ _; exact Nat.le_of_ble_eq_true rfl) (Nat.le_of_ble_eq_true rfl) (by show 0 + 1 + 1 ≤ 8; omega) (by show 0 + 6 + 6 ≤ 4060; omega) hlocks (by (try dsimp only); first | exact ⟨rfl, (by (unfold cdAse; (repeat' split) <;> omega))⟩ | exact Or.inl ⟨rfl, (by (unfold cdAse; (repeat' split) <;> omega))⟩ | exact Or.inr ⟨rfl, (by (unfold cdAse; (repeat' split) <;> omega))⟩ | exact Or.inr (Or.inl ⟨rfl, (by (unfold cdAse; (repeat' split) <;> omega))⟩) | exact Or.inr (Or.inr ⟨rfl, (by (unfold cdAse; (repeat' split) <;> omega))⟩)) (by show 0 + 1 + 1 ≤ 8; omega) (by show 0 + 6 + 6 ≤ 4060; omega)
            · skip
              refine lv_iload (pc := 49) hx hb dX8_addSeries_49 (lv_at hl 6 rfl) ?_
              refine zif_lt (pc := 51) hx hb 61 (by omega) dX8_addSeries_51 (by decide) (fun c51 => ?_) (fun c51 => ?_)
              · skip
                exact zthrow (pc := 61) hx hb hl9 hown hG hX hw wn_X8_56 wi_javalangIllegalArgumentException (List.mem_of_getElem? (i := 10) rfl) zthr_60 (hl.1.trans hml.symm) ht dX8_addSeries_61 dX8_addSeries_64 dX8_addSeries_65 dX8_addSeries_67 dX8_addSeries_70 (by show 6 ≤ _; exact Nat.le_of_ble_eq_true rfl) (Nat.le_of_ble_eq_true rfl) (by show 0 + 1 + 1 ≤ 8; omega) (by show 0 + 6 + 6 ≤ 4060; omega) hlocks (by (try dsimp only); first | exact ⟨rfl, (by (unfold cdAse; (repeat' split) <;> omega))⟩ | exact Or.inl ⟨rfl, (by (unfold cdAse; (repeat' split) <;> omega))⟩ | exact Or.inr ⟨rfl, (by (unfold cdAse; (repeat' split) <;> omega))⟩ | exact Or.inr (Or.inl ⟨rfl, (by (unfold cdAse; (repeat' split) <;> omega))⟩) | exact Or.inr (Or.inr ⟨rfl, (by (unfold cdAse; (repeat' split) <;> omega))⟩)) (by show 0 + 1 + 1 ≤ 8; omega) (by show 0 + 6 + 6 ≤ 4060; omega)
              · skip
                refine lv_iload (pc := 54) hx hb dX8_addSeries_54 (lv_at hl 6 rfl) ?_
                refine zbipush (pc := 56) (n := 127) hx hb dX8_addSeries_56 rfl ?_
                refine zicmp_le (pc := 58) hx hb 71 (by omega) (by omega) dX8_addSeries_58 (by decide) (fun c58 => ?_) (fun c58 => ?_)
                · skip
                  refine lv_aload_n (pc := 71) hx hb dX8_addSeries_71 rfl (lv_at hl 1 rfl) ?_
                  refine zgetI (pc := 72) hx hb hG hown hw hk (T := TX8) rfl 5 (by decide) rfl wf_X8_34 rfl dX8_addSeries_72 ?_
                  refine ztop (fun x75 ex75 => ?_)
                  refine lv_istore (pc := 75) (lv' := [(7, .int (iI x75)), (6, .ref r2), (0, .ref x), (1, .int (iI a)), (2, .int (iI bg)), (3, .int (iI ki)), (4, .int (iI st)), (5, .int (iI wd))]) hx hb dX8_addSeries_75 hl (by decide) rfl (fun ls hl => ?_)
                  refine lv_iload (pc := 77) hx hb dX8_addSeries_77 (lv_at hl 0 rfl) ?_
                  refine zif_lt (pc := 79) hx hb 92 (by omega) dX8_addSeries_79 (by decide) (fun c79 => ?_) (fun c79 => ?_)
                  · skip
                    exact zthrow (pc := 92) hx hb hl9 hown hG hX hw wn_X8_117 wi_javalangIllegalStateException (List.mem_of_getElem? (i := 11) rfl) zthr_121 (hl.1.trans hml.symm) ht dX8_addSeries_92 dX8_addSeries_95 dX8_addSeries_96 dX8_addSeries_98 dX8_addSeries_101 (by show 6 ≤ _; exact Nat.le_of_ble_eq_true rfl) (Nat.le_of_ble_eq_true rfl) (by show 0 + 1 + 1 ≤ 8; omega) (by show 0 + 6 + 6 ≤ 4060; omega) hlocks (by (try dsimp only); first | exact ⟨rfl, (by (unfold cdAse; (repeat' split) <;> omega))⟩ | exact Or.inl ⟨rfl, (by (unfold cdAse; (repeat' split) <;> omega))⟩ | exact Or.inr ⟨rfl, (by (unfold cdAse; (repeat' split) <;> omega))⟩ | exact Or.inr (Or.inl ⟨rfl, (by (unfold cdAse; (repeat' split) <;> omega))⟩) | exact Or.inr (Or.inr ⟨rfl, (by (unfold cdAse; (repeat' split) <;> omega))⟩)) (by show 0 + 1 + 1 ≤ 8; omega) (by show 0 + 6 + 6 ≤ 4060; omega)
                  · skip
                    refine lv_iload (pc := 82) hx hb dX8_addSeries_82 (lv_at hl 0 rfl) ?_
                    refine lv_aload_n (pc := 84) hx hb dX8_addSeries_84 rfl (lv_at hl 2 rfl) ?_
                    refine zgetR (pc := 85) hx hb hG hown hw hk (T := TX8) rfl 4 (by decide) rfl wf_X8_30 rfl hr4 dX8_addSeries_85 ?_
                    refine zlen8 (pc := 88) hx hb hw hksr dX8_addSeries_88 ?_
                    refine zicmp_lt (pc := 89) hx hb 102 (by omega) (by omega) dX8_addSeries_89 (by decide) (fun c89 => ?_) (fun c89 => ?_)
                    · skip
                      refine znew (pc := 102) hx hb hG hown hw (T := TX5) (ci := 4) rfl wn_X8_28 wt_X5 wi_X5 (by show 0 + 1 + 1 ≤ 8; omega) (by show 0 + 6 + 18 ≤ 4060; omega) dX8_addSeries_102 (fun q102 H hfq102 hw => ?_)
                      obtain ⟨K102, eK102⟩ : ∃ Y : zK, Y = zup K q102 (1, 4) := ⟨_, rfl⟩
                      obtain ⟨X102, eX102⟩ : ∃ Y : zX, Y = zupX X q102 := ⟨_, rfl⟩
                      obtain ⟨R102, eR102⟩ : ∃ Y : zR, Y = zupR Rf q102 := ⟨_, rfl⟩
                      replace hw := Wd.re hw eK102 eX102 eR102
                      have hk102 : K102 x = (1, 7) := by rw [eK102]; exact zup_k hfq102 hk (Nat.succ_ne_zero _)
                      have hn102 : x ≠ q102 := zne hk hfq102
                      have hk102_1 : K102 pr = (6, 24) := by rw [eK102]; exact zup_k hfq102 hkpr (Nat.succ_ne_zero _)
                      have hn102_1 : pr ≠ q102 := zne hkpr hfq102
                      have hk102_2 : K102 pl = (7, 6) := by rw [eK102]; exact zup_k hfq102 hkpl (Nat.succ_ne_zero _)
                      have hn102_2 : pl ≠ q102 := zne hkpl hfq102
                      have hk102_3 : K102 sr = (8, 6) := by rw [eK102]; exact zup_k hfq102 hksr (Nat.succ_ne_zero _)
                      have hn102_3 : sr ≠ q102 := zne hksr hfq102
                      have hk102_4 : K102 dr = (1, 0) := by rw [eK102]; exact zup_k hfq102 hkdr (Nat.succ_ne_zero _)
                      have hn102_4 : dr ≠ q102 := zne hkdr hfq102
                      have hk102_5 : K102 na = (2, 4733) := by rw [eK102]; exact zup_k hfq102 hkna (Nat.succ_ne_zero _)
                      have hn102_5 : na ≠ q102 := zne hkna hfq102
                      have hk102_6 : K102 r2 = (1, 3) := by rw [eK102]; exact zup_k hfq102 hkp2 (Nat.succ_ne_zero _)
                      have hn102_6 : r2 ≠ q102 := zne hkp2 hfq102
                      have hk102_7 : K102 tu2 = (9, 6) := by rw [eK102]; exact zup_k hfq102 hk12 (Nat.succ_ne_zero _)
                      have hn102_7 : tu2 ≠ q102 := zne hk12 hfq102
                      have hk102_8 : K102 to2 = (2, 6) := by rw [eK102]; exact zup_k hfq102 hk32 (Nat.succ_ne_zero _)
                      have hn102_8 : to2 ≠ q102 := zne hk32 hfq102
                      have hk102_9 : K102 be2 = (2, 1201) := by rw [eK102]; exact zup_k hfq102 hk42 (Nat.succ_ne_zero _)
                      have hn102_9 : be2 ≠ q102 := zne hk42 hfq102
                      have hk102_10 : K102 sa2 = (2, 1201) := by rw [eK102]; exact zup_k hfq102 hk52 (Nat.succ_ne_zero _)
                      have hn102_10 : sa2 ≠ q102 := zne hk52 hfq102
                      have hk102_11 : K102 q102 = (1, 4) := by rw [eK102]; exact zup_s
                      have hr102 : R102 x 0 = some pr := by rw [eR102, zupR_n hn102]; exact hr0
                      have hr102_1 : R102 x 2 = some pl := by rw [eR102, zupR_n hn102]; exact hr2
                      have hr102_2 : R102 x 4 = some sr := by rw [eR102, zupR_n hn102]; exact hr4
                      have hr102_3 : R102 x 6 = some dr := by rw [eR102, zupR_n hn102]; exact hr6
                      have hr102_4 : R102 x 7 = some wo := by rw [eR102, zupR_n hn102]; exact hr7
                      have hr102_5 : R102 dr 0 = some na := by rw [eR102, zupR_n hn102_4]; exact hrd
                      have hr102_6 : R102 r2 1 = some tu2 := by rw [eR102, zupR_n hn102_6]; exact hr12
                      have hr102_7 : R102 r2 3 = some to2 := by rw [eR102, zupR_n hn102_6]; exact hr32
                      have hr102_8 : R102 r2 4 = some be2 := by rw [eR102, zupR_n hn102_6]; exact hr42
                      have hr102_9 : R102 r2 5 = some sa2 := by rw [eR102, zupR_n hn102_6]; exact hr52
                      refine lv_dup (pc := 105) hx hb dX8_addSeries_105 rfl ?_
                      refine lv_aload (pc := 106) hx hb dX8_addSeries_106 (lv_at hl 1 rfl) ?_
                      refine lv_iload_n (pc := 108) hx hb dX8_addSeries_108 rfl (lv_at hl 4 rfl) ?_
                      refine lv_iload_n (pc := 109) hx hb dX8_addSeries_109 rfl (lv_at hl 5 rfl) ?_
                      refine lv_iload (pc := 110) hx hb dX8_addSeries_110 (lv_at hl 6 rfl) ?_
                      refine lv_iload (pc := 112) hx hb dX8_addSeries_112 (lv_at hl 7 rfl) ?_
                      refine zkV (pc := 114) (zrI (As := [.ref r2, .int (iI bg), .int (iI ki), .int (iI st), .int (iI wd)]) hx hb hml hown hG hw (c_X5_init_k0 l Γ K102 X102 R102 q102 r2 bg ki st wd  (by (first | assumption | omega)) (by (first | assumption | omega)) (by (first | assumption | omega)) (by (first | assumption | omega))) cb_X5_init wl_X8_207 rfl ⟨Nat.le_of_ble_eq_true rfl, Nat.le_of_ble_eq_true rfl⟩ hl.1 rfl (Nat.le_of_ble_eq_true rfl) dX8_addSeries_114 ⟨(by show 0 + 1 + 1 + 3 ≤ 8; omega), (by show 0 + 6 + 18 + 4013 ≤ 4060; omega)⟩) hw (fun K114 X114 R114 H locs hp114 hw => ?_)
                      obtain ⟨po_114, eo_114, fo_114, ⟨cK114, cX114⟩, ⟨cz114, ck114⟩, ⟨cz114_1, ck114_1⟩, ⟨cz114_2, ck114_2⟩, cr114, cr114_1, cr114_2, cr114_3, cr114_4, cP114⟩ := hp114
                      have hk114 : K114 x = (1, 7) := (cK114 _ (zk1 hk102)).trans hk102
                      have hn114 : x ≠ po_114 := zne hk102 cz114
                      have hn114_1 : x ≠ eo_114 := zne hk102 cz114_1
                      have hn114_2 : x ≠ fo_114 := zne hk102 cz114_2
                      have hk114_1 : K114 pr = (6, 24) := (cK114 _ (zk1 hk102_1)).trans hk102_1
                      have hn114_3 : pr ≠ po_114 := zne hk102_1 cz114
                      have hn114_4 : pr ≠ eo_114 := zne hk102_1 cz114_1
                      have hn114_5 : pr ≠ fo_114 := zne hk102_1 cz114_2
                      have hk114_2 : K114 pl = (7, 6) := (cK114 _ (zk1 hk102_2)).trans hk102_2
                      have hn114_6 : pl ≠ po_114 := zne hk102_2 cz114
                      have hn114_7 : pl ≠ eo_114 := zne hk102_2 cz114_1
                      have hn114_8 : pl ≠ fo_114 := zne hk102_2 cz114_2
                      have hk114_3 : K114 sr = (8, 6) := (cK114 _ (zk1 hk102_3)).trans hk102_3
                      have hn114_9 : sr ≠ po_114 := zne hk102_3 cz114
                      have hn114_10 : sr ≠ eo_114 := zne hk102_3 cz114_1
                      have hn114_11 : sr ≠ fo_114 := zne hk102_3 cz114_2
                      have hk114_4 : K114 dr = (1, 0) := (cK114 _ (zk1 hk102_4)).trans hk102_4
                      have hn114_12 : dr ≠ po_114 := zne hk102_4 cz114
                      have hn114_13 : dr ≠ eo_114 := zne hk102_4 cz114_1
                      have hn114_14 : dr ≠ fo_114 := zne hk102_4 cz114_2
                      have hk114_5 : K114 na = (2, 4733) := (cK114 _ (zk1 hk102_5)).trans hk102_5
                      have hn114_15 : na ≠ po_114 := zne hk102_5 cz114
                      have hn114_16 : na ≠ eo_114 := zne hk102_5 cz114_1
                      have hn114_17 : na ≠ fo_114 := zne hk102_5 cz114_2
                      have hk114_6 : K114 r2 = (1, 3) := (cK114 _ (zk1 hk102_6)).trans hk102_6
                      have hn114_18 : r2 ≠ po_114 := zne hk102_6 cz114
                      have hn114_19 : r2 ≠ eo_114 := zne hk102_6 cz114_1
                      have hn114_20 : r2 ≠ fo_114 := zne hk102_6 cz114_2
                      have hk114_7 : K114 tu2 = (9, 6) := (cK114 _ (zk1 hk102_7)).trans hk102_7
                      have hn114_21 : tu2 ≠ po_114 := zne hk102_7 cz114
                      have hn114_22 : tu2 ≠ eo_114 := zne hk102_7 cz114_1
                      have hn114_23 : tu2 ≠ fo_114 := zne hk102_7 cz114_2
                      have hk114_8 : K114 to2 = (2, 6) := (cK114 _ (zk1 hk102_8)).trans hk102_8
                      have hn114_24 : to2 ≠ po_114 := zne hk102_8 cz114
                      have hn114_25 : to2 ≠ eo_114 := zne hk102_8 cz114_1
                      have hn114_26 : to2 ≠ fo_114 := zne hk102_8 cz114_2
                      have hk114_9 : K114 be2 = (2, 1201) := (cK114 _ (zk1 hk102_9)).trans hk102_9
                      have hn114_27 : be2 ≠ po_114 := zne hk102_9 cz114
                      have hn114_28 : be2 ≠ eo_114 := zne hk102_9 cz114_1
                      have hn114_29 : be2 ≠ fo_114 := zne hk102_9 cz114_2
                      have hk114_10 : K114 sa2 = (2, 1201) := (cK114 _ (zk1 hk102_10)).trans hk102_10
                      have hn114_30 : sa2 ≠ po_114 := zne hk102_10 cz114
                      have hn114_31 : sa2 ≠ eo_114 := zne hk102_10 cz114_1
                      have hn114_32 : sa2 ≠ fo_114 := zne hk102_10 cz114_2
                      have hk114_11 : K114 q102 = (1, 4) := (cK114 _ (zk1 hk102_11)).trans hk102_11
                      have hn114_33 : q102 ≠ po_114 := zne hk102_11 cz114
                      have hn114_34 : q102 ≠ eo_114 := zne hk102_11 cz114_1
                      have hn114_35 : q102 ≠ fo_114 := zne hk102_11 cz114_2
                      have hr114 : R114 x 0 = some pr := by rw [(cX114 _ (zk1 hk102) hn102).2]; exact hr102
                      have hr114_1 : R114 x 2 = some pl := by rw [(cX114 _ (zk1 hk102) hn102).2]; exact hr102_1
                      have hr114_2 : R114 x 4 = some sr := by rw [(cX114 _ (zk1 hk102) hn102).2]; exact hr102_2
                      have hr114_3 : R114 x 6 = some dr := by rw [(cX114 _ (zk1 hk102) hn102).2]; exact hr102_3
                      have hr114_4 : R114 x 7 = some wo := by rw [(cX114 _ (zk1 hk102) hn102).2]; exact hr102_4
                      have hr114_5 : R114 dr 0 = some na := by rw [(cX114 _ (zk1 hk102_4) hn102_4).2]; exact hr102_5
                      have hr114_6 : R114 r2 1 = some tu2 := by rw [(cX114 _ (zk1 hk102_6) hn102_6).2]; exact hr102_6
                      have hr114_7 : R114 r2 3 = some to2 := by rw [(cX114 _ (zk1 hk102_6) hn102_6).2]; exact hr102_7
                      have hr114_8 : R114 r2 4 = some be2 := by rw [(cX114 _ (zk1 hk102_6) hn102_6).2]; exact hr102_8
                      have hr114_9 : R114 r2 5 = some sa2 := by rw [(cX114 _ (zk1 hk102_6) hn102_6).2]; exact hr102_9
                      obtain ⟨M2, hM2⟩ : ∃ M2, M2 = seM M i9 a bg ki st wd := ⟨_, rfl⟩
                      have hq0 : (K q102).1 = 0 := hfq102
                      have gK : ∀ a9, (K a9).1 ≠ 0 → K114 a9 = K a9 := fun a9 h9 => by rw [cK114 a9 (by rw [eK102, zup_n (zfa h9 hq0)]; exact h9), eK102, zup_n (zfa h9 hq0)]
                      have gX : ∀ a9, (K a9).1 ≠ 0 → X114 a9 = X a9 ∧ R114 a9 = Rf a9 := fun a9 h9 => by
                        obtain ⟨g1, g2⟩ := cX114 a9 (by rw [eK102, zup_n (zfa h9 hq0)]; exact h9) (zfa h9 hq0)
                        exact ⟨by rw [g1, eX102, zupX_n (zfa h9 hq0)], by rw [g2, eR102, zupR_n (zfa h9 hq0)]⟩
                      have hKq : K114 q102 = (1, 4) := by rw [cK114 q102 (by rw [eK102, zup_s]; decide), eK102, zup_s]
                      have z0 : ∀ u : Nat, (K102 u).1 = 0 → (K u).1 = 0 ∧ u ≠ q102 := fun u hu => by
                        have hne : u ≠ q102 := by rintro rfl; rw [eK102, zup_s] at hu; exact absurd hu (by decide)
                        rw [eK102, zup_n hne] at hu
                        exact ⟨hu, hne⟩
                      have y1 := z0 _ cz114
                      have y2 := z0 _ cz114_1
                      have y3 := z0 _ cz114_2
                      have hsj : ∀ j, serM M2 i9 j = if j < 11 then seV a bg ki st wd j else 0 := fun j => by rw [hM2, seM_ser, if_pos rfl]
                      have hs0z : serM M2 i9 0 = a := by rw [hsj]; rfl
                      have hs1z : serM M2 i9 1 = bg := by rw [hsj]; rfl
                      have hs2z : serM M2 i9 2 = ki := by rw [hsj]; rfl
                      have hs3z : serM M2 i9 3 = st := by rw [hsj]; rfl
                      have hs4z : serM M2 i9 4 = wd := by rw [hsj]; rfl
                      have hs5z : serM M2 i9 5 = 0 := by rw [hsj]; rfl
                      have hs6z : serM M2 i9 6 = 0 := by rw [hsj]; rfl
                      have hs7z : serM M2 i9 7 = min 73048 (bg / 1440 + 4000) := by rw [hsj]; rfl
                      have hs8z : serM M2 i9 8 = min 73048 (bg / 1440 + 4000) := by rw [hsj]; rfl
                      have hs9z : serM M2 i9 9 = 0 := by rw [hsj]; rfl
                      have hs10z : serM M2 i9 10 = 0 := by rw [hsj]; rfl
                      have hbdz : bdS (serM M2 i9) = bg / 1440 := by unfold bdS; rw [hs1z]
                      obtain ⟨cp1, cp9, cp10, cp11, cp12, cp14, cp16, cp17⟩ := cP114
                      have hDz : serD (X114 q102) (serM M2 i9) := by omega
                      have hoz : okS (serM M2 i9) := by omega
                      have hUz : upOK K114 X114 R114 po_114 (serM M2 i9) (useM M2 i9) := fun k9 h9 => by rw [hs9z] at h9; omega
                      have hEz : ∀ k9 : Nat, (k9 : Int) < serM M2 i9 10 → X114 eo_114 k9 = excM M2 i9 k9 ∧ 0 ≤ excM M2 i9 k9 ∧ excM M2 i9 k9 ≤ 73048 := fun k9 h9 => by rw [hs10z] at h9; omega
                      have hUsz : usOK K114 X114 R114 q102 (serM M2 i9) := Or.inl ⟨by omega, cr114_1⟩
                      refine lv_astore (pc := 117) (lv' := [(8, .ref q102), (7, .int (iI x75)), (6, .ref r2), (0, .ref x), (1, .int (iI a)), (2, .int (iI bg)), (3, .int (iI ki)), (4, .int (iI st)), (5, .int (iI wd))]) hx hb dX8_addSeries_117 hl (by decide) rfl (fun ls hl => ?_)
                      refine lv_aload (pc := 119) hx hb dX8_addSeries_119 (lv_at hl 0 rfl) ?_
                      refine lv_aload_n (pc := 121) hx hb dX8_addSeries_121 rfl (lv_at hl 3 rfl) ?_
                      refine zgetR (pc := 122) hx hb hG hown hw hk114 (T := TX8) rfl 6 (by decide) rfl wf_X8_42 rfl hr114_3 dX8_addSeries_122 ?_
                      refine zkVx (pc := 125) (zrV (As := [.ref dr]) hx hb hml hown hG hw (c_X5_findDates l Γ K114 X114 R114 q102 dr (serM M2 i9) (useM M2 i9) (excM M2 i9) po_114 eo_114 fo_114 na (by (first | assumption | omega)) (by (first | assumption | omega)) (by (first | assumption | omega)) (by (first | assumption | omega)) (by (first | assumption | omega)) (by (first | assumption | omega)) (by (first | assumption | omega)) (by (first | assumption | omega)) (by (first | assumption | omega)) (by (first | assumption | omega)) (by (first | assumption | omega)) (by (first | assumption | omega)) (by (first | assumption | omega)) (by (first | assumption | omega)) (by (first | assumption | omega))) (T := TX5) hk114_11 rfl cb_X5_findDates wl_X8_210 rfl ⟨Nat.le_of_ble_eq_true rfl, Nat.le_of_ble_eq_true rfl⟩ hl.1 rfl (Nat.le_of_ble_eq_true rfl) dX8_addSeries_125 ⟨(by show 0 + 1 + 1 + 3 + 0 ≤ 8; omega), (by show 0 + 6 + 18 + 4013 + 0 ≤ 4060; omega)⟩) hw (fun X125 H locs hp125 hw => ?_)
                      refine lv_aload_n (pc := 128) hx hb dX8_addSeries_128 rfl (lv_at hl 3 rfl) ?_
                      refine zgetR (pc := 129) hx hb hG hown hw hk114 (T := TX8) rfl 4 (by decide) rfl wf_X8_30 rfl hr114_2 dX8_addSeries_129 ?_
                      refine lv_iload (pc := 132) hx hb dX8_addSeries_132 (lv_at hl 1 rfl) ?_
                      refine lv_aload (pc := 134) hx hb dX8_addSeries_134 (lv_at hl 0 rfl) ?_
                      refine zaast2 (pc := 136) hx hb hw hk114_3 hk114_11 ⟨by omega, by omega⟩ (by omega) dX8_addSeries_136 (fun H locs hw => ?_)
                      obtain ⟨R136, eR136⟩ : ∃ Y : zR, Y = up2 R114 sr x75.toNat (some q102) := ⟨_, rfl⟩
                      rw [← eR136] at hw
                      have hr136 : R136 x 0 = some pr := by rw [eR136, up2_a (zkn2 hk114 hk114_3 (by simp))]; exact hr114
                      have hr136_1 : R136 x 2 = some pl := by rw [eR136, up2_a (zkn2 hk114 hk114_3 (by simp))]; exact hr114_1
                      have hr136_2 : R136 x 4 = some sr := by rw [eR136, up2_a (zkn2 hk114 hk114_3 (by simp))]; exact hr114_2
                      have hr136_3 : R136 x 6 = some dr := by rw [eR136, up2_a (zkn2 hk114 hk114_3 (by simp))]; exact hr114_3
                      have hr136_4 : R136 x 7 = some wo := by rw [eR136, up2_a (zkn2 hk114 hk114_3 (by simp))]; exact hr114_4
                      have hr136_5 : R136 dr 0 = some na := by rw [eR136, up2_a (zkn2 hk114_4 hk114_3 (by simp))]; exact hr114_5
                      have hr136_6 : R136 r2 1 = some tu2 := by rw [eR136, up2_a (zkn2 hk114_6 hk114_3 (by simp))]; exact hr114_6
                      have hr136_7 : R136 r2 3 = some to2 := by rw [eR136, up2_a (zkn2 hk114_6 hk114_3 (by simp))]; exact hr114_7
                      have hr136_8 : R136 r2 4 = some be2 := by rw [eR136, up2_a (zkn2 hk114_6 hk114_3 (by simp))]; exact hr114_8
                      have hr136_9 : R136 r2 5 = some sa2 := by rw [eR136, up2_a (zkn2 hk114_6 hk114_3 (by simp))]; exact hr114_9
                      have hr136_10 : R136 q102 0 = some r2 := by rw [eR136, up2_a (Ne.symm hn102_3)]; exact cr114
                      have hr136_11 : R136 q102 7 = none := by rw [eR136, up2_a (Ne.symm hn102_3)]; exact cr114_1
                      have hr136_12 : R136 q102 8 = some po_114 := by rw [eR136, up2_a (Ne.symm hn102_3)]; exact cr114_2
                      have hr136_13 : R136 q102 13 = some eo_114 := by rw [eR136, up2_a (Ne.symm hn102_3)]; exact cr114_3
                      have hr136_14 : R136 q102 15 = some fo_114 := by rw [eR136, up2_a (Ne.symm hn102_3)]; exact cr114_4
                      have hr136_15 : R136 sr x75.toNat = some q102 := by rw [eR136]; exact up2_s
                      refine lv_aload_n (pc := 137) hx hb dX8_addSeries_137 rfl (lv_at hl 3 rfl) ?_
                      refine lv_iload (pc := 138) hx hb dX8_addSeries_138 (lv_at hl 1 rfl) ?_
                      refine ziconst (pc := 140) (n := 1) hx hb dX8_addSeries_140 ?_
                      refine zadd (pc := 141) hx hb dX8_addSeries_141 ?_
                      refine zputI (pc := 142) hx hb hG hown hw hk114 (T := TX8) rfl 5 (by decide) rfl wf_X8_34 rfl (by decide +kernel) rfl dX8_addSeries_142 (fun H locs hw => ?_)
                      obtain ⟨X142, eX142⟩ : ∃ Y : zX, Y = up2 X125 x 5 (x75 + 1) := ⟨_, rfl⟩
                      rw [← eX142] at hw
                      refine lv_iload (pc := 145) hx hb dX8_addSeries_145 (lv_at hl 1 rfl) ?_
                      exact vx_ret (zretI (pc := 147) hx hb hlocks hr hw (by show 0 + 1 + 1 + 3 ≤ 8; omega) (by show 0 + 6 + 18 + 4013 ≤ 4060; omega) dX8_addSeries_147 (by 
                                        refine ⟨⟨by omega, by (unfold cdAse; (repeat' split) <;> omega)⟩, ?_⟩
                                        obtain ⟨hrp9, hoo9, hqq9⟩ := hp125
                                        have hx75 : x75 = i9 := by omega
                                        have hkn : (K114 q102).1 ≠ 0 := zk1 hKq
                                        have y1b := ck114
                                        have y2b := ck114_1
                                        have y3b := ck114_2
                                        have nq : ∀ u : Nat, (K u).1 ≠ 0 → u ≠ q102 := fun u hu => zfa hu hq0
                                        have nf : ∀ u : Nat, (K u).1 ≠ 0 → u ≠ fo_114 := fun u hu => zfa hu y3.1
                                        have hxn : (K x).1 ≠ 0 := zk1 hk
                                        have hsn : (K sr).1 ≠ 0 := zk1 hksr
                                        have hxd : x ≠ dr := zkn2 hk hkdr (by simp)
                                        have hxa : x ≠ na := zkne hk hkna (by simp)
                                        have np : ∀ u : Nat, (K u).1 = 0 → u ≠ x := fun u hu g => hxn (by rw [← g]; exact hu)
                                        have ns : ∀ u : Nat, (K u).1 = 0 → u ≠ sr := fun u hu g => hsn (by rw [← g]; exact hu)
                                        have nd : ∀ u : Nat, (K u).1 = 0 → u ≠ dr ∧ u ≠ na := fun u hu => ⟨fun g => zk1 hkdr (by rw [← g]; exact hu), fun g => zk1 hkna (by rw [← g]; exact hu)⟩
                                        have hne1 : eo_114 ≠ fo_114 := zkn2 y2b y3b (by simp)
                                        rw [hi9, Int.toNat_natCast]
                                        refine hC.sra (i := i9) (se := q102) (po := po_114) (eo := eo_114) (fo := fo_114) hr2 hr4 hr6 hrd ⟨hi9, by omega⟩ hrp2 ⟨hq0, y1.1, y2.1, y3.1⟩ ⟨hKq, y1b, y2b, y3b⟩ gK (fun a9 h9 g1 g2 g3 => ?_) (fun a9 h9 g1 => ?_) ?_ (fun j hj => ?_) ?_ (fun k hk9 => ?_) (fun ρ9 g1 g2 g3 g4 => ?_)
                                        · rw [eX142, up2_o g1, hoo9 a9 (nq a9 h9) (nf a9 h9) g2 g3]; exact (gX a9 h9).1
                                        · rw [eR136, up2_o g1]; exact (gX a9 h9).2
                                        · rw [eX142, up2_s, hx75]
                                        · rw [eX142, up2_k hj, hoo9 x (nq x hxn) (nf x hxn) hxd hxa]; exact congrFun (gX x hxn).1 j
                                        · rw [eR136, hx75, Int.toNat_natCast]; exact up2_s
                                        · rw [eR136, hx75, Int.toNat_natCast, up2_k hk9]; exact congrFun (gX sr hsn).2 k
                                        · rw [← hM2]
                                          have hRq : R136 q102 = R114 q102 := by rw [eR136, up2_o (ns _ hq0)]
                                          have hXq : X142 q102 = X125 q102 := by rw [eX142, up2_o (np _ hq0)]
                                          have hXf : X142 fo_114 = X125 fo_114 := by rw [eX142, up2_o (np _ y3.1)]
                                          have hXe : X142 eo_114 = X125 eo_114 := by rw [eX142, up2_o (np _ y2.1)]
                                          refine seA_new (Rf := R136) (Rf' := R136) (X := X114) ⟨hKq, g1⟩ ⟨by rw [hRq]; exact cr114, by rw [hRq]; exact cr114_2, by rw [hRq]; exact cr114_3, by rw [hRq]; exact cr114_4⟩ ⟨y1b, y2b, y3b⟩ ⟨g2, g3, g4⟩ hDz hoz (fun k9 h9 => by rw [hs9z] at h9; omega) (usOK_upd hUsz rfl rfl (fun _ _ => rfl) (by rw [hRq])) hEz (fun a9 h9 => ?_) ?_ (fun q g5 g6 => by rw [hXq]; exact hqq9 q g5 g6) ?_
                                          · have n1 : a9 ≠ x := by rintro rfl; rw [gK _ hxn, hk] at h9; exact absurd h9 (by decide)
                                            have n2 : a9 ≠ dr := by rintro rfl; rw [gK _ (zk1 hkdr), hkdr] at h9; exact absurd h9 (by decide)
                                            have n3 : a9 ≠ na := by rintro rfl; rw [gK _ (zk1 hkna), hkna] at h9; exact absurd h9 (by decide)
                                            rw [eX142, up2_o n1]; exact hoo9 a9 (not_k2 hKq (by simp) h9) (not_k2 y3b (by simp) h9) n2 n3
                                          · rw [hXe]; exact hoo9 eo_114 y2.2 hne1 (nd _ y2.1).1 (nd _ y2.1).2
                                          · obtain ⟨f1, f2, f3⟩ := hrp9
                                            exact ⟨by rw [hXq]; exact f1, by rw [hXq]; exact f2, fun j hj => by rw [hXf]; exact f3 j hj⟩))
                    · skip
                      exact zthrow (pc := 92) hx hb hl9 hown hG hX hw wn_X8_117 wi_javalangIllegalStateException (List.mem_of_getElem? (i := 11) rfl) zthr_121 (hl.1.trans hml.symm) ht dX8_addSeries_92 dX8_addSeries_95 dX8_addSeries_96 dX8_addSeries_98 dX8_addSeries_101 (by show 6 ≤ _; exact Nat.le_of_ble_eq_true rfl) (Nat.le_of_ble_eq_true rfl) (by show 0 + 1 + 1 ≤ 8; omega) (by show 0 + 6 + 6 ≤ 4060; omega) hlocks (by (try dsimp only); first | exact ⟨rfl, (by (unfold cdAse; (repeat' split) <;> omega))⟩ | exact Or.inl ⟨rfl, (by (unfold cdAse; (repeat' split) <;> omega))⟩ | exact Or.inr ⟨rfl, (by (unfold cdAse; (repeat' split) <;> omega))⟩ | exact Or.inr (Or.inl ⟨rfl, (by (unfold cdAse; (repeat' split) <;> omega))⟩) | exact Or.inr (Or.inr ⟨rfl, (by (unfold cdAse; (repeat' split) <;> omega))⟩)) (by show 0 + 1 + 1 ≤ 8; omega) (by show 0 + 6 + 6 ≤ 4060; omega)
                · skip
                  exact zthrow (pc := 61) hx hb hl9 hown hG hX hw wn_X8_56 wi_javalangIllegalArgumentException (List.mem_of_getElem? (i := 10) rfl) zthr_60 (hl.1.trans hml.symm) ht dX8_addSeries_61 dX8_addSeries_64 dX8_addSeries_65 dX8_addSeries_67 dX8_addSeries_70 (by show 6 ≤ _; exact Nat.le_of_ble_eq_true rfl) (Nat.le_of_ble_eq_true rfl) (by show 0 + 1 + 1 ≤ 8; omega) (by show 0 + 6 + 6 ≤ 4060; omega) hlocks (by (try dsimp only); first | exact ⟨rfl, (by (unfold cdAse; (repeat' split) <;> omega))⟩ | exact Or.inl ⟨rfl, (by (unfold cdAse; (repeat' split) <;> omega))⟩ | exact Or.inr ⟨rfl, (by (unfold cdAse; (repeat' split) <;> omega))⟩ | exact Or.inr (Or.inl ⟨rfl, (by (unfold cdAse; (repeat' split) <;> omega))⟩) | exact Or.inr (Or.inr ⟨rfl, (by (unfold cdAse; (repeat' split) <;> omega))⟩)) (by show 0 + 1 + 1 ≤ 8; omega) (by show 0 + 6 + 6 ≤ 4060; omega)
    · skip
      exact zthrow (pc := 17) hx hb hl9 hown hG hX hw wn_X8_56 wi_javalangIllegalArgumentException (List.mem_of_getElem? (i := 9) rfl) zthr_60 (hl.1.trans hml.symm) ht dX8_addSeries_17 dX8_addSeries_20 dX8_addSeries_21 dX8_addSeries_23 dX8_addSeries_26 (by show 6 ≤ _; exact Nat.le_of_ble_eq_true rfl) (Nat.le_of_ble_eq_true rfl) (by show 0 + 1 + 1 ≤ 8; omega) (by show 0 + 6 + 6 ≤ 4060; omega) hlocks (by (try dsimp only); first | exact ⟨rfl, (by (unfold cdAse; (repeat' split) <;> omega))⟩ | exact Or.inl ⟨rfl, (by (unfold cdAse; (repeat' split) <;> omega))⟩ | exact Or.inr ⟨rfl, (by (unfold cdAse; (repeat' split) <;> omega))⟩ | exact Or.inr (Or.inl ⟨rfl, (by (unfold cdAse; (repeat' split) <;> omega))⟩) | exact Or.inr (Or.inr ⟨rfl, (by (unfold cdAse; (repeat' split) <;> omega))⟩)) (by show 0 + 1 + 1 ≤ 8; omega) (by show 0 + 6 + 6 ≤ 4060; omega)
set_option maxHeartbeats 4000000 in
set_option maxRecDepth 100000 in
theorem c_X8_addSeries_k2 (l : Launch) (hl9 : l.stackTraces = false) (Γ : zG) (K : zK) (X : zX) (Rf : zR) (x : Nat) (a : Int) (bg : Int) (ki : Int) (st : Int) (wd : Int) (ρ : zL) (M : zM) (hC : repC ρ K X Rf x M) (hM : okM M) (h1 : fit a ∧ fit bg ∧ fit ki) (h2 : fit st ∧ fit wd) (hv : 2 ≤ ki) : Cx l yX8_addSeries cX8_addSeries 9 (some .int) 7 8 4060 Γ [.ref x, .int (iI a), .int (iI bg), .int (iI ki), .int (iI st), .int (iI wd)] K X Rf (pI (fun (r : Int) (K' : zK) (X' : zX) (R' : zR) => (r = M 40 16 ∧ cdAse M a bg ki st wd = 0) ∧ ∃ ρ', repC ρ' K' X' R' x (seM M (M 40 16).toNat a bg ki st wd) ∧ frC ρ K X Rf ρ' K' X' R')) (fun E : String => (E = "java/lang/IndexOutOfBoundsException" ∧ cdAse M a bg ki st wd = 1) ∨ (E = "java/lang/IllegalArgumentException" ∧ cdAse M a bg ki st wd = 2) ∨ (E = "java/lang/IllegalStateException" ∧ cdAse M a bg ki st wd = 3)) := by
  refine Cx.of (by decide +kernel) (Nat.le_of_ble_eq_true rfl) ?_
  intro p e s m below meth c ls hx hb hr hml hown hG hlocks hname ht hX hw hl
  have hl : lv_has ls 9 [(0, .ref x), (1, .int (iI a)), (2, .int (iI bg)), (3, .int (iI ki)), (4, .int (iI st)), (5, .int (iI wd))] := hl
  obtain ⟨⟨hk, hlx⟩, pr, pl, sr, dr, na, wo, ⟨hr0, hr2, hr4, hr6, hr7, hrd⟩, ⟨hkpr, hkpl, hksr, hkdr, hkna⟩, ⟨hlpr, hlpl, hlsr, hldr, hlna⟩, ⟨hx1, hx3, hx5⟩, hpt, hpl, hse, hwo⟩ := id hC
  obtain ⟨⟨hb1, hb2, hb3, hb4⟩, hokP, hokL, hokS, hokW, hokF⟩ := id hM
  obtain ⟨i9, hi9⟩ : ∃ i9 : Nat, M 40 16 = i9 := ⟨(M 40 16).toNat, by omega⟩
  refine lv_aload_n (pc := 0) hx hb dX8_addSeries_0 rfl (lv_at hl 0 rfl) ?_
  refine lv_iload_n (pc := 1) hx hb dX8_addSeries_1 rfl (lv_at hl 1 rfl) ?_
  refine zxkRp (pc := 2) (zxrV (As := [.int (iI a)]) hx hb hml hown hG hX hw (c_X8_needPlace l hl9 Γ K X Rf x a pl (ρ) M (by (first | assumption | omega)) (by (first | assumption | omega)) (by (first | assumption | omega)) (by (first | assumption | omega)) (by (first | assumption | omega)) (by (first | assumption | omega))) (T := TX8) hk rfl cb_X8_needPlace wl_X8_143 rfl ⟨Nat.le_of_ble_eq_true rfl, Nat.le_of_ble_eq_true rfl⟩ hl.1 rfl (Nat.le_of_ble_eq_true rfl) dX8_addSeries_2 ⟨(by show 0 + 1 ≤ 8; omega), (by show 0 + 6 ≤ 4060; omega)⟩) hw (fun E9 ce9 q9 H9 locs9 hxp9 hw9 hce9 hcv9 hcl9 => zxout (pc := 2) ht hlocks hw9 hce9 hcv9 hcl9 (by (obtain ⟨rfl, hq9⟩ := hxp9; (try dsimp only); first | exact ⟨rfl, (by (unfold cdAse; (repeat' split) <;> omega))⟩ | exact Or.inl ⟨rfl, (by (unfold cdAse; (repeat' split) <;> omega))⟩ | exact Or.inr ⟨rfl, (by (unfold cdAse; (repeat' split) <;> omega))⟩ | exact Or.inr (Or.inl ⟨rfl, (by (unfold cdAse; (repeat' split) <;> omega))⟩))) (by show 0 + 1 ≤ 8; omega) (by show 0 + 6 ≤ 4060; omega)) (fun r2 H locs hp2 hw => ?_)
  obtain ⟨⟨hrp2, ⟨hkp2, hlp2⟩, tu2, to2, be2, sa2, ⟨hr12, hr32, hr42, hr52⟩, ⟨hk12, hk32, hk42, hk52⟩, ⟨hl12, hl32, hl42, hl52⟩, htu2, hn62, hct2, ⟨hbs2, hbr2⟩, hpp2⟩, hip2⟩ := hp2
  have hbs92 : -840 ≤ X r2 0 ∧ X r2 0 ≤ 840 := by omega
  have hpq2 : prep (X be2) (X sa2) (X r2 6) (savM M (a).toNat) := hpp2
  refine lv_astore (pc := 5) (lv' := [(6, .ref r2), (0, .ref x), (1, .int (iI a)), (2, .int (iI bg)), (3, .int (iI ki)), (4, .int (iI st)), (5, .int (iI wd))]) hx hb dX8_addSeries_5 hl (by decide) rfl (fun ls hl => ?_)
  refine lv_iload_n (pc := 7) hx hb dX8_addSeries_7 rfl (lv_at hl 3 rfl) ?_
  refine zif_lt (pc := 8) hx hb 17 (by omega) dX8_addSeries_8 (by decide) (fun c8 => ?_) (fun c8 => ?_)
  · skip
    exact zthrow (pc := 17) hx hb hl9 hown hG hX hw wn_X8_56 wi_javalangIllegalArgumentException (List.mem_of_getElem? (i := 9) rfl) zthr_60 (hl.1.trans hml.symm) ht dX8_addSeries_17 dX8_addSeries_20 dX8_addSeries_21 dX8_addSeries_23 dX8_addSeries_26 (by show 6 ≤ _; exact Nat.le_of_ble_eq_true rfl) (Nat.le_of_ble_eq_true rfl) (by show 0 + 1 + 1 ≤ 8; omega) (by show 0 + 6 + 6 ≤ 4060; omega) hlocks (by (try dsimp only); first | exact ⟨rfl, (by (unfold cdAse; (repeat' split) <;> omega))⟩ | exact Or.inl ⟨rfl, (by (unfold cdAse; (repeat' split) <;> omega))⟩ | exact Or.inr ⟨rfl, (by (unfold cdAse; (repeat' split) <;> omega))⟩ | exact Or.inr (Or.inl ⟨rfl, (by (unfold cdAse; (repeat' split) <;> omega))⟩) | exact Or.inr (Or.inr ⟨rfl, (by (unfold cdAse; (repeat' split) <;> omega))⟩)) (by show 0 + 1 + 1 ≤ 8; omega) (by show 0 + 6 + 6 ≤ 4060; omega)
  · skip
    refine lv_iload_n (pc := 11) hx hb dX8_addSeries_11 rfl (lv_at hl 3 rfl) ?_
    refine zldc (pc := 12) (n := 105190559) hx hb hown hG wk_X8_200 dX8_addSeries_12 ?_
    refine zicmp_le (pc := 14) hx hb 27 (by omega) (by omega) dX8_addSeries_14 (by decide) (fun c14 => ?_) (fun c14 => ?_)
    · skip
      refine lv_iload_n (pc := 27) hx hb dX8_addSeries_27 rfl (lv_at hl 4 rfl) ?_
      refine zif_lt (pc := 28) hx hb 61 (by omega) dX8_addSeries_28 (by decide) (fun c28 => ?_) (fun c28 => ?_)
      · skip
        exact zthrow (pc := 61) hx hb hl9 hown hG hX hw wn_X8_56 wi_javalangIllegalArgumentException (List.mem_of_getElem? (i := 10) rfl) zthr_60 (hl.1.trans hml.symm) ht dX8_addSeries_61 dX8_addSeries_64 dX8_addSeries_65 dX8_addSeries_67 dX8_addSeries_70 (by show 6 ≤ _; exact Nat.le_of_ble_eq_true rfl) (Nat.le_of_ble_eq_true rfl) (by show 0 + 1 + 1 ≤ 8; omega) (by show 0 + 6 + 6 ≤ 4060; omega) hlocks (by (try dsimp only); first | exact ⟨rfl, (by (unfold cdAse; (repeat' split) <;> omega))⟩ | exact Or.inl ⟨rfl, (by (unfold cdAse; (repeat' split) <;> omega))⟩ | exact Or.inr ⟨rfl, (by (unfold cdAse; (repeat' split) <;> omega))⟩ | exact Or.inr (Or.inl ⟨rfl, (by (unfold cdAse; (repeat' split) <;> omega))⟩) | exact Or.inr (Or.inr ⟨rfl, (by (unfold cdAse; (repeat' split) <;> omega))⟩)) (by show 0 + 1 + 1 ≤ 8; omega) (by show 0 + 6 + 6 ≤ 4060; omega)
      · skip
        refine lv_iload_n (pc := 31) hx hb dX8_addSeries_31 rfl (lv_at hl 4 rfl) ?_
        refine ziconst (pc := 32) (n := 3) hx hb dX8_addSeries_32 ?_
        refine zicmp_gt (pc := 33) hx hb 61 (by omega) (by omega) dX8_addSeries_33 (by decide) (fun c33 => ?_) (fun c33 => ?_)
        · skip
          exact zthrow (pc := 61) hx hb hl9 hown hG hX hw wn_X8_56 wi_javalangIllegalArgumentException (List.mem_of_getElem? (i := 10) rfl) zthr_60 (hl.1.trans hml.symm) ht dX8_addSeries_61 dX8_addSeries_64 dX8_addSeries_65 dX8_addSeries_67 dX8_addSeries_70 (by show 6 ≤ _; exact Nat.le_of_ble_eq_true rfl) (Nat.le_of_ble_eq_true rfl) (by show 0 + 1 + 1 ≤ 8; omega) (by show 0 + 6 + 6 ≤ 4060; omega) hlocks (by (try dsimp only); first | exact ⟨rfl, (by (unfold cdAse; (repeat' split) <;> omega))⟩ | exact Or.inl ⟨rfl, (by (unfold cdAse; (repeat' split) <;> omega))⟩ | exact Or.inr ⟨rfl, (by (unfold cdAse; (repeat' split) <;> omega))⟩ | exact Or.inr (Or.inl ⟨rfl, (by (unfold cdAse; (repeat' split) <;> omega))⟩) | exact Or.inr (Or.inr ⟨rfl, (by (unfold cdAse; (repeat' split) <;> omega))⟩)) (by show 0 + 1 + 1 ≤ 8; omega) (by show 0 + 6 + 6 ≤ 4060; omega)
        · skip
          refine lv_iload (pc := 36) hx hb dX8_addSeries_36 (lv_at hl 5 rfl) ?_
          refine ziconst (pc := 38) (n := 1) hx hb dX8_addSeries_38 ?_
          refine zicmp_lt (pc := 39) hx hb 61 (by omega) (by omega) dX8_addSeries_39 (by decide) (fun c39 => ?_) (fun c39 => ?_)
          · skip
            exact zthrow (pc := 61) hx hb hl9 hown hG hX hw wn_X8_56 wi_javalangIllegalArgumentException (List.mem_of_getElem? (i := 10) rfl) zthr_60 (hl.1.trans hml.symm) ht dX8_addSeries_61 dX8_addSeries_64 dX8_addSeries_65 dX8_addSeries_67 dX8_addSeries_70 (by show 6 ≤ _; exact Nat.le_of_ble_eq_true rfl) (Nat.le_of_ble_eq_true rfl) (by show 0 + 1 + 1 ≤ 8; omega) (by show 0 + 6 + 6 ≤ 4060; omega) hlocks (by (try dsimp only); first | exact ⟨rfl, (by (unfold cdAse; (repeat' split) <;> omega))⟩ | exact Or.inl ⟨rfl, (by (unfold cdAse; (repeat' split) <;> omega))⟩ | exact Or.inr ⟨rfl, (by (unfold cdAse; (repeat' split) <;> omega))⟩ | exact Or.inr (Or.inl ⟨rfl, (by (unfold cdAse; (repeat' split) <;> omega))⟩) | exact Or.inr (Or.inr ⟨rfl, (by (unfold cdAse; (repeat' split) <;> omega))⟩)) (by show 0 + 1 + 1 ≤ 8; omega) (by show 0 + 6 + 6 ≤ 4060; omega)
          · skip
            refine lv_iload (pc := 42) hx hb dX8_addSeries_42 (lv_at hl 5 rfl) ?_
            refine zbipush (pc := 44) (n := 60) hx hb dX8_addSeries_44 rfl ?_
            refine zicmp_gt (pc := 46) hx hb 61 (by omega) (by omega) dX8_addSeries_46 (by decide) (fun c46 => ?_) (fun c46 => ?_)
            · skip
              exact zthrow (pc := 61) hx hb hl9 hown hG hX hw wn_X8_56 wi_javalangIllegalArgumentException (List.mem_of_getElem? (i := 10) rfl) zthr_60 (hl.1.trans hml.symm) ht dX8_addSeries_61 dX8_addSeries_64 dX8_addSeries_65 dX8_addSeries_67 dX8_addSeries_70 (by show 6 ≤ _; exact Nat.le_of_ble_eq_true rfl) (Nat.le_of_ble_eq_true rfl) (by show 0 + 1 + 1 ≤ 8; omega) (by show 0 + 6 + 6 ≤ 4060; omega) hlocks (by (try dsimp only); first | exact ⟨rfl, (by (unfold cdAse; (repeat' split) <;> omega))⟩ | exact Or.inl ⟨rfl, (by (unfold cdAse; (repeat' split) <;> omega))⟩ | exact Or.inr ⟨rfl, (by (unfold cdAse; (repeat' split) <;> omega))⟩ | exact Or.inr (Or.inl ⟨rfl, (by (unfold cdAse; (repeat' split) <;> omega))⟩) | exact Or.inr (Or.inr ⟨rfl, (by (unfold cdAse; (repeat' split) <;> omega))⟩)) (by show 0 + 1 + 1 ≤ 8; omega) (by show 0 + 6 + 6 ≤ 4060; omega)
            · skip
              refine lv_iload (pc := 49) hx hb dX8_addSeries_49 (lv_at hl 6 rfl) ?_
              refine zif_lt (pc := 51) hx hb 61 (by omega) dX8_addSeries_51 (by decide) (fun c51 => ?_) (fun c51 => ?_)
              · skip
                exact zthrow (pc := 61) hx hb hl9 hown hG hX hw wn_X8_56 wi_javalangIllegalArgumentException (List.mem_of_getElem? (i := 10) rfl) zthr_60 (hl.1.trans hml.symm) ht dX8_addSeries_61 dX8_addSeries_64 dX8_addSeries_65 dX8_addSeries_67 dX8_addSeries_70 (by show 6 ≤ _; exact Nat.le_of_ble_eq_true rfl) (Nat.le_of_ble_eq_true rfl) (by show 0 + 1 + 1 ≤ 8; omega) (by show 0 + 6 + 6 ≤ 4060; omega) hlocks (by (try dsimp only); first | exact ⟨rfl, (by (unfold cdAse; (repeat' split) <;> omega))⟩ | exact Or.inl ⟨rfl, (by (unfold cdAse; (repeat' split) <;> omega))⟩ | exact Or.inr ⟨rfl, (by (unfold cdAse; (repeat' split) <;> omega))⟩ | exact Or.inr (Or.inl ⟨rfl, (by (unfold cdAse; (repeat' split) <;> omega))⟩) | exact Or.inr (Or.inr ⟨rfl, (by (unfold cdAse; (repeat' split) <;> omega))⟩)) (by show 0 + 1 + 1 ≤ 8; omega) (by show 0 + 6 + 6 ≤ 4060; omega)
              · skip
                refine lv_iload (pc := 54) hx hb dX8_addSeries_54 (lv_at hl 6 rfl) ?_
                refine zbipush (pc := 56) (n := 127) hx hb dX8_addSeries_56 rfl ?_
                refine zicmp_le (pc := 58) hx hb 71 (by omega) (by omega) dX8_addSeries_58 (by decide) (fun c58 => ?_) (fun c58 => ?_)
                · skip
                  refine lv_aload_n (pc := 71) hx hb dX8_addSeries_71 rfl (lv_at hl 1 rfl) ?_
                  refine zgetI (pc := 72) hx hb hG hown hw hk (T := TX8) rfl 5 (by decide) rfl wf_X8_34 rfl dX8_addSeries_72 ?_
                  refine ztop (fun x75 ex75 => ?_)
                  refine lv_istore (pc := 75) (lv' := [(7, .int (iI x75)), (6, .ref r2), (0, .ref x), (1, .int (iI a)), (2, .int (iI bg)), (3, .int (iI ki)), (4, .int (iI st)), (5, .int (iI wd))]) hx hb dX8_addSeries_75 hl (by decide) rfl (fun ls hl => ?_)
                  refine lv_iload (pc := 77) hx hb dX8_addSeries_77 (lv_at hl 0 rfl) ?_
                  refine zif_lt (pc := 79) hx hb 92 (by omega) dX8_addSeries_79 (by decide) (fun c79 => ?_) (fun c79 => ?_)
                  · skip
                    exact zthrow (pc := 92) hx hb hl9 hown hG hX hw wn_X8_117 wi_javalangIllegalStateException (List.mem_of_getElem? (i := 11) rfl) zthr_121 (hl.1.trans hml.symm) ht dX8_addSeries_92 dX8_addSeries_95 dX8_addSeries_96 dX8_addSeries_98 dX8_addSeries_101 (by show 6 ≤ _; exact Nat.le_of_ble_eq_true rfl) (Nat.le_of_ble_eq_true rfl) (by show 0 + 1 + 1 ≤ 8; omega) (by show 0 + 6 + 6 ≤ 4060; omega) hlocks (by (try dsimp only); first | exact ⟨rfl, (by (unfold cdAse; (repeat' split) <;> omega))⟩ | exact Or.inl ⟨rfl, (by (unfold cdAse; (repeat' split) <;> omega))⟩ | exact Or.inr ⟨rfl, (by (unfold cdAse; (repeat' split) <;> omega))⟩ | exact Or.inr (Or.inl ⟨rfl, (by (unfold cdAse; (repeat' split) <;> omega))⟩) | exact Or.inr (Or.inr ⟨rfl, (by (unfold cdAse; (repeat' split) <;> omega))⟩)) (by show 0 + 1 + 1 ≤ 8; omega) (by show 0 + 6 + 6 ≤ 4060; omega)
                  · skip
                    refine lv_iload (pc := 82) hx hb dX8_addSeries_82 (lv_at hl 0 rfl) ?_
                    refine lv_aload_n (pc := 84) hx hb dX8_addSeries_84 rfl (lv_at hl 2 rfl) ?_
                    refine zgetR (pc := 85) hx hb hG hown hw hk (T := TX8) rfl 4 (by decide) rfl wf_X8_30 rfl hr4 dX8_addSeries_85 ?_
                    refine zlen8 (pc := 88) hx hb hw hksr dX8_addSeries_88 ?_
                    refine zicmp_lt (pc := 89) hx hb 102 (by omega) (by omega) dX8_addSeries_89 (by decide) (fun c89 => ?_) (fun c89 => ?_)
                    · skip
                      refine znew (pc := 102) hx hb hG hown hw (T := TX5) (ci := 4) rfl wn_X8_28 wt_X5 wi_X5 (by show 0 + 1 + 1 ≤ 8; omega) (by show 0 + 6 + 18 ≤ 4060; omega) dX8_addSeries_102 (fun q102 H hfq102 hw => ?_)
                      obtain ⟨K102, eK102⟩ : ∃ Y : zK, Y = zup K q102 (1, 4) := ⟨_, rfl⟩
                      obtain ⟨X102, eX102⟩ : ∃ Y : zX, Y = zupX X q102 := ⟨_, rfl⟩
                      obtain ⟨R102, eR102⟩ : ∃ Y : zR, Y = zupR Rf q102 := ⟨_, rfl⟩
                      replace hw := Wd.re hw eK102 eX102 eR102
                      have hk102 : K102 x = (1, 7) := by rw [eK102]; exact zup_k hfq102 hk (Nat.succ_ne_zero _)
                      have hn102 : x ≠ q102 := zne hk hfq102
                      have hk102_1 : K102 pr = (6, 24) := by rw [eK102]; exact zup_k hfq102 hkpr (Nat.succ_ne_zero _)
                      have hn102_1 : pr ≠ q102 := zne hkpr hfq102
                      have hk102_2 : K102 pl = (7, 6) := by rw [eK102]; exact zup_k hfq102 hkpl (Nat.succ_ne_zero _)
                      have hn102_2 : pl ≠ q102 := zne hkpl hfq102
                      have hk102_3 : K102 sr = (8, 6) := by rw [eK102]; exact zup_k hfq102 hksr (Nat.succ_ne_zero _)
                      have hn102_3 : sr ≠ q102 := zne hksr hfq102
                      have hk102_4 : K102 dr = (1, 0) := by rw [eK102]; exact zup_k hfq102 hkdr (Nat.succ_ne_zero _)
                      have hn102_4 : dr ≠ q102 := zne hkdr hfq102
                      have hk102_5 : K102 na = (2, 4733) := by rw [eK102]; exact zup_k hfq102 hkna (Nat.succ_ne_zero _)
                      have hn102_5 : na ≠ q102 := zne hkna hfq102
                      have hk102_6 : K102 r2 = (1, 3) := by rw [eK102]; exact zup_k hfq102 hkp2 (Nat.succ_ne_zero _)
                      have hn102_6 : r2 ≠ q102 := zne hkp2 hfq102
                      have hk102_7 : K102 tu2 = (9, 6) := by rw [eK102]; exact zup_k hfq102 hk12 (Nat.succ_ne_zero _)
                      have hn102_7 : tu2 ≠ q102 := zne hk12 hfq102
                      have hk102_8 : K102 to2 = (2, 6) := by rw [eK102]; exact zup_k hfq102 hk32 (Nat.succ_ne_zero _)
                      have hn102_8 : to2 ≠ q102 := zne hk32 hfq102
                      have hk102_9 : K102 be2 = (2, 1201) := by rw [eK102]; exact zup_k hfq102 hk42 (Nat.succ_ne_zero _)
                      have hn102_9 : be2 ≠ q102 := zne hk42 hfq102
                      have hk102_10 : K102 sa2 = (2, 1201) := by rw [eK102]; exact zup_k hfq102 hk52 (Nat.succ_ne_zero _)
                      have hn102_10 : sa2 ≠ q102 := zne hk52 hfq102
                      have hk102_11 : K102 q102 = (1, 4) := by rw [eK102]; exact zup_s
                      have hr102 : R102 x 0 = some pr := by rw [eR102, zupR_n hn102]; exact hr0
                      have hr102_1 : R102 x 2 = some pl := by rw [eR102, zupR_n hn102]; exact hr2
                      have hr102_2 : R102 x 4 = some sr := by rw [eR102, zupR_n hn102]; exact hr4
                      have hr102_3 : R102 x 6 = some dr := by rw [eR102, zupR_n hn102]; exact hr6
                      have hr102_4 : R102 x 7 = some wo := by rw [eR102, zupR_n hn102]; exact hr7
                      have hr102_5 : R102 dr 0 = some na := by rw [eR102, zupR_n hn102_4]; exact hrd
                      have hr102_6 : R102 r2 1 = some tu2 := by rw [eR102, zupR_n hn102_6]; exact hr12
                      have hr102_7 : R102 r2 3 = some to2 := by rw [eR102, zupR_n hn102_6]; exact hr32
                      have hr102_8 : R102 r2 4 = some be2 := by rw [eR102, zupR_n hn102_6]; exact hr42
                      have hr102_9 : R102 r2 5 = some sa2 := by rw [eR102, zupR_n hn102_6]; exact hr52
                      refine lv_dup (pc := 105) hx hb dX8_addSeries_105 rfl ?_
                      refine lv_aload (pc := 106) hx hb dX8_addSeries_106 (lv_at hl 1 rfl) ?_
                      refine lv_iload_n (pc := 108) hx hb dX8_addSeries_108 rfl (lv_at hl 4 rfl) ?_
                      refine lv_iload_n (pc := 109) hx hb dX8_addSeries_109 rfl (lv_at hl 5 rfl) ?_
                      refine lv_iload (pc := 110) hx hb dX8_addSeries_110 (lv_at hl 6 rfl) ?_
                      refine lv_iload (pc := 112) hx hb dX8_addSeries_112 (lv_at hl 7 rfl) ?_
                      refine zkV (pc := 114) (zrI (As := [.ref r2, .int (iI bg), .int (iI ki), .int (iI st), .int (iI wd)]) hx hb hml hown hG hw (c_X5_init_k2 l Γ K102 X102 R102 q102 r2 bg ki st wd  (by (first | assumption | omega)) (by (first | assumption | omega)) (by (first | assumption | omega)) (by (first | assumption | omega))) cb_X5_init wl_X8_207 rfl ⟨Nat.le_of_ble_eq_true rfl, Nat.le_of_ble_eq_true rfl⟩ hl.1 rfl (Nat.le_of_ble_eq_true rfl) dX8_addSeries_114 ⟨(by show 0 + 1 + 1 + 4 ≤ 8; omega), (by show 0 + 6 + 18 + 4016 ≤ 4060; omega)⟩) hw (fun K114 X114 R114 H locs hp114 hw => ?_)
                      obtain ⟨us_114, po_114, eo_114, fo_114, ⟨cK114, cX114⟩, ⟨cz114, ck114⟩, ⟨cz114_1, ck114_1⟩, ⟨cz114_2, ck114_2⟩, ⟨cz114_3, ck114_3⟩, cr114, cr114_1, cr114_2, cr114_3, cr114_4, cP114⟩ := hp114
                      have hk114 : K114 x = (1, 7) := (cK114 _ (zk1 hk102)).trans hk102
                      have hn114 : x ≠ us_114 := zne hk102 cz114
                      have hn114_1 : x ≠ po_114 := zne hk102 cz114_1
                      have hn114_2 : x ≠ eo_114 := zne hk102 cz114_2
                      have hn114_3 : x ≠ fo_114 := zne hk102 cz114_3
                      have hk114_1 : K114 pr = (6, 24) := (cK114 _ (zk1 hk102_1)).trans hk102_1
                      have hn114_4 : pr ≠ us_114 := zne hk102_1 cz114
                      have hn114_5 : pr ≠ po_114 := zne hk102_1 cz114_1
                      have hn114_6 : pr ≠ eo_114 := zne hk102_1 cz114_2
                      have hn114_7 : pr ≠ fo_114 := zne hk102_1 cz114_3
                      have hk114_2 : K114 pl = (7, 6) := (cK114 _ (zk1 hk102_2)).trans hk102_2
                      have hn114_8 : pl ≠ us_114 := zne hk102_2 cz114
                      have hn114_9 : pl ≠ po_114 := zne hk102_2 cz114_1
                      have hn114_10 : pl ≠ eo_114 := zne hk102_2 cz114_2
                      have hn114_11 : pl ≠ fo_114 := zne hk102_2 cz114_3
                      have hk114_3 : K114 sr = (8, 6) := (cK114 _ (zk1 hk102_3)).trans hk102_3
                      have hn114_12 : sr ≠ us_114 := zne hk102_3 cz114
                      have hn114_13 : sr ≠ po_114 := zne hk102_3 cz114_1
                      have hn114_14 : sr ≠ eo_114 := zne hk102_3 cz114_2
                      have hn114_15 : sr ≠ fo_114 := zne hk102_3 cz114_3
                      have hk114_4 : K114 dr = (1, 0) := (cK114 _ (zk1 hk102_4)).trans hk102_4
                      have hn114_16 : dr ≠ us_114 := zne hk102_4 cz114
                      have hn114_17 : dr ≠ po_114 := zne hk102_4 cz114_1
                      have hn114_18 : dr ≠ eo_114 := zne hk102_4 cz114_2
                      have hn114_19 : dr ≠ fo_114 := zne hk102_4 cz114_3
                      have hk114_5 : K114 na = (2, 4733) := (cK114 _ (zk1 hk102_5)).trans hk102_5
                      have hn114_20 : na ≠ us_114 := zne hk102_5 cz114
                      have hn114_21 : na ≠ po_114 := zne hk102_5 cz114_1
                      have hn114_22 : na ≠ eo_114 := zne hk102_5 cz114_2
                      have hn114_23 : na ≠ fo_114 := zne hk102_5 cz114_3
                      have hk114_6 : K114 r2 = (1, 3) := (cK114 _ (zk1 hk102_6)).trans hk102_6
                      have hn114_24 : r2 ≠ us_114 := zne hk102_6 cz114
                      have hn114_25 : r2 ≠ po_114 := zne hk102_6 cz114_1
                      have hn114_26 : r2 ≠ eo_114 := zne hk102_6 cz114_2
                      have hn114_27 : r2 ≠ fo_114 := zne hk102_6 cz114_3
                      have hk114_7 : K114 tu2 = (9, 6) := (cK114 _ (zk1 hk102_7)).trans hk102_7
                      have hn114_28 : tu2 ≠ us_114 := zne hk102_7 cz114
                      have hn114_29 : tu2 ≠ po_114 := zne hk102_7 cz114_1
                      have hn114_30 : tu2 ≠ eo_114 := zne hk102_7 cz114_2
                      have hn114_31 : tu2 ≠ fo_114 := zne hk102_7 cz114_3
                      have hk114_8 : K114 to2 = (2, 6) := (cK114 _ (zk1 hk102_8)).trans hk102_8
                      have hn114_32 : to2 ≠ us_114 := zne hk102_8 cz114
                      have hn114_33 : to2 ≠ po_114 := zne hk102_8 cz114_1
                      have hn114_34 : to2 ≠ eo_114 := zne hk102_8 cz114_2
                      have hn114_35 : to2 ≠ fo_114 := zne hk102_8 cz114_3
                      have hk114_9 : K114 be2 = (2, 1201) := (cK114 _ (zk1 hk102_9)).trans hk102_9
                      have hn114_36 : be2 ≠ us_114 := zne hk102_9 cz114
                      have hn114_37 : be2 ≠ po_114 := zne hk102_9 cz114_1
                      have hn114_38 : be2 ≠ eo_114 := zne hk102_9 cz114_2
                      have hn114_39 : be2 ≠ fo_114 := zne hk102_9 cz114_3
                      have hk114_10 : K114 sa2 = (2, 1201) := (cK114 _ (zk1 hk102_10)).trans hk102_10
                      have hn114_40 : sa2 ≠ us_114 := zne hk102_10 cz114
                      have hn114_41 : sa2 ≠ po_114 := zne hk102_10 cz114_1
                      have hn114_42 : sa2 ≠ eo_114 := zne hk102_10 cz114_2
                      have hn114_43 : sa2 ≠ fo_114 := zne hk102_10 cz114_3
                      have hk114_11 : K114 q102 = (1, 4) := (cK114 _ (zk1 hk102_11)).trans hk102_11
                      have hn114_44 : q102 ≠ us_114 := zne hk102_11 cz114
                      have hn114_45 : q102 ≠ po_114 := zne hk102_11 cz114_1
                      have hn114_46 : q102 ≠ eo_114 := zne hk102_11 cz114_2
                      have hn114_47 : q102 ≠ fo_114 := zne hk102_11 cz114_3
                      have hr114 : R114 x 0 = some pr := by rw [(cX114 _ (zk1 hk102) hn102).2]; exact hr102
                      have hr114_1 : R114 x 2 = some pl := by rw [(cX114 _ (zk1 hk102) hn102).2]; exact hr102_1
                      have hr114_2 : R114 x 4 = some sr := by rw [(cX114 _ (zk1 hk102) hn102).2]; exact hr102_2
                      have hr114_3 : R114 x 6 = some dr := by rw [(cX114 _ (zk1 hk102) hn102).2]; exact hr102_3
                      have hr114_4 : R114 x 7 = some wo := by rw [(cX114 _ (zk1 hk102) hn102).2]; exact hr102_4
                      have hr114_5 : R114 dr 0 = some na := by rw [(cX114 _ (zk1 hk102_4) hn102_4).2]; exact hr102_5
                      have hr114_6 : R114 r2 1 = some tu2 := by rw [(cX114 _ (zk1 hk102_6) hn102_6).2]; exact hr102_6
                      have hr114_7 : R114 r2 3 = some to2 := by rw [(cX114 _ (zk1 hk102_6) hn102_6).2]; exact hr102_7
                      have hr114_8 : R114 r2 4 = some be2 := by rw [(cX114 _ (zk1 hk102_6) hn102_6).2]; exact hr102_8
                      have hr114_9 : R114 r2 5 = some sa2 := by rw [(cX114 _ (zk1 hk102_6) hn102_6).2]; exact hr102_9
                      obtain ⟨M2, hM2⟩ : ∃ M2, M2 = seM M i9 a bg ki st wd := ⟨_, rfl⟩
                      have hq0 : (K q102).1 = 0 := hfq102
                      have gK : ∀ a9, (K a9).1 ≠ 0 → K114 a9 = K a9 := fun a9 h9 => by rw [cK114 a9 (by rw [eK102, zup_n (zfa h9 hq0)]; exact h9), eK102, zup_n (zfa h9 hq0)]
                      have gX : ∀ a9, (K a9).1 ≠ 0 → X114 a9 = X a9 ∧ R114 a9 = Rf a9 := fun a9 h9 => by
                        obtain ⟨g1, g2⟩ := cX114 a9 (by rw [eK102, zup_n (zfa h9 hq0)]; exact h9) (zfa h9 hq0)
                        exact ⟨by rw [g1, eX102, zupX_n (zfa h9 hq0)], by rw [g2, eR102, zupR_n (zfa h9 hq0)]⟩
                      have hKq : K114 q102 = (1, 4) := by rw [cK114 q102 (by rw [eK102, zup_s]; decide), eK102, zup_s]
                      have z0 : ∀ u : Nat, (K102 u).1 = 0 → (K u).1 = 0 ∧ u ≠ q102 := fun u hu => by
                        have hne : u ≠ q102 := by rintro rfl; rw [eK102, zup_s] at hu; exact absurd hu (by decide)
                        rw [eK102, zup_n hne] at hu
                        exact ⟨hu, hne⟩
                      have y1 := z0 _ cz114_1
                      have y2 := z0 _ cz114_2
                      have y3 := z0 _ cz114_3
                      have hsj : ∀ j, serM M2 i9 j = if j < 11 then seV a bg ki st wd j else 0 := fun j => by rw [hM2, seM_ser, if_pos rfl]
                      have hs0z : serM M2 i9 0 = a := by rw [hsj]; rfl
                      have hs1z : serM M2 i9 1 = bg := by rw [hsj]; rfl
                      have hs2z : serM M2 i9 2 = ki := by rw [hsj]; rfl
                      have hs3z : serM M2 i9 3 = st := by rw [hsj]; rfl
                      have hs4z : serM M2 i9 4 = wd := by rw [hsj]; rfl
                      have hs5z : serM M2 i9 5 = 0 := by rw [hsj]; rfl
                      have hs6z : serM M2 i9 6 = 0 := by rw [hsj]; rfl
                      have hs7z : serM M2 i9 7 = min 73048 (bg / 1440 + 4000) := by rw [hsj]; rfl
                      have hs8z : serM M2 i9 8 = min 73048 (bg / 1440 + 4000) := by rw [hsj]; rfl
                      have hs9z : serM M2 i9 9 = 0 := by rw [hsj]; rfl
                      have hs10z : serM M2 i9 10 = 0 := by rw [hsj]; rfl
                      have hbdz : bdS (serM M2 i9) = bg / 1440 := by unfold bdS; rw [hs1z]
                      obtain ⟨cp1, cp9, cp10, cp11, cp12, cp14, cp16, cp17, cu0, cu1, cu2⟩ := cP114
                      have hDz : serD (X114 q102) (serM M2 i9) := by omega
                      have hoz : okS (serM M2 i9) := by omega
                      have hUz : upOK K114 X114 R114 po_114 (serM M2 i9) (useM M2 i9) := fun k9 h9 => by rw [hs9z] at h9; omega
                      have hEz : ∀ k9 : Nat, (k9 : Int) < serM M2 i9 10 → X114 eo_114 k9 = excM M2 i9 k9 ∧ 0 ≤ excM M2 i9 k9 ∧ excM M2 i9 k9 ≤ 73048 := fun k9 h9 => by rw [hs10z] at h9; omega
                      have hbd9 : 0 ≤ bg / 1440 ∧ bg / 1440 ≤ 73048 := by omega
                      have hmi9 := mi_rng hbd9.1 hbd9.2
                      have hml9 := mB_succ hmi9.1 hmi9.2.1
                      have hu0 : X114 us_114 0 = usS (serM M2 i9) 0 := by unfold usS; rw [if_pos rfl, hs2z, hbdz]; exact cu0
                      have hu1 : X114 us_114 1 = usS (serM M2 i9) 1 := by unfold usS; rw [if_neg (by decide), if_pos rfl]; exact cu1
                      have hu2 : X114 us_114 2 = usS (serM M2 i9) 2 := by unfold usS; rw [if_neg (by decide), if_neg (by decide), hbdz]; exact cu2
                      have hku9 : 0 ≤ X114 us_114 0 ∧ X114 us_114 0 ≤ 12 := by rw [cu0]; split <;> omega
                      have hUsz : usOK K114 X114 R114 q102 (serM M2 i9) := Or.inr ⟨by omega, us_114, cr114_1, ck114, ⟨hku9, by omega, by omega⟩, ⟨hu0, hu1, hu2⟩⟩
                      refine lv_astore (pc := 117) (lv' := [(8, .ref q102), (7, .int (iI x75)), (6, .ref r2), (0, .ref x), (1, .int (iI a)), (2, .int (iI bg)), (3, .int (iI ki)), (4, .int (iI st)), (5, .int (iI wd))]) hx hb dX8_addSeries_117 hl (by decide) rfl (fun ls hl => ?_)
                      refine lv_aload (pc := 119) hx hb dX8_addSeries_119 (lv_at hl 0 rfl) ?_
                      refine lv_aload_n (pc := 121) hx hb dX8_addSeries_121 rfl (lv_at hl 3 rfl) ?_
                      refine zgetR (pc := 122) hx hb hG hown hw hk114 (T := TX8) rfl 6 (by decide) rfl wf_X8_42 rfl hr114_3 dX8_addSeries_122 ?_
                      refine zkVx (pc := 125) (zrV (As := [.ref dr]) hx hb hml hown hG hw (c_X5_findDates l Γ K114 X114 R114 q102 dr (serM M2 i9) (useM M2 i9) (excM M2 i9) po_114 eo_114 fo_114 na (by (first | assumption | omega)) (by (first | assumption | omega)) (by (first | assumption | omega)) (by (first | assumption | omega)) (by (first | assumption | omega)) (by (first | assumption | omega)) (by (first | assumption | omega)) (by (first | assumption | omega)) (by (first | assumption | omega)) (by (first | assumption | omega)) (by (first | assumption | omega)) (by (first | assumption | omega)) (by (first | assumption | omega)) (by (first | assumption | omega)) (by (first | assumption | omega))) (T := TX5) hk114_11 rfl cb_X5_findDates wl_X8_210 rfl ⟨Nat.le_of_ble_eq_true rfl, Nat.le_of_ble_eq_true rfl⟩ hl.1 rfl (Nat.le_of_ble_eq_true rfl) dX8_addSeries_125 ⟨(by show 0 + 1 + 1 + 4 + 0 ≤ 8; omega), (by show 0 + 6 + 18 + 4016 + 0 ≤ 4060; omega)⟩) hw (fun X125 H locs hp125 hw => ?_)
                      refine lv_aload_n (pc := 128) hx hb dX8_addSeries_128 rfl (lv_at hl 3 rfl) ?_
                      refine zgetR (pc := 129) hx hb hG hown hw hk114 (T := TX8) rfl 4 (by decide) rfl wf_X8_30 rfl hr114_2 dX8_addSeries_129 ?_
                      refine lv_iload (pc := 132) hx hb dX8_addSeries_132 (lv_at hl 1 rfl) ?_
                      refine lv_aload (pc := 134) hx hb dX8_addSeries_134 (lv_at hl 0 rfl) ?_
                      refine zaast2 (pc := 136) hx hb hw hk114_3 hk114_11 ⟨by omega, by omega⟩ (by omega) dX8_addSeries_136 (fun H locs hw => ?_)
                      obtain ⟨R136, eR136⟩ : ∃ Y : zR, Y = up2 R114 sr x75.toNat (some q102) := ⟨_, rfl⟩
                      rw [← eR136] at hw
                      have hr136 : R136 x 0 = some pr := by rw [eR136, up2_a (zkn2 hk114 hk114_3 (by simp))]; exact hr114
                      have hr136_1 : R136 x 2 = some pl := by rw [eR136, up2_a (zkn2 hk114 hk114_3 (by simp))]; exact hr114_1
                      have hr136_2 : R136 x 4 = some sr := by rw [eR136, up2_a (zkn2 hk114 hk114_3 (by simp))]; exact hr114_2
                      have hr136_3 : R136 x 6 = some dr := by rw [eR136, up2_a (zkn2 hk114 hk114_3 (by simp))]; exact hr114_3
                      have hr136_4 : R136 x 7 = some wo := by rw [eR136, up2_a (zkn2 hk114 hk114_3 (by simp))]; exact hr114_4
                      have hr136_5 : R136 dr 0 = some na := by rw [eR136, up2_a (zkn2 hk114_4 hk114_3 (by simp))]; exact hr114_5
                      have hr136_6 : R136 r2 1 = some tu2 := by rw [eR136, up2_a (zkn2 hk114_6 hk114_3 (by simp))]; exact hr114_6
                      have hr136_7 : R136 r2 3 = some to2 := by rw [eR136, up2_a (zkn2 hk114_6 hk114_3 (by simp))]; exact hr114_7
                      have hr136_8 : R136 r2 4 = some be2 := by rw [eR136, up2_a (zkn2 hk114_6 hk114_3 (by simp))]; exact hr114_8
                      have hr136_9 : R136 r2 5 = some sa2 := by rw [eR136, up2_a (zkn2 hk114_6 hk114_3 (by simp))]; exact hr114_9
                      have hr136_10 : R136 q102 0 = some r2 := by rw [eR136, up2_a (Ne.symm hn102_3)]; exact cr114
                      have hr136_11 : R136 q102 7 = some us_114 := by rw [eR136, up2_a (Ne.symm hn102_3)]; exact cr114_1
                      have hr136_12 : R136 q102 8 = some po_114 := by rw [eR136, up2_a (Ne.symm hn102_3)]; exact cr114_2
                      have hr136_13 : R136 q102 13 = some eo_114 := by rw [eR136, up2_a (Ne.symm hn102_3)]; exact cr114_3
                      have hr136_14 : R136 q102 15 = some fo_114 := by rw [eR136, up2_a (Ne.symm hn102_3)]; exact cr114_4
                      have hr136_15 : R136 sr x75.toNat = some q102 := by rw [eR136]; exact up2_s
                      refine lv_aload_n (pc := 137) hx hb dX8_addSeries_137 rfl (lv_at hl 3 rfl) ?_
                      refine lv_iload (pc := 138) hx hb dX8_addSeries_138 (lv_at hl 1 rfl) ?_
                      refine ziconst (pc := 140) (n := 1) hx hb dX8_addSeries_140 ?_
                      refine zadd (pc := 141) hx hb dX8_addSeries_141 ?_
                      refine zputI (pc := 142) hx hb hG hown hw hk114 (T := TX8) rfl 5 (by decide) rfl wf_X8_34 rfl (by decide +kernel) rfl dX8_addSeries_142 (fun H locs hw => ?_)
                      obtain ⟨X142, eX142⟩ : ∃ Y : zX, Y = up2 X125 x 5 (x75 + 1) := ⟨_, rfl⟩
                      rw [← eX142] at hw
                      refine lv_iload (pc := 145) hx hb dX8_addSeries_145 (lv_at hl 1 rfl) ?_
                      exact vx_ret (zretI (pc := 147) hx hb hlocks hr hw (by show 0 + 1 + 1 + 4 ≤ 8; omega) (by show 0 + 6 + 18 + 4016 ≤ 4060; omega) dX8_addSeries_147 (by 
                                        refine ⟨⟨by omega, by (unfold cdAse; (repeat' split) <;> omega)⟩, ?_⟩
                                        obtain ⟨hrp9, hoo9, hqq9⟩ := hp125
                                        have hx75 : x75 = i9 := by omega
                                        have hkn : (K114 q102).1 ≠ 0 := zk1 hKq
                                        have y1b := ck114_1
                                        have y2b := ck114_2
                                        have y3b := ck114_3
                                        have nq : ∀ u : Nat, (K u).1 ≠ 0 → u ≠ q102 := fun u hu => zfa hu hq0
                                        have nf : ∀ u : Nat, (K u).1 ≠ 0 → u ≠ fo_114 := fun u hu => zfa hu y3.1
                                        have hxn : (K x).1 ≠ 0 := zk1 hk
                                        have hsn : (K sr).1 ≠ 0 := zk1 hksr
                                        have hxd : x ≠ dr := zkn2 hk hkdr (by simp)
                                        have hxa : x ≠ na := zkne hk hkna (by simp)
                                        have np : ∀ u : Nat, (K u).1 = 0 → u ≠ x := fun u hu g => hxn (by rw [← g]; exact hu)
                                        have ns : ∀ u : Nat, (K u).1 = 0 → u ≠ sr := fun u hu g => hsn (by rw [← g]; exact hu)
                                        have nd : ∀ u : Nat, (K u).1 = 0 → u ≠ dr ∧ u ≠ na := fun u hu => ⟨fun g => zk1 hkdr (by rw [← g]; exact hu), fun g => zk1 hkna (by rw [← g]; exact hu)⟩
                                        have hne1 : eo_114 ≠ fo_114 := zkn2 y2b y3b (by simp)
                                        rw [hi9, Int.toNat_natCast]
                                        refine hC.sra (i := i9) (se := q102) (po := po_114) (eo := eo_114) (fo := fo_114) hr2 hr4 hr6 hrd ⟨hi9, by omega⟩ hrp2 ⟨hq0, y1.1, y2.1, y3.1⟩ ⟨hKq, y1b, y2b, y3b⟩ gK (fun a9 h9 g1 g2 g3 => ?_) (fun a9 h9 g1 => ?_) ?_ (fun j hj => ?_) ?_ (fun k hk9 => ?_) (fun ρ9 g1 g2 g3 g4 => ?_)
                                        · rw [eX142, up2_o g1, hoo9 a9 (nq a9 h9) (nf a9 h9) g2 g3]; exact (gX a9 h9).1
                                        · rw [eR136, up2_o g1]; exact (gX a9 h9).2
                                        · rw [eX142, up2_s, hx75]
                                        · rw [eX142, up2_k hj, hoo9 x (nq x hxn) (nf x hxn) hxd hxa]; exact congrFun (gX x hxn).1 j
                                        · rw [eR136, hx75, Int.toNat_natCast]; exact up2_s
                                        · rw [eR136, hx75, Int.toNat_natCast, up2_k hk9]; exact congrFun (gX sr hsn).2 k
                                        · rw [← hM2]
                                          have hRq : R136 q102 = R114 q102 := by rw [eR136, up2_o (ns _ hq0)]
                                          have hXq : X142 q102 = X125 q102 := by rw [eX142, up2_o (np _ hq0)]
                                          have hXf : X142 fo_114 = X125 fo_114 := by rw [eX142, up2_o (np _ y3.1)]
                                          have hXe : X142 eo_114 = X125 eo_114 := by rw [eX142, up2_o (np _ y2.1)]
                                          refine seA_new (Rf := R136) (Rf' := R136) (X := X114) ⟨hKq, g1⟩ ⟨by rw [hRq]; exact cr114, by rw [hRq]; exact cr114_2, by rw [hRq]; exact cr114_3, by rw [hRq]; exact cr114_4⟩ ⟨y1b, y2b, y3b⟩ ⟨g2, g3, g4⟩ hDz hoz (fun k9 h9 => by rw [hs9z] at h9; omega) (usOK_upd hUsz rfl rfl (fun _ _ => rfl) (by rw [hRq])) hEz (fun a9 h9 => ?_) ?_ (fun q g5 g6 => by rw [hXq]; exact hqq9 q g5 g6) ?_
                                          · have n1 : a9 ≠ x := by rintro rfl; rw [gK _ hxn, hk] at h9; exact absurd h9 (by decide)
                                            have n2 : a9 ≠ dr := by rintro rfl; rw [gK _ (zk1 hkdr), hkdr] at h9; exact absurd h9 (by decide)
                                            have n3 : a9 ≠ na := by rintro rfl; rw [gK _ (zk1 hkna), hkna] at h9; exact absurd h9 (by decide)
                                            rw [eX142, up2_o n1]; exact hoo9 a9 (not_k2 hKq (by simp) h9) (not_k2 y3b (by simp) h9) n2 n3
                                          · rw [hXe]; exact hoo9 eo_114 y2.2 hne1 (nd _ y2.1).1 (nd _ y2.1).2
                                          · obtain ⟨f1, f2, f3⟩ := hrp9
                                            exact ⟨by rw [hXq]; exact f1, by rw [hXq]; exact f2, fun j hj => by rw [hXf]; exact f3 j hj⟩))
                    · skip
                      exact zthrow (pc := 92) hx hb hl9 hown hG hX hw wn_X8_117 wi_javalangIllegalStateException (List.mem_of_getElem? (i := 11) rfl) zthr_121 (hl.1.trans hml.symm) ht dX8_addSeries_92 dX8_addSeries_95 dX8_addSeries_96 dX8_addSeries_98 dX8_addSeries_101 (by show 6 ≤ _; exact Nat.le_of_ble_eq_true rfl) (Nat.le_of_ble_eq_true rfl) (by show 0 + 1 + 1 ≤ 8; omega) (by show 0 + 6 + 6 ≤ 4060; omega) hlocks (by (try dsimp only); first | exact ⟨rfl, (by (unfold cdAse; (repeat' split) <;> omega))⟩ | exact Or.inl ⟨rfl, (by (unfold cdAse; (repeat' split) <;> omega))⟩ | exact Or.inr ⟨rfl, (by (unfold cdAse; (repeat' split) <;> omega))⟩ | exact Or.inr (Or.inl ⟨rfl, (by (unfold cdAse; (repeat' split) <;> omega))⟩) | exact Or.inr (Or.inr ⟨rfl, (by (unfold cdAse; (repeat' split) <;> omega))⟩)) (by show 0 + 1 + 1 ≤ 8; omega) (by show 0 + 6 + 6 ≤ 4060; omega)
                · skip
                  exact zthrow (pc := 61) hx hb hl9 hown hG hX hw wn_X8_56 wi_javalangIllegalArgumentException (List.mem_of_getElem? (i := 10) rfl) zthr_60 (hl.1.trans hml.symm) ht dX8_addSeries_61 dX8_addSeries_64 dX8_addSeries_65 dX8_addSeries_67 dX8_addSeries_70 (by show 6 ≤ _; exact Nat.le_of_ble_eq_true rfl) (Nat.le_of_ble_eq_true rfl) (by show 0 + 1 + 1 ≤ 8; omega) (by show 0 + 6 + 6 ≤ 4060; omega) hlocks (by (try dsimp only); first | exact ⟨rfl, (by (unfold cdAse; (repeat' split) <;> omega))⟩ | exact Or.inl ⟨rfl, (by (unfold cdAse; (repeat' split) <;> omega))⟩ | exact Or.inr ⟨rfl, (by (unfold cdAse; (repeat' split) <;> omega))⟩ | exact Or.inr (Or.inl ⟨rfl, (by (unfold cdAse; (repeat' split) <;> omega))⟩) | exact Or.inr (Or.inr ⟨rfl, (by (unfold cdAse; (repeat' split) <;> omega))⟩)) (by show 0 + 1 + 1 ≤ 8; omega) (by show 0 + 6 + 6 ≤ 4060; omega)
    · skip
      exact zthrow (pc := 17) hx hb hl9 hown hG hX hw wn_X8_56 wi_javalangIllegalArgumentException (List.mem_of_getElem? (i := 9) rfl) zthr_60 (hl.1.trans hml.symm) ht dX8_addSeries_17 dX8_addSeries_20 dX8_addSeries_21 dX8_addSeries_23 dX8_addSeries_26 (by show 6 ≤ _; exact Nat.le_of_ble_eq_true rfl) (Nat.le_of_ble_eq_true rfl) (by show 0 + 1 + 1 ≤ 8; omega) (by show 0 + 6 + 6 ≤ 4060; omega) hlocks (by (try dsimp only); first | exact ⟨rfl, (by (unfold cdAse; (repeat' split) <;> omega))⟩ | exact Or.inl ⟨rfl, (by (unfold cdAse; (repeat' split) <;> omega))⟩ | exact Or.inr ⟨rfl, (by (unfold cdAse; (repeat' split) <;> omega))⟩ | exact Or.inr (Or.inl ⟨rfl, (by (unfold cdAse; (repeat' split) <;> omega))⟩) | exact Or.inr (Or.inr ⟨rfl, (by (unfold cdAse; (repeat' split) <;> omega))⟩)) (by show 0 + 1 + 1 ≤ 8; omega) (by show 0 + 6 + 6 ≤ 4060; omega)
/-- a series of any kind -/
theorem c_X8_addSeries (l : Launch) (hl9 : l.stackTraces = false) (Γ : zG) (K : zK) (X : zX) (Rf : zR) (x : Nat) (a bg ki st wd : Int) (ρ : zL) (M : zM) (hC : repC ρ K X Rf x M) (hM : okM M) (h1 : fit a ∧ fit bg ∧ fit ki) (h2 : fit st ∧ fit wd) : Cx l yX8_addSeries cX8_addSeries 9 (some .int) 7 8 4060 Γ [.ref x, .int (iI a), .int (iI bg), .int (iI ki), .int (iI st), .int (iI wd)] K X Rf (pI (fun (r : Int) (K' : zK) (X' : zX) (R' : zR) => (r = M 40 16 ∧ cdAse M a bg ki st wd = 0) ∧ ∃ ρ', repC ρ' K' X' R' x (seM M (M 40 16).toNat a bg ki st wd) ∧ frC ρ K X Rf ρ' K' X' R')) (fun E : String => (E = "java/lang/IndexOutOfBoundsException" ∧ cdAse M a bg ki st wd = 1) ∨ (E = "java/lang/IllegalArgumentException" ∧ cdAse M a bg ki st wd = 2) ∨ (E = "java/lang/IllegalStateException" ∧ cdAse M a bg ki st wd = 3)) := by
  exact (if hv : ki < 2 then c_X8_addSeries_k0 l hl9 Γ K X Rf x a bg ki st wd ρ M hC hM h1 h2 hv else c_X8_addSeries_k2 l hl9 Γ K X Rf x a bg ki st wd ρ M hC hM h1 h2 (by omega))
