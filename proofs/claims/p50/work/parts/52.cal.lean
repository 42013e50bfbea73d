set_option maxHeartbeats 4000000 in
set_option maxRecDepth 100000 in
theorem c_X8_addPattern (l : Launch) (hl9 : l.stackTraces = false) (Γ : zG) (K : zK) (X : zX) (Rf : zR) (x : Nat) (mo : Int) (ki : Int) (nu : Int) (ρ : zL) (M : zM) (hC : repC ρ K X Rf x M) (hM : okM M) (h1 : fit mo ∧ fit ki ∧ fit nu) : Cx l yX8_addPattern cX8_addPattern 5 (some .int) 6 2 9 Γ [.ref x, .int (iI mo), .int (iI ki), .int (iI nu)] K X Rf (pI (fun (r : Int) (K' : zK) (X' : zX) (R' : zR) => (r = M 40 1 ∧ cdAdp M mo ki nu = 0) ∧ ∃ ρ', repC ρ' K' X' R' x (padM M (M 40 1).toNat mo ki nu) ∧ frC ρ K X Rf ρ' K' X' R')) (fun E : String => (E = "java/lang/IllegalArgumentException" ∧ cdAdp M mo ki nu = 1) ∨ (E = "java/lang/IllegalStateException" ∧ cdAdp M mo ki nu = 2)) := by
  refine Cx.of (by decide +kernel) (Nat.le_of_ble_eq_true rfl) ?_
  intro p e s m below meth c ls hx hb hr hml hown hG hlocks hname ht hX hw hl
  have hl : lv_has ls 5 [(0, .ref x), (1, .int (iI mo)), (2, .int (iI ki)), (3, .int (iI nu))] := hl
  obtain ⟨⟨hk, hlx⟩, pr, pl, sr, dr, na, wo, ⟨hr0, hr2, hr4, hr6, hr7, hrd⟩, ⟨hkpr, hkpl, hksr, hkdr, hkna⟩, ⟨hlpr, hlpl, hlsr, hldr, hlna⟩, ⟨hx1, hx3, hx5⟩, hpt, hpl, hse, hwo⟩ := id hC
  obtain ⟨⟨hb1, hb2, hb3, hb4⟩, hokP, hokL, hokS, hokW, hokF⟩ := id hM
  obtain ⟨i9, hi9⟩ : ∃ i9 : Nat, M 40 1 = i9 := ⟨(M 40 1).toNat, by omega⟩
  refine lv_iload_n (pc := 0) hx hb dX8_addPattern_0 rfl (lv_at hl 1 rfl) ?_
  refine zif_lt (pc := 1) hx hb 20 (by omega) dX8_addPattern_1 (by decide) (fun c1 => ?_) (fun c1 => ?_)
  · skip
    exact zthrow (pc := 20) hx hb hl9 hown hG hX hw wn_X8_56 wi_javalangIllegalArgumentException (List.mem_of_getElem? (i := 18) rfl) zthr_60 (hl.1.trans hml.symm) ht dX8_addPattern_20 dX8_addPattern_23 dX8_addPattern_24 dX8_addPattern_26 dX8_addPattern_29 (by show 6 ≤ _; exact Nat.le_of_ble_eq_true rfl) (Nat.le_of_ble_eq_true rfl) (by show 0 + 1 ≤ 2; omega) (by show 0 + 6 ≤ 9; omega) hlocks (by (try dsimp only); first | exact ⟨rfl, (by (unfold cdAdp; (repeat' split) <;> omega))⟩ | exact Or.inl ⟨rfl, (by (unfold cdAdp; (repeat' split) <;> omega))⟩ | exact Or.inr ⟨rfl, (by (unfold cdAdp; (repeat' split) <;> omega))⟩ | exact Or.inr (Or.inl ⟨rfl, (by (unfold cdAdp; (repeat' split) <;> omega))⟩) | exact Or.inr (Or.inr ⟨rfl, (by (unfold cdAdp; (repeat' split) <;> omega))⟩)) (by show 0 + 1 ≤ 2; omega) (by show 0 + 6 ≤ 9; omega)
  · skip
    refine lv_iload_n (pc := 4) hx hb dX8_addPattern_4 rfl (lv_at hl 1 rfl) ?_
    refine zbipush (pc := 5) (n := 12) hx hb dX8_addPattern_5 rfl ?_
    refine zicmp_gt (pc := 7) hx hb 20 (by omega) (by omega) dX8_addPattern_7 (by decide) (fun c7 => ?_) (fun c7 => ?_)
    · skip
      exact zthrow (pc := 20) hx hb hl9 hown hG hX hw wn_X8_56 wi_javalangIllegalArgumentException (List.mem_of_getElem? (i := 18) rfl) zthr_60 (hl.1.trans hml.symm) ht dX8_addPattern_20 dX8_addPattern_23 dX8_addPattern_24 dX8_addPattern_26 dX8_addPattern_29 (by show 6 ≤ _; exact Nat.le_of_ble_eq_true rfl) (Nat.le_of_ble_eq_true rfl) (by show 0 + 1 ≤ 2; omega) (by show 0 + 6 ≤ 9; omega) hlocks (by (try dsimp only); first | exact ⟨rfl, (by (unfold cdAdp; (repeat' split) <;> omega))⟩ | exact Or.inl ⟨rfl, (by (unfold cdAdp; (repeat' split) <;> omega))⟩ | exact Or.inr ⟨rfl, (by (unfold cdAdp; (repeat' split) <;> omega))⟩ | exact Or.inr (Or.inl ⟨rfl, (by (unfold cdAdp; (repeat' split) <;> omega))⟩) | exact Or.inr (Or.inr ⟨rfl, (by (unfold cdAdp; (repeat' split) <;> omega))⟩)) (by show 0 + 1 ≤ 2; omega) (by show 0 + 6 ≤ 9; omega)
    · skip
      refine lv_iload_n (pc := 10) hx hb dX8_addPattern_10 rfl (lv_at hl 2 rfl) ?_
      refine zif_lt (pc := 11) hx hb 20 (by omega) dX8_addPattern_11 (by decide) (fun c11 => ?_) (fun c11 => ?_)
      · skip
        exact zthrow (pc := 20) hx hb hl9 hown hG hX hw wn_X8_56 wi_javalangIllegalArgumentException (List.mem_of_getElem? (i := 18) rfl) zthr_60 (hl.1.trans hml.symm) ht dX8_addPattern_20 dX8_addPattern_23 dX8_addPattern_24 dX8_addPattern_26 dX8_addPattern_29 (by show 6 ≤ _; exact Nat.le_of_ble_eq_true rfl) (Nat.le_of_ble_eq_true rfl) (by show 0 + 1 ≤ 2; omega) (by show 0 + 6 ≤ 9; omega) hlocks (by (try dsimp only); first | exact ⟨rfl, (by (unfold cdAdp; (repeat' split) <;> omega))⟩ | exact Or.inl ⟨rfl, (by (unfold cdAdp; (repeat' split) <;> omega))⟩ | exact Or.inr ⟨rfl, (by (unfold cdAdp; (repeat' split) <;> omega))⟩ | exact Or.inr (Or.inl ⟨rfl, (by (unfold cdAdp; (repeat' split) <;> omega))⟩) | exact Or.inr (Or.inr ⟨rfl, (by (unfold cdAdp; (repeat' split) <;> omega))⟩)) (by show 0 + 1 ≤ 2; omega) (by show 0 + 6 ≤ 9; omega)
      · skip
        refine lv_iload_n (pc := 14) hx hb dX8_addPattern_14 rfl (lv_at hl 2 rfl) ?_
        refine zbipush (pc := 15) (n := 16) hx hb dX8_addPattern_15 rfl ?_
        refine zicmp_le (pc := 17) hx hb 30 (by omega) (by omega) dX8_addPattern_17 (by decide) (fun c17 => ?_) (fun c17 => ?_)
        · skip
          refine lv_iload_n (pc := 30) hx hb dX8_addPattern_30 rfl (lv_at hl 3 rfl) ?_
          refine ziconst (pc := 31) (n := 1) hx hb dX8_addPattern_31 ?_
          refine zicmp_lt (pc := 32) hx hb 43 (by omega) (by omega) dX8_addPattern_32 (by decide) (fun c32 => ?_) (fun c32 => ?_)
          · skip
            exact zthrow (pc := 43) hx hb hl9 hown hG hX hw wn_X8_56 wi_javalangIllegalArgumentException (List.mem_of_getElem? (i := 19) rfl) zthr_60 (hl.1.trans hml.symm) ht dX8_addPattern_43 dX8_addPattern_46 dX8_addPattern_47 dX8_addPattern_49 dX8_addPattern_52 (by show 6 ≤ _; exact Nat.le_of_ble_eq_true rfl) (Nat.le_of_ble_eq_true rfl) (by show 0 + 1 ≤ 2; omega) (by show 0 + 6 ≤ 9; omega) hlocks (by (try dsimp only); first | exact ⟨rfl, (by (unfold cdAdp; (repeat' split) <;> omega))⟩ | exact Or.inl ⟨rfl, (by (unfold cdAdp; (repeat' split) <;> omega))⟩ | exact Or.inr ⟨rfl, (by (unfold cdAdp; (repeat' split) <;> omega))⟩ | exact Or.inr (Or.inl ⟨rfl, (by (unfold cdAdp; (repeat' split) <;> omega))⟩) | exact Or.inr (Or.inr ⟨rfl, (by (unfold cdAdp; (repeat' split) <;> omega))⟩)) (by show 0 + 1 ≤ 2; omega) (by show 0 + 6 ≤ 9; omega)
          · skip
            refine lv_iload_n (pc := 35) hx hb dX8_addPattern_35 rfl (lv_at hl 3 rfl) ?_
            refine lv_iload_n (pc := 36) hx hb dX8_addPattern_36 rfl (lv_at hl 2 rfl) ?_
            refine zkIp (pc := 37) (zrS (As := [.int (iI ki)]) hx hb hml hown hG hw (c_X3_greatestNumber l Γ K X Rf ki  (by (first | assumption | omega))) cb_X3_greatestNumber wl_X8_110 rfl ⟨Nat.le_of_ble_eq_true rfl, Nat.le_of_ble_eq_true rfl⟩ hl.1 rfl (Nat.le_of_ble_eq_true rfl) dX8_addPattern_37 ⟨Nat.zero_le _, Nat.zero_le _⟩) hw (fun r37 H locs hp37 hw => ?_)
            subst hp37
            refine zicmp_le (pc := 40) hx hb 53 (by omega) (by omega) dX8_addPattern_40 (by decide) (fun c40 => ?_) (fun c40 => ?_)
            · skip
              refine lv_iload_n (pc := 53) hx hb dX8_addPattern_53 rfl (lv_at hl 2 rfl) ?_
              refine zbipush (pc := 54) (n := 16) hx hb dX8_addPattern_54 rfl ?_
              refine zicmp_ne (pc := 56) hx hb 73 (by omega) (by omega) dX8_addPattern_56 (by decide) (fun c56 => ?_) (fun c56 => ?_)
              · skip
                refine lv_aload_n (pc := 73) hx hb dX8_addPattern_73 rfl (lv_at hl 0 rfl) ?_
                refine zgetI (pc := 74) hx hb hG hown hw hk (T := TX8) rfl 1 (by decide) rfl wf_X8_15 rfl dX8_addPattern_74 ?_
                refine ztop (fun x77 ex77 => ?_)
                refine lv_istore (pc := 77) (lv' := [(4, .int (iI x77)), (0, .ref x), (1, .int (iI mo)), (2, .int (iI ki)), (3, .int (iI nu))]) hx hb dX8_addPattern_77 hl (by decide) rfl (fun ls hl => ?_)
                refine lv_iload (pc := 79) hx hb dX8_addPattern_79 (lv_at hl 0 rfl) ?_
                refine zif_lt (pc := 81) hx hb 94 (by omega) dX8_addPattern_81 (by decide) (fun c81 => ?_) (fun c81 => ?_)
                · skip
                  exact zthrow (pc := 94) hx hb hl9 hown hG hX hw wn_X8_117 wi_javalangIllegalStateException (List.mem_of_getElem? (i := 21) rfl) zthr_121 (hl.1.trans hml.symm) ht dX8_addPattern_94 dX8_addPattern_97 dX8_addPattern_98 dX8_addPattern_100 dX8_addPattern_103 (by show 6 ≤ _; exact Nat.le_of_ble_eq_true rfl) (Nat.le_of_ble_eq_true rfl) (by show 0 + 1 ≤ 2; omega) (by show 0 + 6 ≤ 9; omega) hlocks (by (try dsimp only); first | exact ⟨rfl, (by (unfold cdAdp; (repeat' split) <;> omega))⟩ | exact Or.inl ⟨rfl, (by (unfold cdAdp; (repeat' split) <;> omega))⟩ | exact Or.inr ⟨rfl, (by (unfold cdAdp; (repeat' split) <;> omega))⟩ | exact Or.inr (Or.inl ⟨rfl, (by (unfold cdAdp; (repeat' split) <;> omega))⟩) | exact Or.inr (Or.inr ⟨rfl, (by (unfold cdAdp; (repeat' split) <;> omega))⟩)) (by show 0 + 1 ≤ 2; omega) (by show 0 + 6 ≤ 9; omega)
                · skip
                  refine lv_iload (pc := 84) hx hb dX8_addPattern_84 (lv_at hl 0 rfl) ?_
                  refine lv_aload_n (pc := 86) hx hb dX8_addPattern_86 rfl (lv_at hl 1 rfl) ?_
                  refine zgetR (pc := 87) hx hb hG hown hw hk (T := TX8) rfl 0 (by decide) rfl wf_X8_9 rfl hr0 dX8_addPattern_87 ?_
                  refine zlen6 (pc := 90) hx hb hw hkpr dX8_addPattern_90 ?_
                  refine zicmp_lt (pc := 91) hx hb 104 (by omega) (by omega) dX8_addPattern_91 (by decide) (fun c91 => ?_) (fun c91 => ?_)
                  · skip
                    refine lv_aload_n (pc := 104) hx hb dX8_addPattern_104 rfl (lv_at hl 1 rfl) ?_
                    refine zgetR (pc := 105) hx hb hG hown hw hk (T := TX8) rfl 0 (by decide) rfl wf_X8_9 rfl hr0 dX8_addPattern_105 ?_
                    refine lv_iload (pc := 108) hx hb dX8_addPattern_108 (lv_at hl 0 rfl) ?_
                    refine znew (pc := 110) hx hb hG hown hw (T := TX3) (ci := 2) rfl wn_X8_7 wt_X3 wi_X3 (by show 0 + 1 ≤ 2; omega) (by show 0 + 3 ≤ 9; omega) dX8_addPattern_110 (fun q110 H hfq110 hw => ?_)
                    obtain ⟨K110, eK110⟩ : ∃ Y : zK, Y = zup K q110 (1, 2) := ⟨_, rfl⟩
                    obtain ⟨X110, eX110⟩ : ∃ Y : zX, Y = zupX X q110 := ⟨_, rfl⟩
                    obtain ⟨R110, eR110⟩ : ∃ Y : zR, Y = zupR Rf q110 := ⟨_, rfl⟩
                    replace hw := Wd.re hw eK110 eX110 eR110
                    have hk110 : K110 x = (1, 7) := by rw [eK110]; exact zup_k hfq110 hk (Nat.succ_ne_zero _)
                    have hn110 : x ≠ q110 := zne hk hfq110
                    have hk110_1 : K110 pr = (6, 24) := by rw [eK110]; exact zup_k hfq110 hkpr (Nat.succ_ne_zero _)
                    have hn110_1 : pr ≠ q110 := zne hkpr hfq110
                    have hk110_2 : K110 pl = (7, 6) := by rw [eK110]; exact zup_k hfq110 hkpl (Nat.succ_ne_zero _)
                    have hn110_2 : pl ≠ q110 := zne hkpl hfq110
                    have hk110_3 : K110 sr = (8, 6) := by rw [eK110]; exact zup_k hfq110 hksr (Nat.succ_ne_zero _)
                    have hn110_3 : sr ≠ q110 := zne hksr hfq110
                    have hk110_4 : K110 dr = (1, 0) := by rw [eK110]; exact zup_k hfq110 hkdr (Nat.succ_ne_zero _)
                    have hn110_4 : dr ≠ q110 := zne hkdr hfq110
                    have hk110_5 : K110 na = (2, 4733) := by rw [eK110]; exact zup_k hfq110 hkna (Nat.succ_ne_zero _)
                    have hn110_5 : na ≠ q110 := zne hkna hfq110
                    have hk110_6 : K110 q110 = (1, 2) := by rw [eK110]; exact zup_s
                    have hr110 : R110 x 0 = some pr := by rw [eR110, zupR_n hn110]; exact hr0
                    have hr110_1 : R110 x 2 = some pl := by rw [eR110, zupR_n hn110]; exact hr2
                    have hr110_2 : R110 x 4 = some sr := by rw [eR110, zupR_n hn110]; exact hr4
                    have hr110_3 : R110 x 6 = some dr := by rw [eR110, zupR_n hn110]; exact hr6
                    have hr110_4 : R110 x 7 = some wo := by rw [eR110, zupR_n hn110]; exact hr7
                    have hr110_5 : R110 dr 0 = some na := by rw [eR110, zupR_n hn110_4]; exact hrd
                    refine lv_dup (pc := 113) hx hb dX8_addPattern_113 rfl ?_
                    refine lv_iload_n (pc := 114) hx hb dX8_addPattern_114 rfl (lv_at hl 2 rfl) ?_
                    refine lv_iload_n (pc := 115) hx hb dX8_addPattern_115 rfl (lv_at hl 3 rfl) ?_
                    refine lv_iload_n (pc := 116) hx hb dX8_addPattern_116 rfl (lv_at hl 4 rfl) ?_
                    refine zkV (pc := 117) (zrI (As := [.int (iI mo), .int (iI ki), .int (iI nu)]) hx hb hml hown hG hw (c_X3_init l Γ K110 X110 R110 q110 mo ki nu  (by (first | assumption | omega))) cb_X3_init wl_X8_122 rfl ⟨Nat.le_of_ble_eq_true rfl, Nat.le_of_ble_eq_true rfl⟩ hl.1 rfl (Nat.le_of_ble_eq_true rfl) dX8_addPattern_117 ⟨(by show 0 + 1 + 0 ≤ 2; omega), (by show 0 + 3 + 0 ≤ 9; omega)⟩) hw (fun K117 X117 R117 H locs hp117 hw => ?_)
                    obtain ⟨⟨cK117, cX117⟩, cP117⟩ := hp117
                    have hk117 : K117 x = (1, 7) := (cK117 _ (zk1 hk110)).trans hk110
                    have hk117_1 : K117 pr = (6, 24) := (cK117 _ (zk1 hk110_1)).trans hk110_1
                    have hk117_2 : K117 pl = (7, 6) := (cK117 _ (zk1 hk110_2)).trans hk110_2
                    have hk117_3 : K117 sr = (8, 6) := (cK117 _ (zk1 hk110_3)).trans hk110_3
                    have hk117_4 : K117 dr = (1, 0) := (cK117 _ (zk1 hk110_4)).trans hk110_4
                    have hk117_5 : K117 na = (2, 4733) := (cK117 _ (zk1 hk110_5)).trans hk110_5
                    have hk117_6 : K117 q110 = (1, 2) := (cK117 _ (zk1 hk110_6)).trans hk110_6
                    have hr117 : R117 x 0 = some pr := by rw [(cX117 _ (zk1 hk110) hn110).2]; exact hr110
                    have hr117_1 : R117 x 2 = some pl := by rw [(cX117 _ (zk1 hk110) hn110).2]; exact hr110_1
                    have hr117_2 : R117 x 4 = some sr := by rw [(cX117 _ (zk1 hk110) hn110).2]; exact hr110_2
                    have hr117_3 : R117 x 6 = some dr := by rw [(cX117 _ (zk1 hk110) hn110).2]; exact hr110_3
                    have hr117_4 : R117 x 7 = some wo := by rw [(cX117 _ (zk1 hk110) hn110).2]; exact hr110_4
                    have hr117_5 : R117 dr 0 = some na := by rw [(cX117 _ (zk1 hk110_4) hn110_4).2]; exact hr110_5
                    refine zaast0 (pc := 120) hx hb hw hk117_1 hk117_6 ⟨by omega, by omega⟩ (by omega) dX8_addPattern_120 (fun H locs hw => ?_)
                    obtain ⟨R120, eR120⟩ : ∃ Y : zR, Y = up2 R117 pr x77.toNat (some q110) := ⟨_, rfl⟩
                    rw [← eR120] at hw
                    have hr120 : R120 x 0 = some pr := by rw [eR120, up2_a (zkn2 hk117 hk117_1 (by simp))]; exact hr117
                    have hr120_1 : R120 x 2 = some pl := by rw [eR120, up2_a (zkn2 hk117 hk117_1 (by simp))]; exact hr117_1
                    have hr120_2 : R120 x 4 = some sr := by rw [eR120, up2_a (zkn2 hk117 hk117_1 (by simp))]; exact hr117_2
                    have hr120_3 : R120 x 6 = some dr := by rw [eR120, up2_a (zkn2 hk117 hk117_1 (by simp))]; exact hr117_3
                    have hr120_4 : R120 x 7 = some wo := by rw [eR120, up2_a (zkn2 hk117 hk117_1 (by simp))]; exact hr117_4
                    have hr120_5 : R120 dr 0 = some na := by rw [eR120, up2_a (zkn2 hk117_4 hk117_1 (by simp))]; exact hr117_5
                    have hr120_6 : R120 pr x77.toNat = some q110 := by rw [eR120]; exact up2_s
                    refine lv_aload_n (pc := 121) hx hb dX8_addPattern_121 rfl (lv_at hl 1 rfl) ?_
                    refine lv_iload (pc := 122) hx hb dX8_addPattern_122 (lv_at hl 0 rfl) ?_
                    refine ziconst (pc := 124) (n := 1) hx hb dX8_addPattern_124 ?_
                    refine zadd (pc := 125) hx hb dX8_addPattern_125 ?_
                    refine zputI (pc := 126) hx hb hG hown hw hk117 (T := TX8) rfl 1 (by decide) rfl wf_X8_15 rfl (by decide +kernel) rfl dX8_addPattern_126 (fun H locs hw => ?_)
                    obtain ⟨X126, eX126⟩ : ∃ Y : zX, Y = up2 X117 x 1 (x77 + 1) := ⟨_, rfl⟩
                    rw [← eX126] at hw
                    refine lv_iload (pc := 129) hx hb dX8_addPattern_129 (lv_at hl 0 rfl) ?_
                    exact vx_ret (zretI (pc := 131) hx hb hlocks hr hw (by show 0 + 1 ≤ 2; omega) (by show 0 + 3 ≤ 9; omega) dX8_addPattern_131 (by 
                                        refine ⟨⟨by omega, by (unfold cdAdp; (repeat' split) <;> omega)⟩, ?_⟩
                                        have hq0 : (K q110).1 = 0 := hfq110
                                        have hx79 : x77 = i9 := by omega
                                        have hnx : x ≠ q110 := zne hk hfq110
                                        have hnp : pr ≠ q110 := zne hkpr hfq110
                                        have hxp : x ≠ pr := zkn2 hk hkpr (by simp)
                                        have gK : ∀ a9, (K a9).1 ≠ 0 → K117 a9 = K a9 := fun a9 h9 => by rw [cK117 a9 (by rw [eK110, zup_n (zfa h9 hq0)]; exact h9), eK110, zup_n (zfa h9 hq0)]
                                        have gX : ∀ a9, (K a9).1 ≠ 0 → X117 a9 = X a9 ∧ R117 a9 = Rf a9 := fun a9 h9 => by
                                          obtain ⟨g1, g2⟩ := cX117 a9 (by rw [eK110, zup_n (zfa h9 hq0)]; exact h9) (zfa h9 hq0)
                                          exact ⟨by rw [g1, eX110, zupX_n (zfa h9 hq0)], by rw [g2, eR110, zupR_n (zfa h9 hq0)]⟩
                                        have hxn : (K x).1 ≠ 0 := zk1 hk
                                        have hpn : (K pr).1 ≠ 0 := zk1 hkpr
                                        rw [hi9, Int.toNat_natCast]
                                        refine hC.pat (q := q110) hM hr0 ⟨hi9, by omega⟩ hq0 gK (fun a9 h9 hne => ?_) (fun a9 h9 hne => ?_) ?_ (fun j hj => ?_) ?_ (fun k hk9 => ?_) (by rw [cK117 q110 (by rw [eK110, zup_s]; decide), eK110, zup_s]) ?_
                                        · rw [eX126, up2_o hne]; exact (gX a9 h9).1
                                        · rw [eR120, up2_o hne]; exact (gX a9 h9).2
                                        · rw [eX126, up2_s, hx79]
                                        · rw [eX126, up2_k hj]; exact congrFun (gX x hxn).1 j
                                        · rw [eR120, hx79, Int.toNat_natCast]; exact up2_s
                                        · rw [eR120, hx79, Int.toNat_natCast, up2_k hk9]; exact congrFun (gX pr hpn).2 k
                                        · rw [eX126, up2_o (Ne.symm hnx)]; exact cP117))
                  · skip
                    exact zthrow (pc := 94) hx hb hl9 hown hG hX hw wn_X8_117 wi_javalangIllegalStateException (List.mem_of_getElem? (i := 21) rfl) zthr_121 (hl.1.trans hml.symm) ht dX8_addPattern_94 dX8_addPattern_97 dX8_addPattern_98 dX8_addPattern_100 dX8_addPattern_103 (by show 6 ≤ _; exact Nat.le_of_ble_eq_true rfl) (Nat.le_of_ble_eq_true rfl) (by show 0 + 1 ≤ 2; omega) (by show 0 + 6 ≤ 9; omega) hlocks (by (try dsimp only); first | exact ⟨rfl, (by (unfold cdAdp; (repeat' split) <;> omega))⟩ | exact Or.inl ⟨rfl, (by (unfold cdAdp; (repeat' split) <;> omega))⟩ | exact Or.inr ⟨rfl, (by (unfold cdAdp; (repeat' split) <;> omega))⟩ | exact Or.inr (Or.inl ⟨rfl, (by (unfold cdAdp; (repeat' split) <;> omega))⟩) | exact Or.inr (Or.inr ⟨rfl, (by (unfold cdAdp; (repeat' split) <;> omega))⟩)) (by show 0 + 1 ≤ 2; omega) (by show 0 + 6 ≤ 9; omega)
              · skip
                refine lv_iload_n (pc := 59) hx hb dX8_addPattern_59 rfl (lv_at hl 1 rfl) ?_
                refine zif_eq (pc := 60) hx hb 73 (by omega) dX8_addPattern_60 (by decide) (fun c60 => ?_) (fun c60 => ?_)
                · skip
                  refine lv_aload_n (pc := 73) hx hb dX8_addPattern_73 rfl (lv_at hl 0 rfl) ?_
                  refine zgetI (pc := 74) hx hb hG hown hw hk (T := TX8) rfl 1 (by decide) rfl wf_X8_15 rfl dX8_addPattern_74 ?_
                  refine ztop (fun x77 ex77 => ?_)
                  refine lv_istore (pc := 77) (lv' := [(4, .int (iI x77)), (0, .ref x), (1, .int (iI mo)), (2, .int (iI ki)), (3, .int (iI nu))]) hx hb dX8_addPattern_77 hl (by decide) rfl (fun ls hl => ?_)
                  refine lv_iload (pc := 79) hx hb dX8_addPattern_79 (lv_at hl 0 rfl) ?_
                  refine zif_lt (pc := 81) hx hb 94 (by omega) dX8_addPattern_81 (by decide) (fun c81 => ?_) (fun c81 => ?_)
                  · skip
                    exact zthrow (pc := 94) hx hb hl9 hown hG hX hw wn_X8_117 wi_javalangIllegalStateException (List.mem_of_getElem? (i := 21) rfl) zthr_121 (hl.1.trans hml.symm) ht dX8_addPattern_94 dX8_addPattern_97 dX8_addPattern_98 dX8_addPattern_100 dX8_addPattern_103 (by show 6 ≤ _; exact Nat.le_of_ble_eq_true rfl) (Nat.le_of_ble_eq_true rfl) (by show 0 + 1 ≤ 2; omega) (by show 0 + 6 ≤ 9; omega) hlocks (by (try dsimp only); first | exact ⟨rfl, (by (unfold cdAdp; (repeat' split) <;> omega))⟩ | exact Or.inl ⟨rfl, (by (unfold cdAdp; (repeat' split) <;> omega))⟩ | exact Or.inr ⟨rfl, (by (unfold cdAdp; (repeat' split) <;> omega))⟩ | exact Or.inr (Or.inl ⟨rfl, (by (unfold cdAdp; (repeat' split) <;> omega))⟩) | exact Or.inr (Or.inr ⟨rfl, (by (unfold cdAdp; (repeat' split) <;> omega))⟩)) (by show 0 + 1 ≤ 2; omega) (by show 0 + 6 ≤ 9; omega)
                  · skip
                    refine lv_iload (pc := 84) hx hb dX8_addPattern_84 (lv_at hl 0 rfl) ?_
                    refine lv_aload_n (pc := 86) hx hb dX8_addPattern_86 rfl (lv_at hl 1 rfl) ?_
                    refine zgetR (pc := 87) hx hb hG hown hw hk (T := TX8) rfl 0 (by decide) rfl wf_X8_9 rfl hr0 dX8_addPattern_87 ?_
                    refine zlen6 (pc := 90) hx hb hw hkpr dX8_addPattern_90 ?_
                    refine zicmp_lt (pc := 91) hx hb 104 (by omega) (by omega) dX8_addPattern_91 (by decide) (fun c91 => ?_) (fun c91 => ?_)
                    · skip
                      refine lv_aload_n (pc := 104) hx hb dX8_addPattern_104 rfl (lv_at hl 1 rfl) ?_
                      refine zgetR (pc := 105) hx hb hG hown hw hk (T := TX8) rfl 0 (by decide) rfl wf_X8_9 rfl hr0 dX8_addPattern_105 ?_
                      refine lv_iload (pc := 108) hx hb dX8_addPattern_108 (lv_at hl 0 rfl) ?_
                      refine znew (pc := 110) hx hb hG hown hw (T := TX3) (ci := 2) rfl wn_X8_7 wt_X3 wi_X3 (by show 0 + 1 ≤ 2; omega) (by show 0 + 3 ≤ 9; omega) dX8_addPattern_110 (fun q110 H hfq110 hw => ?_)
                      obtain ⟨K110, eK110⟩ : ∃ Y : zK, Y = zup K q110 (1, 2) := ⟨_, rfl⟩
                      obtain ⟨X110, eX110⟩ : ∃ Y : zX, Y = zupX X q110 := ⟨_, rfl⟩
                      obtain ⟨R110, eR110⟩ : ∃ Y : zR, Y = zupR Rf q110 := ⟨_, rfl⟩
                      replace hw := Wd.re hw eK110 eX110 eR110
                      have hk110 : K110 x = (1, 7) := by rw [eK110]; exact zup_k hfq110 hk (Nat.succ_ne_zero _)
                      have hn110 : x ≠ q110 := zne hk hfq110
                      have hk110_1 : K110 pr = (6, 24) := by rw [eK110]; exact zup_k hfq110 hkpr (Nat.succ_ne_zero _)
                      have hn110_1 : pr ≠ q110 := zne hkpr hfq110
                      have hk110_2 : K110 pl = (7, 6) := by rw [eK110]; exact zup_k hfq110 hkpl (Nat.succ_ne_zero _)
                      have hn110_2 : pl ≠ q110 := zne hkpl hfq110
                      have hk110_3 : K110 sr = (8, 6) := by rw [eK110]; exact zup_k hfq110 hksr (Nat.succ_ne_zero _)
                      have hn110_3 : sr ≠ q110 := zne hksr hfq110
                      have hk110_4 : K110 dr = (1, 0) := by rw [eK110]; exact zup_k hfq110 hkdr (Nat.succ_ne_zero _)
                      have hn110_4 : dr ≠ q110 := zne hkdr hfq110
                      have hk110_5 : K110 na = (2, 4733) := by rw [eK110]; exact zup_k hfq110 hkna (Nat.succ_ne_zero _)
                      have hn110_5 : na ≠ q110 := zne hkna hfq110
                      have hk110_6 : K110 q110 = (1, 2) := by rw [eK110]; exact zup_s
                      have hr110 : R110 x 0 = some pr := by rw [eR110, zupR_n hn110]; exact hr0
                      have hr110_1 : R110 x 2 = some pl := by rw [eR110, zupR_n hn110]; exact hr2
                      have hr110_2 : R110 x 4 = some sr := by rw [eR110, zupR_n hn110]; exact hr4
                      have hr110_3 : R110 x 6 = some dr := by rw [eR110, zupR_n hn110]; exact hr6
                      have hr110_4 : R110 x 7 = some wo := by rw [eR110, zupR_n hn110]; exact hr7
                      have hr110_5 : R110 dr 0 = some na := by rw [eR110, zupR_n hn110_4]; exact hrd
                      refine lv_dup (pc := 113) hx hb dX8_addPattern_113 rfl ?_
                      refine lv_iload_n (pc := 114) hx hb dX8_addPattern_114 rfl (lv_at hl 2 rfl) ?_
                      refine lv_iload_n (pc := 115) hx hb dX8_addPattern_115 rfl (lv_at hl 3 rfl) ?_
                      refine lv_iload_n (pc := 116) hx hb dX8_addPattern_116 rfl (lv_at hl 4 rfl) ?_
                      refine zkV (pc := 117) (zrI (As := [.int (iI mo), .int (iI ki), .int (iI nu)]) hx hb hml hown hG hw (c_X3_init l Γ K110 X110 R110 q110 mo ki nu  (by (first | assumption | omega))) cb_X3_init wl_X8_122 rfl ⟨Nat.le_of_ble_eq_true rfl, Nat.le_of_ble_eq_true rfl⟩ hl.1 rfl (Nat.le_of_ble_eq_true rfl) dX8_addPattern_117 ⟨(by show 0 + 1 + 0 ≤ 2; omega), (by show 0 + 3 + 0 ≤ 9; omega)⟩) hw (fun K117 X117 R117 H locs hp117 hw => ?_)
                      obtain ⟨⟨cK117, cX117⟩, cP117⟩ := hp117
                      have hk117 : K117 x = (1, 7) := (cK117 _ (zk1 hk110)).trans hk110
                      have hk117_1 : K117 pr = (6, 24) := (cK117 _ (zk1 hk110_1)).trans hk110_1
                      have hk117_2 : K117 pl = (7, 6) := (cK117 _ (zk1 hk110_2)).trans hk110_2
                      have hk117_3 : K117 sr = (8, 6) := (cK117 _ (zk1 hk110_3)).trans hk110_3
                      have hk117_4 : K117 dr = (1, 0) := (cK117 _ (zk1 hk110_4)).trans hk110_4
                      have hk117_5 : K117 na = (2, 4733) := (cK117 _ (zk1 hk110_5)).trans hk110_5
                      have hk117_6 : K117 q110 = (1, 2) := (cK117 _ (zk1 hk110_6)).trans hk110_6
                      have hr117 : R117 x 0 = some pr := by rw [(cX117 _ (zk1 hk110) hn110).2]; exact hr110
                      have hr117_1 : R117 x 2 = some pl := by rw [(cX117 _ (zk1 hk110) hn110).2]; exact hr110_1
                      have hr117_2 : R117 x 4 = some sr := by rw [(cX117 _ (zk1 hk110) hn110).2]; exact hr110_2
                      have hr117_3 : R117 x 6 = some dr := by rw [(cX117 _ (zk1 hk110) hn110).2]; exact hr110_3
                      have hr117_4 : R117 x 7 = some wo := by rw [(cX117 _ (zk1 hk110) hn110).2]; exact hr110_4
                      have hr117_5 : R117 dr 0 = some na := by rw [(cX117 _ (zk1 hk110_4) hn110_4).2]; exact hr110_5
                      refine zaast0 (pc := 120) hx hb hw hk117_1 hk117_6 ⟨by omega, by omega⟩ (by omega) dX8_addPattern_120 (fun H locs hw => ?_)
                      obtain ⟨R120, eR120⟩ : ∃ Y : zR, Y = up2 R117 pr x77.toNat (some q110) := ⟨_, rfl⟩
                      rw [← eR120] at hw
                      have hr120 : R120 x 0 = some pr := by rw [eR120, up2_a (zkn2 hk117 hk117_1 (by simp))]; exact hr117
                      have hr120_1 : R120 x 2 = some pl := by rw [eR120, up2_a (zkn2 hk117 hk117_1 (by simp))]; exact hr117_1
                      have hr120_2 : R120 x 4 = some sr := by rw [eR120, up2_a (zkn2 hk117 hk117_1 (by simp))]; exact hr117_2
                      have hr120_3 : R120 x 6 = some dr := by rw [eR120, up2_a (zkn2 hk117 hk117_1 (by simp))]; exact hr117_3
                      have hr120_4 : R120 x 7 = some wo := by rw [eR120, up2_a (zkn2 hk117 hk117_1 (by simp))]; exact hr117_4
                      have hr120_5 : R120 dr 0 = some na := by rw [eR120, up2_a (zkn2 hk117_4 hk117_1 (by simp))]; exact hr117_5
                      have hr120_6 : R120 pr x77.toNat = some q110 := by rw [eR120]; exact up2_s
                      refine lv_aload_n (pc := 121) hx hb dX8_addPattern_121 rfl (lv_at hl 1 rfl) ?_
                      refine lv_iload (pc := 122) hx hb dX8_addPattern_122 (lv_at hl 0 rfl) ?_
                      refine ziconst (pc := 124) (n := 1) hx hb dX8_addPattern_124 ?_
                      refine zadd (pc := 125) hx hb dX8_addPattern_125 ?_
                      refine zputI (pc := 126) hx hb hG hown hw hk117 (T := TX8) rfl 1 (by decide) rfl wf_X8_15 rfl (by decide +kernel) rfl dX8_addPattern_126 (fun H locs hw => ?_)
                      obtain ⟨X126, eX126⟩ : ∃ Y : zX, Y = up2 X117 x 1 (x77 + 1) := ⟨_, rfl⟩
                      rw [← eX126] at hw
                      refine lv_iload (pc := 129) hx hb dX8_addPattern_129 (lv_at hl 0 rfl) ?_
                      exact vx_ret (zretI (pc := 131) hx hb hlocks hr hw (by show 0 + 1 ≤ 2; omega) (by show 0 + 3 ≤ 9; omega) dX8_addPattern_131 (by 
                                        refine ⟨⟨by omega, by (unfold cdAdp; (repeat' split) <;> omega)⟩, ?_⟩
                                        have hq0 : (K q110).1 = 0 := hfq110
                                        have hx79 : x77 = i9 := by omega
                                        have hnx : x ≠ q110 := zne hk hfq110
                                        have hnp : pr ≠ q110 := zne hkpr hfq110
                                        have hxp : x ≠ pr := zkn2 hk hkpr (by simp)
                                        have gK : ∀ a9, (K a9).1 ≠ 0 → K117 a9 = K a9 := fun a9 h9 => by rw [cK117 a9 (by rw [eK110, zup_n (zfa h9 hq0)]; exact h9), eK110, zup_n (zfa h9 hq0)]
                                        have gX : ∀ a9, (K a9).1 ≠ 0 → X117 a9 = X a9 ∧ R117 a9 = Rf a9 := fun a9 h9 => by
                                          obtain ⟨g1, g2⟩ := cX117 a9 (by rw [eK110, zup_n (zfa h9 hq0)]; exact h9) (zfa h9 hq0)
                                          exact ⟨by rw [g1, eX110, zupX_n (zfa h9 hq0)], by rw [g2, eR110, zupR_n (zfa h9 hq0)]⟩
                                        have hxn : (K x).1 ≠ 0 := zk1 hk
                                        have hpn : (K pr).1 ≠ 0 := zk1 hkpr
                                        rw [hi9, Int.toNat_natCast]
                                        refine hC.pat (q := q110) hM hr0 ⟨hi9, by omega⟩ hq0 gK (fun a9 h9 hne => ?_) (fun a9 h9 hne => ?_) ?_ (fun j hj => ?_) ?_ (fun k hk9 => ?_) (by rw [cK117 q110 (by rw [eK110, zup_s]; decide), eK110, zup_s]) ?_
                                        · rw [eX126, up2_o hne]; exact (gX a9 h9).1
                                        · rw [eR120, up2_o hne]; exact (gX a9 h9).2
                                        · rw [eX126, up2_s, hx79]
                                        · rw [eX126, up2_k hj]; exact congrFun (gX x hxn).1 j
                                        · rw [eR120, hx79, Int.toNat_natCast]; exact up2_s
                                        · rw [eR120, hx79, Int.toNat_natCast, up2_k hk9]; exact congrFun (gX pr hpn).2 k
                                        · rw [eX126, up2_o (Ne.symm hnx)]; exact cP117))
                    · skip
                      exact zthrow (pc := 94) hx hb hl9 hown hG hX hw wn_X8_117 wi_javalangIllegalStateException (List.mem_of_getElem? (i := 21) rfl) zthr_121 (hl.1.trans hml.symm) ht dX8_addPattern_94 dX8_addPattern_97 dX8_addPattern_98 dX8_addPattern_100 dX8_addPattern_103 (by show 6 ≤ _; exact Nat.le_of_ble_eq_true rfl) (Nat.le_of_ble_eq_true rfl) (by show 0 + 1 ≤ 2; omega) (by show 0 + 6 ≤ 9; omega) hlocks (by (try dsimp only); first | exact ⟨rfl, (by (unfold cdAdp; (repeat' split) <;> omega))⟩ | exact Or.inl ⟨rfl, (by (unfold cdAdp; (repeat' split) <;> omega))⟩ | exact Or.inr ⟨rfl, (by (unfold cdAdp; (repeat' split) <;> omega))⟩ | exact Or.inr (Or.inl ⟨rfl, (by (unfold cdAdp; (repeat' split) <;> omega))⟩) | exact Or.inr (Or.inr ⟨rfl, (by (unfold cdAdp; (repeat' split) <;> omega))⟩)) (by show 0 + 1 ≤ 2; omega) (by show 0 + 6 ≤ 9; omega)
                · skip
                  exact zthrow (pc := 63) hx hb hl9 hown hG hX hw wn_X8_56 wi_javalangIllegalArgumentException (List.mem_of_getElem? (i := 20) rfl) zthr_60 (hl.1.trans hml.symm) ht dX8_addPattern_63 dX8_addPattern_66 dX8_addPattern_67 dX8_addPattern_69 dX8_addPattern_72 (by show 6 ≤ _; exact Nat.le_of_ble_eq_true rfl) (Nat.le_of_ble_eq_true rfl) (by show 0 + 1 ≤ 2; omega) (by show 0 + 6 ≤ 9; omega) hlocks (by (try dsimp only); first | exact ⟨rfl, (by (unfold cdAdp; (repeat' split) <;> omega))⟩ | exact Or.inl ⟨rfl, (by (unfold cdAdp; (repeat' split) <;> omega))⟩ | exact Or.inr ⟨rfl, (by (unfold cdAdp; (repeat' split) <;> omega))⟩ | exact Or.inr (Or.inl ⟨rfl, (by (unfold cdAdp; (repeat' split) <;> omega))⟩) | exact Or.inr (Or.inr ⟨rfl, (by (unfold cdAdp; (repeat' split) <;> omega))⟩)) (by show 0 + 1 ≤ 2; omega) (by show 0 + 6 ≤ 9; omega)
            · skip
              exact zthrow (pc := 43) hx hb hl9 hown hG hX hw wn_X8_56 wi_javalangIllegalArgumentException (List.mem_of_getElem? (i := 19) rfl) zthr_60 (hl.1.trans hml.symm) ht dX8_addPattern_43 dX8_addPattern_46 dX8_addPattern_47 dX8_addPattern_49 dX8_addPattern_52 (by show 6 ≤ _; exact Nat.le_of_ble_eq_true rfl) (Nat.le_of_ble_eq_true rfl) (by show 0 + 1 ≤ 2; omega) (by show 0 + 6 ≤ 9; omega) hlocks (by (try dsimp only); first | exact ⟨rfl, (by (unfold cdAdp; (repeat' split) <;> omega))⟩ | exact Or.inl ⟨rfl, (by (unfold cdAdp; (repeat' split) <;> omega))⟩ | exact Or.inr ⟨rfl, (by (unfold cdAdp; (repeat' split) <;> omega))⟩ | exact Or.inr (Or.inl ⟨rfl, (by (unfold cdAdp; (repeat' split) <;> omega))⟩) | exact Or.inr (Or.inr ⟨rfl, (by (unfold cdAdp; (repeat' split) <;> omega))⟩)) (by show 0 + 1 ≤ 2; omega) (by show 0 + 6 ≤ 9; omega)
        · skip
          exact zthrow (pc := 20) hx hb hl9 hown hG hX hw wn_X8_56 wi_javalangIllegalArgumentException (List.mem_of_getElem? (i := 18) rfl) zthr_60 (hl.1.trans hml.symm) ht dX8_addPattern_20 dX8_addPattern_23 dX8_addPattern_24 dX8_addPattern_26 dX8_addPattern_29 (by show 6 ≤ _; exact Nat.le_of_ble_eq_true rfl) (Nat.le_of_ble_eq_true rfl) (by show 0 + 1 ≤ 2; omega) (by show 0 + 6 ≤ 9; omega) hlocks (by (try dsimp only); first | exact ⟨rfl, (by (unfold cdAdp; (repeat' split) <;> omega))⟩ | exact Or.inl ⟨rfl, (by (unfold cdAdp; (repeat' split) <;> omega))⟩ | exact Or.inr ⟨rfl, (by (unfold cdAdp; (repeat' split) <;> omega))⟩ | exact Or.inr (Or.inl ⟨rfl, (by (unfold cdAdp; (repeat' split) <;> omega))⟩) | exact Or.inr (Or.inr ⟨rfl, (by (unfold cdAdp; (repeat' split) <;> omega))⟩)) (by show 0 + 1 ≤ 2; omega) (by show 0 + 6 ≤ 9; omega)
set_option maxHeartbeats 4000000 in
set_option maxRecDepth 100000 in
theorem c_X8_usePattern (l : Launch) (hl9 : l.stackTraces = false) (Γ : zG) (K : zK) (X : zX) (Rf : zR) (x : Nat) (a : Int) (b9 : Int) (ρ : zL) (M : zM) (hC : repC ρ K X Rf x M) (hM : okM M) (h1 : fit a ∧ fit b9) : Cx l yX8_usePattern cX8_usePattern 6 (some .int) 7 3 18 Γ [.ref x, .int (iI a), .int (iI b9)] K X Rf (pI (fun (r : Int) (K' : zK) (X' : zX) (R' : zR) => (r = serM M a.toNat 9 + 1 ∧ cdUse M a b9 = 0) ∧ ∃ ρ', repC ρ' K' X' R' x (usaM M a.toNat b9) ∧ frC ρ K X Rf ρ' K' X' R')) (fun E : String => (E = "java/lang/IndexOutOfBoundsException" ∧ cdUse M a b9 = 1) ∨ (E = "java/lang/IllegalStateException" ∧ cdUse M a b9 = 2)) := by
  refine Cx.of (by decide +kernel) (Nat.le_of_ble_eq_true rfl) ?_
  intro p e s m below meth c ls hx hb hr hml hown hG hlocks hname ht hX hw hl
  have hl : lv_has ls 6 [(0, .ref x), (1, .int (iI a)), (2, .int (iI b9))] := hl
  obtain ⟨⟨hk, hlx⟩, pr, pl, sr, dr, na, wo, ⟨hr0, hr2, hr4, hr6, hr7, hrd⟩, ⟨hkpr, hkpl, hksr, hkdr, hkna⟩, ⟨hlpr, hlpl, hlsr, hldr, hlna⟩, ⟨hx1, hx3, hx5⟩, hpt, hpl, hse, hwo⟩ := id hC
  obtain ⟨⟨hb1, hb2, hb3, hb4⟩, hokP, hokL, hokS, hokW, hokF⟩ := id hM
  refine lv_aload_n (pc := 0) hx hb dX8_usePattern_0 rfl (lv_at hl 0 rfl) ?_
  refine lv_iload_n (pc := 1) hx hb dX8_usePattern_1 rfl (lv_at hl 1 rfl) ?_
  refine zxkRp (pc := 2) (zxrV (As := [.int (iI a)]) hx hb hml hown hG hX hw (c_X8_needSeries l hl9 Γ K X Rf x a sr pl (ρ) M (by (first | assumption | omega)) (by (first | assumption | omega)) (by (first | assumption | omega)) (by (first | assumption | omega)) (by (first | assumption | omega)) (by (first | assumption | omega))) (T := TX8) hk rfl cb_X8_needSeries wl_X8_214 rfl ⟨Nat.le_of_ble_eq_true rfl, Nat.le_of_ble_eq_true rfl⟩ hl.1 rfl (Nat.le_of_ble_eq_true rfl) dX8_usePattern_2 ⟨(by show 0 + 1 ≤ 3; omega), (by show 0 + 6 ≤ 18; omega)⟩) hw (fun E9 ce9 q9 H9 locs9 hxp9 hw9 hce9 hcv9 hcl9 => zxout (pc := 2) ht hlocks hw9 hce9 hcv9 hcl9 (by (obtain ⟨rfl, hq9⟩ := hxp9; (try dsimp only); first | exact ⟨rfl, (by (unfold cdUse; (repeat' split) <;> omega))⟩ | exact Or.inl ⟨rfl, (by (unfold cdUse; (repeat' split) <;> omega))⟩ | exact Or.inr ⟨rfl, (by (unfold cdUse; (repeat' split) <;> omega))⟩ | exact Or.inr (Or.inl ⟨rfl, (by (unfold cdUse; (repeat' split) <;> omega))⟩))) (by show 0 + 1 ≤ 3; omega) (by show 0 + 6 ≤ 18; omega)) (fun r2 H locs hp2 hw => ?_)
  obtain ⟨⟨hrs2, p02, hrp2, ⟨hks2, hls2⟩, po2, eo2, fo2, ⟨hr02, hr82, hr132, hr152⟩, ⟨hkpo2, hkeo2, hkfo2⟩, ⟨hlpo2, hleo2, hlfo2⟩, hD2, hS2, hU2, hUs2, hE2, hdt2⟩, his2⟩ := hp2
  have hdq2 : dtR X r2 fo2 (datM M (a).toNat) := hdt2
  have hdn2 := hdq2.1
  have hdm2 := hdq2.2.1
  have hsb2 : X r2 1 = serM M (a).toNat 1 := hD2.1.1
  have hsd2 : 0 ≤ serM M (a).toNat 1 ∧ serM M (a).toNat 1 ≤ 105190559 := hS2.1
  have hoS := (hokS a.toNat (by omega)).1
  have hsn : X r2 9 = serM M a.toNat 9 := hD2.2.1
  have hm9 : 0 ≤ serM M a.toNat 9 ∧ serM M a.toNat 9 ≤ 4 := by omega
  refine lv_astore_n (pc := 5) (lv' := [(3, .ref r2), (0, .ref x), (1, .int (iI a)), (2, .int (iI b9))]) hx hb dX8_usePattern_5 rfl hl (by decide) rfl (fun ls hl => ?_)
  refine lv_aload_n (pc := 6) hx hb dX8_usePattern_6 rfl (lv_at hl 1 rfl) ?_
  refine lv_iload_n (pc := 7) hx hb dX8_usePattern_7 rfl (lv_at hl 3 rfl) ?_
  refine zxkRp (pc := 8) (zxrV (As := [.int (iI b9)]) hx hb hml hown hG hX hw (c_X8_needPattern l hl9 Γ K X Rf x b9 pr M (by (first | assumption | omega)) (by (first | assumption | omega)) (by (first | assumption | omega)) (by (first | assumption | omega)) (by (first | assumption | omega)) (by (first | assumption | omega))) (T := TX8) hk rfl cb_X8_needPattern wl_X8_125 rfl ⟨Nat.le_of_ble_eq_true rfl, Nat.le_of_ble_eq_true rfl⟩ hl.1 rfl (Nat.le_of_ble_eq_true rfl) dX8_usePattern_8 ⟨(by show 0 + 1 + 1 ≤ 3; omega), (by show 0 + 6 + 6 ≤ 18; omega)⟩) hw (fun E9 ce9 q9 H9 locs9 hxp9 hw9 hce9 hcv9 hcl9 => zxout (pc := 8) ht hlocks hw9 hce9 hcv9 hcl9 (by (obtain ⟨rfl, hq9⟩ := hxp9; (try dsimp only); first | exact ⟨rfl, (by (unfold cdUse; (repeat' split) <;> omega))⟩ | exact Or.inl ⟨rfl, (by (unfold cdUse; (repeat' split) <;> omega))⟩ | exact Or.inr ⟨rfl, (by (unfold cdUse; (repeat' split) <;> omega))⟩ | exact Or.inr (Or.inl ⟨rfl, (by (unfold cdUse; (repeat' split) <;> omega))⟩))) (by show 0 + 1 + 1 ≤ 3; omega) (by show 0 + 6 + 6 ≤ 18; omega)) (fun r8 H locs hp8 hw => ?_)
  obtain ⟨⟨hra8, hka8, hsa8⟩, hia8⟩ := hp8
  refine lv_astore (pc := 11) (lv' := [(4, .ref r8), (3, .ref r2), (0, .ref x), (1, .int (iI a)), (2, .int (iI b9))]) hx hb dX8_usePattern_11 hl (by decide) rfl (fun ls hl => ?_)
  refine lv_aload_n (pc := 13) hx hb dX8_usePattern_13 rfl (lv_at hl 1 rfl) ?_
  refine zgetI (pc := 14) hx hb hG hown hw hks2 (T := TX5) rfl 9 (by decide) rfl wf_X8_218 rfl dX8_usePattern_14 ?_
  refine ztop (fun x17 ex17 => ?_)
  refine lv_istore (pc := 17) (lv' := [(5, .int (iI x17)), (4, .ref r8), (3, .ref r2), (0, .ref x), (1, .int (iI a)), (2, .int (iI b9))]) hx hb dX8_usePattern_17 hl (by decide) rfl (fun ls hl => ?_)
  refine lv_iload (pc := 19) hx hb dX8_usePattern_19 (lv_at hl 0 rfl) ?_
  refine zif_lt (pc := 21) hx hb 34 (by omega) dX8_usePattern_21 (by decide) (fun c21 => ?_) (fun c21 => ?_)
  · skip
    exact zthrow (pc := 34) hx hb hl9 hown hG hX hw wn_X8_117 wi_javalangIllegalStateException (List.mem_of_getElem? (i := 13) rfl) zthr_121 (hl.1.trans hml.symm) ht dX8_usePattern_34 dX8_usePattern_37 dX8_usePattern_38 dX8_usePattern_40 dX8_usePattern_43 (by show 6 ≤ _; exact Nat.le_of_ble_eq_true rfl) (Nat.le_of_ble_eq_true rfl) (by show 0 + 1 + 1 + 1 ≤ 3; omega) (by show 0 + 6 + 6 + 6 ≤ 18; omega) hlocks (by (try dsimp only); first | exact ⟨rfl, (by (unfold cdUse; (repeat' split) <;> omega))⟩ | exact Or.inl ⟨rfl, (by (unfold cdUse; (repeat' split) <;> omega))⟩ | exact Or.inr ⟨rfl, (by (unfold cdUse; (repeat' split) <;> omega))⟩ | exact Or.inr (Or.inl ⟨rfl, (by (unfold cdUse; (repeat' split) <;> omega))⟩) | exact Or.inr (Or.inr ⟨rfl, (by (unfold cdUse; (repeat' split) <;> omega))⟩)) (by show 0 + 1 + 1 + 1 ≤ 3; omega) (by show 0 + 6 + 6 + 6 ≤ 18; omega)
  · skip
    refine lv_iload (pc := 24) hx hb dX8_usePattern_24 (lv_at hl 0 rfl) ?_
    refine lv_aload_n (pc := 26) hx hb dX8_usePattern_26 rfl (lv_at hl 2 rfl) ?_
    refine zgetR (pc := 27) hx hb hG hown hw hks2 (T := TX5) rfl 8 (by decide) rfl wf_X8_219 rfl hr82 dX8_usePattern_27 ?_
    refine zlen6 (pc := 30) hx hb hw hkpo2 dX8_usePattern_30 ?_
    refine zicmp_lt (pc := 31) hx hb 44 (by omega) (by omega) dX8_usePattern_31 (by decide) (fun c31 => ?_) (fun c31 => ?_)
    · skip
      refine lv_aload_n (pc := 44) hx hb dX8_usePattern_44 rfl (lv_at hl 2 rfl) ?_
      refine zgetR (pc := 45) hx hb hG hown hw hks2 (T := TX5) rfl 8 (by decide) rfl wf_X8_219 rfl hr82 dX8_usePattern_45 ?_
      refine lv_iload (pc := 48) hx hb dX8_usePattern_48 (lv_at hl 0 rfl) ?_
      refine lv_aload (pc := 50) hx hb dX8_usePattern_50 (lv_at hl 1 rfl) ?_
      refine zaast0 (pc := 52) hx hb hw hkpo2 hka8 ⟨by omega, by omega⟩ (by omega) dX8_usePattern_52 (fun H locs hw => ?_)
      obtain ⟨R52, eR52⟩ : ∃ Y : zR, Y = up2 Rf po2 x17.toNat (some r8) := ⟨_, rfl⟩
      rw [← eR52] at hw
      have hr52 : R52 x 0 = some pr := by rw [eR52, up2_a (zkn2 hk hkpo2 (by simp))]; exact hr0
      have hr52_1 : R52 x 2 = some pl := by rw [eR52, up2_a (zkn2 hk hkpo2 (by simp))]; exact hr2
      have hr52_2 : R52 x 4 = some sr := by rw [eR52, up2_a (zkn2 hk hkpo2 (by simp))]; exact hr4
      have hr52_3 : R52 x 6 = some dr := by rw [eR52, up2_a (zkn2 hk hkpo2 (by simp))]; exact hr6
      have hr52_4 : R52 x 7 = some wo := by rw [eR52, up2_a (zkn2 hk hkpo2 (by simp))]; exact hr7
      have hr52_5 : R52 dr 0 = some na := by rw [eR52, up2_a (zkn2 hkdr hkpo2 (by simp))]; exact hrd
      have hr52_6 : R52 r2 0 = some p02 := by rw [eR52, up2_a (zkn2 hks2 hkpo2 (by simp))]; exact hr02
      have hr52_7 : R52 r2 8 = some po2 := by rw [eR52, up2_a (zkn2 hks2 hkpo2 (by simp))]; exact hr82
      have hr52_8 : R52 r2 13 = some eo2 := by rw [eR52, up2_a (zkn2 hks2 hkpo2 (by simp))]; exact hr132
      have hr52_9 : R52 r2 15 = some fo2 := by rw [eR52, up2_a (zkn2 hks2 hkpo2 (by simp))]; exact hr152
      have hr52_10 : R52 po2 x17.toNat = some r8 := by rw [eR52]; exact up2_s
      refine lv_aload_n (pc := 53) hx hb dX8_usePattern_53 rfl (lv_at hl 2 rfl) ?_
      refine lv_iload (pc := 54) hx hb dX8_usePattern_54 (lv_at hl 0 rfl) ?_
      refine ziconst (pc := 56) (n := 1) hx hb dX8_usePattern_56 ?_
      refine zadd (pc := 57) hx hb dX8_usePattern_57 ?_
      refine zputI (pc := 58) hx hb hG hown hw hks2 (T := TX5) rfl 9 (by decide) rfl wf_X8_218 rfl (by decide +kernel) rfl dX8_usePattern_58 (fun H locs hw => ?_)
      obtain ⟨X58, eX58⟩ : ∃ Y : zX, Y = up2 X r2 9 (x17 + 1) := ⟨_, rfl⟩
      rw [← eX58] at hw
      obtain ⟨M2, hM2⟩ : ∃ M2, M2 = usaM M a.toNat b9 := ⟨_, rfl⟩
      have hsj : ∀ j, serM M2 a.toNat j = if j = 9 then serM M a.toNat 9 + 1 else serM M a.toNat j := fun j => by rw [hM2]; exact usaM_ser j
      have hs0z : serM M2 a.toNat 0 = serM M a.toNat 0 := by rw [hsj, if_neg (by decide)]
      have hs1z : serM M2 a.toNat 1 = serM M a.toNat 1 := by rw [hsj, if_neg (by decide)]
      have hs2z : serM M2 a.toNat 2 = serM M a.toNat 2 := by rw [hsj, if_neg (by decide)]
      have hs3z : serM M2 a.toNat 3 = serM M a.toNat 3 := by rw [hsj, if_neg (by decide)]
      have hs4z : serM M2 a.toNat 4 = serM M a.toNat 4 := by rw [hsj, if_neg (by decide)]
      have hs5z : serM M2 a.toNat 5 = serM M a.toNat 5 := by rw [hsj, if_neg (by decide)]
      have hs6z : serM M2 a.toNat 6 = serM M a.toNat 6 := by rw [hsj, if_neg (by decide)]
      have hs7z : serM M2 a.toNat 7 = serM M a.toNat 7 := by rw [hsj, if_neg (by decide)]
      have hs8z : serM M2 a.toNat 8 = serM M a.toNat 8 := by rw [hsj, if_neg (by decide)]
      have hs9z : serM M2 a.toNat 9 = serM M a.toNat 9 + 1 := by rw [hsj, if_pos rfl]
      have hs10z : serM M2 a.toNat 10 = serM M a.toNat 10 := by rw [hsj, if_neg (by decide)]
      have hbdz : bdS (serM M2 a.toNat) = bdS (serM M a.toNat) := by unfold bdS; rw [hs1z]
      have hoz : okS (serM M2 a.toNat) := by omega
      have hnez1 : eo2 ≠ r2 := zkne hkeo2 hks2 (by simp)
      have hnez2 : po2 ≠ r2 := zkne hkpo2 hks2 (by simp)
      have hpnz : ∀ a9, K a9 = (1, 2) → X58 a9 = X a9 := fun a9 h9 => by rw [eX58, up2_o (not_k2 hks2 (by simp) h9)]
      have hDz : serD (X58 r2) (serM M2 a.toNat) := serD_upd hD2 hs1z hs2z hs3z hs4z hs8z (by rw [eX58, up2_s, hs9z]; omega) (by rw [eX58, up2_k (by decide), hs5z]; exact hD2.2.2.1) (by rw [eX58, up2_k (by decide), hs6z]; exact hD2.2.2.2.1) (by rw [eX58, up2_k (by decide), hs7z]; exact hD2.2.2.2.2.1) (by rw [eX58, up2_k (by decide), hs10z]; exact hD2.2.2.2.2.2) (fun q9 h9 => by rw [eX58, up2_k (by omega)])
      have hoa8 := okP_same hsa8 (hokP b9.toNat (by omega))
      have hUz : upOK K X58 R52 po2 (serM M2 a.toNat) (useM M2 a.toNat) := fun k9 h9 => by
        rw [hM2, usaM_use ⟨hm9.1, by omega⟩ k9, eR52]
        by_cases g : k9 = (serM M a.toNat 9).toNat
        · exact ⟨r8, by rw [show x17.toNat = k9 by omega, up2_s], hka8, by rw [hpnz r8 hka8]; exact hoa8, by rw [if_pos g, hpnz r8 hka8]; exact hsa8⟩
        · obtain ⟨pa9, g1, g2, g3, g4⟩ := hU2 k9 (by omega)
          exact ⟨pa9, by rw [up2_k (by omega)]; exact g1, g2, by rw [hpnz pa9 g2]; exact g3, by rw [if_neg g, hpnz pa9 g2]; exact g4⟩
      have hUsz : usOK K X58 R52 r2 (serM M2 a.toNat) := usOK_upd hUs2 hs1z hs2z hpnz (by rw [eR52, up2_o (Ne.symm hnez2)])
      have hex : excM M2 a.toNat = excM M a.toNat := by rw [hM2]; exact usaM_exc
      have hEz : ∀ k9 : Nat, (k9 : Int) < serM M2 a.toNat 10 → X58 eo2 k9 = excM M2 a.toNat k9 ∧ 0 ≤ excM M2 a.toNat k9 ∧ excM M2 a.toNat k9 ≤ 73048 := fun k9 h9 => by rw [hex, eX58, up2_o hnez1]; exact hE2 k9 (by omega)
      refine lv_aload_n (pc := 61) hx hb dX8_usePattern_61 rfl (lv_at hl 2 rfl) ?_
      refine lv_aload_n (pc := 62) hx hb dX8_usePattern_62 rfl (lv_at hl 3 rfl) ?_
      refine zgetR (pc := 63) hx hb hG hown hw hk (T := TX8) rfl 6 (by decide) rfl wf_X8_42 rfl hr52_3 dX8_usePattern_63 ?_
      refine zkVx (pc := 66) (zrV (As := [.ref dr]) hx hb hml hown hG hw (c_X5_findDates l Γ K X58 R52 r2 dr (serM M2 a.toNat) (useM M2 a.toNat) (excM M2 a.toNat) po2 eo2 fo2 na (by (first | assumption | omega)) (by (first | assumption | omega)) (by (first | assumption | omega)) (by (first | assumption | omega)) (by (first | assumption | omega)) (by (first | assumption | omega)) (by (first | assumption | omega)) (by (first | assumption | omega)) (by (first | assumption | omega)) (by (first | assumption | omega)) (by (first | assumption | omega)) (by (first | assumption | omega)) (by (first | assumption | omega)) (by (first | assumption | omega)) (by (first | assumption | omega))) (T := TX5) hks2 rfl cb_X5_findDates wl_X8_210 rfl ⟨Nat.le_of_ble_eq_true rfl, Nat.le_of_ble_eq_true rfl⟩ hl.1 rfl (Nat.le_of_ble_eq_true rfl) dX8_usePattern_66 ⟨(by show 0 + 1 + 1 + 0 ≤ 3; omega), (by show 0 + 6 + 6 + 0 ≤ 18; omega)⟩) hw (fun X66 H locs hp66 hw => ?_)
      refine lv_iload (pc := 69) hx hb dX8_usePattern_69 (lv_at hl 0 rfl) ?_
      refine ziconst (pc := 71) (n := 1) hx hb dX8_usePattern_71 ?_
      refine zadd (pc := 72) hx hb dX8_usePattern_72 ?_
      exact vx_ret (zretI (pc := 73) hx hb hlocks hr hw (by show 0 + 1 + 1 ≤ 3; omega) (by show 0 + 6 + 6 ≤ 18; omega) dX8_usePattern_73 (by 
                                        refine ⟨⟨by omega, by (unfold cdUse; (repeat' split) <;> omega)⟩, ?_⟩
                                        rw [← hM2]
                                        have hRr : R52 r2 = Rf r2 := by rw [eR52, up2_o (Ne.symm hnez2)]
                                        obtain ⟨hrp9, hoo9, hqq9⟩ := hp66
                                        have hnf : r2 ≠ fo2 := zkne hks2 hkfo2 (by simp)
                                        have hnd : r2 ≠ dr := zkn2 hks2 hkdr (by simp)
                                        have hnn : r2 ≠ na := zkne hks2 hkna (by simp)
                                        refine hC.ser (n := a.toNat) hr4 (by omega) hrs2 hr6 hrd hr82 hr132 hr152 (fun a9 g1 g2 g3 g4 g5 g6 => ⟨by rw [hoo9 a9 g1 g2 g3 g4, eX58, up2_o g1], by rw [eR52, up2_o g6]⟩) (by rw [eR52, up2_o (zkn2 hkdr hkpo2 (by simp))]) (fun f g1 g2 g3 => by rw [hM2]; exact usaM_f g1 g2) (fun k9 g => by rw [hM2]; exact usaM_oth g ⟨hm9.1, by omega⟩) hs0z (fun p9 g => ?_)
                                        have hne2 : eo2 ≠ fo2 := zkn2 hkeo2 hkfo2 (by simp)
                                        have hne3 : eo2 ≠ dr := zkne hkeo2 hkdr (by simp)
                                        have hne4 : eo2 ≠ na := zkn2 hkeo2 hkna (by simp)
                                        exact seA_new (Rf := R52) ⟨hks2, hls2⟩ ⟨by rw [hRr]; exact g, by rw [hRr]; exact hr82, by rw [hRr]; exact hr132, by rw [hRr]; exact hr152⟩ ⟨hkpo2, hkeo2, hkfo2⟩ ⟨hlpo2, hleo2, hlfo2⟩ hDz hoz hUz hUsz hEz (fun a9 h9 => hoo9 a9 (not_k2 hks2 (by simp) h9) (not_k2 hkfo2 (by simp) h9) (not_k2 hkdr (by simp) h9) (not_k2 hkna (by simp) h9)) (hoo9 eo2 hnez1 hne2 hne3 hne4) hqq9 hrp9))
    · skip
      exact zthrow (pc := 34) hx hb hl9 hown hG hX hw wn_X8_117 wi_javalangIllegalStateException (List.mem_of_getElem? (i := 13) rfl) zthr_121 (hl.1.trans hml.symm) ht dX8_usePattern_34 dX8_usePattern_37 dX8_usePattern_38 dX8_usePattern_40 dX8_usePattern_43 (by show 6 ≤ _; exact Nat.le_of_ble_eq_true rfl) (Nat.le_of_ble_eq_true rfl) (by show 0 + 1 + 1 + 1 ≤ 3; omega) (by show 0 + 6 + 6 + 6 ≤ 18; omega) hlocks (by (try dsimp only); first | exact ⟨rfl, (by (unfold cdUse; (repeat' split) <;> omega))⟩ | exact Or.inl ⟨rfl, (by (unfold cdUse; (repeat' split) <;> omega))⟩ | exact Or.inr ⟨rfl, (by (unfold cdUse; (repeat' split) <;> omega))⟩ | exact Or.inr (Or.inl ⟨rfl, (by (unfold cdUse; (repeat' split) <;> omega))⟩) | exact Or.inr (Or.inr ⟨rfl, (by (unfold cdUse; (repeat' split) <;> omega))⟩)) (by show 0 + 1 + 1 + 1 ≤ 3; omega) (by show 0 + 6 + 6 + 6 ≤ 18; omega)
