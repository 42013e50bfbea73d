set_option maxHeartbeats 4000000 in
set_option maxRecDepth 100000 in
theorem c_X8_addFeast (l : Launch) (hl9 : l.stackTraces = false) (Γ : zG) (K : zK) (X : zX) (Rf : zR) (x : Nat) (fy : Int) (ly : Int) (b9 : Int) (wy : Int) (ρ : zL) (M : zM) (hC : repC ρ K X Rf x M) (hM : okM M) (h1 : fit fy ∧ fit ly ∧ fit b9 ∧ fit wy) : Cx l yX8_addFeast cX8_addFeast 7 (some .int) 8 5 30 Γ [.ref x, .int (iI fy), .int (iI ly), .int (iI b9), .int (iI wy)] K X Rf (pI (fun (r : Int) (K' : zK) (X' : zX) (R' : zR) => (r = M 40 29 ∧ cdAfe M fy ly b9 wy = 0) ∧ ∃ ρ', repC ρ' K' X' R' x (faM M (M 40 29).toNat fy ly b9 wy) ∧ frC ρ K X Rf ρ' K' X' R')) (fun E : String => (E = "java/lang/IndexOutOfBoundsException" ∧ cdAfe M fy ly b9 wy = 1) ∨ (E = "java/lang/IllegalArgumentException" ∧ cdAfe M fy ly b9 wy = 2) ∨ (E = "java/lang/IllegalStateException" ∧ cdAfe M fy ly b9 wy = 3)) := by
  refine Cx.of (by decide +kernel) (Nat.le_of_ble_eq_true rfl) ?_
  intro p e s m below meth c ls hx hb hr hml hown hG hlocks hname ht hX hw hl
  have hl : lv_has ls 7 [(0, .ref x), (1, .int (iI fy)), (2, .int (iI ly)), (3, .int (iI b9)), (4, .int (iI wy))] := hl
  obtain ⟨⟨hk, hlx⟩, pr, pl, sr, dr, na, wo, ⟨hr0, hr2, hr4, hr6, hr7, hrd⟩, ⟨hkpr, hkpl, hksr, hkdr, hkna⟩, ⟨hlpr, hlpl, hlsr, hldr, hlna⟩, ⟨hx1, hx3, hx5⟩, hpt, hpl, hse, hwo⟩ := id hC
  obtain ⟨⟨hb1, hb2, hb3, hb4⟩, hokP, hokL, hokS, hokW, hokF⟩ := id hM
  obtain ⟨⟨hkw, hlw⟩, fe, fa, fn, p09, ⟨hw1, hw5, hw7, hrf⟩, ⟨hkfe, hkfa, hkfn⟩, ⟨hlfe, hlfa, hlfn⟩, ⟨hw0, hwk2, hwk3, hwk4, hwk6⟩, hfs, hvr, hfb, hwp⟩ := id hwo
  obtain ⟨hwb1, hwb2, hwb3, hwb4⟩ := hokW
  have hnn : X wo 6 = ((M 40 29).toNat : Int) ∧ (M 40 29).toNat ≤ 20 := by omega
  have hne9 : fa ≠ fn := zkne hkfa hkfn (by simp)
  have hnw1 : wo ≠ fn := zkne hkw hkfn (by simp)
  have hnw2 : wo ≠ fa := zkn2 hkw hkfa (by simp)
  obtain ⟨i9, hi9⟩ : ∃ i9 : Nat, M 40 29 = i9 := ⟨(M 40 29).toNat, by omega⟩
  refine lv_aload_n (pc := 0) hx hb dX8_addFeast_0 rfl (lv_at hl 0 rfl) ?_
  refine lv_iload_n (pc := 1) hx hb dX8_addFeast_1 rfl (lv_at hl 3 rfl) ?_
  refine zxkRp (pc := 2) (zxrV (As := [.int (iI b9)]) hx hb hml hown hG hX hw (c_X8_needPattern l hl9 Γ K X Rf x b9 pr M (by (first | assumption | omega)) (by (first | assumption | omega)) (by (first | assumption | omega)) (by (first | assumption | omega)) (by (first | assumption | omega)) (by (first | assumption | omega))) (T := TX8) hk rfl cb_X8_needPattern wl_X8_125 rfl ⟨Nat.le_of_ble_eq_true rfl, Nat.le_of_ble_eq_true rfl⟩ hl.1 rfl (Nat.le_of_ble_eq_true rfl) dX8_addFeast_2 ⟨(by show 0 + 1 ≤ 5; omega), (by show 0 + 6 ≤ 30; omega)⟩) hw (fun E9 ce9 q9 H9 locs9 hxp9 hw9 hce9 hcv9 hcl9 => zxout (pc := 2) ht hlocks hw9 hce9 hcv9 hcl9 (by (obtain ⟨rfl, hq9⟩ := hxp9; (try dsimp only); first | exact ⟨rfl, (by (unfold cdAfe; (repeat' split) <;> omega))⟩ | exact Or.inl ⟨rfl, (by (unfold cdAfe; (repeat' split) <;> omega))⟩ | exact Or.inr ⟨rfl, (by (unfold cdAfe; (repeat' split) <;> omega))⟩ | exact Or.inr (Or.inl ⟨rfl, (by (unfold cdAfe; (repeat' split) <;> omega))⟩))) (by show 0 + 1 ≤ 5; omega) (by show 0 + 6 ≤ 30; omega)) (fun r2 H locs hp2 hw => ?_)
  obtain ⟨⟨hra2, hka2, hsa2⟩, hia2⟩ := hp2
  have hoa2 := okP_same hsa2 (hokP b9.toNat (by omega))
  refine lv_astore (pc := 5) (lv' := [(5, .ref r2), (0, .ref x), (1, .int (iI fy)), (2, .int (iI ly)), (3, .int (iI b9)), (4, .int (iI wy))]) hx hb dX8_addFeast_5 hl (by decide) rfl (fun ls hl => ?_)
  refine lv_iload_n (pc := 7) hx hb dX8_addFeast_7 rfl (lv_at hl 2 rfl) ?_
  refine lv_iload_n (pc := 8) hx hb dX8_addFeast_8 rfl (lv_at hl 3 rfl) ?_
  refine zxkVp (pc := 9) (zxrS (As := [.int (iI fy), .int (iI ly)]) hx hb hml hown hG hX hw (c_X8_needYears l hl9 Γ K X Rf fy ly  (by (first | assumption | omega))) cb_X8_needYears wl_X8_147 rfl ⟨Nat.le_of_ble_eq_true rfl, Nat.le_of_ble_eq_true rfl⟩ hl.1 rfl (Nat.le_of_ble_eq_true rfl) dX8_addFeast_9 ⟨(by show 0 + 1 + 2 ≤ 5; omega), (by show 0 + 6 + 12 ≤ 30; omega)⟩) hw (fun E9 ce9 q9 H9 locs9 hxp9 hw9 hce9 hcv9 hcl9 => zxout (pc := 9) ht hlocks hw9 hce9 hcv9 hcl9 (by (obtain ⟨rfl, hq9⟩ := hxp9; (try dsimp only); first | exact ⟨rfl, (by (unfold cdAfe; (repeat' split) <;> omega))⟩ | exact Or.inl ⟨rfl, (by (unfold cdAfe; (repeat' split) <;> omega))⟩ | exact Or.inr ⟨rfl, (by (unfold cdAfe; (repeat' split) <;> omega))⟩ | exact Or.inr (Or.inl ⟨rfl, (by (unfold cdAfe; (repeat' split) <;> omega))⟩))) (by show 0 + 1 + 2 ≤ 5; omega) (by show 0 + 6 + 12 ≤ 30; omega)) (fun H locs hp9 hw => ?_)
  refine lv_iload (pc := 12) hx hb dX8_addFeast_12 (lv_at hl 5 rfl) ?_
  refine zif_lt (pc := 14) hx hb 23 (by omega) dX8_addFeast_14 (by decide) (fun c14 => ?_) (fun c14 => ?_)
  · skip
    exact zthrowW (pc := 23) hx hb hl9 hown hG hX hw wn_X8_56 wi_javalangIllegalArgumentException (List.mem_of_getElem? (i := 16) rfl) zthr_60 (hl.1.trans hml.symm) ht dX8_addFeast_23 dX8_addFeast_26 dX8_addFeast_27 dX8_addFeast_30 dX8_addFeast_33 (by show 6 ≤ _; exact Nat.le_of_ble_eq_true rfl) (Nat.le_of_ble_eq_true rfl) (by show 0 + 1 + 2 + 1 ≤ 5; omega) (by show 0 + 6 + 12 + 6 ≤ 30; omega) hlocks (by (try dsimp only); first | exact ⟨rfl, (by (unfold cdAfe; (repeat' split) <;> omega))⟩ | exact Or.inl ⟨rfl, (by (unfold cdAfe; (repeat' split) <;> omega))⟩ | exact Or.inr ⟨rfl, (by (unfold cdAfe; (repeat' split) <;> omega))⟩ | exact Or.inr (Or.inl ⟨rfl, (by (unfold cdAfe; (repeat' split) <;> omega))⟩) | exact Or.inr (Or.inr ⟨rfl, (by (unfold cdAfe; (repeat' split) <;> omega))⟩)) (by show 0 + 1 + 2 + 1 ≤ 5; omega) (by show 0 + 6 + 12 + 6 ≤ 30; omega)
  · skip
    refine lv_iload (pc := 17) hx hb dX8_addFeast_17 (lv_at hl 5 rfl) ?_
    refine ziconst (pc := 19) (n := 3) hx hb dX8_addFeast_19 ?_
    refine zicmp_le (pc := 20) hx hb 34 (by omega) (by omega) dX8_addFeast_20 (by decide) (fun c20 => ?_) (fun c20 => ?_)
    · skip
      refine lv_aload_n (pc := 34) hx hb dX8_addFeast_34 rfl (lv_at hl 1 rfl) ?_
      refine zgetR (pc := 35) hx hb hG hown hw hk (T := TX8) rfl 7 (by decide) rfl wf_X8_49 rfl hr7 dX8_addFeast_35 ?_
      refine zgetI (pc := 38) hx hb hG hown hw hkw (T := TX7) rfl 6 (by decide) rfl wf_X8_302 rfl dX8_addFeast_38 ?_
      refine ztop (fun x41 ex41 => ?_)
      refine lv_istore (pc := 41) (lv' := [(6, .int (iI x41)), (5, .ref r2), (0, .ref x), (1, .int (iI fy)), (2, .int (iI ly)), (3, .int (iI b9)), (4, .int (iI wy))]) hx hb dX8_addFeast_41 hl (by decide) rfl (fun ls hl => ?_)
      refine lv_iload (pc := 43) hx hb dX8_addFeast_43 (lv_at hl 0 rfl) ?_
      refine zif_lt (pc := 45) hx hb 61 (by omega) dX8_addFeast_45 (by decide) (fun c45 => ?_) (fun c45 => ?_)
      · skip
        exact zthrowW (pc := 61) hx hb hl9 hown hG hX hw wn_X8_117 wi_javalangIllegalStateException (List.mem_of_getElem? (i := 17) rfl) zthr_121 (hl.1.trans hml.symm) ht dX8_addFeast_61 dX8_addFeast_64 dX8_addFeast_65 dX8_addFeast_68 dX8_addFeast_71 (by show 6 ≤ _; exact Nat.le_of_ble_eq_true rfl) (Nat.le_of_ble_eq_true rfl) (by show 0 + 1 + 2 + 1 ≤ 5; omega) (by show 0 + 6 + 12 + 6 ≤ 30; omega) hlocks (by (try dsimp only); first | exact ⟨rfl, (by (unfold cdAfe; (repeat' split) <;> omega))⟩ | exact Or.inl ⟨rfl, (by (unfold cdAfe; (repeat' split) <;> omega))⟩ | exact Or.inr ⟨rfl, (by (unfold cdAfe; (repeat' split) <;> omega))⟩ | exact Or.inr (Or.inl ⟨rfl, (by (unfold cdAfe; (repeat' split) <;> omega))⟩) | exact Or.inr (Or.inr ⟨rfl, (by (unfold cdAfe; (repeat' split) <;> omega))⟩)) (by show 0 + 1 + 2 + 1 ≤ 5; omega) (by show 0 + 6 + 12 + 6 ≤ 30; omega)
      · skip
        refine lv_iload (pc := 48) hx hb dX8_addFeast_48 (lv_at hl 0 rfl) ?_
        refine lv_aload_n (pc := 50) hx hb dX8_addFeast_50 rfl (lv_at hl 2 rfl) ?_
        refine zgetR (pc := 51) hx hb hG hown hw hk (T := TX8) rfl 7 (by decide) rfl wf_X8_49 rfl hr7 dX8_addFeast_51 ?_
        refine zgetR (pc := 54) hx hb hG hown hw hkw (T := TX7) rfl 5 (by decide) rfl wf_X8_305 rfl hw5 dX8_addFeast_54 ?_
        refine zlen10 (pc := 57) hx hb hw hkfe dX8_addFeast_57 ?_
        refine zicmp_lt (pc := 58) hx hb 72 (by omega) (by omega) dX8_addFeast_58 (by decide) (fun c58 => ?_) (fun c58 => ?_)
        · skip
          refine lv_aload_n (pc := 72) hx hb dX8_addFeast_72 rfl (lv_at hl 2 rfl) ?_
          refine zgetR (pc := 73) hx hb hG hown hw hk (T := TX8) rfl 7 (by decide) rfl wf_X8_49 rfl hr7 dX8_addFeast_73 ?_
          refine zgetR (pc := 76) hx hb hG hown hw hkw (T := TX7) rfl 5 (by decide) rfl wf_X8_305 rfl hw5 dX8_addFeast_76 ?_
          refine lv_iload (pc := 79) hx hb dX8_addFeast_79 (lv_at hl 0 rfl) ?_
          refine znew (pc := 81) hx hb hG hown hw (T := TX2) (ci := 1) rfl wn_X8_311 wt_X2 wi_X2 (by show 0 + 1 + 2 + 1 ≤ 5; omega) (by show 0 + 6 + 12 + 4 ≤ 30; omega) dX8_addFeast_81 (fun q81 H hfq81 hw => ?_)
          obtain ⟨K81, eK81⟩ : ∃ Y : zK, Y = zup K q81 (1, 1) := ⟨_, rfl⟩
          obtain ⟨X81, eX81⟩ : ∃ Y : zX, Y = zupX X q81 := ⟨_, rfl⟩
          obtain ⟨R81, eR81⟩ : ∃ Y : zR, Y = zupR Rf q81 := ⟨_, rfl⟩
          replace hw := Wd.re hw eK81 eX81 eR81
          have hk81 : K81 x = (1, 7) := by rw [eK81]; exact zup_k hfq81 hk (Nat.succ_ne_zero _)
          have hn81 : x ≠ q81 := zne hk hfq81
          have hk81_1 : K81 pr = (6, 24) := by rw [eK81]; exact zup_k hfq81 hkpr (Nat.succ_ne_zero _)
          have hn81_1 : pr ≠ q81 := zne hkpr hfq81
          have hk81_2 : K81 pl = (7, 6) := by rw [eK81]; exact zup_k hfq81 hkpl (Nat.succ_ne_zero _)
          have hn81_2 : pl ≠ q81 := zne hkpl hfq81
          have hk81_3 : K81 sr = (8, 6) := by rw [eK81]; exact zup_k hfq81 hksr (Nat.succ_ne_zero _)
          have hn81_3 : sr ≠ q81 := zne hksr hfq81
          have hk81_4 : K81 dr = (1, 0) := by rw [eK81]; exact zup_k hfq81 hkdr (Nat.succ_ne_zero _)
          have hn81_4 : dr ≠ q81 := zne hkdr hfq81
          have hk81_5 : K81 na = (2, 4733) := by rw [eK81]; exact zup_k hfq81 hkna (Nat.succ_ne_zero _)
          have hn81_5 : na ≠ q81 := zne hkna hfq81
          have hk81_6 : K81 wo = (1, 6) := by rw [eK81]; exact zup_k hfq81 hkw (Nat.succ_ne_zero _)
          have hn81_6 : wo ≠ q81 := zne hkw hfq81
          have hk81_7 : K81 fe = (10, 20) := by rw [eK81]; exact zup_k hfq81 hkfe (Nat.succ_ne_zero _)
          have hn81_7 : fe ≠ q81 := zne hkfe hfq81
          have hk81_8 : K81 fa = (1, 0) := by rw [eK81]; exact zup_k hfq81 hkfa (Nat.succ_ne_zero _)
          have hn81_8 : fa ≠ q81 := zne hkfa hfq81
          have hk81_9 : K81 fn = (2, 1701) := by rw [eK81]; exact zup_k hfq81 hkfn (Nat.succ_ne_zero _)
          have hn81_9 : fn ≠ q81 := zne hkfn hfq81
          have hk81_10 : K81 r2 = (1, 2) := by rw [eK81]; exact zup_k hfq81 hka2 (Nat.succ_ne_zero _)
          have hn81_10 : r2 ≠ q81 := zne hka2 hfq81
          have hk81_11 : K81 q81 = (1, 1) := by rw [eK81]; exact zup_s
          have hr81 : R81 x 0 = some pr := by rw [eR81, zupR_n hn81]; exact hr0
          have hr81_1 : R81 x 2 = some pl := by rw [eR81, zupR_n hn81]; exact hr2
          have hr81_2 : R81 x 4 = some sr := by rw [eR81, zupR_n hn81]; exact hr4
          have hr81_3 : R81 x 6 = some dr := by rw [eR81, zupR_n hn81]; exact hr6
          have hr81_4 : R81 x 7 = some wo := by rw [eR81, zupR_n hn81]; exact hr7
          have hr81_5 : R81 dr 0 = some na := by rw [eR81, zupR_n hn81_4]; exact hrd
          have hr81_6 : R81 wo 5 = some fe := by rw [eR81, zupR_n hn81_6]; exact hw5
          have hr81_7 : R81 wo 7 = some fa := by rw [eR81, zupR_n hn81_6]; exact hw7
          have hr81_8 : R81 fa 0 = some fn := by rw [eR81, zupR_n hn81_8]; exact hrf
          refine lv_dup (pc := 84) hx hb dX8_addFeast_84 rfl ?_
          refine lv_iload_n (pc := 85) hx hb dX8_addFeast_85 rfl (lv_at hl 3 rfl) ?_
          refine lv_iload_n (pc := 86) hx hb dX8_addFeast_86 rfl (lv_at hl 4 rfl) ?_
          refine lv_aload (pc := 87) hx hb dX8_addFeast_87 (lv_at hl 1 rfl) ?_
          refine lv_iload (pc := 89) hx hb dX8_addFeast_89 (lv_at hl 6 rfl) ?_
          refine zkV (pc := 91) (zrI (As := [.int (iI fy), .int (iI ly), .ref r2, .int (iI wy)]) hx hb hml hown hG hw (c_X2_init l Γ K81 X81 R81 q81 fy ly r2 wy  (by (first | assumption | omega)) (by (first | assumption | omega))) cb_X2_init wl_X8_313 rfl ⟨Nat.le_of_ble_eq_true rfl, Nat.le_of_ble_eq_true rfl⟩ hl.1 rfl (Nat.le_of_ble_eq_true rfl) dX8_addFeast_91 ⟨(by show 0 + 1 + 2 + 1 + 0 ≤ 5; omega), (by show 0 + 6 + 12 + 4 + 0 ≤ 30; omega)⟩) hw (fun K91 X91 R91 H locs hp91 hw => ?_)
          obtain ⟨⟨cK91, cX91⟩, cr91, cP91⟩ := hp91
          have hk91 : K91 x = (1, 7) := (cK91 _ (zk1 hk81)).trans hk81
          have hk91_1 : K91 pr = (6, 24) := (cK91 _ (zk1 hk81_1)).trans hk81_1
          have hk91_2 : K91 pl = (7, 6) := (cK91 _ (zk1 hk81_2)).trans hk81_2
          have hk91_3 : K91 sr = (8, 6) := (cK91 _ (zk1 hk81_3)).trans hk81_3
          have hk91_4 : K91 dr = (1, 0) := (cK91 _ (zk1 hk81_4)).trans hk81_4
          have hk91_5 : K91 na = (2, 4733) := (cK91 _ (zk1 hk81_5)).trans hk81_5
          have hk91_6 : K91 wo = (1, 6) := (cK91 _ (zk1 hk81_6)).trans hk81_6
          have hk91_7 : K91 fe = (10, 20) := (cK91 _ (zk1 hk81_7)).trans hk81_7
          have hk91_8 : K91 fa = (1, 0) := (cK91 _ (zk1 hk81_8)).trans hk81_8
          have hk91_9 : K91 fn = (2, 1701) := (cK91 _ (zk1 hk81_9)).trans hk81_9
          have hk91_10 : K91 r2 = (1, 2) := (cK91 _ (zk1 hk81_10)).trans hk81_10
          have hk91_11 : K91 q81 = (1, 1) := (cK91 _ (zk1 hk81_11)).trans hk81_11
          have hr91 : R91 x 0 = some pr := by rw [(cX91 _ (zk1 hk81) hn81).2]; exact hr81
          have hr91_1 : R91 x 2 = some pl := by rw [(cX91 _ (zk1 hk81) hn81).2]; exact hr81_1
          have hr91_2 : R91 x 4 = some sr := by rw [(cX91 _ (zk1 hk81) hn81).2]; exact hr81_2
          have hr91_3 : R91 x 6 = some dr := by rw [(cX91 _ (zk1 hk81) hn81).2]; exact hr81_3
          have hr91_4 : R91 x 7 = some wo := by rw [(cX91 _ (zk1 hk81) hn81).2]; exact hr81_4
          have hr91_5 : R91 dr 0 = some na := by rw [(cX91 _ (zk1 hk81_4) hn81_4).2]; exact hr81_5
          have hr91_6 : R91 wo 5 = some fe := by rw [(cX91 _ (zk1 hk81_6) hn81_6).2]; exact hr81_6
          have hr91_7 : R91 wo 7 = some fa := by rw [(cX91 _ (zk1 hk81_6) hn81_6).2]; exact hr81_7
          have hr91_8 : R91 fa 0 = some fn := by rw [(cX91 _ (zk1 hk81_8) hn81_8).2]; exact hr81_8
          refine zaast4 (pc := 94) hx hb hw hk91_7 hk91_11 ⟨by omega, by omega⟩ (by omega) dX8_addFeast_94 (fun H locs hw => ?_)
          obtain ⟨R94, eR94⟩ : ∃ Y : zR, Y = up2 R91 fe x41.toNat (some q81) := ⟨_, rfl⟩
          rw [← eR94] at hw
          have hr94 : R94 x 0 = some pr := by rw [eR94, up2_a (zkn2 hk91 hk91_7 (by simp))]; exact hr91
          have hr94_1 : R94 x 2 = some pl := by rw [eR94, up2_a (zkn2 hk91 hk91_7 (by simp))]; exact hr91_1
          have hr94_2 : R94 x 4 = some sr := by rw [eR94, up2_a (zkn2 hk91 hk91_7 (by simp))]; exact hr91_2
          have hr94_3 : R94 x 6 = some dr := by rw [eR94, up2_a (zkn2 hk91 hk91_7 (by simp))]; exact hr91_3
          have hr94_4 : R94 x 7 = some wo := by rw [eR94, up2_a (zkn2 hk91 hk91_7 (by simp))]; exact hr91_4
          have hr94_5 : R94 dr 0 = some na := by rw [eR94, up2_a (zkn2 hk91_4 hk91_7 (by simp))]; exact hr91_5
          have hr94_6 : R94 wo 5 = some fe := by rw [eR94, up2_a (zkn2 hk91_6 hk91_7 (by simp))]; exact hr91_6
          have hr94_7 : R94 wo 7 = some fa := by rw [eR94, up2_a (zkn2 hk91_6 hk91_7 (by simp))]; exact hr91_7
          have hr94_8 : R94 fa 0 = some fn := by rw [eR94, up2_a (zkn2 hk91_8 hk91_7 (by simp))]; exact hr91_8
          have hr94_9 : R94 q81 2 = some r2 := by rw [eR94, up2_a (Ne.symm hn81_7)]; exact cr91
          have hr94_10 : R94 fe x41.toNat = some q81 := by rw [eR94]; exact up2_s
          refine lv_aload_n (pc := 95) hx hb dX8_addFeast_95 rfl (lv_at hl 2 rfl) ?_
          refine zgetR (pc := 96) hx hb hG hown hw hk91 (T := TX8) rfl 7 (by decide) rfl wf_X8_49 rfl hr94_4 dX8_addFeast_96 ?_
          refine lv_iload (pc := 99) hx hb dX8_addFeast_99 (lv_at hl 0 rfl) ?_
          refine ziconst (pc := 101) (n := 1) hx hb dX8_addFeast_101 ?_
          refine zadd (pc := 102) hx hb dX8_addFeast_102 ?_
          refine zputI (pc := 103) hx hb hG hown hw hk91_6 (T := TX7) rfl 6 (by decide) rfl wf_X8_302 rfl (by decide +kernel) rfl dX8_addFeast_103 (fun H locs hw => ?_)
          obtain ⟨X103, eX103⟩ : ∃ Y : zX, Y = up2 X91 wo 6 (x41 + 1) := ⟨_, rfl⟩
          rw [← eX103] at hw
          refine lv_iload (pc := 106) hx hb dX8_addFeast_106 (lv_at hl 0 rfl) ?_
          exact vx_ret (zretI (pc := 108) hx hb hlocks hr hw (by show 0 + 1 + 2 + 1 ≤ 5; omega) (by show 0 + 6 + 12 + 4 ≤ 30; omega) dX8_addFeast_108 (by 
                                        refine ⟨⟨by omega, by (unfold cdAfe; (repeat' split) <;> omega)⟩, ?_⟩
                                        have hq0 : (K q81).1 = 0 := hfq81
                                        have hx41 : x41 = i9 := by omega
                                        have hnw3 : wo ≠ q81 := zne hkw hfq81
                                        have hnf3 : fe ≠ q81 := zne hkfe hfq81
                                        have hnp3 : r2 ≠ q81 := zne hka2 hfq81
                                        have gK : ∀ a9, (K a9).1 ≠ 0 → K91 a9 = K a9 := fun a9 h9 => by rw [cK91 a9 (by rw [eK81, zup_n (zfa h9 hq0)]; exact h9), eK81, zup_n (zfa h9 hq0)]
                                        have gX : ∀ a9, (K a9).1 ≠ 0 → X91 a9 = X a9 ∧ R91 a9 = Rf a9 := fun a9 h9 => by
                                          obtain ⟨g1, g2⟩ := cX91 a9 (by rw [eK81, zup_n (zfa h9 hq0)]; exact h9) (zfa h9 hq0)
                                          exact ⟨by rw [g1, eX81, zupX_n (zfa h9 hq0)], by rw [g2, eR81, zupR_n (zfa h9 hq0)]⟩
                                        have hwn : (K wo).1 ≠ 0 := zk1 hkw
                                        have hfn : (K fe).1 ≠ 0 := zk1 hkfe
                                        rw [hi9, Int.toNat_natCast]
                                        refine hC.fea (q := q81) (pa := r2) hr7 hw5 ⟨hi9, by omega⟩ hq0 gK (fun a9 h9 hne => ?_) (fun a9 h9 hne => ?_) ?_ (fun j hj => ?_) ?_ (fun k hk9 => ?_) (by rw [cK91 q81 (by rw [eK81, zup_s]; decide), eK81, zup_s]) ?_ hka2 hsa2 hoa2 ?_ (by omega)
                                        · rw [eX103, up2_o hne]; exact (gX a9 h9).1
                                        · rw [eR94, up2_o hne]; exact (gX a9 h9).2
                                        · rw [eX103, up2_s, hx41]
                                        · rw [eX103, up2_k hj]; exact congrFun (gX wo hwn).1 j
                                        · rw [eR94, hx41, Int.toNat_natCast]; exact up2_s
                                        · rw [eR94, hx41, Int.toNat_natCast, up2_k hk9]; exact congrFun (gX fe hfn).2 k
                                        · rw [eR94, up2_o (Ne.symm hnf3)]; exact cr91
                                        · rw [eX103, up2_o (Ne.symm hnw3)]; exact cP91))
        · skip
          exact zthrowW (pc := 61) hx hb hl9 hown hG hX hw wn_X8_117 wi_javalangIllegalStateException (List.mem_of_getElem? (i := 17) rfl) zthr_121 (hl.1.trans hml.symm) ht dX8_addFeast_61 dX8_addFeast_64 dX8_addFeast_65 dX8_addFeast_68 dX8_addFeast_71 (by show 6 ≤ _; exact Nat.le_of_ble_eq_true rfl) (Nat.le_of_ble_eq_true rfl) (by show 0 + 1 + 2 + 1 ≤ 5; omega) (by show 0 + 6 + 12 + 6 ≤ 30; omega) hlocks (by (try dsimp only); first | exact ⟨rfl, (by (unfold cdAfe; (repeat' split) <;> omega))⟩ | exact Or.inl ⟨rfl, (by (unfold cdAfe; (repeat' split) <;> omega))⟩ | exact Or.inr ⟨rfl, (by (unfold cdAfe; (repeat' split) <;> omega))⟩ | exact Or.inr (Or.inl ⟨rfl, (by (unfold cdAfe; (repeat' split) <;> omega))⟩) | exact Or.inr (Or.inr ⟨rfl, (by (unfold cdAfe; (repeat' split) <;> omega))⟩)) (by show 0 + 1 + 2 + 1 ≤ 5; omega) (by show 0 + 6 + 12 + 6 ≤ 30; omega)
    · skip
      exact zthrowW (pc := 23) hx hb hl9 hown hG hX hw wn_X8_56 wi_javalangIllegalArgumentException (List.mem_of_getElem? (i := 16) rfl) zthr_60 (hl.1.trans hml.symm) ht dX8_addFeast_23 dX8_addFeast_26 dX8_addFeast_27 dX8_addFeast_30 dX8_addFeast_33 (by show 6 ≤ _; exact Nat.le_of_ble_eq_true rfl) (Nat.le_of_ble_eq_true rfl) (by show 0 + 1 + 2 + 1 ≤ 5; omega) (by show 0 + 6 + 12 + 6 ≤ 30; omega) hlocks (by (try dsimp only); first | exact ⟨rfl, (by (unfold cdAfe; (repeat' split) <;> omega))⟩ | exact Or.inl ⟨rfl, (by (unfold cdAfe; (repeat' split) <;> omega))⟩ | exact Or.inr ⟨rfl, (by (unfold cdAfe; (repeat' split) <;> omega))⟩ | exact Or.inr (Or.inl ⟨rfl, (by (unfold cdAfe; (repeat' split) <;> omega))⟩) | exact Or.inr (Or.inr ⟨rfl, (by (unfold cdAfe; (repeat' split) <;> omega))⟩)) (by show 0 + 1 + 2 + 1 ≤ 5; omega) (by show 0 + 6 + 12 + 6 ≤ 30; omega)
set_option maxHeartbeats 4000000 in
set_option maxRecDepth 100000 in
theorem c_X8_addPlace (l : Launch) (hl9 : l.stackTraces = false) (Γ : zG) (K : zK) (X : zX) (Rf : zR) (x : Nat) (bs : Int) (ρ : zL) (M : zM) (hC : repC ρ K X Rf x M) (hM : okM M) (h1 : fit bs) : Cx l yX8_addPlace cX8_addPlace 3 (some .int) 6 6 2430 Γ [.ref x, .int (iI bs)] K X Rf (pI (fun (r : Int) (K' : zK) (X' : zX) (R' : zR) => (r = M 40 5 ∧ cdApl M bs = 0) ∧ ∃ ρ', repC ρ' K' X' R' x (plM M (M 40 5).toNat bs) ∧ frC ρ K X Rf ρ' K' X' R')) (fun E : String => (E = "java/lang/IllegalArgumentException" ∧ cdApl M bs = 1) ∨ (E = "java/lang/IllegalStateException" ∧ cdApl M bs = 2)) := by
  refine Cx.of (by decide +kernel) (Nat.le_of_ble_eq_true rfl) ?_
  intro p e s m below meth c ls hx hb hr hml hown hG hlocks hname ht hX hw hl
  have hl : lv_has ls 3 [(0, .ref x), (1, .int (iI bs))] := hl
  obtain ⟨⟨hk, hlx⟩, pr, pl, sr, dr, na, wo, ⟨hr0, hr2, hr4, hr6, hr7, hrd⟩, ⟨hkpr, hkpl, hksr, hkdr, hkna⟩, ⟨hlpr, hlpl, hlsr, hldr, hlna⟩, ⟨hx1, hx3, hx5⟩, hpt, hpl, hse, hwo⟩ := id hC
  obtain ⟨⟨hb1, hb2, hb3, hb4⟩, hokP, hokL, hokS, hokW, hokF⟩ := id hM
  obtain ⟨i9, hi9⟩ : ∃ i9 : Nat, M 40 5 = i9 := ⟨(M 40 5).toNat, by omega⟩
  refine lv_iload_n (pc := 0) hx hb dX8_addPlace_0 rfl (lv_at hl 1 rfl) ?_
  refine zsipush (pc := 1) (n := (-840)) hx hb dX8_addPlace_1 rfl ?_
  refine zicmp_lt (pc := 4) hx hb 14 (by omega) (by omega) dX8_addPlace_4 (by decide) (fun c4 => ?_) (fun c4 => ?_)
  · skip
    exact zthrow (pc := 14) hx hb hl9 hown hG hX hw wn_X8_56 wi_javalangIllegalArgumentException (List.mem_of_getElem? (i := 0) rfl) zthr_60 (hl.1.trans hml.symm) ht dX8_addPlace_14 dX8_addPlace_17 dX8_addPlace_18 dX8_addPlace_20 dX8_addPlace_23 (by show 6 ≤ _; exact Nat.le_of_ble_eq_true rfl) (Nat.le_of_ble_eq_true rfl) (by show 0 + 1 ≤ 6; omega) (by show 0 + 6 ≤ 2430; omega) hlocks (by (try dsimp only); first | exact ⟨rfl, (by (unfold cdApl; (repeat' split) <;> omega))⟩ | exact Or.inl ⟨rfl, (by (unfold cdApl; (repeat' split) <;> omega))⟩ | exact Or.inr ⟨rfl, (by (unfold cdApl; (repeat' split) <;> omega))⟩ | exact Or.inr (Or.inl ⟨rfl, (by (unfold cdApl; (repeat' split) <;> omega))⟩) | exact Or.inr (Or.inr ⟨rfl, (by (unfold cdApl; (repeat' split) <;> omega))⟩)) (by show 0 + 1 ≤ 6; omega) (by show 0 + 6 ≤ 2430; omega)
  · skip
    refine lv_iload_n (pc := 7) hx hb dX8_addPlace_7 rfl (lv_at hl 1 rfl) ?_
    refine zsipush (pc := 8) (n := 840) hx hb dX8_addPlace_8 rfl ?_
    refine zicmp_le (pc := 11) hx hb 24 (by omega) (by omega) dX8_addPlace_11 (by decide) (fun c11 => ?_) (fun c11 => ?_)
    · skip
      refine lv_aload_n (pc := 24) hx hb dX8_addPlace_24 rfl (lv_at hl 0 rfl) ?_
      refine zgetI (pc := 25) hx hb hG hown hw hk (T := TX8) rfl 3 (by decide) rfl wf_X8_25 rfl dX8_addPlace_25 ?_
      refine ztop (fun x28 ex28 => ?_)
      refine lv_istore_n (pc := 28) (lv' := [(2, .int (iI x28)), (0, .ref x), (1, .int (iI bs))]) hx hb dX8_addPlace_28 rfl hl (by decide) rfl (fun ls hl => ?_)
      refine lv_iload_n (pc := 29) hx hb dX8_addPlace_29 rfl (lv_at hl 0 rfl) ?_
      refine zif_lt (pc := 30) hx hb 42 (by omega) dX8_addPlace_30 (by decide) (fun c30 => ?_) (fun c30 => ?_)
      · skip
        exact zthrow (pc := 42) hx hb hl9 hown hG hX hw wn_X8_117 wi_javalangIllegalStateException (List.mem_of_getElem? (i := 1) rfl) zthr_121 (hl.1.trans hml.symm) ht dX8_addPlace_42 dX8_addPlace_45 dX8_addPlace_46 dX8_addPlace_48 dX8_addPlace_51 (by show 6 ≤ _; exact Nat.le_of_ble_eq_true rfl) (Nat.le_of_ble_eq_true rfl) (by show 0 + 1 ≤ 6; omega) (by show 0 + 6 ≤ 2430; omega) hlocks (by (try dsimp only); first | exact ⟨rfl, (by (unfold cdApl; (repeat' split) <;> omega))⟩ | exact Or.inl ⟨rfl, (by (unfold cdApl; (repeat' split) <;> omega))⟩ | exact Or.inr ⟨rfl, (by (unfold cdApl; (repeat' split) <;> omega))⟩ | exact Or.inr (Or.inl ⟨rfl, (by (unfold cdApl; (repeat' split) <;> omega))⟩) | exact Or.inr (Or.inr ⟨rfl, (by (unfold cdApl; (repeat' split) <;> omega))⟩)) (by show 0 + 1 ≤ 6; omega) (by show 0 + 6 ≤ 2430; omega)
      · skip
        refine lv_iload_n (pc := 33) hx hb dX8_addPlace_33 rfl (lv_at hl 0 rfl) ?_
        refine lv_aload_n (pc := 34) hx hb dX8_addPlace_34 rfl (lv_at hl 1 rfl) ?_
        refine zgetR (pc := 35) hx hb hG hown hw hk (T := TX8) rfl 2 (by decide) rfl wf_X8_21 rfl hr2 dX8_addPlace_35 ?_
        refine zlen7 (pc := 38) hx hb hw hkpl dX8_addPlace_38 ?_
        refine zicmp_lt (pc := 39) hx hb 52 (by omega) (by omega) dX8_addPlace_39 (by decide) (fun c39 => ?_) (fun c39 => ?_)
        · skip
          refine lv_aload_n (pc := 52) hx hb dX8_addPlace_52 rfl (lv_at hl 1 rfl) ?_
          refine zgetR (pc := 53) hx hb hG hown hw hk (T := TX8) rfl 2 (by decide) rfl wf_X8_21 rfl hr2 dX8_addPlace_53 ?_
          refine lv_iload_n (pc := 56) hx hb dX8_addPlace_56 rfl (lv_at hl 0 rfl) ?_
          refine znew (pc := 57) hx hb hG hown hw (T := TX4) (ci := 3) rfl wn_X8_19 wt_X4 wi_X4 (by show 0 + 1 ≤ 6; omega) (by show 0 + 7 ≤ 2430; omega) dX8_addPlace_57 (fun q57 H hfq57 hw => ?_)
          obtain ⟨K57, eK57⟩ : ∃ Y : zK, Y = zup K q57 (1, 3) := ⟨_, rfl⟩
          obtain ⟨X57, eX57⟩ : ∃ Y : zX, Y = zupX X q57 := ⟨_, rfl⟩
          obtain ⟨R57, eR57⟩ : ∃ Y : zR, Y = zupR Rf q57 := ⟨_, rfl⟩
          replace hw := Wd.re hw eK57 eX57 eR57
          have hk57 : K57 x = (1, 7) := by rw [eK57]; exact zup_k hfq57 hk (Nat.succ_ne_zero _)
          have hn57 : x ≠ q57 := zne hk hfq57
          have hk57_1 : K57 pr = (6, 24) := by rw [eK57]; exact zup_k hfq57 hkpr (Nat.succ_ne_zero _)
          have hn57_1 : pr ≠ q57 := zne hkpr hfq57
          have hk57_2 : K57 pl = (7, 6) := by rw [eK57]; exact zup_k hfq57 hkpl (Nat.succ_ne_zero _)
          have hn57_2 : pl ≠ q57 := zne hkpl hfq57
          have hk57_3 : K57 sr = (8, 6) := by rw [eK57]; exact zup_k hfq57 hksr (Nat.succ_ne_zero _)
          have hn57_3 : sr ≠ q57 := zne hksr hfq57
          have hk57_4 : K57 dr = (1, 0) := by rw [eK57]; exact zup_k hfq57 hkdr (Nat.succ_ne_zero _)
          have hn57_4 : dr ≠ q57 := zne hkdr hfq57
          have hk57_5 : K57 na = (2, 4733) := by rw [eK57]; exact zup_k hfq57 hkna (Nat.succ_ne_zero _)
          have hn57_5 : na ≠ q57 := zne hkna hfq57
          have hk57_6 : K57 q57 = (1, 3) := by rw [eK57]; exact zup_s
          have hr57 : R57 x 0 = some pr := by rw [eR57, zupR_n hn57]; exact hr0
          have hr57_1 : R57 x 2 = some pl := by rw [eR57, zupR_n hn57]; exact hr2
          have hr57_2 : R57 x 4 = some sr := by rw [eR57, zupR_n hn57]; exact hr4
          have hr57_3 : R57 x 6 = some dr := by rw [eR57, zupR_n hn57]; exact hr6
          have hr57_4 : R57 x 7 = some wo := by rw [eR57, zupR_n hn57]; exact hr7
          have hr57_5 : R57 dr 0 = some na := by rw [eR57, zupR_n hn57_4]; exact hrd
          refine lv_dup (pc := 60) hx hb dX8_addPlace_60 rfl ?_
          refine lv_iload_n (pc := 61) hx hb dX8_addPlace_61 rfl (lv_at hl 2 rfl) ?_
          refine zkV (pc := 62) (zrI (As := [.int (iI bs)]) hx hb hml hown hG hw (c_X4_init l Γ K57 X57 R57 q57 bs  (by (first | assumption | omega))) cb_X4_init wl_X8_142 rfl ⟨Nat.le_of_ble_eq_true rfl, Nat.le_of_ble_eq_true rfl⟩ hl.1 rfl (Nat.le_of_ble_eq_true rfl) dX8_addPlace_62 ⟨(by show 0 + 1 + 4 ≤ 6; omega), (by show 0 + 7 + 2414 ≤ 2430; omega)⟩) hw (fun K62 X62 R62 H locs hp62 hw => ?_)
          obtain ⟨tu_62, to_62, be_62, sa_62, ⟨cK62, cX62⟩, ⟨cz62, ck62⟩, ⟨cz62_1, ck62_1⟩, ⟨cz62_2, ck62_2⟩, ⟨cz62_3, ck62_3⟩, cr62, cr62_1, cr62_2, cr62_3, cP62⟩ := hp62
          have hk62 : K62 x = (1, 7) := (cK62 _ (zk1 hk57)).trans hk57
          have hn62 : x ≠ tu_62 := zne hk57 cz62
          have hn62_1 : x ≠ to_62 := zne hk57 cz62_1
          have hn62_2 : x ≠ be_62 := zne hk57 cz62_2
          have hn62_3 : x ≠ sa_62 := zne hk57 cz62_3
          have hk62_1 : K62 pr = (6, 24) := (cK62 _ (zk1 hk57_1)).trans hk57_1
          have hn62_4 : pr ≠ tu_62 := zne hk57_1 cz62
          have hn62_5 : pr ≠ to_62 := zne hk57_1 cz62_1
          have hn62_6 : pr ≠ be_62 := zne hk57_1 cz62_2
          have hn62_7 : pr ≠ sa_62 := zne hk57_1 cz62_3
          have hk62_2 : K62 pl = (7, 6) := (cK62 _ (zk1 hk57_2)).trans hk57_2
          have hn62_8 : pl ≠ tu_62 := zne hk57_2 cz62
          have hn62_9 : pl ≠ to_62 := zne hk57_2 cz62_1
          have hn62_10 : pl ≠ be_62 := zne hk57_2 cz62_2
          have hn62_11 : pl ≠ sa_62 := zne hk57_2 cz62_3
          have hk62_3 : K62 sr = (8, 6) := (cK62 _ (zk1 hk57_3)).trans hk57_3
          have hn62_12 : sr ≠ tu_62 := zne hk57_3 cz62
          have hn62_13 : sr ≠ to_62 := zne hk57_3 cz62_1
          have hn62_14 : sr ≠ be_62 := zne hk57_3 cz62_2
          have hn62_15 : sr ≠ sa_62 := zne hk57_3 cz62_3
          have hk62_4 : K62 dr = (1, 0) := (cK62 _ (zk1 hk57_4)).trans hk57_4
          have hn62_16 : dr ≠ tu_62 := zne hk57_4 cz62
          have hn62_17 : dr ≠ to_62 := zne hk57_4 cz62_1
          have hn62_18 : dr ≠ be_62 := zne hk57_4 cz62_2
          have hn62_19 : dr ≠ sa_62 := zne hk57_4 cz62_3
          have hk62_5 : K62 na = (2, 4733) := (cK62 _ (zk1 hk57_5)).trans hk57_5
          have hn62_20 : na ≠ tu_62 := zne hk57_5 cz62
          have hn62_21 : na ≠ to_62 := zne hk57_5 cz62_1
          have hn62_22 : na ≠ be_62 := zne hk57_5 cz62_2
          have hn62_23 : na ≠ sa_62 := zne hk57_5 cz62_3
          have hk62_6 : K62 q57 = (1, 3) := (cK62 _ (zk1 hk57_6)).trans hk57_6
          have hn62_24 : q57 ≠ tu_62 := zne hk57_6 cz62
          have hn62_25 : q57 ≠ to_62 := zne hk57_6 cz62_1
          have hn62_26 : q57 ≠ be_62 := zne hk57_6 cz62_2
          have hn62_27 : q57 ≠ sa_62 := zne hk57_6 cz62_3
          have hr62 : R62 x 0 = some pr := by rw [(cX62 _ (zk1 hk57) hn57).2]; exact hr57
          have hr62_1 : R62 x 2 = some pl := by rw [(cX62 _ (zk1 hk57) hn57).2]; exact hr57_1
          have hr62_2 : R62 x 4 = some sr := by rw [(cX62 _ (zk1 hk57) hn57).2]; exact hr57_2
          have hr62_3 : R62 x 6 = some dr := by rw [(cX62 _ (zk1 hk57) hn57).2]; exact hr57_3
          have hr62_4 : R62 x 7 = some wo := by rw [(cX62 _ (zk1 hk57) hn57).2]; exact hr57_4
          have hr62_5 : R62 dr 0 = some na := by rw [(cX62 _ (zk1 hk57_4) hn57_4).2]; exact hr57_5
          refine zaast1 (pc := 65) hx hb hw hk62_2 hk62_6 ⟨by omega, by omega⟩ (by omega) dX8_addPlace_65 (fun H locs hw => ?_)
          obtain ⟨R65, eR65⟩ : ∃ Y : zR, Y = up2 R62 pl x28.toNat (some q57) := ⟨_, rfl⟩
          rw [← eR65] at hw
          have hr65 : R65 x 0 = some pr := by rw [eR65, up2_a (zkn2 hk62 hk62_2 (by simp))]; exact hr62
          have hr65_1 : R65 x 2 = some pl := by rw [eR65, up2_a (zkn2 hk62 hk62_2 (by simp))]; exact hr62_1
          have hr65_2 : R65 x 4 = some sr := by rw [eR65, up2_a (zkn2 hk62 hk62_2 (by simp))]; exact hr62_2
          have hr65_3 : R65 x 6 = some dr := by rw [eR65, up2_a (zkn2 hk62 hk62_2 (by simp))]; exact hr62_3
          have hr65_4 : R65 x 7 = some wo := by rw [eR65, up2_a (zkn2 hk62 hk62_2 (by simp))]; exact hr62_4
          have hr65_5 : R65 dr 0 = some na := by rw [eR65, up2_a (zkn2 hk62_4 hk62_2 (by simp))]; exact hr62_5
          have hr65_6 : R65 q57 1 = some tu_62 := by rw [eR65, up2_a (Ne.symm hn57_2)]; exact cr62
          have hr65_7 : R65 q57 3 = some to_62 := by rw [eR65, up2_a (Ne.symm hn57_2)]; exact cr62_1
          have hr65_8 : R65 q57 4 = some be_62 := by rw [eR65, up2_a (Ne.symm hn57_2)]; exact cr62_2
          have hr65_9 : R65 q57 5 = some sa_62 := by rw [eR65, up2_a (Ne.symm hn57_2)]; exact cr62_3
          have hr65_10 : R65 pl x28.toNat = some q57 := by rw [eR65]; exact up2_s
          refine lv_aload_n (pc := 66) hx hb dX8_addPlace_66 rfl (lv_at hl 1 rfl) ?_
          refine lv_iload_n (pc := 67) hx hb dX8_addPlace_67 rfl (lv_at hl 0 rfl) ?_
          refine ziconst (pc := 68) (n := 1) hx hb dX8_addPlace_68 ?_
          refine zadd (pc := 69) hx hb dX8_addPlace_69 ?_
          refine zputI (pc := 70) hx hb hG hown hw hk62 (T := TX8) rfl 3 (by decide) rfl wf_X8_25 rfl (by decide +kernel) rfl dX8_addPlace_70 (fun H locs hw => ?_)
          obtain ⟨X70, eX70⟩ : ∃ Y : zX, Y = up2 X62 x 3 (x28 + 1) := ⟨_, rfl⟩
          rw [← eX70] at hw
          refine lv_iload_n (pc := 73) hx hb dX8_addPlace_73 rfl (lv_at hl 0 rfl) ?_
          exact vx_ret (zretI (pc := 74) hx hb hlocks hr hw (by show 0 + 1 + 4 ≤ 6; omega) (by show 0 + 7 + 2414 ≤ 2430; omega) dX8_addPlace_74 (by 
                                        refine ⟨⟨by omega, by (unfold cdApl; (repeat' split) <;> omega)⟩, ?_⟩
                                        have hq0 : (K q57).1 = 0 := hfq57
                                        have hx28 : x28 = i9 := by omega
                                        have hnx : x ≠ q57 := zne hk hfq57
                                        have gK : ∀ a9, (K a9).1 ≠ 0 → K62 a9 = K a9 := fun a9 h9 => by rw [cK62 a9 (by rw [eK57, zup_n (zfa h9 hq0)]; exact h9), eK57, zup_n (zfa h9 hq0)]
                                        have gX : ∀ a9, (K a9).1 ≠ 0 → X62 a9 = X a9 ∧ R62 a9 = Rf a9 := fun a9 h9 => by
                                          obtain ⟨g1, g2⟩ := cX62 a9 (by rw [eK57, zup_n (zfa h9 hq0)]; exact h9) (zfa h9 hq0)
                                          exact ⟨by rw [g1, eX57, zupX_n (zfa h9 hq0)], by rw [g2, eR57, zupR_n (zfa h9 hq0)]⟩
                                        have hxn : (K x).1 ≠ 0 := zk1 hk
                                        have hpn : (K pl).1 ≠ 0 := zk1 hkpl
                                        have z0 : ∀ u : Nat, (K57 u).1 = 0 → (K u).1 = 0 ∧ u ≠ q57 := fun u hu => by
                                          have hne : u ≠ q57 := by rintro rfl; rw [eK57, zup_s] at hu; exact absurd hu (by decide)
                                          rw [eK57, zup_n hne] at hu
                                          exact ⟨hu, hne⟩
                                        have y1 := z0 _ cz62; have y2 := z0 _ cz62_1; have y3 := z0 _ cz62_2; have y4 := z0 _ cz62_3
                                        obtain ⟨cp1, cp2, cp3, cp4⟩ := cP62
                                        have np : ∀ u : Nat, (K u).1 = 0 → u ≠ pl := fun u hu g => hpn (by rw [← g]; exact hu)
                                        have nx : ∀ u : Nat, (K u).1 = 0 → u ≠ x := fun u hu g => hxn (by rw [← g]; exact hu)
                                        rw [hi9, Int.toNat_natCast]
                                        refine hC.plc (q := q57) (tu := tu_62) (to := to_62) (be := be_62) (sa := sa_62) hM hr2 ⟨hi9, by omega⟩ (by omega) ⟨hq0, y1.1, y2.1, y3.1, y4.1⟩ cp4 gK (fun a9 h9 hne => ?_) (fun a9 h9 hne => ?_) ?_ (fun j hj => ?_) ?_ (fun k hk9 => ?_) ⟨by rw [cK62 q57 (by rw [eK57, zup_s]; decide), eK57, zup_s], ck62, ck62_1, ck62_2, ck62_3⟩ ?_ (fun k => ?_) ?_ (fun k => ?_)
                                        · rw [eX70, up2_o hne]; exact (gX a9 h9).1
                                        · rw [eR65, up2_o hne]; exact (gX a9 h9).2
                                        · rw [eX70, up2_s, hx28]
                                        · rw [eX70, up2_k hj]; exact congrFun (gX x hxn).1 j
                                        · rw [eR65, hx28, Int.toNat_natCast]; exact up2_s
                                        · rw [eR65, hx28, Int.toNat_natCast, up2_k hk9]; exact congrFun (gX pl hpn).2 k
                                        · rw [eR65, up2_o (np _ hq0)]; exact ⟨cr62, cr62_1, cr62_2, cr62_3⟩
                                        · rw [eR65, up2_o (np _ y1.1)]; exact cp1 k
                                        · rw [eX70, up2_o (nx _ hq0)]; exact cp2
                                        · rw [eX70, up2_o (nx _ y3.1), up2_o (nx _ y4.1)]; exact cp3 k))
        · skip
          exact zthrow (pc := 42) hx hb hl9 hown hG hX hw wn_X8_117 wi_javalangIllegalStateException (List.mem_of_getElem? (i := 1) rfl) zthr_121 (hl.1.trans hml.symm) ht dX8_addPlace_42 dX8_addPlace_45 dX8_addPlace_46 dX8_addPlace_48 dX8_addPlace_51 (by show 6 ≤ _; exact Nat.le_of_ble_eq_true rfl) (Nat.le_of_ble_eq_true rfl) (by show 0 + 1 ≤ 6; omega) (by show 0 + 6 ≤ 2430; omega) hlocks (by (try dsimp only); first | exact ⟨rfl, (by (unfold cdApl; (repeat' split) <;> omega))⟩ | exact Or.inl ⟨rfl, (by (unfold cdApl; (repeat' split) <;> omega))⟩ | exact Or.inr ⟨rfl, (by (unfold cdApl; (repeat' split) <;> omega))⟩ | exact Or.inr (Or.inl ⟨rfl, (by (unfold cdApl; (repeat' split) <;> omega))⟩) | exact Or.inr (Or.inr ⟨rfl, (by (unfold cdApl; (repeat' split) <;> omega))⟩)) (by show 0 + 1 ≤ 6; omega) (by show 0 + 6 ≤ 2430; omega)
    · skip
      exact zthrow (pc := 14) hx hb hl9 hown hG hX hw wn_X8_56 wi_javalangIllegalArgumentException (List.mem_of_getElem? (i := 0) rfl) zthr_60 (hl.1.trans hml.symm) ht dX8_addPlace_14 dX8_addPlace_17 dX8_addPlace_18 dX8_addPlace_20 dX8_addPlace_23 (by show 6 ≤ _; exact Nat.le_of_ble_eq_true rfl) (Nat.le_of_ble_eq_true rfl) (by show 0 + 1 ≤ 6; omega) (by show 0 + 6 ≤ 2430; omega) hlocks (by (try dsimp only); first | exact ⟨rfl, (by (unfold cdApl; (repeat' split) <;> omega))⟩ | exact Or.inl ⟨rfl, (by (unfold cdApl; (repeat' split) <;> omega))⟩ | exact Or.inr ⟨rfl, (by (unfold cdApl; (repeat' split) <;> omega))⟩ | exact Or.inr (Or.inl ⟨rfl, (by (unfold cdApl; (repeat' split) <;> omega))⟩) | exact Or.inr (Or.inr ⟨rfl, (by (unfold cdApl; (repeat' split) <;> omega))⟩)) (by show 0 + 1 ≤ 6; omega) (by show 0 + 6 ≤ 2430; omega)
