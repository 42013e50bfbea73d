set_option maxHeartbeats 4000000 in
set_option maxRecDepth 100000 in
theorem c_X9_addSeries (l : Launch) (Γ : zG) (K : zK) (X : zX) (Rf : zR) (md : Nat) (a : Int) (bg : Int) (ki : Int) (st : Int) (wd : Int) (ρ : zL) (M : zM) (hR : repR ρ K X Rf md M) (hM : okM M) (h1 : fit a ∧ fit bg ∧ fit ki) (h2 : fit st ∧ fit wd) : Ct l yX9_addSeries cX9_addSeries 8 (some .int) 2 1 11 Γ [.ref md, .int (iI a), .int (iI bg), .int (iI ki), .int (iI st), .int (iI wd)] K X Rf (pI (fun (r : Int) (K' : zK) (X' : zX) (R' : zR) => (cdAse M a bg ki st wd = 0 → r = M 40 16) ∧ X' md 0 = cdAse M a bg ki st wd ∧ ∃ ρ', repR ρ' K' X' R' md (if cdAse M a bg ki st wd = 0 then seM M (M 40 16).toNat a bg ki st wd else M) ∧ frR ρ K X Rf ρ' K' X' R' ∧ ptR X' R' md ≤ ptR X Rf md + 5000)) := by
  refine Ct.of (by decide +kernel) (Nat.le_of_ble_eq_true rfl) ?_
  intro p e s m below meth c ls hx hb hr hml hown hG hlocks hname hw hl
  have hl : lv_has ls 8 [(0, .ref md), (1, .int (iI a)), (2, .int (iI bg)), (3, .int (iI ki)), (4, .int (iI st)), (5, .int (iI wd))] := hl
  obtain ⟨hmd, hlmd⟩ := id hR.1
  obtain ⟨⟨hb1, hb2, hb3, hb4⟩, hokP, hokL, hokS, hokW, hokF⟩ := id hM
  have hq1 : X md 1 = M 40 1 := hR.2.1 1 rfl
  have hq5 : X md 5 = M 40 5 := hR.2.1 5 rfl
  have hq16 : X md 16 = M 40 16 := hR.2.1 16 rfl
  have hq25 : X md 25 = M 40 25 := hR.2.1 25 rfl
  have hq26 : X md 26 = M 40 26 := hR.2.1 26 rfl
  have hq27 : X md 27 = M 40 27 := hR.2.1 27 rfl
  have hq28 : X md 28 = M 40 28 := hR.2.1 28 rfl
  have hq29 : X md 29 = M 40 29 := hR.2.1 29 rfl
  obtain ⟨a17, hB17, hA17, hL17, hD17⟩ : ∃ a, Rf md 17 = some a ∧ K a = (2, 66) ∧ ρ a = 2018 ∧ X a = M 17 := hR.fd 17 (by decide) rfl
  have hN17 : Apt a17 md := zkn2 hA17 hmd (by simp)
  obtain ⟨i9, hi9⟩ : ∃ i9 : Nat, M 40 16 = i9 := ⟨(M 40 16).toNat, by omega⟩
  refine lv_aload_n (pc := 0) hx hb dX9_addSeries_0 rfl (lv_at hl 0 rfl) ?_
  refine ziconst (pc := 1) (n := 0) hx hb dX9_addSeries_1 ?_
  refine zputI (pc := 2) hx hb hG hown hw hmd (T := TX9) rfl 0 (by decide) rfl wf_X9_87 rfl (by decide +kernel) rfl dX9_addSeries_2 (fun H locs hw => ?_)
  obtain ⟨X2, eX2⟩ : ∃ Y : zX, Y = up2 X md 0 0 := ⟨_, rfl⟩
  rw [← eX2] at hw
  have hE17 : X2 a17 = M 17 := by rw [eX2, up2_o hN17]; exact hD17
  have hz5 : X2 md 5 = M 40 5 := by rw [eX2, up2_k (by decide)]; exact hq5
  have hz16 : X2 md 16 = M 40 16 := by rw [eX2, up2_k (by decide)]; exact hq16
  refine lv_aload_n (pc := 5) hx hb dX9_addSeries_5 rfl (lv_at hl 0 rfl) ?_
  refine lv_iload_n (pc := 6) hx hb dX9_addSeries_6 rfl (lv_at hl 1 rfl) ?_
  refine zkIp (pc := 7) (zrV (As := [.int (iI a)]) hx hb hml hown hG hw (c_X9_isPlace l Γ K X2 Rf md a  (by (first | assumption | omega)) (by (first | assumption | omega))) (T := TX9) hmd rfl cb_X9_isPlace wl_X9_161 rfl ⟨Nat.le_of_ble_eq_true rfl, Nat.le_of_ble_eq_true rfl⟩ hl.1 rfl (Nat.le_of_ble_eq_true rfl) dX9_addSeries_7 ⟨Nat.zero_le _, Nat.zero_le _⟩) hw (fun r7 H locs hp7 hw => ?_)
  subst hp7
  refine zif_ne (pc := 10) hx hb 19 (by omega) dX9_addSeries_10 (by decide) (fun c10 => ?_) (fun c10 => ?_)
  · skip
    replace c10 := it1 c10
    refine lv_iload_n (pc := 19) hx hb dX9_addSeries_19 rfl (lv_at hl 2 rfl) ?_
    refine zkIp (pc := 20) (zrS (As := [.int (iI bg)]) hx hb hml hown hG hw (c_X9_isMoment l Γ K X2 Rf bg  (by (first | assumption | omega))) cb_X9_isMoment wl_X9_195 rfl ⟨Nat.le_of_ble_eq_true rfl, Nat.le_of_ble_eq_true rfl⟩ hl.1 rfl (Nat.le_of_ble_eq_true rfl) dX9_addSeries_20 ⟨Nat.zero_le _, Nat.zero_le _⟩) hw (fun r20 H locs hp20 hw => ?_)
    subst hp20
    refine zif_eq (pc := 23) hx hb 57 (by omega) dX9_addSeries_23 (by decide) (fun c23 => ?_) (fun c23 => ?_)
    · skip
      replace c23 := it0 c23
      refine lv_aload_n (pc := 57) hx hb dX9_addSeries_57 rfl (lv_at hl 0 rfl) ?_
      refine ziconst (pc := 58) (n := 2) hx hb dX9_addSeries_58 ?_
      refine zkIx (pc := 59) (zrV (As := [.int (iI 2)]) hx hb hml hown hG hw (c_X9_refuse l Γ K X2 Rf md 2  (by (first | assumption | omega))) (T := TX9) hmd rfl cb_X9_refuse wl_X9_123 rfl ⟨Nat.le_of_ble_eq_true rfl, Nat.le_of_ble_eq_true rfl⟩ hl.1 rfl (Nat.le_of_ble_eq_true rfl) dX9_addSeries_59 ⟨Nat.zero_le _, Nat.zero_le _⟩) hw (fun r59 X59 H locs hp59 hw => ?_)
      obtain ⟨hrf59, eX59⟩ := hp59
      exact zretI (pc := 62) hx hb hlocks hr hw (Nat.zero_le _) (Nat.zero_le _) dX9_addSeries_62 (by refine ⟨fun hz => by (exfalso; revert hz; (unfold cdAse; (repeat' split) <;> omega)), ?_⟩; exact hR.no (by (unfold cdAse; (repeat' split) <;> omega)) (by rw [eX59]; (try rw [eX2]); (try rw [up2_up2]); exact thr_c (by (unfold cdAse; (repeat' split) <;> omega))))
    · skip
      replace c23 := it1 c23
      refine lv_iload_n (pc := 26) hx hb dX9_addSeries_26 rfl (lv_at hl 3 rfl) ?_
      refine ziconst (pc := 27) (n := 0) hx hb dX9_addSeries_27 ?_
      refine ziconst (pc := 28) (n := 3) hx hb dX9_addSeries_28 ?_
      refine zkIp (pc := 29) (zrS (As := [.int (iI ki), .int (iI 0), .int (iI 3)]) hx hb hml hown hG hw (c_X9_is l Γ K X2 Rf ki 0 3  (by (first | assumption | omega))) cb_X9_is wl_X9_91 rfl ⟨Nat.le_of_ble_eq_true rfl, Nat.le_of_ble_eq_true rfl⟩ hl.1 rfl (Nat.le_of_ble_eq_true rfl) dX9_addSeries_29 ⟨Nat.zero_le _, Nat.zero_le _⟩) hw (fun r29 H locs hp29 hw => ?_)
      subst hp29
      refine zif_eq (pc := 32) hx hb 57 (by omega) dX9_addSeries_32 (by decide) (fun c32 => ?_) (fun c32 => ?_)
      · skip
        replace c32 := it0 c32
        refine lv_aload_n (pc := 57) hx hb dX9_addSeries_57 rfl (lv_at hl 0 rfl) ?_
        refine ziconst (pc := 58) (n := 2) hx hb dX9_addSeries_58 ?_
        refine zkIx (pc := 59) (zrV (As := [.int (iI 2)]) hx hb hml hown hG hw (c_X9_refuse l Γ K X2 Rf md 2  (by (first | assumption | omega))) (T := TX9) hmd rfl cb_X9_refuse wl_X9_123 rfl ⟨Nat.le_of_ble_eq_true rfl, Nat.le_of_ble_eq_true rfl⟩ hl.1 rfl (Nat.le_of_ble_eq_true rfl) dX9_addSeries_59 ⟨Nat.zero_le _, Nat.zero_le _⟩) hw (fun r59 X59 H locs hp59 hw => ?_)
        obtain ⟨hrf59, eX59⟩ := hp59
        exact zretI (pc := 62) hx hb hlocks hr hw (Nat.zero_le _) (Nat.zero_le _) dX9_addSeries_62 (by refine ⟨fun hz => by (exfalso; revert hz; (unfold cdAse; (repeat' split) <;> omega)), ?_⟩; exact hR.no (by (unfold cdAse; (repeat' split) <;> omega)) (by rw [eX59]; (try rw [eX2]); (try rw [up2_up2]); exact thr_c (by (unfold cdAse; (repeat' split) <;> omega))))
      · skip
        replace c32 := it1 c32
        refine lv_iload (pc := 35) hx hb dX9_addSeries_35 (lv_at hl 4 rfl) ?_
        refine ziconst (pc := 37) (n := 1) hx hb dX9_addSeries_37 ?_
        refine zbipush (pc := 38) (n := 60) hx hb dX9_addSeries_38 rfl ?_
        refine zkIp (pc := 40) (zrS (As := [.int (iI st), .int (iI 1), .int (iI 60)]) hx hb hml hown hG hw (c_X9_is l Γ K X2 Rf st 1 60  (by (first | assumption | omega))) cb_X9_is wl_X9_91 rfl ⟨Nat.le_of_ble_eq_true rfl, Nat.le_of_ble_eq_true rfl⟩ hl.1 rfl (Nat.le_of_ble_eq_true rfl) dX9_addSeries_40 ⟨Nat.zero_le _, Nat.zero_le _⟩) hw (fun r40 H locs hp40 hw => ?_)
        subst hp40
        refine zif_eq (pc := 43) hx hb 57 (by omega) dX9_addSeries_43 (by decide) (fun c43 => ?_) (fun c43 => ?_)
        · skip
          replace c43 := it0 c43
          refine lv_aload_n (pc := 57) hx hb dX9_addSeries_57 rfl (lv_at hl 0 rfl) ?_
          refine ziconst (pc := 58) (n := 2) hx hb dX9_addSeries_58 ?_
          refine zkIx (pc := 59) (zrV (As := [.int (iI 2)]) hx hb hml hown hG hw (c_X9_refuse l Γ K X2 Rf md 2  (by (first | assumption | omega))) (T := TX9) hmd rfl cb_X9_refuse wl_X9_123 rfl ⟨Nat.le_of_ble_eq_true rfl, Nat.le_of_ble_eq_true rfl⟩ hl.1 rfl (Nat.le_of_ble_eq_true rfl) dX9_addSeries_59 ⟨Nat.zero_le _, Nat.zero_le _⟩) hw (fun r59 X59 H locs hp59 hw => ?_)
          obtain ⟨hrf59, eX59⟩ := hp59
          exact zretI (pc := 62) hx hb hlocks hr hw (Nat.zero_le _) (Nat.zero_le _) dX9_addSeries_62 (by refine ⟨fun hz => by (exfalso; revert hz; (unfold cdAse; (repeat' split) <;> omega)), ?_⟩; exact hR.no (by (unfold cdAse; (repeat' split) <;> omega)) (by rw [eX59]; (try rw [eX2]); (try rw [up2_up2]); exact thr_c (by (unfold cdAse; (repeat' split) <;> omega))))
        · skip
          replace c43 := it1 c43
          refine lv_iload (pc := 46) hx hb dX9_addSeries_46 (lv_at hl 5 rfl) ?_
          refine ziconst (pc := 48) (n := 0) hx hb dX9_addSeries_48 ?_
          refine zbipush (pc := 49) (n := 127) hx hb dX9_addSeries_49 rfl ?_
          refine zkIp (pc := 51) (zrS (As := [.int (iI wd), .int (iI 0), .int (iI 127)]) hx hb hml hown hG hw (c_X9_is l Γ K X2 Rf wd 0 127  (by (first | assumption | omega))) cb_X9_is wl_X9_91 rfl ⟨Nat.le_of_ble_eq_true rfl, Nat.le_of_ble_eq_true rfl⟩ hl.1 rfl (Nat.le_of_ble_eq_true rfl) dX9_addSeries_51 ⟨Nat.zero_le _, Nat.zero_le _⟩) hw (fun r51 H locs hp51 hw => ?_)
          subst hp51
          refine zif_ne (pc := 54) hx hb 63 (by omega) dX9_addSeries_54 (by decide) (fun c54 => ?_) (fun c54 => ?_)
          · skip
            replace c54 := it1 c54
            refine lv_aload_n (pc := 63) hx hb dX9_addSeries_63 rfl (lv_at hl 0 rfl) ?_
            refine zgetI (pc := 64) hx hb hG hown hw hmd (T := TX9) rfl 16 (by decide) rfl wf_X9_228 rfl dX9_addSeries_64 ?_
            refine zbipush (pc := 67) (n := 6) hx hb dX9_addSeries_67 rfl ?_
            refine zicmp_ne (pc := 69) hx hb 78 (by omega) (by omega) dX9_addSeries_69 (by decide) (fun c69 => ?_) (fun c69 => ?_)
            · skip
              refine zldc (pc := 78) (n := 73048) hx hb hown hG wk_X9_90 dX9_addSeries_78 ?_
              refine lv_iload_n (pc := 80) hx hb dX9_addSeries_80 rfl (lv_at hl 2 rfl) ?_
              refine zsipush (pc := 81) (n := 1440) hx hb dX9_addSeries_81 rfl ?_
              refine zdiv (pc := 84) hx hb (by omega) dX9_addSeries_84 ?_
              refine zsipush (pc := 85) (n := 4000) hx hb dX9_addSeries_85 rfl ?_
              refine zadd (pc := 88) hx hb dX9_addSeries_88 ?_
              refine zmin (pc := 89) hx hb (hml.trans hl.1.symm) hown hG wl_X9_104 w1_zmn wi_javalangMath w2_zmn (Nat.le_of_ble_eq_true rfl) (Nat.le_of_ble_eq_true rfl) (Nat.zero_le _) (Nat.zero_le _) ⟨by omega, by omega⟩ dX9_addSeries_89 ?_
              refine ztop (fun x92 ex92 => ?_)
              refine lv_istore (pc := 92) (lv' := [(6, .int (iI x92)), (0, .ref md), (1, .int (iI a)), (2, .int (iI bg)), (3, .int (iI ki)), (4, .int (iI st)), (5, .int (iI wd))]) hx hb dX9_addSeries_92 hl (by decide) rfl (fun ls hl => ?_)
              refine zbipush (pc := 94) (n := 11) hx hb dX9_addSeries_94 rfl ?_
              refine znewi (pc := 96) hx hb hG hw wa_int ⟨by omega, by omega⟩ (by show 0 + 1 ≤ 1; omega) (by show 0 + 11 ≤ 11; omega) dX9_addSeries_96 (fun q96 H hfq96 hw => ?_)
              obtain ⟨K96, eK96⟩ : ∃ Y : zK, Y = zup K q96 (2, 11) := ⟨_, rfl⟩
              obtain ⟨X96, eX96⟩ : ∃ Y : zX, Y = zupX X2 q96 := ⟨_, rfl⟩
              obtain ⟨R96, eR96⟩ : ∃ Y : zR, Y = zupR Rf q96 := ⟨_, rfl⟩
              replace hw := Wd.re hw eK96 eX96 eR96
              have hk96 : K96 md = (1, 8) := by rw [eK96]; exact zup_k hfq96 hmd (Nat.succ_ne_zero _)
              have hn96 : Apt md q96 := zne hmd hfq96
              have hk96_1 : K96 a17 = (2, 66) := by rw [eK96]; exact zup_k hfq96 hA17 (Nat.succ_ne_zero _)
              have hn96_1 : Apt a17 q96 := zne hA17 hfq96
              have hk96_2 : K96 q96 = (2, 11) := by rw [eK96]; exact zup_s
              have hr96 : R96 md 17 = some a17 := by rw [eR96, zupR_n hn96]; exact hB17
              refine lv_dup (pc := 98) hx hb dX9_addSeries_98 rfl ?_
              refine ziconst (pc := 99) (n := 0) hx hb dX9_addSeries_99 ?_
              refine lv_iload_n (pc := 100) hx hb dX9_addSeries_100 rfl (lv_at hl 2 rfl) ?_
              refine zast (pc := 101) hx hb hw hk96_2 ⟨by omega, by omega⟩ (by omega) dX9_addSeries_101 (fun H locs hw => ?_)
              obtain ⟨X101, eX101⟩ : ∃ Y : zX, Y = up2 X96 q96 0 a := ⟨_, rfl⟩
              replace hw := Wd.re hw rfl eX101 rfl
              refine lv_dup (pc := 102) hx hb dX9_addSeries_102 rfl ?_
              refine ziconst (pc := 103) (n := 1) hx hb dX9_addSeries_103 ?_
              refine lv_iload_n (pc := 104) hx hb dX9_addSeries_104 rfl (lv_at hl 3 rfl) ?_
              refine zast (pc := 105) hx hb hw hk96_2 ⟨by omega, by omega⟩ (by omega) dX9_addSeries_105 (fun H locs hw => ?_)
              obtain ⟨X105, eX105⟩ : ∃ Y : zX, Y = up2 X101 q96 1 bg := ⟨_, rfl⟩
              replace hw := Wd.re hw rfl eX105 rfl
              refine lv_dup (pc := 106) hx hb dX9_addSeries_106 rfl ?_
              refine ziconst (pc := 107) (n := 2) hx hb dX9_addSeries_107 ?_
              refine lv_iload_n (pc := 108) hx hb dX9_addSeries_108 rfl (lv_at hl 4 rfl) ?_
              refine zast (pc := 109) hx hb hw hk96_2 ⟨by omega, by omega⟩ (by omega) dX9_addSeries_109 (fun H locs hw => ?_)
              obtain ⟨X109, eX109⟩ : ∃ Y : zX, Y = up2 X105 q96 2 ki := ⟨_, rfl⟩
              replace hw := Wd.re hw rfl eX109 rfl
              refine lv_dup (pc := 110) hx hb dX9_addSeries_110 rfl ?_
              refine ziconst (pc := 111) (n := 3) hx hb dX9_addSeries_111 ?_
              refine lv_iload (pc := 112) hx hb dX9_addSeries_112 (lv_at hl 5 rfl) ?_
              refine zast (pc := 114) hx hb hw hk96_2 ⟨by omega, by omega⟩ (by omega) dX9_addSeries_114 (fun H locs hw => ?_)
              obtain ⟨X114, eX114⟩ : ∃ Y : zX, Y = up2 X109 q96 3 st := ⟨_, rfl⟩
              replace hw := Wd.re hw rfl eX114 rfl
              refine lv_dup (pc := 115) hx hb dX9_addSeries_115 rfl ?_
              refine ziconst (pc := 116) (n := 4) hx hb dX9_addSeries_116 ?_
              refine lv_iload (pc := 117) hx hb dX9_addSeries_117 (lv_at hl 6 rfl) ?_
              refine zast (pc := 119) hx hb hw hk96_2 ⟨by omega, by omega⟩ (by omega) dX9_addSeries_119 (fun H locs hw => ?_)
              obtain ⟨X119, eX119⟩ : ∃ Y : zX, Y = up2 X114 q96 4 wd := ⟨_, rfl⟩
              replace hw := Wd.re hw rfl eX119 rfl
              refine lv_dup (pc := 120) hx hb dX9_addSeries_120 rfl ?_
              refine ziconst (pc := 121) (n := 5) hx hb dX9_addSeries_121 ?_
              refine ziconst (pc := 122) (n := 0) hx hb dX9_addSeries_122 ?_
              refine zast (pc := 123) hx hb hw hk96_2 ⟨by omega, by omega⟩ (by omega) dX9_addSeries_123 (fun H locs hw => ?_)
              obtain ⟨X123, eX123⟩ : ∃ Y : zX, Y = up2 X119 q96 5 0 := ⟨_, rfl⟩
              replace hw := Wd.re hw rfl eX123 rfl
              refine lv_dup (pc := 124) hx hb dX9_addSeries_124 rfl ?_
              refine zbipush (pc := 125) (n := 6) hx hb dX9_addSeries_125 rfl ?_
              refine ziconst (pc := 127) (n := 0) hx hb dX9_addSeries_127 ?_
              refine zast (pc := 128) hx hb hw hk96_2 ⟨by omega, by omega⟩ (by omega) dX9_addSeries_128 (fun H locs hw => ?_)
              obtain ⟨X128, eX128⟩ : ∃ Y : zX, Y = up2 X123 q96 6 0 := ⟨_, rfl⟩
              replace hw := Wd.re hw rfl eX128 rfl
              refine lv_dup (pc := 129) hx hb dX9_addSeries_129 rfl ?_
              refine zbipush (pc := 130) (n := 7) hx hb dX9_addSeries_130 rfl ?_
              refine lv_iload (pc := 132) hx hb dX9_addSeries_132 (lv_at hl 0 rfl) ?_
              refine zast (pc := 134) hx hb hw hk96_2 ⟨by omega, by omega⟩ (by omega) dX9_addSeries_134 (fun H locs hw => ?_)
              obtain ⟨X134, eX134⟩ : ∃ Y : zX, Y = up2 X128 q96 7 x92 := ⟨_, rfl⟩
              replace hw := Wd.re hw rfl eX134 rfl
              refine lv_dup (pc := 135) hx hb dX9_addSeries_135 rfl ?_
              refine zbipush (pc := 136) (n := 8) hx hb dX9_addSeries_136 rfl ?_
              refine lv_iload (pc := 138) hx hb dX9_addSeries_138 (lv_at hl 0 rfl) ?_
              refine zast (pc := 140) hx hb hw hk96_2 ⟨by omega, by omega⟩ (by omega) dX9_addSeries_140 (fun H locs hw => ?_)
              obtain ⟨X140, eX140⟩ : ∃ Y : zX, Y = up2 X134 q96 8 x92 := ⟨_, rfl⟩
              replace hw := Wd.re hw rfl eX140 rfl
              refine lv_dup (pc := 141) hx hb dX9_addSeries_141 rfl ?_
              refine zbipush (pc := 142) (n := 9) hx hb dX9_addSeries_142 rfl ?_
              refine ziconst (pc := 144) (n := 0) hx hb dX9_addSeries_144 ?_
              refine zast (pc := 145) hx hb hw hk96_2 ⟨by omega, by omega⟩ (by omega) dX9_addSeries_145 (fun H locs hw => ?_)
              obtain ⟨X145, eX145⟩ : ∃ Y : zX, Y = up2 X140 q96 9 0 := ⟨_, rfl⟩
              replace hw := Wd.re hw rfl eX145 rfl
              refine lv_dup (pc := 146) hx hb dX9_addSeries_146 rfl ?_
              refine zbipush (pc := 147) (n := 10) hx hb dX9_addSeries_147 rfl ?_
              refine ziconst (pc := 149) (n := 0) hx hb dX9_addSeries_149 ?_
              refine zast (pc := 150) hx hb hw hk96_2 ⟨by omega, by omega⟩ (by omega) dX9_addSeries_150 (fun H locs hw => ?_)
              obtain ⟨X150, eX150⟩ : ∃ Y : zX, Y = up2 X145 q96 10 0 := ⟨_, rfl⟩
              replace hw := Wd.re hw rfl eX150 rfl
              have hz16_150 : X150 md 16 = M 40 16 := by
                have hne := zfa (zk1 hmd) hfq96
                rw [eX150, up2_o hne, eX145, up2_o hne, eX140, up2_o hne, eX134, up2_o hne, eX128, up2_o hne, eX123, up2_o hne, eX119, up2_o hne, eX114, up2_o hne, eX109, up2_o hne, eX105, up2_o hne, eX101, up2_o hne, eX96, zupX_n hne]; exact hz16
              refine lv_astore (pc := 151) (lv' := [(7, .ref q96), (6, .int (iI x92)), (0, .ref md), (1, .int (iI a)), (2, .int (iI bg)), (3, .int (iI ki)), (4, .int (iI st)), (5, .int (iI wd))]) hx hb dX9_addSeries_151 hl (by decide) rfl (fun ls hl => ?_)
              refine lv_aload (pc := 153) hx hb dX9_addSeries_153 (lv_at hl 0 rfl) ?_
              refine ziconst (pc := 155) (n := 0) hx hb dX9_addSeries_155 ?_
              refine lv_aload_n (pc := 156) hx hb dX9_addSeries_156 rfl (lv_at hl 2 rfl) ?_
              refine zgetR (pc := 157) hx hb hG hown hw hk96 (T := TX9) rfl 17 (by decide) rfl wf_X9_39 rfl hr96 dX9_addSeries_157 ?_
              refine zbipush (pc := 160) (n := 11) hx hb dX9_addSeries_160 rfl ?_
              refine lv_aload_n (pc := 162) hx hb dX9_addSeries_162 rfl (lv_at hl 2 rfl) ?_
              refine zgetI (pc := 163) hx hb hG hown hw hk96 (T := TX9) rfl 16 (by decide) rfl wf_X9_228 rfl dX9_addSeries_163 ?_
              refine zmul (pc := 166) hx hb dX9_addSeries_166 ?_
              refine zbipush (pc := 167) (n := 11) hx hb dX9_addSeries_167 rfl ?_
              refine zcopy (pc := 169) hx hb (hml.trans hl.1.symm) hown hG wl_X9_164 w2_zco w1_zco wi_javalangSystem hw hk96_2 hk96_1 (by omega) (by omega) (Nat.le_of_ble_eq_true rfl) (Nat.le_of_ble_eq_true rfl) dX9_addSeries_169 (fun H locs hw => ?_)
              obtain ⟨X169, eX169⟩ : ∃ Y : zX, Y = zcp X150 q96 a17 0 (11 * (X150 md 16)).toNat 11 := ⟨_, rfl⟩
              replace hw := Wd.re hw rfl eX169 rfl
              have hz16_169 : X169 md 16 = M 40 16 := by rw [eX169, zcp_o (Ne.symm hN17)]; exact hz16_150
              refine lv_aload_n (pc := 172) hx hb dX9_addSeries_172 rfl (lv_at hl 2 rfl) ?_
              refine lv_dup (pc := 173) hx hb dX9_addSeries_173 rfl ?_
              refine zgetI (pc := 174) hx hb hG hown hw hk96 (T := TX9) rfl 16 (by decide) rfl wf_X9_228 rfl dX9_addSeries_174 ?_
              refine ziconst (pc := 177) (n := 1) hx hb dX9_addSeries_177 ?_
              refine zadd (pc := 178) hx hb dX9_addSeries_178 ?_
              refine zputI (pc := 179) hx hb hG hown hw hk96 (T := TX9) rfl 16 (by decide) rfl wf_X9_228 rfl (by decide +kernel) rfl dX9_addSeries_179 (fun H locs hw => ?_)
              obtain ⟨X179, eX179⟩ : ∃ Y : zX, Y = up2 X169 md 16 ((X169 md 16) + 1) := ⟨_, rfl⟩
              rw [← eX179] at hw
              have hz16_179 : X179 md 16 = M 40 16 + 1 := by rw [eX179, up2_s, hz16_169]
              rw [hz16_169, hi9] at eX179
              refine lv_aload_n (pc := 182) hx hb dX9_addSeries_182 rfl (lv_at hl 2 rfl) ?_
              refine zgetI (pc := 183) hx hb hG hown hw hk96 (T := TX9) rfl 16 (by decide) rfl wf_X9_228 rfl dX9_addSeries_183 ?_
              refine ziconst (pc := 186) (n := 1) hx hb dX9_addSeries_186 ?_
              refine zsub (pc := 187) hx hb dX9_addSeries_187 ?_
              exact zretI (pc := 188) hx hb hlocks hr hw (by show 0 + 1 ≤ 1; omega) (by show 0 + 11 ≤ 11; omega) dX9_addSeries_188 (by 
                                        refine ⟨fun _ => by omega, ?_⟩
                                        have hi8 : (M 40 16).toNat = i9 := by omega
                                        rw [hi8]
                                        have gK : ∀ a9, (K a9).1 ≠ 0 → K96 a9 = K a9 := fun a9 h9 => by rw [eK96, zup_n (zfa h9 hfq96)]
                                        have gR : ∀ a9, (K a9).1 ≠ 0 → R96 a9 = Rf a9 := fun a9 h9 => by rw [eR96, zupR_n (zfa h9 hfq96)]
                                        have hmn : (K md).1 ≠ 0 := zk1 hmd
                                        have hdp : (11 * X150 md 16).toNat = 11 * i9 := by omega
                                        rw [hdp] at eX169
                                        have XS : ∀ j, j < 11 → X150 q96 j = seV a bg ki st wd j := fun j hj => by
                                          rcases (by omega : j = 0 ∨ j = 1 ∨ j = 2 ∨ j = 3 ∨ j = 4 ∨ j = 5 ∨ j = 6 ∨ j = 7 ∨ j = 8 ∨ j = 9 ∨ j = 10) with rfl | rfl | rfl | rfl | rfl | rfl | rfl | rfl | rfl | rfl | rfl <;> (rw [eX150, eX145, eX140, eX134, eX128, eX123, eX119, eX114, eX109, eX105, eX101]; simp [up2, seV, ex92])
                                        have gX : ∀ a9, (K a9).1 ≠ 0 → X150 a9 = X2 a9 := fun a9 h9 => by
                                          have hne := zfa h9 hfq96
                                          rw [eX150, up2_o hne, eX145, up2_o hne, eX140, up2_o hne, eX134, up2_o hne, eX128, up2_o hne, eX123, up2_o hne, eX119, up2_o hne, eX114, up2_o hne, eX109, up2_o hne, eX105, up2_o hne, eX101, up2_o hne, eX96, zupX_n hne]
                                        have gX8 : ∀ b, (K b).1 ≠ 0 → b ≠ md → b ≠ a17 → X179 b = X b := fun b h9 g1 g2 => by rw [eX179, up2_o g1, eX169, zcp_o g2, gX b h9, eX2, up2_o g1]
                                        have hn0 : repN ρ K X2 Rf md M := by rw [eX2]; exact hR.n.own (q := 0) (v := 0) rfl
                                        have hn1 := hn0.ext (ρ' := ρ) (K' := K96) (X' := X150) (Rf' := R96) gK (fun _ _ => rfl) gX (gR md hmn)
                                        have r17 : R96 md 17 = some a17 := by rw [gR md hmn]; exact hB17
                                        have x17 : X150 a17 = M 17 := by rw [gX a17 (zk1 hA17)]; exact hE17
                                        have hn2 := (hn1.rowF (f := 17) (a := a17) (X' := X169) (M' := fun g => if g = 17 then seM M i9 a bg ki st wd 17 else M g) (by decide) r17 (fun b hb => by rw [eX169, zcp_o hb]) (fun g hg => if_neg hg) (fun _ => by
                                          show X169 a17 = seM M i9 a bg ki st wd 17
                                          funext j
                                          rw [eX169]
                                          unfold zcp seM
                                          rw [if_pos rfl]
                                          by_cases hj : 11 * i9 ≤ j ∧ j < 11 * i9 + 11
                                          · rw [if_pos hj, if_pos ⟨rfl, hj⟩, Nat.zero_add]; exact XS _ (by omega)
                                          · rw [if_neg hj, if_neg (fun g => hj g.2), if_neg (fun g => absurd g.1 (by decide)), x17])).num (q := 16) (v := (i9 : Int) + 1)
                                        have eM : upM (fun g => if g = 17 then seM M i9 a bg ki st wd 17 else M g) 16 ((i9 : Int) + 1) = seM M i9 a bg ki st wd := by
                                          funext f k
                                          unfold upM
                                          rw [up2_eq]
                                          by_cases h17 : f = 17
                                          · subst h17; rw [if_neg (fun g => absurd g.1 (by decide))]; rfl
                                          · show (if f = 40 ∧ k = 16 then (i9 : Int) + 1 else (if f = 17 then seM M i9 a bg ki st wd 17 else M f) k) = _
                                            rw [if_neg h17]
                                            unfold seM
                                            rw [if_neg (show ¬(f = 17 ∧ 11 * i9 ≤ k ∧ k < 11 * i9 + 11) from fun g => h17 g.1)]
                                        have hn3 : repN ρ K96 X179 R96 md (seM M i9 a bg ki st wd) := by rw [eX179, ← eM]; exact hn2
                                        have h35 : X179 md 35 = X md 35 := by rw [eX179, up2_k (by decide), eX169, zcp_o (Ne.symm hN17), gX md hmn, eX2, up2_k (by decide)]
                                        have h0 : X179 md 0 = 0 := by rw [eX179, up2_k (by decide), eX169, zcp_o (Ne.symm hN17), gX md hmn, eX2, up2_s]
                                        exact hR.mutG (cd := cdAse M a bg ki st wd) gK (fun _ _ => rfl) hn3 (fun b h9 g => ⟨gX8 b h9 (fun w => by rw [w, hlmd] at g; omega) (fun w => by rw [w, hL17] at g; omega), gR b h9⟩) (cacR.ser hR hi9 gK (fun b h9 g1 g2 => gX8 b h9 (fun w => g1 (by rw [w]; exact hlmd)) (fun w => g2 (by rw [w]; exact hL17))) gR h35) h0 (by (unfold cdAse; (repeat' split) <;> omega)) (hR.pt (gR md hmn) (fun b h9 g => gX8 b h9 (fun w => by rw [w, hlmd] at g; omega) (fun w => by rw [w, hL17] at g; omega)) (fun b h9 _ => gR b h9)))
            · skip
              refine lv_aload_n (pc := 72) hx hb dX9_addSeries_72 rfl (lv_at hl 0 rfl) ?_
              refine ziconst (pc := 73) (n := 3) hx hb dX9_addSeries_73 ?_
              refine zkIx (pc := 74) (zrV (As := [.int (iI 3)]) hx hb hml hown hG hw (c_X9_refuse l Γ K X2 Rf md 3  (by (first | assumption | omega))) (T := TX9) hmd rfl cb_X9_refuse wl_X9_123 rfl ⟨Nat.le_of_ble_eq_true rfl, Nat.le_of_ble_eq_true rfl⟩ hl.1 rfl (Nat.le_of_ble_eq_true rfl) dX9_addSeries_74 ⟨Nat.zero_le _, Nat.zero_le _⟩) hw (fun r74 X74 H locs hp74 hw => ?_)
              obtain ⟨hrf74, eX74⟩ := hp74
              exact zretI (pc := 77) hx hb hlocks hr hw (Nat.zero_le _) (Nat.zero_le _) dX9_addSeries_77 (by refine ⟨fun hz => by (exfalso; revert hz; (unfold cdAse; (repeat' split) <;> omega)), ?_⟩; exact hR.no (by (unfold cdAse; (repeat' split) <;> omega)) (by rw [eX74]; (try rw [eX2]); (try rw [up2_up2]); exact thr_c (by (unfold cdAse; (repeat' split) <;> omega))))
          · skip
            replace c54 := it0 c54
            refine lv_aload_n (pc := 57) hx hb dX9_addSeries_57 rfl (lv_at hl 0 rfl) ?_
            refine ziconst (pc := 58) (n := 2) hx hb dX9_addSeries_58 ?_
            refine zkIx (pc := 59) (zrV (As := [.int (iI 2)]) hx hb hml hown hG hw (c_X9_refuse l Γ K X2 Rf md 2  (by (first | assumption | omega))) (T := TX9) hmd rfl cb_X9_refuse wl_X9_123 rfl ⟨Nat.le_of_ble_eq_true rfl, Nat.le_of_ble_eq_true rfl⟩ hl.1 rfl (Nat.le_of_ble_eq_true rfl) dX9_addSeries_59 ⟨Nat.zero_le _, Nat.zero_le _⟩) hw (fun r59 X59 H locs hp59 hw => ?_)
            obtain ⟨hrf59, eX59⟩ := hp59
            exact zretI (pc := 62) hx hb hlocks hr hw (Nat.zero_le _) (Nat.zero_le _) dX9_addSeries_62 (by refine ⟨fun hz => by (exfalso; revert hz; (unfold cdAse; (repeat' split) <;> omega)), ?_⟩; exact hR.no (by (unfold cdAse; (repeat' split) <;> omega)) (by rw [eX59]; (try rw [eX2]); (try rw [up2_up2]); exact thr_c (by (unfold cdAse; (repeat' split) <;> omega))))
  · skip
    replace c10 := it0 c10
    refine lv_aload_n (pc := 13) hx hb dX9_addSeries_13 rfl (lv_at hl 0 rfl) ?_
    refine ziconst (pc := 14) (n := 1) hx hb dX9_addSeries_14 ?_
    refine zkIx (pc := 15) (zrV (As := [.int (iI 1)]) hx hb hml hown hG hw (c_X9_refuse l Γ K X2 Rf md 1  (by (first | assumption | omega))) (T := TX9) hmd rfl cb_X9_refuse wl_X9_123 rfl ⟨Nat.le_of_ble_eq_true rfl, Nat.le_of_ble_eq_true rfl⟩ hl.1 rfl (Nat.le_of_ble_eq_true rfl) dX9_addSeries_15 ⟨Nat.zero_le _, Nat.zero_le _⟩) hw (fun r15 X15 H locs hp15 hw => ?_)
    obtain ⟨hrf15, eX15⟩ := hp15
    exact zretI (pc := 18) hx hb hlocks hr hw (Nat.zero_le _) (Nat.zero_le _) dX9_addSeries_18 (by refine ⟨fun hz => by (exfalso; revert hz; (unfold cdAse; (repeat' split) <;> omega)), ?_⟩; exact hR.no (by (unfold cdAse; (repeat' split) <;> omega)) (by rw [eX15]; (try rw [eX2]); (try rw [up2_up2]); exact thr_c (by (unfold cdAse; (repeat' split) <;> omega))))
