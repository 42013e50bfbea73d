set_option maxHeartbeats 4000000 in
set_option maxRecDepth 100000 in
theorem c_X9_addPattern (l : Launch) (Γ : zG) (K : zK) (X : zX) (Rf : zR) (md : Nat) (mo : Int) (ki : Int) (nu : Int) (ρ : zL) (M : zM) (hR : repR ρ K X Rf md M) (hM : okM M) (h1 : fit mo ∧ fit ki ∧ fit nu) : Ct l yX9_addPattern cX9_addPattern 4 (some .int) 1 0 0 Γ [.ref md, .int (iI mo), .int (iI ki), .int (iI nu)] K X Rf (pI (fun (r : Int) (K' : zK) (X' : zX) (R' : zR) => (cdAdp M mo ki nu = 0 → r = M 40 1) ∧ X' md 0 = cdAdp M mo ki nu ∧ ∃ ρ', repR ρ' K' X' R' md (if cdAdp M mo ki nu = 0 then padM M (M 40 1).toNat mo ki nu else M) ∧ frR ρ K X Rf ρ' K' X' R' ∧ ptR X' R' md ≤ ptR X Rf md + 5000)) := by
  refine Ct.of (by decide +kernel) (Nat.le_of_ble_eq_true rfl) ?_
  intro p e s m below meth c ls hx hb hr hml hown hG hlocks hname hw hl
  have hl : lv_has ls 4 [(0, .ref md), (1, .int (iI mo)), (2, .int (iI ki)), (3, .int (iI nu))] := hl
  obtain ⟨hmd, hlmd⟩ := id hR.1
  obtain ⟨⟨hb1, hb2, hb3, hb4⟩, hokP, hokL, hokS, hokW, hokF⟩ := id hM
  have hq1 : X md 1 = M 40 1 := hR.2.1 1 rfl
  have hq5 : X md 5 = M 40 5 := hR.2.1 5 rfl
  have hq16 : X md 16 = M 40 16 := hR.2.1 16 rfl
  have hq25 : X md 25 = M 40 25 := hR.2.1 25 rfl
  have hq26 : X md 26 = M 40 26 := hR.2.1 26 rfl
  have hq27 : X md 27 = M 40 27 := hR.2.1 27 rfl
  have hq28 : X md 28 = M 40 28 := hR.2.1 28 rfl
  have hq29 : X md 29 = M 40 29 := hR.2.1 29 rfl
  obtain ⟨a2, hB2, hA2, hL2, hD2⟩ : ∃ a, Rf md 2 = some a ∧ K a = (2, 24) ∧ ρ a = 2003 ∧ X a = M 2 := hR.fd 2 (by decide) rfl
  have hN2 : Apt a2 md := zkn2 hA2 hmd (by simp)
  obtain ⟨a3, hB3, hA3, hL3, hD3⟩ : ∃ a, Rf md 3 = some a ∧ K a = (2, 24) ∧ ρ a = 2004 ∧ X a = M 3 := hR.fd 3 (by decide) rfl
  have hN3 : Apt a3 md := zkn2 hA3 hmd (by simp)
  obtain ⟨a4, hB4, hA4, hL4, hD4⟩ : ∃ a, Rf md 4 = some a ∧ K a = (2, 24) ∧ ρ a = 2005 ∧ X a = M 4 := hR.fd 4 (by decide) rfl
  have hN4 : Apt a4 md := zkn2 hA4 hmd (by simp)
  obtain ⟨i9, hi9⟩ : ∃ i9 : Nat, M 40 1 = i9 := ⟨(M 40 1).toNat, by omega⟩
  refine lv_aload_n (pc := 0) hx hb dX9_addPattern_0 rfl (lv_at hl 0 rfl) ?_
  refine ziconst (pc := 1) (n := 0) hx hb dX9_addPattern_1 ?_
  refine zputI (pc := 2) hx hb hG hown hw hmd (T := TX9) rfl 0 (by decide) rfl wf_X9_87 rfl (by decide +kernel) rfl dX9_addPattern_2 (fun H locs hw => ?_)
  obtain ⟨X2, eX2⟩ : ∃ Y : zX, Y = up2 X md 0 0 := ⟨_, rfl⟩
  rw [← eX2] at hw
  have hE2 : X2 a2 = M 2 := by rw [eX2, up2_o hN2]; exact hD2
  have hE3 : X2 a3 = M 3 := by rw [eX2, up2_o hN3]; exact hD3
  have hE4 : X2 a4 = M 4 := by rw [eX2, up2_o hN4]; exact hD4
  have hz1 : X2 md 1 = M 40 1 := by rw [eX2, up2_k (by decide)]; exact hq1
  refine lv_iload_n (pc := 5) hx hb dX9_addPattern_5 rfl (lv_at hl 1 rfl) ?_
  refine ziconst (pc := 6) (n := 0) hx hb dX9_addPattern_6 ?_
  refine zbipush (pc := 7) (n := 12) hx hb dX9_addPattern_7 rfl ?_
  refine zkIp (pc := 9) (zrS (As := [.int (iI mo), .int (iI 0), .int (iI 12)]) hx hb hml hown hG hw (c_X9_is l Γ K X2 Rf mo 0 12  (by (first | assumption | omega))) cb_X9_is wl_X9_91 rfl ⟨Nat.le_of_ble_eq_true rfl, Nat.le_of_ble_eq_true rfl⟩ hl.1 rfl (Nat.le_of_ble_eq_true rfl) dX9_addPattern_9 ⟨Nat.zero_le _, Nat.zero_le _⟩) hw (fun r9 H locs hp9 hw => ?_)
  subst hp9
  refine zif_eq (pc := 12) hx hb 66 (by omega) dX9_addPattern_12 (by decide) (fun c12 => ?_) (fun c12 => ?_)
  · skip
    replace c12 := it0 c12
    refine lv_aload_n (pc := 66) hx hb dX9_addPattern_66 rfl (lv_at hl 0 rfl) ?_
    refine ziconst (pc := 67) (n := 1) hx hb dX9_addPattern_67 ?_
    refine zkIx (pc := 68) (zrV (As := [.int (iI 1)]) hx hb hml hown hG hw (c_X9_refuse l Γ K X2 Rf md 1  (by (first | assumption | omega))) (T := TX9) hmd rfl cb_X9_refuse wl_X9_123 rfl ⟨Nat.le_of_ble_eq_true rfl, Nat.le_of_ble_eq_true rfl⟩ hl.1 rfl (Nat.le_of_ble_eq_true rfl) dX9_addPattern_68 ⟨Nat.zero_le _, Nat.zero_le _⟩) hw (fun r68 X68 H locs hp68 hw => ?_)
    obtain ⟨hrf68, eX68⟩ := hp68
    exact zretI (pc := 71) hx hb hlocks hr hw (Nat.zero_le _) (Nat.zero_le _) dX9_addPattern_71 (by refine ⟨fun hz => by (exfalso; revert hz; (unfold cdAdp; (repeat' split) <;> omega)), ?_⟩; exact hR.no (by (unfold cdAdp; (repeat' split) <;> omega)) (by rw [eX68]; (try rw [eX2]); (try rw [up2_up2]); exact thr_c (by (unfold cdAdp; (repeat' split) <;> omega))))
  · skip
    replace c12 := it1 c12
    refine lv_iload_n (pc := 15) hx hb dX9_addPattern_15 rfl (lv_at hl 2 rfl) ?_
    refine ziconst (pc := 16) (n := 0) hx hb dX9_addPattern_16 ?_
    refine zbipush (pc := 17) (n := 16) hx hb dX9_addPattern_17 rfl ?_
    refine zkIp (pc := 19) (zrS (As := [.int (iI ki), .int (iI 0), .int (iI 16)]) hx hb hml hown hG hw (c_X9_is l Γ K X2 Rf ki 0 16  (by (first | assumption | omega))) cb_X9_is wl_X9_91 rfl ⟨Nat.le_of_ble_eq_true rfl, Nat.le_of_ble_eq_true rfl⟩ hl.1 rfl (Nat.le_of_ble_eq_true rfl) dX9_addPattern_19 ⟨Nat.zero_le _, Nat.zero_le _⟩) hw (fun r19 H locs hp19 hw => ?_)
    subst hp19
    refine zif_eq (pc := 22) hx hb 66 (by omega) dX9_addPattern_22 (by decide) (fun c22 => ?_) (fun c22 => ?_)
    · skip
      replace c22 := it0 c22
      refine lv_aload_n (pc := 66) hx hb dX9_addPattern_66 rfl (lv_at hl 0 rfl) ?_
      refine ziconst (pc := 67) (n := 1) hx hb dX9_addPattern_67 ?_
      refine zkIx (pc := 68) (zrV (As := [.int (iI 1)]) hx hb hml hown hG hw (c_X9_refuse l Γ K X2 Rf md 1  (by (first | assumption | omega))) (T := TX9) hmd rfl cb_X9_refuse wl_X9_123 rfl ⟨Nat.le_of_ble_eq_true rfl, Nat.le_of_ble_eq_true rfl⟩ hl.1 rfl (Nat.le_of_ble_eq_true rfl) dX9_addPattern_68 ⟨Nat.zero_le _, Nat.zero_le _⟩) hw (fun r68 X68 H locs hp68 hw => ?_)
      obtain ⟨hrf68, eX68⟩ := hp68
      exact zretI (pc := 71) hx hb hlocks hr hw (Nat.zero_le _) (Nat.zero_le _) dX9_addPattern_71 (by refine ⟨fun hz => by (exfalso; revert hz; (unfold cdAdp; (repeat' split) <;> omega)), ?_⟩; exact hR.no (by (unfold cdAdp; (repeat' split) <;> omega)) (by rw [eX68]; (try rw [eX2]); (try rw [up2_up2]); exact thr_c (by (unfold cdAdp; (repeat' split) <;> omega))))
    · skip
      replace c22 := it1 c22
      refine lv_iload_n (pc := 25) hx hb dX9_addPattern_25 rfl (lv_at hl 3 rfl) ?_
      refine ziconst (pc := 26) (n := 1) hx hb dX9_addPattern_26 ?_
      refine lv_iload_n (pc := 27) hx hb dX9_addPattern_27 rfl (lv_at hl 2 rfl) ?_
      refine ziconst (pc := 28) (n := 2) hx hb dX9_addPattern_28 ?_
      refine zicmp_ge (pc := 29) hx hb 37 (by omega) (by omega) dX9_addPattern_29 (by decide) (fun c29 => ?_) (fun c29 => ?_)
      · skip
        refine lv_iload_n (pc := 37) hx hb dX9_addPattern_37 rfl (lv_at hl 2 rfl) ?_
        refine zbipush (pc := 38) (n := 16) hx hb dX9_addPattern_38 rfl ?_
        refine zicmp_ge (pc := 40) hx hb 47 (by omega) (by omega) dX9_addPattern_40 (by decide) (fun c40 => ?_) (fun c40 => ?_)
        · skip
          refine zsipush (pc := 47) (n := 200) hx hb dX9_addPattern_47 rfl ?_
          refine zkIp (pc := 50) (zrS (As := [.int (iI nu), .int (iI 1), .int (iI 200)]) hx hb hml hown hG hw (c_X9_is l Γ K X2 Rf nu 1 200  (by (first | assumption | omega))) cb_X9_is wl_X9_91 rfl ⟨Nat.le_of_ble_eq_true rfl, Nat.le_of_ble_eq_true rfl⟩ hl.1 rfl (Nat.le_of_ble_eq_true rfl) dX9_addPattern_50 ⟨Nat.zero_le _, Nat.zero_le _⟩) hw (fun r50 H locs hp50 hw => ?_)
          subst hp50
          refine zif_eq (pc := 53) hx hb 66 (by omega) dX9_addPattern_53 (by decide) (fun c53 => ?_) (fun c53 => ?_)
          · skip
            replace c53 := it0 c53
            refine lv_aload_n (pc := 66) hx hb dX9_addPattern_66 rfl (lv_at hl 0 rfl) ?_
            refine ziconst (pc := 67) (n := 1) hx hb dX9_addPattern_67 ?_
            refine zkIx (pc := 68) (zrV (As := [.int (iI 1)]) hx hb hml hown hG hw (c_X9_refuse l Γ K X2 Rf md 1  (by (first | assumption | omega))) (T := TX9) hmd rfl cb_X9_refuse wl_X9_123 rfl ⟨Nat.le_of_ble_eq_true rfl, Nat.le_of_ble_eq_true rfl⟩ hl.1 rfl (Nat.le_of_ble_eq_true rfl) dX9_addPattern_68 ⟨Nat.zero_le _, Nat.zero_le _⟩) hw (fun r68 X68 H locs hp68 hw => ?_)
            obtain ⟨hrf68, eX68⟩ := hp68
            exact zretI (pc := 71) hx hb hlocks hr hw (Nat.zero_le _) (Nat.zero_le _) dX9_addPattern_71 (by refine ⟨fun hz => by (exfalso; revert hz; (unfold cdAdp; (repeat' split) <;> omega)), ?_⟩; exact hR.no (by (unfold cdAdp; (repeat' split) <;> omega)) (by rw [eX68]; (try rw [eX2]); (try rw [up2_up2]); exact thr_c (by (unfold cdAdp; (repeat' split) <;> omega))))
          · skip
            replace c53 := it1 c53
            refine lv_iload_n (pc := 56) hx hb dX9_addPattern_56 rfl (lv_at hl 2 rfl) ?_
            refine zbipush (pc := 57) (n := 16) hx hb dX9_addPattern_57 rfl ?_
            refine zicmp_ne (pc := 59) hx hb 72 (by omega) (by omega) dX9_addPattern_59 (by decide) (fun c59 => ?_) (fun c59 => ?_)
            · skip
              refine lv_aload_n (pc := 72) hx hb dX9_addPattern_72 rfl (lv_at hl 0 rfl) ?_
              refine zgetI (pc := 73) hx hb hG hown hw hmd (T := TX9) rfl 1 (by decide) rfl wf_X9_142 rfl dX9_addPattern_73 ?_
              refine zbipush (pc := 76) (n := 24) hx hb dX9_addPattern_76 rfl ?_
              refine zicmp_ne (pc := 78) hx hb 87 (by omega) (by omega) dX9_addPattern_78 (by decide) (fun c78 => ?_) (fun c78 => ?_)
              · skip
                refine lv_aload_n (pc := 87) hx hb dX9_addPattern_87 rfl (lv_at hl 0 rfl) ?_
                refine zgetR (pc := 88) hx hb hG hown hw hmd (T := TX9) rfl 2 (by decide) rfl wf_X9_9 rfl hB2 dX9_addPattern_88 ?_
                refine lv_aload_n (pc := 91) hx hb dX9_addPattern_91 rfl (lv_at hl 0 rfl) ?_
                refine zgetI (pc := 92) hx hb hG hown hw hmd (T := TX9) rfl 1 (by decide) rfl wf_X9_142 rfl dX9_addPattern_92 ?_
                refine lv_iload_n (pc := 95) hx hb dX9_addPattern_95 rfl (lv_at hl 1 rfl) ?_
                refine zast (pc := 96) hx hb hw hA2 ⟨by omega, by omega⟩ (by omega) dX9_addPattern_96 (fun H locs hw => ?_)
                obtain ⟨X96, eX96⟩ : ∃ Y : zX, Y = up2 X2 a2 (X2 md 1).toNat mo := ⟨_, rfl⟩
                rw [← eX96] at hw
                have hz1_96 : X96 md 1 = M 40 1 := by rw [eX96, up2_o (Ne.symm hN2)]; exact hz1
                refine lv_aload_n (pc := 97) hx hb dX9_addPattern_97 rfl (lv_at hl 0 rfl) ?_
                refine zgetR (pc := 98) hx hb hG hown hw hmd (T := TX9) rfl 3 (by decide) rfl wf_X9_13 rfl hB3 dX9_addPattern_98 ?_
                refine lv_aload_n (pc := 101) hx hb dX9_addPattern_101 rfl (lv_at hl 0 rfl) ?_
                refine zgetI (pc := 102) hx hb hG hown hw hmd (T := TX9) rfl 1 (by decide) rfl wf_X9_142 rfl dX9_addPattern_102 ?_
                refine lv_iload_n (pc := 105) hx hb dX9_addPattern_105 rfl (lv_at hl 2 rfl) ?_
                refine zast (pc := 106) hx hb hw hA3 ⟨by omega, by omega⟩ (by omega) dX9_addPattern_106 (fun H locs hw => ?_)
                obtain ⟨X106, eX106⟩ : ∃ Y : zX, Y = up2 X96 a3 (X96 md 1).toNat ki := ⟨_, rfl⟩
                rw [← eX106] at hw
                have hz1_106 : X106 md 1 = M 40 1 := by rw [eX106, up2_o (Ne.symm hN3)]; exact hz1_96
                refine lv_aload_n (pc := 107) hx hb dX9_addPattern_107 rfl (lv_at hl 0 rfl) ?_
                refine zgetR (pc := 108) hx hb hG hown hw hmd (T := TX9) rfl 4 (by decide) rfl wf_X9_16 rfl hB4 dX9_addPattern_108 ?_
                refine lv_aload_n (pc := 111) hx hb dX9_addPattern_111 rfl (lv_at hl 0 rfl) ?_
                refine zgetI (pc := 112) hx hb hG hown hw hmd (T := TX9) rfl 1 (by decide) rfl wf_X9_142 rfl dX9_addPattern_112 ?_
                refine lv_iload_n (pc := 115) hx hb dX9_addPattern_115 rfl (lv_at hl 3 rfl) ?_
                refine zast (pc := 116) hx hb hw hA4 ⟨by omega, by omega⟩ (by omega) dX9_addPattern_116 (fun H locs hw => ?_)
                obtain ⟨X116, eX116⟩ : ∃ Y : zX, Y = up2 X106 a4 (X106 md 1).toNat nu := ⟨_, rfl⟩
                rw [← eX116] at hw
                have hz1_116 : X116 md 1 = M 40 1 := by rw [eX116, up2_o (Ne.symm hN4)]; exact hz1_106
                refine lv_aload_n (pc := 117) hx hb dX9_addPattern_117 rfl (lv_at hl 0 rfl) ?_
                refine lv_dup (pc := 118) hx hb dX9_addPattern_118 rfl ?_
                refine zgetI (pc := 119) hx hb hG hown hw hmd (T := TX9) rfl 1 (by decide) rfl wf_X9_142 rfl dX9_addPattern_119 ?_
                refine ziconst (pc := 122) (n := 1) hx hb dX9_addPattern_122 ?_
                refine zadd (pc := 123) hx hb dX9_addPattern_123 ?_
                refine zputI (pc := 124) hx hb hG hown hw hmd (T := TX9) rfl 1 (by decide) rfl wf_X9_142 rfl (by decide +kernel) rfl dX9_addPattern_124 (fun H locs hw => ?_)
                obtain ⟨X124, eX124⟩ : ∃ Y : zX, Y = up2 X116 md 1 ((X116 md 1) + 1) := ⟨_, rfl⟩
                rw [← eX124] at hw
                have hz1_124 : X124 md 1 = M 40 1 + 1 := by rw [eX124, up2_s, hz1_116]
                refine lv_aload_n (pc := 127) hx hb dX9_addPattern_127 rfl (lv_at hl 0 rfl) ?_
                refine zgetI (pc := 128) hx hb hG hown hw hmd (T := TX9) rfl 1 (by decide) rfl wf_X9_142 rfl dX9_addPattern_128 ?_
                refine ziconst (pc := 131) (n := 1) hx hb dX9_addPattern_131 ?_
                refine zsub (pc := 132) hx hb dX9_addPattern_132 ?_
                exact zretI (pc := 133) hx hb hlocks hr hw (Nat.zero_le _) (Nat.zero_le _) dX9_addPattern_133 (by 
                                        refine ⟨fun _ => by omega, ?_⟩
                                        rw [hz1, hi9, Int.toNat_natCast] at eX96
                                        rw [hz1_96, hi9, Int.toNat_natCast] at eX106
                                        rw [hz1_106, hi9, Int.toNat_natCast] at eX116
                                        rw [hz1_116, hi9] at eX124
                                        have hi8 : (M 40 1).toNat = i9 := by omega
                                        rw [hi8]
                                        have hnZ := (((((hR.n.own (q := 0) (v := 0) rfl).row (f := 2) (a := a2) (k := i9) (v := mo) (by decide) hB2 rfl).row (f := 3) (a := a3) (k := i9) (v := ki) (by decide) hB3 rfl).row (f := 4) (a := a4) (k := i9) (v := nu) (by decide) hB4 rfl).num (q := 1) (v := (i9 : Int) + 1))
                                        have hAZ : ∀ a9, (K a9).1 ≠ 0 → ρ a9 ≠ 2000 → (∀ f, daM f = true → ρ a9 ≠ 2001 + f) → X124 a9 = X a9 := fun a9 _ g1 g2 => by rw [eX124, up2_o (fun g => g1 (by rw [g]; exact hlmd)), eX116, up2_o (fun g => g2 4 rfl (by rw [g]; exact hL4)), eX106, up2_o (fun g => g2 3 rfl (by rw [g]; exact hL3)), eX96, up2_o (fun g => g2 2 rfl (by rw [g]; exact hL2)), eX2, up2_o (fun g => g1 (by rw [g]; exact hlmd))]
                                        have h35Z : X124 md 35 = X md 35 ∨ X124 md 35 = 0 := Or.inl (by rw [eX124, up2_k (by decide), eX116, up2_o (Ne.symm hN4), eX106, up2_o (Ne.symm hN3), eX96, up2_o (Ne.symm hN2), eX2, up2_k (by decide)])
                                        have h0Z : X124 md 0 = 0 := by rw [eX124, up2_k (by decide), eX116, up2_o (Ne.symm hN4), eX106, up2_o (Ne.symm hN3), eX96, up2_o (Ne.symm hN2), eX2, up2_s]
                                        have hnY : repN ρ K X124 Rf md (padM M i9 mo ki nu) := by rw [eX124, eX116, eX106, eX96, eX2]; exact hnZ
                                        exact hR.mutX (cd := cdAdp M mo ki nu) hnY hAZ h35Z h0Z ((padM_T hM (by omega)).1) (Or.inr (padM_T hM (by omega)).2) (by (unfold cdAdp; (repeat' split) <;> omega)))
              · skip
                refine lv_aload_n (pc := 81) hx hb dX9_addPattern_81 rfl (lv_at hl 0 rfl) ?_
                refine ziconst (pc := 82) (n := 2) hx hb dX9_addPattern_82 ?_
                refine zkIx (pc := 83) (zrV (As := [.int (iI 2)]) hx hb hml hown hG hw (c_X9_refuse l Γ K X2 Rf md 2  (by (first | assumption | omega))) (T := TX9) hmd rfl cb_X9_refuse wl_X9_123 rfl ⟨Nat.le_of_ble_eq_true rfl, Nat.le_of_ble_eq_true rfl⟩ hl.1 rfl (Nat.le_of_ble_eq_true rfl) dX9_addPattern_83 ⟨Nat.zero_le _, Nat.zero_le _⟩) hw (fun r83 X83 H locs hp83 hw => ?_)
                obtain ⟨hrf83, eX83⟩ := hp83
                exact zretI (pc := 86) hx hb hlocks hr hw (Nat.zero_le _) (Nat.zero_le _) dX9_addPattern_86 (by refine ⟨fun hz => by (exfalso; revert hz; (unfold cdAdp; (repeat' split) <;> omega)), ?_⟩; exact hR.no (by (unfold cdAdp; (repeat' split) <;> omega)) (by rw [eX83]; (try rw [eX2]); (try rw [up2_up2]); exact thr_c (by (unfold cdAdp; (repeat' split) <;> omega))))
            · skip
              refine lv_iload_n (pc := 62) hx hb dX9_addPattern_62 rfl (lv_at hl 1 rfl) ?_
              refine zif_eq (pc := 63) hx hb 72 (by omega) dX9_addPattern_63 (by decide) (fun c63 => ?_) (fun c63 => ?_)
              · skip
                refine lv_aload_n (pc := 72) hx hb dX9_addPattern_72 rfl (lv_at hl 0 rfl) ?_
                refine zgetI (pc := 73) hx hb hG hown hw hmd (T := TX9) rfl 1 (by decide) rfl wf_X9_142 rfl dX9_addPattern_73 ?_
                refine zbipush (pc := 76) (n := 24) hx hb dX9_addPattern_76 rfl ?_
                refine zicmp_ne (pc := 78) hx hb 87 (by omega) (by omega) dX9_addPattern_78 (by decide) (fun c78 => ?_) (fun c78 => ?_)
                · skip
                  refine lv_aload_n (pc := 87) hx hb dX9_addPattern_87 rfl (lv_at hl 0 rfl) ?_
                  refine zgetR (pc := 88) hx hb hG hown hw hmd (T := TX9) rfl 2 (by decide) rfl wf_X9_9 rfl hB2 dX9_addPattern_88 ?_
                  refine lv_aload_n (pc := 91) hx hb dX9_addPattern_91 rfl (lv_at hl 0 rfl) ?_
                  refine zgetI (pc := 92) hx hb hG hown hw hmd (T := TX9) rfl 1 (by decide) rfl wf_X9_142 rfl dX9_addPattern_92 ?_
                  refine lv_iload_n (pc := 95) hx hb dX9_addPattern_95 rfl (lv_at hl 1 rfl) ?_
                  refine zast (pc := 96) hx hb hw hA2 ⟨by omega, by omega⟩ (by omega) dX9_addPattern_96 (fun H locs hw => ?_)
                  obtain ⟨X96, eX96⟩ : ∃ Y : zX, Y = up2 X2 a2 (X2 md 1).toNat mo := ⟨_, rfl⟩
                  rw [← eX96] at hw
                  have hz1_96 : X96 md 1 = M 40 1 := by rw [eX96, up2_o (Ne.symm hN2)]; exact hz1
                  refine lv_aload_n (pc := 97) hx hb dX9_addPattern_97 rfl (lv_at hl 0 rfl) ?_
                  refine zgetR (pc := 98) hx hb hG hown hw hmd (T := TX9) rfl 3 (by decide) rfl wf_X9_13 rfl hB3 dX9_addPattern_98 ?_
                  refine lv_aload_n (pc := 101) hx hb dX9_addPattern_101 rfl (lv_at hl 0 rfl) ?_
                  refine zgetI (pc := 102) hx hb hG hown hw hmd (T := TX9) rfl 1 (by decide) rfl wf_X9_142 rfl dX9_addPattern_102 ?_
                  refine lv_iload_n (pc := 105) hx hb dX9_addPattern_105 rfl (lv_at hl 2 rfl) ?_
                  refine zast (pc := 106) hx hb hw hA3 ⟨by omega, by omega⟩ (by omega) dX9_addPattern_106 (fun H locs hw => ?_)
                  obtain ⟨X106, eX106⟩ : ∃ Y : zX, Y = up2 X96 a3 (X96 md 1).toNat ki := ⟨_, rfl⟩
                  rw [← eX106] at hw
                  have hz1_106 : X106 md 1 = M 40 1 := by rw [eX106, up2_o (Ne.symm hN3)]; exact hz1_96
                  refine lv_aload_n (pc := 107) hx hb dX9_addPattern_107 rfl (lv_at hl 0 rfl) ?_
                  refine zgetR (pc := 108) hx hb hG hown hw hmd (T := TX9) rfl 4 (by decide) rfl wf_X9_16 rfl hB4 dX9_addPattern_108 ?_
                  refine lv_aload_n (pc := 111) hx hb dX9_addPattern_111 rfl (lv_at hl 0 rfl) ?_
                  refine zgetI (pc := 112) hx hb hG hown hw hmd (T := TX9) rfl 1 (by decide) rfl wf_X9_142 rfl dX9_addPattern_112 ?_
                  refine lv_iload_n (pc := 115) hx hb dX9_addPattern_115 rfl (lv_at hl 3 rfl) ?_
                  refine zast (pc := 116) hx hb hw hA4 ⟨by omega, by omega⟩ (by omega) dX9_addPattern_116 (fun H locs hw => ?_)
                  obtain ⟨X116, eX116⟩ : ∃ Y : zX, Y = up2 X106 a4 (X106 md 1).toNat nu := ⟨_, rfl⟩
                  rw [← eX116] at hw
                  have hz1_116 : X116 md 1 = M 40 1 := by rw [eX116, up2_o (Ne.symm hN4)]; exact hz1_106
                  refine lv_aload_n (pc := 117) hx hb dX9_addPattern_117 rfl (lv_at hl 0 rfl) ?_
                  refine lv_dup (pc := 118) hx hb dX9_addPattern_118 rfl ?_
                  refine zgetI (pc := 119) hx hb hG hown hw hmd (T := TX9) rfl 1 (by decide) rfl wf_X9_142 rfl dX9_addPattern_119 ?_
                  refine ziconst (pc := 122) (n := 1) hx hb dX9_addPattern_122 ?_
                  refine zadd (pc := 123) hx hb dX9_addPattern_123 ?_
                  refine zputI (pc := 124) hx hb hG hown hw hmd (T := TX9) rfl 1 (by decide) rfl wf_X9_142 rfl (by decide +kernel) rfl dX9_addPattern_124 (fun H locs hw => ?_)
                  obtain ⟨X124, eX124⟩ : ∃ Y : zX, Y = up2 X116 md 1 ((X116 md 1) + 1) := ⟨_, rfl⟩
                  rw [← eX124] at hw
                  have hz1_124 : X124 md 1 = M 40 1 + 1 := by rw [eX124, up2_s, hz1_116]
                  refine lv_aload_n (pc := 127) hx hb dX9_addPattern_127 rfl (lv_at hl 0 rfl) ?_
                  refine zgetI (pc := 128) hx hb hG hown hw hmd (T := TX9) rfl 1 (by decide) rfl wf_X9_142 rfl dX9_addPattern_128 ?_
                  refine ziconst (pc := 131) (n := 1) hx hb dX9_addPattern_131 ?_
                  refine zsub (pc := 132) hx hb dX9_addPattern_132 ?_
                  exact zretI (pc := 133) hx hb hlocks hr hw (Nat.zero_le _) (Nat.zero_le _) dX9_addPattern_133 (by 
                                        refine ⟨fun _ => by omega, ?_⟩
                                        rw [hz1, hi9, Int.toNat_natCast] at eX96
                                        rw [hz1_96, hi9, Int.toNat_natCast] at eX106
                                        rw [hz1_106, hi9, Int.toNat_natCast] at eX116
                                        rw [hz1_116, hi9] at eX124
                                        have hi8 : (M 40 1).toNat = i9 := by omega
                                        rw [hi8]
                                        have hnZ := (((((hR.n.own (q := 0) (v := 0) rfl).row (f := 2) (a := a2) (k := i9) (v := mo) (by decide) hB2 rfl).row (f := 3) (a := a3) (k := i9) (v := ki) (by decide) hB3 rfl).row (f := 4) (a := a4) (k := i9) (v := nu) (by decide) hB4 rfl).num (q := 1) (v := (i9 : Int) + 1))
                                        have hAZ : ∀ a9, (K a9).1 ≠ 0 → ρ a9 ≠ 2000 → (∀ f, daM f = true → ρ a9 ≠ 2001 + f) → X124 a9 = X a9 := fun a9 _ g1 g2 => by rw [eX124, up2_o (fun g => g1 (by rw [g]; exact hlmd)), eX116, up2_o (fun g => g2 4 rfl (by rw [g]; exact hL4)), eX106, up2_o (fun g => g2 3 rfl (by rw [g]; exact hL3)), eX96, up2_o (fun g => g2 2 rfl (by rw [g]; exact hL2)), eX2, up2_o (fun g => g1 (by rw [g]; exact hlmd))]
                                        have h35Z : X124 md 35 = X md 35 ∨ X124 md 35 = 0 := Or.inl (by rw [eX124, up2_k (by decide), eX116, up2_o (Ne.symm hN4), eX106, up2_o (Ne.symm hN3), eX96, up2_o (Ne.symm hN2), eX2, up2_k (by decide)])
                                        have h0Z : X124 md 0 = 0 := by rw [eX124, up2_k (by decide), eX116, up2_o (Ne.symm hN4), eX106, up2_o (Ne.symm hN3), eX96, up2_o (Ne.symm hN2), eX2, up2_s]
                                        have hnY : repN ρ K X124 Rf md (padM M i9 mo ki nu) := by rw [eX124, eX116, eX106, eX96, eX2]; exact hnZ
                                        exact hR.mutX (cd := cdAdp M mo ki nu) hnY hAZ h35Z h0Z ((padM_T hM (by omega)).1) (Or.inr (padM_T hM (by omega)).2) (by (unfold cdAdp; (repeat' split) <;> omega)))
                · skip
                  refine lv_aload_n (pc := 81) hx hb dX9_addPattern_81 rfl (lv_at hl 0 rfl) ?_
                  refine ziconst (pc := 82) (n := 2) hx hb dX9_addPattern_82 ?_
                  refine zkIx (pc := 83) (zrV (As := [.int (iI 2)]) hx hb hml hown hG hw (c_X9_refuse l Γ K X2 Rf md 2  (by (first | assumption | omega))) (T := TX9) hmd rfl cb_X9_refuse wl_X9_123 rfl ⟨Nat.le_of_ble_eq_true rfl, Nat.le_of_ble_eq_true rfl⟩ hl.1 rfl (Nat.le_of_ble_eq_true rfl) dX9_addPattern_83 ⟨Nat.zero_le _, Nat.zero_le _⟩) hw (fun r83 X83 H locs hp83 hw => ?_)
                  obtain ⟨hrf83, eX83⟩ := hp83
                  exact zretI (pc := 86) hx hb hlocks hr hw (Nat.zero_le _) (Nat.zero_le _) dX9_addPattern_86 (by refine ⟨fun hz => by (exfalso; revert hz; (unfold cdAdp; (repeat' split) <;> omega)), ?_⟩; exact hR.no (by (unfold cdAdp; (repeat' split) <;> omega)) (by rw [eX83]; (try rw [eX2]); (try rw [up2_up2]); exact thr_c (by (unfold cdAdp; (repeat' split) <;> omega))))
              · skip
                refine lv_aload_n (pc := 66) hx hb dX9_addPattern_66 rfl (lv_at hl 0 rfl) ?_
                refine ziconst (pc := 67) (n := 1) hx hb dX9_addPattern_67 ?_
                refine zkIx (pc := 68) (zrV (As := [.int (iI 1)]) hx hb hml hown hG hw (c_X9_refuse l Γ K X2 Rf md 1  (by (first | assumption | omega))) (T := TX9) hmd rfl cb_X9_refuse wl_X9_123 rfl ⟨Nat.le_of_ble_eq_true rfl, Nat.le_of_ble_eq_true rfl⟩ hl.1 rfl (Nat.le_of_ble_eq_true rfl) dX9_addPattern_68 ⟨Nat.zero_le _, Nat.zero_le _⟩) hw (fun r68 X68 H locs hp68 hw => ?_)
                obtain ⟨hrf68, eX68⟩ := hp68
                exact zretI (pc := 71) hx hb hlocks hr hw (Nat.zero_le _) (Nat.zero_le _) dX9_addPattern_71 (by refine ⟨fun hz => by (exfalso; revert hz; (unfold cdAdp; (repeat' split) <;> omega)), ?_⟩; exact hR.no (by (unfold cdAdp; (repeat' split) <;> omega)) (by rw [eX68]; (try rw [eX2]); (try rw [up2_up2]); exact thr_c (by (unfold cdAdp; (repeat' split) <;> omega))))
        · skip
          refine ziconst (pc := 43) (n := 5) hx hb dX9_addPattern_43 ?_
          refine lv_goto (pc := 44) (tgt := 50) hx hb dX9_addPattern_44 (by decide) ?_
          refine zkIp (pc := 50) (zrS (As := [.int (iI nu), .int (iI 1), .int (iI 5)]) hx hb hml hown hG hw (c_X9_is l Γ K X2 Rf nu 1 5  (by (first | assumption | omega))) cb_X9_is wl_X9_91 rfl ⟨Nat.le_of_ble_eq_true rfl, Nat.le_of_ble_eq_true rfl⟩ hl.1 rfl (Nat.le_of_ble_eq_true rfl) dX9_addPattern_50 ⟨Nat.zero_le _, Nat.zero_le _⟩) hw (fun r50 H locs hp50 hw => ?_)
          subst hp50
          refine zif_eq (pc := 53) hx hb 66 (by omega) dX9_addPattern_53 (by decide) (fun c53 => ?_) (fun c53 => ?_)
          · skip
            replace c53 := it0 c53
            refine lv_aload_n (pc := 66) hx hb dX9_addPattern_66 rfl (lv_at hl 0 rfl) ?_
            refine ziconst (pc := 67) (n := 1) hx hb dX9_addPattern_67 ?_
            refine zkIx (pc := 68) (zrV (As := [.int (iI 1)]) hx hb hml hown hG hw (c_X9_refuse l Γ K X2 Rf md 1  (by (first | assumption | omega))) (T := TX9) hmd rfl cb_X9_refuse wl_X9_123 rfl ⟨Nat.le_of_ble_eq_true rfl, Nat.le_of_ble_eq_true rfl⟩ hl.1 rfl (Nat.le_of_ble_eq_true rfl) dX9_addPattern_68 ⟨Nat.zero_le _, Nat.zero_le _⟩) hw (fun r68 X68 H locs hp68 hw => ?_)
            obtain ⟨hrf68, eX68⟩ := hp68
            exact zretI (pc := 71) hx hb hlocks hr hw (Nat.zero_le _) (Nat.zero_le _) dX9_addPattern_71 (by refine ⟨fun hz => by (exfalso; revert hz; (unfold cdAdp; (repeat' split) <;> omega)), ?_⟩; exact hR.no (by (unfold cdAdp; (repeat' split) <;> omega)) (by rw [eX68]; (try rw [eX2]); (try rw [up2_up2]); exact thr_c (by (unfold cdAdp; (repeat' split) <;> omega))))
          · skip
            replace c53 := it1 c53
            refine lv_iload_n (pc := 56) hx hb dX9_addPattern_56 rfl (lv_at hl 2 rfl) ?_
            refine zbipush (pc := 57) (n := 16) hx hb dX9_addPattern_57 rfl ?_
            refine zicmp_ne (pc := 59) hx hb 72 (by omega) (by omega) dX9_addPattern_59 (by decide) (fun c59 => ?_) (fun c59 => ?_)
            · skip
              refine lv_aload_n (pc := 72) hx hb dX9_addPattern_72 rfl (lv_at hl 0 rfl) ?_
              refine zgetI (pc := 73) hx hb hG hown hw hmd (T := TX9) rfl 1 (by decide) rfl wf_X9_142 rfl dX9_addPattern_73 ?_
              refine zbipush (pc := 76) (n := 24) hx hb dX9_addPattern_76 rfl ?_
              refine zicmp_ne (pc := 78) hx hb 87 (by omega) (by omega) dX9_addPattern_78 (by decide) (fun c78 => ?_) (fun c78 => ?_)
              · skip
                refine lv_aload_n (pc := 87) hx hb dX9_addPattern_87 rfl (lv_at hl 0 rfl) ?_
                refine zgetR (pc := 88) hx hb hG hown hw hmd (T := TX9) rfl 2 (by decide) rfl wf_X9_9 rfl hB2 dX9_addPattern_88 ?_
                refine lv_aload_n (pc := 91) hx hb dX9_addPattern_91 rfl (lv_at hl 0 rfl) ?_
                refine zgetI (pc := 92) hx hb hG hown hw hmd (T := TX9) rfl 1 (by decide) rfl wf_X9_142 rfl dX9_addPattern_92 ?_
                refine lv_iload_n (pc := 95) hx hb dX9_addPattern_95 rfl (lv_at hl 1 rfl) ?_
                refine zast (pc := 96) hx hb hw hA2 ⟨by omega, by omega⟩ (by omega) dX9_addPattern_96 (fun H locs hw => ?_)
                obtain ⟨X96, eX96⟩ : ∃ Y : zX, Y = up2 X2 a2 (X2 md 1).toNat mo := ⟨_, rfl⟩
                rw [← eX96] at hw
                have hz1_96 : X96 md 1 = M 40 1 := by rw [eX96, up2_o (Ne.symm hN2)]; exact hz1
                refine lv_aload_n (pc := 97) hx hb dX9_addPattern_97 rfl (lv_at hl 0 rfl) ?_
                refine zgetR (pc := 98) hx hb hG hown hw hmd (T := TX9) rfl 3 (by decide) rfl wf_X9_13 rfl hB3 dX9_addPattern_98 ?_
                refine lv_aload_n (pc := 101) hx hb dX9_addPattern_101 rfl (lv_at hl 0 rfl) ?_
                refine zgetI (pc := 102) hx hb hG hown hw hmd (T := TX9) rfl 1 (by decide) rfl wf_X9_142 rfl dX9_addPattern_102 ?_
                refine lv_iload_n (pc := 105) hx hb dX9_addPattern_105 rfl (lv_at hl 2 rfl) ?_
                refine zast (pc := 106) hx hb hw hA3 ⟨by omega, by omega⟩ (by omega) dX9_addPattern_106 (fun H locs hw => ?_)
                obtain ⟨X106, eX106⟩ : ∃ Y : zX, Y = up2 X96 a3 (X96 md 1).toNat ki := ⟨_, rfl⟩
                rw [← eX106] at hw
                have hz1_106 : X106 md 1 = M 40 1 := by rw [eX106, up2_o (Ne.symm hN3)]; exact hz1_96
                refine lv_aload_n (pc := 107) hx hb dX9_addPattern_107 rfl (lv_at hl 0 rfl) ?_
                refine zgetR (pc := 108) hx hb hG hown hw hmd (T := TX9) rfl 4 (by decide) rfl wf_X9_16 rfl hB4 dX9_addPattern_108 ?_
                refine lv_aload_n (pc := 111) hx hb dX9_addPattern_111 rfl (lv_at hl 0 rfl) ?_
                refine zgetI (pc := 112) hx hb hG hown hw hmd (T := TX9) rfl 1 (by decide) rfl wf_X9_142 rfl dX9_addPattern_112 ?_
                refine lv_iload_n (pc := 115) hx hb dX9_addPattern_115 rfl (lv_at hl 3 rfl) ?_
                refine zast (pc := 116) hx hb hw hA4 ⟨by omega, by omega⟩ (by omega) dX9_addPattern_116 (fun H locs hw => ?_)
                obtain ⟨X116, eX116⟩ : ∃ Y : zX, Y = up2 X106 a4 (X106 md 1).toNat nu := ⟨_, rfl⟩
                rw [← eX116] at hw
                have hz1_116 : X116 md 1 = M 40 1 := by rw [eX116, up2_o (Ne.symm hN4)]; exact hz1_106
                refine lv_aload_n (pc := 117) hx hb dX9_addPattern_117 rfl (lv_at hl 0 rfl) ?_
                refine lv_dup (pc := 118) hx hb dX9_addPattern_118 rfl ?_
                refine zgetI (pc := 119) hx hb hG hown hw hmd (T := TX9) rfl 1 (by decide) rfl wf_X9_142 rfl dX9_addPattern_119 ?_
                refine ziconst (pc := 122) (n := 1) hx hb dX9_addPattern_122 ?_
                refine zadd (pc := 123) hx hb dX9_addPattern_123 ?_
                refine zputI (pc := 124) hx hb hG hown hw hmd (T := TX9) rfl 1 (by decide) rfl wf_X9_142 rfl (by decide +kernel) rfl dX9_addPattern_124 (fun H locs hw => ?_)
                obtain ⟨X124, eX124⟩ : ∃ Y : zX, Y = up2 X116 md 1 ((X116 md 1) + 1) := ⟨_, rfl⟩
                rw [← eX124] at hw
                have hz1_124 : X124 md 1 = M 40 1 + 1 := by rw [eX124, up2_s, hz1_116]
                refine lv_aload_n (pc := 127) hx hb dX9_addPattern_127 rfl (lv_at hl 0 rfl) ?_
                refine zgetI (pc := 128) hx hb hG hown hw hmd (T := TX9) rfl 1 (by decide) rfl wf_X9_142 rfl dX9_addPattern_128 ?_
                refine ziconst (pc := 131) (n := 1) hx hb dX9_addPattern_131 ?_
                refine zsub (pc := 132) hx hb dX9_addPattern_132 ?_
                exact zretI (pc := 133) hx hb hlocks hr hw (Nat.zero_le _) (Nat.zero_le _) dX9_addPattern_133 (by 
                                        refine ⟨fun _ => by omega, ?_⟩
                                        rw [hz1, hi9, Int.toNat_natCast] at eX96
                                        rw [hz1_96, hi9, Int.toNat_natCast] at eX106
                                        rw [hz1_106, hi9, Int.toNat_natCast] at eX116
                                        rw [hz1_116, hi9] at eX124
                                        have hi8 : (M 40 1).toNat = i9 := by omega
                                        rw [hi8]
                                        have hnZ := (((((hR.n.own (q := 0) (v := 0) rfl).row (f := 2) (a := a2) (k := i9) (v := mo) (by decide) hB2 rfl).row (f := 3) (a := a3) (k := i9) (v := ki) (by decide) hB3 rfl).row (f := 4) (a := a4) (k := i9) (v := nu) (by decide) hB4 rfl).num (q := 1) (v := (i9 : Int) + 1))
                                        have hAZ : ∀ a9, (K a9).1 ≠ 0 → ρ a9 ≠ 2000 → (∀ f, daM f = true → ρ a9 ≠ 2001 + f) → X124 a9 = X a9 := fun a9 _ g1 g2 => by rw [eX124, up2_o (fun g => g1 (by rw [g]; exact hlmd)), eX116, up2_o (fun g => g2 4 rfl (by rw [g]; exact hL4)), eX106, up2_o (fun g => g2 3 rfl (by rw [g]; exact hL3)), eX96, up2_o (fun g => g2 2 rfl (by rw [g]; exact hL2)), eX2, up2_o (fun g => g1 (by rw [g]; exact hlmd))]
                                        have h35Z : X124 md 35 = X md 35 ∨ X124 md 35 = 0 := Or.inl (by rw [eX124, up2_k (by decide), eX116, up2_o (Ne.symm hN4), eX106, up2_o (Ne.symm hN3), eX96, up2_o (Ne.symm hN2), eX2, up2_k (by decide)])
                                        have h0Z : X124 md 0 = 0 := by rw [eX124, up2_k (by decide), eX116, up2_o (Ne.symm hN4), eX106, up2_o (Ne.symm hN3), eX96, up2_o (Ne.symm hN2), eX2, up2_s]
                                        have hnY : repN ρ K X124 Rf md (padM M i9 mo ki nu) := by rw [eX124, eX116, eX106, eX96, eX2]; exact hnZ
                                        exact hR.mutX (cd := cdAdp M mo ki nu) hnY hAZ h35Z h0Z ((padM_T hM (by omega)).1) (Or.inr (padM_T hM (by omega)).2) (by (unfold cdAdp; (repeat' split) <;> omega)))
              · skip
                refine lv_aload_n (pc := 81) hx hb dX9_addPattern_81 rfl (lv_at hl 0 rfl) ?_
                refine ziconst (pc := 82) (n := 2) hx hb dX9_addPattern_82 ?_
                refine zkIx (pc := 83) (zrV (As := [.int (iI 2)]) hx hb hml hown hG hw (c_X9_refuse l Γ K X2 Rf md 2  (by (first | assumption | omega))) (T := TX9) hmd rfl cb_X9_refuse wl_X9_123 rfl ⟨Nat.le_of_ble_eq_true rfl, Nat.le_of_ble_eq_true rfl⟩ hl.1 rfl (Nat.le_of_ble_eq_true rfl) dX9_addPattern_83 ⟨Nat.zero_le _, Nat.zero_le _⟩) hw (fun r83 X83 H locs hp83 hw => ?_)
                obtain ⟨hrf83, eX83⟩ := hp83
                exact zretI (pc := 86) hx hb hlocks hr hw (Nat.zero_le _) (Nat.zero_le _) dX9_addPattern_86 (by refine ⟨fun hz => by (exfalso; revert hz; (unfold cdAdp; (repeat' split) <;> omega)), ?_⟩; exact hR.no (by (unfold cdAdp; (repeat' split) <;> omega)) (by rw [eX83]; (try rw [eX2]); (try rw [up2_up2]); exact thr_c (by (unfold cdAdp; (repeat' split) <;> omega))))
            · skip
              refine lv_iload_n (pc := 62) hx hb dX9_addPattern_62 rfl (lv_at hl 1 rfl) ?_
              refine zif_eq (pc := 63) hx hb 72 (by omega) dX9_addPattern_63 (by decide) (fun c63 => ?_) (fun c63 => ?_)
              · skip
                refine lv_aload_n (pc := 72) hx hb dX9_addPattern_72 rfl (lv_at hl 0 rfl) ?_
                refine zgetI (pc := 73) hx hb hG hown hw hmd (T := TX9) rfl 1 (by decide) rfl wf_X9_142 rfl dX9_addPattern_73 ?_
                refine zbipush (pc := 76) (n := 24) hx hb dX9_addPattern_76 rfl ?_
                refine zicmp_ne (pc := 78) hx hb 87 (by omega) (by omega) dX9_addPattern_78 (by decide) (fun c78 => ?_) (fun c78 => ?_)
                · skip
                  refine lv_aload_n (pc := 87) hx hb dX9_addPattern_87 rfl (lv_at hl 0 rfl) ?_
                  refine zgetR (pc := 88) hx hb hG hown hw hmd (T := TX9) rfl 2 (by decide) rfl wf_X9_9 rfl hB2 dX9_addPattern_88 ?_
                  refine lv_aload_n (pc := 91) hx hb dX9_addPattern_91 rfl (lv_at hl 0 rfl) ?_
                  refine zgetI (pc := 92) hx hb hG hown hw hmd (T := TX9) rfl 1 (by decide) rfl wf_X9_142 rfl dX9_addPattern_92 ?_
                  refine lv_iload_n (pc := 95) hx hb dX9_addPattern_95 rfl (lv_at hl 1 rfl) ?_
                  refine zast (pc := 96) hx hb hw hA2 ⟨by omega, by omega⟩ (by omega) dX9_addPattern_96 (fun H locs hw => ?_)
                  obtain ⟨X96, eX96⟩ : ∃ Y : zX, Y = up2 X2 a2 (X2 md 1).toNat mo := ⟨_, rfl⟩
                  rw [← eX96] at hw
                  have hz1_96 : X96 md 1 = M 40 1 := by rw [eX96, up2_o (Ne.symm hN2)]; exact hz1
                  refine lv_aload_n (pc := 97) hx hb dX9_addPattern_97 rfl (lv_at hl 0 rfl) ?_
                  refine zgetR (pc := 98) hx hb hG hown hw hmd (T := TX9) rfl 3 (by decide) rfl wf_X9_13 rfl hB3 dX9_addPattern_98 ?_
                  refine lv_aload_n (pc := 101) hx hb dX9_addPattern_101 rfl (lv_at hl 0 rfl) ?_
                  refine zgetI (pc := 102) hx hb hG hown hw hmd (T := TX9) rfl 1 (by decide) rfl wf_X9_142 rfl dX9_addPattern_102 ?_
                  refine lv_iload_n (pc := 105) hx hb dX9_addPattern_105 rfl (lv_at hl 2 rfl) ?_
                  refine zast (pc := 106) hx hb hw hA3 ⟨by omega, by omega⟩ (by omega) dX9_addPattern_106 (fun H locs hw => ?_)
                  obtain ⟨X106, eX106⟩ : ∃ Y : zX, Y = up2 X96 a3 (X96 md 1).toNat ki := ⟨_, rfl⟩
                  rw [← eX106] at hw
                  have hz1_106 : X106 md 1 = M 40 1 := by rw [eX106, up2_o (Ne.symm hN3)]; exact hz1_96
                  refine lv_aload_n (pc := 107) hx hb dX9_addPattern_107 rfl (lv_at hl 0 rfl) ?_
                  refine zgetR (pc := 108) hx hb hG hown hw hmd (T := TX9) rfl 4 (by decide) rfl wf_X9_16 rfl hB4 dX9_addPattern_108 ?_
                  refine lv_aload_n (pc := 111) hx hb dX9_addPattern_111 rfl (lv_at hl 0 rfl) ?_
                  refine zgetI (pc := 112) hx hb hG hown hw hmd (T := TX9) rfl 1 (by decide) rfl wf_X9_142 rfl dX9_addPattern_112 ?_
                  refine lv_iload_n (pc := 115) hx hb dX9_addPattern_115 rfl (lv_at hl 3 rfl) ?_
                  refine zast (pc := 116) hx hb hw hA4 ⟨by omega, by omega⟩ (by omega) dX9_addPattern_116 (fun H locs hw => ?_)
                  obtain ⟨X116, eX116⟩ : ∃ Y : zX, Y = up2 X106 a4 (X106 md 1).toNat nu := ⟨_, rfl⟩
                  rw [← eX116] at hw
                  have hz1_116 : X116 md 1 = M 40 1 := by rw [eX116, up2_o (Ne.symm hN4)]; exact hz1_106
                  refine lv_aload_n (pc := 117) hx hb dX9_addPattern_117 rfl (lv_at hl 0 rfl) ?_
                  refine lv_dup (pc := 118) hx hb dX9_addPattern_118 rfl ?_
                  refine zgetI (pc := 119) hx hb hG hown hw hmd (T := TX9) rfl 1 (by decide) rfl wf_X9_142 rfl dX9_addPattern_119 ?_
                  refine ziconst (pc := 122) (n := 1) hx hb dX9_addPattern_122 ?_
                  refine zadd (pc := 123) hx hb dX9_addPattern_123 ?_
                  refine zputI (pc := 124) hx hb hG hown hw hmd (T := TX9) rfl 1 (by decide) rfl wf_X9_142 rfl (by decide +kernel) rfl dX9_addPattern_124 (fun H locs hw => ?_)
                  obtain ⟨X124, eX124⟩ : ∃ Y : zX, Y = up2 X116 md 1 ((X116 md 1) + 1) := ⟨_, rfl⟩
                  rw [← eX124] at hw
                  have hz1_124 : X124 md 1 = M 40 1 + 1 := by rw [eX124, up2_s, hz1_116]
                  refine lv_aload_n (pc := 127) hx hb dX9_addPattern_127 rfl (lv_at hl 0 rfl) ?_
                  refine zgetI (pc := 128) hx hb hG hown hw hmd (T := TX9) rfl 1 (by decide) rfl wf_X9_142 rfl dX9_addPattern_128 ?_
                  refine ziconst (pc := 131) (n := 1) hx hb dX9_addPattern_131 ?_
                  refine zsub (pc := 132) hx hb dX9_addPattern_132 ?_
                  exact zretI (pc := 133) hx hb hlocks hr hw (Nat.zero_le _) (Nat.zero_le _) dX9_addPattern_133 (by 
                                        refine ⟨fun _ => by omega, ?_⟩
                                        rw [hz1, hi9, Int.toNat_natCast] at eX96
                                        rw [hz1_96, hi9, Int.toNat_natCast] at eX106
                                        rw [hz1_106, hi9, Int.toNat_natCast] at eX116
                                        rw [hz1_116, hi9] at eX124
                                        have hi8 : (M 40 1).toNat = i9 := by omega
                                        rw [hi8]
                                        have hnZ := (((((hR.n.own (q := 0) (v := 0) rfl).row (f := 2) (a := a2) (k := i9) (v := mo) (by decide) hB2 rfl).row (f := 3) (a := a3) (k := i9) (v := ki) (by decide) hB3 rfl).row (f := 4) (a := a4) (k := i9) (v := nu) (by decide) hB4 rfl).num (q := 1) (v := (i9 : Int) + 1))
                                        have hAZ : ∀ a9, (K a9).1 ≠ 0 → ρ a9 ≠ 2000 → (∀ f, daM f = true → ρ a9 ≠ 2001 + f) → X124 a9 = X a9 := fun a9 _ g1 g2 => by rw [eX124, up2_o (fun g => g1 (by rw [g]; exact hlmd)), eX116, up2_o (fun g => g2 4 rfl (by rw [g]; exact hL4)), eX106, up2_o (fun g => g2 3 rfl (by rw [g]; exact hL3)), eX96, up2_o (fun g => g2 2 rfl (by rw [g]; exact hL2)), eX2, up2_o (fun g => g1 (by rw [g]; exact hlmd))]
                                        have h35Z : X124 md 35 = X md 35 ∨ X124 md 35 = 0 := Or.inl (by rw [eX124, up2_k (by decide), eX116, up2_o (Ne.symm hN4), eX106, up2_o (Ne.symm hN3), eX96, up2_o (Ne.symm hN2), eX2, up2_k (by decide)])
                                        have h0Z : X124 md 0 = 0 := by rw [eX124, up2_k (by decide), eX116, up2_o (Ne.symm hN4), eX106, up2_o (Ne.symm hN3), eX96, up2_o (Ne.symm hN2), eX2, up2_s]
                                        have hnY : repN ρ K X124 Rf md (padM M i9 mo ki nu) := by rw [eX124, eX116, eX106, eX96, eX2]; exact hnZ
                                        exact hR.mutX (cd := cdAdp M mo ki nu) hnY hAZ h35Z h0Z ((padM_T hM (by omega)).1) (Or.inr (padM_T hM (by omega)).2) (by (unfold cdAdp; (repeat' split) <;> omega)))
                · skip
                  refine lv_aload_n (pc := 81) hx hb dX9_addPattern_81 rfl (lv_at hl 0 rfl) ?_
                  refine ziconst (pc := 82) (n := 2) hx hb dX9_addPattern_82 ?_
                  refine zkIx (pc := 83) (zrV (As := [.int (iI 2)]) hx hb hml hown hG hw (c_X9_refuse l Γ K X2 Rf md 2  (by (first | assumption | omega))) (T := TX9) hmd rfl cb_X9_refuse wl_X9_123 rfl ⟨Nat.le_of_ble_eq_true rfl, Nat.le_of_ble_eq_true rfl⟩ hl.1 rfl (Nat.le_of_ble_eq_true rfl) dX9_addPattern_83 ⟨Nat.zero_le _, Nat.zero_le _⟩) hw (fun r83 X83 H locs hp83 hw => ?_)
                  obtain ⟨hrf83, eX83⟩ := hp83
                  exact zretI (pc := 86) hx hb hlocks hr hw (Nat.zero_le _) (Nat.zero_le _) dX9_addPattern_86 (by refine ⟨fun hz => by (exfalso; revert hz; (unfold cdAdp; (repeat' split) <;> omega)), ?_⟩; exact hR.no (by (unfold cdAdp; (repeat' split) <;> omega)) (by rw [eX83]; (try rw [eX2]); (try rw [up2_up2]); exact thr_c (by (unfold cdAdp; (repeat' split) <;> omega))))
              · skip
                refine lv_aload_n (pc := 66) hx hb dX9_addPattern_66 rfl (lv_at hl 0 rfl) ?_
                refine ziconst (pc := 67) (n := 1) hx hb dX9_addPattern_67 ?_
                refine zkIx (pc := 68) (zrV (As := [.int (iI 1)]) hx hb hml hown hG hw (c_X9_refuse l Γ K X2 Rf md 1  (by (first | assumption | omega))) (T := TX9) hmd rfl cb_X9_refuse wl_X9_123 rfl ⟨Nat.le_of_ble_eq_true rfl, Nat.le_of_ble_eq_true rfl⟩ hl.1 rfl (Nat.le_of_ble_eq_true rfl) dX9_addPattern_68 ⟨Nat.zero_le _, Nat.zero_le _⟩) hw (fun r68 X68 H locs hp68 hw => ?_)
                obtain ⟨hrf68, eX68⟩ := hp68
                exact zretI (pc := 71) hx hb hlocks hr hw (Nat.zero_le _) (Nat.zero_le _) dX9_addPattern_71 (by refine ⟨fun hz => by (exfalso; revert hz; (unfold cdAdp; (repeat' split) <;> omega)), ?_⟩; exact hR.no (by (unfold cdAdp; (repeat' split) <;> omega)) (by rw [eX68]; (try rw [eX2]); (try rw [up2_up2]); exact thr_c (by (unfold cdAdp; (repeat' split) <;> omega))))
      · skip
        refine zbipush (pc := 32) (n := 31) hx hb dX9_addPattern_32 rfl ?_
        refine lv_goto (pc := 34) (tgt := 50) hx hb dX9_addPattern_34 (by decide) ?_
        refine zkIp (pc := 50) (zrS (As := [.int (iI nu), .int (iI 1), .int (iI 31)]) hx hb hml hown hG hw (c_X9_is l Γ K X2 Rf nu 1 31  (by (first | assumption | omega))) cb_X9_is wl_X9_91 rfl ⟨Nat.le_of_ble_eq_true rfl, Nat.le_of_ble_eq_true rfl⟩ hl.1 rfl (Nat.le_of_ble_eq_true rfl) dX9_addPattern_50 ⟨Nat.zero_le _, Nat.zero_le _⟩) hw (fun r50 H locs hp50 hw => ?_)
        subst hp50
        refine zif_eq (pc := 53) hx hb 66 (by omega) dX9_addPattern_53 (by decide) (fun c53 => ?_) (fun c53 => ?_)
        · skip
          replace c53 := it0 c53
          refine lv_aload_n (pc := 66) hx hb dX9_addPattern_66 rfl (lv_at hl 0 rfl) ?_
          refine ziconst (pc := 67) (n := 1) hx hb dX9_addPattern_67 ?_
          refine zkIx (pc := 68) (zrV (As := [.int (iI 1)]) hx hb hml hown hG hw (c_X9_refuse l Γ K X2 Rf md 1  (by (first | assumption | omega))) (T := TX9) hmd rfl cb_X9_refuse wl_X9_123 rfl ⟨Nat.le_of_ble_eq_true rfl, Nat.le_of_ble_eq_true rfl⟩ hl.1 rfl (Nat.le_of_ble_eq_true rfl) dX9_addPattern_68 ⟨Nat.zero_le _, Nat.zero_le _⟩) hw (fun r68 X68 H locs hp68 hw => ?_)
          obtain ⟨hrf68, eX68⟩ := hp68
          exact zretI (pc := 71) hx hb hlocks hr hw (Nat.zero_le _) (Nat.zero_le _) dX9_addPattern_71 (by refine ⟨fun hz => by (exfalso; revert hz; (unfold cdAdp; (repeat' split) <;> omega)), ?_⟩; exact hR.no (by (unfold cdAdp; (repeat' split) <;> omega)) (by rw [eX68]; (try rw [eX2]); (try rw [up2_up2]); exact thr_c (by (unfold cdAdp; (repeat' split) <;> omega))))
        · skip
          replace c53 := it1 c53
          refine lv_iload_n (pc := 56) hx hb dX9_addPattern_56 rfl (lv_at hl 2 rfl) ?_
          refine zbipush (pc := 57) (n := 16) hx hb dX9_addPattern_57 rfl ?_
          refine zicmp_ne (pc := 59) hx hb 72 (by omega) (by omega) dX9_addPattern_59 (by decide) (fun c59 => ?_) (fun c59 => ?_)
          · skip
            refine lv_aload_n (pc := 72) hx hb dX9_addPattern_72 rfl (lv_at hl 0 rfl) ?_
            refine zgetI (pc := 73) hx hb hG hown hw hmd (T := TX9) rfl 1 (by decide) rfl wf_X9_142 rfl dX9_addPattern_73 ?_
            refine zbipush (pc := 76) (n := 24) hx hb dX9_addPattern_76 rfl ?_
            refine zicmp_ne (pc := 78) hx hb 87 (by omega) (by omega) dX9_addPattern_78 (by decide) (fun c78 => ?_) (fun c78 => ?_)
            · skip
              refine lv_aload_n (pc := 87) hx hb dX9_addPattern_87 rfl (lv_at hl 0 rfl) ?_
              refine zgetR (pc := 88) hx hb hG hown hw hmd (T := TX9) rfl 2 (by decide) rfl wf_X9_9 rfl hB2 dX9_addPattern_88 ?_
              refine lv_aload_n (pc := 91) hx hb dX9_addPattern_91 rfl (lv_at hl 0 rfl) ?_
              refine zgetI (pc := 92) hx hb hG hown hw hmd (T := TX9) rfl 1 (by decide) rfl wf_X9_142 rfl dX9_addPattern_92 ?_
              refine lv_iload_n (pc := 95) hx hb dX9_addPattern_95 rfl (lv_at hl 1 rfl) ?_
              refine zast (pc := 96) hx hb hw hA2 ⟨by omega, by omega⟩ (by omega) dX9_addPattern_96 (fun H locs hw => ?_)
              obtain ⟨X96, eX96⟩ : ∃ Y : zX, Y = up2 X2 a2 (X2 md 1).toNat mo := ⟨_, rfl⟩
              rw [← eX96] at hw
              have hz1_96 : X96 md 1 = M 40 1 := by rw [eX96, up2_o (Ne.symm hN2)]; exact hz1
              refine lv_aload_n (pc := 97) hx hb dX9_addPattern_97 rfl (lv_at hl 0 rfl) ?_
              refine zgetR (pc := 98) hx hb hG hown hw hmd (T := TX9) rfl 3 (by decide) rfl wf_X9_13 rfl hB3 dX9_addPattern_98 ?_
              refine lv_aload_n (pc := 101) hx hb dX9_addPattern_101 rfl (lv_at hl 0 rfl) ?_
              refine zgetI (pc := 102) hx hb hG hown hw hmd (T := TX9) rfl 1 (by decide) rfl wf_X9_142 rfl dX9_addPattern_102 ?_
              refine lv_iload_n (pc := 105) hx hb dX9_addPattern_105 rfl (lv_at hl 2 rfl) ?_
              refine zast (pc := 106) hx hb hw hA3 ⟨by omega, by omega⟩ (by omega) dX9_addPattern_106 (fun H locs hw => ?_)
              obtain ⟨X106, eX106⟩ : ∃ Y : zX, Y = up2 X96 a3 (X96 md 1).toNat ki := ⟨_, rfl⟩
              rw [← eX106] at hw
              have hz1_106 : X106 md 1 = M 40 1 := by rw [eX106, up2_o (Ne.symm hN3)]; exact hz1_96
              refine lv_aload_n (pc := 107) hx hb dX9_addPattern_107 rfl (lv_at hl 0 rfl) ?_
              refine zgetR (pc := 108) hx hb hG hown hw hmd (T := TX9) rfl 4 (by decide) rfl wf_X9_16 rfl hB4 dX9_addPattern_108 ?_
              refine lv_aload_n (pc := 111) hx hb dX9_addPattern_111 rfl (lv_at hl 0 rfl) ?_
              refine zgetI (pc := 112) hx hb hG hown hw hmd (T := TX9) rfl 1 (by decide) rfl wf_X9_142 rfl dX9_addPattern_112 ?_
              refine lv_iload_n (pc := 115) hx hb dX9_addPattern_115 rfl (lv_at hl 3 rfl) ?_
              refine zast (pc := 116) hx hb hw hA4 ⟨by omega, by omega⟩ (by omega) dX9_addPattern_116 (fun H locs hw => ?_)
              obtain ⟨X116, eX116⟩ : ∃ Y : zX, Y = up2 X106 a4 (X106 md 1).toNat nu := ⟨_, rfl⟩
              rw [← eX116] at hw
              have hz1_116 : X116 md 1 = M 40 1 := by rw [eX116, up2_o (Ne.symm hN4)]; exact hz1_106
              refine lv_aload_n (pc := 117) hx hb dX9_addPattern_117 rfl (lv_at hl 0 rfl) ?_
              refine lv_dup (pc := 118) hx hb dX9_addPattern_118 rfl ?_
              refine zgetI (pc := 119) hx hb hG hown hw hmd (T := TX9) rfl 1 (by decide) rfl wf_X9_142 rfl dX9_addPattern_119 ?_
              refine ziconst (pc := 122) (n := 1) hx hb dX9_addPattern_122 ?_
              refine zadd (pc := 123) hx hb dX9_addPattern_123 ?_
              refine zputI (pc := 124) hx hb hG hown hw hmd (T := TX9) rfl 1 (by decide) rfl wf_X9_142 rfl (by decide +kernel) rfl dX9_addPattern_124 (fun H locs hw => ?_)
              obtain ⟨X124, eX124⟩ : ∃ Y : zX, Y = up2 X116 md 1 ((X116 md 1) + 1) := ⟨_, rfl⟩
              rw [← eX124] at hw
              have hz1_124 : X124 md 1 = M 40 1 + 1 := by rw [eX124, up2_s, hz1_116]
              refine lv_aload_n (pc := 127) hx hb dX9_addPattern_127 rfl (lv_at hl 0 rfl) ?_
              refine zgetI (pc := 128) hx hb hG hown hw hmd (T := TX9) rfl 1 (by decide) rfl wf_X9_142 rfl dX9_addPattern_128 ?_
              refine ziconst (pc := 131) (n := 1) hx hb dX9_addPattern_131 ?_
              refine zsub (pc := 132) hx hb dX9_addPattern_132 ?_
              exact zretI (pc := 133) hx hb hlocks hr hw (Nat.zero_le _) (Nat.zero_le _) dX9_addPattern_133 (by 
                                        refine ⟨fun _ => by omega, ?_⟩
                                        rw [hz1, hi9, Int.toNat_natCast] at eX96
                                        rw [hz1_96, hi9, Int.toNat_natCast] at eX106
                                        rw [hz1_106, hi9, Int.toNat_natCast] at eX116
                                        rw [hz1_116, hi9] at eX124
                                        have hi8 : (M 40 1).toNat = i9 := by omega
                                        rw [hi8]
                                        have hnZ := (((((hR.n.own (q := 0) (v := 0) rfl).row (f := 2) (a := a2) (k := i9) (v := mo) (by decide) hB2 rfl).row (f := 3) (a := a3) (k := i9) (v := ki) (by decide) hB3 rfl).row (f := 4) (a := a4) (k := i9) (v := nu) (by decide) hB4 rfl).num (q := 1) (v := (i9 : Int) + 1))
                                        have hAZ : ∀ a9, (K a9).1 ≠ 0 → ρ a9 ≠ 2000 → (∀ f, daM f = true → ρ a9 ≠ 2001 + f) → X124 a9 = X a9 := fun a9 _ g1 g2 => by rw [eX124, up2_o (fun g => g1 (by rw [g]; exact hlmd)), eX116, up2_o (fun g => g2 4 rfl (by rw [g]; exact hL4)), eX106, up2_o (fun g => g2 3 rfl (by rw [g]; exact hL3)), eX96, up2_o (fun g => g2 2 rfl (by rw [g]; exact hL2)), eX2, up2_o (fun g => g1 (by rw [g]; exact hlmd))]
                                        have h35Z : X124 md 35 = X md 35 ∨ X124 md 35 = 0 := Or.inl (by rw [eX124, up2_k (by decide), eX116, up2_o (Ne.symm hN4), eX106, up2_o (Ne.symm hN3), eX96, up2_o (Ne.symm hN2), eX2, up2_k (by decide)])
                                        have h0Z : X124 md 0 = 0 := by rw [eX124, up2_k (by decide), eX116, up2_o (Ne.symm hN4), eX106, up2_o (Ne.symm hN3), eX96, up2_o (Ne.symm hN2), eX2, up2_s]
                                        have hnY : repN ρ K X124 Rf md (padM M i9 mo ki nu) := by rw [eX124, eX116, eX106, eX96, eX2]; exact hnZ
                                        exact hR.mutX (cd := cdAdp M mo ki nu) hnY hAZ h35Z h0Z ((padM_T hM (by omega)).1) (Or.inr (padM_T hM (by omega)).2) (by (unfold cdAdp; (repeat' split) <;> omega)))
            · skip
              refine lv_aload_n (pc := 81) hx hb dX9_addPattern_81 rfl (lv_at hl 0 rfl) ?_
              refine ziconst (pc := 82) (n := 2) hx hb dX9_addPattern_82 ?_
              refine zkIx (pc := 83) (zrV (As := [.int (iI 2)]) hx hb hml hown hG hw (c_X9_refuse l Γ K X2 Rf md 2  (by (first | assumption | omega))) (T := TX9) hmd rfl cb_X9_refuse wl_X9_123 rfl ⟨Nat.le_of_ble_eq_true rfl, Nat.le_of_ble_eq_true rfl⟩ hl.1 rfl (Nat.le_of_ble_eq_true rfl) dX9_addPattern_83 ⟨Nat.zero_le _, Nat.zero_le _⟩) hw (fun r83 X83 H locs hp83 hw => ?_)
              obtain ⟨hrf83, eX83⟩ := hp83
              exact zretI (pc := 86) hx hb hlocks hr hw (Nat.zero_le _) (Nat.zero_le _) dX9_addPattern_86 (by refine ⟨fun hz => by (exfalso; revert hz; (unfold cdAdp; (repeat' split) <;> omega)), ?_⟩; exact hR.no (by (unfold cdAdp; (repeat' split) <;> omega)) (by rw [eX83]; (try rw [eX2]); (try rw [up2_up2]); exact thr_c (by (unfold cdAdp; (repeat' split) <;> omega))))
          · skip
            refine lv_iload_n (pc := 62) hx hb dX9_addPattern_62 rfl (lv_at hl 1 rfl) ?_
            refine zif_eq (pc := 63) hx hb 72 (by omega) dX9_addPattern_63 (by decide) (fun c63 => ?_) (fun c63 => ?_)
            · skip
              refine lv_aload_n (pc := 72) hx hb dX9_addPattern_72 rfl (lv_at hl 0 rfl) ?_
              refine zgetI (pc := 73) hx hb hG hown hw hmd (T := TX9) rfl 1 (by decide) rfl wf_X9_142 rfl dX9_addPattern_73 ?_
              refine zbipush (pc := 76) (n := 24) hx hb dX9_addPattern_76 rfl ?_
              refine zicmp_ne (pc := 78) hx hb 87 (by omega) (by omega) dX9_addPattern_78 (by decide) (fun c78 => ?_) (fun c78 => ?_)
              · skip
                refine lv_aload_n (pc := 87) hx hb dX9_addPattern_87 rfl (lv_at hl 0 rfl) ?_
                refine zgetR (pc := 88) hx hb hG hown hw hmd (T := TX9) rfl 2 (by decide) rfl wf_X9_9 rfl hB2 dX9_addPattern_88 ?_
                refine lv_aload_n (pc := 91) hx hb dX9_addPattern_91 rfl (lv_at hl 0 rfl) ?_
                refine zgetI (pc := 92) hx hb hG hown hw hmd (T := TX9) rfl 1 (by decide) rfl wf_X9_142 rfl dX9_addPattern_92 ?_
                refine lv_iload_n (pc := 95) hx hb dX9_addPattern_95 rfl (lv_at hl 1 rfl) ?_
                refine zast (pc := 96) hx hb hw hA2 ⟨by omega, by omega⟩ (by omega) dX9_addPattern_96 (fun H locs hw => ?_)
                obtain ⟨X96, eX96⟩ : ∃ Y : zX, Y = up2 X2 a2 (X2 md 1).toNat mo := ⟨_, rfl⟩
                rw [← eX96] at hw
                have hz1_96 : X96 md 1 = M 40 1 := by rw [eX96, up2_o (Ne.symm hN2)]; exact hz1
                refine lv_aload_n (pc := 97) hx hb dX9_addPattern_97 rfl (lv_at hl 0 rfl) ?_
                refine zgetR (pc := 98) hx hb hG hown hw hmd (T := TX9) rfl 3 (by decide) rfl wf_X9_13 rfl hB3 dX9_addPattern_98 ?_
                refine lv_aload_n (pc := 101) hx hb dX9_addPattern_101 rfl (lv_at hl 0 rfl) ?_
                refine zgetI (pc := 102) hx hb hG hown hw hmd (T := TX9) rfl 1 (by decide) rfl wf_X9_142 rfl dX9_addPattern_102 ?_
                refine lv_iload_n (pc := 105) hx hb dX9_addPattern_105 rfl (lv_at hl 2 rfl) ?_
                refine zast (pc := 106) hx hb hw hA3 ⟨by omega, by omega⟩ (by omega) dX9_addPattern_106 (fun H locs hw => ?_)
                obtain ⟨X106, eX106⟩ : ∃ Y : zX, Y = up2 X96 a3 (X96 md 1).toNat ki := ⟨_, rfl⟩
                rw [← eX106] at hw
                have hz1_106 : X106 md 1 = M 40 1 := by rw [eX106, up2_o (Ne.symm hN3)]; exact hz1_96
                refine lv_aload_n (pc := 107) hx hb dX9_addPattern_107 rfl (lv_at hl 0 rfl) ?_
                refine zgetR (pc := 108) hx hb hG hown hw hmd (T := TX9) rfl 4 (by decide) rfl wf_X9_16 rfl hB4 dX9_addPattern_108 ?_
                refine lv_aload_n (pc := 111) hx hb dX9_addPattern_111 rfl (lv_at hl 0 rfl) ?_
                refine zgetI (pc := 112) hx hb hG hown hw hmd (T := TX9) rfl 1 (by decide) rfl wf_X9_142 rfl dX9_addPattern_112 ?_
                refine lv_iload_n (pc := 115) hx hb dX9_addPattern_115 rfl (lv_at hl 3 rfl) ?_
                refine zast (pc := 116) hx hb hw hA4 ⟨by omega, by omega⟩ (by omega) dX9_addPattern_116 (fun H locs hw => ?_)
                obtain ⟨X116, eX116⟩ : ∃ Y : zX, Y = up2 X106 a4 (X106 md 1).toNat nu := ⟨_, rfl⟩
                rw [← eX116] at hw
                have hz1_116 : X116 md 1 = M 40 1 := by rw [eX116, up2_o (Ne.symm hN4)]; exact hz1_106
                refine lv_aload_n (pc := 117) hx hb dX9_addPattern_117 rfl (lv_at hl 0 rfl) ?_
                refine lv_dup (pc := 118) hx hb dX9_addPattern_118 rfl ?_
                refine zgetI (pc := 119) hx hb hG hown hw hmd (T := TX9) rfl 1 (by decide) rfl wf_X9_142 rfl dX9_addPattern_119 ?_
                refine ziconst (pc := 122) (n := 1) hx hb dX9_addPattern_122 ?_
                refine zadd (pc := 123) hx hb dX9_addPattern_123 ?_
                refine zputI (pc := 124) hx hb hG hown hw hmd (T := TX9) rfl 1 (by decide) rfl wf_X9_142 rfl (by decide +kernel) rfl dX9_addPattern_124 (fun H locs hw => ?_)
                obtain ⟨X124, eX124⟩ : ∃ Y : zX, Y = up2 X116 md 1 ((X116 md 1) + 1) := ⟨_, rfl⟩
                rw [← eX124] at hw
                have hz1_124 : X124 md 1 = M 40 1 + 1 := by rw [eX124, up2_s, hz1_116]
                refine lv_aload_n (pc := 127) hx hb dX9_addPattern_127 rfl (lv_at hl 0 rfl) ?_
                refine zgetI (pc := 128) hx hb hG hown hw hmd (T := TX9) rfl 1 (by decide) rfl wf_X9_142 rfl dX9_addPattern_128 ?_
                refine ziconst (pc := 131) (n := 1) hx hb dX9_addPattern_131 ?_
                refine zsub (pc := 132) hx hb dX9_addPattern_132 ?_
                exact zretI (pc := 133) hx hb hlocks hr hw (Nat.zero_le _) (Nat.zero_le _) dX9_addPattern_133 (by 
                                        refine ⟨fun _ => by omega, ?_⟩
                                        rw [hz1, hi9, Int.toNat_natCast] at eX96
                                        rw [hz1_96, hi9, Int.toNat_natCast] at eX106
                                        rw [hz1_106, hi9, Int.toNat_natCast] at eX116
                                        rw [hz1_116, hi9] at eX124
                                        have hi8 : (M 40 1).toNat = i9 := by omega
                                        rw [hi8]
                                        have hnZ := (((((hR.n.own (q := 0) (v := 0) rfl).row (f := 2) (a := a2) (k := i9) (v := mo) (by decide) hB2 rfl).row (f := 3) (a := a3) (k := i9) (v := ki) (by decide) hB3 rfl).row (f := 4) (a := a4) (k := i9) (v := nu) (by decide) hB4 rfl).num (q := 1) (v := (i9 : Int) + 1))
                                        have hAZ : ∀ a9, (K a9).1 ≠ 0 → ρ a9 ≠ 2000 → (∀ f, daM f = true → ρ a9 ≠ 2001 + f) → X124 a9 = X a9 := fun a9 _ g1 g2 => by rw [eX124, up2_o (fun g => g1 (by rw [g]; exact hlmd)), eX116, up2_o (fun g => g2 4 rfl (by rw [g]; exact hL4)), eX106, up2_o (fun g => g2 3 rfl (by rw [g]; exact hL3)), eX96, up2_o (fun g => g2 2 rfl (by rw [g]; exact hL2)), eX2, up2_o (fun g => g1 (by rw [g]; exact hlmd))]
                                        have h35Z : X124 md 35 = X md 35 ∨ X124 md 35 = 0 := Or.inl (by rw [eX124, up2_k (by decide), eX116, up2_o (Ne.symm hN4), eX106, up2_o (Ne.symm hN3), eX96, up2_o (Ne.symm hN2), eX2, up2_k (by decide)])
                                        have h0Z : X124 md 0 = 0 := by rw [eX124, up2_k (by decide), eX116, up2_o (Ne.symm hN4), eX106, up2_o (Ne.symm hN3), eX96, up2_o (Ne.symm hN2), eX2, up2_s]
                                        have hnY : repN ρ K X124 Rf md (padM M i9 mo ki nu) := by rw [eX124, eX116, eX106, eX96, eX2]; exact hnZ
                                        exact hR.mutX (cd := cdAdp M mo ki nu) hnY hAZ h35Z h0Z ((padM_T hM (by omega)).1) (Or.inr (padM_T hM (by omega)).2) (by (unfold cdAdp; (repeat' split) <;> omega)))
              · skip
                refine lv_aload_n (pc := 81) hx hb dX9_addPattern_81 rfl (lv_at hl 0 rfl) ?_
                refine ziconst (pc := 82) (n := 2) hx hb dX9_addPattern_82 ?_
                refine zkIx (pc := 83) (zrV (As := [.int (iI 2)]) hx hb hml hown hG hw (c_X9_refuse l Γ K X2 Rf md 2  (by (first | assumption | omega))) (T := TX9) hmd rfl cb_X9_refuse wl_X9_123 rfl ⟨Nat.le_of_ble_eq_true rfl, Nat.le_of_ble_eq_true rfl⟩ hl.1 rfl (Nat.le_of_ble_eq_true rfl) dX9_addPattern_83 ⟨Nat.zero_le _, Nat.zero_le _⟩) hw (fun r83 X83 H locs hp83 hw => ?_)
                obtain ⟨hrf83, eX83⟩ := hp83
                exact zretI (pc := 86) hx hb hlocks hr hw (Nat.zero_le _) (Nat.zero_le _) dX9_addPattern_86 (by refine ⟨fun hz => by (exfalso; revert hz; (unfold cdAdp; (repeat' split) <;> omega)), ?_⟩; exact hR.no (by (unfold cdAdp; (repeat' split) <;> omega)) (by rw [eX83]; (try rw [eX2]); (try rw [up2_up2]); exact thr_c (by (unfold cdAdp; (repeat' split) <;> omega))))
            · skip
              refine lv_aload_n (pc := 66) hx hb dX9_addPattern_66 rfl (lv_at hl 0 rfl) ?_
              refine ziconst (pc := 67) (n := 1) hx hb dX9_addPattern_67 ?_
              refine zkIx (pc := 68) (zrV (As := [.int (iI 1)]) hx hb hml hown hG hw (c_X9_refuse l Γ K X2 Rf md 1  (by (first | assumption | omega))) (T := TX9) hmd rfl cb_X9_refuse wl_X9_123 rfl ⟨Nat.le_of_ble_eq_true rfl, Nat.le_of_ble_eq_true rfl⟩ hl.1 rfl (Nat.le_of_ble_eq_true rfl) dX9_addPattern_68 ⟨Nat.zero_le _, Nat.zero_le _⟩) hw (fun r68 X68 H locs hp68 hw => ?_)
              obtain ⟨hrf68, eX68⟩ := hp68
              exact zretI (pc := 71) hx hb hlocks hr hw (Nat.zero_le _) (Nat.zero_le _) dX9_addPattern_71 (by refine ⟨fun hz => by (exfalso; revert hz; (unfold cdAdp; (repeat' split) <;> omega)), ?_⟩; exact hR.no (by (unfold cdAdp; (repeat' split) <;> omega)) (by rw [eX68]; (try rw [eX2]); (try rw [up2_up2]); exact thr_c (by (unfold cdAdp; (repeat' split) <;> omega))))
set_option maxHeartbeats 4000000 in
set_option maxRecDepth 100000 in
theorem c_X9_setHours (l : Launch) (Γ : zG) (K : zK) (X : zX) (Rf : zR) (md : Nat) (f9 : Int) (l9 : Int) (ρ : zL) (M : zM) (hR : repR ρ K X Rf md M) (hM : okM M) (h1 : fit f9 ∧ fit l9) : Ct l yX9_setHours cX9_setHours 3 (some .int) 1 0 0 Γ [.ref md, .int (iI f9), .int (iI l9)] K X Rf (pI (fun (r : Int) (K' : zK) (X' : zX) (R' : zR) => (cdHr f9 l9 = 0 → r = l9 - f9) ∧ X' md 0 = cdHr f9 l9 ∧ ∃ ρ', repR ρ' K' X' R' md (if cdHr f9 l9 = 0 then upM (upM M 27 f9) 28 l9 else M) ∧ frR ρ K X Rf ρ' K' X' R' ∧ ptR X' R' md ≤ ptR X Rf md + 5000)) := by
  refine Ct.of (by decide +kernel) (Nat.le_of_ble_eq_true rfl) ?_
  intro p e s m below meth c ls hx hb hr hml hown hG hlocks hname hw hl
  have hl : lv_has ls 3 [(0, .ref md), (1, .int (iI f9)), (2, .int (iI l9))] := hl
  obtain ⟨hmd, hlmd⟩ := id hR.1
  obtain ⟨⟨hb1, hb2, hb3, hb4⟩, hokP, hokL, hokS, hokW, hokF⟩ := id hM
  have hq1 : X md 1 = M 40 1 := hR.2.1 1 rfl
  have hq5 : X md 5 = M 40 5 := hR.2.1 5 rfl
  have hq16 : X md 16 = M 40 16 := hR.2.1 16 rfl
  have hq25 : X md 25 = M 40 25 := hR.2.1 25 rfl
  have hq26 : X md 26 = M 40 26 := hR.2.1 26 rfl
  have hq27 : X md 27 = M 40 27 := hR.2.1 27 rfl
  have hq28 : X md 28 = M 40 28 := hR.2.1 28 rfl
  have hq29 : X md 29 = M 40 29 := hR.2.1 29 rfl
  refine lv_aload_n (pc := 0) hx hb dX9_setHours_0 rfl (lv_at hl 0 rfl) ?_
  refine ziconst (pc := 1) (n := 0) hx hb dX9_setHours_1 ?_
  refine zputI (pc := 2) hx hb hG hown hw hmd (T := TX9) rfl 0 (by decide) rfl wf_X9_87 rfl (by decide +kernel) rfl dX9_setHours_2 (fun H locs hw => ?_)
  obtain ⟨X2, eX2⟩ : ∃ Y : zX, Y = up2 X md 0 0 := ⟨_, rfl⟩
  rw [← eX2] at hw
  refine lv_iload_n (pc := 5) hx hb dX9_setHours_5 rfl (lv_at hl 1 rfl) ?_
  refine ziconst (pc := 6) (n := 0) hx hb dX9_setHours_6 ?_
  refine zsipush (pc := 7) (n := 1439) hx hb dX9_setHours_7 rfl ?_
  refine zkIp (pc := 10) (zrS (As := [.int (iI f9), .int (iI 0), .int (iI 1439)]) hx hb hml hown hG hw (c_X9_is l Γ K X2 Rf f9 0 1439  (by (first | assumption | omega))) cb_X9_is wl_X9_91 rfl ⟨Nat.le_of_ble_eq_true rfl, Nat.le_of_ble_eq_true rfl⟩ hl.1 rfl (Nat.le_of_ble_eq_true rfl) dX9_setHours_10 ⟨Nat.zero_le _, Nat.zero_le _⟩) hw (fun r10 H locs hp10 hw => ?_)
  subst hp10
  refine zif_eq (pc := 13) hx hb 29 (by omega) dX9_setHours_13 (by decide) (fun c13 => ?_) (fun c13 => ?_)
  · skip
    replace c13 := it0 c13
    refine lv_aload_n (pc := 29) hx hb dX9_setHours_29 rfl (lv_at hl 0 rfl) ?_
    refine ziconst (pc := 30) (n := 1) hx hb dX9_setHours_30 ?_
    refine zkIx (pc := 31) (zrV (As := [.int (iI 1)]) hx hb hml hown hG hw (c_X9_refuse l Γ K X2 Rf md 1  (by (first | assumption | omega))) (T := TX9) hmd rfl cb_X9_refuse wl_X9_123 rfl ⟨Nat.le_of_ble_eq_true rfl, Nat.le_of_ble_eq_true rfl⟩ hl.1 rfl (Nat.le_of_ble_eq_true rfl) dX9_setHours_31 ⟨Nat.zero_le _, Nat.zero_le _⟩) hw (fun r31 X31 H locs hp31 hw => ?_)
    obtain ⟨hrf31, eX31⟩ := hp31
    exact zretI (pc := 34) hx hb hlocks hr hw (Nat.zero_le _) (Nat.zero_le _) dX9_setHours_34 (by refine ⟨fun hz => by (exfalso; revert hz; (unfold cdHr; (repeat' split) <;> omega)), ?_⟩; exact hR.no (by (unfold cdHr; (repeat' split) <;> omega)) (by rw [eX31]; (try rw [eX2]); (try rw [up2_up2]); exact thr_c (by (unfold cdHr; (repeat' split) <;> omega))))
  · skip
    replace c13 := it1 c13
    refine lv_iload_n (pc := 16) hx hb dX9_setHours_16 rfl (lv_at hl 2 rfl) ?_
    refine lv_iload_n (pc := 17) hx hb dX9_setHours_17 rfl (lv_at hl 1 rfl) ?_
    refine ziconst (pc := 18) (n := 1) hx hb dX9_setHours_18 ?_
    refine zadd (pc := 19) hx hb dX9_setHours_19 ?_
    refine zsipush (pc := 20) (n := 1440) hx hb dX9_setHours_20 rfl ?_
    refine zkIp (pc := 23) (zrS (As := [.int (iI l9), .int (iI (f9 + 1)), .int (iI 1440)]) hx hb hml hown hG hw (c_X9_is l Γ K X2 Rf l9 (f9 + 1) 1440  (by (first | assumption | omega))) cb_X9_is wl_X9_91 rfl ⟨Nat.le_of_ble_eq_true rfl, Nat.le_of_ble_eq_true rfl⟩ hl.1 rfl (Nat.le_of_ble_eq_true rfl) dX9_setHours_23 ⟨Nat.zero_le _, Nat.zero_le _⟩) hw (fun r23 H locs hp23 hw => ?_)
    subst hp23
    refine zif_ne (pc := 26) hx hb 35 (by omega) dX9_setHours_26 (by decide) (fun c26 => ?_) (fun c26 => ?_)
    · skip
      replace c26 := it1 c26
      refine lv_aload_n (pc := 35) hx hb dX9_setHours_35 rfl (lv_at hl 0 rfl) ?_
      refine lv_iload_n (pc := 36) hx hb dX9_setHours_36 rfl (lv_at hl 1 rfl) ?_
      refine zputI (pc := 37) hx hb hG hown hw hmd (T := TX9) rfl 27 (by decide) rfl wf_X9_64 rfl (by decide +kernel) rfl dX9_setHours_37 (fun H locs hw => ?_)
      obtain ⟨X37, eX37⟩ : ∃ Y : zX, Y = up2 X2 md 27 f9 := ⟨_, rfl⟩
      rw [← eX37] at hw
      refine lv_aload_n (pc := 40) hx hb dX9_setHours_40 rfl (lv_at hl 0 rfl) ?_
      refine lv_iload_n (pc := 41) hx hb dX9_setHours_41 rfl (lv_at hl 2 rfl) ?_
      refine zputI (pc := 42) hx hb hG hown hw hmd (T := TX9) rfl 28 (by decide) rfl wf_X9_67 rfl (by decide +kernel) rfl dX9_setHours_42 (fun H locs hw => ?_)
      obtain ⟨X42, eX42⟩ : ∃ Y : zX, Y = up2 X37 md 28 l9 := ⟨_, rfl⟩
      rw [← eX42] at hw
      refine lv_iload_n (pc := 45) hx hb dX9_setHours_45 rfl (lv_at hl 2 rfl) ?_
      refine lv_iload_n (pc := 46) hx hb dX9_setHours_46 rfl (lv_at hl 1 rfl) ?_
      refine zsub (pc := 47) hx hb dX9_setHours_47 ?_
      exact zretI (pc := 48) hx hb hlocks hr hw (Nat.zero_le _) (Nat.zero_le _) dX9_setHours_48 (by 
                                        refine ⟨fun _ => by omega, ?_⟩
                                        have hnZ := (((hR.n.own (q := 0) (v := 0) rfl).num (q := 27) (v := f9)).num (q := 28) (v := l9))
                                        have hAZ : ∀ a9, (K a9).1 ≠ 0 → ρ a9 ≠ 2000 → (∀ f, daM f = true → ρ a9 ≠ 2001 + f) → X42 a9 = X a9 := fun a9 _ g1 g2 => by rw [eX42, up2_o (fun g => g1 (by rw [g]; exact hlmd)), eX37, up2_o (fun g => g1 (by rw [g]; exact hlmd)), eX2, up2_o (fun g => g1 (by rw [g]; exact hlmd))]
                                        have h35Z : X42 md 35 = X md 35 ∨ X42 md 35 = 0 := Or.inl (by rw [eX42, up2_k (by decide), eX37, up2_k (by decide), eX2, up2_k (by decide)])
                                        have h0Z : X42 md 0 = 0 := by rw [eX42, up2_k (by decide), eX37, up2_k (by decide), eX2, up2_s]
                                        have hnY : repN ρ K X42 Rf md (upM (upM M 27 f9) 28 l9) := by rw [eX42, eX37, eX2]; exact hnZ
                                        exact hR.mutX (cd := cdHr f9 l9) hnY hAZ h35Z h0Z (by obtain ⟨a1, a2, a3, a4⟩ := upM_T (M := M) (q := 27) (v := f9) (by decide) (by decide); obtain ⟨b1, b2, b3, b4⟩ := upM_T (M := upM M 27 f9) (q := 28) (v := l9) (by decide) (by decide); exact sameT_f (by rw [b1, a1]) (by rw [b2, a2]) (by rw [upM_f (by decide), upM_f (by decide)]) (by rw [upM_f (by decide), upM_f (by decide)]) (by rw [upM_f (by decide), upM_f (by decide)]) (by rw [upM_f (by decide), upM_f (by decide)]) (by rw [upM_f (by decide), upM_f (by decide)]) (by rw [upM_f (by decide), upM_f (by decide)]) (fun k => by rw [upM_p, upM_p])) (Or.inr (by rw [upM_F (by decide) (by decide), upM_F (by decide) (by decide)])) (by (unfold cdHr; (repeat' split) <;> omega)))
    · skip
      replace c26 := it0 c26
      refine lv_aload_n (pc := 29) hx hb dX9_setHours_29 rfl (lv_at hl 0 rfl) ?_
      refine ziconst (pc := 30) (n := 1) hx hb dX9_setHours_30 ?_
      refine zkIx (pc := 31) (zrV (As := [.int (iI 1)]) hx hb hml hown hG hw (c_X9_refuse l Γ K X2 Rf md 1  (by (first | assumption | omega))) (T := TX9) hmd rfl cb_X9_refuse wl_X9_123 rfl ⟨Nat.le_of_ble_eq_true rfl, Nat.le_of_ble_eq_true rfl⟩ hl.1 rfl (Nat.le_of_ble_eq_true rfl) dX9_setHours_31 ⟨Nat.zero_le _, Nat.zero_le _⟩) hw (fun r31 X31 H locs hp31 hw => ?_)
      obtain ⟨hrf31, eX31⟩ := hp31
      exact zretI (pc := 34) hx hb hlocks hr hw (Nat.zero_le _) (Nat.zero_le _) dX9_setHours_34 (by refine ⟨fun hz => by (exfalso; revert hz; (unfold cdHr; (repeat' split) <;> omega)), ?_⟩; exact hR.no (by (unfold cdHr; (repeat' split) <;> omega)) (by rw [eX31]; (try rw [eX2]); (try rw [up2_up2]); exact thr_c (by (unfold cdHr; (repeat' split) <;> omega))))
set_option maxHeartbeats 4000000 in
set_option maxRecDepth 100000 in
theorem c_X9_setWeek (l : Launch) (Γ : zG) (K : zK) (X : zX) (Rf : zR) (md : Nat) (w9 : Int) (ρ : zL) (M : zM) (hR : repR ρ K X Rf md M) (hM : okM M) (h1 : fit w9) : Ct l yX9_setWeek cX9_setWeek 3 (some .int) 1 0 0 Γ [.ref md, .int (iI w9)] K X Rf (pI (fun (r : Int) (K' : zK) (X' : zX) (R' : zR) => (cdWk w9 = 0 → r = M 40 26) ∧ X' md 0 = cdWk w9 ∧ ∃ ρ', repR ρ' K' X' R' md (if cdWk w9 = 0 then upM M 26 w9 else M) ∧ frR ρ K X Rf ρ' K' X' R' ∧ ptR X' R' md ≤ ptR X Rf md + 5000)) := by
  refine Ct.of (by decide +kernel) (Nat.le_of_ble_eq_true rfl) ?_
  intro p e s m below meth c ls hx hb hr hml hown hG hlocks hname hw hl
  have hl : lv_has ls 3 [(0, .ref md), (1, .int (iI w9))] := hl
  obtain ⟨hmd, hlmd⟩ := id hR.1
  obtain ⟨⟨hb1, hb2, hb3, hb4⟩, hokP, hokL, hokS, hokW, hokF⟩ := id hM
  have hq1 : X md 1 = M 40 1 := hR.2.1 1 rfl
  have hq5 : X md 5 = M 40 5 := hR.2.1 5 rfl
  have hq16 : X md 16 = M 40 16 := hR.2.1 16 rfl
  have hq25 : X md 25 = M 40 25 := hR.2.1 25 rfl
  have hq26 : X md 26 = M 40 26 := hR.2.1 26 rfl
  have hq27 : X md 27 = M 40 27 := hR.2.1 27 rfl
  have hq28 : X md 28 = M 40 28 := hR.2.1 28 rfl
  have hq29 : X md 29 = M 40 29 := hR.2.1 29 rfl
  refine lv_aload_n (pc := 0) hx hb dX9_setWeek_0 rfl (lv_at hl 0 rfl) ?_
  refine ziconst (pc := 1) (n := 0) hx hb dX9_setWeek_1 ?_
  refine zputI (pc := 2) hx hb hG hown hw hmd (T := TX9) rfl 0 (by decide) rfl wf_X9_87 rfl (by decide +kernel) rfl dX9_setWeek_2 (fun H locs hw => ?_)
  obtain ⟨X2, eX2⟩ : ∃ Y : zX, Y = up2 X md 0 0 := ⟨_, rfl⟩
  rw [← eX2] at hw
  have hz26 : X2 md 26 = M 40 26 := by rw [eX2, up2_k (by decide)]; exact hq26
  refine lv_iload_n (pc := 5) hx hb dX9_setWeek_5 rfl (lv_at hl 1 rfl) ?_
  refine ziconst (pc := 6) (n := 1) hx hb dX9_setWeek_6 ?_
  refine zbipush (pc := 7) (n := 127) hx hb dX9_setWeek_7 rfl ?_
  refine zkIp (pc := 9) (zrS (As := [.int (iI w9), .int (iI 1), .int (iI 127)]) hx hb hml hown hG hw (c_X9_is l Γ K X2 Rf w9 1 127  (by (first | assumption | omega))) cb_X9_is wl_X9_91 rfl ⟨Nat.le_of_ble_eq_true rfl, Nat.le_of_ble_eq_true rfl⟩ hl.1 rfl (Nat.le_of_ble_eq_true rfl) dX9_setWeek_9 ⟨Nat.zero_le _, Nat.zero_le _⟩) hw (fun r9 H locs hp9 hw => ?_)
  subst hp9
  refine zif_ne (pc := 12) hx hb 21 (by omega) dX9_setWeek_12 (by decide) (fun c12 => ?_) (fun c12 => ?_)
  · skip
    replace c12 := it1 c12
    refine lv_aload_n (pc := 21) hx hb dX9_setWeek_21 rfl (lv_at hl 0 rfl) ?_
    refine zgetI (pc := 22) hx hb hG hown hw hmd (T := TX9) rfl 26 (by decide) rfl wf_X9_61 rfl dX9_setWeek_22 ?_
    refine ztop (fun x25 ex25 => ?_)
    refine lv_istore_n (pc := 25) (lv' := [(2, .int (iI x25)), (0, .ref md), (1, .int (iI w9))]) hx hb dX9_setWeek_25 rfl hl (by decide) rfl (fun ls hl => ?_)
    refine lv_aload_n (pc := 26) hx hb dX9_setWeek_26 rfl (lv_at hl 1 rfl) ?_
    refine lv_iload_n (pc := 27) hx hb dX9_setWeek_27 rfl (lv_at hl 2 rfl) ?_
    refine zputI (pc := 28) hx hb hG hown hw hmd (T := TX9) rfl 26 (by decide) rfl wf_X9_61 rfl (by decide +kernel) rfl dX9_setWeek_28 (fun H locs hw => ?_)
    obtain ⟨X28, eX28⟩ : ∃ Y : zX, Y = up2 X2 md 26 w9 := ⟨_, rfl⟩
    rw [← eX28] at hw
    refine lv_aload_n (pc := 31) hx hb dX9_setWeek_31 rfl (lv_at hl 1 rfl) ?_
    refine ziconst (pc := 32) (n := 0) hx hb dX9_setWeek_32 ?_
    refine zputZ (pc := 33) hx hb hG hown hw hmd (T := TX9) rfl 35 (by decide) rfl wf_X9_281 rfl (by omega) (by decide +kernel) rfl dX9_setWeek_33 (fun H locs hw => ?_)
    obtain ⟨X33, eX33⟩ : ∃ Y : zX, Y = up2 X28 md 35 0 := ⟨_, rfl⟩
    rw [← eX33] at hw
    refine lv_iload_n (pc := 36) hx hb dX9_setWeek_36 rfl (lv_at hl 0 rfl) ?_
    exact zretI (pc := 37) hx hb hlocks hr hw (Nat.zero_le _) (Nat.zero_le _) dX9_setWeek_37 (by 
                                        refine ⟨fun _ => by omega, ?_⟩
                                        have hnZ := (((hR.n.own (q := 0) (v := 0) rfl).num (q := 26) (v := w9)).own (q := 35) (v := 0) rfl)
                                        have hAZ : ∀ a9, (K a9).1 ≠ 0 → ρ a9 ≠ 2000 → (∀ f, daM f = true → ρ a9 ≠ 2001 + f) → X33 a9 = X a9 := fun a9 _ g1 g2 => by rw [eX33, up2_o (fun g => g1 (by rw [g]; exact hlmd)), eX28, up2_o (fun g => g1 (by rw [g]; exact hlmd)), eX2, up2_o (fun g => g1 (by rw [g]; exact hlmd))]
                                        have h35Z : X33 md 35 = X md 35 ∨ X33 md 35 = 0 := Or.inr (by rw [eX33, up2_s])
                                        have h0Z : X33 md 0 = 0 := by rw [eX33, up2_k (by decide), eX28, up2_k (by decide), eX2, up2_s]
                                        have hnY : repN ρ K X33 Rf md (upM M 26 w9) := by rw [eX33, eX28, eX2]; exact hnZ
                                        exact hR.mutX (cd := cdWk w9) hnY hAZ h35Z h0Z (upM_T (by decide) (by decide)) (Or.inl (by rw [eX33, up2_s])) (by (unfold cdWk; (repeat' split) <;> omega)))
  · skip
    replace c12 := it0 c12
    refine lv_aload_n (pc := 15) hx hb dX9_setWeek_15 rfl (lv_at hl 0 rfl) ?_
    refine ziconst (pc := 16) (n := 1) hx hb dX9_setWeek_16 ?_
    refine zkIx (pc := 17) (zrV (As := [.int (iI 1)]) hx hb hml hown hG hw (c_X9_refuse l Γ K X2 Rf md 1  (by (first | assumption | omega))) (T := TX9) hmd rfl cb_X9_refuse wl_X9_123 rfl ⟨Nat.le_of_ble_eq_true rfl, Nat.le_of_ble_eq_true rfl⟩ hl.1 rfl (Nat.le_of_ble_eq_true rfl) dX9_setWeek_17 ⟨Nat.zero_le _, Nat.zero_le _⟩) hw (fun r17 X17 H locs hp17 hw => ?_)
    obtain ⟨hrf17, eX17⟩ := hp17
    exact zretI (pc := 20) hx hb hlocks hr hw (Nat.zero_le _) (Nat.zero_le _) dX9_setWeek_20 (by refine ⟨fun hz => by (exfalso; revert hz; (unfold cdWk; (repeat' split) <;> omega)), ?_⟩; exact hR.no (by (unfold cdWk; (repeat' split) <;> omega)) (by rw [eX17]; (try rw [eX2]); (try rw [up2_up2]); exact thr_c (by (unfold cdWk; (repeat' split) <;> omega))))
set_option maxHeartbeats 4000000 in
set_option maxRecDepth 100000 in
theorem c_X9_isPlace (l : Launch) (Γ : zG) (K : zK) (X : zX) (Rf : zR) (md : Nat) (a : Int)  (hmd : K md = (1, 8)) (h1 : fit a ∧ -1000 ≤ X md 5 ∧ X md 5 ≤ 1000) : Ct l yX9_isPlace cX9_isPlace 2 (some .boolean) 1 0 0 Γ [.ref md, .int (iI a)] K X Rf (pI (zp0 K X Rf (fun r : Int => r = if 0 ≤ a ∧ a ≤ X md 5 - 1 then 1 else 0))) := by
  refine Ct.of (by decide +kernel) (Nat.le_of_ble_eq_true rfl) ?_
  intro p e s m below meth c ls hx hb hr hml hown hG hlocks hname hw hl
  have hl : lv_has ls 2 [(0, .ref md), (1, .int (iI a))] := hl
  refine lv_iload_n (pc := 0) hx hb dX9_isPlace_0 rfl (lv_at hl 1 rfl) ?_
  refine ziconst (pc := 1) (n := 0) hx hb dX9_isPlace_1 ?_
  refine lv_aload_n (pc := 2) hx hb dX9_isPlace_2 rfl (lv_at hl 0 rfl) ?_
  refine zgetI (pc := 3) hx hb hG hown hw hmd (T := TX9) rfl 5 (by decide) rfl wf_X9_158 rfl dX9_isPlace_3 ?_
  refine ziconst (pc := 6) (n := 1) hx hb dX9_isPlace_6 ?_
  refine zsub (pc := 7) hx hb dX9_isPlace_7 ?_
  refine zkIp (pc := 8) (zrS (As := [.int (iI a), .int (iI 0), .int (iI ((X md 5) - 1))]) hx hb hml hown hG hw (c_X9_is l Γ K X Rf a 0 ((X md 5) - 1)  (by (first | assumption | omega))) cb_X9_is wl_X9_91 rfl ⟨Nat.le_of_ble_eq_true rfl, Nat.le_of_ble_eq_true rfl⟩ hl.1 rfl (Nat.le_of_ble_eq_true rfl) dX9_isPlace_8 ⟨Nat.zero_le _, Nat.zero_le _⟩) hw (fun r8 H locs hp8 hw => ?_)
  subst hp8
  exact zretZ (pc := 11) hx hb hlocks hr (by omega) hw (Nat.zero_le _) (Nat.zero_le _) dX9_isPlace_11 ⟨by (try dsimp only) <;> ((first | assumption | omega)), rfl, rfl, rfl⟩
set_option maxHeartbeats 4000000 in
set_option maxRecDepth 100000 in
theorem c_X9_isSeries (l : Launch) (Γ : zG) (K : zK) (X : zX) (Rf : zR) (md : Nat) (a : Int)  (hmd : K md = (1, 8)) (h1 : fit a ∧ -1000 ≤ X md 16 ∧ X md 16 ≤ 1000) : Ct l yX9_isSeries cX9_isSeries 2 (some .boolean) 1 0 0 Γ [.ref md, .int (iI a)] K X Rf (pI (zp0 K X Rf (fun r : Int => r = if 0 ≤ a ∧ a ≤ X md 16 - 1 then 1 else 0))) := by
  refine Ct.of (by decide +kernel) (Nat.le_of_ble_eq_true rfl) ?_
  intro p e s m below meth c ls hx hb hr hml hown hG hlocks hname hw hl
  have hl : lv_has ls 2 [(0, .ref md), (1, .int (iI a))] := hl
  refine lv_iload_n (pc := 0) hx hb dX9_isSeries_0 rfl (lv_at hl 1 rfl) ?_
  refine ziconst (pc := 1) (n := 0) hx hb dX9_isSeries_1 ?_
  refine lv_aload_n (pc := 2) hx hb dX9_isSeries_2 rfl (lv_at hl 0 rfl) ?_
  refine zgetI (pc := 3) hx hb hG hown hw hmd (T := TX9) rfl 16 (by decide) rfl wf_X9_228 rfl dX9_isSeries_3 ?_
  refine ziconst (pc := 6) (n := 1) hx hb dX9_isSeries_6 ?_
  refine zsub (pc := 7) hx hb dX9_isSeries_7 ?_
  refine zkIp (pc := 8) (zrS (As := [.int (iI a), .int (iI 0), .int (iI ((X md 16) - 1))]) hx hb hml hown hG hw (c_X9_is l Γ K X Rf a 0 ((X md 16) - 1)  (by (first | assumption | omega))) cb_X9_is wl_X9_91 rfl ⟨Nat.le_of_ble_eq_true rfl, Nat.le_of_ble_eq_true rfl⟩ hl.1 rfl (Nat.le_of_ble_eq_true rfl) dX9_isSeries_8 ⟨Nat.zero_le _, Nat.zero_le _⟩) hw (fun r8 H locs hp8 hw => ?_)
  subst hp8
  exact zretZ (pc := 11) hx hb hlocks hr (by omega) hw (Nat.zero_le _) (Nat.zero_le _) dX9_isSeries_11 ⟨by (try dsimp only) <;> ((first | assumption | omega)), rfl, rfl, rfl⟩
set_option maxHeartbeats 4000000 in
set_option maxRecDepth 100000 in
theorem c_X9_setWorkPlace (l : Launch) (Γ : zG) (K : zK) (X : zX) (Rf : zR) (md : Nat) (a : Int) (ρ : zL) (M : zM) (hR : repR ρ K X Rf md M) (hM : okM M) (h1 : fit a) : Ct l yX9_setWorkPlace cX9_setWorkPlace 3 (some .int) 2 0 0 Γ [.ref md, .int (iI a)] K X Rf (pI (fun (r : Int) (K' : zK) (X' : zX) (R' : zR) => (cdPl M a = 0 → r = M 40 25) ∧ X' md 0 = cdPl M a ∧ ∃ ρ', repR ρ' K' X' R' md (if cdPl M a = 0 then upM M 25 a else M) ∧ frR ρ K X Rf ρ' K' X' R' ∧ ptR X' R' md ≤ ptR X Rf md + 5000)) := by
  refine Ct.of (by decide +kernel) (Nat.le_of_ble_eq_true rfl) ?_
  intro p e s m below meth c ls hx hb hr hml hown hG hlocks hname hw hl
  have hl : lv_has ls 3 [(0, .ref md), (1, .int (iI a))] := hl
  obtain ⟨hmd, hlmd⟩ := id hR.1
  obtain ⟨⟨hb1, hb2, hb3, hb4⟩, hokP, hokL, hokS, hokW, hokF⟩ := id hM
  have hq1 : X md 1 = M 40 1 := hR.2.1 1 rfl
  have hq5 : X md 5 = M 40 5 := hR.2.1 5 rfl
  have hq16 : X md 16 = M 40 16 := hR.2.1 16 rfl
  have hq25 : X md 25 = M 40 25 := hR.2.1 25 rfl
  have hq26 : X md 26 = M 40 26 := hR.2.1 26 rfl
  have hq27 : X md 27 = M 40 27 := hR.2.1 27 rfl
  have hq28 : X md 28 = M 40 28 := hR.2.1 28 rfl
  have hq29 : X md 29 = M 40 29 := hR.2.1 29 rfl
  refine lv_aload_n (pc := 0) hx hb dX9_setWorkPlace_0 rfl (lv_at hl 0 rfl) ?_
  refine ziconst (pc := 1) (n := 0) hx hb dX9_setWorkPlace_1 ?_
  refine zputI (pc := 2) hx hb hG hown hw hmd (T := TX9) rfl 0 (by decide) rfl wf_X9_87 rfl (by decide +kernel) rfl dX9_setWorkPlace_2 (fun H locs hw => ?_)
  obtain ⟨X2, eX2⟩ : ∃ Y : zX, Y = up2 X md 0 0 := ⟨_, rfl⟩
  rw [← eX2] at hw
  have hz5 : X2 md 5 = M 40 5 := by rw [eX2, up2_k (by decide)]; exact hq5
  have hz25 : X2 md 25 = M 40 25 := by rw [eX2, up2_k (by decide)]; exact hq25
  refine lv_aload_n (pc := 5) hx hb dX9_setWorkPlace_5 rfl (lv_at hl 0 rfl) ?_
  refine lv_iload_n (pc := 6) hx hb dX9_setWorkPlace_6 rfl (lv_at hl 1 rfl) ?_
  refine zkIp (pc := 7) (zrV (As := [.int (iI a)]) hx hb hml hown hG hw (c_X9_isPlace l Γ K X2 Rf md a  (by (first | assumption | omega)) (by (first | assumption | omega))) (T := TX9) hmd rfl cb_X9_isPlace wl_X9_161 rfl ⟨Nat.le_of_ble_eq_true rfl, Nat.le_of_ble_eq_true rfl⟩ hl.1 rfl (Nat.le_of_ble_eq_true rfl) dX9_setWorkPlace_7 ⟨Nat.zero_le _, Nat.zero_le _⟩) hw (fun r7 H locs hp7 hw => ?_)
  subst hp7
  refine zif_ne (pc := 10) hx hb 19 (by omega) dX9_setWorkPlace_10 (by decide) (fun c10 => ?_) (fun c10 => ?_)
  · skip
    replace c10 := it1 c10
    refine lv_aload_n (pc := 19) hx hb dX9_setWorkPlace_19 rfl (lv_at hl 0 rfl) ?_
    refine zgetI (pc := 20) hx hb hG hown hw hmd (T := TX9) rfl 25 (by decide) rfl wf_X9_57 rfl dX9_setWorkPlace_20 ?_
    refine ztop (fun x23 ex23 => ?_)
    refine lv_istore_n (pc := 23) (lv' := [(2, .int (iI x23)), (0, .ref md), (1, .int (iI a))]) hx hb dX9_setWorkPlace_23 rfl hl (by decide) rfl (fun ls hl => ?_)
    refine lv_aload_n (pc := 24) hx hb dX9_setWorkPlace_24 rfl (lv_at hl 1 rfl) ?_
    refine lv_iload_n (pc := 25) hx hb dX9_setWorkPlace_25 rfl (lv_at hl 2 rfl) ?_
    refine zputI (pc := 26) hx hb hG hown hw hmd (T := TX9) rfl 25 (by decide) rfl wf_X9_57 rfl (by decide +kernel) rfl dX9_setWorkPlace_26 (fun H locs hw => ?_)
    obtain ⟨X26, eX26⟩ : ∃ Y : zX, Y = up2 X2 md 25 a := ⟨_, rfl⟩
    rw [← eX26] at hw
    refine lv_iload_n (pc := 29) hx hb dX9_setWorkPlace_29 rfl (lv_at hl 0 rfl) ?_
    exact zretI (pc := 30) hx hb hlocks hr hw (Nat.zero_le _) (Nat.zero_le _) dX9_setWorkPlace_30 (by 
                                        refine ⟨fun _ => by omega, ?_⟩
                                        have hnZ := ((hR.n.own (q := 0) (v := 0) rfl).num (q := 25) (v := a))
                                        have hAZ : ∀ a9, (K a9).1 ≠ 0 → ρ a9 ≠ 2000 → (∀ f, daM f = true → ρ a9 ≠ 2001 + f) → X26 a9 = X a9 := fun a9 _ g1 g2 => by rw [eX26, up2_o (fun g => g1 (by rw [g]; exact hlmd)), eX2, up2_o (fun g => g1 (by rw [g]; exact hlmd))]
                                        have h35Z : X26 md 35 = X md 35 ∨ X26 md 35 = 0 := Or.inl (by rw [eX26, up2_k (by decide), eX2, up2_k (by decide)])
                                        have h0Z : X26 md 0 = 0 := by rw [eX26, up2_k (by decide), eX2, up2_s]
                                        have hnY : repN ρ K X26 Rf md (upM M 25 a) := by rw [eX26, eX2]; exact hnZ
                                        exact hR.mutX (cd := cdPl M a) hnY hAZ h35Z h0Z (upM_T (by decide) (by decide)) (Or.inr (upM_F (by decide) (by decide))) (by (unfold cdPl; (repeat' split) <;> omega)))
  · skip
    replace c10 := it0 c10
    refine lv_aload_n (pc := 13) hx hb dX9_setWorkPlace_13 rfl (lv_at hl 0 rfl) ?_
    refine ziconst (pc := 14) (n := 1) hx hb dX9_setWorkPlace_14 ?_
    refine zkIx (pc := 15) (zrV (As := [.int (iI 1)]) hx hb hml hown hG hw (c_X9_refuse l Γ K X2 Rf md 1  (by (first | assumption | omega))) (T := TX9) hmd rfl cb_X9_refuse wl_X9_123 rfl ⟨Nat.le_of_ble_eq_true rfl, Nat.le_of_ble_eq_true rfl⟩ hl.1 rfl (Nat.le_of_ble_eq_true rfl) dX9_setWorkPlace_15 ⟨Nat.zero_le _, Nat.zero_le _⟩) hw (fun r15 X15 H locs hp15 hw => ?_)
    obtain ⟨hrf15, eX15⟩ := hp15
    exact zretI (pc := 18) hx hb hlocks hr hw (Nat.zero_le _) (Nat.zero_le _) dX9_setWorkPlace_18 (by refine ⟨fun hz => by (exfalso; revert hz; (unfold cdPl; (repeat' split) <;> omega)), ?_⟩; exact hR.no (by (unfold cdPl; (repeat' split) <;> omega)) (by rw [eX15]; (try rw [eX2]); (try rw [up2_up2]); exact thr_c (by (unfold cdPl; (repeat' split) <;> omega))))
set_option maxHeartbeats 4000000 in
set_option maxRecDepth 100000 in
theorem c_X9_addFeast (l : Launch) (Γ : zG) (K : zK) (X : zX) (Rf : zR) (md : Nat) (fy : Int) (ly : Int) (b9 : Int) (wy : Int) (ρ : zL) (M : zM) (hR : repR ρ K X Rf md M) (hM : okM M) (h1 : fit fy ∧ fit ly ∧ fit b9 ∧ fit wy) : Ct l yX9_addFeast cX9_addFeast 5 (some .int) 2 0 0 Γ [.ref md, .int (iI fy), .int (iI ly), .int (iI b9), .int (iI wy)] K X Rf (pI (fun (r : Int) (K' : zK) (X' : zX) (R' : zR) => (cdAfe M fy ly b9 wy = 0 → r = M 40 29) ∧ X' md 0 = cdAfe M fy ly b9 wy ∧ ∃ ρ', repR ρ' K' X' R' md (if cdAfe M fy ly b9 wy = 0 then faM M (M 40 29).toNat fy ly b9 wy else M) ∧ frR ρ K X Rf ρ' K' X' R' ∧ ptR X' R' md ≤ ptR X Rf md + 5000)) := by
  refine Ct.of (by decide +kernel) (Nat.le_of_ble_eq_true rfl) ?_
  intro p e s m below meth c ls hx hb hr hml hown hG hlocks hname hw hl
  have hl : lv_has ls 5 [(0, .ref md), (1, .int (iI fy)), (2, .int (iI ly)), (3, .int (iI b9)), (4, .int (iI wy))] := hl
  obtain ⟨hmd, hlmd⟩ := id hR.1
  obtain ⟨⟨hb1, hb2, hb3, hb4⟩, hokP, hokL, hokS, hokW, hokF⟩ := id hM
  have hq1 : X md 1 = M 40 1 := hR.2.1 1 rfl
  have hq5 : X md 5 = M 40 5 := hR.2.1 5 rfl
  have hq16 : X md 16 = M 40 16 := hR.2.1 16 rfl
  have hq25 : X md 25 = M 40 25 := hR.2.1 25 rfl
  have hq26 : X md 26 = M 40 26 := hR.2.1 26 rfl
  have hq27 : X md 27 = M 40 27 := hR.2.1 27 rfl
  have hq28 : X md 28 = M 40 28 := hR.2.1 28 rfl
  have hq29 : X md 29 = M 40 29 := hR.2.1 29 rfl
  obtain ⟨a30, hB30, hA30, hL30, hD30⟩ : ∃ a, Rf md 30 = some a ∧ K a = (2, 20) ∧ ρ a = 2031 ∧ X a = M 30 := hR.fd 30 (by decide) rfl
  have hN30 : Apt a30 md := zkn2 hA30 hmd (by simp)
  obtain ⟨a31, hB31, hA31, hL31, hD31⟩ : ∃ a, Rf md 31 = some a ∧ K a = (2, 20) ∧ ρ a = 2032 ∧ X a = M 31 := hR.fd 31 (by decide) rfl
  have hN31 : Apt a31 md := zkn2 hA31 hmd (by simp)
  obtain ⟨a32, hB32, hA32, hL32, hD32⟩ : ∃ a, Rf md 32 = some a ∧ K a = (2, 20) ∧ ρ a = 2033 ∧ X a = M 32 := hR.fd 32 (by decide) rfl
  have hN32 : Apt a32 md := zkn2 hA32 hmd (by simp)
  obtain ⟨a33, hB33, hA33, hL33, hD33⟩ : ∃ a, Rf md 33 = some a ∧ K a = (2, 20) ∧ ρ a = 2034 ∧ X a = M 33 := hR.fd 33 (by decide) rfl
  have hN33 : Apt a33 md := zkn2 hA33 hmd (by simp)
  obtain ⟨i9, hi9⟩ : ∃ i9 : Nat, M 40 29 = i9 := ⟨(M 40 29).toNat, by omega⟩
  refine lv_aload_n (pc := 0) hx hb dX9_addFeast_0 rfl (lv_at hl 0 rfl) ?_
  refine ziconst (pc := 1) (n := 0) hx hb dX9_addFeast_1 ?_
  refine zputI (pc := 2) hx hb hG hown hw hmd (T := TX9) rfl 0 (by decide) rfl wf_X9_87 rfl (by decide +kernel) rfl dX9_addFeast_2 (fun H locs hw => ?_)
  obtain ⟨X2, eX2⟩ : ∃ Y : zX, Y = up2 X md 0 0 := ⟨_, rfl⟩
  rw [← eX2] at hw
  have hE30 : X2 a30 = M 30 := by rw [eX2, up2_o hN30]; exact hD30
  have hE31 : X2 a31 = M 31 := by rw [eX2, up2_o hN31]; exact hD31
  have hE32 : X2 a32 = M 32 := by rw [eX2, up2_o hN32]; exact hD32
  have hE33 : X2 a33 = M 33 := by rw [eX2, up2_o hN33]; exact hD33
  have hz1 : X2 md 1 = M 40 1 := by rw [eX2, up2_k (by decide)]; exact hq1
  have hz29 : X2 md 29 = M 40 29 := by rw [eX2, up2_k (by decide)]; exact hq29
  refine lv_aload_n (pc := 5) hx hb dX9_addFeast_5 rfl (lv_at hl 0 rfl) ?_
  refine lv_iload_n (pc := 6) hx hb dX9_addFeast_6 rfl (lv_at hl 3 rfl) ?_
  refine zkIp (pc := 7) (zrV (As := [.int (iI b9)]) hx hb hml hown hG hw (c_X9_isPattern l Γ K X2 Rf md b9  (by (first | assumption | omega)) (by (first | assumption | omega))) (T := TX9) hmd rfl cb_X9_isPattern wl_X9_148 rfl ⟨Nat.le_of_ble_eq_true rfl, Nat.le_of_ble_eq_true rfl⟩ hl.1 rfl (Nat.le_of_ble_eq_true rfl) dX9_addFeast_7 ⟨Nat.zero_le _, Nat.zero_le _⟩) hw (fun r7 H locs hp7 hw => ?_)
  subst hp7
  refine zif_ne (pc := 10) hx hb 19 (by omega) dX9_addFeast_10 (by decide) (fun c10 => ?_) (fun c10 => ?_)
  · skip
    replace c10 := it1 c10
    refine lv_iload_n (pc := 19) hx hb dX9_addFeast_19 rfl (lv_at hl 1 rfl) ?_
    refine zkIp (pc := 20) (zrS (As := [.int (iI fy)]) hx hb hml hown hG hw (c_X9_isYear l Γ K X2 Rf fy  (by (first | assumption | omega))) cb_X9_isYear wl_X9_119 rfl ⟨Nat.le_of_ble_eq_true rfl, Nat.le_of_ble_eq_true rfl⟩ hl.1 rfl (Nat.le_of_ble_eq_true rfl) dX9_addFeast_20 ⟨Nat.zero_le _, Nat.zero_le _⟩) hw (fun r20 H locs hp20 hw => ?_)
    subst hp20
    refine zif_eq (pc := 23) hx hb 47 (by omega) dX9_addFeast_23 (by decide) (fun c23 => ?_) (fun c23 => ?_)
    · skip
      replace c23 := it0 c23
      refine lv_aload_n (pc := 47) hx hb dX9_addFeast_47 rfl (lv_at hl 0 rfl) ?_
      refine ziconst (pc := 48) (n := 2) hx hb dX9_addFeast_48 ?_
      refine zkIx (pc := 49) (zrV (As := [.int (iI 2)]) hx hb hml hown hG hw (c_X9_refuse l Γ K X2 Rf md 2  (by (first | assumption | omega))) (T := TX9) hmd rfl cb_X9_refuse wl_X9_123 rfl ⟨Nat.le_of_ble_eq_true rfl, Nat.le_of_ble_eq_true rfl⟩ hl.1 rfl (Nat.le_of_ble_eq_true rfl) dX9_addFeast_49 ⟨Nat.zero_le _, Nat.zero_le _⟩) hw (fun r49 X49 H locs hp49 hw => ?_)
      obtain ⟨hrf49, eX49⟩ := hp49
      exact zretI (pc := 52) hx hb hlocks hr hw (Nat.zero_le _) (Nat.zero_le _) dX9_addFeast_52 (by refine ⟨fun hz => by (exfalso; revert hz; (unfold cdAfe; (repeat' split) <;> omega)), ?_⟩; exact hR.no (by (unfold cdAfe; (repeat' split) <;> omega)) (by rw [eX49]; (try rw [eX2]); (try rw [up2_up2]); exact thr_c (by (unfold cdAfe; (repeat' split) <;> omega))))
    · skip
      replace c23 := it1 c23
      refine lv_iload_n (pc := 26) hx hb dX9_addFeast_26 rfl (lv_at hl 2 rfl) ?_
      refine lv_iload_n (pc := 27) hx hb dX9_addFeast_27 rfl (lv_at hl 1 rfl) ?_
      refine zsipush (pc := 28) (n := 2099) hx hb dX9_addFeast_28 rfl ?_
      refine zkIp (pc := 31) (zrS (As := [.int (iI ly), .int (iI fy), .int (iI 2099)]) hx hb hml hown hG hw (c_X9_is l Γ K X2 Rf ly fy 2099  (by (first | assumption | omega))) cb_X9_is wl_X9_91 rfl ⟨Nat.le_of_ble_eq_true rfl, Nat.le_of_ble_eq_true rfl⟩ hl.1 rfl (Nat.le_of_ble_eq_true rfl) dX9_addFeast_31 ⟨Nat.zero_le _, Nat.zero_le _⟩) hw (fun r31 H locs hp31 hw => ?_)
      subst hp31
      refine zif_eq (pc := 34) hx hb 47 (by omega) dX9_addFeast_34 (by decide) (fun c34 => ?_) (fun c34 => ?_)
      · skip
        replace c34 := it0 c34
        refine lv_aload_n (pc := 47) hx hb dX9_addFeast_47 rfl (lv_at hl 0 rfl) ?_
        refine ziconst (pc := 48) (n := 2) hx hb dX9_addFeast_48 ?_
        refine zkIx (pc := 49) (zrV (As := [.int (iI 2)]) hx hb hml hown hG hw (c_X9_refuse l Γ K X2 Rf md 2  (by (first | assumption | omega))) (T := TX9) hmd rfl cb_X9_refuse wl_X9_123 rfl ⟨Nat.le_of_ble_eq_true rfl, Nat.le_of_ble_eq_true rfl⟩ hl.1 rfl (Nat.le_of_ble_eq_true rfl) dX9_addFeast_49 ⟨Nat.zero_le _, Nat.zero_le _⟩) hw (fun r49 X49 H locs hp49 hw => ?_)
        obtain ⟨hrf49, eX49⟩ := hp49
        exact zretI (pc := 52) hx hb hlocks hr hw (Nat.zero_le _) (Nat.zero_le _) dX9_addFeast_52 (by refine ⟨fun hz => by (exfalso; revert hz; (unfold cdAfe; (repeat' split) <;> omega)), ?_⟩; exact hR.no (by (unfold cdAfe; (repeat' split) <;> omega)) (by rw [eX49]; (try rw [eX2]); (try rw [up2_up2]); exact thr_c (by (unfold cdAfe; (repeat' split) <;> omega))))
      · skip
        replace c34 := it1 c34
        refine lv_iload (pc := 37) hx hb dX9_addFeast_37 (lv_at hl 4 rfl) ?_
        refine ziconst (pc := 39) (n := 0) hx hb dX9_addFeast_39 ?_
        refine ziconst (pc := 40) (n := 3) hx hb dX9_addFeast_40 ?_
        refine zkIp (pc := 41) (zrS (As := [.int (iI wy), .int (iI 0), .int (iI 3)]) hx hb hml hown hG hw (c_X9_is l Γ K X2 Rf wy 0 3  (by (first | assumption | omega))) cb_X9_is wl_X9_91 rfl ⟨Nat.le_of_ble_eq_true rfl, Nat.le_of_ble_eq_true rfl⟩ hl.1 rfl (Nat.le_of_ble_eq_true rfl) dX9_addFeast_41 ⟨Nat.zero_le _, Nat.zero_le _⟩) hw (fun r41 H locs hp41 hw => ?_)
        subst hp41
        refine zif_ne (pc := 44) hx hb 53 (by omega) dX9_addFeast_44 (by decide) (fun c44 => ?_) (fun c44 => ?_)
        · skip
          replace c44 := it1 c44
          refine lv_aload_n (pc := 53) hx hb dX9_addFeast_53 rfl (lv_at hl 0 rfl) ?_
          refine zgetI (pc := 54) hx hb hG hown hw hmd (T := TX9) rfl 29 (by decide) rfl wf_X9_285 rfl dX9_addFeast_54 ?_
          refine zbipush (pc := 57) (n := 20) hx hb dX9_addFeast_57 rfl ?_
          refine zicmp_ne (pc := 59) hx hb 68 (by omega) (by omega) dX9_addFeast_59 (by decide) (fun c59 => ?_) (fun c59 => ?_)
          · skip
            refine lv_aload_n (pc := 68) hx hb dX9_addFeast_68 rfl (lv_at hl 0 rfl) ?_
            refine zgetR (pc := 69) hx hb hG hown hw hmd (T := TX9) rfl 30 (by decide) rfl wf_X9_70 rfl hB30 dX9_addFeast_69 ?_
            refine lv_aload_n (pc := 72) hx hb dX9_addFeast_72 rfl (lv_at hl 0 rfl) ?_
            refine zgetI (pc := 73) hx hb hG hown hw hmd (T := TX9) rfl 29 (by decide) rfl wf_X9_285 rfl dX9_addFeast_73 ?_
            refine lv_iload_n (pc := 76) hx hb dX9_addFeast_76 rfl (lv_at hl 1 rfl) ?_
            refine zast (pc := 77) hx hb hw hA30 ⟨by omega, by omega⟩ (by omega) dX9_addFeast_77 (fun H locs hw => ?_)
            obtain ⟨X77, eX77⟩ : ∃ Y : zX, Y = up2 X2 a30 (X2 md 29).toNat fy := ⟨_, rfl⟩
            rw [← eX77] at hw
            have hz29_77 : X77 md 29 = M 40 29 := by rw [eX77, up2_o (Ne.symm hN30)]; exact hz29
            refine lv_aload_n (pc := 78) hx hb dX9_addFeast_78 rfl (lv_at hl 0 rfl) ?_
            refine zgetR (pc := 79) hx hb hG hown hw hmd (T := TX9) rfl 31 (by decide) rfl wf_X9_73 rfl hB31 dX9_addFeast_79 ?_
            refine lv_aload_n (pc := 82) hx hb dX9_addFeast_82 rfl (lv_at hl 0 rfl) ?_
            refine zgetI (pc := 83) hx hb hG hown hw hmd (T := TX9) rfl 29 (by decide) rfl wf_X9_285 rfl dX9_addFeast_83 ?_
            refine lv_iload_n (pc := 86) hx hb dX9_addFeast_86 rfl (lv_at hl 2 rfl) ?_
            refine zast (pc := 87) hx hb hw hA31 ⟨by omega, by omega⟩ (by omega) dX9_addFeast_87 (fun H locs hw => ?_)
            obtain ⟨X87, eX87⟩ : ∃ Y : zX, Y = up2 X77 a31 (X77 md 29).toNat ly := ⟨_, rfl⟩
            rw [← eX87] at hw
            have hz29_87 : X87 md 29 = M 40 29 := by rw [eX87, up2_o (Ne.symm hN31)]; exact hz29_77
            refine lv_aload_n (pc := 88) hx hb dX9_addFeast_88 rfl (lv_at hl 0 rfl) ?_
            refine zgetR (pc := 89) hx hb hG hown hw hmd (T := TX9) rfl 32 (by decide) rfl wf_X9_76 rfl hB32 dX9_addFeast_89 ?_
            refine lv_aload_n (pc := 92) hx hb dX9_addFeast_92 rfl (lv_at hl 0 rfl) ?_
            refine zgetI (pc := 93) hx hb hG hown hw hmd (T := TX9) rfl 29 (by decide) rfl wf_X9_285 rfl dX9_addFeast_93 ?_
            refine lv_iload_n (pc := 96) hx hb dX9_addFeast_96 rfl (lv_at hl 3 rfl) ?_
            refine zast (pc := 97) hx hb hw hA32 ⟨by omega, by omega⟩ (by omega) dX9_addFeast_97 (fun H locs hw => ?_)
            obtain ⟨X97, eX97⟩ : ∃ Y : zX, Y = up2 X87 a32 (X87 md 29).toNat b9 := ⟨_, rfl⟩
            rw [← eX97] at hw
            have hz29_97 : X97 md 29 = M 40 29 := by rw [eX97, up2_o (Ne.symm hN32)]; exact hz29_87
            refine lv_aload_n (pc := 98) hx hb dX9_addFeast_98 rfl (lv_at hl 0 rfl) ?_
            refine zgetR (pc := 99) hx hb hG hown hw hmd (T := TX9) rfl 33 (by decide) rfl wf_X9_79 rfl hB33 dX9_addFeast_99 ?_
            refine lv_aload_n (pc := 102) hx hb dX9_addFeast_102 rfl (lv_at hl 0 rfl) ?_
            refine zgetI (pc := 103) hx hb hG hown hw hmd (T := TX9) rfl 29 (by decide) rfl wf_X9_285 rfl dX9_addFeast_103 ?_
            refine lv_iload (pc := 106) hx hb dX9_addFeast_106 (lv_at hl 4 rfl) ?_
            refine zast (pc := 108) hx hb hw hA33 ⟨by omega, by omega⟩ (by omega) dX9_addFeast_108 (fun H locs hw => ?_)
            obtain ⟨X108, eX108⟩ : ∃ Y : zX, Y = up2 X97 a33 (X97 md 29).toNat wy := ⟨_, rfl⟩
            rw [← eX108] at hw
            have hz29_108 : X108 md 29 = M 40 29 := by rw [eX108, up2_o (Ne.symm hN33)]; exact hz29_97
            refine lv_aload_n (pc := 109) hx hb dX9_addFeast_109 rfl (lv_at hl 0 rfl) ?_
            refine lv_dup (pc := 110) hx hb dX9_addFeast_110 rfl ?_
            refine zgetI (pc := 111) hx hb hG hown hw hmd (T := TX9) rfl 29 (by decide) rfl wf_X9_285 rfl dX9_addFeast_111 ?_
            refine ziconst (pc := 114) (n := 1) hx hb dX9_addFeast_114 ?_
            refine zadd (pc := 115) hx hb dX9_addFeast_115 ?_
            refine zputI (pc := 116) hx hb hG hown hw hmd (T := TX9) rfl 29 (by decide) rfl wf_X9_285 rfl (by decide +kernel) rfl dX9_addFeast_116 (fun H locs hw => ?_)
            obtain ⟨X116, eX116⟩ : ∃ Y : zX, Y = up2 X108 md 29 ((X108 md 29) + 1) := ⟨_, rfl⟩
            rw [← eX116] at hw
            have hz29_116 : X116 md 29 = M 40 29 + 1 := by rw [eX116, up2_s, hz29_108]
            refine lv_aload_n (pc := 119) hx hb dX9_addFeast_119 rfl (lv_at hl 0 rfl) ?_
            refine ziconst (pc := 120) (n := 0) hx hb dX9_addFeast_120 ?_
            refine zputZ (pc := 121) hx hb hG hown hw hmd (T := TX9) rfl 35 (by decide) rfl wf_X9_281 rfl (by omega) (by decide +kernel) rfl dX9_addFeast_121 (fun H locs hw => ?_)
            obtain ⟨X121, eX121⟩ : ∃ Y : zX, Y = up2 X116 md 35 0 := ⟨_, rfl⟩
            rw [← eX121] at hw
            have hz29_121 : X121 md 29 = M 40 29 + 1 := by rw [eX121, up2_k (by decide)]; exact hz29_116
            refine lv_aload_n (pc := 124) hx hb dX9_addFeast_124 rfl (lv_at hl 0 rfl) ?_
            refine zgetI (pc := 125) hx hb hG hown hw hmd (T := TX9) rfl 29 (by decide) rfl wf_X9_285 rfl dX9_addFeast_125 ?_
            refine ziconst (pc := 128) (n := 1) hx hb dX9_addFeast_128 ?_
            refine zsub (pc := 129) hx hb dX9_addFeast_129 ?_
            exact zretI (pc := 130) hx hb hlocks hr hw (Nat.zero_le _) (Nat.zero_le _) dX9_addFeast_130 (by 
                                        refine ⟨fun _ => by omega, ?_⟩
                                        rw [hz29, hi9, Int.toNat_natCast] at eX77
                                        rw [hz29_77, hi9, Int.toNat_natCast] at eX87
                                        rw [hz29_87, hi9, Int.toNat_natCast] at eX97
                                        rw [hz29_97, hi9, Int.toNat_natCast] at eX108
                                        rw [hz29_108, hi9] at eX116
                                        have hi8 : (M 40 29).toNat = i9 := by omega
                                        rw [hi8]
                                        have hnZ := (((((((hR.n.own (q := 0) (v := 0) rfl).row (f := 30) (a := a30) (k := i9) (v := fy) (by decide) hB30 rfl).row (f := 31) (a := a31) (k := i9) (v := ly) (by decide) hB31 rfl).row (f := 32) (a := a32) (k := i9) (v := b9) (by decide) hB32 rfl).row (f := 33) (a := a33) (k := i9) (v := wy) (by decide) hB33 rfl).num (q := 29) (v := (i9 : Int) + 1)).own (q := 35) (v := 0) rfl)
                                        have hAZ : ∀ a9, (K a9).1 ≠ 0 → ρ a9 ≠ 2000 → (∀ f, daM f = true → ρ a9 ≠ 2001 + f) → X121 a9 = X a9 := fun a9 _ g1 g2 => by rw [eX121, up2_o (fun g => g1 (by rw [g]; exact hlmd)), eX116, up2_o (fun g => g1 (by rw [g]; exact hlmd)), eX108, up2_o (fun g => g2 33 rfl (by rw [g]; exact hL33)), eX97, up2_o (fun g => g2 32 rfl (by rw [g]; exact hL32)), eX87, up2_o (fun g => g2 31 rfl (by rw [g]; exact hL31)), eX77, up2_o (fun g => g2 30 rfl (by rw [g]; exact hL30)), eX2, up2_o (fun g => g1 (by rw [g]; exact hlmd))]
                                        have h35Z : X121 md 35 = X md 35 ∨ X121 md 35 = 0 := Or.inr (by rw [eX121, up2_s])
                                        have h0Z : X121 md 0 = 0 := by rw [eX121, up2_k (by decide), eX116, up2_k (by decide), eX108, up2_o (Ne.symm hN33), eX97, up2_o (Ne.symm hN32), eX87, up2_o (Ne.symm hN31), eX77, up2_o (Ne.symm hN30), eX2, up2_s]
                                        have hnY : repN ρ K X121 Rf md (faM M i9 fy ly b9 wy) := by rw [eX121, eX116, eX108, eX97, eX87, eX77, eX2]; exact hnZ
                                        exact hR.mutX (cd := cdAfe M fy ly b9 wy) hnY hAZ h35Z h0Z (faM_T) (Or.inl (by rw [eX121, up2_s])) (by (unfold cdAfe; (repeat' split) <;> omega)))
          · skip
            refine lv_aload_n (pc := 62) hx hb dX9_addFeast_62 rfl (lv_at hl 0 rfl) ?_
            refine ziconst (pc := 63) (n := 3) hx hb dX9_addFeast_63 ?_
            refine zkIx (pc := 64) (zrV (As := [.int (iI 3)]) hx hb hml hown hG hw (c_X9_refuse l Γ K X2 Rf md 3  (by (first | assumption | omega))) (T := TX9) hmd rfl cb_X9_refuse wl_X9_123 rfl ⟨Nat.le_of_ble_eq_true rfl, Nat.le_of_ble_eq_true rfl⟩ hl.1 rfl (Nat.le_of_ble_eq_true rfl) dX9_addFeast_64 ⟨Nat.zero_le _, Nat.zero_le _⟩) hw (fun r64 X64 H locs hp64 hw => ?_)
            obtain ⟨hrf64, eX64⟩ := hp64
            exact zretI (pc := 67) hx hb hlocks hr hw (Nat.zero_le _) (Nat.zero_le _) dX9_addFeast_67 (by refine ⟨fun hz => by (exfalso; revert hz; (unfold cdAfe; (repeat' split) <;> omega)), ?_⟩; exact hR.no (by (unfold cdAfe; (repeat' split) <;> omega)) (by rw [eX64]; (try rw [eX2]); (try rw [up2_up2]); exact thr_c (by (unfold cdAfe; (repeat' split) <;> omega))))
        · skip
          replace c44 := it0 c44
          refine lv_aload_n (pc := 47) hx hb dX9_addFeast_47 rfl (lv_at hl 0 rfl) ?_
          refine ziconst (pc := 48) (n := 2) hx hb dX9_addFeast_48 ?_
          refine zkIx (pc := 49) (zrV (As := [.int (iI 2)]) hx hb hml hown hG hw (c_X9_refuse l Γ K X2 Rf md 2  (by (first | assumption | omega))) (T := TX9) hmd rfl cb_X9_refuse wl_X9_123 rfl ⟨Nat.le_of_ble_eq_true rfl, Nat.le_of_ble_eq_true rfl⟩ hl.1 rfl (Nat.le_of_ble_eq_true rfl) dX9_addFeast_49 ⟨Nat.zero_le _, Nat.zero_le _⟩) hw (fun r49 X49 H locs hp49 hw => ?_)
          obtain ⟨hrf49, eX49⟩ := hp49
          exact zretI (pc := 52) hx hb hlocks hr hw (Nat.zero_le _) (Nat.zero_le _) dX9_addFeast_52 (by refine ⟨fun hz => by (exfalso; revert hz; (unfold cdAfe; (repeat' split) <;> omega)), ?_⟩; exact hR.no (by (unfold cdAfe; (repeat' split) <;> omega)) (by rw [eX49]; (try rw [eX2]); (try rw [up2_up2]); exact thr_c (by (unfold cdAfe; (repeat' split) <;> omega))))
  · skip
    replace c10 := it0 c10
    refine lv_aload_n (pc := 13) hx hb dX9_addFeast_13 rfl (lv_at hl 0 rfl) ?_
    refine ziconst (pc := 14) (n := 1) hx hb dX9_addFeast_14 ?_
    refine zkIx (pc := 15) (zrV (As := [.int (iI 1)]) hx hb hml hown hG hw (c_X9_refuse l Γ K X2 Rf md 1  (by (first | assumption | omega))) (T := TX9) hmd rfl cb_X9_refuse wl_X9_123 rfl ⟨Nat.le_of_ble_eq_true rfl, Nat.le_of_ble_eq_true rfl⟩ hl.1 rfl (Nat.le_of_ble_eq_true rfl) dX9_addFeast_15 ⟨Nat.zero_le _, Nat.zero_le _⟩) hw (fun r15 X15 H locs hp15 hw => ?_)
    obtain ⟨hrf15, eX15⟩ := hp15
    exact zretI (pc := 18) hx hb hlocks hr hw (Nat.zero_le _) (Nat.zero_le _) dX9_addFeast_18 (by refine ⟨fun hz => by (exfalso; revert hz; (unfold cdAfe; (repeat' split) <;> omega)), ?_⟩; exact hR.no (by (unfold cdAfe; (repeat' split) <;> omega)) (by rw [eX15]; (try rw [eX2]); (try rw [up2_up2]); exact thr_c (by (unfold cdAfe; (repeat' split) <;> omega))))
