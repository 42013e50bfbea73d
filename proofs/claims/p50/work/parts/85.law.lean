set_option maxHeartbeats 4000000 in
set_option maxRecDepth 100000 in
theorem c_L_areDaysSound (l : Launch) (hl9 : l.stackTraces = false) (Γ : zG) (K : zK) (X : zX) (Rf : zR) (x : Nat) (pa : Int) (d : Int) (ρ : zL) (M : zM) (hC : repC ρ K X Rf x M) (hM : okM M) (h1 : (0 ≤ pa ∧ pa < M 40 1) ∧ 0 ≤ d ∧ d ≤ 73048) : Cx l yL_areDaysSound cL_areDaysSound 6 (some .boolean) 8 50 300 Γ [.ref x, .int (iI pa), .int (iI d)] K X Rf (pI (fun (r : Int) (K' : zK) (X' : zX) (R' : zR) => r = 1 ∧ ∃ ρ', repC ρ' K' X' R' x M)) (fun _ : String => False) := by
  refine Cx.of (by decide +kernel) (Nat.le_of_ble_eq_true rfl) ?_
  intro p e s m below meth c ls hx hb hr hml hown hG hlocks hname ht hX hw hl
  have hl : lv_has ls 6 [(0, .ref x), (1, .int (iI pa)), (2, .int (iI d))] := hl
  have hk7 : K x = (1, 7) := hC.1.1
  have h11 : M 40 1 ≤ 24 := hM.1.1.2
  have hcd : cdPatD M pa d = 0 := by unfold cdPatD; rw [if_pos (by omega)]
  have hcd2 : cdDay d = 0 := by unfold cdDay; rw [if_pos (by omega)]
  have hcd3 : cdPwk d 7 = 0 := by unfold cdPwk; rw [if_pos (by omega), if_pos (by omega)]
  have hcd4 : cdPwk d (-7) = 0 := by unfold cdPwk; rw [if_pos (by omega), if_pos (by omega)]
  have hta := cp_told (P := patM M pa.toNat) (d := d) h1.2
  have hmi := mi_rng h1.2.1 h1.2.2
  have hmb := mB_rng (mi d)
  have hyr := yr_mi h1.2.1 h1.2.2
  have hdt := cp_date (d := d) h1.2
  have hbh := cp_bh (p := wkdM M) (day := d) h1.2
  have hah := cp_ah (p := wkdM M) (day := d) h1.2
  have hbi := bI_rng (wkdM M d)
  have hfe := Fa_rng (M 40 26) (feaM M) (fepM M) (M 40 29).toNat d
  refine lv_aload_n (pc := 0) hx hb dL_areDaysSound_0 rfl (lv_at hl 0 rfl) ?_
  refine lv_iload_n (pc := 1) hx hb dL_areDaysSound_1 rfl (lv_at hl 1 rfl) ?_
  refine lv_iload_n (pc := 2) hx hb dL_areDaysSound_2 rfl (lv_at hl 2 rfl) ?_
  refine zxkIp (pc := 3) (zxrV (As := [.int (iI pa), .int (iI d)]) hx hb hml hown hG hX hw (c_X8_nextTold l hl9 Γ K X Rf x pa d (ρ) M (by (first | assumption | omega)) (by (first | assumption | omega)) (by (first | assumption | omega))) (T := TX8) hk7 rfl cb_X8_nextTold wl_L_105 rfl ⟨Nat.le_of_ble_eq_true rfl, Nat.le_of_ble_eq_true rfl⟩ hl.1 rfl (Nat.le_of_ble_eq_true rfl) dL_areDaysSound_3 ⟨(by show 0 + 2 ≤ 50; omega), (by show 0 + 12 ≤ 300; omega)⟩) hw (fun E9 ce9 q9 H9 locs9 hxp9 hw9 hce9 hcv9 hcl9 => (by exfalso; first | exact hxp9 | omega | (rcases hxp9 with ⟨-, hq9⟩ | ⟨-, hq9⟩ | ⟨-, hq9⟩ <;> omega) | (rcases hxp9 with ⟨-, hq9⟩ | ⟨-, hq9⟩ <;> omega))) (fun r3 H locs hp3 hw => ?_)
  have er3 := hp3.1
  rw [← er3] at hta
  refine lv_istore_n (pc := 6) (lv' := [(3, .int (iI r3)), (0, .ref x), (1, .int (iI pa)), (2, .int (iI d))]) hx hb dL_areDaysSound_6 rfl hl (by decide) rfl (fun ls hl => ?_)
  refine lv_iload_n (pc := 7) hx hb dL_areDaysSound_7 rfl (lv_at hl 0 rfl) ?_
  have jn41_0 : ∀  (H : Heap) (locs : List Loc),  Wd Γ (zA K s.heap.size) K X Rf s H locs → ∀ ls : Array Slot, lv_has ls 6 [(3, .int (iI r3)), (0, .ref x), (1, .int (iI pa)), (2, .int (iI d))] → W p l e (rmL 8 50 300) s m ([.ref x, .int (iI pa), .int (iI d)] : List Value).toArray below meth c H locs 6 36 (vx_MQ below (zQ Γ K s.heap.size (pI (fun (r : Int) (K' : zK) (X' : zX) (R' : zR) => r = 1 ∧ ∃ ρ', repC ρ' K' X' R' x M))) (zXC Γ K X Rf s.heap.size (fun _ : String => False)) ([.ref x, .int (iI pa), .int (iI d)] : List Value).toArray s 50 300 (zA K s.heap.size)) (F0 m 41 ls []) := by
    intro H locs hw ls hl
    refine lv_aload_n (pc := 41) hx hb dL_areDaysSound_41 rfl (lv_at hl 1 rfl) ?_
    refine lv_aload_n (pc := 42) hx hb dL_areDaysSound_42 rfl (lv_at hl 1 rfl) ?_
    refine lv_iload_n (pc := 43) hx hb dL_areDaysSound_43 rfl (lv_at hl 3 rfl) ?_
    refine zxkIp (pc := 44) (zxrV (As := [.int (iI d)]) hx hb hml hown hG hX hw (c_X8_yearOf l hl9 Γ K X Rf x d  (by (first | assumption | omega)) (by (first | assumption | omega))) (T := TX8) hk7 rfl cb_X8_yearOf wl_L_112 rfl ⟨Nat.le_of_ble_eq_true rfl, Nat.le_of_ble_eq_true rfl⟩ hl.1 rfl (Nat.le_of_ble_eq_true rfl) dL_areDaysSound_44 ⟨(by show 6 + 1 ≤ 50; omega), (by show 36 + 6 ≤ 300; omega)⟩) hw (fun E9 ce9 q9 H9 locs9 hxp9 hw9 hce9 hcv9 hcl9 => (by exfalso; first | exact hxp9 | omega | (rcases hxp9 with ⟨-, hq9⟩ | ⟨-, hq9⟩ | ⟨-, hq9⟩ <;> omega) | (rcases hxp9 with ⟨-, hq9⟩ | ⟨-, hq9⟩ <;> omega))) (fun r44 H locs hp44 hw => ?_)
    have er44 := hp44.1
    refine lv_aload_n (pc := 47) hx hb dL_areDaysSound_47 rfl (lv_at hl 1 rfl) ?_
    refine lv_iload_n (pc := 48) hx hb dL_areDaysSound_48 rfl (lv_at hl 3 rfl) ?_
    refine zxkIp (pc := 49) (zxrV (As := [.int (iI d)]) hx hb hml hown hG hX hw (c_X8_monthOf l hl9 Γ K X Rf x d  (by (first | assumption | omega)) (by (first | assumption | omega))) (T := TX8) hk7 rfl cb_X8_monthOf wl_L_115 rfl ⟨Nat.le_of_ble_eq_true rfl, Nat.le_of_ble_eq_true rfl⟩ hl.1 rfl (Nat.le_of_ble_eq_true rfl) dL_areDaysSound_49 ⟨(by show 6 + 1 + 1 ≤ 50; omega), (by show 36 + 6 + 6 ≤ 300; omega)⟩) hw (fun E9 ce9 q9 H9 locs9 hxp9 hw9 hce9 hcv9 hcl9 => (by exfalso; first | exact hxp9 | omega | (rcases hxp9 with ⟨-, hq9⟩ | ⟨-, hq9⟩ | ⟨-, hq9⟩ <;> omega) | (rcases hxp9 with ⟨-, hq9⟩ | ⟨-, hq9⟩ <;> omega))) (fun r49 H locs hp49 hw => ?_)
    have er49 := hp49.1
    refine lv_aload_n (pc := 52) hx hb dL_areDaysSound_52 rfl (lv_at hl 1 rfl) ?_
    refine lv_iload_n (pc := 53) hx hb dL_areDaysSound_53 rfl (lv_at hl 3 rfl) ?_
    refine zxkIp (pc := 54) (zxrV (As := [.int (iI d)]) hx hb hml hown hG hX hw (c_X8_dayOfMonth l hl9 Γ K X Rf x d  (by (first | assumption | omega)) (by (first | assumption | omega))) (T := TX8) hk7 rfl cb_X8_dayOfMonth wl_L_118 rfl ⟨Nat.le_of_ble_eq_true rfl, Nat.le_of_ble_eq_true rfl⟩ hl.1 rfl (Nat.le_of_ble_eq_true rfl) dL_areDaysSound_54 ⟨(by show 6 + 1 + 1 + 1 ≤ 50; omega), (by show 36 + 6 + 6 + 6 ≤ 300; omega)⟩) hw (fun E9 ce9 q9 H9 locs9 hxp9 hw9 hce9 hcv9 hcl9 => (by exfalso; first | exact hxp9 | omega | (rcases hxp9 with ⟨-, hq9⟩ | ⟨-, hq9⟩ | ⟨-, hq9⟩ <;> omega) | (rcases hxp9 with ⟨-, hq9⟩ | ⟨-, hq9⟩ <;> omega))) (fun r54 H locs hp54 hw => ?_)
    have er54 := hp54.1
    have hcd57 : cdDate r44 r49 r54 = 0 := by rw [er44, er49, er54]; exact hdt.1
    refine zxkIp (pc := 57) (zxrV (As := [.int (iI r44), .int (iI r49), .int (iI r54)]) hx hb hml hown hG hX hw (c_X8_dayOf l hl9 Γ K X Rf x r44 r49 r54  (by (first | assumption | omega)) (by (first | assumption | omega))) (T := TX8) hk7 rfl cb_X8_dayOf wl_L_121 rfl ⟨Nat.le_of_ble_eq_true rfl, Nat.le_of_ble_eq_true rfl⟩ hl.1 rfl (Nat.le_of_ble_eq_true rfl) dL_areDaysSound_57 ⟨(by show 6 + 1 + 1 + 1 + 2 ≤ 50; omega), (by show 36 + 6 + 6 + 6 + 12 ≤ 300; omega)⟩) hw (fun E9 ce9 q9 H9 locs9 hxp9 hw9 hce9 hcv9 hcl9 => (by exfalso; first | exact hxp9 | omega | (rcases hxp9 with ⟨-, hq9⟩ | ⟨-, hq9⟩ | ⟨-, hq9⟩ <;> omega) | (rcases hxp9 with ⟨-, hq9⟩ | ⟨-, hq9⟩ <;> omega))) (fun r57 H locs hp57 hw => ?_)
    have er57 := hp57.1
    have e57 : r57 = d := by rw [er57, er44, er49, er54]; exact hdt.2
    refine lv_iload_n (pc := 60) hx hb dL_areDaysSound_60 rfl (lv_at hl 3 rfl) ?_
    refine zicmp_ne (pc := 61) hx hb 81 (by omega) (by omega) dL_areDaysSound_61 (by decide) (fun c61 => ?_) (fun c61 => ?_)
    · skip
      exfalso; omega
    · skip
      refine lv_aload_n (pc := 64) hx hb dL_areDaysSound_64 rfl (lv_at hl 1 rfl) ?_
      refine lv_iload_n (pc := 65) hx hb dL_areDaysSound_65 rfl (lv_at hl 3 rfl) ?_
      refine zxkI (pc := 66) (zxrV (As := [.int (iI d)]) hx hb hml hown hG hX hw (c_X8_isWorking l hl9 Γ K X Rf x d (ρ) M (by (first | assumption | omega)) (by (first | assumption | omega)) (by (first | assumption | omega))) (T := TX8) hk7 rfl cb_X8_isWorking wl_L_124 rfl ⟨Nat.le_of_ble_eq_true rfl, Nat.le_of_ble_eq_true rfl⟩ hl.1 rfl (Nat.le_of_ble_eq_true rfl) dL_areDaysSound_66 ⟨(by show 6 + 1 + 1 + 1 + 2 + 1 ≤ 50; omega), (by show 36 + 6 + 6 + 6 + 12 + 6 ≤ 300; omega)⟩) hw (fun E9 ce9 q9 H9 locs9 hxp9 hw9 hce9 hcv9 hcl9 => (by exfalso; first | exact hxp9 | omega | (rcases hxp9 with ⟨-, hq9⟩ | ⟨-, hq9⟩ | ⟨-, hq9⟩ <;> omega) | (rcases hxp9 with ⟨-, hq9⟩ | ⟨-, hq9⟩ <;> omega))) (fun r66 K66 X66 R66 H locs hp66 hw => ?_)
      obtain ⟨⟨er66, -⟩, ρ66, hC66, -⟩ := hp66
      have hk66 : K66 x = (1, 7) := hC66.1.1
      rw [← er66] at hbi
      have jn83_1 : ∀  (Kjn83_1 : zK) (Xjn83_1 : zX) (Rjn83_1 : zR) (H : Heap) (locs : List Loc), (hC83 : ∃ ρ', repC ρ' Kjn83_1 Xjn83_1 Rjn83_1 x M) → Wd Γ (zA K s.heap.size) Kjn83_1 Xjn83_1 Rjn83_1 s H locs → ∀ ls : Array Slot, lv_has ls 6 [(3, .int (iI r3)), (0, .ref x), (1, .int (iI pa)), (2, .int (iI d))] → W p l e (rmL 8 50 300) s m ([.ref x, .int (iI pa), .int (iI d)] : List Value).toArray below meth c H locs 20 120 (vx_MQ below (zQ Γ K s.heap.size (pI (fun (r : Int) (K' : zK) (X' : zX) (R' : zR) => r = 1 ∧ ∃ ρ', repC ρ' K' X' R' x M))) (zXC Γ K X Rf s.heap.size (fun _ : String => False)) ([.ref x, .int (iI pa), .int (iI d)] : List Value).toArray s 50 300 (zA K s.heap.size)) (F0 m 83 ls []) := by
        intro Kjn83_1 Xjn83_1 Rjn83_1 H locs hC83 hw ls hl
        obtain ⟨ρ83, hC83b⟩ := hC83
        have hk83 : Kjn83_1 x = (1, 7) := hC83b.1.1
        refine lv_aload_n (pc := 83) hx hb dL_areDaysSound_83 rfl (lv_at hl 1 rfl) ?_
        refine lv_iload_n (pc := 84) hx hb dL_areDaysSound_84 rfl (lv_at hl 3 rfl) ?_
        refine zbipush (pc := 85) (n := 7) hx hb dL_areDaysSound_85 rfl ?_
        refine zxkI (pc := 87) (zxrV (As := [.int (iI d), .int (iI 7)]) hx hb hml hown hG hX hw (c_X8_plusWorking l hl9 Γ Kjn83_1 Xjn83_1 Rjn83_1 x d 7 (ρ83) M (by (first | assumption | omega)) (by (first | assumption | omega)) (by (first | assumption | omega))) (T := TX8) hk83 rfl cb_X8_plusWorking wl_L_131 rfl ⟨Nat.le_of_ble_eq_true rfl, Nat.le_of_ble_eq_true rfl⟩ hl.1 rfl (Nat.le_of_ble_eq_true rfl) dL_areDaysSound_87 ⟨(by show 20 + 2 ≤ 50; omega), (by show 120 + 12 ≤ 300; omega)⟩) hw (fun E9 ce9 q9 H9 locs9 hxp9 hw9 hce9 hcv9 hcl9 => (by exfalso; first | exact hxp9 | omega | (rcases hxp9 with ⟨-, hq9⟩ | ⟨-, hq9⟩ | ⟨-, hq9⟩ <;> omega) | (rcases hxp9 with ⟨-, hq9⟩ | ⟨-, hq9⟩ <;> omega))) (fun r87 K87 X87 R87 H locs hp87 hw => ?_)
        obtain ⟨⟨er87, -⟩, ρ87, hC87, -⟩ := hp87
        have hk87 : K87 x = (1, 7) := hC87.1.1
        rw [← er87] at hbh
        refine lv_istore (pc := 90) (lv' := [(4, .int (iI r87)), (3, .int (iI r3)), (0, .ref x), (1, .int (iI pa)), (2, .int (iI d))]) hx hb dL_areDaysSound_90 hl (by decide) rfl (fun ls hl => ?_)
        refine lv_iload (pc := 92) hx hb dL_areDaysSound_92 (lv_at hl 0 rfl) ?_
        have jn148_2 : ∀  (Kjn148_2 : zK) (Xjn148_2 : zX) (Rjn148_2 : zR) (H : Heap) (locs : List Loc), (hC148 : ∃ ρ', repC ρ' Kjn148_2 Xjn148_2 Rjn148_2 x M) → Wd Γ (zA K s.heap.size) Kjn148_2 Xjn148_2 Rjn148_2 s H locs → ∀ ls : Array Slot, lv_has ls 6 [(4, .int (iI r87)), (3, .int (iI r3)), (0, .ref x), (1, .int (iI pa)), (2, .int (iI d))] → W p l e (rmL 8 50 300) s m ([.ref x, .int (iI pa), .int (iI d)] : List Value).toArray below meth c H locs 34 204 (vx_MQ below (zQ Γ K s.heap.size (pI (fun (r : Int) (K' : zK) (X' : zX) (R' : zR) => r = 1 ∧ ∃ ρ', repC ρ' K' X' R' x M))) (zXC Γ K X Rf s.heap.size (fun _ : String => False)) ([.ref x, .int (iI pa), .int (iI d)] : List Value).toArray s 50 300 (zA K s.heap.size)) (F0 m 148 ls []) := by
          intro Kjn148_2 Xjn148_2 Rjn148_2 H locs hC148 hw ls hl
          obtain ⟨ρ148, hC148b⟩ := hC148
          have hk148 : Kjn148_2 x = (1, 7) := hC148b.1.1
          refine lv_aload_n (pc := 148) hx hb dL_areDaysSound_148 rfl (lv_at hl 2 rfl) ?_
          refine lv_iload_n (pc := 149) hx hb dL_areDaysSound_149 rfl (lv_at hl 4 rfl) ?_
          refine zbipush (pc := 150) (n := (-7)) hx hb dL_areDaysSound_150 rfl ?_
          refine zxkI (pc := 152) (zxrV (As := [.int (iI d), .int (iI (-7))]) hx hb hml hown hG hX hw (c_X8_plusWorking l hl9 Γ Kjn148_2 Xjn148_2 Rjn148_2 x d (-7) (ρ148) M (by (first | assumption | omega)) (by (first | assumption | omega)) (by (first | assumption | omega))) (T := TX8) hk148 rfl cb_X8_plusWorking wl_L_131 rfl ⟨Nat.le_of_ble_eq_true rfl, Nat.le_of_ble_eq_true rfl⟩ hl.1 rfl (Nat.le_of_ble_eq_true rfl) dL_areDaysSound_152 ⟨(by show 34 + 2 ≤ 50; omega), (by show 204 + 12 ≤ 300; omega)⟩) hw (fun E9 ce9 q9 H9 locs9 hxp9 hw9 hce9 hcv9 hcl9 => (by exfalso; first | exact hxp9 | omega | (rcases hxp9 with ⟨-, hq9⟩ | ⟨-, hq9⟩ | ⟨-, hq9⟩ <;> omega) | (rcases hxp9 with ⟨-, hq9⟩ | ⟨-, hq9⟩ <;> omega))) (fun r152 K152 X152 R152 H locs hp152 hw => ?_)
          obtain ⟨⟨er152, -⟩, ρ152, hC152, -⟩ := hp152
          have hk152 : K152 x = (1, 7) := hC152.1.1
          rw [← er152] at hah
          refine lv_istore (pc := 155) (lv' := [(5, .int (iI r152)), (4, .int (iI r87)), (3, .int (iI r3)), (0, .ref x), (1, .int (iI pa)), (2, .int (iI d))]) hx hb dL_areDaysSound_155 hl (by decide) rfl (fun ls hl => ?_)
          refine lv_iload (pc := 157) hx hb dL_areDaysSound_157 (lv_at hl 0 rfl) ?_
          refine zif_lt (pc := 159) hx hb 196 (by omega) dL_areDaysSound_159 (by decide) (fun c159 => ?_) (fun c159 => ?_)
          · skip
            refine ziconst (pc := 196) (n := 1) hx hb dL_areDaysSound_196 ?_
            refine lv_goto (pc := 197) (tgt := 201) hx hb dL_areDaysSound_197 (by decide) ?_
            exact vx_ret (zretZ (pc := 201) hx hb hlocks hr (Or.inr rfl) hw (by show 34 + 2 ≤ 50; omega) (by show 204 + 12 ≤ 300; omega) dL_areDaysSound_201 (by first | exact ⟨rfl, _, hC188⟩ | exact ⟨rfl, _, hC165⟩ | exact ⟨rfl, _, hC152⟩))
          · skip
            obtain ⟨a1, a2, a3, a4⟩ := hah.resolve_left (fun q => by omega)
            refine lv_aload_n (pc := 162) hx hb dL_areDaysSound_162 rfl (lv_at hl 3 rfl) ?_
            refine lv_iload (pc := 163) hx hb dL_areDaysSound_163 (lv_at hl 0 rfl) ?_
            have hcd165 : cdDay r152 = 0 := by unfold cdDay; rw [if_pos (by omega)]
            refine zxkI (pc := 165) (zxrV (As := [.int (iI r152)]) hx hb hml hown hG hX hw (c_X8_isWorking l hl9 Γ K152 X152 R152 x r152 (ρ152) M (by (first | assumption | omega)) (by (first | assumption | omega)) (by (first | assumption | omega))) (T := TX8) hk152 rfl cb_X8_isWorking wl_L_124 rfl ⟨Nat.le_of_ble_eq_true rfl, Nat.le_of_ble_eq_true rfl⟩ hl.1 rfl (Nat.le_of_ble_eq_true rfl) dL_areDaysSound_165 ⟨(by show 34 + 2 + 1 ≤ 50; omega), (by show 204 + 12 + 6 ≤ 300; omega)⟩) hw (fun E9 ce9 q9 H9 locs9 hxp9 hw9 hce9 hcv9 hcl9 => (by exfalso; first | exact hxp9 | omega | (rcases hxp9 with ⟨-, hq9⟩ | ⟨-, hq9⟩ | ⟨-, hq9⟩ <;> omega) | (rcases hxp9 with ⟨-, hq9⟩ | ⟨-, hq9⟩ <;> omega))) (fun r165 K165 X165 R165 H locs hp165 hw => ?_)
            obtain ⟨⟨er165, -⟩, ρ165, hC165, -⟩ := hp165
            have hk165 : K165 x = (1, 7) := hC165.1.1
            have e165 : r165 = 1 := by rw [er165]; exact bI_t a3
            refine zif_eq (pc := 168) hx hb 200 (by omega) dL_areDaysSound_168 (by decide) (fun c168 => ?_) (fun c168 => ?_)
            · skip
              exfalso; omega
            · skip
              refine lv_iload_n (pc := 171) hx hb dL_areDaysSound_171 rfl (lv_at hl 5 rfl) ?_
              refine lv_iload (pc := 172) hx hb dL_areDaysSound_172 (lv_at hl 0 rfl) ?_
              refine zsub (pc := 174) hx hb dL_areDaysSound_174 ?_
              refine zsipush (pc := 175) (n := 399) hx hb dL_areDaysSound_175 rfl ?_
              refine zicmp_gt (pc := 178) hx hb 196 (by omega) (by omega) dL_areDaysSound_178 (by decide) (fun c178 => ?_) (fun c178 => ?_)
              · skip
                refine ziconst (pc := 196) (n := 1) hx hb dL_areDaysSound_196 ?_
                refine lv_goto (pc := 197) (tgt := 201) hx hb dL_areDaysSound_197 (by decide) ?_
                exact vx_ret (zretZ (pc := 201) hx hb hlocks hr (Or.inr rfl) hw (by show 34 + 2 + 1 ≤ 50; omega) (by show 204 + 12 + 6 ≤ 300; omega) dL_areDaysSound_201 (by first | exact ⟨rfl, _, hC188⟩ | exact ⟨rfl, _, hC165⟩ | exact ⟨rfl, _, hC152⟩))
              · skip
                refine lv_aload_n (pc := 181) hx hb dL_areDaysSound_181 rfl (lv_at hl 3 rfl) ?_
                refine lv_iload (pc := 182) hx hb dL_areDaysSound_182 (lv_at hl 0 rfl) ?_
                refine lv_iload_n (pc := 184) hx hb dL_areDaysSound_184 rfl (lv_at hl 5 rfl) ?_
                refine lv_iload (pc := 185) hx hb dL_areDaysSound_185 (lv_at hl 0 rfl) ?_
                refine zsub (pc := 187) hx hb dL_areDaysSound_187 ?_
                have hcd188 : cdWds r152 (d - r152) = 0 := by unfold cdWds; rw [if_pos (by omega), if_pos (by omega)]
                refine zxkI (pc := 188) (zxrV (As := [.int (iI r152), .int (iI (d - r152))]) hx hb hml hown hG hX hw (c_X8_workingDays l hl9 Γ K165 X165 R165 x r152 (d - r152) (ρ165) M (by (first | assumption | omega)) (by (first | assumption | omega)) (by (first | assumption | omega))) (T := TX8) hk165 rfl cb_X8_workingDays wl_L_134 rfl ⟨Nat.le_of_ble_eq_true rfl, Nat.le_of_ble_eq_true rfl⟩ hl.1 rfl (Nat.le_of_ble_eq_true rfl) dL_areDaysSound_188 ⟨(by show 34 + 2 + 1 + 2 ≤ 50; omega), (by show 204 + 12 + 6 + 12 ≤ 300; omega)⟩) hw (fun E9 ce9 q9 H9 locs9 hxp9 hw9 hce9 hcv9 hcl9 => (by exfalso; first | exact hxp9 | omega | (rcases hxp9 with ⟨-, hq9⟩ | ⟨-, hq9⟩ | ⟨-, hq9⟩ <;> omega) | (rcases hxp9 with ⟨-, hq9⟩ | ⟨-, hq9⟩ <;> omega))) (fun r188 K188 X188 R188 H locs hp188 hw => ?_)
                obtain ⟨⟨er188, -⟩, ρ188, hC188, -⟩ := hp188
                have hk188 : K188 x = (1, 7) := hC188.1.1
                have e188 : r188 = 7 := er188.trans a4
                refine zbipush (pc := 191) (n := 7) hx hb dL_areDaysSound_191 rfl ?_
                refine zicmp_ne (pc := 193) hx hb 200 (by omega) (by omega) dL_areDaysSound_193 (by decide) (fun c193 => ?_) (fun c193 => ?_)
                · skip
                  exfalso; omega
                · skip
                  refine ziconst (pc := 196) (n := 1) hx hb dL_areDaysSound_196 ?_
                  refine lv_goto (pc := 197) (tgt := 201) hx hb dL_areDaysSound_197 (by decide) ?_
                  exact vx_ret (zretZ (pc := 201) hx hb hlocks hr (Or.inr rfl) hw (by show 34 + 2 + 1 + 2 ≤ 50; omega) (by show 204 + 12 + 6 + 12 ≤ 300; omega) dL_areDaysSound_201 (by first | exact ⟨rfl, _, hC188⟩ | exact ⟨rfl, _, hC165⟩ | exact ⟨rfl, _, hC152⟩))
        refine zif_lt (pc := 94) hx hb 148 (by omega) dL_areDaysSound_94 (by decide) (fun c94 => ?_) (fun c94 => ?_)
        · skip
          refine W.widen (k := 34) (n := 204) (by omega) (by omega) ?_
          exact jn148_2 K87 X87 R87 _ _ (by first | exact ⟨_, hC131⟩ | exact ⟨_, hC100⟩ | exact ⟨_, hC87⟩) hw _ (lv_sub hl [0, 1, 2, 3, 4] rfl)
        · skip
          obtain ⟨b1, b2, b3, b4⟩ := hbh.resolve_left (fun q => by omega)
          refine lv_aload_n (pc := 97) hx hb dL_areDaysSound_97 rfl (lv_at hl 2 rfl) ?_
          refine lv_iload (pc := 98) hx hb dL_areDaysSound_98 (lv_at hl 0 rfl) ?_
          have hcd100 : cdDay r87 = 0 := by unfold cdDay; rw [if_pos (by omega)]
          refine zxkI (pc := 100) (zxrV (As := [.int (iI r87)]) hx hb hml hown hG hX hw (c_X8_isWorking l hl9 Γ K87 X87 R87 x r87 (ρ87) M (by (first | assumption | omega)) (by (first | assumption | omega)) (by (first | assumption | omega))) (T := TX8) hk87 rfl cb_X8_isWorking wl_L_124 rfl ⟨Nat.le_of_ble_eq_true rfl, Nat.le_of_ble_eq_true rfl⟩ hl.1 rfl (Nat.le_of_ble_eq_true rfl) dL_areDaysSound_100 ⟨(by show 20 + 2 + 1 ≤ 50; omega), (by show 120 + 12 + 6 ≤ 300; omega)⟩) hw (fun E9 ce9 q9 H9 locs9 hxp9 hw9 hce9 hcv9 hcl9 => (by exfalso; first | exact hxp9 | omega | (rcases hxp9 with ⟨-, hq9⟩ | ⟨-, hq9⟩ | ⟨-, hq9⟩ <;> omega) | (rcases hxp9 with ⟨-, hq9⟩ | ⟨-, hq9⟩ <;> omega))) (fun r100 K100 X100 R100 H locs hp100 hw => ?_)
          obtain ⟨⟨er100, -⟩, ρ100, hC100, -⟩ := hp100
          have hk100 : K100 x = (1, 7) := hC100.1.1
          have e100 : r100 = 1 := by rw [er100]; exact bI_t b3
          refine zif_eq (pc := 103) hx hb 146 (by omega) dL_areDaysSound_103 (by decide) (fun c103 => ?_) (fun c103 => ?_)
          · skip
            exfalso; omega
          · skip
            refine lv_iload (pc := 106) hx hb dL_areDaysSound_106 (lv_at hl 0 rfl) ?_
            refine lv_iload_n (pc := 108) hx hb dL_areDaysSound_108 rfl (lv_at hl 4 rfl) ?_
            refine zsub (pc := 109) hx hb dL_areDaysSound_109 ?_
            refine zsipush (pc := 110) (n := 399) hx hb dL_areDaysSound_110 rfl ?_
            refine zicmp_gt (pc := 113) hx hb 148 (by omega) (by omega) dL_areDaysSound_113 (by decide) (fun c113 => ?_) (fun c113 => ?_)
            · skip
              refine W.widen (k := 34) (n := 204) (by omega) (by omega) ?_
              exact jn148_2 K100 X100 R100 _ _ (by first | exact ⟨_, hC131⟩ | exact ⟨_, hC100⟩ | exact ⟨_, hC87⟩) hw _ (lv_sub hl [0, 1, 2, 3, 4] rfl)
            · skip
              refine lv_aload_n (pc := 116) hx hb dL_areDaysSound_116 rfl (lv_at hl 2 rfl) ?_
              refine lv_iload_n (pc := 117) hx hb dL_areDaysSound_117 rfl (lv_at hl 4 rfl) ?_
              refine lv_iload (pc := 118) hx hb dL_areDaysSound_118 (lv_at hl 0 rfl) ?_
              refine lv_iload_n (pc := 120) hx hb dL_areDaysSound_120 rfl (lv_at hl 4 rfl) ?_
              refine zsub (pc := 121) hx hb dL_areDaysSound_121 ?_
              refine ziconst (pc := 122) (n := 1) hx hb dL_areDaysSound_122 ?_
              refine zadd (pc := 123) hx hb dL_areDaysSound_123 ?_
              have hcd124 : cdWds d (r87 - d + 1) = 0 := by unfold cdWds; rw [if_pos (by omega), if_pos (by omega)]
              refine zxkI (pc := 124) (zxrV (As := [.int (iI d), .int (iI ((r87 - d) + 1))]) hx hb hml hown hG hX hw (c_X8_workingDays l hl9 Γ K100 X100 R100 x d ((r87 - d) + 1) (ρ100) M (by (first | assumption | omega)) (by (first | assumption | omega)) (by (first | assumption | omega))) (T := TX8) hk100 rfl cb_X8_workingDays wl_L_134 rfl ⟨Nat.le_of_ble_eq_true rfl, Nat.le_of_ble_eq_true rfl⟩ hl.1 rfl (Nat.le_of_ble_eq_true rfl) dL_areDaysSound_124 ⟨(by show 20 + 2 + 1 + 2 ≤ 50; omega), (by show 120 + 12 + 6 + 12 ≤ 300; omega)⟩) hw (fun E9 ce9 q9 H9 locs9 hxp9 hw9 hce9 hcv9 hcl9 => (by exfalso; first | exact hxp9 | omega | (rcases hxp9 with ⟨-, hq9⟩ | ⟨-, hq9⟩ | ⟨-, hq9⟩ <;> omega) | (rcases hxp9 with ⟨-, hq9⟩ | ⟨-, hq9⟩ <;> omega))) (fun r124 K124 X124 R124 H locs hp124 hw => ?_)
              obtain ⟨⟨er124, -⟩, ρ124, hC124, -⟩ := hp124
              have hk124 : K124 x = (1, 7) := hC124.1.1
              have e124 : r124 = 7 + bI (wkdM M d) := er124.trans b4
              have hbi2 := bI_rng (wkdM M d)
              refine zbipush (pc := 127) (n := 7) hx hb dL_areDaysSound_127 rfl ?_
              refine lv_aload_n (pc := 129) hx hb dL_areDaysSound_129 rfl (lv_at hl 2 rfl) ?_
              refine lv_iload_n (pc := 130) hx hb dL_areDaysSound_130 rfl (lv_at hl 4 rfl) ?_
              refine zxkI (pc := 131) (zxrV (As := [.int (iI d)]) hx hb hml hown hG hX hw (c_X8_isWorking l hl9 Γ K124 X124 R124 x d (ρ124) M (by (first | assumption | omega)) (by (first | assumption | omega)) (by (first | assumption | omega))) (T := TX8) hk124 rfl cb_X8_isWorking wl_L_124 rfl ⟨Nat.le_of_ble_eq_true rfl, Nat.le_of_ble_eq_true rfl⟩ hl.1 rfl (Nat.le_of_ble_eq_true rfl) dL_areDaysSound_131 ⟨(by show 20 + 2 + 1 + 2 + 1 ≤ 50; omega), (by show 120 + 12 + 6 + 12 + 6 ≤ 300; omega)⟩) hw (fun E9 ce9 q9 H9 locs9 hxp9 hw9 hce9 hcv9 hcl9 => (by exfalso; first | exact hxp9 | omega | (rcases hxp9 with ⟨-, hq9⟩ | ⟨-, hq9⟩ | ⟨-, hq9⟩ <;> omega) | (rcases hxp9 with ⟨-, hq9⟩ | ⟨-, hq9⟩ <;> omega))) (fun r131 K131 X131 R131 H locs hp131 hw => ?_)
              obtain ⟨⟨er131, -⟩, ρ131, hC131, -⟩ := hp131
              have hk131 : K131 x = (1, 7) := hC131.1.1
              rw [← er131] at e124 hbi2
              refine zif_eq (pc := 134) hx hb 141 (by omega) dL_areDaysSound_134 (by decide) (fun c134 => ?_) (fun c134 => ?_)
              · skip
                refine ziconst (pc := 141) (n := 0) hx hb dL_areDaysSound_141 ?_
                refine zadd (pc := 142) hx hb dL_areDaysSound_142 ?_
                refine zicmp_eq (pc := 143) hx hb 148 (by omega) (by omega) dL_areDaysSound_143 (by decide) (fun c143 => ?_) (fun c143 => ?_)
                · skip
                  refine W.widen (k := 34) (n := 204) (by omega) (by omega) ?_
                  exact jn148_2 K131 X131 R131 _ _ (by first | exact ⟨_, hC131⟩ | exact ⟨_, hC100⟩ | exact ⟨_, hC87⟩) hw _ (lv_sub hl [0, 1, 2, 3, 4] rfl)
                · skip
                  exfalso; omega
              · skip
                refine ziconst (pc := 137) (n := 1) hx hb dL_areDaysSound_137 ?_
                refine lv_goto (pc := 138) (tgt := 142) hx hb dL_areDaysSound_138 (by decide) ?_
                refine zadd (pc := 142) hx hb dL_areDaysSound_142 ?_
                refine zicmp_eq (pc := 143) hx hb 148 (by omega) (by omega) dL_areDaysSound_143 (by decide) (fun c143 => ?_) (fun c143 => ?_)
                · skip
                  refine W.widen (k := 34) (n := 204) (by omega) (by omega) ?_
                  exact jn148_2 K131 X131 R131 _ _ (by first | exact ⟨_, hC131⟩ | exact ⟨_, hC100⟩ | exact ⟨_, hC87⟩) hw _ (lv_sub hl [0, 1, 2, 3, 4] rfl)
                · skip
                  exfalso; omega
      refine zif_eq (pc := 69) hx hb 83 (by omega) dL_areDaysSound_69 (by decide) (fun c69 => ?_) (fun c69 => ?_)
      · skip
        refine W.widen (k := 20) (n := 120) (by omega) (by omega) ?_
        exact jn83_1 K66 X66 R66 _ _ (by first | exact ⟨_, hC74⟩ | exact ⟨_, hC66⟩) hw _ (lv_sub hl [0, 1, 2, 3] rfl)
      · skip
        refine lv_aload_n (pc := 72) hx hb dL_areDaysSound_72 rfl (lv_at hl 1 rfl) ?_
        refine lv_iload_n (pc := 73) hx hb dL_areDaysSound_73 rfl (lv_at hl 3 rfl) ?_
        refine zxkI (pc := 74) (zxrV (As := [.int (iI d)]) hx hb hml hown hG hX hw (c_X8_feastOn l hl9 Γ K66 X66 R66 x d (ρ66) M (by (first | assumption | omega)) (by (first | assumption | omega)) (by (first | assumption | omega))) (T := TX8) hk66 rfl cb_X8_feastOn wl_L_128 rfl ⟨Nat.le_of_ble_eq_true rfl, Nat.le_of_ble_eq_true rfl⟩ hl.1 rfl (Nat.le_of_ble_eq_true rfl) dL_areDaysSound_74 ⟨(by show 6 + 1 + 1 + 1 + 2 + 1 + 1 ≤ 50; omega), (by show 36 + 6 + 6 + 6 + 12 + 6 + 6 ≤ 300; omega)⟩) hw (fun E9 ce9 q9 H9 locs9 hxp9 hw9 hce9 hcv9 hcl9 => (by exfalso; first | exact hxp9 | omega | (rcases hxp9 with ⟨-, hq9⟩ | ⟨-, hq9⟩ | ⟨-, hq9⟩ <;> omega) | (rcases hxp9 with ⟨-, hq9⟩ | ⟨-, hq9⟩ <;> omega))) (fun r74 K74 X74 R74 H locs hp74 hw => ?_)
        obtain ⟨⟨er74, -⟩, ρ74, hC74, -⟩ := hp74
        have hk74 : K74 x = (1, 7) := hC74.1.1
        have e74 : r74 = -1 := by rw [er74]; exact cp_wkd (bI_1 (by rw [← er66]; omega))
        refine ziconst (pc := 77) (n := (-1)) hx hb dL_areDaysSound_77 ?_
        refine zicmp_eq (pc := 78) hx hb 83 (by omega) (by omega) dL_areDaysSound_78 (by decide) (fun c78 => ?_) (fun c78 => ?_)
        · skip
          refine W.widen (k := 20) (n := 120) (by omega) (by omega) ?_
          exact jn83_1 K74 X74 R74 _ _ (by first | exact ⟨_, hC74⟩ | exact ⟨_, hC66⟩) hw _ (lv_sub hl [0, 1, 2, 3] rfl)
        · skip
          exfalso; omega
  refine zif_lt (pc := 8) hx hb 41 (by omega) dL_areDaysSound_8 (by decide) (fun c8 => ?_) (fun c8 => ?_)
  · skip
    refine W.widen (k := 6) (n := 36) (by omega) (by omega) ?_
    exact jn41_0 _ _  hw _ (lv_sub hl [0, 1, 2, 3] rfl)
  · skip
    obtain ⟨t1, t2, t3, t4⟩ := hta.resolve_left (fun q => by omega)
    refine lv_iload_n (pc := 11) hx hb dL_areDaysSound_11 rfl (lv_at hl 0 rfl) ?_
    refine lv_iload_n (pc := 12) hx hb dL_areDaysSound_12 rfl (lv_at hl 3 rfl) ?_
    refine zicmp_lt (pc := 13) hx hb 39 (by omega) (by omega) dL_areDaysSound_13 (by decide) (fun c13 => ?_) (fun c13 => ?_)
    · skip
      exfalso; omega
    · skip
      refine lv_aload_n (pc := 16) hx hb dL_areDaysSound_16 rfl (lv_at hl 1 rfl) ?_
      refine lv_iload_n (pc := 17) hx hb dL_areDaysSound_17 rfl (lv_at hl 2 rfl) ?_
      refine lv_iload_n (pc := 18) hx hb dL_areDaysSound_18 rfl (lv_at hl 0 rfl) ?_
      have hcd19 : cdPatD M pa r3 = 0 := by unfold cdPatD; rw [if_pos (by omega)]
      refine zxkIp (pc := 19) (zxrV (As := [.int (iI pa), .int (iI r3)]) hx hb hml hown hG hX hw (c_X8_tells l hl9 Γ K X Rf x pa r3 (ρ) M (by (first | assumption | omega)) (by (first | assumption | omega)) (by (first | assumption | omega))) (T := TX8) hk7 rfl cb_X8_tells wl_L_108 rfl ⟨Nat.le_of_ble_eq_true rfl, Nat.le_of_ble_eq_true rfl⟩ hl.1 rfl (Nat.le_of_ble_eq_true rfl) dL_areDaysSound_19 ⟨(by show 0 + 2 + 2 ≤ 50; omega), (by show 0 + 12 + 12 ≤ 300; omega)⟩) hw (fun E9 ce9 q9 H9 locs9 hxp9 hw9 hce9 hcv9 hcl9 => (by exfalso; first | exact hxp9 | omega | (rcases hxp9 with ⟨-, hq9⟩ | ⟨-, hq9⟩ | ⟨-, hq9⟩ <;> omega) | (rcases hxp9 with ⟨-, hq9⟩ | ⟨-, hq9⟩ <;> omega))) (fun r19 H locs hp19 hw => ?_)
      have er19 := hp19.1
      have e19 : r19 = 1 := by rw [er19, if_pos t3]
      refine zif_eq (pc := 22) hx hb 39 (by omega) dL_areDaysSound_22 (by decide) (fun c22 => ?_) (fun c22 => ?_)
      · skip
        exfalso; omega
      · skip
        refine lv_iload_n (pc := 25) hx hb dL_areDaysSound_25 rfl (lv_at hl 0 rfl) ?_
        refine lv_iload_n (pc := 26) hx hb dL_areDaysSound_26 rfl (lv_at hl 3 rfl) ?_
        refine zicmp_le (pc := 27) hx hb 41 (by omega) (by omega) dL_areDaysSound_27 (by decide) (fun c27 => ?_) (fun c27 => ?_)
        · skip
          refine W.widen (k := 6) (n := 36) (by omega) (by omega) ?_
          exact jn41_0 _ _  hw _ (lv_sub hl [0, 1, 2, 3] rfl)
        · skip
          refine lv_aload_n (pc := 30) hx hb dL_areDaysSound_30 rfl (lv_at hl 1 rfl) ?_
          refine lv_iload_n (pc := 31) hx hb dL_areDaysSound_31 rfl (lv_at hl 2 rfl) ?_
          refine lv_iload_n (pc := 32) hx hb dL_areDaysSound_32 rfl (lv_at hl 3 rfl) ?_
          refine zxkIp (pc := 33) (zxrV (As := [.int (iI pa), .int (iI d)]) hx hb hml hown hG hX hw (c_X8_tells l hl9 Γ K X Rf x pa d (ρ) M (by (first | assumption | omega)) (by (first | assumption | omega)) (by (first | assumption | omega))) (T := TX8) hk7 rfl cb_X8_tells wl_L_108 rfl ⟨Nat.le_of_ble_eq_true rfl, Nat.le_of_ble_eq_true rfl⟩ hl.1 rfl (Nat.le_of_ble_eq_true rfl) dL_areDaysSound_33 ⟨(by show 0 + 2 + 2 + 2 ≤ 50; omega), (by show 0 + 12 + 12 + 12 ≤ 300; omega)⟩) hw (fun E9 ce9 q9 H9 locs9 hxp9 hw9 hce9 hcv9 hcl9 => (by exfalso; first | exact hxp9 | omega | (rcases hxp9 with ⟨-, hq9⟩ | ⟨-, hq9⟩ | ⟨-, hq9⟩ <;> omega) | (rcases hxp9 with ⟨-, hq9⟩ | ⟨-, hq9⟩ <;> omega))) (fun r33 H locs hp33 hw => ?_)
          have er33 := hp33.1
          have e33 : r33 = 0 := by rw [er33, if_neg (fun q => by have := t4 q; omega)]
          refine zif_eq (pc := 36) hx hb 41 (by omega) dL_areDaysSound_36 (by decide) (fun c36 => ?_) (fun c36 => ?_)
          · skip
            refine W.widen (k := 6) (n := 36) (by omega) (by omega) ?_
            exact jn41_0 _ _  hw _ (lv_sub hl [0, 1, 2, 3] rfl)
          · skip
            exfalso; omega
