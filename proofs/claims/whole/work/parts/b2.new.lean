set_option maxHeartbeats 4000000 in
set_option maxRecDepth 100000 in
theorem c_X9_init (l : Launch) (Γ : zG) (K : zK) (X : zX) (Rf : zR) (md : Nat) (ρ : zL) (hmd : K md = (1, 8)) (hz : X md = fun _ => 0) : Ct l yX9_init cX9_init 1 none 2 20 77958 Γ [.ref md] K X Rf (pV (fun (K' : zK) (X' : zX) (R' : zR) => (∀ b, (K b).1 ≠ 0 → b ≠ md → K' b = K b ∧ X' b = X b ∧ R' b = Rf b) ∧ ∃ ρ', (∀ b, (K b).1 ≠ 0 → b ≠ md → ρ' b = ρ b) ∧ repR ρ' K' X' R' md zM0 ∧ ptR X' R' md = 24006)) := by
  refine Ct.of (by decide +kernel) (Nat.le_of_ble_eq_true rfl) ?_
  intro p e s m below meth c ls hx hb hr hml hown hG hlocks hname hw hl
  have hl : lv_has ls 1 [(0, .ref md)] := hl
  refine lv_aload_n (pc := 0) hx hb dX9_init_0 rfl (lv_at hl 0 rfl) ?_
  refine W.objInit hx hb hown (hG _ wl_X9_1) (hG _ wm_objInit) (hG _ wc_objInit) rfl (by rw [hml]; exact hl.1) rfl dX9_init_1 (Nat.le_of_ble_eq_true rfl) (Nat.le_of_ble_eq_true rfl) ?_
  refine W.eq (g2 := F0 m 4 ls []) rfl ?_
  refine lv_aload_n (pc := 4) hx hb dX9_init_4 rfl (lv_at hl 0 rfl) ?_
  refine zbipush (pc := 5) (n := 24) hx hb dX9_init_5 rfl ?_
  refine znewi (pc := 7) hx hb hG hw wa_int ⟨by omega, by omega⟩ (by show 0 + 1 ≤ 20; omega) (by show 0 + 24 ≤ 77958; omega) dX9_init_7 (fun q7 H hfq7 hw => ?_)
  obtain ⟨K7, eK7⟩ : ∃ Y : zK, Y = zup K q7 (2, 24) := ⟨_, rfl⟩
  obtain ⟨X7, eX7⟩ : ∃ Y : zX, Y = zupX X q7 := ⟨_, rfl⟩
  obtain ⟨R7, eR7⟩ : ∃ Y : zR, Y = zupR Rf q7 := ⟨_, rfl⟩
  replace hw := Wd.re hw eK7 eX7 eR7
  have hk7 : K7 md = (1, 8) := by rw [eK7]; exact zup_k hfq7 hmd (Nat.succ_ne_zero _)
  have hn7 : Apt md q7 := zne hmd hfq7
  have hk7_1 : K7 q7 = (2, 24) := by rw [eK7]; exact zup_s
  refine zputRF (pc := 9) hx hb hG hown hw hk7 (T := TX9) (ty := .array .int) rfl 2 (by decide) rfl wf_X9_9 rfl (by decide +kernel) rfl rfl rfl hname rfl dX9_init_9 (fun H locs hw => ?_)
  obtain ⟨R9, eR9⟩ : ∃ Y : zR, Y = up2 R7 md 2 (some q7) := ⟨_, rfl⟩
  rw [← eR9] at hw
  have hr9 : R9 md 2 = some q7 := by rw [eR9]; exact up2_s
  refine lv_aload_n (pc := 12) hx hb dX9_init_12 rfl (lv_at hl 0 rfl) ?_
  refine zbipush (pc := 13) (n := 24) hx hb dX9_init_13 rfl ?_
  refine znewi (pc := 15) hx hb hG hw wa_int ⟨by omega, by omega⟩ (by show 0 + 1 + 1 ≤ 20; omega) (by show 0 + 24 + 24 ≤ 77958; omega) dX9_init_15 (fun q15 H hfq15 hw => ?_)
  obtain ⟨K15, eK15⟩ : ∃ Y : zK, Y = zup K7 q15 (2, 24) := ⟨_, rfl⟩
  obtain ⟨X15, eX15⟩ : ∃ Y : zX, Y = zupX X7 q15 := ⟨_, rfl⟩
  obtain ⟨R15, eR15⟩ : ∃ Y : zR, Y = zupR R9 q15 := ⟨_, rfl⟩
  replace hw := Wd.re hw eK15 eX15 eR15
  have hk15 : K15 md = (1, 8) := by rw [eK15]; exact zup_k hfq15 hk7 (Nat.succ_ne_zero _)
  have hn15 : Apt md q15 := zne hk7 hfq15
  have hk15_1 : K15 q7 = (2, 24) := by rw [eK15]; exact zup_k hfq15 hk7_1 (Nat.succ_ne_zero _)
  have hn15_1 : Apt q7 q15 := zne hk7_1 hfq15
  have hk15_2 : K15 q15 = (2, 24) := by rw [eK15]; exact zup_s
  have hr15 : R15 md 2 = some q7 := by rw [eR15, zupR_n hn15]; exact hr9
  refine zputRF (pc := 17) hx hb hG hown hw hk15 (T := TX9) (ty := .array .int) rfl 3 (by decide) rfl wf_X9_13 rfl (by decide +kernel) rfl rfl rfl hname rfl dX9_init_17 (fun H locs hw => ?_)
  obtain ⟨R17, eR17⟩ : ∃ Y : zR, Y = up2 R15 md 3 (some q15) := ⟨_, rfl⟩
  rw [← eR17] at hw
  have hr17 : R17 md 2 = some q7 := by rw [eR17, up2_k (by first | decide | omega)]; exact hr15
  have hr17_1 : R17 md 3 = some q15 := by rw [eR17]; exact up2_s
  refine lv_aload_n (pc := 20) hx hb dX9_init_20 rfl (lv_at hl 0 rfl) ?_
  refine zbipush (pc := 21) (n := 24) hx hb dX9_init_21 rfl ?_
  refine znewi (pc := 23) hx hb hG hw wa_int ⟨by omega, by omega⟩ (by show 0 + 1 + 1 + 1 ≤ 20; omega) (by show 0 + 24 + 24 + 24 ≤ 77958; omega) dX9_init_23 (fun q23 H hfq23 hw => ?_)
  obtain ⟨K23, eK23⟩ : ∃ Y : zK, Y = zup K15 q23 (2, 24) := ⟨_, rfl⟩
  obtain ⟨X23, eX23⟩ : ∃ Y : zX, Y = zupX X15 q23 := ⟨_, rfl⟩
  obtain ⟨R23, eR23⟩ : ∃ Y : zR, Y = zupR R17 q23 := ⟨_, rfl⟩
  replace hw := Wd.re hw eK23 eX23 eR23
  have hk23 : K23 md = (1, 8) := by rw [eK23]; exact zup_k hfq23 hk15 (Nat.succ_ne_zero _)
  have hn23 : Apt md q23 := zne hk15 hfq23
  have hk23_1 : K23 q7 = (2, 24) := by rw [eK23]; exact zup_k hfq23 hk15_1 (Nat.succ_ne_zero _)
  have hn23_1 : Apt q7 q23 := zne hk15_1 hfq23
  have hk23_2 : K23 q15 = (2, 24) := by rw [eK23]; exact zup_k hfq23 hk15_2 (Nat.succ_ne_zero _)
  have hn23_2 : Apt q15 q23 := zne hk15_2 hfq23
  have hk23_3 : K23 q23 = (2, 24) := by rw [eK23]; exact zup_s
  have hr23 : R23 md 2 = some q7 := by rw [eR23, zupR_n hn23]; exact hr17
  have hr23_1 : R23 md 3 = some q15 := by rw [eR23, zupR_n hn23]; exact hr17_1
  refine zputRF (pc := 25) hx hb hG hown hw hk23 (T := TX9) (ty := .array .int) rfl 4 (by decide) rfl wf_X9_16 rfl (by decide +kernel) rfl rfl rfl hname rfl dX9_init_25 (fun H locs hw => ?_)
  obtain ⟨R25, eR25⟩ : ∃ Y : zR, Y = up2 R23 md 4 (some q23) := ⟨_, rfl⟩
  rw [← eR25] at hw
  have hr25 : R25 md 2 = some q7 := by rw [eR25, up2_k (by first | decide | omega)]; exact hr23
  have hr25_1 : R25 md 3 = some q15 := by rw [eR25, up2_k (by first | decide | omega)]; exact hr23_1
  have hr25_2 : R25 md 4 = some q23 := by rw [eR25]; exact up2_s
  refine lv_aload_n (pc := 28) hx hb dX9_init_28 rfl (lv_at hl 0 rfl) ?_
  refine zbipush (pc := 29) (n := 6) hx hb dX9_init_29 rfl ?_
  refine znewi (pc := 31) hx hb hG hw wa_int ⟨by omega, by omega⟩ (by show 0 + 1 + 1 + 1 + 1 ≤ 20; omega) (by show 0 + 24 + 24 + 24 + 6 ≤ 77958; omega) dX9_init_31 (fun q31 H hfq31 hw => ?_)
  obtain ⟨K31, eK31⟩ : ∃ Y : zK, Y = zup K23 q31 (2, 6) := ⟨_, rfl⟩
  obtain ⟨X31, eX31⟩ : ∃ Y : zX, Y = zupX X23 q31 := ⟨_, rfl⟩
  obtain ⟨R31, eR31⟩ : ∃ Y : zR, Y = zupR R25 q31 := ⟨_, rfl⟩
  replace hw := Wd.re hw eK31 eX31 eR31
  have hk31 : K31 md = (1, 8) := by rw [eK31]; exact zup_k hfq31 hk23 (Nat.succ_ne_zero _)
  have hn31 : Apt md q31 := zne hk23 hfq31
  have hk31_1 : K31 q7 = (2, 24) := by rw [eK31]; exact zup_k hfq31 hk23_1 (Nat.succ_ne_zero _)
  have hn31_1 : Apt q7 q31 := zne hk23_1 hfq31
  have hk31_2 : K31 q15 = (2, 24) := by rw [eK31]; exact zup_k hfq31 hk23_2 (Nat.succ_ne_zero _)
  have hn31_2 : Apt q15 q31 := zne hk23_2 hfq31
  have hk31_3 : K31 q23 = (2, 24) := by rw [eK31]; exact zup_k hfq31 hk23_3 (Nat.succ_ne_zero _)
  have hn31_3 : Apt q23 q31 := zne hk23_3 hfq31
  have hk31_4 : K31 q31 = (2, 6) := by rw [eK31]; exact zup_s
  have hr31 : R31 md 2 = some q7 := by rw [eR31, zupR_n hn31]; exact hr25
  have hr31_1 : R31 md 3 = some q15 := by rw [eR31, zupR_n hn31]; exact hr25_1
  have hr31_2 : R31 md 4 = some q23 := by rw [eR31, zupR_n hn31]; exact hr25_2
  refine zputRF (pc := 33) hx hb hG hown hw hk31 (T := TX9) (ty := .array .int) rfl 6 (by decide) rfl wf_X9_19 rfl (by decide +kernel) rfl rfl rfl hname rfl dX9_init_33 (fun H locs hw => ?_)
  obtain ⟨R33, eR33⟩ : ∃ Y : zR, Y = up2 R31 md 6 (some q31) := ⟨_, rfl⟩
  rw [← eR33] at hw
  have hr33 : R33 md 2 = some q7 := by rw [eR33, up2_k (by first | decide | omega)]; exact hr31
  have hr33_1 : R33 md 3 = some q15 := by rw [eR33, up2_k (by first | decide | omega)]; exact hr31_1
  have hr33_2 : R33 md 4 = some q23 := by rw [eR33, up2_k (by first | decide | omega)]; exact hr31_2
  have hr33_3 : R33 md 6 = some q31 := by rw [eR33]; exact up2_s
  refine lv_aload_n (pc := 36) hx hb dX9_init_36 rfl (lv_at hl 0 rfl) ?_
  refine zbipush (pc := 37) (n := 6) hx hb dX9_init_37 rfl ?_
  refine znewi (pc := 39) hx hb hG hw wa_int ⟨by omega, by omega⟩ (by show 0 + 1 + 1 + 1 + 1 + 1 ≤ 20; omega) (by show 0 + 24 + 24 + 24 + 6 + 6 ≤ 77958; omega) dX9_init_39 (fun q39 H hfq39 hw => ?_)
  obtain ⟨K39, eK39⟩ : ∃ Y : zK, Y = zup K31 q39 (2, 6) := ⟨_, rfl⟩
  obtain ⟨X39, eX39⟩ : ∃ Y : zX, Y = zupX X31 q39 := ⟨_, rfl⟩
  obtain ⟨R39, eR39⟩ : ∃ Y : zR, Y = zupR R33 q39 := ⟨_, rfl⟩
  replace hw := Wd.re hw eK39 eX39 eR39
  have hk39 : K39 md = (1, 8) := by rw [eK39]; exact zup_k hfq39 hk31 (Nat.succ_ne_zero _)
  have hn39 : Apt md q39 := zne hk31 hfq39
  have hk39_1 : K39 q7 = (2, 24) := by rw [eK39]; exact zup_k hfq39 hk31_1 (Nat.succ_ne_zero _)
  have hn39_1 : Apt q7 q39 := zne hk31_1 hfq39
  have hk39_2 : K39 q15 = (2, 24) := by rw [eK39]; exact zup_k hfq39 hk31_2 (Nat.succ_ne_zero _)
  have hn39_2 : Apt q15 q39 := zne hk31_2 hfq39
  have hk39_3 : K39 q23 = (2, 24) := by rw [eK39]; exact zup_k hfq39 hk31_3 (Nat.succ_ne_zero _)
  have hn39_3 : Apt q23 q39 := zne hk31_3 hfq39
  have hk39_4 : K39 q31 = (2, 6) := by rw [eK39]; exact zup_k hfq39 hk31_4 (Nat.succ_ne_zero _)
  have hn39_4 : Apt q31 q39 := zne hk31_4 hfq39
  have hk39_5 : K39 q39 = (2, 6) := by rw [eK39]; exact zup_s
  have hr39 : R39 md 2 = some q7 := by rw [eR39, zupR_n hn39]; exact hr33
  have hr39_1 : R39 md 3 = some q15 := by rw [eR39, zupR_n hn39]; exact hr33_1
  have hr39_2 : R39 md 4 = some q23 := by rw [eR39, zupR_n hn39]; exact hr33_2
  have hr39_3 : R39 md 6 = some q31 := by rw [eR39, zupR_n hn39]; exact hr33_3
  refine zputRF (pc := 41) hx hb hG hown hw hk39 (T := TX9) (ty := .array .int) rfl 7 (by decide) rfl wf_X9_22 rfl (by decide +kernel) rfl rfl rfl hname rfl dX9_init_41 (fun H locs hw => ?_)
  obtain ⟨R41, eR41⟩ : ∃ Y : zR, Y = up2 R39 md 7 (some q39) := ⟨_, rfl⟩
  rw [← eR41] at hw
  have hr41 : R41 md 2 = some q7 := by rw [eR41, up2_k (by first | decide | omega)]; exact hr39
  have hr41_1 : R41 md 3 = some q15 := by rw [eR41, up2_k (by first | decide | omega)]; exact hr39_1
  have hr41_2 : R41 md 4 = some q23 := by rw [eR41, up2_k (by first | decide | omega)]; exact hr39_2
  have hr41_3 : R41 md 6 = some q31 := by rw [eR41, up2_k (by first | decide | omega)]; exact hr39_3
  have hr41_4 : R41 md 7 = some q39 := by rw [eR41]; exact up2_s
  refine lv_aload_n (pc := 44) hx hb dX9_init_44 rfl (lv_at hl 0 rfl) ?_
  refine zsipush (pc := 45) (n := 216) hx hb dX9_init_45 rfl ?_
  refine znewi (pc := 48) hx hb hG hw wa_int ⟨by omega, by omega⟩ (by show 0 + 1 + 1 + 1 + 1 + 1 + 1 ≤ 20; omega) (by show 0 + 24 + 24 + 24 + 6 + 6 + 216 ≤ 77958; omega) dX9_init_48 (fun q48 H hfq48 hw => ?_)
  obtain ⟨K48, eK48⟩ : ∃ Y : zK, Y = zup K39 q48 (2, 216) := ⟨_, rfl⟩
  obtain ⟨X48, eX48⟩ : ∃ Y : zX, Y = zupX X39 q48 := ⟨_, rfl⟩
  obtain ⟨R48, eR48⟩ : ∃ Y : zR, Y = zupR R41 q48 := ⟨_, rfl⟩
  replace hw := Wd.re hw eK48 eX48 eR48
  have hk48 : K48 md = (1, 8) := by rw [eK48]; exact zup_k hfq48 hk39 (Nat.succ_ne_zero _)
  have hn48 : Apt md q48 := zne hk39 hfq48
  have hk48_1 : K48 q7 = (2, 24) := by rw [eK48]; exact zup_k hfq48 hk39_1 (Nat.succ_ne_zero _)
  have hn48_1 : Apt q7 q48 := zne hk39_1 hfq48
  have hk48_2 : K48 q15 = (2, 24) := by rw [eK48]; exact zup_k hfq48 hk39_2 (Nat.succ_ne_zero _)
  have hn48_2 : Apt q15 q48 := zne hk39_2 hfq48
  have hk48_3 : K48 q23 = (2, 24) := by rw [eK48]; exact zup_k hfq48 hk39_3 (Nat.succ_ne_zero _)
  have hn48_3 : Apt q23 q48 := zne hk39_3 hfq48
  have hk48_4 : K48 q31 = (2, 6) := by rw [eK48]; exact zup_k hfq48 hk39_4 (Nat.succ_ne_zero _)
  have hn48_4 : Apt q31 q48 := zne hk39_4 hfq48
  have hk48_5 : K48 q39 = (2, 6) := by rw [eK48]; exact zup_k hfq48 hk39_5 (Nat.succ_ne_zero _)
  have hn48_5 : Apt q39 q48 := zne hk39_5 hfq48
  have hk48_6 : K48 q48 = (2, 216) := by rw [eK48]; exact zup_s
  have hr48 : R48 md 2 = some q7 := by rw [eR48, zupR_n hn48]; exact hr41
  have hr48_1 : R48 md 3 = some q15 := by rw [eR48, zupR_n hn48]; exact hr41_1
  have hr48_2 : R48 md 4 = some q23 := by rw [eR48, zupR_n hn48]; exact hr41_2
  have hr48_3 : R48 md 6 = some q31 := by rw [eR48, zupR_n hn48]; exact hr41_3
  have hr48_4 : R48 md 7 = some q39 := by rw [eR48, zupR_n hn48]; exact hr41_4
  refine zputRF (pc := 50) hx hb hG hown hw hk48 (T := TX9) (ty := .array .int) rfl 8 (by decide) rfl wf_X9_25 rfl (by decide +kernel) rfl rfl rfl hname rfl dX9_init_50 (fun H locs hw => ?_)
  obtain ⟨R50, eR50⟩ : ∃ Y : zR, Y = up2 R48 md 8 (some q48) := ⟨_, rfl⟩
  rw [← eR50] at hw
  have hr50 : R50 md 2 = some q7 := by rw [eR50, up2_k (by first | decide | omega)]; exact hr48
  have hr50_1 : R50 md 3 = some q15 := by rw [eR50, up2_k (by first | decide | omega)]; exact hr48_1
  have hr50_2 : R50 md 4 = some q23 := by rw [eR50, up2_k (by first | decide | omega)]; exact hr48_2
  have hr50_3 : R50 md 6 = some q31 := by rw [eR50, up2_k (by first | decide | omega)]; exact hr48_3
  have hr50_4 : R50 md 7 = some q39 := by rw [eR50, up2_k (by first | decide | omega)]; exact hr48_4
  have hr50_5 : R50 md 8 = some q48 := by rw [eR50]; exact up2_s
  refine lv_aload_n (pc := 53) hx hb dX9_init_53 rfl (lv_at hl 0 rfl) ?_
  refine zbipush (pc := 54) (n := 6) hx hb dX9_init_54 rfl ?_
  refine znewi (pc := 56) hx hb hG hw wa_int ⟨by omega, by omega⟩ (by show 0 + 1 + 1 + 1 + 1 + 1 + 1 + 1 ≤ 20; omega) (by show 0 + 24 + 24 + 24 + 6 + 6 + 216 + 6 ≤ 77958; omega) dX9_init_56 (fun q56 H hfq56 hw => ?_)
  obtain ⟨K56, eK56⟩ : ∃ Y : zK, Y = zup K48 q56 (2, 6) := ⟨_, rfl⟩
  obtain ⟨X56, eX56⟩ : ∃ Y : zX, Y = zupX X48 q56 := ⟨_, rfl⟩
  obtain ⟨R56, eR56⟩ : ∃ Y : zR, Y = zupR R50 q56 := ⟨_, rfl⟩
  replace hw := Wd.re hw eK56 eX56 eR56
  have hk56 : K56 md = (1, 8) := by rw [eK56]; exact zup_k hfq56 hk48 (Nat.succ_ne_zero _)
  have hn56 : Apt md q56 := zne hk48 hfq56
  have hk56_1 : K56 q7 = (2, 24) := by rw [eK56]; exact zup_k hfq56 hk48_1 (Nat.succ_ne_zero _)
  have hn56_1 : Apt q7 q56 := zne hk48_1 hfq56
  have hk56_2 : K56 q15 = (2, 24) := by rw [eK56]; exact zup_k hfq56 hk48_2 (Nat.succ_ne_zero _)
  have hn56_2 : Apt q15 q56 := zne hk48_2 hfq56
  have hk56_3 : K56 q23 = (2, 24) := by rw [eK56]; exact zup_k hfq56 hk48_3 (Nat.succ_ne_zero _)
  have hn56_3 : Apt q23 q56 := zne hk48_3 hfq56
  have hk56_4 : K56 q31 = (2, 6) := by rw [eK56]; exact zup_k hfq56 hk48_4 (Nat.succ_ne_zero _)
  have hn56_4 : Apt q31 q56 := zne hk48_4 hfq56
  have hk56_5 : K56 q39 = (2, 6) := by rw [eK56]; exact zup_k hfq56 hk48_5 (Nat.succ_ne_zero _)
  have hn56_5 : Apt q39 q56 := zne hk48_5 hfq56
  have hk56_6 : K56 q48 = (2, 216) := by rw [eK56]; exact zup_k hfq56 hk48_6 (Nat.succ_ne_zero _)
  have hn56_6 : Apt q48 q56 := zne hk48_6 hfq56
  have hk56_7 : K56 q56 = (2, 6) := by rw [eK56]; exact zup_s
  have hr56 : R56 md 2 = some q7 := by rw [eR56, zupR_n hn56]; exact hr50
  have hr56_1 : R56 md 3 = some q15 := by rw [eR56, zupR_n hn56]; exact hr50_1
  have hr56_2 : R56 md 4 = some q23 := by rw [eR56, zupR_n hn56]; exact hr50_2
  have hr56_3 : R56 md 6 = some q31 := by rw [eR56, zupR_n hn56]; exact hr50_3
  have hr56_4 : R56 md 7 = some q39 := by rw [eR56, zupR_n hn56]; exact hr50_4
  have hr56_5 : R56 md 8 = some q48 := by rw [eR56, zupR_n hn56]; exact hr50_5
  refine zputRF (pc := 58) hx hb hG hown hw hk56 (T := TX9) (ty := .array .int) rfl 9 (by decide) rfl wf_X9_28 rfl (by decide +kernel) rfl rfl rfl hname rfl dX9_init_58 (fun H locs hw => ?_)
  obtain ⟨R58, eR58⟩ : ∃ Y : zR, Y = up2 R56 md 9 (some q56) := ⟨_, rfl⟩
  rw [← eR58] at hw
  have hr58 : R58 md 2 = some q7 := by rw [eR58, up2_k (by first | decide | omega)]; exact hr56
  have hr58_1 : R58 md 3 = some q15 := by rw [eR58, up2_k (by first | decide | omega)]; exact hr56_1
  have hr58_2 : R58 md 4 = some q23 := by rw [eR58, up2_k (by first | decide | omega)]; exact hr56_2
  have hr58_3 : R58 md 6 = some q31 := by rw [eR58, up2_k (by first | decide | omega)]; exact hr56_3
  have hr58_4 : R58 md 7 = some q39 := by rw [eR58, up2_k (by first | decide | omega)]; exact hr56_4
  have hr58_5 : R58 md 8 = some q48 := by rw [eR58, up2_k (by first | decide | omega)]; exact hr56_5
  have hr58_6 : R58 md 9 = some q56 := by rw [eR58]; exact up2_s
  refine lv_aload_n (pc := 61) hx hb dX9_init_61 rfl (lv_at hl 0 rfl) ?_
  refine zbipush (pc := 62) (n := 6) hx hb dX9_init_62 rfl ?_
  refine znewq5 (pc := 64) hx hb hG hown hw wn_X9_31 ⟨by omega, by omega⟩ (by show 0 + 1 + 1 + 1 + 1 + 1 + 1 + 1 + 1 ≤ 20; omega) (by show 0 + 24 + 24 + 24 + 6 + 6 + 216 + 6 + 6 ≤ 77958; omega) dX9_init_64 (fun q64 H hfq64 hw => ?_)
  obtain ⟨K64, eK64⟩ : ∃ Y : zK, Y = zup K56 q64 (11, 6) := ⟨_, rfl⟩
  obtain ⟨X64, eX64⟩ : ∃ Y : zX, Y = zupX X56 q64 := ⟨_, rfl⟩
  obtain ⟨R64, eR64⟩ : ∃ Y : zR, Y = zupR R58 q64 := ⟨_, rfl⟩
  replace hw := Wd.re hw eK64 eX64 eR64
  have hk64 : K64 md = (1, 8) := by rw [eK64]; exact zup_k hfq64 hk56 (Nat.succ_ne_zero _)
  have hn64 : Apt md q64 := zne hk56 hfq64
  have hk64_1 : K64 q7 = (2, 24) := by rw [eK64]; exact zup_k hfq64 hk56_1 (Nat.succ_ne_zero _)
  have hn64_1 : Apt q7 q64 := zne hk56_1 hfq64
  have hk64_2 : K64 q15 = (2, 24) := by rw [eK64]; exact zup_k hfq64 hk56_2 (Nat.succ_ne_zero _)
  have hn64_2 : Apt q15 q64 := zne hk56_2 hfq64
  have hk64_3 : K64 q23 = (2, 24) := by rw [eK64]; exact zup_k hfq64 hk56_3 (Nat.succ_ne_zero _)
  have hn64_3 : Apt q23 q64 := zne hk56_3 hfq64
  have hk64_4 : K64 q31 = (2, 6) := by rw [eK64]; exact zup_k hfq64 hk56_4 (Nat.succ_ne_zero _)
  have hn64_4 : Apt q31 q64 := zne hk56_4 hfq64
  have hk64_5 : K64 q39 = (2, 6) := by rw [eK64]; exact zup_k hfq64 hk56_5 (Nat.succ_ne_zero _)
  have hn64_5 : Apt q39 q64 := zne hk56_5 hfq64
  have hk64_6 : K64 q48 = (2, 216) := by rw [eK64]; exact zup_k hfq64 hk56_6 (Nat.succ_ne_zero _)
  have hn64_6 : Apt q48 q64 := zne hk56_6 hfq64
  have hk64_7 : K64 q56 = (2, 6) := by rw [eK64]; exact zup_k hfq64 hk56_7 (Nat.succ_ne_zero _)
  have hn64_7 : Apt q56 q64 := zne hk56_7 hfq64
  have hk64_8 : K64 q64 = (11, 6) := by rw [eK64]; exact zup_s
  have hr64 : R64 md 2 = some q7 := by rw [eR64, zupR_n hn64]; exact hr58
  have hr64_1 : R64 md 3 = some q15 := by rw [eR64, zupR_n hn64]; exact hr58_1
  have hr64_2 : R64 md 4 = some q23 := by rw [eR64, zupR_n hn64]; exact hr58_2
  have hr64_3 : R64 md 6 = some q31 := by rw [eR64, zupR_n hn64]; exact hr58_3
  have hr64_4 : R64 md 7 = some q39 := by rw [eR64, zupR_n hn64]; exact hr58_4
  have hr64_5 : R64 md 8 = some q48 := by rw [eR64, zupR_n hn64]; exact hr58_5
  have hr64_6 : R64 md 9 = some q56 := by rw [eR64, zupR_n hn64]; exact hr58_6
  refine zputRF (pc := 67) hx hb hG hown hw hk64 (T := TX9) (ty := .array (.array .int)) rfl 10 (by decide) rfl wf_X9_32 rfl (by decide +kernel) rfl rfl rfl hname rfl dX9_init_67 (fun H locs hw => ?_)
  obtain ⟨R67, eR67⟩ : ∃ Y : zR, Y = up2 R64 md 10 (some q64) := ⟨_, rfl⟩
  rw [← eR67] at hw
  have hr67 : R67 md 2 = some q7 := by rw [eR67, up2_k (by first | decide | omega)]; exact hr64
  have hr67_1 : R67 md 3 = some q15 := by rw [eR67, up2_k (by first | decide | omega)]; exact hr64_1
  have hr67_2 : R67 md 4 = some q23 := by rw [eR67, up2_k (by first | decide | omega)]; exact hr64_2
  have hr67_3 : R67 md 6 = some q31 := by rw [eR67, up2_k (by first | decide | omega)]; exact hr64_3
  have hr67_4 : R67 md 7 = some q39 := by rw [eR67, up2_k (by first | decide | omega)]; exact hr64_4
  have hr67_5 : R67 md 8 = some q48 := by rw [eR67, up2_k (by first | decide | omega)]; exact hr64_5
  have hr67_6 : R67 md 9 = some q56 := by rw [eR67, up2_k (by first | decide | omega)]; exact hr64_6
  have hr67_7 : R67 md 10 = some q64 := by rw [eR67]; exact up2_s
  refine lv_aload_n (pc := 70) hx hb dX9_init_70 rfl (lv_at hl 0 rfl) ?_
  refine zbipush (pc := 71) (n := 6) hx hb dX9_init_71 rfl ?_
  refine znewq5 (pc := 73) hx hb hG hown hw wn_X9_31 ⟨by omega, by omega⟩ (by show 0 + 1 + 1 + 1 + 1 + 1 + 1 + 1 + 1 + 1 ≤ 20; omega) (by show 0 + 24 + 24 + 24 + 6 + 6 + 216 + 6 + 6 + 6 ≤ 77958; omega) dX9_init_73 (fun q73 H hfq73 hw => ?_)
  obtain ⟨K73, eK73⟩ : ∃ Y : zK, Y = zup K64 q73 (11, 6) := ⟨_, rfl⟩
  obtain ⟨X73, eX73⟩ : ∃ Y : zX, Y = zupX X64 q73 := ⟨_, rfl⟩
  obtain ⟨R73, eR73⟩ : ∃ Y : zR, Y = zupR R67 q73 := ⟨_, rfl⟩
  replace hw := Wd.re hw eK73 eX73 eR73
  have hk73 : K73 md = (1, 8) := by rw [eK73]; exact zup_k hfq73 hk64 (Nat.succ_ne_zero _)
  have hn73 : Apt md q73 := zne hk64 hfq73
  have hk73_1 : K73 q7 = (2, 24) := by rw [eK73]; exact zup_k hfq73 hk64_1 (Nat.succ_ne_zero _)
  have hn73_1 : Apt q7 q73 := zne hk64_1 hfq73
  have hk73_2 : K73 q15 = (2, 24) := by rw [eK73]; exact zup_k hfq73 hk64_2 (Nat.succ_ne_zero _)
  have hn73_2 : Apt q15 q73 := zne hk64_2 hfq73
  have hk73_3 : K73 q23 = (2, 24) := by rw [eK73]; exact zup_k hfq73 hk64_3 (Nat.succ_ne_zero _)
  have hn73_3 : Apt q23 q73 := zne hk64_3 hfq73
  have hk73_4 : K73 q31 = (2, 6) := by rw [eK73]; exact zup_k hfq73 hk64_4 (Nat.succ_ne_zero _)
  have hn73_4 : Apt q31 q73 := zne hk64_4 hfq73
  have hk73_5 : K73 q39 = (2, 6) := by rw [eK73]; exact zup_k hfq73 hk64_5 (Nat.succ_ne_zero _)
  have hn73_5 : Apt q39 q73 := zne hk64_5 hfq73
  have hk73_6 : K73 q48 = (2, 216) := by rw [eK73]; exact zup_k hfq73 hk64_6 (Nat.succ_ne_zero _)
  have hn73_6 : Apt q48 q73 := zne hk64_6 hfq73
  have hk73_7 : K73 q56 = (2, 6) := by rw [eK73]; exact zup_k hfq73 hk64_7 (Nat.succ_ne_zero _)
  have hn73_7 : Apt q56 q73 := zne hk64_7 hfq73
  have hk73_8 : K73 q64 = (11, 6) := by rw [eK73]; exact zup_k hfq73 hk64_8 (Nat.succ_ne_zero _)
  have hn73_8 : Apt q64 q73 := zne hk64_8 hfq73
  have hk73_9 : K73 q73 = (11, 6) := by rw [eK73]; exact zup_s
  have hr73 : R73 md 2 = some q7 := by rw [eR73, zupR_n hn73]; exact hr67
  have hr73_1 : R73 md 3 = some q15 := by rw [eR73, zupR_n hn73]; exact hr67_1
  have hr73_2 : R73 md 4 = some q23 := by rw [eR73, zupR_n hn73]; exact hr67_2
  have hr73_3 : R73 md 6 = some q31 := by rw [eR73, zupR_n hn73]; exact hr67_3
  have hr73_4 : R73 md 7 = some q39 := by rw [eR73, zupR_n hn73]; exact hr67_4
  have hr73_5 : R73 md 8 = some q48 := by rw [eR73, zupR_n hn73]; exact hr67_5
  have hr73_6 : R73 md 9 = some q56 := by rw [eR73, zupR_n hn73]; exact hr67_6
  have hr73_7 : R73 md 10 = some q64 := by rw [eR73, zupR_n hn73]; exact hr67_7
  refine zputRF (pc := 76) hx hb hG hown hw hk73 (T := TX9) (ty := .array (.array .int)) rfl 11 (by decide) rfl wf_X9_36 rfl (by decide +kernel) rfl rfl rfl hname rfl dX9_init_76 (fun H locs hw => ?_)
  obtain ⟨R76, eR76⟩ : ∃ Y : zR, Y = up2 R73 md 11 (some q73) := ⟨_, rfl⟩
  rw [← eR76] at hw
  have hr76 : R76 md 2 = some q7 := by rw [eR76, up2_k (by first | decide | omega)]; exact hr73
  have hr76_1 : R76 md 3 = some q15 := by rw [eR76, up2_k (by first | decide | omega)]; exact hr73_1
  have hr76_2 : R76 md 4 = some q23 := by rw [eR76, up2_k (by first | decide | omega)]; exact hr73_2
  have hr76_3 : R76 md 6 = some q31 := by rw [eR76, up2_k (by first | decide | omega)]; exact hr73_3
  have hr76_4 : R76 md 7 = some q39 := by rw [eR76, up2_k (by first | decide | omega)]; exact hr73_4
  have hr76_5 : R76 md 8 = some q48 := by rw [eR76, up2_k (by first | decide | omega)]; exact hr73_5
  have hr76_6 : R76 md 9 = some q56 := by rw [eR76, up2_k (by first | decide | omega)]; exact hr73_6
  have hr76_7 : R76 md 10 = some q64 := by rw [eR76, up2_k (by first | decide | omega)]; exact hr73_7
  have hr76_8 : R76 md 11 = some q73 := by rw [eR76]; exact up2_s
  refine lv_aload_n (pc := 79) hx hb dX9_init_79 rfl (lv_at hl 0 rfl) ?_
  refine zbipush (pc := 80) (n := 66) hx hb dX9_init_80 rfl ?_
  refine znewi (pc := 82) hx hb hG hw wa_int ⟨by omega, by omega⟩ (by show 0 + 1 + 1 + 1 + 1 + 1 + 1 + 1 + 1 + 1 + 1 ≤ 20; omega) (by show 0 + 24 + 24 + 24 + 6 + 6 + 216 + 6 + 6 + 6 + 66 ≤ 77958; omega) dX9_init_82 (fun q82 H hfq82 hw => ?_)
  obtain ⟨K82, eK82⟩ : ∃ Y : zK, Y = zup K73 q82 (2, 66) := ⟨_, rfl⟩
  obtain ⟨X82, eX82⟩ : ∃ Y : zX, Y = zupX X73 q82 := ⟨_, rfl⟩
  obtain ⟨R82, eR82⟩ : ∃ Y : zR, Y = zupR R76 q82 := ⟨_, rfl⟩
  replace hw := Wd.re hw eK82 eX82 eR82
  have hk82 : K82 md = (1, 8) := by rw [eK82]; exact zup_k hfq82 hk73 (Nat.succ_ne_zero _)
  have hn82 : Apt md q82 := zne hk73 hfq82
  have hk82_1 : K82 q7 = (2, 24) := by rw [eK82]; exact zup_k hfq82 hk73_1 (Nat.succ_ne_zero _)
  have hn82_1 : Apt q7 q82 := zne hk73_1 hfq82
  have hk82_2 : K82 q15 = (2, 24) := by rw [eK82]; exact zup_k hfq82 hk73_2 (Nat.succ_ne_zero _)
  have hn82_2 : Apt q15 q82 := zne hk73_2 hfq82
  have hk82_3 : K82 q23 = (2, 24) := by rw [eK82]; exact zup_k hfq82 hk73_3 (Nat.succ_ne_zero _)
  have hn82_3 : Apt q23 q82 := zne hk73_3 hfq82
  have hk82_4 : K82 q31 = (2, 6) := by rw [eK82]; exact zup_k hfq82 hk73_4 (Nat.succ_ne_zero _)
  have hn82_4 : Apt q31 q82 := zne hk73_4 hfq82
  have hk82_5 : K82 q39 = (2, 6) := by rw [eK82]; exact zup_k hfq82 hk73_5 (Nat.succ_ne_zero _)
  have hn82_5 : Apt q39 q82 := zne hk73_5 hfq82
  have hk82_6 : K82 q48 = (2, 216) := by rw [eK82]; exact zup_k hfq82 hk73_6 (Nat.succ_ne_zero _)
  have hn82_6 : Apt q48 q82 := zne hk73_6 hfq82
  have hk82_7 : K82 q56 = (2, 6) := by rw [eK82]; exact zup_k hfq82 hk73_7 (Nat.succ_ne_zero _)
  have hn82_7 : Apt q56 q82 := zne hk73_7 hfq82
  have hk82_8 : K82 q64 = (11, 6) := by rw [eK82]; exact zup_k hfq82 hk73_8 (Nat.succ_ne_zero _)
  have hn82_8 : Apt q64 q82 := zne hk73_8 hfq82
  have hk82_9 : K82 q73 = (11, 6) := by rw [eK82]; exact zup_k hfq82 hk73_9 (Nat.succ_ne_zero _)
  have hn82_9 : Apt q73 q82 := zne hk73_9 hfq82
  have hk82_10 : K82 q82 = (2, 66) := by rw [eK82]; exact zup_s
  have hr82 : R82 md 2 = some q7 := by rw [eR82, zupR_n hn82]; exact hr76
  have hr82_1 : R82 md 3 = some q15 := by rw [eR82, zupR_n hn82]; exact hr76_1
  have hr82_2 : R82 md 4 = some q23 := by rw [eR82, zupR_n hn82]; exact hr76_2
  have hr82_3 : R82 md 6 = some q31 := by rw [eR82, zupR_n hn82]; exact hr76_3
  have hr82_4 : R82 md 7 = some q39 := by rw [eR82, zupR_n hn82]; exact hr76_4
  have hr82_5 : R82 md 8 = some q48 := by rw [eR82, zupR_n hn82]; exact hr76_5
  have hr82_6 : R82 md 9 = some q56 := by rw [eR82, zupR_n hn82]; exact hr76_6
  have hr82_7 : R82 md 10 = some q64 := by rw [eR82, zupR_n hn82]; exact hr76_7
  have hr82_8 : R82 md 11 = some q73 := by rw [eR82, zupR_n hn82]; exact hr76_8
  refine zputRF (pc := 84) hx hb hG hown hw hk82 (T := TX9) (ty := .array .int) rfl 17 (by decide) rfl wf_X9_39 rfl (by decide +kernel) rfl rfl rfl hname rfl dX9_init_84 (fun H locs hw => ?_)
  obtain ⟨R84, eR84⟩ : ∃ Y : zR, Y = up2 R82 md 17 (some q82) := ⟨_, rfl⟩
  rw [← eR84] at hw
  have hr84 : R84 md 2 = some q7 := by rw [eR84, up2_k (by first | decide | omega)]; exact hr82
  have hr84_1 : R84 md 3 = some q15 := by rw [eR84, up2_k (by first | decide | omega)]; exact hr82_1
  have hr84_2 : R84 md 4 = some q23 := by rw [eR84, up2_k (by first | decide | omega)]; exact hr82_2
  have hr84_3 : R84 md 6 = some q31 := by rw [eR84, up2_k (by first | decide | omega)]; exact hr82_3
  have hr84_4 : R84 md 7 = some q39 := by rw [eR84, up2_k (by first | decide | omega)]; exact hr82_4
  have hr84_5 : R84 md 8 = some q48 := by rw [eR84, up2_k (by first | decide | omega)]; exact hr82_5
  have hr84_6 : R84 md 9 = some q56 := by rw [eR84, up2_k (by first | decide | omega)]; exact hr82_6
  have hr84_7 : R84 md 10 = some q64 := by rw [eR84, up2_k (by first | decide | omega)]; exact hr82_7
  have hr84_8 : R84 md 11 = some q73 := by rw [eR84, up2_k (by first | decide | omega)]; exact hr82_8
  have hr84_9 : R84 md 17 = some q82 := by rw [eR84]; exact up2_s
  refine lv_aload_n (pc := 87) hx hb dX9_init_87 rfl (lv_at hl 0 rfl) ?_
  refine zbipush (pc := 88) (n := 24) hx hb dX9_init_88 rfl ?_
  refine znewi (pc := 90) hx hb hG hw wa_int ⟨by omega, by omega⟩ (by show 0 + 1 + 1 + 1 + 1 + 1 + 1 + 1 + 1 + 1 + 1 + 1 ≤ 20; omega) (by show 0 + 24 + 24 + 24 + 6 + 6 + 216 + 6 + 6 + 6 + 66 + 24 ≤ 77958; omega) dX9_init_90 (fun q90 H hfq90 hw => ?_)
  obtain ⟨K90, eK90⟩ : ∃ Y : zK, Y = zup K82 q90 (2, 24) := ⟨_, rfl⟩
  obtain ⟨X90, eX90⟩ : ∃ Y : zX, Y = zupX X82 q90 := ⟨_, rfl⟩
  obtain ⟨R90, eR90⟩ : ∃ Y : zR, Y = zupR R84 q90 := ⟨_, rfl⟩
  replace hw := Wd.re hw eK90 eX90 eR90
  have hk90 : K90 md = (1, 8) := by rw [eK90]; exact zup_k hfq90 hk82 (Nat.succ_ne_zero _)
  have hn90 : Apt md q90 := zne hk82 hfq90
  have hk90_1 : K90 q7 = (2, 24) := by rw [eK90]; exact zup_k hfq90 hk82_1 (Nat.succ_ne_zero _)
  have hn90_1 : Apt q7 q90 := zne hk82_1 hfq90
  have hk90_2 : K90 q15 = (2, 24) := by rw [eK90]; exact zup_k hfq90 hk82_2 (Nat.succ_ne_zero _)
  have hn90_2 : Apt q15 q90 := zne hk82_2 hfq90
  have hk90_3 : K90 q23 = (2, 24) := by rw [eK90]; exact zup_k hfq90 hk82_3 (Nat.succ_ne_zero _)
  have hn90_3 : Apt q23 q90 := zne hk82_3 hfq90
  have hk90_4 : K90 q31 = (2, 6) := by rw [eK90]; exact zup_k hfq90 hk82_4 (Nat.succ_ne_zero _)
  have hn90_4 : Apt q31 q90 := zne hk82_4 hfq90
  have hk90_5 : K90 q39 = (2, 6) := by rw [eK90]; exact zup_k hfq90 hk82_5 (Nat.succ_ne_zero _)
  have hn90_5 : Apt q39 q90 := zne hk82_5 hfq90
  have hk90_6 : K90 q48 = (2, 216) := by rw [eK90]; exact zup_k hfq90 hk82_6 (Nat.succ_ne_zero _)
  have hn90_6 : Apt q48 q90 := zne hk82_6 hfq90
  have hk90_7 : K90 q56 = (2, 6) := by rw [eK90]; exact zup_k hfq90 hk82_7 (Nat.succ_ne_zero _)
  have hn90_7 : Apt q56 q90 := zne hk82_7 hfq90
  have hk90_8 : K90 q64 = (11, 6) := by rw [eK90]; exact zup_k hfq90 hk82_8 (Nat.succ_ne_zero _)
  have hn90_8 : Apt q64 q90 := zne hk82_8 hfq90
  have hk90_9 : K90 q73 = (11, 6) := by rw [eK90]; exact zup_k hfq90 hk82_9 (Nat.succ_ne_zero _)
  have hn90_9 : Apt q73 q90 := zne hk82_9 hfq90
  have hk90_10 : K90 q82 = (2, 66) := by rw [eK90]; exact zup_k hfq90 hk82_10 (Nat.succ_ne_zero _)
  have hn90_10 : Apt q82 q90 := zne hk82_10 hfq90
  have hk90_11 : K90 q90 = (2, 24) := by rw [eK90]; exact zup_s
  have hr90 : R90 md 2 = some q7 := by rw [eR90, zupR_n hn90]; exact hr84
  have hr90_1 : R90 md 3 = some q15 := by rw [eR90, zupR_n hn90]; exact hr84_1
  have hr90_2 : R90 md 4 = some q23 := by rw [eR90, zupR_n hn90]; exact hr84_2
  have hr90_3 : R90 md 6 = some q31 := by rw [eR90, zupR_n hn90]; exact hr84_3
  have hr90_4 : R90 md 7 = some q39 := by rw [eR90, zupR_n hn90]; exact hr84_4
  have hr90_5 : R90 md 8 = some q48 := by rw [eR90, zupR_n hn90]; exact hr84_5
  have hr90_6 : R90 md 9 = some q56 := by rw [eR90, zupR_n hn90]; exact hr84_6
  have hr90_7 : R90 md 10 = some q64 := by rw [eR90, zupR_n hn90]; exact hr84_7
  have hr90_8 : R90 md 11 = some q73 := by rw [eR90, zupR_n hn90]; exact hr84_8
  have hr90_9 : R90 md 17 = some q82 := by rw [eR90, zupR_n hn90]; exact hr84_9
  refine zputRF (pc := 92) hx hb hG hown hw hk90 (T := TX9) (ty := .array .int) rfl 18 (by decide) rfl wf_X9_42 rfl (by decide +kernel) rfl rfl rfl hname rfl dX9_init_92 (fun H locs hw => ?_)
  obtain ⟨R92, eR92⟩ : ∃ Y : zR, Y = up2 R90 md 18 (some q90) := ⟨_, rfl⟩
  rw [← eR92] at hw
  have hr92 : R92 md 2 = some q7 := by rw [eR92, up2_k (by first | decide | omega)]; exact hr90
  have hr92_1 : R92 md 3 = some q15 := by rw [eR92, up2_k (by first | decide | omega)]; exact hr90_1
  have hr92_2 : R92 md 4 = some q23 := by rw [eR92, up2_k (by first | decide | omega)]; exact hr90_2
  have hr92_3 : R92 md 6 = some q31 := by rw [eR92, up2_k (by first | decide | omega)]; exact hr90_3
  have hr92_4 : R92 md 7 = some q39 := by rw [eR92, up2_k (by first | decide | omega)]; exact hr90_4
  have hr92_5 : R92 md 8 = some q48 := by rw [eR92, up2_k (by first | decide | omega)]; exact hr90_5
  have hr92_6 : R92 md 9 = some q56 := by rw [eR92, up2_k (by first | decide | omega)]; exact hr90_6
  have hr92_7 : R92 md 10 = some q64 := by rw [eR92, up2_k (by first | decide | omega)]; exact hr90_7
  have hr92_8 : R92 md 11 = some q73 := by rw [eR92, up2_k (by first | decide | omega)]; exact hr90_8
  have hr92_9 : R92 md 17 = some q82 := by rw [eR92, up2_k (by first | decide | omega)]; exact hr90_9
  have hr92_10 : R92 md 18 = some q90 := by rw [eR92]; exact up2_s
  refine lv_aload_n (pc := 95) hx hb dX9_init_95 rfl (lv_at hl 0 rfl) ?_
  refine zbipush (pc := 96) (n := 48) hx hb dX9_init_96 rfl ?_
  refine znewi (pc := 98) hx hb hG hw wa_int ⟨by omega, by omega⟩ (by show 0 + 1 + 1 + 1 + 1 + 1 + 1 + 1 + 1 + 1 + 1 + 1 + 1 ≤ 20; omega) (by show 0 + 24 + 24 + 24 + 6 + 6 + 216 + 6 + 6 + 6 + 66 + 24 + 48 ≤ 77958; omega) dX9_init_98 (fun q98 H hfq98 hw => ?_)
  obtain ⟨K98, eK98⟩ : ∃ Y : zK, Y = zup K90 q98 (2, 48) := ⟨_, rfl⟩
  obtain ⟨X98, eX98⟩ : ∃ Y : zX, Y = zupX X90 q98 := ⟨_, rfl⟩
  obtain ⟨R98, eR98⟩ : ∃ Y : zR, Y = zupR R92 q98 := ⟨_, rfl⟩
  replace hw := Wd.re hw eK98 eX98 eR98
  have hk98 : K98 md = (1, 8) := by rw [eK98]; exact zup_k hfq98 hk90 (Nat.succ_ne_zero _)
  have hn98 : Apt md q98 := zne hk90 hfq98
  have hk98_1 : K98 q7 = (2, 24) := by rw [eK98]; exact zup_k hfq98 hk90_1 (Nat.succ_ne_zero _)
  have hn98_1 : Apt q7 q98 := zne hk90_1 hfq98
  have hk98_2 : K98 q15 = (2, 24) := by rw [eK98]; exact zup_k hfq98 hk90_2 (Nat.succ_ne_zero _)
  have hn98_2 : Apt q15 q98 := zne hk90_2 hfq98
  have hk98_3 : K98 q23 = (2, 24) := by rw [eK98]; exact zup_k hfq98 hk90_3 (Nat.succ_ne_zero _)
  have hn98_3 : Apt q23 q98 := zne hk90_3 hfq98
  have hk98_4 : K98 q31 = (2, 6) := by rw [eK98]; exact zup_k hfq98 hk90_4 (Nat.succ_ne_zero _)
  have hn98_4 : Apt q31 q98 := zne hk90_4 hfq98
  have hk98_5 : K98 q39 = (2, 6) := by rw [eK98]; exact zup_k hfq98 hk90_5 (Nat.succ_ne_zero _)
  have hn98_5 : Apt q39 q98 := zne hk90_5 hfq98
  have hk98_6 : K98 q48 = (2, 216) := by rw [eK98]; exact zup_k hfq98 hk90_6 (Nat.succ_ne_zero _)
  have hn98_6 : Apt q48 q98 := zne hk90_6 hfq98
  have hk98_7 : K98 q56 = (2, 6) := by rw [eK98]; exact zup_k hfq98 hk90_7 (Nat.succ_ne_zero _)
  have hn98_7 : Apt q56 q98 := zne hk90_7 hfq98
  have hk98_8 : K98 q64 = (11, 6) := by rw [eK98]; exact zup_k hfq98 hk90_8 (Nat.succ_ne_zero _)
  have hn98_8 : Apt q64 q98 := zne hk90_8 hfq98
  have hk98_9 : K98 q73 = (11, 6) := by rw [eK98]; exact zup_k hfq98 hk90_9 (Nat.succ_ne_zero _)
  have hn98_9 : Apt q73 q98 := zne hk90_9 hfq98
  have hk98_10 : K98 q82 = (2, 66) := by rw [eK98]; exact zup_k hfq98 hk90_10 (Nat.succ_ne_zero _)
  have hn98_10 : Apt q82 q98 := zne hk90_10 hfq98
  have hk98_11 : K98 q90 = (2, 24) := by rw [eK98]; exact zup_k hfq98 hk90_11 (Nat.succ_ne_zero _)
  have hn98_11 : Apt q90 q98 := zne hk90_11 hfq98
  have hk98_12 : K98 q98 = (2, 48) := by rw [eK98]; exact zup_s
  have hr98 : R98 md 2 = some q7 := by rw [eR98, zupR_n hn98]; exact hr92
  have hr98_1 : R98 md 3 = some q15 := by rw [eR98, zupR_n hn98]; exact hr92_1
  have hr98_2 : R98 md 4 = some q23 := by rw [eR98, zupR_n hn98]; exact hr92_2
  have hr98_3 : R98 md 6 = some q31 := by rw [eR98, zupR_n hn98]; exact hr92_3
  have hr98_4 : R98 md 7 = some q39 := by rw [eR98, zupR_n hn98]; exact hr92_4
  have hr98_5 : R98 md 8 = some q48 := by rw [eR98, zupR_n hn98]; exact hr92_5
  have hr98_6 : R98 md 9 = some q56 := by rw [eR98, zupR_n hn98]; exact hr92_6
  have hr98_7 : R98 md 10 = some q64 := by rw [eR98, zupR_n hn98]; exact hr92_7
  have hr98_8 : R98 md 11 = some q73 := by rw [eR98, zupR_n hn98]; exact hr92_8
  have hr98_9 : R98 md 17 = some q82 := by rw [eR98, zupR_n hn98]; exact hr92_9
  have hr98_10 : R98 md 18 = some q90 := by rw [eR98, zupR_n hn98]; exact hr92_10
  refine zputRF (pc := 100) hx hb hG hown hw hk98 (T := TX9) (ty := .array .int) rfl 19 (by decide) rfl wf_X9_45 rfl (by decide +kernel) rfl rfl rfl hname rfl dX9_init_100 (fun H locs hw => ?_)
  obtain ⟨R100, eR100⟩ : ∃ Y : zR, Y = up2 R98 md 19 (some q98) := ⟨_, rfl⟩
  rw [← eR100] at hw
  have hr100 : R100 md 2 = some q7 := by rw [eR100, up2_k (by first | decide | omega)]; exact hr98
  have hr100_1 : R100 md 3 = some q15 := by rw [eR100, up2_k (by first | decide | omega)]; exact hr98_1
  have hr100_2 : R100 md 4 = some q23 := by rw [eR100, up2_k (by first | decide | omega)]; exact hr98_2
  have hr100_3 : R100 md 6 = some q31 := by rw [eR100, up2_k (by first | decide | omega)]; exact hr98_3
  have hr100_4 : R100 md 7 = some q39 := by rw [eR100, up2_k (by first | decide | omega)]; exact hr98_4
  have hr100_5 : R100 md 8 = some q48 := by rw [eR100, up2_k (by first | decide | omega)]; exact hr98_5
  have hr100_6 : R100 md 9 = some q56 := by rw [eR100, up2_k (by first | decide | omega)]; exact hr98_6
  have hr100_7 : R100 md 10 = some q64 := by rw [eR100, up2_k (by first | decide | omega)]; exact hr98_7
  have hr100_8 : R100 md 11 = some q73 := by rw [eR100, up2_k (by first | decide | omega)]; exact hr98_8
  have hr100_9 : R100 md 17 = some q82 := by rw [eR100, up2_k (by first | decide | omega)]; exact hr98_9
  have hr100_10 : R100 md 18 = some q90 := by rw [eR100, up2_k (by first | decide | omega)]; exact hr98_10
  have hr100_11 : R100 md 19 = some q98 := by rw [eR100]; exact up2_s
  refine lv_aload_n (pc := 103) hx hb dX9_init_103 rfl (lv_at hl 0 rfl) ?_
  refine zsipush (pc := 104) (n := 366) hx hb dX9_init_104 rfl ?_
  refine znewi (pc := 107) hx hb hG hw wa_int ⟨by omega, by omega⟩ (by show 0 + 1 + 1 + 1 + 1 + 1 + 1 + 1 + 1 + 1 + 1 + 1 + 1 + 1 ≤ 20; omega) (by show 0 + 24 + 24 + 24 + 6 + 6 + 216 + 6 + 6 + 6 + 66 + 24 + 48 + 366 ≤ 77958; omega) dX9_init_107 (fun q107 H hfq107 hw => ?_)
  obtain ⟨K107, eK107⟩ : ∃ Y : zK, Y = zup K98 q107 (2, 366) := ⟨_, rfl⟩
  obtain ⟨X107, eX107⟩ : ∃ Y : zX, Y = zupX X98 q107 := ⟨_, rfl⟩
  obtain ⟨R107, eR107⟩ : ∃ Y : zR, Y = zupR R100 q107 := ⟨_, rfl⟩
  replace hw := Wd.re hw eK107 eX107 eR107
  have hk107 : K107 md = (1, 8) := by rw [eK107]; exact zup_k hfq107 hk98 (Nat.succ_ne_zero _)
  have hn107 : Apt md q107 := zne hk98 hfq107
  have hk107_1 : K107 q7 = (2, 24) := by rw [eK107]; exact zup_k hfq107 hk98_1 (Nat.succ_ne_zero _)
  have hn107_1 : Apt q7 q107 := zne hk98_1 hfq107
  have hk107_2 : K107 q15 = (2, 24) := by rw [eK107]; exact zup_k hfq107 hk98_2 (Nat.succ_ne_zero _)
  have hn107_2 : Apt q15 q107 := zne hk98_2 hfq107
  have hk107_3 : K107 q23 = (2, 24) := by rw [eK107]; exact zup_k hfq107 hk98_3 (Nat.succ_ne_zero _)
  have hn107_3 : Apt q23 q107 := zne hk98_3 hfq107
  have hk107_4 : K107 q31 = (2, 6) := by rw [eK107]; exact zup_k hfq107 hk98_4 (Nat.succ_ne_zero _)
  have hn107_4 : Apt q31 q107 := zne hk98_4 hfq107
  have hk107_5 : K107 q39 = (2, 6) := by rw [eK107]; exact zup_k hfq107 hk98_5 (Nat.succ_ne_zero _)
  have hn107_5 : Apt q39 q107 := zne hk98_5 hfq107
  have hk107_6 : K107 q48 = (2, 216) := by rw [eK107]; exact zup_k hfq107 hk98_6 (Nat.succ_ne_zero _)
  have hn107_6 : Apt q48 q107 := zne hk98_6 hfq107
  have hk107_7 : K107 q56 = (2, 6) := by rw [eK107]; exact zup_k hfq107 hk98_7 (Nat.succ_ne_zero _)
  have hn107_7 : Apt q56 q107 := zne hk98_7 hfq107
  have hk107_8 : K107 q64 = (11, 6) := by rw [eK107]; exact zup_k hfq107 hk98_8 (Nat.succ_ne_zero _)
  have hn107_8 : Apt q64 q107 := zne hk98_8 hfq107
  have hk107_9 : K107 q73 = (11, 6) := by rw [eK107]; exact zup_k hfq107 hk98_9 (Nat.succ_ne_zero _)
  have hn107_9 : Apt q73 q107 := zne hk98_9 hfq107
  have hk107_10 : K107 q82 = (2, 66) := by rw [eK107]; exact zup_k hfq107 hk98_10 (Nat.succ_ne_zero _)
  have hn107_10 : Apt q82 q107 := zne hk98_10 hfq107
  have hk107_11 : K107 q90 = (2, 24) := by rw [eK107]; exact zup_k hfq107 hk98_11 (Nat.succ_ne_zero _)
  have hn107_11 : Apt q90 q107 := zne hk98_11 hfq107
  have hk107_12 : K107 q98 = (2, 48) := by rw [eK107]; exact zup_k hfq107 hk98_12 (Nat.succ_ne_zero _)
  have hn107_12 : Apt q98 q107 := zne hk98_12 hfq107
  have hk107_13 : K107 q107 = (2, 366) := by rw [eK107]; exact zup_s
  have hr107 : R107 md 2 = some q7 := by rw [eR107, zupR_n hn107]; exact hr100
  have hr107_1 : R107 md 3 = some q15 := by rw [eR107, zupR_n hn107]; exact hr100_1
  have hr107_2 : R107 md 4 = some q23 := by rw [eR107, zupR_n hn107]; exact hr100_2
  have hr107_3 : R107 md 6 = some q31 := by rw [eR107, zupR_n hn107]; exact hr100_3
  have hr107_4 : R107 md 7 = some q39 := by rw [eR107, zupR_n hn107]; exact hr100_4
  have hr107_5 : R107 md 8 = some q48 := by rw [eR107, zupR_n hn107]; exact hr100_5
  have hr107_6 : R107 md 9 = some q56 := by rw [eR107, zupR_n hn107]; exact hr100_6
  have hr107_7 : R107 md 10 = some q64 := by rw [eR107, zupR_n hn107]; exact hr100_7
  have hr107_8 : R107 md 11 = some q73 := by rw [eR107, zupR_n hn107]; exact hr100_8
  have hr107_9 : R107 md 17 = some q82 := by rw [eR107, zupR_n hn107]; exact hr100_9
  have hr107_10 : R107 md 18 = some q90 := by rw [eR107, zupR_n hn107]; exact hr100_10
  have hr107_11 : R107 md 19 = some q98 := by rw [eR107, zupR_n hn107]; exact hr100_11
  refine zputRF (pc := 109) hx hb hG hown hw hk107 (T := TX9) (ty := .array .int) rfl 20 (by decide) rfl wf_X9_48 rfl (by decide +kernel) rfl rfl rfl hname rfl dX9_init_109 (fun H locs hw => ?_)
  obtain ⟨R109, eR109⟩ : ∃ Y : zR, Y = up2 R107 md 20 (some q107) := ⟨_, rfl⟩
  rw [← eR109] at hw
  have hr109 : R109 md 2 = some q7 := by rw [eR109, up2_k (by first | decide | omega)]; exact hr107
  have hr109_1 : R109 md 3 = some q15 := by rw [eR109, up2_k (by first | decide | omega)]; exact hr107_1
  have hr109_2 : R109 md 4 = some q23 := by rw [eR109, up2_k (by first | decide | omega)]; exact hr107_2
  have hr109_3 : R109 md 6 = some q31 := by rw [eR109, up2_k (by first | decide | omega)]; exact hr107_3
  have hr109_4 : R109 md 7 = some q39 := by rw [eR109, up2_k (by first | decide | omega)]; exact hr107_4
  have hr109_5 : R109 md 8 = some q48 := by rw [eR109, up2_k (by first | decide | omega)]; exact hr107_5
  have hr109_6 : R109 md 9 = some q56 := by rw [eR109, up2_k (by first | decide | omega)]; exact hr107_6
  have hr109_7 : R109 md 10 = some q64 := by rw [eR109, up2_k (by first | decide | omega)]; exact hr107_7
  have hr109_8 : R109 md 11 = some q73 := by rw [eR109, up2_k (by first | decide | omega)]; exact hr107_8
  have hr109_9 : R109 md 17 = some q82 := by rw [eR109, up2_k (by first | decide | omega)]; exact hr107_9
  have hr109_10 : R109 md 18 = some q90 := by rw [eR109, up2_k (by first | decide | omega)]; exact hr107_10
  have hr109_11 : R109 md 19 = some q98 := by rw [eR109, up2_k (by first | decide | omega)]; exact hr107_11
  have hr109_12 : R109 md 20 = some q107 := by rw [eR109]; exact up2_s
  refine lv_aload_n (pc := 112) hx hb dX9_init_112 rfl (lv_at hl 0 rfl) ?_
  refine zbipush (pc := 113) (n := 6) hx hb dX9_init_113 rfl ?_
  refine znewq5 (pc := 115) hx hb hG hown hw wn_X9_31 ⟨by omega, by omega⟩ (by show 0 + 1 + 1 + 1 + 1 + 1 + 1 + 1 + 1 + 1 + 1 + 1 + 1 + 1 + 1 ≤ 20; omega) (by show 0 + 24 + 24 + 24 + 6 + 6 + 216 + 6 + 6 + 6 + 66 + 24 + 48 + 366 + 6 ≤ 77958; omega) dX9_init_115 (fun q115 H hfq115 hw => ?_)
  obtain ⟨K115, eK115⟩ : ∃ Y : zK, Y = zup K107 q115 (11, 6) := ⟨_, rfl⟩
  obtain ⟨X115, eX115⟩ : ∃ Y : zX, Y = zupX X107 q115 := ⟨_, rfl⟩
  obtain ⟨R115, eR115⟩ : ∃ Y : zR, Y = zupR R109 q115 := ⟨_, rfl⟩
  replace hw := Wd.re hw eK115 eX115 eR115
  have hk115 : K115 md = (1, 8) := by rw [eK115]; exact zup_k hfq115 hk107 (Nat.succ_ne_zero _)
  have hn115 : Apt md q115 := zne hk107 hfq115
  have hk115_1 : K115 q7 = (2, 24) := by rw [eK115]; exact zup_k hfq115 hk107_1 (Nat.succ_ne_zero _)
  have hn115_1 : Apt q7 q115 := zne hk107_1 hfq115
  have hk115_2 : K115 q15 = (2, 24) := by rw [eK115]; exact zup_k hfq115 hk107_2 (Nat.succ_ne_zero _)
  have hn115_2 : Apt q15 q115 := zne hk107_2 hfq115
  have hk115_3 : K115 q23 = (2, 24) := by rw [eK115]; exact zup_k hfq115 hk107_3 (Nat.succ_ne_zero _)
  have hn115_3 : Apt q23 q115 := zne hk107_3 hfq115
  have hk115_4 : K115 q31 = (2, 6) := by rw [eK115]; exact zup_k hfq115 hk107_4 (Nat.succ_ne_zero _)
  have hn115_4 : Apt q31 q115 := zne hk107_4 hfq115
  have hk115_5 : K115 q39 = (2, 6) := by rw [eK115]; exact zup_k hfq115 hk107_5 (Nat.succ_ne_zero _)
  have hn115_5 : Apt q39 q115 := zne hk107_5 hfq115
  have hk115_6 : K115 q48 = (2, 216) := by rw [eK115]; exact zup_k hfq115 hk107_6 (Nat.succ_ne_zero _)
  have hn115_6 : Apt q48 q115 := zne hk107_6 hfq115
  have hk115_7 : K115 q56 = (2, 6) := by rw [eK115]; exact zup_k hfq115 hk107_7 (Nat.succ_ne_zero _)
  have hn115_7 : Apt q56 q115 := zne hk107_7 hfq115
  have hk115_8 : K115 q64 = (11, 6) := by rw [eK115]; exact zup_k hfq115 hk107_8 (Nat.succ_ne_zero _)
  have hn115_8 : Apt q64 q115 := zne hk107_8 hfq115
  have hk115_9 : K115 q73 = (11, 6) := by rw [eK115]; exact zup_k hfq115 hk107_9 (Nat.succ_ne_zero _)
  have hn115_9 : Apt q73 q115 := zne hk107_9 hfq115
  have hk115_10 : K115 q82 = (2, 66) := by rw [eK115]; exact zup_k hfq115 hk107_10 (Nat.succ_ne_zero _)
  have hn115_10 : Apt q82 q115 := zne hk107_10 hfq115
  have hk115_11 : K115 q90 = (2, 24) := by rw [eK115]; exact zup_k hfq115 hk107_11 (Nat.succ_ne_zero _)
  have hn115_11 : Apt q90 q115 := zne hk107_11 hfq115
  have hk115_12 : K115 q98 = (2, 48) := by rw [eK115]; exact zup_k hfq115 hk107_12 (Nat.succ_ne_zero _)
  have hn115_12 : Apt q98 q115 := zne hk107_12 hfq115
  have hk115_13 : K115 q107 = (2, 366) := by rw [eK115]; exact zup_k hfq115 hk107_13 (Nat.succ_ne_zero _)
  have hn115_13 : Apt q107 q115 := zne hk107_13 hfq115
  have hk115_14 : K115 q115 = (11, 6) := by rw [eK115]; exact zup_s
  have hr115 : R115 md 2 = some q7 := by rw [eR115, zupR_n hn115]; exact hr109
  have hr115_1 : R115 md 3 = some q15 := by rw [eR115, zupR_n hn115]; exact hr109_1
  have hr115_2 : R115 md 4 = some q23 := by rw [eR115, zupR_n hn115]; exact hr109_2
  have hr115_3 : R115 md 6 = some q31 := by rw [eR115, zupR_n hn115]; exact hr109_3
  have hr115_4 : R115 md 7 = some q39 := by rw [eR115, zupR_n hn115]; exact hr109_4
  have hr115_5 : R115 md 8 = some q48 := by rw [eR115, zupR_n hn115]; exact hr109_5
  have hr115_6 : R115 md 9 = some q56 := by rw [eR115, zupR_n hn115]; exact hr109_6
  have hr115_7 : R115 md 10 = some q64 := by rw [eR115, zupR_n hn115]; exact hr109_7
  have hr115_8 : R115 md 11 = some q73 := by rw [eR115, zupR_n hn115]; exact hr109_8
  have hr115_9 : R115 md 17 = some q82 := by rw [eR115, zupR_n hn115]; exact hr109_9
  have hr115_10 : R115 md 18 = some q90 := by rw [eR115, zupR_n hn115]; exact hr109_10
  have hr115_11 : R115 md 19 = some q98 := by rw [eR115, zupR_n hn115]; exact hr109_11
  have hr115_12 : R115 md 20 = some q107 := by rw [eR115, zupR_n hn115]; exact hr109_12
  refine zputRF (pc := 118) hx hb hG hown hw hk115 (T := TX9) (ty := .array (.array .int)) rfl 22 (by decide) rfl wf_X9_51 rfl (by decide +kernel) rfl rfl rfl hname rfl dX9_init_118 (fun H locs hw => ?_)
  obtain ⟨R118, eR118⟩ : ∃ Y : zR, Y = up2 R115 md 22 (some q115) := ⟨_, rfl⟩
  rw [← eR118] at hw
  have hr118 : R118 md 2 = some q7 := by rw [eR118, up2_k (by first | decide | omega)]; exact hr115
  have hr118_1 : R118 md 3 = some q15 := by rw [eR118, up2_k (by first | decide | omega)]; exact hr115_1
  have hr118_2 : R118 md 4 = some q23 := by rw [eR118, up2_k (by first | decide | omega)]; exact hr115_2
  have hr118_3 : R118 md 6 = some q31 := by rw [eR118, up2_k (by first | decide | omega)]; exact hr115_3
  have hr118_4 : R118 md 7 = some q39 := by rw [eR118, up2_k (by first | decide | omega)]; exact hr115_4
  have hr118_5 : R118 md 8 = some q48 := by rw [eR118, up2_k (by first | decide | omega)]; exact hr115_5
  have hr118_6 : R118 md 9 = some q56 := by rw [eR118, up2_k (by first | decide | omega)]; exact hr115_6
  have hr118_7 : R118 md 10 = some q64 := by rw [eR118, up2_k (by first | decide | omega)]; exact hr115_7
  have hr118_8 : R118 md 11 = some q73 := by rw [eR118, up2_k (by first | decide | omega)]; exact hr115_8
  have hr118_9 : R118 md 17 = some q82 := by rw [eR118, up2_k (by first | decide | omega)]; exact hr115_9
  have hr118_10 : R118 md 18 = some q90 := by rw [eR118, up2_k (by first | decide | omega)]; exact hr115_10
  have hr118_11 : R118 md 19 = some q98 := by rw [eR118, up2_k (by first | decide | omega)]; exact hr115_11
  have hr118_12 : R118 md 20 = some q107 := by rw [eR118, up2_k (by first | decide | omega)]; exact hr115_12
  have hr118_13 : R118 md 22 = some q115 := by rw [eR118]; exact up2_s
  refine lv_aload_n (pc := 121) hx hb dX9_init_121 rfl (lv_at hl 0 rfl) ?_
  refine zsipush (pc := 122) (n := 4001) hx hb dX9_init_122 rfl ?_
  refine znewi (pc := 125) hx hb hG hw wa_int ⟨by omega, by omega⟩ (by show 0 + 1 + 1 + 1 + 1 + 1 + 1 + 1 + 1 + 1 + 1 + 1 + 1 + 1 + 1 + 1 ≤ 20; omega) (by show 0 + 24 + 24 + 24 + 6 + 6 + 216 + 6 + 6 + 6 + 66 + 24 + 48 + 366 + 6 + 4001 ≤ 77958; omega) dX9_init_125 (fun q125 H hfq125 hw => ?_)
  obtain ⟨K125, eK125⟩ : ∃ Y : zK, Y = zup K115 q125 (2, 4001) := ⟨_, rfl⟩
  obtain ⟨X125, eX125⟩ : ∃ Y : zX, Y = zupX X115 q125 := ⟨_, rfl⟩
  obtain ⟨R125, eR125⟩ : ∃ Y : zR, Y = zupR R118 q125 := ⟨_, rfl⟩
  replace hw := Wd.re hw eK125 eX125 eR125
  have hk125 : K125 md = (1, 8) := by rw [eK125]; exact zup_k hfq125 hk115 (Nat.succ_ne_zero _)
  have hn125 : Apt md q125 := zne hk115 hfq125
  have hk125_1 : K125 q7 = (2, 24) := by rw [eK125]; exact zup_k hfq125 hk115_1 (Nat.succ_ne_zero _)
  have hn125_1 : Apt q7 q125 := zne hk115_1 hfq125
  have hk125_2 : K125 q15 = (2, 24) := by rw [eK125]; exact zup_k hfq125 hk115_2 (Nat.succ_ne_zero _)
  have hn125_2 : Apt q15 q125 := zne hk115_2 hfq125
  have hk125_3 : K125 q23 = (2, 24) := by rw [eK125]; exact zup_k hfq125 hk115_3 (Nat.succ_ne_zero _)
  have hn125_3 : Apt q23 q125 := zne hk115_3 hfq125
  have hk125_4 : K125 q31 = (2, 6) := by rw [eK125]; exact zup_k hfq125 hk115_4 (Nat.succ_ne_zero _)
  have hn125_4 : Apt q31 q125 := zne hk115_4 hfq125
  have hk125_5 : K125 q39 = (2, 6) := by rw [eK125]; exact zup_k hfq125 hk115_5 (Nat.succ_ne_zero _)
  have hn125_5 : Apt q39 q125 := zne hk115_5 hfq125
  have hk125_6 : K125 q48 = (2, 216) := by rw [eK125]; exact zup_k hfq125 hk115_6 (Nat.succ_ne_zero _)
  have hn125_6 : Apt q48 q125 := zne hk115_6 hfq125
  have hk125_7 : K125 q56 = (2, 6) := by rw [eK125]; exact zup_k hfq125 hk115_7 (Nat.succ_ne_zero _)
  have hn125_7 : Apt q56 q125 := zne hk115_7 hfq125
  have hk125_8 : K125 q64 = (11, 6) := by rw [eK125]; exact zup_k hfq125 hk115_8 (Nat.succ_ne_zero _)
  have hn125_8 : Apt q64 q125 := zne hk115_8 hfq125
  have hk125_9 : K125 q73 = (11, 6) := by rw [eK125]; exact zup_k hfq125 hk115_9 (Nat.succ_ne_zero _)
  have hn125_9 : Apt q73 q125 := zne hk115_9 hfq125
  have hk125_10 : K125 q82 = (2, 66) := by rw [eK125]; exact zup_k hfq125 hk115_10 (Nat.succ_ne_zero _)
  have hn125_10 : Apt q82 q125 := zne hk115_10 hfq125
  have hk125_11 : K125 q90 = (2, 24) := by rw [eK125]; exact zup_k hfq125 hk115_11 (Nat.succ_ne_zero _)
  have hn125_11 : Apt q90 q125 := zne hk115_11 hfq125
  have hk125_12 : K125 q98 = (2, 48) := by rw [eK125]; exact zup_k hfq125 hk115_12 (Nat.succ_ne_zero _)
  have hn125_12 : Apt q98 q125 := zne hk115_12 hfq125
  have hk125_13 : K125 q107 = (2, 366) := by rw [eK125]; exact zup_k hfq125 hk115_13 (Nat.succ_ne_zero _)
  have hn125_13 : Apt q107 q125 := zne hk115_13 hfq125
  have hk125_14 : K125 q115 = (11, 6) := by rw [eK125]; exact zup_k hfq125 hk115_14 (Nat.succ_ne_zero _)
  have hn125_14 : Apt q115 q125 := zne hk115_14 hfq125
  have hk125_15 : K125 q125 = (2, 4001) := by rw [eK125]; exact zup_s
  have hr125 : R125 md 2 = some q7 := by rw [eR125, zupR_n hn125]; exact hr118
  have hr125_1 : R125 md 3 = some q15 := by rw [eR125, zupR_n hn125]; exact hr118_1
  have hr125_2 : R125 md 4 = some q23 := by rw [eR125, zupR_n hn125]; exact hr118_2
  have hr125_3 : R125 md 6 = some q31 := by rw [eR125, zupR_n hn125]; exact hr118_3
  have hr125_4 : R125 md 7 = some q39 := by rw [eR125, zupR_n hn125]; exact hr118_4
  have hr125_5 : R125 md 8 = some q48 := by rw [eR125, zupR_n hn125]; exact hr118_5
  have hr125_6 : R125 md 9 = some q56 := by rw [eR125, zupR_n hn125]; exact hr118_6
  have hr125_7 : R125 md 10 = some q64 := by rw [eR125, zupR_n hn125]; exact hr118_7
  have hr125_8 : R125 md 11 = some q73 := by rw [eR125, zupR_n hn125]; exact hr118_8
  have hr125_9 : R125 md 17 = some q82 := by rw [eR125, zupR_n hn125]; exact hr118_9
  have hr125_10 : R125 md 18 = some q90 := by rw [eR125, zupR_n hn125]; exact hr118_10
  have hr125_11 : R125 md 19 = some q98 := by rw [eR125, zupR_n hn125]; exact hr118_11
  have hr125_12 : R125 md 20 = some q107 := by rw [eR125, zupR_n hn125]; exact hr118_12
  have hr125_13 : R125 md 22 = some q115 := by rw [eR125, zupR_n hn125]; exact hr118_13
  refine zputRF (pc := 127) hx hb hG hown hw hk125 (T := TX9) (ty := .array .int) rfl 23 (by decide) rfl wf_X9_54 rfl (by decide +kernel) rfl rfl rfl hname rfl dX9_init_127 (fun H locs hw => ?_)
  obtain ⟨R127, eR127⟩ : ∃ Y : zR, Y = up2 R125 md 23 (some q125) := ⟨_, rfl⟩
  rw [← eR127] at hw
  have hr127 : R127 md 2 = some q7 := by rw [eR127, up2_k (by first | decide | omega)]; exact hr125
  have hr127_1 : R127 md 3 = some q15 := by rw [eR127, up2_k (by first | decide | omega)]; exact hr125_1
  have hr127_2 : R127 md 4 = some q23 := by rw [eR127, up2_k (by first | decide | omega)]; exact hr125_2
  have hr127_3 : R127 md 6 = some q31 := by rw [eR127, up2_k (by first | decide | omega)]; exact hr125_3
  have hr127_4 : R127 md 7 = some q39 := by rw [eR127, up2_k (by first | decide | omega)]; exact hr125_4
  have hr127_5 : R127 md 8 = some q48 := by rw [eR127, up2_k (by first | decide | omega)]; exact hr125_5
  have hr127_6 : R127 md 9 = some q56 := by rw [eR127, up2_k (by first | decide | omega)]; exact hr125_6
  have hr127_7 : R127 md 10 = some q64 := by rw [eR127, up2_k (by first | decide | omega)]; exact hr125_7
  have hr127_8 : R127 md 11 = some q73 := by rw [eR127, up2_k (by first | decide | omega)]; exact hr125_8
  have hr127_9 : R127 md 17 = some q82 := by rw [eR127, up2_k (by first | decide | omega)]; exact hr125_9
  have hr127_10 : R127 md 18 = some q90 := by rw [eR127, up2_k (by first | decide | omega)]; exact hr125_10
  have hr127_11 : R127 md 19 = some q98 := by rw [eR127, up2_k (by first | decide | omega)]; exact hr125_11
  have hr127_12 : R127 md 20 = some q107 := by rw [eR127, up2_k (by first | decide | omega)]; exact hr125_12
  have hr127_13 : R127 md 22 = some q115 := by rw [eR127, up2_k (by first | decide | omega)]; exact hr125_13
  have hr127_14 : R127 md 23 = some q125 := by rw [eR127]; exact up2_s
  refine lv_aload_n (pc := 130) hx hb dX9_init_130 rfl (lv_at hl 0 rfl) ?_
  refine ziconst (pc := 131) (n := (-1)) hx hb dX9_init_131 ?_
  refine zputI (pc := 132) hx hb hG hown hw hk125 (T := TX9) rfl 25 (by decide) rfl wf_X9_57 rfl (by decide +kernel) rfl dX9_init_132 (fun H locs hw => ?_)
  obtain ⟨X132, eX132⟩ : ∃ Y : zX, Y = up2 X125 md 25 (-1) := ⟨_, rfl⟩
  rw [← eX132] at hw
  refine lv_aload_n (pc := 135) hx hb dX9_init_135 rfl (lv_at hl 0 rfl) ?_
  refine zbipush (pc := 136) (n := 31) hx hb dX9_init_136 rfl ?_
  refine zputI (pc := 138) hx hb hG hown hw hk125 (T := TX9) rfl 26 (by decide) rfl wf_X9_61 rfl (by decide +kernel) rfl dX9_init_138 (fun H locs hw => ?_)
  obtain ⟨X138, eX138⟩ : ∃ Y : zX, Y = up2 X132 md 26 31 := ⟨_, rfl⟩
  rw [← eX138] at hw
  refine lv_aload_n (pc := 141) hx hb dX9_init_141 rfl (lv_at hl 0 rfl) ?_
  refine zsipush (pc := 142) (n := 540) hx hb dX9_init_142 rfl ?_
  refine zputI (pc := 145) hx hb hG hown hw hk125 (T := TX9) rfl 27 (by decide) rfl wf_X9_64 rfl (by decide +kernel) rfl dX9_init_145 (fun H locs hw => ?_)
  obtain ⟨X145, eX145⟩ : ∃ Y : zX, Y = up2 X138 md 27 540 := ⟨_, rfl⟩
  rw [← eX145] at hw
  refine lv_aload_n (pc := 148) hx hb dX9_init_148 rfl (lv_at hl 0 rfl) ?_
  refine zsipush (pc := 149) (n := 1020) hx hb dX9_init_149 rfl ?_
  refine zputI (pc := 152) hx hb hG hown hw hk125 (T := TX9) rfl 28 (by decide) rfl wf_X9_67 rfl (by decide +kernel) rfl dX9_init_152 (fun H locs hw => ?_)
  obtain ⟨X152, eX152⟩ : ∃ Y : zX, Y = up2 X145 md 28 1020 := ⟨_, rfl⟩
  rw [← eX152] at hw
  refine lv_aload_n (pc := 155) hx hb dX9_init_155 rfl (lv_at hl 0 rfl) ?_
  refine zbipush (pc := 156) (n := 20) hx hb dX9_init_156 rfl ?_
  refine znewi (pc := 158) hx hb hG hw wa_int ⟨by omega, by omega⟩ (by show 0 + 1 + 1 + 1 + 1 + 1 + 1 + 1 + 1 + 1 + 1 + 1 + 1 + 1 + 1 + 1 + 1 ≤ 20; omega) (by show 0 + 24 + 24 + 24 + 6 + 6 + 216 + 6 + 6 + 6 + 66 + 24 + 48 + 366 + 6 + 4001 + 20 ≤ 77958; omega) dX9_init_158 (fun q158 H hfq158 hw => ?_)
  obtain ⟨K158, eK158⟩ : ∃ Y : zK, Y = zup K125 q158 (2, 20) := ⟨_, rfl⟩
  obtain ⟨X158, eX158⟩ : ∃ Y : zX, Y = zupX X152 q158 := ⟨_, rfl⟩
  obtain ⟨R158, eR158⟩ : ∃ Y : zR, Y = zupR R127 q158 := ⟨_, rfl⟩
  replace hw := Wd.re hw eK158 eX158 eR158
  have hk158 : K158 md = (1, 8) := by rw [eK158]; exact zup_k hfq158 hk125 (Nat.succ_ne_zero _)
  have hn158 : Apt md q158 := zne hk125 hfq158
  have hk158_1 : K158 q7 = (2, 24) := by rw [eK158]; exact zup_k hfq158 hk125_1 (Nat.succ_ne_zero _)
  have hn158_1 : Apt q7 q158 := zne hk125_1 hfq158
  have hk158_2 : K158 q15 = (2, 24) := by rw [eK158]; exact zup_k hfq158 hk125_2 (Nat.succ_ne_zero _)
  have hn158_2 : Apt q15 q158 := zne hk125_2 hfq158
  have hk158_3 : K158 q23 = (2, 24) := by rw [eK158]; exact zup_k hfq158 hk125_3 (Nat.succ_ne_zero _)
  have hn158_3 : Apt q23 q158 := zne hk125_3 hfq158
  have hk158_4 : K158 q31 = (2, 6) := by rw [eK158]; exact zup_k hfq158 hk125_4 (Nat.succ_ne_zero _)
  have hn158_4 : Apt q31 q158 := zne hk125_4 hfq158
  have hk158_5 : K158 q39 = (2, 6) := by rw [eK158]; exact zup_k hfq158 hk125_5 (Nat.succ_ne_zero _)
  have hn158_5 : Apt q39 q158 := zne hk125_5 hfq158
  have hk158_6 : K158 q48 = (2, 216) := by rw [eK158]; exact zup_k hfq158 hk125_6 (Nat.succ_ne_zero _)
  have hn158_6 : Apt q48 q158 := zne hk125_6 hfq158
  have hk158_7 : K158 q56 = (2, 6) := by rw [eK158]; exact zup_k hfq158 hk125_7 (Nat.succ_ne_zero _)
  have hn158_7 : Apt q56 q158 := zne hk125_7 hfq158
  have hk158_8 : K158 q64 = (11, 6) := by rw [eK158]; exact zup_k hfq158 hk125_8 (Nat.succ_ne_zero _)
  have hn158_8 : Apt q64 q158 := zne hk125_8 hfq158
  have hk158_9 : K158 q73 = (11, 6) := by rw [eK158]; exact zup_k hfq158 hk125_9 (Nat.succ_ne_zero _)
  have hn158_9 : Apt q73 q158 := zne hk125_9 hfq158
  have hk158_10 : K158 q82 = (2, 66) := by rw [eK158]; exact zup_k hfq158 hk125_10 (Nat.succ_ne_zero _)
  have hn158_10 : Apt q82 q158 := zne hk125_10 hfq158
  have hk158_11 : K158 q90 = (2, 24) := by rw [eK158]; exact zup_k hfq158 hk125_11 (Nat.succ_ne_zero _)
  have hn158_11 : Apt q90 q158 := zne hk125_11 hfq158
  have hk158_12 : K158 q98 = (2, 48) := by rw [eK158]; exact zup_k hfq158 hk125_12 (Nat.succ_ne_zero _)
  have hn158_12 : Apt q98 q158 := zne hk125_12 hfq158
  have hk158_13 : K158 q107 = (2, 366) := by rw [eK158]; exact zup_k hfq158 hk125_13 (Nat.succ_ne_zero _)
  have hn158_13 : Apt q107 q158 := zne hk125_13 hfq158
  have hk158_14 : K158 q115 = (11, 6) := by rw [eK158]; exact zup_k hfq158 hk125_14 (Nat.succ_ne_zero _)
  have hn158_14 : Apt q115 q158 := zne hk125_14 hfq158
  have hk158_15 : K158 q125 = (2, 4001) := by rw [eK158]; exact zup_k hfq158 hk125_15 (Nat.succ_ne_zero _)
  have hn158_15 : Apt q125 q158 := zne hk125_15 hfq158
  have hk158_16 : K158 q158 = (2, 20) := by rw [eK158]; exact zup_s
  have hr158 : R158 md 2 = some q7 := by rw [eR158, zupR_n hn158]; exact hr127
  have hr158_1 : R158 md 3 = some q15 := by rw [eR158, zupR_n hn158]; exact hr127_1
  have hr158_2 : R158 md 4 = some q23 := by rw [eR158, zupR_n hn158]; exact hr127_2
  have hr158_3 : R158 md 6 = some q31 := by rw [eR158, zupR_n hn158]; exact hr127_3
  have hr158_4 : R158 md 7 = some q39 := by rw [eR158, zupR_n hn158]; exact hr127_4
  have hr158_5 : R158 md 8 = some q48 := by rw [eR158, zupR_n hn158]; exact hr127_5
  have hr158_6 : R158 md 9 = some q56 := by rw [eR158, zupR_n hn158]; exact hr127_6
  have hr158_7 : R158 md 10 = some q64 := by rw [eR158, zupR_n hn158]; exact hr127_7
  have hr158_8 : R158 md 11 = some q73 := by rw [eR158, zupR_n hn158]; exact hr127_8
  have hr158_9 : R158 md 17 = some q82 := by rw [eR158, zupR_n hn158]; exact hr127_9
  have hr158_10 : R158 md 18 = some q90 := by rw [eR158, zupR_n hn158]; exact hr127_10
  have hr158_11 : R158 md 19 = some q98 := by rw [eR158, zupR_n hn158]; exact hr127_11
  have hr158_12 : R158 md 20 = some q107 := by rw [eR158, zupR_n hn158]; exact hr127_12
  have hr158_13 : R158 md 22 = some q115 := by rw [eR158, zupR_n hn158]; exact hr127_13
  have hr158_14 : R158 md 23 = some q125 := by rw [eR158, zupR_n hn158]; exact hr127_14
  refine zputRF (pc := 160) hx hb hG hown hw hk158 (T := TX9) (ty := .array .int) rfl 30 (by decide) rfl wf_X9_70 rfl (by decide +kernel) rfl rfl rfl hname rfl dX9_init_160 (fun H locs hw => ?_)
  obtain ⟨R160, eR160⟩ : ∃ Y : zR, Y = up2 R158 md 30 (some q158) := ⟨_, rfl⟩
  rw [← eR160] at hw
  have hr160 : R160 md 2 = some q7 := by rw [eR160, up2_k (by first | decide | omega)]; exact hr158
  have hr160_1 : R160 md 3 = some q15 := by rw [eR160, up2_k (by first | decide | omega)]; exact hr158_1
  have hr160_2 : R160 md 4 = some q23 := by rw [eR160, up2_k (by first | decide | omega)]; exact hr158_2
  have hr160_3 : R160 md 6 = some q31 := by rw [eR160, up2_k (by first | decide | omega)]; exact hr158_3
  have hr160_4 : R160 md 7 = some q39 := by rw [eR160, up2_k (by first | decide | omega)]; exact hr158_4
  have hr160_5 : R160 md 8 = some q48 := by rw [eR160, up2_k (by first | decide | omega)]; exact hr158_5
  have hr160_6 : R160 md 9 = some q56 := by rw [eR160, up2_k (by first | decide | omega)]; exact hr158_6
  have hr160_7 : R160 md 10 = some q64 := by rw [eR160, up2_k (by first | decide | omega)]; exact hr158_7
  have hr160_8 : R160 md 11 = some q73 := by rw [eR160, up2_k (by first | decide | omega)]; exact hr158_8
  have hr160_9 : R160 md 17 = some q82 := by rw [eR160, up2_k (by first | decide | omega)]; exact hr158_9
  have hr160_10 : R160 md 18 = some q90 := by rw [eR160, up2_k (by first | decide | omega)]; exact hr158_10
  have hr160_11 : R160 md 19 = some q98 := by rw [eR160, up2_k (by first | decide | omega)]; exact hr158_11
  have hr160_12 : R160 md 20 = some q107 := by rw [eR160, up2_k (by first | decide | omega)]; exact hr158_12
  have hr160_13 : R160 md 22 = some q115 := by rw [eR160, up2_k (by first | decide | omega)]; exact hr158_13
  have hr160_14 : R160 md 23 = some q125 := by rw [eR160, up2_k (by first | decide | omega)]; exact hr158_14
  have hr160_15 : R160 md 30 = some q158 := by rw [eR160]; exact up2_s
  refine lv_aload_n (pc := 163) hx hb dX9_init_163 rfl (lv_at hl 0 rfl) ?_
  refine zbipush (pc := 164) (n := 20) hx hb dX9_init_164 rfl ?_
  refine znewi (pc := 166) hx hb hG hw wa_int ⟨by omega, by omega⟩ (by show 0 + 1 + 1 + 1 + 1 + 1 + 1 + 1 + 1 + 1 + 1 + 1 + 1 + 1 + 1 + 1 + 1 + 1 ≤ 20; omega) (by show 0 + 24 + 24 + 24 + 6 + 6 + 216 + 6 + 6 + 6 + 66 + 24 + 48 + 366 + 6 + 4001 + 20 + 20 ≤ 77958; omega) dX9_init_166 (fun q166 H hfq166 hw => ?_)
  obtain ⟨K166, eK166⟩ : ∃ Y : zK, Y = zup K158 q166 (2, 20) := ⟨_, rfl⟩
  obtain ⟨X166, eX166⟩ : ∃ Y : zX, Y = zupX X158 q166 := ⟨_, rfl⟩
  obtain ⟨R166, eR166⟩ : ∃ Y : zR, Y = zupR R160 q166 := ⟨_, rfl⟩
  replace hw := Wd.re hw eK166 eX166 eR166
  have hk166 : K166 md = (1, 8) := by rw [eK166]; exact zup_k hfq166 hk158 (Nat.succ_ne_zero _)
  have hn166 : Apt md q166 := zne hk158 hfq166
  have hk166_1 : K166 q7 = (2, 24) := by rw [eK166]; exact zup_k hfq166 hk158_1 (Nat.succ_ne_zero _)
  have hn166_1 : Apt q7 q166 := zne hk158_1 hfq166
  have hk166_2 : K166 q15 = (2, 24) := by rw [eK166]; exact zup_k hfq166 hk158_2 (Nat.succ_ne_zero _)
  have hn166_2 : Apt q15 q166 := zne hk158_2 hfq166
  have hk166_3 : K166 q23 = (2, 24) := by rw [eK166]; exact zup_k hfq166 hk158_3 (Nat.succ_ne_zero _)
  have hn166_3 : Apt q23 q166 := zne hk158_3 hfq166
  have hk166_4 : K166 q31 = (2, 6) := by rw [eK166]; exact zup_k hfq166 hk158_4 (Nat.succ_ne_zero _)
  have hn166_4 : Apt q31 q166 := zne hk158_4 hfq166
  have hk166_5 : K166 q39 = (2, 6) := by rw [eK166]; exact zup_k hfq166 hk158_5 (Nat.succ_ne_zero _)
  have hn166_5 : Apt q39 q166 := zne hk158_5 hfq166
  have hk166_6 : K166 q48 = (2, 216) := by rw [eK166]; exact zup_k hfq166 hk158_6 (Nat.succ_ne_zero _)
  have hn166_6 : Apt q48 q166 := zne hk158_6 hfq166
  have hk166_7 : K166 q56 = (2, 6) := by rw [eK166]; exact zup_k hfq166 hk158_7 (Nat.succ_ne_zero _)
  have hn166_7 : Apt q56 q166 := zne hk158_7 hfq166
  have hk166_8 : K166 q64 = (11, 6) := by rw [eK166]; exact zup_k hfq166 hk158_8 (Nat.succ_ne_zero _)
  have hn166_8 : Apt q64 q166 := zne hk158_8 hfq166
  have hk166_9 : K166 q73 = (11, 6) := by rw [eK166]; exact zup_k hfq166 hk158_9 (Nat.succ_ne_zero _)
  have hn166_9 : Apt q73 q166 := zne hk158_9 hfq166
  have hk166_10 : K166 q82 = (2, 66) := by rw [eK166]; exact zup_k hfq166 hk158_10 (Nat.succ_ne_zero _)
  have hn166_10 : Apt q82 q166 := zne hk158_10 hfq166
  have hk166_11 : K166 q90 = (2, 24) := by rw [eK166]; exact zup_k hfq166 hk158_11 (Nat.succ_ne_zero _)
  have hn166_11 : Apt q90 q166 := zne hk158_11 hfq166
  have hk166_12 : K166 q98 = (2, 48) := by rw [eK166]; exact zup_k hfq166 hk158_12 (Nat.succ_ne_zero _)
  have hn166_12 : Apt q98 q166 := zne hk158_12 hfq166
  have hk166_13 : K166 q107 = (2, 366) := by rw [eK166]; exact zup_k hfq166 hk158_13 (Nat.succ_ne_zero _)
  have hn166_13 : Apt q107 q166 := zne hk158_13 hfq166
  have hk166_14 : K166 q115 = (11, 6) := by rw [eK166]; exact zup_k hfq166 hk158_14 (Nat.succ_ne_zero _)
  have hn166_14 : Apt q115 q166 := zne hk158_14 hfq166
  have hk166_15 : K166 q125 = (2, 4001) := by rw [eK166]; exact zup_k hfq166 hk158_15 (Nat.succ_ne_zero _)
  have hn166_15 : Apt q125 q166 := zne hk158_15 hfq166
  have hk166_16 : K166 q158 = (2, 20) := by rw [eK166]; exact zup_k hfq166 hk158_16 (Nat.succ_ne_zero _)
  have hn166_16 : Apt q158 q166 := zne hk158_16 hfq166
  have hk166_17 : K166 q166 = (2, 20) := by rw [eK166]; exact zup_s
  have hr166 : R166 md 2 = some q7 := by rw [eR166, zupR_n hn166]; exact hr160
  have hr166_1 : R166 md 3 = some q15 := by rw [eR166, zupR_n hn166]; exact hr160_1
  have hr166_2 : R166 md 4 = some q23 := by rw [eR166, zupR_n hn166]; exact hr160_2
  have hr166_3 : R166 md 6 = some q31 := by rw [eR166, zupR_n hn166]; exact hr160_3
  have hr166_4 : R166 md 7 = some q39 := by rw [eR166, zupR_n hn166]; exact hr160_4
  have hr166_5 : R166 md 8 = some q48 := by rw [eR166, zupR_n hn166]; exact hr160_5
  have hr166_6 : R166 md 9 = some q56 := by rw [eR166, zupR_n hn166]; exact hr160_6
  have hr166_7 : R166 md 10 = some q64 := by rw [eR166, zupR_n hn166]; exact hr160_7
  have hr166_8 : R166 md 11 = some q73 := by rw [eR166, zupR_n hn166]; exact hr160_8
  have hr166_9 : R166 md 17 = some q82 := by rw [eR166, zupR_n hn166]; exact hr160_9
  have hr166_10 : R166 md 18 = some q90 := by rw [eR166, zupR_n hn166]; exact hr160_10
  have hr166_11 : R166 md 19 = some q98 := by rw [eR166, zupR_n hn166]; exact hr160_11
  have hr166_12 : R166 md 20 = some q107 := by rw [eR166, zupR_n hn166]; exact hr160_12
  have hr166_13 : R166 md 22 = some q115 := by rw [eR166, zupR_n hn166]; exact hr160_13
  have hr166_14 : R166 md 23 = some q125 := by rw [eR166, zupR_n hn166]; exact hr160_14
  have hr166_15 : R166 md 30 = some q158 := by rw [eR166, zupR_n hn166]; exact hr160_15
  refine zputRF (pc := 168) hx hb hG hown hw hk166 (T := TX9) (ty := .array .int) rfl 31 (by decide) rfl wf_X9_73 rfl (by decide +kernel) rfl rfl rfl hname rfl dX9_init_168 (fun H locs hw => ?_)
  obtain ⟨R168, eR168⟩ : ∃ Y : zR, Y = up2 R166 md 31 (some q166) := ⟨_, rfl⟩
  rw [← eR168] at hw
  have hr168 : R168 md 2 = some q7 := by rw [eR168, up2_k (by first | decide | omega)]; exact hr166
  have hr168_1 : R168 md 3 = some q15 := by rw [eR168, up2_k (by first | decide | omega)]; exact hr166_1
  have hr168_2 : R168 md 4 = some q23 := by rw [eR168, up2_k (by first | decide | omega)]; exact hr166_2
  have hr168_3 : R168 md 6 = some q31 := by rw [eR168, up2_k (by first | decide | omega)]; exact hr166_3
  have hr168_4 : R168 md 7 = some q39 := by rw [eR168, up2_k (by first | decide | omega)]; exact hr166_4
  have hr168_5 : R168 md 8 = some q48 := by rw [eR168, up2_k (by first | decide | omega)]; exact hr166_5
  have hr168_6 : R168 md 9 = some q56 := by rw [eR168, up2_k (by first | decide | omega)]; exact hr166_6
  have hr168_7 : R168 md 10 = some q64 := by rw [eR168, up2_k (by first | decide | omega)]; exact hr166_7
  have hr168_8 : R168 md 11 = some q73 := by rw [eR168, up2_k (by first | decide | omega)]; exact hr166_8
  have hr168_9 : R168 md 17 = some q82 := by rw [eR168, up2_k (by first | decide | omega)]; exact hr166_9
  have hr168_10 : R168 md 18 = some q90 := by rw [eR168, up2_k (by first | decide | omega)]; exact hr166_10
  have hr168_11 : R168 md 19 = some q98 := by rw [eR168, up2_k (by first | decide | omega)]; exact hr166_11
  have hr168_12 : R168 md 20 = some q107 := by rw [eR168, up2_k (by first | decide | omega)]; exact hr166_12
  have hr168_13 : R168 md 22 = some q115 := by rw [eR168, up2_k (by first | decide | omega)]; exact hr166_13
  have hr168_14 : R168 md 23 = some q125 := by rw [eR168, up2_k (by first | decide | omega)]; exact hr166_14
  have hr168_15 : R168 md 30 = some q158 := by rw [eR168, up2_k (by first | decide | omega)]; exact hr166_15
  have hr168_16 : R168 md 31 = some q166 := by rw [eR168]; exact up2_s
  refine lv_aload_n (pc := 171) hx hb dX9_init_171 rfl (lv_at hl 0 rfl) ?_
  refine zbipush (pc := 172) (n := 20) hx hb dX9_init_172 rfl ?_
  refine znewi (pc := 174) hx hb hG hw wa_int ⟨by omega, by omega⟩ (by show 0 + 1 + 1 + 1 + 1 + 1 + 1 + 1 + 1 + 1 + 1 + 1 + 1 + 1 + 1 + 1 + 1 + 1 + 1 ≤ 20; omega) (by show 0 + 24 + 24 + 24 + 6 + 6 + 216 + 6 + 6 + 6 + 66 + 24 + 48 + 366 + 6 + 4001 + 20 + 20 + 20 ≤ 77958; omega) dX9_init_174 (fun q174 H hfq174 hw => ?_)
  obtain ⟨K174, eK174⟩ : ∃ Y : zK, Y = zup K166 q174 (2, 20) := ⟨_, rfl⟩
  obtain ⟨X174, eX174⟩ : ∃ Y : zX, Y = zupX X166 q174 := ⟨_, rfl⟩
  obtain ⟨R174, eR174⟩ : ∃ Y : zR, Y = zupR R168 q174 := ⟨_, rfl⟩
  replace hw := Wd.re hw eK174 eX174 eR174
  have hk174 : K174 md = (1, 8) := by rw [eK174]; exact zup_k hfq174 hk166 (Nat.succ_ne_zero _)
  have hn174 : Apt md q174 := zne hk166 hfq174
  have hk174_1 : K174 q7 = (2, 24) := by rw [eK174]; exact zup_k hfq174 hk166_1 (Nat.succ_ne_zero _)
  have hn174_1 : Apt q7 q174 := zne hk166_1 hfq174
  have hk174_2 : K174 q15 = (2, 24) := by rw [eK174]; exact zup_k hfq174 hk166_2 (Nat.succ_ne_zero _)
  have hn174_2 : Apt q15 q174 := zne hk166_2 hfq174
  have hk174_3 : K174 q23 = (2, 24) := by rw [eK174]; exact zup_k hfq174 hk166_3 (Nat.succ_ne_zero _)
  have hn174_3 : Apt q23 q174 := zne hk166_3 hfq174
  have hk174_4 : K174 q31 = (2, 6) := by rw [eK174]; exact zup_k hfq174 hk166_4 (Nat.succ_ne_zero _)
  have hn174_4 : Apt q31 q174 := zne hk166_4 hfq174
  have hk174_5 : K174 q39 = (2, 6) := by rw [eK174]; exact zup_k hfq174 hk166_5 (Nat.succ_ne_zero _)
  have hn174_5 : Apt q39 q174 := zne hk166_5 hfq174
  have hk174_6 : K174 q48 = (2, 216) := by rw [eK174]; exact zup_k hfq174 hk166_6 (Nat.succ_ne_zero _)
  have hn174_6 : Apt q48 q174 := zne hk166_6 hfq174
  have hk174_7 : K174 q56 = (2, 6) := by rw [eK174]; exact zup_k hfq174 hk166_7 (Nat.succ_ne_zero _)
  have hn174_7 : Apt q56 q174 := zne hk166_7 hfq174
  have hk174_8 : K174 q64 = (11, 6) := by rw [eK174]; exact zup_k hfq174 hk166_8 (Nat.succ_ne_zero _)
  have hn174_8 : Apt q64 q174 := zne hk166_8 hfq174
  have hk174_9 : K174 q73 = (11, 6) := by rw [eK174]; exact zup_k hfq174 hk166_9 (Nat.succ_ne_zero _)
  have hn174_9 : Apt q73 q174 := zne hk166_9 hfq174
  have hk174_10 : K174 q82 = (2, 66) := by rw [eK174]; exact zup_k hfq174 hk166_10 (Nat.succ_ne_zero _)
  have hn174_10 : Apt q82 q174 := zne hk166_10 hfq174
  have hk174_11 : K174 q90 = (2, 24) := by rw [eK174]; exact zup_k hfq174 hk166_11 (Nat.succ_ne_zero _)
  have hn174_11 : Apt q90 q174 := zne hk166_11 hfq174
  have hk174_12 : K174 q98 = (2, 48) := by rw [eK174]; exact zup_k hfq174 hk166_12 (Nat.succ_ne_zero _)
  have hn174_12 : Apt q98 q174 := zne hk166_12 hfq174
  have hk174_13 : K174 q107 = (2, 366) := by rw [eK174]; exact zup_k hfq174 hk166_13 (Nat.succ_ne_zero _)
  have hn174_13 : Apt q107 q174 := zne hk166_13 hfq174
  have hk174_14 : K174 q115 = (11, 6) := by rw [eK174]; exact zup_k hfq174 hk166_14 (Nat.succ_ne_zero _)
  have hn174_14 : Apt q115 q174 := zne hk166_14 hfq174
  have hk174_15 : K174 q125 = (2, 4001) := by rw [eK174]; exact zup_k hfq174 hk166_15 (Nat.succ_ne_zero _)
  have hn174_15 : Apt q125 q174 := zne hk166_15 hfq174
  have hk174_16 : K174 q158 = (2, 20) := by rw [eK174]; exact zup_k hfq174 hk166_16 (Nat.succ_ne_zero _)
  have hn174_16 : Apt q158 q174 := zne hk166_16 hfq174
  have hk174_17 : K174 q166 = (2, 20) := by rw [eK174]; exact zup_k hfq174 hk166_17 (Nat.succ_ne_zero _)
  have hn174_17 : Apt q166 q174 := zne hk166_17 hfq174
  have hk174_18 : K174 q174 = (2, 20) := by rw [eK174]; exact zup_s
  have hr174 : R174 md 2 = some q7 := by rw [eR174, zupR_n hn174]; exact hr168
  have hr174_1 : R174 md 3 = some q15 := by rw [eR174, zupR_n hn174]; exact hr168_1
  have hr174_2 : R174 md 4 = some q23 := by rw [eR174, zupR_n hn174]; exact hr168_2
  have hr174_3 : R174 md 6 = some q31 := by rw [eR174, zupR_n hn174]; exact hr168_3
  have hr174_4 : R174 md 7 = some q39 := by rw [eR174, zupR_n hn174]; exact hr168_4
  have hr174_5 : R174 md 8 = some q48 := by rw [eR174, zupR_n hn174]; exact hr168_5
  have hr174_6 : R174 md 9 = some q56 := by rw [eR174, zupR_n hn174]; exact hr168_6
  have hr174_7 : R174 md 10 = some q64 := by rw [eR174, zupR_n hn174]; exact hr168_7
  have hr174_8 : R174 md 11 = some q73 := by rw [eR174, zupR_n hn174]; exact hr168_8
  have hr174_9 : R174 md 17 = some q82 := by rw [eR174, zupR_n hn174]; exact hr168_9
  have hr174_10 : R174 md 18 = some q90 := by rw [eR174, zupR_n hn174]; exact hr168_10
  have hr174_11 : R174 md 19 = some q98 := by rw [eR174, zupR_n hn174]; exact hr168_11
  have hr174_12 : R174 md 20 = some q107 := by rw [eR174, zupR_n hn174]; exact hr168_12
  have hr174_13 : R174 md 22 = some q115 := by rw [eR174, zupR_n hn174]; exact hr168_13
  have hr174_14 : R174 md 23 = some q125 := by rw [eR174, zupR_n hn174]; exact hr168_14
  have hr174_15 : R174 md 30 = some q158 := by rw [eR174, zupR_n hn174]; exact hr168_15
  have hr174_16 : R174 md 31 = some q166 := by rw [eR174, zupR_n hn174]; exact hr168_16
  refine zputRF (pc := 176) hx hb hG hown hw hk174 (T := TX9) (ty := .array .int) rfl 32 (by decide) rfl wf_X9_76 rfl (by decide +kernel) rfl rfl rfl hname rfl dX9_init_176 (fun H locs hw => ?_)
  obtain ⟨R176, eR176⟩ : ∃ Y : zR, Y = up2 R174 md 32 (some q174) := ⟨_, rfl⟩
  rw [← eR176] at hw
  have hr176 : R176 md 2 = some q7 := by rw [eR176, up2_k (by first | decide | omega)]; exact hr174
  have hr176_1 : R176 md 3 = some q15 := by rw [eR176, up2_k (by first | decide | omega)]; exact hr174_1
  have hr176_2 : R176 md 4 = some q23 := by rw [eR176, up2_k (by first | decide | omega)]; exact hr174_2
  have hr176_3 : R176 md 6 = some q31 := by rw [eR176, up2_k (by first | decide | omega)]; exact hr174_3
  have hr176_4 : R176 md 7 = some q39 := by rw [eR176, up2_k (by first | decide | omega)]; exact hr174_4
  have hr176_5 : R176 md 8 = some q48 := by rw [eR176, up2_k (by first | decide | omega)]; exact hr174_5
  have hr176_6 : R176 md 9 = some q56 := by rw [eR176, up2_k (by first | decide | omega)]; exact hr174_6
  have hr176_7 : R176 md 10 = some q64 := by rw [eR176, up2_k (by first | decide | omega)]; exact hr174_7
  have hr176_8 : R176 md 11 = some q73 := by rw [eR176, up2_k (by first | decide | omega)]; exact hr174_8
  have hr176_9 : R176 md 17 = some q82 := by rw [eR176, up2_k (by first | decide | omega)]; exact hr174_9
  have hr176_10 : R176 md 18 = some q90 := by rw [eR176, up2_k (by first | decide | omega)]; exact hr174_10
  have hr176_11 : R176 md 19 = some q98 := by rw [eR176, up2_k (by first | decide | omega)]; exact hr174_11
  have hr176_12 : R176 md 20 = some q107 := by rw [eR176, up2_k (by first | decide | omega)]; exact hr174_12
  have hr176_13 : R176 md 22 = some q115 := by rw [eR176, up2_k (by first | decide | omega)]; exact hr174_13
  have hr176_14 : R176 md 23 = some q125 := by rw [eR176, up2_k (by first | decide | omega)]; exact hr174_14
  have hr176_15 : R176 md 30 = some q158 := by rw [eR176, up2_k (by first | decide | omega)]; exact hr174_15
  have hr176_16 : R176 md 31 = some q166 := by rw [eR176, up2_k (by first | decide | omega)]; exact hr174_16
  have hr176_17 : R176 md 32 = some q174 := by rw [eR176]; exact up2_s
  refine lv_aload_n (pc := 179) hx hb dX9_init_179 rfl (lv_at hl 0 rfl) ?_
  refine zbipush (pc := 180) (n := 20) hx hb dX9_init_180 rfl ?_
  refine znewi (pc := 182) hx hb hG hw wa_int ⟨by omega, by omega⟩ (by show 0 + 1 + 1 + 1 + 1 + 1 + 1 + 1 + 1 + 1 + 1 + 1 + 1 + 1 + 1 + 1 + 1 + 1 + 1 + 1 ≤ 20; omega) (by show 0 + 24 + 24 + 24 + 6 + 6 + 216 + 6 + 6 + 6 + 66 + 24 + 48 + 366 + 6 + 4001 + 20 + 20 + 20 + 20 ≤ 77958; omega) dX9_init_182 (fun q182 H hfq182 hw => ?_)
  obtain ⟨K182, eK182⟩ : ∃ Y : zK, Y = zup K174 q182 (2, 20) := ⟨_, rfl⟩
  obtain ⟨X182, eX182⟩ : ∃ Y : zX, Y = zupX X174 q182 := ⟨_, rfl⟩
  obtain ⟨R182, eR182⟩ : ∃ Y : zR, Y = zupR R176 q182 := ⟨_, rfl⟩
  replace hw := Wd.re hw eK182 eX182 eR182
  have hk182 : K182 md = (1, 8) := by rw [eK182]; exact zup_k hfq182 hk174 (Nat.succ_ne_zero _)
  have hn182 : Apt md q182 := zne hk174 hfq182
  have hk182_1 : K182 q7 = (2, 24) := by rw [eK182]; exact zup_k hfq182 hk174_1 (Nat.succ_ne_zero _)
  have hn182_1 : Apt q7 q182 := zne hk174_1 hfq182
  have hk182_2 : K182 q15 = (2, 24) := by rw [eK182]; exact zup_k hfq182 hk174_2 (Nat.succ_ne_zero _)
  have hn182_2 : Apt q15 q182 := zne hk174_2 hfq182
  have hk182_3 : K182 q23 = (2, 24) := by rw [eK182]; exact zup_k hfq182 hk174_3 (Nat.succ_ne_zero _)
  have hn182_3 : Apt q23 q182 := zne hk174_3 hfq182
  have hk182_4 : K182 q31 = (2, 6) := by rw [eK182]; exact zup_k hfq182 hk174_4 (Nat.succ_ne_zero _)
  have hn182_4 : Apt q31 q182 := zne hk174_4 hfq182
  have hk182_5 : K182 q39 = (2, 6) := by rw [eK182]; exact zup_k hfq182 hk174_5 (Nat.succ_ne_zero _)
  have hn182_5 : Apt q39 q182 := zne hk174_5 hfq182
  have hk182_6 : K182 q48 = (2, 216) := by rw [eK182]; exact zup_k hfq182 hk174_6 (Nat.succ_ne_zero _)
  have hn182_6 : Apt q48 q182 := zne hk174_6 hfq182
  have hk182_7 : K182 q56 = (2, 6) := by rw [eK182]; exact zup_k hfq182 hk174_7 (Nat.succ_ne_zero _)
  have hn182_7 : Apt q56 q182 := zne hk174_7 hfq182
  have hk182_8 : K182 q64 = (11, 6) := by rw [eK182]; exact zup_k hfq182 hk174_8 (Nat.succ_ne_zero _)
  have hn182_8 : Apt q64 q182 := zne hk174_8 hfq182
  have hk182_9 : K182 q73 = (11, 6) := by rw [eK182]; exact zup_k hfq182 hk174_9 (Nat.succ_ne_zero _)
  have hn182_9 : Apt q73 q182 := zne hk174_9 hfq182
  have hk182_10 : K182 q82 = (2, 66) := by rw [eK182]; exact zup_k hfq182 hk174_10 (Nat.succ_ne_zero _)
  have hn182_10 : Apt q82 q182 := zne hk174_10 hfq182
  have hk182_11 : K182 q90 = (2, 24) := by rw [eK182]; exact zup_k hfq182 hk174_11 (Nat.succ_ne_zero _)
  have hn182_11 : Apt q90 q182 := zne hk174_11 hfq182
  have hk182_12 : K182 q98 = (2, 48) := by rw [eK182]; exact zup_k hfq182 hk174_12 (Nat.succ_ne_zero _)
  have hn182_12 : Apt q98 q182 := zne hk174_12 hfq182
  have hk182_13 : K182 q107 = (2, 366) := by rw [eK182]; exact zup_k hfq182 hk174_13 (Nat.succ_ne_zero _)
  have hn182_13 : Apt q107 q182 := zne hk174_13 hfq182
  have hk182_14 : K182 q115 = (11, 6) := by rw [eK182]; exact zup_k hfq182 hk174_14 (Nat.succ_ne_zero _)
  have hn182_14 : Apt q115 q182 := zne hk174_14 hfq182
  have hk182_15 : K182 q125 = (2, 4001) := by rw [eK182]; exact zup_k hfq182 hk174_15 (Nat.succ_ne_zero _)
  have hn182_15 : Apt q125 q182 := zne hk174_15 hfq182
  have hk182_16 : K182 q158 = (2, 20) := by rw [eK182]; exact zup_k hfq182 hk174_16 (Nat.succ_ne_zero _)
  have hn182_16 : Apt q158 q182 := zne hk174_16 hfq182
  have hk182_17 : K182 q166 = (2, 20) := by rw [eK182]; exact zup_k hfq182 hk174_17 (Nat.succ_ne_zero _)
  have hn182_17 : Apt q166 q182 := zne hk174_17 hfq182
  have hk182_18 : K182 q174 = (2, 20) := by rw [eK182]; exact zup_k hfq182 hk174_18 (Nat.succ_ne_zero _)
  have hn182_18 : Apt q174 q182 := zne hk174_18 hfq182
  have hk182_19 : K182 q182 = (2, 20) := by rw [eK182]; exact zup_s
  have hr182 : R182 md 2 = some q7 := by rw [eR182, zupR_n hn182]; exact hr176
  have hr182_1 : R182 md 3 = some q15 := by rw [eR182, zupR_n hn182]; exact hr176_1
  have hr182_2 : R182 md 4 = some q23 := by rw [eR182, zupR_n hn182]; exact hr176_2
  have hr182_3 : R182 md 6 = some q31 := by rw [eR182, zupR_n hn182]; exact hr176_3
  have hr182_4 : R182 md 7 = some q39 := by rw [eR182, zupR_n hn182]; exact hr176_4
  have hr182_5 : R182 md 8 = some q48 := by rw [eR182, zupR_n hn182]; exact hr176_5
  have hr182_6 : R182 md 9 = some q56 := by rw [eR182, zupR_n hn182]; exact hr176_6
  have hr182_7 : R182 md 10 = some q64 := by rw [eR182, zupR_n hn182]; exact hr176_7
  have hr182_8 : R182 md 11 = some q73 := by rw [eR182, zupR_n hn182]; exact hr176_8
  have hr182_9 : R182 md 17 = some q82 := by rw [eR182, zupR_n hn182]; exact hr176_9
  have hr182_10 : R182 md 18 = some q90 := by rw [eR182, zupR_n hn182]; exact hr176_10
  have hr182_11 : R182 md 19 = some q98 := by rw [eR182, zupR_n hn182]; exact hr176_11
  have hr182_12 : R182 md 20 = some q107 := by rw [eR182, zupR_n hn182]; exact hr176_12
  have hr182_13 : R182 md 22 = some q115 := by rw [eR182, zupR_n hn182]; exact hr176_13
  have hr182_14 : R182 md 23 = some q125 := by rw [eR182, zupR_n hn182]; exact hr176_14
  have hr182_15 : R182 md 30 = some q158 := by rw [eR182, zupR_n hn182]; exact hr176_15
  have hr182_16 : R182 md 31 = some q166 := by rw [eR182, zupR_n hn182]; exact hr176_16
  have hr182_17 : R182 md 32 = some q174 := by rw [eR182, zupR_n hn182]; exact hr176_17
  refine zputRF (pc := 184) hx hb hG hown hw hk182 (T := TX9) (ty := .array .int) rfl 33 (by decide) rfl wf_X9_79 rfl (by decide +kernel) rfl rfl rfl hname rfl dX9_init_184 (fun H locs hw => ?_)
  obtain ⟨R184, eR184⟩ : ∃ Y : zR, Y = up2 R182 md 33 (some q182) := ⟨_, rfl⟩
  rw [← eR184] at hw
  have hr184 : R184 md 2 = some q7 := by rw [eR184, up2_k (by first | decide | omega)]; exact hr182
  have hr184_1 : R184 md 3 = some q15 := by rw [eR184, up2_k (by first | decide | omega)]; exact hr182_1
  have hr184_2 : R184 md 4 = some q23 := by rw [eR184, up2_k (by first | decide | omega)]; exact hr182_2
  have hr184_3 : R184 md 6 = some q31 := by rw [eR184, up2_k (by first | decide | omega)]; exact hr182_3
  have hr184_4 : R184 md 7 = some q39 := by rw [eR184, up2_k (by first | decide | omega)]; exact hr182_4
  have hr184_5 : R184 md 8 = some q48 := by rw [eR184, up2_k (by first | decide | omega)]; exact hr182_5
  have hr184_6 : R184 md 9 = some q56 := by rw [eR184, up2_k (by first | decide | omega)]; exact hr182_6
  have hr184_7 : R184 md 10 = some q64 := by rw [eR184, up2_k (by first | decide | omega)]; exact hr182_7
  have hr184_8 : R184 md 11 = some q73 := by rw [eR184, up2_k (by first | decide | omega)]; exact hr182_8
  have hr184_9 : R184 md 17 = some q82 := by rw [eR184, up2_k (by first | decide | omega)]; exact hr182_9
  have hr184_10 : R184 md 18 = some q90 := by rw [eR184, up2_k (by first | decide | omega)]; exact hr182_10
  have hr184_11 : R184 md 19 = some q98 := by rw [eR184, up2_k (by first | decide | omega)]; exact hr182_11
  have hr184_12 : R184 md 20 = some q107 := by rw [eR184, up2_k (by first | decide | omega)]; exact hr182_12
  have hr184_13 : R184 md 22 = some q115 := by rw [eR184, up2_k (by first | decide | omega)]; exact hr182_13
  have hr184_14 : R184 md 23 = some q125 := by rw [eR184, up2_k (by first | decide | omega)]; exact hr182_14
  have hr184_15 : R184 md 30 = some q158 := by rw [eR184, up2_k (by first | decide | omega)]; exact hr182_15
  have hr184_16 : R184 md 31 = some q166 := by rw [eR184, up2_k (by first | decide | omega)]; exact hr182_16
  have hr184_17 : R184 md 32 = some q174 := by rw [eR184, up2_k (by first | decide | omega)]; exact hr182_17
  have hr184_18 : R184 md 33 = some q182 := by rw [eR184]; exact up2_s
  refine lv_aload_n (pc := 187) hx hb dX9_init_187 rfl (lv_at hl 0 rfl) ?_
  refine zldc (pc := 188) (n := 73049) hx hb hown hG wk_X9_82 dX9_init_188 ?_
  refine znewb (pc := 190) hx hb hG hw wa_byte ⟨by omega, by omega⟩ (by show 0 + 1 + 1 + 1 + 1 + 1 + 1 + 1 + 1 + 1 + 1 + 1 + 1 + 1 + 1 + 1 + 1 + 1 + 1 + 1 + 1 ≤ 20; omega) (by show 0 + 24 + 24 + 24 + 6 + 6 + 216 + 6 + 6 + 6 + 66 + 24 + 48 + 366 + 6 + 4001 + 20 + 20 + 20 + 20 + 73049 ≤ 77958; omega) dX9_init_190 (fun q190 H hfq190 hw => ?_)
  obtain ⟨K190, eK190⟩ : ∃ Y : zK, Y = zup K182 q190 (3, 73049) := ⟨_, rfl⟩
  obtain ⟨X190, eX190⟩ : ∃ Y : zX, Y = zupX X182 q190 := ⟨_, rfl⟩
  obtain ⟨R190, eR190⟩ : ∃ Y : zR, Y = zupR R184 q190 := ⟨_, rfl⟩
  replace hw := Wd.re hw eK190 eX190 eR190
  have hk190 : K190 md = (1, 8) := by rw [eK190]; exact zup_k hfq190 hk182 (Nat.succ_ne_zero _)
  have hn190 : Apt md q190 := zne hk182 hfq190
  have hk190_1 : K190 q7 = (2, 24) := by rw [eK190]; exact zup_k hfq190 hk182_1 (Nat.succ_ne_zero _)
  have hn190_1 : Apt q7 q190 := zne hk182_1 hfq190
  have hk190_2 : K190 q15 = (2, 24) := by rw [eK190]; exact zup_k hfq190 hk182_2 (Nat.succ_ne_zero _)
  have hn190_2 : Apt q15 q190 := zne hk182_2 hfq190
  have hk190_3 : K190 q23 = (2, 24) := by rw [eK190]; exact zup_k hfq190 hk182_3 (Nat.succ_ne_zero _)
  have hn190_3 : Apt q23 q190 := zne hk182_3 hfq190
  have hk190_4 : K190 q31 = (2, 6) := by rw [eK190]; exact zup_k hfq190 hk182_4 (Nat.succ_ne_zero _)
  have hn190_4 : Apt q31 q190 := zne hk182_4 hfq190
  have hk190_5 : K190 q39 = (2, 6) := by rw [eK190]; exact zup_k hfq190 hk182_5 (Nat.succ_ne_zero _)
  have hn190_5 : Apt q39 q190 := zne hk182_5 hfq190
  have hk190_6 : K190 q48 = (2, 216) := by rw [eK190]; exact zup_k hfq190 hk182_6 (Nat.succ_ne_zero _)
  have hn190_6 : Apt q48 q190 := zne hk182_6 hfq190
  have hk190_7 : K190 q56 = (2, 6) := by rw [eK190]; exact zup_k hfq190 hk182_7 (Nat.succ_ne_zero _)
  have hn190_7 : Apt q56 q190 := zne hk182_7 hfq190
  have hk190_8 : K190 q64 = (11, 6) := by rw [eK190]; exact zup_k hfq190 hk182_8 (Nat.succ_ne_zero _)
  have hn190_8 : Apt q64 q190 := zne hk182_8 hfq190
  have hk190_9 : K190 q73 = (11, 6) := by rw [eK190]; exact zup_k hfq190 hk182_9 (Nat.succ_ne_zero _)
  have hn190_9 : Apt q73 q190 := zne hk182_9 hfq190
  have hk190_10 : K190 q82 = (2, 66) := by rw [eK190]; exact zup_k hfq190 hk182_10 (Nat.succ_ne_zero _)
  have hn190_10 : Apt q82 q190 := zne hk182_10 hfq190
  have hk190_11 : K190 q90 = (2, 24) := by rw [eK190]; exact zup_k hfq190 hk182_11 (Nat.succ_ne_zero _)
  have hn190_11 : Apt q90 q190 := zne hk182_11 hfq190
  have hk190_12 : K190 q98 = (2, 48) := by rw [eK190]; exact zup_k hfq190 hk182_12 (Nat.succ_ne_zero _)
  have hn190_12 : Apt q98 q190 := zne hk182_12 hfq190
  have hk190_13 : K190 q107 = (2, 366) := by rw [eK190]; exact zup_k hfq190 hk182_13 (Nat.succ_ne_zero _)
  have hn190_13 : Apt q107 q190 := zne hk182_13 hfq190
  have hk190_14 : K190 q115 = (11, 6) := by rw [eK190]; exact zup_k hfq190 hk182_14 (Nat.succ_ne_zero _)
  have hn190_14 : Apt q115 q190 := zne hk182_14 hfq190
  have hk190_15 : K190 q125 = (2, 4001) := by rw [eK190]; exact zup_k hfq190 hk182_15 (Nat.succ_ne_zero _)
  have hn190_15 : Apt q125 q190 := zne hk182_15 hfq190
  have hk190_16 : K190 q158 = (2, 20) := by rw [eK190]; exact zup_k hfq190 hk182_16 (Nat.succ_ne_zero _)
  have hn190_16 : Apt q158 q190 := zne hk182_16 hfq190
  have hk190_17 : K190 q166 = (2, 20) := by rw [eK190]; exact zup_k hfq190 hk182_17 (Nat.succ_ne_zero _)
  have hn190_17 : Apt q166 q190 := zne hk182_17 hfq190
  have hk190_18 : K190 q174 = (2, 20) := by rw [eK190]; exact zup_k hfq190 hk182_18 (Nat.succ_ne_zero _)
  have hn190_18 : Apt q174 q190 := zne hk182_18 hfq190
  have hk190_19 : K190 q182 = (2, 20) := by rw [eK190]; exact zup_k hfq190 hk182_19 (Nat.succ_ne_zero _)
  have hn190_19 : Apt q182 q190 := zne hk182_19 hfq190
  have hk190_20 : K190 q190 = (3, 73049) := by rw [eK190]; exact zup_s
  have hr190 : R190 md 2 = some q7 := by rw [eR190, zupR_n hn190]; exact hr184
  have hr190_1 : R190 md 3 = some q15 := by rw [eR190, zupR_n hn190]; exact hr184_1
  have hr190_2 : R190 md 4 = some q23 := by rw [eR190, zupR_n hn190]; exact hr184_2
  have hr190_3 : R190 md 6 = some q31 := by rw [eR190, zupR_n hn190]; exact hr184_3
  have hr190_4 : R190 md 7 = some q39 := by rw [eR190, zupR_n hn190]; exact hr184_4
  have hr190_5 : R190 md 8 = some q48 := by rw [eR190, zupR_n hn190]; exact hr184_5
  have hr190_6 : R190 md 9 = some q56 := by rw [eR190, zupR_n hn190]; exact hr184_6
  have hr190_7 : R190 md 10 = some q64 := by rw [eR190, zupR_n hn190]; exact hr184_7
  have hr190_8 : R190 md 11 = some q73 := by rw [eR190, zupR_n hn190]; exact hr184_8
  have hr190_9 : R190 md 17 = some q82 := by rw [eR190, zupR_n hn190]; exact hr184_9
  have hr190_10 : R190 md 18 = some q90 := by rw [eR190, zupR_n hn190]; exact hr184_10
  have hr190_11 : R190 md 19 = some q98 := by rw [eR190, zupR_n hn190]; exact hr184_11
  have hr190_12 : R190 md 20 = some q107 := by rw [eR190, zupR_n hn190]; exact hr184_12
  have hr190_13 : R190 md 22 = some q115 := by rw [eR190, zupR_n hn190]; exact hr184_13
  have hr190_14 : R190 md 23 = some q125 := by rw [eR190, zupR_n hn190]; exact hr184_14
  have hr190_15 : R190 md 30 = some q158 := by rw [eR190, zupR_n hn190]; exact hr184_15
  have hr190_16 : R190 md 31 = some q166 := by rw [eR190, zupR_n hn190]; exact hr184_16
  have hr190_17 : R190 md 32 = some q174 := by rw [eR190, zupR_n hn190]; exact hr184_17
  have hr190_18 : R190 md 33 = some q182 := by rw [eR190, zupR_n hn190]; exact hr184_18
  refine zputRF (pc := 192) hx hb hG hown hw hk190 (T := TX9) (ty := .array .byte) rfl 34 (by decide) rfl wf_X9_83 rfl (by decide +kernel) rfl rfl rfl hname rfl dX9_init_192 (fun H locs hw => ?_)
  obtain ⟨R192, eR192⟩ : ∃ Y : zR, Y = up2 R190 md 34 (some q190) := ⟨_, rfl⟩
  rw [← eR192] at hw
  have hr192 : R192 md 2 = some q7 := by rw [eR192, up2_k (by first | decide | omega)]; exact hr190
  have hr192_1 : R192 md 3 = some q15 := by rw [eR192, up2_k (by first | decide | omega)]; exact hr190_1
  have hr192_2 : R192 md 4 = some q23 := by rw [eR192, up2_k (by first | decide | omega)]; exact hr190_2
  have hr192_3 : R192 md 6 = some q31 := by rw [eR192, up2_k (by first | decide | omega)]; exact hr190_3
  have hr192_4 : R192 md 7 = some q39 := by rw [eR192, up2_k (by first | decide | omega)]; exact hr190_4
  have hr192_5 : R192 md 8 = some q48 := by rw [eR192, up2_k (by first | decide | omega)]; exact hr190_5
  have hr192_6 : R192 md 9 = some q56 := by rw [eR192, up2_k (by first | decide | omega)]; exact hr190_6
  have hr192_7 : R192 md 10 = some q64 := by rw [eR192, up2_k (by first | decide | omega)]; exact hr190_7
  have hr192_8 : R192 md 11 = some q73 := by rw [eR192, up2_k (by first | decide | omega)]; exact hr190_8
  have hr192_9 : R192 md 17 = some q82 := by rw [eR192, up2_k (by first | decide | omega)]; exact hr190_9
  have hr192_10 : R192 md 18 = some q90 := by rw [eR192, up2_k (by first | decide | omega)]; exact hr190_10
  have hr192_11 : R192 md 19 = some q98 := by rw [eR192, up2_k (by first | decide | omega)]; exact hr190_11
  have hr192_12 : R192 md 20 = some q107 := by rw [eR192, up2_k (by first | decide | omega)]; exact hr190_12
  have hr192_13 : R192 md 22 = some q115 := by rw [eR192, up2_k (by first | decide | omega)]; exact hr190_13
  have hr192_14 : R192 md 23 = some q125 := by rw [eR192, up2_k (by first | decide | omega)]; exact hr190_14
  have hr192_15 : R192 md 30 = some q158 := by rw [eR192, up2_k (by first | decide | omega)]; exact hr190_15
  have hr192_16 : R192 md 31 = some q166 := by rw [eR192, up2_k (by first | decide | omega)]; exact hr190_16
  have hr192_17 : R192 md 32 = some q174 := by rw [eR192, up2_k (by first | decide | omega)]; exact hr190_17
  have hr192_18 : R192 md 33 = some q182 := by rw [eR192, up2_k (by first | decide | omega)]; exact hr190_18
  have hr192_19 : R192 md 34 = some q190 := by rw [eR192]; exact up2_s
  have zx2 : X190 q7 = fun _ => 0 := by
    rw [eX190]; refine zupX_z ?_
    rw [eX182]; refine zupX_z ?_
    rw [eX174]; refine zupX_z ?_
    rw [eX166]; refine zupX_z ?_
    rw [eX158]; refine zupX_z ?_
    rw [eX152, up2_o (Ne.symm hn7)]
    rw [eX145, up2_o (Ne.symm hn7)]
    rw [eX138, up2_o (Ne.symm hn7)]
    rw [eX132, up2_o (Ne.symm hn7)]
    rw [eX125]; refine zupX_z ?_
    rw [eX115]; refine zupX_z ?_
    rw [eX107]; refine zupX_z ?_
    rw [eX98]; refine zupX_z ?_
    rw [eX90]; refine zupX_z ?_
    rw [eX82]; refine zupX_z ?_
    rw [eX73]; refine zupX_z ?_
    rw [eX64]; refine zupX_z ?_
    rw [eX56]; refine zupX_z ?_
    rw [eX48]; refine zupX_z ?_
    rw [eX39]; refine zupX_z ?_
    rw [eX31]; refine zupX_z ?_
    rw [eX23]; refine zupX_z ?_
    rw [eX15]; refine zupX_z ?_
    rw [eX7]; exact zupX_s
  have zx3 : X190 q15 = fun _ => 0 := by
    rw [eX190]; refine zupX_z ?_
    rw [eX182]; refine zupX_z ?_
    rw [eX174]; refine zupX_z ?_
    rw [eX166]; refine zupX_z ?_
    rw [eX158]; refine zupX_z ?_
    rw [eX152, up2_o (Ne.symm hn15)]
    rw [eX145, up2_o (Ne.symm hn15)]
    rw [eX138, up2_o (Ne.symm hn15)]
    rw [eX132, up2_o (Ne.symm hn15)]
    rw [eX125]; refine zupX_z ?_
    rw [eX115]; refine zupX_z ?_
    rw [eX107]; refine zupX_z ?_
    rw [eX98]; refine zupX_z ?_
    rw [eX90]; refine zupX_z ?_
    rw [eX82]; refine zupX_z ?_
    rw [eX73]; refine zupX_z ?_
    rw [eX64]; refine zupX_z ?_
    rw [eX56]; refine zupX_z ?_
    rw [eX48]; refine zupX_z ?_
    rw [eX39]; refine zupX_z ?_
    rw [eX31]; refine zupX_z ?_
    rw [eX23]; refine zupX_z ?_
    rw [eX15]; exact zupX_s
  have zx4 : X190 q23 = fun _ => 0 := by
    rw [eX190]; refine zupX_z ?_
    rw [eX182]; refine zupX_z ?_
    rw [eX174]; refine zupX_z ?_
    rw [eX166]; refine zupX_z ?_
    rw [eX158]; refine zupX_z ?_
    rw [eX152, up2_o (Ne.symm hn23)]
    rw [eX145, up2_o (Ne.symm hn23)]
    rw [eX138, up2_o (Ne.symm hn23)]
    rw [eX132, up2_o (Ne.symm hn23)]
    rw [eX125]; refine zupX_z ?_
    rw [eX115]; refine zupX_z ?_
    rw [eX107]; refine zupX_z ?_
    rw [eX98]; refine zupX_z ?_
    rw [eX90]; refine zupX_z ?_
    rw [eX82]; refine zupX_z ?_
    rw [eX73]; refine zupX_z ?_
    rw [eX64]; refine zupX_z ?_
    rw [eX56]; refine zupX_z ?_
    rw [eX48]; refine zupX_z ?_
    rw [eX39]; refine zupX_z ?_
    rw [eX31]; refine zupX_z ?_
    rw [eX23]; exact zupX_s
  have zx6 : X190 q31 = fun _ => 0 := by
    rw [eX190]; refine zupX_z ?_
    rw [eX182]; refine zupX_z ?_
    rw [eX174]; refine zupX_z ?_
    rw [eX166]; refine zupX_z ?_
    rw [eX158]; refine zupX_z ?_
    rw [eX152, up2_o (Ne.symm hn31)]
    rw [eX145, up2_o (Ne.symm hn31)]
    rw [eX138, up2_o (Ne.symm hn31)]
    rw [eX132, up2_o (Ne.symm hn31)]
    rw [eX125]; refine zupX_z ?_
    rw [eX115]; refine zupX_z ?_
    rw [eX107]; refine zupX_z ?_
    rw [eX98]; refine zupX_z ?_
    rw [eX90]; refine zupX_z ?_
    rw [eX82]; refine zupX_z ?_
    rw [eX73]; refine zupX_z ?_
    rw [eX64]; refine zupX_z ?_
    rw [eX56]; refine zupX_z ?_
    rw [eX48]; refine zupX_z ?_
    rw [eX39]; refine zupX_z ?_
    rw [eX31]; exact zupX_s
  have zx7 : X190 q39 = fun _ => 0 := by
    rw [eX190]; refine zupX_z ?_
    rw [eX182]; refine zupX_z ?_
    rw [eX174]; refine zupX_z ?_
    rw [eX166]; refine zupX_z ?_
    rw [eX158]; refine zupX_z ?_
    rw [eX152, up2_o (Ne.symm hn39)]
    rw [eX145, up2_o (Ne.symm hn39)]
    rw [eX138, up2_o (Ne.symm hn39)]
    rw [eX132, up2_o (Ne.symm hn39)]
    rw [eX125]; refine zupX_z ?_
    rw [eX115]; refine zupX_z ?_
    rw [eX107]; refine zupX_z ?_
    rw [eX98]; refine zupX_z ?_
    rw [eX90]; refine zupX_z ?_
    rw [eX82]; refine zupX_z ?_
    rw [eX73]; refine zupX_z ?_
    rw [eX64]; refine zupX_z ?_
    rw [eX56]; refine zupX_z ?_
    rw [eX48]; refine zupX_z ?_
    rw [eX39]; exact zupX_s
  have zx8 : X190 q48 = fun _ => 0 := by
    rw [eX190]; refine zupX_z ?_
    rw [eX182]; refine zupX_z ?_
    rw [eX174]; refine zupX_z ?_
    rw [eX166]; refine zupX_z ?_
    rw [eX158]; refine zupX_z ?_
    rw [eX152, up2_o (Ne.symm hn48)]
    rw [eX145, up2_o (Ne.symm hn48)]
    rw [eX138, up2_o (Ne.symm hn48)]
    rw [eX132, up2_o (Ne.symm hn48)]
    rw [eX125]; refine zupX_z ?_
    rw [eX115]; refine zupX_z ?_
    rw [eX107]; refine zupX_z ?_
    rw [eX98]; refine zupX_z ?_
    rw [eX90]; refine zupX_z ?_
    rw [eX82]; refine zupX_z ?_
    rw [eX73]; refine zupX_z ?_
    rw [eX64]; refine zupX_z ?_
    rw [eX56]; refine zupX_z ?_
    rw [eX48]; exact zupX_s
  have zx9 : X190 q56 = fun _ => 0 := by
    rw [eX190]; refine zupX_z ?_
    rw [eX182]; refine zupX_z ?_
    rw [eX174]; refine zupX_z ?_
    rw [eX166]; refine zupX_z ?_
    rw [eX158]; refine zupX_z ?_
    rw [eX152, up2_o (Ne.symm hn56)]
    rw [eX145, up2_o (Ne.symm hn56)]
    rw [eX138, up2_o (Ne.symm hn56)]
    rw [eX132, up2_o (Ne.symm hn56)]
    rw [eX125]; refine zupX_z ?_
    rw [eX115]; refine zupX_z ?_
    rw [eX107]; refine zupX_z ?_
    rw [eX98]; refine zupX_z ?_
    rw [eX90]; refine zupX_z ?_
    rw [eX82]; refine zupX_z ?_
    rw [eX73]; refine zupX_z ?_
    rw [eX64]; refine zupX_z ?_
    rw [eX56]; exact zupX_s
  have zx10 : X190 q64 = fun _ => 0 := by
    rw [eX190]; refine zupX_z ?_
    rw [eX182]; refine zupX_z ?_
    rw [eX174]; refine zupX_z ?_
    rw [eX166]; refine zupX_z ?_
    rw [eX158]; refine zupX_z ?_
    rw [eX152, up2_o (Ne.symm hn64)]
    rw [eX145, up2_o (Ne.symm hn64)]
    rw [eX138, up2_o (Ne.symm hn64)]
    rw [eX132, up2_o (Ne.symm hn64)]
    rw [eX125]; refine zupX_z ?_
    rw [eX115]; refine zupX_z ?_
    rw [eX107]; refine zupX_z ?_
    rw [eX98]; refine zupX_z ?_
    rw [eX90]; refine zupX_z ?_
    rw [eX82]; refine zupX_z ?_
    rw [eX73]; refine zupX_z ?_
    rw [eX64]; exact zupX_s
  have zx11 : X190 q73 = fun _ => 0 := by
    rw [eX190]; refine zupX_z ?_
    rw [eX182]; refine zupX_z ?_
    rw [eX174]; refine zupX_z ?_
    rw [eX166]; refine zupX_z ?_
    rw [eX158]; refine zupX_z ?_
    rw [eX152, up2_o (Ne.symm hn73)]
    rw [eX145, up2_o (Ne.symm hn73)]
    rw [eX138, up2_o (Ne.symm hn73)]
    rw [eX132, up2_o (Ne.symm hn73)]
    rw [eX125]; refine zupX_z ?_
    rw [eX115]; refine zupX_z ?_
    rw [eX107]; refine zupX_z ?_
    rw [eX98]; refine zupX_z ?_
    rw [eX90]; refine zupX_z ?_
    rw [eX82]; refine zupX_z ?_
    rw [eX73]; exact zupX_s
  have zx17 : X190 q82 = fun _ => 0 := by
    rw [eX190]; refine zupX_z ?_
    rw [eX182]; refine zupX_z ?_
    rw [eX174]; refine zupX_z ?_
    rw [eX166]; refine zupX_z ?_
    rw [eX158]; refine zupX_z ?_
    rw [eX152, up2_o (Ne.symm hn82)]
    rw [eX145, up2_o (Ne.symm hn82)]
    rw [eX138, up2_o (Ne.symm hn82)]
    rw [eX132, up2_o (Ne.symm hn82)]
    rw [eX125]; refine zupX_z ?_
    rw [eX115]; refine zupX_z ?_
    rw [eX107]; refine zupX_z ?_
    rw [eX98]; refine zupX_z ?_
    rw [eX90]; refine zupX_z ?_
    rw [eX82]; exact zupX_s
  have zx18 : X190 q90 = fun _ => 0 := by
    rw [eX190]; refine zupX_z ?_
    rw [eX182]; refine zupX_z ?_
    rw [eX174]; refine zupX_z ?_
    rw [eX166]; refine zupX_z ?_
    rw [eX158]; refine zupX_z ?_
    rw [eX152, up2_o (Ne.symm hn90)]
    rw [eX145, up2_o (Ne.symm hn90)]
    rw [eX138, up2_o (Ne.symm hn90)]
    rw [eX132, up2_o (Ne.symm hn90)]
    rw [eX125]; refine zupX_z ?_
    rw [eX115]; refine zupX_z ?_
    rw [eX107]; refine zupX_z ?_
    rw [eX98]; refine zupX_z ?_
    rw [eX90]; exact zupX_s
  have zx19 : X190 q98 = fun _ => 0 := by
    rw [eX190]; refine zupX_z ?_
    rw [eX182]; refine zupX_z ?_
    rw [eX174]; refine zupX_z ?_
    rw [eX166]; refine zupX_z ?_
    rw [eX158]; refine zupX_z ?_
    rw [eX152, up2_o (Ne.symm hn98)]
    rw [eX145, up2_o (Ne.symm hn98)]
    rw [eX138, up2_o (Ne.symm hn98)]
    rw [eX132, up2_o (Ne.symm hn98)]
    rw [eX125]; refine zupX_z ?_
    rw [eX115]; refine zupX_z ?_
    rw [eX107]; refine zupX_z ?_
    rw [eX98]; exact zupX_s
  have zx20 : X190 q107 = fun _ => 0 := by
    rw [eX190]; refine zupX_z ?_
    rw [eX182]; refine zupX_z ?_
    rw [eX174]; refine zupX_z ?_
    rw [eX166]; refine zupX_z ?_
    rw [eX158]; refine zupX_z ?_
    rw [eX152, up2_o (Ne.symm hn107)]
    rw [eX145, up2_o (Ne.symm hn107)]
    rw [eX138, up2_o (Ne.symm hn107)]
    rw [eX132, up2_o (Ne.symm hn107)]
    rw [eX125]; refine zupX_z ?_
    rw [eX115]; refine zupX_z ?_
    rw [eX107]; exact zupX_s
  have zx22 : X190 q115 = fun _ => 0 := by
    rw [eX190]; refine zupX_z ?_
    rw [eX182]; refine zupX_z ?_
    rw [eX174]; refine zupX_z ?_
    rw [eX166]; refine zupX_z ?_
    rw [eX158]; refine zupX_z ?_
    rw [eX152, up2_o (Ne.symm hn115)]
    rw [eX145, up2_o (Ne.symm hn115)]
    rw [eX138, up2_o (Ne.symm hn115)]
    rw [eX132, up2_o (Ne.symm hn115)]
    rw [eX125]; refine zupX_z ?_
    rw [eX115]; exact zupX_s
  have zx23 : X190 q125 = fun _ => 0 := by
    rw [eX190]; refine zupX_z ?_
    rw [eX182]; refine zupX_z ?_
    rw [eX174]; refine zupX_z ?_
    rw [eX166]; refine zupX_z ?_
    rw [eX158]; refine zupX_z ?_
    rw [eX152, up2_o (Ne.symm hn125)]
    rw [eX145, up2_o (Ne.symm hn125)]
    rw [eX138, up2_o (Ne.symm hn125)]
    rw [eX132, up2_o (Ne.symm hn125)]
    rw [eX125]; exact zupX_s
  have zx30 : X190 q158 = fun _ => 0 := by
    rw [eX190]; refine zupX_z ?_
    rw [eX182]; refine zupX_z ?_
    rw [eX174]; refine zupX_z ?_
    rw [eX166]; refine zupX_z ?_
    rw [eX158]; exact zupX_s
  have zx31 : X190 q166 = fun _ => 0 := by
    rw [eX190]; refine zupX_z ?_
    rw [eX182]; refine zupX_z ?_
    rw [eX174]; refine zupX_z ?_
    rw [eX166]; exact zupX_s
  have zx32 : X190 q174 = fun _ => 0 := by
    rw [eX190]; refine zupX_z ?_
    rw [eX182]; refine zupX_z ?_
    rw [eX174]; exact zupX_s
  have zx33 : X190 q182 = fun _ => 0 := by
    rw [eX190]; refine zupX_z ?_
    rw [eX182]; exact zupX_s
  have zx34 : X190 q190 = fun _ => 0 := by
    rw [eX190]; exact zupX_s
  have zr22 : R192 q115 = fun _ => none := by
    rw [eR192, up2_o (Ne.symm hn115)]
    rw [eR190]; refine zupR_z ?_
    rw [eR184, up2_o (Ne.symm hn115)]
    rw [eR182]; refine zupR_z ?_
    rw [eR176, up2_o (Ne.symm hn115)]
    rw [eR174]; refine zupR_z ?_
    rw [eR168, up2_o (Ne.symm hn115)]
    rw [eR166]; refine zupR_z ?_
    rw [eR160, up2_o (Ne.symm hn115)]
    rw [eR158]; refine zupR_z ?_
    rw [eR127, up2_o (Ne.symm hn115)]
    rw [eR125]; refine zupR_z ?_
    rw [eR118, up2_o (Ne.symm hn115)]
    rw [eR115]; exact zupR_s
  have m1 : X190 md 1 = 0 := by
    rw [eX190, zupX_n hn190]
    rw [eX182, zupX_n hn182]
    rw [eX174, zupX_n hn174]
    rw [eX166, zupX_n hn166]
    rw [eX158, zupX_n hn158]
    rw [eX152, up2_k (by decide)]
    rw [eX145, up2_k (by decide)]
    rw [eX138, up2_k (by decide)]
    rw [eX132, up2_k (by decide)]
    rw [eX125, zupX_n hn125]
    rw [eX115, zupX_n hn115]
    rw [eX107, zupX_n hn107]
    rw [eX98, zupX_n hn98]
    rw [eX90, zupX_n hn90]
    rw [eX82, zupX_n hn82]
    rw [eX73, zupX_n hn73]
    rw [eX64, zupX_n hn64]
    rw [eX56, zupX_n hn56]
    rw [eX48, zupX_n hn48]
    rw [eX39, zupX_n hn39]
    rw [eX31, zupX_n hn31]
    rw [eX23, zupX_n hn23]
    rw [eX15, zupX_n hn15]
    rw [eX7, zupX_n hn7]
    rw [hz]
  have m5 : X190 md 5 = 0 := by
    rw [eX190, zupX_n hn190]
    rw [eX182, zupX_n hn182]
    rw [eX174, zupX_n hn174]
    rw [eX166, zupX_n hn166]
    rw [eX158, zupX_n hn158]
    rw [eX152, up2_k (by decide)]
    rw [eX145, up2_k (by decide)]
    rw [eX138, up2_k (by decide)]
    rw [eX132, up2_k (by decide)]
    rw [eX125, zupX_n hn125]
    rw [eX115, zupX_n hn115]
    rw [eX107, zupX_n hn107]
    rw [eX98, zupX_n hn98]
    rw [eX90, zupX_n hn90]
    rw [eX82, zupX_n hn82]
    rw [eX73, zupX_n hn73]
    rw [eX64, zupX_n hn64]
    rw [eX56, zupX_n hn56]
    rw [eX48, zupX_n hn48]
    rw [eX39, zupX_n hn39]
    rw [eX31, zupX_n hn31]
    rw [eX23, zupX_n hn23]
    rw [eX15, zupX_n hn15]
    rw [eX7, zupX_n hn7]
    rw [hz]
  have m16 : X190 md 16 = 0 := by
    rw [eX190, zupX_n hn190]
    rw [eX182, zupX_n hn182]
    rw [eX174, zupX_n hn174]
    rw [eX166, zupX_n hn166]
    rw [eX158, zupX_n hn158]
    rw [eX152, up2_k (by decide)]
    rw [eX145, up2_k (by decide)]
    rw [eX138, up2_k (by decide)]
    rw [eX132, up2_k (by decide)]
    rw [eX125, zupX_n hn125]
    rw [eX115, zupX_n hn115]
    rw [eX107, zupX_n hn107]
    rw [eX98, zupX_n hn98]
    rw [eX90, zupX_n hn90]
    rw [eX82, zupX_n hn82]
    rw [eX73, zupX_n hn73]
    rw [eX64, zupX_n hn64]
    rw [eX56, zupX_n hn56]
    rw [eX48, zupX_n hn48]
    rw [eX39, zupX_n hn39]
    rw [eX31, zupX_n hn31]
    rw [eX23, zupX_n hn23]
    rw [eX15, zupX_n hn15]
    rw [eX7, zupX_n hn7]
    rw [hz]
  have m29 : X190 md 29 = 0 := by
    rw [eX190, zupX_n hn190]
    rw [eX182, zupX_n hn182]
    rw [eX174, zupX_n hn174]
    rw [eX166, zupX_n hn166]
    rw [eX158, zupX_n hn158]
    rw [eX152, up2_k (by decide)]
    rw [eX145, up2_k (by decide)]
    rw [eX138, up2_k (by decide)]
    rw [eX132, up2_k (by decide)]
    rw [eX125, zupX_n hn125]
    rw [eX115, zupX_n hn115]
    rw [eX107, zupX_n hn107]
    rw [eX98, zupX_n hn98]
    rw [eX90, zupX_n hn90]
    rw [eX82, zupX_n hn82]
    rw [eX73, zupX_n hn73]
    rw [eX64, zupX_n hn64]
    rw [eX56, zupX_n hn56]
    rw [eX48, zupX_n hn48]
    rw [eX39, zupX_n hn39]
    rw [eX31, zupX_n hn31]
    rw [eX23, zupX_n hn23]
    rw [eX15, zupX_n hn15]
    rw [eX7, zupX_n hn7]
    rw [hz]
  have m35 : X190 md 35 = 0 := by
    rw [eX190, zupX_n hn190]
    rw [eX182, zupX_n hn182]
    rw [eX174, zupX_n hn174]
    rw [eX166, zupX_n hn166]
    rw [eX158, zupX_n hn158]
    rw [eX152, up2_k (by decide)]
    rw [eX145, up2_k (by decide)]
    rw [eX138, up2_k (by decide)]
    rw [eX132, up2_k (by decide)]
    rw [eX125, zupX_n hn125]
    rw [eX115, zupX_n hn115]
    rw [eX107, zupX_n hn107]
    rw [eX98, zupX_n hn98]
    rw [eX90, zupX_n hn90]
    rw [eX82, zupX_n hn82]
    rw [eX73, zupX_n hn73]
    rw [eX64, zupX_n hn64]
    rw [eX56, zupX_n hn56]
    rw [eX48, zupX_n hn48]
    rw [eX39, zupX_n hn39]
    rw [eX31, zupX_n hn31]
    rw [eX23, zupX_n hn23]
    rw [eX15, zupX_n hn15]
    rw [eX7, zupX_n hn7]
    rw [hz]
  have m25 : X190 md 25 = -1 := by
    rw [eX190, zupX_n hn190]
    rw [eX182, zupX_n hn182]
    rw [eX174, zupX_n hn174]
    rw [eX166, zupX_n hn166]
    rw [eX158, zupX_n hn158]
    rw [eX152, up2_k (by decide)]
    rw [eX145, up2_k (by decide)]
    rw [eX138, up2_k (by decide)]
    rw [eX132]; exact up2_s
  have m26 : X190 md 26 = 31 := by
    rw [eX190, zupX_n hn190]
    rw [eX182, zupX_n hn182]
    rw [eX174, zupX_n hn174]
    rw [eX166, zupX_n hn166]
    rw [eX158, zupX_n hn158]
    rw [eX152, up2_k (by decide)]
    rw [eX145, up2_k (by decide)]
    rw [eX138]; exact up2_s
  have m27 : X190 md 27 = 540 := by
    rw [eX190, zupX_n hn190]
    rw [eX182, zupX_n hn182]
    rw [eX174, zupX_n hn174]
    rw [eX166, zupX_n hn166]
    rw [eX158, zupX_n hn158]
    rw [eX152, up2_k (by decide)]
    rw [eX145]; exact up2_s
  have m28 : X190 md 28 = 1020 := by
    rw [eX190, zupX_n hn190]
    rw [eX182, zupX_n hn182]
    rw [eX174, zupX_n hn174]
    rw [eX166, zupX_n hn166]
    rw [eX158, zupX_n hn158]
    rw [eX152]; exact up2_s
  have f07 : (K q7).1 = 0 := by
    by_cases g : (K q7).1 = 0
    · exact g
    · exfalso; have h9 := hfq7
      exact g h9
  have f015 : (K q15).1 = 0 := by
    by_cases g : (K q15).1 = 0
    · exact g
    · exfalso; have h9 := hfq15
      rw [eK7, zup_n (zfa g f07)] at h9
      exact g h9
  have f023 : (K q23).1 = 0 := by
    by_cases g : (K q23).1 = 0
    · exact g
    · exfalso; have h9 := hfq23
      rw [eK15, zup_n (zfa g f015), eK7, zup_n (zfa g f07)] at h9
      exact g h9
  have f031 : (K q31).1 = 0 := by
    by_cases g : (K q31).1 = 0
    · exact g
    · exfalso; have h9 := hfq31
      rw [eK23, zup_n (zfa g f023), eK15, zup_n (zfa g f015), eK7, zup_n (zfa g f07)] at h9
      exact g h9
  have f039 : (K q39).1 = 0 := by
    by_cases g : (K q39).1 = 0
    · exact g
    · exfalso; have h9 := hfq39
      rw [eK31, zup_n (zfa g f031), eK23, zup_n (zfa g f023), eK15, zup_n (zfa g f015), eK7, zup_n (zfa g f07)] at h9
      exact g h9
  have f048 : (K q48).1 = 0 := by
    by_cases g : (K q48).1 = 0
    · exact g
    · exfalso; have h9 := hfq48
      rw [eK39, zup_n (zfa g f039), eK31, zup_n (zfa g f031), eK23, zup_n (zfa g f023), eK15, zup_n (zfa g f015), eK7, zup_n (zfa g f07)] at h9
      exact g h9
  have f056 : (K q56).1 = 0 := by
    by_cases g : (K q56).1 = 0
    · exact g
    · exfalso; have h9 := hfq56
      rw [eK48, zup_n (zfa g f048), eK39, zup_n (zfa g f039), eK31, zup_n (zfa g f031), eK23, zup_n (zfa g f023), eK15, zup_n (zfa g f015), eK7, zup_n (zfa g f07)] at h9
      exact g h9
  have f064 : (K q64).1 = 0 := by
    by_cases g : (K q64).1 = 0
    · exact g
    · exfalso; have h9 := hfq64
      rw [eK56, zup_n (zfa g f056), eK48, zup_n (zfa g f048), eK39, zup_n (zfa g f039), eK31, zup_n (zfa g f031), eK23, zup_n (zfa g f023), eK15, zup_n (zfa g f015), eK7, zup_n (zfa g f07)] at h9
      exact g h9
  have f073 : (K q73).1 = 0 := by
    by_cases g : (K q73).1 = 0
    · exact g
    · exfalso; have h9 := hfq73
      rw [eK64, zup_n (zfa g f064), eK56, zup_n (zfa g f056), eK48, zup_n (zfa g f048), eK39, zup_n (zfa g f039), eK31, zup_n (zfa g f031), eK23, zup_n (zfa g f023), eK15, zup_n (zfa g f015), eK7, zup_n (zfa g f07)] at h9
      exact g h9
  have f082 : (K q82).1 = 0 := by
    by_cases g : (K q82).1 = 0
    · exact g
    · exfalso; have h9 := hfq82
      rw [eK73, zup_n (zfa g f073), eK64, zup_n (zfa g f064), eK56, zup_n (zfa g f056), eK48, zup_n (zfa g f048), eK39, zup_n (zfa g f039), eK31, zup_n (zfa g f031), eK23, zup_n (zfa g f023), eK15, zup_n (zfa g f015), eK7, zup_n (zfa g f07)] at h9
      exact g h9
  have f090 : (K q90).1 = 0 := by
    by_cases g : (K q90).1 = 0
    · exact g
    · exfalso; have h9 := hfq90
      rw [eK82, zup_n (zfa g f082), eK73, zup_n (zfa g f073), eK64, zup_n (zfa g f064), eK56, zup_n (zfa g f056), eK48, zup_n (zfa g f048), eK39, zup_n (zfa g f039), eK31, zup_n (zfa g f031), eK23, zup_n (zfa g f023), eK15, zup_n (zfa g f015), eK7, zup_n (zfa g f07)] at h9
      exact g h9
  have f098 : (K q98).1 = 0 := by
    by_cases g : (K q98).1 = 0
    · exact g
    · exfalso; have h9 := hfq98
      rw [eK90, zup_n (zfa g f090), eK82, zup_n (zfa g f082), eK73, zup_n (zfa g f073), eK64, zup_n (zfa g f064), eK56, zup_n (zfa g f056), eK48, zup_n (zfa g f048), eK39, zup_n (zfa g f039), eK31, zup_n (zfa g f031), eK23, zup_n (zfa g f023), eK15, zup_n (zfa g f015), eK7, zup_n (zfa g f07)] at h9
      exact g h9
  have f0107 : (K q107).1 = 0 := by
    by_cases g : (K q107).1 = 0
    · exact g
    · exfalso; have h9 := hfq107
      rw [eK98, zup_n (zfa g f098), eK90, zup_n (zfa g f090), eK82, zup_n (zfa g f082), eK73, zup_n (zfa g f073), eK64, zup_n (zfa g f064), eK56, zup_n (zfa g f056), eK48, zup_n (zfa g f048), eK39, zup_n (zfa g f039), eK31, zup_n (zfa g f031), eK23, zup_n (zfa g f023), eK15, zup_n (zfa g f015), eK7, zup_n (zfa g f07)] at h9
      exact g h9
  have f0115 : (K q115).1 = 0 := by
    by_cases g : (K q115).1 = 0
    · exact g
    · exfalso; have h9 := hfq115
      rw [eK107, zup_n (zfa g f0107), eK98, zup_n (zfa g f098), eK90, zup_n (zfa g f090), eK82, zup_n (zfa g f082), eK73, zup_n (zfa g f073), eK64, zup_n (zfa g f064), eK56, zup_n (zfa g f056), eK48, zup_n (zfa g f048), eK39, zup_n (zfa g f039), eK31, zup_n (zfa g f031), eK23, zup_n (zfa g f023), eK15, zup_n (zfa g f015), eK7, zup_n (zfa g f07)] at h9
      exact g h9
  have f0125 : (K q125).1 = 0 := by
    by_cases g : (K q125).1 = 0
    · exact g
    · exfalso; have h9 := hfq125
      rw [eK115, zup_n (zfa g f0115), eK107, zup_n (zfa g f0107), eK98, zup_n (zfa g f098), eK90, zup_n (zfa g f090), eK82, zup_n (zfa g f082), eK73, zup_n (zfa g f073), eK64, zup_n (zfa g f064), eK56, zup_n (zfa g f056), eK48, zup_n (zfa g f048), eK39, zup_n (zfa g f039), eK31, zup_n (zfa g f031), eK23, zup_n (zfa g f023), eK15, zup_n (zfa g f015), eK7, zup_n (zfa g f07)] at h9
      exact g h9
  have f0158 : (K q158).1 = 0 := by
    by_cases g : (K q158).1 = 0
    · exact g
    · exfalso; have h9 := hfq158
      rw [eK125, zup_n (zfa g f0125), eK115, zup_n (zfa g f0115), eK107, zup_n (zfa g f0107), eK98, zup_n (zfa g f098), eK90, zup_n (zfa g f090), eK82, zup_n (zfa g f082), eK73, zup_n (zfa g f073), eK64, zup_n (zfa g f064), eK56, zup_n (zfa g f056), eK48, zup_n (zfa g f048), eK39, zup_n (zfa g f039), eK31, zup_n (zfa g f031), eK23, zup_n (zfa g f023), eK15, zup_n (zfa g f015), eK7, zup_n (zfa g f07)] at h9
      exact g h9
  have f0166 : (K q166).1 = 0 := by
    by_cases g : (K q166).1 = 0
    · exact g
    · exfalso; have h9 := hfq166
      rw [eK158, zup_n (zfa g f0158), eK125, zup_n (zfa g f0125), eK115, zup_n (zfa g f0115), eK107, zup_n (zfa g f0107), eK98, zup_n (zfa g f098), eK90, zup_n (zfa g f090), eK82, zup_n (zfa g f082), eK73, zup_n (zfa g f073), eK64, zup_n (zfa g f064), eK56, zup_n (zfa g f056), eK48, zup_n (zfa g f048), eK39, zup_n (zfa g f039), eK31, zup_n (zfa g f031), eK23, zup_n (zfa g f023), eK15, zup_n (zfa g f015), eK7, zup_n (zfa g f07)] at h9
      exact g h9
  have f0174 : (K q174).1 = 0 := by
    by_cases g : (K q174).1 = 0
    · exact g
    · exfalso; have h9 := hfq174
      rw [eK166, zup_n (zfa g f0166), eK158, zup_n (zfa g f0158), eK125, zup_n (zfa g f0125), eK115, zup_n (zfa g f0115), eK107, zup_n (zfa g f0107), eK98, zup_n (zfa g f098), eK90, zup_n (zfa g f090), eK82, zup_n (zfa g f082), eK73, zup_n (zfa g f073), eK64, zup_n (zfa g f064), eK56, zup_n (zfa g f056), eK48, zup_n (zfa g f048), eK39, zup_n (zfa g f039), eK31, zup_n (zfa g f031), eK23, zup_n (zfa g f023), eK15, zup_n (zfa g f015), eK7, zup_n (zfa g f07)] at h9
      exact g h9
  have f0182 : (K q182).1 = 0 := by
    by_cases g : (K q182).1 = 0
    · exact g
    · exfalso; have h9 := hfq182
      rw [eK174, zup_n (zfa g f0174), eK166, zup_n (zfa g f0166), eK158, zup_n (zfa g f0158), eK125, zup_n (zfa g f0125), eK115, zup_n (zfa g f0115), eK107, zup_n (zfa g f0107), eK98, zup_n (zfa g f098), eK90, zup_n (zfa g f090), eK82, zup_n (zfa g f082), eK73, zup_n (zfa g f073), eK64, zup_n (zfa g f064), eK56, zup_n (zfa g f056), eK48, zup_n (zfa g f048), eK39, zup_n (zfa g f039), eK31, zup_n (zfa g f031), eK23, zup_n (zfa g f023), eK15, zup_n (zfa g f015), eK7, zup_n (zfa g f07)] at h9
      exact g h9
  have f0190 : (K q190).1 = 0 := by
    by_cases g : (K q190).1 = 0
    · exact g
    · exfalso; have h9 := hfq190
      rw [eK182, zup_n (zfa g f0182), eK174, zup_n (zfa g f0174), eK166, zup_n (zfa g f0166), eK158, zup_n (zfa g f0158), eK125, zup_n (zfa g f0125), eK115, zup_n (zfa g f0115), eK107, zup_n (zfa g f0107), eK98, zup_n (zfa g f098), eK90, zup_n (zfa g f090), eK82, zup_n (zfa g f082), eK73, zup_n (zfa g f073), eK64, zup_n (zfa g f064), eK56, zup_n (zfa g f056), eK48, zup_n (zfa g f048), eK39, zup_n (zfa g f039), eK31, zup_n (zfa g f031), eK23, zup_n (zfa g f023), eK15, zup_n (zfa g f015), eK7, zup_n (zfa g f07)] at h9
      exact g h9
  have hold : ∀ b, (K b).1 ≠ 0 → b ≠ md → K190 b = K b ∧ X190 b = X b ∧ R192 b = Rf b := fun b hb hm => by
    refine ⟨?_, ?_, ?_⟩
    · rw [eK190, zup_n (zfa hb f0190), eK182, zup_n (zfa hb f0182), eK174, zup_n (zfa hb f0174), eK166, zup_n (zfa hb f0166), eK158, zup_n (zfa hb f0158), eK125, zup_n (zfa hb f0125), eK115, zup_n (zfa hb f0115), eK107, zup_n (zfa hb f0107), eK98, zup_n (zfa hb f098), eK90, zup_n (zfa hb f090), eK82, zup_n (zfa hb f082), eK73, zup_n (zfa hb f073), eK64, zup_n (zfa hb f064), eK56, zup_n (zfa hb f056), eK48, zup_n (zfa hb f048), eK39, zup_n (zfa hb f039), eK31, zup_n (zfa hb f031), eK23, zup_n (zfa hb f023), eK15, zup_n (zfa hb f015), eK7, zup_n (zfa hb f07)]
    · rw [eX190, zupX_n (zfa hb f0190), eX182, zupX_n (zfa hb f0182), eX174, zupX_n (zfa hb f0174), eX166, zupX_n (zfa hb f0166), eX158, zupX_n (zfa hb f0158), eX152, up2_o hm, eX145, up2_o hm, eX138, up2_o hm, eX132, up2_o hm, eX125, zupX_n (zfa hb f0125), eX115, zupX_n (zfa hb f0115), eX107, zupX_n (zfa hb f0107), eX98, zupX_n (zfa hb f098), eX90, zupX_n (zfa hb f090), eX82, zupX_n (zfa hb f082), eX73, zupX_n (zfa hb f073), eX64, zupX_n (zfa hb f064), eX56, zupX_n (zfa hb f056), eX48, zupX_n (zfa hb f048), eX39, zupX_n (zfa hb f039), eX31, zupX_n (zfa hb f031), eX23, zupX_n (zfa hb f023), eX15, zupX_n (zfa hb f015), eX7, zupX_n (zfa hb f07)]
    · rw [eR192, up2_o hm, eR190, zupR_n (zfa hb f0190), eR184, up2_o hm, eR182, zupR_n (zfa hb f0182), eR176, up2_o hm, eR174, zupR_n (zfa hb f0174), eR168, up2_o hm, eR166, zupR_n (zfa hb f0166), eR160, up2_o hm, eR158, zupR_n (zfa hb f0158), eR127, up2_o hm, eR125, zupR_n (zfa hb f0125), eR118, up2_o hm, eR115, zupR_n (zfa hb f0115), eR109, up2_o hm, eR107, zupR_n (zfa hb f0107), eR100, up2_o hm, eR98, zupR_n (zfa hb f098), eR92, up2_o hm, eR90, zupR_n (zfa hb f090), eR84, up2_o hm, eR82, zupR_n (zfa hb f082), eR76, up2_o hm, eR73, zupR_n (zfa hb f073), eR67, up2_o hm, eR64, zupR_n (zfa hb f064), eR58, up2_o hm, eR56, zupR_n (zfa hb f056), eR50, up2_o hm, eR48, zupR_n (zfa hb f048), eR41, up2_o hm, eR39, zupR_n (zfa hb f039), eR33, up2_o hm, eR31, zupR_n (zfa hb f031), eR25, up2_o hm, eR23, zupR_n (zfa hb f023), eR17, up2_o hm, eR15, zupR_n (zfa hb f015), eR9, up2_o hm, eR7, zupR_n (zfa hb f07)]
  obtain ⟨ρ', hρ⟩ : ∃ ρ' : zL, ρ' = fun b => if b = md then 2000 else if b = q190 then 2035 else if b = q182 then 2034 else if b = q174 then 2033 else if b = q166 then 2032 else if b = q158 then 2031 else if b = q125 then 2024 else if b = q115 then 2023 else if b = q107 then 2021 else if b = q98 then 2020 else if b = q90 then 2019 else if b = q82 then 2018 else if b = q73 then 2012 else if b = q64 then 2011 else if b = q56 then 2010 else if b = q48 then 2009 else if b = q39 then 2008 else if b = q31 then 2007 else if b = q23 then 2005 else if b = q15 then 2004 else if b = q7 then 2003 else ρ b := ⟨_, rfl⟩
  have hlo : ∀ b, (K b).1 ≠ 0 → b ≠ md → ρ' b = ρ b := fun b hb hm => by rw [hρ]; dsimp only; rw [if_neg hm, if_neg (zfa hb f0190), if_neg (zfa hb f0182), if_neg (zfa hb f0174), if_neg (zfa hb f0166), if_neg (zfa hb f0158), if_neg (zfa hb f0125), if_neg (zfa hb f0115), if_neg (zfa hb f0107), if_neg (zfa hb f098), if_neg (zfa hb f090), if_neg (zfa hb f082), if_neg (zfa hb f073), if_neg (zfa hb f064), if_neg (zfa hb f056), if_neg (zfa hb f048), if_neg (zfa hb f039), if_neg (zfa hb f031), if_neg (zfa hb f023), if_neg (zfa hb f015), if_neg (zfa hb f07)]
  have hlm : ρ' md = 2000 := by rw [hρ]; dsimp only; rw [if_pos rfl]
  have l2 : ρ' q7 = 2003 := by rw [hρ]; dsimp only; rw [if_neg (Ne.symm hn7), if_neg hn190_1, if_neg hn182_1, if_neg hn174_1, if_neg hn166_1, if_neg hn158_1, if_neg hn125_1, if_neg hn115_1, if_neg hn107_1, if_neg hn98_1, if_neg hn90_1, if_neg hn82_1, if_neg hn73_1, if_neg hn64_1, if_neg hn56_1, if_neg hn48_1, if_neg hn39_1, if_neg hn31_1, if_neg hn23_1, if_neg hn15_1, if_pos rfl]
  have l3 : ρ' q15 = 2004 := by rw [hρ]; dsimp only; rw [if_neg (Ne.symm hn15), if_neg hn190_2, if_neg hn182_2, if_neg hn174_2, if_neg hn166_2, if_neg hn158_2, if_neg hn125_2, if_neg hn115_2, if_neg hn107_2, if_neg hn98_2, if_neg hn90_2, if_neg hn82_2, if_neg hn73_2, if_neg hn64_2, if_neg hn56_2, if_neg hn48_2, if_neg hn39_2, if_neg hn31_2, if_neg hn23_2, if_pos rfl]
  have l4 : ρ' q23 = 2005 := by rw [hρ]; dsimp only; rw [if_neg (Ne.symm hn23), if_neg hn190_3, if_neg hn182_3, if_neg hn174_3, if_neg hn166_3, if_neg hn158_3, if_neg hn125_3, if_neg hn115_3, if_neg hn107_3, if_neg hn98_3, if_neg hn90_3, if_neg hn82_3, if_neg hn73_3, if_neg hn64_3, if_neg hn56_3, if_neg hn48_3, if_neg hn39_3, if_neg hn31_3, if_pos rfl]
  have l6 : ρ' q31 = 2007 := by rw [hρ]; dsimp only; rw [if_neg (Ne.symm hn31), if_neg hn190_4, if_neg hn182_4, if_neg hn174_4, if_neg hn166_4, if_neg hn158_4, if_neg hn125_4, if_neg hn115_4, if_neg hn107_4, if_neg hn98_4, if_neg hn90_4, if_neg hn82_4, if_neg hn73_4, if_neg hn64_4, if_neg hn56_4, if_neg hn48_4, if_neg hn39_4, if_pos rfl]
  have l7 : ρ' q39 = 2008 := by rw [hρ]; dsimp only; rw [if_neg (Ne.symm hn39), if_neg hn190_5, if_neg hn182_5, if_neg hn174_5, if_neg hn166_5, if_neg hn158_5, if_neg hn125_5, if_neg hn115_5, if_neg hn107_5, if_neg hn98_5, if_neg hn90_5, if_neg hn82_5, if_neg hn73_5, if_neg hn64_5, if_neg hn56_5, if_neg hn48_5, if_pos rfl]
  have l8 : ρ' q48 = 2009 := by rw [hρ]; dsimp only; rw [if_neg (Ne.symm hn48), if_neg hn190_6, if_neg hn182_6, if_neg hn174_6, if_neg hn166_6, if_neg hn158_6, if_neg hn125_6, if_neg hn115_6, if_neg hn107_6, if_neg hn98_6, if_neg hn90_6, if_neg hn82_6, if_neg hn73_6, if_neg hn64_6, if_neg hn56_6, if_pos rfl]
  have l9 : ρ' q56 = 2010 := by rw [hρ]; dsimp only; rw [if_neg (Ne.symm hn56), if_neg hn190_7, if_neg hn182_7, if_neg hn174_7, if_neg hn166_7, if_neg hn158_7, if_neg hn125_7, if_neg hn115_7, if_neg hn107_7, if_neg hn98_7, if_neg hn90_7, if_neg hn82_7, if_neg hn73_7, if_neg hn64_7, if_pos rfl]
  have l10 : ρ' q64 = 2011 := by rw [hρ]; dsimp only; rw [if_neg (Ne.symm hn64), if_neg hn190_8, if_neg hn182_8, if_neg hn174_8, if_neg hn166_8, if_neg hn158_8, if_neg hn125_8, if_neg hn115_8, if_neg hn107_8, if_neg hn98_8, if_neg hn90_8, if_neg hn82_8, if_neg hn73_8, if_pos rfl]
  have l11 : ρ' q73 = 2012 := by rw [hρ]; dsimp only; rw [if_neg (Ne.symm hn73), if_neg hn190_9, if_neg hn182_9, if_neg hn174_9, if_neg hn166_9, if_neg hn158_9, if_neg hn125_9, if_neg hn115_9, if_neg hn107_9, if_neg hn98_9, if_neg hn90_9, if_neg hn82_9, if_pos rfl]
  have l17 : ρ' q82 = 2018 := by rw [hρ]; dsimp only; rw [if_neg (Ne.symm hn82), if_neg hn190_10, if_neg hn182_10, if_neg hn174_10, if_neg hn166_10, if_neg hn158_10, if_neg hn125_10, if_neg hn115_10, if_neg hn107_10, if_neg hn98_10, if_neg hn90_10, if_pos rfl]
  have l18 : ρ' q90 = 2019 := by rw [hρ]; dsimp only; rw [if_neg (Ne.symm hn90), if_neg hn190_11, if_neg hn182_11, if_neg hn174_11, if_neg hn166_11, if_neg hn158_11, if_neg hn125_11, if_neg hn115_11, if_neg hn107_11, if_neg hn98_11, if_pos rfl]
  have l19 : ρ' q98 = 2020 := by rw [hρ]; dsimp only; rw [if_neg (Ne.symm hn98), if_neg hn190_12, if_neg hn182_12, if_neg hn174_12, if_neg hn166_12, if_neg hn158_12, if_neg hn125_12, if_neg hn115_12, if_neg hn107_12, if_pos rfl]
  have l20 : ρ' q107 = 2021 := by rw [hρ]; dsimp only; rw [if_neg (Ne.symm hn107), if_neg hn190_13, if_neg hn182_13, if_neg hn174_13, if_neg hn166_13, if_neg hn158_13, if_neg hn125_13, if_neg hn115_13, if_pos rfl]
  have l22 : ρ' q115 = 2023 := by rw [hρ]; dsimp only; rw [if_neg (Ne.symm hn115), if_neg hn190_14, if_neg hn182_14, if_neg hn174_14, if_neg hn166_14, if_neg hn158_14, if_neg hn125_14, if_pos rfl]
  have l23 : ρ' q125 = 2024 := by rw [hρ]; dsimp only; rw [if_neg (Ne.symm hn125), if_neg hn190_15, if_neg hn182_15, if_neg hn174_15, if_neg hn166_15, if_neg hn158_15, if_pos rfl]
  have l30 : ρ' q158 = 2031 := by rw [hρ]; dsimp only; rw [if_neg (Ne.symm hn158), if_neg hn190_16, if_neg hn182_16, if_neg hn174_16, if_neg hn166_16, if_pos rfl]
  have l31 : ρ' q166 = 2032 := by rw [hρ]; dsimp only; rw [if_neg (Ne.symm hn166), if_neg hn190_17, if_neg hn182_17, if_neg hn174_17, if_pos rfl]
  have l32 : ρ' q174 = 2033 := by rw [hρ]; dsimp only; rw [if_neg (Ne.symm hn174), if_neg hn190_18, if_neg hn182_18, if_pos rfl]
  have l33 : ρ' q182 = 2034 := by rw [hρ]; dsimp only; rw [if_neg (Ne.symm hn182), if_neg hn190_19, if_pos rfl]
  have l34 : ρ' q190 = 2035 := by rw [hρ]; dsimp only; rw [if_neg (Ne.symm hn190), if_pos rfl]
  obtain ⟨g, hgd⟩ : ∃ g : Nat → Nat, g = fun f => if f = 34 then q190 else if f = 33 then q182 else if f = 32 then q174 else if f = 31 then q166 else if f = 30 then q158 else if f = 23 then q125 else if f = 22 then q115 else if f = 20 then q107 else if f = 19 then q98 else if f = 18 then q90 else if f = 17 then q82 else if f = 11 then q73 else if f = 10 then q64 else if f = 9 then q56 else if f = 8 then q48 else if f = 7 then q39 else if f = 6 then q31 else if f = 4 then q23 else if f = 3 then q15 else if f = 2 then q7 else 0 := ⟨_, rfl⟩
  have g2 : g 2 = q7 := by rw [hgd]; rfl
  have g3 : g 3 = q15 := by rw [hgd]; rfl
  have g4 : g 4 = q23 := by rw [hgd]; rfl
  have g6 : g 6 = q31 := by rw [hgd]; rfl
  have g7 : g 7 = q39 := by rw [hgd]; rfl
  have g8 : g 8 = q48 := by rw [hgd]; rfl
  have g9 : g 9 = q56 := by rw [hgd]; rfl
  have g10 : g 10 = q64 := by rw [hgd]; rfl
  have g11 : g 11 = q73 := by rw [hgd]; rfl
  have g17 : g 17 = q82 := by rw [hgd]; rfl
  have g18 : g 18 = q90 := by rw [hgd]; rfl
  have g19 : g 19 = q98 := by rw [hgd]; rfl
  have g20 : g 20 = q107 := by rw [hgd]; rfl
  have g22 : g 22 = q115 := by rw [hgd]; rfl
  have g23 : g 23 = q125 := by rw [hgd]; rfl
  have g30 : g 30 = q158 := by rw [hgd]; rfl
  have g31 : g 31 = q166 := by rw [hgd]; rfl
  have g32 : g 32 = q174 := by rw [hgd]; rfl
  have g33 : g 33 = q182 := by rw [hgd]; rfl
  have g34 : g 34 = q190 := by rw [hgd]; rfl
  have hG := repR_new (g := g) hk190 hlm (fun f hf => kd_cases (P := fun f => R192 md f = some (g f) ∧ K190 (g f) = kdM f ∧ ρ' (g f) = 2001 + f) ⟨⟨by rw [g2]; exact hr192, by rw [g2]; exact hk190_1, by rw [g2]; exact l2⟩, ⟨by rw [g3]; exact hr192_1, by rw [g3]; exact hk190_2, by rw [g3]; exact l3⟩, ⟨by rw [g4]; exact hr192_2, by rw [g4]; exact hk190_3, by rw [g4]; exact l4⟩, ⟨by rw [g6]; exact hr192_3, by rw [g6]; exact hk190_4, by rw [g6]; exact l6⟩, ⟨by rw [g7]; exact hr192_4, by rw [g7]; exact hk190_5, by rw [g7]; exact l7⟩, ⟨by rw [g8]; exact hr192_5, by rw [g8]; exact hk190_6, by rw [g8]; exact l8⟩, ⟨by rw [g9]; exact hr192_6, by rw [g9]; exact hk190_7, by rw [g9]; exact l9⟩, ⟨by rw [g10]; exact hr192_7, by rw [g10]; exact hk190_8, by rw [g10]; exact l10⟩, ⟨by rw [g11]; exact hr192_8, by rw [g11]; exact hk190_9, by rw [g11]; exact l11⟩, ⟨by rw [g17]; exact hr192_9, by rw [g17]; exact hk190_10, by rw [g17]; exact l17⟩, ⟨by rw [g18]; exact hr192_10, by rw [g18]; exact hk190_11, by rw [g18]; exact l18⟩, ⟨by rw [g19]; exact hr192_11, by rw [g19]; exact hk190_12, by rw [g19]; exact l19⟩, ⟨by rw [g20]; exact hr192_12, by rw [g20]; exact hk190_13, by rw [g20]; exact l20⟩, ⟨by rw [g22]; exact hr192_13, by rw [g22]; exact hk190_14, by rw [g22]; exact l22⟩, ⟨by rw [g23]; exact hr192_14, by rw [g23]; exact hk190_15, by rw [g23]; exact l23⟩, ⟨by rw [g30]; exact hr192_15, by rw [g30]; exact hk190_16, by rw [g30]; exact l30⟩, ⟨by rw [g31]; exact hr192_16, by rw [g31]; exact hk190_17, by rw [g31]; exact l31⟩, ⟨by rw [g32]; exact hr192_17, by rw [g32]; exact hk190_18, by rw [g32]; exact l32⟩, ⟨by rw [g33]; exact hr192_18, by rw [g33]; exact hk190_19, by rw [g33]; exact l33⟩, ⟨by rw [g34]; exact hr192_19, by rw [g34]; exact hk190_20, by rw [g34]; exact l34⟩⟩ hf) (fun f hf => kd_cases (P := fun f => X190 (g f) = fun _ => 0) ⟨(by rw [g2]; exact zx2), (by rw [g3]; exact zx3), (by rw [g4]; exact zx4), (by rw [g6]; exact zx6), (by rw [g7]; exact zx7), (by rw [g8]; exact zx8), (by rw [g9]; exact zx9), (by rw [g10]; exact zx10), (by rw [g11]; exact zx11), (by rw [g17]; exact zx17), (by rw [g18]; exact zx18), (by rw [g19]; exact zx19), (by rw [g20]; exact zx20), (by rw [g22]; exact zx22), (by rw [g23]; exact zx23), (by rw [g30]; exact zx30), (by rw [g31]; exact zx31), (by rw [g32]; exact zx32), (by rw [g33]; exact zx33), (by rw [g34]; exact zx34)⟩ hf) (by rw [g22]; exact zr22) ⟨⟨m1, m5, m16, m29⟩, ⟨m25, m26, m27, m28⟩, m35⟩
  exact zretV (pc := 195) hx hb hlocks hr hw (by show 0 + 1 + 1 + 1 + 1 + 1 + 1 + 1 + 1 + 1 + 1 + 1 + 1 + 1 + 1 + 1 + 1 + 1 + 1 + 1 + 1 ≤ 20; omega) (by show 0 + 24 + 24 + 24 + 6 + 6 + 216 + 6 + 6 + 6 + 66 + 24 + 48 + 366 + 6 + 4001 + 20 + 20 + 20 + 20 + 73049 ≤ 77958; omega) dX9_init_195 (by exact ⟨hold, ρ', hlo, hG⟩)
