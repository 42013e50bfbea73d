set_option maxHeartbeats 4000000 in
set_option maxRecDepth 100000 in
theorem c_X0_init (l : Launch) (Γ : zG) (K : zK) (X : zX) (Rf : zR) (dr : Nat) (n : Nat) (hk : K dr = (1, 0)) (h1 : n ≤ 10000) : Ct l yX0_init cX0_init 2 none 2 1 n Γ [.ref dr, .int (iI (n : Int))] K X Rf (pV (fun (K' : zK) (X' : zX) (R' : zR) => ∃ na : Nat, ((∀ a, (K a).1 ≠ 0 → K' a = K a) ∧ (∀ a, (K a).1 ≠ 0 → a ≠ dr → X' a = X a ∧ R' a = Rf a)) ∧ ((K na).1 = 0 ∧ K' na = (2, n)) ∧ R' dr 0 = some na ∧ (X' dr 1 = 0 ∧ X' dr 2 = -1 ∧ ∀ j, X' na j = 0))) := by
  refine Ct.of (by decide +kernel) (Nat.le_of_ble_eq_true rfl) ?_
  intro p e s m below meth c ls hx hb hr hml hown hG hlocks hname hw hl
  have hl : lv_has ls 2 [(0, .ref dr), (1, .int (iI (n : Int)))] := hl
  have gK0 : ∀ a, (K a).1 ≠ 0 → K a = K a := fun _ _ => rfl
  have gX0 : ∀ a, (K a).1 ≠ 0 → a ≠ dr → X a = X a ∧ Rf a = Rf a := fun _ _ _ => ⟨rfl, rfl⟩
  refine lv_aload_n (pc := 0) hx hb dX0_init_0 rfl (lv_at hl 0 rfl) ?_
  refine W.objInit hx hb hown (hG _ wl_X0_1) (hG _ wm_objInit) (hG _ wc_objInit) rfl (by rw [hml]; exact hl.1) rfl dX0_init_1 (Nat.le_of_ble_eq_true rfl) (Nat.le_of_ble_eq_true rfl) ?_
  refine W.eq (g2 := F0 m 4 ls []) rfl ?_
  refine lv_aload_n (pc := 4) hx hb dX0_init_4 rfl (lv_at hl 0 rfl) ?_
  refine lv_iload_n (pc := 5) hx hb dX0_init_5 rfl (lv_at hl 1 rfl) ?_
  refine zif_ge (pc := 6) hx hb 13 (by omega) dX0_init_6 (by decide) (fun c6 => ?_) (fun c6 => ?_)
  · skip
    refine lv_iload_n (pc := 13) hx hb dX0_init_13 rfl (lv_at hl 1 rfl) ?_
    refine znewi (pc := 14) hx hb hG hw wa_int ⟨by omega, by omega⟩ (by show 0 + 1 ≤ 1; omega) (by show 0 + (((n : Int)).toNat) ≤ n; omega) dX0_init_14 (fun q14 H hfq14 hw => ?_)
    obtain ⟨K14, eK14⟩ : ∃ Y : zK, Y = zup K q14 (2, ((n : Int)).toNat) := ⟨_, rfl⟩
    obtain ⟨X14, eX14⟩ : ∃ Y : zX, Y = zupX X q14 := ⟨_, rfl⟩
    obtain ⟨R14, eR14⟩ : ∃ Y : zR, Y = zupR Rf q14 := ⟨_, rfl⟩
    replace hw := Wd.re hw eK14 eX14 eR14
    have hk14 : K14 dr = (1, 0) := by rw [eK14]; exact zup_k hfq14 hk (Nat.succ_ne_zero _)
    have hn14 : dr ≠ q14 := zne hk hfq14
    have hk14_1 : K14 q14 = (2, ((n : Int)).toNat) := by rw [eK14]; exact zup_s
    have hz14 : (K q14).1 = 0 := zfz gK0 hfq14
    have gK14 : ∀ a, (K a).1 ≠ 0 → K14 a = K a := fun a h9 => (by rw [eK14, zup_n (zfa h9 hz14)] : K14 a = K a).trans (gK0 a h9)
    have gX14 : ∀ a, (K a).1 ≠ 0 → a ≠ dr → X14 a = X a ∧ R14 a = Rf a := fun a h9 hm0 => ⟨(by rw [eX14, zupX_n (zfa h9 hz14)] : X14 a = X a).trans (gX0 a h9 hm0).1, (by rw [eR14, zupR_n (zfa h9 hz14)] : R14 a = Rf a).trans (gX0 a h9 hm0).2⟩
    refine zputRF (pc := 16) hx hb hG hown hw hk14 (T := TX0) (ty := .array .int) rfl 0 (by decide) rfl wf_X0_7 rfl (by decide +kernel) rfl rfl rfl hname rfl dX0_init_16 (fun H locs hw => ?_)
    obtain ⟨R16, eR16⟩ : ∃ Y : zR, Y = up2 R14 dr 0 (some q14) := ⟨_, rfl⟩
    rw [← eR16] at hw
    have hr16 : R16 dr 0 = some q14 := by rw [eR16]; exact up2_s
    have gX16 : ∀ a, (K a).1 ≠ 0 → a ≠ dr → X14 a = X a ∧ R16 a = Rf a := fun a h9 hm0 => ⟨(gX14 a h9 hm0).1, (by rw [eR16, up2_o hm0] : R16 a = R14 a).trans (gX14 a h9 hm0).2⟩
    refine lv_aload_n (pc := 19) hx hb dX0_init_19 rfl (lv_at hl 0 rfl) ?_
    refine ziconst (pc := 20) (n := 0) hx hb dX0_init_20 ?_
    refine zputI (pc := 21) hx hb hG hown hw hk14 (T := TX0) rfl 1 (by decide) rfl wf_X0_13 rfl (by decide +kernel) rfl dX0_init_21 (fun H locs hw => ?_)
    obtain ⟨X21, eX21⟩ : ∃ Y : zX, Y = up2 X14 dr 1 0 := ⟨_, rfl⟩
    rw [← eX21] at hw
    have gX21 : ∀ a, (K a).1 ≠ 0 → a ≠ dr → X21 a = X a ∧ R16 a = Rf a := fun a h9 hm0 => ⟨(by rw [eX21, up2_o hm0] : X21 a = X14 a).trans (gX16 a h9 hm0).1, (gX16 a h9 hm0).2⟩
    refine lv_aload_n (pc := 24) hx hb dX0_init_24 rfl (lv_at hl 0 rfl) ?_
    refine ziconst (pc := 25) (n := (-1)) hx hb dX0_init_25 ?_
    refine zputI (pc := 26) hx hb hG hown hw hk14 (T := TX0) rfl 2 (by decide) rfl wf_X0_17 rfl (by decide +kernel) rfl dX0_init_26 (fun H locs hw => ?_)
    obtain ⟨X26, eX26⟩ : ∃ Y : zX, Y = up2 X21 dr 2 (-1) := ⟨_, rfl⟩
    rw [← eX26] at hw
    have gX26 : ∀ a, (K a).1 ≠ 0 → a ≠ dr → X26 a = X a ∧ R16 a = Rf a := fun a h9 hm0 => ⟨(by rw [eX26, up2_o hm0] : X26 a = X21 a).trans (gX21 a h9 hm0).1, (gX21 a h9 hm0).2⟩
    exact zretV (pc := 29) hx hb hlocks hr hw (by show 0 + 1 ≤ 1; omega) (by show 0 + (((n : Int)).toNat) ≤ n; omega) dX0_init_29 ⟨q14, ⟨gK14, gX26⟩, ⟨hz14, hk14_1⟩, hr16, (by simp [eX26, eX21, eR16, eR14, eX14, eK14, up2, zupX, zupR, hn14, Ne.symm hn14])⟩
  · skip
    exfalso; omega
set_option maxHeartbeats 4000000 in
set_option maxRecDepth 100000 in
theorem c_X3_init (l : Launch) (Γ : zG) (K : zK) (X : zX) (Rf : zR) (pa : Nat) (month : Int) (kind : Int) (number : Int)  (hk : K pa = (1, 2)) : Ct l yX3_init cX3_init 4 none 2 0 0 Γ [.ref pa, .int (iI month), .int (iI kind), .int (iI number)] K X Rf (pV (fun (K' : zK) (X' : zX) (R' : zR) => ((∀ a, (K a).1 ≠ 0 → K' a = K a) ∧ (∀ a, (K a).1 ≠ 0 → a ≠ pa → X' a = X a ∧ R' a = Rf a)) ∧ (X' pa 0 = month ∧ X' pa 1 = kind ∧ X' pa 2 = number))) := by
  refine Ct.of (by decide +kernel) (Nat.le_of_ble_eq_true rfl) ?_
  intro p e s m below meth c ls hx hb hr hml hown hG hlocks hname hw hl
  have hl : lv_has ls 4 [(0, .ref pa), (1, .int (iI month)), (2, .int (iI kind)), (3, .int (iI number))] := hl
  have gK0 : ∀ a, (K a).1 ≠ 0 → K a = K a := fun _ _ => rfl
  have gX0 : ∀ a, (K a).1 ≠ 0 → a ≠ pa → X a = X a ∧ Rf a = Rf a := fun _ _ _ => ⟨rfl, rfl⟩
  refine lv_aload_n (pc := 0) hx hb dX3_init_0 rfl (lv_at hl 0 rfl) ?_
  refine W.objInit hx hb hown (hG _ wl_X3_3) (hG _ wm_objInit) (hG _ wc_objInit) rfl (by rw [hml]; exact hl.1) rfl dX3_init_1 (Nat.le_of_ble_eq_true rfl) (Nat.le_of_ble_eq_true rfl) ?_
  refine W.eq (g2 := F0 m 4 ls []) rfl ?_
  refine lv_aload_n (pc := 4) hx hb dX3_init_4 rfl (lv_at hl 0 rfl) ?_
  refine lv_iload_n (pc := 5) hx hb dX3_init_5 rfl (lv_at hl 1 rfl) ?_
  refine zputIF (pc := 6) hx hb hG hown hw hk (T := TX3) rfl 0 (by decide) rfl wf_X3_9 rfl (by decide +kernel) rfl hname rfl dX3_init_6 (fun H locs hw => ?_)
  obtain ⟨X6, eX6⟩ : ∃ Y : zX, Y = up2 X pa 0 month := ⟨_, rfl⟩
  rw [← eX6] at hw
  have gX6 : ∀ a, (K a).1 ≠ 0 → a ≠ pa → X6 a = X a ∧ Rf a = Rf a := fun a h9 hm0 => ⟨(by rw [eX6, up2_o hm0] : X6 a = X a).trans (gX0 a h9 hm0).1, (gX0 a h9 hm0).2⟩
  refine lv_aload_n (pc := 9) hx hb dX3_init_9 rfl (lv_at hl 0 rfl) ?_
  refine lv_iload_n (pc := 10) hx hb dX3_init_10 rfl (lv_at hl 2 rfl) ?_
  refine zputIF (pc := 11) hx hb hG hown hw hk (T := TX3) rfl 1 (by decide) rfl wf_X3_15 rfl (by decide +kernel) rfl hname rfl dX3_init_11 (fun H locs hw => ?_)
  obtain ⟨X11, eX11⟩ : ∃ Y : zX, Y = up2 X6 pa 1 kind := ⟨_, rfl⟩
  rw [← eX11] at hw
  have gX11 : ∀ a, (K a).1 ≠ 0 → a ≠ pa → X11 a = X a ∧ Rf a = Rf a := fun a h9 hm0 => ⟨(by rw [eX11, up2_o hm0] : X11 a = X6 a).trans (gX6 a h9 hm0).1, (gX6 a h9 hm0).2⟩
  refine lv_aload_n (pc := 14) hx hb dX3_init_14 rfl (lv_at hl 0 rfl) ?_
  refine lv_iload_n (pc := 15) hx hb dX3_init_15 rfl (lv_at hl 3 rfl) ?_
  refine zputIF (pc := 16) hx hb hG hown hw hk (T := TX3) rfl 2 (by decide) rfl wf_X3_18 rfl (by decide +kernel) rfl hname rfl dX3_init_16 (fun H locs hw => ?_)
  obtain ⟨X16, eX16⟩ : ∃ Y : zX, Y = up2 X11 pa 2 number := ⟨_, rfl⟩
  rw [← eX16] at hw
  have gX16 : ∀ a, (K a).1 ≠ 0 → a ≠ pa → X16 a = X a ∧ Rf a = Rf a := fun a h9 hm0 => ⟨(by rw [eX16, up2_o hm0] : X16 a = X11 a).trans (gX11 a h9 hm0).1, (gX11 a h9 hm0).2⟩
  exact zretV (pc := 19) hx hb hlocks hr hw (Nat.zero_le _) (Nat.zero_le _) dX3_init_19 ⟨⟨gK0, gX16⟩, (by simp [eX16, eX11, eX6, up2, zupX, zupR, Nat.add_zero])⟩
set_option maxHeartbeats 4000000 in
set_option maxRecDepth 100000 in
theorem c_X2_init (l : Launch) (Γ : zG) (K : zK) (X : zX) (Rf : zR) (fo : Nat) (fy : Int) (ly : Int) (pa : Nat) (way : Int)  (hk : K fo = (1, 1)) (hkp : K pa = (1, 2)) : Ct l yX2_init cX2_init 5 none 2 0 0 Γ [.ref fo, .int (iI fy), .int (iI ly), .ref pa, .int (iI way)] K X Rf (pV (fun (K' : zK) (X' : zX) (R' : zR) => ((∀ a, (K a).1 ≠ 0 → K' a = K a) ∧ (∀ a, (K a).1 ≠ 0 → a ≠ fo → X' a = X a ∧ R' a = Rf a)) ∧ R' fo 2 = some pa ∧ (X' fo 0 = fy ∧ X' fo 1 = ly ∧ X' fo 3 = way))) := by
  refine Ct.of (by decide +kernel) (Nat.le_of_ble_eq_true rfl) ?_
  intro p e s m below meth c ls hx hb hr hml hown hG hlocks hname hw hl
  have hl : lv_has ls 5 [(0, .ref fo), (1, .int (iI fy)), (2, .int (iI ly)), (3, .ref pa), (4, .int (iI way))] := hl
  have gK0 : ∀ a, (K a).1 ≠ 0 → K a = K a := fun _ _ => rfl
  have gX0 : ∀ a, (K a).1 ≠ 0 → a ≠ fo → X a = X a ∧ Rf a = Rf a := fun _ _ _ => ⟨rfl, rfl⟩
  refine lv_aload_n (pc := 0) hx hb dX2_init_0 rfl (lv_at hl 0 rfl) ?_
  refine W.objInit hx hb hown (hG _ wl_X2_1) (hG _ wm_objInit) (hG _ wc_objInit) rfl (by rw [hml]; exact hl.1) rfl dX2_init_1 (Nat.le_of_ble_eq_true rfl) (Nat.le_of_ble_eq_true rfl) ?_
  refine W.eq (g2 := F0 m 4 ls []) rfl ?_
  refine lv_aload_n (pc := 4) hx hb dX2_init_4 rfl (lv_at hl 0 rfl) ?_
  refine lv_iload_n (pc := 5) hx hb dX2_init_5 rfl (lv_at hl 1 rfl) ?_
  refine zputIF (pc := 6) hx hb hG hown hw hk (T := TX2) rfl 0 (by decide) rfl wf_X2_7 rfl (by decide +kernel) rfl hname rfl dX2_init_6 (fun H locs hw => ?_)
  obtain ⟨X6, eX6⟩ : ∃ Y : zX, Y = up2 X fo 0 fy := ⟨_, rfl⟩
  rw [← eX6] at hw
  have gX6 : ∀ a, (K a).1 ≠ 0 → a ≠ fo → X6 a = X a ∧ Rf a = Rf a := fun a h9 hm0 => ⟨(by rw [eX6, up2_o hm0] : X6 a = X a).trans (gX0 a h9 hm0).1, (gX0 a h9 hm0).2⟩
  refine lv_aload_n (pc := 9) hx hb dX2_init_9 rfl (lv_at hl 0 rfl) ?_
  refine lv_iload_n (pc := 10) hx hb dX2_init_10 rfl (lv_at hl 2 rfl) ?_
  refine zputIF (pc := 11) hx hb hG hown hw hk (T := TX2) rfl 1 (by decide) rfl wf_X2_13 rfl (by decide +kernel) rfl hname rfl dX2_init_11 (fun H locs hw => ?_)
  obtain ⟨X11, eX11⟩ : ∃ Y : zX, Y = up2 X6 fo 1 ly := ⟨_, rfl⟩
  rw [← eX11] at hw
  have gX11 : ∀ a, (K a).1 ≠ 0 → a ≠ fo → X11 a = X a ∧ Rf a = Rf a := fun a h9 hm0 => ⟨(by rw [eX11, up2_o hm0] : X11 a = X6 a).trans (gX6 a h9 hm0).1, (gX6 a h9 hm0).2⟩
  refine lv_aload_n (pc := 14) hx hb dX2_init_14 rfl (lv_at hl 0 rfl) ?_
  refine lv_aload_n (pc := 15) hx hb dX2_init_15 rfl (lv_at hl 3 rfl) ?_
  refine zputRF (pc := 16) hx hb hG hown hw hk (T := TX2) (ty := .object "ZoneCalendar$Pattern") rfl 2 (by decide) rfl wf_X2_16 rfl (by decide +kernel) rfl rfl rfl hname rfl dX2_init_16 (fun H locs hw => ?_)
  obtain ⟨R16, eR16⟩ : ∃ Y : zR, Y = up2 Rf fo 2 (some pa) := ⟨_, rfl⟩
  rw [← eR16] at hw
  have hr16 : R16 fo 2 = some pa := by rw [eR16]; exact up2_s
  have gX16 : ∀ a, (K a).1 ≠ 0 → a ≠ fo → X11 a = X a ∧ R16 a = Rf a := fun a h9 hm0 => ⟨(gX11 a h9 hm0).1, (by rw [eR16, up2_o hm0] : R16 a = Rf a).trans (gX11 a h9 hm0).2⟩
  refine lv_aload_n (pc := 19) hx hb dX2_init_19 rfl (lv_at hl 0 rfl) ?_
  refine lv_iload (pc := 20) hx hb dX2_init_20 (lv_at hl 4 rfl) ?_
  refine zputIF (pc := 22) hx hb hG hown hw hk (T := TX2) rfl 3 (by decide) rfl wf_X2_20 rfl (by decide +kernel) rfl hname rfl dX2_init_22 (fun H locs hw => ?_)
  obtain ⟨X22, eX22⟩ : ∃ Y : zX, Y = up2 X11 fo 3 way := ⟨_, rfl⟩
  rw [← eX22] at hw
  have gX22 : ∀ a, (K a).1 ≠ 0 → a ≠ fo → X22 a = X a ∧ R16 a = Rf a := fun a h9 hm0 => ⟨(by rw [eX22, up2_o hm0] : X22 a = X11 a).trans (gX16 a h9 hm0).1, (gX16 a h9 hm0).2⟩
  exact zretV (pc := 25) hx hb hlocks hr hw (Nat.zero_le _) (Nat.zero_le _) dX2_init_25 ⟨⟨gK0, gX22⟩, hr16, (by simp [eX22, eR16, eX11, eX6, up2, zupX, zupR, Nat.add_zero])⟩
set_option maxHeartbeats 4000000 in
set_option maxRecDepth 100000 in
theorem c_X6_init (l : Launch) (Γ : zG) (K : zK) (X : zX) (Rf : zR) (tu : Nat) (fy : Int) (ly : Int) (pa : Nat) (mn : Int) (cl : Int) (sv : Int)  (hk : K tu = (1, 5)) (hkp : K pa = (1, 2)) : Ct l yX6_init cX6_init 7 none 2 0 0 Γ [.ref tu, .int (iI fy), .int (iI ly), .ref pa, .int (iI mn), .int (iI cl), .int (iI sv)] K X Rf (pV (fun (K' : zK) (X' : zX) (R' : zR) => ((∀ a, (K a).1 ≠ 0 → K' a = K a) ∧ (∀ a, (K a).1 ≠ 0 → a ≠ tu → X' a = X a ∧ R' a = Rf a)) ∧ R' tu 2 = some pa ∧ (X' tu 0 = fy ∧ X' tu 1 = ly ∧ X' tu 3 = mn ∧ X' tu 4 = cl ∧ X' tu 5 = sv))) := by
  refine Ct.of (by decide +kernel) (Nat.le_of_ble_eq_true rfl) ?_
  intro p e s m below meth c ls hx hb hr hml hown hG hlocks hname hw hl
  have hl : lv_has ls 7 [(0, .ref tu), (1, .int (iI fy)), (2, .int (iI ly)), (3, .ref pa), (4, .int (iI mn)), (5, .int (iI cl)), (6, .int (iI sv))] := hl
  have gK0 : ∀ a, (K a).1 ≠ 0 → K a = K a := fun _ _ => rfl
  have gX0 : ∀ a, (K a).1 ≠ 0 → a ≠ tu → X a = X a ∧ Rf a = Rf a := fun _ _ _ => ⟨rfl, rfl⟩
  refine lv_aload_n (pc := 0) hx hb dX6_init_0 rfl (lv_at hl 0 rfl) ?_
  refine W.objInit hx hb hown (hG _ wl_X6_3) (hG _ wm_objInit) (hG _ wc_objInit) rfl (by rw [hml]; exact hl.1) rfl dX6_init_1 (Nat.le_of_ble_eq_true rfl) (Nat.le_of_ble_eq_true rfl) ?_
  refine W.eq (g2 := F0 m 4 ls []) rfl ?_
  refine lv_aload_n (pc := 4) hx hb dX6_init_4 rfl (lv_at hl 0 rfl) ?_
  refine lv_iload_n (pc := 5) hx hb dX6_init_5 rfl (lv_at hl 1 rfl) ?_
  refine zputIF (pc := 6) hx hb hG hown hw hk (T := TX6) rfl 0 (by decide) rfl wf_X6_9 rfl (by decide +kernel) rfl hname rfl dX6_init_6 (fun H locs hw => ?_)
  obtain ⟨X6, eX6⟩ : ∃ Y : zX, Y = up2 X tu 0 fy := ⟨_, rfl⟩
  rw [← eX6] at hw
  have gX6 : ∀ a, (K a).1 ≠ 0 → a ≠ tu → X6 a = X a ∧ Rf a = Rf a := fun a h9 hm0 => ⟨(by rw [eX6, up2_o hm0] : X6 a = X a).trans (gX0 a h9 hm0).1, (gX0 a h9 hm0).2⟩
  refine lv_aload_n (pc := 9) hx hb dX6_init_9 rfl (lv_at hl 0 rfl) ?_
  refine lv_iload_n (pc := 10) hx hb dX6_init_10 rfl (lv_at hl 2 rfl) ?_
  refine zputIF (pc := 11) hx hb hG hown hw hk (T := TX6) rfl 1 (by decide) rfl wf_X6_15 rfl (by decide +kernel) rfl hname rfl dX6_init_11 (fun H locs hw => ?_)
  obtain ⟨X11, eX11⟩ : ∃ Y : zX, Y = up2 X6 tu 1 ly := ⟨_, rfl⟩
  rw [← eX11] at hw
  have gX11 : ∀ a, (K a).1 ≠ 0 → a ≠ tu → X11 a = X a ∧ Rf a = Rf a := fun a h9 hm0 => ⟨(by rw [eX11, up2_o hm0] : X11 a = X6 a).trans (gX6 a h9 hm0).1, (gX6 a h9 hm0).2⟩
  refine lv_aload_n (pc := 14) hx hb dX6_init_14 rfl (lv_at hl 0 rfl) ?_
  refine lv_aload_n (pc := 15) hx hb dX6_init_15 rfl (lv_at hl 3 rfl) ?_
  refine zputRF (pc := 16) hx hb hG hown hw hk (T := TX6) (ty := .object "ZoneCalendar$Pattern") rfl 2 (by decide) rfl wf_X6_18 rfl (by decide +kernel) rfl rfl rfl hname rfl dX6_init_16 (fun H locs hw => ?_)
  obtain ⟨R16, eR16⟩ : ∃ Y : zR, Y = up2 Rf tu 2 (some pa) := ⟨_, rfl⟩
  rw [← eR16] at hw
  have hr16 : R16 tu 2 = some pa := by rw [eR16]; exact up2_s
  have gX16 : ∀ a, (K a).1 ≠ 0 → a ≠ tu → X11 a = X a ∧ R16 a = Rf a := fun a h9 hm0 => ⟨(gX11 a h9 hm0).1, (by rw [eR16, up2_o hm0] : R16 a = Rf a).trans (gX11 a h9 hm0).2⟩
  refine lv_aload_n (pc := 19) hx hb dX6_init_19 rfl (lv_at hl 0 rfl) ?_
  refine lv_iload (pc := 20) hx hb dX6_init_20 (lv_at hl 4 rfl) ?_
  refine zputIF (pc := 22) hx hb hG hown hw hk (T := TX6) rfl 3 (by decide) rfl wf_X6_22 rfl (by decide +kernel) rfl hname rfl dX6_init_22 (fun H locs hw => ?_)
  obtain ⟨X22, eX22⟩ : ∃ Y : zX, Y = up2 X11 tu 3 mn := ⟨_, rfl⟩
  rw [← eX22] at hw
  have gX22 : ∀ a, (K a).1 ≠ 0 → a ≠ tu → X22 a = X a ∧ R16 a = Rf a := fun a h9 hm0 => ⟨(by rw [eX22, up2_o hm0] : X22 a = X11 a).trans (gX16 a h9 hm0).1, (gX16 a h9 hm0).2⟩
  refine lv_aload_n (pc := 25) hx hb dX6_init_25 rfl (lv_at hl 0 rfl) ?_
  refine lv_iload (pc := 26) hx hb dX6_init_26 (lv_at hl 5 rfl) ?_
  refine zputIF (pc := 28) hx hb hG hown hw hk (T := TX6) rfl 4 (by decide) rfl wf_X6_25 rfl (by decide +kernel) rfl hname rfl dX6_init_28 (fun H locs hw => ?_)
  obtain ⟨X28, eX28⟩ : ∃ Y : zX, Y = up2 X22 tu 4 cl := ⟨_, rfl⟩
  rw [← eX28] at hw
  have gX28 : ∀ a, (K a).1 ≠ 0 → a ≠ tu → X28 a = X a ∧ R16 a = Rf a := fun a h9 hm0 => ⟨(by rw [eX28, up2_o hm0] : X28 a = X22 a).trans (gX22 a h9 hm0).1, (gX22 a h9 hm0).2⟩
  refine lv_aload_n (pc := 31) hx hb dX6_init_31 rfl (lv_at hl 0 rfl) ?_
  refine lv_iload (pc := 32) hx hb dX6_init_32 (lv_at hl 6 rfl) ?_
  refine zputIF (pc := 34) hx hb hG hown hw hk (T := TX6) rfl 5 (by decide) rfl wf_X6_28 rfl (by decide +kernel) rfl hname rfl dX6_init_34 (fun H locs hw => ?_)
  obtain ⟨X34, eX34⟩ : ∃ Y : zX, Y = up2 X28 tu 5 sv := ⟨_, rfl⟩
  rw [← eX34] at hw
  have gX34 : ∀ a, (K a).1 ≠ 0 → a ≠ tu → X34 a = X a ∧ R16 a = Rf a := fun a h9 hm0 => ⟨(by rw [eX34, up2_o hm0] : X34 a = X28 a).trans (gX28 a h9 hm0).1, (gX28 a h9 hm0).2⟩
  exact zretV (pc := 37) hx hb hlocks hr hw (Nat.zero_le _) (Nat.zero_le _) dX6_init_37 ⟨⟨gK0, gX34⟩, hr16, (by simp [eX34, eX28, eX22, eR16, eX11, eX6, up2, zupX, zupR, Nat.add_zero])⟩
set_option maxHeartbeats 4000000 in
set_option maxRecDepth 100000 in
theorem c_X4_init (l : Launch) (Γ : zG) (K : zK) (X : zX) (Rf : zR) (p0 : Nat) (base : Int)  (hk : K p0 = (1, 3)) : Ct l yX4_init cX4_init 2 none 2 4 2414 Γ [.ref p0, .int (iI base)] K X Rf (pV (fun (K' : zK) (X' : zX) (R' : zR) => ∃ tu to be sa : Nat, ((∀ a, (K a).1 ≠ 0 → K' a = K a) ∧ (∀ a, (K a).1 ≠ 0 → a ≠ p0 → X' a = X a ∧ R' a = Rf a)) ∧ ((K tu).1 = 0 ∧ K' tu = (9, 6)) ∧ ((K to).1 = 0 ∧ K' to = (2, 6)) ∧ ((K be).1 = 0 ∧ K' be = (2, 1201)) ∧ ((K sa).1 = 0 ∧ K' sa = (2, 1201)) ∧ R' p0 1 = some tu ∧ R' p0 3 = some to ∧ R' p0 4 = some be ∧ R' p0 5 = some sa ∧ ((∀ k, R' tu k = none) ∧ (X' p0 0 = base ∧ X' p0 2 = 0 ∧ X' p0 6 = 1) ∧ (∀ k, X' be k = 0 ∧ X' sa k = 0) ∧ be ≠ sa))) := by
  refine Ct.of (by decide +kernel) (Nat.le_of_ble_eq_true rfl) ?_
  intro p e s m below meth c ls hx hb hr hml hown hG hlocks hname hw hl
  have hl : lv_has ls 2 [(0, .ref p0), (1, .int (iI base))] := hl
  have gK0 : ∀ a, (K a).1 ≠ 0 → K a = K a := fun _ _ => rfl
  have gX0 : ∀ a, (K a).1 ≠ 0 → a ≠ p0 → X a = X a ∧ Rf a = Rf a := fun _ _ _ => ⟨rfl, rfl⟩
  refine lv_aload_n (pc := 0) hx hb dX4_init_0 rfl (lv_at hl 0 rfl) ?_
  refine W.objInit hx hb hown (hG _ wl_X4_3) (hG _ wm_objInit) (hG _ wc_objInit) rfl (by rw [hml]; exact hl.1) rfl dX4_init_1 (Nat.le_of_ble_eq_true rfl) (Nat.le_of_ble_eq_true rfl) ?_
  refine W.eq (g2 := F0 m 4 ls []) rfl ?_
  refine lv_aload_n (pc := 4) hx hb dX4_init_4 rfl (lv_at hl 0 rfl) ?_
  refine lv_iload_n (pc := 5) hx hb dX4_init_5 rfl (lv_at hl 1 rfl) ?_
  refine zputIF (pc := 6) hx hb hG hown hw hk (T := TX4) rfl 0 (by decide) rfl wf_X4_9 rfl (by decide +kernel) rfl hname rfl dX4_init_6 (fun H locs hw => ?_)
  obtain ⟨X6, eX6⟩ : ∃ Y : zX, Y = up2 X p0 0 base := ⟨_, rfl⟩
  rw [← eX6] at hw
  have gX6 : ∀ a, (K a).1 ≠ 0 → a ≠ p0 → X6 a = X a ∧ Rf a = Rf a := fun a h9 hm0 => ⟨(by rw [eX6, up2_o hm0] : X6 a = X a).trans (gX0 a h9 hm0).1, (gX0 a h9 hm0).2⟩
  refine lv_aload_n (pc := 9) hx hb dX4_init_9 rfl (lv_at hl 0 rfl) ?_
  refine zbipush (pc := 10) (n := 6) hx hb dX4_init_10 rfl ?_
  refine znewq3 (pc := 12) hx hb hG hown hw wn_X4_15 ⟨by omega, by omega⟩ (by show 0 + 1 ≤ 4; omega) (by show 0 + 6 ≤ 2414; omega) dX4_init_12 (fun q12 H hfq12 hw => ?_)
  obtain ⟨K12, eK12⟩ : ∃ Y : zK, Y = zup K q12 (9, 6) := ⟨_, rfl⟩
  obtain ⟨X12, eX12⟩ : ∃ Y : zX, Y = zupX X6 q12 := ⟨_, rfl⟩
  obtain ⟨R12, eR12⟩ : ∃ Y : zR, Y = zupR Rf q12 := ⟨_, rfl⟩
  replace hw := Wd.re hw eK12 eX12 eR12
  have hk12 : K12 p0 = (1, 3) := by rw [eK12]; exact zup_k hfq12 hk (Nat.succ_ne_zero _)
  have hn12 : p0 ≠ q12 := zne hk hfq12
  have hk12_1 : K12 q12 = (9, 6) := by rw [eK12]; exact zup_s
  have hz12 : (K q12).1 = 0 := zfz gK0 hfq12
  have gK12 : ∀ a, (K a).1 ≠ 0 → K12 a = K a := fun a h9 => (by rw [eK12, zup_n (zfa h9 hz12)] : K12 a = K a).trans (gK0 a h9)
  have gX12 : ∀ a, (K a).1 ≠ 0 → a ≠ p0 → X12 a = X a ∧ R12 a = Rf a := fun a h9 hm0 => ⟨(by rw [eX12, zupX_n (zfa h9 hz12)] : X12 a = X6 a).trans (gX6 a h9 hm0).1, (by rw [eR12, zupR_n (zfa h9 hz12)] : R12 a = Rf a).trans (gX6 a h9 hm0).2⟩
  refine zputRF (pc := 15) hx hb hG hown hw hk12 (T := TX4) (ty := .array (.object "ZoneCalendar$Turn")) rfl 1 (by decide) rfl wf_X4_17 rfl (by decide +kernel) rfl rfl rfl hname rfl dX4_init_15 (fun H locs hw => ?_)
  obtain ⟨R15, eR15⟩ : ∃ Y : zR, Y = up2 R12 p0 1 (some q12) := ⟨_, rfl⟩
  rw [← eR15] at hw
  have hr15 : R15 p0 1 = some q12 := by rw [eR15]; exact up2_s
  have gX15 : ∀ a, (K a).1 ≠ 0 → a ≠ p0 → X12 a = X a ∧ R15 a = Rf a := fun a h9 hm0 => ⟨(gX12 a h9 hm0).1, (by rw [eR15, up2_o hm0] : R15 a = R12 a).trans (gX12 a h9 hm0).2⟩
  refine lv_aload_n (pc := 18) hx hb dX4_init_18 rfl (lv_at hl 0 rfl) ?_
  refine ziconst (pc := 19) (n := 0) hx hb dX4_init_19 ?_
  refine zputI (pc := 20) hx hb hG hown hw hk12 (T := TX4) rfl 2 (by decide) rfl wf_X4_21 rfl (by decide +kernel) rfl dX4_init_20 (fun H locs hw => ?_)
  obtain ⟨X20, eX20⟩ : ∃ Y : zX, Y = up2 X12 p0 2 0 := ⟨_, rfl⟩
  rw [← eX20] at hw
  have gX20 : ∀ a, (K a).1 ≠ 0 → a ≠ p0 → X20 a = X a ∧ R15 a = Rf a := fun a h9 hm0 => ⟨(by rw [eX20, up2_o hm0] : X20 a = X12 a).trans (gX15 a h9 hm0).1, (gX15 a h9 hm0).2⟩
  refine lv_aload_n (pc := 23) hx hb dX4_init_23 rfl (lv_at hl 0 rfl) ?_
  refine zbipush (pc := 24) (n := 6) hx hb dX4_init_24 rfl ?_
  refine znewi (pc := 26) hx hb hG hw wa_int ⟨by omega, by omega⟩ (by show 0 + 1 + 1 ≤ 4; omega) (by show 0 + 6 + 6 ≤ 2414; omega) dX4_init_26 (fun q26 H hfq26 hw => ?_)
  obtain ⟨K26, eK26⟩ : ∃ Y : zK, Y = zup K12 q26 (2, 6) := ⟨_, rfl⟩
  obtain ⟨X26, eX26⟩ : ∃ Y : zX, Y = zupX X20 q26 := ⟨_, rfl⟩
  obtain ⟨R26, eR26⟩ : ∃ Y : zR, Y = zupR R15 q26 := ⟨_, rfl⟩
  replace hw := Wd.re hw eK26 eX26 eR26
  have hk26 : K26 p0 = (1, 3) := by rw [eK26]; exact zup_k hfq26 hk12 (Nat.succ_ne_zero _)
  have hn26 : p0 ≠ q26 := zne hk12 hfq26
  have hk26_1 : K26 q12 = (9, 6) := by rw [eK26]; exact zup_k hfq26 hk12_1 (Nat.succ_ne_zero _)
  have hn26_1 : q12 ≠ q26 := zne hk12_1 hfq26
  have hk26_2 : K26 q26 = (2, 6) := by rw [eK26]; exact zup_s
  have hr26 : R26 p0 1 = some q12 := by rw [eR26, zupR_n hn26]; exact hr15
  have hz26 : (K q26).1 = 0 := zfz gK12 hfq26
  have gK26 : ∀ a, (K a).1 ≠ 0 → K26 a = K a := fun a h9 => (by rw [eK26, zup_n (zfa h9 hz26)] : K26 a = K12 a).trans (gK12 a h9)
  have gX26 : ∀ a, (K a).1 ≠ 0 → a ≠ p0 → X26 a = X a ∧ R26 a = Rf a := fun a h9 hm0 => ⟨(by rw [eX26, zupX_n (zfa h9 hz26)] : X26 a = X20 a).trans (gX20 a h9 hm0).1, (by rw [eR26, zupR_n (zfa h9 hz26)] : R26 a = R15 a).trans (gX20 a h9 hm0).2⟩
  refine zputRF (pc := 28) hx hb hG hown hw hk26 (T := TX4) (ty := .array .int) rfl 3 (by decide) rfl wf_X4_24 rfl (by decide +kernel) rfl rfl rfl hname rfl dX4_init_28 (fun H locs hw => ?_)
  obtain ⟨R28, eR28⟩ : ∃ Y : zR, Y = up2 R26 p0 3 (some q26) := ⟨_, rfl⟩
  rw [← eR28] at hw
  have hr28 : R28 p0 1 = some q12 := by rw [eR28, up2_k (by first | decide | omega)]; exact hr26
  have hr28_1 : R28 p0 3 = some q26 := by rw [eR28]; exact up2_s
  have gX28 : ∀ a, (K a).1 ≠ 0 → a ≠ p0 → X26 a = X a ∧ R28 a = Rf a := fun a h9 hm0 => ⟨(gX26 a h9 hm0).1, (by rw [eR28, up2_o hm0] : R28 a = R26 a).trans (gX26 a h9 hm0).2⟩
  refine lv_aload_n (pc := 31) hx hb dX4_init_31 rfl (lv_at hl 0 rfl) ?_
  refine zsipush (pc := 32) (n := 1201) hx hb dX4_init_32 rfl ?_
  refine znewi (pc := 35) hx hb hG hw wa_int ⟨by omega, by omega⟩ (by show 0 + 1 + 1 + 1 ≤ 4; omega) (by show 0 + 6 + 6 + 1201 ≤ 2414; omega) dX4_init_35 (fun q35 H hfq35 hw => ?_)
  obtain ⟨K35, eK35⟩ : ∃ Y : zK, Y = zup K26 q35 (2, 1201) := ⟨_, rfl⟩
  obtain ⟨X35, eX35⟩ : ∃ Y : zX, Y = zupX X26 q35 := ⟨_, rfl⟩
  obtain ⟨R35, eR35⟩ : ∃ Y : zR, Y = zupR R28 q35 := ⟨_, rfl⟩
  replace hw := Wd.re hw eK35 eX35 eR35
  have hk35 : K35 p0 = (1, 3) := by rw [eK35]; exact zup_k hfq35 hk26 (Nat.succ_ne_zero _)
  have hn35 : p0 ≠ q35 := zne hk26 hfq35
  have hk35_1 : K35 q12 = (9, 6) := by rw [eK35]; exact zup_k hfq35 hk26_1 (Nat.succ_ne_zero _)
  have hn35_1 : q12 ≠ q35 := zne hk26_1 hfq35
  have hk35_2 : K35 q26 = (2, 6) := by rw [eK35]; exact zup_k hfq35 hk26_2 (Nat.succ_ne_zero _)
  have hn35_2 : q26 ≠ q35 := zne hk26_2 hfq35
  have hk35_3 : K35 q35 = (2, 1201) := by rw [eK35]; exact zup_s
  have hr35 : R35 p0 1 = some q12 := by rw [eR35, zupR_n hn35]; exact hr28
  have hr35_1 : R35 p0 3 = some q26 := by rw [eR35, zupR_n hn35]; exact hr28_1
  have hz35 : (K q35).1 = 0 := zfz gK26 hfq35
  have gK35 : ∀ a, (K a).1 ≠ 0 → K35 a = K a := fun a h9 => (by rw [eK35, zup_n (zfa h9 hz35)] : K35 a = K26 a).trans (gK26 a h9)
  have gX35 : ∀ a, (K a).1 ≠ 0 → a ≠ p0 → X35 a = X a ∧ R35 a = Rf a := fun a h9 hm0 => ⟨(by rw [eX35, zupX_n (zfa h9 hz35)] : X35 a = X26 a).trans (gX28 a h9 hm0).1, (by rw [eR35, zupR_n (zfa h9 hz35)] : R35 a = R28 a).trans (gX28 a h9 hm0).2⟩
  refine zputRF (pc := 37) hx hb hG hown hw hk35 (T := TX4) (ty := .array .int) rfl 4 (by decide) rfl wf_X4_28 rfl (by decide +kernel) rfl rfl rfl hname rfl dX4_init_37 (fun H locs hw => ?_)
  obtain ⟨R37, eR37⟩ : ∃ Y : zR, Y = up2 R35 p0 4 (some q35) := ⟨_, rfl⟩
  rw [← eR37] at hw
  have hr37 : R37 p0 1 = some q12 := by rw [eR37, up2_k (by first | decide | omega)]; exact hr35
  have hr37_1 : R37 p0 3 = some q26 := by rw [eR37, up2_k (by first | decide | omega)]; exact hr35_1
  have hr37_2 : R37 p0 4 = some q35 := by rw [eR37]; exact up2_s
  have gX37 : ∀ a, (K a).1 ≠ 0 → a ≠ p0 → X35 a = X a ∧ R37 a = Rf a := fun a h9 hm0 => ⟨(gX35 a h9 hm0).1, (by rw [eR37, up2_o hm0] : R37 a = R35 a).trans (gX35 a h9 hm0).2⟩
  refine lv_aload_n (pc := 40) hx hb dX4_init_40 rfl (lv_at hl 0 rfl) ?_
  refine lv_aload_n (pc := 41) hx hb dX4_init_41 rfl (lv_at hl 0 rfl) ?_
  refine zgetR (pc := 42) hx hb hG hown hw hk35 (T := TX4) rfl 4 (by decide) rfl wf_X4_28 rfl hr37_2 dX4_init_42 ?_
  refine zlen2 (pc := 45) hx hb hw hk35_3 dX4_init_45 ?_
  refine znewi (pc := 46) hx hb hG hw wa_int ⟨by omega, by omega⟩ (by show 0 + 1 + 1 + 1 + 1 ≤ 4; omega) (by show 0 + 6 + 6 + 1201 + 1201 ≤ 2414; omega) dX4_init_46 (fun q46 H hfq46 hw => ?_)
  obtain ⟨K46, eK46⟩ : ∃ Y : zK, Y = zup K35 q46 (2, 1201) := ⟨_, rfl⟩
  obtain ⟨X46, eX46⟩ : ∃ Y : zX, Y = zupX X35 q46 := ⟨_, rfl⟩
  obtain ⟨R46, eR46⟩ : ∃ Y : zR, Y = zupR R37 q46 := ⟨_, rfl⟩
  replace hw := Wd.re hw eK46 eX46 eR46
  have hk46 : K46 p0 = (1, 3) := by rw [eK46]; exact zup_k hfq46 hk35 (Nat.succ_ne_zero _)
  have hn46 : p0 ≠ q46 := zne hk35 hfq46
  have hk46_1 : K46 q12 = (9, 6) := by rw [eK46]; exact zup_k hfq46 hk35_1 (Nat.succ_ne_zero _)
  have hn46_1 : q12 ≠ q46 := zne hk35_1 hfq46
  have hk46_2 : K46 q26 = (2, 6) := by rw [eK46]; exact zup_k hfq46 hk35_2 (Nat.succ_ne_zero _)
  have hn46_2 : q26 ≠ q46 := zne hk35_2 hfq46
  have hk46_3 : K46 q35 = (2, 1201) := by rw [eK46]; exact zup_k hfq46 hk35_3 (Nat.succ_ne_zero _)
  have hn46_3 : q35 ≠ q46 := zne hk35_3 hfq46
  have hk46_4 : K46 q46 = (2, 1201) := by rw [eK46]; exact zup_s
  have hr46 : R46 p0 1 = some q12 := by rw [eR46, zupR_n hn46]; exact hr37
  have hr46_1 : R46 p0 3 = some q26 := by rw [eR46, zupR_n hn46]; exact hr37_1
  have hr46_2 : R46 p0 4 = some q35 := by rw [eR46, zupR_n hn46]; exact hr37_2
  have hz46 : (K q46).1 = 0 := zfz gK35 hfq46
  have gK46 : ∀ a, (K a).1 ≠ 0 → K46 a = K a := fun a h9 => (by rw [eK46, zup_n (zfa h9 hz46)] : K46 a = K35 a).trans (gK35 a h9)
  have gX46 : ∀ a, (K a).1 ≠ 0 → a ≠ p0 → X46 a = X a ∧ R46 a = Rf a := fun a h9 hm0 => ⟨(by rw [eX46, zupX_n (zfa h9 hz46)] : X46 a = X35 a).trans (gX37 a h9 hm0).1, (by rw [eR46, zupR_n (zfa h9 hz46)] : R46 a = R37 a).trans (gX37 a h9 hm0).2⟩
  refine zputRF (pc := 48) hx hb hG hown hw hk46 (T := TX4) (ty := .array .int) rfl 5 (by decide) rfl wf_X4_31 rfl (by decide +kernel) rfl rfl rfl hname rfl dX4_init_48 (fun H locs hw => ?_)
  obtain ⟨R48, eR48⟩ : ∃ Y : zR, Y = up2 R46 p0 5 (some q46) := ⟨_, rfl⟩
  rw [← eR48] at hw
  have hr48 : R48 p0 1 = some q12 := by rw [eR48, up2_k (by first | decide | omega)]; exact hr46
  have hr48_1 : R48 p0 3 = some q26 := by rw [eR48, up2_k (by first | decide | omega)]; exact hr46_1
  have hr48_2 : R48 p0 4 = some q35 := by rw [eR48, up2_k (by first | decide | omega)]; exact hr46_2
  have hr48_3 : R48 p0 5 = some q46 := by rw [eR48]; exact up2_s
  have gX48 : ∀ a, (K a).1 ≠ 0 → a ≠ p0 → X46 a = X a ∧ R48 a = Rf a := fun a h9 hm0 => ⟨(gX46 a h9 hm0).1, (by rw [eR48, up2_o hm0] : R48 a = R46 a).trans (gX46 a h9 hm0).2⟩
  refine lv_aload_n (pc := 51) hx hb dX4_init_51 rfl (lv_at hl 0 rfl) ?_
  refine ziconst (pc := 52) (n := 1) hx hb dX4_init_52 ?_
  refine zputI (pc := 53) hx hb hG hown hw hk46 (T := TX4) rfl 6 (by decide) rfl wf_X4_34 rfl (by decide +kernel) rfl dX4_init_53 (fun H locs hw => ?_)
  obtain ⟨X53, eX53⟩ : ∃ Y : zX, Y = up2 X46 p0 6 1 := ⟨_, rfl⟩
  rw [← eX53] at hw
  have gX53 : ∀ a, (K a).1 ≠ 0 → a ≠ p0 → X53 a = X a ∧ R48 a = Rf a := fun a h9 hm0 => ⟨(by rw [eX53, up2_o hm0] : X53 a = X46 a).trans (gX48 a h9 hm0).1, (gX48 a h9 hm0).2⟩
  exact zretV (pc := 56) hx hb hlocks hr hw (by show 0 + 1 + 1 + 1 + 1 ≤ 4; omega) (by show 0 + 6 + 6 + 1201 + 1201 ≤ 2414; omega) dX4_init_56 ⟨q12, q26, q35, q46, ⟨gK46, gX53⟩, ⟨hz12, hk46_1⟩, ⟨hz26, hk46_2⟩, ⟨hz35, hk46_3⟩, ⟨hz46, hk46_4⟩, hr48, hr48_1, hr48_2, hr48_3, (by simp [eX53, eR48, eR46, eX46, eK46, eR37, eR35, eX35, eK35, eR28, eR26, eX26, eK26, eX20, eR15, eR12, eX12, eK12, eX6, up2, zupX, zupR, hn12, Ne.symm hn12, hn26, Ne.symm hn26, hn26_1, Ne.symm hn26_1, hn35, Ne.symm hn35, hn35_1, Ne.symm hn35_1, hn35_2, Ne.symm hn35_2, hn46, Ne.symm hn46, hn46_1, Ne.symm hn46_1, hn46_2, Ne.symm hn46_2, hn46_3, Ne.symm hn46_3])⟩
set_option maxHeartbeats 4000000 in
set_option maxRecDepth 100000 in
theorem c_X5_init_k0 (l : Launch) (Γ : zG) (K : zK) (X : zX) (Rf : zR) (se : Nat) (p0 : Nat) (begin : Int) (kind : Int) (step : Int) (wds : Int)  (hk : K se = (1, 4)) (hkp : K p0 = (1, 3)) (h1 : 0 ≤ begin ∧ begin ≤ 105190559) (h2 : 0 ≤ kind ∧ kind < 2) : Ct l yX5_init cX5_init 7 none 3 3 4013 Γ [.ref se, .ref p0, .int (iI begin), .int (iI kind), .int (iI step), .int (iI wds)] K X Rf (pV (fun (K' : zK) (X' : zX) (R' : zR) => ∃ po eo fo : Nat, ((∀ a, (K a).1 ≠ 0 → K' a = K a) ∧ (∀ a, (K a).1 ≠ 0 → a ≠ se → X' a = X a ∧ R' a = Rf a)) ∧ ((K po).1 = 0 ∧ K' po = (6, 4)) ∧ ((K eo).1 = 0 ∧ K' eo = (2, 8)) ∧ ((K fo).1 = 0 ∧ K' fo = (2, 4001)) ∧ R' se 0 = some p0 ∧ R' se 7 = none ∧ R' se 8 = some po ∧ R' se 13 = some eo ∧ R' se 15 = some fo ∧ ((X' se 1 = begin ∧ X' se 2 = begin / 1440 ∧ X' se 3 = kind ∧ X' se 4 = step ∧ X' se 5 = wds ∧ X' se 6 = min (begin / 1440 + 4000) 73048) ∧ X' se 9 = 0 ∧ X' se 10 = 0 ∧ X' se 11 = 0 ∧ X' se 12 = min (begin / 1440 + 4000) 73048 ∧ X' se 14 = 0 ∧ X' se 16 = 0 ∧ X' se 17 = 0))) := by
  refine Ct.of (by decide +kernel) (Nat.le_of_ble_eq_true rfl) ?_
  intro p e s m below meth c ls hx hb hr hml hown hG hlocks hname hw hl
  have hl : lv_has ls 7 [(0, .ref se), (1, .ref p0), (2, .int (iI begin)), (3, .int (iI kind)), (4, .int (iI step)), (5, .int (iI wds))] := hl
  have gK0 : ∀ a, (K a).1 ≠ 0 → K a = K a := fun _ _ => rfl
  have gX0 : ∀ a, (K a).1 ≠ 0 → a ≠ se → X a = X a ∧ Rf a = Rf a := fun _ _ _ => ⟨rfl, rfl⟩
  refine lv_aload_n (pc := 0) hx hb dX5_init_0 rfl (lv_at hl 0 rfl) ?_
  refine W.objInit hx hb hown (hG _ wl_X5_5) (hG _ wm_objInit) (hG _ wc_objInit) rfl (by rw [hml]; exact hl.1) rfl dX5_init_1 (Nat.le_of_ble_eq_true rfl) (Nat.le_of_ble_eq_true rfl) ?_
  refine W.eq (g2 := F0 m 4 ls []) rfl ?_
  refine lv_aload_n (pc := 4) hx hb dX5_init_4 rfl (lv_at hl 0 rfl) ?_
  refine lv_aload_n (pc := 5) hx hb dX5_init_5 rfl (lv_at hl 1 rfl) ?_
  refine zputRF (pc := 6) hx hb hG hown hw hk (T := TX5) (ty := .object "ZoneCalendar$Place") rfl 0 (by decide) rfl wf_X5_11 rfl (by decide +kernel) rfl rfl rfl hname rfl dX5_init_6 (fun H locs hw => ?_)
  obtain ⟨R6, eR6⟩ : ∃ Y : zR, Y = up2 Rf se 0 (some p0) := ⟨_, rfl⟩
  rw [← eR6] at hw
  have hr6 : R6 se 0 = some p0 := by rw [eR6]; exact up2_s
  have gX6 : ∀ a, (K a).1 ≠ 0 → a ≠ se → X a = X a ∧ R6 a = Rf a := fun a h9 hm0 => ⟨(gX0 a h9 hm0).1, (by rw [eR6, up2_o hm0] : R6 a = Rf a).trans (gX0 a h9 hm0).2⟩
  refine lv_aload_n (pc := 9) hx hb dX5_init_9 rfl (lv_at hl 0 rfl) ?_
  refine lv_iload_n (pc := 10) hx hb dX5_init_10 rfl (lv_at hl 2 rfl) ?_
  refine zputIF (pc := 11) hx hb hG hown hw hk (T := TX5) rfl 1 (by decide) rfl wf_X5_15 rfl (by decide +kernel) rfl hname rfl dX5_init_11 (fun H locs hw => ?_)
  obtain ⟨X11, eX11⟩ : ∃ Y : zX, Y = up2 X se 1 begin := ⟨_, rfl⟩
  rw [← eX11] at hw
  have gX11 : ∀ a, (K a).1 ≠ 0 → a ≠ se → X11 a = X a ∧ R6 a = Rf a := fun a h9 hm0 => ⟨(by rw [eX11, up2_o hm0] : X11 a = X a).trans (gX6 a h9 hm0).1, (gX6 a h9 hm0).2⟩
  refine lv_aload_n (pc := 14) hx hb dX5_init_14 rfl (lv_at hl 0 rfl) ?_
  refine lv_iload_n (pc := 15) hx hb dX5_init_15 rfl (lv_at hl 3 rfl) ?_
  refine zputIF (pc := 16) hx hb hG hown hw hk (T := TX5) rfl 3 (by decide) rfl wf_X5_19 rfl (by decide +kernel) rfl hname rfl dX5_init_16 (fun H locs hw => ?_)
  obtain ⟨X16, eX16⟩ : ∃ Y : zX, Y = up2 X11 se 3 kind := ⟨_, rfl⟩
  rw [← eX16] at hw
  have gX16 : ∀ a, (K a).1 ≠ 0 → a ≠ se → X16 a = X a ∧ R6 a = Rf a := fun a h9 hm0 => ⟨(by rw [eX16, up2_o hm0] : X16 a = X11 a).trans (gX11 a h9 hm0).1, (gX11 a h9 hm0).2⟩
  refine lv_aload_n (pc := 19) hx hb dX5_init_19 rfl (lv_at hl 0 rfl) ?_
  refine lv_iload (pc := 20) hx hb dX5_init_20 (lv_at hl 4 rfl) ?_
  refine zputIF (pc := 22) hx hb hG hown hw hk (T := TX5) rfl 4 (by decide) rfl wf_X5_22 rfl (by decide +kernel) rfl hname rfl dX5_init_22 (fun H locs hw => ?_)
  obtain ⟨X22, eX22⟩ : ∃ Y : zX, Y = up2 X16 se 4 step := ⟨_, rfl⟩
  rw [← eX22] at hw
  have gX22 : ∀ a, (K a).1 ≠ 0 → a ≠ se → X22 a = X a ∧ R6 a = Rf a := fun a h9 hm0 => ⟨(by rw [eX22, up2_o hm0] : X22 a = X16 a).trans (gX16 a h9 hm0).1, (gX16 a h9 hm0).2⟩
  refine lv_aload_n (pc := 25) hx hb dX5_init_25 rfl (lv_at hl 0 rfl) ?_
  refine lv_iload (pc := 26) hx hb dX5_init_26 (lv_at hl 5 rfl) ?_
  refine zputIF (pc := 28) hx hb hG hown hw hk (T := TX5) rfl 5 (by decide) rfl wf_X5_25 rfl (by decide +kernel) rfl hname rfl dX5_init_28 (fun H locs hw => ?_)
  obtain ⟨X28, eX28⟩ : ∃ Y : zX, Y = up2 X22 se 5 wds := ⟨_, rfl⟩
  rw [← eX28] at hw
  have gX28 : ∀ a, (K a).1 ≠ 0 → a ≠ se → X28 a = X a ∧ R6 a = Rf a := fun a h9 hm0 => ⟨(by rw [eX28, up2_o hm0] : X28 a = X22 a).trans (gX22 a h9 hm0).1, (gX22 a h9 hm0).2⟩
  refine lv_aload_n (pc := 31) hx hb dX5_init_31 rfl (lv_at hl 0 rfl) ?_
  refine lv_iload_n (pc := 32) hx hb dX5_init_32 rfl (lv_at hl 2 rfl) ?_
  refine zsipush (pc := 33) (n := 1440) hx hb dX5_init_33 rfl ?_
  refine zdiv (pc := 36) hx hb (by omega) dX5_init_36 ?_
  refine zputIF (pc := 37) hx hb hG hown hw hk (T := TX5) rfl 2 (by decide) rfl wf_X5_28 rfl (by decide +kernel) rfl hname rfl dX5_init_37 (fun H locs hw => ?_)
  obtain ⟨X37, eX37⟩ : ∃ Y : zX, Y = up2 X28 se 2 (begin / 1440) := ⟨_, rfl⟩
  rw [← eX37] at hw
  have gX37 : ∀ a, (K a).1 ≠ 0 → a ≠ se → X37 a = X a ∧ R6 a = Rf a := fun a h9 hm0 => ⟨(by rw [eX37, up2_o hm0] : X37 a = X28 a).trans (gX28 a h9 hm0).1, (gX28 a h9 hm0).2⟩
  have f2 : X37 se 2 = begin / 1440 := by rw [eX37]; exact up2_s
  refine lv_aload_n (pc := 40) hx hb dX5_init_40 rfl (lv_at hl 0 rfl) ?_
  refine lv_aload_n (pc := 41) hx hb dX5_init_41 rfl (lv_at hl 0 rfl) ?_
  refine zgetI (pc := 42) hx hb hG hown hw hk (T := TX5) rfl 2 (by decide) rfl wf_X5_28 rfl dX5_init_42 ?_
  refine zsipush (pc := 45) (n := 4000) hx hb dX5_init_45 rfl ?_
  refine zadd (pc := 48) hx hb dX5_init_48 ?_
  refine zldc (pc := 49) (n := 73048) hx hb hown hG wk_X5_31 dX5_init_49 ?_
  refine zmin (pc := 51) hx hb (hml.trans hl.1.symm) hown hG wl_X5_32 w1_zmn wi_javalangMath w2_zmn (Nat.le_of_ble_eq_true rfl) (Nat.le_of_ble_eq_true rfl) (Nat.zero_le _) (Nat.zero_le _) ⟨by omega, by omega⟩ dX5_init_51 ?_
  refine zputIF (pc := 54) hx hb hG hown hw hk (T := TX5) rfl 6 (by decide) rfl wf_X5_38 rfl (by decide +kernel) rfl hname rfl dX5_init_54 (fun H locs hw => ?_)
  obtain ⟨X54, eX54⟩ : ∃ Y : zX, Y = up2 X37 se 6 (min ((X37 se 2) + 4000) 73048) := ⟨_, rfl⟩
  rw [← eX54] at hw
  have gX54 : ∀ a, (K a).1 ≠ 0 → a ≠ se → X54 a = X a ∧ R6 a = Rf a := fun a h9 hm0 => ⟨(by rw [eX54, up2_o hm0] : X54 a = X37 a).trans (gX37 a h9 hm0).1, (gX37 a h9 hm0).2⟩
  have f2b : X54 se 2 = begin / 1440 := by rw [eX54, up2_k (by decide)]; exact f2
  refine lv_iload_n (pc := 57) hx hb dX5_init_57 rfl (lv_at hl 3 rfl) ?_
  refine ziconst (pc := 58) (n := 3) hx hb dX5_init_58 ?_
  refine zicmp_ne (pc := 59) hx hb 77 (by omega) (by omega) dX5_init_59 (by decide) (fun c59 => ?_) (fun c59 => ?_)
  · skip
    refine ziconst (pc := 77) (n := 0) hx hb dX5_init_77 ?_
    refine lv_istore (pc := 78) (lv' := [(6, .int (iI 0)), (0, .ref se), (1, .ref p0), (2, .int (iI begin)), (3, .int (iI kind)), (4, .int (iI step)), (5, .int (iI wds))]) hx hb dX5_init_78 hl (by decide) rfl (fun ls hl => ?_)
    refine lv_aload_n (pc := 80) hx hb dX5_init_80 rfl (lv_at hl 1 rfl) ?_
    refine lv_iload_n (pc := 81) hx hb dX5_init_81 rfl (lv_at hl 4 rfl) ?_
    refine ziconst (pc := 82) (n := 2) hx hb dX5_init_82 ?_
    refine zicmp_ge (pc := 83) hx hb 90 (by omega) (by omega) dX5_init_83 (by decide) (fun c83 => ?_) (fun c83 => ?_)
    · skip
      exfalso; omega
    · skip
      refine lv_null (pc := 86) hx hb dX5_init_86 ?_
      refine lv_goto (pc := 87) (tgt := 107) hx hb dX5_init_87 (by decide) ?_
      refine zputNF (pc := 107) hx hb hG hown hw hk (T := TX5) (ty := .object "ZoneCalendar$Pattern") rfl 7 (by decide) rfl wf_X5_55 rfl (by decide +kernel) rfl rfl rfl hname rfl dX5_init_107 (fun H locs hw => ?_)
      obtain ⟨R107, eR107⟩ : ∃ Y : zR, Y = up2 R6 se 7 none := ⟨_, rfl⟩
      rw [← eR107] at hw
      have hr107 : R107 se 0 = some p0 := by rw [eR107, up2_k (by first | decide | omega)]; exact hr6
      have hr107_1 : R107 se 7 = none := by rw [eR107]; exact up2_s
      have gX107 : ∀ a, (K a).1 ≠ 0 → a ≠ se → X54 a = X a ∧ R107 a = Rf a := fun a h9 hm0 => ⟨(gX54 a h9 hm0).1, (by rw [eR107, up2_o hm0] : R107 a = R6 a).trans (gX54 a h9 hm0).2⟩
      refine lv_aload_n (pc := 110) hx hb dX5_init_110 rfl (lv_at hl 1 rfl) ?_
      refine ziconst (pc := 111) (n := 4) hx hb dX5_init_111 ?_
      refine znewq0 (pc := 112) hx hb hG hown hw wn_X5_47 ⟨by omega, by omega⟩ (by show 0 + 1 ≤ 3; omega) (by show 0 + 4 ≤ 4013; omega) dX5_init_112 (fun q112 H hfq112 hw => ?_)
      obtain ⟨K112, eK112⟩ : ∃ Y : zK, Y = zup K q112 (6, 4) := ⟨_, rfl⟩
      obtain ⟨X112, eX112⟩ : ∃ Y : zX, Y = zupX X54 q112 := ⟨_, rfl⟩
      obtain ⟨R112, eR112⟩ : ∃ Y : zR, Y = zupR R107 q112 := ⟨_, rfl⟩
      replace hw := Wd.re hw eK112 eX112 eR112
      have hk112 : K112 se = (1, 4) := by rw [eK112]; exact zup_k hfq112 hk (Nat.succ_ne_zero _)
      have hn112 : se ≠ q112 := zne hk hfq112
      have hk112_1 : K112 p0 = (1, 3) := by rw [eK112]; exact zup_k hfq112 hkp (Nat.succ_ne_zero _)
      have hn112_1 : p0 ≠ q112 := zne hkp hfq112
      have hk112_2 : K112 q112 = (6, 4) := by rw [eK112]; exact zup_s
      have hr112 : R112 se 0 = some p0 := by rw [eR112, zupR_n hn112]; exact hr107
      have hr112_1 : R112 se 7 = none := by rw [eR112, zupR_n hn112]; exact hr107_1
      have hz112 : (K q112).1 = 0 := zfz gK0 hfq112
      have gK112 : ∀ a, (K a).1 ≠ 0 → K112 a = K a := fun a h9 => (by rw [eK112, zup_n (zfa h9 hz112)] : K112 a = K a).trans (gK0 a h9)
      have gX112 : ∀ a, (K a).1 ≠ 0 → a ≠ se → X112 a = X a ∧ R112 a = Rf a := fun a h9 hm0 => ⟨(by rw [eX112, zupX_n (zfa h9 hz112)] : X112 a = X54 a).trans (gX107 a h9 hm0).1, (by rw [eR112, zupR_n (zfa h9 hz112)] : R112 a = R107 a).trans (gX107 a h9 hm0).2⟩
      refine zputRF (pc := 115) hx hb hG hown hw hk112 (T := TX5) (ty := .array (.object "ZoneCalendar$Pattern")) rfl 8 (by decide) rfl wf_X5_59 rfl (by decide +kernel) rfl rfl rfl hname rfl dX5_init_115 (fun H locs hw => ?_)
      obtain ⟨R115, eR115⟩ : ∃ Y : zR, Y = up2 R112 se 8 (some q112) := ⟨_, rfl⟩
      rw [← eR115] at hw
      have hr115 : R115 se 0 = some p0 := by rw [eR115, up2_k (by first | decide | omega)]; exact hr112
      have hr115_1 : R115 se 7 = none := by rw [eR115, up2_k (by first | decide | omega)]; exact hr112_1
      have hr115_2 : R115 se 8 = some q112 := by rw [eR115]; exact up2_s
      have gX115 : ∀ a, (K a).1 ≠ 0 → a ≠ se → X112 a = X a ∧ R115 a = Rf a := fun a h9 hm0 => ⟨(gX112 a h9 hm0).1, (by rw [eR115, up2_o hm0] : R115 a = R112 a).trans (gX112 a h9 hm0).2⟩
      refine lv_aload_n (pc := 118) hx hb dX5_init_118 rfl (lv_at hl 1 rfl) ?_
      refine ziconst (pc := 119) (n := 0) hx hb dX5_init_119 ?_
      refine zputI (pc := 120) hx hb hG hown hw hk112 (T := TX5) rfl 9 (by decide) rfl wf_X5_63 rfl (by decide +kernel) rfl dX5_init_120 (fun H locs hw => ?_)
      obtain ⟨X120, eX120⟩ : ∃ Y : zX, Y = up2 X112 se 9 0 := ⟨_, rfl⟩
      rw [← eX120] at hw
      have gX120 : ∀ a, (K a).1 ≠ 0 → a ≠ se → X120 a = X a ∧ R115 a = Rf a := fun a h9 hm0 => ⟨(by rw [eX120, up2_o hm0] : X120 a = X112 a).trans (gX115 a h9 hm0).1, (gX115 a h9 hm0).2⟩
      refine lv_aload_n (pc := 123) hx hb dX5_init_123 rfl (lv_at hl 1 rfl) ?_
      refine ziconst (pc := 124) (n := 0) hx hb dX5_init_124 ?_
      refine zputI (pc := 125) hx hb hG hown hw hk112 (T := TX5) rfl 10 (by decide) rfl wf_X5_66 rfl (by decide +kernel) rfl dX5_init_125 (fun H locs hw => ?_)
      obtain ⟨X125, eX125⟩ : ∃ Y : zX, Y = up2 X120 se 10 0 := ⟨_, rfl⟩
      rw [← eX125] at hw
      have gX125 : ∀ a, (K a).1 ≠ 0 → a ≠ se → X125 a = X a ∧ R115 a = Rf a := fun a h9 hm0 => ⟨(by rw [eX125, up2_o hm0] : X125 a = X120 a).trans (gX120 a h9 hm0).1, (gX120 a h9 hm0).2⟩
      refine lv_aload_n (pc := 128) hx hb dX5_init_128 rfl (lv_at hl 1 rfl) ?_
      refine ziconst (pc := 129) (n := 0) hx hb dX5_init_129 ?_
      refine zputI (pc := 130) hx hb hG hown hw hk112 (T := TX5) rfl 11 (by decide) rfl wf_X5_69 rfl (by decide +kernel) rfl dX5_init_130 (fun H locs hw => ?_)
      obtain ⟨X130, eX130⟩ : ∃ Y : zX, Y = up2 X125 se 11 0 := ⟨_, rfl⟩
      rw [← eX130] at hw
      have gX130 : ∀ a, (K a).1 ≠ 0 → a ≠ se → X130 a = X a ∧ R115 a = Rf a := fun a h9 hm0 => ⟨(by rw [eX130, up2_o hm0] : X130 a = X125 a).trans (gX125 a h9 hm0).1, (gX125 a h9 hm0).2⟩
      refine lv_aload_n (pc := 133) hx hb dX5_init_133 rfl (lv_at hl 1 rfl) ?_
      refine lv_aload_n (pc := 134) hx hb dX5_init_134 rfl (lv_at hl 1 rfl) ?_
      refine zgetI (pc := 135) hx hb hG hown hw hk112 (T := TX5) rfl 6 (by decide) rfl wf_X5_38 rfl dX5_init_135 ?_
      refine zputI (pc := 138) hx hb hG hown hw hk112 (T := TX5) rfl 12 (by decide) rfl wf_X5_72 rfl (by decide +kernel) rfl dX5_init_138 (fun H locs hw => ?_)
      obtain ⟨X138, eX138⟩ : ∃ Y : zX, Y = up2 X130 se 12 (X130 se 6) := ⟨_, rfl⟩
      rw [← eX138] at hw
      have gX138 : ∀ a, (K a).1 ≠ 0 → a ≠ se → X138 a = X a ∧ R115 a = Rf a := fun a h9 hm0 => ⟨(by rw [eX138, up2_o hm0] : X138 a = X130 a).trans (gX130 a h9 hm0).1, (gX130 a h9 hm0).2⟩
      refine lv_aload_n (pc := 141) hx hb dX5_init_141 rfl (lv_at hl 1 rfl) ?_
      refine zbipush (pc := 142) (n := 8) hx hb dX5_init_142 rfl ?_
      refine znewi (pc := 144) hx hb hG hw wa_int ⟨by omega, by omega⟩ (by show 0 + 1 + 1 ≤ 3; omega) (by show 0 + 4 + 8 ≤ 4013; omega) dX5_init_144 (fun q144 H hfq144 hw => ?_)
      obtain ⟨K144, eK144⟩ : ∃ Y : zK, Y = zup K112 q144 (2, 8) := ⟨_, rfl⟩
      obtain ⟨X144, eX144⟩ : ∃ Y : zX, Y = zupX X138 q144 := ⟨_, rfl⟩
      obtain ⟨R144, eR144⟩ : ∃ Y : zR, Y = zupR R115 q144 := ⟨_, rfl⟩
      replace hw := Wd.re hw eK144 eX144 eR144
      have hk144 : K144 se = (1, 4) := by rw [eK144]; exact zup_k hfq144 hk112 (Nat.succ_ne_zero _)
      have hn144 : se ≠ q144 := zne hk112 hfq144
      have hk144_1 : K144 p0 = (1, 3) := by rw [eK144]; exact zup_k hfq144 hk112_1 (Nat.succ_ne_zero _)
      have hn144_1 : p0 ≠ q144 := zne hk112_1 hfq144
      have hk144_2 : K144 q112 = (6, 4) := by rw [eK144]; exact zup_k hfq144 hk112_2 (Nat.succ_ne_zero _)
      have hn144_2 : q112 ≠ q144 := zne hk112_2 hfq144
      have hk144_3 : K144 q144 = (2, 8) := by rw [eK144]; exact zup_s
      have hr144 : R144 se 0 = some p0 := by rw [eR144, zupR_n hn144]; exact hr115
      have hr144_1 : R144 se 7 = none := by rw [eR144, zupR_n hn144]; exact hr115_1
      have hr144_2 : R144 se 8 = some q112 := by rw [eR144, zupR_n hn144]; exact hr115_2
      have hz144 : (K q144).1 = 0 := zfz gK112 hfq144
      have gK144 : ∀ a, (K a).1 ≠ 0 → K144 a = K a := fun a h9 => (by rw [eK144, zup_n (zfa h9 hz144)] : K144 a = K112 a).trans (gK112 a h9)
      have gX144 : ∀ a, (K a).1 ≠ 0 → a ≠ se → X144 a = X a ∧ R144 a = Rf a := fun a h9 hm0 => ⟨(by rw [eX144, zupX_n (zfa h9 hz144)] : X144 a = X138 a).trans (gX138 a h9 hm0).1, (by rw [eR144, zupR_n (zfa h9 hz144)] : R144 a = R115 a).trans (gX138 a h9 hm0).2⟩
      refine zputRF (pc := 146) hx hb hG hown hw hk144 (T := TX5) (ty := .array .int) rfl 13 (by decide) rfl wf_X5_75 rfl (by decide +kernel) rfl rfl rfl hname rfl dX5_init_146 (fun H locs hw => ?_)
      obtain ⟨R146, eR146⟩ : ∃ Y : zR, Y = up2 R144 se 13 (some q144) := ⟨_, rfl⟩
      rw [← eR146] at hw
      have hr146 : R146 se 0 = some p0 := by rw [eR146, up2_k (by first | decide | omega)]; exact hr144
      have hr146_1 : R146 se 7 = none := by rw [eR146, up2_k (by first | decide | omega)]; exact hr144_1
      have hr146_2 : R146 se 8 = some q112 := by rw [eR146, up2_k (by first | decide | omega)]; exact hr144_2
      have hr146_3 : R146 se 13 = some q144 := by rw [eR146]; exact up2_s
      have gX146 : ∀ a, (K a).1 ≠ 0 → a ≠ se → X144 a = X a ∧ R146 a = Rf a := fun a h9 hm0 => ⟨(gX144 a h9 hm0).1, (by rw [eR146, up2_o hm0] : R146 a = R144 a).trans (gX144 a h9 hm0).2⟩
      refine lv_aload_n (pc := 149) hx hb dX5_init_149 rfl (lv_at hl 1 rfl) ?_
      refine ziconst (pc := 150) (n := 0) hx hb dX5_init_150 ?_
      refine zputI (pc := 151) hx hb hG hown hw hk144 (T := TX5) rfl 14 (by decide) rfl wf_X5_79 rfl (by decide +kernel) rfl dX5_init_151 (fun H locs hw => ?_)
      obtain ⟨X151, eX151⟩ : ∃ Y : zX, Y = up2 X144 se 14 0 := ⟨_, rfl⟩
      rw [← eX151] at hw
      have gX151 : ∀ a, (K a).1 ≠ 0 → a ≠ se → X151 a = X a ∧ R146 a = Rf a := fun a h9 hm0 => ⟨(by rw [eX151, up2_o hm0] : X151 a = X144 a).trans (gX146 a h9 hm0).1, (gX146 a h9 hm0).2⟩
      refine lv_aload_n (pc := 154) hx hb dX5_init_154 rfl (lv_at hl 1 rfl) ?_
      refine zsipush (pc := 155) (n := 4001) hx hb dX5_init_155 rfl ?_
      refine znewi (pc := 158) hx hb hG hw wa_int ⟨by omega, by omega⟩ (by show 0 + 1 + 1 + 1 ≤ 3; omega) (by show 0 + 4 + 8 + 4001 ≤ 4013; omega) dX5_init_158 (fun q158 H hfq158 hw => ?_)
      obtain ⟨K158, eK158⟩ : ∃ Y : zK, Y = zup K144 q158 (2, 4001) := ⟨_, rfl⟩
      obtain ⟨X158, eX158⟩ : ∃ Y : zX, Y = zupX X151 q158 := ⟨_, rfl⟩
      obtain ⟨R158, eR158⟩ : ∃ Y : zR, Y = zupR R146 q158 := ⟨_, rfl⟩
      replace hw := Wd.re hw eK158 eX158 eR158
      have hk158 : K158 se = (1, 4) := by rw [eK158]; exact zup_k hfq158 hk144 (Nat.succ_ne_zero _)
      have hn158 : se ≠ q158 := zne hk144 hfq158
      have hk158_1 : K158 p0 = (1, 3) := by rw [eK158]; exact zup_k hfq158 hk144_1 (Nat.succ_ne_zero _)
      have hn158_1 : p0 ≠ q158 := zne hk144_1 hfq158
      have hk158_2 : K158 q112 = (6, 4) := by rw [eK158]; exact zup_k hfq158 hk144_2 (Nat.succ_ne_zero _)
      have hn158_2 : q112 ≠ q158 := zne hk144_2 hfq158
      have hk158_3 : K158 q144 = (2, 8) := by rw [eK158]; exact zup_k hfq158 hk144_3 (Nat.succ_ne_zero _)
      have hn158_3 : q144 ≠ q158 := zne hk144_3 hfq158
      have hk158_4 : K158 q158 = (2, 4001) := by rw [eK158]; exact zup_s
      have hr158 : R158 se 0 = some p0 := by rw [eR158, zupR_n hn158]; exact hr146
      have hr158_1 : R158 se 7 = none := by rw [eR158, zupR_n hn158]; exact hr146_1
      have hr158_2 : R158 se 8 = some q112 := by rw [eR158, zupR_n hn158]; exact hr146_2
      have hr158_3 : R158 se 13 = some q144 := by rw [eR158, zupR_n hn158]; exact hr146_3
      have hz158 : (K q158).1 = 0 := zfz gK144 hfq158
      have gK158 : ∀ a, (K a).1 ≠ 0 → K158 a = K a := fun a h9 => (by rw [eK158, zup_n (zfa h9 hz158)] : K158 a = K144 a).trans (gK144 a h9)
      have gX158 : ∀ a, (K a).1 ≠ 0 → a ≠ se → X158 a = X a ∧ R158 a = Rf a := fun a h9 hm0 => ⟨(by rw [eX158, zupX_n (zfa h9 hz158)] : X158 a = X151 a).trans (gX151 a h9 hm0).1, (by rw [eR158, zupR_n (zfa h9 hz158)] : R158 a = R146 a).trans (gX151 a h9 hm0).2⟩
      refine zputRF (pc := 160) hx hb hG hown hw hk158 (T := TX5) (ty := .array .int) rfl 15 (by decide) rfl wf_X5_82 rfl (by decide +kernel) rfl rfl rfl hname rfl dX5_init_160 (fun H locs hw => ?_)
      obtain ⟨R160, eR160⟩ : ∃ Y : zR, Y = up2 R158 se 15 (some q158) := ⟨_, rfl⟩
      rw [← eR160] at hw
      have hr160 : R160 se 0 = some p0 := by rw [eR160, up2_k (by first | decide | omega)]; exact hr158
      have hr160_1 : R160 se 7 = none := by rw [eR160, up2_k (by first | decide | omega)]; exact hr158_1
      have hr160_2 : R160 se 8 = some q112 := by rw [eR160, up2_k (by first | decide | omega)]; exact hr158_2
      have hr160_3 : R160 se 13 = some q144 := by rw [eR160, up2_k (by first | decide | omega)]; exact hr158_3
      have hr160_4 : R160 se 15 = some q158 := by rw [eR160]; exact up2_s
      have gX160 : ∀ a, (K a).1 ≠ 0 → a ≠ se → X158 a = X a ∧ R160 a = Rf a := fun a h9 hm0 => ⟨(gX158 a h9 hm0).1, (by rw [eR160, up2_o hm0] : R160 a = R158 a).trans (gX158 a h9 hm0).2⟩
      refine lv_aload_n (pc := 163) hx hb dX5_init_163 rfl (lv_at hl 1 rfl) ?_
      refine ziconst (pc := 164) (n := 0) hx hb dX5_init_164 ?_
      refine zputI (pc := 165) hx hb hG hown hw hk158 (T := TX5) rfl 16 (by decide) rfl wf_X5_85 rfl (by decide +kernel) rfl dX5_init_165 (fun H locs hw => ?_)
      obtain ⟨X165, eX165⟩ : ∃ Y : zX, Y = up2 X158 se 16 0 := ⟨_, rfl⟩
      rw [← eX165] at hw
      have gX165 : ∀ a, (K a).1 ≠ 0 → a ≠ se → X165 a = X a ∧ R160 a = Rf a := fun a h9 hm0 => ⟨(by rw [eX165, up2_o hm0] : X165 a = X158 a).trans (gX160 a h9 hm0).1, (gX160 a h9 hm0).2⟩
      refine lv_aload_n (pc := 168) hx hb dX5_init_168 rfl (lv_at hl 1 rfl) ?_
      refine ziconst (pc := 169) (n := 0) hx hb dX5_init_169 ?_
      refine zputI (pc := 170) hx hb hG hown hw hk158 (T := TX5) rfl 17 (by decide) rfl wf_X5_88 rfl (by decide +kernel) rfl dX5_init_170 (fun H locs hw => ?_)
      obtain ⟨X170, eX170⟩ : ∃ Y : zX, Y = up2 X165 se 17 0 := ⟨_, rfl⟩
      rw [← eX170] at hw
      have gX170 : ∀ a, (K a).1 ≠ 0 → a ≠ se → X170 a = X a ∧ R160 a = Rf a := fun a h9 hm0 => ⟨(by rw [eX170, up2_o hm0] : X170 a = X165 a).trans (gX165 a h9 hm0).1, (gX165 a h9 hm0).2⟩
      exact zretV (pc := 173) hx hb hlocks hr hw (by show 0 + 1 + 1 + 1 ≤ 3; omega) (by show 0 + 4 + 8 + 4001 ≤ 4013; omega) dX5_init_173 ⟨q112, q144, q158, ⟨gK158, gX170⟩, ⟨hz112, hk158_2⟩, ⟨hz144, hk158_3⟩, ⟨hz158, hk158_4⟩, hr160, hr160_1, hr160_2, hr160_3, hr160_4, (by simp [eX170, eX165, eR160, eR158, eX158, eK158, eX151, eR146, eR144, eX144, eK144, eX138, eX130, eX125, eX120, eR115, eR112, eX112, eK112, eR107, eX54, eX37, eX28, eX22, eX16, eX11, eR6, up2, zupX, zupR, f2, f2b, hn112, Ne.symm hn112, hn112_1, Ne.symm hn112_1, hn144, Ne.symm hn144, hn144_1, Ne.symm hn144_1, hn144_2, Ne.symm hn144_2, hn158, Ne.symm hn158, hn158_1, Ne.symm hn158_1, hn158_2, Ne.symm hn158_2, hn158_3, Ne.symm hn158_3])⟩
  · skip
    exfalso; omega
set_option maxHeartbeats 4000000 in
set_option maxRecDepth 100000 in
theorem c_X5_init_k2 (l : Launch) (Γ : zG) (K : zK) (X : zX) (Rf : zR) (se : Nat) (p0 : Nat) (begin : Int) (kind : Int) (step : Int) (wds : Int)  (hk : K se = (1, 4)) (hkp : K p0 = (1, 3)) (h1 : 0 ≤ begin ∧ begin ≤ 105190559) (h2 : 2 ≤ kind ∧ kind ≤ 3) : Ct l yX5_init cX5_init 7 none 3 4 4016 Γ [.ref se, .ref p0, .int (iI begin), .int (iI kind), .int (iI step), .int (iI wds)] K X Rf (pV (fun (K' : zK) (X' : zX) (R' : zR) => ∃ us po eo fo : Nat, ((∀ a, (K a).1 ≠ 0 → K' a = K a) ∧ (∀ a, (K a).1 ≠ 0 → a ≠ se → X' a = X a ∧ R' a = Rf a)) ∧ ((K us).1 = 0 ∧ K' us = (1, 2)) ∧ ((K po).1 = 0 ∧ K' po = (6, 4)) ∧ ((K eo).1 = 0 ∧ K' eo = (2, 8)) ∧ ((K fo).1 = 0 ∧ K' fo = (2, 4001)) ∧ R' se 0 = some p0 ∧ R' se 7 = some us ∧ R' se 8 = some po ∧ R' se 13 = some eo ∧ R' se 15 = some fo ∧ ((X' se 1 = begin ∧ X' se 2 = begin / 1440 ∧ X' se 3 = kind ∧ X' se 4 = step ∧ X' se 5 = wds ∧ X' se 6 = min (begin / 1440 + 4000) 73048) ∧ X' se 9 = 0 ∧ X' se 10 = 0 ∧ X' se 11 = 0 ∧ X' se 12 = min (begin / 1440 + 4000) 73048 ∧ X' se 14 = 0 ∧ X' se 16 = 0 ∧ X' se 17 = 0 ∧ X' us 0 = (if kind = 3 then mi (begin / 1440) % 12 + 1 else 0) ∧ X' us 1 = 0 ∧ X' us 2 = begin / 1440 - mB (mi (begin / 1440)) + 1))) := by
  refine Ct.of (by decide +kernel) (Nat.le_of_ble_eq_true rfl) ?_
  intro p e s m below meth c ls hx hb hr hml hown hG hlocks hname hw hl
  have hl : lv_has ls 7 [(0, .ref se), (1, .ref p0), (2, .int (iI begin)), (3, .int (iI kind)), (4, .int (iI step)), (5, .int (iI wds))] := hl
  have gK0 : ∀ a, (K a).1 ≠ 0 → K a = K a := fun _ _ => rfl
  have gX0 : ∀ a, (K a).1 ≠ 0 → a ≠ se → X a = X a ∧ Rf a = Rf a := fun _ _ _ => ⟨rfl, rfl⟩
  refine lv_aload_n (pc := 0) hx hb dX5_init_0 rfl (lv_at hl 0 rfl) ?_
  refine W.objInit hx hb hown (hG _ wl_X5_5) (hG _ wm_objInit) (hG _ wc_objInit) rfl (by rw [hml]; exact hl.1) rfl dX5_init_1 (Nat.le_of_ble_eq_true rfl) (Nat.le_of_ble_eq_true rfl) ?_
  refine W.eq (g2 := F0 m 4 ls []) rfl ?_
  refine lv_aload_n (pc := 4) hx hb dX5_init_4 rfl (lv_at hl 0 rfl) ?_
  refine lv_aload_n (pc := 5) hx hb dX5_init_5 rfl (lv_at hl 1 rfl) ?_
  refine zputRF (pc := 6) hx hb hG hown hw hk (T := TX5) (ty := .object "ZoneCalendar$Place") rfl 0 (by decide) rfl wf_X5_11 rfl (by decide +kernel) rfl rfl rfl hname rfl dX5_init_6 (fun H locs hw => ?_)
  obtain ⟨R6, eR6⟩ : ∃ Y : zR, Y = up2 Rf se 0 (some p0) := ⟨_, rfl⟩
  rw [← eR6] at hw
  have hr6 : R6 se 0 = some p0 := by rw [eR6]; exact up2_s
  have gX6 : ∀ a, (K a).1 ≠ 0 → a ≠ se → X a = X a ∧ R6 a = Rf a := fun a h9 hm0 => ⟨(gX0 a h9 hm0).1, (by rw [eR6, up2_o hm0] : R6 a = Rf a).trans (gX0 a h9 hm0).2⟩
  refine lv_aload_n (pc := 9) hx hb dX5_init_9 rfl (lv_at hl 0 rfl) ?_
  refine lv_iload_n (pc := 10) hx hb dX5_init_10 rfl (lv_at hl 2 rfl) ?_
  refine zputIF (pc := 11) hx hb hG hown hw hk (T := TX5) rfl 1 (by decide) rfl wf_X5_15 rfl (by decide +kernel) rfl hname rfl dX5_init_11 (fun H locs hw => ?_)
  obtain ⟨X11, eX11⟩ : ∃ Y : zX, Y = up2 X se 1 begin := ⟨_, rfl⟩
  rw [← eX11] at hw
  have gX11 : ∀ a, (K a).1 ≠ 0 → a ≠ se → X11 a = X a ∧ R6 a = Rf a := fun a h9 hm0 => ⟨(by rw [eX11, up2_o hm0] : X11 a = X a).trans (gX6 a h9 hm0).1, (gX6 a h9 hm0).2⟩
  refine lv_aload_n (pc := 14) hx hb dX5_init_14 rfl (lv_at hl 0 rfl) ?_
  refine lv_iload_n (pc := 15) hx hb dX5_init_15 rfl (lv_at hl 3 rfl) ?_
  refine zputIF (pc := 16) hx hb hG hown hw hk (T := TX5) rfl 3 (by decide) rfl wf_X5_19 rfl (by decide +kernel) rfl hname rfl dX5_init_16 (fun H locs hw => ?_)
  obtain ⟨X16, eX16⟩ : ∃ Y : zX, Y = up2 X11 se 3 kind := ⟨_, rfl⟩
  rw [← eX16] at hw
  have gX16 : ∀ a, (K a).1 ≠ 0 → a ≠ se → X16 a = X a ∧ R6 a = Rf a := fun a h9 hm0 => ⟨(by rw [eX16, up2_o hm0] : X16 a = X11 a).trans (gX11 a h9 hm0).1, (gX11 a h9 hm0).2⟩
  refine lv_aload_n (pc := 19) hx hb dX5_init_19 rfl (lv_at hl 0 rfl) ?_
  refine lv_iload (pc := 20) hx hb dX5_init_20 (lv_at hl 4 rfl) ?_
  refine zputIF (pc := 22) hx hb hG hown hw hk (T := TX5) rfl 4 (by decide) rfl wf_X5_22 rfl (by decide +kernel) rfl hname rfl dX5_init_22 (fun H locs hw => ?_)
  obtain ⟨X22, eX22⟩ : ∃ Y : zX, Y = up2 X16 se 4 step := ⟨_, rfl⟩
  rw [← eX22] at hw
  have gX22 : ∀ a, (K a).1 ≠ 0 → a ≠ se → X22 a = X a ∧ R6 a = Rf a := fun a h9 hm0 => ⟨(by rw [eX22, up2_o hm0] : X22 a = X16 a).trans (gX16 a h9 hm0).1, (gX16 a h9 hm0).2⟩
  refine lv_aload_n (pc := 25) hx hb dX5_init_25 rfl (lv_at hl 0 rfl) ?_
  refine lv_iload (pc := 26) hx hb dX5_init_26 (lv_at hl 5 rfl) ?_
  refine zputIF (pc := 28) hx hb hG hown hw hk (T := TX5) rfl 5 (by decide) rfl wf_X5_25 rfl (by decide +kernel) rfl hname rfl dX5_init_28 (fun H locs hw => ?_)
  obtain ⟨X28, eX28⟩ : ∃ Y : zX, Y = up2 X22 se 5 wds := ⟨_, rfl⟩
  rw [← eX28] at hw
  have gX28 : ∀ a, (K a).1 ≠ 0 → a ≠ se → X28 a = X a ∧ R6 a = Rf a := fun a h9 hm0 => ⟨(by rw [eX28, up2_o hm0] : X28 a = X22 a).trans (gX22 a h9 hm0).1, (gX22 a h9 hm0).2⟩
  refine lv_aload_n (pc := 31) hx hb dX5_init_31 rfl (lv_at hl 0 rfl) ?_
  refine lv_iload_n (pc := 32) hx hb dX5_init_32 rfl (lv_at hl 2 rfl) ?_
  refine zsipush (pc := 33) (n := 1440) hx hb dX5_init_33 rfl ?_
  refine zdiv (pc := 36) hx hb (by omega) dX5_init_36 ?_
  refine zputIF (pc := 37) hx hb hG hown hw hk (T := TX5) rfl 2 (by decide) rfl wf_X5_28 rfl (by decide +kernel) rfl hname rfl dX5_init_37 (fun H locs hw => ?_)
  obtain ⟨X37, eX37⟩ : ∃ Y : zX, Y = up2 X28 se 2 (begin / 1440) := ⟨_, rfl⟩
  rw [← eX37] at hw
  have gX37 : ∀ a, (K a).1 ≠ 0 → a ≠ se → X37 a = X a ∧ R6 a = Rf a := fun a h9 hm0 => ⟨(by rw [eX37, up2_o hm0] : X37 a = X28 a).trans (gX28 a h9 hm0).1, (gX28 a h9 hm0).2⟩
  have f2 : X37 se 2 = begin / 1440 := by rw [eX37]; exact up2_s
  refine lv_aload_n (pc := 40) hx hb dX5_init_40 rfl (lv_at hl 0 rfl) ?_
  refine lv_aload_n (pc := 41) hx hb dX5_init_41 rfl (lv_at hl 0 rfl) ?_
  refine zgetI (pc := 42) hx hb hG hown hw hk (T := TX5) rfl 2 (by decide) rfl wf_X5_28 rfl dX5_init_42 ?_
  refine zsipush (pc := 45) (n := 4000) hx hb dX5_init_45 rfl ?_
  refine zadd (pc := 48) hx hb dX5_init_48 ?_
  refine zldc (pc := 49) (n := 73048) hx hb hown hG wk_X5_31 dX5_init_49 ?_
  refine zmin (pc := 51) hx hb (hml.trans hl.1.symm) hown hG wl_X5_32 w1_zmn wi_javalangMath w2_zmn (Nat.le_of_ble_eq_true rfl) (Nat.le_of_ble_eq_true rfl) (Nat.zero_le _) (Nat.zero_le _) ⟨by omega, by omega⟩ dX5_init_51 ?_
  refine zputIF (pc := 54) hx hb hG hown hw hk (T := TX5) rfl 6 (by decide) rfl wf_X5_38 rfl (by decide +kernel) rfl hname rfl dX5_init_54 (fun H locs hw => ?_)
  obtain ⟨X54, eX54⟩ : ∃ Y : zX, Y = up2 X37 se 6 (min ((X37 se 2) + 4000) 73048) := ⟨_, rfl⟩
  rw [← eX54] at hw
  have gX54 : ∀ a, (K a).1 ≠ 0 → a ≠ se → X54 a = X a ∧ R6 a = Rf a := fun a h9 hm0 => ⟨(by rw [eX54, up2_o hm0] : X54 a = X37 a).trans (gX37 a h9 hm0).1, (gX37 a h9 hm0).2⟩
  have f2b : X54 se 2 = begin / 1440 := by rw [eX54, up2_k (by decide)]; exact f2
  refine lv_iload_n (pc := 57) hx hb dX5_init_57 rfl (lv_at hl 3 rfl) ?_
  refine ziconst (pc := 58) (n := 3) hx hb dX5_init_58 ?_
  refine zicmp_ne (pc := 59) hx hb 77 (by omega) (by omega) dX5_init_59 (by decide) (fun c59 => ?_) (fun c59 => ?_)
  · skip
    refine ziconst (pc := 77) (n := 0) hx hb dX5_init_77 ?_
    refine lv_istore (pc := 78) (lv' := [(6, .int (iI 0)), (0, .ref se), (1, .ref p0), (2, .int (iI begin)), (3, .int (iI kind)), (4, .int (iI step)), (5, .int (iI wds))]) hx hb dX5_init_78 hl (by decide) rfl (fun ls hl => ?_)
    refine lv_aload_n (pc := 80) hx hb dX5_init_80 rfl (lv_at hl 1 rfl) ?_
    refine lv_iload_n (pc := 81) hx hb dX5_init_81 rfl (lv_at hl 4 rfl) ?_
    refine ziconst (pc := 82) (n := 2) hx hb dX5_init_82 ?_
    refine zicmp_ge (pc := 83) hx hb 90 (by omega) (by omega) dX5_init_83 (by decide) (fun c83 => ?_) (fun c83 => ?_)
    · skip
      refine znew (pc := 90) hx hb hG hown hw (T := TX3) (ci := 2) rfl wn_X5_47 wt_X3 wi_X3 (by show 0 + 1 ≤ 4; omega) (by show 0 + 3 ≤ 4016; omega) dX5_init_90 (fun q90 H hfq90 hw => ?_)
      obtain ⟨K90, eK90⟩ : ∃ Y : zK, Y = zup K q90 (1, 2) := ⟨_, rfl⟩
      obtain ⟨X90, eX90⟩ : ∃ Y : zX, Y = zupX X54 q90 := ⟨_, rfl⟩
      obtain ⟨R90, eR90⟩ : ∃ Y : zR, Y = zupR R6 q90 := ⟨_, rfl⟩
      replace hw := Wd.re hw eK90 eX90 eR90
      have hk90 : K90 se = (1, 4) := by rw [eK90]; exact zup_k hfq90 hk (Nat.succ_ne_zero _)
      have hn90 : se ≠ q90 := zne hk hfq90
      have hk90_1 : K90 p0 = (1, 3) := by rw [eK90]; exact zup_k hfq90 hkp (Nat.succ_ne_zero _)
      have hn90_1 : p0 ≠ q90 := zne hkp hfq90
      have hk90_2 : K90 q90 = (1, 2) := by rw [eK90]; exact zup_s
      have hr90 : R90 se 0 = some p0 := by rw [eR90, zupR_n hn90]; exact hr6
      have hz90 : (K q90).1 = 0 := zfz gK0 hfq90
      have gK90 : ∀ a, (K a).1 ≠ 0 → K90 a = K a := fun a h9 => (by rw [eK90, zup_n (zfa h9 hz90)] : K90 a = K a).trans (gK0 a h9)
      have gX90 : ∀ a, (K a).1 ≠ 0 → a ≠ se → X90 a = X a ∧ R90 a = Rf a := fun a h9 hm0 => ⟨(by rw [eX90, zupX_n (zfa h9 hz90)] : X90 a = X54 a).trans (gX54 a h9 hm0).1, (by rw [eR90, zupR_n (zfa h9 hz90)] : R90 a = R6 a).trans (gX54 a h9 hm0).2⟩
      have f2c : X90 se 2 = begin / 1440 := by rw [eX90, zupX_n (zfa (zk1 hk) hz90)]; exact f2b
      refine lv_dup (pc := 93) hx hb dX5_init_93 rfl ?_
      refine lv_iload (pc := 94) hx hb dX5_init_94 (lv_at hl 0 rfl) ?_
      refine ziconst (pc := 96) (n := 0) hx hb dX5_init_96 ?_
      refine lv_aload_n (pc := 97) hx hb dX5_init_97 rfl (lv_at hl 1 rfl) ?_
      refine zgetI (pc := 98) hx hb hG hown hw hk90 (T := TX5) rfl 2 (by decide) rfl wf_X5_28 rfl dX5_init_98 ?_
      refine zkIp (pc := 101) (zrS (As := [.int (iI (X90 se 2))]) hx hb hml hown hG hw (c_X1_numberInMonth l Γ K90 X90 R90 (X90 se 2)  (by (first | assumption | omega))) cb_X1_numberInMonth wl_X5_49 rfl ⟨Nat.le_of_ble_eq_true rfl, Nat.le_of_ble_eq_true rfl⟩ hl.1 rfl (Nat.le_of_ble_eq_true rfl) dX5_init_101 ⟨(by show 0 + 1 + 0 ≤ 4; omega), (by show 0 + 3 + 0 ≤ 4016; omega)⟩) hw (fun r101 H locs hp101 hw => ?_)
      subst hp101
      refine zkV (pc := 104) (zrI (As := [.int (iI 0), .int (iI 0), .int (iI ((X90 se 2) - mB (mi (X90 se 2)) + 1))]) hx hb hml hown hG hw (c_X3_init l Γ K90 X90 R90 q90 0 0 ((X90 se 2) - mB (mi (X90 se 2)) + 1)  (by (first | assumption | omega))) cb_X3_init wl_X5_52 rfl ⟨Nat.le_of_ble_eq_true rfl, Nat.le_of_ble_eq_true rfl⟩ hl.1 rfl (Nat.le_of_ble_eq_true rfl) dX5_init_104 ⟨(by show 0 + 1 + 0 ≤ 4; omega), (by show 0 + 3 + 0 ≤ 4016; omega)⟩) hw (fun K104 X104 R104 H locs hp104 hw => ?_)
      obtain ⟨⟨cK104, cX104⟩, cP104⟩ := hp104
      have hk104 : K104 se = (1, 4) := (cK104 _ (zk1 hk90)).trans hk90
      have hk104_1 : K104 p0 = (1, 3) := (cK104 _ (zk1 hk90_1)).trans hk90_1
      have hk104_2 : K104 q90 = (1, 2) := (cK104 _ (zk1 hk90_2)).trans hk90_2
      have hr104 : R104 se 0 = some p0 := by rw [(cX104 _ (zk1 hk90) hn90).2]; exact hr90
      have gK104 : ∀ a, (K a).1 ≠ 0 → K104 a = K a := fun a h9 => (cK104 a (by rw [gK90 a h9]; exact h9)).trans (gK90 a h9)
      have gX104 : ∀ a, (K a).1 ≠ 0 → a ≠ se → X104 a = X a ∧ R104 a = Rf a := fun a h9 hm0 => ⟨(cX104 a (by rw [gK90 a h9]; exact h9) (zfa h9 hz90)).1.trans (gX90 a h9 hm0).1, (cX104 a (by rw [gK90 a h9]; exact h9) (zfa h9 hz90)).2.trans (gX90 a h9 hm0).2⟩
      obtain ⟨eu0, eu1, eu2⟩ := cP104
      have es104 : X104 se = X90 se := (cX104 se (by rw [gK90 se (zk1 hk)]; exact zk1 hk) (zfa (zk1 hk) hz90)).1
      refine zputRF (pc := 107) hx hb hG hown hw hk104 (T := TX5) (ty := .object "ZoneCalendar$Pattern") rfl 7 (by decide) rfl wf_X5_55 rfl (by decide +kernel) rfl rfl rfl hname rfl dX5_init_107 (fun H locs hw => ?_)
      obtain ⟨R107, eR107⟩ : ∃ Y : zR, Y = up2 R104 se 7 (some q90) := ⟨_, rfl⟩
      rw [← eR107] at hw
      have hr107 : R107 se 0 = some p0 := by rw [eR107, up2_k (by first | decide | omega)]; exact hr104
      have hr107_1 : R107 se 7 = some q90 := by rw [eR107]; exact up2_s
      have gX107 : ∀ a, (K a).1 ≠ 0 → a ≠ se → X104 a = X a ∧ R107 a = Rf a := fun a h9 hm0 => ⟨(gX104 a h9 hm0).1, (by rw [eR107, up2_o hm0] : R107 a = R104 a).trans (gX104 a h9 hm0).2⟩
      refine lv_aload_n (pc := 110) hx hb dX5_init_110 rfl (lv_at hl 1 rfl) ?_
      refine ziconst (pc := 111) (n := 4) hx hb dX5_init_111 ?_
      refine znewq0 (pc := 112) hx hb hG hown hw wn_X5_47 ⟨by omega, by omega⟩ (by show 0 + 1 + 1 ≤ 4; omega) (by show 0 + 3 + 4 ≤ 4016; omega) dX5_init_112 (fun q112 H hfq112 hw => ?_)
      obtain ⟨K112, eK112⟩ : ∃ Y : zK, Y = zup K104 q112 (6, 4) := ⟨_, rfl⟩
      obtain ⟨X112, eX112⟩ : ∃ Y : zX, Y = zupX X104 q112 := ⟨_, rfl⟩
      obtain ⟨R112, eR112⟩ : ∃ Y : zR, Y = zupR R107 q112 := ⟨_, rfl⟩
      replace hw := Wd.re hw eK112 eX112 eR112
      have hk112 : K112 se = (1, 4) := by rw [eK112]; exact zup_k hfq112 hk104 (Nat.succ_ne_zero _)
      have hn112 : se ≠ q112 := zne hk104 hfq112
      have hk112_1 : K112 p0 = (1, 3) := by rw [eK112]; exact zup_k hfq112 hk104_1 (Nat.succ_ne_zero _)
      have hn112_1 : p0 ≠ q112 := zne hk104_1 hfq112
      have hk112_2 : K112 q90 = (1, 2) := by rw [eK112]; exact zup_k hfq112 hk104_2 (Nat.succ_ne_zero _)
      have hn112_2 : q90 ≠ q112 := zne hk104_2 hfq112
      have hk112_3 : K112 q112 = (6, 4) := by rw [eK112]; exact zup_s
      have hr112 : R112 se 0 = some p0 := by rw [eR112, zupR_n hn112]; exact hr107
      have hr112_1 : R112 se 7 = some q90 := by rw [eR112, zupR_n hn112]; exact hr107_1
      have hz112 : (K q112).1 = 0 := zfz gK104 hfq112
      have gK112 : ∀ a, (K a).1 ≠ 0 → K112 a = K a := fun a h9 => (by rw [eK112, zup_n (zfa h9 hz112)] : K112 a = K104 a).trans (gK104 a h9)
      have gX112 : ∀ a, (K a).1 ≠ 0 → a ≠ se → X112 a = X a ∧ R112 a = Rf a := fun a h9 hm0 => ⟨(by rw [eX112, zupX_n (zfa h9 hz112)] : X112 a = X104 a).trans (gX107 a h9 hm0).1, (by rw [eR112, zupR_n (zfa h9 hz112)] : R112 a = R107 a).trans (gX107 a h9 hm0).2⟩
      refine zputRF (pc := 115) hx hb hG hown hw hk112 (T := TX5) (ty := .array (.object "ZoneCalendar$Pattern")) rfl 8 (by decide) rfl wf_X5_59 rfl (by decide +kernel) rfl rfl rfl hname rfl dX5_init_115 (fun H locs hw => ?_)
      obtain ⟨R115, eR115⟩ : ∃ Y : zR, Y = up2 R112 se 8 (some q112) := ⟨_, rfl⟩
      rw [← eR115] at hw
      have hr115 : R115 se 0 = some p0 := by rw [eR115, up2_k (by first | decide | omega)]; exact hr112
      have hr115_1 : R115 se 7 = some q90 := by rw [eR115, up2_k (by first | decide | omega)]; exact hr112_1
      have hr115_2 : R115 se 8 = some q112 := by rw [eR115]; exact up2_s
      have gX115 : ∀ a, (K a).1 ≠ 0 → a ≠ se → X112 a = X a ∧ R115 a = Rf a := fun a h9 hm0 => ⟨(gX112 a h9 hm0).1, (by rw [eR115, up2_o hm0] : R115 a = R112 a).trans (gX112 a h9 hm0).2⟩
      refine lv_aload_n (pc := 118) hx hb dX5_init_118 rfl (lv_at hl 1 rfl) ?_
      refine ziconst (pc := 119) (n := 0) hx hb dX5_init_119 ?_
      refine zputI (pc := 120) hx hb hG hown hw hk112 (T := TX5) rfl 9 (by decide) rfl wf_X5_63 rfl (by decide +kernel) rfl dX5_init_120 (fun H locs hw => ?_)
      obtain ⟨X120, eX120⟩ : ∃ Y : zX, Y = up2 X112 se 9 0 := ⟨_, rfl⟩
      rw [← eX120] at hw
      have gX120 : ∀ a, (K a).1 ≠ 0 → a ≠ se → X120 a = X a ∧ R115 a = Rf a := fun a h9 hm0 => ⟨(by rw [eX120, up2_o hm0] : X120 a = X112 a).trans (gX115 a h9 hm0).1, (gX115 a h9 hm0).2⟩
      refine lv_aload_n (pc := 123) hx hb dX5_init_123 rfl (lv_at hl 1 rfl) ?_
      refine ziconst (pc := 124) (n := 0) hx hb dX5_init_124 ?_
      refine zputI (pc := 125) hx hb hG hown hw hk112 (T := TX5) rfl 10 (by decide) rfl wf_X5_66 rfl (by decide +kernel) rfl dX5_init_125 (fun H locs hw => ?_)
      obtain ⟨X125, eX125⟩ : ∃ Y : zX, Y = up2 X120 se 10 0 := ⟨_, rfl⟩
      rw [← eX125] at hw
      have gX125 : ∀ a, (K a).1 ≠ 0 → a ≠ se → X125 a = X a ∧ R115 a = Rf a := fun a h9 hm0 => ⟨(by rw [eX125, up2_o hm0] : X125 a = X120 a).trans (gX120 a h9 hm0).1, (gX120 a h9 hm0).2⟩
      refine lv_aload_n (pc := 128) hx hb dX5_init_128 rfl (lv_at hl 1 rfl) ?_
      refine ziconst (pc := 129) (n := 0) hx hb dX5_init_129 ?_
      refine zputI (pc := 130) hx hb hG hown hw hk112 (T := TX5) rfl 11 (by decide) rfl wf_X5_69 rfl (by decide +kernel) rfl dX5_init_130 (fun H locs hw => ?_)
      obtain ⟨X130, eX130⟩ : ∃ Y : zX, Y = up2 X125 se 11 0 := ⟨_, rfl⟩
      rw [← eX130] at hw
      have gX130 : ∀ a, (K a).1 ≠ 0 → a ≠ se → X130 a = X a ∧ R115 a = Rf a := fun a h9 hm0 => ⟨(by rw [eX130, up2_o hm0] : X130 a = X125 a).trans (gX125 a h9 hm0).1, (gX125 a h9 hm0).2⟩
      refine lv_aload_n (pc := 133) hx hb dX5_init_133 rfl (lv_at hl 1 rfl) ?_
      refine lv_aload_n (pc := 134) hx hb dX5_init_134 rfl (lv_at hl 1 rfl) ?_
      refine zgetI (pc := 135) hx hb hG hown hw hk112 (T := TX5) rfl 6 (by decide) rfl wf_X5_38 rfl dX5_init_135 ?_
      refine zputI (pc := 138) hx hb hG hown hw hk112 (T := TX5) rfl 12 (by decide) rfl wf_X5_72 rfl (by decide +kernel) rfl dX5_init_138 (fun H locs hw => ?_)
      obtain ⟨X138, eX138⟩ : ∃ Y : zX, Y = up2 X130 se 12 (X130 se 6) := ⟨_, rfl⟩
      rw [← eX138] at hw
      have gX138 : ∀ a, (K a).1 ≠ 0 → a ≠ se → X138 a = X a ∧ R115 a = Rf a := fun a h9 hm0 => ⟨(by rw [eX138, up2_o hm0] : X138 a = X130 a).trans (gX130 a h9 hm0).1, (gX130 a h9 hm0).2⟩
      refine lv_aload_n (pc := 141) hx hb dX5_init_141 rfl (lv_at hl 1 rfl) ?_
      refine zbipush (pc := 142) (n := 8) hx hb dX5_init_142 rfl ?_
      refine znewi (pc := 144) hx hb hG hw wa_int ⟨by omega, by omega⟩ (by show 0 + 1 + 1 + 1 ≤ 4; omega) (by show 0 + 3 + 4 + 8 ≤ 4016; omega) dX5_init_144 (fun q144 H hfq144 hw => ?_)
      obtain ⟨K144, eK144⟩ : ∃ Y : zK, Y = zup K112 q144 (2, 8) := ⟨_, rfl⟩
      obtain ⟨X144, eX144⟩ : ∃ Y : zX, Y = zupX X138 q144 := ⟨_, rfl⟩
      obtain ⟨R144, eR144⟩ : ∃ Y : zR, Y = zupR R115 q144 := ⟨_, rfl⟩
      replace hw := Wd.re hw eK144 eX144 eR144
      have hk144 : K144 se = (1, 4) := by rw [eK144]; exact zup_k hfq144 hk112 (Nat.succ_ne_zero _)
      have hn144 : se ≠ q144 := zne hk112 hfq144
      have hk144_1 : K144 p0 = (1, 3) := by rw [eK144]; exact zup_k hfq144 hk112_1 (Nat.succ_ne_zero _)
      have hn144_1 : p0 ≠ q144 := zne hk112_1 hfq144
      have hk144_2 : K144 q90 = (1, 2) := by rw [eK144]; exact zup_k hfq144 hk112_2 (Nat.succ_ne_zero _)
      have hn144_2 : q90 ≠ q144 := zne hk112_2 hfq144
      have hk144_3 : K144 q112 = (6, 4) := by rw [eK144]; exact zup_k hfq144 hk112_3 (Nat.succ_ne_zero _)
      have hn144_3 : q112 ≠ q144 := zne hk112_3 hfq144
      have hk144_4 : K144 q144 = (2, 8) := by rw [eK144]; exact zup_s
      have hr144 : R144 se 0 = some p0 := by rw [eR144, zupR_n hn144]; exact hr115
      have hr144_1 : R144 se 7 = some q90 := by rw [eR144, zupR_n hn144]; exact hr115_1
      have hr144_2 : R144 se 8 = some q112 := by rw [eR144, zupR_n hn144]; exact hr115_2
      have hz144 : (K q144).1 = 0 := zfz gK112 hfq144
      have gK144 : ∀ a, (K a).1 ≠ 0 → K144 a = K a := fun a h9 => (by rw [eK144, zup_n (zfa h9 hz144)] : K144 a = K112 a).trans (gK112 a h9)
      have gX144 : ∀ a, (K a).1 ≠ 0 → a ≠ se → X144 a = X a ∧ R144 a = Rf a := fun a h9 hm0 => ⟨(by rw [eX144, zupX_n (zfa h9 hz144)] : X144 a = X138 a).trans (gX138 a h9 hm0).1, (by rw [eR144, zupR_n (zfa h9 hz144)] : R144 a = R115 a).trans (gX138 a h9 hm0).2⟩
      refine zputRF (pc := 146) hx hb hG hown hw hk144 (T := TX5) (ty := .array .int) rfl 13 (by decide) rfl wf_X5_75 rfl (by decide +kernel) rfl rfl rfl hname rfl dX5_init_146 (fun H locs hw => ?_)
      obtain ⟨R146, eR146⟩ : ∃ Y : zR, Y = up2 R144 se 13 (some q144) := ⟨_, rfl⟩
      rw [← eR146] at hw
      have hr146 : R146 se 0 = some p0 := by rw [eR146, up2_k (by first | decide | omega)]; exact hr144
      have hr146_1 : R146 se 7 = some q90 := by rw [eR146, up2_k (by first | decide | omega)]; exact hr144_1
      have hr146_2 : R146 se 8 = some q112 := by rw [eR146, up2_k (by first | decide | omega)]; exact hr144_2
      have hr146_3 : R146 se 13 = some q144 := by rw [eR146]; exact up2_s
      have gX146 : ∀ a, (K a).1 ≠ 0 → a ≠ se → X144 a = X a ∧ R146 a = Rf a := fun a h9 hm0 => ⟨(gX144 a h9 hm0).1, (by rw [eR146, up2_o hm0] : R146 a = R144 a).trans (gX144 a h9 hm0).2⟩
      refine lv_aload_n (pc := 149) hx hb dX5_init_149 rfl (lv_at hl 1 rfl) ?_
      refine ziconst (pc := 150) (n := 0) hx hb dX5_init_150 ?_
      refine zputI (pc := 151) hx hb hG hown hw hk144 (T := TX5) rfl 14 (by decide) rfl wf_X5_79 rfl (by decide +kernel) rfl dX5_init_151 (fun H locs hw => ?_)
      obtain ⟨X151, eX151⟩ : ∃ Y : zX, Y = up2 X144 se 14 0 := ⟨_, rfl⟩
      rw [← eX151] at hw
      have gX151 : ∀ a, (K a).1 ≠ 0 → a ≠ se → X151 a = X a ∧ R146 a = Rf a := fun a h9 hm0 => ⟨(by rw [eX151, up2_o hm0] : X151 a = X144 a).trans (gX146 a h9 hm0).1, (gX146 a h9 hm0).2⟩
      refine lv_aload_n (pc := 154) hx hb dX5_init_154 rfl (lv_at hl 1 rfl) ?_
      refine zsipush (pc := 155) (n := 4001) hx hb dX5_init_155 rfl ?_
      refine znewi (pc := 158) hx hb hG hw wa_int ⟨by omega, by omega⟩ (by show 0 + 1 + 1 + 1 + 1 ≤ 4; omega) (by show 0 + 3 + 4 + 8 + 4001 ≤ 4016; omega) dX5_init_158 (fun q158 H hfq158 hw => ?_)
      obtain ⟨K158, eK158⟩ : ∃ Y : zK, Y = zup K144 q158 (2, 4001) := ⟨_, rfl⟩
      obtain ⟨X158, eX158⟩ : ∃ Y : zX, Y = zupX X151 q158 := ⟨_, rfl⟩
      obtain ⟨R158, eR158⟩ : ∃ Y : zR, Y = zupR R146 q158 := ⟨_, rfl⟩
      replace hw := Wd.re hw eK158 eX158 eR158
      have hk158 : K158 se = (1, 4) := by rw [eK158]; exact zup_k hfq158 hk144 (Nat.succ_ne_zero _)
      have hn158 : se ≠ q158 := zne hk144 hfq158
      have hk158_1 : K158 p0 = (1, 3) := by rw [eK158]; exact zup_k hfq158 hk144_1 (Nat.succ_ne_zero _)
      have hn158_1 : p0 ≠ q158 := zne hk144_1 hfq158
      have hk158_2 : K158 q90 = (1, 2) := by rw [eK158]; exact zup_k hfq158 hk144_2 (Nat.succ_ne_zero _)
      have hn158_2 : q90 ≠ q158 := zne hk144_2 hfq158
      have hk158_3 : K158 q112 = (6, 4) := by rw [eK158]; exact zup_k hfq158 hk144_3 (Nat.succ_ne_zero _)
      have hn158_3 : q112 ≠ q158 := zne hk144_3 hfq158
      have hk158_4 : K158 q144 = (2, 8) := by rw [eK158]; exact zup_k hfq158 hk144_4 (Nat.succ_ne_zero _)
      have hn158_4 : q144 ≠ q158 := zne hk144_4 hfq158
      have hk158_5 : K158 q158 = (2, 4001) := by rw [eK158]; exact zup_s
      have hr158 : R158 se 0 = some p0 := by rw [eR158, zupR_n hn158]; exact hr146
      have hr158_1 : R158 se 7 = some q90 := by rw [eR158, zupR_n hn158]; exact hr146_1
      have hr158_2 : R158 se 8 = some q112 := by rw [eR158, zupR_n hn158]; exact hr146_2
      have hr158_3 : R158 se 13 = some q144 := by rw [eR158, zupR_n hn158]; exact hr146_3
      have hz158 : (K q158).1 = 0 := zfz gK144 hfq158
      have gK158 : ∀ a, (K a).1 ≠ 0 → K158 a = K a := fun a h9 => (by rw [eK158, zup_n (zfa h9 hz158)] : K158 a = K144 a).trans (gK144 a h9)
      have gX158 : ∀ a, (K a).1 ≠ 0 → a ≠ se → X158 a = X a ∧ R158 a = Rf a := fun a h9 hm0 => ⟨(by rw [eX158, zupX_n (zfa h9 hz158)] : X158 a = X151 a).trans (gX151 a h9 hm0).1, (by rw [eR158, zupR_n (zfa h9 hz158)] : R158 a = R146 a).trans (gX151 a h9 hm0).2⟩
      refine zputRF (pc := 160) hx hb hG hown hw hk158 (T := TX5) (ty := .array .int) rfl 15 (by decide) rfl wf_X5_82 rfl (by decide +kernel) rfl rfl rfl hname rfl dX5_init_160 (fun H locs hw => ?_)
      obtain ⟨R160, eR160⟩ : ∃ Y : zR, Y = up2 R158 se 15 (some q158) := ⟨_, rfl⟩
      rw [← eR160] at hw
      have hr160 : R160 se 0 = some p0 := by rw [eR160, up2_k (by first | decide | omega)]; exact hr158
      have hr160_1 : R160 se 7 = some q90 := by rw [eR160, up2_k (by first | decide | omega)]; exact hr158_1
      have hr160_2 : R160 se 8 = some q112 := by rw [eR160, up2_k (by first | decide | omega)]; exact hr158_2
      have hr160_3 : R160 se 13 = some q144 := by rw [eR160, up2_k (by first | decide | omega)]; exact hr158_3
      have hr160_4 : R160 se 15 = some q158 := by rw [eR160]; exact up2_s
      have gX160 : ∀ a, (K a).1 ≠ 0 → a ≠ se → X158 a = X a ∧ R160 a = Rf a := fun a h9 hm0 => ⟨(gX158 a h9 hm0).1, (by rw [eR160, up2_o hm0] : R160 a = R158 a).trans (gX158 a h9 hm0).2⟩
      refine lv_aload_n (pc := 163) hx hb dX5_init_163 rfl (lv_at hl 1 rfl) ?_
      refine ziconst (pc := 164) (n := 0) hx hb dX5_init_164 ?_
      refine zputI (pc := 165) hx hb hG hown hw hk158 (T := TX5) rfl 16 (by decide) rfl wf_X5_85 rfl (by decide +kernel) rfl dX5_init_165 (fun H locs hw => ?_)
      obtain ⟨X165, eX165⟩ : ∃ Y : zX, Y = up2 X158 se 16 0 := ⟨_, rfl⟩
      rw [← eX165] at hw
      have gX165 : ∀ a, (K a).1 ≠ 0 → a ≠ se → X165 a = X a ∧ R160 a = Rf a := fun a h9 hm0 => ⟨(by rw [eX165, up2_o hm0] : X165 a = X158 a).trans (gX160 a h9 hm0).1, (gX160 a h9 hm0).2⟩
      refine lv_aload_n (pc := 168) hx hb dX5_init_168 rfl (lv_at hl 1 rfl) ?_
      refine ziconst (pc := 169) (n := 0) hx hb dX5_init_169 ?_
      refine zputI (pc := 170) hx hb hG hown hw hk158 (T := TX5) rfl 17 (by decide) rfl wf_X5_88 rfl (by decide +kernel) rfl dX5_init_170 (fun H locs hw => ?_)
      obtain ⟨X170, eX170⟩ : ∃ Y : zX, Y = up2 X165 se 17 0 := ⟨_, rfl⟩
      rw [← eX170] at hw
      have gX170 : ∀ a, (K a).1 ≠ 0 → a ≠ se → X170 a = X a ∧ R160 a = Rf a := fun a h9 hm0 => ⟨(by rw [eX170, up2_o hm0] : X170 a = X165 a).trans (gX165 a h9 hm0).1, (gX165 a h9 hm0).2⟩
      exact zretV (pc := 173) hx hb hlocks hr hw (by show 0 + 1 + 1 + 1 + 1 ≤ 4; omega) (by show 0 + 3 + 4 + 8 + 4001 ≤ 4016; omega) dX5_init_173 ⟨q90, q112, q144, q158, ⟨gK158, gX170⟩, ⟨hz90, hk158_2⟩, ⟨hz112, hk158_3⟩, ⟨hz144, hk158_4⟩, ⟨hz158, hk158_5⟩, hr160, hr160_1, hr160_2, hr160_3, hr160_4, (by first | (simp [eX170, eX165, eR160, eR158, eX158, eK158, eX151, eR146, eR144, eX144, eK144, eX138, eX130, eX125, eX120, eR115, eR112, eX112, eK112, eR107, eR90, eX90, eK90, eX54, eX37, eX28, eX22, eX16, eX11, eR6, up2, zupX, zupR, f2c, ex78, es104, eu0, eu1, eu2, f2, f2b, hn112, Ne.symm hn112, hn112_1, Ne.symm hn112_1, hn112_2, Ne.symm hn112_2, hn144, Ne.symm hn144, hn144_1, Ne.symm hn144_1, hn144_2, Ne.symm hn144_2, hn144_3, Ne.symm hn144_3, hn158, Ne.symm hn158, hn158_1, Ne.symm hn158_1, hn158_2, Ne.symm hn158_2, hn158_3, Ne.symm hn158_3, hn158_4, Ne.symm hn158_4, hn90, Ne.symm hn90, hn90_1, Ne.symm hn90_1]; done) | (simp [eX170, eX165, eR160, eR158, eX158, eK158, eX151, eR146, eR144, eX144, eK144, eX138, eX130, eX125, eX120, eR115, eR112, eX112, eK112, eR107, eR90, eX90, eK90, eX54, eX37, eX28, eX22, eX16, eX11, eR6, up2, zupX, zupR, f2c, ex78, es104, eu0, eu1, eu2, f2, f2b, hn112, Ne.symm hn112, hn112_1, Ne.symm hn112_1, hn112_2, Ne.symm hn112_2, hn144, Ne.symm hn144, hn144_1, Ne.symm hn144_1, hn144_2, Ne.symm hn144_2, hn144_3, Ne.symm hn144_3, hn158, Ne.symm hn158, hn158_1, Ne.symm hn158_1, hn158_2, Ne.symm hn158_2, hn158_3, Ne.symm hn158_3, hn158_4, Ne.symm hn158_4, hn90, Ne.symm hn90, hn90_1, Ne.symm hn90_1]; intros; omega) | (simp [eX170, eX165, eR160, eR158, eX158, eK158, eX151, eR146, eR144, eX144, eK144, eX138, eX130, eX125, eX120, eR115, eR112, eX112, eK112, eR107, eR90, eX90, eK90, eX54, eX37, eX28, eX22, eX16, eX11, eR6, up2, zupX, zupR, f2c, es104, eu0, eu1, eu2, f2, f2b, hn112, Ne.symm hn112, hn112_1, Ne.symm hn112_1, hn112_2, Ne.symm hn112_2, hn144, Ne.symm hn144, hn144_1, Ne.symm hn144_1, hn144_2, Ne.symm hn144_2, hn144_3, Ne.symm hn144_3, hn158, Ne.symm hn158, hn158_1, Ne.symm hn158_1, hn158_2, Ne.symm hn158_2, hn158_3, Ne.symm hn158_3, hn158_4, Ne.symm hn158_4, hn90, Ne.symm hn90, hn90_1, Ne.symm hn90_1]; done) | (simp [eX170, eX165, eR160, eR158, eX158, eK158, eX151, eR146, eR144, eX144, eK144, eX138, eX130, eX125, eX120, eR115, eR112, eX112, eK112, eR107, eR90, eX90, eK90, eX54, eX37, eX28, eX22, eX16, eX11, eR6, up2, zupX, zupR, f2c, es104, eu0, eu1, eu2, f2, f2b, hn112, Ne.symm hn112, hn112_1, Ne.symm hn112_1, hn112_2, Ne.symm hn112_2, hn144, Ne.symm hn144, hn144_1, Ne.symm hn144_1, hn144_2, Ne.symm hn144_2, hn144_3, Ne.symm hn144_3, hn158, Ne.symm hn158, hn158_1, Ne.symm hn158_1, hn158_2, Ne.symm hn158_2, hn158_3, Ne.symm hn158_3, hn158_4, Ne.symm hn158_4, hn90, Ne.symm hn90, hn90_1, Ne.symm hn90_1]; intros; omega))⟩
    · skip
      exfalso; omega
  · skip
    refine lv_aload_n (pc := 62) hx hb dX5_init_62 rfl (lv_at hl 0 rfl) ?_
    refine zgetI (pc := 63) hx hb hG hown hw hk (T := TX5) rfl 2 (by decide) rfl wf_X5_28 rfl dX5_init_63 ?_
    refine zkIp (pc := 66) (zrS (As := [.int (iI (X54 se 2))]) hx hb hml hown hG hw (c_X1_monthWith l Γ K X54 R6 (X54 se 2)  (by (first | assumption | omega))) cb_X1_monthWith wl_X5_41 rfl ⟨Nat.le_of_ble_eq_true rfl, Nat.le_of_ble_eq_true rfl⟩ hl.1 rfl (Nat.le_of_ble_eq_true rfl) dX5_init_66 ⟨Nat.zero_le _, Nat.zero_le _⟩) hw (fun r66 H locs hp66 hw => ?_)
    subst hp66
    have hp66f0 := mi_rng (d := (X54 se 2)) (by omega) (by omega)
    refine zbipush (pc := 69) (n := 12) hx hb dX5_init_69 rfl ?_
    refine zrem (pc := 71) hx hb (by omega) dX5_init_71 ?_
    refine ziconst (pc := 72) (n := 1) hx hb dX5_init_72 ?_
    refine zadd (pc := 73) hx hb dX5_init_73 ?_
    refine lv_goto (pc := 74) (tgt := 78) hx hb dX5_init_74 (by decide) ?_
    refine ztop (fun x78 ex78 => ?_)
    refine lv_istore (pc := 78) (lv' := [(6, .int (iI x78)), (0, .ref se), (1, .ref p0), (2, .int (iI begin)), (3, .int (iI kind)), (4, .int (iI step)), (5, .int (iI wds))]) hx hb dX5_init_78 hl (by decide) rfl (fun ls hl => ?_)
    refine lv_aload_n (pc := 80) hx hb dX5_init_80 rfl (lv_at hl 1 rfl) ?_
    refine lv_iload_n (pc := 81) hx hb dX5_init_81 rfl (lv_at hl 4 rfl) ?_
    refine ziconst (pc := 82) (n := 2) hx hb dX5_init_82 ?_
    refine zicmp_ge (pc := 83) hx hb 90 (by omega) (by omega) dX5_init_83 (by decide) (fun c83 => ?_) (fun c83 => ?_)
    · skip
      refine znew (pc := 90) hx hb hG hown hw (T := TX3) (ci := 2) rfl wn_X5_47 wt_X3 wi_X3 (by show 0 + 1 ≤ 4; omega) (by show 0 + 3 ≤ 4016; omega) dX5_init_90 (fun q90 H hfq90 hw => ?_)
      obtain ⟨K90, eK90⟩ : ∃ Y : zK, Y = zup K q90 (1, 2) := ⟨_, rfl⟩
      obtain ⟨X90, eX90⟩ : ∃ Y : zX, Y = zupX X54 q90 := ⟨_, rfl⟩
      obtain ⟨R90, eR90⟩ : ∃ Y : zR, Y = zupR R6 q90 := ⟨_, rfl⟩
      replace hw := Wd.re hw eK90 eX90 eR90
      have hk90 : K90 se = (1, 4) := by rw [eK90]; exact zup_k hfq90 hk (Nat.succ_ne_zero _)
      have hn90 : se ≠ q90 := zne hk hfq90
      have hk90_1 : K90 p0 = (1, 3) := by rw [eK90]; exact zup_k hfq90 hkp (Nat.succ_ne_zero _)
      have hn90_1 : p0 ≠ q90 := zne hkp hfq90
      have hk90_2 : K90 q90 = (1, 2) := by rw [eK90]; exact zup_s
      have hr90 : R90 se 0 = some p0 := by rw [eR90, zupR_n hn90]; exact hr6
      have hz90 : (K q90).1 = 0 := zfz gK0 hfq90
      have gK90 : ∀ a, (K a).1 ≠ 0 → K90 a = K a := fun a h9 => (by rw [eK90, zup_n (zfa h9 hz90)] : K90 a = K a).trans (gK0 a h9)
      have gX90 : ∀ a, (K a).1 ≠ 0 → a ≠ se → X90 a = X a ∧ R90 a = Rf a := fun a h9 hm0 => ⟨(by rw [eX90, zupX_n (zfa h9 hz90)] : X90 a = X54 a).trans (gX54 a h9 hm0).1, (by rw [eR90, zupR_n (zfa h9 hz90)] : R90 a = R6 a).trans (gX54 a h9 hm0).2⟩
      have f2c : X90 se 2 = begin / 1440 := by rw [eX90, zupX_n (zfa (zk1 hk) hz90)]; exact f2b
      refine lv_dup (pc := 93) hx hb dX5_init_93 rfl ?_
      refine lv_iload (pc := 94) hx hb dX5_init_94 (lv_at hl 0 rfl) ?_
      refine ziconst (pc := 96) (n := 0) hx hb dX5_init_96 ?_
      refine lv_aload_n (pc := 97) hx hb dX5_init_97 rfl (lv_at hl 1 rfl) ?_
      refine zgetI (pc := 98) hx hb hG hown hw hk90 (T := TX5) rfl 2 (by decide) rfl wf_X5_28 rfl dX5_init_98 ?_
      refine zkIp (pc := 101) (zrS (As := [.int (iI (X90 se 2))]) hx hb hml hown hG hw (c_X1_numberInMonth l Γ K90 X90 R90 (X90 se 2)  (by (first | assumption | omega))) cb_X1_numberInMonth wl_X5_49 rfl ⟨Nat.le_of_ble_eq_true rfl, Nat.le_of_ble_eq_true rfl⟩ hl.1 rfl (Nat.le_of_ble_eq_true rfl) dX5_init_101 ⟨(by show 0 + 1 + 0 ≤ 4; omega), (by show 0 + 3 + 0 ≤ 4016; omega)⟩) hw (fun r101 H locs hp101 hw => ?_)
      subst hp101
      refine zkV (pc := 104) (zrI (As := [.int (iI x78), .int (iI 0), .int (iI ((X90 se 2) - mB (mi (X90 se 2)) + 1))]) hx hb hml hown hG hw (c_X3_init l Γ K90 X90 R90 q90 x78 0 ((X90 se 2) - mB (mi (X90 se 2)) + 1)  (by (first | assumption | omega))) cb_X3_init wl_X5_52 rfl ⟨Nat.le_of_ble_eq_true rfl, Nat.le_of_ble_eq_true rfl⟩ hl.1 rfl (Nat.le_of_ble_eq_true rfl) dX5_init_104 ⟨(by show 0 + 1 + 0 ≤ 4; omega), (by show 0 + 3 + 0 ≤ 4016; omega)⟩) hw (fun K104 X104 R104 H locs hp104 hw => ?_)
      obtain ⟨⟨cK104, cX104⟩, cP104⟩ := hp104
      have hk104 : K104 se = (1, 4) := (cK104 _ (zk1 hk90)).trans hk90
      have hk104_1 : K104 p0 = (1, 3) := (cK104 _ (zk1 hk90_1)).trans hk90_1
      have hk104_2 : K104 q90 = (1, 2) := (cK104 _ (zk1 hk90_2)).trans hk90_2
      have hr104 : R104 se 0 = some p0 := by rw [(cX104 _ (zk1 hk90) hn90).2]; exact hr90
      have gK104 : ∀ a, (K a).1 ≠ 0 → K104 a = K a := fun a h9 => (cK104 a (by rw [gK90 a h9]; exact h9)).trans (gK90 a h9)
      have gX104 : ∀ a, (K a).1 ≠ 0 → a ≠ se → X104 a = X a ∧ R104 a = Rf a := fun a h9 hm0 => ⟨(cX104 a (by rw [gK90 a h9]; exact h9) (zfa h9 hz90)).1.trans (gX90 a h9 hm0).1, (cX104 a (by rw [gK90 a h9]; exact h9) (zfa h9 hz90)).2.trans (gX90 a h9 hm0).2⟩
      obtain ⟨eu0, eu1, eu2⟩ := cP104
      have es104 : X104 se = X90 se := (cX104 se (by rw [gK90 se (zk1 hk)]; exact zk1 hk) (zfa (zk1 hk) hz90)).1
      refine zputRF (pc := 107) hx hb hG hown hw hk104 (T := TX5) (ty := .object "ZoneCalendar$Pattern") rfl 7 (by decide) rfl wf_X5_55 rfl (by decide +kernel) rfl rfl rfl hname rfl dX5_init_107 (fun H locs hw => ?_)
      obtain ⟨R107, eR107⟩ : ∃ Y : zR, Y = up2 R104 se 7 (some q90) := ⟨_, rfl⟩
      rw [← eR107] at hw
      have hr107 : R107 se 0 = some p0 := by rw [eR107, up2_k (by first | decide | omega)]; exact hr104
      have hr107_1 : R107 se 7 = some q90 := by rw [eR107]; exact up2_s
      have gX107 : ∀ a, (K a).1 ≠ 0 → a ≠ se → X104 a = X a ∧ R107 a = Rf a := fun a h9 hm0 => ⟨(gX104 a h9 hm0).1, (by rw [eR107, up2_o hm0] : R107 a = R104 a).trans (gX104 a h9 hm0).2⟩
      refine lv_aload_n (pc := 110) hx hb dX5_init_110 rfl (lv_at hl 1 rfl) ?_
      refine ziconst (pc := 111) (n := 4) hx hb dX5_init_111 ?_
      refine znewq0 (pc := 112) hx hb hG hown hw wn_X5_47 ⟨by omega, by omega⟩ (by show 0 + 1 + 1 ≤ 4; omega) (by show 0 + 3 + 4 ≤ 4016; omega) dX5_init_112 (fun q112 H hfq112 hw => ?_)
      obtain ⟨K112, eK112⟩ : ∃ Y : zK, Y = zup K104 q112 (6, 4) := ⟨_, rfl⟩
      obtain ⟨X112, eX112⟩ : ∃ Y : zX, Y = zupX X104 q112 := ⟨_, rfl⟩
      obtain ⟨R112, eR112⟩ : ∃ Y : zR, Y = zupR R107 q112 := ⟨_, rfl⟩
      replace hw := Wd.re hw eK112 eX112 eR112
      have hk112 : K112 se = (1, 4) := by rw [eK112]; exact zup_k hfq112 hk104 (Nat.succ_ne_zero _)
      have hn112 : se ≠ q112 := zne hk104 hfq112
      have hk112_1 : K112 p0 = (1, 3) := by rw [eK112]; exact zup_k hfq112 hk104_1 (Nat.succ_ne_zero _)
      have hn112_1 : p0 ≠ q112 := zne hk104_1 hfq112
      have hk112_2 : K112 q90 = (1, 2) := by rw [eK112]; exact zup_k hfq112 hk104_2 (Nat.succ_ne_zero _)
      have hn112_2 : q90 ≠ q112 := zne hk104_2 hfq112
      have hk112_3 : K112 q112 = (6, 4) := by rw [eK112]; exact zup_s
      have hr112 : R112 se 0 = some p0 := by rw [eR112, zupR_n hn112]; exact hr107
      have hr112_1 : R112 se 7 = some q90 := by rw [eR112, zupR_n hn112]; exact hr107_1
      have hz112 : (K q112).1 = 0 := zfz gK104 hfq112
      have gK112 : ∀ a, (K a).1 ≠ 0 → K112 a = K a := fun a h9 => (by rw [eK112, zup_n (zfa h9 hz112)] : K112 a = K104 a).trans (gK104 a h9)
      have gX112 : ∀ a, (K a).1 ≠ 0 → a ≠ se → X112 a = X a ∧ R112 a = Rf a := fun a h9 hm0 => ⟨(by rw [eX112, zupX_n (zfa h9 hz112)] : X112 a = X104 a).trans (gX107 a h9 hm0).1, (by rw [eR112, zupR_n (zfa h9 hz112)] : R112 a = R107 a).trans (gX107 a h9 hm0).2⟩
      refine zputRF (pc := 115) hx hb hG hown hw hk112 (T := TX5) (ty := .array (.object "ZoneCalendar$Pattern")) rfl 8 (by decide) rfl wf_X5_59 rfl (by decide +kernel) rfl rfl rfl hname rfl dX5_init_115 (fun H locs hw => ?_)
      obtain ⟨R115, eR115⟩ : ∃ Y : zR, Y = up2 R112 se 8 (some q112) := ⟨_, rfl⟩
      rw [← eR115] at hw
      have hr115 : R115 se 0 = some p0 := by rw [eR115, up2_k (by first | decide | omega)]; exact hr112
      have hr115_1 : R115 se 7 = some q90 := by rw [eR115, up2_k (by first | decide | omega)]; exact hr112_1
      have hr115_2 : R115 se 8 = some q112 := by rw [eR115]; exact up2_s
      have gX115 : ∀ a, (K a).1 ≠ 0 → a ≠ se → X112 a = X a ∧ R115 a = Rf a := fun a h9 hm0 => ⟨(gX112 a h9 hm0).1, (by rw [eR115, up2_o hm0] : R115 a = R112 a).trans (gX112 a h9 hm0).2⟩
      refine lv_aload_n (pc := 118) hx hb dX5_init_118 rfl (lv_at hl 1 rfl) ?_
      refine ziconst (pc := 119) (n := 0) hx hb dX5_init_119 ?_
      refine zputI (pc := 120) hx hb hG hown hw hk112 (T := TX5) rfl 9 (by decide) rfl wf_X5_63 rfl (by decide +kernel) rfl dX5_init_120 (fun H locs hw => ?_)
      obtain ⟨X120, eX120⟩ : ∃ Y : zX, Y = up2 X112 se 9 0 := ⟨_, rfl⟩
      rw [← eX120] at hw
      have gX120 : ∀ a, (K a).1 ≠ 0 → a ≠ se → X120 a = X a ∧ R115 a = Rf a := fun a h9 hm0 => ⟨(by rw [eX120, up2_o hm0] : X120 a = X112 a).trans (gX115 a h9 hm0).1, (gX115 a h9 hm0).2⟩
      refine lv_aload_n (pc := 123) hx hb dX5_init_123 rfl (lv_at hl 1 rfl) ?_
      refine ziconst (pc := 124) (n := 0) hx hb dX5_init_124 ?_
      refine zputI (pc := 125) hx hb hG hown hw hk112 (T := TX5) rfl 10 (by decide) rfl wf_X5_66 rfl (by decide +kernel) rfl dX5_init_125 (fun H locs hw => ?_)
      obtain ⟨X125, eX125⟩ : ∃ Y : zX, Y = up2 X120 se 10 0 := ⟨_, rfl⟩
      rw [← eX125] at hw
      have gX125 : ∀ a, (K a).1 ≠ 0 → a ≠ se → X125 a = X a ∧ R115 a = Rf a := fun a h9 hm0 => ⟨(by rw [eX125, up2_o hm0] : X125 a = X120 a).trans (gX120 a h9 hm0).1, (gX120 a h9 hm0).2⟩
      refine lv_aload_n (pc := 128) hx hb dX5_init_128 rfl (lv_at hl 1 rfl) ?_
      refine ziconst (pc := 129) (n := 0) hx hb dX5_init_129 ?_
      refine zputI (pc := 130) hx hb hG hown hw hk112 (T := TX5) rfl 11 (by decide) rfl wf_X5_69 rfl (by decide +kernel) rfl dX5_init_130 (fun H locs hw => ?_)
      obtain ⟨X130, eX130⟩ : ∃ Y : zX, Y = up2 X125 se 11 0 := ⟨_, rfl⟩
      rw [← eX130] at hw
      have gX130 : ∀ a, (K a).1 ≠ 0 → a ≠ se → X130 a = X a ∧ R115 a = Rf a := fun a h9 hm0 => ⟨(by rw [eX130, up2_o hm0] : X130 a = X125 a).trans (gX125 a h9 hm0).1, (gX125 a h9 hm0).2⟩
      refine lv_aload_n (pc := 133) hx hb dX5_init_133 rfl (lv_at hl 1 rfl) ?_
      refine lv_aload_n (pc := 134) hx hb dX5_init_134 rfl (lv_at hl 1 rfl) ?_
      refine zgetI (pc := 135) hx hb hG hown hw hk112 (T := TX5) rfl 6 (by decide) rfl wf_X5_38 rfl dX5_init_135 ?_
      refine zputI (pc := 138) hx hb hG hown hw hk112 (T := TX5) rfl 12 (by decide) rfl wf_X5_72 rfl (by decide +kernel) rfl dX5_init_138 (fun H locs hw => ?_)
      obtain ⟨X138, eX138⟩ : ∃ Y : zX, Y = up2 X130 se 12 (X130 se 6) := ⟨_, rfl⟩
      rw [← eX138] at hw
      have gX138 : ∀ a, (K a).1 ≠ 0 → a ≠ se → X138 a = X a ∧ R115 a = Rf a := fun a h9 hm0 => ⟨(by rw [eX138, up2_o hm0] : X138 a = X130 a).trans (gX130 a h9 hm0).1, (gX130 a h9 hm0).2⟩
      refine lv_aload_n (pc := 141) hx hb dX5_init_141 rfl (lv_at hl 1 rfl) ?_
      refine zbipush (pc := 142) (n := 8) hx hb dX5_init_142 rfl ?_
      refine znewi (pc := 144) hx hb hG hw wa_int ⟨by omega, by omega⟩ (by show 0 + 1 + 1 + 1 ≤ 4; omega) (by show 0 + 3 + 4 + 8 ≤ 4016; omega) dX5_init_144 (fun q144 H hfq144 hw => ?_)
      obtain ⟨K144, eK144⟩ : ∃ Y : zK, Y = zup K112 q144 (2, 8) := ⟨_, rfl⟩
      obtain ⟨X144, eX144⟩ : ∃ Y : zX, Y = zupX X138 q144 := ⟨_, rfl⟩
      obtain ⟨R144, eR144⟩ : ∃ Y : zR, Y = zupR R115 q144 := ⟨_, rfl⟩
      replace hw := Wd.re hw eK144 eX144 eR144
      have hk144 : K144 se = (1, 4) := by rw [eK144]; exact zup_k hfq144 hk112 (Nat.succ_ne_zero _)
      have hn144 : se ≠ q144 := zne hk112 hfq144
      have hk144_1 : K144 p0 = (1, 3) := by rw [eK144]; exact zup_k hfq144 hk112_1 (Nat.succ_ne_zero _)
      have hn144_1 : p0 ≠ q144 := zne hk112_1 hfq144
      have hk144_2 : K144 q90 = (1, 2) := by rw [eK144]; exact zup_k hfq144 hk112_2 (Nat.succ_ne_zero _)
      have hn144_2 : q90 ≠ q144 := zne hk112_2 hfq144
      have hk144_3 : K144 q112 = (6, 4) := by rw [eK144]; exact zup_k hfq144 hk112_3 (Nat.succ_ne_zero _)
      have hn144_3 : q112 ≠ q144 := zne hk112_3 hfq144
      have hk144_4 : K144 q144 = (2, 8) := by rw [eK144]; exact zup_s
      have hr144 : R144 se 0 = some p0 := by rw [eR144, zupR_n hn144]; exact hr115
      have hr144_1 : R144 se 7 = some q90 := by rw [eR144, zupR_n hn144]; exact hr115_1
      have hr144_2 : R144 se 8 = some q112 := by rw [eR144, zupR_n hn144]; exact hr115_2
      have hz144 : (K q144).1 = 0 := zfz gK112 hfq144
      have gK144 : ∀ a, (K a).1 ≠ 0 → K144 a = K a := fun a h9 => (by rw [eK144, zup_n (zfa h9 hz144)] : K144 a = K112 a).trans (gK112 a h9)
      have gX144 : ∀ a, (K a).1 ≠ 0 → a ≠ se → X144 a = X a ∧ R144 a = Rf a := fun a h9 hm0 => ⟨(by rw [eX144, zupX_n (zfa h9 hz144)] : X144 a = X138 a).trans (gX138 a h9 hm0).1, (by rw [eR144, zupR_n (zfa h9 hz144)] : R144 a = R115 a).trans (gX138 a h9 hm0).2⟩
      refine zputRF (pc := 146) hx hb hG hown hw hk144 (T := TX5) (ty := .array .int) rfl 13 (by decide) rfl wf_X5_75 rfl (by decide +kernel) rfl rfl rfl hname rfl dX5_init_146 (fun H locs hw => ?_)
      obtain ⟨R146, eR146⟩ : ∃ Y : zR, Y = up2 R144 se 13 (some q144) := ⟨_, rfl⟩
      rw [← eR146] at hw
      have hr146 : R146 se 0 = some p0 := by rw [eR146, up2_k (by first | decide | omega)]; exact hr144
      have hr146_1 : R146 se 7 = some q90 := by rw [eR146, up2_k (by first | decide | omega)]; exact hr144_1
      have hr146_2 : R146 se 8 = some q112 := by rw [eR146, up2_k (by first | decide | omega)]; exact hr144_2
      have hr146_3 : R146 se 13 = some q144 := by rw [eR146]; exact up2_s
      have gX146 : ∀ a, (K a).1 ≠ 0 → a ≠ se → X144 a = X a ∧ R146 a = Rf a := fun a h9 hm0 => ⟨(gX144 a h9 hm0).1, (by rw [eR146, up2_o hm0] : R146 a = R144 a).trans (gX144 a h9 hm0).2⟩
      refine lv_aload_n (pc := 149) hx hb dX5_init_149 rfl (lv_at hl 1 rfl) ?_
      refine ziconst (pc := 150) (n := 0) hx hb dX5_init_150 ?_
      refine zputI (pc := 151) hx hb hG hown hw hk144 (T := TX5) rfl 14 (by decide) rfl wf_X5_79 rfl (by decide +kernel) rfl dX5_init_151 (fun H locs hw => ?_)
      obtain ⟨X151, eX151⟩ : ∃ Y : zX, Y = up2 X144 se 14 0 := ⟨_, rfl⟩
      rw [← eX151] at hw
      have gX151 : ∀ a, (K a).1 ≠ 0 → a ≠ se → X151 a = X a ∧ R146 a = Rf a := fun a h9 hm0 => ⟨(by rw [eX151, up2_o hm0] : X151 a = X144 a).trans (gX146 a h9 hm0).1, (gX146 a h9 hm0).2⟩
      refine lv_aload_n (pc := 154) hx hb dX5_init_154 rfl (lv_at hl 1 rfl) ?_
      refine zsipush (pc := 155) (n := 4001) hx hb dX5_init_155 rfl ?_
      refine znewi (pc := 158) hx hb hG hw wa_int ⟨by omega, by omega⟩ (by show 0 + 1 + 1 + 1 + 1 ≤ 4; omega) (by show 0 + 3 + 4 + 8 + 4001 ≤ 4016; omega) dX5_init_158 (fun q158 H hfq158 hw => ?_)
      obtain ⟨K158, eK158⟩ : ∃ Y : zK, Y = zup K144 q158 (2, 4001) := ⟨_, rfl⟩
      obtain ⟨X158, eX158⟩ : ∃ Y : zX, Y = zupX X151 q158 := ⟨_, rfl⟩
      obtain ⟨R158, eR158⟩ : ∃ Y : zR, Y = zupR R146 q158 := ⟨_, rfl⟩
      replace hw := Wd.re hw eK158 eX158 eR158
      have hk158 : K158 se = (1, 4) := by rw [eK158]; exact zup_k hfq158 hk144 (Nat.succ_ne_zero _)
      have hn158 : se ≠ q158 := zne hk144 hfq158
      have hk158_1 : K158 p0 = (1, 3) := by rw [eK158]; exact zup_k hfq158 hk144_1 (Nat.succ_ne_zero _)
      have hn158_1 : p0 ≠ q158 := zne hk144_1 hfq158
      have hk158_2 : K158 q90 = (1, 2) := by rw [eK158]; exact zup_k hfq158 hk144_2 (Nat.succ_ne_zero _)
      have hn158_2 : q90 ≠ q158 := zne hk144_2 hfq158
      have hk158_3 : K158 q112 = (6, 4) := by rw [eK158]; exact zup_k hfq158 hk144_3 (Nat.succ_ne_zero _)
      have hn158_3 : q112 ≠ q158 := zne hk144_3 hfq158
      have hk158_4 : K158 q144 = (2, 8) := by rw [eK158]; exact zup_k hfq158 hk144_4 (Nat.succ_ne_zero _)
      have hn158_4 : q144 ≠ q158 := zne hk144_4 hfq158
      have hk158_5 : K158 q158 = (2, 4001) := by rw [eK158]; exact zup_s
      have hr158 : R158 se 0 = some p0 := by rw [eR158, zupR_n hn158]; exact hr146
      have hr158_1 : R158 se 7 = some q90 := by rw [eR158, zupR_n hn158]; exact hr146_1
      have hr158_2 : R158 se 8 = some q112 := by rw [eR158, zupR_n hn158]; exact hr146_2
      have hr158_3 : R158 se 13 = some q144 := by rw [eR158, zupR_n hn158]; exact hr146_3
      have hz158 : (K q158).1 = 0 := zfz gK144 hfq158
      have gK158 : ∀ a, (K a).1 ≠ 0 → K158 a = K a := fun a h9 => (by rw [eK158, zup_n (zfa h9 hz158)] : K158 a = K144 a).trans (gK144 a h9)
      have gX158 : ∀ a, (K a).1 ≠ 0 → a ≠ se → X158 a = X a ∧ R158 a = Rf a := fun a h9 hm0 => ⟨(by rw [eX158, zupX_n (zfa h9 hz158)] : X158 a = X151 a).trans (gX151 a h9 hm0).1, (by rw [eR158, zupR_n (zfa h9 hz158)] : R158 a = R146 a).trans (gX151 a h9 hm0).2⟩
      refine zputRF (pc := 160) hx hb hG hown hw hk158 (T := TX5) (ty := .array .int) rfl 15 (by decide) rfl wf_X5_82 rfl (by decide +kernel) rfl rfl rfl hname rfl dX5_init_160 (fun H locs hw => ?_)
      obtain ⟨R160, eR160⟩ : ∃ Y : zR, Y = up2 R158 se 15 (some q158) := ⟨_, rfl⟩
      rw [← eR160] at hw
      have hr160 : R160 se 0 = some p0 := by rw [eR160, up2_k (by first | decide | omega)]; exact hr158
      have hr160_1 : R160 se 7 = some q90 := by rw [eR160, up2_k (by first | decide | omega)]; exact hr158_1
      have hr160_2 : R160 se 8 = some q112 := by rw [eR160, up2_k (by first | decide | omega)]; exact hr158_2
      have hr160_3 : R160 se 13 = some q144 := by rw [eR160, up2_k (by first | decide | omega)]; exact hr158_3
      have hr160_4 : R160 se 15 = some q158 := by rw [eR160]; exact up2_s
      have gX160 : ∀ a, (K a).1 ≠ 0 → a ≠ se → X158 a = X a ∧ R160 a = Rf a := fun a h9 hm0 => ⟨(gX158 a h9 hm0).1, (by rw [eR160, up2_o hm0] : R160 a = R158 a).trans (gX158 a h9 hm0).2⟩
      refine lv_aload_n (pc := 163) hx hb dX5_init_163 rfl (lv_at hl 1 rfl) ?_
      refine ziconst (pc := 164) (n := 0) hx hb dX5_init_164 ?_
      refine zputI (pc := 165) hx hb hG hown hw hk158 (T := TX5) rfl 16 (by decide) rfl wf_X5_85 rfl (by decide +kernel) rfl dX5_init_165 (fun H locs hw => ?_)
      obtain ⟨X165, eX165⟩ : ∃ Y : zX, Y = up2 X158 se 16 0 := ⟨_, rfl⟩
      rw [← eX165] at hw
      have gX165 : ∀ a, (K a).1 ≠ 0 → a ≠ se → X165 a = X a ∧ R160 a = Rf a := fun a h9 hm0 => ⟨(by rw [eX165, up2_o hm0] : X165 a = X158 a).trans (gX160 a h9 hm0).1, (gX160 a h9 hm0).2⟩
      refine lv_aload_n (pc := 168) hx hb dX5_init_168 rfl (lv_at hl 1 rfl) ?_
      refine ziconst (pc := 169) (n := 0) hx hb dX5_init_169 ?_
      refine zputI (pc := 170) hx hb hG hown hw hk158 (T := TX5) rfl 17 (by decide) rfl wf_X5_88 rfl (by decide +kernel) rfl dX5_init_170 (fun H locs hw => ?_)
      obtain ⟨X170, eX170⟩ : ∃ Y : zX, Y = up2 X165 se 17 0 := ⟨_, rfl⟩
      rw [← eX170] at hw
      have gX170 : ∀ a, (K a).1 ≠ 0 → a ≠ se → X170 a = X a ∧ R160 a = Rf a := fun a h9 hm0 => ⟨(by rw [eX170, up2_o hm0] : X170 a = X165 a).trans (gX165 a h9 hm0).1, (gX165 a h9 hm0).2⟩
      exact zretV (pc := 173) hx hb hlocks hr hw (by show 0 + 1 + 1 + 1 + 1 ≤ 4; omega) (by show 0 + 3 + 4 + 8 + 4001 ≤ 4016; omega) dX5_init_173 ⟨q90, q112, q144, q158, ⟨gK158, gX170⟩, ⟨hz90, hk158_2⟩, ⟨hz112, hk158_3⟩, ⟨hz144, hk158_4⟩, ⟨hz158, hk158_5⟩, hr160, hr160_1, hr160_2, hr160_3, hr160_4, (by first | (simp [eX170, eX165, eR160, eR158, eX158, eK158, eX151, eR146, eR144, eX144, eK144, eX138, eX130, eX125, eX120, eR115, eR112, eX112, eK112, eR107, eR90, eX90, eK90, eX54, eX37, eX28, eX22, eX16, eX11, eR6, up2, zupX, zupR, f2c, ex78, es104, eu0, eu1, eu2, f2, f2b, hn112, Ne.symm hn112, hn112_1, Ne.symm hn112_1, hn112_2, Ne.symm hn112_2, hn144, Ne.symm hn144, hn144_1, Ne.symm hn144_1, hn144_2, Ne.symm hn144_2, hn144_3, Ne.symm hn144_3, hn158, Ne.symm hn158, hn158_1, Ne.symm hn158_1, hn158_2, Ne.symm hn158_2, hn158_3, Ne.symm hn158_3, hn158_4, Ne.symm hn158_4, hn90, Ne.symm hn90, hn90_1, Ne.symm hn90_1]; done) | (simp [eX170, eX165, eR160, eR158, eX158, eK158, eX151, eR146, eR144, eX144, eK144, eX138, eX130, eX125, eX120, eR115, eR112, eX112, eK112, eR107, eR90, eX90, eK90, eX54, eX37, eX28, eX22, eX16, eX11, eR6, up2, zupX, zupR, f2c, ex78, es104, eu0, eu1, eu2, f2, f2b, hn112, Ne.symm hn112, hn112_1, Ne.symm hn112_1, hn112_2, Ne.symm hn112_2, hn144, Ne.symm hn144, hn144_1, Ne.symm hn144_1, hn144_2, Ne.symm hn144_2, hn144_3, Ne.symm hn144_3, hn158, Ne.symm hn158, hn158_1, Ne.symm hn158_1, hn158_2, Ne.symm hn158_2, hn158_3, Ne.symm hn158_3, hn158_4, Ne.symm hn158_4, hn90, Ne.symm hn90, hn90_1, Ne.symm hn90_1]; intros; omega) | (simp [eX170, eX165, eR160, eR158, eX158, eK158, eX151, eR146, eR144, eX144, eK144, eX138, eX130, eX125, eX120, eR115, eR112, eX112, eK112, eR107, eR90, eX90, eK90, eX54, eX37, eX28, eX22, eX16, eX11, eR6, up2, zupX, zupR, f2c, es104, eu0, eu1, eu2, f2, f2b, hn112, Ne.symm hn112, hn112_1, Ne.symm hn112_1, hn112_2, Ne.symm hn112_2, hn144, Ne.symm hn144, hn144_1, Ne.symm hn144_1, hn144_2, Ne.symm hn144_2, hn144_3, Ne.symm hn144_3, hn158, Ne.symm hn158, hn158_1, Ne.symm hn158_1, hn158_2, Ne.symm hn158_2, hn158_3, Ne.symm hn158_3, hn158_4, Ne.symm hn158_4, hn90, Ne.symm hn90, hn90_1, Ne.symm hn90_1]; done) | (simp [eX170, eX165, eR160, eR158, eX158, eK158, eX151, eR146, eR144, eX144, eK144, eX138, eX130, eX125, eX120, eR115, eR112, eX112, eK112, eR107, eR90, eX90, eK90, eX54, eX37, eX28, eX22, eX16, eX11, eR6, up2, zupX, zupR, f2c, es104, eu0, eu1, eu2, f2, f2b, hn112, Ne.symm hn112, hn112_1, Ne.symm hn112_1, hn112_2, Ne.symm hn112_2, hn144, Ne.symm hn144, hn144_1, Ne.symm hn144_1, hn144_2, Ne.symm hn144_2, hn144_3, Ne.symm hn144_3, hn158, Ne.symm hn158, hn158_1, Ne.symm hn158_1, hn158_2, Ne.symm hn158_2, hn158_3, Ne.symm hn158_3, hn158_4, Ne.symm hn158_4, hn90, Ne.symm hn90, hn90_1, Ne.symm hn90_1]; intros; omega))⟩
    · skip
      exfalso; omega
set_option maxHeartbeats 4000000 in
set_option maxRecDepth 100000 in
theorem c_X4_put (l : Launch) (Γ : zG) (K : zK) (X : zX) (Rf : zR) (p0 : Nat) (t9 : Nat) (tu : Nat) (hk : K p0 = (1, 3)) (hr1 : Rf p0 1 = some tu) (hktu : K tu = (9, 6)) (hkt : K t9 = (1, 5)) (h2 : 0 ≤ X p0 2 ∧ X p0 2 < 6) : Ct l yX4_put cX4_put 3 (some .int) 0 0 0 Γ [.ref p0, .ref t9] K X Rf (pI (fun (r : Int) (K' : zK) (X' : zX) (R' : zR) => ((∀ a, (K a).1 ≠ 0 → K' a = K a) ∧ (∀ a, (K a).1 ≠ 0 → a ≠ p0 → a ≠ tu → X' a = X a ∧ R' a = Rf a)) ∧ (r = X p0 2 ∧ K' = K ∧ R' = up2 Rf tu (X p0 2).toNat (some t9) ∧ X' = up2 X p0 2 (X p0 2 + 1)))) := by
  refine Ct.of (by decide +kernel) (Nat.le_of_ble_eq_true rfl) ?_
  intro p e s m below meth c ls hx hb hr hml hown hG hlocks hname hw hl
  have hl : lv_has ls 3 [(0, .ref p0), (1, .ref t9)] := hl
  have gK0 : ∀ a, (K a).1 ≠ 0 → K a = K a := fun _ _ => rfl
  have gX0 : ∀ a, (K a).1 ≠ 0 → a ≠ p0 → a ≠ tu → X a = X a ∧ Rf a = Rf a := fun _ _ _ _ => ⟨rfl, rfl⟩
  refine lv_aload_n (pc := 0) hx hb dX4_put_0 rfl (lv_at hl 0 rfl) ?_
  refine zgetI (pc := 1) hx hb hG hown hw hk (T := TX4) rfl 2 (by decide) rfl wf_X4_21 rfl dX4_put_1 ?_
  refine ztop (fun x4 ex4 => ?_)
  refine lv_istore_n (pc := 4) (lv' := [(2, .int (iI x4)), (0, .ref p0), (1, .ref t9)]) hx hb dX4_put_4 rfl hl (by decide) rfl (fun ls hl => ?_)
  refine lv_iload_n (pc := 5) hx hb dX4_put_5 rfl (lv_at hl 0 rfl) ?_
  refine zif_lt (pc := 6) hx hb 32 (by omega) dX4_put_6 (by decide) (fun c6 => ?_) (fun c6 => ?_)
  · skip
    exfalso; omega
  · skip
    refine lv_iload_n (pc := 9) hx hb dX4_put_9 rfl (lv_at hl 0 rfl) ?_
    refine lv_aload_n (pc := 10) hx hb dX4_put_10 rfl (lv_at hl 1 rfl) ?_
    refine zgetR (pc := 11) hx hb hG hown hw hk (T := TX4) rfl 1 (by decide) rfl wf_X4_17 rfl hr1 dX4_put_11 ?_
    refine zlen9 (pc := 14) hx hb hw hktu dX4_put_14 ?_
    refine zicmp_ge (pc := 15) hx hb 32 (by omega) (by omega) dX4_put_15 (by decide) (fun c15 => ?_) (fun c15 => ?_)
    · skip
      exfalso; omega
    · skip
      refine lv_aload_n (pc := 18) hx hb dX4_put_18 rfl (lv_at hl 1 rfl) ?_
      refine zgetR (pc := 19) hx hb hG hown hw hk (T := TX4) rfl 1 (by decide) rfl wf_X4_17 rfl hr1 dX4_put_19 ?_
      refine lv_iload_n (pc := 22) hx hb dX4_put_22 rfl (lv_at hl 0 rfl) ?_
      refine lv_aload_n (pc := 23) hx hb dX4_put_23 rfl (lv_at hl 2 rfl) ?_
      refine zaast3 (pc := 24) hx hb hw hktu hkt ⟨by omega, by omega⟩ (by omega) dX4_put_24 (fun H locs hw => ?_)
      obtain ⟨R24, eR24⟩ : ∃ Y : zR, Y = up2 Rf tu x4.toNat (some t9) := ⟨_, rfl⟩
      rw [← eR24] at hw
      have hr24 : R24 p0 1 = some tu := by rw [eR24, up2_a (zkn2 hk hktu (by simp))]; exact hr1
      have hr24_1 : R24 tu x4.toNat = some t9 := by rw [eR24]; exact up2_s
      have gX24 : ∀ a, (K a).1 ≠ 0 → a ≠ p0 → a ≠ tu → X a = X a ∧ R24 a = Rf a := fun a h9 hm0 hm1 => ⟨(gX0 a h9 hm0 hm1).1, (by rw [eR24, up2_o hm1] : R24 a = Rf a).trans (gX0 a h9 hm0 hm1).2⟩
      refine lv_aload_n (pc := 25) hx hb dX4_put_25 rfl (lv_at hl 1 rfl) ?_
      refine lv_iload_n (pc := 26) hx hb dX4_put_26 rfl (lv_at hl 0 rfl) ?_
      refine ziconst (pc := 27) (n := 1) hx hb dX4_put_27 ?_
      refine zadd (pc := 28) hx hb dX4_put_28 ?_
      refine zputI (pc := 29) hx hb hG hown hw hk (T := TX4) rfl 2 (by decide) rfl wf_X4_21 rfl (by decide +kernel) rfl dX4_put_29 (fun H locs hw => ?_)
      obtain ⟨X29, eX29⟩ : ∃ Y : zX, Y = up2 X p0 2 (x4 + 1) := ⟨_, rfl⟩
      rw [← eX29] at hw
      have gX29 : ∀ a, (K a).1 ≠ 0 → a ≠ p0 → a ≠ tu → X29 a = X a ∧ R24 a = Rf a := fun a h9 hm0 hm1 => ⟨(by rw [eX29, up2_o hm0] : X29 a = X a).trans (gX24 a h9 hm0 hm1).1, (gX24 a h9 hm0 hm1).2⟩
      refine lv_iload_n (pc := 32) hx hb dX4_put_32 rfl (lv_at hl 0 rfl) ?_
      exact zretI (pc := 33) hx hb hlocks hr hw (Nat.zero_le _) (Nat.zero_le _) dX4_put_33 ⟨⟨gK0, gX29⟩, (by exact ⟨ex4, rfl, by rw [eR24, ex4], by rw [eX29, ex4]⟩)⟩
