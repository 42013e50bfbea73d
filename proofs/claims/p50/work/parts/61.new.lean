set_option maxHeartbeats 4000000 in
set_option maxRecDepth 100000 in
theorem c_X7_init (l : Launch) (Γ : zG) (K : zK) (X : zX) (Rf : zR) (wo : Nat)  (hk : K wo = (1, 6)) : Ct l yX7_init cX7_init 1 none 3 9 4200 Γ [.ref wo] K X Rf (pV (fun (K' : zK) (X' : zX) (R' : zR) => ∃ p0 tu to be sa fe fa fn : Nat, ((∀ a, (K a).1 ≠ 0 → K' a = K a) ∧ (∀ a, (K a).1 ≠ 0 → a ≠ wo → X' a = X a ∧ R' a = Rf a)) ∧ ((K p0).1 = 0 ∧ K' p0 = (1, 3)) ∧ ((K tu).1 = 0 ∧ K' tu = (9, 6)) ∧ ((K to).1 = 0 ∧ K' to = (2, 6)) ∧ ((K be).1 = 0 ∧ K' be = (2, 1201)) ∧ ((K sa).1 = 0 ∧ K' sa = (2, 1201)) ∧ ((K fe).1 = 0 ∧ K' fe = (10, 20)) ∧ ((K fa).1 = 0 ∧ K' fa = (1, 0)) ∧ ((K fn).1 = 0 ∧ K' fn = (2, 1701)) ∧ R' wo 1 = some p0 ∧ R' wo 5 = some fe ∧ R' wo 7 = some fa ∧ R' p0 1 = some tu ∧ R' p0 3 = some to ∧ R' p0 4 = some be ∧ R' p0 5 = some sa ∧ R' fa 0 = some fn ∧ ((X' wo 0 = -1 ∧ X' wo 2 = 31 ∧ X' wo 3 = 540 ∧ X' wo 4 = 1020 ∧ X' wo 6 = 0) ∧ (∀ k, R' fe k = none) ∧ (∀ k, R' tu k = none) ∧ (X' p0 0 = 0 ∧ X' p0 2 = 0 ∧ X' p0 6 = 1) ∧ (∀ k, X' be k = 0 ∧ X' sa k = 0) ∧ (X' fa 1 = 0 ∧ X' fa 2 = -1) ∧ (∀ k, X' fn k = 0) ∧ be ≠ sa))) := by
  refine Ct.of (by decide +kernel) (Nat.le_of_ble_eq_true rfl) ?_
  intro p e s m below meth c ls hx hb hr hml hown hG hlocks hname hw hl
  have hl : lv_has ls 1 [(0, .ref wo)] := hl
  have gK0 : ∀ a, (K a).1 ≠ 0 → K a = K a := fun _ _ => rfl
  have gX0 : ∀ a, (K a).1 ≠ 0 → a ≠ wo → X a = X a ∧ Rf a = Rf a := fun _ _ _ => ⟨rfl, rfl⟩
  refine lv_aload_n (pc := 0) hx hb dX7_init_0 rfl (lv_at hl 0 rfl) ?_
  refine W.objInit hx hb hown (hG _ wl_X7_3) (hG _ wm_objInit) (hG _ wc_objInit) rfl (by rw [hml]; exact hl.1) rfl dX7_init_1 (Nat.le_of_ble_eq_true rfl) (Nat.le_of_ble_eq_true rfl) ?_
  refine W.eq (g2 := F0 m 4 ls []) rfl ?_
  refine lv_aload_n (pc := 4) hx hb dX7_init_4 rfl (lv_at hl 0 rfl) ?_
  refine ziconst (pc := 5) (n := (-1)) hx hb dX7_init_5 ?_
  refine zputI (pc := 6) hx hb hG hown hw hk (T := TX7) rfl 0 (by decide) rfl wf_X7_9 rfl (by decide +kernel) rfl dX7_init_6 (fun H locs hw => ?_)
  obtain ⟨X6, eX6⟩ : ∃ Y : zX, Y = up2 X wo 0 (-1) := ⟨_, rfl⟩
  rw [← eX6] at hw
  have gX6 : ∀ a, (K a).1 ≠ 0 → a ≠ wo → X6 a = X a ∧ Rf a = Rf a := fun a h9 hm0 => ⟨(by rw [eX6, up2_o hm0] : X6 a = X a).trans (gX0 a h9 hm0).1, (gX0 a h9 hm0).2⟩
  refine lv_aload_n (pc := 9) hx hb dX7_init_9 rfl (lv_at hl 0 rfl) ?_
  refine znew (pc := 10) hx hb hG hown hw (T := TX4) (ci := 3) rfl wn_X7_15 wt_X4 wi_X4 (by show 0 + 1 ≤ 9; omega) (by show 0 + 7 ≤ 4200; omega) dX7_init_10 (fun q10 H hfq10 hw => ?_)
  obtain ⟨K10, eK10⟩ : ∃ Y : zK, Y = zup K q10 (1, 3) := ⟨_, rfl⟩
  obtain ⟨X10, eX10⟩ : ∃ Y : zX, Y = zupX X6 q10 := ⟨_, rfl⟩
  obtain ⟨R10, eR10⟩ : ∃ Y : zR, Y = zupR Rf q10 := ⟨_, rfl⟩
  replace hw := Wd.re hw eK10 eX10 eR10
  have hk10 : K10 wo = (1, 6) := by rw [eK10]; exact zup_k hfq10 hk (Nat.succ_ne_zero _)
  have hn10 : wo ≠ q10 := zne hk hfq10
  have hk10_1 : K10 q10 = (1, 3) := by rw [eK10]; exact zup_s
  have hz10 : (K q10).1 = 0 := zfz gK0 hfq10
  have gK10 : ∀ a, (K a).1 ≠ 0 → K10 a = K a := fun a h9 => (by rw [eK10, zup_n (zfa h9 hz10)] : K10 a = K a).trans (gK0 a h9)
  have gX10 : ∀ a, (K a).1 ≠ 0 → a ≠ wo → X10 a = X a ∧ R10 a = Rf a := fun a h9 hm0 => ⟨(by rw [eX10, zupX_n (zfa h9 hz10)] : X10 a = X6 a).trans (gX6 a h9 hm0).1, (by rw [eR10, zupR_n (zfa h9 hz10)] : R10 a = Rf a).trans (gX6 a h9 hm0).2⟩
  refine lv_dup (pc := 13) hx hb dX7_init_13 rfl ?_
  refine ziconst (pc := 14) (n := 0) hx hb dX7_init_14 ?_
  refine zkV (pc := 15) (zrI (As := [.int (iI 0)]) hx hb hml hown hG hw (c_X4_init l Γ K10 X10 R10 q10 0  (by (first | assumption | omega))) cb_X4_init wl_X7_17 rfl ⟨Nat.le_of_ble_eq_true rfl, Nat.le_of_ble_eq_true rfl⟩ hl.1 rfl (Nat.le_of_ble_eq_true rfl) dX7_init_15 ⟨(by show 0 + 1 + 4 ≤ 9; omega), (by show 0 + 7 + 2414 ≤ 4200; omega)⟩) hw (fun K15 X15 R15 H locs hp15 hw => ?_)
  obtain ⟨tu_15, to_15, be_15, sa_15, ⟨cK15, cX15⟩, ⟨cz15, ck15⟩, ⟨cz15_1, ck15_1⟩, ⟨cz15_2, ck15_2⟩, ⟨cz15_3, ck15_3⟩, cr15, cr15_1, cr15_2, cr15_3, cP15⟩ := hp15
  have hk15 : K15 wo = (1, 6) := (cK15 _ (zk1 hk10)).trans hk10
  have hn15 : wo ≠ tu_15 := zne hk10 cz15
  have hn15_1 : wo ≠ to_15 := zne hk10 cz15_1
  have hn15_2 : wo ≠ be_15 := zne hk10 cz15_2
  have hn15_3 : wo ≠ sa_15 := zne hk10 cz15_3
  have hk15_1 : K15 q10 = (1, 3) := (cK15 _ (zk1 hk10_1)).trans hk10_1
  have hn15_4 : q10 ≠ tu_15 := zne hk10_1 cz15
  have hn15_5 : q10 ≠ to_15 := zne hk10_1 cz15_1
  have hn15_6 : q10 ≠ be_15 := zne hk10_1 cz15_2
  have hn15_7 : q10 ≠ sa_15 := zne hk10_1 cz15_3
  have gK15 : ∀ a, (K a).1 ≠ 0 → K15 a = K a := fun a h9 => (cK15 a (by rw [gK10 a h9]; exact h9)).trans (gK10 a h9)
  have gX15 : ∀ a, (K a).1 ≠ 0 → a ≠ wo → X15 a = X a ∧ R15 a = Rf a := fun a h9 hm0 => ⟨(cX15 a (by rw [gK10 a h9]; exact h9) (zfa h9 hz10)).1.trans (gX10 a h9 hm0).1, (cX15 a (by rw [gK10 a h9]; exact h9) (zfa h9 hz10)).2.trans (gX10 a h9 hm0).2⟩
  have hz15 : (K tu_15).1 = 0 := zfz gK10 cz15
  have hz15_1 : (K to_15).1 = 0 := zfz gK10 cz15_1
  have hz15_2 : (K be_15).1 = 0 := zfz gK10 cz15_2
  have hz15_3 : (K sa_15).1 = 0 := zfz gK10 cz15_3
  obtain ⟨pA1, ⟨pA2, pA3, pA4⟩, pA5, pA6⟩ := cP15
  have ez15_0 : X15 wo = X10 wo ∧ R15 wo = R10 wo := cX15 _ (zk1 hk10) hn10
  refine zputR (pc := 18) hx hb hG hown hw hk15 (T := TX7) (ty := .object "ZoneCalendar$Place") rfl 1 (by decide) rfl wf_X7_20 rfl (by decide +kernel) rfl rfl rfl dX7_init_18 (fun H locs hw => ?_)
  obtain ⟨R18, eR18⟩ : ∃ Y : zR, Y = up2 R15 wo 1 (some q10) := ⟨_, rfl⟩
  rw [← eR18] at hw
  have hr18 : R18 q10 1 = some tu_15 := by rw [eR18, up2_a (Ne.symm hn10)]; exact cr15
  have hr18_1 : R18 q10 3 = some to_15 := by rw [eR18, up2_a (Ne.symm hn10)]; exact cr15_1
  have hr18_2 : R18 q10 4 = some be_15 := by rw [eR18, up2_a (Ne.symm hn10)]; exact cr15_2
  have hr18_3 : R18 q10 5 = some sa_15 := by rw [eR18, up2_a (Ne.symm hn10)]; exact cr15_3
  have hr18_4 : R18 wo 1 = some q10 := by rw [eR18]; exact up2_s
  have gX18 : ∀ a, (K a).1 ≠ 0 → a ≠ wo → X15 a = X a ∧ R18 a = Rf a := fun a h9 hm0 => ⟨(gX15 a h9 hm0).1, (by rw [eR18, up2_o hm0] : R18 a = R15 a).trans (gX15 a h9 hm0).2⟩
  refine lv_aload_n (pc := 21) hx hb dX7_init_21 rfl (lv_at hl 0 rfl) ?_
  refine zbipush (pc := 22) (n := 31) hx hb dX7_init_22 rfl ?_
  refine zputI (pc := 24) hx hb hG hown hw hk15 (T := TX7) rfl 2 (by decide) rfl wf_X7_24 rfl (by decide +kernel) rfl dX7_init_24 (fun H locs hw => ?_)
  obtain ⟨X24, eX24⟩ : ∃ Y : zX, Y = up2 X15 wo 2 31 := ⟨_, rfl⟩
  rw [← eX24] at hw
  have gX24 : ∀ a, (K a).1 ≠ 0 → a ≠ wo → X24 a = X a ∧ R18 a = Rf a := fun a h9 hm0 => ⟨(by rw [eX24, up2_o hm0] : X24 a = X15 a).trans (gX18 a h9 hm0).1, (gX18 a h9 hm0).2⟩
  refine lv_aload_n (pc := 27) hx hb dX7_init_27 rfl (lv_at hl 0 rfl) ?_
  refine zsipush (pc := 28) (n := 540) hx hb dX7_init_28 rfl ?_
  refine zputI (pc := 31) hx hb hG hown hw hk15 (T := TX7) rfl 3 (by decide) rfl wf_X7_27 rfl (by decide +kernel) rfl dX7_init_31 (fun H locs hw => ?_)
  obtain ⟨X31, eX31⟩ : ∃ Y : zX, Y = up2 X24 wo 3 540 := ⟨_, rfl⟩
  rw [← eX31] at hw
  have gX31 : ∀ a, (K a).1 ≠ 0 → a ≠ wo → X31 a = X a ∧ R18 a = Rf a := fun a h9 hm0 => ⟨(by rw [eX31, up2_o hm0] : X31 a = X24 a).trans (gX24 a h9 hm0).1, (gX24 a h9 hm0).2⟩
  refine lv_aload_n (pc := 34) hx hb dX7_init_34 rfl (lv_at hl 0 rfl) ?_
  refine zsipush (pc := 35) (n := 1020) hx hb dX7_init_35 rfl ?_
  refine zputI (pc := 38) hx hb hG hown hw hk15 (T := TX7) rfl 4 (by decide) rfl wf_X7_30 rfl (by decide +kernel) rfl dX7_init_38 (fun H locs hw => ?_)
  obtain ⟨X38, eX38⟩ : ∃ Y : zX, Y = up2 X31 wo 4 1020 := ⟨_, rfl⟩
  rw [← eX38] at hw
  have gX38 : ∀ a, (K a).1 ≠ 0 → a ≠ wo → X38 a = X a ∧ R18 a = Rf a := fun a h9 hm0 => ⟨(by rw [eX38, up2_o hm0] : X38 a = X31 a).trans (gX31 a h9 hm0).1, (gX31 a h9 hm0).2⟩
  refine lv_aload_n (pc := 41) hx hb dX7_init_41 rfl (lv_at hl 0 rfl) ?_
  refine zbipush (pc := 42) (n := 20) hx hb dX7_init_42 rfl ?_
  refine znewq4 (pc := 44) hx hb hG hown hw wn_X7_33 ⟨by omega, by omega⟩ (by show 0 + 1 + 4 + 1 ≤ 9; omega) (by show 0 + 7 + 2414 + 20 ≤ 4200; omega) dX7_init_44 (fun q44 H hfq44 hw => ?_)
  obtain ⟨K44, eK44⟩ : ∃ Y : zK, Y = zup K15 q44 (10, 20) := ⟨_, rfl⟩
  obtain ⟨X44, eX44⟩ : ∃ Y : zX, Y = zupX X38 q44 := ⟨_, rfl⟩
  obtain ⟨R44, eR44⟩ : ∃ Y : zR, Y = zupR R18 q44 := ⟨_, rfl⟩
  replace hw := Wd.re hw eK44 eX44 eR44
  have hk44 : K44 wo = (1, 6) := by rw [eK44]; exact zup_k hfq44 hk15 (Nat.succ_ne_zero _)
  have hn44 : wo ≠ q44 := zne hk15 hfq44
  have hk44_1 : K44 q10 = (1, 3) := by rw [eK44]; exact zup_k hfq44 hk15_1 (Nat.succ_ne_zero _)
  have hn44_1 : q10 ≠ q44 := zne hk15_1 hfq44
  have hk44_2 : K44 tu_15 = (9, 6) := by rw [eK44]; exact zup_k hfq44 ck15 (Nat.succ_ne_zero _)
  have hn44_2 : tu_15 ≠ q44 := zne ck15 hfq44
  have hk44_3 : K44 to_15 = (2, 6) := by rw [eK44]; exact zup_k hfq44 ck15_1 (Nat.succ_ne_zero _)
  have hn44_3 : to_15 ≠ q44 := zne ck15_1 hfq44
  have hk44_4 : K44 be_15 = (2, 1201) := by rw [eK44]; exact zup_k hfq44 ck15_2 (Nat.succ_ne_zero _)
  have hn44_4 : be_15 ≠ q44 := zne ck15_2 hfq44
  have hk44_5 : K44 sa_15 = (2, 1201) := by rw [eK44]; exact zup_k hfq44 ck15_3 (Nat.succ_ne_zero _)
  have hn44_5 : sa_15 ≠ q44 := zne ck15_3 hfq44
  have hk44_6 : K44 q44 = (10, 20) := by rw [eK44]; exact zup_s
  have hr44 : R44 q10 1 = some tu_15 := by rw [eR44, zupR_n hn44_1]; exact hr18
  have hr44_1 : R44 q10 3 = some to_15 := by rw [eR44, zupR_n hn44_1]; exact hr18_1
  have hr44_2 : R44 q10 4 = some be_15 := by rw [eR44, zupR_n hn44_1]; exact hr18_2
  have hr44_3 : R44 q10 5 = some sa_15 := by rw [eR44, zupR_n hn44_1]; exact hr18_3
  have hr44_4 : R44 wo 1 = some q10 := by rw [eR44, zupR_n hn44]; exact hr18_4
  have hz44 : (K q44).1 = 0 := zfz gK15 hfq44
  have gK44 : ∀ a, (K a).1 ≠ 0 → K44 a = K a := fun a h9 => (by rw [eK44, zup_n (zfa h9 hz44)] : K44 a = K15 a).trans (gK15 a h9)
  have gX44 : ∀ a, (K a).1 ≠ 0 → a ≠ wo → X44 a = X a ∧ R44 a = Rf a := fun a h9 hm0 => ⟨(by rw [eX44, zupX_n (zfa h9 hz44)] : X44 a = X38 a).trans (gX38 a h9 hm0).1, (by rw [eR44, zupR_n (zfa h9 hz44)] : R44 a = R18 a).trans (gX38 a h9 hm0).2⟩
  refine zputRF (pc := 47) hx hb hG hown hw hk44 (T := TX7) (ty := .array (.object "ZoneCalendar$Feast")) rfl 5 (by decide) rfl wf_X7_35 rfl (by decide +kernel) rfl rfl rfl hname rfl dX7_init_47 (fun H locs hw => ?_)
  obtain ⟨R47, eR47⟩ : ∃ Y : zR, Y = up2 R44 wo 5 (some q44) := ⟨_, rfl⟩
  rw [← eR47] at hw
  have hr47 : R47 q10 1 = some tu_15 := by rw [eR47, up2_a (Ne.symm hn10)]; exact hr44
  have hr47_1 : R47 q10 3 = some to_15 := by rw [eR47, up2_a (Ne.symm hn10)]; exact hr44_1
  have hr47_2 : R47 q10 4 = some be_15 := by rw [eR47, up2_a (Ne.symm hn10)]; exact hr44_2
  have hr47_3 : R47 q10 5 = some sa_15 := by rw [eR47, up2_a (Ne.symm hn10)]; exact hr44_3
  have hr47_4 : R47 wo 1 = some q10 := by rw [eR47, up2_k (by first | decide | omega)]; exact hr44_4
  have hr47_5 : R47 wo 5 = some q44 := by rw [eR47]; exact up2_s
  have gX47 : ∀ a, (K a).1 ≠ 0 → a ≠ wo → X44 a = X a ∧ R47 a = Rf a := fun a h9 hm0 => ⟨(gX44 a h9 hm0).1, (by rw [eR47, up2_o hm0] : R47 a = R44 a).trans (gX44 a h9 hm0).2⟩
  refine lv_aload_n (pc := 50) hx hb dX7_init_50 rfl (lv_at hl 0 rfl) ?_
  refine ziconst (pc := 51) (n := 0) hx hb dX7_init_51 ?_
  refine zputI (pc := 52) hx hb hG hown hw hk44 (T := TX7) rfl 6 (by decide) rfl wf_X7_39 rfl (by decide +kernel) rfl dX7_init_52 (fun H locs hw => ?_)
  obtain ⟨X52, eX52⟩ : ∃ Y : zX, Y = up2 X44 wo 6 0 := ⟨_, rfl⟩
  rw [← eX52] at hw
  have gX52 : ∀ a, (K a).1 ≠ 0 → a ≠ wo → X52 a = X a ∧ R47 a = Rf a := fun a h9 hm0 => ⟨(by rw [eX52, up2_o hm0] : X52 a = X44 a).trans (gX47 a h9 hm0).1, (gX47 a h9 hm0).2⟩
  refine lv_aload_n (pc := 55) hx hb dX7_init_55 rfl (lv_at hl 0 rfl) ?_
  refine znew (pc := 56) hx hb hG hown hw (T := TX0) (ci := 0) rfl wn_X7_42 wt_X0 wi_X0 (by show 0 + 1 + 4 + 1 + 1 ≤ 9; omega) (by show 0 + 7 + 2414 + 20 + 3 ≤ 4200; omega) dX7_init_56 (fun q56 H hfq56 hw => ?_)
  obtain ⟨K56, eK56⟩ : ∃ Y : zK, Y = zup K44 q56 (1, 0) := ⟨_, rfl⟩
  obtain ⟨X56, eX56⟩ : ∃ Y : zX, Y = zupX X52 q56 := ⟨_, rfl⟩
  obtain ⟨R56, eR56⟩ : ∃ Y : zR, Y = zupR R47 q56 := ⟨_, rfl⟩
  replace hw := Wd.re hw eK56 eX56 eR56
  have hk56 : K56 wo = (1, 6) := by rw [eK56]; exact zup_k hfq56 hk44 (Nat.succ_ne_zero _)
  have hn56 : wo ≠ q56 := zne hk44 hfq56
  have hk56_1 : K56 q10 = (1, 3) := by rw [eK56]; exact zup_k hfq56 hk44_1 (Nat.succ_ne_zero _)
  have hn56_1 : q10 ≠ q56 := zne hk44_1 hfq56
  have hk56_2 : K56 tu_15 = (9, 6) := by rw [eK56]; exact zup_k hfq56 hk44_2 (Nat.succ_ne_zero _)
  have hn56_2 : tu_15 ≠ q56 := zne hk44_2 hfq56
  have hk56_3 : K56 to_15 = (2, 6) := by rw [eK56]; exact zup_k hfq56 hk44_3 (Nat.succ_ne_zero _)
  have hn56_3 : to_15 ≠ q56 := zne hk44_3 hfq56
  have hk56_4 : K56 be_15 = (2, 1201) := by rw [eK56]; exact zup_k hfq56 hk44_4 (Nat.succ_ne_zero _)
  have hn56_4 : be_15 ≠ q56 := zne hk44_4 hfq56
  have hk56_5 : K56 sa_15 = (2, 1201) := by rw [eK56]; exact zup_k hfq56 hk44_5 (Nat.succ_ne_zero _)
  have hn56_5 : sa_15 ≠ q56 := zne hk44_5 hfq56
  have hk56_6 : K56 q44 = (10, 20) := by rw [eK56]; exact zup_k hfq56 hk44_6 (Nat.succ_ne_zero _)
  have hn56_6 : q44 ≠ q56 := zne hk44_6 hfq56
  have hk56_7 : K56 q56 = (1, 0) := by rw [eK56]; exact zup_s
  have hr56 : R56 q10 1 = some tu_15 := by rw [eR56, zupR_n hn56_1]; exact hr47
  have hr56_1 : R56 q10 3 = some to_15 := by rw [eR56, zupR_n hn56_1]; exact hr47_1
  have hr56_2 : R56 q10 4 = some be_15 := by rw [eR56, zupR_n hn56_1]; exact hr47_2
  have hr56_3 : R56 q10 5 = some sa_15 := by rw [eR56, zupR_n hn56_1]; exact hr47_3
  have hr56_4 : R56 wo 1 = some q10 := by rw [eR56, zupR_n hn56]; exact hr47_4
  have hr56_5 : R56 wo 5 = some q44 := by rw [eR56, zupR_n hn56]; exact hr47_5
  have hz56 : (K q56).1 = 0 := zfz gK44 hfq56
  have gK56 : ∀ a, (K a).1 ≠ 0 → K56 a = K a := fun a h9 => (by rw [eK56, zup_n (zfa h9 hz56)] : K56 a = K44 a).trans (gK44 a h9)
  have gX56 : ∀ a, (K a).1 ≠ 0 → a ≠ wo → X56 a = X a ∧ R56 a = Rf a := fun a h9 hm0 => ⟨(by rw [eX56, zupX_n (zfa h9 hz56)] : X56 a = X52 a).trans (gX52 a h9 hm0).1, (by rw [eR56, zupR_n (zfa h9 hz56)] : R56 a = R47 a).trans (gX52 a h9 hm0).2⟩
  refine lv_dup (pc := 59) hx hb dX7_init_59 rfl ?_
  refine zsipush (pc := 60) (n := 1701) hx hb dX7_init_60 rfl ?_
  refine zkV (pc := 63) (zrI (As := [.int (iI 1701)]) hx hb hml hown hG hw (c_X0_init l Γ K56 X56 R56 q56 1701 (by (first | assumption | omega)) (by (first | assumption | omega))) cb_X0_init wl_X7_44 rfl ⟨Nat.le_of_ble_eq_true rfl, Nat.le_of_ble_eq_true rfl⟩ hl.1 rfl (Nat.le_of_ble_eq_true rfl) dX7_init_63 ⟨(by show 0 + 1 + 4 + 1 + 1 + 1 ≤ 9; omega), (by show 0 + 7 + 2414 + 20 + 3 + 1701 ≤ 4200; omega)⟩) hw (fun K63 X63 R63 H locs hp63 hw => ?_)
  obtain ⟨na_63, ⟨cK63, cX63⟩, ⟨cz63, ck63⟩, cr63, cP63⟩ := hp63
  have hk63 : K63 wo = (1, 6) := (cK63 _ (zk1 hk56)).trans hk56
  have hn63 : wo ≠ na_63 := zne hk56 cz63
  have hk63_1 : K63 q10 = (1, 3) := (cK63 _ (zk1 hk56_1)).trans hk56_1
  have hn63_1 : q10 ≠ na_63 := zne hk56_1 cz63
  have hk63_2 : K63 tu_15 = (9, 6) := (cK63 _ (zk1 hk56_2)).trans hk56_2
  have hn63_2 : tu_15 ≠ na_63 := zne hk56_2 cz63
  have hk63_3 : K63 to_15 = (2, 6) := (cK63 _ (zk1 hk56_3)).trans hk56_3
  have hn63_3 : to_15 ≠ na_63 := zne hk56_3 cz63
  have hk63_4 : K63 be_15 = (2, 1201) := (cK63 _ (zk1 hk56_4)).trans hk56_4
  have hn63_4 : be_15 ≠ na_63 := zne hk56_4 cz63
  have hk63_5 : K63 sa_15 = (2, 1201) := (cK63 _ (zk1 hk56_5)).trans hk56_5
  have hn63_5 : sa_15 ≠ na_63 := zne hk56_5 cz63
  have hk63_6 : K63 q44 = (10, 20) := (cK63 _ (zk1 hk56_6)).trans hk56_6
  have hn63_6 : q44 ≠ na_63 := zne hk56_6 cz63
  have hk63_7 : K63 q56 = (1, 0) := (cK63 _ (zk1 hk56_7)).trans hk56_7
  have hn63_7 : q56 ≠ na_63 := zne hk56_7 cz63
  have hr63 : R63 q10 1 = some tu_15 := by rw [(cX63 _ (zk1 hk56_1) hn56_1).2]; exact hr56
  have hr63_1 : R63 q10 3 = some to_15 := by rw [(cX63 _ (zk1 hk56_1) hn56_1).2]; exact hr56_1
  have hr63_2 : R63 q10 4 = some be_15 := by rw [(cX63 _ (zk1 hk56_1) hn56_1).2]; exact hr56_2
  have hr63_3 : R63 q10 5 = some sa_15 := by rw [(cX63 _ (zk1 hk56_1) hn56_1).2]; exact hr56_3
  have hr63_4 : R63 wo 1 = some q10 := by rw [(cX63 _ (zk1 hk56) hn56).2]; exact hr56_4
  have hr63_5 : R63 wo 5 = some q44 := by rw [(cX63 _ (zk1 hk56) hn56).2]; exact hr56_5
  have gK63 : ∀ a, (K a).1 ≠ 0 → K63 a = K a := fun a h9 => (cK63 a (by rw [gK56 a h9]; exact h9)).trans (gK56 a h9)
  have gX63 : ∀ a, (K a).1 ≠ 0 → a ≠ wo → X63 a = X a ∧ R63 a = Rf a := fun a h9 hm0 => ⟨(cX63 a (by rw [gK56 a h9]; exact h9) (zfa h9 hz56)).1.trans (gX56 a h9 hm0).1, (cX63 a (by rw [gK56 a h9]; exact h9) (zfa h9 hz56)).2.trans (gX56 a h9 hm0).2⟩
  have hz63 : (K na_63).1 = 0 := zfz gK56 cz63
  obtain ⟨pB1, pB2, pB3⟩ := cP63
  have ez63_0 : X63 wo = X56 wo ∧ R63 wo = R56 wo := cX63 _ (zk1 hk56) hn56
  have ez63_1 : X63 q10 = X56 q10 ∧ R63 q10 = R56 q10 := cX63 _ (zk1 hk56_1) hn56_1
  have ez63_2 : X63 tu_15 = X56 tu_15 ∧ R63 tu_15 = R56 tu_15 := cX63 _ (zk1 hk56_2) hn56_2
  have ez63_3 : X63 to_15 = X56 to_15 ∧ R63 to_15 = R56 to_15 := cX63 _ (zk1 hk56_3) hn56_3
  have ez63_4 : X63 be_15 = X56 be_15 ∧ R63 be_15 = R56 be_15 := cX63 _ (zk1 hk56_4) hn56_4
  have ez63_5 : X63 sa_15 = X56 sa_15 ∧ R63 sa_15 = R56 sa_15 := cX63 _ (zk1 hk56_5) hn56_5
  have ez63_6 : X63 q44 = X56 q44 ∧ R63 q44 = R56 q44 := cX63 _ (zk1 hk56_6) hn56_6
  refine zputRF (pc := 66) hx hb hG hown hw hk63 (T := TX7) (ty := .object "ZoneCalendar$DayRow") rfl 7 (by decide) rfl wf_X7_45 rfl (by decide +kernel) rfl rfl rfl hname rfl dX7_init_66 (fun H locs hw => ?_)
  obtain ⟨R66, eR66⟩ : ∃ Y : zR, Y = up2 R63 wo 7 (some q56) := ⟨_, rfl⟩
  rw [← eR66] at hw
  have hr66 : R66 q10 1 = some tu_15 := by rw [eR66, up2_a (Ne.symm hn10)]; exact hr63
  have hr66_1 : R66 q10 3 = some to_15 := by rw [eR66, up2_a (Ne.symm hn10)]; exact hr63_1
  have hr66_2 : R66 q10 4 = some be_15 := by rw [eR66, up2_a (Ne.symm hn10)]; exact hr63_2
  have hr66_3 : R66 q10 5 = some sa_15 := by rw [eR66, up2_a (Ne.symm hn10)]; exact hr63_3
  have hr66_4 : R66 wo 1 = some q10 := by rw [eR66, up2_k (by first | decide | omega)]; exact hr63_4
  have hr66_5 : R66 wo 5 = some q44 := by rw [eR66, up2_k (by first | decide | omega)]; exact hr63_5
  have hr66_6 : R66 q56 0 = some na_63 := by rw [eR66, up2_a (Ne.symm hn56)]; exact cr63
  have hr66_7 : R66 wo 7 = some q56 := by rw [eR66]; exact up2_s
  have gX66 : ∀ a, (K a).1 ≠ 0 → a ≠ wo → X63 a = X a ∧ R66 a = Rf a := fun a h9 hm0 => ⟨(gX63 a h9 hm0).1, (by rw [eR66, up2_o hm0] : R66 a = R63 a).trans (gX63 a h9 hm0).2⟩
  exact zretV (pc := 69) hx hb hlocks hr hw (by show 0 + 1 + 4 + 1 + 1 + 1 ≤ 9; omega) (by show 0 + 7 + 2414 + 20 + 3 + 1701 ≤ 4200; omega) dX7_init_69 ⟨q10, tu_15, to_15, be_15, sa_15, q44, q56, na_63, ⟨gK63, gX66⟩, ⟨hz10, hk63_1⟩, ⟨hz15, hk63_2⟩, ⟨hz15_1, hk63_3⟩, ⟨hz15_2, hk63_4⟩, ⟨hz15_3, hk63_5⟩, ⟨hz44, hk63_6⟩, ⟨hz56, hk63_7⟩, ⟨hz63, ck63⟩, hr66_4, hr66_5, hr66_7, hr66, hr66_1, hr66_2, hr66_3, hr66_6, (by simp [eR66, eR56, eX56, eK56, eX52, eR47, eR44, eX44, eK44, eX38, eX31, eX24, eR18, eR10, eX10, eK10, eX6, up2, zupX, zupR, hn10, Ne.symm hn10, hn15, Ne.symm hn15, hn15_1, Ne.symm hn15_1, hn15_2, Ne.symm hn15_2, hn15_3, Ne.symm hn15_3, hn15_4, Ne.symm hn15_4, hn15_5, Ne.symm hn15_5, hn15_6, Ne.symm hn15_6, hn15_7, Ne.symm hn15_7, hn44, Ne.symm hn44, hn44_1, Ne.symm hn44_1, hn44_2, Ne.symm hn44_2, hn44_3, Ne.symm hn44_3, hn44_4, Ne.symm hn44_4, hn44_5, Ne.symm hn44_5, hn56, Ne.symm hn56, hn56_1, Ne.symm hn56_1, hn56_2, Ne.symm hn56_2, hn56_3, Ne.symm hn56_3, hn56_4, Ne.symm hn56_4, hn56_5, Ne.symm hn56_5, hn56_6, Ne.symm hn56_6, hn63, Ne.symm hn63, hn63_1, Ne.symm hn63_1, hn63_2, Ne.symm hn63_2, hn63_3, Ne.symm hn63_3, hn63_4, Ne.symm hn63_4, hn63_5, Ne.symm hn63_5, hn63_6, Ne.symm hn63_6, hn63_7, Ne.symm hn63_7, pA1, pA2, pA3, pA4, pA5, pA6, pB1, pB2, pB3, ez15_0, ez63_0, ez63_1, ez63_2, ez63_3, ez63_4, ez63_5, ez63_6])⟩
set_option maxHeartbeats 4000000 in
set_option maxRecDepth 100000 in
theorem c_X8_init (l : Launch) (Γ : zG) (K : zK) (X : zX) (Rf : zR) (x : Nat)  (hk : K x = (1, 7)) : Ct l yX8_init cX8_init 1 none 4 20 9200 Γ [.ref x] K X Rf (pV (fun (K' : zK) (X' : zX) (R' : zR) => ∃ pr pl sr dr na wo p0 tu to be sa fe fa fn : Nat, ((∀ a, (K a).1 ≠ 0 → K' a = K a) ∧ (∀ a, (K a).1 ≠ 0 → a ≠ x → X' a = X a ∧ R' a = Rf a)) ∧ ((K pr).1 = 0 ∧ K' pr = (6, 24)) ∧ ((K pl).1 = 0 ∧ K' pl = (7, 6)) ∧ ((K sr).1 = 0 ∧ K' sr = (8, 6)) ∧ ((K dr).1 = 0 ∧ K' dr = (1, 0)) ∧ ((K na).1 = 0 ∧ K' na = (2, 4733)) ∧ ((K wo).1 = 0 ∧ K' wo = (1, 6)) ∧ ((K p0).1 = 0 ∧ K' p0 = (1, 3)) ∧ ((K tu).1 = 0 ∧ K' tu = (9, 6)) ∧ ((K to).1 = 0 ∧ K' to = (2, 6)) ∧ ((K be).1 = 0 ∧ K' be = (2, 1201)) ∧ ((K sa).1 = 0 ∧ K' sa = (2, 1201)) ∧ ((K fe).1 = 0 ∧ K' fe = (10, 20)) ∧ ((K fa).1 = 0 ∧ K' fa = (1, 0)) ∧ ((K fn).1 = 0 ∧ K' fn = (2, 1701)) ∧ R' x 0 = some pr ∧ R' x 2 = some pl ∧ R' x 4 = some sr ∧ R' x 6 = some dr ∧ R' x 7 = some wo ∧ R' dr 0 = some na ∧ R' wo 1 = some p0 ∧ R' wo 5 = some fe ∧ R' wo 7 = some fa ∧ R' p0 1 = some tu ∧ R' p0 3 = some to ∧ R' p0 4 = some be ∧ R' p0 5 = some sa ∧ R' fa 0 = some fn ∧ ((X' x 1 = 0 ∧ X' x 3 = 0 ∧ X' x 5 = 0) ∧ (∀ k, R' pr k = none ∧ R' pl k = none ∧ R' sr k = none) ∧ (∀ k, X' na k = 0) ∧ (X' wo 0 = -1 ∧ X' wo 2 = 31 ∧ X' wo 3 = 540 ∧ X' wo 4 = 1020 ∧ X' wo 6 = 0) ∧ (∀ k, R' fe k = none) ∧ (∀ k, R' tu k = none) ∧ (X' p0 0 = 0 ∧ X' p0 2 = 0 ∧ X' p0 6 = 1) ∧ (∀ k, X' be k = 0 ∧ X' sa k = 0) ∧ (X' fa 1 = 0 ∧ X' fa 2 = -1) ∧ (∀ k, X' fn k = 0) ∧ be ≠ sa ∧ dr ≠ fa))) := by
  refine Ct.of (by decide +kernel) (Nat.le_of_ble_eq_true rfl) ?_
  intro p e s m below meth c ls hx hb hr hml hown hG hlocks hname hw hl
  have hl : lv_has ls 1 [(0, .ref x)] := hl
  have gK0 : ∀ a, (K a).1 ≠ 0 → K a = K a := fun _ _ => rfl
  have gX0 : ∀ a, (K a).1 ≠ 0 → a ≠ x → X a = X a ∧ Rf a = Rf a := fun _ _ _ => ⟨rfl, rfl⟩
  refine lv_aload_n (pc := 0) hx hb dX8_init_0 rfl (lv_at hl 0 rfl) ?_
  refine W.objInit hx hb hown (hG _ wl_X8_1) (hG _ wm_objInit) (hG _ wc_objInit) rfl (by rw [hml]; exact hl.1) rfl dX8_init_1 (Nat.le_of_ble_eq_true rfl) (Nat.le_of_ble_eq_true rfl) ?_
  refine W.eq (g2 := F0 m 4 ls []) rfl ?_
  refine lv_aload_n (pc := 4) hx hb dX8_init_4 rfl (lv_at hl 0 rfl) ?_
  refine zbipush (pc := 5) (n := 24) hx hb dX8_init_5 rfl ?_
  refine znewq0 (pc := 7) hx hb hG hown hw wn_X8_7 ⟨by omega, by omega⟩ (by show 0 + 1 ≤ 20; omega) (by show 0 + 24 ≤ 9200; omega) dX8_init_7 (fun q7 H hfq7 hw => ?_)
  obtain ⟨K7, eK7⟩ : ∃ Y : zK, Y = zup K q7 (6, 24) := ⟨_, rfl⟩
  obtain ⟨X7, eX7⟩ : ∃ Y : zX, Y = zupX X q7 := ⟨_, rfl⟩
  obtain ⟨R7, eR7⟩ : ∃ Y : zR, Y = zupR Rf q7 := ⟨_, rfl⟩
  replace hw := Wd.re hw eK7 eX7 eR7
  have hk7 : K7 x = (1, 7) := by rw [eK7]; exact zup_k hfq7 hk (Nat.succ_ne_zero _)
  have hn7 : x ≠ q7 := zne hk hfq7
  have hk7_1 : K7 q7 = (6, 24) := by rw [eK7]; exact zup_s
  have hz7 : (K q7).1 = 0 := zfz gK0 hfq7
  have gK7 : ∀ a, (K a).1 ≠ 0 → K7 a = K a := fun a h9 => (by rw [eK7, zup_n (zfa h9 hz7)] : K7 a = K a).trans (gK0 a h9)
  have gX7 : ∀ a, (K a).1 ≠ 0 → a ≠ x → X7 a = X a ∧ R7 a = Rf a := fun a h9 hm0 => ⟨(by rw [eX7, zupX_n (zfa h9 hz7)] : X7 a = X a).trans (gX0 a h9 hm0).1, (by rw [eR7, zupR_n (zfa h9 hz7)] : R7 a = Rf a).trans (gX0 a h9 hm0).2⟩
  refine zputRF (pc := 10) hx hb hG hown hw hk7 (T := TX8) (ty := .array (.object "ZoneCalendar$Pattern")) rfl 0 (by decide) rfl wf_X8_9 rfl (by decide +kernel) rfl rfl rfl hname rfl dX8_init_10 (fun H locs hw => ?_)
  obtain ⟨R10, eR10⟩ : ∃ Y : zR, Y = up2 R7 x 0 (some q7) := ⟨_, rfl⟩
  rw [← eR10] at hw
  have hr10 : R10 x 0 = some q7 := by rw [eR10]; exact up2_s
  have gX10 : ∀ a, (K a).1 ≠ 0 → a ≠ x → X7 a = X a ∧ R10 a = Rf a := fun a h9 hm0 => ⟨(gX7 a h9 hm0).1, (by rw [eR10, up2_o hm0] : R10 a = R7 a).trans (gX7 a h9 hm0).2⟩
  refine lv_aload_n (pc := 13) hx hb dX8_init_13 rfl (lv_at hl 0 rfl) ?_
  refine ziconst (pc := 14) (n := 0) hx hb dX8_init_14 ?_
  refine zputI (pc := 15) hx hb hG hown hw hk7 (T := TX8) rfl 1 (by decide) rfl wf_X8_15 rfl (by decide +kernel) rfl dX8_init_15 (fun H locs hw => ?_)
  obtain ⟨X15, eX15⟩ : ∃ Y : zX, Y = up2 X7 x 1 0 := ⟨_, rfl⟩
  rw [← eX15] at hw
  have gX15 : ∀ a, (K a).1 ≠ 0 → a ≠ x → X15 a = X a ∧ R10 a = Rf a := fun a h9 hm0 => ⟨(by rw [eX15, up2_o hm0] : X15 a = X7 a).trans (gX10 a h9 hm0).1, (gX10 a h9 hm0).2⟩
  refine lv_aload_n (pc := 18) hx hb dX8_init_18 rfl (lv_at hl 0 rfl) ?_
  refine zbipush (pc := 19) (n := 6) hx hb dX8_init_19 rfl ?_
  refine znewq1 (pc := 21) hx hb hG hown hw wn_X8_19 ⟨by omega, by omega⟩ (by show 0 + 1 + 1 ≤ 20; omega) (by show 0 + 24 + 6 ≤ 9200; omega) dX8_init_21 (fun q21 H hfq21 hw => ?_)
  obtain ⟨K21, eK21⟩ : ∃ Y : zK, Y = zup K7 q21 (7, 6) := ⟨_, rfl⟩
  obtain ⟨X21, eX21⟩ : ∃ Y : zX, Y = zupX X15 q21 := ⟨_, rfl⟩
  obtain ⟨R21, eR21⟩ : ∃ Y : zR, Y = zupR R10 q21 := ⟨_, rfl⟩
  replace hw := Wd.re hw eK21 eX21 eR21
  have hk21 : K21 x = (1, 7) := by rw [eK21]; exact zup_k hfq21 hk7 (Nat.succ_ne_zero _)
  have hn21 : x ≠ q21 := zne hk7 hfq21
  have hk21_1 : K21 q7 = (6, 24) := by rw [eK21]; exact zup_k hfq21 hk7_1 (Nat.succ_ne_zero _)
  have hn21_1 : q7 ≠ q21 := zne hk7_1 hfq21
  have hk21_2 : K21 q21 = (7, 6) := by rw [eK21]; exact zup_s
  have hr21 : R21 x 0 = some q7 := by rw [eR21, zupR_n hn21]; exact hr10
  have hz21 : (K q21).1 = 0 := zfz gK7 hfq21
  have gK21 : ∀ a, (K a).1 ≠ 0 → K21 a = K a := fun a h9 => (by rw [eK21, zup_n (zfa h9 hz21)] : K21 a = K7 a).trans (gK7 a h9)
  have gX21 : ∀ a, (K a).1 ≠ 0 → a ≠ x → X21 a = X a ∧ R21 a = Rf a := fun a h9 hm0 => ⟨(by rw [eX21, zupX_n (zfa h9 hz21)] : X21 a = X15 a).trans (gX15 a h9 hm0).1, (by rw [eR21, zupR_n (zfa h9 hz21)] : R21 a = R10 a).trans (gX15 a h9 hm0).2⟩
  refine zputRF (pc := 24) hx hb hG hown hw hk21 (T := TX8) (ty := .array (.object "ZoneCalendar$Place")) rfl 2 (by decide) rfl wf_X8_21 rfl (by decide +kernel) rfl rfl rfl hname rfl dX8_init_24 (fun H locs hw => ?_)
  obtain ⟨R24, eR24⟩ : ∃ Y : zR, Y = up2 R21 x 2 (some q21) := ⟨_, rfl⟩
  rw [← eR24] at hw
  have hr24 : R24 x 0 = some q7 := by rw [eR24, up2_k (by first | decide | omega)]; exact hr21
  have hr24_1 : R24 x 2 = some q21 := by rw [eR24]; exact up2_s
  have gX24 : ∀ a, (K a).1 ≠ 0 → a ≠ x → X21 a = X a ∧ R24 a = Rf a := fun a h9 hm0 => ⟨(gX21 a h9 hm0).1, (by rw [eR24, up2_o hm0] : R24 a = R21 a).trans (gX21 a h9 hm0).2⟩
  refine lv_aload_n (pc := 27) hx hb dX8_init_27 rfl (lv_at hl 0 rfl) ?_
  refine ziconst (pc := 28) (n := 0) hx hb dX8_init_28 ?_
  refine zputI (pc := 29) hx hb hG hown hw hk21 (T := TX8) rfl 3 (by decide) rfl wf_X8_25 rfl (by decide +kernel) rfl dX8_init_29 (fun H locs hw => ?_)
  obtain ⟨X29, eX29⟩ : ∃ Y : zX, Y = up2 X21 x 3 0 := ⟨_, rfl⟩
  rw [← eX29] at hw
  have gX29 : ∀ a, (K a).1 ≠ 0 → a ≠ x → X29 a = X a ∧ R24 a = Rf a := fun a h9 hm0 => ⟨(by rw [eX29, up2_o hm0] : X29 a = X21 a).trans (gX24 a h9 hm0).1, (gX24 a h9 hm0).2⟩
  refine lv_aload_n (pc := 32) hx hb dX8_init_32 rfl (lv_at hl 0 rfl) ?_
  refine zbipush (pc := 33) (n := 6) hx hb dX8_init_33 rfl ?_
  refine znewq2 (pc := 35) hx hb hG hown hw wn_X8_28 ⟨by omega, by omega⟩ (by show 0 + 1 + 1 + 1 ≤ 20; omega) (by show 0 + 24 + 6 + 6 ≤ 9200; omega) dX8_init_35 (fun q35 H hfq35 hw => ?_)
  obtain ⟨K35, eK35⟩ : ∃ Y : zK, Y = zup K21 q35 (8, 6) := ⟨_, rfl⟩
  obtain ⟨X35, eX35⟩ : ∃ Y : zX, Y = zupX X29 q35 := ⟨_, rfl⟩
  obtain ⟨R35, eR35⟩ : ∃ Y : zR, Y = zupR R24 q35 := ⟨_, rfl⟩
  replace hw := Wd.re hw eK35 eX35 eR35
  have hk35 : K35 x = (1, 7) := by rw [eK35]; exact zup_k hfq35 hk21 (Nat.succ_ne_zero _)
  have hn35 : x ≠ q35 := zne hk21 hfq35
  have hk35_1 : K35 q7 = (6, 24) := by rw [eK35]; exact zup_k hfq35 hk21_1 (Nat.succ_ne_zero _)
  have hn35_1 : q7 ≠ q35 := zne hk21_1 hfq35
  have hk35_2 : K35 q21 = (7, 6) := by rw [eK35]; exact zup_k hfq35 hk21_2 (Nat.succ_ne_zero _)
  have hn35_2 : q21 ≠ q35 := zne hk21_2 hfq35
  have hk35_3 : K35 q35 = (8, 6) := by rw [eK35]; exact zup_s
  have hr35 : R35 x 0 = some q7 := by rw [eR35, zupR_n hn35]; exact hr24
  have hr35_1 : R35 x 2 = some q21 := by rw [eR35, zupR_n hn35]; exact hr24_1
  have hz35 : (K q35).1 = 0 := zfz gK21 hfq35
  have gK35 : ∀ a, (K a).1 ≠ 0 → K35 a = K a := fun a h9 => (by rw [eK35, zup_n (zfa h9 hz35)] : K35 a = K21 a).trans (gK21 a h9)
  have gX35 : ∀ a, (K a).1 ≠ 0 → a ≠ x → X35 a = X a ∧ R35 a = Rf a := fun a h9 hm0 => ⟨(by rw [eX35, zupX_n (zfa h9 hz35)] : X35 a = X29 a).trans (gX29 a h9 hm0).1, (by rw [eR35, zupR_n (zfa h9 hz35)] : R35 a = R24 a).trans (gX29 a h9 hm0).2⟩
  refine zputRF (pc := 38) hx hb hG hown hw hk35 (T := TX8) (ty := .array (.object "ZoneCalendar$Series")) rfl 4 (by decide) rfl wf_X8_30 rfl (by decide +kernel) rfl rfl rfl hname rfl dX8_init_38 (fun H locs hw => ?_)
  obtain ⟨R38, eR38⟩ : ∃ Y : zR, Y = up2 R35 x 4 (some q35) := ⟨_, rfl⟩
  rw [← eR38] at hw
  have hr38 : R38 x 0 = some q7 := by rw [eR38, up2_k (by first | decide | omega)]; exact hr35
  have hr38_1 : R38 x 2 = some q21 := by rw [eR38, up2_k (by first | decide | omega)]; exact hr35_1
  have hr38_2 : R38 x 4 = some q35 := by rw [eR38]; exact up2_s
  have gX38 : ∀ a, (K a).1 ≠ 0 → a ≠ x → X35 a = X a ∧ R38 a = Rf a := fun a h9 hm0 => ⟨(gX35 a h9 hm0).1, (by rw [eR38, up2_o hm0] : R38 a = R35 a).trans (gX35 a h9 hm0).2⟩
  refine lv_aload_n (pc := 41) hx hb dX8_init_41 rfl (lv_at hl 0 rfl) ?_
  refine ziconst (pc := 42) (n := 0) hx hb dX8_init_42 ?_
  refine zputI (pc := 43) hx hb hG hown hw hk35 (T := TX8) rfl 5 (by decide) rfl wf_X8_34 rfl (by decide +kernel) rfl dX8_init_43 (fun H locs hw => ?_)
  obtain ⟨X43, eX43⟩ : ∃ Y : zX, Y = up2 X35 x 5 0 := ⟨_, rfl⟩
  rw [← eX43] at hw
  have gX43 : ∀ a, (K a).1 ≠ 0 → a ≠ x → X43 a = X a ∧ R38 a = Rf a := fun a h9 hm0 => ⟨(by rw [eX43, up2_o hm0] : X43 a = X35 a).trans (gX38 a h9 hm0).1, (gX38 a h9 hm0).2⟩
  refine lv_aload_n (pc := 46) hx hb dX8_init_46 rfl (lv_at hl 0 rfl) ?_
  refine znew (pc := 47) hx hb hG hown hw (T := TX0) (ci := 0) rfl wn_X8_37 wt_X0 wi_X0 (by show 0 + 1 + 1 + 1 + 1 ≤ 20; omega) (by show 0 + 24 + 6 + 6 + 3 ≤ 9200; omega) dX8_init_47 (fun q47 H hfq47 hw => ?_)
  obtain ⟨K47, eK47⟩ : ∃ Y : zK, Y = zup K35 q47 (1, 0) := ⟨_, rfl⟩
  obtain ⟨X47, eX47⟩ : ∃ Y : zX, Y = zupX X43 q47 := ⟨_, rfl⟩
  obtain ⟨R47, eR47⟩ : ∃ Y : zR, Y = zupR R38 q47 := ⟨_, rfl⟩
  replace hw := Wd.re hw eK47 eX47 eR47
  have hk47 : K47 x = (1, 7) := by rw [eK47]; exact zup_k hfq47 hk35 (Nat.succ_ne_zero _)
  have hn47 : x ≠ q47 := zne hk35 hfq47
  have hk47_1 : K47 q7 = (6, 24) := by rw [eK47]; exact zup_k hfq47 hk35_1 (Nat.succ_ne_zero _)
  have hn47_1 : q7 ≠ q47 := zne hk35_1 hfq47
  have hk47_2 : K47 q21 = (7, 6) := by rw [eK47]; exact zup_k hfq47 hk35_2 (Nat.succ_ne_zero _)
  have hn47_2 : q21 ≠ q47 := zne hk35_2 hfq47
  have hk47_3 : K47 q35 = (8, 6) := by rw [eK47]; exact zup_k hfq47 hk35_3 (Nat.succ_ne_zero _)
  have hn47_3 : q35 ≠ q47 := zne hk35_3 hfq47
  have hk47_4 : K47 q47 = (1, 0) := by rw [eK47]; exact zup_s
  have hr47 : R47 x 0 = some q7 := by rw [eR47, zupR_n hn47]; exact hr38
  have hr47_1 : R47 x 2 = some q21 := by rw [eR47, zupR_n hn47]; exact hr38_1
  have hr47_2 : R47 x 4 = some q35 := by rw [eR47, zupR_n hn47]; exact hr38_2
  have hz47 : (K q47).1 = 0 := zfz gK35 hfq47
  have gK47 : ∀ a, (K a).1 ≠ 0 → K47 a = K a := fun a h9 => (by rw [eK47, zup_n (zfa h9 hz47)] : K47 a = K35 a).trans (gK35 a h9)
  have gX47 : ∀ a, (K a).1 ≠ 0 → a ≠ x → X47 a = X a ∧ R47 a = Rf a := fun a h9 hm0 => ⟨(by rw [eX47, zupX_n (zfa h9 hz47)] : X47 a = X43 a).trans (gX43 a h9 hm0).1, (by rw [eR47, zupR_n (zfa h9 hz47)] : R47 a = R38 a).trans (gX43 a h9 hm0).2⟩
  refine lv_dup (pc := 50) hx hb dX8_init_50 rfl ?_
  refine zsipush (pc := 51) (n := 4733) hx hb dX8_init_51 rfl ?_
  refine zkV (pc := 54) (zrI (As := [.int (iI 4733)]) hx hb hml hown hG hw (c_X0_init l Γ K47 X47 R47 q47 4733 (by (first | assumption | omega)) (by (first | assumption | omega))) cb_X0_init wl_X8_39 rfl ⟨Nat.le_of_ble_eq_true rfl, Nat.le_of_ble_eq_true rfl⟩ hl.1 rfl (Nat.le_of_ble_eq_true rfl) dX8_init_54 ⟨(by show 0 + 1 + 1 + 1 + 1 + 1 ≤ 20; omega), (by show 0 + 24 + 6 + 6 + 3 + 4733 ≤ 9200; omega)⟩) hw (fun K54 X54 R54 H locs hp54 hw => ?_)
  obtain ⟨na_54, ⟨cK54, cX54⟩, ⟨cz54, ck54⟩, cr54, cP54⟩ := hp54
  have hk54 : K54 x = (1, 7) := (cK54 _ (zk1 hk47)).trans hk47
  have hn54 : x ≠ na_54 := zne hk47 cz54
  have hk54_1 : K54 q7 = (6, 24) := (cK54 _ (zk1 hk47_1)).trans hk47_1
  have hn54_1 : q7 ≠ na_54 := zne hk47_1 cz54
  have hk54_2 : K54 q21 = (7, 6) := (cK54 _ (zk1 hk47_2)).trans hk47_2
  have hn54_2 : q21 ≠ na_54 := zne hk47_2 cz54
  have hk54_3 : K54 q35 = (8, 6) := (cK54 _ (zk1 hk47_3)).trans hk47_3
  have hn54_3 : q35 ≠ na_54 := zne hk47_3 cz54
  have hk54_4 : K54 q47 = (1, 0) := (cK54 _ (zk1 hk47_4)).trans hk47_4
  have hn54_4 : q47 ≠ na_54 := zne hk47_4 cz54
  have hr54 : R54 x 0 = some q7 := by rw [(cX54 _ (zk1 hk47) hn47).2]; exact hr47
  have hr54_1 : R54 x 2 = some q21 := by rw [(cX54 _ (zk1 hk47) hn47).2]; exact hr47_1
  have hr54_2 : R54 x 4 = some q35 := by rw [(cX54 _ (zk1 hk47) hn47).2]; exact hr47_2
  have gK54 : ∀ a, (K a).1 ≠ 0 → K54 a = K a := fun a h9 => (cK54 a (by rw [gK47 a h9]; exact h9)).trans (gK47 a h9)
  have gX54 : ∀ a, (K a).1 ≠ 0 → a ≠ x → X54 a = X a ∧ R54 a = Rf a := fun a h9 hm0 => ⟨(cX54 a (by rw [gK47 a h9]; exact h9) (zfa h9 hz47)).1.trans (gX47 a h9 hm0).1, (cX54 a (by rw [gK47 a h9]; exact h9) (zfa h9 hz47)).2.trans (gX47 a h9 hm0).2⟩
  have hz54 : (K na_54).1 = 0 := zfz gK47 cz54
  obtain ⟨pB1, pB2, pB3⟩ := cP54
  have ez54_0 : X54 x = X47 x ∧ R54 x = R47 x := cX54 _ (zk1 hk47) hn47
  have ez54_1 : X54 q7 = X47 q7 ∧ R54 q7 = R47 q7 := cX54 _ (zk1 hk47_1) hn47_1
  have ez54_2 : X54 q21 = X47 q21 ∧ R54 q21 = R47 q21 := cX54 _ (zk1 hk47_2) hn47_2
  have ez54_3 : X54 q35 = X47 q35 ∧ R54 q35 = R47 q35 := cX54 _ (zk1 hk47_3) hn47_3
  refine zputRF (pc := 57) hx hb hG hown hw hk54 (T := TX8) (ty := .object "ZoneCalendar$DayRow") rfl 6 (by decide) rfl wf_X8_42 rfl (by decide +kernel) rfl rfl rfl hname rfl dX8_init_57 (fun H locs hw => ?_)
  obtain ⟨R57, eR57⟩ : ∃ Y : zR, Y = up2 R54 x 6 (some q47) := ⟨_, rfl⟩
  rw [← eR57] at hw
  have hr57 : R57 x 0 = some q7 := by rw [eR57, up2_k (by first | decide | omega)]; exact hr54
  have hr57_1 : R57 x 2 = some q21 := by rw [eR57, up2_k (by first | decide | omega)]; exact hr54_1
  have hr57_2 : R57 x 4 = some q35 := by rw [eR57, up2_k (by first | decide | omega)]; exact hr54_2
  have hr57_3 : R57 q47 0 = some na_54 := by rw [eR57, up2_a (Ne.symm hn47)]; exact cr54
  have hr57_4 : R57 x 6 = some q47 := by rw [eR57]; exact up2_s
  have gX57 : ∀ a, (K a).1 ≠ 0 → a ≠ x → X54 a = X a ∧ R57 a = Rf a := fun a h9 hm0 => ⟨(gX54 a h9 hm0).1, (by rw [eR57, up2_o hm0] : R57 a = R54 a).trans (gX54 a h9 hm0).2⟩
  refine lv_aload_n (pc := 60) hx hb dX8_init_60 rfl (lv_at hl 0 rfl) ?_
  refine znew (pc := 61) hx hb hG hown hw (T := TX7) (ci := 6) rfl wn_X8_46 wt_X7 wi_X7 (by show 0 + 1 + 1 + 1 + 1 + 1 + 1 ≤ 20; omega) (by show 0 + 24 + 6 + 6 + 3 + 4733 + 8 ≤ 9200; omega) dX8_init_61 (fun q61 H hfq61 hw => ?_)
  obtain ⟨K61, eK61⟩ : ∃ Y : zK, Y = zup K54 q61 (1, 6) := ⟨_, rfl⟩
  obtain ⟨X61, eX61⟩ : ∃ Y : zX, Y = zupX X54 q61 := ⟨_, rfl⟩
  obtain ⟨R61, eR61⟩ : ∃ Y : zR, Y = zupR R57 q61 := ⟨_, rfl⟩
  replace hw := Wd.re hw eK61 eX61 eR61
  have hk61 : K61 x = (1, 7) := by rw [eK61]; exact zup_k hfq61 hk54 (Nat.succ_ne_zero _)
  have hn61 : x ≠ q61 := zne hk54 hfq61
  have hk61_1 : K61 q7 = (6, 24) := by rw [eK61]; exact zup_k hfq61 hk54_1 (Nat.succ_ne_zero _)
  have hn61_1 : q7 ≠ q61 := zne hk54_1 hfq61
  have hk61_2 : K61 q21 = (7, 6) := by rw [eK61]; exact zup_k hfq61 hk54_2 (Nat.succ_ne_zero _)
  have hn61_2 : q21 ≠ q61 := zne hk54_2 hfq61
  have hk61_3 : K61 q35 = (8, 6) := by rw [eK61]; exact zup_k hfq61 hk54_3 (Nat.succ_ne_zero _)
  have hn61_3 : q35 ≠ q61 := zne hk54_3 hfq61
  have hk61_4 : K61 q47 = (1, 0) := by rw [eK61]; exact zup_k hfq61 hk54_4 (Nat.succ_ne_zero _)
  have hn61_4 : q47 ≠ q61 := zne hk54_4 hfq61
  have hk61_5 : K61 na_54 = (2, 4733) := by rw [eK61]; exact zup_k hfq61 ck54 (Nat.succ_ne_zero _)
  have hn61_5 : na_54 ≠ q61 := zne ck54 hfq61
  have hk61_6 : K61 q61 = (1, 6) := by rw [eK61]; exact zup_s
  have hr61 : R61 x 0 = some q7 := by rw [eR61, zupR_n hn61]; exact hr57
  have hr61_1 : R61 x 2 = some q21 := by rw [eR61, zupR_n hn61]; exact hr57_1
  have hr61_2 : R61 x 4 = some q35 := by rw [eR61, zupR_n hn61]; exact hr57_2
  have hr61_3 : R61 q47 0 = some na_54 := by rw [eR61, zupR_n hn61_4]; exact hr57_3
  have hr61_4 : R61 x 6 = some q47 := by rw [eR61, zupR_n hn61]; exact hr57_4
  have hz61 : (K q61).1 = 0 := zfz gK54 hfq61
  have gK61 : ∀ a, (K a).1 ≠ 0 → K61 a = K a := fun a h9 => (by rw [eK61, zup_n (zfa h9 hz61)] : K61 a = K54 a).trans (gK54 a h9)
  have gX61 : ∀ a, (K a).1 ≠ 0 → a ≠ x → X61 a = X a ∧ R61 a = Rf a := fun a h9 hm0 => ⟨(by rw [eX61, zupX_n (zfa h9 hz61)] : X61 a = X54 a).trans (gX57 a h9 hm0).1, (by rw [eR61, zupR_n (zfa h9 hz61)] : R61 a = R57 a).trans (gX57 a h9 hm0).2⟩
  refine lv_dup (pc := 64) hx hb dX8_init_64 rfl ?_
  refine zkV (pc := 65) (zrI (As := []) hx hb hml hown hG hw (c_X7_init l Γ K61 X61 R61 q61  (by (first | assumption | omega))) cb_X7_init wl_X8_48 rfl ⟨Nat.le_of_ble_eq_true rfl, Nat.le_of_ble_eq_true rfl⟩ hl.1 rfl (Nat.le_of_ble_eq_true rfl) dX8_init_65 ⟨(by show 0 + 1 + 1 + 1 + 1 + 1 + 1 + 9 ≤ 20; omega), (by show 0 + 24 + 6 + 6 + 3 + 4733 + 8 + 4200 ≤ 9200; omega)⟩) hw (fun K65 X65 R65 H locs hp65 hw => ?_)
  obtain ⟨p0_65, tu_65, to_65, be_65, sa_65, fe_65, fa_65, fn_65, ⟨cK65, cX65⟩, ⟨cz65, ck65⟩, ⟨cz65_1, ck65_1⟩, ⟨cz65_2, ck65_2⟩, ⟨cz65_3, ck65_3⟩, ⟨cz65_4, ck65_4⟩, ⟨cz65_5, ck65_5⟩, ⟨cz65_6, ck65_6⟩, ⟨cz65_7, ck65_7⟩, cr65, cr65_1, cr65_2, cr65_3, cr65_4, cr65_5, cr65_6, cr65_7, cP65⟩ := hp65
  have hk65 : K65 x = (1, 7) := (cK65 _ (zk1 hk61)).trans hk61
  have hn65 : x ≠ p0_65 := zne hk61 cz65
  have hn65_1 : x ≠ tu_65 := zne hk61 cz65_1
  have hn65_2 : x ≠ to_65 := zne hk61 cz65_2
  have hn65_3 : x ≠ be_65 := zne hk61 cz65_3
  have hn65_4 : x ≠ sa_65 := zne hk61 cz65_4
  have hn65_5 : x ≠ fe_65 := zne hk61 cz65_5
  have hn65_6 : x ≠ fa_65 := zne hk61 cz65_6
  have hn65_7 : x ≠ fn_65 := zne hk61 cz65_7
  have hk65_1 : K65 q7 = (6, 24) := (cK65 _ (zk1 hk61_1)).trans hk61_1
  have hn65_8 : q7 ≠ p0_65 := zne hk61_1 cz65
  have hn65_9 : q7 ≠ tu_65 := zne hk61_1 cz65_1
  have hn65_10 : q7 ≠ to_65 := zne hk61_1 cz65_2
  have hn65_11 : q7 ≠ be_65 := zne hk61_1 cz65_3
  have hn65_12 : q7 ≠ sa_65 := zne hk61_1 cz65_4
  have hn65_13 : q7 ≠ fe_65 := zne hk61_1 cz65_5
  have hn65_14 : q7 ≠ fa_65 := zne hk61_1 cz65_6
  have hn65_15 : q7 ≠ fn_65 := zne hk61_1 cz65_7
  have hk65_2 : K65 q21 = (7, 6) := (cK65 _ (zk1 hk61_2)).trans hk61_2
  have hn65_16 : q21 ≠ p0_65 := zne hk61_2 cz65
  have hn65_17 : q21 ≠ tu_65 := zne hk61_2 cz65_1
  have hn65_18 : q21 ≠ to_65 := zne hk61_2 cz65_2
  have hn65_19 : q21 ≠ be_65 := zne hk61_2 cz65_3
  have hn65_20 : q21 ≠ sa_65 := zne hk61_2 cz65_4
  have hn65_21 : q21 ≠ fe_65 := zne hk61_2 cz65_5
  have hn65_22 : q21 ≠ fa_65 := zne hk61_2 cz65_6
  have hn65_23 : q21 ≠ fn_65 := zne hk61_2 cz65_7
  have hk65_3 : K65 q35 = (8, 6) := (cK65 _ (zk1 hk61_3)).trans hk61_3
  have hn65_24 : q35 ≠ p0_65 := zne hk61_3 cz65
  have hn65_25 : q35 ≠ tu_65 := zne hk61_3 cz65_1
  have hn65_26 : q35 ≠ to_65 := zne hk61_3 cz65_2
  have hn65_27 : q35 ≠ be_65 := zne hk61_3 cz65_3
  have hn65_28 : q35 ≠ sa_65 := zne hk61_3 cz65_4
  have hn65_29 : q35 ≠ fe_65 := zne hk61_3 cz65_5
  have hn65_30 : q35 ≠ fa_65 := zne hk61_3 cz65_6
  have hn65_31 : q35 ≠ fn_65 := zne hk61_3 cz65_7
  have hk65_4 : K65 q47 = (1, 0) := (cK65 _ (zk1 hk61_4)).trans hk61_4
  have hn65_32 : q47 ≠ p0_65 := zne hk61_4 cz65
  have hn65_33 : q47 ≠ tu_65 := zne hk61_4 cz65_1
  have hn65_34 : q47 ≠ to_65 := zne hk61_4 cz65_2
  have hn65_35 : q47 ≠ be_65 := zne hk61_4 cz65_3
  have hn65_36 : q47 ≠ sa_65 := zne hk61_4 cz65_4
  have hn65_37 : q47 ≠ fe_65 := zne hk61_4 cz65_5
  have hn65_38 : q47 ≠ fa_65 := zne hk61_4 cz65_6
  have hn65_39 : q47 ≠ fn_65 := zne hk61_4 cz65_7
  have hk65_5 : K65 na_54 = (2, 4733) := (cK65 _ (zk1 hk61_5)).trans hk61_5
  have hn65_40 : na_54 ≠ p0_65 := zne hk61_5 cz65
  have hn65_41 : na_54 ≠ tu_65 := zne hk61_5 cz65_1
  have hn65_42 : na_54 ≠ to_65 := zne hk61_5 cz65_2
  have hn65_43 : na_54 ≠ be_65 := zne hk61_5 cz65_3
  have hn65_44 : na_54 ≠ sa_65 := zne hk61_5 cz65_4
  have hn65_45 : na_54 ≠ fe_65 := zne hk61_5 cz65_5
  have hn65_46 : na_54 ≠ fa_65 := zne hk61_5 cz65_6
  have hn65_47 : na_54 ≠ fn_65 := zne hk61_5 cz65_7
  have hk65_6 : K65 q61 = (1, 6) := (cK65 _ (zk1 hk61_6)).trans hk61_6
  have hn65_48 : q61 ≠ p0_65 := zne hk61_6 cz65
  have hn65_49 : q61 ≠ tu_65 := zne hk61_6 cz65_1
  have hn65_50 : q61 ≠ to_65 := zne hk61_6 cz65_2
  have hn65_51 : q61 ≠ be_65 := zne hk61_6 cz65_3
  have hn65_52 : q61 ≠ sa_65 := zne hk61_6 cz65_4
  have hn65_53 : q61 ≠ fe_65 := zne hk61_6 cz65_5
  have hn65_54 : q61 ≠ fa_65 := zne hk61_6 cz65_6
  have hn65_55 : q61 ≠ fn_65 := zne hk61_6 cz65_7
  have hr65 : R65 x 0 = some q7 := by rw [(cX65 _ (zk1 hk61) hn61).2]; exact hr61
  have hr65_1 : R65 x 2 = some q21 := by rw [(cX65 _ (zk1 hk61) hn61).2]; exact hr61_1
  have hr65_2 : R65 x 4 = some q35 := by rw [(cX65 _ (zk1 hk61) hn61).2]; exact hr61_2
  have hr65_3 : R65 q47 0 = some na_54 := by rw [(cX65 _ (zk1 hk61_4) hn61_4).2]; exact hr61_3
  have hr65_4 : R65 x 6 = some q47 := by rw [(cX65 _ (zk1 hk61) hn61).2]; exact hr61_4
  have gK65 : ∀ a, (K a).1 ≠ 0 → K65 a = K a := fun a h9 => (cK65 a (by rw [gK61 a h9]; exact h9)).trans (gK61 a h9)
  have gX65 : ∀ a, (K a).1 ≠ 0 → a ≠ x → X65 a = X a ∧ R65 a = Rf a := fun a h9 hm0 => ⟨(cX65 a (by rw [gK61 a h9]; exact h9) (zfa h9 hz61)).1.trans (gX61 a h9 hm0).1, (cX65 a (by rw [gK61 a h9]; exact h9) (zfa h9 hz61)).2.trans (gX61 a h9 hm0).2⟩
  have hz65 : (K p0_65).1 = 0 := zfz gK61 cz65
  have hz65_1 : (K tu_65).1 = 0 := zfz gK61 cz65_1
  have hz65_2 : (K to_65).1 = 0 := zfz gK61 cz65_2
  have hz65_3 : (K be_65).1 = 0 := zfz gK61 cz65_3
  have hz65_4 : (K sa_65).1 = 0 := zfz gK61 cz65_4
  have hz65_5 : (K fe_65).1 = 0 := zfz gK61 cz65_5
  have hz65_6 : (K fa_65).1 = 0 := zfz gK61 cz65_6
  have hz65_7 : (K fn_65).1 = 0 := zfz gK61 cz65_7
  obtain ⟨⟨pC1, pC2, pC3, pC4, pC5⟩, pC6, pC7, ⟨pC8, pC9, pC10⟩, pC11, ⟨pC12, pC13⟩, pC14, pC15⟩ := cP65
  have ez65_0 : X65 x = X61 x ∧ R65 x = R61 x := cX65 _ (zk1 hk61) hn61
  have ez65_1 : X65 q7 = X61 q7 ∧ R65 q7 = R61 q7 := cX65 _ (zk1 hk61_1) hn61_1
  have ez65_2 : X65 q21 = X61 q21 ∧ R65 q21 = R61 q21 := cX65 _ (zk1 hk61_2) hn61_2
  have ez65_3 : X65 q35 = X61 q35 ∧ R65 q35 = R61 q35 := cX65 _ (zk1 hk61_3) hn61_3
  have ez65_4 : X65 q47 = X61 q47 ∧ R65 q47 = R61 q47 := cX65 _ (zk1 hk61_4) hn61_4
  have ez65_5 : X65 na_54 = X61 na_54 ∧ R65 na_54 = R61 na_54 := cX65 _ (zk1 hk61_5) hn61_5
  refine zputRF (pc := 68) hx hb hG hown hw hk65 (T := TX8) (ty := .object "ZoneCalendar$Work") rfl 7 (by decide) rfl wf_X8_49 rfl (by decide +kernel) rfl rfl rfl hname rfl dX8_init_68 (fun H locs hw => ?_)
  obtain ⟨R68, eR68⟩ : ∃ Y : zR, Y = up2 R65 x 7 (some q61) := ⟨_, rfl⟩
  rw [← eR68] at hw
  have hr68 : R68 x 0 = some q7 := by rw [eR68, up2_k (by first | decide | omega)]; exact hr65
  have hr68_1 : R68 x 2 = some q21 := by rw [eR68, up2_k (by first | decide | omega)]; exact hr65_1
  have hr68_2 : R68 x 4 = some q35 := by rw [eR68, up2_k (by first | decide | omega)]; exact hr65_2
  have hr68_3 : R68 q47 0 = some na_54 := by rw [eR68, up2_a (Ne.symm hn47)]; exact hr65_3
  have hr68_4 : R68 x 6 = some q47 := by rw [eR68, up2_k (by first | decide | omega)]; exact hr65_4
  have hr68_5 : R68 q61 1 = some p0_65 := by rw [eR68, up2_a (Ne.symm hn61)]; exact cr65
  have hr68_6 : R68 q61 5 = some fe_65 := by rw [eR68, up2_a (Ne.symm hn61)]; exact cr65_1
  have hr68_7 : R68 q61 7 = some fa_65 := by rw [eR68, up2_a (Ne.symm hn61)]; exact cr65_2
  have hr68_8 : R68 p0_65 1 = some tu_65 := by rw [eR68, up2_a (Ne.symm hn65)]; exact cr65_3
  have hr68_9 : R68 p0_65 3 = some to_65 := by rw [eR68, up2_a (Ne.symm hn65)]; exact cr65_4
  have hr68_10 : R68 p0_65 4 = some be_65 := by rw [eR68, up2_a (Ne.symm hn65)]; exact cr65_5
  have hr68_11 : R68 p0_65 5 = some sa_65 := by rw [eR68, up2_a (Ne.symm hn65)]; exact cr65_6
  have hr68_12 : R68 fa_65 0 = some fn_65 := by rw [eR68, up2_a (Ne.symm hn65_6)]; exact cr65_7
  have hr68_13 : R68 x 7 = some q61 := by rw [eR68]; exact up2_s
  have gX68 : ∀ a, (K a).1 ≠ 0 → a ≠ x → X65 a = X a ∧ R68 a = Rf a := fun a h9 hm0 => ⟨(gX65 a h9 hm0).1, (by rw [eR68, up2_o hm0] : R68 a = R65 a).trans (gX65 a h9 hm0).2⟩
  exact zretV (pc := 71) hx hb hlocks hr hw (by show 0 + 1 + 1 + 1 + 1 + 1 + 1 + 9 ≤ 20; omega) (by show 0 + 24 + 6 + 6 + 3 + 4733 + 8 + 4200 ≤ 9200; omega) dX8_init_71 ⟨q7, q21, q35, q47, na_54, q61, p0_65, tu_65, to_65, be_65, sa_65, fe_65, fa_65, fn_65, ⟨gK65, gX68⟩, ⟨hz7, hk65_1⟩, ⟨hz21, hk65_2⟩, ⟨hz35, hk65_3⟩, ⟨hz47, hk65_4⟩, ⟨hz54, hk65_5⟩, ⟨hz61, hk65_6⟩, ⟨hz65, ck65⟩, ⟨hz65_1, ck65_1⟩, ⟨hz65_2, ck65_2⟩, ⟨hz65_3, ck65_3⟩, ⟨hz65_4, ck65_4⟩, ⟨hz65_5, ck65_5⟩, ⟨hz65_6, ck65_6⟩, ⟨hz65_7, ck65_7⟩, hr68, hr68_1, hr68_2, hr68_4, hr68_13, hr68_3, hr68_5, hr68_6, hr68_7, hr68_8, hr68_9, hr68_10, hr68_11, hr68_12, (by simp [eR68, eR61, eX61, eK61, eR57, eR47, eX47, eK47, eX43, eR38, eR35, eX35, eK35, eX29, eR24, eR21, eX21, eK21, eX15, eR10, eR7, eX7, eK7, up2, zupX, zupR, hn21, Ne.symm hn21, hn21_1, Ne.symm hn21_1, hn35, Ne.symm hn35, hn35_1, Ne.symm hn35_1, hn35_2, Ne.symm hn35_2, hn47, Ne.symm hn47, hn47_1, Ne.symm hn47_1, hn47_2, Ne.symm hn47_2, hn47_3, Ne.symm hn47_3, hn54, Ne.symm hn54, hn54_1, Ne.symm hn54_1, hn54_2, Ne.symm hn54_2, hn54_3, Ne.symm hn54_3, hn54_4, Ne.symm hn54_4, hn61, Ne.symm hn61, hn61_1, Ne.symm hn61_1, hn61_2, Ne.symm hn61_2, hn61_3, Ne.symm hn61_3, hn61_4, Ne.symm hn61_4, hn61_5, Ne.symm hn61_5, hn65, Ne.symm hn65, hn65_1, Ne.symm hn65_1, hn65_10, Ne.symm hn65_10, hn65_11, Ne.symm hn65_11, hn65_12, Ne.symm hn65_12, hn65_13, Ne.symm hn65_13, hn65_14, Ne.symm hn65_14, hn65_15, Ne.symm hn65_15, hn65_16, Ne.symm hn65_16, hn65_17, Ne.symm hn65_17, hn65_18, Ne.symm hn65_18, hn65_19, Ne.symm hn65_19, hn65_2, Ne.symm hn65_2, hn65_20, Ne.symm hn65_20, hn65_21, Ne.symm hn65_21, hn65_22, Ne.symm hn65_22, hn65_23, Ne.symm hn65_23, hn65_24, Ne.symm hn65_24, hn65_25, Ne.symm hn65_25, hn65_26, Ne.symm hn65_26, hn65_27, Ne.symm hn65_27, hn65_28, Ne.symm hn65_28, hn65_29, Ne.symm hn65_29, hn65_3, Ne.symm hn65_3, hn65_30, Ne.symm hn65_30, hn65_31, Ne.symm hn65_31, hn65_32, Ne.symm hn65_32, hn65_33, Ne.symm hn65_33, hn65_34, Ne.symm hn65_34, hn65_35, Ne.symm hn65_35, hn65_36, Ne.symm hn65_36, hn65_37, Ne.symm hn65_37, hn65_38, Ne.symm hn65_38, hn65_39, Ne.symm hn65_39, hn65_4, Ne.symm hn65_4, hn65_40, Ne.symm hn65_40, hn65_41, Ne.symm hn65_41, hn65_42, Ne.symm hn65_42, hn65_43, Ne.symm hn65_43, hn65_44, Ne.symm hn65_44, hn65_45, Ne.symm hn65_45, hn65_46, Ne.symm hn65_46, hn65_47, Ne.symm hn65_47, hn65_48, Ne.symm hn65_48, hn65_49, Ne.symm hn65_49, hn65_5, Ne.symm hn65_5, hn65_50, Ne.symm hn65_50, hn65_51, Ne.symm hn65_51, hn65_52, Ne.symm hn65_52, hn65_53, Ne.symm hn65_53, hn65_54, Ne.symm hn65_54, hn65_55, Ne.symm hn65_55, hn65_6, Ne.symm hn65_6, hn65_7, Ne.symm hn65_7, hn65_8, Ne.symm hn65_8, hn65_9, Ne.symm hn65_9, hn7, Ne.symm hn7, pB1, pB2, pB3, pC1, pC2, pC3, pC4, pC5, pC6, pC7, pC8, pC9, pC10, pC11, pC12, pC13, pC14, pC15, ez54_0, ez54_1, ez54_2, ez54_3, ez65_0, ez65_1, ez65_2, ez65_3, ez65_4, ez65_5])⟩
