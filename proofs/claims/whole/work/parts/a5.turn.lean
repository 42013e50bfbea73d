set_option maxHeartbeats 4000000 in
set_option maxRecDepth 100000 in
theorem c_X9_find (l : Launch) (Γ : zG) (K : zK) (X : zX) (Rf : zR) (md : Nat) (pl : Int) (lc : Int) (ρ : zL) (M : zM) (hR : repR ρ K X Rf md M) (hM : okM M) (h1 : 0 ≤ pl ∧ pl < M 40 5) (h2 : fit lc) : Ct l yX9_find cX9_find 13 none 88 (min 5 (dlC X Rf md pl.toNat)) (dlC X Rf md pl.toNat) Γ [.ref md, .int (iI pl), .long (lJ lc)] K X Rf (pV (fun (K' : zK) (X' : zX) (R' : zR) => (X' md 12 = shF (savM M pl.toNat) (M 6 pl.toNat) lc ∧ X' md 13 = shL (savM M pl.toNat) (M 6 pl.toNat) lc ∧ X' md 14 = shN (savM M pl.toNat) (M 6 pl.toNat) lc ∧ X' md 15 = psF (savM M pl.toNat) (M 6 pl.toNat) lc) ∧ ∃ ρ', (repR ρ' K' X' R' md M ∧ frR ρ K X Rf ρ' K' X' R' ∧ (∀ q, q = 0 ∨ q = 36 → X' md q = X md q)) ∧ (lsR X Rf X' R' md ∧ dlC X' R' md pl.toNat = 0) ∧ ∀ a, (K a).1 ≠ 0 → 3000 ≤ ρ a → X' a = X a)) := by
  refine Ct.of (by decide +kernel) (Nat.le_of_ble_eq_true rfl) ?_
  intro p e s m below meth c ls hx hb hr hml hown hG hlocks hname hw hl
  have hl : lv_has ls 13 [(0, .ref md), (1, .int (iI pl)), (2, .long (lJ lc))] := hl
  obtain ⟨hmd, hlmd⟩ := id hR.1
  obtain ⟨⟨hb1, hb2, hb3, hb4⟩, hokP, hokL, hokS, hokW, hokF⟩ := id hM
  have hq1 : X md 1 = M 40 1 := hR.2.1 1 rfl
  have hq5 : X md 5 = M 40 5 := hR.2.1 5 rfl
  have hq16 : X md 16 = M 40 16 := hR.2.1 16 rfl
  have hq25 : X md 25 = M 40 25 := hR.2.1 25 rfl
  have hq26 : X md 26 = M 40 26 := hR.2.1 26 rfl
  have hq27 : X md 27 = M 40 27 := hR.2.1 27 rfl
  have hq28 : X md 28 = M 40 28 := hR.2.1 28 rfl
  have hq29 : X md 29 = M 40 29 := hR.2.1 29 rfl
  have hNle := evNM_le hM (p := pl.toNat) (by omega)
  have hb6 := (hokL pl.toNat (by omega)).1
  refine lv_aload_n (pc := 0) hx hb dX9_find_0 rfl (lv_at hl 0 rfl) ?_
  refine lv_iload_n (pc := 1) hx hb dX9_find_1 rfl (lv_at hl 1 rfl) ?_
  refine zkV (pc := 2) (zrV (As := [.int (iI pl)]) hx hb hml hown hG hw (c_X9_lay l Γ K X Rf md pl (ρ) M (by (first | assumption | omega)) (by (first | assumption | omega)) (by (first | assumption | omega))) (T := TX9) hmd rfl cb_X9_lay wl_X9_185 rfl ⟨Nat.le_of_ble_eq_true rfl, Nat.le_of_ble_eq_true rfl⟩ hl.1 rfl (Nat.le_of_ble_eq_true rfl) dX9_find_2 ⟨(by show 0 + (min 5 (dlC X Rf md pl.toNat)) ≤ (min 5 (dlC X Rf md pl.toNat)); omega), (by show 0 + (dlC X Rf md pl.toNat) ≤ (dlC X Rf md pl.toNat); omega)⟩) hw (fun K2 X2 R2 H locs hp2 hw => ?_)
  obtain ⟨ρ2, ⟨hR2, hg2, hz2⟩, ⟨hs2, hd2⟩, hy2⟩ := hp2
  obtain ⟨hmd2, hlm2⟩ := id hR2.1
  obtain ⟨b6_2, hB6_2, hA6_2, hL6_2, hD6_2⟩ : ∃ a, R2 md 6 = some a ∧ K2 a = (2, 6) ∧ ρ2 a = 2007 ∧ X2 a = M 6 := hR2.fd 6 (by decide) rfl
  obtain ⟨b9_2, hB9_2, hA9_2, hL9_2⟩ : ∃ a, R2 md 9 = some a ∧ K2 a = (2, 6) ∧ ρ2 a = 2010 := hR2.ff 9 (by decide)
  obtain ⟨b10_2, hB10_2, hA10_2, hL10_2⟩ : ∃ a, R2 md 10 = some a ∧ K2 a = (11, 6) ∧ ρ2 a = 2011 := hR2.ff 10 (by decide)
  obtain ⟨b11_2, hB11_2, hA11_2, hL11_2⟩ : ∃ a, R2 md 11 = some a ∧ K2 a = (11, 6) ∧ ρ2 a = 2012 := hR2.ff 11 (by decide)
  obtain ⟨hv9, mo, sv, ⟨hrm, hrs⟩, ⟨hkm, hks⟩, hvm, hvs⟩ := hR2.plc hB9_2 hB10_2 hB11_2 (p := pl.toNat) (by omega) (by omega) hd2
  refine lv_aload_n (pc := 5) hx hb dX9_find_5 rfl (lv_at hl 0 rfl) ?_
  refine ziconst (pc := 6) (n := (-1)) hx hb dX9_find_6 ?_
  refine zputI (pc := 7) hx hb hG hown hw hmd2 (T := TX9) rfl 12 (by decide) rfl wf_X9_204 rfl (by decide +kernel) rfl dX9_find_7 (fun H locs hw => ?_)
  obtain ⟨X7, eX7⟩ : ∃ Y : zX, Y = up2 X2 md 12 (-1) := ⟨_, rfl⟩
  rw [← eX7] at hw
  refine lv_aload_n (pc := 10) hx hb dX9_find_10 rfl (lv_at hl 0 rfl) ?_
  refine ziconst (pc := 11) (n := (-1)) hx hb dX9_find_11 ?_
  refine zputI (pc := 12) hx hb hG hown hw hmd2 (T := TX9) rfl 13 (by decide) rfl wf_X9_207 rfl (by decide +kernel) rfl dX9_find_12 (fun H locs hw => ?_)
  obtain ⟨X12, eX12⟩ : ∃ Y : zX, Y = up2 X7 md 13 (-1) := ⟨_, rfl⟩
  rw [← eX12] at hw
  refine lv_aload_n (pc := 15) hx hb dX9_find_15 rfl (lv_at hl 0 rfl) ?_
  refine ziconst (pc := 16) (n := 0) hx hb dX9_find_16 ?_
  refine zputI (pc := 17) hx hb hG hown hw hmd2 (T := TX9) rfl 14 (by decide) rfl wf_X9_210 rfl (by decide +kernel) rfl dX9_find_17 (fun H locs hw => ?_)
  obtain ⟨X17, eX17⟩ : ∃ Y : zX, Y = up2 X12 md 14 0 := ⟨_, rfl⟩
  rw [← eX17] at hw
  refine lv_aload_n (pc := 20) hx hb dX9_find_20 rfl (lv_at hl 0 rfl) ?_
  refine ziconst (pc := 21) (n := (-1)) hx hb dX9_find_21 ?_
  refine zputI (pc := 22) hx hb hG hown hw hmd2 (T := TX9) rfl 15 (by decide) rfl wf_X9_213 rfl (by decide +kernel) rfl dX9_find_22 (fun H locs hw => ?_)
  obtain ⟨X22, eX22⟩ : ∃ Y : zX, Y = up2 X17 md 15 (-1) := ⟨_, rfl⟩
  rw [← eX22] at hw
  refine ziconst (pc := 25) (n := 0) hx hb dX9_find_25 ?_
  refine lv_istore (pc := 26) (lv' := [(4, .int (iI 0)), (0, .ref md), (1, .int (iI pl)), (2, .long (lJ lc))]) hx hb dX9_find_26 hl (by decide) rfl (fun ls hl => ?_)
  have lp28 : ∀ (n28 : Nat) (kk : Int) (XL28 : zX) (H : Heap) (locs : List Loc), (hi : 0 ≤ kk ∧ kk ≤ (evNM M pl.toNat) + 1) → (hfd : fdS M pl.toNat (M 6 pl.toNat) lc (qM M pl.toNat kk.toNat) (XL28 md 12) (XL28 md 13) (XL28 md 14) (XL28 md 15)) → (ho : ∀ b, b ≠ md → XL28 b = X2 b) → (hq : ∀ q, q ≠ 12 → q ≠ 13 → q ≠ 14 → q ≠ 15 → XL28 md q = X2 md q) → (((evNM M pl.toNat) + 1 - kk).toNat < n28) → Wd Γ (zA K s.heap.size) K2 XL28 R2 s H locs → ∀ ls : Array Slot, lv_has ls 13 [(4, .int (iI kk)), (0, .ref md), (1, .int (iI pl)), (2, .long (lJ lc))] → W p l e (rmL 88 (min 5 (dlC X Rf md pl.toNat)) (dlC X Rf md pl.toNat)) s m ([.ref md, .int (iI pl), .long (lJ lc)] : List Value).toArray below meth c H locs (0 + (min 5 (dlC X Rf md pl.toNat))) (0 + (dlC X Rf md pl.toNat)) (MQ below (zQ Γ K s.heap.size (pV (fun (K' : zK) (X' : zX) (R' : zR) => (X' md 12 = shF (savM M pl.toNat) (M 6 pl.toNat) lc ∧ X' md 13 = shL (savM M pl.toNat) (M 6 pl.toNat) lc ∧ X' md 14 = shN (savM M pl.toNat) (M 6 pl.toNat) lc ∧ X' md 15 = psF (savM M pl.toNat) (M 6 pl.toNat) lc) ∧ ∃ ρ', (repR ρ' K' X' R' md M ∧ frR ρ K X Rf ρ' K' X' R' ∧ (∀ q, q = 0 ∨ q = 36 → X' md q = X md q)) ∧ (lsR X Rf X' R' md ∧ dlC X' R' md pl.toNat = 0) ∧ ∀ a, (K a).1 ≠ 0 → 3000 ≤ ρ a → X' a = X a))) ([.ref md, .int (iI pl), .long (lJ lc)] : List Value).toArray s (min 5 (dlC X Rf md pl.toNat)) (dlC X Rf md pl.toNat) (zA K s.heap.size)) (F0 m 28 ls []) := by
    intro n28
    induction n28 with
    | zero => intro kk XL28 H locs hi hfd ho hq hm28; exact absurd hm28 (Nat.not_lt_zero _)
    | succ n28 ih28 =>
      intro kk XL28 H locs hi hfd ho hq hm28 hw ls hl
      have hRL := hR2.ow ho (fun q g => hq q (by rintro rfl; rcases g with g | g; (exact absurd g (by decide)); exact absurd g (by decide)) (by rintro rfl; rcases g with g | g; (exact absurd g (by decide)); exact absurd g (by decide)) (by rintro rfl; rcases g with g | g; (exact absurd g (by decide)); exact absurd g (by decide)) (by rintro rfl; rcases g with g | g; (exact absurd g (by decide)); exact absurd g (by decide)))
      have hRL1 := hRL.1
      have hlaL : dlC XL28 R2 md pl.toNat = 0 := by have h9 := hRL.2.2.1 pl.toNat; omega
      have hmoL : XL28 mo = X2 mo := ho mo (zkn2 hkm hmd2 (by simp))
      have hsvL : XL28 sv = X2 sv := ho sv (zkn2 hks hmd2 (by simp))
      have h9L : XL28 b9_2 pl.toNat = evNM M pl.toNat := by rw [ho b9_2 (zkn2 hA9_2 hmd2 (by simp))]; exact hv9
      have h6L : XL28 b6_2 pl.toNat = M 6 pl.toNat := by rw [ho b6_2 (zkn2 hA6_2 hmd2 (by simp)), hD6_2]
      refine lv_iload (pc := 28) hx hb dX9_find_28 (lv_at hl 0 rfl) ?_
      refine lv_aload_n (pc := 30) hx hb dX9_find_30 rfl (lv_at hl 1 rfl) ?_
      refine zgetR (pc := 31) hx hb hG hown hw hmd2 (T := TX9) rfl 9 (by decide) rfl wf_X9_28 rfl hB9_2 dX9_find_31 ?_
      refine lv_iload_n (pc := 34) hx hb dX9_find_34 rfl (lv_at hl 2 rfl) ?_
      refine zald (pc := 35) hx hb hw hA9_2 ⟨by omega, by omega⟩ (by omega) dX9_find_35 ?_
      refine zicmp_gt (pc := 36) hx hb 242 (by omega) (by omega) dX9_find_36 (by decide) (fun c36 => ?_) (fun c36 => ?_)
      · skip
        exact zretV (pc := 242) hx hb hlocks hr hw (by show 0 + (min 5 (dlC X Rf md pl.toNat)) ≤ (min 5 (dlC X Rf md pl.toNat)); omega) (by show 0 + (dlC X Rf md pl.toNat) ≤ (dlC X Rf md pl.toNat); omega) dX9_find_242 (by have e9 : kk.toNat = (evNM M pl.toNat) + 1 := (by omega); rw [e9, qM_end] at hfd; exact ⟨fd_end hfd, ρ2, ⟨hRL.1, hg2.trans hRL.2.1, fun q g => by rw [hq q (by omega) (by omega) (by omega) (by omega)]; exact hz2 q g⟩, ⟨hs2.trans hRL.2.2, hlaL⟩, fun b h8 h9 => by rw [ho b (fun g => by rw [g, hlmd] at h9; omega)]; exact hy2 b h8 h9⟩)
      · skip
        have jn66_0 : ∀ (fr : Int) (H : Heap) (locs : List Loc), (hfr : fr = if kk.toNat = 0 then 0 else max 0 (evMo M pl.toNat (kk.toNat - 1))) → Wd Γ (zA K s.heap.size) K2 XL28 R2 s H locs → ∀ ls : Array Slot, lv_has ls 13 [(4, .int (iI kk)), (0, .ref md), (1, .int (iI pl)), (2, .long (lJ lc)), (5, .long (lJ fr))] → W p l e (rmL 88 (min 5 (dlC X Rf md pl.toNat)) (dlC X Rf md pl.toNat)) s m ([.ref md, .int (iI pl), .long (lJ lc)] : List Value).toArray below meth c H locs (0 + (min 5 (dlC X Rf md pl.toNat))) (0 + (dlC X Rf md pl.toNat)) (MQ below (zQ Γ K s.heap.size (pV (fun (K' : zK) (X' : zX) (R' : zR) => (X' md 12 = shF (savM M pl.toNat) (M 6 pl.toNat) lc ∧ X' md 13 = shL (savM M pl.toNat) (M 6 pl.toNat) lc ∧ X' md 14 = shN (savM M pl.toNat) (M 6 pl.toNat) lc ∧ X' md 15 = psF (savM M pl.toNat) (M 6 pl.toNat) lc) ∧ ∃ ρ', (repR ρ' K' X' R' md M ∧ frR ρ K X Rf ρ' K' X' R' ∧ (∀ q, q = 0 ∨ q = 36 → X' md q = X md q)) ∧ (lsR X Rf X' R' md ∧ dlC X' R' md pl.toNat = 0) ∧ ∀ a, (K a).1 ≠ 0 → 3000 ≤ ρ a → X' a = X a))) ([.ref md, .int (iI pl), .long (lJ lc)] : List Value).toArray s (min 5 (dlC X Rf md pl.toNat)) (dlC X Rf md pl.toNat) (zA K s.heap.size)) (F0 m 66 ls []) := by
          intro fr H locs hfr hw ls hl
          have hfr2 : 0 ≤ fr ∧ fr ≤ 105200000 := by
            rw [hfr]
            by_cases g : kk.toNat = 0
            · rw [if_pos g]; omega
            · rw [if_neg g]; have h9 := evMo_rng hM (p := pl.toNat) (by omega) (k := kk.toNat - 1) (by omega); omega
          have jn103_1 : ∀ (to9 : Int) (H : Heap) (locs : List Loc), (hto : to9 = if kk.toNat = (evNM M pl.toNat) then 105190559 else min 105190559 (evMo M pl.toNat kk.toNat - 1)) → Wd Γ (zA K s.heap.size) K2 XL28 R2 s H locs → ∀ ls : Array Slot, lv_has ls 13 [(4, .int (iI kk)), (0, .ref md), (1, .int (iI pl)), (2, .long (lJ lc)), (5, .long (lJ fr)), (7, .long (lJ to9))] → W p l e (rmL 88 (min 5 (dlC X Rf md pl.toNat)) (dlC X Rf md pl.toNat)) s m ([.ref md, .int (iI pl), .long (lJ lc)] : List Value).toArray below meth c H locs (0 + (min 5 (dlC X Rf md pl.toNat))) (0 + (dlC X Rf md pl.toNat)) (MQ below (zQ Γ K s.heap.size (pV (fun (K' : zK) (X' : zX) (R' : zR) => (X' md 12 = shF (savM M pl.toNat) (M 6 pl.toNat) lc ∧ X' md 13 = shL (savM M pl.toNat) (M 6 pl.toNat) lc ∧ X' md 14 = shN (savM M pl.toNat) (M 6 pl.toNat) lc ∧ X' md 15 = psF (savM M pl.toNat) (M 6 pl.toNat) lc) ∧ ∃ ρ', (repR ρ' K' X' R' md M ∧ frR ρ K X Rf ρ' K' X' R' ∧ (∀ q, q = 0 ∨ q = 36 → X' md q = X md q)) ∧ (lsR X Rf X' R' md ∧ dlC X' R' md pl.toNat = 0) ∧ ∀ a, (K a).1 ≠ 0 → 3000 ≤ ρ a → X' a = X a))) ([.ref md, .int (iI pl), .long (lJ lc)] : List Value).toArray s (min 5 (dlC X Rf md pl.toNat)) (dlC X Rf md pl.toNat) (zA K s.heap.size)) (F0 m 103 ls []) := by
            intro to9 H locs hto hw ls hl
            have hft := ft_rel (M := M) (p := pl.toNat) (k := kk.toNat) (by omega) hfr hto
            have hto2 : -2147483649 ≤ to9 ∧ to9 ≤ 105190559 := by
              rw [hto]
              by_cases g : kk.toNat = (evNM M pl.toNat)
              · rw [if_pos g]; omega
              · rw [if_neg g]; have h9 := evMo_rng hM (p := pl.toNat) (by omega) (k := kk.toNat) (by omega); omega
            clear hfr hto
            refine lv_lload (pc := 103) hx hb dX9_find_103 (lv_at hl 4 rfl) ?_
            refine lv_lload (pc := 105) hx hb dX9_find_105 (lv_at hl 5 rfl) ?_
            refine zlcmp (pc := 107) hx hb ⟨by omega, by omega⟩ dX9_find_107 (fun r107 hr107 => ?_)
            refine zif_le (pc := 108) hx hb 114 (lcm_fit hr107) dX9_find_108 (by decide) (fun c108 => ?_) (fun c108 => ?_)
            · skip
              replace c108 := lcm_le hr107 c108
              clear hr107
              have hin := hft.1 (by omega)
              clear hft
              have hfg := fdS_rng hfd (qM_rng (M := M) (p := pl.toNat) kk.toNat).1
              have hqr0 := qM_rng (M := M) (p := pl.toNat) kk.toNat
              have hes := evSv_rng hM (p := pl.toNat) (by omega) (k := kk.toNat) (by omega)
              have hqr := qM_rng (M := M) (p := pl.toNat) (kk.toNat + 1)
              refine lv_aload_n (pc := 114) hx hb dX9_find_114 rfl (lv_at hl 1 rfl) ?_
              refine zgetR (pc := 115) hx hb hG hown hw hmd2 (T := TX9) rfl 6 (by decide) rfl wf_X9_19 rfl hB6_2 dX9_find_115 ?_
              refine lv_iload_n (pc := 118) hx hb dX9_find_118 rfl (lv_at hl 2 rfl) ?_
              refine zald (pc := 119) hx hb hw hA6_2 ⟨by omega, by omega⟩ (by omega) dX9_find_119 ?_
              refine lv_aload_n (pc := 120) hx hb dX9_find_120 rfl (lv_at hl 1 rfl) ?_
              refine lv_iload_n (pc := 121) hx hb dX9_find_121 rfl (lv_at hl 2 rfl) ?_
              refine lv_iload (pc := 122) hx hb dX9_find_122 (lv_at hl 0 rfl) ?_
              refine zkIp (pc := 124) (zrV (As := [.int (iI pl), .int (iI kk)]) hx hb hml hown hG hw (c_X9_savingBehind l Γ K2 XL28 R2 md pl kk b11_2 sv (evNM M pl.toNat) (by (first | assumption | omega)) (by (first | assumption | omega)) (by (first | assumption | omega)) (by (first | assumption | omega)) (by (first | assumption | omega)) (by (first | assumption | omega))) (T := TX9) hmd2 rfl cb_X9_savingBehind wl_X9_192 rfl ⟨Nat.le_of_ble_eq_true rfl, Nat.le_of_ble_eq_true rfl⟩ hl.1 rfl (Nat.le_of_ble_eq_true rfl) dX9_find_124 ⟨(by show 0 + (min 5 (dlC X Rf md pl.toNat)) + 0 ≤ (min 5 (dlC X Rf md pl.toNat)); omega), (by show 0 + (dlC X Rf md pl.toNat) + 0 ≤ (dlC X Rf md pl.toNat); omega)⟩) hw (fun r124 H locs hp124 hw => ?_)
              subst hp124
              have hsb := svb_eq (z := kk) (G := XL28 sv) (fun k hk => by rw [hsvL]; exact hvs k hk) ⟨by omega, by omega⟩
              refine zadd (pc := 127) hx hb dX9_find_127 ?_
              refine zi2l (pc := 128) hx hb (by omega) dX9_find_128 ?_
              refine ztopL (fun x129 ex129 => ?_)
              refine lv_lstore (pc := 129) (lv' := [(9, .long (lJ x129)), (4, .int (iI kk)), (0, .ref md), (1, .int (iI pl)), (2, .long (lJ lc)), (5, .long (lJ fr)), (7, .long (lJ to9))]) hx hb dX9_find_129 hl (by decide) rfl (fun ls hl => ?_)
              have jn179_2 : ∀  (Xjn179_2 : zX) (H : Heap) (locs : List Loc), (hskJ : Xjn179_2 md 15 = skN M pl.toNat (M 6 pl.toNat) lc fr ((M 6 pl.toNat) + evSv M pl.toNat kk.toNat) (XL28 md 15)) → (hoJ0 : ∀ b, b ≠ md → Xjn179_2 b = XL28 b) → (hqJ0 : ∀ q, q ≠ 15 → Xjn179_2 md q = XL28 md q) → Wd Γ (zA K s.heap.size) K2 Xjn179_2 R2 s H locs → ∀ ls : Array Slot, lv_has ls 13 [(9, .long (lJ x129)), (4, .int (iI kk)), (0, .ref md), (1, .int (iI pl)), (2, .long (lJ lc)), (5, .long (lJ fr)), (7, .long (lJ to9))] → W p l e (rmL 88 (min 5 (dlC X Rf md pl.toNat)) (dlC X Rf md pl.toNat)) s m ([.ref md, .int (iI pl), .long (lJ lc)] : List Value).toArray below meth c H locs (0 + (min 5 (dlC X Rf md pl.toNat))) (0 + (dlC X Rf md pl.toNat)) (MQ below (zQ Γ K s.heap.size (pV (fun (K' : zK) (X' : zX) (R' : zR) => (X' md 12 = shF (savM M pl.toNat) (M 6 pl.toNat) lc ∧ X' md 13 = shL (savM M pl.toNat) (M 6 pl.toNat) lc ∧ X' md 14 = shN (savM M pl.toNat) (M 6 pl.toNat) lc ∧ X' md 15 = psF (savM M pl.toNat) (M 6 pl.toNat) lc) ∧ ∃ ρ', (repR ρ' K' X' R' md M ∧ frR ρ K X Rf ρ' K' X' R' ∧ (∀ q, q = 0 ∨ q = 36 → X' md q = X md q)) ∧ (lsR X Rf X' R' md ∧ dlC X' R' md pl.toNat = 0) ∧ ∀ a, (K a).1 ≠ 0 → 3000 ≤ ρ a → X' a = X a))) ([.ref md, .int (iI pl), .long (lJ lc)] : List Value).toArray s (min 5 (dlC X Rf md pl.toNat)) (dlC X Rf md pl.toNat) (zA K s.heap.size)) (F0 m 179 ls []) := by
                intro Xjn179_2 H locs hskJ hoJ0 hqJ0 hw ls hl
                have hj12 := hqJ0 12 (by decide)
                have hj14 := hqJ0 14 (by decide)
                have hoJ : ∀ b, b ≠ md → Xjn179_2 b = X2 b := fun b hb => by rw [hoJ0 b hb]; exact ho b hb
                have hqJ : ∀ q, q ≠ 12 → q ≠ 13 → q ≠ 14 → q ≠ 15 → Xjn179_2 md q = X2 md q := fun q g1 g2 g3 g4 => by rw [hqJ0 q g4]; exact hq q g1 g2 g3 g4
                refine lv_lload_n (pc := 179) hx hb dX9_find_179 rfl (lv_at hl 4 rfl) ?_
                refine lv_lload (pc := 180) hx hb dX9_find_180 (lv_at hl 0 rfl) ?_
                refine zlsub (pc := 182) hx hb dX9_find_182 ?_
                refine ztopL (fun x183 ex183 => ?_)
                refine lv_lstore (pc := 183) (lv' := [(11, .long (lJ x183)), (9, .long (lJ x129)), (4, .int (iI kk)), (0, .ref md), (1, .int (iI pl)), (2, .long (lJ lc)), (5, .long (lJ fr)), (7, .long (lJ to9))]) hx hb dX9_find_183 hl (by decide) rfl (fun ls hl => ?_)
                refine lv_lload (pc := 185) hx hb dX9_find_185 (lv_at hl 0 rfl) ?_
                refine lv_lload (pc := 187) hx hb dX9_find_187 (lv_at hl 6 rfl) ?_
                refine zlcmp (pc := 189) hx hb ⟨by omega, by omega⟩ dX9_find_189 (fun r189 hr189 => ?_)
                refine zif_lt (pc := 190) hx hb 236 (lcm_fit hr189) dX9_find_190 (by decide) (fun c190 => ?_) (fun c190 => ?_)
                · skip
                  replace c190 := lcm_lt hr189 c190
                  clear hr189
                  have hfdO : fdS M pl.toNat (M 6 pl.toNat) lc (qM M pl.toNat (kk.toNat + 1)) (Xjn179_2 md 12) (Xjn179_2 md 13) (Xjn179_2 md 14) (Xjn179_2 md 15) := by
                    have h15 := hskJ
                    rw [hqJ0 12 (by decide), hqJ0 13 (by decide), hqJ0 14 (by decide)]
                    exact fd_out (by rw [← hin.1] at hfd; exact hfd) (by omega) hin.1 rfl (by omega) rfl (fun g => by omega) h15
                  refine ziinc (pc := 236) (lv' := [(4, .int (iI (kk + 1))), (11, .long (lJ x183)), (9, .long (lJ x129)), (0, .ref md), (1, .int (iI pl)), (2, .long (lJ lc)), (5, .long (lJ fr)), (7, .long (lJ to9))]) hx hb 2 dX9_find_236 hl rfl (by decide) rfl (fun ls hl => ?_)
                  obtain ⟨x236, ex236⟩ : ∃ zz : Int, zz = (kk + 1) := ⟨_, rfl⟩
                  rw [← ex236] at hl
                  refine lv_goto (pc := 239) (tgt := 28) hx hb dX9_find_239 (by decide) ?_
                  exact ih28 x236 Xjn179_2 _ _ (by omega) (by rw [show x236.toNat = kk.toNat + 1 by omega]; first | exact fd_same hfd (hft.2 (by omega)) | exact hfdO | exact hfdI) (by first | exact ho | exact hoJ | exact hoI) (by first | exact hq | exact hqJ | exact hqI) (by omega) hw _ (lv_sub hl [0, 3, 4, 5] rfl)
                · skip
                  replace c190 := lcm_ge hr189 c190
                  clear hr189
                  refine lv_lload (pc := 193) hx hb dX9_find_193 (lv_at hl 0 rfl) ?_
                  refine lv_lload (pc := 195) hx hb dX9_find_195 (lv_at hl 7 rfl) ?_
                  refine zlcmp (pc := 197) hx hb ⟨by omega, by omega⟩ dX9_find_197 (fun r197 hr197 => ?_)
                  refine zif_le (pc := 198) hx hb 204 (lcm_fit hr197) dX9_find_198 (by decide) (fun c198 => ?_) (fun c198 => ?_)
                  · skip
                    replace c198 := lcm_le hr197 c198
                    clear hr197
                    refine lv_aload_n (pc := 204) hx hb dX9_find_204 rfl (lv_at hl 3 rfl) ?_
                    refine zgetI (pc := 205) hx hb hG hown hw hmd2 (T := TX9) rfl 12 (by decide) rfl wf_X9_204 rfl dX9_find_205 ?_
                    refine ziconst (pc := 208) (n := (-1)) hx hb dX9_find_208 ?_
                    refine zicmp_ne (pc := 209) hx hb 219 (by omega) (by omega) dX9_find_209 (by decide) (fun c209 => ?_) (fun c209 => ?_)
                    · skip
                      refine lv_aload_n (pc := 219) hx hb dX9_find_219 rfl (lv_at hl 3 rfl) ?_
                      refine lv_lload (pc := 220) hx hb dX9_find_220 (lv_at hl 0 rfl) ?_
                      refine zl2i (pc := 222) hx hb dX9_find_222 ?_
                      refine zputI (pc := 223) hx hb hG hown hw hmd2 (T := TX9) rfl 13 (by decide) rfl wf_X9_207 rfl (by decide +kernel) rfl dX9_find_223 (fun H locs hw => ?_)
                      obtain ⟨X223, eX223⟩ : ∃ Y : zX, Y = up2 Xjn179_2 md 13 x183 := ⟨_, rfl⟩
                      rw [← eX223] at hw
                      refine lv_aload_n (pc := 226) hx hb dX9_find_226 rfl (lv_at hl 3 rfl) ?_
                      refine lv_dup (pc := 227) hx hb dX9_find_227 rfl ?_
                      refine zgetI (pc := 228) hx hb hG hown hw hmd2 (T := TX9) rfl 14 (by decide) rfl wf_X9_210 rfl dX9_find_228 ?_
                      refine ziconst (pc := 231) (n := 1) hx hb dX9_find_231 ?_
                      refine zadd (pc := 232) hx hb dX9_find_232 ?_
                      refine zputI (pc := 233) hx hb hG hown hw hmd2 (T := TX9) rfl 14 (by decide) rfl wf_X9_210 rfl (by decide +kernel) rfl dX9_find_233 (fun H locs hw => ?_)
                      obtain ⟨X233, eX233⟩ : ∃ Y : zX, Y = up2 X223 md 14 ((X223 md 14) + 1) := ⟨_, rfl⟩
                      rw [← eX233] at hw
                      have hoI : ∀ b, b ≠ md → X233 b = X2 b := fun b hb => by
                        first
                        | (rw [eX233, up2_o hb, eX223, up2_o hb, eX216, up2_o hb]; exact hoJ b hb)
                        | (rw [eX233, up2_o hb, eX223, up2_o hb]; exact hoJ b hb)
                      have hqI : ∀ q, q ≠ 12 → q ≠ 13 → q ≠ 14 → q ≠ 15 → X233 md q = X2 md q := fun q g1 g2 g3 g4 => by
                        first
                        | (rw [eX233, up2_k g3, eX223, up2_k g2, eX216, up2_k g1]; exact hqJ q g1 g2 g3 g4)
                        | (rw [eX233, up2_k g3, eX223, up2_k g2]; exact hqJ q g1 g2 g3 g4)
                      have hfdI : fdS M pl.toNat (M 6 pl.toNat) lc (qM M pl.toNat (kk.toNat + 1)) (X233 md 12) (X233 md 13) (X233 md 14) (X233 md 15) := by
                        have h15 := hskJ
                        have i12 := hqJ0 12 (by decide)
                        have i14 := hqJ0 14 (by decide)
                        have j15 : X233 md 15 = Xjn179_2 md 15 := by
                          first
                          | (rw [eX233, up2_k (by decide), eX223, up2_k (by decide), eX216, up2_k (by decide)]; done)
                          | (rw [eX233, up2_k (by decide), eX223, up2_k (by decide)]; done)
                        rw [j15]
                        refine fd_in (by rw [← hin.1] at hfd; exact hfd) (by omega) hin.1 rfl (by omega) rfl ⟨by omega, by omega⟩ h15 ?_ ?_ ?_
                        · first
                          | (rw [eX233, up2_k (by decide), eX223, up2_k (by decide), eX216, up2_s, if_pos (by omega)]; omega)
                          | (rw [eX233, up2_k (by decide), eX223, up2_k (by decide), if_neg (by omega)]; exact i12)
                        · rw [eX233, up2_k (by decide), eX223, up2_s]; omega
                        · first
                          | (rw [eX233, up2_s, eX223, up2_k (by decide), eX216, up2_k (by decide), i14]; done)
                          | (rw [eX233, up2_s, eX223, up2_k (by decide), i14]; done)
                      refine ziinc (pc := 236) (lv' := [(4, .int (iI (kk + 1))), (11, .long (lJ x183)), (9, .long (lJ x129)), (0, .ref md), (1, .int (iI pl)), (2, .long (lJ lc)), (5, .long (lJ fr)), (7, .long (lJ to9))]) hx hb 2 dX9_find_236 hl rfl (by decide) rfl (fun ls hl => ?_)
                      obtain ⟨x236, ex236⟩ : ∃ zz : Int, zz = (kk + 1) := ⟨_, rfl⟩
                      rw [← ex236] at hl
                      refine lv_goto (pc := 239) (tgt := 28) hx hb dX9_find_239 (by decide) ?_
                      exact ih28 x236 X233 _ _ (by omega) (by rw [show x236.toNat = kk.toNat + 1 by omega]; first | exact fd_same hfd (hft.2 (by omega)) | exact hfdO | exact hfdI) (by first | exact ho | exact hoJ | exact hoI) (by first | exact hq | exact hqJ | exact hqI) (by omega) hw _ (lv_sub hl [0, 3, 4, 5] rfl)
                    · skip
                      refine lv_aload_n (pc := 212) hx hb dX9_find_212 rfl (lv_at hl 3 rfl) ?_
                      refine lv_lload (pc := 213) hx hb dX9_find_213 (lv_at hl 0 rfl) ?_
                      refine zl2i (pc := 215) hx hb dX9_find_215 ?_
                      refine zputI (pc := 216) hx hb hG hown hw hmd2 (T := TX9) rfl 12 (by decide) rfl wf_X9_204 rfl (by decide +kernel) rfl dX9_find_216 (fun H locs hw => ?_)
                      obtain ⟨X216, eX216⟩ : ∃ Y : zX, Y = up2 Xjn179_2 md 12 x183 := ⟨_, rfl⟩
                      rw [← eX216] at hw
                      refine lv_aload_n (pc := 219) hx hb dX9_find_219 rfl (lv_at hl 3 rfl) ?_
                      refine lv_lload (pc := 220) hx hb dX9_find_220 (lv_at hl 0 rfl) ?_
                      refine zl2i (pc := 222) hx hb dX9_find_222 ?_
                      refine zputI (pc := 223) hx hb hG hown hw hmd2 (T := TX9) rfl 13 (by decide) rfl wf_X9_207 rfl (by decide +kernel) rfl dX9_find_223 (fun H locs hw => ?_)
                      obtain ⟨X223, eX223⟩ : ∃ Y : zX, Y = up2 X216 md 13 x183 := ⟨_, rfl⟩
                      rw [← eX223] at hw
                      refine lv_aload_n (pc := 226) hx hb dX9_find_226 rfl (lv_at hl 3 rfl) ?_
                      refine lv_dup (pc := 227) hx hb dX9_find_227 rfl ?_
                      refine zgetI (pc := 228) hx hb hG hown hw hmd2 (T := TX9) rfl 14 (by decide) rfl wf_X9_210 rfl dX9_find_228 ?_
                      refine ziconst (pc := 231) (n := 1) hx hb dX9_find_231 ?_
                      refine zadd (pc := 232) hx hb dX9_find_232 ?_
                      refine zputI (pc := 233) hx hb hG hown hw hmd2 (T := TX9) rfl 14 (by decide) rfl wf_X9_210 rfl (by decide +kernel) rfl dX9_find_233 (fun H locs hw => ?_)
                      obtain ⟨X233, eX233⟩ : ∃ Y : zX, Y = up2 X223 md 14 ((X223 md 14) + 1) := ⟨_, rfl⟩
                      rw [← eX233] at hw
                      have hoI : ∀ b, b ≠ md → X233 b = X2 b := fun b hb => by
                        first
                        | (rw [eX233, up2_o hb, eX223, up2_o hb, eX216, up2_o hb]; exact hoJ b hb)
                        | (rw [eX233, up2_o hb, eX223, up2_o hb]; exact hoJ b hb)
                      have hqI : ∀ q, q ≠ 12 → q ≠ 13 → q ≠ 14 → q ≠ 15 → X233 md q = X2 md q := fun q g1 g2 g3 g4 => by
                        first
                        | (rw [eX233, up2_k g3, eX223, up2_k g2, eX216, up2_k g1]; exact hqJ q g1 g2 g3 g4)
                        | (rw [eX233, up2_k g3, eX223, up2_k g2]; exact hqJ q g1 g2 g3 g4)
                      have hfdI : fdS M pl.toNat (M 6 pl.toNat) lc (qM M pl.toNat (kk.toNat + 1)) (X233 md 12) (X233 md 13) (X233 md 14) (X233 md 15) := by
                        have h15 := hskJ
                        have i12 := hqJ0 12 (by decide)
                        have i14 := hqJ0 14 (by decide)
                        have j15 : X233 md 15 = Xjn179_2 md 15 := by
                          first
                          | (rw [eX233, up2_k (by decide), eX223, up2_k (by decide), eX216, up2_k (by decide)]; done)
                          | (rw [eX233, up2_k (by decide), eX223, up2_k (by decide)]; done)
                        rw [j15]
                        refine fd_in (by rw [← hin.1] at hfd; exact hfd) (by omega) hin.1 rfl (by omega) rfl ⟨by omega, by omega⟩ h15 ?_ ?_ ?_
                        · first
                          | (rw [eX233, up2_k (by decide), eX223, up2_k (by decide), eX216, up2_s, if_pos (by omega)]; omega)
                          | (rw [eX233, up2_k (by decide), eX223, up2_k (by decide), if_neg (by omega)]; exact i12)
                        · rw [eX233, up2_k (by decide), eX223, up2_s]; omega
                        · first
                          | (rw [eX233, up2_s, eX223, up2_k (by decide), eX216, up2_k (by decide), i14]; done)
                          | (rw [eX233, up2_s, eX223, up2_k (by decide), i14]; done)
                      refine ziinc (pc := 236) (lv' := [(4, .int (iI (kk + 1))), (11, .long (lJ x183)), (9, .long (lJ x129)), (0, .ref md), (1, .int (iI pl)), (2, .long (lJ lc)), (5, .long (lJ fr)), (7, .long (lJ to9))]) hx hb 2 dX9_find_236 hl rfl (by decide) rfl (fun ls hl => ?_)
                      obtain ⟨x236, ex236⟩ : ∃ zz : Int, zz = (kk + 1) := ⟨_, rfl⟩
                      rw [← ex236] at hl
                      refine lv_goto (pc := 239) (tgt := 28) hx hb dX9_find_239 (by decide) ?_
                      exact ih28 x236 X233 _ _ (by omega) (by rw [show x236.toNat = kk.toNat + 1 by omega]; first | exact fd_same hfd (hft.2 (by omega)) | exact hfdO | exact hfdI) (by first | exact ho | exact hoJ | exact hoI) (by first | exact hq | exact hqJ | exact hqI) (by omega) hw _ (lv_sub hl [0, 3, 4, 5] rfl)
                  · skip
                    replace c198 := lcm_gt hr197 c198
                    clear hr197
                    have hfdO : fdS M pl.toNat (M 6 pl.toNat) lc (qM M pl.toNat (kk.toNat + 1)) (Xjn179_2 md 12) (Xjn179_2 md 13) (Xjn179_2 md 14) (Xjn179_2 md 15) := by
                      have h15 := hskJ
                      rw [hqJ0 12 (by decide), hqJ0 13 (by decide), hqJ0 14 (by decide)]
                      exact fd_out (by rw [← hin.1] at hfd; exact hfd) (by omega) hin.1 rfl (by omega) rfl (fun g => by omega) h15
                    refine lv_goto (pc := 201) (tgt := 236) hx hb dX9_find_201 (by decide) ?_
                    refine ziinc (pc := 236) (lv' := [(4, .int (iI (kk + 1))), (11, .long (lJ x183)), (9, .long (lJ x129)), (0, .ref md), (1, .int (iI pl)), (2, .long (lJ lc)), (5, .long (lJ fr)), (7, .long (lJ to9))]) hx hb 2 dX9_find_236 hl rfl (by decide) rfl (fun ls hl => ?_)
                    obtain ⟨x236, ex236⟩ : ∃ zz : Int, zz = (kk + 1) := ⟨_, rfl⟩
                    rw [← ex236] at hl
                    refine lv_goto (pc := 239) (tgt := 28) hx hb dX9_find_239 (by decide) ?_
                    exact ih28 x236 Xjn179_2 _ _ (by omega) (by rw [show x236.toNat = kk.toNat + 1 by omega]; first | exact fd_same hfd (hft.2 (by omega)) | exact hfdO | exact hfdI) (by first | exact ho | exact hoJ | exact hoI) (by first | exact hq | exact hqJ | exact hqI) (by omega) hw _ (lv_sub hl [0, 3, 4, 5] rfl)
              have hah : x129 = M 6 pl.toNat + evSv M pl.toNat kk.toNat := by rw [ex129, hsb, h6L]
              clear hsb
              refine lv_lload (pc := 131) hx hb dX9_find_131 (lv_at hl 5 rfl) ?_
              refine zlconst (pc := 133) (z := 0) hx hb rfl dX9_find_133 ?_
              refine zlcmp (pc := 134) hx hb ⟨by omega, by omega⟩ dX9_find_134 (fun r134 hr134 => ?_)
              refine zif_le (pc := 135) hx hb 179 (lcm_fit hr134) dX9_find_135 (by decide) (fun c135 => ?_) (fun c135 => ?_)
              · skip
                replace c135 := lcm_le hr134 c135
                clear hr134
                exact jn179_2 XL28 _ _ (by unfold skN; first | (rw [eX176, up2_s, if_pos (by omega), if_pos ⟨by omega, by omega, by omega⟩]; done) | (rw [if_neg (by omega)]; done) | (rw [if_pos (by omega), if_neg (fun g => by omega)]; omega) | (by_cases g9 : XL28 md 15 = -1; (rw [if_pos g9, if_neg (fun g => by omega)]; exact g9); (rw [if_neg g9]))) (by first | exact fun _ _ => rfl | exact fun b hb => by rw [eX176, up2_o hb]) (by first | exact fun _ _ => rfl | exact fun q hq9 => by rw [eX176, up2_k hq9]) hw _ (lv_sub hl [0, 1, 2, 3, 4, 5, 6] rfl)
              · skip
                replace c135 := lcm_gt hr134 c135
                clear hr134
                refine lv_aload_n (pc := 138) hx hb dX9_find_138 rfl (lv_at hl 2 rfl) ?_
                refine zgetI (pc := 139) hx hb hG hown hw hmd2 (T := TX9) rfl 15 (by decide) rfl wf_X9_213 rfl dX9_find_139 ?_
                refine ziconst (pc := 142) (n := (-1)) hx hb dX9_find_142 ?_
                refine zicmp_ne (pc := 143) hx hb 179 (by omega) (by omega) dX9_find_143 (by decide) (fun c143 => ?_) (fun c143 => ?_)
                · skip
                  exact jn179_2 XL28 _ _ (by unfold skN; first | (rw [eX176, up2_s, if_pos (by omega), if_pos ⟨by omega, by omega, by omega⟩]; done) | (rw [if_neg (by omega)]; done) | (rw [if_pos (by omega), if_neg (fun g => by omega)]; omega) | (by_cases g9 : XL28 md 15 = -1; (rw [if_pos g9, if_neg (fun g => by omega)]; exact g9); (rw [if_neg g9]))) (by first | exact fun _ _ => rfl | exact fun b hb => by rw [eX176, up2_o hb]) (by first | exact fun _ _ => rfl | exact fun q hq9 => by rw [eX176, up2_k hq9]) hw _ (lv_sub hl [0, 1, 2, 3, 4, 5, 6] rfl)
                · skip
                  refine lv_lload (pc := 146) hx hb dX9_find_146 (lv_at hl 5 rfl) ?_
                  refine lv_lload (pc := 148) hx hb dX9_find_148 (lv_at hl 0 rfl) ?_
                  refine zladd (pc := 150) hx hb dX9_find_150 ?_
                  refine lv_lload_n (pc := 151) hx hb dX9_find_151 rfl (lv_at hl 4 rfl) ?_
                  refine zlcmp (pc := 152) hx hb ⟨by omega, by omega⟩ dX9_find_152 (fun r152 hr152 => ?_)
                  refine zif_le (pc := 153) hx hb 179 (lcm_fit hr152) dX9_find_153 (by decide) (fun c153 => ?_) (fun c153 => ?_)
                  · skip
                    replace c153 := lcm_le hr152 c153
                    clear hr152
                    exact jn179_2 XL28 _ _ (by unfold skN; first | (rw [eX176, up2_s, if_pos (by omega), if_pos ⟨by omega, by omega, by omega⟩]; done) | (rw [if_neg (by omega)]; done) | (rw [if_pos (by omega), if_neg (fun g => by omega)]; omega) | (by_cases g9 : XL28 md 15 = -1; (rw [if_pos g9, if_neg (fun g => by omega)]; exact g9); (rw [if_neg g9]))) (by first | exact fun _ _ => rfl | exact fun b hb => by rw [eX176, up2_o hb]) (by first | exact fun _ _ => rfl | exact fun q hq9 => by rw [eX176, up2_k hq9]) hw _ (lv_sub hl [0, 1, 2, 3, 4, 5, 6] rfl)
                  · skip
                    replace c153 := lcm_gt hr152 c153
                    clear hr152
                    refine lv_aload_n (pc := 156) hx hb dX9_find_156 rfl (lv_at hl 2 rfl) ?_
                    refine lv_iload_n (pc := 157) hx hb dX9_find_157 rfl (lv_at hl 3 rfl) ?_
                    refine lv_lload (pc := 158) hx hb dX9_find_158 (lv_at hl 5 rfl) ?_
                    refine zl2i (pc := 160) hx hb dX9_find_160 ?_
                    refine ziconst (pc := 161) (n := 1) hx hb dX9_find_161 ?_
                    refine zsub (pc := 162) hx hb dX9_find_162 ?_
                    refine zkIp (pc := 163) (zrV (As := [.int (iI pl), .int (iI (fr - 1))]) hx hb hml hown hG hw (c_X9_local_L l Γ K2 XL28 R2 md pl (fr - 1) (ρ2) M (by (first | assumption | omega)) (by (first | assumption | omega)) (by (first | assumption | omega)) (by (first | assumption | omega)) (by (first | assumption | omega))) (T := TX9) hmd2 rfl cb_X9_local wl_X9_198 rfl ⟨Nat.le_of_ble_eq_true rfl, Nat.le_of_ble_eq_true rfl⟩ hl.1 rfl (Nat.le_of_ble_eq_true rfl) dX9_find_163 ⟨(by show 0 + (min 5 (dlC X Rf md pl.toNat)) + 0 ≤ (min 5 (dlC X Rf md pl.toNat)); omega), (by show 0 + (dlC X Rf md pl.toNat) + 0 ≤ (dlC X Rf md pl.toNat); omega)⟩) hw (fun r163 H locs hp163 hw => ?_)
                    subst hp163
                    have hsz : 0 ≤ savM M pl.toNat (fr - 1) ∧ savM M pl.toNat (fr - 1) ≤ 180 := by rw [savM_hp]; exact evSv_rng hM (p := pl.toNat) (by omega) (hpM_spec (M := M) (p := pl.toNat) (fr - 1)).1
                    refine zi2l (pc := 166) hx hb (by omega) dX9_find_166 ?_
                    refine lv_lload_n (pc := 167) hx hb dX9_find_167 rfl (lv_at hl 4 rfl) ?_
                    refine zlcmp (pc := 168) hx hb ⟨by omega, by omega⟩ dX9_find_168 (fun r168 hr168 => ?_)
                    refine zif_ge (pc := 169) hx hb 179 (lcm_fit hr168) dX9_find_169 (by decide) (fun c169 => ?_) (fun c169 => ?_)
                    · skip
                      replace c169 := lcm_ge hr168 c169
                      clear hr168
                      exact jn179_2 XL28 _ _ (by unfold skN; first | (rw [eX176, up2_s, if_pos (by omega), if_pos ⟨by omega, by omega, by omega⟩]; done) | (rw [if_neg (by omega)]; done) | (rw [if_pos (by omega), if_neg (fun g => by omega)]; omega) | (by_cases g9 : XL28 md 15 = -1; (rw [if_pos g9, if_neg (fun g => by omega)]; exact g9); (rw [if_neg g9]))) (by first | exact fun _ _ => rfl | exact fun b hb => by rw [eX176, up2_o hb]) (by first | exact fun _ _ => rfl | exact fun q hq9 => by rw [eX176, up2_k hq9]) hw _ (lv_sub hl [0, 1, 2, 3, 4, 5, 6] rfl)
                    · skip
                      replace c169 := lcm_lt hr168 c169
                      clear hr168
                      refine lv_aload_n (pc := 172) hx hb dX9_find_172 rfl (lv_at hl 2 rfl) ?_
                      refine lv_lload (pc := 173) hx hb dX9_find_173 (lv_at hl 5 rfl) ?_
                      refine zl2i (pc := 175) hx hb dX9_find_175 ?_
                      refine zputI (pc := 176) hx hb hG hown hw hmd2 (T := TX9) rfl 15 (by decide) rfl wf_X9_213 rfl (by decide +kernel) rfl dX9_find_176 (fun H locs hw => ?_)
                      obtain ⟨X176, eX176⟩ : ∃ Y : zX, Y = up2 XL28 md 15 fr := ⟨_, rfl⟩
                      rw [← eX176] at hw
                      exact jn179_2 X176 _ _ (by unfold skN; first | (rw [eX176, up2_s, if_pos (by omega), if_pos ⟨by omega, by omega, by omega⟩]; done) | (rw [if_neg (by omega)]; done) | (rw [if_pos (by omega), if_neg (fun g => by omega)]; omega) | (by_cases g9 : XL28 md 15 = -1; (rw [if_pos g9, if_neg (fun g => by omega)]; exact g9); (rw [if_neg g9]))) (by first | exact fun _ _ => rfl | exact fun b hb => by rw [eX176, up2_o hb]) (by first | exact fun _ _ => rfl | exact fun q hq9 => by rw [eX176, up2_k hq9]) hw _ (lv_sub hl [0, 1, 2, 3, 4, 5, 6] rfl)
            · skip
              replace c108 := lcm_gt hr107 c108
              clear hr107
              refine lv_goto (pc := 111) (tgt := 236) hx hb dX9_find_111 (by decide) ?_
              refine ziinc (pc := 236) (lv' := [(4, .int (iI (kk + 1))), (0, .ref md), (1, .int (iI pl)), (2, .long (lJ lc)), (5, .long (lJ fr)), (7, .long (lJ to9))]) hx hb 0 dX9_find_236 hl rfl (by decide) rfl (fun ls hl => ?_)
              obtain ⟨x236, ex236⟩ : ∃ zz : Int, zz = (kk + 1) := ⟨_, rfl⟩
              rw [← ex236] at hl
              refine lv_goto (pc := 239) (tgt := 28) hx hb dX9_find_239 (by decide) ?_
              exact ih28 x236 XL28 _ _ (by omega) (by rw [show x236.toNat = kk.toNat + 1 by omega]; first | exact fd_same hfd (hft.2 (by omega)) | exact hfdO | exact hfdI) (by first | exact ho | exact hoJ | exact hoI) (by first | exact hq | exact hqJ | exact hqI) (by omega) hw _ (lv_sub hl [0, 1, 2, 3] rfl)
          refine lv_iload (pc := 66) hx hb dX9_find_66 (lv_at hl 0 rfl) ?_
          refine lv_aload_n (pc := 68) hx hb dX9_find_68 rfl (lv_at hl 1 rfl) ?_
          refine zgetR (pc := 69) hx hb hG hown hw hmd2 (T := TX9) rfl 9 (by decide) rfl wf_X9_28 rfl hB9_2 dX9_find_69 ?_
          refine lv_iload_n (pc := 72) hx hb dX9_find_72 rfl (lv_at hl 2 rfl) ?_
          refine zald (pc := 73) hx hb hw hA9_2 ⟨by omega, by omega⟩ (by omega) dX9_find_73 ?_
          refine zicmp_ne (pc := 74) hx hb 83 (by omega) (by omega) dX9_find_74 (by decide) (fun c74 => ?_) (fun c74 => ?_)
          · skip
            refine zldc2 (pc := 83) (n := 105190559) hx hb hown hG wk_X9_216 dX9_find_83 ?_
            refine lv_aload_n (pc := 86) hx hb dX9_find_86 rfl (lv_at hl 1 rfl) ?_
            refine zgetR (pc := 87) hx hb hG hown hw hmd2 (T := TX9) rfl 10 (by decide) rfl wf_X9_32 rfl hB10_2 dX9_find_87 ?_
            refine lv_iload_n (pc := 90) hx hb dX9_find_90 rfl (lv_at hl 2 rfl) ?_
            refine zaaldR5 (pc := 91) hx hb hw hA10_2 ⟨by omega, by omega⟩ (by omega) hrm dX9_find_91 ?_
            refine lv_iload (pc := 92) hx hb dX9_find_92 (lv_at hl 0 rfl) ?_
            have hz1 := evMo_rng hM (p := pl.toNat) (by omega) (k := kk.toNat) (by omega)
            have hz2 := hvm kk.toNat (by omega)
            rw [← hmoL] at hz2
            refine zald (pc := 94) hx hb hw hkm ⟨by omega, by omega⟩ (by omega) dX9_find_94 ?_
            refine zi2l (pc := 95) hx hb (by omega) dX9_find_95 ?_
            refine zlconst (pc := 96) (z := 1) hx hb rfl dX9_find_96 ?_
            refine zlsub (pc := 97) hx hb dX9_find_97 ?_
            refine zminL (pc := 98) hx hb (hml.trans hl.1.symm) hown hG wl_X9_218 w1_zml wi_javalangMath w2_zml (Nat.le_of_ble_eq_true rfl) (Nat.le_of_ble_eq_true rfl) (by show 0 + (min 5 (dlC X Rf md pl.toNat)) ≤ (min 5 (dlC X Rf md pl.toNat)); omega) (by show 0 + (dlC X Rf md pl.toNat) ≤ (dlC X Rf md pl.toNat); omega) ⟨by omega, by omega⟩ dX9_find_98 ?_
            refine ztopL (fun x101 ex101 => ?_)
            refine lv_lstore (pc := 101) (lv' := [(7, .long (lJ x101)), (4, .int (iI kk)), (0, .ref md), (1, .int (iI pl)), (2, .long (lJ lc)), (5, .long (lJ fr))]) hx hb dX9_find_101 hl (by decide) rfl (fun ls hl => ?_)
            exact jn103_1 x101 _ _ (by first | (rw [if_pos (by omega)]; done) | (rw [if_neg (by omega)]; omega)) hw _ (lv_sub hl [1, 2, 3, 4, 5, 0] rfl)
          · skip
            refine zldc2 (pc := 77) (n := 105190559) hx hb hown hG wk_X9_216 dX9_find_77 ?_
            refine lv_goto (pc := 80) (tgt := 101) hx hb dX9_find_80 (by decide) ?_
            refine lv_lstore (pc := 101) (lv' := [(7, .long (lJ 105190559)), (4, .int (iI kk)), (0, .ref md), (1, .int (iI pl)), (2, .long (lJ lc)), (5, .long (lJ fr))]) hx hb dX9_find_101 hl (by decide) rfl (fun ls hl => ?_)
            exact jn103_1 105190559 _ _ (by first | (rw [if_pos (by omega)]; done) | (rw [if_neg (by omega)]; omega)) hw _ (lv_sub hl [1, 2, 3, 4, 5, 0] rfl)
        refine lv_iload (pc := 39) hx hb dX9_find_39 (lv_at hl 0 rfl) ?_
        refine zif_ne (pc := 41) hx hb 48 (by omega) dX9_find_41 (by decide) (fun c41 => ?_) (fun c41 => ?_)
        · skip
          refine ziconst (pc := 48) (n := 0) hx hb dX9_find_48 ?_
          refine lv_aload_n (pc := 49) hx hb dX9_find_49 rfl (lv_at hl 1 rfl) ?_
          refine zgetR (pc := 50) hx hb hG hown hw hmd2 (T := TX9) rfl 10 (by decide) rfl wf_X9_32 rfl hB10_2 dX9_find_50 ?_
          refine lv_iload_n (pc := 53) hx hb dX9_find_53 rfl (lv_at hl 2 rfl) ?_
          refine zaaldR5 (pc := 54) hx hb hw hA10_2 ⟨by omega, by omega⟩ (by omega) hrm dX9_find_54 ?_
          refine lv_iload (pc := 55) hx hb dX9_find_55 (lv_at hl 0 rfl) ?_
          refine ziconst (pc := 57) (n := 1) hx hb dX9_find_57 ?_
          refine zsub (pc := 58) hx hb dX9_find_58 ?_
          have hz1 := evMo_rng hM (p := pl.toNat) (by omega) (k := (kk - 1).toNat) (by omega)
          have hz2 := hvm (kk - 1).toNat (by omega)
          rw [← hmoL] at hz2
          refine zald (pc := 59) hx hb hw hkm ⟨by omega, by omega⟩ (by omega) dX9_find_59 ?_
          refine zmax (pc := 60) hx hb (hml.trans hl.1.symm) hown hG wl_X9_182 w1_zmx wi_javalangMath w2_zmx (Nat.le_of_ble_eq_true rfl) (Nat.le_of_ble_eq_true rfl) (by show 0 + (min 5 (dlC X Rf md pl.toNat)) ≤ (min 5 (dlC X Rf md pl.toNat)); omega) (by show 0 + (dlC X Rf md pl.toNat) ≤ (dlC X Rf md pl.toNat); omega) ⟨by omega, by omega⟩ dX9_find_60 ?_
          refine zi2l (pc := 63) hx hb (by omega) dX9_find_63 ?_
          refine ztopL (fun x64 ex64 => ?_)
          refine lv_lstore (pc := 64) (lv' := [(5, .long (lJ x64)), (4, .int (iI kk)), (0, .ref md), (1, .int (iI pl)), (2, .long (lJ lc))]) hx hb dX9_find_64 hl (by decide) rfl (fun ls hl => ?_)
          exact jn66_0 x64 _ _ (by first | (rw [if_pos (by omega)]; done) | (rw [if_neg (by omega), show kk.toNat - 1 = (kk - 1).toNat by omega]; omega)) hw _ (lv_sub hl [1, 2, 3, 4, 0] rfl)
        · skip
          refine zlconst (pc := 44) (z := 0) hx hb rfl dX9_find_44 ?_
          refine lv_goto (pc := 45) (tgt := 64) hx hb dX9_find_45 (by decide) ?_
          refine lv_lstore (pc := 64) (lv' := [(5, .long (lJ 0)), (4, .int (iI kk)), (0, .ref md), (1, .int (iI pl)), (2, .long (lJ lc))]) hx hb dX9_find_64 hl (by decide) rfl (fun ls hl => ?_)
          exact jn66_0 0 _ _ (by first | (rw [if_pos (by omega)]; done) | (rw [if_neg (by omega), show kk.toNat - 1 = (kk - 1).toNat by omega]; omega)) hw _ (lv_sub hl [1, 2, 3, 4, 0] rfl)
  exact lp28 _ 0 X22 _ _ (by omega) (by rw [show (0 : Int).toNat = 0 from rfl, qM_0, eX22, up2_s, up2_k (by decide), up2_k (by decide), up2_k (by decide), eX17, up2_s, up2_k (by decide), up2_k (by decide), eX12, up2_s, up2_k (by decide), eX7, up2_s]; exact fdS_0) (by intro b hb; rw [eX22, up2_o hb, eX17, up2_o hb, eX12, up2_o hb, eX7, up2_o hb]) (by intro q g1 g2 g3 g4; rw [eX22, up2_k g4, eX17, up2_k g3, eX12, up2_k g2, eX7, up2_k g1]) (Nat.lt_succ_self _) hw _ (lv_sub hl [0, 1, 2, 3] rfl)
