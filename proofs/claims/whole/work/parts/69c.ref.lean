set_option maxHeartbeats 4000000 in
set_option maxRecDepth 100000 in
theorem c_X9_addPlace (l : Launch) (Γ : zG) (K : zK) (X : zX) (Rf : zR) (md : Nat) (bs : Int) (ρ : zL) (M : zM) (hR : repR ρ K X Rf md M) (hM : okM M) (h1 : fit bs) : Ct l yX9_addPlace cX9_addPlace 2 (some .int) 1 2 0 Γ [.ref md, .int (iI bs)] K X Rf (pI (fun (r : Int) (K' : zK) (X' : zX) (R' : zR) => (cdApl M bs = 0 → r = M 40 5) ∧ X' md 0 = cdApl M bs ∧ ∃ ρ', repR ρ' K' X' R' md (if cdApl M bs = 0 then plM M (M 40 5).toNat bs else M) ∧ frR ρ K X Rf ρ' K' X' R')) := by
  refine Ct.of (by decide +kernel) (Nat.le_of_ble_eq_true rfl) ?_
  intro p e s m below meth c ls hx hb hr hml hown hG hlocks hname hw hl
  have hl : lv_has ls 2 [(0, .ref md), (1, .int (iI bs))] := hl
  obtain ⟨hmd, hlmd⟩ := id hR.1
  obtain ⟨⟨hb1, hb2, hb3, hb4⟩, hokP, hokL, hokS, hokW, hokF⟩ := id hM
  have hq1 : X md 1 = M 40 1 := hR.2.1 1 rfl
  have hq5 : X md 5 = M 40 5 := hR.2.1 5 rfl
  have hq16 : X md 16 = M 40 16 := hR.2.1 16 rfl
  have hq25 : X md 25 = M 40 25 := hR.2.1 25 rfl
  have hq26 : X md 26 = M 40 26 := hR.2.1 26 rfl
  have hq27 : X md 27 = M 40 27 := hR.2.1 27 rfl
  have hq28 : X md 28 = M 40 28 := hR.2.1 28 rfl
  have hq29 : X md 29 = M 40 29 := hR.2.1 29 rfl
  obtain ⟨a6, hB6, hA6, hL6, hD6⟩ : ∃ a, Rf md 6 = some a ∧ K a = (2, 6) ∧ ρ a = 2007 ∧ X a = M 6 := hR.fd 6 (by decide) rfl
  have hN6 : a6 ≠ md := zkn2 hA6 hmd (by simp)
  obtain ⟨a10, hB10, hA10, hL10⟩ : ∃ a, Rf md 10 = some a ∧ K a = (11, 6) ∧ ρ a = 2011 := hR.ff 10 (by decide)
  have hN10 : a10 ≠ md := zkn2 hA10 hmd (by simp)
  obtain ⟨a11, hB11, hA11, hL11⟩ : ∃ a, Rf md 11 = some a ∧ K a = (11, 6) ∧ ρ a = 2012 := hR.ff 11 (by decide)
  have hN11 : a11 ≠ md := zkn2 hA11 hmd (by simp)
  obtain ⟨i9, hi9⟩ : ∃ i9 : Nat, M 40 5 = i9 := ⟨(M 40 5).toNat, by omega⟩
  refine lv_aload_n (pc := 0) hx hb dX9_addPlace_0 rfl (lv_at hl 0 rfl) ?_
  refine ziconst (pc := 1) (n := 0) hx hb dX9_addPlace_1 ?_
  refine zputI (pc := 2) hx hb hG hown hw hmd (T := TX9) rfl 0 (by decide) rfl wf_X9_87 rfl (by decide +kernel) rfl dX9_addPlace_2 (fun H locs hw => ?_)
  obtain ⟨X2, eX2⟩ : ∃ Y : zX, Y = up2 X md 0 0 := ⟨_, rfl⟩
  rw [← eX2] at hw
  have hE6 : X2 a6 = M 6 := by rw [eX2, up2_o hN6]; exact hD6
  have hz5 : X2 md 5 = M 40 5 := by rw [eX2, up2_k (by decide)]; exact hq5
  refine lv_iload_n (pc := 5) hx hb dX9_addPlace_5 rfl (lv_at hl 1 rfl) ?_
  refine zsipush (pc := 6) (n := (-840)) hx hb dX9_addPlace_6 rfl ?_
  refine zsipush (pc := 9) (n := 840) hx hb dX9_addPlace_9 rfl ?_
  refine zkIp (pc := 12) (zrS (As := [.int (iI bs), .int (iI (-840)), .int (iI 840)]) hx hb hml hown hG hw (c_X9_is l Γ K X2 Rf bs (-840) 840  (by (first | assumption | omega))) cb_X9_is wl_X9_91 rfl ⟨Nat.le_of_ble_eq_true rfl, Nat.le_of_ble_eq_true rfl⟩ hl.1 rfl (Nat.le_of_ble_eq_true rfl) dX9_addPlace_12 ⟨Nat.zero_le _, Nat.zero_le _⟩) hw (fun r12 H locs hp12 hw => ?_)
  subst hp12
  refine zif_ne (pc := 15) hx hb 24 (by omega) dX9_addPlace_15 (by decide) (fun c15 => ?_) (fun c15 => ?_)
  · skip
    replace c15 := it1 c15
    refine lv_aload_n (pc := 24) hx hb dX9_addPlace_24 rfl (lv_at hl 0 rfl) ?_
    refine zgetI (pc := 25) hx hb hG hown hw hmd (T := TX9) rfl 5 (by decide) rfl wf_X9_158 rfl dX9_addPlace_25 ?_
    refine zbipush (pc := 28) (n := 6) hx hb dX9_addPlace_28 rfl ?_
    refine zicmp_ne (pc := 30) hx hb 39 (by omega) (by omega) dX9_addPlace_30 (by decide) (fun c30 => ?_) (fun c30 => ?_)
    · skip
      refine lv_aload_n (pc := 39) hx hb dX9_addPlace_39 rfl (lv_at hl 0 rfl) ?_
      refine zgetR (pc := 40) hx hb hG hown hw hmd (T := TX9) rfl 6 (by decide) rfl wf_X9_19 rfl hB6 dX9_addPlace_40 ?_
      refine lv_aload_n (pc := 43) hx hb dX9_addPlace_43 rfl (lv_at hl 0 rfl) ?_
      refine zgetI (pc := 44) hx hb hG hown hw hmd (T := TX9) rfl 5 (by decide) rfl wf_X9_158 rfl dX9_addPlace_44 ?_
      refine lv_iload_n (pc := 47) hx hb dX9_addPlace_47 rfl (lv_at hl 1 rfl) ?_
      refine zast (pc := 48) hx hb hw hA6 ⟨by omega, by omega⟩ (by omega) dX9_addPlace_48 (fun H locs hw => ?_)
      obtain ⟨X48, eX48⟩ : ∃ Y : zX, Y = up2 X2 a6 (X2 md 5).toNat bs := ⟨_, rfl⟩
      rw [← eX48] at hw
      rw [hz5, hi9, Int.toNat_natCast] at eX48
      have hz5_48 : X48 md 5 = M 40 5 := by rw [eX48, up2_o (Ne.symm hN6)]; exact hz5
      refine lv_aload_n (pc := 49) hx hb dX9_addPlace_49 rfl (lv_at hl 0 rfl) ?_
      refine zgetR (pc := 50) hx hb hG hown hw hmd (T := TX9) rfl 10 (by decide) rfl wf_X9_32 rfl hB10 dX9_addPlace_50 ?_
      refine lv_aload_n (pc := 53) hx hb dX9_addPlace_53 rfl (lv_at hl 0 rfl) ?_
      refine zgetI (pc := 54) hx hb hG hown hw hmd (T := TX9) rfl 5 (by decide) rfl wf_X9_158 rfl dX9_addPlace_54 ?_
      refine ziconst (pc := 57) (n := 0) hx hb dX9_addPlace_57 ?_
      refine znewi (pc := 58) hx hb hG hw wa_int ⟨by omega, by omega⟩ (by show 0 + 1 ≤ 2; omega) (by show 0 + 0 ≤ 0; omega) dX9_addPlace_58 (fun q58 H hfq58 hw => ?_)
      obtain ⟨K58, eK58⟩ : ∃ Y : zK, Y = zup K q58 (2, 0) := ⟨_, rfl⟩
      obtain ⟨X58, eX58⟩ : ∃ Y : zX, Y = zupX X48 q58 := ⟨_, rfl⟩
      obtain ⟨R58, eR58⟩ : ∃ Y : zR, Y = zupR Rf q58 := ⟨_, rfl⟩
      replace hw := Wd.re hw eK58 eX58 eR58
      have hk58 : K58 md = (1, 8) := by rw [eK58]; exact zup_k hfq58 hmd (Nat.succ_ne_zero _)
      have hn58 : md ≠ q58 := zne hmd hfq58
      have hk58_1 : K58 a6 = (2, 6) := by rw [eK58]; exact zup_k hfq58 hA6 (Nat.succ_ne_zero _)
      have hn58_1 : a6 ≠ q58 := zne hA6 hfq58
      have hk58_2 : K58 a10 = (11, 6) := by rw [eK58]; exact zup_k hfq58 hA10 (Nat.succ_ne_zero _)
      have hn58_2 : a10 ≠ q58 := zne hA10 hfq58
      have hk58_3 : K58 a11 = (11, 6) := by rw [eK58]; exact zup_k hfq58 hA11 (Nat.succ_ne_zero _)
      have hn58_3 : a11 ≠ q58 := zne hA11 hfq58
      have hk58_4 : K58 q58 = (2, 0) := by rw [eK58]; exact zup_s
      have hr58 : R58 md 6 = some a6 := by rw [eR58, zupR_n hn58]; exact hB6
      have hr58_1 : R58 md 10 = some a10 := by rw [eR58, zupR_n hn58]; exact hB10
      have hr58_2 : R58 md 11 = some a11 := by rw [eR58, zupR_n hn58]; exact hB11
      have hz5_58 : X58 md 5 = M 40 5 := by rw [eX58, zupX_n (zne hmd hfq58)]; exact hz5_48
      refine zaast5 (pc := 60) hx hb hw hk58_2 hk58_4 ⟨by omega, by omega⟩ (by omega) dX9_addPlace_60 (fun H locs hw => ?_)
      obtain ⟨R60, eR60⟩ : ∃ Y : zR, Y = up2 R58 a10 (X48 md 5).toNat (some q58) := ⟨_, rfl⟩
      rw [← eR60] at hw
      have hr60 : R60 md 6 = some a6 := by rw [eR60, up2_a (zkn2 hk58 hk58_2 (by simp))]; exact hr58
      have hr60_1 : R60 md 10 = some a10 := by rw [eR60, up2_a (zkn2 hk58 hk58_2 (by simp))]; exact hr58_1
      have hr60_2 : R60 md 11 = some a11 := by rw [eR60, up2_a (zkn2 hk58 hk58_2 (by simp))]; exact hr58_2
      have hr60_3 : R60 a10 ((X48 md 5).toNat) = some q58 := by rw [eR60]; exact up2_s
      rw [hz5_48, hi9, Int.toNat_natCast] at eR60
      refine lv_aload_n (pc := 61) hx hb dX9_addPlace_61 rfl (lv_at hl 0 rfl) ?_
      refine zgetR (pc := 62) hx hb hG hown hw hk58 (T := TX9) rfl 11 (by decide) rfl wf_X9_36 rfl hr60_2 dX9_addPlace_62 ?_
      refine lv_aload_n (pc := 65) hx hb dX9_addPlace_65 rfl (lv_at hl 0 rfl) ?_
      refine zgetI (pc := 66) hx hb hG hown hw hk58 (T := TX9) rfl 5 (by decide) rfl wf_X9_158 rfl dX9_addPlace_66 ?_
      refine ziconst (pc := 69) (n := 0) hx hb dX9_addPlace_69 ?_
      refine znewi (pc := 70) hx hb hG hw wa_int ⟨by omega, by omega⟩ (by show 0 + 1 + 1 ≤ 2; omega) (by show 0 + 0 ≤ 0; omega) dX9_addPlace_70 (fun q70 H hfq70 hw => ?_)
      obtain ⟨K70, eK70⟩ : ∃ Y : zK, Y = zup K58 q70 (2, 0) := ⟨_, rfl⟩
      obtain ⟨X70, eX70⟩ : ∃ Y : zX, Y = zupX X58 q70 := ⟨_, rfl⟩
      obtain ⟨R70, eR70⟩ : ∃ Y : zR, Y = zupR R60 q70 := ⟨_, rfl⟩
      replace hw := Wd.re hw eK70 eX70 eR70
      have hk70 : K70 md = (1, 8) := by rw [eK70]; exact zup_k hfq70 hk58 (Nat.succ_ne_zero _)
      have hn70 : md ≠ q70 := zne hk58 hfq70
      have hk70_1 : K70 a6 = (2, 6) := by rw [eK70]; exact zup_k hfq70 hk58_1 (Nat.succ_ne_zero _)
      have hn70_1 : a6 ≠ q70 := zne hk58_1 hfq70
      have hk70_2 : K70 a10 = (11, 6) := by rw [eK70]; exact zup_k hfq70 hk58_2 (Nat.succ_ne_zero _)
      have hn70_2 : a10 ≠ q70 := zne hk58_2 hfq70
      have hk70_3 : K70 a11 = (11, 6) := by rw [eK70]; exact zup_k hfq70 hk58_3 (Nat.succ_ne_zero _)
      have hn70_3 : a11 ≠ q70 := zne hk58_3 hfq70
      have hk70_4 : K70 q58 = (2, 0) := by rw [eK70]; exact zup_k hfq70 hk58_4 (Nat.succ_ne_zero _)
      have hn70_4 : q58 ≠ q70 := zne hk58_4 hfq70
      have hk70_5 : K70 q70 = (2, 0) := by rw [eK70]; exact zup_s
      have hr70 : R70 md 6 = some a6 := by rw [eR70, zupR_n hn70]; exact hr60
      have hr70_1 : R70 md 10 = some a10 := by rw [eR70, zupR_n hn70]; exact hr60_1
      have hr70_2 : R70 md 11 = some a11 := by rw [eR70, zupR_n hn70]; exact hr60_2
      have hr70_3 : R70 a10 ((X48 md 5).toNat) = some q58 := by rw [eR70, zupR_n hn70_2]; exact hr60_3
      have hz5_70 : X70 md 5 = M 40 5 := by rw [eX70, zupX_n (zne hk58 hfq70)]; exact hz5_58
      refine zaast5 (pc := 72) hx hb hw hk70_3 hk70_5 ⟨by omega, by omega⟩ (by omega) dX9_addPlace_72 (fun H locs hw => ?_)
      obtain ⟨R72, eR72⟩ : ∃ Y : zR, Y = up2 R70 a11 (X58 md 5).toNat (some q70) := ⟨_, rfl⟩
      rw [← eR72] at hw
      have hr72 : R72 md 6 = some a6 := by rw [eR72, up2_a (zkn2 hk70 hk70_3 (by simp))]; exact hr70
      have hr72_1 : R72 md 10 = some a10 := by rw [eR72, up2_a (zkn2 hk70 hk70_3 (by simp))]; exact hr70_1
      have hr72_2 : R72 md 11 = some a11 := by rw [eR72, up2_a (zkn2 hk70 hk70_3 (by simp))]; exact hr70_2
      have hr72_4 : R72 a11 ((X58 md 5).toNat) = some q70 := by rw [eR72]; exact up2_s
      rw [hz5_58, hi9, Int.toNat_natCast] at eR72
      refine lv_aload_n (pc := 73) hx hb dX9_addPlace_73 rfl (lv_at hl 0 rfl) ?_
      refine lv_dup (pc := 74) hx hb dX9_addPlace_74 rfl ?_
      refine zgetI (pc := 75) hx hb hG hown hw hk70 (T := TX9) rfl 5 (by decide) rfl wf_X9_158 rfl dX9_addPlace_75 ?_
      refine ziconst (pc := 78) (n := 1) hx hb dX9_addPlace_78 ?_
      refine zadd (pc := 79) hx hb dX9_addPlace_79 ?_
      refine zputI (pc := 80) hx hb hG hown hw hk70 (T := TX9) rfl 5 (by decide) rfl wf_X9_158 rfl (by decide +kernel) rfl dX9_addPlace_80 (fun H locs hw => ?_)
      obtain ⟨X80, eX80⟩ : ∃ Y : zX, Y = up2 X70 md 5 ((X70 md 5) + 1) := ⟨_, rfl⟩
      rw [← eX80] at hw
      have hz5_80 : X80 md 5 = M 40 5 + 1 := by rw [eX80, up2_s, hz5_70]
      rw [hz5_70, hi9] at eX80
      refine lv_aload_n (pc := 83) hx hb dX9_addPlace_83 rfl (lv_at hl 0 rfl) ?_
      refine zgetI (pc := 84) hx hb hG hown hw hk70 (T := TX9) rfl 5 (by decide) rfl wf_X9_158 rfl dX9_addPlace_84 ?_
      refine ziconst (pc := 87) (n := 1) hx hb dX9_addPlace_87 ?_
      refine zsub (pc := 88) hx hb dX9_addPlace_88 ?_
      exact zretI (pc := 89) hx hb hlocks hr hw (by show 0 + 1 + 1 ≤ 2; omega) (Nat.zero_le _) dX9_addPlace_89 (by 
                                        refine ⟨fun _ => by omega, ?_⟩
                                        have hi8 : (M 40 5).toNat = i9 := by omega
                                        rw [hi8]
                                        have f2 : (K q70).1 = 0 ∧ q70 ≠ q58 := by
                                          have hne : q70 ≠ q58 := by rintro rfl; rw [eK58, zup_s] at hfq70; exact absurd hfq70 (by decide)
                                          rw [eK58, zup_n hne] at hfq70; exact ⟨hfq70, hne⟩
                                        have gK : ∀ a9, (K a9).1 ≠ 0 → K70 a9 = K a9 := fun a9 h9 => by rw [eK70, zup_n (zfa h9 f2.1), eK58, zup_n (zfa h9 hfq58)]
                                        have gX : ∀ a9, (K a9).1 ≠ 0 → X70 a9 = X48 a9 := fun a9 h9 => by rw [eX70, zupX_n (zfa h9 f2.1), eX58, zupX_n (zfa h9 hfq58)]
                                        have gR : ∀ a9, (K a9).1 ≠ 0 → a9 ≠ a10 → a9 ≠ a11 → R72 a9 = Rf a9 := fun a9 h9 g1 g2 => by rw [eR72, up2_o g2, eR70, zupR_n (zfa h9 f2.1), eR60, up2_o g1, eR58, zupR_n (zfa h9 hfq58)]
                                        have hmn : (K md).1 ≠ 0 := zk1 hmd
                                        have h10n : (K a10).1 ≠ 0 := zk1 hA10
                                        have h11n : (K a11).1 ≠ 0 := zk1 hA11
                                        have h6n : (K a6).1 ≠ 0 := zk1 hA6
                                        have h1011 : a10 ≠ a11 := zne9 hL10 hL11 (by decide)
                                        have hmdR : R72 md = Rf md := gR md hmn (Ne.symm hN10) (Ne.symm hN11)
                                        obtain ⟨ρ', hρ⟩ : ∃ ρ' : zL, ρ' = fun a9 => if a9 = q58 then 3000 + i9 else if a9 = q70 then 3010 + i9 else ρ a9 := ⟨_, rfl⟩
                                        have hro : ∀ a9, (K a9).1 ≠ 0 → ρ' a9 = ρ a9 := fun a9 h9 => by rw [hρ]; dsimp only; rw [if_neg (zfa h9 hfq58), if_neg (zfa h9 f2.1)]
                                        have hl1 : ρ' q58 = 3000 + i9 := by rw [hρ]; dsimp only; rw [if_pos rfl]
                                        have hl2 : ρ' q70 = 3010 + i9 := by rw [hρ]; dsimp only; rw [if_neg f2.2, if_pos rfl]
                                        have hn0 := (hR.n.own (q := 0) (v := 0) rfl).row (f := 6) (a := a6) (k := i9) (v := bs) (by decide) hB6 rfl
                                        rw [← eX2, ← eX48] at hn0
                                        have hn1 := (hn0.ext (ρ' := ρ') (K' := K70) (X' := X70) (Rf' := R72) gK hro gX hmdR).num (q := 5) (v := (i9 : Int) + 1)
                                        rw [← eX80] at hn1
                                        have gX8 : ∀ a9, (K a9).1 ≠ 0 → a9 ≠ md → a9 ≠ a6 → X80 a9 = X a9 := fun a9 h9 g1 g2 => by rw [eX80, up2_o g1, gX a9 h9, eX48, up2_o g2, eX2, up2_o g1]
                                        have h35 : X80 md 35 = X md 35 := by rw [eX80, up2_k (by decide), gX md hmn, eX48, up2_o (Ne.symm hN6), eX2, up2_k (by decide)]
                                        have h0 : X80 md 0 = 0 := by rw [eX80, up2_k (by decide), gX md hmn, eX48, up2_o (Ne.symm hN6), eX2, up2_s]
                                        have hk1 : K70 q58 = (2, 0) := by rw [eK70, zup_n (Ne.symm f2.2), eK58, zup_s]
                                        have hk2 : K70 q70 = (2, 0) := by rw [eK70, zup_s]
                                        refine hR.mutG (cd := cdApl M bs) gK hro hn1 (fun a9 h9 g => ⟨gX8 a9 h9 (fun w => by rw [w, hlmd] at g; omega) (fun w => by rw [w, hL6] at g; omega), gR a9 h9 (fun w => by rw [w, hL10] at g; omega) (fun w => by rw [w, hL11] at g; omega)⟩) (cacR.plc hR hM (q1 := q58) (q2 := q70) ⟨hi9, by omega⟩ hB10 hB11 ⟨hk1, hk2⟩ gK hro ⟨hl1, hl2⟩ (fun a9 h9 g1 g2 => gX8 a9 h9 (fun w => g1 (by rw [w]; exact hlmd)) (fun w => g2 (by rw [w]; exact hL6))) gR ⟨?_, ?_⟩ (fun k hk9 => ⟨?_, ?_⟩) h35) h0 (by (unfold cdApl; (repeat' split) <;> omega))
                                        · rw [eR72, up2_o h1011, eR70, zupR_n (zfa h10n f2.1), eR60]; exact up2_s
                                        · rw [eR72]; exact up2_s
                                        · rw [eR72, up2_o h1011, eR70, zupR_n (zfa h10n f2.1), eR60, up2_k hk9, eR58, zupR_n (zfa h10n hfq58)]
                                        · rw [eR72, up2_k hk9, eR70, zupR_n (zfa h11n f2.1), eR60, up2_o (Ne.symm h1011), eR58, zupR_n (zfa h11n hfq58)])
    · skip
      refine lv_aload_n (pc := 33) hx hb dX9_addPlace_33 rfl (lv_at hl 0 rfl) ?_
      refine ziconst (pc := 34) (n := 2) hx hb dX9_addPlace_34 ?_
      refine zkIx (pc := 35) (zrV (As := [.int (iI 2)]) hx hb hml hown hG hw (c_X9_refuse l Γ K X2 Rf md 2  (by (first | assumption | omega))) (T := TX9) hmd rfl cb_X9_refuse wl_X9_123 rfl ⟨Nat.le_of_ble_eq_true rfl, Nat.le_of_ble_eq_true rfl⟩ hl.1 rfl (Nat.le_of_ble_eq_true rfl) dX9_addPlace_35 ⟨Nat.zero_le _, Nat.zero_le _⟩) hw (fun r35 X35 H locs hp35 hw => ?_)
      obtain ⟨hrf35, eX35⟩ := hp35
      exact zretI (pc := 38) hx hb hlocks hr hw (Nat.zero_le _) (Nat.zero_le _) dX9_addPlace_38 (by refine ⟨fun hz => by (exfalso; revert hz; (unfold cdApl; (repeat' split) <;> omega)), ?_⟩; exact hR.no (by (unfold cdApl; (repeat' split) <;> omega)) (by rw [eX35]; (try rw [eX2]); (try rw [up2_up2]); exact thr_c (by (unfold cdApl; (repeat' split) <;> omega))))
  · skip
    replace c15 := it0 c15
    refine lv_aload_n (pc := 18) hx hb dX9_addPlace_18 rfl (lv_at hl 0 rfl) ?_
    refine ziconst (pc := 19) (n := 1) hx hb dX9_addPlace_19 ?_
    refine zkIx (pc := 20) (zrV (As := [.int (iI 1)]) hx hb hml hown hG hw (c_X9_refuse l Γ K X2 Rf md 1  (by (first | assumption | omega))) (T := TX9) hmd rfl cb_X9_refuse wl_X9_123 rfl ⟨Nat.le_of_ble_eq_true rfl, Nat.le_of_ble_eq_true rfl⟩ hl.1 rfl (Nat.le_of_ble_eq_true rfl) dX9_addPlace_20 ⟨Nat.zero_le _, Nat.zero_le _⟩) hw (fun r20 X20 H locs hp20 hw => ?_)
    obtain ⟨hrf20, eX20⟩ := hp20
    exact zretI (pc := 23) hx hb hlocks hr hw (Nat.zero_le _) (Nat.zero_le _) dX9_addPlace_23 (by refine ⟨fun hz => by (exfalso; revert hz; (unfold cdApl; (repeat' split) <;> omega)), ?_⟩; exact hR.no (by (unfold cdApl; (repeat' split) <;> omega)) (by rw [eX20]; (try rw [eX2]); (try rw [up2_up2]); exact thr_c (by (unfold cdApl; (repeat' split) <;> omega))))
set_option maxHeartbeats 4000000 in
set_option maxRecDepth 100000 in
theorem c_X9_addTurn (l : Launch) (Γ : zG) (K : zK) (X : zX) (Rf : zR) (md : Nat) (a : Int) (fy : Int) (ly : Int) (b9 : Int) (mn : Int) (cl : Int) (sv : Int) (ρ : zL) (M : zM) (hR : repR ρ K X Rf md M) (hM : okM M) (h1 : fit a ∧ fit fy ∧ fit ly ∧ fit b9) (h2 : fit mn ∧ fit cl ∧ fit sv) : Ct l yX9_addTurn cX9_addTurn 9 (some .int) 2 1 6 Γ [.ref md, .int (iI a), .int (iI fy), .int (iI ly), .int (iI b9), .int (iI mn), .int (iI cl), .int (iI sv)] K X Rf (pI (fun (r : Int) (K' : zK) (X' : zX) (R' : zR) => (cdAtu M a fy ly b9 mn cl sv = 0 → r = M 7 a.toNat) ∧ X' md 0 = cdAtu M a fy ly b9 mn cl sv ∧ ∃ ρ', repR ρ' K' X' R' md (if cdAtu M a fy ly b9 mn cl sv = 0 then tuM M a.toNat fy ly b9 mn cl sv else M) ∧ frR ρ K X Rf ρ' K' X' R')) := by
  refine Ct.of (by decide +kernel) (Nat.le_of_ble_eq_true rfl) ?_
  intro p e s m below meth c ls hx hb hr hml hown hG hlocks hname hw hl
  have hl : lv_has ls 9 [(0, .ref md), (1, .int (iI a)), (2, .int (iI fy)), (3, .int (iI ly)), (4, .int (iI b9)), (5, .int (iI mn)), (6, .int (iI cl)), (7, .int (iI sv))] := hl
  obtain ⟨hmd, hlmd⟩ := id hR.1
  obtain ⟨⟨hb1, hb2, hb3, hb4⟩, hokP, hokL, hokS, hokW, hokF⟩ := id hM
  have hq1 : X md 1 = M 40 1 := hR.2.1 1 rfl
  have hq5 : X md 5 = M 40 5 := hR.2.1 5 rfl
  have hq16 : X md 16 = M 40 16 := hR.2.1 16 rfl
  have hq25 : X md 25 = M 40 25 := hR.2.1 25 rfl
  have hq26 : X md 26 = M 40 26 := hR.2.1 26 rfl
  have hq27 : X md 27 = M 40 27 := hR.2.1 27 rfl
  have hq28 : X md 28 = M 40 28 := hR.2.1 28 rfl
  have hq29 : X md 29 = M 40 29 := hR.2.1 29 rfl
  obtain ⟨a2, hB2, hA2, hL2, hD2⟩ : ∃ a, Rf md 2 = some a ∧ K a = (2, 24) ∧ ρ a = 2003 ∧ X a = M 2 := hR.fd 2 (by decide) rfl
  have hN2 : a2 ≠ md := zkn2 hA2 hmd (by simp)
  obtain ⟨a3, hB3, hA3, hL3, hD3⟩ : ∃ a, Rf md 3 = some a ∧ K a = (2, 24) ∧ ρ a = 2004 ∧ X a = M 3 := hR.fd 3 (by decide) rfl
  have hN3 : a3 ≠ md := zkn2 hA3 hmd (by simp)
  obtain ⟨a7, hB7, hA7, hL7, hD7⟩ : ∃ a, Rf md 7 = some a ∧ K a = (2, 6) ∧ ρ a = 2008 ∧ X a = M 7 := hR.fd 7 (by decide) rfl
  have hN7 : a7 ≠ md := zkn2 hA7 hmd (by simp)
  obtain ⟨a8, hB8, hA8, hL8, hD8⟩ : ∃ a, Rf md 8 = some a ∧ K a = (2, 216) ∧ ρ a = 2009 ∧ X a = M 8 := hR.fd 8 (by decide) rfl
  have hN8 : a8 ≠ md := zkn2 hA8 hmd (by simp)
  obtain ⟨a9, hB9, hA9, hL9⟩ : ∃ a, Rf md 9 = some a ∧ K a = (2, 6) ∧ ρ a = 2010 := hR.ff 9 (by decide)
  have hN9 : a9 ≠ md := zkn2 hA9 hmd (by simp)
  refine lv_aload_n (pc := 0) hx hb dX9_addTurn_0 rfl (lv_at hl 0 rfl) ?_
  refine ziconst (pc := 1) (n := 0) hx hb dX9_addTurn_1 ?_
  refine zputI (pc := 2) hx hb hG hown hw hmd (T := TX9) rfl 0 (by decide) rfl wf_X9_87 rfl (by decide +kernel) rfl dX9_addTurn_2 (fun H locs hw => ?_)
  obtain ⟨X2, eX2⟩ : ∃ Y : zX, Y = up2 X md 0 0 := ⟨_, rfl⟩
  rw [← eX2] at hw
  have hE2 : X2 a2 = M 2 := by rw [eX2, up2_o hN2]; exact hD2
  have hE3 : X2 a3 = M 3 := by rw [eX2, up2_o hN3]; exact hD3
  have hE7 : X2 a7 = M 7 := by rw [eX2, up2_o hN7]; exact hD7
  have hE8 : X2 a8 = M 8 := by rw [eX2, up2_o hN8]; exact hD8
  have hz1 : X2 md 1 = M 40 1 := by rw [eX2, up2_k (by decide)]; exact hq1
  have hz5 : X2 md 5 = M 40 5 := by rw [eX2, up2_k (by decide)]; exact hq5
  refine lv_aload_n (pc := 5) hx hb dX9_addTurn_5 rfl (lv_at hl 0 rfl) ?_
  refine lv_iload_n (pc := 6) hx hb dX9_addTurn_6 rfl (lv_at hl 1 rfl) ?_
  refine zkIp (pc := 7) (zrV (As := [.int (iI a)]) hx hb hml hown hG hw (c_X9_isPlace l Γ K X2 Rf md a  (by (first | assumption | omega)) (by (first | assumption | omega))) (T := TX9) hmd rfl cb_X9_isPlace wl_X9_161 rfl ⟨Nat.le_of_ble_eq_true rfl, Nat.le_of_ble_eq_true rfl⟩ hl.1 rfl (Nat.le_of_ble_eq_true rfl) dX9_addTurn_7 ⟨Nat.zero_le _, Nat.zero_le _⟩) hw (fun r7 H locs hp7 hw => ?_)
  subst hp7
  refine zif_eq (pc := 10) hx hb 22 (by omega) dX9_addTurn_10 (by decide) (fun c10 => ?_) (fun c10 => ?_)
  · skip
    replace c10 := it0 c10
    refine lv_aload_n (pc := 22) hx hb dX9_addTurn_22 rfl (lv_at hl 0 rfl) ?_
    refine ziconst (pc := 23) (n := 1) hx hb dX9_addTurn_23 ?_
    refine zkIx (pc := 24) (zrV (As := [.int (iI 1)]) hx hb hml hown hG hw (c_X9_refuse l Γ K X2 Rf md 1  (by (first | assumption | omega))) (T := TX9) hmd rfl cb_X9_refuse wl_X9_123 rfl ⟨Nat.le_of_ble_eq_true rfl, Nat.le_of_ble_eq_true rfl⟩ hl.1 rfl (Nat.le_of_ble_eq_true rfl) dX9_addTurn_24 ⟨Nat.zero_le _, Nat.zero_le _⟩) hw (fun r24 X24 H locs hp24 hw => ?_)
    obtain ⟨hrf24, eX24⟩ := hp24
    exact zretI (pc := 27) hx hb hlocks hr hw (Nat.zero_le _) (Nat.zero_le _) dX9_addTurn_27 (by refine ⟨fun hz => by (exfalso; revert hz; (unfold cdAtu; (repeat' split) <;> omega)), ?_⟩; exact hR.no (by (unfold cdAtu; (repeat' split) <;> omega)) (by rw [eX24]; (try rw [eX2]); (try rw [up2_up2]); exact thr_c (by (unfold cdAtu; (repeat' split) <;> omega))))
  · skip
    replace c10 := it1 c10
    refine lv_aload_n (pc := 13) hx hb dX9_addTurn_13 rfl (lv_at hl 0 rfl) ?_
    refine lv_iload (pc := 14) hx hb dX9_addTurn_14 (lv_at hl 4 rfl) ?_
    refine zkIp (pc := 16) (zrV (As := [.int (iI b9)]) hx hb hml hown hG hw (c_X9_isPattern l Γ K X2 Rf md b9  (by (first | assumption | omega)) (by (first | assumption | omega))) (T := TX9) hmd rfl cb_X9_isPattern wl_X9_148 rfl ⟨Nat.le_of_ble_eq_true rfl, Nat.le_of_ble_eq_true rfl⟩ hl.1 rfl (Nat.le_of_ble_eq_true rfl) dX9_addTurn_16 ⟨Nat.zero_le _, Nat.zero_le _⟩) hw (fun r16 H locs hp16 hw => ?_)
    subst hp16
    refine zif_ne (pc := 19) hx hb 28 (by omega) dX9_addTurn_19 (by decide) (fun c19 => ?_) (fun c19 => ?_)
    · skip
      replace c19 := it1 c19
      refine lv_iload_n (pc := 28) hx hb dX9_addTurn_28 rfl (lv_at hl 2 rfl) ?_
      refine zkIp (pc := 29) (zrS (As := [.int (iI fy)]) hx hb hml hown hG hw (c_X9_isYear l Γ K X2 Rf fy  (by (first | assumption | omega))) cb_X9_isYear wl_X9_119 rfl ⟨Nat.le_of_ble_eq_true rfl, Nat.le_of_ble_eq_true rfl⟩ hl.1 rfl (Nat.le_of_ble_eq_true rfl) dX9_addTurn_29 ⟨Nat.zero_le _, Nat.zero_le _⟩) hw (fun r29 H locs hp29 hw => ?_)
      subst hp29
      refine zif_eq (pc := 32) hx hb 102 (by omega) dX9_addTurn_32 (by decide) (fun c32 => ?_) (fun c32 => ?_)
      · skip
        replace c32 := it0 c32
        refine lv_aload_n (pc := 102) hx hb dX9_addTurn_102 rfl (lv_at hl 0 rfl) ?_
        refine ziconst (pc := 103) (n := 2) hx hb dX9_addTurn_103 ?_
        refine zkIx (pc := 104) (zrV (As := [.int (iI 2)]) hx hb hml hown hG hw (c_X9_refuse l Γ K X2 Rf md 2  (by (first | assumption | omega))) (T := TX9) hmd rfl cb_X9_refuse wl_X9_123 rfl ⟨Nat.le_of_ble_eq_true rfl, Nat.le_of_ble_eq_true rfl⟩ hl.1 rfl (Nat.le_of_ble_eq_true rfl) dX9_addTurn_104 ⟨Nat.zero_le _, Nat.zero_le _⟩) hw (fun r104 X104 H locs hp104 hw => ?_)
        obtain ⟨hrf104, eX104⟩ := hp104
        exact zretI (pc := 107) hx hb hlocks hr hw (Nat.zero_le _) (Nat.zero_le _) dX9_addTurn_107 (by refine ⟨fun hz => by (exfalso; revert hz; (unfold cdAtu; (repeat' split) <;> omega)), ?_⟩; exact hR.no (by (unfold cdAtu; (repeat' split) <;> omega)) (by rw [eX104]; (try rw [eX2]); (try rw [up2_up2]); exact thr_c (by (unfold cdAtu; (repeat' split) <;> omega))))
      · skip
        replace c32 := it1 c32
        refine lv_iload_n (pc := 35) hx hb dX9_addTurn_35 rfl (lv_at hl 3 rfl) ?_
        refine lv_iload_n (pc := 36) hx hb dX9_addTurn_36 rfl (lv_at hl 2 rfl) ?_
        refine zsipush (pc := 37) (n := 2099) hx hb dX9_addTurn_37 rfl ?_
        refine zkIp (pc := 40) (zrS (As := [.int (iI ly), .int (iI fy), .int (iI 2099)]) hx hb hml hown hG hw (c_X9_is l Γ K X2 Rf ly fy 2099  (by (first | assumption | omega))) cb_X9_is wl_X9_91 rfl ⟨Nat.le_of_ble_eq_true rfl, Nat.le_of_ble_eq_true rfl⟩ hl.1 rfl (Nat.le_of_ble_eq_true rfl) dX9_addTurn_40 ⟨Nat.zero_le _, Nat.zero_le _⟩) hw (fun r40 H locs hp40 hw => ?_)
        subst hp40
        refine zif_eq (pc := 43) hx hb 102 (by omega) dX9_addTurn_43 (by decide) (fun c43 => ?_) (fun c43 => ?_)
        · skip
          replace c43 := it0 c43
          refine lv_aload_n (pc := 102) hx hb dX9_addTurn_102 rfl (lv_at hl 0 rfl) ?_
          refine ziconst (pc := 103) (n := 2) hx hb dX9_addTurn_103 ?_
          refine zkIx (pc := 104) (zrV (As := [.int (iI 2)]) hx hb hml hown hG hw (c_X9_refuse l Γ K X2 Rf md 2  (by (first | assumption | omega))) (T := TX9) hmd rfl cb_X9_refuse wl_X9_123 rfl ⟨Nat.le_of_ble_eq_true rfl, Nat.le_of_ble_eq_true rfl⟩ hl.1 rfl (Nat.le_of_ble_eq_true rfl) dX9_addTurn_104 ⟨Nat.zero_le _, Nat.zero_le _⟩) hw (fun r104 X104 H locs hp104 hw => ?_)
          obtain ⟨hrf104, eX104⟩ := hp104
          exact zretI (pc := 107) hx hb hlocks hr hw (Nat.zero_le _) (Nat.zero_le _) dX9_addTurn_107 (by refine ⟨fun hz => by (exfalso; revert hz; (unfold cdAtu; (repeat' split) <;> omega)), ?_⟩; exact hR.no (by (unfold cdAtu; (repeat' split) <;> omega)) (by rw [eX104]; (try rw [eX2]); (try rw [up2_up2]); exact thr_c (by (unfold cdAtu; (repeat' split) <;> omega))))
        · skip
          replace c43 := it1 c43
          refine lv_iload (pc := 46) hx hb dX9_addTurn_46 (lv_at hl 5 rfl) ?_
          refine ziconst (pc := 48) (n := 0) hx hb dX9_addTurn_48 ?_
          refine zsipush (pc := 49) (n := 1439) hx hb dX9_addTurn_49 rfl ?_
          refine zkIp (pc := 52) (zrS (As := [.int (iI mn), .int (iI 0), .int (iI 1439)]) hx hb hml hown hG hw (c_X9_is l Γ K X2 Rf mn 0 1439  (by (first | assumption | omega))) cb_X9_is wl_X9_91 rfl ⟨Nat.le_of_ble_eq_true rfl, Nat.le_of_ble_eq_true rfl⟩ hl.1 rfl (Nat.le_of_ble_eq_true rfl) dX9_addTurn_52 ⟨Nat.zero_le _, Nat.zero_le _⟩) hw (fun r52 H locs hp52 hw => ?_)
          subst hp52
          refine zif_eq (pc := 55) hx hb 102 (by omega) dX9_addTurn_55 (by decide) (fun c55 => ?_) (fun c55 => ?_)
          · skip
            replace c55 := it0 c55
            refine lv_aload_n (pc := 102) hx hb dX9_addTurn_102 rfl (lv_at hl 0 rfl) ?_
            refine ziconst (pc := 103) (n := 2) hx hb dX9_addTurn_103 ?_
            refine zkIx (pc := 104) (zrV (As := [.int (iI 2)]) hx hb hml hown hG hw (c_X9_refuse l Γ K X2 Rf md 2  (by (first | assumption | omega))) (T := TX9) hmd rfl cb_X9_refuse wl_X9_123 rfl ⟨Nat.le_of_ble_eq_true rfl, Nat.le_of_ble_eq_true rfl⟩ hl.1 rfl (Nat.le_of_ble_eq_true rfl) dX9_addTurn_104 ⟨Nat.zero_le _, Nat.zero_le _⟩) hw (fun r104 X104 H locs hp104 hw => ?_)
            obtain ⟨hrf104, eX104⟩ := hp104
            exact zretI (pc := 107) hx hb hlocks hr hw (Nat.zero_le _) (Nat.zero_le _) dX9_addTurn_107 (by refine ⟨fun hz => by (exfalso; revert hz; (unfold cdAtu; (repeat' split) <;> omega)), ?_⟩; exact hR.no (by (unfold cdAtu; (repeat' split) <;> omega)) (by rw [eX104]; (try rw [eX2]); (try rw [up2_up2]); exact thr_c (by (unfold cdAtu; (repeat' split) <;> omega))))
          · skip
            replace c55 := it1 c55
            refine lv_iload (pc := 58) hx hb dX9_addTurn_58 (lv_at hl 6 rfl) ?_
            refine ziconst (pc := 60) (n := 0) hx hb dX9_addTurn_60 ?_
            refine ziconst (pc := 61) (n := 2) hx hb dX9_addTurn_61 ?_
            refine zkIp (pc := 62) (zrS (As := [.int (iI cl), .int (iI 0), .int (iI 2)]) hx hb hml hown hG hw (c_X9_is l Γ K X2 Rf cl 0 2  (by (first | assumption | omega))) cb_X9_is wl_X9_91 rfl ⟨Nat.le_of_ble_eq_true rfl, Nat.le_of_ble_eq_true rfl⟩ hl.1 rfl (Nat.le_of_ble_eq_true rfl) dX9_addTurn_62 ⟨Nat.zero_le _, Nat.zero_le _⟩) hw (fun r62 H locs hp62 hw => ?_)
            subst hp62
            refine zif_eq (pc := 65) hx hb 102 (by omega) dX9_addTurn_65 (by decide) (fun c65 => ?_) (fun c65 => ?_)
            · skip
              replace c65 := it0 c65
              refine lv_aload_n (pc := 102) hx hb dX9_addTurn_102 rfl (lv_at hl 0 rfl) ?_
              refine ziconst (pc := 103) (n := 2) hx hb dX9_addTurn_103 ?_
              refine zkIx (pc := 104) (zrV (As := [.int (iI 2)]) hx hb hml hown hG hw (c_X9_refuse l Γ K X2 Rf md 2  (by (first | assumption | omega))) (T := TX9) hmd rfl cb_X9_refuse wl_X9_123 rfl ⟨Nat.le_of_ble_eq_true rfl, Nat.le_of_ble_eq_true rfl⟩ hl.1 rfl (Nat.le_of_ble_eq_true rfl) dX9_addTurn_104 ⟨Nat.zero_le _, Nat.zero_le _⟩) hw (fun r104 X104 H locs hp104 hw => ?_)
              obtain ⟨hrf104, eX104⟩ := hp104
              exact zretI (pc := 107) hx hb hlocks hr hw (Nat.zero_le _) (Nat.zero_le _) dX9_addTurn_107 (by refine ⟨fun hz => by (exfalso; revert hz; (unfold cdAtu; (repeat' split) <;> omega)), ?_⟩; exact hR.no (by (unfold cdAtu; (repeat' split) <;> omega)) (by rw [eX104]; (try rw [eX2]); (try rw [up2_up2]); exact thr_c (by (unfold cdAtu; (repeat' split) <;> omega))))
            · skip
              replace c65 := it1 c65
              refine lv_iload (pc := 68) hx hb dX9_addTurn_68 (lv_at hl 7 rfl) ?_
              refine ziconst (pc := 70) (n := 0) hx hb dX9_addTurn_70 ?_
              refine zsipush (pc := 71) (n := 180) hx hb dX9_addTurn_71 rfl ?_
              refine zkIp (pc := 74) (zrS (As := [.int (iI sv), .int (iI 0), .int (iI 180)]) hx hb hml hown hG hw (c_X9_is l Γ K X2 Rf sv 0 180  (by (first | assumption | omega))) cb_X9_is wl_X9_91 rfl ⟨Nat.le_of_ble_eq_true rfl, Nat.le_of_ble_eq_true rfl⟩ hl.1 rfl (Nat.le_of_ble_eq_true rfl) dX9_addTurn_74 ⟨Nat.zero_le _, Nat.zero_le _⟩) hw (fun r74 H locs hp74 hw => ?_)
              subst hp74
              refine zif_eq (pc := 77) hx hb 102 (by omega) dX9_addTurn_77 (by decide) (fun c77 => ?_) (fun c77 => ?_)
              · skip
                replace c77 := it0 c77
                refine lv_aload_n (pc := 102) hx hb dX9_addTurn_102 rfl (lv_at hl 0 rfl) ?_
                refine ziconst (pc := 103) (n := 2) hx hb dX9_addTurn_103 ?_
                refine zkIx (pc := 104) (zrV (As := [.int (iI 2)]) hx hb hml hown hG hw (c_X9_refuse l Γ K X2 Rf md 2  (by (first | assumption | omega))) (T := TX9) hmd rfl cb_X9_refuse wl_X9_123 rfl ⟨Nat.le_of_ble_eq_true rfl, Nat.le_of_ble_eq_true rfl⟩ hl.1 rfl (Nat.le_of_ble_eq_true rfl) dX9_addTurn_104 ⟨Nat.zero_le _, Nat.zero_le _⟩) hw (fun r104 X104 H locs hp104 hw => ?_)
                obtain ⟨hrf104, eX104⟩ := hp104
                exact zretI (pc := 107) hx hb hlocks hr hw (Nat.zero_le _) (Nat.zero_le _) dX9_addTurn_107 (by refine ⟨fun hz => by (exfalso; revert hz; (unfold cdAtu; (repeat' split) <;> omega)), ?_⟩; exact hR.no (by (unfold cdAtu; (repeat' split) <;> omega)) (by rw [eX104]; (try rw [eX2]); (try rw [up2_up2]); exact thr_c (by (unfold cdAtu; (repeat' split) <;> omega))))
              · skip
                replace c77 := it1 c77
                have jn108_0 : ∀  (H : Heap) (locs : List Loc), (hj : patM M b9.toNat 0 ≠ 0 ∨ patM M b9.toNat 1 = 16) → Wd Γ (zA K s.heap.size) K X2 Rf s H locs → ∀ ls : Array Slot, lv_has ls 9 [(0, .ref md), (1, .int (iI a)), (2, .int (iI fy)), (3, .int (iI ly)), (4, .int (iI b9)), (5, .int (iI mn)), (6, .int (iI cl)), (7, .int (iI sv))] → W p l e (rmL 2 1 6) s m ([.ref md, .int (iI a), .int (iI fy), .int (iI ly), .int (iI b9), .int (iI mn), .int (iI cl), .int (iI sv)] : List Value).toArray below meth c H locs 0 0 (MQ below (zQ Γ K s.heap.size (pI (fun (r : Int) (K' : zK) (X' : zX) (R' : zR) => (cdAtu M a fy ly b9 mn cl sv = 0 → r = M 7 a.toNat) ∧ X' md 0 = cdAtu M a fy ly b9 mn cl sv ∧ ∃ ρ', repR ρ' K' X' R' md (if cdAtu M a fy ly b9 mn cl sv = 0 then tuM M a.toNat fy ly b9 mn cl sv else M) ∧ frR ρ K X Rf ρ' K' X' R'))) ([.ref md, .int (iI a), .int (iI fy), .int (iI ly), .int (iI b9), .int (iI mn), .int (iI cl), .int (iI sv)] : List Value).toArray s 1 6 (zA K s.heap.size)) (F0 m 108 ls []) := by
                  intro H locs hj hw ls hl
                  have hv7 : X2 a7 a.toNat = M 7 a.toNat := by rw [hE7]
                  have hb7 := (hokL a.toNat (by omega)).2.1
                  refine lv_aload_n (pc := 108) hx hb dX9_addTurn_108 rfl (lv_at hl 0 rfl) ?_
                  refine zgetR (pc := 109) hx hb hG hown hw hmd (T := TX9) rfl 7 (by decide) rfl wf_X9_22 rfl hB7 dX9_addTurn_109 ?_
                  refine lv_iload_n (pc := 112) hx hb dX9_addTurn_112 rfl (lv_at hl 1 rfl) ?_
                  refine zald (pc := 113) hx hb hw hA7 ⟨by omega, by omega⟩ (by omega) dX9_addTurn_113 ?_
                  refine zbipush (pc := 114) (n := 6) hx hb dX9_addTurn_114 rfl ?_
                  refine zicmp_ne (pc := 116) hx hb 125 (by omega) (by omega) dX9_addTurn_116 (by decide) (fun c116 => ?_) (fun c116 => ?_)
                  · skip
                    refine zbipush (pc := 125) (n := 6) hx hb dX9_addTurn_125 rfl ?_
                    refine znewi (pc := 127) hx hb hG hw wa_int ⟨by omega, by omega⟩ (by show 0 + 1 ≤ 1; omega) (by show 0 + 6 ≤ 6; omega) dX9_addTurn_127 (fun q127 H hfq127 hw => ?_)
                    obtain ⟨K127, eK127⟩ : ∃ Y : zK, Y = zup K q127 (2, 6) := ⟨_, rfl⟩
                    obtain ⟨X127, eX127⟩ : ∃ Y : zX, Y = zupX X2 q127 := ⟨_, rfl⟩
                    obtain ⟨R127, eR127⟩ : ∃ Y : zR, Y = zupR Rf q127 := ⟨_, rfl⟩
                    replace hw := Wd.re hw eK127 eX127 eR127
                    have hk127 : K127 md = (1, 8) := by rw [eK127]; exact zup_k hfq127 hmd (Nat.succ_ne_zero _)
                    have hn127 : md ≠ q127 := zne hmd hfq127
                    have hk127_1 : K127 a2 = (2, 24) := by rw [eK127]; exact zup_k hfq127 hA2 (Nat.succ_ne_zero _)
                    have hn127_1 : a2 ≠ q127 := zne hA2 hfq127
                    have hk127_2 : K127 a3 = (2, 24) := by rw [eK127]; exact zup_k hfq127 hA3 (Nat.succ_ne_zero _)
                    have hn127_2 : a3 ≠ q127 := zne hA3 hfq127
                    have hk127_3 : K127 a7 = (2, 6) := by rw [eK127]; exact zup_k hfq127 hA7 (Nat.succ_ne_zero _)
                    have hn127_3 : a7 ≠ q127 := zne hA7 hfq127
                    have hk127_4 : K127 a8 = (2, 216) := by rw [eK127]; exact zup_k hfq127 hA8 (Nat.succ_ne_zero _)
                    have hn127_4 : a8 ≠ q127 := zne hA8 hfq127
                    have hk127_5 : K127 a9 = (2, 6) := by rw [eK127]; exact zup_k hfq127 hA9 (Nat.succ_ne_zero _)
                    have hn127_5 : a9 ≠ q127 := zne hA9 hfq127
                    have hk127_6 : K127 q127 = (2, 6) := by rw [eK127]; exact zup_s
                    have hr127 : R127 md 2 = some a2 := by rw [eR127, zupR_n hn127]; exact hB2
                    have hr127_1 : R127 md 3 = some a3 := by rw [eR127, zupR_n hn127]; exact hB3
                    have hr127_2 : R127 md 7 = some a7 := by rw [eR127, zupR_n hn127]; exact hB7
                    have hr127_3 : R127 md 8 = some a8 := by rw [eR127, zupR_n hn127]; exact hB8
                    have hr127_4 : R127 md 9 = some a9 := by rw [eR127, zupR_n hn127]; exact hB9
                    refine lv_dup (pc := 129) hx hb dX9_addTurn_129 rfl ?_
                    refine ziconst (pc := 130) (n := 0) hx hb dX9_addTurn_130 ?_
                    refine lv_iload_n (pc := 131) hx hb dX9_addTurn_131 rfl (lv_at hl 2 rfl) ?_
                    refine zast (pc := 132) hx hb hw hk127_6 ⟨by omega, by omega⟩ (by omega) dX9_addTurn_132 (fun H locs hw => ?_)
                    obtain ⟨X132, eX132⟩ : ∃ Y : zX, Y = up2 X127 q127 0 fy := ⟨_, rfl⟩
                    rw [← eX132] at hw
                    refine lv_dup (pc := 133) hx hb dX9_addTurn_133 rfl ?_
                    refine ziconst (pc := 134) (n := 1) hx hb dX9_addTurn_134 ?_
                    refine lv_iload_n (pc := 135) hx hb dX9_addTurn_135 rfl (lv_at hl 3 rfl) ?_
                    refine zast (pc := 136) hx hb hw hk127_6 ⟨by omega, by omega⟩ (by omega) dX9_addTurn_136 (fun H locs hw => ?_)
                    obtain ⟨X136, eX136⟩ : ∃ Y : zX, Y = up2 X132 q127 1 ly := ⟨_, rfl⟩
                    rw [← eX136] at hw
                    refine lv_dup (pc := 137) hx hb dX9_addTurn_137 rfl ?_
                    refine ziconst (pc := 138) (n := 2) hx hb dX9_addTurn_138 ?_
                    refine lv_iload (pc := 139) hx hb dX9_addTurn_139 (lv_at hl 4 rfl) ?_
                    refine zast (pc := 141) hx hb hw hk127_6 ⟨by omega, by omega⟩ (by omega) dX9_addTurn_141 (fun H locs hw => ?_)
                    obtain ⟨X141, eX141⟩ : ∃ Y : zX, Y = up2 X136 q127 2 b9 := ⟨_, rfl⟩
                    rw [← eX141] at hw
                    refine lv_dup (pc := 142) hx hb dX9_addTurn_142 rfl ?_
                    refine ziconst (pc := 143) (n := 3) hx hb dX9_addTurn_143 ?_
                    refine lv_iload (pc := 144) hx hb dX9_addTurn_144 (lv_at hl 5 rfl) ?_
                    refine zast (pc := 146) hx hb hw hk127_6 ⟨by omega, by omega⟩ (by omega) dX9_addTurn_146 (fun H locs hw => ?_)
                    obtain ⟨X146, eX146⟩ : ∃ Y : zX, Y = up2 X141 q127 3 mn := ⟨_, rfl⟩
                    rw [← eX146] at hw
                    refine lv_dup (pc := 147) hx hb dX9_addTurn_147 rfl ?_
                    refine ziconst (pc := 148) (n := 4) hx hb dX9_addTurn_148 ?_
                    refine lv_iload (pc := 149) hx hb dX9_addTurn_149 (lv_at hl 6 rfl) ?_
                    refine zast (pc := 151) hx hb hw hk127_6 ⟨by omega, by omega⟩ (by omega) dX9_addTurn_151 (fun H locs hw => ?_)
                    obtain ⟨X151, eX151⟩ : ∃ Y : zX, Y = up2 X146 q127 4 cl := ⟨_, rfl⟩
                    rw [← eX151] at hw
                    refine lv_dup (pc := 152) hx hb dX9_addTurn_152 rfl ?_
                    refine ziconst (pc := 153) (n := 5) hx hb dX9_addTurn_153 ?_
                    refine lv_iload (pc := 154) hx hb dX9_addTurn_154 (lv_at hl 7 rfl) ?_
                    refine zast (pc := 156) hx hb hw hk127_6 ⟨by omega, by omega⟩ (by omega) dX9_addTurn_156 (fun H locs hw => ?_)
                    obtain ⟨X156, eX156⟩ : ∃ Y : zX, Y = up2 X151 q127 5 sv := ⟨_, rfl⟩
                    rw [← eX156] at hw
                    have hv156 : X156 a7 a.toNat = M 7 a.toNat := by
                      have hne := zfa (zk1 hA7) hfq127
                      rw [eX156, up2_o hne, eX151, up2_o hne, eX146, up2_o hne, eX141, up2_o hne, eX136, up2_o hne, eX132, up2_o hne, eX127, zupX_n hne]; exact hv7
                    refine lv_astore (pc := 157) (lv' := [(8, .ref q127), (0, .ref md), (1, .int (iI a)), (2, .int (iI fy)), (3, .int (iI ly)), (4, .int (iI b9)), (5, .int (iI mn)), (6, .int (iI cl)), (7, .int (iI sv))]) hx hb dX9_addTurn_157 hl (by decide) rfl (fun ls hl => ?_)
                    refine lv_aload (pc := 159) hx hb dX9_addTurn_159 (lv_at hl 0 rfl) ?_
                    refine ziconst (pc := 161) (n := 0) hx hb dX9_addTurn_161 ?_
                    refine lv_aload_n (pc := 162) hx hb dX9_addTurn_162 rfl (lv_at hl 1 rfl) ?_
                    refine zgetR (pc := 163) hx hb hG hown hw hk127 (T := TX9) rfl 8 (by decide) rfl wf_X9_25 rfl hr127_3 dX9_addTurn_163 ?_
                    refine zbipush (pc := 166) (n := 6) hx hb dX9_addTurn_166 rfl ?_
                    refine lv_iload_n (pc := 168) hx hb dX9_addTurn_168 rfl (lv_at hl 2 rfl) ?_
                    refine zmul (pc := 169) hx hb dX9_addTurn_169 ?_
                    refine lv_aload_n (pc := 170) hx hb dX9_addTurn_170 rfl (lv_at hl 1 rfl) ?_
                    refine zgetR (pc := 171) hx hb hG hown hw hk127 (T := TX9) rfl 7 (by decide) rfl wf_X9_22 rfl hr127_2 dX9_addTurn_171 ?_
                    refine lv_iload_n (pc := 174) hx hb dX9_addTurn_174 rfl (lv_at hl 2 rfl) ?_
                    refine zald (pc := 175) hx hb hw hk127_3 ⟨by omega, by omega⟩ (by omega) dX9_addTurn_175 ?_
                    refine zadd (pc := 176) hx hb dX9_addTurn_176 ?_
                    refine zbipush (pc := 177) (n := 6) hx hb dX9_addTurn_177 rfl ?_
                    refine zmul (pc := 179) hx hb dX9_addTurn_179 ?_
                    refine zbipush (pc := 180) (n := 6) hx hb dX9_addTurn_180 rfl ?_
                    refine zcopy (pc := 182) hx hb (hml.trans hl.1.symm) hown hG wl_X9_164 w2_zco w1_zco wi_javalangSystem hw hk127_6 hk127_4 (by omega) (by omega) (Nat.le_of_ble_eq_true rfl) (Nat.le_of_ble_eq_true rfl) dX9_addTurn_182 (fun H locs hw => ?_)
                    obtain ⟨X182, eX182⟩ : ∃ Y : zX, Y = zcp X156 q127 a8 0 (((6 * a) + (X156 a7 a.toNat)) * 6).toNat 6 := ⟨_, rfl⟩
                    rw [← eX182] at hw
                    have hv182 : X182 a7 a.toNat = M 7 a.toNat := by rw [eX182, zcp_o (zne9 hL7 hL8 (by decide))]; exact hv156
                    refine lv_aload_n (pc := 185) hx hb dX9_addTurn_185 rfl (lv_at hl 1 rfl) ?_
                    refine zgetR (pc := 186) hx hb hG hown hw hk127 (T := TX9) rfl 7 (by decide) rfl wf_X9_22 rfl hr127_2 dX9_addTurn_186 ?_
                    refine lv_iload_n (pc := 189) hx hb dX9_addTurn_189 rfl (lv_at hl 2 rfl) ?_
                    refine lv_dup2_11 (pc := 190) hx hb dX9_addTurn_190 rfl rfl ?_
                    refine zald (pc := 191) hx hb hw hk127_3 ⟨by omega, by omega⟩ (by omega) dX9_addTurn_191 ?_
                    refine ziconst (pc := 192) (n := 1) hx hb dX9_addTurn_192 ?_
                    refine zadd (pc := 193) hx hb dX9_addTurn_193 ?_
                    refine zast (pc := 194) hx hb hw hk127_3 ⟨by omega, by omega⟩ (by omega) dX9_addTurn_194 (fun H locs hw => ?_)
                    obtain ⟨X194, eX194⟩ : ∃ Y : zX, Y = up2 X182 a7 a.toNat ((X182 a7 a.toNat) + 1) := ⟨_, rfl⟩
                    rw [← eX194] at hw
                    have hv194 : X194 a7 a.toNat = M 7 a.toNat + 1 := by rw [eX194, up2_s, hv182]
                    refine lv_aload_n (pc := 195) hx hb dX9_addTurn_195 rfl (lv_at hl 1 rfl) ?_
                    refine zgetR (pc := 196) hx hb hG hown hw hk127 (T := TX9) rfl 9 (by decide) rfl wf_X9_28 rfl hr127_4 dX9_addTurn_196 ?_
                    refine lv_iload_n (pc := 199) hx hb dX9_addTurn_199 rfl (lv_at hl 2 rfl) ?_
                    refine ziconst (pc := 200) (n := (-1)) hx hb dX9_addTurn_200 ?_
                    refine zast (pc := 201) hx hb hw hk127_5 ⟨by omega, by omega⟩ (by omega) dX9_addTurn_201 (fun H locs hw => ?_)
                    obtain ⟨X201, eX201⟩ : ∃ Y : zX, Y = up2 X194 a9 a.toNat (-1) := ⟨_, rfl⟩
                    rw [← eX201] at hw
                    have hv201 : X201 a7 a.toNat = M 7 a.toNat + 1 := by rw [eX201, up2_o (zne9 hL7 hL9 (by decide))]; exact hv194
                    refine lv_aload_n (pc := 202) hx hb dX9_addTurn_202 rfl (lv_at hl 1 rfl) ?_
                    refine zgetR (pc := 203) hx hb hG hown hw hk127 (T := TX9) rfl 7 (by decide) rfl wf_X9_22 rfl hr127_2 dX9_addTurn_203 ?_
                    refine lv_iload_n (pc := 206) hx hb dX9_addTurn_206 rfl (lv_at hl 2 rfl) ?_
                    refine zald (pc := 207) hx hb hw hk127_3 ⟨by omega, by omega⟩ (by omega) dX9_addTurn_207 ?_
                    refine ziconst (pc := 208) (n := 1) hx hb dX9_addTurn_208 ?_
                    refine zsub (pc := 209) hx hb dX9_addTurn_209 ?_
                    exact zretI (pc := 210) hx hb hlocks hr hw (by show 0 + 1 ≤ 1; omega) (by show 0 + 6 ≤ 6; omega) dX9_addTurn_210 (by 
                                        refine ⟨fun _ => by omega, ?_⟩
                                        have gK : ∀ a9, (K a9).1 ≠ 0 → K127 a9 = K a9 := fun a9 h9 => by rw [eK127, zup_n (zfa h9 hfq127)]
                                        have gR : ∀ a9, (K a9).1 ≠ 0 → R127 a9 = Rf a9 := fun a9 h9 => by rw [eR127, zupR_n (zfa h9 hfq127)]
                                        have hmn : (K md).1 ≠ 0 := zk1 hmd
                                        have h8q : a8 ≠ q127 := zfa (zk1 hA8) hfq127
                                        have h78 : a7 ≠ a8 := zne9 hL7 hL8 (by decide)
                                        have h79 : a7 ≠ a9 := zne9 hL7 hL9 (by decide)
                                        have h89 : a8 ≠ a9 := zne9 hL8 hL9 (by decide)
                                        obtain ⟨n9, hn9⟩ : ∃ n9 : Nat, M 7 a.toNat = n9 := ⟨(M 7 a.toNat).toNat, by omega⟩
                                        have hn8 : (M 7 a.toNat).toNat = n9 := by omega
                                        have hdp : ((6 * a + X156 a7 a.toNat) * 6).toNat = (6 * a.toNat + n9) * 6 := by omega
                                        rw [hdp] at eX182
                                        have XS : ∀ j, j < 6 → X156 q127 j = tuV fy ly b9 mn cl sv j := fun j hj => by
                                          rcases (by omega : j = 0 ∨ j = 1 ∨ j = 2 ∨ j = 3 ∨ j = 4 ∨ j = 5) with rfl | rfl | rfl | rfl | rfl | rfl <;> (rw [eX156, eX151, eX146, eX141, eX136, eX132]; simp [up2, tuV])
                                        have gX : ∀ a9, (K a9).1 ≠ 0 → X156 a9 = X2 a9 := fun a9 h9 => by
                                          have hne := zfa h9 hfq127
                                          rw [eX156, up2_o hne, eX151, up2_o hne, eX146, up2_o hne, eX141, up2_o hne, eX136, up2_o hne, eX132, up2_o hne, eX127, zupX_n hne]
                                        have gX8 : ∀ b, (K b).1 ≠ 0 → b ≠ md → b ≠ a7 → b ≠ a8 → b ≠ a9 → X201 b = X b := fun b h9 g1 g2 g3 g4 => by rw [eX201, up2_o g4, eX194, up2_o g2, eX182, zcp_o g3, gX b h9, eX2, up2_o g1]
                                        have hn0 := hR.n.own (q := 0) (v := 0) rfl
                                        rw [← eX2] at hn0
                                        have hn1 := hn0.ext (ρ' := ρ) (K' := K127) (X' := X156) (Rf' := R127) gK (fun _ _ => rfl) gX (gR md hmn)
                                        have r7 : R127 md 7 = some a7 := by rw [gR md hmn]; exact hB7
                                        have r8 : R127 md 8 = some a8 := by rw [gR md hmn]; exact hB8
                                        have r9 : R127 md 9 = some a9 := by rw [gR md hmn]; exact hB9
                                        have x8 : X156 a8 = M 8 := by rw [gX a8 (zk1 hA8)]; exact hE8
                                        have x7 : X182 a7 = M 7 := by rw [eX182, zcp_o h78, gX a7 (zk1 hA7)]; exact hE7
                                        have hn2 := hn1.rowF (f := 8) (a := a8) (X' := X182) (M' := fun g => if g = 8 then tuM M a.toNat fy ly b9 mn cl sv 8 else M g) (by decide) r8 (fun b hb => by rw [eX182, zcp_o hb]) (fun g hg => if_neg hg) (fun _ => by
                                          show X182 a8 = tuM M a.toNat fy ly b9 mn cl sv 8
                                          funext j
                                          rw [eX182, tuM_8, hn8]
                                          unfold zcp
                                          rw [if_pos rfl]
                                          by_cases hj : (6 * a.toNat + n9) * 6 ≤ j ∧ j < (6 * a.toNat + n9) * 6 + 6
                                          · rw [if_pos hj, if_pos hj, Nat.zero_add]; exact XS _ (by omega)
                                          · rw [if_neg hj, if_neg hj, x8])
                                        have hn3 := hn2.rowF (f := 7) (a := a7) (X' := X194) (M' := tuM M a.toNat fy ly b9 mn cl sv) (by decide) r7 (fun b hb => by rw [eX194, up2_o hb]) (fun g hg => by
                                          by_cases h8 : g = 8
                                          · subst h8; rfl
                                          · rw [if_neg h8]; exact tuM_f hg h8) (fun _ => by
                                          funext j
                                          rw [eX194, up2_eq, tuM_7, x7]
                                          by_cases hj : j = a.toNat
                                          · subst hj; rw [if_pos ⟨rfl, rfl⟩, if_pos rfl]
                                          · rw [if_neg (fun g => hj g.2), if_neg hj])
                                        have hn4 := hn3.oth (f := 9) (a := a9) (X' := X201) (by decide) r9 rfl (fun b hb => by rw [eX201, up2_o hb])
                                        have h35 : X201 md 35 = X md 35 := by rw [eX201, up2_o (Ne.symm hN9), eX194, up2_o (Ne.symm hN7), eX182, zcp_o (Ne.symm hN8), gX md hmn, eX2, up2_k (by decide)]
                                        have h0 : X201 md 0 = 0 := by rw [eX201, up2_o (Ne.symm hN9), eX194, up2_o (Ne.symm hN7), eX182, zcp_o (Ne.symm hN8), gX md hmn, eX2, up2_s]
                                        refine hR.mutG (cd := cdAtu M a fy ly b9 mn cl sv) gK (fun _ _ => rfl) hn4 (fun b h9 g => ⟨gX8 b h9 (fun w => by rw [w, hlmd] at g; omega) (fun w => by rw [w, hL7] at g; omega) (fun w => by rw [w, hL8] at g; omega) (fun w => by rw [w, hL9] at g; omega), gR b h9⟩) (cacR.tur hR (by omega) (by omega) (by omega) hB9 gK (fun b h9 g1 g2 g3 g4 => gX8 b h9 (fun w => g1 (by rw [w]; exact hlmd)) (fun w => g2 (by rw [w]; exact hL7)) (fun w => g3 (by rw [w]; exact hL8)) (fun w => g4 (by rw [w]; exact hL9))) ⟨by rw [eX201]; exact up2_s, fun k hk9 => ?_⟩ gR h35) h0 (by (unfold cdAtu; (repeat' split) <;> omega))
                                        rw [eX201, up2_k hk9, eX194, up2_o (Ne.symm h79), eX182, zcp_o (Ne.symm h89), gX a9 (zk1 hA9), eX2, up2_o hN9])
                  · skip
                    refine lv_aload_n (pc := 119) hx hb dX9_addTurn_119 rfl (lv_at hl 0 rfl) ?_
                    refine ziconst (pc := 120) (n := 3) hx hb dX9_addTurn_120 ?_
                    refine zkIx (pc := 121) (zrV (As := [.int (iI 3)]) hx hb hml hown hG hw (c_X9_refuse l Γ K X2 Rf md 3  (by (first | assumption | omega))) (T := TX9) hmd rfl cb_X9_refuse wl_X9_123 rfl ⟨Nat.le_of_ble_eq_true rfl, Nat.le_of_ble_eq_true rfl⟩ hl.1 rfl (Nat.le_of_ble_eq_true rfl) dX9_addTurn_121 ⟨Nat.zero_le _, Nat.zero_le _⟩) hw (fun r121 X121 H locs hp121 hw => ?_)
                    obtain ⟨hrf121, eX121⟩ := hp121
                    exact zretI (pc := 124) hx hb hlocks hr hw (Nat.zero_le _) (Nat.zero_le _) dX9_addTurn_124 (by refine ⟨fun hz => by (exfalso; revert hz; (unfold cdAtu; (repeat' split) <;> omega)), ?_⟩; exact hR.no (by (unfold cdAtu; (repeat' split) <;> omega)) (by rw [eX121]; (try rw [eX2]); (try rw [up2_up2]); exact thr_c (by (unfold cdAtu; (repeat' split) <;> omega))))
                have hm0 : X2 a2 b9.toNat = patM M b9.toNat 0 := by rw [hE2]; rfl
                have hm1 : X2 a3 b9.toNat = patM M b9.toNat 1 := by rw [hE3]; rfl
                have hp9 := (hokP b9.toNat (by omega)).1
                refine lv_aload_n (pc := 80) hx hb dX9_addTurn_80 rfl (lv_at hl 0 rfl) ?_
                refine zgetR (pc := 81) hx hb hG hown hw hmd (T := TX9) rfl 2 (by decide) rfl wf_X9_9 rfl hB2 dX9_addTurn_81 ?_
                refine lv_iload (pc := 84) hx hb dX9_addTurn_84 (lv_at hl 4 rfl) ?_
                refine zald (pc := 86) hx hb hw hA2 ⟨by omega, by omega⟩ (by omega) dX9_addTurn_86 ?_
                refine zif_ne (pc := 87) hx hb 108 (by omega) dX9_addTurn_87 (by decide) (fun c87 => ?_) (fun c87 => ?_)
                · skip
                  exact jn108_0 _ _ (by omega) hw _ (lv_sub hl [0, 1, 2, 3, 4, 5, 6, 7] rfl)
                · skip
                  refine lv_aload_n (pc := 90) hx hb dX9_addTurn_90 rfl (lv_at hl 0 rfl) ?_
                  refine zgetR (pc := 91) hx hb hG hown hw hmd (T := TX9) rfl 3 (by decide) rfl wf_X9_13 rfl hB3 dX9_addTurn_91 ?_
                  refine lv_iload (pc := 94) hx hb dX9_addTurn_94 (lv_at hl 4 rfl) ?_
                  refine zald (pc := 96) hx hb hw hA3 ⟨by omega, by omega⟩ (by omega) dX9_addTurn_96 ?_
                  refine zbipush (pc := 97) (n := 16) hx hb dX9_addTurn_97 rfl ?_
                  refine zicmp_eq (pc := 99) hx hb 108 (by omega) (by omega) dX9_addTurn_99 (by decide) (fun c99 => ?_) (fun c99 => ?_)
                  · skip
                    exact jn108_0 _ _ (by omega) hw _ (lv_sub hl [0, 1, 2, 3, 4, 5, 6, 7] rfl)
                  · skip
                    refine lv_aload_n (pc := 102) hx hb dX9_addTurn_102 rfl (lv_at hl 0 rfl) ?_
                    refine ziconst (pc := 103) (n := 2) hx hb dX9_addTurn_103 ?_
                    refine zkIx (pc := 104) (zrV (As := [.int (iI 2)]) hx hb hml hown hG hw (c_X9_refuse l Γ K X2 Rf md 2  (by (first | assumption | omega))) (T := TX9) hmd rfl cb_X9_refuse wl_X9_123 rfl ⟨Nat.le_of_ble_eq_true rfl, Nat.le_of_ble_eq_true rfl⟩ hl.1 rfl (Nat.le_of_ble_eq_true rfl) dX9_addTurn_104 ⟨Nat.zero_le _, Nat.zero_le _⟩) hw (fun r104 X104 H locs hp104 hw => ?_)
                    obtain ⟨hrf104, eX104⟩ := hp104
                    exact zretI (pc := 107) hx hb hlocks hr hw (Nat.zero_le _) (Nat.zero_le _) dX9_addTurn_107 (by refine ⟨fun hz => by (exfalso; revert hz; (unfold cdAtu; (repeat' split) <;> omega)), ?_⟩; exact hR.no (by (unfold cdAtu; (repeat' split) <;> omega)) (by rw [eX104]; (try rw [eX2]); (try rw [up2_up2]); exact thr_c (by (unfold cdAtu; (repeat' split) <;> omega))))
    · skip
      replace c19 := it0 c19
      refine lv_aload_n (pc := 22) hx hb dX9_addTurn_22 rfl (lv_at hl 0 rfl) ?_
      refine ziconst (pc := 23) (n := 1) hx hb dX9_addTurn_23 ?_
      refine zkIx (pc := 24) (zrV (As := [.int (iI 1)]) hx hb hml hown hG hw (c_X9_refuse l Γ K X2 Rf md 1  (by (first | assumption | omega))) (T := TX9) hmd rfl cb_X9_refuse wl_X9_123 rfl ⟨Nat.le_of_ble_eq_true rfl, Nat.le_of_ble_eq_true rfl⟩ hl.1 rfl (Nat.le_of_ble_eq_true rfl) dX9_addTurn_24 ⟨Nat.zero_le _, Nat.zero_le _⟩) hw (fun r24 X24 H locs hp24 hw => ?_)
      obtain ⟨hrf24, eX24⟩ := hp24
      exact zretI (pc := 27) hx hb hlocks hr hw (Nat.zero_le _) (Nat.zero_le _) dX9_addTurn_27 (by refine ⟨fun hz => by (exfalso; revert hz; (unfold cdAtu; (repeat' split) <;> omega)), ?_⟩; exact hR.no (by (unfold cdAtu; (repeat' split) <;> omega)) (by rw [eX24]; (try rw [eX2]); (try rw [up2_up2]); exact thr_c (by (unfold cdAtu; (repeat' split) <;> omega))))
set_option maxHeartbeats 4000000 in
set_option maxRecDepth 100000 in
theorem c_X9_addSeries (l : Launch) (Γ : zG) (K : zK) (X : zX) (Rf : zR) (md : Nat) (a : Int) (bg : Int) (ki : Int) (st : Int) (wd : Int) (ρ : zL) (M : zM) (hR : repR ρ K X Rf md M) (hM : okM M) (h1 : fit a ∧ fit bg ∧ fit ki) (h2 : fit st ∧ fit wd) : Ct l yX9_addSeries cX9_addSeries 8 (some .int) 2 1 11 Γ [.ref md, .int (iI a), .int (iI bg), .int (iI ki), .int (iI st), .int (iI wd)] K X Rf (pI (fun (r : Int) (K' : zK) (X' : zX) (R' : zR) => (cdAse M a bg ki st wd = 0 → r = M 40 16) ∧ X' md 0 = cdAse M a bg ki st wd ∧ ∃ ρ', repR ρ' K' X' R' md (if cdAse M a bg ki st wd = 0 then seM M (M 40 16).toNat a bg ki st wd else M) ∧ frR ρ K X Rf ρ' K' X' R')) := by
  refine Ct.of (by decide +kernel) (Nat.le_of_ble_eq_true rfl) ?_
  intro p e s m below meth c ls hx hb hr hml hown hG hlocks hname hw hl
  have hl : lv_has ls 8 [(0, .ref md), (1, .int (iI a)), (2, .int (iI bg)), (3, .int (iI ki)), (4, .int (iI st)), (5, .int (iI wd))] := hl
  obtain ⟨hmd, hlmd⟩ := id hR.1
  obtain ⟨⟨hb1, hb2, hb3, hb4⟩, hokP, hokL, hokS, hokW, hokF⟩ := id hM
  have hq1 : X md 1 = M 40 1 := hR.2.1 1 rfl
  have hq5 : X md 5 = M 40 5 := hR.2.1 5 rfl
  have hq16 : X md 16 = M 40 16 := hR.2.1 16 rfl
  have hq25 : X md 25 = M 40 25 := hR.2.1 25 rfl
  have hq26 : X md 26 = M 40 26 := hR.2.1 26 rfl
  have hq27 : X md 27 = M 40 27 := hR.2.1 27 rfl
  have hq28 : X md 28 = M 40 28 := hR.2.1 28 rfl
  have hq29 : X md 29 = M 40 29 := hR.2.1 29 rfl
  obtain ⟨a17, hB17, hA17, hL17, hD17⟩ : ∃ a, Rf md 17 = some a ∧ K a = (2, 66) ∧ ρ a = 2018 ∧ X a = M 17 := hR.fd 17 (by decide) rfl
  have hN17 : a17 ≠ md := zkn2 hA17 hmd (by simp)
  obtain ⟨i9, hi9⟩ : ∃ i9 : Nat, M 40 16 = i9 := ⟨(M 40 16).toNat, by omega⟩
  refine lv_aload_n (pc := 0) hx hb dX9_addSeries_0 rfl (lv_at hl 0 rfl) ?_
  refine ziconst (pc := 1) (n := 0) hx hb dX9_addSeries_1 ?_
  refine zputI (pc := 2) hx hb hG hown hw hmd (T := TX9) rfl 0 (by decide) rfl wf_X9_87 rfl (by decide +kernel) rfl dX9_addSeries_2 (fun H locs hw => ?_)
  obtain ⟨X2, eX2⟩ : ∃ Y : zX, Y = up2 X md 0 0 := ⟨_, rfl⟩
  rw [← eX2] at hw
  have hE17 : X2 a17 = M 17 := by rw [eX2, up2_o hN17]; exact hD17
  have hz5 : X2 md 5 = M 40 5 := by rw [eX2, up2_k (by decide)]; exact hq5
  have hz16 : X2 md 16 = M 40 16 := by rw [eX2, up2_k (by decide)]; exact hq16
  refine lv_aload_n (pc := 5) hx hb dX9_addSeries_5 rfl (lv_at hl 0 rfl) ?_
  refine lv_iload_n (pc := 6) hx hb dX9_addSeries_6 rfl (lv_at hl 1 rfl) ?_
  refine zkIp (pc := 7) (zrV (As := [.int (iI a)]) hx hb hml hown hG hw (c_X9_isPlace l Γ K X2 Rf md a  (by (first | assumption | omega)) (by (first | assumption | omega))) (T := TX9) hmd rfl cb_X9_isPlace wl_X9_161 rfl ⟨Nat.le_of_ble_eq_true rfl, Nat.le_of_ble_eq_true rfl⟩ hl.1 rfl (Nat.le_of_ble_eq_true rfl) dX9_addSeries_7 ⟨Nat.zero_le _, Nat.zero_le _⟩) hw (fun r7 H locs hp7 hw => ?_)
  subst hp7
  refine zif_ne (pc := 10) hx hb 19 (by omega) dX9_addSeries_10 (by decide) (fun c10 => ?_) (fun c10 => ?_)
  · skip
    replace c10 := it1 c10
    refine lv_iload_n (pc := 19) hx hb dX9_addSeries_19 rfl (lv_at hl 2 rfl) ?_
    refine zkIp (pc := 20) (zrS (As := [.int (iI bg)]) hx hb hml hown hG hw (c_X9_isMoment l Γ K X2 Rf bg  (by (first | assumption | omega))) cb_X9_isMoment wl_X9_195 rfl ⟨Nat.le_of_ble_eq_true rfl, Nat.le_of_ble_eq_true rfl⟩ hl.1 rfl (Nat.le_of_ble_eq_true rfl) dX9_addSeries_20 ⟨Nat.zero_le _, Nat.zero_le _⟩) hw (fun r20 H locs hp20 hw => ?_)
    subst hp20
    refine zif_eq (pc := 23) hx hb 57 (by omega) dX9_addSeries_23 (by decide) (fun c23 => ?_) (fun c23 => ?_)
    · skip
      replace c23 := it0 c23
      refine lv_aload_n (pc := 57) hx hb dX9_addSeries_57 rfl (lv_at hl 0 rfl) ?_
      refine ziconst (pc := 58) (n := 2) hx hb dX9_addSeries_58 ?_
      refine zkIx (pc := 59) (zrV (As := [.int (iI 2)]) hx hb hml hown hG hw (c_X9_refuse l Γ K X2 Rf md 2  (by (first | assumption | omega))) (T := TX9) hmd rfl cb_X9_refuse wl_X9_123 rfl ⟨Nat.le_of_ble_eq_true rfl, Nat.le_of_ble_eq_true rfl⟩ hl.1 rfl (Nat.le_of_ble_eq_true rfl) dX9_addSeries_59 ⟨Nat.zero_le _, Nat.zero_le _⟩) hw (fun r59 X59 H locs hp59 hw => ?_)
      obtain ⟨hrf59, eX59⟩ := hp59
      exact zretI (pc := 62) hx hb hlocks hr hw (Nat.zero_le _) (Nat.zero_le _) dX9_addSeries_62 (by refine ⟨fun hz => by (exfalso; revert hz; (unfold cdAse; (repeat' split) <;> omega)), ?_⟩; exact hR.no (by (unfold cdAse; (repeat' split) <;> omega)) (by rw [eX59]; (try rw [eX2]); (try rw [up2_up2]); exact thr_c (by (unfold cdAse; (repeat' split) <;> omega))))
    · skip
      replace c23 := it1 c23
      refine lv_iload_n (pc := 26) hx hb dX9_addSeries_26 rfl (lv_at hl 3 rfl) ?_
      refine ziconst (pc := 27) (n := 0) hx hb dX9_addSeries_27 ?_
      refine ziconst (pc := 28) (n := 3) hx hb dX9_addSeries_28 ?_
      refine zkIp (pc := 29) (zrS (As := [.int (iI ki), .int (iI 0), .int (iI 3)]) hx hb hml hown hG hw (c_X9_is l Γ K X2 Rf ki 0 3  (by (first | assumption | omega))) cb_X9_is wl_X9_91 rfl ⟨Nat.le_of_ble_eq_true rfl, Nat.le_of_ble_eq_true rfl⟩ hl.1 rfl (Nat.le_of_ble_eq_true rfl) dX9_addSeries_29 ⟨Nat.zero_le _, Nat.zero_le _⟩) hw (fun r29 H locs hp29 hw => ?_)
      subst hp29
      refine zif_eq (pc := 32) hx hb 57 (by omega) dX9_addSeries_32 (by decide) (fun c32 => ?_) (fun c32 => ?_)
      · skip
        replace c32 := it0 c32
        refine lv_aload_n (pc := 57) hx hb dX9_addSeries_57 rfl (lv_at hl 0 rfl) ?_
        refine ziconst (pc := 58) (n := 2) hx hb dX9_addSeries_58 ?_
        refine zkIx (pc := 59) (zrV (As := [.int (iI 2)]) hx hb hml hown hG hw (c_X9_refuse l Γ K X2 Rf md 2  (by (first | assumption | omega))) (T := TX9) hmd rfl cb_X9_refuse wl_X9_123 rfl ⟨Nat.le_of_ble_eq_true rfl, Nat.le_of_ble_eq_true rfl⟩ hl.1 rfl (Nat.le_of_ble_eq_true rfl) dX9_addSeries_59 ⟨Nat.zero_le _, Nat.zero_le _⟩) hw (fun r59 X59 H locs hp59 hw => ?_)
        obtain ⟨hrf59, eX59⟩ := hp59
        exact zretI (pc := 62) hx hb hlocks hr hw (Nat.zero_le _) (Nat.zero_le _) dX9_addSeries_62 (by refine ⟨fun hz => by (exfalso; revert hz; (unfold cdAse; (repeat' split) <;> omega)), ?_⟩; exact hR.no (by (unfold cdAse; (repeat' split) <;> omega)) (by rw [eX59]; (try rw [eX2]); (try rw [up2_up2]); exact thr_c (by (unfold cdAse; (repeat' split) <;> omega))))
      · skip
        replace c32 := it1 c32
        refine lv_iload (pc := 35) hx hb dX9_addSeries_35 (lv_at hl 4 rfl) ?_
        refine ziconst (pc := 37) (n := 1) hx hb dX9_addSeries_37 ?_
        refine zbipush (pc := 38) (n := 60) hx hb dX9_addSeries_38 rfl ?_
        refine zkIp (pc := 40) (zrS (As := [.int (iI st), .int (iI 1), .int (iI 60)]) hx hb hml hown hG hw (c_X9_is l Γ K X2 Rf st 1 60  (by (first | assumption | omega))) cb_X9_is wl_X9_91 rfl ⟨Nat.le_of_ble_eq_true rfl, Nat.le_of_ble_eq_true rfl⟩ hl.1 rfl (Nat.le_of_ble_eq_true rfl) dX9_addSeries_40 ⟨Nat.zero_le _, Nat.zero_le _⟩) hw (fun r40 H locs hp40 hw => ?_)
        subst hp40
        refine zif_eq (pc := 43) hx hb 57 (by omega) dX9_addSeries_43 (by decide) (fun c43 => ?_) (fun c43 => ?_)
        · skip
          replace c43 := it0 c43
          refine lv_aload_n (pc := 57) hx hb dX9_addSeries_57 rfl (lv_at hl 0 rfl) ?_
          refine ziconst (pc := 58) (n := 2) hx hb dX9_addSeries_58 ?_
          refine zkIx (pc := 59) (zrV (As := [.int (iI 2)]) hx hb hml hown hG hw (c_X9_refuse l Γ K X2 Rf md 2  (by (first | assumption | omega))) (T := TX9) hmd rfl cb_X9_refuse wl_X9_123 rfl ⟨Nat.le_of_ble_eq_true rfl, Nat.le_of_ble_eq_true rfl⟩ hl.1 rfl (Nat.le_of_ble_eq_true rfl) dX9_addSeries_59 ⟨Nat.zero_le _, Nat.zero_le _⟩) hw (fun r59 X59 H locs hp59 hw => ?_)
          obtain ⟨hrf59, eX59⟩ := hp59
          exact zretI (pc := 62) hx hb hlocks hr hw (Nat.zero_le _) (Nat.zero_le _) dX9_addSeries_62 (by refine ⟨fun hz => by (exfalso; revert hz; (unfold cdAse; (repeat' split) <;> omega)), ?_⟩; exact hR.no (by (unfold cdAse; (repeat' split) <;> omega)) (by rw [eX59]; (try rw [eX2]); (try rw [up2_up2]); exact thr_c (by (unfold cdAse; (repeat' split) <;> omega))))
        · skip
          replace c43 := it1 c43
          refine lv_iload (pc := 46) hx hb dX9_addSeries_46 (lv_at hl 5 rfl) ?_
          refine ziconst (pc := 48) (n := 0) hx hb dX9_addSeries_48 ?_
          refine zbipush (pc := 49) (n := 127) hx hb dX9_addSeries_49 rfl ?_
          refine zkIp (pc := 51) (zrS (As := [.int (iI wd), .int (iI 0), .int (iI 127)]) hx hb hml hown hG hw (c_X9_is l Γ K X2 Rf wd 0 127  (by (first | assumption | omega))) cb_X9_is wl_X9_91 rfl ⟨Nat.le_of_ble_eq_true rfl, Nat.le_of_ble_eq_true rfl⟩ hl.1 rfl (Nat.le_of_ble_eq_true rfl) dX9_addSeries_51 ⟨Nat.zero_le _, Nat.zero_le _⟩) hw (fun r51 H locs hp51 hw => ?_)
          subst hp51
          refine zif_ne (pc := 54) hx hb 63 (by omega) dX9_addSeries_54 (by decide) (fun c54 => ?_) (fun c54 => ?_)
          · skip
            replace c54 := it1 c54
            refine lv_aload_n (pc := 63) hx hb dX9_addSeries_63 rfl (lv_at hl 0 rfl) ?_
            refine zgetI (pc := 64) hx hb hG hown hw hmd (T := TX9) rfl 16 (by decide) rfl wf_X9_228 rfl dX9_addSeries_64 ?_
            refine zbipush (pc := 67) (n := 6) hx hb dX9_addSeries_67 rfl ?_
            refine zicmp_ne (pc := 69) hx hb 78 (by omega) (by omega) dX9_addSeries_69 (by decide) (fun c69 => ?_) (fun c69 => ?_)
            · skip
              refine zldc (pc := 78) (n := 73048) hx hb hown hG wk_X9_90 dX9_addSeries_78 ?_
              refine lv_iload_n (pc := 80) hx hb dX9_addSeries_80 rfl (lv_at hl 2 rfl) ?_
              refine zsipush (pc := 81) (n := 1440) hx hb dX9_addSeries_81 rfl ?_
              refine zdiv (pc := 84) hx hb (by omega) dX9_addSeries_84 ?_
              refine zsipush (pc := 85) (n := 4000) hx hb dX9_addSeries_85 rfl ?_
              refine zadd (pc := 88) hx hb dX9_addSeries_88 ?_
              refine zmin (pc := 89) hx hb (hml.trans hl.1.symm) hown hG wl_X9_104 w1_zmn wi_javalangMath w2_zmn (Nat.le_of_ble_eq_true rfl) (Nat.le_of_ble_eq_true rfl) (Nat.zero_le _) (Nat.zero_le _) ⟨by omega, by omega⟩ dX9_addSeries_89 ?_
              refine ztop (fun x92 ex92 => ?_)
              refine lv_istore (pc := 92) (lv' := [(6, .int (iI x92)), (0, .ref md), (1, .int (iI a)), (2, .int (iI bg)), (3, .int (iI ki)), (4, .int (iI st)), (5, .int (iI wd))]) hx hb dX9_addSeries_92 hl (by decide) rfl (fun ls hl => ?_)
              refine zbipush (pc := 94) (n := 11) hx hb dX9_addSeries_94 rfl ?_
              refine znewi (pc := 96) hx hb hG hw wa_int ⟨by omega, by omega⟩ (by show 0 + 1 ≤ 1; omega) (by show 0 + 11 ≤ 11; omega) dX9_addSeries_96 (fun q96 H hfq96 hw => ?_)
              obtain ⟨K96, eK96⟩ : ∃ Y : zK, Y = zup K q96 (2, 11) := ⟨_, rfl⟩
              obtain ⟨X96, eX96⟩ : ∃ Y : zX, Y = zupX X2 q96 := ⟨_, rfl⟩
              obtain ⟨R96, eR96⟩ : ∃ Y : zR, Y = zupR Rf q96 := ⟨_, rfl⟩
              replace hw := Wd.re hw eK96 eX96 eR96
              have hk96 : K96 md = (1, 8) := by rw [eK96]; exact zup_k hfq96 hmd (Nat.succ_ne_zero _)
              have hn96 : md ≠ q96 := zne hmd hfq96
              have hk96_1 : K96 a17 = (2, 66) := by rw [eK96]; exact zup_k hfq96 hA17 (Nat.succ_ne_zero _)
              have hn96_1 : a17 ≠ q96 := zne hA17 hfq96
              have hk96_2 : K96 q96 = (2, 11) := by rw [eK96]; exact zup_s
              have hr96 : R96 md 17 = some a17 := by rw [eR96, zupR_n hn96]; exact hB17
              refine lv_dup (pc := 98) hx hb dX9_addSeries_98 rfl ?_
              refine ziconst (pc := 99) (n := 0) hx hb dX9_addSeries_99 ?_
              refine lv_iload_n (pc := 100) hx hb dX9_addSeries_100 rfl (lv_at hl 2 rfl) ?_
              refine zast (pc := 101) hx hb hw hk96_2 ⟨by omega, by omega⟩ (by omega) dX9_addSeries_101 (fun H locs hw => ?_)
              obtain ⟨X101, eX101⟩ : ∃ Y : zX, Y = up2 X96 q96 0 a := ⟨_, rfl⟩
              rw [← eX101] at hw
              refine lv_dup (pc := 102) hx hb dX9_addSeries_102 rfl ?_
              refine ziconst (pc := 103) (n := 1) hx hb dX9_addSeries_103 ?_
              refine lv_iload_n (pc := 104) hx hb dX9_addSeries_104 rfl (lv_at hl 3 rfl) ?_
              refine zast (pc := 105) hx hb hw hk96_2 ⟨by omega, by omega⟩ (by omega) dX9_addSeries_105 (fun H locs hw => ?_)
              obtain ⟨X105, eX105⟩ : ∃ Y : zX, Y = up2 X101 q96 1 bg := ⟨_, rfl⟩
              rw [← eX105] at hw
              refine lv_dup (pc := 106) hx hb dX9_addSeries_106 rfl ?_
              refine ziconst (pc := 107) (n := 2) hx hb dX9_addSeries_107 ?_
              refine lv_iload_n (pc := 108) hx hb dX9_addSeries_108 rfl (lv_at hl 4 rfl) ?_
              refine zast (pc := 109) hx hb hw hk96_2 ⟨by omega, by omega⟩ (by omega) dX9_addSeries_109 (fun H locs hw => ?_)
              obtain ⟨X109, eX109⟩ : ∃ Y : zX, Y = up2 X105 q96 2 ki := ⟨_, rfl⟩
              rw [← eX109] at hw
              refine lv_dup (pc := 110) hx hb dX9_addSeries_110 rfl ?_
              refine ziconst (pc := 111) (n := 3) hx hb dX9_addSeries_111 ?_
              refine lv_iload (pc := 112) hx hb dX9_addSeries_112 (lv_at hl 5 rfl) ?_
              refine zast (pc := 114) hx hb hw hk96_2 ⟨by omega, by omega⟩ (by omega) dX9_addSeries_114 (fun H locs hw => ?_)
              obtain ⟨X114, eX114⟩ : ∃ Y : zX, Y = up2 X109 q96 3 st := ⟨_, rfl⟩
              rw [← eX114] at hw
              refine lv_dup (pc := 115) hx hb dX9_addSeries_115 rfl ?_
              refine ziconst (pc := 116) (n := 4) hx hb dX9_addSeries_116 ?_
              refine lv_iload (pc := 117) hx hb dX9_addSeries_117 (lv_at hl 6 rfl) ?_
              refine zast (pc := 119) hx hb hw hk96_2 ⟨by omega, by omega⟩ (by omega) dX9_addSeries_119 (fun H locs hw => ?_)
              obtain ⟨X119, eX119⟩ : ∃ Y : zX, Y = up2 X114 q96 4 wd := ⟨_, rfl⟩
              rw [← eX119] at hw
              refine lv_dup (pc := 120) hx hb dX9_addSeries_120 rfl ?_
              refine ziconst (pc := 121) (n := 5) hx hb dX9_addSeries_121 ?_
              refine ziconst (pc := 122) (n := 0) hx hb dX9_addSeries_122 ?_
              refine zast (pc := 123) hx hb hw hk96_2 ⟨by omega, by omega⟩ (by omega) dX9_addSeries_123 (fun H locs hw => ?_)
              obtain ⟨X123, eX123⟩ : ∃ Y : zX, Y = up2 X119 q96 5 0 := ⟨_, rfl⟩
              rw [← eX123] at hw
              refine lv_dup (pc := 124) hx hb dX9_addSeries_124 rfl ?_
              refine zbipush (pc := 125) (n := 6) hx hb dX9_addSeries_125 rfl ?_
              refine ziconst (pc := 127) (n := 0) hx hb dX9_addSeries_127 ?_
              refine zast (pc := 128) hx hb hw hk96_2 ⟨by omega, by omega⟩ (by omega) dX9_addSeries_128 (fun H locs hw => ?_)
              obtain ⟨X128, eX128⟩ : ∃ Y : zX, Y = up2 X123 q96 6 0 := ⟨_, rfl⟩
              rw [← eX128] at hw
              refine lv_dup (pc := 129) hx hb dX9_addSeries_129 rfl ?_
              refine zbipush (pc := 130) (n := 7) hx hb dX9_addSeries_130 rfl ?_
              refine lv_iload (pc := 132) hx hb dX9_addSeries_132 (lv_at hl 0 rfl) ?_
              refine zast (pc := 134) hx hb hw hk96_2 ⟨by omega, by omega⟩ (by omega) dX9_addSeries_134 (fun H locs hw => ?_)
              obtain ⟨X134, eX134⟩ : ∃ Y : zX, Y = up2 X128 q96 7 x92 := ⟨_, rfl⟩
              rw [← eX134] at hw
              refine lv_dup (pc := 135) hx hb dX9_addSeries_135 rfl ?_
              refine zbipush (pc := 136) (n := 8) hx hb dX9_addSeries_136 rfl ?_
              refine lv_iload (pc := 138) hx hb dX9_addSeries_138 (lv_at hl 0 rfl) ?_
              refine zast (pc := 140) hx hb hw hk96_2 ⟨by omega, by omega⟩ (by omega) dX9_addSeries_140 (fun H locs hw => ?_)
              obtain ⟨X140, eX140⟩ : ∃ Y : zX, Y = up2 X134 q96 8 x92 := ⟨_, rfl⟩
              rw [← eX140] at hw
              refine lv_dup (pc := 141) hx hb dX9_addSeries_141 rfl ?_
              refine zbipush (pc := 142) (n := 9) hx hb dX9_addSeries_142 rfl ?_
              refine ziconst (pc := 144) (n := 0) hx hb dX9_addSeries_144 ?_
              refine zast (pc := 145) hx hb hw hk96_2 ⟨by omega, by omega⟩ (by omega) dX9_addSeries_145 (fun H locs hw => ?_)
              obtain ⟨X145, eX145⟩ : ∃ Y : zX, Y = up2 X140 q96 9 0 := ⟨_, rfl⟩
              rw [← eX145] at hw
              refine lv_dup (pc := 146) hx hb dX9_addSeries_146 rfl ?_
              refine zbipush (pc := 147) (n := 10) hx hb dX9_addSeries_147 rfl ?_
              refine ziconst (pc := 149) (n := 0) hx hb dX9_addSeries_149 ?_
              refine zast (pc := 150) hx hb hw hk96_2 ⟨by omega, by omega⟩ (by omega) dX9_addSeries_150 (fun H locs hw => ?_)
              obtain ⟨X150, eX150⟩ : ∃ Y : zX, Y = up2 X145 q96 10 0 := ⟨_, rfl⟩
              rw [← eX150] at hw
              have hz16_150 : X150 md 16 = M 40 16 := by
                have hne := zfa (zk1 hmd) hfq96
                rw [eX150, up2_o hne, eX145, up2_o hne, eX140, up2_o hne, eX134, up2_o hne, eX128, up2_o hne, eX123, up2_o hne, eX119, up2_o hne, eX114, up2_o hne, eX109, up2_o hne, eX105, up2_o hne, eX101, up2_o hne, eX96, zupX_n hne]; exact hz16
              refine lv_astore (pc := 151) (lv' := [(7, .ref q96), (6, .int (iI x92)), (0, .ref md), (1, .int (iI a)), (2, .int (iI bg)), (3, .int (iI ki)), (4, .int (iI st)), (5, .int (iI wd))]) hx hb dX9_addSeries_151 hl (by decide) rfl (fun ls hl => ?_)
              refine lv_aload (pc := 153) hx hb dX9_addSeries_153 (lv_at hl 0 rfl) ?_
              refine ziconst (pc := 155) (n := 0) hx hb dX9_addSeries_155 ?_
              refine lv_aload_n (pc := 156) hx hb dX9_addSeries_156 rfl (lv_at hl 2 rfl) ?_
              refine zgetR (pc := 157) hx hb hG hown hw hk96 (T := TX9) rfl 17 (by decide) rfl wf_X9_39 rfl hr96 dX9_addSeries_157 ?_
              refine zbipush (pc := 160) (n := 11) hx hb dX9_addSeries_160 rfl ?_
              refine lv_aload_n (pc := 162) hx hb dX9_addSeries_162 rfl (lv_at hl 2 rfl) ?_
              refine zgetI (pc := 163) hx hb hG hown hw hk96 (T := TX9) rfl 16 (by decide) rfl wf_X9_228 rfl dX9_addSeries_163 ?_
              refine zmul (pc := 166) hx hb dX9_addSeries_166 ?_
              refine zbipush (pc := 167) (n := 11) hx hb dX9_addSeries_167 rfl ?_
              refine zcopy (pc := 169) hx hb (hml.trans hl.1.symm) hown hG wl_X9_164 w2_zco w1_zco wi_javalangSystem hw hk96_2 hk96_1 (by omega) (by omega) (Nat.le_of_ble_eq_true rfl) (Nat.le_of_ble_eq_true rfl) dX9_addSeries_169 (fun H locs hw => ?_)
              obtain ⟨X169, eX169⟩ : ∃ Y : zX, Y = zcp X150 q96 a17 0 (11 * (X150 md 16)).toNat 11 := ⟨_, rfl⟩
              rw [← eX169] at hw
              have hz16_169 : X169 md 16 = M 40 16 := by rw [eX169, zcp_o (Ne.symm hN17)]; exact hz16_150
              refine lv_aload_n (pc := 172) hx hb dX9_addSeries_172 rfl (lv_at hl 2 rfl) ?_
              refine lv_dup (pc := 173) hx hb dX9_addSeries_173 rfl ?_
              refine zgetI (pc := 174) hx hb hG hown hw hk96 (T := TX9) rfl 16 (by decide) rfl wf_X9_228 rfl dX9_addSeries_174 ?_
              refine ziconst (pc := 177) (n := 1) hx hb dX9_addSeries_177 ?_
              refine zadd (pc := 178) hx hb dX9_addSeries_178 ?_
              refine zputI (pc := 179) hx hb hG hown hw hk96 (T := TX9) rfl 16 (by decide) rfl wf_X9_228 rfl (by decide +kernel) rfl dX9_addSeries_179 (fun H locs hw => ?_)
              obtain ⟨X179, eX179⟩ : ∃ Y : zX, Y = up2 X169 md 16 ((X169 md 16) + 1) := ⟨_, rfl⟩
              rw [← eX179] at hw
              have hz16_179 : X179 md 16 = M 40 16 + 1 := by rw [eX179, up2_s, hz16_169]
              rw [hz16_169, hi9] at eX179
              refine lv_aload_n (pc := 182) hx hb dX9_addSeries_182 rfl (lv_at hl 2 rfl) ?_
              refine zgetI (pc := 183) hx hb hG hown hw hk96 (T := TX9) rfl 16 (by decide) rfl wf_X9_228 rfl dX9_addSeries_183 ?_
              refine ziconst (pc := 186) (n := 1) hx hb dX9_addSeries_186 ?_
              refine zsub (pc := 187) hx hb dX9_addSeries_187 ?_
              exact zretI (pc := 188) hx hb hlocks hr hw (by show 0 + 1 ≤ 1; omega) (by show 0 + 11 ≤ 11; omega) dX9_addSeries_188 (by 
                                        refine ⟨fun _ => by omega, ?_⟩
                                        have hi8 : (M 40 16).toNat = i9 := by omega
                                        rw [hi8]
                                        have gK : ∀ a9, (K a9).1 ≠ 0 → K96 a9 = K a9 := fun a9 h9 => by rw [eK96, zup_n (zfa h9 hfq96)]
                                        have gR : ∀ a9, (K a9).1 ≠ 0 → R96 a9 = Rf a9 := fun a9 h9 => by rw [eR96, zupR_n (zfa h9 hfq96)]
                                        have hmn : (K md).1 ≠ 0 := zk1 hmd
                                        have hdp : (11 * X150 md 16).toNat = 11 * i9 := by omega
                                        rw [hdp] at eX169
                                        have XS : ∀ j, j < 11 → X150 q96 j = seV a bg ki st wd j := fun j hj => by
                                          rcases (by omega : j = 0 ∨ j = 1 ∨ j = 2 ∨ j = 3 ∨ j = 4 ∨ j = 5 ∨ j = 6 ∨ j = 7 ∨ j = 8 ∨ j = 9 ∨ j = 10) with rfl | rfl | rfl | rfl | rfl | rfl | rfl | rfl | rfl | rfl | rfl <;> (rw [eX150, eX145, eX140, eX134, eX128, eX123, eX119, eX114, eX109, eX105, eX101]; simp [up2, seV, ex92])
                                        have gX : ∀ a9, (K a9).1 ≠ 0 → X150 a9 = X2 a9 := fun a9 h9 => by
                                          have hne := zfa h9 hfq96
                                          rw [eX150, up2_o hne, eX145, up2_o hne, eX140, up2_o hne, eX134, up2_o hne, eX128, up2_o hne, eX123, up2_o hne, eX119, up2_o hne, eX114, up2_o hne, eX109, up2_o hne, eX105, up2_o hne, eX101, up2_o hne, eX96, zupX_n hne]
                                        have gX8 : ∀ b, (K b).1 ≠ 0 → b ≠ md → b ≠ a17 → X179 b = X b := fun b h9 g1 g2 => by rw [eX179, up2_o g1, eX169, zcp_o g2, gX b h9, eX2, up2_o g1]
                                        have hn0 := hR.n.own (q := 0) (v := 0) rfl
                                        rw [← eX2] at hn0
                                        have hn1 := hn0.ext (ρ' := ρ) (K' := K96) (X' := X150) (Rf' := R96) gK (fun _ _ => rfl) gX (gR md hmn)
                                        have r17 : R96 md 17 = some a17 := by rw [gR md hmn]; exact hB17
                                        have x17 : X150 a17 = M 17 := by rw [gX a17 (zk1 hA17)]; exact hE17
                                        have hn2 := (hn1.rowF (f := 17) (a := a17) (X' := X169) (M' := fun g => if g = 17 then seM M i9 a bg ki st wd 17 else M g) (by decide) r17 (fun b hb => by rw [eX169, zcp_o hb]) (fun g hg => if_neg hg) (fun _ => by
                                          show X169 a17 = seM M i9 a bg ki st wd 17
                                          funext j
                                          rw [eX169]
                                          unfold zcp seM
                                          rw [if_pos rfl]
                                          by_cases hj : 11 * i9 ≤ j ∧ j < 11 * i9 + 11
                                          · rw [if_pos hj, if_pos ⟨rfl, hj⟩, Nat.zero_add]; exact XS _ (by omega)
                                          · rw [if_neg hj, if_neg (fun g => hj g.2), if_neg (fun g => absurd g.1 (by decide)), x17])).num (q := 16) (v := (i9 : Int) + 1)
                                        rw [← eX179] at hn2
                                        have eM : upM (fun g => if g = 17 then seM M i9 a bg ki st wd 17 else M g) 16 ((i9 : Int) + 1) = seM M i9 a bg ki st wd := by
                                          funext f k
                                          unfold upM
                                          rw [up2_eq]
                                          by_cases h17 : f = 17
                                          · subst h17; rw [if_neg (fun g => absurd g.1 (by decide))]; rfl
                                          · show (if f = 40 ∧ k = 16 then _ else (if f = 17 then _ else _) k) = _
                                            rw [if_neg h17]
                                            unfold seM
                                            rw [if_neg (fun g => h17 g.1)]
                                        rw [eM] at hn2
                                        have h35 : X179 md 35 = X md 35 := by rw [eX179, up2_k (by decide), eX169, zcp_o (Ne.symm hN17), gX md hmn, eX2, up2_k (by decide)]
                                        have h0 : X179 md 0 = 0 := by rw [eX179, up2_k (by decide), eX169, zcp_o (Ne.symm hN17), gX md hmn, eX2, up2_s]
                                        exact hR.mutG (cd := cdAse M a bg ki st wd) gK (fun _ _ => rfl) hn2 (fun b h9 g => ⟨gX8 b h9 (fun w => by rw [w, hlmd] at g; omega) (fun w => by rw [w, hL17] at g; omega), gR b h9⟩) (cacR.ser hR hi9 gK (fun b h9 g1 g2 => gX8 b h9 (fun w => g1 (by rw [w]; exact hlmd)) (fun w => g2 (by rw [w]; exact hL17))) gR h35) h0 (by (unfold cdAse; (repeat' split) <;> omega)))
            · skip
              refine lv_aload_n (pc := 72) hx hb dX9_addSeries_72 rfl (lv_at hl 0 rfl) ?_
              refine ziconst (pc := 73) (n := 3) hx hb dX9_addSeries_73 ?_
              refine zkIx (pc := 74) (zrV (As := [.int (iI 3)]) hx hb hml hown hG hw (c_X9_refuse l Γ K X2 Rf md 3  (by (first | assumption | omega))) (T := TX9) hmd rfl cb_X9_refuse wl_X9_123 rfl ⟨Nat.le_of_ble_eq_true rfl, Nat.le_of_ble_eq_true rfl⟩ hl.1 rfl (Nat.le_of_ble_eq_true rfl) dX9_addSeries_74 ⟨Nat.zero_le _, Nat.zero_le _⟩) hw (fun r74 X74 H locs hp74 hw => ?_)
              obtain ⟨hrf74, eX74⟩ := hp74
              exact zretI (pc := 77) hx hb hlocks hr hw (Nat.zero_le _) (Nat.zero_le _) dX9_addSeries_77 (by refine ⟨fun hz => by (exfalso; revert hz; (unfold cdAse; (repeat' split) <;> omega)), ?_⟩; exact hR.no (by (unfold cdAse; (repeat' split) <;> omega)) (by rw [eX74]; (try rw [eX2]); (try rw [up2_up2]); exact thr_c (by (unfold cdAse; (repeat' split) <;> omega))))
          · skip
            replace c54 := it0 c54
            refine lv_aload_n (pc := 57) hx hb dX9_addSeries_57 rfl (lv_at hl 0 rfl) ?_
            refine ziconst (pc := 58) (n := 2) hx hb dX9_addSeries_58 ?_
            refine zkIx (pc := 59) (zrV (As := [.int (iI 2)]) hx hb hml hown hG hw (c_X9_refuse l Γ K X2 Rf md 2  (by (first | assumption | omega))) (T := TX9) hmd rfl cb_X9_refuse wl_X9_123 rfl ⟨Nat.le_of_ble_eq_true rfl, Nat.le_of_ble_eq_true rfl⟩ hl.1 rfl (Nat.le_of_ble_eq_true rfl) dX9_addSeries_59 ⟨Nat.zero_le _, Nat.zero_le _⟩) hw (fun r59 X59 H locs hp59 hw => ?_)
            obtain ⟨hrf59, eX59⟩ := hp59
            exact zretI (pc := 62) hx hb hlocks hr hw (Nat.zero_le _) (Nat.zero_le _) dX9_addSeries_62 (by refine ⟨fun hz => by (exfalso; revert hz; (unfold cdAse; (repeat' split) <;> omega)), ?_⟩; exact hR.no (by (unfold cdAse; (repeat' split) <;> omega)) (by rw [eX59]; (try rw [eX2]); (try rw [up2_up2]); exact thr_c (by (unfold cdAse; (repeat' split) <;> omega))))
  · skip
    replace c10 := it0 c10
    refine lv_aload_n (pc := 13) hx hb dX9_addSeries_13 rfl (lv_at hl 0 rfl) ?_
    refine ziconst (pc := 14) (n := 1) hx hb dX9_addSeries_14 ?_
    refine zkIx (pc := 15) (zrV (As := [.int (iI 1)]) hx hb hml hown hG hw (c_X9_refuse l Γ K X2 Rf md 1  (by (first | assumption | omega))) (T := TX9) hmd rfl cb_X9_refuse wl_X9_123 rfl ⟨Nat.le_of_ble_eq_true rfl, Nat.le_of_ble_eq_true rfl⟩ hl.1 rfl (Nat.le_of_ble_eq_true rfl) dX9_addSeries_15 ⟨Nat.zero_le _, Nat.zero_le _⟩) hw (fun r15 X15 H locs hp15 hw => ?_)
    obtain ⟨hrf15, eX15⟩ := hp15
    exact zretI (pc := 18) hx hb hlocks hr hw (Nat.zero_le _) (Nat.zero_le _) dX9_addSeries_18 (by refine ⟨fun hz => by (exfalso; revert hz; (unfold cdAse; (repeat' split) <;> omega)), ?_⟩; exact hR.no (by (unfold cdAse; (repeat' split) <;> omega)) (by rw [eX15]; (try rw [eX2]); (try rw [up2_up2]); exact thr_c (by (unfold cdAse; (repeat' split) <;> omega))))
