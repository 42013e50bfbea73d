set_option maxHeartbeats 4000000 in
set_option maxRecDepth 100000 in
theorem c_X9_addPlace (l : Launch) (Γ : zG) (K : zK) (X : zX) (Rf : zR) (md : Nat) (bs : Int) (ρ : zL) (M : zM) (hR : repR ρ K X Rf md M) (hM : okM M) (h1 : fit bs) : Ct l yX9_addPlace cX9_addPlace 2 (some .int) 1 2 0 Γ [.ref md, .int (iI bs)] K X Rf (pI (fun (r : Int) (K' : zK) (X' : zX) (R' : zR) => (cdApl M bs = 0 → r = M 40 5) ∧ X' md 0 = cdApl M bs ∧ ∃ ρ', repR ρ' K' X' R' md (if cdApl M bs = 0 then plM M (M 40 5).toNat bs else M) ∧ frR ρ K X Rf ρ' K' X' R' ∧ ptR X' R' md ≤ ptR X Rf md + 5000)) := by
  refine Ct.of (by decide +kernel) (Nat.le_of_ble_eq_true rfl) ?_
  intro p e s m below meth c ls hx hb hr hml hown hG hlocks hname hw hl
  have hl : lv_has ls 2 [(0, .ref md), (1, .int (iI bs))] := hl
  obtain ⟨hmd, hlmd⟩ := id hR.1
  obtain ⟨⟨hb1, hb2, hb3, hb4⟩, hokP, hokL, hokS, hokW, hokF⟩ := id hM
  have hq1 : X md 1 = M 40 1 := hR.2.1 1 rfl
  have hq5 : X md 5 = M 40 5 := hR.2.1 5 rfl
  have hq16 : X md 16 = M 40 16 := hR.2.1 16 rfl
  have hq25 : X md 25 = M 40 25 := hR.2.1 25 rfl
  have hq26 : X md 26 = M 40 26 := hR.2.1 26 rfl
  have hq27 : X md 27 = M 40 27 := hR.2.1 27 rfl
  have hq28 : X md 28 = M 40 28 := hR.2.1 28 rfl
  have hq29 : X md 29 = M 40 29 := hR.2.1 29 rfl
  obtain ⟨a6, hB6, hA6, hL6, hD6⟩ : ∃ a, Rf md 6 = some a ∧ K a = (2, 6) ∧ ρ a = 2007 ∧ X a = M 6 := hR.fd 6 (by decide) rfl
  have hN6 : Apt a6 md := zkn2 hA6 hmd (by simp)
  obtain ⟨a10, hB10, hA10, hL10⟩ : ∃ a, Rf md 10 = some a ∧ K a = (11, 6) ∧ ρ a = 2011 := hR.ff 10 (by decide)
  have hN10 : Apt a10 md := zkn2 hA10 hmd (by simp)
  obtain ⟨a11, hB11, hA11, hL11⟩ : ∃ a, Rf md 11 = some a ∧ K a = (11, 6) ∧ ρ a = 2012 := hR.ff 11 (by decide)
  have hN11 : Apt a11 md := zkn2 hA11 hmd (by simp)
  obtain ⟨i9, hi9⟩ : ∃ i9 : Nat, M 40 5 = i9 := ⟨(M 40 5).toNat, by omega⟩
  refine lv_aload_n (pc := 0) hx hb dX9_addPlace_0 rfl (lv_at hl 0 rfl) ?_
  refine ziconst (pc := 1) (n := 0) hx hb dX9_addPlace_1 ?_
  refine zputI (pc := 2) hx hb hG hown hw hmd (T := TX9) rfl 0 (by decide) rfl wf_X9_87 rfl (by decide +kernel) rfl dX9_addPlace_2 (fun H locs hw => ?_)
  obtain ⟨X2, eX2⟩ : ∃ Y : zX, Y = up2 X md 0 0 := ⟨_, rfl⟩
  rw [← eX2] at hw
  have hE6 : X2 a6 = M 6 := by rw [eX2, up2_o hN6]; exact hD6
  have hz5 : X2 md 5 = M 40 5 := by rw [eX2, up2_k (by decide)]; exact hq5
  refine lv_iload_n (pc := 5) hx hb dX9_addPlace_5 rfl (lv_at hl 1 rfl) ?_
  refine zsipush (pc := 6) (n := (-840)) hx hb dX9_addPlace_6 rfl ?_
  refine zsipush (pc := 9) (n := 840) hx hb dX9_addPlace_9 rfl ?_
  refine zkIp (pc := 12) (zrS (As := [.int (iI bs), .int (iI (-840)), .int (iI 840)]) hx hb hml hown hG hw (c_X9_is l Γ K X2 Rf bs (-840) 840  (by (first | assumption | omega))) cb_X9_is wl_X9_91 rfl ⟨Nat.le_of_ble_eq_true rfl, Nat.le_of_ble_eq_true rfl⟩ hl.1 rfl (Nat.le_of_ble_eq_true rfl) dX9_addPlace_12 ⟨Nat.zero_le _, Nat.zero_le _⟩) hw (fun r12 H locs hp12 hw => ?_)
  subst hp12
  refine zif_ne (pc := 15) hx hb 24 (by omega) dX9_addPlace_15 (by decide) (fun c15 => ?_) (fun c15 => ?_)
  · skip
    replace c15 := it1 c15
    refine lv_aload_n (pc := 24) hx hb dX9_addPlace_24 rfl (lv_at hl 0 rfl) ?_
    refine zgetI (pc := 25) hx hb hG hown hw hmd (T := TX9) rfl 5 (by decide) rfl wf_X9_158 rfl dX9_addPlace_25 ?_
    refine zbipush (pc := 28) (n := 6) hx hb dX9_addPlace_28 rfl ?_
    refine zicmp_ne (pc := 30) hx hb 39 (by omega) (by omega) dX9_addPlace_30 (by decide) (fun c30 => ?_) (fun c30 => ?_)
    · skip
      refine lv_aload_n (pc := 39) hx hb dX9_addPlace_39 rfl (lv_at hl 0 rfl) ?_
      refine zgetR (pc := 40) hx hb hG hown hw hmd (T := TX9) rfl 6 (by decide) rfl wf_X9_19 rfl hB6 dX9_addPlace_40 ?_
      refine lv_aload_n (pc := 43) hx hb dX9_addPlace_43 rfl (lv_at hl 0 rfl) ?_
      refine zgetI (pc := 44) hx hb hG hown hw hmd (T := TX9) rfl 5 (by decide) rfl wf_X9_158 rfl dX9_addPlace_44 ?_
      refine lv_iload_n (pc := 47) hx hb dX9_addPlace_47 rfl (lv_at hl 1 rfl) ?_
      refine zast (pc := 48) hx hb hw hA6 ⟨by omega, by omega⟩ (by omega) dX9_addPlace_48 (fun H locs hw => ?_)
      obtain ⟨X48, eX48⟩ : ∃ Y : zX, Y = up2 X2 a6 (X2 md 5).toNat bs := ⟨_, rfl⟩
      rw [← eX48] at hw
      rw [hz5, hi9, Int.toNat_natCast] at eX48
      have hz5_48 : X48 md 5 = M 40 5 := by rw [eX48, up2_o (Ne.symm hN6)]; exact hz5
      refine lv_aload_n (pc := 49) hx hb dX9_addPlace_49 rfl (lv_at hl 0 rfl) ?_
      refine zgetR (pc := 50) hx hb hG hown hw hmd (T := TX9) rfl 10 (by decide) rfl wf_X9_32 rfl hB10 dX9_addPlace_50 ?_
      refine lv_aload_n (pc := 53) hx hb dX9_addPlace_53 rfl (lv_at hl 0 rfl) ?_
      refine zgetI (pc := 54) hx hb hG hown hw hmd (T := TX9) rfl 5 (by decide) rfl wf_X9_158 rfl dX9_addPlace_54 ?_
      refine ziconst (pc := 57) (n := 0) hx hb dX9_addPlace_57 ?_
      refine znewi (pc := 58) hx hb hG hw wa_int ⟨by omega, by omega⟩ (by show 0 + 1 ≤ 2; omega) (by show 0 + 0 ≤ 0; omega) dX9_addPlace_58 (fun q58 H hfq58 hw => ?_)
      obtain ⟨K58, eK58⟩ : ∃ Y : zK, Y = zup K q58 (2, 0) := ⟨_, rfl⟩
      obtain ⟨X58, eX58⟩ : ∃ Y : zX, Y = zupX X48 q58 := ⟨_, rfl⟩
      obtain ⟨R58, eR58⟩ : ∃ Y : zR, Y = zupR Rf q58 := ⟨_, rfl⟩
      replace hw := Wd.re hw eK58 eX58 eR58
      have hk58 : K58 md = (1, 8) := by rw [eK58]; exact zup_k hfq58 hmd (Nat.succ_ne_zero _)
      have hn58 : Apt md q58 := zne hmd hfq58
      have hk58_1 : K58 a6 = (2, 6) := by rw [eK58]; exact zup_k hfq58 hA6 (Nat.succ_ne_zero _)
      have hn58_1 : Apt a6 q58 := zne hA6 hfq58
      have hk58_2 : K58 a10 = (11, 6) := by rw [eK58]; exact zup_k hfq58 hA10 (Nat.succ_ne_zero _)
      have hn58_2 : Apt a10 q58 := zne hA10 hfq58
      have hk58_3 : K58 a11 = (11, 6) := by rw [eK58]; exact zup_k hfq58 hA11 (Nat.succ_ne_zero _)
      have hn58_3 : Apt a11 q58 := zne hA11 hfq58
      have hk58_4 : K58 q58 = (2, 0) := by rw [eK58]; exact zup_s
      have hr58 : R58 md 6 = some a6 := by rw [eR58, zupR_n hn58]; exact hB6
      have hr58_1 : R58 md 10 = some a10 := by rw [eR58, zupR_n hn58]; exact hB10
      have hr58_2 : R58 md 11 = some a11 := by rw [eR58, zupR_n hn58]; exact hB11
      have hz5_58 : X58 md 5 = M 40 5 := by rw [eX58, zupX_n (zne hmd hfq58)]; exact hz5_48
      refine zaast5 (pc := 60) hx hb hw hk58_2 hk58_4 ⟨by omega, by omega⟩ (by omega) dX9_addPlace_60 (fun H locs hw => ?_)
      obtain ⟨R60, eR60⟩ : ∃ Y : zR, Y = up2 R58 a10 (X48 md 5).toNat (some q58) := ⟨_, rfl⟩
      rw [← eR60] at hw
      have hr60 : R60 md 6 = some a6 := by rw [eR60, up2_a (zkn2 hk58 hk58_2 (by simp))]; exact hr58
      have hr60_1 : R60 md 10 = some a10 := by rw [eR60, up2_a (zkn2 hk58 hk58_2 (by simp))]; exact hr58_1
      have hr60_2 : R60 md 11 = some a11 := by rw [eR60, up2_a (zkn2 hk58 hk58_2 (by simp))]; exact hr58_2
      have hr60_3 : R60 a10 ((X48 md 5).toNat) = some q58 := by rw [eR60]; exact up2_s
      rw [hz5_48, hi9, Int.toNat_natCast] at eR60
      refine lv_aload_n (pc := 61) hx hb dX9_addPlace_61 rfl (lv_at hl 0 rfl) ?_
      refine zgetR (pc := 62) hx hb hG hown hw hk58 (T := TX9) rfl 11 (by decide) rfl wf_X9_36 rfl hr60_2 dX9_addPlace_62 ?_
      refine lv_aload_n (pc := 65) hx hb dX9_addPlace_65 rfl (lv_at hl 0 rfl) ?_
      refine zgetI (pc := 66) hx hb hG hown hw hk58 (T := TX9) rfl 5 (by decide) rfl wf_X9_158 rfl dX9_addPlace_66 ?_
      refine ziconst (pc := 69) (n := 0) hx hb dX9_addPlace_69 ?_
      refine znewi (pc := 70) hx hb hG hw wa_int ⟨by omega, by omega⟩ (by show 0 + 1 + 1 ≤ 2; omega) (by show 0 + 0 ≤ 0; omega) dX9_addPlace_70 (fun q70 H hfq70 hw => ?_)
      obtain ⟨K70, eK70⟩ : ∃ Y : zK, Y = zup K58 q70 (2, 0) := ⟨_, rfl⟩
      obtain ⟨X70, eX70⟩ : ∃ Y : zX, Y = zupX X58 q70 := ⟨_, rfl⟩
      obtain ⟨R70, eR70⟩ : ∃ Y : zR, Y = zupR R60 q70 := ⟨_, rfl⟩
      replace hw := Wd.re hw eK70 eX70 eR70
      have hk70 : K70 md = (1, 8) := by rw [eK70]; exact zup_k hfq70 hk58 (Nat.succ_ne_zero _)
      have hn70 : Apt md q70 := zne hk58 hfq70
      have hk70_1 : K70 a6 = (2, 6) := by rw [eK70]; exact zup_k hfq70 hk58_1 (Nat.succ_ne_zero _)
      have hn70_1 : Apt a6 q70 := zne hk58_1 hfq70
      have hk70_2 : K70 a10 = (11, 6) := by rw [eK70]; exact zup_k hfq70 hk58_2 (Nat.succ_ne_zero _)
      have hn70_2 : Apt a10 q70 := zne hk58_2 hfq70
      have hk70_3 : K70 a11 = (11, 6) := by rw [eK70]; exact zup_k hfq70 hk58_3 (Nat.succ_ne_zero _)
      have hn70_3 : Apt a11 q70 := zne hk58_3 hfq70
      have hk70_4 : K70 q58 = (2, 0) := by rw [eK70]; exact zup_k hfq70 hk58_4 (Nat.succ_ne_zero _)
      have hn70_4 : Apt q58 q70 := zne hk58_4 hfq70
      have hk70_5 : K70 q70 = (2, 0) := by rw [eK70]; exact zup_s
      have hr70 : R70 md 6 = some a6 := by rw [eR70, zupR_n hn70]; exact hr60
      have hr70_1 : R70 md 10 = some a10 := by rw [eR70, zupR_n hn70]; exact hr60_1
      have hr70_2 : R70 md 11 = some a11 := by rw [eR70, zupR_n hn70]; exact hr60_2
      have hr70_3 : R70 a10 ((X48 md 5).toNat) = some q58 := by rw [eR70, zupR_n hn70_2]; exact hr60_3
      have hz5_70 : X70 md 5 = M 40 5 := by rw [eX70, zupX_n (zne hk58 hfq70)]; exact hz5_58
      refine zaast5 (pc := 72) hx hb hw hk70_3 hk70_5 ⟨by omega, by omega⟩ (by omega) dX9_addPlace_72 (fun H locs hw => ?_)
      obtain ⟨R72, eR72⟩ : ∃ Y : zR, Y = up2 R70 a11 (X58 md 5).toNat (some q70) := ⟨_, rfl⟩
      rw [← eR72] at hw
      have hr72 : R72 md 6 = some a6 := by rw [eR72, up2_a (zkn2 hk70 hk70_3 (by simp))]; exact hr70
      have hr72_1 : R72 md 10 = some a10 := by rw [eR72, up2_a (zkn2 hk70 hk70_3 (by simp))]; exact hr70_1
      have hr72_2 : R72 md 11 = some a11 := by rw [eR72, up2_a (zkn2 hk70 hk70_3 (by simp))]; exact hr70_2
      have hr72_4 : R72 a11 ((X58 md 5).toNat) = some q70 := by rw [eR72]; exact up2_s
      rw [hz5_58, hi9, Int.toNat_natCast] at eR72
      refine lv_aload_n (pc := 73) hx hb dX9_addPlace_73 rfl (lv_at hl 0 rfl) ?_
      refine lv_dup (pc := 74) hx hb dX9_addPlace_74 rfl ?_
      refine zgetI (pc := 75) hx hb hG hown hw hk70 (T := TX9) rfl 5 (by decide) rfl wf_X9_158 rfl dX9_addPlace_75 ?_
      refine ziconst (pc := 78) (n := 1) hx hb dX9_addPlace_78 ?_
      refine zadd (pc := 79) hx hb dX9_addPlace_79 ?_
      refine zputI (pc := 80) hx hb hG hown hw hk70 (T := TX9) rfl 5 (by decide) rfl wf_X9_158 rfl (by decide +kernel) rfl dX9_addPlace_80 (fun H locs hw => ?_)
      obtain ⟨X80, eX80⟩ : ∃ Y : zX, Y = up2 X70 md 5 ((X70 md 5) + 1) := ⟨_, rfl⟩
      rw [← eX80] at hw
      have hz5_80 : X80 md 5 = M 40 5 + 1 := by rw [eX80, up2_s, hz5_70]
      rw [hz5_70, hi9] at eX80
      refine lv_aload_n (pc := 83) hx hb dX9_addPlace_83 rfl (lv_at hl 0 rfl) ?_
      refine zgetI (pc := 84) hx hb hG hown hw hk70 (T := TX9) rfl 5 (by decide) rfl wf_X9_158 rfl dX9_addPlace_84 ?_
      refine ziconst (pc := 87) (n := 1) hx hb dX9_addPlace_87 ?_
      refine zsub (pc := 88) hx hb dX9_addPlace_88 ?_
      exact zretI (pc := 89) hx hb hlocks hr hw (by show 0 + 1 + 1 ≤ 2; omega) (Nat.zero_le _) dX9_addPlace_89 (by 
                                        refine ⟨fun _ => by omega, ?_⟩
                                        have hi8 : (M 40 5).toNat = i9 := by omega
                                        rw [hi8]
                                        have f2 : (K q70).1 = 0 ∧ q70 ≠ q58 := by
                                          have hne : q70 ≠ q58 := by rintro rfl; rw [eK58, zup_s] at hfq70; exact absurd hfq70 (by decide)
                                          rw [eK58, zup_n hne] at hfq70; exact ⟨hfq70, hne⟩
                                        have gK : ∀ a9, (K a9).1 ≠ 0 → K70 a9 = K a9 := fun a9 h9 => by rw [eK70, zup_n (zfa h9 f2.1), eK58, zup_n (zfa h9 hfq58)]
                                        have gX : ∀ a9, (K a9).1 ≠ 0 → X70 a9 = X48 a9 := fun a9 h9 => by rw [eX70, zupX_n (zfa h9 f2.1), eX58, zupX_n (zfa h9 hfq58)]
                                        have gR : ∀ a9, (K a9).1 ≠ 0 → a9 ≠ a10 → a9 ≠ a11 → R72 a9 = Rf a9 := fun a9 h9 g1 g2 => by rw [eR72, up2_o g2, eR70, zupR_n (zfa h9 f2.1), eR60, up2_o g1, eR58, zupR_n (zfa h9 hfq58)]
                                        have hmn : (K md).1 ≠ 0 := zk1 hmd
                                        have h10n : (K a10).1 ≠ 0 := zk1 hA10
                                        have h11n : (K a11).1 ≠ 0 := zk1 hA11
                                        have h6n : (K a6).1 ≠ 0 := zk1 hA6
                                        have h1011 : a10 ≠ a11 := zne9 hL10 hL11 (by decide)
                                        have hmdR : R72 md = Rf md := gR md hmn (Ne.symm hN10) (Ne.symm hN11)
                                        obtain ⟨ρ', hρ⟩ : ∃ ρ' : zL, ρ' = fun a9 => if a9 = q58 then 3000 + i9 else if a9 = q70 then 3010 + i9 else ρ a9 := ⟨_, rfl⟩
                                        have hro : ∀ a9, (K a9).1 ≠ 0 → ρ' a9 = ρ a9 := fun a9 h9 => by rw [hρ]; dsimp only; rw [if_neg (zfa h9 hfq58), if_neg (zfa h9 f2.1)]
                                        have hl1 : ρ' q58 = 3000 + i9 := by rw [hρ]; dsimp only; rw [if_pos rfl]
                                        have hl2 : ρ' q70 = 3010 + i9 := by rw [hρ]; dsimp only; rw [if_neg f2.2, if_pos rfl]
                                        have hn0 : repN ρ K X48 Rf md (up2 M 6 i9 bs) := by rw [eX48, eX2]; exact (hR.n.own (q := 0) (v := 0) rfl).row (f := 6) (a := a6) (k := i9) (v := bs) (by decide) hB6 rfl
                                        have hn1 : repN ρ' K70 X80 R72 md (plM M i9 bs) := by rw [eX80]; exact (hn0.ext (ρ' := ρ') (K' := K70) (X' := X70) (Rf' := R72) gK hro gX hmdR).num (q := 5) (v := (i9 : Int) + 1)
                                        have gX8 : ∀ a9, (K a9).1 ≠ 0 → a9 ≠ md → a9 ≠ a6 → X80 a9 = X a9 := fun a9 h9 g1 g2 => by rw [eX80, up2_o g1, gX a9 h9, eX48, up2_o g2, eX2, up2_o g1]
                                        have h35 : X80 md 35 = X md 35 := by rw [eX80, up2_k (by decide), gX md hmn, eX48, up2_o (Ne.symm hN6), eX2, up2_k (by decide)]
                                        have h0 : X80 md 0 = 0 := by rw [eX80, up2_k (by decide), gX md hmn, eX48, up2_o (Ne.symm hN6), eX2, up2_s]
                                        have hk1 : K70 q58 = (2, 0) := by rw [eK70, zup_n (Ne.symm f2.2), eK58, zup_s]
                                        have hk2 : K70 q70 = (2, 0) := by rw [eK70, zup_s]
                                        have hAA : ∀ a9, (K a9).1 ≠ 0 → (ρ a9 < 2000 ∨ 4000 ≤ ρ a9) → X80 a9 = X a9 ∧ R72 a9 = Rf a9 := fun a9 h9 g => ⟨gX8 a9 h9 (fun w => by rw [w, hlmd] at g; omega) (fun w => by rw [w, hL6] at g; omega), gR a9 h9 (fun w => by rw [w, hL10] at g; omega) (fun w => by rw [w, hL11] at g; omega)⟩
                                        have hXX : ∀ a9, (K a9).1 ≠ 0 → ρ a9 ≠ 2000 → ρ a9 ≠ 2007 → X80 a9 = X a9 := fun a9 h9 g1 g2 => gX8 a9 h9 (fun w => g1 (by rw [w]; exact hlmd)) (fun w => g2 (by rw [w]; exact hL6))
                                        have hcc : cacR ρ' K70 X80 R72 md (plM M i9 bs) := by
                                          refine cacR.plc hR hM (q1 := q58) (q2 := q70) (a10 := a10) (a11 := a11) ⟨hi9, by omega⟩ hB10 hB11 ⟨hk1, hk2⟩ gK hro ⟨hl1, hl2⟩ hXX gR ⟨?_, ?_⟩ (fun k hk9 => ⟨?_, ?_⟩) h35
                                          · rw [eR72, up2_o h1011, eR70, zupR_n (zfa h10n f2.1), eR60]; exact up2_s
                                          · rw [eR72]; exact up2_s
                                          · rw [eR72, up2_o h1011, eR70, zupR_n (zfa h10n f2.1), eR60, up2_k hk9, eR58, zupR_n (zfa h10n hfq58)]
                                          · rw [eR72, up2_k hk9, eR70, zupR_n (zfa h11n f2.1), eR60, up2_o (Ne.symm h1011), eR58, zupR_n (zfa h11n hfq58)]
                                        have hcd : cdApl M bs = 0 := by (unfold cdApl; (repeat' split) <;> omega)
                                        exact hR.mutG (M' := plM M i9 bs) (cd := cdApl M bs) gK hro hn1 hAA hcc h0 hcd (hR.pt hmdR (fun b h9 g => gX8 b h9 (fun w => by rw [w, hlmd] at g; omega) (fun w => by rw [w, hL6] at g; omega)) (fun b h9 g => gR b h9 (fun w => by rw [w, hL10] at g; omega) (fun w => by rw [w, hL11] at g; omega))))
    · skip
      refine lv_aload_n (pc := 33) hx hb dX9_addPlace_33 rfl (lv_at hl 0 rfl) ?_
      refine ziconst (pc := 34) (n := 2) hx hb dX9_addPlace_34 ?_
      refine zkIx (pc := 35) (zrV (As := [.int (iI 2)]) hx hb hml hown hG hw (c_X9_refuse l Γ K X2 Rf md 2  (by (first | assumption | omega))) (T := TX9) hmd rfl cb_X9_refuse wl_X9_123 rfl ⟨Nat.le_of_ble_eq_true rfl, Nat.le_of_ble_eq_true rfl⟩ hl.1 rfl (Nat.le_of_ble_eq_true rfl) dX9_addPlace_35 ⟨Nat.zero_le _, Nat.zero_le _⟩) hw (fun r35 X35 H locs hp35 hw => ?_)
      obtain ⟨hrf35, eX35⟩ := hp35
      exact zretI (pc := 38) hx hb hlocks hr hw (Nat.zero_le _) (Nat.zero_le _) dX9_addPlace_38 (by refine ⟨fun hz => by (exfalso; revert hz; (unfold cdApl; (repeat' split) <;> omega)), ?_⟩; exact hR.no (by (unfold cdApl; (repeat' split) <;> omega)) (by rw [eX35]; (try rw [eX2]); (try rw [up2_up2]); exact thr_c (by (unfold cdApl; (repeat' split) <;> omega))))
  · skip
    replace c15 := it0 c15
    refine lv_aload_n (pc := 18) hx hb dX9_addPlace_18 rfl (lv_at hl 0 rfl) ?_
    refine ziconst (pc := 19) (n := 1) hx hb dX9_addPlace_19 ?_
    refine zkIx (pc := 20) (zrV (As := [.int (iI 1)]) hx hb hml hown hG hw (c_X9_refuse l Γ K X2 Rf md 1  (by (first | assumption | omega))) (T := TX9) hmd rfl cb_X9_refuse wl_X9_123 rfl ⟨Nat.le_of_ble_eq_true rfl, Nat.le_of_ble_eq_true rfl⟩ hl.1 rfl (Nat.le_of_ble_eq_true rfl) dX9_addPlace_20 ⟨Nat.zero_le _, Nat.zero_le _⟩) hw (fun r20 X20 H locs hp20 hw => ?_)
    obtain ⟨hrf20, eX20⟩ := hp20
    exact zretI (pc := 23) hx hb hlocks hr hw (Nat.zero_le _) (Nat.zero_le _) dX9_addPlace_23 (by refine ⟨fun hz => by (exfalso; revert hz; (unfold cdApl; (repeat' split) <;> omega)), ?_⟩; exact hR.no (by (unfold cdApl; (repeat' split) <;> omega)) (by rw [eX20]; (try rw [eX2]); (try rw [up2_up2]); exact thr_c (by (unfold cdApl; (repeat' split) <;> omega))))
