set_option maxHeartbeats 4000000 in
set_option maxRecDepth 100000 in
theorem c_J7_copyOf_59c91 (l : Launch) (Γ : zG) (K : zK) (X : zX) (Rf : zR) (b0 : Nat) (n9 : Int)  (hk : K b0 = (2, 4001)) (h1 : 0 ≤ n9 ∧ n9 ≤ 4001) : Ct l yJ7_copyOf_59c91 cJ7_copyOf_59c91 3 (some (.array .int)) 2 1 n9.toNat Γ [.ref b0, .int (iI n9)] K X Rf (pR (fun (r : Nat) (K' : zK) (X' : zX) (R' : zR) => ∃ na : Nat, ((∀ a, (K a).1 ≠ 0 → K' a = K a) ∧ (∀ a, (K a).1 ≠ 0 → X' a = X a ∧ R' a = Rf a)) ∧ ((K na).1 = 0 ∧ K' na = (2, n9.toNat)) ∧ (r = na ∧ ∀ j, j < n9.toNat → X' na j = X b0 j))) := by
  refine Ct.ofF (by decide +kernel) (Nat.le_of_ble_eq_true rfl) ?_
  intro p e s m below meth c ls hx hb hr hml hown hG hlocks hname hw hl
  have hl : lv_has ls 3 [(0, .ref b0), (1, .int (iI n9))] := hl
  have gK0 : ∀ a, (K a).1 ≠ 0 → K a = K a := fun _ _ => rfl
  have gX0 : ∀ a, (K a).1 ≠ 0 → X a = X a ∧ Rf a = Rf a := fun _ _  => ⟨rfl, rfl⟩
  refine lv_iload_n (pc := 0) hx hb dJ7_copyOf_59c91_0 rfl (lv_at hl 1 rfl) ?_
  refine lv_aload_n (pc := 1) hx hb dJ7_copyOf_59c91_1 rfl (lv_at hl 0 rfl) ?_
  refine zlen2 (pc := 2) hx hb hw hk dJ7_copyOf_59c91_2 ?_
  refine zicmp_ne (pc := 3) hx hb 14 (by omega) (by omega) dJ7_copyOf_59c91_3 (by decide) (fun c3 => ?_) (fun c3 => ?_)
  · skip
    refine lv_iload_n (pc := 14) hx hb dJ7_copyOf_59c91_14 rfl (lv_at hl 1 rfl) ?_
    refine znewi (pc := 15) hx hb hG hw wa_int ⟨by omega, by omega⟩ (by show 0 + 1 ≤ 1; omega) (by show 0 + n9.toNat ≤ n9.toNat; omega) dJ7_copyOf_59c91_15 (fun q15 H hfq15 hw => ?_)
    obtain ⟨K15, eK15⟩ : ∃ Y : zK, Y = zup K q15 (2, n9.toNat) := ⟨_, rfl⟩
    obtain ⟨X15, eX15⟩ : ∃ Y : zX, Y = zupX X q15 := ⟨_, rfl⟩
    obtain ⟨R15, eR15⟩ : ∃ Y : zR, Y = zupR Rf q15 := ⟨_, rfl⟩
    replace hw := Wd.re hw eK15 eX15 eR15
    have hk15 : K15 b0 = (2, 4001) := by rw [eK15]; exact zup_k hfq15 hk (Nat.succ_ne_zero _)
    have hn15 : Apt b0 q15 := zne hk hfq15
    have hk15_1 : K15 q15 = (2, n9.toNat) := by rw [eK15]; exact zup_s
    have hz15 : (K q15).1 = 0 := zfz gK0 hfq15
    have gK15 : ∀ a, (K a).1 ≠ 0 → K15 a = K a := fun a h9 => (by rw [eK15, zup_n (zfa h9 hz15)] : K15 a = K a).trans (gK0 a h9)
    have gX15 : ∀ a, (K a).1 ≠ 0 → X15 a = X a ∧ R15 a = Rf a := fun a h9  => ⟨(by rw [eX15, zupX_n (zfa h9 hz15)] : X15 a = X a).trans (gX0 a h9 ).1, (by rw [eR15, zupR_n (zfa h9 hz15)] : R15 a = Rf a).trans (gX0 a h9 ).2⟩
    refine lv_astore_n (pc := 17) (lv' := [(2, .ref q15), (0, .ref b0), (1, .int (iI n9))]) hx hb dJ7_copyOf_59c91_17 rfl hl (by decide) rfl (fun ls hl => ?_)
    refine lv_aload_n (pc := 18) hx hb dJ7_copyOf_59c91_18 rfl (lv_at hl 1 rfl) ?_
    refine ziconst (pc := 19) (n := 0) hx hb dJ7_copyOf_59c91_19 ?_
    refine lv_aload_n (pc := 20) hx hb dJ7_copyOf_59c91_20 rfl (lv_at hl 0 rfl) ?_
    refine ziconst (pc := 21) (n := 0) hx hb dJ7_copyOf_59c91_21 ?_
    refine lv_aload_n (pc := 22) hx hb dJ7_copyOf_59c91_22 rfl (lv_at hl 1 rfl) ?_
    refine zlen2 (pc := 23) hx hb hw hk15 dJ7_copyOf_59c91_23 ?_
    refine lv_iload_n (pc := 24) hx hb dJ7_copyOf_59c91_24 rfl (lv_at hl 2 rfl) ?_
    refine zmin (pc := 25) hx hb (hml.trans hl.1.symm) hown hG wl_J7_304 w1_zmn wi_javalangMath w2_zmn (Nat.le_of_ble_eq_true rfl) (Nat.le_of_ble_eq_true rfl) (by show 0 + 1 ≤ 1; omega) (by show 0 + n9.toNat ≤ n9.toNat; omega) ⟨by omega, by omega⟩ dJ7_copyOf_59c91_25 ?_
    refine zcopy (pc := 28) hx hb (hml.trans hl.1.symm) hown hG wl_J7_150 w2_zco w1_zco wi_javalangSystem hw hk15 hk15_1 (by omega) (by omega) (Nat.le_of_ble_eq_true rfl) (Nat.le_of_ble_eq_true rfl) dJ7_copyOf_59c91_28 (fun H locs hw => ?_)
    obtain ⟨X28, eX28⟩ : ∃ Y : zX, Y = zcp X15 b0 q15 0 0 (min (((4001 : Nat) : Int)) n9).toNat := ⟨_, rfl⟩
    replace hw := Wd.re hw rfl eX28 rfl
    have gX28 : ∀ a, (K a).1 ≠ 0 → X28 a = X a ∧ R15 a = Rf a := fun a h9  => ⟨(by rw [eX28, zcp_o (zfa h9 hz15)] : X28 a = X15 a).trans (gX15 a h9 ).1, (gX15 a h9 ).2⟩
    refine lv_aload_n (pc := 31) hx hb dJ7_copyOf_59c91_31 rfl (lv_at hl 0 rfl) ?_
    exact zretR (pc := 32) hx hb hlocks hr (by first | exact Or.inl ⟨_, rfl⟩ | exact Or.inr ⟨_, rfl⟩) hw (by show 0 + 1 ≤ 1; omega) (by show 0 + n9.toNat ≤ n9.toNat; omega) dJ7_copyOf_59c91_32 ⟨q15, ⟨gK15, gX28⟩, ⟨hz15, hk15_1⟩, (by refine ⟨rfl, fun j hj => ?_⟩; rw [eX28]; unfold zcp; rw [if_pos rfl, if_pos (by omega), eX15, Nat.sub_zero, Nat.zero_add, zupX_n (zne hk hfq15)])⟩
  · skip
    refine lv_aload_n (pc := 6) hx hb dJ7_copyOf_59c91_6 rfl (lv_at hl 0 rfl) ?_
    refine zclone (pc := 7) hx hb (hml.trans hl.1.symm) hown hG wl_J7_316 hw hk (Nat.le_of_ble_eq_true rfl) (Nat.le_of_ble_eq_true rfl) (by show 0 + 1 ≤ 1; omega) (by show 0 + 4001 ≤ n9.toNat; omega) dJ7_copyOf_59c91_7 (fun q7 H hfq7 hw => ?_)
    obtain ⟨K7, eK7⟩ : ∃ Y : zK, Y = zup K q7 (2, 4001) := ⟨_, rfl⟩
    obtain ⟨X7, eX7⟩ : ∃ Y : zX, Y = zupC X q7 b0 := ⟨_, rfl⟩
    obtain ⟨R7, eR7⟩ : ∃ Y : zR, Y = zupR Rf q7 := ⟨_, rfl⟩
    replace hw := Wd.re hw eK7 eX7 eR7
    have hk7 : K7 b0 = (2, 4001) := by rw [eK7]; exact zup_k hfq7 hk (Nat.succ_ne_zero _)
    have hn7 : Apt b0 q7 := zne hk hfq7
    have hk7_1 : K7 q7 = (2, 4001) := by rw [eK7]; exact zup_s
    have hz7 : (K q7).1 = 0 := zfz gK0 hfq7
    have gK7 : ∀ a, (K a).1 ≠ 0 → K7 a = K a := fun a h9 => (by rw [eK7, zup_n (zfa h9 hz7)] : K7 a = K a).trans (gK0 a h9)
    have gX7 : ∀ a, (K a).1 ≠ 0 → X7 a = X a ∧ R7 a = Rf a := fun a h9  => ⟨(by rw [eX7, zupC_n (zfa h9 hz7)] : X7 a = X a).trans (gX0 a h9 ).1, (by rw [eR7, zupR_n (zfa h9 hz7)] : R7 a = Rf a).trans (gX0 a h9 ).2⟩
    replace hk7_1 : K7 q7 = (2, n9.toNat) := by rw [hk7_1]; congr 1; omega
    refine zcastI (pc := 10) hx hb hown hG wn_J7_317 hw hk7_1 dJ7_copyOf_59c91_10 ?_
    exact zretR (pc := 13) hx hb hlocks hr (by first | exact Or.inl ⟨_, rfl⟩ | exact Or.inr ⟨_, rfl⟩) hw (by show 0 + 1 ≤ 1; omega) (by show 0 + 4001 ≤ n9.toNat; omega) dJ7_copyOf_59c91_13 ⟨q7, ⟨gK7, gX7⟩, ⟨hz7, hk7_1⟩, (by refine ⟨rfl, fun j hj => ?_⟩; rw [eX7, zupC_s])⟩
set_option maxHeartbeats 4000000 in
set_option maxRecDepth 100000 in
theorem c_X9_dated (l : Launch) (Γ : zG) (K : zK) (X : zX) (Rf : zR) (md : Nat) (n : Int) (ρ : zL) (M : zM) (hR : repR ρ K X Rf md M) (hM : okM M) (h1 : 0 ≤ n ∧ n < M 40 16) : Ct l yX9_dated cX9_dated 2 (some (.array .int)) 8 1 (dnC Rf md n.toNat) Γ [.ref md, .int (iI n)] K X Rf (pR (fun (r : Nat) (K' : zK) (X' : zX) (R' : zR) => ∃ ρ', (repR ρ' K' X' R' md M ∧ frR ρ K X Rf ρ' K' X' R' ∧ (∀ q, q = 0 ∨ q = 36 → X' md q = X md q)) ∧ (K' r = (2, (datM M n.toNat).length) ∧ ρ' r = 3020 + n.toNat ∧ ∀ j, j < (datM M n.toNat).length → X' r j = (datM M n.toNat).getD j 0) ∧ (lsR X Rf X' R' md ∧ dnC R' md n.toNat = 0) ∧ ∀ a, (K a).1 ≠ 0 → 3000 ≤ ρ a → X' a = X a)) := by
  refine Ct.of (by decide +kernel) (Nat.le_of_ble_eq_true rfl) ?_
  intro p e s m below meth c ls hx hb hr hml hown hG hlocks hname hw hl
  have hl : lv_has ls 2 [(0, .ref md), (1, .int (iI n))] := hl
  obtain ⟨hmd, hlmd⟩ := id hR.1
  obtain ⟨⟨hb1, hb2, hb3, hb4⟩, hokP, hokL, hokS, hokW, hokF⟩ := id hM
  have hq1 : X md 1 = M 40 1 := hR.2.1 1 rfl
  have hq5 : X md 5 = M 40 5 := hR.2.1 5 rfl
  have hq16 : X md 16 = M 40 16 := hR.2.1 16 rfl
  have hq25 : X md 25 = M 40 25 := hR.2.1 25 rfl
  have hq26 : X md 26 = M 40 26 := hR.2.1 26 rfl
  have hq27 : X md 27 = M 40 27 := hR.2.1 27 rfl
  have hq28 : X md 28 = M 40 28 := hR.2.1 28 rfl
  have hq29 : X md 29 = M 40 29 := hR.2.1 29 rfl
  obtain ⟨a20, hB20, hA20, hL20⟩ : ∃ a, Rf md 20 = some a ∧ K a = (2, 366) ∧ ρ a = 2021 := hR.ff 20 (by decide)
  have hN20 : Apt a20 md := zkn2 hA20 hmd (by simp)
  obtain ⟨a22, hB22, hA22, hL22⟩ : ∃ a, Rf md 22 = some a ∧ K a = (11, 6) ∧ ρ a = 2023 := hR.ff 22 (by decide)
  have hN22 : Apt a22 md := zkn2 hA22 hmd (by simp)
  obtain ⟨a23, hB23, hA23, hL23⟩ : ∃ a, Rf md 23 = some a ∧ K a = (2, 4001) ∧ ρ a = 2024 := hR.ff 23 (by decide)
  have hN23 : Apt a23 md := zkn2 hA23 hmd (by simp)
  refine lv_aload_n (pc := 0) hx hb dX9_dated_0 rfl (lv_at hl 0 rfl) ?_
  refine zgetR (pc := 1) hx hb hG hown hw hmd (T := TX9) rfl 22 (by decide) rfl wf_X9_51 rfl hB22 dX9_dated_1 ?_
  refine lv_iload_n (pc := 4) hx hb dX9_dated_4 rfl (lv_at hl 1 rfl) ?_
  refine zaaldQ5 (pc := 5) hx hb hw hA22 ⟨by omega, by omega⟩ (by omega) dX9_dated_5 (fun hq5 => ?_) (fun q5 hq5 => ?_)
  · skip
    refine lv_ifnonnullN (pc := 6) hx hb dX9_dated_6 ?_
    refine lv_aload_n (pc := 9) hx hb dX9_dated_9 rfl (lv_at hl 0 rfl) ?_
    refine lv_iload_n (pc := 10) hx hb dX9_dated_10 rfl (lv_at hl 1 rfl) ?_
    refine zkVx (pc := 11) (zrV (As := [.int (iI n)]) hx hb hml hown hG hw (c_X9_date l Γ K X Rf md n (ρ) M (by (first | assumption | omega)) (by (first | assumption | omega)) (by (first | assumption | omega))) (T := TX9) hmd rfl cb_X9_date wl_X9_244 rfl ⟨Nat.le_of_ble_eq_true rfl, Nat.le_of_ble_eq_true rfl⟩ hl.1 rfl (Nat.le_of_ble_eq_true rfl) dX9_dated_11 ⟨Nat.zero_le _, Nat.zero_le _⟩) hw (fun X11 H locs hp11 hw => ?_)
    obtain ⟨h24, h23, ho, hq⟩ := hp11 a20 a23 hB20 hB23
    have hR11 := hR.scr hB20 hB23 hq ho
    have hdl := dtS_len (Up := useM M n.toNat) (Ex := excM M n.toNat) (hokS n.toNat (by omega)).1
    have hdl2 : ((datM M n.toNat).length : Int) ≤ 4001 := hdl
    have hdn : dnC Rf md n.toNat = 4001 := dnC_n hB22 hq5
    refine lv_aload_n (pc := 14) hx hb dX9_dated_14 rfl (lv_at hl 0 rfl) ?_
    refine zgetR (pc := 15) hx hb hG hown hw hmd (T := TX9) rfl 22 (by decide) rfl wf_X9_51 rfl hB22 dX9_dated_15 ?_
    refine lv_iload_n (pc := 18) hx hb dX9_dated_18 rfl (lv_at hl 1 rfl) ?_
    refine lv_aload_n (pc := 19) hx hb dX9_dated_19 rfl (lv_at hl 0 rfl) ?_
    refine zgetR (pc := 20) hx hb hG hown hw hmd (T := TX9) rfl 23 (by decide) rfl wf_X9_54 rfl hB23 dX9_dated_20 ?_
    refine lv_aload_n (pc := 23) hx hb dX9_dated_23 rfl (lv_at hl 0 rfl) ?_
    refine zgetI (pc := 24) hx hb hG hown hw hmd (T := TX9) rfl 24 (by decide) rfl wf_X9_247 rfl dX9_dated_24 ?_
    refine zkR (pc := 27) (zrS (As := [.ref a23, .int (iI (X11 md 24))]) hx hb hml hown hG hw (c_J7_copyOf_59c91 l Γ K X11 Rf a23 (X11 md 24)  (by (first | assumption | omega)) (by (first | assumption | omega))) cb_J7_copyOf_59c91 wl_X9_250 rfl ⟨Nat.le_of_ble_eq_true rfl, Nat.le_of_ble_eq_true rfl⟩ hl.1 rfl (Nat.le_of_ble_eq_true rfl) dX9_dated_27 ⟨(by show 0 + 1 ≤ 1; omega), (by show 0 + ((X11 md 24).toNat) ≤ (dnC Rf md n.toNat); omega)⟩) hw (fun r27 K27 X27 R27 H locs hp27 hw => ?_)
    obtain ⟨na_27, ⟨cK27, cX27⟩, ⟨cz27, ck27⟩, cP27⟩ := hp27
    have hk27 : K27 md = (1, 8) := (cK27 _ (zk1 hmd)).trans hmd
    have hn27 : Apt md na_27 := zne hmd cz27
    have hk27_1 : K27 a20 = (2, 366) := (cK27 _ (zk1 hA20)).trans hA20
    have hn27_1 : Apt a20 na_27 := zne hA20 cz27
    have hk27_2 : K27 a22 = (11, 6) := (cK27 _ (zk1 hA22)).trans hA22
    have hn27_2 : Apt a22 na_27 := zne hA22 cz27
    have hk27_3 : K27 a23 = (2, 4001) := (cK27 _ (zk1 hA23)).trans hA23
    have hn27_3 : Apt a23 na_27 := zne hA23 cz27
    have hr27 : R27 md 20 = some a20 := by rw [(cX27 _ (zk1 hmd) ).2]; exact hB20
    have hr27_1 : R27 md 22 = some a22 := by rw [(cX27 _ (zk1 hmd) ).2]; exact hB22
    have hr27_2 : R27 md 23 = some a23 := by rw [(cX27 _ (zk1 hmd) ).2]; exact hB23
    have hr27_3 : R27 a22 n.toNat = none := by rw [(cX27 _ (zk1 hA22) ).2]; exact hq5
    obtain ⟨ec27, hc27⟩ := cP27
    subst ec27
    refine zaast5 (pc := 30) hx hb hw hk27_2 ck27 ⟨by omega, by omega⟩ (by omega) dX9_dated_30 (fun H locs hw => ?_)
    obtain ⟨R30, eR30⟩ : ∃ Y : zR, Y = up2 R27 a22 n.toNat (some r27) := ⟨_, rfl⟩
    rw [← eR30] at hw
    have hr30 : R30 md 20 = some a20 := by rw [eR30, up2_a (zkn2 hk27 hk27_2 (by simp))]; exact hr27
    have hr30_1 : R30 md 22 = some a22 := by rw [eR30, up2_a (zkn2 hk27 hk27_2 (by simp))]; exact hr27_1
    have hr30_2 : R30 md 23 = some a23 := by rw [eR30, up2_a (zkn2 hk27 hk27_2 (by simp))]; exact hr27_2
    have hr30_3 : R30 a22 n.toNat = some r27 := by rw [eR30]; exact up2_s
    refine lv_aload_n (pc := 31) hx hb dX9_dated_31 rfl (lv_at hl 0 rfl) ?_
    refine zgetR (pc := 32) hx hb hG hown hw hk27 (T := TX9) rfl 22 (by decide) rfl wf_X9_51 rfl hr30_1 dX9_dated_32 ?_
    refine lv_iload_n (pc := 35) hx hb dX9_dated_35 rfl (lv_at hl 1 rfl) ?_
    refine zaaldR5 (pc := 36) hx hb hw hk27_2 ⟨by omega, by omega⟩ (by omega) hr30_3 dX9_dated_36 ?_
    exact zretR (pc := 37) hx hb hlocks hr (by first | exact Or.inl ⟨_, rfl⟩ | exact Or.inr ⟨_, rfl⟩) hw (by show 0 + 1 ≤ 1; omega) (by show 0 + ((X11 md 24).toNat) ≤ (dnC Rf md n.toNat); omega) dX9_dated_37 (by 
                                        first
                                        | (obtain ⟨w1, w2, w3⟩ := hR.ser22 hB22 (by omega) hq5
                                           exact ⟨ρ, ⟨hR, frR_refl, fun _ _ => rfl⟩, ⟨w1, w2, w3⟩, ⟨lsR_refl, dnC_s hB22 hq5⟩, fun a _ _ => rfl⟩)
                                        | (obtain ⟨ρ', hρ⟩ : ∃ ρ' : zL, ρ' = fun a9 => if a9 = r27 then 3020 + n.toNat else ρ a9 := ⟨_, rfl⟩
                                           have hro : ∀ a9, (K a9).1 ≠ 0 → ρ' a9 = ρ a9 := fun a9 h9 => by rw [hρ]; dsimp only; rw [if_neg (zfa h9 cz27)]
                                           have hl1 : ρ' r27 = 3020 + n.toNat := by rw [hρ]; dsimp only; rw [if_pos rfl]
                                           have hln : (X11 md 24).toNat = (datM M n.toNat).length := by rw [h24]; exact Int.toNat_natCast _
                                           have L9 := hR11.1.lay22 (n := n.toNat) (r := r27) (K' := K27) (X' := X27) (Rf' := R30) (ρ' := ρ') hB22 (by omega) (by omega) cK27 (fun a h => (cX27 a h).1) hro (fun a h g => by rw [eR30, up2_o g]; exact (cX27 a h).2) (fun k g => by rw [eR30, up2_k g, (cX27 a22 (zk1 hA22)).2]) hr30_3 (by rw [ck27, hln]) hl1 (fun k hk => by rw [hc27 k (by omega), h23 k hk])
                                           obtain ⟨a9, w1, w2, w3⟩ := hR.a9
                                           refine ⟨ρ', ⟨L9.1, hR11.2.trans L9.2.1, ?_⟩, ⟨by rw [ck27, hln], hl1, fun k hk => by rw [hc27 k (by omega), h23 k hk]⟩, ⟨(lsR_x w1 (ho a9 (zne9 w3 hlmd (by decide)) (zne9 w3 hL20 (by decide)) (zne9 w3 hL23 (by decide)))).trans L9.2.2.1, L9.2.2.2⟩, fun a h1 h2 => ?_⟩
                                           · intro q g; rw [(cX27 md (zk1 hmd)).1]; exact hq q (by omega) (by omega)
                                           · rw [(cX27 a h1).1]; exact ho a (fun g => by rw [g, hlmd] at h2; omega) (fun g => by rw [g, hL20] at h2; omega) (fun g => by rw [g, hL23] at h2; omega)))
  · skip
    refine lv_ifnonnull (pc := 6) (tgt := 31) hx hb dX9_dated_6 (by decide) ?_
    refine lv_aload_n (pc := 31) hx hb dX9_dated_31 rfl (lv_at hl 0 rfl) ?_
    refine zgetR (pc := 32) hx hb hG hown hw hmd (T := TX9) rfl 22 (by decide) rfl wf_X9_51 rfl hB22 dX9_dated_32 ?_
    refine lv_iload_n (pc := 35) hx hb dX9_dated_35 rfl (lv_at hl 1 rfl) ?_
    refine zaaldR5 (pc := 36) hx hb hw hA22 ⟨by omega, by omega⟩ (by omega) hq5 dX9_dated_36 ?_
    exact zretR (pc := 37) hx hb hlocks hr (by first | exact Or.inl ⟨_, rfl⟩ | exact Or.inr ⟨_, rfl⟩) hw (Nat.zero_le _) (Nat.zero_le _) dX9_dated_37 (by 
                                        first
                                        | (obtain ⟨w1, w2, w3⟩ := hR.ser22 hB22 (by omega) hq5
                                           exact ⟨ρ, ⟨hR, frR_refl, fun _ _ => rfl⟩, ⟨w1, w2, w3⟩, ⟨lsR_refl, dnC_s hB22 hq5⟩, fun a _ _ => rfl⟩)
                                        | (obtain ⟨ρ', hρ⟩ : ∃ ρ' : zL, ρ' = fun a9 => if a9 = r27 then 3020 + n.toNat else ρ a9 := ⟨_, rfl⟩
                                           have hro : ∀ a9, (K a9).1 ≠ 0 → ρ' a9 = ρ a9 := fun a9 h9 => by rw [hρ]; dsimp only; rw [if_neg (zfa h9 cz27)]
                                           have hl1 : ρ' r27 = 3020 + n.toNat := by rw [hρ]; dsimp only; rw [if_pos rfl]
                                           have hln : (X11 md 24).toNat = (datM M n.toNat).length := by rw [h24]; exact Int.toNat_natCast _
                                           have L9 := hR11.1.lay22 (n := n.toNat) (r := r27) (K' := K27) (X' := X27) (Rf' := R30) (ρ' := ρ') hB22 (by omega) (by omega) cK27 (fun a h => (cX27 a h).1) hro (fun a h g => by rw [eR30, up2_o g]; exact (cX27 a h).2) (fun k g => by rw [eR30, up2_k g, (cX27 a22 (zk1 hA22)).2]) hr30_3 (by rw [ck27, hln]) hl1 (fun k hk => by rw [hc27 k (by omega), h23 k hk])
                                           obtain ⟨a9, w1, w2, w3⟩ := hR.a9
                                           refine ⟨ρ', ⟨L9.1, hR11.2.trans L9.2.1, ?_⟩, ⟨by rw [ck27, hln], hl1, fun k hk => by rw [hc27 k (by omega), h23 k hk]⟩, ⟨(lsR_x w1 (ho a9 (zne9 w3 hlmd (by decide)) (zne9 w3 hL20 (by decide)) (zne9 w3 hL23 (by decide)))).trans L9.2.2.1, L9.2.2.2⟩, fun a h1 h2 => ?_⟩
                                           · intro q g; rw [(cX27 md (zk1 hmd)).1]; exact hq q (by omega) (by omega)
                                           · rw [(cX27 a h1).1]; exact ho a (fun g => by rw [g, hlmd] at h2; omega) (fun g => by rw [g, hL20] at h2; omega) (fun g => by rw [g, hL23] at h2; omega)))
