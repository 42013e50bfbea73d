set_option maxHeartbeats 4000000 in
set_option maxRecDepth 100000 in
theorem c_X9_ofTurn (l : Launch) (Γ : zG) (K : zK) (X : zX) (Rf : zR) (md : Nat) (pl : Int) (t : Int) (w : Int) (a8 : Nat) (hmd : K md = (1, 8)) (hB8 : Rf md 8 = some a8) (hA8 : K a8 = (2, 216)) (h1 : (0 ≤ pl ∧ pl < 6) ∧ (0 ≤ t ∧ t < 6) ∧ 0 ≤ w ∧ w < 6) : Ct l yX9_ofTurn cX9_ofTurn 4 (some .int) 0 0 0 Γ [.ref md, .int (iI pl), .int (iI t), .int (iI w)] K X Rf (pI (zp0 K X Rf (fun r : Int => r = X a8 ((6 * pl + t) * 6 + w).toNat))) := by
  refine Ct.of (by decide +kernel) (Nat.le_of_ble_eq_true rfl) ?_
  intro p e s m below meth c ls hx hb hr hml hown hG hlocks hname hw hl
  have hl : lv_has ls 4 [(0, .ref md), (1, .int (iI pl)), (2, .int (iI t)), (3, .int (iI w))] := hl
  refine lv_aload_n (pc := 0) hx hb dX9_ofTurn_0 rfl (lv_at hl 0 rfl) ?_
  refine zgetR (pc := 1) hx hb hG hown hw hmd (T := TX9) rfl 8 (by decide) rfl wf_X9_25 rfl hB8 dX9_ofTurn_1 ?_
  refine zbipush (pc := 4) (n := 6) hx hb dX9_ofTurn_4 rfl ?_
  refine lv_iload_n (pc := 6) hx hb dX9_ofTurn_6 rfl (lv_at hl 1 rfl) ?_
  refine zmul (pc := 7) hx hb dX9_ofTurn_7 ?_
  refine lv_iload_n (pc := 8) hx hb dX9_ofTurn_8 rfl (lv_at hl 2 rfl) ?_
  refine zadd (pc := 9) hx hb dX9_ofTurn_9 ?_
  refine zbipush (pc := 10) (n := 6) hx hb dX9_ofTurn_10 rfl ?_
  refine zmul (pc := 12) hx hb dX9_ofTurn_12 ?_
  refine lv_iload_n (pc := 13) hx hb dX9_ofTurn_13 rfl (lv_at hl 3 rfl) ?_
  refine zadd (pc := 14) hx hb dX9_ofTurn_14 ?_
  refine zald (pc := 15) hx hb hw hA8 ⟨by omega, by omega⟩ (by omega) dX9_ofTurn_15 ?_
  exact zretI (pc := 16) hx hb hlocks hr hw (Nat.zero_le _) (Nat.zero_le _) dX9_ofTurn_16 ⟨by (try dsimp only) <;> ((first | assumption | omega)), rfl, rfl, rfl⟩
set_option maxHeartbeats 4000000 in
set_option maxRecDepth 100000 in
theorem c_X9_dayOfTurn (l : Launch) (Γ : zG) (K : zK) (X : zX) (Rf : zR) (md : Nat) (pl : Int) (t : Int) (year : Int) (ρ : zL) (M : zM) (hR : repR ρ K X Rf md M) (hM : okM M) (h1 : (0 ≤ pl ∧ pl < M 40 5) ∧ 0 ≤ t ∧ t < M 7 pl.toNat) (hy : 1900 ≤ year ∧ year ≤ 2099) : Ct l yX9_dayOfTurn cX9_dayOfTurn 6 (some .int) 5 0 0 Γ [.ref md, .int (iI pl), .int (iI t), .int (iI year)] K X Rf (pI (zp0 K X Rf (fun r : Int => r = nxT (tupM M pl.toNat t.toNat) 0 12 (12 * (year - 1900))))) := by
  refine Ct.of (by decide +kernel) (Nat.le_of_ble_eq_true rfl) ?_
  intro p e s m below meth c ls hx hb hr hml hown hG hlocks hname hw hl
  have hl : lv_has ls 6 [(0, .ref md), (1, .int (iI pl)), (2, .int (iI t)), (3, .int (iI year))] := hl
  obtain ⟨hmd, hlmd⟩ := id hR.1
  obtain ⟨⟨hb1, hb2, hb3, hb4⟩, hokP, hokL, hokS, hokW, hokF⟩ := id hM
  have hq1 : X md 1 = M 40 1 := hR.2.1 1 rfl
  have hq5 : X md 5 = M 40 5 := hR.2.1 5 rfl
  have hq16 : X md 16 = M 40 16 := hR.2.1 16 rfl
  have hq25 : X md 25 = M 40 25 := hR.2.1 25 rfl
  have hq26 : X md 26 = M 40 26 := hR.2.1 26 rfl
  have hq27 : X md 27 = M 40 27 := hR.2.1 27 rfl
  have hq28 : X md 28 = M 40 28 := hR.2.1 28 rfl
  have hq29 : X md 29 = M 40 29 := hR.2.1 29 rfl
  obtain ⟨a2, hB2, hA2, hL2, hD2⟩ : ∃ a, Rf md 2 = some a ∧ K a = (2, 24) ∧ ρ a = 2003 ∧ X a = M 2 := hR.fd 2 (by decide) rfl
  have hN2 : Apt a2 md := zkn2 hA2 hmd (by simp)
  obtain ⟨a3, hB3, hA3, hL3, hD3⟩ : ∃ a, Rf md 3 = some a ∧ K a = (2, 24) ∧ ρ a = 2004 ∧ X a = M 3 := hR.fd 3 (by decide) rfl
  have hN3 : Apt a3 md := zkn2 hA3 hmd (by simp)
  obtain ⟨a4, hB4, hA4, hL4, hD4⟩ : ∃ a, Rf md 4 = some a ∧ K a = (2, 24) ∧ ρ a = 2005 ∧ X a = M 4 := hR.fd 4 (by decide) rfl
  have hN4 : Apt a4 md := zkn2 hA4 hmd (by simp)
  obtain ⟨a8, hB8, hA8, hL8, hD8⟩ : ∃ a, Rf md 8 = some a ∧ K a = (2, 216) ∧ ρ a = 2009 ∧ X a = M 8 := hR.fd 8 (by decide) rfl
  have hN8 : Apt a8 md := zkn2 hA8 hmd (by simp)
  have hLp := hokL pl.toNat (by omega)
  have hLt := hLp.2.2 t.toNat (by omega)
  have hb7 := hLp.2.1
  have ht2 : turM M pl.toNat t.toNat 2 = M 8 ((6 * pl.toNat + t.toNat) * 6 + 2) := by unfold turM; rw [if_pos ⟨by omega, by decide⟩]
  have htp : tupM M pl.toNat t.toNat = patM M (M 8 ((6 * pl.toNat + t.toNat) * 6 + 2)).toNat := by unfold tupM; rw [if_pos (by omega)]
  have hx8 : X a8 ((6 * pl + t) * 6 + 2).toNat = M 8 ((6 * pl.toNat + t.toNat) * 6 + 2) := by rw [hD8, show ((6 * pl + t) * 6 + 2).toNat = (6 * pl.toNat + t.toNat) * 6 + 2 by omega]
  refine lv_aload_n (pc := 0) hx hb dX9_dayOfTurn_0 rfl (lv_at hl 0 rfl) ?_
  refine lv_iload_n (pc := 1) hx hb dX9_dayOfTurn_1 rfl (lv_at hl 1 rfl) ?_
  refine lv_iload_n (pc := 2) hx hb dX9_dayOfTurn_2 rfl (lv_at hl 2 rfl) ?_
  refine ziconst (pc := 3) (n := 2) hx hb dX9_dayOfTurn_3 ?_
  refine zkIp (pc := 4) (zrV (As := [.int (iI pl), .int (iI t), .int (iI 2)]) hx hb hml hown hG hw (c_X9_ofTurn l Γ K X Rf md pl t 2 a8 (by (first | assumption | omega)) (by (first | assumption | omega)) (by (first | assumption | omega)) (by (first | assumption | omega))) (T := TX9) hmd rfl cb_X9_ofTurn wl_X9_170 rfl ⟨Nat.le_of_ble_eq_true rfl, Nat.le_of_ble_eq_true rfl⟩ hl.1 rfl (Nat.le_of_ble_eq_true rfl) dX9_dayOfTurn_4 ⟨Nat.zero_le _, Nat.zero_le _⟩) hw (fun r4 H locs hp4 hw => ?_)
  subst hp4
  refine ztop (fun x7 ex7 => ?_)
  refine lv_istore (pc := 7) (lv' := [(4, .int (iI x7)), (0, .ref md), (1, .int (iI pl)), (2, .int (iI t)), (3, .int (iI year))]) hx hb dX9_dayOfTurn_7 hl (by decide) rfl (fun ls hl => ?_)
  have hx7 : x7 = M 8 ((6 * pl.toNat + t.toNat) * 6 + 2) := by rw [ex7]; exact hx8
  have hr7 : 0 ≤ x7 ∧ x7 < M 40 1 := by have := hLt.2.1; omega
  have hpf : pfX X a2 a3 a4 x7.toNat = tupM M pl.toNat t.toNat := by rw [pfX_M hD2 hD3 hD4, htp, hx7]
  have hP9 : okP2 (pfX X a2 a3 a4 x7.toNat) := by rw [hpf, htp]; exact hokP _ (by omega)
  have hP8 := hP9
  rw [hpf] at hP8
  have hm2 : X a2 x7.toNat = tupM M pl.toNat t.toNat 0 := by rw [← hpf]; rfl
  have hm3 : X a3 x7.toNat = tupM M pl.toNat t.toNat 1 := by rw [← hpf]; rfl
  have hm4 : X a4 x7.toNat = tupM M pl.toNat t.toNat 2 := by rw [← hpf]; rfl
  have hpt := hLt.2.2
  have hP7 := hP8.1
  refine lv_aload_n (pc := 9) hx hb dX9_dayOfTurn_9 rfl (lv_at hl 1 rfl) ?_
  refine zgetR (pc := 10) hx hb hG hown hw hmd (T := TX9) rfl 3 (by decide) rfl wf_X9_13 rfl hB3 dX9_dayOfTurn_10 ?_
  refine lv_iload (pc := 13) hx hb dX9_dayOfTurn_13 (lv_at hl 0 rfl) ?_
  refine zald (pc := 15) hx hb hw hA3 ⟨by omega, by omega⟩ (by omega) dX9_dayOfTurn_15 ?_
  refine zbipush (pc := 16) (n := 16) hx hb dX9_dayOfTurn_16 rfl ?_
  refine zicmp_eq (pc := 18) hx hb 36 (by omega) (by omega) dX9_dayOfTurn_18 (by decide) (fun c18 => ?_) (fun c18 => ?_)
  · skip
    refine lv_iload_n (pc := 36) hx hb dX9_dayOfTurn_36 rfl (lv_at hl 4 rfl) ?_
    refine zkIp (pc := 37) (zrS (As := [.int (iI year)]) hx hb hml hown hG hw (c_X9_easterFor l Γ K X Rf year  (by (first | assumption | omega))) cb_X9_easterFor wl_X9_135 rfl ⟨Nat.le_of_ble_eq_true rfl, Nat.le_of_ble_eq_true rfl⟩ hl.1 rfl (Nat.le_of_ble_eq_true rfl) dX9_dayOfTurn_37 ⟨Nat.zero_le _, Nat.zero_le _⟩) hw (fun r37 H locs hp37 hw => ?_)
    subst hp37
    have hp37f0 := est_rng year
    refine lv_aload_n (pc := 40) hx hb dX9_dayOfTurn_40 rfl (lv_at hl 1 rfl) ?_
    refine zgetR (pc := 41) hx hb hG hown hw hmd (T := TX9) rfl 4 (by decide) rfl wf_X9_16 rfl hB4 dX9_dayOfTurn_41 ?_
    refine lv_iload (pc := 44) hx hb dX9_dayOfTurn_44 (lv_at hl 0 rfl) ?_
    refine zald (pc := 46) hx hb hw hA4 ⟨by omega, by omega⟩ (by omega) dX9_dayOfTurn_46 ?_
    refine zadd (pc := 47) hx hb dX9_dayOfTurn_47 ?_
    refine zbipush (pc := 48) (n := 100) hx hb dX9_dayOfTurn_48 rfl ?_
    refine zsub (pc := 50) hx hb dX9_dayOfTurn_50 ?_
    refine ztop (fun x51 ex51 => ?_)
    refine lv_istore (pc := 51) (lv' := [(5, .int (iI x51)), (4, .int (iI x7)), (0, .ref md), (1, .int (iI pl)), (2, .int (iI t)), (3, .int (iI year))]) hx hb dX9_dayOfTurn_51 hl (by decide) rfl (fun ls hl => ?_)
    refine lv_iload (pc := 53) hx hb dX9_dayOfTurn_53 (lv_at hl 0 rfl) ?_
    refine zkIp (pc := 55) (zrS (As := [.int (iI x51)]) hx hb hml hown hG hw (c_X9_isDay l Γ K X Rf x51  (by (first | assumption | omega))) cb_X9_isDay wl_X9_126 rfl ⟨Nat.le_of_ble_eq_true rfl, Nat.le_of_ble_eq_true rfl⟩ hl.1 rfl (Nat.le_of_ble_eq_true rfl) dX9_dayOfTurn_55 ⟨Nat.zero_le _, Nat.zero_le _⟩) hw (fun r55 H locs hp55 hw => ?_)
    subst hp55
    refine zif_eq (pc := 58) hx hb 75 (by omega) dX9_dayOfTurn_58 (by decide) (fun c58 => ?_) (fun c58 => ?_)
    · skip
      replace c58 := it0 c58
      refine ziconst (pc := 75) (n := (-1)) hx hb dX9_dayOfTurn_75 ?_
      exact zretI (pc := 76) hx hb hlocks hr hw (Nat.zero_le _) (Nat.zero_le _) dX9_dayOfTurn_76 ⟨by (try dsimp only) <;> (rw [dayT_e (d := x51) (by omega) (hP8.2 (by omega)) hy (by omega)]; first | (rw [if_pos (by omega)]) | (rw [if_neg (by omega)])), rfl, rfl, rfl⟩
    · skip
      replace c58 := it1 c58
      refine lv_iload (pc := 61) hx hb dX9_dayOfTurn_61 (lv_at hl 0 rfl) ?_
      refine zkIp (pc := 63) (zrS (As := [.int (iI x51)]) hx hb hml hown hG hw (c_X9_yearFor l Γ K X Rf x51  (by (first | assumption | omega))) cb_X9_yearFor wl_X9_109 rfl ⟨Nat.le_of_ble_eq_true rfl, Nat.le_of_ble_eq_true rfl⟩ hl.1 rfl (Nat.le_of_ble_eq_true rfl) dX9_dayOfTurn_63 ⟨Nat.zero_le _, Nat.zero_le _⟩) hw (fun r63 H locs hp63 hw => ?_)
      subst hp63
      have hp63f0 := yr_rng (d := x51) (by omega) (by omega)
      refine lv_iload_n (pc := 66) hx hb dX9_dayOfTurn_66 rfl (lv_at hl 5 rfl) ?_
      refine zicmp_ne (pc := 67) hx hb 75 (by omega) (by omega) dX9_dayOfTurn_67 (by decide) (fun c67 => ?_) (fun c67 => ?_)
      · skip
        refine ziconst (pc := 75) (n := (-1)) hx hb dX9_dayOfTurn_75 ?_
        exact zretI (pc := 76) hx hb hlocks hr hw (Nat.zero_le _) (Nat.zero_le _) dX9_dayOfTurn_76 ⟨by (try dsimp only) <;> (rw [dayT_e (d := x51) (by omega) (hP8.2 (by omega)) hy (by omega)]; first | (rw [if_pos (by omega)]) | (rw [if_neg (by omega)])), rfl, rfl, rfl⟩
      · skip
        refine lv_iload (pc := 70) hx hb dX9_dayOfTurn_70 (lv_at hl 0 rfl) ?_
        refine lv_goto (pc := 72) (tgt := 76) hx hb dX9_dayOfTurn_72 (by decide) ?_
        exact zretI (pc := 76) hx hb hlocks hr hw (Nat.zero_le _) (Nat.zero_le _) dX9_dayOfTurn_76 ⟨by (try dsimp only) <;> (rw [dayT_e (d := x51) (by omega) (hP8.2 (by omega)) hy (by omega)]; first | (rw [if_pos (by omega)]) | (rw [if_neg (by omega)])), rfl, rfl, rfl⟩
  · skip
    refine lv_aload_n (pc := 21) hx hb dX9_dayOfTurn_21 rfl (lv_at hl 1 rfl) ?_
    refine lv_iload (pc := 22) hx hb dX9_dayOfTurn_22 (lv_at hl 0 rfl) ?_
    refine lv_iload_n (pc := 24) hx hb dX9_dayOfTurn_24 rfl (lv_at hl 4 rfl) ?_
    refine lv_aload_n (pc := 25) hx hb dX9_dayOfTurn_25 rfl (lv_at hl 1 rfl) ?_
    refine zgetR (pc := 26) hx hb hG hown hw hmd (T := TX9) rfl 2 (by decide) rfl wf_X9_9 rfl hB2 dX9_dayOfTurn_26 ?_
    refine lv_iload (pc := 29) hx hb dX9_dayOfTurn_29 (lv_at hl 0 rfl) ?_
    refine zald (pc := 31) hx hb hw hA2 ⟨by omega, by omega⟩ (by omega) dX9_dayOfTurn_31 ?_
    refine zkIp (pc := 32) (zrV (As := [.int (iI x7), .int (iI year), .int (iI (X a2 x7.toNat))]) hx hb hml hown hG hw (c_X9_toldIn l Γ K X Rf md x7 year (X a2 x7.toNat) a2 a3 a4 (by (first | assumption | omega)) (by (first | assumption | omega)) (by (first | assumption | omega)) (by (first | assumption | omega)) (by (first | assumption | omega)) (by (first | assumption | omega)) (by (first | assumption | omega)) (by (first | assumption | omega)) (by (first | assumption | omega)) (by (first | assumption | omega)) (by (first | assumption | omega))) (T := TX9) hmd rfl cb_X9_toldIn wl_X9_145 rfl ⟨Nat.le_of_ble_eq_true rfl, Nat.le_of_ble_eq_true rfl⟩ hl.1 rfl (Nat.le_of_ble_eq_true rfl) dX9_dayOfTurn_32 ⟨Nat.zero_le _, Nat.zero_le _⟩) hw (fun r32 H locs hp32 hw => ?_)
    subst hp32
    have hp32f0 := told_rng (pfX X a2 a3 a4 x7.toNat) (12 * (year - 1900) + (X a2 x7.toNat) - 1)
    exact zretI (pc := 35) hx hb hlocks hr hw (Nat.zero_le _) (Nat.zero_le _) dX9_dayOfTurn_35 ⟨by (try dsimp only) <;> (rw [hpf, hm2]; exact (dayT_m (by omega)).symm), rfl, rfl, rfl⟩
