set_option maxHeartbeats 4000000 in
set_option maxRecDepth 100000 in
theorem c_X5_takeDay (l : Launch) (Γ : zG) (K : zK) (X : zX) (Rf : zR) (se : Nat) (day : Int) (Sd : Nat → Int) (Ex : Nat → Int) (st : Int × List Int) (eo : Nat) (fo : Nat) (hk : K se = (1, 4)) (hD : serD (X se) Sd) (hS : okS Sd) (hr13 : Rf se 13 = some eo) (hkeo : K eo = (2, 8)) (hE : ∀ k : Nat, (k : Int) < Sd 10 → X eo k = Ex k ∧ 0 ≤ Ex k ∧ Ex k ≤ 73048) (hr15 : Rf se 15 = some fo) (hkfo : K fo = (2, 4001)) (hst : repD X se fo st) (hsb : (0 ≤ st.1 ∧ st.1 ≤ 100000) ∧ (bdS Sd ≤ day → day ≤ Sd 7 → (st.2.length : Int) ≤ 4000)) (h1 : fit day) : Ct l yX5_takeDay cX5_takeDay 4 none 1 0 0 Γ [.ref se, .int (iI day)] K X Rf (pV (zpv K Rf (fun X' : zX => repD X' se fo (tkD Sd Ex st day) ∧ (∀ a, a ≠ se → a ≠ fo → X' a = X a) ∧ (∀ q, q ≠ 16 → q ≠ 17 → X' se q = X se q)))) := by
  refine Ct.of (by decide +kernel) (Nat.le_of_ble_eq_true rfl) ?_
  intro p e s m below meth c ls hx hb hr hml hown hG hlocks hname hw hl
  have hl : lv_has ls 4 [(0, .ref se), (1, .int (iI day))] := hl
  have hne : se ≠ fo := zkne hk hkfo (by simp)
  have heo1 : eo ≠ se := zkne hkeo hk (by simp)
  have heo2 : eo ≠ fo := fun q => by rw [q, hkfo] at hkeo; exact absurd hkeo (by decide)
  obtain ⟨hs17, hs16, hsf⟩ := id hst
  refine lv_aload_n (pc := 0) hx hb dX5_takeDay_0 rfl (lv_at hl 0 rfl) ?_
  refine zgetI (pc := 1) hx hb hG hown hw hk (T := TX5) rfl 11 (by decide) rfl wf_X5_69 rfl dX5_takeDay_1 ?_
  refine zif_eq (pc := 4) hx hb 22 (by omega) dX5_takeDay_4 (by decide) (fun c4 => ?_) (fun c4 => ?_)
  · skip
    refine ziconst (pc := 22) (n := 0) hx hb dX5_takeDay_22 ?_
    refine lv_istore_n (pc := 23) (lv' := [(2, .int (iI 0)), (0, .ref se), (1, .int (iI day))]) hx hb dX5_takeDay_23 rfl hl (by decide) rfl (fun ls hl => ?_)
    refine lv_iload_n (pc := 24) hx hb dX5_takeDay_24 rfl (lv_at hl 2 rfl) ?_
    refine lv_aload_n (pc := 25) hx hb dX5_takeDay_25 rfl (lv_at hl 1 rfl) ?_
    refine zgetI (pc := 26) hx hb hG hown hw hk (T := TX5) rfl 2 (by decide) rfl wf_X5_28 rfl dX5_takeDay_26 ?_
    refine zicmp_lt (pc := 29) hx hb 44 (by omega) (by omega) dX5_takeDay_29 (by decide) (fun c29 => ?_) (fun c29 => ?_)
    · skip
      exact zretV (pc := 44) hx hb hlocks hr hw (Nat.zero_le _) (Nat.zero_le _) dX5_takeDay_44 ⟨by (try dsimp only) <;> (rw [tkD_no (by omega)]; exact ⟨hst, fun _ _ _ => rfl, fun _ _ _ => rfl⟩), rfl, rfl⟩
    · skip
      refine lv_iload_n (pc := 32) hx hb dX5_takeDay_32 rfl (lv_at hl 2 rfl) ?_
      refine lv_aload_n (pc := 33) hx hb dX5_takeDay_33 rfl (lv_at hl 1 rfl) ?_
      refine zgetI (pc := 34) hx hb hG hown hw hk (T := TX5) rfl 12 (by decide) rfl wf_X5_72 rfl dX5_takeDay_34 ?_
      refine zicmp_gt (pc := 37) hx hb 44 (by omega) (by omega) dX5_takeDay_37 (by decide) (fun c37 => ?_) (fun c37 => ?_)
      · skip
        exact zretV (pc := 44) hx hb hlocks hr hw (Nat.zero_le _) (Nat.zero_le _) dX5_takeDay_44 ⟨by (try dsimp only) <;> (rw [tkD_no (by omega)]; exact ⟨hst, fun _ _ _ => rfl, fun _ _ _ => rfl⟩), rfl, rfl⟩
      · skip
        refine lv_iload_n (pc := 40) hx hb dX5_takeDay_40 rfl (lv_at hl 0 rfl) ?_
        refine zif_eq (pc := 41) hx hb 45 (by omega) dX5_takeDay_41 (by decide) (fun c41 => ?_) (fun c41 => ?_)
        · skip
          refine lv_aload_n (pc := 45) hx hb dX5_takeDay_45 rfl (lv_at hl 1 rfl) ?_
          refine lv_dup (pc := 46) hx hb dX5_takeDay_46 rfl ?_
          refine zgetI (pc := 47) hx hb hG hown hw hk (T := TX5) rfl 17 (by decide) rfl wf_X5_88 rfl dX5_takeDay_47 ?_
          refine ziconst (pc := 50) (n := 1) hx hb dX5_takeDay_50 ?_
          refine zadd (pc := 51) hx hb dX5_takeDay_51 ?_
          refine zputI (pc := 52) hx hb hG hown hw hk (T := TX5) rfl 17 (by decide) rfl wf_X5_88 rfl (by decide +kernel) rfl dX5_takeDay_52 (fun H locs hw => ?_)
          obtain ⟨X52, eX52⟩ : ∃ Y : zX, Y = up2 X se 17 ((X se 17) + 1) := ⟨_, rfl⟩
          rw [← eX52] at hw
          refine lv_aload_n (pc := 55) hx hb dX5_takeDay_55 rfl (lv_at hl 1 rfl) ?_
          refine zgetI (pc := 56) hx hb hG hown hw hk (T := TX5) rfl 16 (by decide) rfl wf_X5_85 rfl dX5_takeDay_56 ?_
          refine ztop (fun x59 ex59 => ?_)
          refine lv_istore_n (pc := 59) (lv' := [(3, .int (iI x59)), (2, .int (iI 0)), (0, .ref se), (1, .int (iI day))]) hx hb dX5_takeDay_59 rfl hl (by decide) rfl (fun ls hl => ?_)
          refine lv_aload_n (pc := 60) hx hb dX5_takeDay_60 rfl (lv_at hl 2 rfl) ?_
          refine lv_iload_n (pc := 61) hx hb dX5_takeDay_61 rfl (lv_at hl 3 rfl) ?_
          have hno : ¬(day < bdS Sd ∨ Sd 7 < day ∨ (Sd 6 ≠ 0 ∧ Sd 6 ≤ st.1)) := by omega
          have hD2 : serD (X52 se) Sd := hD.congr (fun q h1 h2 => by rw [eX52, up2_k h2])
          have hE2 : ∀ k : Nat, (k : Int) < Sd 10 → X52 eo k = Ex k ∧ 0 ≤ Ex k ∧ Ex k ≤ 73048 := fun k hk => by rw [eX52, up2_o heo1]; exact hE k hk
          have hx59 : x59 = st.2.length := by rw [ex59, eX52, up2_k (by decide)]; exact hs16
          refine zkIp (pc := 62) (zrV (As := [.int (iI day)]) hx hb hml hown hG hw (c_X5_isException l Γ K X52 Rf se day Sd Ex eo (by (first | assumption | omega)) (by (first | assumption | omega)) (by (first | assumption | omega)) (by (first | assumption | omega)) (by (first | assumption | omega)) (by (first | assumption | omega)) (by (first | assumption | omega))) (T := TX5) hk rfl cb_X5_isException wl_X5_161 rfl ⟨Nat.le_of_ble_eq_true rfl, Nat.le_of_ble_eq_true rfl⟩ hl.1 rfl (Nat.le_of_ble_eq_true rfl) dX5_takeDay_62 ⟨Nat.zero_le _, Nat.zero_le _⟩) hw (fun r62 H locs hp62 hw => ?_)
          subst hp62
          have hev := exV_rng Ex day (Sd 10).toNat
          have hln := hsb.2 (by omega) (by omega)
          refine zif_ne (pc := 65) hx hb 95 (by omega) dX5_takeDay_65 (by decide) (fun c65 => ?_) (fun c65 => ?_)
          · skip
            exact zretV (pc := 95) hx hb hlocks hr hw (Nat.zero_le _) (Nat.zero_le _) dX5_takeDay_95 ⟨by (try dsimp only) <;> (
                                        first
                                        | (have hq : exB Ex day (Sd 10).toNat = true := by
                                             rcases hev with ⟨w, _⟩ | ⟨_, w⟩
                                             · omega
                                             · exact w
                                           rw [tkD_out hno hq]
                                           exact ⟨⟨by rw [eX52, up2_s, hs17], by rw [eX52, up2_k (by decide)]; exact hs16, fun j hj => by rw [eX52, up2_o (Ne.symm hne)]; exact hsf j hj⟩, fun a g1 g2 => by rw [eX52, up2_o g1], fun q g1 g2 => by rw [eX52, up2_k g2]⟩)
                                        | (have hq : exB Ex day (Sd 10).toNat = false := by
                                             rcases hev with ⟨_, w⟩ | ⟨w, _⟩
                                             · exact w
                                             · omega
                                           rw [tkD_in hno hq]
                                           refine ⟨⟨by rw [eX92, up2_k (by decide), eX87, up2_o hne, eX52, up2_s, hs17], by rw [eX92, up2_s, hx59]; simp, fun j hj => ?_⟩, fun a g1 g2 => by rw [eX92, up2_o g1, eX87, up2_o g2, eX52, up2_o g1], fun q g1 g2 => by rw [eX92, up2_k g1, eX87, up2_o hne, eX52, up2_k g2]⟩
                                           rw [eX92, up2_o (Ne.symm hne), eX87, up2_eq]
                                           have hj2 : j < (st.2 ++ [day]).length := hj
                                           rw [List.length_append, List.length_singleton] at hj2
                                           by_cases g : j = x59.toNat
                                           · rw [if_pos ⟨rfl, g⟩, show j = st.2.length by omega]; exact getD_snoc_r.symm
                                           · rw [if_neg (fun w => g w.2), eX52, up2_o (Ne.symm hne), hsf j (by omega)]; exact (getD_snoc_l (by omega)).symm)), rfl, rfl⟩
          · skip
            refine lv_iload_n (pc := 68) hx hb dX5_takeDay_68 rfl (lv_at hl 0 rfl) ?_
            refine zif_lt (pc := 69) hx hb 95 (by omega) dX5_takeDay_69 (by decide) (fun c69 => ?_) (fun c69 => ?_)
            · skip
              exfalso; omega
            · skip
              refine lv_iload_n (pc := 72) hx hb dX5_takeDay_72 rfl (lv_at hl 0 rfl) ?_
              refine lv_aload_n (pc := 73) hx hb dX5_takeDay_73 rfl (lv_at hl 2 rfl) ?_
              refine zgetR (pc := 74) hx hb hG hown hw hk (T := TX5) rfl 15 (by decide) rfl wf_X5_82 rfl hr15 dX5_takeDay_74 ?_
              refine zlen2 (pc := 77) hx hb hw hkfo dX5_takeDay_77 ?_
              refine zicmp_ge (pc := 78) hx hb 95 (by omega) (by omega) dX5_takeDay_78 (by decide) (fun c78 => ?_) (fun c78 => ?_)
              · skip
                exfalso; omega
              · skip
                refine lv_aload_n (pc := 81) hx hb dX5_takeDay_81 rfl (lv_at hl 2 rfl) ?_
                refine zgetR (pc := 82) hx hb hG hown hw hk (T := TX5) rfl 15 (by decide) rfl wf_X5_82 rfl hr15 dX5_takeDay_82 ?_
                refine lv_iload_n (pc := 85) hx hb dX5_takeDay_85 rfl (lv_at hl 0 rfl) ?_
                refine lv_iload_n (pc := 86) hx hb dX5_takeDay_86 rfl (lv_at hl 3 rfl) ?_
                refine zast (pc := 87) hx hb hw hkfo ⟨by omega, by omega⟩ (by omega) dX5_takeDay_87 (fun H locs hw => ?_)
                obtain ⟨X87, eX87⟩ : ∃ Y : zX, Y = up2 X52 fo x59.toNat day := ⟨_, rfl⟩
                rw [← eX87] at hw
                refine lv_aload_n (pc := 88) hx hb dX5_takeDay_88 rfl (lv_at hl 2 rfl) ?_
                refine lv_iload_n (pc := 89) hx hb dX5_takeDay_89 rfl (lv_at hl 0 rfl) ?_
                refine ziconst (pc := 90) (n := 1) hx hb dX5_takeDay_90 ?_
                refine zadd (pc := 91) hx hb dX5_takeDay_91 ?_
                refine zputI (pc := 92) hx hb hG hown hw hk (T := TX5) rfl 16 (by decide) rfl wf_X5_85 rfl (by decide +kernel) rfl dX5_takeDay_92 (fun H locs hw => ?_)
                obtain ⟨X92, eX92⟩ : ∃ Y : zX, Y = up2 X87 se 16 (x59 + 1) := ⟨_, rfl⟩
                rw [← eX92] at hw
                exact zretV (pc := 95) hx hb hlocks hr hw (Nat.zero_le _) (Nat.zero_le _) dX5_takeDay_95 ⟨by (try dsimp only) <;> (
                                        first
                                        | (have hq : exB Ex day (Sd 10).toNat = true := by
                                             rcases hev with ⟨w, _⟩ | ⟨_, w⟩
                                             · omega
                                             · exact w
                                           rw [tkD_out hno hq]
                                           exact ⟨⟨by rw [eX52, up2_s, hs17], by rw [eX52, up2_k (by decide)]; exact hs16, fun j hj => by rw [eX52, up2_o (Ne.symm hne)]; exact hsf j hj⟩, fun a g1 g2 => by rw [eX52, up2_o g1], fun q g1 g2 => by rw [eX52, up2_k g2]⟩)
                                        | (have hq : exB Ex day (Sd 10).toNat = false := by
                                             rcases hev with ⟨_, w⟩ | ⟨w, _⟩
                                             · exact w
                                             · omega
                                           rw [tkD_in hno hq]
                                           refine ⟨⟨by rw [eX92, up2_k (by decide), eX87, up2_o hne, eX52, up2_s, hs17], by rw [eX92, up2_s, hx59]; simp, fun j hj => ?_⟩, fun a g1 g2 => by rw [eX92, up2_o g1, eX87, up2_o g2, eX52, up2_o g1], fun q g1 g2 => by rw [eX92, up2_k g1, eX87, up2_o hne, eX52, up2_k g2]⟩
                                           rw [eX92, up2_o (Ne.symm hne), eX87, up2_eq]
                                           have hj2 : j < (st.2 ++ [day]).length := hj
                                           rw [List.length_append, List.length_singleton] at hj2
                                           by_cases g : j = x59.toNat
                                           · rw [if_pos ⟨rfl, g⟩, show j = st.2.length by omega]; exact getD_snoc_r.symm
                                           · rw [if_neg (fun w => g w.2), eX52, up2_o (Ne.symm hne), hsf j (by omega)]; exact (getD_snoc_l (by omega)).symm)), rfl, rfl⟩
        · skip
          exfalso; omega
  · skip
    refine lv_aload_n (pc := 7) hx hb dX5_takeDay_7 rfl (lv_at hl 0 rfl) ?_
    refine zgetI (pc := 8) hx hb hG hown hw hk (T := TX5) rfl 17 (by decide) rfl wf_X5_88 rfl dX5_takeDay_8 ?_
    refine lv_aload_n (pc := 11) hx hb dX5_takeDay_11 rfl (lv_at hl 0 rfl) ?_
    refine zgetI (pc := 12) hx hb hG hown hw hk (T := TX5) rfl 11 (by decide) rfl wf_X5_69 rfl dX5_takeDay_12 ?_
    refine zicmp_lt (pc := 15) hx hb 22 (by omega) (by omega) dX5_takeDay_15 (by decide) (fun c15 => ?_) (fun c15 => ?_)
    · skip
      refine ziconst (pc := 22) (n := 0) hx hb dX5_takeDay_22 ?_
      refine lv_istore_n (pc := 23) (lv' := [(2, .int (iI 0)), (0, .ref se), (1, .int (iI day))]) hx hb dX5_takeDay_23 rfl hl (by decide) rfl (fun ls hl => ?_)
      refine lv_iload_n (pc := 24) hx hb dX5_takeDay_24 rfl (lv_at hl 2 rfl) ?_
      refine lv_aload_n (pc := 25) hx hb dX5_takeDay_25 rfl (lv_at hl 1 rfl) ?_
      refine zgetI (pc := 26) hx hb hG hown hw hk (T := TX5) rfl 2 (by decide) rfl wf_X5_28 rfl dX5_takeDay_26 ?_
      refine zicmp_lt (pc := 29) hx hb 44 (by omega) (by omega) dX5_takeDay_29 (by decide) (fun c29 => ?_) (fun c29 => ?_)
      · skip
        exact zretV (pc := 44) hx hb hlocks hr hw (Nat.zero_le _) (Nat.zero_le _) dX5_takeDay_44 ⟨by (try dsimp only) <;> (rw [tkD_no (by omega)]; exact ⟨hst, fun _ _ _ => rfl, fun _ _ _ => rfl⟩), rfl, rfl⟩
      · skip
        refine lv_iload_n (pc := 32) hx hb dX5_takeDay_32 rfl (lv_at hl 2 rfl) ?_
        refine lv_aload_n (pc := 33) hx hb dX5_takeDay_33 rfl (lv_at hl 1 rfl) ?_
        refine zgetI (pc := 34) hx hb hG hown hw hk (T := TX5) rfl 12 (by decide) rfl wf_X5_72 rfl dX5_takeDay_34 ?_
        refine zicmp_gt (pc := 37) hx hb 44 (by omega) (by omega) dX5_takeDay_37 (by decide) (fun c37 => ?_) (fun c37 => ?_)
        · skip
          exact zretV (pc := 44) hx hb hlocks hr hw (Nat.zero_le _) (Nat.zero_le _) dX5_takeDay_44 ⟨by (try dsimp only) <;> (rw [tkD_no (by omega)]; exact ⟨hst, fun _ _ _ => rfl, fun _ _ _ => rfl⟩), rfl, rfl⟩
        · skip
          refine lv_iload_n (pc := 40) hx hb dX5_takeDay_40 rfl (lv_at hl 0 rfl) ?_
          refine zif_eq (pc := 41) hx hb 45 (by omega) dX5_takeDay_41 (by decide) (fun c41 => ?_) (fun c41 => ?_)
          · skip
            refine lv_aload_n (pc := 45) hx hb dX5_takeDay_45 rfl (lv_at hl 1 rfl) ?_
            refine lv_dup (pc := 46) hx hb dX5_takeDay_46 rfl ?_
            refine zgetI (pc := 47) hx hb hG hown hw hk (T := TX5) rfl 17 (by decide) rfl wf_X5_88 rfl dX5_takeDay_47 ?_
            refine ziconst (pc := 50) (n := 1) hx hb dX5_takeDay_50 ?_
            refine zadd (pc := 51) hx hb dX5_takeDay_51 ?_
            refine zputI (pc := 52) hx hb hG hown hw hk (T := TX5) rfl 17 (by decide) rfl wf_X5_88 rfl (by decide +kernel) rfl dX5_takeDay_52 (fun H locs hw => ?_)
            obtain ⟨X52, eX52⟩ : ∃ Y : zX, Y = up2 X se 17 ((X se 17) + 1) := ⟨_, rfl⟩
            rw [← eX52] at hw
            refine lv_aload_n (pc := 55) hx hb dX5_takeDay_55 rfl (lv_at hl 1 rfl) ?_
            refine zgetI (pc := 56) hx hb hG hown hw hk (T := TX5) rfl 16 (by decide) rfl wf_X5_85 rfl dX5_takeDay_56 ?_
            refine ztop (fun x59 ex59 => ?_)
            refine lv_istore_n (pc := 59) (lv' := [(3, .int (iI x59)), (2, .int (iI 0)), (0, .ref se), (1, .int (iI day))]) hx hb dX5_takeDay_59 rfl hl (by decide) rfl (fun ls hl => ?_)
            refine lv_aload_n (pc := 60) hx hb dX5_takeDay_60 rfl (lv_at hl 2 rfl) ?_
            refine lv_iload_n (pc := 61) hx hb dX5_takeDay_61 rfl (lv_at hl 3 rfl) ?_
            have hno : ¬(day < bdS Sd ∨ Sd 7 < day ∨ (Sd 6 ≠ 0 ∧ Sd 6 ≤ st.1)) := by omega
            have hD2 : serD (X52 se) Sd := hD.congr (fun q h1 h2 => by rw [eX52, up2_k h2])
            have hE2 : ∀ k : Nat, (k : Int) < Sd 10 → X52 eo k = Ex k ∧ 0 ≤ Ex k ∧ Ex k ≤ 73048 := fun k hk => by rw [eX52, up2_o heo1]; exact hE k hk
            have hx59 : x59 = st.2.length := by rw [ex59, eX52, up2_k (by decide)]; exact hs16
            refine zkIp (pc := 62) (zrV (As := [.int (iI day)]) hx hb hml hown hG hw (c_X5_isException l Γ K X52 Rf se day Sd Ex eo (by (first | assumption | omega)) (by (first | assumption | omega)) (by (first | assumption | omega)) (by (first | assumption | omega)) (by (first | assumption | omega)) (by (first | assumption | omega)) (by (first | assumption | omega))) (T := TX5) hk rfl cb_X5_isException wl_X5_161 rfl ⟨Nat.le_of_ble_eq_true rfl, Nat.le_of_ble_eq_true rfl⟩ hl.1 rfl (Nat.le_of_ble_eq_true rfl) dX5_takeDay_62 ⟨Nat.zero_le _, Nat.zero_le _⟩) hw (fun r62 H locs hp62 hw => ?_)
            subst hp62
            have hev := exV_rng Ex day (Sd 10).toNat
            have hln := hsb.2 (by omega) (by omega)
            refine zif_ne (pc := 65) hx hb 95 (by omega) dX5_takeDay_65 (by decide) (fun c65 => ?_) (fun c65 => ?_)
            · skip
              exact zretV (pc := 95) hx hb hlocks hr hw (Nat.zero_le _) (Nat.zero_le _) dX5_takeDay_95 ⟨by (try dsimp only) <;> (
                                        first
                                        | (have hq : exB Ex day (Sd 10).toNat = true := by
                                             rcases hev with ⟨w, _⟩ | ⟨_, w⟩
                                             · omega
                                             · exact w
                                           rw [tkD_out hno hq]
                                           exact ⟨⟨by rw [eX52, up2_s, hs17], by rw [eX52, up2_k (by decide)]; exact hs16, fun j hj => by rw [eX52, up2_o (Ne.symm hne)]; exact hsf j hj⟩, fun a g1 g2 => by rw [eX52, up2_o g1], fun q g1 g2 => by rw [eX52, up2_k g2]⟩)
                                        | (have hq : exB Ex day (Sd 10).toNat = false := by
                                             rcases hev with ⟨_, w⟩ | ⟨w, _⟩
                                             · exact w
                                             · omega
                                           rw [tkD_in hno hq]
                                           refine ⟨⟨by rw [eX92, up2_k (by decide), eX87, up2_o hne, eX52, up2_s, hs17], by rw [eX92, up2_s, hx59]; simp, fun j hj => ?_⟩, fun a g1 g2 => by rw [eX92, up2_o g1, eX87, up2_o g2, eX52, up2_o g1], fun q g1 g2 => by rw [eX92, up2_k g1, eX87, up2_o hne, eX52, up2_k g2]⟩
                                           rw [eX92, up2_o (Ne.symm hne), eX87, up2_eq]
                                           have hj2 : j < (st.2 ++ [day]).length := hj
                                           rw [List.length_append, List.length_singleton] at hj2
                                           by_cases g : j = x59.toNat
                                           · rw [if_pos ⟨rfl, g⟩, show j = st.2.length by omega]; exact getD_snoc_r.symm
                                           · rw [if_neg (fun w => g w.2), eX52, up2_o (Ne.symm hne), hsf j (by omega)]; exact (getD_snoc_l (by omega)).symm)), rfl, rfl⟩
            · skip
              refine lv_iload_n (pc := 68) hx hb dX5_takeDay_68 rfl (lv_at hl 0 rfl) ?_
              refine zif_lt (pc := 69) hx hb 95 (by omega) dX5_takeDay_69 (by decide) (fun c69 => ?_) (fun c69 => ?_)
              · skip
                exfalso; omega
              · skip
                refine lv_iload_n (pc := 72) hx hb dX5_takeDay_72 rfl (lv_at hl 0 rfl) ?_
                refine lv_aload_n (pc := 73) hx hb dX5_takeDay_73 rfl (lv_at hl 2 rfl) ?_
                refine zgetR (pc := 74) hx hb hG hown hw hk (T := TX5) rfl 15 (by decide) rfl wf_X5_82 rfl hr15 dX5_takeDay_74 ?_
                refine zlen2 (pc := 77) hx hb hw hkfo dX5_takeDay_77 ?_
                refine zicmp_ge (pc := 78) hx hb 95 (by omega) (by omega) dX5_takeDay_78 (by decide) (fun c78 => ?_) (fun c78 => ?_)
                · skip
                  exfalso; omega
                · skip
                  refine lv_aload_n (pc := 81) hx hb dX5_takeDay_81 rfl (lv_at hl 2 rfl) ?_
                  refine zgetR (pc := 82) hx hb hG hown hw hk (T := TX5) rfl 15 (by decide) rfl wf_X5_82 rfl hr15 dX5_takeDay_82 ?_
                  refine lv_iload_n (pc := 85) hx hb dX5_takeDay_85 rfl (lv_at hl 0 rfl) ?_
                  refine lv_iload_n (pc := 86) hx hb dX5_takeDay_86 rfl (lv_at hl 3 rfl) ?_
                  refine zast (pc := 87) hx hb hw hkfo ⟨by omega, by omega⟩ (by omega) dX5_takeDay_87 (fun H locs hw => ?_)
                  obtain ⟨X87, eX87⟩ : ∃ Y : zX, Y = up2 X52 fo x59.toNat day := ⟨_, rfl⟩
                  rw [← eX87] at hw
                  refine lv_aload_n (pc := 88) hx hb dX5_takeDay_88 rfl (lv_at hl 2 rfl) ?_
                  refine lv_iload_n (pc := 89) hx hb dX5_takeDay_89 rfl (lv_at hl 0 rfl) ?_
                  refine ziconst (pc := 90) (n := 1) hx hb dX5_takeDay_90 ?_
                  refine zadd (pc := 91) hx hb dX5_takeDay_91 ?_
                  refine zputI (pc := 92) hx hb hG hown hw hk (T := TX5) rfl 16 (by decide) rfl wf_X5_85 rfl (by decide +kernel) rfl dX5_takeDay_92 (fun H locs hw => ?_)
                  obtain ⟨X92, eX92⟩ : ∃ Y : zX, Y = up2 X87 se 16 (x59 + 1) := ⟨_, rfl⟩
                  rw [← eX92] at hw
                  exact zretV (pc := 95) hx hb hlocks hr hw (Nat.zero_le _) (Nat.zero_le _) dX5_takeDay_95 ⟨by (try dsimp only) <;> (
                                        first
                                        | (have hq : exB Ex day (Sd 10).toNat = true := by
                                             rcases hev with ⟨w, _⟩ | ⟨_, w⟩
                                             · omega
                                             · exact w
                                           rw [tkD_out hno hq]
                                           exact ⟨⟨by rw [eX52, up2_s, hs17], by rw [eX52, up2_k (by decide)]; exact hs16, fun j hj => by rw [eX52, up2_o (Ne.symm hne)]; exact hsf j hj⟩, fun a g1 g2 => by rw [eX52, up2_o g1], fun q g1 g2 => by rw [eX52, up2_k g2]⟩)
                                        | (have hq : exB Ex day (Sd 10).toNat = false := by
                                             rcases hev with ⟨_, w⟩ | ⟨w, _⟩
                                             · exact w
                                             · omega
                                           rw [tkD_in hno hq]
                                           refine ⟨⟨by rw [eX92, up2_k (by decide), eX87, up2_o hne, eX52, up2_s, hs17], by rw [eX92, up2_s, hx59]; simp, fun j hj => ?_⟩, fun a g1 g2 => by rw [eX92, up2_o g1, eX87, up2_o g2, eX52, up2_o g1], fun q g1 g2 => by rw [eX92, up2_k g1, eX87, up2_o hne, eX52, up2_k g2]⟩
                                           rw [eX92, up2_o (Ne.symm hne), eX87, up2_eq]
                                           have hj2 : j < (st.2 ++ [day]).length := hj
                                           rw [List.length_append, List.length_singleton] at hj2
                                           by_cases g : j = x59.toNat
                                           · rw [if_pos ⟨rfl, g⟩, show j = st.2.length by omega]; exact getD_snoc_r.symm
                                           · rw [if_neg (fun w => g w.2), eX52, up2_o (Ne.symm hne), hsf j (by omega)]; exact (getD_snoc_l (by omega)).symm)), rfl, rfl⟩
          · skip
            exfalso; omega
    · skip
      refine ziconst (pc := 18) (n := 1) hx hb dX5_takeDay_18 ?_
      refine lv_goto (pc := 19) (tgt := 23) hx hb dX5_takeDay_19 (by decide) ?_
      refine lv_istore_n (pc := 23) (lv' := [(2, .int (iI 1)), (0, .ref se), (1, .int (iI day))]) hx hb dX5_takeDay_23 rfl hl (by decide) rfl (fun ls hl => ?_)
      refine lv_iload_n (pc := 24) hx hb dX5_takeDay_24 rfl (lv_at hl 2 rfl) ?_
      refine lv_aload_n (pc := 25) hx hb dX5_takeDay_25 rfl (lv_at hl 1 rfl) ?_
      refine zgetI (pc := 26) hx hb hG hown hw hk (T := TX5) rfl 2 (by decide) rfl wf_X5_28 rfl dX5_takeDay_26 ?_
      refine zicmp_lt (pc := 29) hx hb 44 (by omega) (by omega) dX5_takeDay_29 (by decide) (fun c29 => ?_) (fun c29 => ?_)
      · skip
        exact zretV (pc := 44) hx hb hlocks hr hw (Nat.zero_le _) (Nat.zero_le _) dX5_takeDay_44 ⟨by (try dsimp only) <;> (rw [tkD_no (by omega)]; exact ⟨hst, fun _ _ _ => rfl, fun _ _ _ => rfl⟩), rfl, rfl⟩
      · skip
        refine lv_iload_n (pc := 32) hx hb dX5_takeDay_32 rfl (lv_at hl 2 rfl) ?_
        refine lv_aload_n (pc := 33) hx hb dX5_takeDay_33 rfl (lv_at hl 1 rfl) ?_
        refine zgetI (pc := 34) hx hb hG hown hw hk (T := TX5) rfl 12 (by decide) rfl wf_X5_72 rfl dX5_takeDay_34 ?_
        refine zicmp_gt (pc := 37) hx hb 44 (by omega) (by omega) dX5_takeDay_37 (by decide) (fun c37 => ?_) (fun c37 => ?_)
        · skip
          exact zretV (pc := 44) hx hb hlocks hr hw (Nat.zero_le _) (Nat.zero_le _) dX5_takeDay_44 ⟨by (try dsimp only) <;> (rw [tkD_no (by omega)]; exact ⟨hst, fun _ _ _ => rfl, fun _ _ _ => rfl⟩), rfl, rfl⟩
        · skip
          refine lv_iload_n (pc := 40) hx hb dX5_takeDay_40 rfl (lv_at hl 0 rfl) ?_
          refine zif_eq (pc := 41) hx hb 45 (by omega) dX5_takeDay_41 (by decide) (fun c41 => ?_) (fun c41 => ?_)
          · skip
            exfalso; omega
          · skip
            exact zretV (pc := 44) hx hb hlocks hr hw (Nat.zero_le _) (Nat.zero_le _) dX5_takeDay_44 ⟨by (try dsimp only) <;> (rw [tkD_no (by omega)]; exact ⟨hst, fun _ _ _ => rfl, fun _ _ _ => rfl⟩), rfl, rfl⟩
set_option maxHeartbeats 4000000 in
set_option maxRecDepth 100000 in
theorem c_X5_chosen (l : Launch) (Γ : zG) (K : zK) (X : zX) (Rf : zR) (se : Nat) (dr : Nat) (first : Int) (en : Int) (Sd : Nat → Int) (Up : Nat → Nat → Int) (na : Nat) (hk : K se = (1, 4)) (hD : serD (X se) Sd) (hS : okS Sd) (hkd : K dr = (1, 0)) (hr0 : Rf dr 0 = some na) (hkn : K na = (2, 4733)) (hb0 : (-100000 ≤ X dr 1 ∧ X dr 1 ≤ 200000) ∧ -100000 ≤ X dr 2 ∧ X dr 2 ≤ 200000) (hW : ∀ d : Int, first ≤ d → d ≤ en → rdv X dr na 4733 d = if ctS Sd Up d then 1 else -1) (h1 : (0 ≤ first ∧ first ≤ en + 1) ∧ en ≤ 73048) (h5 : Sd 5 ≠ 0) : Ct l yX5_chosen cX5_chosen 7 (some .int) 2 0 0 Γ [.ref se, .ref dr, .int (iI first), .int (iI en)] K X Rf (pI (zp0 K X Rf (fun r : Int => r = chS Sd Up first en))) := by
  refine Ct.of (by decide +kernel) (Nat.le_of_ble_eq_true rfl) ?_
  intro p e s m below meth c ls hx hb hr hml hown hG hlocks hname hw hl
  have hl : lv_has ls 7 [(0, .ref se), (1, .ref dr), (2, .int (iI first)), (3, .int (iI en))] := hl
  refine lv_aload_n (pc := 0) hx hb dX5_chosen_0 rfl (lv_at hl 0 rfl) ?_
  refine zgetI (pc := 1) hx hb hG hown hw hk (T := TX5) rfl 10 (by decide) rfl wf_X5_66 rfl dX5_chosen_1 ?_
  refine zabs (pc := 4) hx hb (hml.trans hl.1.symm) hown hG wl_X5_158 w1_zab wi_javalangMath w2_zab (Nat.le_of_ble_eq_true rfl) (Nat.le_of_ble_eq_true rfl) (Nat.zero_le _) (Nat.zero_le _) (by omega) dX5_chosen_4 ?_
  refine ztop (fun x7 ex7 => ?_)
  refine lv_istore (pc := 7) (lv' := [(4, .int (iI x7)), (0, .ref se), (1, .ref dr), (2, .int (iI first)), (3, .int (iI en))]) hx hb dX5_chosen_7 hl (by decide) rfl (fun ls hl => ?_)
  have hx4 : (0 ≤ X se 10 ∧ x7 = X se 10) ∨ (X se 10 < 0 ∧ x7 = -X se 10) := by omega
  refine ziconst (pc := 9) (n := 0) hx hb dX5_chosen_9 ?_
  refine lv_istore (pc := 10) (lv' := [(5, .int (iI 0)), (4, .int (iI x7)), (0, .ref se), (1, .ref dr), (2, .int (iI first)), (3, .int (iI en))]) hx hb dX5_chosen_10 hl (by decide) rfl (fun ls hl => ?_)
  have lp12 : ∀ (n12 : Nat) (nn : Int) (wa : Int) (H : Heap) (locs : List Loc), (hi : 0 ≤ nn ∧ nn ≤ en - first + 1) → (hw9 : 1 ≤ wa ∧ wa ≤ 6) → (hc : chS Sd Up first en = if 0 < Sd 5 then chF (ctS Sd Up) (en - (first + nn) + 1).toNat (first + nn) wa else chB (ctS Sd Up) (en - nn - first + 1).toNat (en - nn) wa) → ((en - first + 1 - nn).toNat < n12) → Wd Γ (zA K s.heap.size) K X Rf s H locs → ∀ ls : Array Slot, lv_has ls 7 [(5, .int (iI nn)), (4, .int (iI wa)), (0, .ref se), (1, .ref dr), (2, .int (iI first)), (3, .int (iI en))] → W p l e (rmL 2 0 0) s m ([.ref se, .ref dr, .int (iI first), .int (iI en)] : List Value).toArray below meth c H locs 0 0 (MQ below (zQ Γ K s.heap.size (pI (zp0 K X Rf (fun r : Int => r = chS Sd Up first en)))) ([.ref se, .ref dr, .int (iI first), .int (iI en)] : List Value).toArray s 0 0 (zA K s.heap.size)) (F0 m 12 ls []) := by
    intro n12
    induction n12 with
    | zero => intro nn wa H locs hi hw9 hc hm12; exact absurd hm12 (Nat.not_lt_zero _)
    | succ n12 ih12 =>
      intro nn wa H locs hi hw9 hc hm12 hw ls hl
      refine lv_iload (pc := 12) hx hb dX5_chosen_12 (lv_at hl 0 rfl) ?_
      refine lv_iload_n (pc := 14) hx hb dX5_chosen_14 rfl (lv_at hl 5 rfl) ?_
      refine lv_iload_n (pc := 15) hx hb dX5_chosen_15 rfl (lv_at hl 4 rfl) ?_
      refine zsub (pc := 16) hx hb dX5_chosen_16 ?_
      refine zicmp_gt (pc := 17) hx hb 66 (by omega) (by omega) dX5_chosen_17 (by decide) (fun c17 => ?_) (fun c17 => ?_)
      · skip
        refine ziconst (pc := 66) (n := (-1)) hx hb dX5_chosen_66 ?_
        exact zretI (pc := 67) hx hb hlocks hr hw (Nat.zero_le _) (Nat.zero_le _) dX5_chosen_67 ⟨by (try dsimp only) <;> (rw [hc]; split; rw [chF_e (by omega)]; rw [chB_e (by omega)]), rfl, rfl, rfl⟩
      · skip
        refine lv_aload_n (pc := 20) hx hb dX5_chosen_20 rfl (lv_at hl 2 rfl) ?_
        refine zgetI (pc := 21) hx hb hG hown hw hk (T := TX5) rfl 10 (by decide) rfl wf_X5_66 rfl dX5_chosen_21 ?_
        refine zif_le (pc := 24) hx hb 34 (by omega) dX5_chosen_24 (by decide) (fun c24 => ?_) (fun c24 => ?_)
        · skip
          refine lv_iload_n (pc := 34) hx hb dX5_chosen_34 rfl (lv_at hl 5 rfl) ?_
          refine lv_iload (pc := 35) hx hb dX5_chosen_35 (lv_at hl 0 rfl) ?_
          refine zsub (pc := 37) hx hb dX5_chosen_37 ?_
          refine ztop (fun x38 ex38 => ?_)
          refine lv_istore (pc := 38) (lv' := [(6, .int (iI x38)), (5, .int (iI nn)), (4, .int (iI wa)), (0, .ref se), (1, .ref dr), (2, .int (iI first)), (3, .int (iI en))]) hx hb dX5_chosen_38 hl (by decide) rfl (fun ls hl => ?_)
          refine lv_aload_n (pc := 40) hx hb dX5_chosen_40 rfl (lv_at hl 4 rfl) ?_
          refine lv_iload (pc := 41) hx hb dX5_chosen_41 (lv_at hl 0 rfl) ?_
          refine zkIp (pc := 43) (zrV (As := [.int (iI x38)]) hx hb hml hown hG hw (c_X0_read l Γ K X Rf dr x38 na 4733 (by (first | assumption | omega)) (by (first | assumption | omega)) (by (first | assumption | omega)) (by (first | assumption | omega)) (by (first | assumption | omega)) (by (first | assumption | omega))) (T := TX0) hkd rfl cb_X0_read wl_X5_155 rfl ⟨Nat.le_of_ble_eq_true rfl, Nat.le_of_ble_eq_true rfl⟩ hl.1 rfl (Nat.le_of_ble_eq_true rfl) dX5_chosen_43 ⟨Nat.zero_le _, Nat.zero_le _⟩) hw (fun r43 H locs hp43 hw => ?_)
          subst hp43
          have hrw := hW x38 (by omega) (by omega)
          refine zif_le (pc := 46) hx hb 60 (by omega) dX5_chosen_46 (by decide) (fun c46 => ?_) (fun c46 => ?_)
          · skip
            have hcb : ctS Sd Up x38 = false := by
              cases hq : ctS Sd Up x38
              · rfl
              · rw [hq] at hrw; rw [hrw] at c46; simp at c46
            refine ziinc (pc := 60) (lv' := [(5, .int (iI (nn + 1))), (6, .int (iI x38)), (4, .int (iI wa)), (0, .ref se), (1, .ref dr), (2, .int (iI first)), (3, .int (iI en))]) hx hb 1 dX5_chosen_60 hl rfl (by decide) rfl (fun ls hl => ?_)
            obtain ⟨x60, ex60⟩ : ∃ zz : Int, zz = (nn + 1) := ⟨_, rfl⟩
            rw [← ex60] at hl
            refine lv_goto (pc := 63) (tgt := 12) hx hb dX5_chosen_63 (by decide) ?_
            exact ih12 x60 wa _ _ (by (first | assumption | omega)) (by omega) (by 
                                        rw [hc]
                                        by_cases h5p : 0 < Sd 5
                                        · rw [if_pos h5p, if_pos h5p, show first + nn = x38 by omega, show first + x60 = x38 + 1 by omega]
                                          first
                                          | exact chF_s (by omega) hcb
                                          | (rw [chF_t (by omega) hcb (by omega), show wa - 1 = x49 by omega])
                                        · rw [if_neg h5p, if_neg h5p, show en - nn = x38 by omega, show en - x60 = x38 - 1 by omega]
                                          first
                                          | exact chB_s (by omega) hcb
                                          | (rw [chB_t (by omega) hcb (by omega), show wa - 1 = x49 by omega])) (by omega) hw _ (lv_sub hl [0, 2, 3, 4, 5, 6] rfl)
          · skip
            have hcb : ctS Sd Up x38 = true := by
              cases hq : ctS Sd Up x38
              · rw [hq] at hrw; rw [hrw] at c46; simp at c46
              · rfl
            refine ziinc (pc := 49) (lv' := [(4, .int (iI (wa + (-1)))), (6, .int (iI x38)), (5, .int (iI nn)), (0, .ref se), (1, .ref dr), (2, .int (iI first)), (3, .int (iI en))]) hx hb 2 dX5_chosen_49 hl rfl (by decide) rfl (fun ls hl => ?_)
            obtain ⟨x49, ex49⟩ : ∃ zz : Int, zz = (wa + (-1)) := ⟨_, rfl⟩
            rw [← ex49] at hl
            refine lv_iload (pc := 52) hx hb dX5_chosen_52 (lv_at hl 0 rfl) ?_
            refine zif_ne (pc := 54) hx hb 60 (by omega) dX5_chosen_54 (by decide) (fun c54 => ?_) (fun c54 => ?_)
            · skip
              refine ziinc (pc := 60) (lv' := [(5, .int (iI (nn + 1))), (4, .int (iI x49)), (6, .int (iI x38)), (0, .ref se), (1, .ref dr), (2, .int (iI first)), (3, .int (iI en))]) hx hb 2 dX5_chosen_60 hl rfl (by decide) rfl (fun ls hl => ?_)
              obtain ⟨x60, ex60⟩ : ∃ zz : Int, zz = (nn + 1) := ⟨_, rfl⟩
              rw [← ex60] at hl
              refine lv_goto (pc := 63) (tgt := 12) hx hb dX5_chosen_63 (by decide) ?_
              exact ih12 x60 x49 _ _ (by (first | assumption | omega)) (by omega) (by 
                                        rw [hc]
                                        by_cases h5p : 0 < Sd 5
                                        · rw [if_pos h5p, if_pos h5p, show first + nn = x38 by omega, show first + x60 = x38 + 1 by omega]
                                          first
                                          | exact chF_s (by omega) hcb
                                          | (rw [chF_t (by omega) hcb (by omega), show wa - 1 = x49 by omega])
                                        · rw [if_neg h5p, if_neg h5p, show en - nn = x38 by omega, show en - x60 = x38 - 1 by omega]
                                          first
                                          | exact chB_s (by omega) hcb
                                          | (rw [chB_t (by omega) hcb (by omega), show wa - 1 = x49 by omega])) (by omega) hw _ (lv_sub hl [0, 1, 3, 4, 5, 6] rfl)
            · skip
              refine lv_iload (pc := 57) hx hb dX5_chosen_57 (lv_at hl 1 rfl) ?_
              exact zretI (pc := 59) hx hb hlocks hr hw (Nat.zero_le _) (Nat.zero_le _) dX5_chosen_59 ⟨by (try dsimp only) <;> (
                                        rw [hc]
                                        by_cases h5p : 0 < Sd 5
                                        · rw [if_pos h5p, show first + nn = x38 by omega, show wa = 1 by omega, chF_h (by omega) hcb]
                                        · rw [if_neg h5p, show en - nn = x38 by omega, show wa = 1 by omega, chB_h (by omega) hcb]), rfl, rfl, rfl⟩
        · skip
          refine lv_iload_n (pc := 27) hx hb dX5_chosen_27 rfl (lv_at hl 4 rfl) ?_
          refine lv_iload (pc := 28) hx hb dX5_chosen_28 (lv_at hl 0 rfl) ?_
          refine zadd (pc := 30) hx hb dX5_chosen_30 ?_
          refine lv_goto (pc := 31) (tgt := 38) hx hb dX5_chosen_31 (by decide) ?_
          refine ztop (fun x38 ex38 => ?_)
          refine lv_istore (pc := 38) (lv' := [(6, .int (iI x38)), (5, .int (iI nn)), (4, .int (iI wa)), (0, .ref se), (1, .ref dr), (2, .int (iI first)), (3, .int (iI en))]) hx hb dX5_chosen_38 hl (by decide) rfl (fun ls hl => ?_)
          refine lv_aload_n (pc := 40) hx hb dX5_chosen_40 rfl (lv_at hl 4 rfl) ?_
          refine lv_iload (pc := 41) hx hb dX5_chosen_41 (lv_at hl 0 rfl) ?_
          refine zkIp (pc := 43) (zrV (As := [.int (iI x38)]) hx hb hml hown hG hw (c_X0_read l Γ K X Rf dr x38 na 4733 (by (first | assumption | omega)) (by (first | assumption | omega)) (by (first | assumption | omega)) (by (first | assumption | omega)) (by (first | assumption | omega)) (by (first | assumption | omega))) (T := TX0) hkd rfl cb_X0_read wl_X5_155 rfl ⟨Nat.le_of_ble_eq_true rfl, Nat.le_of_ble_eq_true rfl⟩ hl.1 rfl (Nat.le_of_ble_eq_true rfl) dX5_chosen_43 ⟨Nat.zero_le _, Nat.zero_le _⟩) hw (fun r43 H locs hp43 hw => ?_)
          subst hp43
          have hrw := hW x38 (by omega) (by omega)
          refine zif_le (pc := 46) hx hb 60 (by omega) dX5_chosen_46 (by decide) (fun c46 => ?_) (fun c46 => ?_)
          · skip
            have hcb : ctS Sd Up x38 = false := by
              cases hq : ctS Sd Up x38
              · rfl
              · rw [hq] at hrw; rw [hrw] at c46; simp at c46
            refine ziinc (pc := 60) (lv' := [(5, .int (iI (nn + 1))), (6, .int (iI x38)), (4, .int (iI wa)), (0, .ref se), (1, .ref dr), (2, .int (iI first)), (3, .int (iI en))]) hx hb 1 dX5_chosen_60 hl rfl (by decide) rfl (fun ls hl => ?_)
            obtain ⟨x60, ex60⟩ : ∃ zz : Int, zz = (nn + 1) := ⟨_, rfl⟩
            rw [← ex60] at hl
            refine lv_goto (pc := 63) (tgt := 12) hx hb dX5_chosen_63 (by decide) ?_
            exact ih12 x60 wa _ _ (by (first | assumption | omega)) (by omega) (by 
                                        rw [hc]
                                        by_cases h5p : 0 < Sd 5
                                        · rw [if_pos h5p, if_pos h5p, show first + nn = x38 by omega, show first + x60 = x38 + 1 by omega]
                                          first
                                          | exact chF_s (by omega) hcb
                                          | (rw [chF_t (by omega) hcb (by omega), show wa - 1 = x49 by omega])
                                        · rw [if_neg h5p, if_neg h5p, show en - nn = x38 by omega, show en - x60 = x38 - 1 by omega]
                                          first
                                          | exact chB_s (by omega) hcb
                                          | (rw [chB_t (by omega) hcb (by omega), show wa - 1 = x49 by omega])) (by omega) hw _ (lv_sub hl [0, 2, 3, 4, 5, 6] rfl)
          · skip
            have hcb : ctS Sd Up x38 = true := by
              cases hq : ctS Sd Up x38
              · rw [hq] at hrw; rw [hrw] at c46; simp at c46
              · rfl
            refine ziinc (pc := 49) (lv' := [(4, .int (iI (wa + (-1)))), (6, .int (iI x38)), (5, .int (iI nn)), (0, .ref se), (1, .ref dr), (2, .int (iI first)), (3, .int (iI en))]) hx hb 2 dX5_chosen_49 hl rfl (by decide) rfl (fun ls hl => ?_)
            obtain ⟨x49, ex49⟩ : ∃ zz : Int, zz = (wa + (-1)) := ⟨_, rfl⟩
            rw [← ex49] at hl
            refine lv_iload (pc := 52) hx hb dX5_chosen_52 (lv_at hl 0 rfl) ?_
            refine zif_ne (pc := 54) hx hb 60 (by omega) dX5_chosen_54 (by decide) (fun c54 => ?_) (fun c54 => ?_)
            · skip
              refine ziinc (pc := 60) (lv' := [(5, .int (iI (nn + 1))), (4, .int (iI x49)), (6, .int (iI x38)), (0, .ref se), (1, .ref dr), (2, .int (iI first)), (3, .int (iI en))]) hx hb 2 dX5_chosen_60 hl rfl (by decide) rfl (fun ls hl => ?_)
              obtain ⟨x60, ex60⟩ : ∃ zz : Int, zz = (nn + 1) := ⟨_, rfl⟩
              rw [← ex60] at hl
              refine lv_goto (pc := 63) (tgt := 12) hx hb dX5_chosen_63 (by decide) ?_
              exact ih12 x60 x49 _ _ (by (first | assumption | omega)) (by omega) (by 
                                        rw [hc]
                                        by_cases h5p : 0 < Sd 5
                                        · rw [if_pos h5p, if_pos h5p, show first + nn = x38 by omega, show first + x60 = x38 + 1 by omega]
                                          first
                                          | exact chF_s (by omega) hcb
                                          | (rw [chF_t (by omega) hcb (by omega), show wa - 1 = x49 by omega])
                                        · rw [if_neg h5p, if_neg h5p, show en - nn = x38 by omega, show en - x60 = x38 - 1 by omega]
                                          first
                                          | exact chB_s (by omega) hcb
                                          | (rw [chB_t (by omega) hcb (by omega), show wa - 1 = x49 by omega])) (by omega) hw _ (lv_sub hl [0, 1, 3, 4, 5, 6] rfl)
            · skip
              refine lv_iload (pc := 57) hx hb dX5_chosen_57 (lv_at hl 1 rfl) ?_
              exact zretI (pc := 59) hx hb hlocks hr hw (Nat.zero_le _) (Nat.zero_le _) dX5_chosen_59 ⟨by (try dsimp only) <;> (
                                        rw [hc]
                                        by_cases h5p : 0 < Sd 5
                                        · rw [if_pos h5p, show first + nn = x38 by omega, show wa = 1 by omega, chF_h (by omega) hcb]
                                        · rw [if_neg h5p, show en - nn = x38 by omega, show wa = 1 by omega, chB_h (by omega) hcb]), rfl, rfl, rfl⟩
  exact lp12 _ 0 x7 _ _ (by (first | assumption | omega)) (by omega) (by unfold chS; rw [show first + 0 = first by omega, show en - 0 = en by omega]; split; rw [show x7 = Sd 5 by omega]; rw [show x7 = -Sd 5 by omega]) (Nat.lt_succ_self _) hw _ (lv_sub hl [0, 1, 2, 3, 4, 5] rfl)
