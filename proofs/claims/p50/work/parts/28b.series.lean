set_option maxHeartbeats 4000000 in
set_option maxRecDepth 100000 in
theorem c_X5_findCounting (l : Launch) (Γ : zG) (K : zK) (X : zX) (Rf : zR) (se : Nat) (dr : Nat) (Sd : Nat → Int) (Up : Nat → Nat → Int) (po : Nat) (na : Nat) (hk : K se = (1, 4)) (hD : serD (X se) Sd) (hS : okS Sd) (hr8 : Rf se 8 = some po) (hkpo : K po = (6, 4)) (hU : upOK K X Rf po Sd Up) (hUs : usOK K X Rf se Sd) (hkd : K dr = (1, 0)) (hr0 : Rf dr 0 = some na) (hkn : K na = (2, 4733)) : Ct l yX5_findCounting cX5_findCounting 3 none 4 0 0 Γ [.ref se, .ref dr] K X Rf (pV (zpv K Rf (fun X' : zX => ((∀ d : Int, spB Sd 0 ≤ d → d ≤ min (Sd 7 + 366) 73048 → rdv X' dr na 4733 d = if ctS Sd Up d then 1 else -1) ∧ X' dr 1 = spB Sd 0 ∧ X' dr 2 = min (Sd 7 + 366) 73048) ∧ (∀ a, a ≠ dr → a ≠ na → X' a = X a)))) := by
  refine Ct.of (by decide +kernel) (Nat.le_of_ble_eq_true rfl) ?_
  intro p e s m below meth c ls hx hb hr hml hown hG hlocks hname hw hl
  have hl : lv_has ls 3 [(0, .ref se), (1, .ref dr)] := hl
  have hne : dr ≠ na := zkne hkd hkn (by simp)
  have hn1 : se ≠ dr := fun q => by rw [q, hkd] at hk; cases hk
  have hn2 : se ≠ na := zkne hk hkn (by simp)
  have hb0 := spB_0 hS
  have hb1 := (spB_rng hS (i := 0) (by omega) (by omega))
  have e12 : X se 12 = Sd 7 := hD.2.2.2.2.1
  refine lv_aload_n (pc := 0) hx hb dX5_findCounting_0 rfl (lv_at hl 1 rfl) ?_
  refine lv_aload_n (pc := 1) hx hb dX5_findCounting_1 rfl (lv_at hl 0 rfl) ?_
  refine ziconst (pc := 2) (n := 0) hx hb dX5_findCounting_2 ?_
  refine zkIp (pc := 3) (zrV (As := [.int (iI 0)]) hx hb hml hown hG hw (c_X5_spanBegin l Γ K X Rf se 0 Sd (by (first | assumption | omega)) (by (first | assumption | omega)) (by (first | assumption | omega)) (by (first | assumption | omega))) (T := TX5) hk rfl cb_X5_spanBegin wl_X5_95 rfl ⟨Nat.le_of_ble_eq_true rfl, Nat.le_of_ble_eq_true rfl⟩ hl.1 rfl (Nat.le_of_ble_eq_true rfl) dX5_findCounting_3 ⟨Nat.zero_le _, Nat.zero_le _⟩) hw (fun r3 H locs hp3 hw => ?_)
  subst hp3
  have hp3f0 := spB_rng (Sd := Sd) (by assumption) (i := 0) (by omega) (by omega)
  refine lv_aload_n (pc := 6) hx hb dX5_findCounting_6 rfl (lv_at hl 0 rfl) ?_
  refine zgetI (pc := 7) hx hb hG hown hw hk (T := TX5) rfl 12 (by decide) rfl wf_X5_72 rfl dX5_findCounting_7 ?_
  refine zsipush (pc := 10) (n := 366) hx hb dX5_findCounting_10 rfl ?_
  refine zadd (pc := 13) hx hb dX5_findCounting_13 ?_
  refine zldc (pc := 14) (n := 73048) hx hb hown hG wk_X5_31 dX5_findCounting_14 ?_
  refine zmin (pc := 16) hx hb (hml.trans hl.1.symm) hown hG wl_X5_32 w1_zmn wi_javalangMath w2_zmn (Nat.le_of_ble_eq_true rfl) (Nat.le_of_ble_eq_true rfl) (Nat.zero_le _) (Nat.zero_le _) ⟨by omega, by omega⟩ dX5_findCounting_16 ?_
  refine zkVx (pc := 19) (zrV (As := [.int (iI (spB Sd 0)), .int (iI (min ((X se 12) + 366) 73048))]) hx hb hml hown hG hw (c_X0_clear l Γ K X Rf dr (spB Sd 0) (min ((X se 12) + 366) 73048) na 4733 (by (first | assumption | omega)) (by (first | assumption | omega)) (by (first | assumption | omega)) (by (first | assumption | omega)) (by (first | assumption | omega)) (by (first | assumption | omega))) (T := TX0) hkd rfl cb_X0_clear wl_X5_114 rfl ⟨Nat.le_of_ble_eq_true rfl, Nat.le_of_ble_eq_true rfl⟩ hl.1 rfl (Nat.le_of_ble_eq_true rfl) dX5_findCounting_19 ⟨Nat.zero_le _, Nat.zero_le _⟩) hw (fun X19 H locs hp19 hw => ?_)
  obtain ⟨hx1, hx2, hz19, ho19, -⟩ := hp19
  have hx2 : X19 dr 2 = min (Sd 7 + 366) 73048 := by omega
  have hX5 : X19 se = X se := ho19 se hn1 hn2
  have hD2 : serD (X19 se) Sd := by rw [hX5]; exact hD
  have hXp : ∀ a, K a = (1, 2) → X19 a = X a := fun a ha => ho19 a (fun q => by rw [q, hkd] at ha; cases ha) (zkne ha hkn (by simp))
  have hUs2 := hUs.mono (X' := X19) hXp
  refine lv_aload_n (pc := 22) hx hb dX5_findCounting_22 rfl (lv_at hl 0 rfl) ?_
  refine zgetI (pc := 23) hx hb hG hown hw hk (T := TX5) rfl 9 (by decide) rfl wf_X5_63 rfl dX5_findCounting_23 ?_
  refine zif_ne (pc := 26) hx hb 38 (by omega) dX5_findCounting_26 (by decide) (fun c26 => ?_) (fun c26 => ?_)
  · skip
    refine ziconst (pc := 38) (n := 0) hx hb dX5_findCounting_38 ?_
    refine lv_istore_n (pc := 39) (lv' := [(2, .int (iI 0)), (0, .ref se), (1, .ref dr)]) hx hb dX5_findCounting_39 rfl hl (by decide) rfl (fun ls hl => ?_)
    have lp40 : ∀ (n40 : Nat) (kk : Int) (XL40 : zX) (H : Heap) (locs : List Loc), (hi : 0 ≤ kk ∧ kk ≤ Sd 9) → (hv : ∀ d : Int, spB Sd 0 ≤ d → d ≤ min (Sd 7 + 366) 73048 → rdv XL40 dr na 4733 d = if ctK Sd Up d kk.toNat then 1 else -1) → (hd1 : XL40 dr 1 = spB Sd 0) → (hd2 : XL40 dr 2 = min (Sd 7 + 366) 73048) → (ho : ∀ a, a ≠ dr → a ≠ na → XL40 a = X a) → ((4 - kk).toNat < n40) → Wd Γ (zA K s.heap.size) K XL40 Rf s H locs → ∀ ls : Array Slot, lv_has ls 3 [(2, .int (iI kk)), (0, .ref se), (1, .ref dr)] → W p l e (rmL 4 0 0) s m ([.ref se, .ref dr] : List Value).toArray below meth c H locs 0 0 (MQ below (zQ Γ K s.heap.size (pV (zpv K Rf (fun X' : zX => ((∀ d : Int, spB Sd 0 ≤ d → d ≤ min (Sd 7 + 366) 73048 → rdv X' dr na 4733 d = if ctS Sd Up d then 1 else -1) ∧ X' dr 1 = spB Sd 0 ∧ X' dr 2 = min (Sd 7 + 366) 73048) ∧ (∀ a, a ≠ dr → a ≠ na → X' a = X a))))) ([.ref se, .ref dr] : List Value).toArray s 0 0 (zA K s.heap.size)) (F0 m 40 ls []) := by
      intro n40
      induction n40 with
      | zero => intro kk XL40 H locs hi hv hd1 hd2 ho hm40; exact absurd hm40 (Nat.not_lt_zero _)
      | succ n40 ih40 =>
        intro kk XL40 H locs hi hv hd1 hd2 ho hm40 hw ls hl
        have hX5 : XL40 se = X se := ho se hn1 hn2
        have hXp : ∀ a, K a = (1, 2) → XL40 a = X a := fun a ha => ho a (fun q => by rw [q, hkd] at ha; cases ha) (zkne ha hkn (by simp))
        have hU2 := hU.mono (X' := XL40) hXp
        have hD2 : serD (XL40 se) Sd := by rw [hX5]; exact hD
        refine lv_iload_n (pc := 40) hx hb dX5_findCounting_40 rfl (lv_at hl 0 rfl) ?_
        refine lv_aload_n (pc := 41) hx hb dX5_findCounting_41 rfl (lv_at hl 1 rfl) ?_
        refine zgetI (pc := 42) hx hb hG hown hw hk (T := TX5) rfl 9 (by decide) rfl wf_X5_63 rfl dX5_findCounting_42 ?_
        refine zicmp_ge (pc := 45) hx hb 74 (by omega) (by omega) dX5_findCounting_45 (by decide) (fun c45 => ?_) (fun c45 => ?_)
        · skip
          exact zretV (pc := 74) hx hb hlocks hr hw (Nat.zero_le _) (Nat.zero_le _) dX5_findCounting_74 ⟨by (try dsimp only) <;> (
                                        refine ⟨⟨fun d g1 g2 => ?_, hd1, hd2⟩, ho⟩
                                        rw [hv d g1 g2, show kk = Sd 9 by omega]; rfl), rfl, rfl⟩
        · skip
          refine lv_iload_n (pc := 48) hx hb dX5_findCounting_48 rfl (lv_at hl 0 rfl) ?_
          refine lv_aload_n (pc := 49) hx hb dX5_findCounting_49 rfl (lv_at hl 1 rfl) ?_
          refine zgetR (pc := 50) hx hb hG hown hw hk (T := TX5) rfl 8 (by decide) rfl wf_X5_59 rfl hr8 dX5_findCounting_50 ?_
          refine zlen6 (pc := 53) hx hb hw hkpo dX5_findCounting_53 ?_
          refine zicmp_ge (pc := 54) hx hb 74 (by omega) (by omega) dX5_findCounting_54 (by decide) (fun c54 => ?_) (fun c54 => ?_)
          · skip
            exfalso; omega
          · skip
            refine lv_aload_n (pc := 57) hx hb dX5_findCounting_57 rfl (lv_at hl 1 rfl) ?_
            refine lv_aload_n (pc := 58) hx hb dX5_findCounting_58 rfl (lv_at hl 2 rfl) ?_
            refine lv_aload_n (pc := 59) hx hb dX5_findCounting_59 rfl (lv_at hl 1 rfl) ?_
            refine zgetR (pc := 60) hx hb hG hown hw hk (T := TX5) rfl 8 (by decide) rfl wf_X5_59 rfl hr8 dX5_findCounting_60 ?_
            refine lv_iload_n (pc := 63) hx hb dX5_findCounting_63 rfl (lv_at hl 0 rfl) ?_
            obtain ⟨pa, hrp, hkp, hoP, hps⟩ := hU2 kk.toNat (by omega)
            refine zaaldR0 (pc := 64) hx hb hw hkpo ⟨by omega, by omega⟩ (by omega) hrp dX5_findCounting_64 ?_
            refine zkVx (pc := 65) (zrV (As := [.ref dr, .ref pa]) hx hb hml hown hG hw (c_X5_markTold l Γ K XL40 Rf se dr pa Sd na 4733 (by (first | assumption | omega)) (by (first | assumption | omega)) (by (first | assumption | omega)) (by (first | assumption | omega)) (by (first | assumption | omega)) (by (first | assumption | omega)) (by (first | assumption | omega)) (by (first | assumption | omega)) (by (first | assumption | omega)) (by (first | assumption | omega))) (T := TX5) hk rfl cb_X5_markTold wl_X5_120 rfl ⟨Nat.le_of_ble_eq_true rfl, Nat.le_of_ble_eq_true rfl⟩ hl.1 rfl (Nat.le_of_ble_eq_true rfl) dX5_findCounting_65 ⟨Nat.zero_le _, Nat.zero_le _⟩) hw (fun X65 H locs hp65 hw => ?_)
            obtain ⟨hv65, ho65⟩ := hp65
            refine ziinc (pc := 68) (lv' := [(2, .int (iI (kk + 1))), (0, .ref se), (1, .ref dr)]) hx hb 0 dX5_findCounting_68 hl rfl (by decide) rfl (fun ls hl => ?_)
            obtain ⟨x68, ex68⟩ : ∃ zz : Int, zz = (kk + 1) := ⟨_, rfl⟩
            rw [← ex68] at hl
            refine lv_goto (pc := 71) (tgt := 40) hx hb dX5_findCounting_71 (by decide) ?_
            exact ih40 x68 X65 _ _ (by (first | assumption | omega)) (by 
                                        intro d g1 g2
                                        rw [hv65 d (by omega) (by omega), hv d g1 g2, ex68, show (kk + 1).toNat = kk.toNat + 1 by omega, ctK_s (by omega), told_congr hps.1 hps.2.1 hps.2.2]) (by rw [ho65 dr hne]; exact hd1) (by rw [ho65 dr hne]; exact hd2) (by intro a h1 h2; rw [ho65 a h2]; exact ho a h1 h2) (by omega) hw _ (lv_sub hl [0, 1, 2] rfl)
    exact lp40 _ 0 X19 _ _ (by (first | assumption | omega)) (by first | exact hmv | (intro d g1 g2; rw [rdv_clear hz19, ctK_0 (by omega)]; rfl)) (by first | exact hmd1 | exact hx1) (by first | exact hmd2 | exact hx2) (by first | exact hmo | exact ho19) (Nat.lt_succ_self _) hw _ (lv_sub hl [0, 1, 2] rfl)
  · skip
    refine lv_aload_n (pc := 29) hx hb dX5_findCounting_29 rfl (lv_at hl 0 rfl) ?_
    refine lv_aload_n (pc := 30) hx hb dX5_findCounting_30 rfl (lv_at hl 1 rfl) ?_
    refine lv_aload_n (pc := 31) hx hb dX5_findCounting_31 rfl (lv_at hl 0 rfl) ?_
    refine zgetQ (pc := 32) hx hb hG hown hw hk (T := TX5) rfl 7 (by decide) rfl wf_X5_55 rfl dX5_findCounting_32 (fun hq32 => ?_) (fun q32 hq32 => ?_)
    · skip
      have hk2 : Sd 2 < 2 := by rcases hUs2 with ⟨w, _⟩ | ⟨_, us, w, _⟩; exact w; rw [hq32] at w; cases w
      refine zkVx (pc := 35) (zrV (As := [.ref dr, .null]) hx hb hml hown hG hw (c_X5_markTold_n l Γ K X19 Rf se dr Sd na 4733 (by (first | assumption | omega)) (by (first | assumption | omega)) (by (first | assumption | omega)) (by (first | assumption | omega)) (by (first | assumption | omega)) (by (first | assumption | omega)) (by (first | assumption | omega)) (by (first | assumption | omega))) (T := TX5) hk rfl cb_X5_markTold wl_X5_120 rfl ⟨Nat.le_of_ble_eq_true rfl, Nat.le_of_ble_eq_true rfl⟩ hl.1 rfl (Nat.le_of_ble_eq_true rfl) dX5_findCounting_35 ⟨Nat.zero_le _, Nat.zero_le _⟩) hw (fun X35 H locs hp35 hw => ?_)
      obtain ⟨hv35, ho35⟩ := hp35
      have hmd1 : X35 dr 1 = spB Sd 0 := by rw [ho35 dr hne]; exact hx1
      have hmd2 : X35 dr 2 = min (Sd 7 + 366) 73048 := by rw [ho35 dr hne]; exact hx2
      have hmo : ∀ a, a ≠ dr → a ≠ na → X35 a = X a := fun a h1 h2 => by rw [ho35 a h2]; exact ho19 a h1 h2
      have hmv : ∀ d : Int, spB Sd 0 ≤ d → d ≤ min (Sd 7 + 366) 73048 → rdv X35 dr na 4733 d = if ctK Sd Up d (0 : Int).toNat then 1 else -1 := by
        intro d g1 g2
        rw [hv35 d (by omega) (by omega), rdv_clear hz19]
        unfold ctK
        rw [if_pos (show Sd 9 = 0 by omega)]
        first
        | (rw [if_pos hk2]; by_cases hq3 : bitw (rwS Sd) d = 0 <;> simp [hq3])
        | (rw [if_neg (show ¬ Sd 2 < 2 by omega), told_congr hps.1 hps.2.1 hps.2.2]; by_cases hq3 : bitw (rwS Sd) d = 0 <;> by_cases hq2 : told (usS Sd) (mi d) = d <;> simp [hq3, hq2])
      refine ziconst (pc := 38) (n := 0) hx hb dX5_findCounting_38 ?_
      refine lv_istore_n (pc := 39) (lv' := [(2, .int (iI 0)), (0, .ref se), (1, .ref dr)]) hx hb dX5_findCounting_39 rfl hl (by decide) rfl (fun ls hl => ?_)
      have lp40 : ∀ (n40 : Nat) (kk : Int) (XL40 : zX) (H : Heap) (locs : List Loc), (hi : 0 ≤ kk ∧ kk ≤ Sd 9) → (hv : ∀ d : Int, spB Sd 0 ≤ d → d ≤ min (Sd 7 + 366) 73048 → rdv XL40 dr na 4733 d = if ctK Sd Up d kk.toNat then 1 else -1) → (hd1 : XL40 dr 1 = spB Sd 0) → (hd2 : XL40 dr 2 = min (Sd 7 + 366) 73048) → (ho : ∀ a, a ≠ dr → a ≠ na → XL40 a = X a) → ((4 - kk).toNat < n40) → Wd Γ (zA K s.heap.size) K XL40 Rf s H locs → ∀ ls : Array Slot, lv_has ls 3 [(2, .int (iI kk)), (0, .ref se), (1, .ref dr)] → W p l e (rmL 4 0 0) s m ([.ref se, .ref dr] : List Value).toArray below meth c H locs 0 0 (MQ below (zQ Γ K s.heap.size (pV (zpv K Rf (fun X' : zX => ((∀ d : Int, spB Sd 0 ≤ d → d ≤ min (Sd 7 + 366) 73048 → rdv X' dr na 4733 d = if ctS Sd Up d then 1 else -1) ∧ X' dr 1 = spB Sd 0 ∧ X' dr 2 = min (Sd 7 + 366) 73048) ∧ (∀ a, a ≠ dr → a ≠ na → X' a = X a))))) ([.ref se, .ref dr] : List Value).toArray s 0 0 (zA K s.heap.size)) (F0 m 40 ls []) := by
        intro n40
        induction n40 with
        | zero => intro kk XL40 H locs hi hv hd1 hd2 ho hm40; exact absurd hm40 (Nat.not_lt_zero _)
        | succ n40 ih40 =>
          intro kk XL40 H locs hi hv hd1 hd2 ho hm40 hw ls hl
          have hX5 : XL40 se = X se := ho se hn1 hn2
          have hXp : ∀ a, K a = (1, 2) → XL40 a = X a := fun a ha => ho a (fun q => by rw [q, hkd] at ha; cases ha) (zkne ha hkn (by simp))
          have hU2 := hU.mono (X' := XL40) hXp
          have hD2 : serD (XL40 se) Sd := by rw [hX5]; exact hD
          refine lv_iload_n (pc := 40) hx hb dX5_findCounting_40 rfl (lv_at hl 0 rfl) ?_
          refine lv_aload_n (pc := 41) hx hb dX5_findCounting_41 rfl (lv_at hl 1 rfl) ?_
          refine zgetI (pc := 42) hx hb hG hown hw hk (T := TX5) rfl 9 (by decide) rfl wf_X5_63 rfl dX5_findCounting_42 ?_
          refine zicmp_ge (pc := 45) hx hb 74 (by omega) (by omega) dX5_findCounting_45 (by decide) (fun c45 => ?_) (fun c45 => ?_)
          · skip
            exact zretV (pc := 74) hx hb hlocks hr hw (Nat.zero_le _) (Nat.zero_le _) dX5_findCounting_74 ⟨by (try dsimp only) <;> (
                                        refine ⟨⟨fun d g1 g2 => ?_, hd1, hd2⟩, ho⟩
                                        rw [hv d g1 g2, show kk = Sd 9 by omega]; rfl), rfl, rfl⟩
          · skip
            refine lv_iload_n (pc := 48) hx hb dX5_findCounting_48 rfl (lv_at hl 0 rfl) ?_
            refine lv_aload_n (pc := 49) hx hb dX5_findCounting_49 rfl (lv_at hl 1 rfl) ?_
            refine zgetR (pc := 50) hx hb hG hown hw hk (T := TX5) rfl 8 (by decide) rfl wf_X5_59 rfl hr8 dX5_findCounting_50 ?_
            refine zlen6 (pc := 53) hx hb hw hkpo dX5_findCounting_53 ?_
            refine zicmp_ge (pc := 54) hx hb 74 (by omega) (by omega) dX5_findCounting_54 (by decide) (fun c54 => ?_) (fun c54 => ?_)
            · skip
              exfalso; omega
            · skip
              refine lv_aload_n (pc := 57) hx hb dX5_findCounting_57 rfl (lv_at hl 1 rfl) ?_
              refine lv_aload_n (pc := 58) hx hb dX5_findCounting_58 rfl (lv_at hl 2 rfl) ?_
              refine lv_aload_n (pc := 59) hx hb dX5_findCounting_59 rfl (lv_at hl 1 rfl) ?_
              refine zgetR (pc := 60) hx hb hG hown hw hk (T := TX5) rfl 8 (by decide) rfl wf_X5_59 rfl hr8 dX5_findCounting_60 ?_
              refine lv_iload_n (pc := 63) hx hb dX5_findCounting_63 rfl (lv_at hl 0 rfl) ?_
              obtain ⟨pa, hrp, hkp, hoP, hps⟩ := hU2 kk.toNat (by omega)
              refine zaaldR0 (pc := 64) hx hb hw hkpo ⟨by omega, by omega⟩ (by omega) hrp dX5_findCounting_64 ?_
              refine zkVx (pc := 65) (zrV (As := [.ref dr, .ref pa]) hx hb hml hown hG hw (c_X5_markTold l Γ K XL40 Rf se dr pa Sd na 4733 (by (first | assumption | omega)) (by (first | assumption | omega)) (by (first | assumption | omega)) (by (first | assumption | omega)) (by (first | assumption | omega)) (by (first | assumption | omega)) (by (first | assumption | omega)) (by (first | assumption | omega)) (by (first | assumption | omega)) (by (first | assumption | omega))) (T := TX5) hk rfl cb_X5_markTold wl_X5_120 rfl ⟨Nat.le_of_ble_eq_true rfl, Nat.le_of_ble_eq_true rfl⟩ hl.1 rfl (Nat.le_of_ble_eq_true rfl) dX5_findCounting_65 ⟨Nat.zero_le _, Nat.zero_le _⟩) hw (fun X65 H locs hp65 hw => ?_)
              obtain ⟨hv65, ho65⟩ := hp65
              refine ziinc (pc := 68) (lv' := [(2, .int (iI (kk + 1))), (0, .ref se), (1, .ref dr)]) hx hb 0 dX5_findCounting_68 hl rfl (by decide) rfl (fun ls hl => ?_)
              obtain ⟨x68, ex68⟩ : ∃ zz : Int, zz = (kk + 1) := ⟨_, rfl⟩
              rw [← ex68] at hl
              refine lv_goto (pc := 71) (tgt := 40) hx hb dX5_findCounting_71 (by decide) ?_
              exact ih40 x68 X65 _ _ (by (first | assumption | omega)) (by 
                                        intro d g1 g2
                                        rw [hv65 d (by omega) (by omega), hv d g1 g2, ex68, show (kk + 1).toNat = kk.toNat + 1 by omega, ctK_s (by omega), told_congr hps.1 hps.2.1 hps.2.2]) (by rw [ho65 dr hne]; exact hd1) (by rw [ho65 dr hne]; exact hd2) (by intro a h1 h2; rw [ho65 a h2]; exact ho a h1 h2) (by omega) hw _ (lv_sub hl [0, 1, 2] rfl)
      exact lp40 _ 0 X35 _ _ (by (first | assumption | omega)) (by first | exact hmv | (intro d g1 g2; rw [rdv_clear hz19, ctK_0 (by omega)]; rfl)) (by first | exact hmd1 | exact hx1) (by first | exact hmd2 | exact hx2) (by first | exact hmo | exact ho19) (Nat.lt_succ_self _) hw _ (lv_sub hl [0, 1, 2] rfl)
    · skip
      obtain ⟨hk2, hkq, hPq, hps⟩ : 2 ≤ Sd 2 ∧ K q32 = (1, 2) ∧ okP (X19 q32) ∧ psame (X19 q32) (usS Sd) := by
        rcases hUs2 with ⟨_, w⟩ | ⟨w0, us, w, w2, w3, w4⟩
        · rw [hq32] at w; cases w
        · rw [hq32] at w; cases w; exact ⟨w0, w2, w3, w4⟩
      refine zkVx (pc := 35) (zrV (As := [.ref dr, .ref q32]) hx hb hml hown hG hw (c_X5_markTold l Γ K X19 Rf se dr q32 Sd na 4733 (by (first | assumption | omega)) (by (first | assumption | omega)) (by (first | assumption | omega)) (by (first | assumption | omega)) (by (first | assumption | omega)) (by (first | assumption | omega)) (by (first | assumption | omega)) (by (first | assumption | omega)) (by (first | assumption | omega)) (by (first | assumption | omega))) (T := TX5) hk rfl cb_X5_markTold wl_X5_120 rfl ⟨Nat.le_of_ble_eq_true rfl, Nat.le_of_ble_eq_true rfl⟩ hl.1 rfl (Nat.le_of_ble_eq_true rfl) dX5_findCounting_35 ⟨Nat.zero_le _, Nat.zero_le _⟩) hw (fun X35 H locs hp35 hw => ?_)
      obtain ⟨hv35, ho35⟩ := hp35
      have hmd1 : X35 dr 1 = spB Sd 0 := by rw [ho35 dr hne]; exact hx1
      have hmd2 : X35 dr 2 = min (Sd 7 + 366) 73048 := by rw [ho35 dr hne]; exact hx2
      have hmo : ∀ a, a ≠ dr → a ≠ na → X35 a = X a := fun a h1 h2 => by rw [ho35 a h2]; exact ho19 a h1 h2
      have hmv : ∀ d : Int, spB Sd 0 ≤ d → d ≤ min (Sd 7 + 366) 73048 → rdv X35 dr na 4733 d = if ctK Sd Up d (0 : Int).toNat then 1 else -1 := by
        intro d g1 g2
        rw [hv35 d (by omega) (by omega), rdv_clear hz19]
        unfold ctK
        rw [if_pos (show Sd 9 = 0 by omega)]
        first
        | (rw [if_pos hk2]; by_cases hq3 : bitw (rwS Sd) d = 0 <;> simp [hq3])
        | (rw [if_neg (show ¬ Sd 2 < 2 by omega), told_congr hps.1 hps.2.1 hps.2.2]; by_cases hq3 : bitw (rwS Sd) d = 0 <;> by_cases hq2 : told (usS Sd) (mi d) = d <;> simp [hq3, hq2])
      refine ziconst (pc := 38) (n := 0) hx hb dX5_findCounting_38 ?_
      refine lv_istore_n (pc := 39) (lv' := [(2, .int (iI 0)), (0, .ref se), (1, .ref dr)]) hx hb dX5_findCounting_39 rfl hl (by decide) rfl (fun ls hl => ?_)
      have lp40 : ∀ (n40 : Nat) (kk : Int) (XL40 : zX) (H : Heap) (locs : List Loc), (hi : 0 ≤ kk ∧ kk ≤ Sd 9) → (hv : ∀ d : Int, spB Sd 0 ≤ d → d ≤ min (Sd 7 + 366) 73048 → rdv XL40 dr na 4733 d = if ctK Sd Up d kk.toNat then 1 else -1) → (hd1 : XL40 dr 1 = spB Sd 0) → (hd2 : XL40 dr 2 = min (Sd 7 + 366) 73048) → (ho : ∀ a, a ≠ dr → a ≠ na → XL40 a = X a) → ((4 - kk).toNat < n40) → Wd Γ (zA K s.heap.size) K XL40 Rf s H locs → ∀ ls : Array Slot, lv_has ls 3 [(2, .int (iI kk)), (0, .ref se), (1, .ref dr)] → W p l e (rmL 4 0 0) s m ([.ref se, .ref dr] : List Value).toArray below meth c H locs 0 0 (MQ below (zQ Γ K s.heap.size (pV (zpv K Rf (fun X' : zX => ((∀ d : Int, spB Sd 0 ≤ d → d ≤ min (Sd 7 + 366) 73048 → rdv X' dr na 4733 d = if ctS Sd Up d then 1 else -1) ∧ X' dr 1 = spB Sd 0 ∧ X' dr 2 = min (Sd 7 + 366) 73048) ∧ (∀ a, a ≠ dr → a ≠ na → X' a = X a))))) ([.ref se, .ref dr] : List Value).toArray s 0 0 (zA K s.heap.size)) (F0 m 40 ls []) := by
        intro n40
        induction n40 with
        | zero => intro kk XL40 H locs hi hv hd1 hd2 ho hm40; exact absurd hm40 (Nat.not_lt_zero _)
        | succ n40 ih40 =>
          intro kk XL40 H locs hi hv hd1 hd2 ho hm40 hw ls hl
          have hX5 : XL40 se = X se := ho se hn1 hn2
          have hXp : ∀ a, K a = (1, 2) → XL40 a = X a := fun a ha => ho a (fun q => by rw [q, hkd] at ha; cases ha) (zkne ha hkn (by simp))
          have hU2 := hU.mono (X' := XL40) hXp
          have hD2 : serD (XL40 se) Sd := by rw [hX5]; exact hD
          refine lv_iload_n (pc := 40) hx hb dX5_findCounting_40 rfl (lv_at hl 0 rfl) ?_
          refine lv_aload_n (pc := 41) hx hb dX5_findCounting_41 rfl (lv_at hl 1 rfl) ?_
          refine zgetI (pc := 42) hx hb hG hown hw hk (T := TX5) rfl 9 (by decide) rfl wf_X5_63 rfl dX5_findCounting_42 ?_
          refine zicmp_ge (pc := 45) hx hb 74 (by omega) (by omega) dX5_findCounting_45 (by decide) (fun c45 => ?_) (fun c45 => ?_)
          · skip
            exact zretV (pc := 74) hx hb hlocks hr hw (Nat.zero_le _) (Nat.zero_le _) dX5_findCounting_74 ⟨by (try dsimp only) <;> (
                                        refine ⟨⟨fun d g1 g2 => ?_, hd1, hd2⟩, ho⟩
                                        rw [hv d g1 g2, show kk = Sd 9 by omega]; rfl), rfl, rfl⟩
          · skip
            refine lv_iload_n (pc := 48) hx hb dX5_findCounting_48 rfl (lv_at hl 0 rfl) ?_
            refine lv_aload_n (pc := 49) hx hb dX5_findCounting_49 rfl (lv_at hl 1 rfl) ?_
            refine zgetR (pc := 50) hx hb hG hown hw hk (T := TX5) rfl 8 (by decide) rfl wf_X5_59 rfl hr8 dX5_findCounting_50 ?_
            refine zlen6 (pc := 53) hx hb hw hkpo dX5_findCounting_53 ?_
            refine zicmp_ge (pc := 54) hx hb 74 (by omega) (by omega) dX5_findCounting_54 (by decide) (fun c54 => ?_) (fun c54 => ?_)
            · skip
              exfalso; omega
            · skip
              refine lv_aload_n (pc := 57) hx hb dX5_findCounting_57 rfl (lv_at hl 1 rfl) ?_
              refine lv_aload_n (pc := 58) hx hb dX5_findCounting_58 rfl (lv_at hl 2 rfl) ?_
              refine lv_aload_n (pc := 59) hx hb dX5_findCounting_59 rfl (lv_at hl 1 rfl) ?_
              refine zgetR (pc := 60) hx hb hG hown hw hk (T := TX5) rfl 8 (by decide) rfl wf_X5_59 rfl hr8 dX5_findCounting_60 ?_
              refine lv_iload_n (pc := 63) hx hb dX5_findCounting_63 rfl (lv_at hl 0 rfl) ?_
              obtain ⟨pa, hrp, hkp, hoP, hps⟩ := hU2 kk.toNat (by omega)
              refine zaaldR0 (pc := 64) hx hb hw hkpo ⟨by omega, by omega⟩ (by omega) hrp dX5_findCounting_64 ?_
              refine zkVx (pc := 65) (zrV (As := [.ref dr, .ref pa]) hx hb hml hown hG hw (c_X5_markTold l Γ K XL40 Rf se dr pa Sd na 4733 (by (first | assumption | omega)) (by (first | assumption | omega)) (by (first | assumption | omega)) (by (first | assumption | omega)) (by (first | assumption | omega)) (by (first | assumption | omega)) (by (first | assumption | omega)) (by (first | assumption | omega)) (by (first | assumption | omega)) (by (first | assumption | omega))) (T := TX5) hk rfl cb_X5_markTold wl_X5_120 rfl ⟨Nat.le_of_ble_eq_true rfl, Nat.le_of_ble_eq_true rfl⟩ hl.1 rfl (Nat.le_of_ble_eq_true rfl) dX5_findCounting_65 ⟨Nat.zero_le _, Nat.zero_le _⟩) hw (fun X65 H locs hp65 hw => ?_)
              obtain ⟨hv65, ho65⟩ := hp65
              refine ziinc (pc := 68) (lv' := [(2, .int (iI (kk + 1))), (0, .ref se), (1, .ref dr)]) hx hb 0 dX5_findCounting_68 hl rfl (by decide) rfl (fun ls hl => ?_)
              obtain ⟨x68, ex68⟩ : ∃ zz : Int, zz = (kk + 1) := ⟨_, rfl⟩
              rw [← ex68] at hl
              refine lv_goto (pc := 71) (tgt := 40) hx hb dX5_findCounting_71 (by decide) ?_
              exact ih40 x68 X65 _ _ (by (first | assumption | omega)) (by 
                                        intro d g1 g2
                                        rw [hv65 d (by omega) (by omega), hv d g1 g2, ex68, show (kk + 1).toNat = kk.toNat + 1 by omega, ctK_s (by omega), told_congr hps.1 hps.2.1 hps.2.2]) (by rw [ho65 dr hne]; exact hd1) (by rw [ho65 dr hne]; exact hd2) (by intro a h1 h2; rw [ho65 a h2]; exact ho a h1 h2) (by omega) hw _ (lv_sub hl [0, 1, 2] rfl)
      exact lp40 _ 0 X35 _ _ (by (first | assumption | omega)) (by first | exact hmv | (intro d g1 g2; rw [rdv_clear hz19, ctK_0 (by omega)]; rfl)) (by first | exact hmd1 | exact hx1) (by first | exact hmd2 | exact hx2) (by first | exact hmo | exact ho19) (Nat.lt_succ_self _) hw _ (lv_sub hl [0, 1, 2] rfl)
