set_option maxHeartbeats 4000000 in
set_option maxRecDepth 100000 in
theorem c_X7_localMinutes (l : Launch) (Γ : zG) (K : zK) (X : zX) (Rf : zR) (wo : Nat) (fr : Int) (to : Int) (fa : Nat) (fn : Nat) (Gd : Int → Int) (hk : K wo = (1, 6)) (hw2 : 1 ≤ X wo 2 ∧ X wo 2 ≤ 127) (hr7 : Rf wo 7 = some fa) (hkfa : K fa = (1, 0)) (hr0 : Rf fa 0 = some fn) (hkfn : K fn = (2, 1701)) (hb0 : (-100000 ≤ X fa 1 ∧ X fa 1 ≤ 200000) ∧ -100000 ≤ X fa 2 ∧ X fa 2 ≤ 200000) (hvr : fvr X fn) (h1 : (-2000 ≤ fr ∧ fr ≤ to) ∧ to ≤ 105192000) (h3 : (0 ≤ X wo 3 ∧ X wo 3 < X wo 4) ∧ X wo 4 ≤ 1440) (hF : ∀ d : Int, 0 ≤ d → d ≤ 73048 → fr / 1440 ≤ d → d ≤ to / 1440 → rdv X fa fn 1701 d = Gd d) : Ct l yX7_localMinutes cX7_localMinutes 9 (some .int) 3 0 0 Γ [.ref wo, .int (iI fr), .int (iI to)] K X Rf (pI (zp0 K X Rf (fun r : Int => r = cP (lsB (X wo 3) (X wo 4) (wkF (X wo 2) Gd)) (to - fr).toNat fr))) := by
  refine Ct.of (by decide +kernel) (Nat.le_of_ble_eq_true rfl) ?_
  intro p e s m below meth c ls hx hb hr hml hown hG hlocks hname hw hl
  have hl : lv_has ls 9 [(0, .ref wo), (1, .int (iI fr)), (2, .int (iI to))] := hl
  refine ziconst (pc := 0) (n := 0) hx hb dX7_localMinutes_0 ?_
  refine lv_iload_n (pc := 1) hx hb dX7_localMinutes_1 rfl (lv_at hl 1 rfl) ?_
  refine zsipush (pc := 2) (n := 1440) hx hb dX7_localMinutes_2 rfl ?_
  refine zkIp (pc := 5) (zrS (As := [.int (iI fr), .int (iI 1440)]) hx hb hml hown hG hw (c_J9_floorDiv_7cf53 l Γ K X Rf fr  (by (first | assumption | omega))) cb_J9_floorDiv_7cf53 wl_X7_135 rfl ⟨Nat.le_of_ble_eq_true rfl, Nat.le_of_ble_eq_true rfl⟩ hl.1 rfl (Nat.le_of_ble_eq_true rfl) dX7_localMinutes_5 ⟨Nat.zero_le _, Nat.zero_le _⟩) hw (fun r5 H locs hp5 hw => ?_)
  subst hp5
  refine zmax (pc := 8) hx hb (hml.trans hl.1.symm) hown hG wl_X7_49 w1_zmx wi_javalangMath w2_zmx (Nat.le_of_ble_eq_true rfl) (Nat.le_of_ble_eq_true rfl) (Nat.zero_le _) (Nat.zero_le _) ⟨by omega, by omega⟩ dX7_localMinutes_8 ?_
  refine ztop (fun x11 ex11 => ?_)
  refine lv_istore_n (pc := 11) (lv' := [(3, .int (iI x11)), (0, .ref wo), (1, .int (iI fr)), (2, .int (iI to))]) hx hb dX7_localMinutes_11 rfl hl (by decide) rfl (fun ls hl => ?_)
  refine zldc (pc := 12) (n := 73048) hx hb hown hG wk_X7_55 dX7_localMinutes_12 ?_
  refine lv_iload_n (pc := 14) hx hb dX7_localMinutes_14 rfl (lv_at hl 3 rfl) ?_
  refine zsipush (pc := 15) (n := 1440) hx hb dX7_localMinutes_15 rfl ?_
  refine zkIp (pc := 18) (zrS (As := [.int (iI to), .int (iI 1440)]) hx hb hml hown hG hw (c_J9_floorDiv_7cf53 l Γ K X Rf to  (by (first | assumption | omega))) cb_J9_floorDiv_7cf53 wl_X7_135 rfl ⟨Nat.le_of_ble_eq_true rfl, Nat.le_of_ble_eq_true rfl⟩ hl.1 rfl (Nat.le_of_ble_eq_true rfl) dX7_localMinutes_18 ⟨Nat.zero_le _, Nat.zero_le _⟩) hw (fun r18 H locs hp18 hw => ?_)
  subst hp18
  refine zmin (pc := 21) hx hb (hml.trans hl.1.symm) hown hG wl_X7_56 w1_zmn wi_javalangMath w2_zmn (Nat.le_of_ble_eq_true rfl) (Nat.le_of_ble_eq_true rfl) (Nat.zero_le _) (Nat.zero_le _) ⟨by omega, by omega⟩ dX7_localMinutes_21 ?_
  refine ztop (fun x24 ex24 => ?_)
  refine lv_istore (pc := 24) (lv' := [(4, .int (iI x24)), (3, .int (iI x11)), (0, .ref wo), (1, .int (iI fr)), (2, .int (iI to))]) hx hb dX7_localMinutes_24 hl (by decide) rfl (fun ls hl => ?_)
  refine ziconst (pc := 26) (n := 0) hx hb dX7_localMinutes_26 ?_
  refine lv_istore (pc := 27) (lv' := [(5, .int (iI 0)), (4, .int (iI x24)), (3, .int (iI x11)), (0, .ref wo), (1, .int (iI fr)), (2, .int (iI to))]) hx hb dX7_localMinutes_27 hl (by decide) rfl (fun ls hl => ?_)
  refine lv_iload_n (pc := 29) hx hb dX7_localMinutes_29 rfl (lv_at hl 2 rfl) ?_
  refine lv_istore (pc := 30) (lv' := [(6, .int (iI x11)), (5, .int (iI 0)), (4, .int (iI x24)), (3, .int (iI x11)), (0, .ref wo), (1, .int (iI fr)), (2, .int (iI to))]) hx hb dX7_localMinutes_30 hl (by decide) rfl (fun ls hl => ?_)
  have lp32 : ∀ (n32 : Nat) (dd : Int) (sm : Int) (H : Heap) (locs : List Loc), (hi : x11 ≤ dd ∧ dd ≤ 73100) → (hs : sm = cP (lsB (X wo 3) (X wo 4) (wkF (X wo 2) Gd)) (bdD fr to dd - fr).toNat fr) → (hs2 : 0 ≤ sm ∧ sm ≤ 105194000) → ((73100 - dd).toNat < n32) → Wd Γ (zA K s.heap.size) K X Rf s H locs → ∀ ls : Array Slot, lv_has ls 9 [(6, .int (iI dd)), (5, .int (iI sm)), (4, .int (iI x24)), (3, .int (iI x11)), (0, .ref wo), (1, .int (iI fr)), (2, .int (iI to))] → W p l e (rmL 3 0 0) s m ([.ref wo, .int (iI fr), .int (iI to)] : List Value).toArray below meth c H locs 0 0 (MQ below (zQ Γ K s.heap.size (pI (zp0 K X Rf (fun r : Int => r = cP (lsB (X wo 3) (X wo 4) (wkF (X wo 2) Gd)) (to - fr).toNat fr)))) ([.ref wo, .int (iI fr), .int (iI to)] : List Value).toArray s 0 0 (zA K s.heap.size)) (F0 m 32 ls []) := by
    intro n32
    induction n32 with
    | zero => intro dd sm H locs hi hs hs2 hm32; exact absurd hm32 (Nat.not_lt_zero _)
    | succ n32 ih32 =>
      intro dd sm H locs hi hs hs2 hm32 hw ls hl
      refine lv_iload (pc := 32) hx hb dX7_localMinutes_32 (lv_at hl 0 rfl) ?_
      refine lv_iload (pc := 34) hx hb dX7_localMinutes_34 (lv_at hl 2 rfl) ?_
      refine zicmp_gt (pc := 36) hx hb 102 (by omega) (by omega) dX7_localMinutes_36 (by decide) (fun c36 => ?_) (fun c36 => ?_)
      · skip
        refine lv_iload (pc := 102) hx hb dX7_localMinutes_102 (lv_at hl 1 rfl) ?_
        exact zretI (pc := 104) hx hb hlocks hr hw (Nat.zero_le _) (Nat.zero_le _) dX7_localMinutes_104 ⟨by (try dsimp only) <;> (rw [hs, ls_end h1.1.2 (by omega) (by omega)]), rfl, rfl, rfl⟩
      · skip
        refine lv_aload_n (pc := 39) hx hb dX7_localMinutes_39 rfl (lv_at hl 4 rfl) ?_
        refine lv_iload (pc := 40) hx hb dX7_localMinutes_40 (lv_at hl 0 rfl) ?_
        refine zkIp (pc := 42) (zrV (As := [.int (iI dd)]) hx hb hml hown hG hw (c_X7_worksOn l Γ K X Rf wo dd fa fn (by (first | assumption | omega)) (by (first | assumption | omega)) (by (first | assumption | omega)) (by (first | assumption | omega)) (by (first | assumption | omega)) (by (first | assumption | omega)) (by (first | assumption | omega)) (by (first | assumption | omega)) (by (first | assumption | omega))) (T := TX7) hk rfl cb_X7_worksOn wl_X7_125 rfl ⟨Nat.le_of_ble_eq_true rfl, Nat.le_of_ble_eq_true rfl⟩ hl.1 rfl (Nat.le_of_ble_eq_true rfl) dX7_localMinutes_42 ⟨Nat.zero_le _, Nat.zero_le _⟩) hw (fun r42 H locs hp42 hw => ?_)
        subst hp42
        have hp42f0 := bI_rng (wkF (X wo 2) (rdv X fa fn 1701) dd)
        have hwk : wkF (X wo 2) (rdv X fa fn 1701) dd = wkF (X wo 2) Gd dd := wkF_congr (hF dd (by omega) (by omega) (by omega) (by omega))
        refine zif_eq (pc := 45) hx hb 96 (by omega) dX7_localMinutes_45 (by decide) (fun c45 => ?_) (fun c45 => ?_)
        · skip
          have q45 := bI_0 c45
          rw [hwk] at q45
          refine ziinc (pc := 96) (lv' := [(6, .int (iI (dd + 1))), (5, .int (iI sm)), (4, .int (iI x24)), (3, .int (iI x11)), (0, .ref wo), (1, .int (iI fr)), (2, .int (iI to))]) hx hb 0 dX7_localMinutes_96 hl rfl (by decide) rfl (fun ls hl => ?_)
          obtain ⟨x96, ex96⟩ : ∃ zz : Int, zz = (dd + 1) := ⟨_, rfl⟩
          rw [← ex96] at hl
          refine lv_goto (pc := 99) (tgt := 32) hx hb dX7_localMinutes_99 (by decide) ?_
          have hst := ls_step (fm := X wo 3) (lm := X wo 4) (wk := wkF (X wo 2) Gd) (fr := fr) (to := to) (dd := dd) h1.1.2 (by omega) (by omega) (by omega) h3
          rw [← hs] at hst
          have hrg := cP_rng (p := lsB (X wo 3) (X wo 4) (wkF (X wo 2) Gd)) (b := bdD fr to (dd + 1)) fr
          have hbd : fr ≤ bdD fr to (dd + 1) ∧ bdD fr to (dd + 1) ≤ to := by unfold bdD; omega
          rw [q45] at hst
          first | (rw [if_pos rfl] at hst) | (rw [if_neg (by simp)] at hst)
          exact ih32 x96 sm _ _ (by (first | assumption | omega)) (by rw [ex96, hst]; omega) (by omega) (by omega) hw _ (lv_sub hl [0, 1, 2, 3, 4, 5, 6] rfl)
        · skip
          have q45 := bI_1 c45
          rw [hwk] at q45
          refine lv_iload_n (pc := 48) hx hb dX7_localMinutes_48 rfl (lv_at hl 5 rfl) ?_
          refine zsipush (pc := 49) (n := 1440) hx hb dX7_localMinutes_49 rfl ?_
          refine lv_iload (pc := 52) hx hb dX7_localMinutes_52 (lv_at hl 0 rfl) ?_
          refine zmul (pc := 54) hx hb dX7_localMinutes_54 ?_
          refine lv_aload_n (pc := 55) hx hb dX7_localMinutes_55 rfl (lv_at hl 4 rfl) ?_
          refine zgetI (pc := 56) hx hb hG hown hw hk (T := TX7) rfl 3 (by decide) rfl wf_X7_27 rfl dX7_localMinutes_56 ?_
          refine zadd (pc := 59) hx hb dX7_localMinutes_59 ?_
          refine zmax (pc := 60) hx hb (hml.trans hl.1.symm) hown hG wl_X7_49 w1_zmx wi_javalangMath w2_zmx (Nat.le_of_ble_eq_true rfl) (Nat.le_of_ble_eq_true rfl) (Nat.zero_le _) (Nat.zero_le _) ⟨by omega, by omega⟩ dX7_localMinutes_60 ?_
          refine ztop (fun x63 ex63 => ?_)
          refine lv_istore (pc := 63) (lv' := [(7, .int (iI x63)), (6, .int (iI dd)), (5, .int (iI sm)), (4, .int (iI x24)), (3, .int (iI x11)), (0, .ref wo), (1, .int (iI fr)), (2, .int (iI to))]) hx hb dX7_localMinutes_63 hl (by decide) rfl (fun ls hl => ?_)
          refine lv_iload_n (pc := 65) hx hb dX7_localMinutes_65 rfl (lv_at hl 7 rfl) ?_
          refine zsipush (pc := 66) (n := 1440) hx hb dX7_localMinutes_66 rfl ?_
          refine lv_iload (pc := 69) hx hb dX7_localMinutes_69 (lv_at hl 1 rfl) ?_
          refine zmul (pc := 71) hx hb dX7_localMinutes_71 ?_
          refine lv_aload_n (pc := 72) hx hb dX7_localMinutes_72 rfl (lv_at hl 5 rfl) ?_
          refine zgetI (pc := 73) hx hb hG hown hw hk (T := TX7) rfl 4 (by decide) rfl wf_X7_30 rfl dX7_localMinutes_73 ?_
          refine zadd (pc := 76) hx hb dX7_localMinutes_76 ?_
          refine zmin (pc := 77) hx hb (hml.trans hl.1.symm) hown hG wl_X7_56 w1_zmn wi_javalangMath w2_zmn (Nat.le_of_ble_eq_true rfl) (Nat.le_of_ble_eq_true rfl) (Nat.zero_le _) (Nat.zero_le _) ⟨by omega, by omega⟩ dX7_localMinutes_77 ?_
          refine ztop (fun x80 ex80 => ?_)
          refine lv_istore (pc := 80) (lv' := [(8, .int (iI x80)), (7, .int (iI x63)), (6, .int (iI dd)), (5, .int (iI sm)), (4, .int (iI x24)), (3, .int (iI x11)), (0, .ref wo), (1, .int (iI fr)), (2, .int (iI to))]) hx hb dX7_localMinutes_80 hl (by decide) rfl (fun ls hl => ?_)
          refine lv_iload (pc := 82) hx hb dX7_localMinutes_82 (lv_at hl 3 rfl) ?_
          refine ziconst (pc := 84) (n := 0) hx hb dX7_localMinutes_84 ?_
          refine lv_iload (pc := 85) hx hb dX7_localMinutes_85 (lv_at hl 0 rfl) ?_
          refine lv_iload (pc := 87) hx hb dX7_localMinutes_87 (lv_at hl 1 rfl) ?_
          refine zsub (pc := 89) hx hb dX7_localMinutes_89 ?_
          refine zmax (pc := 90) hx hb (hml.trans hl.1.symm) hown hG wl_X7_49 w1_zmx wi_javalangMath w2_zmx (Nat.le_of_ble_eq_true rfl) (Nat.le_of_ble_eq_true rfl) (Nat.zero_le _) (Nat.zero_le _) ⟨by omega, by omega⟩ dX7_localMinutes_90 ?_
          refine zadd (pc := 93) hx hb dX7_localMinutes_93 ?_
          refine ztop (fun x94 ex94 => ?_)
          refine lv_istore (pc := 94) (lv' := [(5, .int (iI x94)), (8, .int (iI x80)), (7, .int (iI x63)), (6, .int (iI dd)), (4, .int (iI x24)), (3, .int (iI x11)), (0, .ref wo), (1, .int (iI fr)), (2, .int (iI to))]) hx hb dX7_localMinutes_94 hl (by decide) rfl (fun ls hl => ?_)
          refine ziinc (pc := 96) (lv' := [(6, .int (iI (dd + 1))), (5, .int (iI x94)), (8, .int (iI x80)), (7, .int (iI x63)), (4, .int (iI x24)), (3, .int (iI x11)), (0, .ref wo), (1, .int (iI fr)), (2, .int (iI to))]) hx hb 3 dX7_localMinutes_96 hl rfl (by decide) rfl (fun ls hl => ?_)
          obtain ⟨x96, ex96⟩ : ∃ zz : Int, zz = (dd + 1) := ⟨_, rfl⟩
          rw [← ex96] at hl
          refine lv_goto (pc := 99) (tgt := 32) hx hb dX7_localMinutes_99 (by decide) ?_
          have hst := ls_step (fm := X wo 3) (lm := X wo 4) (wk := wkF (X wo 2) Gd) (fr := fr) (to := to) (dd := dd) h1.1.2 (by omega) (by omega) (by omega) h3
          rw [← hs] at hst
          have hrg := cP_rng (p := lsB (X wo 3) (X wo 4) (wkF (X wo 2) Gd)) (b := bdD fr to (dd + 1)) fr
          have hbd : fr ≤ bdD fr to (dd + 1) ∧ bdD fr to (dd + 1) ≤ to := by unfold bdD; omega
          rw [q45] at hst
          first | (rw [if_pos rfl] at hst) | (rw [if_neg (by simp)] at hst)
          exact ih32 x96 x94 _ _ (by (first | assumption | omega)) (by rw [ex96, hst]; omega) (by omega) (by omega) hw _ (lv_sub hl [0, 1, 4, 5, 6, 7, 8] rfl)
  exact lp32 _ x11 0 _ _ (by (first | assumption | omega)) (by rw [ls_start h1.1.2 ex11]) (by omega) (Nat.lt_succ_self _) hw _ (lv_sub hl [0, 1, 2, 3, 4, 5, 6] rfl)
set_option maxHeartbeats 4000000 in
set_option maxRecDepth 100000 in
theorem c_X7_minutesWithin (l : Launch) (Γ : zG) (K : zK) (X : zX) (Rf : zR) (wo : Nat) (fr : Int) (to : Int) (fa : Nat) (fn : Nat) (p0 : Nat) (be : Nat) (sa : Nat) (sv : Int → Int) (Gd : Int → Int) (hk : K wo = (1, 6)) (hw2 : 1 ≤ X wo 2 ∧ X wo 2 ≤ 127) (hr7 : Rf wo 7 = some fa) (hkfa : K fa = (1, 0)) (hr0 : Rf fa 0 = some fn) (hkfn : K fn = (2, 1701)) (hb0 : (-100000 ≤ X fa 1 ∧ X fa 1 ≤ 200000) ∧ -100000 ≤ X fa 2 ∧ X fa 2 ≤ 200000) (hvr : fvr X fn) (hr1 : Rf wo 1 = some p0) (hkp0 : K p0 = (1, 3)) (hr4 : Rf p0 4 = some be) (hr5 : Rf p0 5 = some sa) (hkbe : K be = (2, 1201)) (hksa : K sa = (2, 1201)) (hp : prep (X be) (X sa) (X p0 6) sv) (hbase : -840 ≤ X p0 0 ∧ X p0 0 ≤ 840) (h3 : (0 ≤ X wo 3 ∧ X wo 3 < X wo 4) ∧ X wo 4 ≤ 1440) (h1 : (0 ≤ fr ∧ fr ≤ to) ∧ to ≤ 105190560) (hF : ∀ d : Int, 0 ≤ d → d ≤ 73048 → (fr + X p0 0) / 1440 ≤ d → d ≤ (to + X p0 0 + 180) / 1440 → rdv X fa fn 1701 d = Gd d) : Ct l yX7_minutesWithin cX7_minutesWithin 9 (some .int) 4 0 0 Γ [.ref wo, .int (iI fr), .int (iI to)] K X Rf (pI (zp0 K X Rf (fun r : Int => r = cP (wkM sv (X p0 0) (X wo 3) (X wo 4) (wkF (X wo 2) Gd)) (to - fr).toNat fr))) := by
  refine Ct.of (by decide +kernel) (Nat.le_of_ble_eq_true rfl) ?_
  intro p e s m below meth c ls hx hb hr hml hown hG hlocks hname hw hl
  have hl : lv_has ls 9 [(0, .ref wo), (1, .int (iI fr)), (2, .int (iI to))] := hl
  have hpc := hp.1
  refine lv_aload_n (pc := 0) hx hb dX7_minutesWithin_0 rfl (lv_at hl 0 rfl) ?_
  refine zgetR (pc := 1) hx hb hG hown hw hk (T := TX7) rfl 1 (by decide) rfl wf_X7_20 rfl hr1 dX7_minutesWithin_1 ?_
  refine lv_iload_n (pc := 4) hx hb dX7_minutesWithin_4 rfl (lv_at hl 2 rfl) ?_
  refine zi2l (pc := 5) hx hb (by omega) dX7_minutesWithin_5 ?_
  refine zkIp (pc := 6) (zrV (As := [.long (lJ to)]) hx hb hml hown hG hw (c_X4_pieceWith l Γ K X Rf p0 to be sa sv (by exact hkp0) (by (first | assumption | omega)) (by (first | assumption | omega)) (by (first | assumption | omega)) (by (first | assumption | omega)) (by (first | assumption | omega)) (by (first | assumption | omega)) (by (first | assumption | omega))) (T := TX4) hkp0 rfl cb_X4_pieceWith wl_X7_138 rfl ⟨Nat.le_of_ble_eq_true rfl, Nat.le_of_ble_eq_true rfl⟩ hl.1 rfl (Nat.le_of_ble_eq_true rfl) dX7_minutesWithin_6 ⟨Nat.zero_le _, Nat.zero_le _⟩) hw (fun r6 H locs hp6 hw => ?_)
  have hp6f0 := hp6
  have hpw := hp6.1
  refine lv_istore_n (pc := 9) (lv' := [(3, .int (iI r6)), (0, .ref wo), (1, .int (iI fr)), (2, .int (iI to))]) hx hb dX7_minutesWithin_9 rfl hl (by decide) rfl (fun ls hl => ?_)
  refine ziconst (pc := 10) (n := 0) hx hb dX7_minutesWithin_10 ?_
  refine lv_istore (pc := 11) (lv' := [(4, .int (iI 0)), (3, .int (iI r6)), (0, .ref wo), (1, .int (iI fr)), (2, .int (iI to))]) hx hb dX7_minutesWithin_11 hl (by decide) rfl (fun ls hl => ?_)
  refine lv_aload_n (pc := 13) hx hb dX7_minutesWithin_13 rfl (lv_at hl 2 rfl) ?_
  refine zgetR (pc := 14) hx hb hG hown hw hk (T := TX7) rfl 1 (by decide) rfl wf_X7_20 rfl hr1 dX7_minutesWithin_14 ?_
  refine lv_iload_n (pc := 17) hx hb dX7_minutesWithin_17 rfl (lv_at hl 3 rfl) ?_
  refine zi2l (pc := 18) hx hb (by omega) dX7_minutesWithin_18 ?_
  refine zkIp (pc := 19) (zrV (As := [.long (lJ fr)]) hx hb hml hown hG hw (c_X4_pieceWith l Γ K X Rf p0 fr be sa sv (by exact hkp0) (by (first | assumption | omega)) (by (first | assumption | omega)) (by (first | assumption | omega)) (by (first | assumption | omega)) (by (first | assumption | omega)) (by (first | assumption | omega)) (by (first | assumption | omega))) (T := TX4) hkp0 rfl cb_X4_pieceWith wl_X7_138 rfl ⟨Nat.le_of_ble_eq_true rfl, Nat.le_of_ble_eq_true rfl⟩ hl.1 rfl (Nat.le_of_ble_eq_true rfl) dX7_minutesWithin_19 ⟨Nat.zero_le _, Nat.zero_le _⟩) hw (fun r19 H locs hp19 hw => ?_)
  have hp19f0 := hp19
  have hpw2 := hp19.1
  refine lv_istore (pc := 22) (lv' := [(5, .int (iI r19)), (4, .int (iI 0)), (3, .int (iI r6)), (0, .ref wo), (1, .int (iI fr)), (2, .int (iI to))]) hx hb dX7_minutesWithin_22 hl (by decide) rfl (fun ls hl => ?_)
  have lp24 : ∀ (n24 : Nat) (pi : Int) (sm : Int) (H : Heap) (locs : List Loc), (hi : r19 ≤ pi ∧ pi ≤ r6 + 1) → (hs : sm = cP (wkM sv (X p0 0) (X wo 3) (X wo 4) (wkF (X wo 2) Gd)) (bdP (X be) (X p0 6) fr to pi - fr).toNat fr) → (hs2 : 0 ≤ sm ∧ sm ≤ 105190560) → ((r6 + 1 - pi).toNat < n24) → Wd Γ (zA K s.heap.size) K X Rf s H locs → ∀ ls : Array Slot, lv_has ls 9 [(5, .int (iI pi)), (4, .int (iI sm)), (3, .int (iI r6)), (0, .ref wo), (1, .int (iI fr)), (2, .int (iI to))] → W p l e (rmL 4 0 0) s m ([.ref wo, .int (iI fr), .int (iI to)] : List Value).toArray below meth c H locs 0 0 (MQ below (zQ Γ K s.heap.size (pI (zp0 K X Rf (fun r : Int => r = cP (wkM sv (X p0 0) (X wo 3) (X wo 4) (wkF (X wo 2) Gd)) (to - fr).toNat fr)))) ([.ref wo, .int (iI fr), .int (iI to)] : List Value).toArray s 0 0 (zA K s.heap.size)) (F0 m 24 ls []) := by
    intro n24
    induction n24 with
    | zero => intro pi sm H locs hi hs hs2 hm24; exact absurd hm24 (Nat.not_lt_zero _)
    | succ n24 ih24 =>
      intro pi sm H locs hi hs hs2 hm24 hw ls hl
      refine lv_iload (pc := 24) hx hb dX7_minutesWithin_24 (lv_at hl 0 rfl) ?_
      refine lv_iload_n (pc := 26) hx hb dX7_minutesWithin_26 rfl (lv_at hl 2 rfl) ?_
      refine zicmp_gt (pc := 27) hx hb 98 (by omega) (by omega) dX7_minutesWithin_27 (by decide) (fun c27 => ?_) (fun c27 => ?_)
      · skip
        refine lv_iload (pc := 98) hx hb dX7_minutesWithin_98 (lv_at hl 1 rfl) ?_
        exact zretI (pc := 100) hx hb hlocks hr hw (Nat.zero_le _) (Nat.zero_le _) dX7_minutesWithin_100 ⟨by (try dsimp only) <;> (rw [hs, mw_end hp h1.1.2 h1.2 hp6 (by omega)]), rfl, rfl, rfl⟩
      · skip
        refine lv_aload_n (pc := 30) hx hb dX7_minutesWithin_30 rfl (lv_at hl 3 rfl) ?_
        refine zgetR (pc := 31) hx hb hG hown hw hk (T := TX7) rfl 1 (by decide) rfl wf_X7_20 rfl hr1 dX7_minutesWithin_31 ?_
        refine lv_iload (pc := 34) hx hb dX7_minutesWithin_34 (lv_at hl 0 rfl) ?_
        refine zkIp (pc := 36) (zrV (As := [.int (iI pi)]) hx hb hml hown hG hw (c_X4_pieceShift l Γ K X Rf p0 pi be sa sv (by exact hkp0) (by (first | assumption | omega)) (by (first | assumption | omega)) (by (first | assumption | omega)) (by (first | assumption | omega)) (by (first | assumption | omega)) (by (first | assumption | omega)) (by (first | assumption | omega))) (T := TX4) hkp0 rfl cb_X4_pieceShift wl_X7_142 rfl ⟨Nat.le_of_ble_eq_true rfl, Nat.le_of_ble_eq_true rfl⟩ hl.1 rfl (Nat.le_of_ble_eq_true rfl) dX7_minutesWithin_36 ⟨Nat.zero_le _, Nat.zero_le _⟩) hw (fun r36 H locs hp36 hw => ?_)
        subst hp36
        have hp36f0 := psv_rng (by assumption : prep (X be) (X sa) (X p0 6) sv) pi
        refine ztop (fun x39 ex39 => ?_)
        refine lv_istore (pc := 39) (lv' := [(6, .int (iI x39)), (5, .int (iI pi)), (4, .int (iI sm)), (3, .int (iI r6)), (0, .ref wo), (1, .int (iI fr)), (2, .int (iI to))]) hx hb dX7_minutesWithin_39 hl (by decide) rfl (fun ls hl => ?_)
        refine lv_iload_n (pc := 41) hx hb dX7_minutesWithin_41 rfl (lv_at hl 5 rfl) ?_
        refine lv_aload_n (pc := 42) hx hb dX7_minutesWithin_42 rfl (lv_at hl 4 rfl) ?_
        refine zgetR (pc := 43) hx hb hG hown hw hk (T := TX7) rfl 1 (by decide) rfl wf_X7_20 rfl hr1 dX7_minutesWithin_43 ?_
        refine lv_iload (pc := 46) hx hb dX7_minutesWithin_46 (lv_at hl 1 rfl) ?_
        have hmi := mw_in hp h1.1.1 h1.1.2 h1.2 hp19 hp6 hi.1 (by omega)
        refine zkIp (pc := 48) (zrV (As := [.int (iI pi)]) hx hb hml hown hG hw (c_X4_pieceBegin l Γ K X Rf p0 pi be sa sv (by exact hkp0) (by (first | assumption | omega)) (by (first | assumption | omega)) (by (first | assumption | omega)) (by (first | assumption | omega)) (by (first | assumption | omega)) (by (first | assumption | omega)) (by (first | assumption | omega))) (T := TX4) hkp0 rfl cb_X4_pieceBegin wl_X7_145 rfl ⟨Nat.le_of_ble_eq_true rfl, Nat.le_of_ble_eq_true rfl⟩ hl.1 rfl (Nat.le_of_ble_eq_true rfl) dX7_minutesWithin_48 ⟨Nat.zero_le _, Nat.zero_le _⟩) hw (fun r48 H locs hp48 hw => ?_)
        subst hp48
        have hp48f0 := pbg_rng (by assumption : prep (X be) (X sa) (X p0 6) sv) pi
        refine zmax (pc := 51) hx hb (hml.trans hl.1.symm) hown hG wl_X7_49 w1_zmx wi_javalangMath w2_zmx (Nat.le_of_ble_eq_true rfl) (Nat.le_of_ble_eq_true rfl) (Nat.zero_le _) (Nat.zero_le _) ⟨by omega, by omega⟩ dX7_minutesWithin_51 ?_
        refine ztop (fun x54 ex54 => ?_)
        refine lv_istore (pc := 54) (lv' := [(7, .int (iI x54)), (6, .int (iI x39)), (5, .int (iI pi)), (4, .int (iI sm)), (3, .int (iI r6)), (0, .ref wo), (1, .int (iI fr)), (2, .int (iI to))]) hx hb dX7_minutesWithin_54 hl (by decide) rfl (fun ls hl => ?_)
        refine lv_iload_n (pc := 56) hx hb dX7_minutesWithin_56 rfl (lv_at hl 7 rfl) ?_
        refine lv_aload_n (pc := 57) hx hb dX7_minutesWithin_57 rfl (lv_at hl 5 rfl) ?_
        refine zgetR (pc := 58) hx hb hG hown hw hk (T := TX7) rfl 1 (by decide) rfl wf_X7_20 rfl hr1 dX7_minutesWithin_58 ?_
        refine lv_iload (pc := 61) hx hb dX7_minutesWithin_61 (lv_at hl 2 rfl) ?_
        refine ziconst (pc := 63) (n := 1) hx hb dX7_minutesWithin_63 ?_
        refine zadd (pc := 64) hx hb dX7_minutesWithin_64 ?_
        refine zkIp (pc := 65) (zrV (As := [.int (iI (pi + 1))]) hx hb hml hown hG hw (c_X4_pieceBegin l Γ K X Rf p0 (pi + 1) be sa sv (by exact hkp0) (by (first | assumption | omega)) (by (first | assumption | omega)) (by (first | assumption | omega)) (by (first | assumption | omega)) (by (first | assumption | omega)) (by (first | assumption | omega)) (by (first | assumption | omega))) (T := TX4) hkp0 rfl cb_X4_pieceBegin wl_X7_145 rfl ⟨Nat.le_of_ble_eq_true rfl, Nat.le_of_ble_eq_true rfl⟩ hl.1 rfl (Nat.le_of_ble_eq_true rfl) dX7_minutesWithin_65 ⟨Nat.zero_le _, Nat.zero_le _⟩) hw (fun r65 H locs hp65 hw => ?_)
        subst hp65
        have hp65f0 := pbg_rng (by assumption : prep (X be) (X sa) (X p0 6) sv) (pi + 1)
        refine zmin (pc := 68) hx hb (hml.trans hl.1.symm) hown hG wl_X7_56 w1_zmn wi_javalangMath w2_zmn (Nat.le_of_ble_eq_true rfl) (Nat.le_of_ble_eq_true rfl) (Nat.zero_le _) (Nat.zero_le _) ⟨by omega, by omega⟩ dX7_minutesWithin_68 ?_
        refine ztop (fun x71 ex71 => ?_)
        refine lv_istore (pc := 71) (lv' := [(8, .int (iI x71)), (7, .int (iI x54)), (6, .int (iI x39)), (5, .int (iI pi)), (4, .int (iI sm)), (3, .int (iI r6)), (0, .ref wo), (1, .int (iI fr)), (2, .int (iI to))]) hx hb dX7_minutesWithin_71 hl (by decide) rfl (fun ls hl => ?_)
        refine lv_iload (pc := 73) hx hb dX7_minutesWithin_73 (lv_at hl 4 rfl) ?_
        refine lv_aload_n (pc := 75) hx hb dX7_minutesWithin_75 rfl (lv_at hl 6 rfl) ?_
        refine lv_iload (pc := 76) hx hb dX7_minutesWithin_76 (lv_at hl 1 rfl) ?_
        refine lv_iload (pc := 78) hx hb dX7_minutesWithin_78 (lv_at hl 2 rfl) ?_
        refine zadd (pc := 80) hx hb dX7_minutesWithin_80 ?_
        refine lv_iload (pc := 81) hx hb dX7_minutesWithin_81 (lv_at hl 0 rfl) ?_
        refine lv_iload (pc := 83) hx hb dX7_minutesWithin_83 (lv_at hl 2 rfl) ?_
        refine zadd (pc := 85) hx hb dX7_minutesWithin_85 ?_
        have hps := psv_rng hp pi
        have hpb := pbg_rng hp pi
        have hpb2 := pbg_rng hp (pi + 1)
        refine zkIp (pc := 86) (zrV (As := [.int (iI (x54 + x39)), .int (iI (x71 + x39))]) hx hb hml hown hG hw (c_X7_localMinutes l Γ K X Rf wo (x54 + x39) (x71 + x39) fa fn Gd (by (first | assumption | omega)) (by (first | assumption | omega)) (by (first | assumption | omega)) (by (first | assumption | omega)) (by (first | assumption | omega)) (by (first | assumption | omega)) (by (first | assumption | omega)) (by (first | assumption | omega)) (by (first | assumption | omega)) (by (first | assumption | omega)) (by intro d g1 g2 g3 g4; exact hF d g1 g2 (by omega) (by omega))) (T := TX7) hk rfl cb_X7_localMinutes wl_X7_148 rfl ⟨Nat.le_of_ble_eq_true rfl, Nat.le_of_ble_eq_true rfl⟩ hl.1 rfl (Nat.le_of_ble_eq_true rfl) dX7_minutesWithin_86 ⟨Nat.zero_le _, Nat.zero_le _⟩) hw (fun r86 H locs hp86 hw => ?_)
        subst hp86
        have hp86f0 := cP_rng (p := lsB (X wo 3) (X wo 4) (wkF (X wo 2) Gd)) (b := (x71 + x39)) (x54 + x39)
        refine zadd (pc := 89) hx hb dX7_minutesWithin_89 ?_
        refine ztop (fun x90 ex90 => ?_)
        refine lv_istore (pc := 90) (lv' := [(4, .int (iI x90)), (8, .int (iI x71)), (7, .int (iI x54)), (6, .int (iI x39)), (5, .int (iI pi)), (3, .int (iI r6)), (0, .ref wo), (1, .int (iI fr)), (2, .int (iI to))]) hx hb dX7_minutesWithin_90 hl (by decide) rfl (fun ls hl => ?_)
        refine ziinc (pc := 92) (lv' := [(5, .int (iI (pi + 1))), (4, .int (iI x90)), (8, .int (iI x71)), (7, .int (iI x54)), (6, .int (iI x39)), (3, .int (iI r6)), (0, .ref wo), (1, .int (iI fr)), (2, .int (iI to))]) hx hb 4 dX7_minutesWithin_92 hl rfl (by decide) rfl (fun ls hl => ?_)
        obtain ⟨x92, ex92⟩ : ∃ zz : Int, zz = (pi + 1) := ⟨_, rfl⟩
        rw [← ex92] at hl
        refine lv_goto (pc := 95) (tgt := 24) hx hb dX7_minutesWithin_95 (by decide) ?_
        have hst := mw_step (base := X p0 0) (fm := X wo 3) (lm := X wo 4) (wk := wkF (X wo 2) Gd) hp h1.1.1 h1.1.2 h1.2 (i := pi) (a := x54) (b := x71) (k := x39) (by omega) hmi.1 hmi.2.1 ex54 ex71 (by omega) ex39
        have hrg := cP_rng (p := wkM sv (X p0 0) (X wo 3) (X wo 4) (wkF (X wo 2) Gd)) (b := bdP (X be) (X p0 6) fr to (pi + 1)) fr
        have hbd : fr ≤ bdP (X be) (X p0 6) fr to (pi + 1) ∧ bdP (X be) (X p0 6) fr to (pi + 1) ≤ to := by unfold bdP; omega
        exact ih24 x92 x90 _ _ (by (first | assumption | omega)) (by rw [ex92, hst, ex90, hs]) (by omega) (by omega) hw _ (lv_sub hl [0, 1, 5, 6, 7, 8] rfl)
  exact lp24 _ r19 0 _ _ (by have := pw_le hp hp19 hp6 (by omega); omega) (by rw [mw_start hp h1.1.1 hp19]) (by omega) (Nat.lt_succ_self _) hw _ (lv_sub hl [0, 1, 2, 3, 4, 5] rfl)
set_option maxHeartbeats 4000000 in
set_option maxRecDepth 100000 in
theorem c_X7_finish (l : Launch) (Γ : zG) (K : zK) (X : zX) (Rf : zR) (wo : Nat) (fr : Int) (wanted : Int) (latest : Int) (fa : Nat) (fn : Nat) (p0 : Nat) (be : Nat) (sa : Nat) (sv : Int → Int) (Gd : Int → Int) (hk : K wo = (1, 6)) (hw2 : 1 ≤ X wo 2 ∧ X wo 2 ≤ 127) (hr7 : Rf wo 7 = some fa) (hkfa : K fa = (1, 0)) (hr0 : Rf fa 0 = some fn) (hkfn : K fn = (2, 1701)) (hb0 : (-100000 ≤ X fa 1 ∧ X fa 1 ≤ 200000) ∧ -100000 ≤ X fa 2 ∧ X fa 2 ≤ 200000) (hvr : fvr X fn) (hr1 : Rf wo 1 = some p0) (hkp0 : K p0 = (1, 3)) (hr4 : Rf p0 4 = some be) (hr5 : Rf p0 5 = some sa) (hkbe : K be = (2, 1201)) (hksa : K sa = (2, 1201)) (hp : prep (X be) (X sa) (X p0 6) sv) (hbase : -840 ≤ X p0 0 ∧ X p0 0 ≤ 840) (h3 : (0 ≤ X wo 3 ∧ X wo 3 < X wo 4) ∧ X wo 4 ≤ 1440) (h1 : ((0 ≤ fr ∧ fr ≤ latest) ∧ latest ≤ 105190559) ∧ latest ≤ fr + 50000) (h2 : 1 ≤ wanted ∧ wanted ≤ 100000) (hF : ∀ d : Int, 0 ≤ d → d ≤ 73048 → (fr + X p0 0) / 1440 ≤ d → d ≤ (latest + X p0 0 + 180) / 1440 → rdv X fa fn 1701 d = Gd d) : Ct l yX7_finish cX7_finish 8 (some .int) 5 0 0 Γ [.ref wo, .int (iI fr), .int (iI wanted), .int (iI latest)] K X Rf (pI (zp0 K X Rf (fun r : Int => r = dnF (wkM sv (X p0 0) (X wo 3) (X wo 4) (wkF (X wo 2) Gd)) fr wanted latest))) := by
  refine Ct.of (by decide +kernel) (Nat.le_of_ble_eq_true rfl) ?_
  intro p e s m below meth c ls hx hb hr hml hown hG hlocks hname hw hl
  have hl : lv_has ls 8 [(0, .ref wo), (1, .int (iI fr)), (2, .int (iI wanted)), (3, .int (iI latest))] := hl
  refine lv_aload_n (pc := 0) hx hb dX7_finish_0 rfl (lv_at hl 0 rfl) ?_
  refine lv_iload_n (pc := 1) hx hb dX7_finish_1 rfl (lv_at hl 1 rfl) ?_
  refine lv_iload_n (pc := 2) hx hb dX7_finish_2 rfl (lv_at hl 3 rfl) ?_
  refine zkIp (pc := 3) (zrV (As := [.int (iI fr), .int (iI latest)]) hx hb hml hown hG hw (c_X7_minutesWithin l Γ K X Rf wo fr latest fa fn p0 be sa sv Gd (by (first | assumption | omega)) (by (first | assumption | omega)) (by (first | assumption | omega)) (by (first | assumption | omega)) (by (first | assumption | omega)) (by (first | assumption | omega)) (by (first | assumption | omega)) (by (first | assumption | omega)) (by (first | assumption | omega)) (by (first | assumption | omega)) (by (first | assumption | omega)) (by (first | assumption | omega)) (by (first | assumption | omega)) (by (first | assumption | omega)) (by (first | assumption | omega)) (by (first | assumption | omega)) (by (first | assumption | omega)) (by (first | assumption | omega)) (by (first | assumption | omega))) (T := TX7) hk rfl cb_X7_minutesWithin wl_X7_151 rfl ⟨Nat.le_of_ble_eq_true rfl, Nat.le_of_ble_eq_true rfl⟩ hl.1 rfl (Nat.le_of_ble_eq_true rfl) dX7_finish_3 ⟨Nat.zero_le _, Nat.zero_le _⟩) hw (fun r3 H locs hp3 hw => ?_)
  subst hp3
  have hp3f0 := cP_rng (p := wkM sv (X p0 0) (X wo 3) (X wo 4) (wkF (X wo 2) Gd)) (b := latest) fr
  refine lv_iload_n (pc := 6) hx hb dX7_finish_6 rfl (lv_at hl 2 rfl) ?_
  have hz : fr = latest → cP (wkM sv (X p0 0) (X wo 3) (X wo 4) (wkF (X wo 2) Gd)) (latest - fr).toNat fr = 0 := fun q => by rw [q]; exact cP_e (Int.le_refl _)
  have hcr := cP_rng (p := wkM sv (X p0 0) (X wo 3) (X wo 4) (wkF (X wo 2) Gd)) (b := latest) fr
  refine zicmp_ge (pc := 7) hx hb 12 (by omega) (by omega) dX7_finish_7 (by decide) (fun c7 => ?_) (fun c7 => ?_)
  · skip
    refine lv_iload_n (pc := 12) hx hb dX7_finish_12 rfl (lv_at hl 1 rfl) ?_
    refine ziconst (pc := 13) (n := 1) hx hb dX7_finish_13 ?_
    refine zadd (pc := 14) hx hb dX7_finish_14 ?_
    refine ztop (fun x15 ex15 => ?_)
    refine lv_istore (pc := 15) (lv' := [(4, .int (iI x15)), (0, .ref wo), (1, .int (iI fr)), (2, .int (iI wanted)), (3, .int (iI latest))]) hx hb dX7_finish_15 hl (by decide) rfl (fun ls hl => ?_)
    refine lv_iload_n (pc := 17) hx hb dX7_finish_17 rfl (lv_at hl 4 rfl) ?_
    refine lv_istore (pc := 18) (lv' := [(5, .int (iI latest)), (4, .int (iI x15)), (0, .ref wo), (1, .int (iI fr)), (2, .int (iI wanted)), (3, .int (iI latest))]) hx hb dX7_finish_18 hl (by decide) rfl (fun ls hl => ?_)
    refine ziconst (pc := 20) (n := 0) hx hb dX7_finish_20 ?_
    refine lv_istore (pc := 21) (lv' := [(6, .int (iI 0)), (5, .int (iI latest)), (4, .int (iI x15)), (0, .ref wo), (1, .int (iI fr)), (2, .int (iI wanted)), (3, .int (iI latest))]) hx hb dX7_finish_21 hl (by decide) rfl (fun ls hl => ?_)
    have lp23 : ∀ (n23 : Nat) (it : Int) (hg : Int) (lw : Int) (H : Heap) (locs : List Loc), (h5 : 0 ≤ it ∧ it ≤ 32) → (h6 : fr + 1 ≤ lw ∧ lw ≤ hg ∧ hg ≤ latest) → (h7 : wanted ≤ cP (wkM sv (X p0 0) (X wo 3) (X wo 4) (wkF (X wo 2) Gd)) (hg - fr).toNat fr) → (h8 : ∀ m : Int, fr + 1 ≤ m → m < lw → cP (wkM sv (X p0 0) (X wo 3) (X wo 4) (wkF (X wo 2) Gd)) (m - fr).toNat fr < wanted) → (h9 : hg - lw ≤ hb9 it) → ((32 - it).toNat < n23) → Wd Γ (zA K s.heap.size) K X Rf s H locs → ∀ ls : Array Slot, lv_has ls 8 [(6, .int (iI it)), (5, .int (iI hg)), (4, .int (iI lw)), (0, .ref wo), (1, .int (iI fr)), (2, .int (iI wanted)), (3, .int (iI latest))] → W p l e (rmL 5 0 0) s m ([.ref wo, .int (iI fr), .int (iI wanted), .int (iI latest)] : List Value).toArray below meth c H locs 0 0 (MQ below (zQ Γ K s.heap.size (pI (zp0 K X Rf (fun r : Int => r = dnF (wkM sv (X p0 0) (X wo 3) (X wo 4) (wkF (X wo 2) Gd)) fr wanted latest)))) ([.ref wo, .int (iI fr), .int (iI wanted), .int (iI latest)] : List Value).toArray s 0 0 (zA K s.heap.size)) (F0 m 23 ls []) := by
      intro n23
      induction n23 with
      | zero => intro it hg lw H locs h5 h6 h7 h8 h9 hm23; exact absurd hm23 (Nat.not_lt_zero _)
      | succ n23 ih23 =>
        intro it hg lw H locs h5 h6 h7 h8 h9 hm23 hw ls hl
        refine lv_iload (pc := 23) hx hb dX7_finish_23 (lv_at hl 0 rfl) ?_
        refine zbipush (pc := 25) (n := 32) hx hb dX7_finish_25 rfl ?_
        refine zicmp_ge (pc := 27) hx hb 79 (by omega) (by omega) dX7_finish_27 (by decide) (fun c27 => ?_) (fun c27 => ?_)
        · skip
          refine lv_iload (pc := 79) hx hb dX7_finish_79 (lv_at hl 2 rfl) ?_
          exact zretI (pc := 81) hx hb hlocks hr hw (Nat.zero_le _) (Nat.zero_le _) dX7_finish_81 ⟨by (try dsimp only) <;> (
                                        have hee : lw = hg := by
                                          first
                                          | omega
                                          | (have e32 : it = 32 := by omega
                                             rw [e32, hb9_32] at h9; omega)
                                        subst hee
                                        exact (dnF_hit h6.1 h6.2.2 h7 h8).symm), rfl, rfl, rfl⟩
        · skip
          refine lv_iload (pc := 30) hx hb dX7_finish_30 (lv_at hl 2 rfl) ?_
          refine lv_iload (pc := 32) hx hb dX7_finish_32 (lv_at hl 1 rfl) ?_
          refine zicmp_ge (pc := 34) hx hb 79 (by omega) (by omega) dX7_finish_34 (by decide) (fun c34 => ?_) (fun c34 => ?_)
          · skip
            refine lv_iload (pc := 79) hx hb dX7_finish_79 (lv_at hl 2 rfl) ?_
            exact zretI (pc := 81) hx hb hlocks hr hw (Nat.zero_le _) (Nat.zero_le _) dX7_finish_81 ⟨by (try dsimp only) <;> (
                                        have hee : lw = hg := by
                                          first
                                          | omega
                                          | (have e32 : it = 32 := by omega
                                             rw [e32, hb9_32] at h9; omega)
                                        subst hee
                                        exact (dnF_hit h6.1 h6.2.2 h7 h8).symm), rfl, rfl, rfl⟩
          · skip
            refine lv_iload (pc := 37) hx hb dX7_finish_37 (lv_at hl 2 rfl) ?_
            refine lv_iload (pc := 39) hx hb dX7_finish_39 (lv_at hl 1 rfl) ?_
            refine lv_iload (pc := 41) hx hb dX7_finish_41 (lv_at hl 2 rfl) ?_
            refine zsub (pc := 43) hx hb dX7_finish_43 ?_
            refine ziconst (pc := 44) (n := 2) hx hb dX7_finish_44 ?_
            refine zdiv (pc := 45) hx hb (by omega) dX7_finish_45 ?_
            refine zadd (pc := 46) hx hb dX7_finish_46 ?_
            refine ztop (fun x47 ex47 => ?_)
            refine lv_istore (pc := 47) (lv' := [(7, .int (iI x47)), (6, .int (iI it)), (5, .int (iI hg)), (4, .int (iI lw)), (0, .ref wo), (1, .int (iI fr)), (2, .int (iI wanted)), (3, .int (iI latest))]) hx hb dX7_finish_47 hl (by decide) rfl (fun ls hl => ?_)
            refine lv_aload_n (pc := 49) hx hb dX7_finish_49 rfl (lv_at hl 4 rfl) ?_
            refine lv_iload_n (pc := 50) hx hb dX7_finish_50 rfl (lv_at hl 5 rfl) ?_
            refine lv_iload (pc := 51) hx hb dX7_finish_51 (lv_at hl 0 rfl) ?_
            refine zkIp (pc := 53) (zrV (As := [.int (iI fr), .int (iI x47)]) hx hb hml hown hG hw (c_X7_minutesWithin l Γ K X Rf wo fr x47 fa fn p0 be sa sv Gd (by (first | assumption | omega)) (by (first | assumption | omega)) (by (first | assumption | omega)) (by (first | assumption | omega)) (by (first | assumption | omega)) (by (first | assumption | omega)) (by (first | assumption | omega)) (by (first | assumption | omega)) (by (first | assumption | omega)) (by (first | assumption | omega)) (by (first | assumption | omega)) (by (first | assumption | omega)) (by (first | assumption | omega)) (by (first | assumption | omega)) (by (first | assumption | omega)) (by (first | assumption | omega)) (by (first | assumption | omega)) (by (first | assumption | omega)) (by intro d g1 g2 g3 g4; exact hF d g1 g2 g3 (by omega))) (T := TX7) hk rfl cb_X7_minutesWithin wl_X7_151 rfl ⟨Nat.le_of_ble_eq_true rfl, Nat.le_of_ble_eq_true rfl⟩ hl.1 rfl (Nat.le_of_ble_eq_true rfl) dX7_finish_53 ⟨Nat.zero_le _, Nat.zero_le _⟩) hw (fun r53 H locs hp53 hw => ?_)
            subst hp53
            have hp53f0 := cP_rng (p := wkM sv (X p0 0) (X wo 3) (X wo 4) (wkF (X wo 2) Gd)) (b := x47) fr
            have hcm := cP_rng (p := wkM sv (X p0 0) (X wo 3) (X wo 4) (wkF (X wo 2) Gd)) (b := x47) fr
            refine lv_iload_n (pc := 56) hx hb dX7_finish_56 rfl (lv_at hl 6 rfl) ?_
            refine zicmp_lt (pc := 57) hx hb 67 (by omega) (by omega) dX7_finish_57 (by decide) (fun c57 => ?_) (fun c57 => ?_)
            · skip
              refine lv_iload (pc := 67) hx hb dX7_finish_67 (lv_at hl 0 rfl) ?_
              refine ziconst (pc := 69) (n := 1) hx hb dX7_finish_69 ?_
              refine zadd (pc := 70) hx hb dX7_finish_70 ?_
              refine ztop (fun x71 ex71 => ?_)
              refine lv_istore (pc := 71) (lv' := [(4, .int (iI x71)), (7, .int (iI x47)), (6, .int (iI it)), (5, .int (iI hg)), (0, .ref wo), (1, .int (iI fr)), (2, .int (iI wanted)), (3, .int (iI latest))]) hx hb dX7_finish_71 hl (by decide) rfl (fun ls hl => ?_)
              refine ziinc (pc := 73) (lv' := [(6, .int (iI (it + 1))), (4, .int (iI x71)), (7, .int (iI x47)), (5, .int (iI hg)), (0, .ref wo), (1, .int (iI fr)), (2, .int (iI wanted)), (3, .int (iI latest))]) hx hb 2 dX7_finish_73 hl rfl (by decide) rfl (fun ls hl => ?_)
              obtain ⟨x73, ex73⟩ : ∃ zz : Int, zz = (it + 1) := ⟨_, rfl⟩
              rw [← ex73] at hl
              refine lv_goto (pc := 76) (tgt := 23) hx hb dX7_finish_76 (by decide) ?_
              exact ih23 x73 hg x71 _ _ (by (first | assumption | omega)) (by (first | assumption | omega)) (by first | exact h7 | omega) (by first | exact h8 | (intro m g1 g2; have := cP_mono (p := wkM sv (X p0 0) (X wo 3) (X wo 4) (wkF (X wo 2) Gd)) (a := fr) (b := m) (c := x47) (by omega) (by omega); omega)) (by rw [ex73, hb9_s h5.1]; omega) (by omega) hw _ (lv_sub hl [0, 3, 1, 4, 5, 6, 7] rfl)
            · skip
              refine lv_iload (pc := 60) hx hb dX7_finish_60 (lv_at hl 0 rfl) ?_
              refine lv_istore (pc := 62) (lv' := [(5, .int (iI x47)), (7, .int (iI x47)), (6, .int (iI it)), (4, .int (iI lw)), (0, .ref wo), (1, .int (iI fr)), (2, .int (iI wanted)), (3, .int (iI latest))]) hx hb dX7_finish_62 hl (by decide) rfl (fun ls hl => ?_)
              refine lv_goto (pc := 64) (tgt := 73) hx hb dX7_finish_64 (by decide) ?_
              refine ziinc (pc := 73) (lv' := [(6, .int (iI (it + 1))), (5, .int (iI x47)), (7, .int (iI x47)), (4, .int (iI lw)), (0, .ref wo), (1, .int (iI fr)), (2, .int (iI wanted)), (3, .int (iI latest))]) hx hb 2 dX7_finish_73 hl rfl (by decide) rfl (fun ls hl => ?_)
              obtain ⟨x73, ex73⟩ : ∃ zz : Int, zz = (it + 1) := ⟨_, rfl⟩
              rw [← ex73] at hl
              refine lv_goto (pc := 76) (tgt := 23) hx hb dX7_finish_76 (by decide) ?_
              exact ih23 x73 x47 lw _ _ (by (first | assumption | omega)) (by (first | assumption | omega)) (by first | exact h7 | omega) (by first | exact h8 | (intro m g1 g2; have := cP_mono (p := wkM sv (X p0 0) (X wo 3) (X wo 4) (wkF (X wo 2) Gd)) (a := fr) (b := m) (c := x47) (by omega) (by omega); omega)) (by rw [ex73, hb9_s h5.1]; omega) (by omega) hw _ (lv_sub hl [0, 1, 3, 4, 5, 6, 7] rfl)
    exact lp23 _ 0 latest x15 _ _ (by (first | assumption | omega)) (by have := hz; omega) (by omega) (by intro m g1 g2; omega) (by rw [hb9_0]; omega) (Nat.lt_succ_self _) hw _ (lv_sub hl [0, 1, 2, 3, 4, 5, 6] rfl)
  · skip
    refine ziconst (pc := 10) (n := (-1)) hx hb dX7_finish_10 ?_
    exact zretI (pc := 11) hx hb hlocks hr hw (Nat.zero_le _) (Nat.zero_le _) dX7_finish_11 ⟨by (try dsimp only) <;> (rw [dnF_none (by omega) (by omega)]), rfl, rfl, rfl⟩
set_option maxHeartbeats 4000000 in
set_option maxRecDepth 100000 in
theorem c_X7_findFeastsWithin (l : Launch) (Γ : zG) (K : zK) (X : zX) (Rf : zR) (wo : Nat) (fr : Int) (to : Int) (fa : Nat) (fn : Nat) (fe : Nat) (F : Nat → Nat → Int) (Fp : Nat → Nat → Int) (n : Nat) (p0 : Nat) (hk : K wo = (1, 6)) (hw2 : 1 ≤ X wo 2 ∧ X wo 2 ≤ 127) (hr7 : Rf wo 7 = some fa) (hkfa : K fa = (1, 0)) (hr0 : Rf fa 0 = some fn) (hkfn : K fn = (2, 1701)) (hr5 : Rf wo 5 = some fe) (hkfe : K fe = (10, 20)) (hfs : fstOK K X Rf fe n F Fp) (hn : X wo 6 = n ∧ n ≤ 20) (hvr : fvr X fn) (hr1 : Rf wo 1 = some p0) (hkp0 : K p0 = (1, 3)) (hbase : -840 ≤ X p0 0 ∧ X p0 0 ≤ 840) (h1 : ((0 ≤ fr ∧ fr ≤ to) ∧ to ≤ 105240560) ∧ to ≤ fr + 50000) : Ct l yX7_findFeastsWithin cX7_findFeastsWithin 5 none 5 0 0 Γ [.ref wo, .int (iI fr), .int (iI to)] K X Rf (pV (zpv K Rf (fun X' : zX => (∀ d : Int, 0 ≤ d → d ≤ 73048 → (fr + X p0 0) / 1440 ≤ d → d ≤ (to + X p0 0 + 180) / 1440 → rdv X' fa fn 1701 d = Fa (X wo 2) F Fp n d) ∧ (fvr X' fn ∧ ((-100000 ≤ X' fa 1 ∧ X' fa 1 ≤ 200000) ∧ -100000 ≤ X' fa 2 ∧ X' fa 2 ≤ 200000)) ∧ (∀ a, a ≠ fa → a ≠ fn → X' a = X a)))) := by
  refine Ct.of (by decide +kernel) (Nat.le_of_ble_eq_true rfl) ?_
  intro p e s m below meth c ls hx hb hr hml hown hG hlocks hname hw hl
  have hl : lv_has ls 5 [(0, .ref wo), (1, .int (iI fr)), (2, .int (iI to))] := hl
  refine lv_iload_n (pc := 0) hx hb dX7_findFeastsWithin_0 rfl (lv_at hl 1 rfl) ?_
  refine lv_aload_n (pc := 1) hx hb dX7_findFeastsWithin_1 rfl (lv_at hl 0 rfl) ?_
  refine zgetR (pc := 2) hx hb hG hown hw hk (T := TX7) rfl 1 (by decide) rfl wf_X7_20 rfl hr1 dX7_findFeastsWithin_2 ?_
  refine zgetI (pc := 5) hx hb hG hown hw hkp0 (T := TX4) rfl 0 (by decide) rfl wf_X7_132 rfl dX7_findFeastsWithin_5 ?_
  refine zadd (pc := 8) hx hb dX7_findFeastsWithin_8 ?_
  refine zsipush (pc := 9) (n := 1440) hx hb dX7_findFeastsWithin_9 rfl ?_
  refine zkIp (pc := 12) (zrS (As := [.int (iI (fr + (X p0 0))), .int (iI 1440)]) hx hb hml hown hG hw (c_J9_floorDiv_7cf53 l Γ K X Rf (fr + (X p0 0))  (by (first | assumption | omega))) cb_J9_floorDiv_7cf53 wl_X7_135 rfl ⟨Nat.le_of_ble_eq_true rfl, Nat.le_of_ble_eq_true rfl⟩ hl.1 rfl (Nat.le_of_ble_eq_true rfl) dX7_findFeastsWithin_12 ⟨Nat.zero_le _, Nat.zero_le _⟩) hw (fun r12 H locs hp12 hw => ?_)
  subst hp12
  refine ztop (fun x15 ex15 => ?_)
  refine lv_istore_n (pc := 15) (lv' := [(3, .int (iI x15)), (0, .ref wo), (1, .int (iI fr)), (2, .int (iI to))]) hx hb dX7_findFeastsWithin_15 rfl hl (by decide) rfl (fun ls hl => ?_)
  refine lv_iload_n (pc := 16) hx hb dX7_findFeastsWithin_16 rfl (lv_at hl 3 rfl) ?_
  refine lv_aload_n (pc := 17) hx hb dX7_findFeastsWithin_17 rfl (lv_at hl 1 rfl) ?_
  refine zgetR (pc := 18) hx hb hG hown hw hk (T := TX7) rfl 1 (by decide) rfl wf_X7_20 rfl hr1 dX7_findFeastsWithin_18 ?_
  refine zgetI (pc := 21) hx hb hG hown hw hkp0 (T := TX4) rfl 0 (by decide) rfl wf_X7_132 rfl dX7_findFeastsWithin_21 ?_
  refine zadd (pc := 24) hx hb dX7_findFeastsWithin_24 ?_
  refine zsipush (pc := 25) (n := 180) hx hb dX7_findFeastsWithin_25 rfl ?_
  refine zadd (pc := 28) hx hb dX7_findFeastsWithin_28 ?_
  refine zsipush (pc := 29) (n := 1440) hx hb dX7_findFeastsWithin_29 rfl ?_
  refine zkIp (pc := 32) (zrS (As := [.int (iI ((to + (X p0 0)) + 180)), .int (iI 1440)]) hx hb hml hown hG hw (c_J9_floorDiv_7cf53 l Γ K X Rf ((to + (X p0 0)) + 180)  (by (first | assumption | omega))) cb_J9_floorDiv_7cf53 wl_X7_135 rfl ⟨Nat.le_of_ble_eq_true rfl, Nat.le_of_ble_eq_true rfl⟩ hl.1 rfl (Nat.le_of_ble_eq_true rfl) dX7_findFeastsWithin_32 ⟨Nat.zero_le _, Nat.zero_le _⟩) hw (fun r32 H locs hp32 hw => ?_)
  subst hp32
  refine ztop (fun x35 ex35 => ?_)
  refine lv_istore (pc := 35) (lv' := [(4, .int (iI x35)), (3, .int (iI x15)), (0, .ref wo), (1, .int (iI fr)), (2, .int (iI to))]) hx hb dX7_findFeastsWithin_35 hl (by decide) rfl (fun ls hl => ?_)
  refine lv_aload_n (pc := 37) hx hb dX7_findFeastsWithin_37 rfl (lv_at hl 2 rfl) ?_
  refine ziconst (pc := 38) (n := 0) hx hb dX7_findFeastsWithin_38 ?_
  refine lv_iload_n (pc := 39) hx hb dX7_findFeastsWithin_39 rfl (lv_at hl 1 rfl) ?_
  refine zldc (pc := 40) (n := 73048) hx hb hown hG wk_X7_55 dX7_findFeastsWithin_40 ?_
  refine zmin (pc := 42) hx hb (hml.trans hl.1.symm) hown hG wl_X7_56 w1_zmn wi_javalangMath w2_zmn (Nat.le_of_ble_eq_true rfl) (Nat.le_of_ble_eq_true rfl) (Nat.zero_le _) (Nat.zero_le _) ⟨by omega, by omega⟩ dX7_findFeastsWithin_42 ?_
  refine zmax (pc := 45) hx hb (hml.trans hl.1.symm) hown hG wl_X7_49 w1_zmx wi_javalangMath w2_zmx (Nat.le_of_ble_eq_true rfl) (Nat.le_of_ble_eq_true rfl) (Nat.zero_le _) (Nat.zero_le _) ⟨by omega, by omega⟩ dX7_findFeastsWithin_45 ?_
  refine lv_iload (pc := 48) hx hb dX7_findFeastsWithin_48 (lv_at hl 0 rfl) ?_
  refine zkVx (pc := 50) (zrV (As := [.int (iI (max 0 (min x15 73048))), .int (iI x35)]) hx hb hml hown hG hw (c_X7_findFeasts l Γ K X Rf wo (max 0 (min x15 73048)) x35 fa fn fe F Fp n (by (first | assumption | omega)) (by (first | assumption | omega)) (by (first | assumption | omega)) (by (first | assumption | omega)) (by (first | assumption | omega)) (by (first | assumption | omega)) (by (first | assumption | omega)) (by (first | assumption | omega)) (by (first | assumption | omega)) (by (first | assumption | omega)) (by (first | assumption | omega)) (by (first | assumption | omega))) (T := TX7) hk rfl cb_X7_findFeasts wl_X7_122 rfl ⟨Nat.le_of_ble_eq_true rfl, Nat.le_of_ble_eq_true rfl⟩ hl.1 rfl (Nat.le_of_ble_eq_true rfl) dX7_findFeastsWithin_50 ⟨Nat.zero_le _, Nat.zero_le _⟩) hw (fun X50 H locs hp50 hw => ?_)
  obtain ⟨hf5, ⟨hv5, hb5⟩, ho5⟩ := hp50
  exact zretV (pc := 53) hx hb hlocks hr hw (Nat.zero_le _) (Nat.zero_le _) dX7_findFeastsWithin_53 ⟨by (try dsimp only) <;> (exact ⟨fun d g1 g2 g3 g4 => hf5 d (by omega) (by omega) g2, ⟨hv5, hb5⟩, ho5⟩), rfl, rfl⟩
