set_option maxHeartbeats 4000000 in
set_option maxRecDepth 100000 in
theorem c_X9_date (l : Launch) (Γ : zG) (K : zK) (X : zX) (Rf : zR) (md : Nat) (n : Int) (ρ : zL) (M : zM) (hR : repR ρ K X Rf md M) (hM : okM M) (h1 : 0 ≤ n ∧ n < M 40 16) : Ct l yX9_date cX9_date 11 none 7 0 0 Γ [.ref md, .int (iI n)] K X Rf (pV (zpv K Rf (fun X' : zX => ∀ b20 b23, Rf md 20 = some b20 → Rf md 23 = some b23 → X' md 24 = ((datM M n.toNat).length : Int) ∧ (∀ j, j < (datM M n.toNat).length → X' b23 j = (datM M n.toNat).getD j 0) ∧ (∀ b, b ≠ md → b ≠ b20 → b ≠ b23 → X' b = X b) ∧ (∀ q, q ≠ 21 → q ≠ 24 → X' md q = X md q)))) := by
  refine Ct.of (by decide +kernel) (Nat.le_of_ble_eq_true rfl) ?_
  intro p e s m below meth c ls hx hb hr hml hown hG hlocks hname hw hl
  have hl : lv_has ls 11 [(0, .ref md), (1, .int (iI n))] := hl
  obtain ⟨hmd, hlmd⟩ := id hR.1
  obtain ⟨⟨hb1, hb2, hb3, hb4⟩, hokP, hokL, hokS, hokW, hokF⟩ := id hM
  have hq1 : X md 1 = M 40 1 := hR.2.1 1 rfl
  have hq5 : X md 5 = M 40 5 := hR.2.1 5 rfl
  have hq16 : X md 16 = M 40 16 := hR.2.1 16 rfl
  have hq25 : X md 25 = M 40 25 := hR.2.1 25 rfl
  have hq26 : X md 26 = M 40 26 := hR.2.1 26 rfl
  have hq27 : X md 27 = M 40 27 := hR.2.1 27 rfl
  have hq28 : X md 28 = M 40 28 := hR.2.1 28 rfl
  have hq29 : X md 29 = M 40 29 := hR.2.1 29 rfl
  obtain ⟨a17, hB17, hA17, hL17, hD17⟩ : ∃ a, Rf md 17 = some a ∧ K a = (2, 66) ∧ ρ a = 2018 ∧ X a = M 17 := hR.fd 17 (by decide) rfl
  have hN17 : Apt a17 md := zkn2 hA17 hmd (by simp)
  obtain ⟨a19, hB19, hA19, hL19, hD19⟩ : ∃ a, Rf md 19 = some a ∧ K a = (2, 48) ∧ ρ a = 2020 ∧ X a = M 19 := hR.fd 19 (by decide) rfl
  have hN19 : Apt a19 md := zkn2 hA19 hmd (by simp)
  obtain ⟨a20, hB20, hA20, hL20⟩ : ∃ a, Rf md 20 = some a ∧ K a = (2, 366) ∧ ρ a = 2021 := hR.ff 20 (by decide)
  have hN20 : Apt a20 md := zkn2 hA20 hmd (by simp)
  obtain ⟨a23, hB23, hA23, hL23⟩ : ∃ a, Rf md 23 = some a ∧ K a = (2, 4001) ∧ ρ a = 2024 := hR.ff 23 (by decide)
  have hN23 : Apt a23 md := zkn2 hA23 hmd (by simp)
  have hoS := (hokS n.toNat (by omega)).1
  have hv1 : X a17 (11 * n + 1).toNat = serM M n.toNat 1 := by rw [hD17, show (11 * n + 1).toNat = 11 * n.toNat + 1 by omega]; exact (serM_17 (by decide)).symm
  have hv3 : X a17 (11 * n + 3).toNat = serM M n.toNat 3 := by rw [hD17, show (11 * n + 3).toNat = 11 * n.toNat + 3 by omega]; exact (serM_17 (by decide)).symm
  have hv5 : X a17 (11 * n + 5).toNat = serM M n.toNat 5 := by rw [hD17, show (11 * n + 5).toNat = 11 * n.toNat + 5 by omega]; exact (serM_17 (by decide)).symm
  have hv6 : X a17 (11 * n + 6).toNat = serM M n.toNat 6 := by rw [hD17, show (11 * n + 6).toNat = 11 * n.toNat + 6 by omega]; exact (serM_17 (by decide)).symm
  have hv7 : X a17 (11 * n + 7).toNat = serM M n.toNat 7 := by rw [hD17, show (11 * n + 7).toNat = 11 * n.toNat + 7 by omega]; exact (serM_17 (by decide)).symm
  have hv10 : X a17 (11 * n + 10).toNat = serM M n.toNat 10 := by rw [hD17, show (11 * n + 10).toNat = 11 * n.toNat + 10 by omega]; exact (serM_17 (by decide)).symm
  obtain ⟨S, hS⟩ : ∃ S, serM M n.toNat = S := ⟨_, rfl⟩
  obtain ⟨U, hU⟩ : ∃ U, useM M n.toNat = U := ⟨_, rfl⟩
  obtain ⟨E, hE⟩ : ∃ E, excM M n.toNat = E := ⟨_, rfl⟩
  have hDm : datM M n.toNat = (spS S U E 4001 0 (0, [])).2 := by unfold datM dtS; rw [hS, hU, hE]
  rw [hS] at hoS hv1 hv3 hv5 hv6 hv7 hv10
  refine lv_aload_n (pc := 0) hx hb dX9_date_0 rfl (lv_at hl 0 rfl) ?_
  refine ziconst (pc := 1) (n := 0) hx hb dX9_date_1 ?_
  refine zputI (pc := 2) hx hb hG hown hw hmd (T := TX9) rfl 24 (by decide) rfl wf_X9_247 rfl (by decide +kernel) rfl dX9_date_2 (fun H locs hw => ?_)
  obtain ⟨X2, eX2⟩ : ∃ Y : zX, Y = up2 X md 24 0 := ⟨_, rfl⟩
  rw [← eX2] at hw
  have h17_2 : X2 a17 = X a17 := by rw [eX2, up2_o hN17]
  have hv1_2 : X2 a17 (11 * n + 1).toNat = S 1 := by rw [h17_2]; exact hv1
  have hv5_2 : X2 a17 (11 * n + 5).toNat = S 5 := by rw [h17_2]; exact hv5
  have hv6_2 : X2 a17 (11 * n + 6).toNat = S 6 := by rw [h17_2]; exact hv6
  refine lv_aload_n (pc := 5) hx hb dX9_date_5 rfl (lv_at hl 0 rfl) ?_
  refine lv_iload_n (pc := 6) hx hb dX9_date_6 rfl (lv_at hl 1 rfl) ?_
  refine zbipush (pc := 7) (n := 6) hx hb dX9_date_7 rfl ?_
  refine zkIp (pc := 9) (zrV (As := [.int (iI n), .int (iI 6)]) hx hb hml hown hG hw (c_X9_of l Γ K X2 Rf md n 6 a17 (by (first | assumption | omega)) (by (first | assumption | omega)) (by (first | assumption | omega)) (by (first | assumption | omega))) (T := TX9) hmd rfl cb_X9_of wl_X9_234 rfl ⟨Nat.le_of_ble_eq_true rfl, Nat.le_of_ble_eq_true rfl⟩ hl.1 rfl (Nat.le_of_ble_eq_true rfl) dX9_date_9 ⟨Nat.zero_le _, Nat.zero_le _⟩) hw (fun r9 H locs hp9 hw => ?_)
  subst hp9
  have jn28_0 : ∀ (mo9 : Int) (H : Heap) (locs : List Loc), (hmo : (S 6 = 0 → mo9 = 2147483647) ∧ (S 6 ≠ 0 → mo9 = S 6)) → Wd Γ (zA K s.heap.size) K X2 Rf s H locs → ∀ ls : Array Slot, lv_has ls 11 [(0, .ref md), (1, .int (iI n))] → W p l e (rmL 7 0 0) s m ([.ref md, .int (iI n)] : List Value).toArray below meth c H locs 0 0 (MQ below (zQ Γ K s.heap.size (pV (zpv K Rf (fun X' : zX => ∀ b20 b23, Rf md 20 = some b20 → Rf md 23 = some b23 → X' md 24 = ((datM M n.toNat).length : Int) ∧ (∀ j, j < (datM M n.toNat).length → X' b23 j = (datM M n.toNat).getD j 0) ∧ (∀ b, b ≠ md → b ≠ b20 → b ≠ b23 → X' b = X b) ∧ (∀ q, q ≠ 21 → q ≠ 24 → X' md q = X md q))))) ([.ref md, .int (iI n)] : List Value).toArray s 0 0 (zA K s.heap.size)) (F0 m 28 ls [.int (iI mo9)]) := by
    intro mo9 H locs hmo hw ls hl
    refine lv_istore_n (pc := 28) (lv' := [(2, .int (iI mo9)), (0, .ref md), (1, .int (iI n))]) hx hb dX9_date_28 rfl hl (by decide) rfl (fun ls hl => ?_)
    refine lv_aload_n (pc := 29) hx hb dX9_date_29 rfl (lv_at hl 1 rfl) ?_
    refine lv_iload_n (pc := 30) hx hb dX9_date_30 rfl (lv_at hl 2 rfl) ?_
    refine ziconst (pc := 31) (n := 5) hx hb dX9_date_31 ?_
    refine zkIp (pc := 32) (zrV (As := [.int (iI n), .int (iI 5)]) hx hb hml hown hG hw (c_X9_of l Γ K X2 Rf md n 5 a17 (by (first | assumption | omega)) (by (first | assumption | omega)) (by (first | assumption | omega)) (by (first | assumption | omega))) (T := TX9) hmd rfl cb_X9_of wl_X9_234 rfl ⟨Nat.le_of_ble_eq_true rfl, Nat.le_of_ble_eq_true rfl⟩ hl.1 rfl (Nat.le_of_ble_eq_true rfl) dX9_date_32 ⟨Nat.zero_le _, Nat.zero_le _⟩) hw (fun r32 H locs hp32 hw => ?_)
    subst hp32
    refine ztop (fun x35 ex35 => ?_)
    refine lv_istore_n (pc := 35) (lv' := [(3, .int (iI x35)), (2, .int (iI mo9)), (0, .ref md), (1, .int (iI n))]) hx hb dX9_date_35 rfl hl (by decide) rfl (fun ls hl => ?_)
    refine lv_aload_n (pc := 36) hx hb dX9_date_36 rfl (lv_at hl 2 rfl) ?_
    refine lv_iload_n (pc := 37) hx hb dX9_date_37 rfl (lv_at hl 3 rfl) ?_
    refine ziconst (pc := 38) (n := 1) hx hb dX9_date_38 ?_
    refine zkIp (pc := 39) (zrV (As := [.int (iI n), .int (iI 1)]) hx hb hml hown hG hw (c_X9_of l Γ K X2 Rf md n 1 a17 (by (first | assumption | omega)) (by (first | assumption | omega)) (by (first | assumption | omega)) (by (first | assumption | omega))) (T := TX9) hmd rfl cb_X9_of wl_X9_234 rfl ⟨Nat.le_of_ble_eq_true rfl, Nat.le_of_ble_eq_true rfl⟩ hl.1 rfl (Nat.le_of_ble_eq_true rfl) dX9_date_39 ⟨Nat.zero_le _, Nat.zero_le _⟩) hw (fun r39 H locs hp39 hw => ?_)
    subst hp39
    refine zsipush (pc := 42) (n := 1440) hx hb dX9_date_42 rfl ?_
    refine zdiv (pc := 45) hx hb (by omega) dX9_date_45 ?_
    refine ztop (fun x46 ex46 => ?_)
    refine lv_istore (pc := 46) (lv' := [(4, .int (iI x46)), (3, .int (iI x35)), (2, .int (iI mo9)), (0, .ref md), (1, .int (iI n))]) hx hb dX9_date_46 hl (by decide) rfl (fun ls hl => ?_)
    refine ziconst (pc := 48) (n := 0) hx hb dX9_date_48 ?_
    refine lv_istore (pc := 49) (lv' := [(5, .int (iI 0)), (4, .int (iI x46)), (3, .int (iI x35)), (2, .int (iI mo9)), (0, .ref md), (1, .int (iI n))]) hx hb dX9_date_49 hl (by decide) rfl (fun ls hl => ?_)
    have lp51 : ∀ (n51 : Nat) (sp : Int) (lf : Int) (nn : Int) (st2 : Int × List Int) (XL51 : zX) (H : Heap) (locs : List Loc), (hi : 0 ≤ nn ∧ nn ≤ 4001) → (hsp : sp = nn * S 3) → (hb9 : dlB S (min (spB S (nn * S 3)) 73049) st2) → (ht9 : spS S U E (4001 - nn).toNat nn st2 = spS S U E 4001 0 (0, [])) → (hlf : lf = mo9 - st2.1) → (h24 : XL51 md 24 = (st2.2.length : Int)) → (h23 : ∀ j, j < st2.2.length → XL51 a23 j = st2.2.getD j 0) → (ho : ∀ b, b ≠ md → b ≠ a20 → b ≠ a23 → XL51 b = X b) → (hq : ∀ q, q ≠ 21 → q ≠ 24 → XL51 md q = X md q) → ((4001 - nn).toNat < n51) → Wd Γ (zA K s.heap.size) K XL51 Rf s H locs → ∀ ls : Array Slot, lv_has ls 11 [(5, .int (iI sp)), (4, .int (iI x46)), (3, .int (iI x35)), (2, .int (iI lf)), (0, .ref md), (1, .int (iI n))] → W p l e (rmL 7 0 0) s m ([.ref md, .int (iI n)] : List Value).toArray below meth c H locs 0 0 (MQ below (zQ Γ K s.heap.size (pV (zpv K Rf (fun X' : zX => ∀ b20 b23, Rf md 20 = some b20 → Rf md 23 = some b23 → X' md 24 = ((datM M n.toNat).length : Int) ∧ (∀ j, j < (datM M n.toNat).length → X' b23 j = (datM M n.toNat).getD j 0) ∧ (∀ b, b ≠ md → b ≠ b20 → b ≠ b23 → X' b = X b) ∧ (∀ q, q ≠ 21 → q ≠ 24 → X' md q = X md q))))) ([.ref md, .int (iI n)] : List Value).toArray s 0 0 (zA K s.heap.size)) (F0 m 51 ls []) := by
      intro n51
      induction n51 with
      | zero => intro sp lf nn st2 XL51 H locs hi hsp hb9 ht9 hlf h24 h23 ho hq hm51; exact absurd hm51 (Nat.not_lt_zero _)
      | succ n51 ih51 =>
        intro sp lf nn st2 XL51 H locs hi hsp hb9 ht9 hlf h24 h23 ho hq hm51 hw ls hl
        have h17L : XL51 a17 = X a17 := ho a17 hN17 (zne9 hL17 hL20 (by decide)) (zne9 hL17 hL23 (by decide))
        have hv7L : XL51 a17 (11 * n + 7).toNat = S 7 := by rw [h17L]; exact hv7
        have hR9L : repR ρ K XL51 Rf md M := (hR.scr hB20 hB23 hq ho).1
        have hmr := mul_rng hi hoS.2.2.1
        have hb1 : 0 ≤ st2.1 ∧ st2.1 ≤ 73049 := by have h9 := hb9.1; omega
        have hx46 : x46 = bdS S := by unfold bdS; omega
        have hx35 : x35 = S 5 := by omega
        refine lv_iload_n (pc := 51) hx hb dX9_date_51 rfl (lv_at hl 3 rfl) ?_
        refine zif_le (pc := 52) hx hb 323 (by omega) dX9_date_52 (by decide) (fun c52 => ?_) (fun c52 => ?_)
        · skip
          exact zretV (pc := 323) hx hb hlocks hr hw (Nat.zero_le _) (Nat.zero_le _) dX9_date_323 ⟨by (try dsimp only) <;> (
                                        have e9 : spS S U E 4001 0 (0, []) = st2 := by rw [← ht9, spS_full ⟨by omega, by omega⟩]
                                        intro b20 b23 g1 g2
                                        rw [hB20] at g1; cases g1
                                        rw [hB23] at g2; cases g2
                                        rw [hDm, e9]
                                        exact ⟨h24, h23, ho, hq⟩), rfl, rfl⟩
        · skip
          refine lv_aload_n (pc := 55) hx hb dX9_date_55 rfl (lv_at hl 4 rfl) ?_
          refine lv_iload_n (pc := 56) hx hb dX9_date_56 rfl (lv_at hl 5 rfl) ?_
          refine lv_iload (pc := 57) hx hb dX9_date_57 (lv_at hl 0 rfl) ?_
          refine zkIp (pc := 59) (zrV (As := [.int (iI n), .int (iI sp)]) hx hb hml hown hG hw (c_X9_beginOfSpan l Γ K XL51 Rf md n sp (ρ) M (by (first | assumption | omega)) (by (first | assumption | omega)) (by (first | assumption | omega)) (by (first | assumption | omega))) (T := TX9) hmd rfl cb_X9_beginOfSpan wl_X9_257 rfl ⟨Nat.le_of_ble_eq_true rfl, Nat.le_of_ble_eq_true rfl⟩ hl.1 rfl (Nat.le_of_ble_eq_true rfl) dX9_date_59 ⟨Nat.zero_le _, Nat.zero_le _⟩) hw (fun r59 H locs hp59 hw => ?_)
          have hp59f0 := hp59
          rw [hS, hsp] at hp59
          refine lv_istore (pc := 62) (lv' := [(6, .int (iI r59)), (5, .int (iI sp)), (4, .int (iI x46)), (3, .int (iI x35)), (2, .int (iI lf)), (0, .ref md), (1, .int (iI n))]) hx hb dX9_date_62 hl (by decide) rfl (fun ls hl => ?_)
          refine lv_iload (pc := 64) hx hb dX9_date_64 (lv_at hl 0 rfl) ?_
          refine lv_aload_n (pc := 66) hx hb dX9_date_66 rfl (lv_at hl 5 rfl) ?_
          refine lv_iload_n (pc := 67) hx hb dX9_date_67 rfl (lv_at hl 6 rfl) ?_
          refine zbipush (pc := 68) (n := 7) hx hb dX9_date_68 rfl ?_
          refine zkIp (pc := 70) (zrV (As := [.int (iI n), .int (iI 7)]) hx hb hml hown hG hw (c_X9_of l Γ K XL51 Rf md n 7 a17 (by (first | assumption | omega)) (by (first | assumption | omega)) (by (first | assumption | omega)) (by (first | assumption | omega))) (T := TX9) hmd rfl cb_X9_of wl_X9_234 rfl ⟨Nat.le_of_ble_eq_true rfl, Nat.le_of_ble_eq_true rfl⟩ hl.1 rfl (Nat.le_of_ble_eq_true rfl) dX9_date_70 ⟨Nat.zero_le _, Nat.zero_le _⟩) hw (fun r70 H locs hp70 hw => ?_)
          subst hp70
          refine zicmp_le (pc := 73) hx hb 77 (by omega) (by omega) dX9_date_73 (by decide) (fun c73 => ?_) (fun c73 => ?_)
          · skip
            have hr59 : r59 = spB S (nn * S 3) := by omega
            have hn4 := spS_end hoS hi (by rw [← hr59]; omega)
            refine zldc (pc := 77) (n := 73049) hx hb hown hG wk_X9_82 dX9_date_77 ?_
            refine lv_aload_n (pc := 79) hx hb dX9_date_79 rfl (lv_at hl 5 rfl) ?_
            refine lv_iload_n (pc := 80) hx hb dX9_date_80 rfl (lv_at hl 6 rfl) ?_
            refine lv_iload (pc := 81) hx hb dX9_date_81 (lv_at hl 1 rfl) ?_
            refine ziconst (pc := 83) (n := 1) hx hb dX9_date_83 ?_
            refine zadd (pc := 84) hx hb dX9_date_84 ?_
            refine zkIp (pc := 85) (zrV (As := [.int (iI n), .int (iI (sp + 1))]) hx hb hml hown hG hw (c_X9_beginOfSpan l Γ K XL51 Rf md n (sp + 1) (ρ) M (by (first | assumption | omega)) (by (first | assumption | omega)) (by (first | assumption | omega)) (by (first | assumption | omega))) (T := TX9) hmd rfl cb_X9_beginOfSpan wl_X9_257 rfl ⟨Nat.le_of_ble_eq_true rfl, Nat.le_of_ble_eq_true rfl⟩ hl.1 rfl (Nat.le_of_ble_eq_true rfl) dX9_date_85 ⟨Nat.zero_le _, Nat.zero_le _⟩) hw (fun r85 H locs hp85 hw => ?_)
            have hp85f0 := hp85
            rw [hS, hsp] at hp85
            refine zmin (pc := 88) hx hb (hml.trans hl.1.symm) hown hG wl_X9_104 w1_zmn wi_javalangMath w2_zmn (Nat.le_of_ble_eq_true rfl) (Nat.le_of_ble_eq_true rfl) (Nat.zero_le _) (Nat.zero_le _) ⟨by omega, by omega⟩ dX9_date_88 ?_
            refine ztop (fun x91 ex91 => ?_)
            refine lv_istore (pc := 91) (lv' := [(7, .int (iI x91)), (6, .int (iI r59)), (5, .int (iI sp)), (4, .int (iI x46)), (3, .int (iI x35)), (2, .int (iI lf)), (0, .ref md), (1, .int (iI n))]) hx hb dX9_date_91 hl (by decide) rfl (fun ls hl => ?_)
            have hsu := spB_succ hoS (i := nn * S 3) (by omega)
            have hx91 : x91 - 1 = min (spB S (nn * S 3 + 1) - 1) 73048 := by omega
            have hx90 : r59 < x91 ∧ x91 ≤ r59 + 366 ∧ 0 ≤ r59 ∧ x91 ≤ 73049 := by have h0 := (spB_rng hoS (i := nn * S 3) (by omega) (by omega)).1; omega
            obtain ⟨L, hL⟩ : ∃ L, L = (cdL (ctS S U) (x91 - r59).toNat r59) := ⟨_, rfl⟩
            obtain ⟨TT, hTT⟩ : ∃ TT, tkS S U E r59 (x91 - 1) st2 = TT := ⟨_, rfl⟩
            have hTr := tkS_ref (Sd := S) (Up := U) (Ex := E) (a := r59) (b := x91 - 1) (st := st2) hoS (by omega) (L := L) (by rw [hL, show x91 - 1 - r59 + 1 = x91 - r59 by omega])
            rw [hTT] at hTr
            have hbT : dlB S (x91 - 1 + 1) TT := by rw [← hTT]; exact tkS_dlB (by omega) (by omega) (by omega) (hb9.mono (by omega))
            rw [show x91 - 1 + 1 = x91 by omega] at hbT
            have hTb : 0 ≤ TT.1 ∧ TT.1 ≤ 73049 ∧ TT.2.length ≤ 4001 := by have h1 := hbT.1; have h2 := hbT.2.1; omega
            have hb10 : dlB S (min (spB S ((nn + 1) * S 3)) 73049) TT := by
              have h2 := spB_mono hoS (i := nn * S 3 + 1) (j := (nn + 1) * S 3) (by omega) (by rw [Int.add_mul]; omega)
              exact hbT.mono (by omega)
            have ht10 : spS S U E (4001 - (nn + 1)).toNat (nn + 1) TT = spS S U E 4001 0 (0, []) := by rw [← hTT, hr59, hx91, ← spS_s hn4 (by rw [← hr59]; omega)]; exact ht9
            have hsm : (0 ≤ S 6 ∧ S 6 ≤ 500) ∧ (0 ≤ S 10 ∧ S 10 ≤ 8) ∧ (0 ≤ S 7 ∧ S 7 ≤ 73048) ∧ (-6 ≤ S 5 ∧ S 5 ≤ 6) ∧ 0 ≤ bdS S ∧ bdS S ≤ 73048 := by omega
            clear hx91 hsu hb9 ht9 hbT hp59 hp85 hoS
            refine lv_aload_n (pc := 93) hx hb dX9_date_93 rfl (lv_at hl 6 rfl) ?_
            refine ziconst (pc := 94) (n := 0) hx hb dX9_date_94 ?_
            refine zputI (pc := 95) hx hb hG hown hw hmd (T := TX9) rfl 21 (by decide) rfl wf_X9_260 rfl (by decide +kernel) rfl dX9_date_95 (fun H locs hw => ?_)
            obtain ⟨X95, eX95⟩ : ∃ Y : zX, Y = up2 XL51 md 21 0 := ⟨_, rfl⟩
            rw [← eX95] at hw
            refine lv_iload (pc := 98) hx hb dX9_date_98 (lv_at hl 1 rfl) ?_
            refine lv_istore (pc := 100) (lv' := [(8, .int (iI r59)), (7, .int (iI x91)), (6, .int (iI r59)), (5, .int (iI sp)), (4, .int (iI x46)), (3, .int (iI x35)), (2, .int (iI lf)), (0, .ref md), (1, .int (iI n))]) hx hb dX9_date_100 hl (by decide) rfl (fun ls hl => ?_)
            have lp102 : ∀ (n102 : Nat) (dd : Int) (XL102 : zX) (H : Heap) (locs : List Loc), (hd9 : r59 ≤ dd ∧ dd ≤ x91) → (hm : XL102 md 21 = ((cdL (ctS S U) (dd - r59).toNat r59).length : Int)) → (hf : ∀ j, j < (cdL (ctS S U) (dd - r59).toNat r59).length → XL102 a20 j = (cdL (ctS S U) (dd - r59).toNat r59).getD j 0) → (h24b : XL102 md 24 = XL51 md 24) → (h23b : XL102 a23 = XL51 a23) → (ho : ∀ b, b ≠ md → b ≠ a20 → b ≠ a23 → XL102 b = X b) → (hq : ∀ q, q ≠ 21 → q ≠ 24 → XL102 md q = X md q) → ((x91 - dd).toNat < n102) → Wd Γ (zA K s.heap.size) K XL102 Rf s H locs → ∀ ls : Array Slot, lv_has ls 11 [(8, .int (iI dd)), (7, .int (iI x91)), (6, .int (iI r59)), (5, .int (iI sp)), (4, .int (iI x46)), (3, .int (iI x35)), (2, .int (iI lf)), (0, .ref md), (1, .int (iI n))] → W p l e (rmL 7 0 0) s m ([.ref md, .int (iI n)] : List Value).toArray below meth c H locs 0 0 (MQ below (zQ Γ K s.heap.size (pV (zpv K Rf (fun X' : zX => ∀ b20 b23, Rf md 20 = some b20 → Rf md 23 = some b23 → X' md 24 = ((datM M n.toNat).length : Int) ∧ (∀ j, j < (datM M n.toNat).length → X' b23 j = (datM M n.toNat).getD j 0) ∧ (∀ b, b ≠ md → b ≠ b20 → b ≠ b23 → X' b = X b) ∧ (∀ q, q ≠ 21 → q ≠ 24 → X' md q = X md q))))) ([.ref md, .int (iI n)] : List Value).toArray s 0 0 (zA K s.heap.size)) (F0 m 102 ls []) := by
              intro n102
              induction n102 with
              | zero => intro dd XL102 H locs hd9 hm hf h24b h23b ho hq hm102; exact absurd hm102 (Nat.not_lt_zero _)
              | succ n102 ih102 =>
                intro dd XL102 H locs hd9 hm hf h24b h23b ho hq hm102 hw ls hl
                have hR9C : repR ρ K XL102 Rf md M := (hR.scr hB20 hB23 hq ho).1
                have hcl := cdL_len (p := ctS S U) (dd - r59).toNat r59
                refine lv_iload (pc := 102) hx hb dX9_date_102 (lv_at hl 0 rfl) ?_
                refine lv_iload (pc := 104) hx hb dX9_date_104 (lv_at hl 1 rfl) ?_
                refine zicmp_ge (pc := 106) hx hb 149 (by omega) (by omega) dX9_date_106 (by decide) (fun c106 => ?_) (fun c106 => ?_)
                · skip
                  have jn309_1 : ∀ (lf2 : Int) (Xjn309_1 : zX) (H : Heap) (locs : List Loc), (hlf2 : lf2 = mo9 - TT.1) → (h24 : Xjn309_1 md 24 = (TT.2.length : Int)) → (h23 : ∀ j, j < TT.2.length → Xjn309_1 a23 j = TT.2.getD j 0) → (ho : ∀ b, b ≠ md → b ≠ a20 → b ≠ a23 → Xjn309_1 b = X b) → (hq : ∀ q, q ≠ 21 → q ≠ 24 → Xjn309_1 md q = X md q) → Wd Γ (zA K s.heap.size) K Xjn309_1 Rf s H locs → ∀ ls : Array Slot, lv_has ls 11 [(7, .int (iI x91)), (6, .int (iI r59)), (5, .int (iI sp)), (4, .int (iI x46)), (3, .int (iI x35)), (2, .int (iI lf2)), (0, .ref md), (1, .int (iI n))] → W p l e (rmL 7 0 0) s m ([.ref md, .int (iI n)] : List Value).toArray below meth c H locs 0 0 (MQ below (zQ Γ K s.heap.size (pV (zpv K Rf (fun X' : zX => ∀ b20 b23, Rf md 20 = some b20 → Rf md 23 = some b23 → X' md 24 = ((datM M n.toNat).length : Int) ∧ (∀ j, j < (datM M n.toNat).length → X' b23 j = (datM M n.toNat).getD j 0) ∧ (∀ b, b ≠ md → b ≠ b20 → b ≠ b23 → X' b = X b) ∧ (∀ q, q ≠ 21 → q ≠ 24 → X' md q = X md q))))) ([.ref md, .int (iI n)] : List Value).toArray s 0 0 (zA K s.heap.size)) (F0 m 309 ls []) := by
                    intro lf2 Xjn309_1 H locs hlf2 h24 h23 ho hq hw ls hl
                    have h17N : Xjn309_1 a17 = X a17 := ho a17 hN17 (zne9 hL17 hL20 (by decide)) (zne9 hL17 hL23 (by decide))
                    have hv3N : Xjn309_1 a17 (11 * n + 3).toNat = S 3 := by rw [h17N]; exact hv3
                    refine lv_iload (pc := 309) hx hb dX9_date_309 (lv_at hl 2 rfl) ?_
                    refine lv_aload_n (pc := 311) hx hb dX9_date_311 rfl (lv_at hl 6 rfl) ?_
                    refine lv_iload_n (pc := 312) hx hb dX9_date_312 rfl (lv_at hl 7 rfl) ?_
                    refine ziconst (pc := 313) (n := 3) hx hb dX9_date_313 ?_
                    refine zkIp (pc := 314) (zrV (As := [.int (iI n), .int (iI 3)]) hx hb hml hown hG hw (c_X9_of l Γ K Xjn309_1 Rf md n 3 a17 (by (first | assumption | omega)) (by (first | assumption | omega)) (by (first | assumption | omega)) (by (first | assumption | omega))) (T := TX9) hmd rfl cb_X9_of wl_X9_234 rfl ⟨Nat.le_of_ble_eq_true rfl, Nat.le_of_ble_eq_true rfl⟩ hl.1 rfl (Nat.le_of_ble_eq_true rfl) dX9_date_314 ⟨Nat.zero_le _, Nat.zero_le _⟩) hw (fun r314 H locs hp314 hw => ?_)
                    subst hp314
                    refine zadd (pc := 317) hx hb dX9_date_317 ?_
                    refine ztop (fun x318 ex318 => ?_)
                    refine lv_istore (pc := 318) (lv' := [(5, .int (iI x318)), (7, .int (iI x91)), (6, .int (iI r59)), (4, .int (iI x46)), (3, .int (iI x35)), (2, .int (iI lf2)), (0, .ref md), (1, .int (iI n))]) hx hb dX9_date_318 hl (by decide) rfl (fun ls hl => ?_)
                    refine lv_goto (pc := 320) (tgt := 51) hx hb dX9_date_320 (by decide) ?_
                    exact ih51 x318 lf2 (nn + 1) TT Xjn309_1 _ _ (by omega) (by rw [Int.add_mul]; omega) (by exact hb10) (by exact ht10) (by exact hlf2) (by exact h24) (by exact h23) (by exact ho) (by exact hq) (by omega) hw _ (lv_sub hl [0, 3, 4, 5, 6, 7] rfl)
                  have jn173_2 : ∀ (fi : Int) (H : Heap) (locs : List Loc), (hfi : fi = fiR S L.length) → (hfr9 : -10 ≤ fi ∧ fi ≤ 400) → Wd Γ (zA K s.heap.size) K XL102 Rf s H locs → ∀ ls : Array Slot, lv_has ls 11 [(8, .int (iI dd)), (7, .int (iI x91)), (6, .int (iI r59)), (5, .int (iI sp)), (4, .int (iI x46)), (3, .int (iI x35)), (2, .int (iI lf)), (0, .ref md), (1, .int (iI n))] → W p l e (rmL 7 0 0) s m ([.ref md, .int (iI n)] : List Value).toArray below meth c H locs 0 0 (MQ below (zQ Γ K s.heap.size (pV (zpv K Rf (fun X' : zX => ∀ b20 b23, Rf md 20 = some b20 → Rf md 23 = some b23 → X' md 24 = ((datM M n.toNat).length : Int) ∧ (∀ j, j < (datM M n.toNat).length → X' b23 j = (datM M n.toNat).getD j 0) ∧ (∀ b, b ≠ md → b ≠ b20 → b ≠ b23 → X' b = X b) ∧ (∀ q, q ≠ 21 → q ≠ 24 → X' md q = X md q))))) ([.ref md, .int (iI n)] : List Value).toArray s 0 0 (zA K s.heap.size)) (F0 m 173 ls [.int (iI fi)]) := by
                    intro fi H locs hfi hfr9 hw ls hl
                    rw [show dd = x91 by omega, ← hL] at hm hf hcl
                    have hmL := hm
                    have hfL := hf
                    have hLl : L.length ≤ 366 := by omega
                    clear hcl
                    refine lv_istore (pc := 173) (lv' := [(8, .int (iI fi)), (7, .int (iI x91)), (6, .int (iI r59)), (5, .int (iI sp)), (4, .int (iI x46)), (3, .int (iI x35)), (2, .int (iI lf)), (0, .ref md), (1, .int (iI n))]) hx hb dX9_date_173 hl (by decide) rfl (fun ls hl => ?_)
                    have jn190_3 : ∀ (en : Int) (H : Heap) (locs : List Loc), (hen : en = enR S L.length) → (her9 : -10 ≤ en ∧ en ≤ 401) → (hfe9 : 0 ≤ fi → fi ≤ en) → Wd Γ (zA K s.heap.size) K XL102 Rf s H locs → ∀ ls : Array Slot, lv_has ls 11 [(8, .int (iI fi)), (7, .int (iI x91)), (6, .int (iI r59)), (5, .int (iI sp)), (4, .int (iI x46)), (3, .int (iI x35)), (2, .int (iI lf)), (0, .ref md), (1, .int (iI n))] → W p l e (rmL 7 0 0) s m ([.ref md, .int (iI n)] : List Value).toArray below meth c H locs 0 0 (MQ below (zQ Γ K s.heap.size (pV (zpv K Rf (fun X' : zX => ∀ b20 b23, Rf md 20 = some b20 → Rf md 23 = some b23 → X' md 24 = ((datM M n.toNat).length : Int) ∧ (∀ j, j < (datM M n.toNat).length → X' b23 j = (datM M n.toNat).getD j 0) ∧ (∀ b, b ≠ md → b ≠ b20 → b ≠ b23 → X' b = X b) ∧ (∀ q, q ≠ 21 → q ≠ 24 → X' md q = X md q))))) ([.ref md, .int (iI n)] : List Value).toArray s 0 0 (zA K s.heap.size)) (F0 m 190 ls [.int (iI en)]) := by
                      intro en H locs hen her9 hfe9 hw ls hl
                      refine lv_istore (pc := 190) (lv' := [(9, .int (iI en)), (8, .int (iI fi)), (7, .int (iI x91)), (6, .int (iI r59)), (5, .int (iI sp)), (4, .int (iI x46)), (3, .int (iI x35)), (2, .int (iI lf)), (0, .ref md), (1, .int (iI n))]) hx hb dX9_date_190 hl (by decide) rfl (fun ls hl => ?_)
                      refine lv_iload (pc := 192) hx hb dX9_date_192 (lv_at hl 1 rfl) ?_
                      refine zif_lt (pc := 194) hx hb 309 (by omega) dX9_date_194 (by decide) (fun c194 => ?_) (fun c194 => ?_)
                      · skip
                        have e9 : TT = st2 := by rw [hTr, if_pos (by omega)]
                        have g24 : XL102 md 24 = (TT.2.length : Int) := by rw [e9, h24b]; exact h24
                        have g23 : ∀ j, j < TT.2.length → XL102 a23 j = TT.2.getD j 0 := by rw [e9, h23b]; exact h23
                        exact jn309_1 lf XL102 _ _ (by rw [e9]; exact hlf) (by exact g24) (by exact g23) (by exact ho) (by exact hq) hw _ (lv_sub hl [2, 3, 4, 5, 6, 7, 8, 9] rfl)
                      · skip
                        refine lv_iload (pc := 197) hx hb dX9_date_197 (lv_at hl 0 rfl) ?_
                        refine lv_aload_n (pc := 199) hx hb dX9_date_199 rfl (lv_at hl 8 rfl) ?_
                        refine zgetI (pc := 200) hx hb hG hown hw hmd (T := TX9) rfl 21 (by decide) rfl wf_X9_260 rfl dX9_date_200 ?_
                        refine zicmp_le (pc := 203) hx hb 209 (by omega) (by omega) dX9_date_203 (by decide) (fun c203 => ?_) (fun c203 => ?_)
                        · skip
                          refine lv_iload (pc := 209) hx hb dX9_date_209 (lv_at hl 1 rfl) ?_
                          refine lv_istore (pc := 211) (lv' := [(10, .int (iI fi)), (9, .int (iI en)), (8, .int (iI fi)), (7, .int (iI x91)), (6, .int (iI r59)), (5, .int (iI sp)), (4, .int (iI x46)), (3, .int (iI x35)), (2, .int (iI lf)), (0, .ref md), (1, .int (iI n))]) hx hb dX9_date_211 hl (by decide) rfl (fun ls hl => ?_)
                          have lp213 : ∀ (n213 : Nat) (kk : Int) (lf3 : Int) (st3 : Int × List Int) (XL213 : zX) (H : Heap) (locs : List Loc), (hk9 : fi ≤ kk ∧ kk ≤ en) → (hT : ((L.take en.toNat).drop kk.toNat).foldl (tkD S E) st3 = TT) → (hm : XL213 md 21 = (L.length : Int)) → (hf : ∀ j, j < L.length → XL213 a20 j = L.getD j 0) → (h24s : XL213 md 24 = (st3.2.length : Int)) → (h23s : ∀ j, j < st3.2.length → XL213 a23 j = st3.2.getD j 0) → (ho : ∀ b, b ≠ md → b ≠ a20 → b ≠ a23 → XL213 b = X b) → (hq : ∀ q, q ≠ 21 → q ≠ 24 → XL213 md q = X md q) → (hlf : lf3 = mo9 - st3.1) → (h0s : 0 ≤ st3.1) → ((en - kk).toNat < n213) → Wd Γ (zA K s.heap.size) K XL213 Rf s H locs → ∀ ls : Array Slot, lv_has ls 11 [(10, .int (iI kk)), (9, .int (iI en)), (8, .int (iI fi)), (7, .int (iI x91)), (6, .int (iI r59)), (5, .int (iI sp)), (4, .int (iI x46)), (3, .int (iI x35)), (2, .int (iI lf3)), (0, .ref md), (1, .int (iI n))] → W p l e (rmL 7 0 0) s m ([.ref md, .int (iI n)] : List Value).toArray below meth c H locs 0 0 (MQ below (zQ Γ K s.heap.size (pV (zpv K Rf (fun X' : zX => ∀ b20 b23, Rf md 20 = some b20 → Rf md 23 = some b23 → X' md 24 = ((datM M n.toNat).length : Int) ∧ (∀ j, j < (datM M n.toNat).length → X' b23 j = (datM M n.toNat).getD j 0) ∧ (∀ b, b ≠ md → b ≠ b20 → b ≠ b23 → X' b = X b) ∧ (∀ q, q ≠ 21 → q ≠ 24 → X' md q = X md q))))) ([.ref md, .int (iI n)] : List Value).toArray s 0 0 (zA K s.heap.size)) (F0 m 213 ls []) := by
                            intro n213
                            induction n213 with
                            | zero => intro kk lf3 st3 XL213 H locs hk9 hT hm hf h24s h23s ho hq hlf h0s hm213; exact absurd hm213 (Nat.not_lt_zero _)
                            | succ n213 ih213 =>
                              intro kk lf3 st3 XL213 H locs hk9 hT hm hf h24s h23s ho hq hlf h0s hm213 hw ls hl
                              have h17T : XL213 a17 = X a17 := ho a17 hN17 (zne9 hL17 hL20 (by decide)) (zne9 hL17 hL23 (by decide))
                              have hv7T : XL213 a17 (11 * n + 7).toNat = S 7 := by rw [h17T]; exact hv7
                              have hv10T : XL213 a17 (11 * n + 10).toNat = S 10 := by rw [h17T]; exact hv10
                              have hR9T : repR ρ K XL213 Rf md M := (hR.scr hB20 hB23 hq ho).1
                              have hfl := fold_le (Sd := S) (Ex := E) ((L.take en.toNat).drop kk.toNat) st3
                              rw [hT] at hfl
                              refine lv_iload (pc := 213) hx hb dX9_date_213 (lv_at hl 0 rfl) ?_
                              refine lv_iload (pc := 215) hx hb dX9_date_215 (lv_at hl 1 rfl) ?_
                              refine zicmp_ge (pc := 217) hx hb 309 (by omega) (by omega) dX9_date_217 (by decide) (fun c217 => ?_) (fun c217 => ?_)
                              · skip
                                have e9 : TT = st3 := by rw [drop_e (by omega)] at hT; exact hT.symm
                                have g24 : XL213 md 24 = (TT.2.length : Int) := by rw [e9]; exact h24s
                                have g23 : ∀ j, j < TT.2.length → XL213 a23 j = TT.2.getD j 0 := by rw [e9]; exact h23s
                                exact jn309_1 lf3 XL213 _ _ (by rw [e9]; exact hlf) (by exact g24) (by exact g23) (by exact ho) (by exact hq) hw _ (lv_sub hl [3, 4, 5, 6, 7, 8, 9, 10] rfl)
                              · skip
                                have hLk : kk.toNat < L.length := by omega
                                have hT1 := hT
                                rw [drop_s (by omega) (by omega), List.foldl_cons] at hT1
                                obtain ⟨dv, hdv⟩ : ∃ dv, L.getD kk.toNat 0 = dv := ⟨_, rfl⟩
                                have hdw : XL213 a20 kk.toNat = dv := by rw [hf _ hLk, hdv]
                                have hdr : 0 ≤ dv ∧ dv ≤ 73048 := by have h9 := cdL_get (p := ctS S U) (n := (x91 - r59).toNat) (a := r59) (k := kk.toNat) (by rw [← hL]; exact hLk); rw [← hL, hdv] at h9; omega
                                rw [hdv] at hT1
                                refine lv_iload_n (pc := 220) hx hb dX9_date_220 rfl (lv_at hl 8 rfl) ?_
                                refine zif_le (pc := 221) hx hb 309 (by omega) dX9_date_221 (by decide) (fun c221 => ?_) (fun c221 => ?_)
                                · skip
                                  have e9 : TT = st3 := by rw [fold_full ⟨by omega, by omega⟩] at hT; exact hT.symm
                                  have g24 : XL213 md 24 = (TT.2.length : Int) := by rw [e9]; exact h24s
                                  have g23 : ∀ j, j < TT.2.length → XL213 a23 j = TT.2.getD j 0 := by rw [e9]; exact h23s
                                  exact jn309_1 lf3 XL213 _ _ (by rw [e9]; exact hlf) (by exact g24) (by exact g23) (by exact ho) (by exact hq) hw _ (lv_sub hl [3, 4, 5, 6, 7, 8, 9, 10] rfl)
                                · skip
                                  refine lv_aload_n (pc := 224) hx hb dX9_date_224 rfl (lv_at hl 9 rfl) ?_
                                  refine zgetR (pc := 225) hx hb hG hown hw hmd (T := TX9) rfl 20 (by decide) rfl wf_X9_48 rfl hB20 dX9_date_225 ?_
                                  refine lv_iload (pc := 228) hx hb dX9_date_228 (lv_at hl 0 rfl) ?_
                                  refine zald (pc := 230) hx hb hw hA20 ⟨by omega, by omega⟩ (by omega) dX9_date_230 ?_
                                  refine lv_iload (pc := 231) hx hb dX9_date_231 (lv_at hl 6 rfl) ?_
                                  refine zicmp_lt (pc := 233) hx hb 303 (by omega) (by omega) dX9_date_233 (by decide) (fun c233 => ?_) (fun c233 => ?_)
                                  · skip
                                    have eT : tkD S E st3 dv = st3 := tkD_no (Or.inl (by omega))
                                    refine ziinc (pc := 303) (lv' := [(10, .int (iI (kk + 1))), (9, .int (iI en)), (8, .int (iI fi)), (7, .int (iI x91)), (6, .int (iI r59)), (5, .int (iI sp)), (4, .int (iI x46)), (3, .int (iI x35)), (2, .int (iI lf3)), (0, .ref md), (1, .int (iI n))]) hx hb 0 dX9_date_303 hl rfl (by decide) rfl (fun ls hl => ?_)
                                    obtain ⟨x303, ex303⟩ : ∃ zz : Int, zz = (kk + 1) := ⟨_, rfl⟩
                                    rw [← ex303] at hl
                                    refine lv_goto (pc := 306) (tgt := 213) hx hb dX9_date_306 (by decide) ?_
                                    exact ih213 x303 lf3 (tkD S E st3 dv) XL213 _ _ (by (first | assumption | omega)) (by rw [ex303, show (kk + 1).toNat = kk.toNat + 1 by omega]; exact hT1) (by first | exact hm | (rw [eX300, up2_k (by decide), eX292, up2_o (Ne.symm hN23)]; exact hm)) (by first | exact hf | (rw [eX300, up2_o hN20, eX292, up2_o (zne9 hL20 hL23 (by decide))]; exact hf)) (by rw [eT]; first | exact h24s | (rw [eX300, up2_s, eX292, up2_o (Ne.symm hN23), h24s]; simp)) (by rw [eT]; first | exact h23s | exact put_get h24s h23s (by rw [eX300, up2_o hN23, eX292, up2_s, hdw]) (fun j hj => by rw [eX300, up2_o hN23, eX292, up2_k hj])) (by first | exact ho | exact fun b g1 g2 g3 => by rw [eX300, up2_o g1, eX292, up2_o g3]; exact ho b g1 g2 g3) (by first | exact hq | exact fun q g1 g2 => by rw [eX300, up2_k g2, eX292, up2_o (Ne.symm hN23)]; exact hq q g1 g2) (by rw [eT]; first | exact hlf | (show _ = _ - (st3.1 + 1); omega)) (by exact Int.le_trans h0s (tkD_le st3 dv).1) (by omega) hw _ (lv_sub hl [0, 1, 2, 3, 4, 5, 6, 7, 8, 9, 10] rfl)
                                  · skip
                                    refine lv_aload_n (pc := 236) hx hb dX9_date_236 rfl (lv_at hl 9 rfl) ?_
                                    refine zgetR (pc := 237) hx hb hG hown hw hmd (T := TX9) rfl 20 (by decide) rfl wf_X9_48 rfl hB20 dX9_date_237 ?_
                                    refine lv_iload (pc := 240) hx hb dX9_date_240 (lv_at hl 0 rfl) ?_
                                    refine zald (pc := 242) hx hb hw hA20 ⟨by omega, by omega⟩ (by omega) dX9_date_242 ?_
                                    refine lv_aload_n (pc := 243) hx hb dX9_date_243 rfl (lv_at hl 9 rfl) ?_
                                    refine lv_iload_n (pc := 244) hx hb dX9_date_244 rfl (lv_at hl 10 rfl) ?_
                                    refine zbipush (pc := 245) (n := 7) hx hb dX9_date_245 rfl ?_
                                    refine zkIp (pc := 247) (zrV (As := [.int (iI n), .int (iI 7)]) hx hb hml hown hG hw (c_X9_of l Γ K XL213 Rf md n 7 a17 (by (first | assumption | omega)) (by (first | assumption | omega)) (by (first | assumption | omega)) (by (first | assumption | omega))) (T := TX9) hmd rfl cb_X9_of wl_X9_234 rfl ⟨Nat.le_of_ble_eq_true rfl, Nat.le_of_ble_eq_true rfl⟩ hl.1 rfl (Nat.le_of_ble_eq_true rfl) dX9_date_247 ⟨Nat.zero_le _, Nat.zero_le _⟩) hw (fun r247 H locs hp247 hw => ?_)
                                    subst hp247
                                    refine zicmp_le (pc := 250) hx hb 256 (by omega) (by omega) dX9_date_250 (by decide) (fun c250 => ?_) (fun c250 => ?_)
                                    · skip
                                      refine ziinc (pc := 256) (lv' := [(2, .int (iI (lf3 + (-1)))), (10, .int (iI kk)), (9, .int (iI en)), (8, .int (iI fi)), (7, .int (iI x91)), (6, .int (iI r59)), (5, .int (iI sp)), (4, .int (iI x46)), (3, .int (iI x35)), (0, .ref md), (1, .int (iI n))]) hx hb 8 dX9_date_256 hl rfl (by decide) rfl (fun ls hl => ?_)
                                      obtain ⟨x256, ex256⟩ : ∃ zz : Int, zz = (lf3 + (-1)) := ⟨_, rfl⟩
                                      rw [← ex256] at hl
                                      refine lv_aload_n (pc := 259) hx hb dX9_date_259 rfl (lv_at hl 9 rfl) ?_
                                      refine lv_iload_n (pc := 260) hx hb dX9_date_260 rfl (lv_at hl 10 rfl) ?_
                                      refine lv_aload_n (pc := 261) hx hb dX9_date_261 rfl (lv_at hl 9 rfl) ?_
                                      refine zgetR (pc := 262) hx hb hG hown hw hmd (T := TX9) rfl 20 (by decide) rfl wf_X9_48 rfl hB20 dX9_date_262 ?_
                                      refine lv_iload (pc := 265) hx hb dX9_date_265 (lv_at hl 1 rfl) ?_
                                      refine zald (pc := 267) hx hb hw hA20 ⟨by omega, by omega⟩ (by omega) dX9_date_267 ?_
                                      have hcZ : XL213 a17 (11 * n + 10).toNat = ((S 10).toNat : Int) ∧ (S 10).toNat ≤ 8 := by omega
                                      have hEZ : ∀ k, k < (S 10).toNat → XL213 a19 (8 * n.toNat + k) = E k ∧ fit (E k) := fun k hk9 => by
                                        have h9 := (hokS n.toNat (by omega)).2.2.2 k (by rw [hS]; omega)
                                        rw [ho a19 hN19 (zne9 hL19 hL20 (by decide)) (zne9 hL19 hL23 (by decide)), hD19]
                                        rw [← hE]
                                        refine ⟨?_, by omega⟩
                                        unfold excM; rw [if_pos (by omega)]
                                      have hev := exV_rng E dv (S 10).toNat
                                      refine zkIp (pc := 268) (zrV (As := [.int (iI n), .int (iI (XL213 a20 kk.toNat))]) hx hb hml hown hG hw (c_X9_isOut l Γ K XL213 Rf md n (XL213 a20 kk.toNat) a17 a19 E ((S 10).toNat) (by (first | assumption | omega)) (by (first | assumption | omega)) (by (first | assumption | omega)) (by (first | assumption | omega)) (by (first | assumption | omega)) (by (first | assumption | omega)) (by (first | assumption | omega)) (by (first | assumption | omega))) (T := TX9) hmd rfl cb_X9_isOut wl_X9_241 rfl ⟨Nat.le_of_ble_eq_true rfl, Nat.le_of_ble_eq_true rfl⟩ hl.1 rfl (Nat.le_of_ble_eq_true rfl) dX9_date_268 ⟨Nat.zero_le _, Nat.zero_le _⟩) hw (fun r268 H locs hp268 hw => ?_)
                                      subst hp268
                                      rw [← hdw] at hev
                                      refine zif_eq (pc := 271) hx hb 277 (by omega) dX9_date_271 (by decide) (fun c271 => ?_) (fun c271 => ?_)
                                      · skip
                                        rw [hdw] at c271 hev
                                        have eT : tkD S E st3 dv = (st3.1 + 1, st3.2 ++ [dv]) := tkD_in (by omega) (by rcases hev with h9 | h9 <;> (first | exact h9.2 | (exfalso; have h8 := h9.1; omega)))
                                        have hfl2 : st3.2.length + 1 ≤ TT.2.length := by have h9 := (fold_le (Sd := S) (Ex := E) ((L.take en.toNat).drop (kk.toNat + 1)) (tkD S E st3 dv)).2; rw [hT1, eT] at h9; simpa using h9
                                        refine lv_aload_n (pc := 277) hx hb dX9_date_277 rfl (lv_at hl 9 rfl) ?_
                                        refine zgetR (pc := 278) hx hb hG hown hw hmd (T := TX9) rfl 23 (by decide) rfl wf_X9_54 rfl hB23 dX9_date_278 ?_
                                        refine lv_aload_n (pc := 281) hx hb dX9_date_281 rfl (lv_at hl 9 rfl) ?_
                                        refine zgetI (pc := 282) hx hb hG hown hw hmd (T := TX9) rfl 24 (by decide) rfl wf_X9_247 rfl dX9_date_282 ?_
                                        refine lv_aload_n (pc := 285) hx hb dX9_date_285 rfl (lv_at hl 9 rfl) ?_
                                        refine zgetR (pc := 286) hx hb hG hown hw hmd (T := TX9) rfl 20 (by decide) rfl wf_X9_48 rfl hB20 dX9_date_286 ?_
                                        refine lv_iload (pc := 289) hx hb dX9_date_289 (lv_at hl 1 rfl) ?_
                                        refine zald (pc := 291) hx hb hw hA20 ⟨by omega, by omega⟩ (by omega) dX9_date_291 ?_
                                        refine zast (pc := 292) hx hb hw hA23 ⟨by omega, by omega⟩ (by omega) dX9_date_292 (fun H locs hw => ?_)
                                        obtain ⟨X292, eX292⟩ : ∃ Y : zX, Y = up2 XL213 a23 (XL213 md 24).toNat (XL213 a20 kk.toNat) := ⟨_, rfl⟩
                                        rw [← eX292] at hw
                                        refine lv_aload_n (pc := 293) hx hb dX9_date_293 rfl (lv_at hl 9 rfl) ?_
                                        refine lv_dup (pc := 294) hx hb dX9_date_294 rfl ?_
                                        refine zgetI (pc := 295) hx hb hG hown hw hmd (T := TX9) rfl 24 (by decide) rfl wf_X9_247 rfl dX9_date_295 ?_
                                        refine ziconst (pc := 298) (n := 1) hx hb dX9_date_298 ?_
                                        refine zadd (pc := 299) hx hb dX9_date_299 ?_
                                        refine zputI (pc := 300) hx hb hG hown hw hmd (T := TX9) rfl 24 (by decide) rfl wf_X9_247 rfl (by decide +kernel) rfl dX9_date_300 (fun H locs hw => ?_)
                                        obtain ⟨X300, eX300⟩ : ∃ Y : zX, Y = up2 X292 md 24 ((X292 md 24) + 1) := ⟨_, rfl⟩
                                        rw [← eX300] at hw
                                        refine ziinc (pc := 303) (lv' := [(10, .int (iI (kk + 1))), (2, .int (iI x256)), (9, .int (iI en)), (8, .int (iI fi)), (7, .int (iI x91)), (6, .int (iI r59)), (5, .int (iI sp)), (4, .int (iI x46)), (3, .int (iI x35)), (0, .ref md), (1, .int (iI n))]) hx hb 1 dX9_date_303 hl rfl (by decide) rfl (fun ls hl => ?_)
                                        obtain ⟨x303, ex303⟩ : ∃ zz : Int, zz = (kk + 1) := ⟨_, rfl⟩
                                        rw [← ex303] at hl
                                        refine lv_goto (pc := 306) (tgt := 213) hx hb dX9_date_306 (by decide) ?_
                                        exact ih213 x303 x256 (tkD S E st3 dv) X300 _ _ (by (first | assumption | omega)) (by rw [ex303, show (kk + 1).toNat = kk.toNat + 1 by omega]; exact hT1) (by first | exact hm | (rw [eX300, up2_k (by decide), eX292, up2_o (Ne.symm hN23)]; exact hm)) (by first | exact hf | (rw [eX300, up2_o hN20, eX292, up2_o (zne9 hL20 hL23 (by decide))]; exact hf)) (by rw [eT]; first | exact h24s | (rw [eX300, up2_s, eX292, up2_o (Ne.symm hN23), h24s]; simp)) (by rw [eT]; first | exact h23s | exact put_get h24s h23s (by rw [eX300, up2_o hN23, eX292, up2_s, hdw]) (fun j hj => by rw [eX300, up2_o hN23, eX292, up2_k hj])) (by first | exact ho | exact fun b g1 g2 g3 => by rw [eX300, up2_o g1, eX292, up2_o g3]; exact ho b g1 g2 g3) (by first | exact hq | exact fun q g1 g2 => by rw [eX300, up2_k g2, eX292, up2_o (Ne.symm hN23)]; exact hq q g1 g2) (by rw [eT]; first | exact hlf | (show _ = _ - (st3.1 + 1); omega)) (by exact Int.le_trans h0s (tkD_le st3 dv).1) (by omega) hw _ (lv_sub hl [0, 2, 3, 4, 5, 6, 7, 8, 1, 9, 10] rfl)
                                      · skip
                                        rw [hdw] at c271 hev
                                        have eT : tkD S E st3 dv = (st3.1 + 1, st3.2) := tkD_out (by omega) (by rcases hev with h9 | h9 <;> (first | exact h9.2 | (exfalso; have h8 := h9.1; omega)))
                                        refine lv_goto (pc := 274) (tgt := 303) hx hb dX9_date_274 (by decide) ?_
                                        refine ziinc (pc := 303) (lv' := [(10, .int (iI (kk + 1))), (2, .int (iI x256)), (9, .int (iI en)), (8, .int (iI fi)), (7, .int (iI x91)), (6, .int (iI r59)), (5, .int (iI sp)), (4, .int (iI x46)), (3, .int (iI x35)), (0, .ref md), (1, .int (iI n))]) hx hb 1 dX9_date_303 hl rfl (by decide) rfl (fun ls hl => ?_)
                                        obtain ⟨x303, ex303⟩ : ∃ zz : Int, zz = (kk + 1) := ⟨_, rfl⟩
                                        rw [← ex303] at hl
                                        refine lv_goto (pc := 306) (tgt := 213) hx hb dX9_date_306 (by decide) ?_
                                        exact ih213 x303 x256 (tkD S E st3 dv) XL213 _ _ (by (first | assumption | omega)) (by rw [ex303, show (kk + 1).toNat = kk.toNat + 1 by omega]; exact hT1) (by first | exact hm | (rw [eX300, up2_k (by decide), eX292, up2_o (Ne.symm hN23)]; exact hm)) (by first | exact hf | (rw [eX300, up2_o hN20, eX292, up2_o (zne9 hL20 hL23 (by decide))]; exact hf)) (by rw [eT]; first | exact h24s | (rw [eX300, up2_s, eX292, up2_o (Ne.symm hN23), h24s]; simp)) (by rw [eT]; first | exact h23s | exact put_get h24s h23s (by rw [eX300, up2_o hN23, eX292, up2_s, hdw]) (fun j hj => by rw [eX300, up2_o hN23, eX292, up2_k hj])) (by first | exact ho | exact fun b g1 g2 g3 => by rw [eX300, up2_o g1, eX292, up2_o g3]; exact ho b g1 g2 g3) (by first | exact hq | exact fun q g1 g2 => by rw [eX300, up2_k g2, eX292, up2_o (Ne.symm hN23)]; exact hq q g1 g2) (by rw [eT]; first | exact hlf | (show _ = _ - (st3.1 + 1); omega)) (by exact Int.le_trans h0s (tkD_le st3 dv).1) (by omega) hw _ (lv_sub hl [0, 2, 3, 4, 5, 6, 7, 8, 1, 9, 10] rfl)
                                    · skip
                                      have eT : tkD S E st3 dv = st3 := tkD_no (Or.inr (Or.inl (by omega)))
                                      refine lv_goto (pc := 253) (tgt := 303) hx hb dX9_date_253 (by decide) ?_
                                      refine ziinc (pc := 303) (lv' := [(10, .int (iI (kk + 1))), (9, .int (iI en)), (8, .int (iI fi)), (7, .int (iI x91)), (6, .int (iI r59)), (5, .int (iI sp)), (4, .int (iI x46)), (3, .int (iI x35)), (2, .int (iI lf3)), (0, .ref md), (1, .int (iI n))]) hx hb 0 dX9_date_303 hl rfl (by decide) rfl (fun ls hl => ?_)
                                      obtain ⟨x303, ex303⟩ : ∃ zz : Int, zz = (kk + 1) := ⟨_, rfl⟩
                                      rw [← ex303] at hl
                                      refine lv_goto (pc := 306) (tgt := 213) hx hb dX9_date_306 (by decide) ?_
                                      exact ih213 x303 lf3 (tkD S E st3 dv) XL213 _ _ (by (first | assumption | omega)) (by rw [ex303, show (kk + 1).toNat = kk.toNat + 1 by omega]; exact hT1) (by first | exact hm | (rw [eX300, up2_k (by decide), eX292, up2_o (Ne.symm hN23)]; exact hm)) (by first | exact hf | (rw [eX300, up2_o hN20, eX292, up2_o (zne9 hL20 hL23 (by decide))]; exact hf)) (by rw [eT]; first | exact h24s | (rw [eX300, up2_s, eX292, up2_o (Ne.symm hN23), h24s]; simp)) (by rw [eT]; first | exact h23s | exact put_get h24s h23s (by rw [eX300, up2_o hN23, eX292, up2_s, hdw]) (fun j hj => by rw [eX300, up2_o hN23, eX292, up2_k hj])) (by first | exact ho | exact fun b g1 g2 g3 => by rw [eX300, up2_o g1, eX292, up2_o g3]; exact ho b g1 g2 g3) (by first | exact hq | exact fun q g1 g2 => by rw [eX300, up2_k g2, eX292, up2_o (Ne.symm hN23)]; exact hq q g1 g2) (by rw [eT]; first | exact hlf | (show _ = _ - (st3.1 + 1); omega)) (by exact Int.le_trans h0s (tkD_le st3 dv).1) (by omega) hw _ (lv_sub hl [0, 1, 2, 3, 4, 5, 6, 7, 8, 9, 10] rfl)
                          exact lp213 _ fi lf st2 XL102 _ _ (by (first | assumption | omega)) (by rw [hTr, if_neg (by omega), ← hfi, ← hen]) (by exact hmL) (by exact hfL) (by rw [h24b]; exact h24) (by rw [h23b]; exact h23) (by exact ho) (by exact hq) (by exact hlf) (by exact hb1.1) (Nat.lt_succ_self _) hw _ (lv_sub hl [0, 1, 2, 3, 4, 5, 6, 7, 8, 9, 10] rfl)
                        · skip
                          have e9 : TT = st2 := by rw [hTr, if_pos (by omega)]
                          have g24 : XL102 md 24 = (TT.2.length : Int) := by rw [e9, h24b]; exact h24
                          have g23 : ∀ j, j < TT.2.length → XL102 a23 j = TT.2.getD j 0 := by rw [e9, h23b]; exact h23
                          refine lv_goto (pc := 206) (tgt := 309) hx hb dX9_date_206 (by decide) ?_
                          exact jn309_1 lf XL102 _ _ (by rw [e9]; exact hlf) (by exact g24) (by exact g23) (by exact ho) (by exact hq) hw _ (lv_sub hl [2, 3, 4, 5, 6, 7, 8, 9] rfl)
                    refine lv_iload_n (pc := 175) hx hb dX9_date_175 rfl (lv_at hl 5 rfl) ?_
                    refine zif_ne (pc := 176) hx hb 186 (by omega) dX9_date_176 (by decide) (fun c176 => ?_) (fun c176 => ?_)
                    · skip
                      refine lv_iload (pc := 186) hx hb dX9_date_186 (lv_at hl 0 rfl) ?_
                      refine ziconst (pc := 188) (n := 1) hx hb dX9_date_188 ?_
                      refine zadd (pc := 189) hx hb dX9_date_189 ?_
                      exact jn190_3 (fi + 1) _ _ (by unfold enR; first | (rw [if_pos (by omega)]; omega) | (rw [if_neg (by omega), ← hfi])) (by (first | assumption | omega)) (by first | omega | (have h9 : fiR S L.length = 0 := by unfold fiR; rw [if_pos (by omega)]); omega) hw _ (lv_sub hl [0, 1, 2, 3, 4, 5, 6, 7, 8] rfl)
                    · skip
                      refine lv_aload_n (pc := 179) hx hb dX9_date_179 rfl (lv_at hl 7 rfl) ?_
                      refine zgetI (pc := 180) hx hb hG hown hw hmd (T := TX9) rfl 21 (by decide) rfl wf_X9_260 rfl dX9_date_180 ?_
                      refine lv_goto (pc := 183) (tgt := 190) hx hb dX9_date_183 (by decide) ?_
                      exact jn190_3 (XL102 md 21) _ _ (by unfold enR; first | (rw [if_pos (by omega)]; omega) | (rw [if_neg (by omega), ← hfi])) (by (first | assumption | omega)) (by first | omega | (have h9 : fiR S L.length = 0 := by unfold fiR; rw [if_pos (by omega)]); omega) hw _ (lv_sub hl [0, 1, 2, 3, 4, 5, 6, 7, 8] rfl)
                  rw [show dd = x91 by omega, ← hL] at hm hf hcl
                  have hmL := hm
                  have hfL := hf
                  have hLl : L.length ≤ 366 := by omega
                  clear hcl
                  refine lv_iload_n (pc := 149) hx hb dX9_date_149 rfl (lv_at hl 5 rfl) ?_
                  refine zif_ne (pc := 150) hx hb 157 (by omega) dX9_date_150 (by decide) (fun c150 => ?_) (fun c150 => ?_)
                  · skip
                    refine lv_iload_n (pc := 157) hx hb dX9_date_157 rfl (lv_at hl 5 rfl) ?_
                    refine zif_le (pc := 158) hx hb 167 (by omega) dX9_date_158 (by decide) (fun c158 => ?_) (fun c158 => ?_)
                    · skip
                      refine lv_aload_n (pc := 167) hx hb dX9_date_167 rfl (lv_at hl 7 rfl) ?_
                      refine zgetI (pc := 168) hx hb hG hown hw hmd (T := TX9) rfl 21 (by decide) rfl wf_X9_260 rfl dX9_date_168 ?_
                      refine lv_iload_n (pc := 171) hx hb dX9_date_171 rfl (lv_at hl 5 rfl) ?_
                      refine zadd (pc := 172) hx hb dX9_date_172 ?_
                      exact jn173_2 ((XL102 md 21) + x35) _ _ (by unfold fiR; first | (rw [if_pos (by omega)]; done) | (rw [if_neg (by omega), if_pos (by omega)]; omega) | (rw [if_neg (by omega), if_neg (by omega)]; omega)) (by (first | assumption | omega)) hw _ (lv_sub hl [0, 1, 2, 3, 4, 5, 6, 7, 8] rfl)
                    · skip
                      refine lv_iload_n (pc := 161) hx hb dX9_date_161 rfl (lv_at hl 5 rfl) ?_
                      refine ziconst (pc := 162) (n := 1) hx hb dX9_date_162 ?_
                      refine zsub (pc := 163) hx hb dX9_date_163 ?_
                      refine lv_goto (pc := 164) (tgt := 173) hx hb dX9_date_164 (by decide) ?_
                      exact jn173_2 (x35 - 1) _ _ (by unfold fiR; first | (rw [if_pos (by omega)]; done) | (rw [if_neg (by omega), if_pos (by omega)]; omega) | (rw [if_neg (by omega), if_neg (by omega)]; omega)) (by (first | assumption | omega)) hw _ (lv_sub hl [0, 1, 2, 3, 4, 5, 6, 7, 8] rfl)
                  · skip
                    refine ziconst (pc := 153) (n := 0) hx hb dX9_date_153 ?_
                    refine lv_goto (pc := 154) (tgt := 173) hx hb dX9_date_154 (by decide) ?_
                    exact jn173_2 0 _ _ (by unfold fiR; first | (rw [if_pos (by omega)]; done) | (rw [if_neg (by omega), if_pos (by omega)]; omega) | (rw [if_neg (by omega), if_neg (by omega)]; omega)) (by (first | assumption | omega)) hw _ (lv_sub hl [0, 1, 2, 3, 4, 5, 6, 7, 8] rfl)
                · skip
                  refine lv_aload_n (pc := 109) hx hb dX9_date_109 rfl (lv_at hl 7 rfl) ?_
                  refine lv_iload_n (pc := 110) hx hb dX9_date_110 rfl (lv_at hl 8 rfl) ?_
                  refine lv_iload (pc := 111) hx hb dX9_date_111 (lv_at hl 0 rfl) ?_
                  refine zkIp (pc := 113) (zrV (As := [.int (iI n), .int (iI dd)]) hx hb hml hown hG hw (c_X9_counts l Γ K XL102 Rf md n dd (ρ) M (by (first | assumption | omega)) (by (first | assumption | omega)) (by (first | assumption | omega)) (by (first | assumption | omega))) (T := TX9) hmd rfl cb_X9_counts wl_X9_263 rfl ⟨Nat.le_of_ble_eq_true rfl, Nat.le_of_ble_eq_true rfl⟩ hl.1 rfl (Nat.le_of_ble_eq_true rfl) dX9_date_113 ⟨Nat.zero_le _, Nat.zero_le _⟩) hw (fun r113 H locs hp113 hw => ?_)
                  subst hp113
                  have hbi := bI_rng (ctS (serM M n.toNat) (useM M n.toNat) dd)
                  refine zif_ne (pc := 116) hx hb 122 (by omega) dX9_date_116 (by decide) (fun c116 => ?_) (fun c116 => ?_)
                  · skip
                    rw [hS, hU] at c116
                    have q116 := bI_1 c116
                    refine lv_aload_n (pc := 122) hx hb dX9_date_122 rfl (lv_at hl 7 rfl) ?_
                    refine zgetR (pc := 123) hx hb hG hown hw hmd (T := TX9) rfl 20 (by decide) rfl wf_X9_48 rfl hB20 dX9_date_123 ?_
                    refine lv_aload_n (pc := 126) hx hb dX9_date_126 rfl (lv_at hl 7 rfl) ?_
                    refine zgetI (pc := 127) hx hb hG hown hw hmd (T := TX9) rfl 21 (by decide) rfl wf_X9_260 rfl dX9_date_127 ?_
                    refine lv_iload (pc := 130) hx hb dX9_date_130 (lv_at hl 0 rfl) ?_
                    refine zast (pc := 132) hx hb hw hA20 ⟨by omega, by omega⟩ (by omega) dX9_date_132 (fun H locs hw => ?_)
                    obtain ⟨X132, eX132⟩ : ∃ Y : zX, Y = up2 XL102 a20 (XL102 md 21).toNat dd := ⟨_, rfl⟩
                    rw [← eX132] at hw
                    refine lv_aload_n (pc := 133) hx hb dX9_date_133 rfl (lv_at hl 7 rfl) ?_
                    refine lv_dup (pc := 134) hx hb dX9_date_134 rfl ?_
                    refine zgetI (pc := 135) hx hb hG hown hw hmd (T := TX9) rfl 21 (by decide) rfl wf_X9_260 rfl dX9_date_135 ?_
                    refine ziconst (pc := 138) (n := 1) hx hb dX9_date_138 ?_
                    refine zadd (pc := 139) hx hb dX9_date_139 ?_
                    refine zputI (pc := 140) hx hb hG hown hw hmd (T := TX9) rfl 21 (by decide) rfl wf_X9_260 rfl (by decide +kernel) rfl dX9_date_140 (fun H locs hw => ?_)
                    obtain ⟨X140, eX140⟩ : ∃ Y : zX, Y = up2 X132 md 21 ((X132 md 21) + 1) := ⟨_, rfl⟩
                    rw [← eX140] at hw
                    refine ziinc (pc := 143) (lv' := [(8, .int (iI (dd + 1))), (7, .int (iI x91)), (6, .int (iI r59)), (5, .int (iI sp)), (4, .int (iI x46)), (3, .int (iI x35)), (2, .int (iI lf)), (0, .ref md), (1, .int (iI n))]) hx hb 0 dX9_date_143 hl rfl (by decide) rfl (fun ls hl => ?_)
                    obtain ⟨x143, ex143⟩ : ∃ zz : Int, zz = (dd + 1) := ⟨_, rfl⟩
                    rw [← ex143] at hl
                    refine lv_goto (pc := 146) (tgt := 102) hx hb dX9_date_146 (by decide) ?_
                    exact ih102 x143 X140 _ _ (by (first | assumption | omega)) (by rw [ex143, cdL_last (by omega)]; first | (rw [if_neg (by rw [q116]; simp), List.append_nil]; exact hm) | (rw [if_pos q116, List.length_append, eX140, up2_s, eX132, up2_o (Ne.symm hN20), hm]; rfl)) (by rw [ex143, cdL_last (by omega)]; first | (rw [if_neg (by rw [q116]; simp), List.append_nil]; exact hf) | (rw [if_pos q116]; exact put_get hm hf (by rw [eX140, up2_o hN20, eX132, up2_s]) (fun j hj => by rw [eX140, up2_o hN20, eX132, up2_k hj]))) (by first | exact h24b | (rw [eX140, up2_k (by decide), eX132, up2_o (Ne.symm hN20)]; exact h24b)) (by first | exact h23b | (rw [eX140, up2_o hN23, eX132, up2_o (zne9 hL23 hL20 (by decide))]; exact h23b)) (by first | exact ho | exact fun b g1 g2 g3 => by rw [eX140, up2_o g1, eX132, up2_o g2]; exact ho b g1 g2 g3) (by first | exact hq | exact fun q g1 g2 => by rw [eX140, up2_k g1, eX132, up2_o (Ne.symm hN20)]; exact hq q g1 g2) (by omega) hw _ (lv_sub hl [0, 1, 2, 3, 4, 5, 6, 7, 8] rfl)
                  · skip
                    rw [hS, hU] at c116 hbi
                    have q116 := bI_0 (b := ctS S U dd) (by omega)
                    refine lv_goto (pc := 119) (tgt := 143) hx hb dX9_date_119 (by decide) ?_
                    refine ziinc (pc := 143) (lv' := [(8, .int (iI (dd + 1))), (7, .int (iI x91)), (6, .int (iI r59)), (5, .int (iI sp)), (4, .int (iI x46)), (3, .int (iI x35)), (2, .int (iI lf)), (0, .ref md), (1, .int (iI n))]) hx hb 0 dX9_date_143 hl rfl (by decide) rfl (fun ls hl => ?_)
                    obtain ⟨x143, ex143⟩ : ∃ zz : Int, zz = (dd + 1) := ⟨_, rfl⟩
                    rw [← ex143] at hl
                    refine lv_goto (pc := 146) (tgt := 102) hx hb dX9_date_146 (by decide) ?_
                    exact ih102 x143 XL102 _ _ (by (first | assumption | omega)) (by rw [ex143, cdL_last (by omega)]; first | (rw [if_neg (by rw [q116]; simp), List.append_nil]; exact hm) | (rw [if_pos q116, List.length_append, eX140, up2_s, eX132, up2_o (Ne.symm hN20), hm]; rfl)) (by rw [ex143, cdL_last (by omega)]; first | (rw [if_neg (by rw [q116]; simp), List.append_nil]; exact hf) | (rw [if_pos q116]; exact put_get hm hf (by rw [eX140, up2_o hN20, eX132, up2_s]) (fun j hj => by rw [eX140, up2_o hN20, eX132, up2_k hj]))) (by first | exact h24b | (rw [eX140, up2_k (by decide), eX132, up2_o (Ne.symm hN20)]; exact h24b)) (by first | exact h23b | (rw [eX140, up2_o hN23, eX132, up2_o (zne9 hL23 hL20 (by decide))]; exact h23b)) (by first | exact ho | exact fun b g1 g2 g3 => by rw [eX140, up2_o g1, eX132, up2_o g2]; exact ho b g1 g2 g3) (by first | exact hq | exact fun q g1 g2 => by rw [eX140, up2_k g1, eX132, up2_o (Ne.symm hN20)]; exact hq q g1 g2) (by omega) hw _ (lv_sub hl [0, 1, 2, 3, 4, 5, 6, 7, 8] rfl)
            exact lp102 _ r59 X95 _ _ (by (first | assumption | omega)) (by rw [show (r59 - r59).toNat = 0 by omega, eX95, up2_s]; rfl) (by rw [show (r59 - r59).toNat = 0 by omega]; exact fun j hj => absurd hj (Nat.not_lt_zero _)) (by rw [eX95, up2_k (by decide)]) (by rw [eX95, up2_o hN23]) (by exact fun b g1 g2 g3 => by rw [eX95, up2_o g1]; exact ho b g1 g2 g3) (by exact fun q g1 g2 => by rw [eX95, up2_k g1]; exact hq q g1 g2) (Nat.lt_succ_self _) hw _ (lv_sub hl [0, 1, 2, 3, 4, 5, 6, 7, 8] rfl)
          · skip
            exact zretV (pc := 76) hx hb hlocks hr hw (Nat.zero_le _) (Nat.zero_le _) dX9_date_76 ⟨by (try dsimp only) <;> (
                                        have e9 : spS S U E 4001 0 (0, []) = st2 := by rw [← ht9, spS_h (Or.inr (by omega))]
                                        intro b20 b23 g1 g2
                                        rw [hB20] at g1; cases g1
                                        rw [hB23] at g2; cases g2
                                        rw [hDm, e9]
                                        exact ⟨h24, h23, ho, hq⟩), rfl, rfl⟩
    exact lp51 _ 0 mo9 0 (0, []) X2 _ _ (by (first | assumption | omega)) (by rw [Int.zero_mul]) (by exact dlB_0 _ _) (by rfl) (by show mo9 = mo9 - 0; omega) (by rw [eX2]; exact up2_s) (by exact fun j hj => absurd hj (Nat.not_lt_zero _)) (by exact fun b g1 g2 g3 => by rw [eX2, up2_o g1]) (by exact fun q g1 g2 => by rw [eX2, up2_k g2]) (Nat.lt_succ_self _) hw _ (lv_sub hl [0, 1, 2, 3, 4, 5] rfl)
  refine zif_ne (pc := 12) hx hb 21 (by omega) dX9_date_12 (by decide) (fun c12 => ?_) (fun c12 => ?_)
  · skip
    refine lv_aload_n (pc := 21) hx hb dX9_date_21 rfl (lv_at hl 0 rfl) ?_
    refine lv_iload_n (pc := 22) hx hb dX9_date_22 rfl (lv_at hl 1 rfl) ?_
    refine zbipush (pc := 23) (n := 6) hx hb dX9_date_23 rfl ?_
    refine zkIp (pc := 25) (zrV (As := [.int (iI n), .int (iI 6)]) hx hb hml hown hG hw (c_X9_of l Γ K X2 Rf md n 6 a17 (by (first | assumption | omega)) (by (first | assumption | omega)) (by (first | assumption | omega)) (by (first | assumption | omega))) (T := TX9) hmd rfl cb_X9_of wl_X9_234 rfl ⟨Nat.le_of_ble_eq_true rfl, Nat.le_of_ble_eq_true rfl⟩ hl.1 rfl (Nat.le_of_ble_eq_true rfl) dX9_date_25 ⟨Nat.zero_le _, Nat.zero_le _⟩) hw (fun r25 H locs hp25 hw => ?_)
    subst hp25
    exact jn28_0 (X2 a17 (11 * n + 6).toNat) _ _ (by omega) hw _ (lv_sub hl [0, 1] rfl)
  · skip
    refine zldcw (pc := 15) (n := 2147483647) hx hb hown hG wk_X9_256 dX9_date_15 ?_
    refine lv_goto (pc := 18) (tgt := 28) hx hb dX9_date_18 (by decide) ?_
    exact jn28_0 2147483647 _ _ (by omega) hw _ (lv_sub hl [0, 1] rfl)
