set_option maxHeartbeats 4000000 in
set_option maxRecDepth 100000 in
theorem c_X9_counts (l : Launch) (Γ : zG) (K : zK) (X : zX) (Rf : zR) (md : Nat) (n : Int) (day : Int) (ρ : zL) (M : zM) (hR : repR ρ K X Rf md M) (hM : okM M) (h1 : 0 ≤ n ∧ n < M 40 16) (hd9 : 0 ≤ day ∧ day ≤ 73048) : Ct l yX9_counts cX9_counts 9 (some .boolean) 6 0 0 Γ [.ref md, .int (iI n), .int (iI day)] K X Rf (pI (zp0 K X Rf (fun r : Int => r = bI (ctS (serM M n.toNat) (useM M n.toNat) day)))) := by
  refine Ct.of (by decide +kernel) (Nat.le_of_ble_eq_true rfl) ?_
  intro p e s m below meth c ls hx hb hr hml hown hG hlocks hname hw hl
  have hl : lv_has ls 9 [(0, .ref md), (1, .int (iI n)), (2, .int (iI day))] := hl
  obtain ⟨hmd, hlmd⟩ := id hR.1
  obtain ⟨⟨hb1, hb2, hb3, hb4⟩, hokP, hokL, hokS, hokW, hokF⟩ := id hM
  have hq1 : X md 1 = M 40 1 := hR.2.1 1 rfl
  have hq5 : X md 5 = M 40 5 := hR.2.1 5 rfl
  have hq16 : X md 16 = M 40 16 := hR.2.1 16 rfl
  have hq25 : X md 25 = M 40 25 := hR.2.1 25 rfl
  have hq26 : X md 26 = M 40 26 := hR.2.1 26 rfl
  have hq27 : X md 27 = M 40 27 := hR.2.1 27 rfl
  have hq28 : X md 28 = M 40 28 := hR.2.1 28 rfl
  have hq29 : X md 29 = M 40 29 := hR.2.1 29 rfl
  obtain ⟨a2, hB2, hA2, hL2, hD2⟩ : ∃ a, Rf md 2 = some a ∧ K a = (2, 24) ∧ ρ a = 2003 ∧ X a = M 2 := hR.fd 2 (by decide) rfl
  have hN2 : Apt a2 md := zkn2 hA2 hmd (by simp)
  obtain ⟨a3, hB3, hA3, hL3, hD3⟩ : ∃ a, Rf md 3 = some a ∧ K a = (2, 24) ∧ ρ a = 2004 ∧ X a = M 3 := hR.fd 3 (by decide) rfl
  have hN3 : Apt a3 md := zkn2 hA3 hmd (by simp)
  obtain ⟨a4, hB4, hA4, hL4, hD4⟩ : ∃ a, Rf md 4 = some a ∧ K a = (2, 24) ∧ ρ a = 2005 ∧ X a = M 4 := hR.fd 4 (by decide) rfl
  have hN4 : Apt a4 md := zkn2 hA4 hmd (by simp)
  obtain ⟨a17, hB17, hA17, hL17, hD17⟩ : ∃ a, Rf md 17 = some a ∧ K a = (2, 66) ∧ ρ a = 2018 ∧ X a = M 17 := hR.fd 17 (by decide) rfl
  have hN17 : Apt a17 md := zkn2 hA17 hmd (by simp)
  obtain ⟨a18, hB18, hA18, hL18, hD18⟩ : ∃ a, Rf md 18 = some a ∧ K a = (2, 24) ∧ ρ a = 2019 ∧ X a = M 18 := hR.fd 18 (by decide) rfl
  have hN18 : Apt a18 md := zkn2 hA18 hmd (by simp)
  have hoS := (hokS n.toNat (by omega)).1
  have hv1 : X a17 (11 * n + 1).toNat = serM M n.toNat 1 := by rw [hD17, show (11 * n + 1).toNat = 11 * n.toNat + 1 by omega]; exact (serM_17 (by decide)).symm
  have hv2 : X a17 (11 * n + 2).toNat = serM M n.toNat 2 := by rw [hD17, show (11 * n + 2).toNat = 11 * n.toNat + 2 by omega]; exact (serM_17 (by decide)).symm
  have hv4 : X a17 (11 * n + 4).toNat = serM M n.toNat 4 := by rw [hD17, show (11 * n + 4).toNat = 11 * n.toNat + 4 by omega]; exact (serM_17 (by decide)).symm
  have hv9 : X a17 (11 * n + 9).toNat = serM M n.toNat 9 := by rw [hD17, show (11 * n + 9).toNat = 11 * n.toNat + 9 by omega]; exact (serM_17 (by decide)).symm
  refine lv_aload_n (pc := 0) hx hb dX9_counts_0 rfl (lv_at hl 0 rfl) ?_
  refine lv_iload_n (pc := 1) hx hb dX9_counts_1 rfl (lv_at hl 1 rfl) ?_
  refine ziconst (pc := 2) (n := 1) hx hb dX9_counts_2 ?_
  refine zkIp (pc := 3) (zrV (As := [.int (iI n), .int (iI 1)]) hx hb hml hown hG hw (c_X9_of l Γ K X Rf md n 1 a17 (by (first | assumption | omega)) (by (first | assumption | omega)) (by (first | assumption | omega)) (by (first | assumption | omega))) (T := TX9) hmd rfl cb_X9_of wl_X9_234 rfl ⟨Nat.le_of_ble_eq_true rfl, Nat.le_of_ble_eq_true rfl⟩ hl.1 rfl (Nat.le_of_ble_eq_true rfl) dX9_counts_3 ⟨Nat.zero_le _, Nat.zero_le _⟩) hw (fun r3 H locs hp3 hw => ?_)
  subst hp3
  refine zsipush (pc := 6) (n := 1440) hx hb dX9_counts_6 rfl ?_
  refine zdiv (pc := 9) hx hb (by omega) dX9_counts_9 ?_
  refine ztop (fun x10 ex10 => ?_)
  refine lv_istore_n (pc := 10) (lv' := [(3, .int (iI x10)), (0, .ref md), (1, .int (iI n)), (2, .int (iI day))]) hx hb dX9_counts_10 rfl hl (by decide) rfl (fun ls hl => ?_)
  refine lv_aload_n (pc := 11) hx hb dX9_counts_11 rfl (lv_at hl 1 rfl) ?_
  refine lv_iload_n (pc := 12) hx hb dX9_counts_12 rfl (lv_at hl 2 rfl) ?_
  refine ziconst (pc := 13) (n := 2) hx hb dX9_counts_13 ?_
  refine zkIp (pc := 14) (zrV (As := [.int (iI n), .int (iI 2)]) hx hb hml hown hG hw (c_X9_of l Γ K X Rf md n 2 a17 (by (first | assumption | omega)) (by (first | assumption | omega)) (by (first | assumption | omega)) (by (first | assumption | omega))) (T := TX9) hmd rfl cb_X9_of wl_X9_234 rfl ⟨Nat.le_of_ble_eq_true rfl, Nat.le_of_ble_eq_true rfl⟩ hl.1 rfl (Nat.le_of_ble_eq_true rfl) dX9_counts_14 ⟨Nat.zero_le _, Nat.zero_le _⟩) hw (fun r14 H locs hp14 hw => ?_)
  subst hp14
  refine ztop (fun x17 ex17 => ?_)
  refine lv_istore (pc := 17) (lv' := [(4, .int (iI x17)), (3, .int (iI x10)), (0, .ref md), (1, .int (iI n)), (2, .int (iI day))]) hx hb dX9_counts_17 hl (by decide) rfl (fun ls hl => ?_)
  refine lv_aload_n (pc := 19) hx hb dX9_counts_19 rfl (lv_at hl 2 rfl) ?_
  refine lv_iload_n (pc := 20) hx hb dX9_counts_20 rfl (lv_at hl 3 rfl) ?_
  refine ziconst (pc := 21) (n := 4) hx hb dX9_counts_21 ?_
  refine zkIp (pc := 22) (zrV (As := [.int (iI n), .int (iI 4)]) hx hb hml hown hG hw (c_X9_of l Γ K X Rf md n 4 a17 (by (first | assumption | omega)) (by (first | assumption | omega)) (by (first | assumption | omega)) (by (first | assumption | omega))) (T := TX9) hmd rfl cb_X9_of wl_X9_234 rfl ⟨Nat.le_of_ble_eq_true rfl, Nat.le_of_ble_eq_true rfl⟩ hl.1 rfl (Nat.le_of_ble_eq_true rfl) dX9_counts_22 ⟨Nat.zero_le _, Nat.zero_le _⟩) hw (fun r22 H locs hp22 hw => ?_)
  subst hp22
  refine ztop (fun x25 ex25 => ?_)
  refine lv_istore (pc := 25) (lv' := [(5, .int (iI x25)), (4, .int (iI x17)), (3, .int (iI x10)), (0, .ref md), (1, .int (iI n)), (2, .int (iI day))]) hx hb dX9_counts_25 hl (by decide) rfl (fun ls hl => ?_)
  refine lv_aload_n (pc := 27) hx hb dX9_counts_27 rfl (lv_at hl 3 rfl) ?_
  refine lv_iload_n (pc := 28) hx hb dX9_counts_28 rfl (lv_at hl 4 rfl) ?_
  refine zbipush (pc := 29) (n := 9) hx hb dX9_counts_29 rfl ?_
  refine zkIp (pc := 31) (zrV (As := [.int (iI n), .int (iI 9)]) hx hb hml hown hG hw (c_X9_of l Γ K X Rf md n 9 a17 (by (first | assumption | omega)) (by (first | assumption | omega)) (by (first | assumption | omega)) (by (first | assumption | omega))) (T := TX9) hmd rfl cb_X9_of wl_X9_234 rfl ⟨Nat.le_of_ble_eq_true rfl, Nat.le_of_ble_eq_true rfl⟩ hl.1 rfl (Nat.le_of_ble_eq_true rfl) dX9_counts_31 ⟨Nat.zero_le _, Nat.zero_le _⟩) hw (fun r31 H locs hp31 hw => ?_)
  subst hp31
  have jn42_0 : ∀ (pl9 : Int) (H : Heap) (locs : List Loc), (hpl : pl9 = if (serM M n.toNat) 9 = 0 then 1 else 0) → Wd Γ (zA K s.heap.size) K X Rf s H locs → ∀ ls : Array Slot, lv_has ls 9 [(5, .int (iI x25)), (4, .int (iI x17)), (3, .int (iI x10)), (0, .ref md), (1, .int (iI n)), (2, .int (iI day))] → W p l e (rmL 6 0 0) s m ([.ref md, .int (iI n), .int (iI day)] : List Value).toArray below meth c H locs 0 0 (MQ below (zQ Γ K s.heap.size (pI (zp0 K X Rf (fun r : Int => r = bI (ctS (serM M n.toNat) (useM M n.toNat) day))))) ([.ref md, .int (iI n), .int (iI day)] : List Value).toArray s 0 0 (zA K s.heap.size)) (F0 m 42 ls [.int (iI pl9)]) := by
    intro pl9 H locs hpl hw ls hl
    have hx10 : x10 = bdS (serM M n.toNat) := by omega
    have hx17 : x17 = serM M n.toNat 2 := by omega
    have hx25 : x25 = serM M n.toNat 4 := by omega
    have hpl2 : pl9 = if serM M n.toNat 9 = 0 then 1 else 0 := hpl
    refine lv_istore (pc := 42) (lv' := [(6, .int (iI pl9)), (5, .int (iI x25)), (4, .int (iI x17)), (3, .int (iI x10)), (0, .ref md), (1, .int (iI n)), (2, .int (iI day))]) hx hb dX9_counts_42 hl (by decide) rfl (fun ls hl => ?_)
    have jn63_1 : ∀  (H : Heap) (locs : List Loc), (hw9 : ¬((serM M n.toNat) 4 ≠ 0 ∧ bitw ((serM M n.toNat) 4) day = 0)) → Wd Γ (zA K s.heap.size) K X Rf s H locs → ∀ ls : Array Slot, lv_has ls 9 [(6, .int (iI pl9)), (5, .int (iI x25)), (4, .int (iI x17)), (3, .int (iI x10)), (0, .ref md), (1, .int (iI n)), (2, .int (iI day))] → W p l e (rmL 6 0 0) s m ([.ref md, .int (iI n), .int (iI day)] : List Value).toArray below meth c H locs 0 0 (MQ below (zQ Γ K s.heap.size (pI (zp0 K X Rf (fun r : Int => r = bI (ctS (serM M n.toNat) (useM M n.toNat) day))))) ([.ref md, .int (iI n), .int (iI day)] : List Value).toArray s 0 0 (zA K s.heap.size)) (F0 m 63 ls []) := by
      intro H locs hw9 hw ls hl
      have hx25b : x25 = serM M n.toNat 4 := by omega
      refine lv_iload (pc := 63) hx hb dX9_counts_63 (lv_at hl 0 rfl) ?_
      refine zif_ne (pc := 65) hx hb 116 (by omega) dX9_counts_65 (by decide) (fun c65 => ?_) (fun c65 => ?_)
      · skip
        refine lv_iload (pc := 116) hx hb dX9_counts_116 (lv_at hl 2 rfl) ?_
        refine ziconst (pc := 118) (n := 1) hx hb dX9_counts_118 ?_
        refine zicmp_ne (pc := 119) hx hb 144 (by omega) (by omega) dX9_counts_119 (by decide) (fun c119 => ?_) (fun c119 => ?_)
        · skip
          refine lv_iload (pc := 144) hx hb dX9_counts_144 (lv_at hl 2 rfl) ?_
          refine zif_ne (pc := 146) hx hb 151 (by omega) dX9_counts_146 (by decide) (fun c146 => ?_) (fun c146 => ?_)
          · skip
            refine lv_iload_n (pc := 151) hx hb dX9_counts_151 rfl (lv_at hl 6 rfl) ?_
            refine zkIp (pc := 152) (zrS (As := [.int (iI day)]) hx hb hml hown hG hw (c_X9_dateFor l Γ K X Rf day  (by (first | assumption | omega))) cb_X9_dateFor wl_X9_129 rfl ⟨Nat.le_of_ble_eq_true rfl, Nat.le_of_ble_eq_true rfl⟩ hl.1 rfl (Nat.le_of_ble_eq_true rfl) dX9_counts_152 ⟨Nat.zero_le _, Nat.zero_le _⟩) hw (fun r152 H locs hp152 hw => ?_)
            subst hp152
            have hp152f0 := mi_rng (d := day) (by omega) (by omega)
            have hp152f1 := mB_succ (i := mi day) (mi_rng (d := day) (by omega) (by omega)).1 (mi_rng (d := day) (by omega) (by omega)).2.1
            refine lv_iload_n (pc := 155) hx hb dX9_counts_155 rfl (lv_at hl 3 rfl) ?_
            refine zkIp (pc := 156) (zrS (As := [.int (iI x10)]) hx hb hml hown hG hw (c_X9_dateFor l Γ K X Rf x10  (by (first | assumption | omega))) cb_X9_dateFor wl_X9_129 rfl ⟨Nat.le_of_ble_eq_true rfl, Nat.le_of_ble_eq_true rfl⟩ hl.1 rfl (Nat.le_of_ble_eq_true rfl) dX9_counts_156 ⟨Nat.zero_le _, Nat.zero_le _⟩) hw (fun r156 H locs hp156 hw => ?_)
            subst hp156
            have hp156f0 := mi_rng (d := x10) (by omega) (by omega)
            have hp156f1 := mB_succ (i := mi x10) (mi_rng (d := x10) (by omega) (by omega)).1 (mi_rng (d := x10) (by omega) (by omega)).2.1
            refine zicmp_ne (pc := 159) hx hb 183 (by omega) (by omega) dX9_counts_159 (by decide) (fun c159 => ?_) (fun c159 => ?_)
            · skip
              refine ziconst (pc := 183) (n := 0) hx hb dX9_counts_183 ?_
              exact zretZ (pc := 184) hx hb hlocks hr (Or.inl rfl) hw (Nat.zero_le _) (Nat.zero_le _) dX9_counts_184 ⟨by (try dsimp only) <;> (rw [ct_ref hoS hd9]; unfold rcS; rw [if_neg hw9, if_neg (show ¬(serM M n.toNat 9 ≠ 0) by omega), if_neg (by omega), if_neg (by omega), ← hx10]; first | (rw [decide_eq_true (by omega)]; rfl) | (rw [decide_eq_false (by omega)]; rfl)), rfl, rfl, rfl⟩
            · skip
              refine lv_iload (pc := 162) hx hb dX9_counts_162 (lv_at hl 2 rfl) ?_
              refine ziconst (pc := 164) (n := 2) hx hb dX9_counts_164 ?_
              refine zicmp_eq (pc := 165) hx hb 179 (by omega) (by omega) dX9_counts_165 (by decide) (fun c165 => ?_) (fun c165 => ?_)
              · skip
                refine ziconst (pc := 179) (n := 1) hx hb dX9_counts_179 ?_
                refine lv_goto (pc := 180) (tgt := 184) hx hb dX9_counts_180 (by decide) ?_
                exact zretZ (pc := 184) hx hb hlocks hr (Or.inr rfl) hw (Nat.zero_le _) (Nat.zero_le _) dX9_counts_184 ⟨by (try dsimp only) <;> (rw [ct_ref hoS hd9]; unfold rcS; rw [if_neg hw9, if_neg (show ¬(serM M n.toNat 9 ≠ 0) by omega), if_neg (by omega), if_neg (by omega), ← hx10]; first | (rw [decide_eq_true (by omega)]; rfl) | (rw [decide_eq_false (by omega)]; rfl)), rfl, rfl, rfl⟩
              · skip
                refine lv_iload_n (pc := 168) hx hb dX9_counts_168 rfl (lv_at hl 6 rfl) ?_
                refine zkIp (pc := 169) (zrS (As := [.int (iI day)]) hx hb hml hown hG hw (c_X9_monthFor l Γ K X Rf day  (by (first | assumption | omega))) cb_X9_monthFor wl_X9_112 rfl ⟨Nat.le_of_ble_eq_true rfl, Nat.le_of_ble_eq_true rfl⟩ hl.1 rfl (Nat.le_of_ble_eq_true rfl) dX9_counts_169 ⟨Nat.zero_le _, Nat.zero_le _⟩) hw (fun r169 H locs hp169 hw => ?_)
                subst hp169
                have hp169f0 := mi_rng (d := day) (by omega) (by omega)
                have hp169f1 := yr_mi (d := day) (by omega) (by omega)
                refine lv_iload_n (pc := 172) hx hb dX9_counts_172 rfl (lv_at hl 3 rfl) ?_
                refine zkIp (pc := 173) (zrS (As := [.int (iI x10)]) hx hb hml hown hG hw (c_X9_monthFor l Γ K X Rf x10  (by (first | assumption | omega))) cb_X9_monthFor wl_X9_112 rfl ⟨Nat.le_of_ble_eq_true rfl, Nat.le_of_ble_eq_true rfl⟩ hl.1 rfl (Nat.le_of_ble_eq_true rfl) dX9_counts_173 ⟨Nat.zero_le _, Nat.zero_le _⟩) hw (fun r173 H locs hp173 hw => ?_)
                subst hp173
                have hp173f0 := mi_rng (d := x10) (by omega) (by omega)
                have hp173f1 := yr_mi (d := x10) (by omega) (by omega)
                refine zicmp_ne (pc := 176) hx hb 183 (by omega) (by omega) dX9_counts_176 (by decide) (fun c176 => ?_) (fun c176 => ?_)
                · skip
                  refine ziconst (pc := 183) (n := 0) hx hb dX9_counts_183 ?_
                  exact zretZ (pc := 184) hx hb hlocks hr (Or.inl rfl) hw (Nat.zero_le _) (Nat.zero_le _) dX9_counts_184 ⟨by (try dsimp only) <;> (rw [ct_ref hoS hd9]; unfold rcS; rw [if_neg hw9, if_neg (show ¬(serM M n.toNat 9 ≠ 0) by omega), if_neg (by omega), if_neg (by omega), ← hx10]; first | (rw [decide_eq_true (by omega)]; rfl) | (rw [decide_eq_false (by omega)]; rfl)), rfl, rfl, rfl⟩
                · skip
                  refine ziconst (pc := 179) (n := 1) hx hb dX9_counts_179 ?_
                  refine lv_goto (pc := 180) (tgt := 184) hx hb dX9_counts_180 (by decide) ?_
                  exact zretZ (pc := 184) hx hb hlocks hr (Or.inr rfl) hw (Nat.zero_le _) (Nat.zero_le _) dX9_counts_184 ⟨by (try dsimp only) <;> (rw [ct_ref hoS hd9]; unfold rcS; rw [if_neg hw9, if_neg (show ¬(serM M n.toNat 9 ≠ 0) by omega), if_neg (by omega), if_neg (by omega), ← hx10]; first | (rw [decide_eq_true (by omega)]; rfl) | (rw [decide_eq_false (by omega)]; rfl)), rfl, rfl, rfl⟩
          · skip
            refine ziconst (pc := 149) (n := 1) hx hb dX9_counts_149 ?_
            exact zretZ (pc := 150) hx hb hlocks hr (Or.inr rfl) hw (Nat.zero_le _) (Nat.zero_le _) dX9_counts_150 ⟨by (try dsimp only) <;> (rw [ct_ref hoS hd9]; unfold rcS; rw [if_neg hw9, if_neg (show ¬(serM M n.toNat 9 ≠ 0) by omega), if_neg (by omega), if_pos (by omega)]; rfl), rfl, rfl, rfl⟩
        · skip
          refine lv_iload (pc := 122) hx hb dX9_counts_122 (lv_at hl 1 rfl) ?_
          refine zif_ne (pc := 124) hx hb 138 (by omega) dX9_counts_124 (by decide) (fun c124 => ?_) (fun c124 => ?_)
          · skip
            refine ziconst (pc := 138) (n := 1) hx hb dX9_counts_138 ?_
            refine lv_goto (pc := 139) (tgt := 143) hx hb dX9_counts_139 (by decide) ?_
            exact zretZ (pc := 143) hx hb hlocks hr (Or.inr rfl) hw (Nat.zero_le _) (Nat.zero_le _) dX9_counts_143 ⟨by (try dsimp only) <;> (rw [ct_ref hoS hd9]; unfold rcS; rw [if_neg hw9, if_neg (show ¬(serM M n.toNat 9 ≠ 0) by omega), if_pos (by omega)]; first | (rw [decide_eq_true (by omega)]; rfl) | (rw [decide_eq_false (by omega)]; rfl)), rfl, rfl, rfl⟩
          · skip
            refine lv_iload_n (pc := 127) hx hb dX9_counts_127 rfl (lv_at hl 6 rfl) ?_
            refine zbipush (pc := 128) (n := 7) hx hb dX9_counts_128 rfl ?_
            refine zrem (pc := 130) hx hb (by omega) dX9_counts_130 ?_
            refine lv_iload_n (pc := 131) hx hb dX9_counts_131 rfl (lv_at hl 3 rfl) ?_
            refine zbipush (pc := 132) (n := 7) hx hb dX9_counts_132 rfl ?_
            refine zrem (pc := 134) hx hb (by omega) dX9_counts_134 ?_
            refine zicmp_ne (pc := 135) hx hb 142 (by omega) (by omega) dX9_counts_135 (by decide) (fun c135 => ?_) (fun c135 => ?_)
            · skip
              refine ziconst (pc := 142) (n := 0) hx hb dX9_counts_142 ?_
              exact zretZ (pc := 143) hx hb hlocks hr (Or.inl rfl) hw (Nat.zero_le _) (Nat.zero_le _) dX9_counts_143 ⟨by (try dsimp only) <;> (rw [ct_ref hoS hd9]; unfold rcS; rw [if_neg hw9, if_neg (show ¬(serM M n.toNat 9 ≠ 0) by omega), if_pos (by omega)]; first | (rw [decide_eq_true (by omega)]; rfl) | (rw [decide_eq_false (by omega)]; rfl)), rfl, rfl, rfl⟩
            · skip
              refine ziconst (pc := 138) (n := 1) hx hb dX9_counts_138 ?_
              refine lv_goto (pc := 139) (tgt := 143) hx hb dX9_counts_139 (by decide) ?_
              exact zretZ (pc := 143) hx hb hlocks hr (Or.inr rfl) hw (Nat.zero_le _) (Nat.zero_le _) dX9_counts_143 ⟨by (try dsimp only) <;> (rw [ct_ref hoS hd9]; unfold rcS; rw [if_neg hw9, if_neg (show ¬(serM M n.toNat 9 ≠ 0) by omega), if_pos (by omega)]; first | (rw [decide_eq_true (by omega)]; rfl) | (rw [decide_eq_false (by omega)]; rfl)), rfl, rfl, rfl⟩
      · skip
        refine ziconst (pc := 68) (n := 0) hx hb dX9_counts_68 ?_
        refine lv_istore (pc := 69) (lv' := [(7, .int (iI 0)), (6, .int (iI pl9)), (5, .int (iI x25)), (4, .int (iI x17)), (3, .int (iI x10)), (0, .ref md), (1, .int (iI n)), (2, .int (iI day))]) hx hb dX9_counts_69 hl (by decide) rfl (fun ls hl => ?_)
        refine ziconst (pc := 71) (n := 0) hx hb dX9_counts_71 ?_
        refine lv_istore (pc := 72) (lv' := [(8, .int (iI 0)), (7, .int (iI 0)), (6, .int (iI pl9)), (5, .int (iI x25)), (4, .int (iI x17)), (3, .int (iI x10)), (0, .ref md), (1, .int (iI n)), (2, .int (iI day))]) hx hb dX9_counts_72 hl (by decide) rfl (fun ls hl => ?_)
        have lp74 : ∀ (n74 : Nat) (kk : Int) (is : Int) (H : Heap) (locs : List Loc), (hi : 0 ≤ kk ∧ kk ≤ (serM M n.toNat) 9) → (hs : is = bI (anyT (useM M n.toNat) day kk.toNat)) → (((serM M n.toNat) 9 - kk).toNat < n74) → Wd Γ (zA K s.heap.size) K X Rf s H locs → ∀ ls : Array Slot, lv_has ls 9 [(8, .int (iI kk)), (7, .int (iI is)), (6, .int (iI pl9)), (5, .int (iI x25)), (4, .int (iI x17)), (3, .int (iI x10)), (0, .ref md), (1, .int (iI n)), (2, .int (iI day))] → W p l e (rmL 6 0 0) s m ([.ref md, .int (iI n), .int (iI day)] : List Value).toArray below meth c H locs 0 0 (MQ below (zQ Γ K s.heap.size (pI (zp0 K X Rf (fun r : Int => r = bI (ctS (serM M n.toNat) (useM M n.toNat) day))))) ([.ref md, .int (iI n), .int (iI day)] : List Value).toArray s 0 0 (zA K s.heap.size)) (F0 m 74 ls []) := by
          intro n74
          induction n74 with
          | zero => intro kk is H locs hi hs hm74; exact absurd hm74 (Nat.not_lt_zero _)
          | succ n74 ih74 =>
            intro kk is H locs hi hs hm74 hw ls hl
            have hbi := bI_rng (anyT (useM M n.toNat) day kk.toNat)
            refine lv_iload (pc := 74) hx hb dX9_counts_74 (lv_at hl 0 rfl) ?_
            refine lv_aload_n (pc := 76) hx hb dX9_counts_76 rfl (lv_at hl 6 rfl) ?_
            refine lv_iload_n (pc := 77) hx hb dX9_counts_77 rfl (lv_at hl 7 rfl) ?_
            refine zbipush (pc := 78) (n := 9) hx hb dX9_counts_78 rfl ?_
            refine zkIp (pc := 80) (zrV (As := [.int (iI n), .int (iI 9)]) hx hb hml hown hG hw (c_X9_of l Γ K X Rf md n 9 a17 (by (first | assumption | omega)) (by (first | assumption | omega)) (by (first | assumption | omega)) (by (first | assumption | omega))) (T := TX9) hmd rfl cb_X9_of wl_X9_234 rfl ⟨Nat.le_of_ble_eq_true rfl, Nat.le_of_ble_eq_true rfl⟩ hl.1 rfl (Nat.le_of_ble_eq_true rfl) dX9_counts_80 ⟨Nat.zero_le _, Nat.zero_le _⟩) hw (fun r80 H locs hp80 hw => ?_)
            subst hp80
            refine zicmp_ge (pc := 83) hx hb 113 (by omega) (by omega) dX9_counts_83 (by decide) (fun c83 => ?_) (fun c83 => ?_)
            · skip
              refine lv_iload (pc := 113) hx hb dX9_counts_113 (lv_at hl 1 rfl) ?_
              exact zretZ (pc := 115) hx hb hlocks hr (by omega) hw (Nat.zero_le _) (Nat.zero_le _) dX9_counts_115 ⟨by (try dsimp only) <;> (rw [ct_ref hoS hd9]; unfold rcS; rw [if_neg hw9, if_pos (show serM M n.toNat 9 ≠ 0 by omega), hs, show kk.toNat = (serM M n.toNat 9).toNat by omega]), rfl, rfl, rfl⟩
            · skip
              have hmu := (hokS n.toNat (by omega)).2.2.1 kk.toNat (by omega)
              have hix : (4 * n + kk).toNat = 4 * n.toNat + kk.toNat := by omega
              have hxu : X a18 (4 * n + kk).toNat = M 18 (4 * n.toNat + kk.toNat) := by rw [hD18, hix]
              have hpu : pfX X a2 a3 a4 (X a18 (4 * n + kk).toNat).toNat = useM M n.toNat kk.toNat := by rw [pfX_M hD2 hD3 hD4, hxu]; unfold useM; rw [if_pos (by omega)]
              have hP9 : okP2 (pfX X a2 a3 a4 (X a18 (4 * n + kk).toNat).toNat) := by rw [pfX_M hD2 hD3 hD4, hxu]; exact hokP _ (by omega)
              refine lv_iload (pc := 86) hx hb dX9_counts_86 (lv_at hl 1 rfl) ?_
              refine lv_aload_n (pc := 88) hx hb dX9_counts_88 rfl (lv_at hl 6 rfl) ?_
              refine lv_aload_n (pc := 89) hx hb dX9_counts_89 rfl (lv_at hl 6 rfl) ?_
              refine zgetR (pc := 90) hx hb hG hown hw hmd (T := TX9) rfl 18 (by decide) rfl wf_X9_42 rfl hB18 dX9_counts_90 ?_
              refine ziconst (pc := 93) (n := 4) hx hb dX9_counts_93 ?_
              refine lv_iload_n (pc := 94) hx hb dX9_counts_94 rfl (lv_at hl 7 rfl) ?_
              refine zmul (pc := 95) hx hb dX9_counts_95 ?_
              refine lv_iload (pc := 96) hx hb dX9_counts_96 (lv_at hl 0 rfl) ?_
              refine zadd (pc := 98) hx hb dX9_counts_98 ?_
              refine zald (pc := 99) hx hb hw hA18 ⟨by omega, by omega⟩ (by omega) dX9_counts_99 ?_
              refine lv_iload_n (pc := 100) hx hb dX9_counts_100 rfl (lv_at hl 8 rfl) ?_
              refine zkIp (pc := 101) (zrV (As := [.int (iI (X a18 ((4 * n) + kk).toNat)), .int (iI day)]) hx hb hml hown hG hw (c_X9_isTold l Γ K X Rf md (X a18 ((4 * n) + kk).toNat) day a2 a3 a4 (by (first | assumption | omega)) (by (first | assumption | omega)) (by (first | assumption | omega)) (by (first | assumption | omega)) (by (first | assumption | omega)) (by (first | assumption | omega)) (by (first | assumption | omega)) (by (first | assumption | omega)) (by (first | assumption | omega)) (by (first | assumption | omega))) (T := TX9) hmd rfl cb_X9_isTold wl_X9_151 rfl ⟨Nat.le_of_ble_eq_true rfl, Nat.le_of_ble_eq_true rfl⟩ hl.1 rfl (Nat.le_of_ble_eq_true rfl) dX9_counts_101 ⟨Nat.zero_le _, Nat.zero_le _⟩) hw (fun r101 H locs hp101 hw => ?_)
              subst hp101
              refine zor01 (pc := 104) hx hb (by omega) dX9_counts_104 ?_
              refine ztop (fun x105 ex105 => ?_)
              refine lv_istore (pc := 105) (lv' := [(7, .int (iI x105)), (8, .int (iI kk)), (6, .int (iI pl9)), (5, .int (iI x25)), (4, .int (iI x17)), (3, .int (iI x10)), (0, .ref md), (1, .int (iI n)), (2, .int (iI day))]) hx hb dX9_counts_105 hl (by decide) rfl (fun ls hl => ?_)
              refine ziinc (pc := 107) (lv' := [(8, .int (iI (kk + 1))), (7, .int (iI x105)), (6, .int (iI pl9)), (5, .int (iI x25)), (4, .int (iI x17)), (3, .int (iI x10)), (0, .ref md), (1, .int (iI n)), (2, .int (iI day))]) hx hb 1 dX9_counts_107 hl rfl (by decide) rfl (fun ls hl => ?_)
              obtain ⟨x107, ex107⟩ : ∃ zz : Int, zz = (kk + 1) := ⟨_, rfl⟩
              rw [← ex107] at hl
              refine lv_goto (pc := 110) (tgt := 74) hx hb dX9_counts_110 (by decide) ?_
              exact ih74 x107 x105 _ _ (by (first | assumption | omega)) (by rw [ex105, ex107, show (kk + 1).toNat = kk.toNat + 1 by omega, hpu]; by_cases q : told (useM M n.toNat kk.toNat) (mi day) = day; (rw [anyT_y q, if_pos q]; omega); (rw [anyT_n q, if_neg q, ← hs]; omega)) (by omega) hw _ (lv_sub hl [0, 1, 2, 3, 4, 5, 6, 7, 8] rfl)
        exact lp74 _ 0 0 _ _ (by (first | assumption | omega)) (by rfl) (Nat.lt_succ_self _) hw _ (lv_sub hl [0, 1, 2, 3, 4, 5, 6, 7, 8] rfl)
    refine lv_iload (pc := 44) hx hb dX9_counts_44 (lv_at hl 1 rfl) ?_
    refine zif_eq (pc := 46) hx hb 63 (by omega) dX9_counts_46 (by decide) (fun c46 => ?_) (fun c46 => ?_)
    · skip
      exact jn63_1 _ _ (by intro g; rw [← hx25] at g; omega) hw _ (lv_sub hl [0, 1, 2, 3, 4, 5, 6] rfl)
    · skip
      refine lv_iload (pc := 49) hx hb dX9_counts_49 (lv_at hl 1 rfl) ?_
      refine lv_iload_n (pc := 51) hx hb dX9_counts_51 rfl (lv_at hl 6 rfl) ?_
      refine zbipush (pc := 52) (n := 7) hx hb dX9_counts_52 rfl ?_
      refine zrem (pc := 54) hx hb (by omega) dX9_counts_54 ?_
      refine zshr (pc := 55) hx hb (by omega) dX9_counts_55 ?_
      refine ziconst (pc := 56) (n := 1) hx hb dX9_counts_56 ?_
      refine zand1 (pc := 57) hx hb dX9_counts_57 ?_
      have hbw := bitw_01 x25 day
      have hbe : x25 / 2 ^ (day % 7).toNat % 2 = bitw x25 day := rfl
      rw [hbe]
      refine zif_ne (pc := 58) hx hb 63 (by omega) dX9_counts_58 (by decide) (fun c58 => ?_) (fun c58 => ?_)
      · skip
        exact jn63_1 _ _ (by intro g; rw [← hx25] at g; omega) hw _ (lv_sub hl [0, 1, 2, 3, 4, 5, 6] rfl)
      · skip
        refine ziconst (pc := 61) (n := 0) hx hb dX9_counts_61 ?_
        exact zretZ (pc := 62) hx hb hlocks hr (Or.inl rfl) hw (Nat.zero_le _) (Nat.zero_le _) dX9_counts_62 ⟨by (try dsimp only) <;> (rw [ct_ref hoS hd9]; unfold rcS; rw [if_pos (show _ ∧ _ from by rw [← hx25]; omega)]; rfl), rfl, rfl, rfl⟩
  refine zif_ne (pc := 34) hx hb 41 (by omega) dX9_counts_34 (by decide) (fun c34 => ?_) (fun c34 => ?_)
  · skip
    refine ziconst (pc := 41) (n := 0) hx hb dX9_counts_41 ?_
    exact jn42_0 0 _ _ (by first | (rw [if_pos (by omega)]) | (rw [if_neg (by omega)])) hw _ (lv_sub hl [0, 1, 2, 3, 4, 5] rfl)
  · skip
    refine ziconst (pc := 37) (n := 1) hx hb dX9_counts_37 ?_
    refine lv_goto (pc := 38) (tgt := 42) hx hb dX9_counts_38 (by decide) ?_
    exact jn42_0 1 _ _ (by first | (rw [if_pos (by omega)]) | (rw [if_neg (by omega)])) hw _ (lv_sub hl [0, 1, 2, 3, 4, 5] rfl)
set_option maxHeartbeats 4000000 in
set_option maxRecDepth 100000 in
theorem c_X9_beginOfSpan (l : Launch) (Γ : zG) (K : zK) (X : zX) (Rf : zR) (md : Nat) (n : Int) (sp : Int) (ρ : zL) (M : zM) (hR : repR ρ K X Rf md M) (hM : okM M) (h1 : 0 ≤ n ∧ n < M 40 16) (h2 : 0 ≤ sp ∧ sp ≤ 250000) : Ct l yX9_beginOfSpan cX9_beginOfSpan 7 (some .int) 4 0 0 Γ [.ref md, .int (iI n), .int (iI sp)] K X Rf (pI (zp0 K X Rf (fun r : Int => min r 73049 = min (spB (serM M n.toNat) sp) 73049 ∧ 0 ≤ r ∧ r ≤ 2100000))) := by
  refine Ct.of (by decide +kernel) (Nat.le_of_ble_eq_true rfl) ?_
  intro p e s m below meth c ls hx hb hr hml hown hG hlocks hname hw hl
  have hl : lv_has ls 7 [(0, .ref md), (1, .int (iI n)), (2, .int (iI sp))] := hl
  obtain ⟨hmd, hlmd⟩ := id hR.1
  obtain ⟨⟨hb1, hb2, hb3, hb4⟩, hokP, hokL, hokS, hokW, hokF⟩ := id hM
  have hq1 : X md 1 = M 40 1 := hR.2.1 1 rfl
  have hq5 : X md 5 = M 40 5 := hR.2.1 5 rfl
  have hq16 : X md 16 = M 40 16 := hR.2.1 16 rfl
  have hq25 : X md 25 = M 40 25 := hR.2.1 25 rfl
  have hq26 : X md 26 = M 40 26 := hR.2.1 26 rfl
  have hq27 : X md 27 = M 40 27 := hR.2.1 27 rfl
  have hq28 : X md 28 = M 40 28 := hR.2.1 28 rfl
  have hq29 : X md 29 = M 40 29 := hR.2.1 29 rfl
  obtain ⟨a17, hB17, hA17, hL17, hD17⟩ : ∃ a, Rf md 17 = some a ∧ K a = (2, 66) ∧ ρ a = 2018 ∧ X a = M 17 := hR.fd 17 (by decide) rfl
  have hN17 : Apt a17 md := zkn2 hA17 hmd (by simp)
  have hoS := (hokS n.toNat (by omega)).1
  have hv1 : X a17 (11 * n + 1).toNat = serM M n.toNat 1 := by rw [hD17, show (11 * n + 1).toNat = 11 * n.toNat + 1 by omega]; exact (serM_17 (by decide)).symm
  have hv2 : X a17 (11 * n + 2).toNat = serM M n.toNat 2 := by rw [hD17, show (11 * n + 2).toNat = 11 * n.toNat + 2 by omega]; exact (serM_17 (by decide)).symm
  refine lv_aload_n (pc := 0) hx hb dX9_beginOfSpan_0 rfl (lv_at hl 0 rfl) ?_
  refine lv_iload_n (pc := 1) hx hb dX9_beginOfSpan_1 rfl (lv_at hl 1 rfl) ?_
  refine ziconst (pc := 2) (n := 1) hx hb dX9_beginOfSpan_2 ?_
  refine zkIp (pc := 3) (zrV (As := [.int (iI n), .int (iI 1)]) hx hb hml hown hG hw (c_X9_of l Γ K X Rf md n 1 a17 (by (first | assumption | omega)) (by (first | assumption | omega)) (by (first | assumption | omega)) (by (first | assumption | omega))) (T := TX9) hmd rfl cb_X9_of wl_X9_234 rfl ⟨Nat.le_of_ble_eq_true rfl, Nat.le_of_ble_eq_true rfl⟩ hl.1 rfl (Nat.le_of_ble_eq_true rfl) dX9_beginOfSpan_3 ⟨Nat.zero_le _, Nat.zero_le _⟩) hw (fun r3 H locs hp3 hw => ?_)
  subst hp3
  refine zsipush (pc := 6) (n := 1440) hx hb dX9_beginOfSpan_6 rfl ?_
  refine zdiv (pc := 9) hx hb (by omega) dX9_beginOfSpan_9 ?_
  refine ztop (fun x10 ex10 => ?_)
  refine lv_istore_n (pc := 10) (lv' := [(3, .int (iI x10)), (0, .ref md), (1, .int (iI n)), (2, .int (iI sp))]) hx hb dX9_beginOfSpan_10 rfl hl (by decide) rfl (fun ls hl => ?_)
  refine lv_aload_n (pc := 11) hx hb dX9_beginOfSpan_11 rfl (lv_at hl 1 rfl) ?_
  refine lv_iload_n (pc := 12) hx hb dX9_beginOfSpan_12 rfl (lv_at hl 2 rfl) ?_
  refine ziconst (pc := 13) (n := 2) hx hb dX9_beginOfSpan_13 ?_
  refine zkIp (pc := 14) (zrV (As := [.int (iI n), .int (iI 2)]) hx hb hml hown hG hw (c_X9_of l Γ K X Rf md n 2 a17 (by (first | assumption | omega)) (by (first | assumption | omega)) (by (first | assumption | omega)) (by (first | assumption | omega))) (T := TX9) hmd rfl cb_X9_of wl_X9_234 rfl ⟨Nat.le_of_ble_eq_true rfl, Nat.le_of_ble_eq_true rfl⟩ hl.1 rfl (Nat.le_of_ble_eq_true rfl) dX9_beginOfSpan_14 ⟨Nat.zero_le _, Nat.zero_le _⟩) hw (fun r14 H locs hp14 hw => ?_)
  subst hp14
  refine ztop (fun x17 ex17 => ?_)
  refine lv_istore (pc := 17) (lv' := [(4, .int (iI x17)), (3, .int (iI x10)), (0, .ref md), (1, .int (iI n)), (2, .int (iI sp))]) hx hb dX9_beginOfSpan_17 hl (by decide) rfl (fun ls hl => ?_)
  have hx10 : x10 = bdS (serM M n.toNat) := by omega
  have hsr := spB_rng hoS h2.1 h2.2
  refine lv_iload (pc := 19) hx hb dX9_beginOfSpan_19 (lv_at hl 0 rfl) ?_
  refine zif_ne (pc := 21) hx hb 28 (by omega) dX9_beginOfSpan_21 (by decide) (fun c21 => ?_) (fun c21 => ?_)
  · skip
    refine lv_iload (pc := 28) hx hb dX9_beginOfSpan_28 (lv_at hl 0 rfl) ?_
    refine ziconst (pc := 30) (n := 1) hx hb dX9_beginOfSpan_30 ?_
    refine zicmp_ne (pc := 31) hx hb 47 (by omega) (by omega) dX9_beginOfSpan_31 (by decide) (fun c31 => ?_) (fun c31 => ?_)
    · skip
      refine lv_iload_n (pc := 47) hx hb dX9_beginOfSpan_47 rfl (lv_at hl 1 rfl) ?_
      refine zkIp (pc := 48) (zrS (As := [.int (iI x10)]) hx hb hml hown hG hw (c_X9_yearFor l Γ K X Rf x10  (by (first | assumption | omega))) cb_X9_yearFor wl_X9_109 rfl ⟨Nat.le_of_ble_eq_true rfl, Nat.le_of_ble_eq_true rfl⟩ hl.1 rfl (Nat.le_of_ble_eq_true rfl) dX9_beginOfSpan_48 ⟨Nat.zero_le _, Nat.zero_le _⟩) hw (fun r48 H locs hp48 hw => ?_)
      subst hp48
      have hp48f0 := yr_rng (d := x10) (by omega) (by omega)
      refine ztop (fun x51 ex51 => ?_)
      refine lv_istore (pc := 51) (lv' := [(5, .int (iI x51)), (4, .int (iI x17)), (3, .int (iI x10)), (0, .ref md), (1, .int (iI n)), (2, .int (iI sp))]) hx hb dX9_beginOfSpan_51 hl (by decide) rfl (fun ls hl => ?_)
      refine lv_iload (pc := 53) hx hb dX9_beginOfSpan_53 (lv_at hl 1 rfl) ?_
      refine ziconst (pc := 55) (n := 2) hx hb dX9_beginOfSpan_55 ?_
      refine zicmp_ne (pc := 56) hx hb 80 (by omega) (by omega) dX9_beginOfSpan_56 (by decide) (fun c56 => ?_) (fun c56 => ?_)
      · skip
        refine zbipush (pc := 80) (n := 12) hx hb dX9_beginOfSpan_80 rfl ?_
        refine lv_iload (pc := 82) hx hb dX9_beginOfSpan_82 (lv_at hl 0 rfl) ?_
        refine zsipush (pc := 84) (n := 1900) hx hb dX9_beginOfSpan_84 rfl ?_
        refine zsub (pc := 87) hx hb dX9_beginOfSpan_87 ?_
        refine lv_iload_n (pc := 88) hx hb dX9_beginOfSpan_88 rfl (lv_at hl 5 rfl) ?_
        refine zadd (pc := 89) hx hb dX9_beginOfSpan_89 ?_
        refine zmul (pc := 90) hx hb dX9_beginOfSpan_90 ?_
        have hym := yr_mi (d := x10) (by omega) (by omega)
        have hmi := mi_rng (d := x10) (by omega) (by omega)
        have hyr := yr_rng (d := x10) (by omega) (by omega)
        refine ztop (fun x91 ex91 => ?_)
        refine lv_istore (pc := 91) (lv' := [(6, .int (iI x91)), (5, .int (iI x51)), (4, .int (iI x17)), (3, .int (iI x10)), (0, .ref md), (1, .int (iI n)), (2, .int (iI sp))]) hx hb dX9_beginOfSpan_91 hl (by decide) rfl (fun ls hl => ?_)
        have e9 : spB (serM M n.toNat) sp = mB x91 := by
          unfold spB
          rw [if_neg (by omega), if_neg (by omega), ← hx10]
          first | (rw [if_pos (by omega)]; congr 1; omega) | (rw [if_neg (by omega)]; congr 1; omega)
        have hmr := mB_rng x91
        refine lv_iload (pc := 93) hx hb dX9_beginOfSpan_93 (lv_at hl 0 rfl) ?_
        refine zsipush (pc := 95) (n := 2400) hx hb dX9_beginOfSpan_95 rfl ?_
        refine zicmp_lt (pc := 98) hx hb 106 (by omega) (by omega) dX9_beginOfSpan_98 (by decide) (fun c98 => ?_) (fun c98 => ?_)
        · skip
          refine zsipush (pc := 106) (n := 1900) hx hb dX9_beginOfSpan_106 rfl ?_
          refine lv_iload (pc := 109) hx hb dX9_beginOfSpan_109 (lv_at hl 0 rfl) ?_
          refine zbipush (pc := 111) (n := 12) hx hb dX9_beginOfSpan_111 rfl ?_
          refine zdiv (pc := 113) hx hb (by omega) dX9_beginOfSpan_113 ?_
          refine zadd (pc := 114) hx hb dX9_beginOfSpan_114 ?_
          refine lv_iload (pc := 115) hx hb dX9_beginOfSpan_115 (lv_at hl 0 rfl) ?_
          refine zbipush (pc := 117) (n := 12) hx hb dX9_beginOfSpan_117 rfl ?_
          refine zrem (pc := 119) hx hb (by omega) dX9_beginOfSpan_119 ?_
          refine ziconst (pc := 120) (n := 1) hx hb dX9_beginOfSpan_120 ?_
          refine zadd (pc := 121) hx hb dX9_beginOfSpan_121 ?_
          refine ziconst (pc := 122) (n := 1) hx hb dX9_beginOfSpan_122 ?_
          refine zkIp (pc := 123) (zrS (As := [.int (iI (1900 + (x91 / 12))), .int (iI ((x91 % 12) + 1)), .int (iI 1)]) hx hb hml hown hG hw (c_X9_dayFor l Γ K X Rf (1900 + (x91 / 12)) ((x91 % 12) + 1) 1  (by (first | assumption | omega)) (by (first | assumption | omega)) (by (first | assumption | omega))) cb_X9_dayFor wl_X9_115 rfl ⟨Nat.le_of_ble_eq_true rfl, Nat.le_of_ble_eq_true rfl⟩ hl.1 rfl (Nat.le_of_ble_eq_true rfl) dX9_beginOfSpan_123 ⟨Nat.zero_le _, Nat.zero_le _⟩) hw (fun r123 H locs hp123 hw => ?_)
          subst hp123
          have hp123f0 := mB_rng (12 * ((1900 + (x91 / 12)) - 1900) + ((x91 % 12) + 1) - 1)
          exact zretI (pc := 126) hx hb hlocks hr hw (Nat.zero_le _) (Nat.zero_le _) dX9_beginOfSpan_126 ⟨by (try dsimp only) <;> (first | (have hb9 := mB_big (i := x91) (by omega); omega) | (rw [e9, show 12 * (1900 + x91 / 12 - 1900) + (x91 % 12 + 1) - 1 = x91 by omega]; omega)), rfl, rfl, rfl⟩
        · skip
          refine zldc (pc := 101) (n := 73049) hx hb hown hG wk_X9_82 dX9_beginOfSpan_101 ?_
          refine lv_goto (pc := 103) (tgt := 126) hx hb dX9_beginOfSpan_103 (by decide) ?_
          exact zretI (pc := 126) hx hb hlocks hr hw (Nat.zero_le _) (Nat.zero_le _) dX9_beginOfSpan_126 ⟨by (try dsimp only) <;> (first | (have hb9 := mB_big (i := x91) (by omega); omega) | (rw [e9, show 12 * (1900 + x91 / 12 - 1900) + (x91 % 12 + 1) - 1 = x91 by omega]; omega)), rfl, rfl, rfl⟩
      · skip
        refine zbipush (pc := 59) (n := 12) hx hb dX9_beginOfSpan_59 rfl ?_
        refine lv_iload (pc := 61) hx hb dX9_beginOfSpan_61 (lv_at hl 0 rfl) ?_
        refine zsipush (pc := 63) (n := 1900) hx hb dX9_beginOfSpan_63 rfl ?_
        refine zsub (pc := 66) hx hb dX9_beginOfSpan_66 ?_
        refine zmul (pc := 67) hx hb dX9_beginOfSpan_67 ?_
        refine lv_iload_n (pc := 68) hx hb dX9_beginOfSpan_68 rfl (lv_at hl 2 rfl) ?_
        refine zkIp (pc := 69) (zrS (As := [.int (iI x10)]) hx hb hml hown hG hw (c_X9_monthFor l Γ K X Rf x10  (by (first | assumption | omega))) cb_X9_monthFor wl_X9_112 rfl ⟨Nat.le_of_ble_eq_true rfl, Nat.le_of_ble_eq_true rfl⟩ hl.1 rfl (Nat.le_of_ble_eq_true rfl) dX9_beginOfSpan_69 ⟨Nat.zero_le _, Nat.zero_le _⟩) hw (fun r69 H locs hp69 hw => ?_)
        subst hp69
        have hp69f0 := mi_rng (d := x10) (by omega) (by omega)
        have hp69f1 := yr_mi (d := x10) (by omega) (by omega)
        refine zadd (pc := 72) hx hb dX9_beginOfSpan_72 ?_
        refine ziconst (pc := 73) (n := 1) hx hb dX9_beginOfSpan_73 ?_
        refine zsub (pc := 74) hx hb dX9_beginOfSpan_74 ?_
        refine lv_iload_n (pc := 75) hx hb dX9_beginOfSpan_75 rfl (lv_at hl 5 rfl) ?_
        refine zadd (pc := 76) hx hb dX9_beginOfSpan_76 ?_
        refine lv_goto (pc := 77) (tgt := 91) hx hb dX9_beginOfSpan_77 (by decide) ?_
        have hym := yr_mi (d := x10) (by omega) (by omega)
        have hmi := mi_rng (d := x10) (by omega) (by omega)
        have hyr := yr_rng (d := x10) (by omega) (by omega)
        refine ztop (fun x91 ex91 => ?_)
        refine lv_istore (pc := 91) (lv' := [(6, .int (iI x91)), (5, .int (iI x51)), (4, .int (iI x17)), (3, .int (iI x10)), (0, .ref md), (1, .int (iI n)), (2, .int (iI sp))]) hx hb dX9_beginOfSpan_91 hl (by decide) rfl (fun ls hl => ?_)
        have e9 : spB (serM M n.toNat) sp = mB x91 := by
          unfold spB
          rw [if_neg (by omega), if_neg (by omega), ← hx10]
          first | (rw [if_pos (by omega)]; congr 1; omega) | (rw [if_neg (by omega)]; congr 1; omega)
        have hmr := mB_rng x91
        refine lv_iload (pc := 93) hx hb dX9_beginOfSpan_93 (lv_at hl 0 rfl) ?_
        refine zsipush (pc := 95) (n := 2400) hx hb dX9_beginOfSpan_95 rfl ?_
        refine zicmp_lt (pc := 98) hx hb 106 (by omega) (by omega) dX9_beginOfSpan_98 (by decide) (fun c98 => ?_) (fun c98 => ?_)
        · skip
          refine zsipush (pc := 106) (n := 1900) hx hb dX9_beginOfSpan_106 rfl ?_
          refine lv_iload (pc := 109) hx hb dX9_beginOfSpan_109 (lv_at hl 0 rfl) ?_
          refine zbipush (pc := 111) (n := 12) hx hb dX9_beginOfSpan_111 rfl ?_
          refine zdiv (pc := 113) hx hb (by omega) dX9_beginOfSpan_113 ?_
          refine zadd (pc := 114) hx hb dX9_beginOfSpan_114 ?_
          refine lv_iload (pc := 115) hx hb dX9_beginOfSpan_115 (lv_at hl 0 rfl) ?_
          refine zbipush (pc := 117) (n := 12) hx hb dX9_beginOfSpan_117 rfl ?_
          refine zrem (pc := 119) hx hb (by omega) dX9_beginOfSpan_119 ?_
          refine ziconst (pc := 120) (n := 1) hx hb dX9_beginOfSpan_120 ?_
          refine zadd (pc := 121) hx hb dX9_beginOfSpan_121 ?_
          refine ziconst (pc := 122) (n := 1) hx hb dX9_beginOfSpan_122 ?_
          refine zkIp (pc := 123) (zrS (As := [.int (iI (1900 + (x91 / 12))), .int (iI ((x91 % 12) + 1)), .int (iI 1)]) hx hb hml hown hG hw (c_X9_dayFor l Γ K X Rf (1900 + (x91 / 12)) ((x91 % 12) + 1) 1  (by (first | assumption | omega)) (by (first | assumption | omega)) (by (first | assumption | omega))) cb_X9_dayFor wl_X9_115 rfl ⟨Nat.le_of_ble_eq_true rfl, Nat.le_of_ble_eq_true rfl⟩ hl.1 rfl (Nat.le_of_ble_eq_true rfl) dX9_beginOfSpan_123 ⟨Nat.zero_le _, Nat.zero_le _⟩) hw (fun r123 H locs hp123 hw => ?_)
          subst hp123
          have hp123f0 := mB_rng (12 * ((1900 + (x91 / 12)) - 1900) + ((x91 % 12) + 1) - 1)
          exact zretI (pc := 126) hx hb hlocks hr hw (Nat.zero_le _) (Nat.zero_le _) dX9_beginOfSpan_126 ⟨by (try dsimp only) <;> (first | (have hb9 := mB_big (i := x91) (by omega); omega) | (rw [e9, show 12 * (1900 + x91 / 12 - 1900) + (x91 % 12 + 1) - 1 = x91 by omega]; omega)), rfl, rfl, rfl⟩
        · skip
          refine zldc (pc := 101) (n := 73049) hx hb hown hG wk_X9_82 dX9_beginOfSpan_101 ?_
          refine lv_goto (pc := 103) (tgt := 126) hx hb dX9_beginOfSpan_103 (by decide) ?_
          exact zretI (pc := 126) hx hb hlocks hr hw (Nat.zero_le _) (Nat.zero_le _) dX9_beginOfSpan_126 ⟨by (try dsimp only) <;> (first | (have hb9 := mB_big (i := x91) (by omega); omega) | (rw [e9, show 12 * (1900 + x91 / 12 - 1900) + (x91 % 12 + 1) - 1 = x91 by omega]; omega)), rfl, rfl, rfl⟩
    · skip
      refine lv_iload_n (pc := 34) hx hb dX9_beginOfSpan_34 rfl (lv_at hl 1 rfl) ?_
      refine zbipush (pc := 35) (n := 7) hx hb dX9_beginOfSpan_35 rfl ?_
      refine zdiv (pc := 37) hx hb (by omega) dX9_beginOfSpan_37 ?_
      refine zbipush (pc := 38) (n := 7) hx hb dX9_beginOfSpan_38 rfl ?_
      refine zmul (pc := 40) hx hb dX9_beginOfSpan_40 ?_
      refine zbipush (pc := 41) (n := 7) hx hb dX9_beginOfSpan_41 rfl ?_
      refine lv_iload_n (pc := 43) hx hb dX9_beginOfSpan_43 rfl (lv_at hl 4 rfl) ?_
      refine zmul (pc := 44) hx hb dX9_beginOfSpan_44 ?_
      refine zadd (pc := 45) hx hb dX9_beginOfSpan_45 ?_
      exact zretI (pc := 46) hx hb hlocks hr hw (Nat.zero_le _) (Nat.zero_le _) dX9_beginOfSpan_46 ⟨by (try dsimp only) <;> (have e9 : spB (serM M n.toNat) sp = x10 - x10 % 7 + 7 * sp := (by unfold spB; rw [if_neg (by omega), if_pos (by omega), ← hx10]); omega), rfl, rfl, rfl⟩
  · skip
    refine lv_iload_n (pc := 24) hx hb dX9_beginOfSpan_24 rfl (lv_at hl 1 rfl) ?_
    refine lv_iload_n (pc := 25) hx hb dX9_beginOfSpan_25 rfl (lv_at hl 4 rfl) ?_
    refine zadd (pc := 26) hx hb dX9_beginOfSpan_26 ?_
    exact zretI (pc := 27) hx hb hlocks hr hw (Nat.zero_le _) (Nat.zero_le _) dX9_beginOfSpan_27 ⟨by (try dsimp only) <;> (have e9 : spB (serM M n.toNat) sp = x10 + sp := (by unfold spB; rw [if_pos (by omega), ← hx10]); omega), rfl, rfl, rfl⟩
