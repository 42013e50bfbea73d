set_option maxHeartbeats 4000000 in
set_option maxRecDepth 100000 in
theorem c_X9_isWeekday (l : Launch) (Γ : zG) (K : zK) (X : zX) (Rf : zR) (md : Nat) (day : Int)  (hmd : K md = (1, 8)) (h1 : -100000 ≤ day ∧ day ≤ 200000) (hw : 0 ≤ X md 26 ∧ X md 26 ≤ 127) : Ct l yX9_isWeekday cX9_isWeekday 2 (some .boolean) 1 0 0 Γ [.ref md, .int (iI day)] K X Rf (pI (zp0 K X Rf (fun r : Int => r = if bitw (X md 26) day ≠ 0 then 1 else 0))) := by
  refine Ct.of (by decide +kernel) (Nat.le_of_ble_eq_true rfl) ?_
  intro p e s m below meth c ls hx hb hr hml hown hG hlocks hname hw hl
  have hl : lv_has ls 2 [(0, .ref md), (1, .int (iI day))] := hl
  refine lv_aload_n (pc := 0) hx hb dX9_isWeekday_0 rfl (lv_at hl 0 rfl) ?_
  refine zgetI (pc := 1) hx hb hG hown hw hmd (T := TX9) rfl 26 (by decide) rfl wf_X9_61 rfl dX9_isWeekday_1 ?_
  refine lv_iload_n (pc := 4) hx hb dX9_isWeekday_4 rfl (lv_at hl 1 rfl) ?_
  refine zbipush (pc := 5) (n := 7) hx hb dX9_isWeekday_5 rfl ?_
  refine zkIp (pc := 7) (zrS (As := [.int (iI day), .int (iI 7)]) hx hb hml hown hG hw (c_J9_floorMod_7cf53 l Γ K X Rf day  (by (first | assumption | omega))) cb_J9_floorMod_7cf53 wl_X9_288 rfl ⟨Nat.le_of_ble_eq_true rfl, Nat.le_of_ble_eq_true rfl⟩ hl.1 rfl (Nat.le_of_ble_eq_true rfl) dX9_isWeekday_7 ⟨Nat.zero_le _, Nat.zero_le _⟩) hw (fun r7 H locs hp7 hw => ?_)
  subst hp7
  refine zshr (pc := 10) hx hb (by omega) dX9_isWeekday_10 ?_
  refine ziconst (pc := 11) (n := 1) hx hb dX9_isWeekday_11 ?_
  refine zand1 (pc := 12) hx hb dX9_isWeekday_12 ?_
  have hbw := bitw_01 (X md 26) day
  have hbe : X md 26 / 2 ^ (day % 7).toNat % 2 = bitw (X md 26) day := rfl
  rw [hbe]
  refine zif_eq (pc := 13) hx hb 20 (by omega) dX9_isWeekday_13 (by decide) (fun c13 => ?_) (fun c13 => ?_)
  · skip
    refine ziconst (pc := 20) (n := 0) hx hb dX9_isWeekday_20 ?_
    exact zretZ (pc := 21) hx hb hlocks hr (Or.inl rfl) hw (Nat.zero_le _) (Nat.zero_le _) dX9_isWeekday_21 ⟨by (try dsimp only) <;> (first | (rw [if_pos (by omega)]) | (rw [if_neg (by omega)])), rfl, rfl, rfl⟩
  · skip
    refine ziconst (pc := 16) (n := 1) hx hb dX9_isWeekday_16 ?_
    refine lv_goto (pc := 17) (tgt := 21) hx hb dX9_isWeekday_17 (by decide) ?_
    exact zretZ (pc := 21) hx hb hlocks hr (Or.inr rfl) hw (Nat.zero_le _) (Nat.zero_le _) dX9_isWeekday_21 ⟨by (try dsimp only) <;> (first | (rw [if_pos (by omega)]) | (rw [if_neg (by omega)])), rfl, rfl, rfl⟩
set_option maxHeartbeats 4000000 in
set_option maxRecDepth 100000 in
theorem c_X9_isTaken (l : Launch) (Γ : zG) (K : zK) (X : zX) (Rf : zR) (md : Nat) (n : Int) (day : Int) (a34 : Nat) (hmd : K md = (1, 8)) (hB34 : Rf md 34 = some a34) (hA34 : K a34 = (3, 73049)) (h1 : fit day ∧ fit n) (hbv : ∀ d : Nat, d ≤ 73048 → -1 ≤ X a34 d ∧ X a34 d ≤ 19) : Ct l yX9_isTaken cX9_isTaken 3 (some .boolean) 2 0 0 Γ [.ref md, .int (iI n), .int (iI day)] K X Rf (pI (zp0 K X Rf (fun r : Int => r = if (0 ≤ day ∧ day ≤ 73048) ∧ X a34 (day).toNat ≠ -1 ∧ X a34 (day).toNat ≠ n then 1 else 0))) := by
  refine Ct.of (by decide +kernel) (Nat.le_of_ble_eq_true rfl) ?_
  intro p e s m below meth c ls hx hb hr hml hown hG hlocks hname hw hl
  have hl : lv_has ls 3 [(0, .ref md), (1, .int (iI n)), (2, .int (iI day))] := hl
  refine lv_iload_n (pc := 0) hx hb dX9_isTaken_0 rfl (lv_at hl 2 rfl) ?_
  refine zkIp (pc := 1) (zrS (As := [.int (iI day)]) hx hb hml hown hG hw (c_X9_isDay l Γ K X Rf day  (by (first | assumption | omega))) cb_X9_isDay wl_X9_126 rfl ⟨Nat.le_of_ble_eq_true rfl, Nat.le_of_ble_eq_true rfl⟩ hl.1 rfl (Nat.le_of_ble_eq_true rfl) dX9_isTaken_1 ⟨Nat.zero_le _, Nat.zero_le _⟩) hw (fun r1 H locs hp1 hw => ?_)
  subst hp1
  refine zif_eq (pc := 4) hx hb 31 (by omega) dX9_isTaken_4 (by decide) (fun c4 => ?_) (fun c4 => ?_)
  · skip
    replace c4 := it0 c4
    refine ziconst (pc := 31) (n := 0) hx hb dX9_isTaken_31 ?_
    exact zretZ (pc := 32) hx hb hlocks hr (Or.inl rfl) hw (Nat.zero_le _) (Nat.zero_le _) dX9_isTaken_32 ⟨by (try dsimp only) <;> (first | (rw [if_pos (by omega)]) | (rw [if_neg (by omega)])), rfl, rfl, rfl⟩
  · skip
    replace c4 := it1 c4
    have hb9 := hbv day.toNat (by omega)
    refine lv_aload_n (pc := 7) hx hb dX9_isTaken_7 rfl (lv_at hl 0 rfl) ?_
    refine zgetR (pc := 8) hx hb hG hown hw hmd (T := TX9) rfl 34 (by decide) rfl wf_X9_83 rfl hB34 dX9_isTaken_8 ?_
    refine lv_iload_n (pc := 11) hx hb dX9_isTaken_11 rfl (lv_at hl 2 rfl) ?_
    refine zbald (pc := 12) hx hb hw hA34 ⟨by omega, by omega⟩ (by omega) dX9_isTaken_12 ?_
    refine ziconst (pc := 13) (n := (-1)) hx hb dX9_isTaken_13 ?_
    refine zicmp_eq (pc := 14) hx hb 31 (by omega) (by omega) dX9_isTaken_14 (by decide) (fun c14 => ?_) (fun c14 => ?_)
    · skip
      refine ziconst (pc := 31) (n := 0) hx hb dX9_isTaken_31 ?_
      exact zretZ (pc := 32) hx hb hlocks hr (Or.inl rfl) hw (Nat.zero_le _) (Nat.zero_le _) dX9_isTaken_32 ⟨by (try dsimp only) <;> (first | (rw [if_pos (by omega)]) | (rw [if_neg (by omega)])), rfl, rfl, rfl⟩
    · skip
      refine lv_aload_n (pc := 17) hx hb dX9_isTaken_17 rfl (lv_at hl 0 rfl) ?_
      refine zgetR (pc := 18) hx hb hG hown hw hmd (T := TX9) rfl 34 (by decide) rfl wf_X9_83 rfl hB34 dX9_isTaken_18 ?_
      refine lv_iload_n (pc := 21) hx hb dX9_isTaken_21 rfl (lv_at hl 2 rfl) ?_
      refine zbald (pc := 22) hx hb hw hA34 ⟨by omega, by omega⟩ (by omega) dX9_isTaken_22 ?_
      refine lv_iload_n (pc := 23) hx hb dX9_isTaken_23 rfl (lv_at hl 1 rfl) ?_
      refine zicmp_eq (pc := 24) hx hb 31 (by omega) (by omega) dX9_isTaken_24 (by decide) (fun c24 => ?_) (fun c24 => ?_)
      · skip
        refine ziconst (pc := 31) (n := 0) hx hb dX9_isTaken_31 ?_
        exact zretZ (pc := 32) hx hb hlocks hr (Or.inl rfl) hw (Nat.zero_le _) (Nat.zero_le _) dX9_isTaken_32 ⟨by (try dsimp only) <;> (first | (rw [if_pos (by omega)]) | (rw [if_neg (by omega)])), rfl, rfl, rfl⟩
      · skip
        refine ziconst (pc := 27) (n := 1) hx hb dX9_isTaken_27 ?_
        refine lv_goto (pc := 28) (tgt := 32) hx hb dX9_isTaken_28 (by decide) ?_
        exact zretZ (pc := 32) hx hb hlocks hr (Or.inr rfl) hw (Nat.zero_le _) (Nat.zero_le _) dX9_isTaken_32 ⟨by (try dsimp only) <;> (first | (rw [if_pos (by omega)]) | (rw [if_neg (by omega)])), rfl, rfl, rfl⟩
set_option maxHeartbeats 4000000 in
set_option maxRecDepth 100000 in
theorem c_X9_moved (l : Launch) (Γ : zG) (K : zK) (X : zX) (Rf : zR) (md : Nat) (n : Int) (day : Int) (a33 : Nat) (a34 : Nat) (G : Int → Int) (hmd : K md = (1, 8)) (hB33 : Rf md 33 = some a33) (hB34 : Rf md 34 = some a34) (hA33 : K a33 = (2, 20)) (hA34 : K a34 = (3, 73049)) (h1 : (0 ≤ day ∧ day ≤ 73048) ∧ 0 ≤ n ∧ n < 20) (hbv : ∀ d : Nat, d ≤ 73048 → -1 ≤ X a34 d ∧ X a34 d ≤ 19) (hw : 0 ≤ X md 26 ∧ X md 26 ≤ 127) (hwy : 0 ≤ X a33 n.toNat ∧ X a33 n.toNat ≤ 3) (hT9 : ∀ d : Int, G d < 0 ↔ ¬((0 ≤ d ∧ d ≤ 73048) ∧ X a34 (d).toNat ≠ -1 ∧ X a34 (d).toNat ≠ n)) : Ct l yX9_moved cX9_moved 5 (some .int) 3 0 0 Γ [.ref md, .int (iI n), .int (iI day)] K X Rf (pI (zp0 K X Rf (fun r : Int => r = mvD (frD (X md 26) (X a33 n.toNat) G) (X a33 n.toNat) day))) := by
  refine Ct.of (by decide +kernel) (Nat.le_of_ble_eq_true rfl) ?_
  intro p e s m below meth c ls hx hb hr hml hown hG hlocks hname hw hl
  have hl : lv_has ls 5 [(0, .ref md), (1, .int (iI n)), (2, .int (iI day))] := hl
  refine lv_aload_n (pc := 0) hx hb dX9_moved_0 rfl (lv_at hl 0 rfl) ?_
  refine zgetR (pc := 1) hx hb hG hown hw hmd (T := TX9) rfl 33 (by decide) rfl wf_X9_79 rfl hB33 dX9_moved_1 ?_
  refine lv_iload_n (pc := 4) hx hb dX9_moved_4 rfl (lv_at hl 1 rfl) ?_
  refine zald (pc := 5) hx hb hw hA33 ⟨by omega, by omega⟩ (by omega) dX9_moved_5 ?_
  refine ztop (fun x6 ex6 => ?_)
  refine lv_istore_n (pc := 6) (lv' := [(3, .int (iI x6)), (0, .ref md), (1, .int (iI n)), (2, .int (iI day))]) hx hb dX9_moved_6 rfl hl (by decide) rfl (fun ls hl => ?_)
  refine lv_iload_n (pc := 7) hx hb dX9_moved_7 rfl (lv_at hl 0 rfl) ?_
  refine zif_eq (pc := 8) hx hb 33 (by omega) dX9_moved_8 (by decide) (fun c8 => ?_) (fun c8 => ?_)
  · skip
    refine lv_iload_n (pc := 33) hx hb dX9_moved_33 rfl (lv_at hl 3 rfl) ?_
    exact zretI (pc := 34) hx hb hlocks hr hw (Nat.zero_le _) (Nat.zero_le _) dX9_moved_34 ⟨by (try dsimp only) <;> (exact (mvD_y (by first | exact Or.inl (by omega) | exact Or.inr (frT (hT9 _) (by assumption) (by first | exact Or.inl (by omega) | exact Or.inr (by assumption))))).symm), rfl, rfl, rfl⟩
  · skip
    refine lv_aload_n (pc := 11) hx hb dX9_moved_11 rfl (lv_at hl 1 rfl) ?_
    refine lv_iload_n (pc := 12) hx hb dX9_moved_12 rfl (lv_at hl 3 rfl) ?_
    refine zkIp (pc := 13) (zrV (As := [.int (iI day)]) hx hb hml hown hG hw (c_X9_isWeekday l Γ K X Rf md day  (by (first | assumption | omega)) (by (first | assumption | omega)) (by (first | assumption | omega))) (T := TX9) hmd rfl cb_X9_isWeekday wl_X9_291 rfl ⟨Nat.le_of_ble_eq_true rfl, Nat.le_of_ble_eq_true rfl⟩ hl.1 rfl (Nat.le_of_ble_eq_true rfl) dX9_moved_13 ⟨Nat.zero_le _, Nat.zero_le _⟩) hw (fun r13 H locs hp13 hw => ?_)
    subst hp13
    refine zif_eq (pc := 16) hx hb 35 (by omega) dX9_moved_16 (by decide) (fun c16 => ?_) (fun c16 => ?_)
    · skip
      replace c16 := it0 c16
      refine ziconst (pc := 35) (n := 1) hx hb dX9_moved_35 ?_
      refine lv_istore (pc := 36) (lv' := [(4, .int (iI 1)), (3, .int (iI x6)), (0, .ref md), (1, .int (iI n)), (2, .int (iI day))]) hx hb dX9_moved_36 hl (by decide) rfl (fun ls hl => ?_)
      have lp38 : ∀ (n38 : Nat) (kk : Int) (H : Heap) (locs : List Loc), (hi : 1 ≤ kk ∧ kk ≤ 61) → (hc : mvD (frD (X md 26) (X a33 n.toNat) G) (X a33 n.toNat) day = mvS (frD (X md 26) (X a33 n.toNat) G) (X a33 n.toNat) day (61 - kk).toNat kk) → ((61 - kk).toNat < n38) → Wd Γ (zA K s.heap.size) K X Rf s H locs → ∀ ls : Array Slot, lv_has ls 5 [(4, .int (iI kk)), (3, .int (iI x6)), (0, .ref md), (1, .int (iI n)), (2, .int (iI day))] → W p l e (rmL 3 0 0) s m ([.ref md, .int (iI n), .int (iI day)] : List Value).toArray below meth c H locs 0 0 (MQ below (zQ Γ K s.heap.size (pI (zp0 K X Rf (fun r : Int => r = mvD (frD (X md 26) (X a33 n.toNat) G) (X a33 n.toNat) day)))) ([.ref md, .int (iI n), .int (iI day)] : List Value).toArray s 0 0 (zA K s.heap.size)) (F0 m 38 ls []) := by
        intro n38
        induction n38 with
        | zero => intro kk H locs hi hc hm38; exact absurd hm38 (Nat.not_lt_zero _)
        | succ n38 ih38 =>
          intro kk H locs hi hc hm38 hw ls hl
          refine lv_iload (pc := 38) hx hb dX9_moved_38 (lv_at hl 0 rfl) ?_
          refine zbipush (pc := 40) (n := 60) hx hb dX9_moved_40 rfl ?_
          refine zicmp_gt (pc := 42) hx hb 105 (by omega) (by omega) dX9_moved_42 (by decide) (fun c42 => ?_) (fun c42 => ?_)
          · skip
            refine ziconst (pc := 105) (n := (-1)) hx hb dX9_moved_105 ?_
            exact zretI (pc := 106) hx hb hlocks hr hw (Nat.zero_le _) (Nat.zero_le _) dX9_moved_106 ⟨by (try dsimp only) <;> (rw [hc, mvS_e (by omega)]), rfl, rfl, rfl⟩
          · skip
            refine lv_aload_n (pc := 45) hx hb dX9_moved_45 rfl (lv_at hl 2 rfl) ?_
            refine lv_iload_n (pc := 46) hx hb dX9_moved_46 rfl (lv_at hl 4 rfl) ?_
            refine lv_iload (pc := 47) hx hb dX9_moved_47 (lv_at hl 0 rfl) ?_
            refine zadd (pc := 49) hx hb dX9_moved_49 ?_
            refine zkIp (pc := 50) (zrV (As := [.int (iI (day + kk))]) hx hb hml hown hG hw (c_X9_isWeekday l Γ K X Rf md (day + kk)  (by (first | assumption | omega)) (by (first | assumption | omega)) (by (first | assumption | omega))) (T := TX9) hmd rfl cb_X9_isWeekday wl_X9_291 rfl ⟨Nat.le_of_ble_eq_true rfl, Nat.le_of_ble_eq_true rfl⟩ hl.1 rfl (Nat.le_of_ble_eq_true rfl) dX9_moved_50 ⟨Nat.zero_le _, Nat.zero_le _⟩) hw (fun r50 H locs hp50 hw => ?_)
            subst hp50
            refine zif_eq (pc := 53) hx hb 78 (by omega) dX9_moved_53 (by decide) (fun c53 => ?_) (fun c53 => ?_)
            · skip
              replace c53 := it0 c53
              refine lv_iload_n (pc := 78) hx hb dX9_moved_78 rfl (lv_at hl 1 rfl) ?_
              refine ziconst (pc := 79) (n := 2) hx hb dX9_moved_79 ?_
              refine zicmp_ne (pc := 80) hx hb 99 (by omega) (by omega) dX9_moved_80 (by decide) (fun c80 => ?_) (fun c80 => ?_)
              · skip
                refine ziinc (pc := 99) (lv' := [(4, .int (iI (kk + 1))), (3, .int (iI x6)), (0, .ref md), (1, .int (iI n)), (2, .int (iI day))]) hx hb 0 dX9_moved_99 hl rfl (by decide) rfl (fun ls hl => ?_)
                obtain ⟨x99, ex99⟩ : ∃ zz : Int, zz = (kk + 1) := ⟨_, rfl⟩
                rw [← ex99] at hl
                refine lv_goto (pc := 102) (tgt := 38) hx hb dX9_moved_102 (by decide) ?_
                exact ih38 x99 _ _ (by (first | assumption | omega)) (by rw [hc, ex99]; exact mvS_c (by omega) (frF (hT9 _) (by omega) (by first | exact Or.inl (by assumption) | exact Or.inr ⟨by omega, by assumption⟩)) (by first | exact Or.inl (by omega) | exact Or.inr (frF (hT9 _) (by omega) (Or.inl (by assumption))))) (by omega) hw _ (lv_sub hl [0, 1, 2, 3, 4] rfl)
              · skip
                refine lv_aload_n (pc := 83) hx hb dX9_moved_83 rfl (lv_at hl 2 rfl) ?_
                refine lv_iload_n (pc := 84) hx hb dX9_moved_84 rfl (lv_at hl 4 rfl) ?_
                refine lv_iload (pc := 85) hx hb dX9_moved_85 (lv_at hl 0 rfl) ?_
                refine zsub (pc := 87) hx hb dX9_moved_87 ?_
                refine zkIp (pc := 88) (zrV (As := [.int (iI (day - kk))]) hx hb hml hown hG hw (c_X9_isWeekday l Γ K X Rf md (day - kk)  (by (first | assumption | omega)) (by (first | assumption | omega)) (by (first | assumption | omega))) (T := TX9) hmd rfl cb_X9_isWeekday wl_X9_291 rfl ⟨Nat.le_of_ble_eq_true rfl, Nat.le_of_ble_eq_true rfl⟩ hl.1 rfl (Nat.le_of_ble_eq_true rfl) dX9_moved_88 ⟨Nat.zero_le _, Nat.zero_le _⟩) hw (fun r88 H locs hp88 hw => ?_)
                subst hp88
                refine zif_eq (pc := 91) hx hb 99 (by omega) dX9_moved_91 (by decide) (fun c91 => ?_) (fun c91 => ?_)
                · skip
                  replace c91 := it0 c91
                  refine ziinc (pc := 99) (lv' := [(4, .int (iI (kk + 1))), (3, .int (iI x6)), (0, .ref md), (1, .int (iI n)), (2, .int (iI day))]) hx hb 0 dX9_moved_99 hl rfl (by decide) rfl (fun ls hl => ?_)
                  obtain ⟨x99, ex99⟩ : ∃ zz : Int, zz = (kk + 1) := ⟨_, rfl⟩
                  rw [← ex99] at hl
                  refine lv_goto (pc := 102) (tgt := 38) hx hb dX9_moved_102 (by decide) ?_
                  exact ih38 x99 _ _ (by (first | assumption | omega)) (by rw [hc, ex99]; exact mvS_c (by omega) (frF (hT9 _) (by omega) (by first | exact Or.inl (by assumption) | exact Or.inr ⟨by omega, by assumption⟩)) (by first | exact Or.inl (by omega) | exact Or.inr (frF (hT9 _) (by omega) (Or.inl (by assumption))))) (by omega) hw _ (lv_sub hl [0, 1, 2, 3, 4] rfl)
                · skip
                  replace c91 := it1 c91
                  refine lv_iload_n (pc := 94) hx hb dX9_moved_94 rfl (lv_at hl 4 rfl) ?_
                  refine lv_iload (pc := 95) hx hb dX9_moved_95 (lv_at hl 0 rfl) ?_
                  refine zsub (pc := 97) hx hb dX9_moved_97 ?_
                  exact zretI (pc := 98) hx hb hlocks hr hw (Nat.zero_le _) (Nat.zero_le _) dX9_moved_98 ⟨by (try dsimp only) <;> (rw [hc]; exact (mvS_b (by omega) (frF (hT9 _) (by omega) (by first | exact Or.inl (by assumption) | exact Or.inr ⟨by omega, by assumption⟩)) (by omega) (frT (hT9 _) (by assumption) (Or.inl (by omega)))).symm), rfl, rfl, rfl⟩
            · skip
              replace c53 := it1 c53
              refine lv_iload_n (pc := 56) hx hb dX9_moved_56 rfl (lv_at hl 1 rfl) ?_
              refine ziconst (pc := 57) (n := 3) hx hb dX9_moved_57 ?_
              refine zicmp_lt (pc := 58) hx hb 73 (by omega) (by omega) dX9_moved_58 (by decide) (fun c58 => ?_) (fun c58 => ?_)
              · skip
                refine lv_iload_n (pc := 73) hx hb dX9_moved_73 rfl (lv_at hl 4 rfl) ?_
                refine lv_iload (pc := 74) hx hb dX9_moved_74 (lv_at hl 0 rfl) ?_
                refine zadd (pc := 76) hx hb dX9_moved_76 ?_
                exact zretI (pc := 77) hx hb hlocks hr hw (Nat.zero_le _) (Nat.zero_le _) dX9_moved_77 ⟨by (try dsimp only) <;> (rw [hc]; exact (mvS_a (by omega) (frT (hT9 _) (by assumption) (by first | exact Or.inl (by omega) | exact Or.inr (by assumption)))).symm), rfl, rfl, rfl⟩
              · skip
                refine lv_aload_n (pc := 61) hx hb dX9_moved_61 rfl (lv_at hl 2 rfl) ?_
                refine lv_iload_n (pc := 62) hx hb dX9_moved_62 rfl (lv_at hl 3 rfl) ?_
                refine lv_iload_n (pc := 63) hx hb dX9_moved_63 rfl (lv_at hl 4 rfl) ?_
                refine lv_iload (pc := 64) hx hb dX9_moved_64 (lv_at hl 0 rfl) ?_
                refine zadd (pc := 66) hx hb dX9_moved_66 ?_
                refine zkIp (pc := 67) (zrV (As := [.int (iI n), .int (iI (day + kk))]) hx hb hml hown hG hw (c_X9_isTaken l Γ K X Rf md n (day + kk) a34 (by (first | assumption | omega)) (by (first | assumption | omega)) (by (first | assumption | omega)) (by (first | assumption | omega)) (by (first | assumption | omega))) (T := TX9) hmd rfl cb_X9_isTaken wl_X9_294 rfl ⟨Nat.le_of_ble_eq_true rfl, Nat.le_of_ble_eq_true rfl⟩ hl.1 rfl (Nat.le_of_ble_eq_true rfl) dX9_moved_67 ⟨Nat.zero_le _, Nat.zero_le _⟩) hw (fun r67 H locs hp67 hw => ?_)
                subst hp67
                refine zif_ne (pc := 70) hx hb 78 (by omega) dX9_moved_70 (by decide) (fun c70 => ?_) (fun c70 => ?_)
                · skip
                  replace c70 := it1 c70
                  refine lv_iload_n (pc := 78) hx hb dX9_moved_78 rfl (lv_at hl 1 rfl) ?_
                  refine ziconst (pc := 79) (n := 2) hx hb dX9_moved_79 ?_
                  refine zicmp_ne (pc := 80) hx hb 99 (by omega) (by omega) dX9_moved_80 (by decide) (fun c80 => ?_) (fun c80 => ?_)
                  · skip
                    refine ziinc (pc := 99) (lv' := [(4, .int (iI (kk + 1))), (3, .int (iI x6)), (0, .ref md), (1, .int (iI n)), (2, .int (iI day))]) hx hb 0 dX9_moved_99 hl rfl (by decide) rfl (fun ls hl => ?_)
                    obtain ⟨x99, ex99⟩ : ∃ zz : Int, zz = (kk + 1) := ⟨_, rfl⟩
                    rw [← ex99] at hl
                    refine lv_goto (pc := 102) (tgt := 38) hx hb dX9_moved_102 (by decide) ?_
                    exact ih38 x99 _ _ (by (first | assumption | omega)) (by rw [hc, ex99]; exact mvS_c (by omega) (frF (hT9 _) (by omega) (by first | exact Or.inl (by assumption) | exact Or.inr ⟨by omega, by assumption⟩)) (by first | exact Or.inl (by omega) | exact Or.inr (frF (hT9 _) (by omega) (Or.inl (by assumption))))) (by omega) hw _ (lv_sub hl [0, 1, 2, 3, 4] rfl)
                  · skip
                    refine lv_aload_n (pc := 83) hx hb dX9_moved_83 rfl (lv_at hl 2 rfl) ?_
                    refine lv_iload_n (pc := 84) hx hb dX9_moved_84 rfl (lv_at hl 4 rfl) ?_
                    refine lv_iload (pc := 85) hx hb dX9_moved_85 (lv_at hl 0 rfl) ?_
                    refine zsub (pc := 87) hx hb dX9_moved_87 ?_
                    refine zkIp (pc := 88) (zrV (As := [.int (iI (day - kk))]) hx hb hml hown hG hw (c_X9_isWeekday l Γ K X Rf md (day - kk)  (by (first | assumption | omega)) (by (first | assumption | omega)) (by (first | assumption | omega))) (T := TX9) hmd rfl cb_X9_isWeekday wl_X9_291 rfl ⟨Nat.le_of_ble_eq_true rfl, Nat.le_of_ble_eq_true rfl⟩ hl.1 rfl (Nat.le_of_ble_eq_true rfl) dX9_moved_88 ⟨Nat.zero_le _, Nat.zero_le _⟩) hw (fun r88 H locs hp88 hw => ?_)
                    subst hp88
                    refine zif_eq (pc := 91) hx hb 99 (by omega) dX9_moved_91 (by decide) (fun c91 => ?_) (fun c91 => ?_)
                    · skip
                      replace c91 := it0 c91
                      refine ziinc (pc := 99) (lv' := [(4, .int (iI (kk + 1))), (3, .int (iI x6)), (0, .ref md), (1, .int (iI n)), (2, .int (iI day))]) hx hb 0 dX9_moved_99 hl rfl (by decide) rfl (fun ls hl => ?_)
                      obtain ⟨x99, ex99⟩ : ∃ zz : Int, zz = (kk + 1) := ⟨_, rfl⟩
                      rw [← ex99] at hl
                      refine lv_goto (pc := 102) (tgt := 38) hx hb dX9_moved_102 (by decide) ?_
                      exact ih38 x99 _ _ (by (first | assumption | omega)) (by rw [hc, ex99]; exact mvS_c (by omega) (frF (hT9 _) (by omega) (by first | exact Or.inl (by assumption) | exact Or.inr ⟨by omega, by assumption⟩)) (by first | exact Or.inl (by omega) | exact Or.inr (frF (hT9 _) (by omega) (Or.inl (by assumption))))) (by omega) hw _ (lv_sub hl [0, 1, 2, 3, 4] rfl)
                    · skip
                      replace c91 := it1 c91
                      refine lv_iload_n (pc := 94) hx hb dX9_moved_94 rfl (lv_at hl 4 rfl) ?_
                      refine lv_iload (pc := 95) hx hb dX9_moved_95 (lv_at hl 0 rfl) ?_
                      refine zsub (pc := 97) hx hb dX9_moved_97 ?_
                      exact zretI (pc := 98) hx hb hlocks hr hw (Nat.zero_le _) (Nat.zero_le _) dX9_moved_98 ⟨by (try dsimp only) <;> (rw [hc]; exact (mvS_b (by omega) (frF (hT9 _) (by omega) (by first | exact Or.inl (by assumption) | exact Or.inr ⟨by omega, by assumption⟩)) (by omega) (frT (hT9 _) (by assumption) (Or.inl (by omega)))).symm), rfl, rfl, rfl⟩
                · skip
                  replace c70 := it0 c70
                  refine lv_iload_n (pc := 73) hx hb dX9_moved_73 rfl (lv_at hl 4 rfl) ?_
                  refine lv_iload (pc := 74) hx hb dX9_moved_74 (lv_at hl 0 rfl) ?_
                  refine zadd (pc := 76) hx hb dX9_moved_76 ?_
                  exact zretI (pc := 77) hx hb hlocks hr hw (Nat.zero_le _) (Nat.zero_le _) dX9_moved_77 ⟨by (try dsimp only) <;> (rw [hc]; exact (mvS_a (by omega) (frT (hT9 _) (by assumption) (by first | exact Or.inl (by omega) | exact Or.inr (by assumption)))).symm), rfl, rfl, rfl⟩
      exact lp38 _ 1 _ _ (by (first | assumption | omega)) (by exact mvD_n (by omega) (frF (hT9 _) (by omega) (by first | exact Or.inl (by assumption) | exact Or.inr ⟨by omega, by assumption⟩))) (Nat.lt_succ_self _) hw _ (lv_sub hl [0, 1, 2, 3, 4] rfl)
    · skip
      replace c16 := it1 c16
      refine lv_iload_n (pc := 19) hx hb dX9_moved_19 rfl (lv_at hl 0 rfl) ?_
      refine ziconst (pc := 20) (n := 3) hx hb dX9_moved_20 ?_
      refine zicmp_lt (pc := 21) hx hb 33 (by omega) (by omega) dX9_moved_21 (by decide) (fun c21 => ?_) (fun c21 => ?_)
      · skip
        refine lv_iload_n (pc := 33) hx hb dX9_moved_33 rfl (lv_at hl 3 rfl) ?_
        exact zretI (pc := 34) hx hb hlocks hr hw (Nat.zero_le _) (Nat.zero_le _) dX9_moved_34 ⟨by (try dsimp only) <;> (exact (mvD_y (by first | exact Or.inl (by omega) | exact Or.inr (frT (hT9 _) (by assumption) (by first | exact Or.inl (by omega) | exact Or.inr (by assumption))))).symm), rfl, rfl, rfl⟩
      · skip
        refine lv_aload_n (pc := 24) hx hb dX9_moved_24 rfl (lv_at hl 1 rfl) ?_
        refine lv_iload_n (pc := 25) hx hb dX9_moved_25 rfl (lv_at hl 2 rfl) ?_
        refine lv_iload_n (pc := 26) hx hb dX9_moved_26 rfl (lv_at hl 3 rfl) ?_
        refine zkIp (pc := 27) (zrV (As := [.int (iI n), .int (iI day)]) hx hb hml hown hG hw (c_X9_isTaken l Γ K X Rf md n day a34 (by (first | assumption | omega)) (by (first | assumption | omega)) (by (first | assumption | omega)) (by (first | assumption | omega)) (by (first | assumption | omega))) (T := TX9) hmd rfl cb_X9_isTaken wl_X9_294 rfl ⟨Nat.le_of_ble_eq_true rfl, Nat.le_of_ble_eq_true rfl⟩ hl.1 rfl (Nat.le_of_ble_eq_true rfl) dX9_moved_27 ⟨Nat.zero_le _, Nat.zero_le _⟩) hw (fun r27 H locs hp27 hw => ?_)
        subst hp27
        refine zif_ne (pc := 30) hx hb 35 (by omega) dX9_moved_30 (by decide) (fun c30 => ?_) (fun c30 => ?_)
        · skip
          replace c30 := it1 c30
          refine ziconst (pc := 35) (n := 1) hx hb dX9_moved_35 ?_
          refine lv_istore (pc := 36) (lv' := [(4, .int (iI 1)), (3, .int (iI x6)), (0, .ref md), (1, .int (iI n)), (2, .int (iI day))]) hx hb dX9_moved_36 hl (by decide) rfl (fun ls hl => ?_)
          have lp38 : ∀ (n38 : Nat) (kk : Int) (H : Heap) (locs : List Loc), (hi : 1 ≤ kk ∧ kk ≤ 61) → (hc : mvD (frD (X md 26) (X a33 n.toNat) G) (X a33 n.toNat) day = mvS (frD (X md 26) (X a33 n.toNat) G) (X a33 n.toNat) day (61 - kk).toNat kk) → ((61 - kk).toNat < n38) → Wd Γ (zA K s.heap.size) K X Rf s H locs → ∀ ls : Array Slot, lv_has ls 5 [(4, .int (iI kk)), (3, .int (iI x6)), (0, .ref md), (1, .int (iI n)), (2, .int (iI day))] → W p l e (rmL 3 0 0) s m ([.ref md, .int (iI n), .int (iI day)] : List Value).toArray below meth c H locs 0 0 (MQ below (zQ Γ K s.heap.size (pI (zp0 K X Rf (fun r : Int => r = mvD (frD (X md 26) (X a33 n.toNat) G) (X a33 n.toNat) day)))) ([.ref md, .int (iI n), .int (iI day)] : List Value).toArray s 0 0 (zA K s.heap.size)) (F0 m 38 ls []) := by
            intro n38
            induction n38 with
            | zero => intro kk H locs hi hc hm38; exact absurd hm38 (Nat.not_lt_zero _)
            | succ n38 ih38 =>
              intro kk H locs hi hc hm38 hw ls hl
              refine lv_iload (pc := 38) hx hb dX9_moved_38 (lv_at hl 0 rfl) ?_
              refine zbipush (pc := 40) (n := 60) hx hb dX9_moved_40 rfl ?_
              refine zicmp_gt (pc := 42) hx hb 105 (by omega) (by omega) dX9_moved_42 (by decide) (fun c42 => ?_) (fun c42 => ?_)
              · skip
                refine ziconst (pc := 105) (n := (-1)) hx hb dX9_moved_105 ?_
                exact zretI (pc := 106) hx hb hlocks hr hw (Nat.zero_le _) (Nat.zero_le _) dX9_moved_106 ⟨by (try dsimp only) <;> (rw [hc, mvS_e (by omega)]), rfl, rfl, rfl⟩
              · skip
                refine lv_aload_n (pc := 45) hx hb dX9_moved_45 rfl (lv_at hl 2 rfl) ?_
                refine lv_iload_n (pc := 46) hx hb dX9_moved_46 rfl (lv_at hl 4 rfl) ?_
                refine lv_iload (pc := 47) hx hb dX9_moved_47 (lv_at hl 0 rfl) ?_
                refine zadd (pc := 49) hx hb dX9_moved_49 ?_
                refine zkIp (pc := 50) (zrV (As := [.int (iI (day + kk))]) hx hb hml hown hG hw (c_X9_isWeekday l Γ K X Rf md (day + kk)  (by (first | assumption | omega)) (by (first | assumption | omega)) (by (first | assumption | omega))) (T := TX9) hmd rfl cb_X9_isWeekday wl_X9_291 rfl ⟨Nat.le_of_ble_eq_true rfl, Nat.le_of_ble_eq_true rfl⟩ hl.1 rfl (Nat.le_of_ble_eq_true rfl) dX9_moved_50 ⟨Nat.zero_le _, Nat.zero_le _⟩) hw (fun r50 H locs hp50 hw => ?_)
                subst hp50
                refine zif_eq (pc := 53) hx hb 78 (by omega) dX9_moved_53 (by decide) (fun c53 => ?_) (fun c53 => ?_)
                · skip
                  replace c53 := it0 c53
                  refine lv_iload_n (pc := 78) hx hb dX9_moved_78 rfl (lv_at hl 1 rfl) ?_
                  refine ziconst (pc := 79) (n := 2) hx hb dX9_moved_79 ?_
                  refine zicmp_ne (pc := 80) hx hb 99 (by omega) (by omega) dX9_moved_80 (by decide) (fun c80 => ?_) (fun c80 => ?_)
                  · skip
                    refine ziinc (pc := 99) (lv' := [(4, .int (iI (kk + 1))), (3, .int (iI x6)), (0, .ref md), (1, .int (iI n)), (2, .int (iI day))]) hx hb 0 dX9_moved_99 hl rfl (by decide) rfl (fun ls hl => ?_)
                    obtain ⟨x99, ex99⟩ : ∃ zz : Int, zz = (kk + 1) := ⟨_, rfl⟩
                    rw [← ex99] at hl
                    refine lv_goto (pc := 102) (tgt := 38) hx hb dX9_moved_102 (by decide) ?_
                    exact ih38 x99 _ _ (by (first | assumption | omega)) (by rw [hc, ex99]; exact mvS_c (by omega) (frF (hT9 _) (by omega) (by first | exact Or.inl (by assumption) | exact Or.inr ⟨by omega, by assumption⟩)) (by first | exact Or.inl (by omega) | exact Or.inr (frF (hT9 _) (by omega) (Or.inl (by assumption))))) (by omega) hw _ (lv_sub hl [0, 1, 2, 3, 4] rfl)
                  · skip
                    refine lv_aload_n (pc := 83) hx hb dX9_moved_83 rfl (lv_at hl 2 rfl) ?_
                    refine lv_iload_n (pc := 84) hx hb dX9_moved_84 rfl (lv_at hl 4 rfl) ?_
                    refine lv_iload (pc := 85) hx hb dX9_moved_85 (lv_at hl 0 rfl) ?_
                    refine zsub (pc := 87) hx hb dX9_moved_87 ?_
                    refine zkIp (pc := 88) (zrV (As := [.int (iI (day - kk))]) hx hb hml hown hG hw (c_X9_isWeekday l Γ K X Rf md (day - kk)  (by (first | assumption | omega)) (by (first | assumption | omega)) (by (first | assumption | omega))) (T := TX9) hmd rfl cb_X9_isWeekday wl_X9_291 rfl ⟨Nat.le_of_ble_eq_true rfl, Nat.le_of_ble_eq_true rfl⟩ hl.1 rfl (Nat.le_of_ble_eq_true rfl) dX9_moved_88 ⟨Nat.zero_le _, Nat.zero_le _⟩) hw (fun r88 H locs hp88 hw => ?_)
                    subst hp88
                    refine zif_eq (pc := 91) hx hb 99 (by omega) dX9_moved_91 (by decide) (fun c91 => ?_) (fun c91 => ?_)
                    · skip
                      replace c91 := it0 c91
                      refine ziinc (pc := 99) (lv' := [(4, .int (iI (kk + 1))), (3, .int (iI x6)), (0, .ref md), (1, .int (iI n)), (2, .int (iI day))]) hx hb 0 dX9_moved_99 hl rfl (by decide) rfl (fun ls hl => ?_)
                      obtain ⟨x99, ex99⟩ : ∃ zz : Int, zz = (kk + 1) := ⟨_, rfl⟩
                      rw [← ex99] at hl
                      refine lv_goto (pc := 102) (tgt := 38) hx hb dX9_moved_102 (by decide) ?_
                      exact ih38 x99 _ _ (by (first | assumption | omega)) (by rw [hc, ex99]; exact mvS_c (by omega) (frF (hT9 _) (by omega) (by first | exact Or.inl (by assumption) | exact Or.inr ⟨by omega, by assumption⟩)) (by first | exact Or.inl (by omega) | exact Or.inr (frF (hT9 _) (by omega) (Or.inl (by assumption))))) (by omega) hw _ (lv_sub hl [0, 1, 2, 3, 4] rfl)
                    · skip
                      replace c91 := it1 c91
                      refine lv_iload_n (pc := 94) hx hb dX9_moved_94 rfl (lv_at hl 4 rfl) ?_
                      refine lv_iload (pc := 95) hx hb dX9_moved_95 (lv_at hl 0 rfl) ?_
                      refine zsub (pc := 97) hx hb dX9_moved_97 ?_
                      exact zretI (pc := 98) hx hb hlocks hr hw (Nat.zero_le _) (Nat.zero_le _) dX9_moved_98 ⟨by (try dsimp only) <;> (rw [hc]; exact (mvS_b (by omega) (frF (hT9 _) (by omega) (by first | exact Or.inl (by assumption) | exact Or.inr ⟨by omega, by assumption⟩)) (by omega) (frT (hT9 _) (by assumption) (Or.inl (by omega)))).symm), rfl, rfl, rfl⟩
                · skip
                  replace c53 := it1 c53
                  refine lv_iload_n (pc := 56) hx hb dX9_moved_56 rfl (lv_at hl 1 rfl) ?_
                  refine ziconst (pc := 57) (n := 3) hx hb dX9_moved_57 ?_
                  refine zicmp_lt (pc := 58) hx hb 73 (by omega) (by omega) dX9_moved_58 (by decide) (fun c58 => ?_) (fun c58 => ?_)
                  · skip
                    refine lv_iload_n (pc := 73) hx hb dX9_moved_73 rfl (lv_at hl 4 rfl) ?_
                    refine lv_iload (pc := 74) hx hb dX9_moved_74 (lv_at hl 0 rfl) ?_
                    refine zadd (pc := 76) hx hb dX9_moved_76 ?_
                    exact zretI (pc := 77) hx hb hlocks hr hw (Nat.zero_le _) (Nat.zero_le _) dX9_moved_77 ⟨by (try dsimp only) <;> (rw [hc]; exact (mvS_a (by omega) (frT (hT9 _) (by assumption) (by first | exact Or.inl (by omega) | exact Or.inr (by assumption)))).symm), rfl, rfl, rfl⟩
                  · skip
                    refine lv_aload_n (pc := 61) hx hb dX9_moved_61 rfl (lv_at hl 2 rfl) ?_
                    refine lv_iload_n (pc := 62) hx hb dX9_moved_62 rfl (lv_at hl 3 rfl) ?_
                    refine lv_iload_n (pc := 63) hx hb dX9_moved_63 rfl (lv_at hl 4 rfl) ?_
                    refine lv_iload (pc := 64) hx hb dX9_moved_64 (lv_at hl 0 rfl) ?_
                    refine zadd (pc := 66) hx hb dX9_moved_66 ?_
                    refine zkIp (pc := 67) (zrV (As := [.int (iI n), .int (iI (day + kk))]) hx hb hml hown hG hw (c_X9_isTaken l Γ K X Rf md n (day + kk) a34 (by (first | assumption | omega)) (by (first | assumption | omega)) (by (first | assumption | omega)) (by (first | assumption | omega)) (by (first | assumption | omega))) (T := TX9) hmd rfl cb_X9_isTaken wl_X9_294 rfl ⟨Nat.le_of_ble_eq_true rfl, Nat.le_of_ble_eq_true rfl⟩ hl.1 rfl (Nat.le_of_ble_eq_true rfl) dX9_moved_67 ⟨Nat.zero_le _, Nat.zero_le _⟩) hw (fun r67 H locs hp67 hw => ?_)
                    subst hp67
                    refine zif_ne (pc := 70) hx hb 78 (by omega) dX9_moved_70 (by decide) (fun c70 => ?_) (fun c70 => ?_)
                    · skip
                      replace c70 := it1 c70
                      refine lv_iload_n (pc := 78) hx hb dX9_moved_78 rfl (lv_at hl 1 rfl) ?_
                      refine ziconst (pc := 79) (n := 2) hx hb dX9_moved_79 ?_
                      refine zicmp_ne (pc := 80) hx hb 99 (by omega) (by omega) dX9_moved_80 (by decide) (fun c80 => ?_) (fun c80 => ?_)
                      · skip
                        refine ziinc (pc := 99) (lv' := [(4, .int (iI (kk + 1))), (3, .int (iI x6)), (0, .ref md), (1, .int (iI n)), (2, .int (iI day))]) hx hb 0 dX9_moved_99 hl rfl (by decide) rfl (fun ls hl => ?_)
                        obtain ⟨x99, ex99⟩ : ∃ zz : Int, zz = (kk + 1) := ⟨_, rfl⟩
                        rw [← ex99] at hl
                        refine lv_goto (pc := 102) (tgt := 38) hx hb dX9_moved_102 (by decide) ?_
                        exact ih38 x99 _ _ (by (first | assumption | omega)) (by rw [hc, ex99]; exact mvS_c (by omega) (frF (hT9 _) (by omega) (by first | exact Or.inl (by assumption) | exact Or.inr ⟨by omega, by assumption⟩)) (by first | exact Or.inl (by omega) | exact Or.inr (frF (hT9 _) (by omega) (Or.inl (by assumption))))) (by omega) hw _ (lv_sub hl [0, 1, 2, 3, 4] rfl)
                      · skip
                        refine lv_aload_n (pc := 83) hx hb dX9_moved_83 rfl (lv_at hl 2 rfl) ?_
                        refine lv_iload_n (pc := 84) hx hb dX9_moved_84 rfl (lv_at hl 4 rfl) ?_
                        refine lv_iload (pc := 85) hx hb dX9_moved_85 (lv_at hl 0 rfl) ?_
                        refine zsub (pc := 87) hx hb dX9_moved_87 ?_
                        refine zkIp (pc := 88) (zrV (As := [.int (iI (day - kk))]) hx hb hml hown hG hw (c_X9_isWeekday l Γ K X Rf md (day - kk)  (by (first | assumption | omega)) (by (first | assumption | omega)) (by (first | assumption | omega))) (T := TX9) hmd rfl cb_X9_isWeekday wl_X9_291 rfl ⟨Nat.le_of_ble_eq_true rfl, Nat.le_of_ble_eq_true rfl⟩ hl.1 rfl (Nat.le_of_ble_eq_true rfl) dX9_moved_88 ⟨Nat.zero_le _, Nat.zero_le _⟩) hw (fun r88 H locs hp88 hw => ?_)
                        subst hp88
                        refine zif_eq (pc := 91) hx hb 99 (by omega) dX9_moved_91 (by decide) (fun c91 => ?_) (fun c91 => ?_)
                        · skip
                          replace c91 := it0 c91
                          refine ziinc (pc := 99) (lv' := [(4, .int (iI (kk + 1))), (3, .int (iI x6)), (0, .ref md), (1, .int (iI n)), (2, .int (iI day))]) hx hb 0 dX9_moved_99 hl rfl (by decide) rfl (fun ls hl => ?_)
                          obtain ⟨x99, ex99⟩ : ∃ zz : Int, zz = (kk + 1) := ⟨_, rfl⟩
                          rw [← ex99] at hl
                          refine lv_goto (pc := 102) (tgt := 38) hx hb dX9_moved_102 (by decide) ?_
                          exact ih38 x99 _ _ (by (first | assumption | omega)) (by rw [hc, ex99]; exact mvS_c (by omega) (frF (hT9 _) (by omega) (by first | exact Or.inl (by assumption) | exact Or.inr ⟨by omega, by assumption⟩)) (by first | exact Or.inl (by omega) | exact Or.inr (frF (hT9 _) (by omega) (Or.inl (by assumption))))) (by omega) hw _ (lv_sub hl [0, 1, 2, 3, 4] rfl)
                        · skip
                          replace c91 := it1 c91
                          refine lv_iload_n (pc := 94) hx hb dX9_moved_94 rfl (lv_at hl 4 rfl) ?_
                          refine lv_iload (pc := 95) hx hb dX9_moved_95 (lv_at hl 0 rfl) ?_
                          refine zsub (pc := 97) hx hb dX9_moved_97 ?_
                          exact zretI (pc := 98) hx hb hlocks hr hw (Nat.zero_le _) (Nat.zero_le _) dX9_moved_98 ⟨by (try dsimp only) <;> (rw [hc]; exact (mvS_b (by omega) (frF (hT9 _) (by omega) (by first | exact Or.inl (by assumption) | exact Or.inr ⟨by omega, by assumption⟩)) (by omega) (frT (hT9 _) (by assumption) (Or.inl (by omega)))).symm), rfl, rfl, rfl⟩
                    · skip
                      replace c70 := it0 c70
                      refine lv_iload_n (pc := 73) hx hb dX9_moved_73 rfl (lv_at hl 4 rfl) ?_
                      refine lv_iload (pc := 74) hx hb dX9_moved_74 (lv_at hl 0 rfl) ?_
                      refine zadd (pc := 76) hx hb dX9_moved_76 ?_
                      exact zretI (pc := 77) hx hb hlocks hr hw (Nat.zero_le _) (Nat.zero_le _) dX9_moved_77 ⟨by (try dsimp only) <;> (rw [hc]; exact (mvS_a (by omega) (frT (hT9 _) (by assumption) (by first | exact Or.inl (by omega) | exact Or.inr (by assumption)))).symm), rfl, rfl, rfl⟩
          exact lp38 _ 1 _ _ (by (first | assumption | omega)) (by exact mvD_n (by omega) (frF (hT9 _) (by omega) (by first | exact Or.inl (by assumption) | exact Or.inr ⟨by omega, by assumption⟩))) (Nat.lt_succ_self _) hw _ (lv_sub hl [0, 1, 2, 3, 4] rfl)
        · skip
          replace c30 := it0 c30
          refine lv_iload_n (pc := 33) hx hb dX9_moved_33 rfl (lv_at hl 3 rfl) ?_
          exact zretI (pc := 34) hx hb hlocks hr hw (Nat.zero_le _) (Nat.zero_le _) dX9_moved_34 ⟨by (try dsimp only) <;> (exact (mvD_y (by first | exact Or.inl (by omega) | exact Or.inr (frT (hT9 _) (by assumption) (by first | exact Or.inl (by omega) | exact Or.inr (by assumption))))).symm), rfl, rfl, rfl⟩
set_option maxHeartbeats 4000000 in
set_option maxRecDepth 100000 in
theorem c_J7_fill_031fb (l : Launch) (Γ : zG) (K : zK) (X : zX) (Rf : zR) (b : Nat) (v : Int) (n : Nat) (hb9 : K b = (3, n)) (h1 : n < 2147483648 ∧ -128 ≤ v ∧ v ≤ 127) : Ct l yJ7_fill_031fb cJ7_fill_031fb 4 none 0 0 0 Γ [.ref b, .int (iI v)] K X Rf (pV (zpv K Rf (fun X' : zX => (∀ a, a ≠ b → X' a = X a) ∧ ∀ j, j < n → X' b j = v))) := by
  refine Ct.ofF (by decide +kernel) (Nat.le_of_ble_eq_true rfl) ?_
  intro p e s m below meth c ls hx hb hr hml hown hG hlocks hname hw hl
  have hl : lv_has ls 4 [(0, .ref b), (1, .int (iI v))] := hl
  refine ziconst (pc := 0) (n := 0) hx hb dJ7_fill_031fb_0 ?_
  refine lv_istore_n (pc := 1) (lv' := [(2, .int (iI 0)), (0, .ref b), (1, .int (iI v))]) hx hb dJ7_fill_031fb_1 rfl hl (by decide) rfl (fun ls hl => ?_)
  refine lv_aload_n (pc := 2) hx hb dJ7_fill_031fb_2 rfl (lv_at hl 1 rfl) ?_
  refine zlen3 (pc := 3) hx hb hw hb9 dJ7_fill_031fb_3 ?_
  refine ztop (fun x4 ex4 => ?_)
  refine lv_istore_n (pc := 4) (lv' := [(3, .int (iI x4)), (2, .int (iI 0)), (0, .ref b), (1, .int (iI v))]) hx hb dJ7_fill_031fb_4 rfl hl (by decide) rfl (fun ls hl => ?_)
  have lp5 : ∀ (n5 : Nat) (kk : Int) (XL5 : zX) (H : Heap) (locs : List Loc), (hi : 0 ≤ kk ∧ kk ≤ n) → (ho : ∀ a, a ≠ b → XL5 a = X a) → (hv : ∀ j : Nat, (j : Int) < kk → XL5 b j = v) → (((n : Int) - kk).toNat < n5) → Wd Γ (zA K s.heap.size) K XL5 Rf s H locs → ∀ ls : Array Slot, lv_has ls 4 [(3, .int (iI x4)), (2, .int (iI kk)), (0, .ref b), (1, .int (iI v))] → W p l e (rmL 0 0 0) s m ([.ref b, .int (iI v)] : List Value).toArray below meth c H locs 0 0 (MQ below (zQ Γ K s.heap.size (pV (zpv K Rf (fun X' : zX => (∀ a, a ≠ b → X' a = X a) ∧ ∀ j, j < n → X' b j = v)))) ([.ref b, .int (iI v)] : List Value).toArray s 0 0 (zA K s.heap.size)) (F0 m 5 ls []) := by
    intro n5
    induction n5 with
    | zero => intro kk XL5 H locs hi ho hv hm5; exact absurd hm5 (Nat.not_lt_zero _)
    | succ n5 ih5 =>
      intro kk XL5 H locs hi ho hv hm5 hw ls hl
      refine lv_iload_n (pc := 5) hx hb dJ7_fill_031fb_5 rfl (lv_at hl 1 rfl) ?_
      refine lv_iload_n (pc := 6) hx hb dJ7_fill_031fb_6 rfl (lv_at hl 0 rfl) ?_
      refine zicmp_ge (pc := 7) hx hb 20 (by omega) (by omega) dJ7_fill_031fb_7 (by decide) (fun c7 => ?_) (fun c7 => ?_)
      · skip
        exact zretV (pc := 20) hx hb hlocks hr hw (Nat.zero_le _) (Nat.zero_le _) dJ7_fill_031fb_20 ⟨by (try dsimp only) <;> (exact ⟨ho, fun j hj => hv j (by omega)⟩), rfl, rfl⟩
      · skip
        refine lv_aload_n (pc := 10) hx hb dJ7_fill_031fb_10 rfl (lv_at hl 2 rfl) ?_
        refine lv_iload_n (pc := 11) hx hb dJ7_fill_031fb_11 rfl (lv_at hl 1 rfl) ?_
        refine lv_iload_n (pc := 12) hx hb dJ7_fill_031fb_12 rfl (lv_at hl 3 rfl) ?_
        refine zbast (pc := 13) hx hb hw hb9 ⟨by omega, by omega⟩ (by omega) (zbyte (by omega)) dJ7_fill_031fb_13 (fun H locs hw => ?_)
        obtain ⟨X13, eX13⟩ : ∃ Y : zX, Y = up2 XL5 b kk.toNat v := ⟨_, rfl⟩
        rw [← eX13] at hw
        refine ziinc (pc := 14) (lv' := [(2, .int (iI (kk + 1))), (3, .int (iI x4)), (0, .ref b), (1, .int (iI v))]) hx hb 1 dJ7_fill_031fb_14 hl rfl (by decide) rfl (fun ls hl => ?_)
        obtain ⟨x14, ex14⟩ : ∃ zz : Int, zz = (kk + 1) := ⟨_, rfl⟩
        rw [← ex14] at hl
        refine lv_goto (pc := 17) (tgt := 5) hx hb dJ7_fill_031fb_17 (by decide) ?_
        exact ih5 x14 X13 _ _ (by (first | assumption | omega)) (by intro a ha; rw [eX13, up2_o ha]; exact ho a ha) (by 
                                        intro j hj
                                        rw [eX13]
                                        by_cases q : j = kk.toNat
                                        · subst q; exact up2_s
                                        · rw [up2_k q]; exact hv j (by omega)) (by omega) hw _ (lv_sub hl [1, 0, 2, 3] rfl)
  exact lp5 _ 0 X _ _ (by (first | assumption | omega)) (by exact fun _ _ => rfl) (by intro j hj; omega) (Nat.lt_succ_self _) hw _ (lv_sub hl [0, 1, 2, 3] rfl)
