set_option maxHeartbeats 4000000 in
set_option maxRecDepth 100000 in
theorem c_L_below (l : Launch) (Γ : zG) (K : zK) (X : zX) (Rf : zR) (v : Int) (n : Int)  (h1 : fit v) (h2 : 0 < n ∧ n < 2147483648) : Ct l yL_below cL_below 2 (some .int) 0 0 0 Γ [.int (iI v), .int (iI n)] K X Rf (pI (zp0 K X Rf (fun r : Int => 0 ≤ r ∧ r < n))) := by
  refine Ct.of (by decide +kernel) (Nat.le_of_ble_eq_true rfl) ?_
  intro p e s m below meth c ls hx hb hr hml hown hG hlocks hname hw hl
  have hl : lv_has ls 2 [(0, .int (iI v)), (1, .int (iI n))] := hl
  refine lv_iload_n (pc := 0) hx hb dL_below_0 rfl (lv_at hl 0 rfl) ?_
  refine zldc (pc := 1) (n := 2147483647) hx hb hown hG wk_L_7 dL_below_1 ?_
  refine zand31 (pc := 3) hx hb dL_below_3 ?_
  refine lv_iload_n (pc := 4) hx hb dL_below_4 rfl (lv_at hl 1 rfl) ?_
  refine zrem (pc := 5) hx hb (by omega) dL_below_5 ?_
  exact zretI (pc := 6) hx hb hlocks hr hw (Nat.zero_le _) (Nat.zero_le _) dL_below_6 ⟨by (try dsimp only) <;> (exact ⟨Int.emod_nonneg _ (by omega), Int.emod_lt_of_pos _ (by omega)⟩), rfl, rfl, rfl⟩
set_option maxHeartbeats 4000000 in
set_option maxRecDepth 100000 in
theorem c_L_cell (l : Launch) (Γ : zG) (K : zK) (X : zX) (Rf : zR) (b : Nat) (k : Int) (L : Nat) (xs : Nat → Int32) (hL : L ≤ 260) (hKb : (K b).1 = 0) (h1 : 0 ≤ k ∧ k < 1000) : Cs b L xs l yL_cell cL_cell 2 (some .int) 1 0 0 Γ [.ref b, .int (iI k)] K X Rf (pI (zp0 K X Rf (fun r : Int => fit r))) := by
  refine Cs.of (by decide +kernel) (Nat.le_of_ble_eq_true rfl) ?_
  intro p e s m below meth c ls hx hb hr hml hown hG hlocks hname hXs hbl hw hl
  have hl : lv_has ls 2 [(0, .ref b), (1, .int (iI k))] := hl
  have hbA : ¬ zA K s.heap.size b := fun h => by
    rcases h with h | h
    · exact h hKb
    · omega
  refine lv_iload_n (pc := 0) hx hb dL_cell_0 rfl (lv_at hl 1 rfl) ?_
  refine lv_aload_n (pc := 1) hx hb dL_cell_1 rfl (lv_at hl 0 rfl) ?_
  refine zslen (pc := 2) hx hb hXs hbl hbA hL hw dL_cell_2 ?_
  refine zicmp_ge (pc := 3) hx hb 12 (by omega) (by omega) dL_cell_3 (by decide) (fun c3 => ?_) (fun c3 => ?_)
  · skip
    refine zldc (pc := 12) (n := 790386105) hx hb hown hG wk_L_8 dL_cell_12 ?_
    refine lv_iload_n (pc := 14) hx hb dL_cell_14 rfl (lv_at hl 1 rfl) ?_
    refine ziconst (pc := 15) (n := 3) hx hb dL_cell_15 ?_
    refine zadd (pc := 16) hx hb dL_cell_16 ?_
    refine zmul (pc := 17) hx hb dL_cell_17 ?_
    refine ztopF (pc := 18) (fun r18 f18 => ?_)
    exact zretI (pc := 18) hx hb hlocks hr hw (Nat.zero_le _) (Nat.zero_le _) dL_cell_18 ⟨by (try dsimp only) <;> (assumption), rfl, rfl, rfl⟩
  · skip
    refine lv_aload_n (pc := 6) hx hb dL_cell_6 rfl (lv_at hl 0 rfl) ?_
    refine lv_iload_n (pc := 7) hx hb dL_cell_7 rfl (lv_at hl 1 rfl) ?_
    obtain ⟨v0, hq0⟩ : ∃ z : Int, scI xs k.toNat = z := ⟨_, rfl⟩
    have hf0 : fit v0 := by rw [← hq0]; exact scI_fit
    refine zsld (pc := 8) hx hb hXs hbl hbA hL hw ⟨by omega, by omega⟩ hq0 dL_cell_8 ?_
    refine lv_goto (pc := 9) (tgt := 18) hx hb dL_cell_9 (by decide) ?_
    exact zretI (pc := 18) hx hb hlocks hr hw (Nat.zero_le _) (Nat.zero_le _) dL_cell_18 ⟨by (try dsimp only) <;> (assumption), rfl, rfl, rfl⟩
set_option maxHeartbeats 4000000 in
set_option maxRecDepth 100000 in
theorem c_L_pattern (l : Launch) (hl9 : l.stackTraces = false) (Γ : zG) (K : zK) (X : zX) (Rf : zR) (x : Nat) (v : Int) (sg : Int) (ρ : zL) (M : zM) (hC : repC ρ K X Rf x M) (hM : okM M) (h1 : fit v) (h2 : sg = 1) (h3 : 0 ≤ M 40 1 ∧ M 40 1 < 24) : Cx l yL_pattern cL_pattern 6 (some .int) 7 2 9 Γ [.ref x, .int (iI v), .int (iI sg)] K X Rf (pI (fun (r : Int) (K' : zK) (X' : zX) (R' : zR) => ∃ mo ki nu : Int, (cdAdp M mo ki nu = 0 ∧ (mo ≠ 0 ∨ ki = 16)) ∧ ∃ ρ', repC ρ' K' X' R' x (padM M (M 40 1).toNat mo ki nu))) (fun _ : String => False) := by
  refine Cx.of (by decide +kernel) (Nat.le_of_ble_eq_true rfl) ?_
  intro p e s m below meth c ls hx hb hr hml hown hG hlocks hname ht hX hw hl
  have hl : lv_has ls 6 [(0, .ref x), (1, .int (iI v)), (2, .int (iI sg))] := hl
  refine lv_iload_n (pc := 0) hx hb dL_pattern_0 rfl (lv_at hl 1 rfl) ?_
  refine ziconst (pc := 1) (n := 3) hx hb dL_pattern_1 ?_
  refine zshA (pc := 2) hx hb dL_pattern_2 (fun x2 fx2 => ?_)
  refine zbipush (pc := 3) (n := 17) hx hb dL_pattern_3 rfl ?_
  refine zkIp (pc := 5) (zrS (As := [.int (iI x2), .int (iI 17)]) hx hb hml hown hG hw (c_L_below l Γ K X Rf x2 17 (by (first | assumption | omega)) (by (first | assumption | omega))) cb_L_below wl_L_9 rfl ⟨Nat.le_of_ble_eq_true rfl, Nat.le_of_ble_eq_true rfl⟩ hl.1 rfl (Nat.le_of_ble_eq_true rfl) dL_pattern_5 ⟨Nat.zero_le _, Nat.zero_le _⟩) hw (fun r5 H locs hp5 hw => ?_)
  refine lv_istore_n (pc := 8) (lv' := [(3, .int (iI r5)), (0, .ref x), (1, .int (iI v)), (2, .int (iI sg))]) hx hb dL_pattern_8 rfl hl (by decide) rfl (fun ls hl => ?_)
  refine lv_iload_n (pc := 9) hx hb dL_pattern_9 rfl (lv_at hl 0 rfl) ?_
  refine zbipush (pc := 10) (n := 16) hx hb dL_pattern_10 rfl ?_
  refine zicmp_ne (pc := 12) hx hb 19 (by omega) (by omega) dL_pattern_12 (by decide) (fun c12 => ?_) (fun c12 => ?_)
  · skip
    refine lv_iload_n (pc := 19) hx hb dL_pattern_19 rfl (lv_at hl 3 rfl) ?_
    refine zif_ne (pc := 20) hx hb 31 (by omega) dL_pattern_20 (by decide) (fun c20 => ?_) (fun c20 => ?_)
    · skip
      refine ziconst (pc := 31) (n := 1) hx hb dL_pattern_31 ?_
      refine lv_iload_n (pc := 32) hx hb dL_pattern_32 rfl (lv_at hl 2 rfl) ?_
      refine zbipush (pc := 33) (n := 8) hx hb dL_pattern_33 rfl ?_
      refine zshA (pc := 35) hx hb dL_pattern_35 (fun x35 fx35 => ?_)
      refine zbipush (pc := 36) (n := 12) hx hb dL_pattern_36 rfl ?_
      refine zkIp (pc := 38) (zrS (As := [.int (iI x35), .int (iI 12)]) hx hb hml hown hG hw (c_L_below l Γ K X Rf x35 12 (by (first | assumption | omega)) (by (first | assumption | omega))) cb_L_below wl_L_9 rfl ⟨Nat.le_of_ble_eq_true rfl, Nat.le_of_ble_eq_true rfl⟩ hl.1 rfl (Nat.le_of_ble_eq_true rfl) dL_pattern_38 ⟨Nat.zero_le _, Nat.zero_le _⟩) hw (fun r38 H locs hp38 hw => ?_)
      refine zadd (pc := 41) hx hb dL_pattern_41 ?_
      refine lv_goto (pc := 42) (tgt := 46) hx hb dL_pattern_42 (by decide) ?_
      refine ztop (fun x46 ex46 => ?_)
      refine lv_istore (pc := 46) (lv' := [(4, .int (iI x46)), (3, .int (iI r5)), (0, .ref x), (1, .int (iI v)), (2, .int (iI sg))]) hx hb dL_pattern_46 hl (by decide) rfl (fun ls hl => ?_)
      refine lv_iload_n (pc := 48) hx hb dL_pattern_48 rfl (lv_at hl 1 rfl) ?_
      refine zbipush (pc := 49) (n := 16) hx hb dL_pattern_49 rfl ?_
      refine zicmp_ne (pc := 51) hx hb 69 (by omega) (by omega) dL_pattern_51 (by decide) (fun c51 => ?_) (fun c51 => ?_)
      · skip
        refine lv_iload_n (pc := 69) hx hb dL_pattern_69 rfl (lv_at hl 1 rfl) ?_
        refine ziconst (pc := 70) (n := 2) hx hb dL_pattern_70 ?_
        refine zicmp_ge (pc := 71) hx hb 88 (by omega) (by omega) dL_pattern_71 (by decide) (fun c71 => ?_) (fun c71 => ?_)
        · skip
          refine ziconst (pc := 88) (n := 1) hx hb dL_pattern_88 ?_
          refine lv_iload_n (pc := 89) hx hb dL_pattern_89 rfl (lv_at hl 3 rfl) ?_
          refine zbipush (pc := 90) (n := 12) hx hb dL_pattern_90 rfl ?_
          refine zshA (pc := 92) hx hb dL_pattern_92 (fun x92 fx92 => ?_)
          refine ziconst (pc := 93) (n := 5) hx hb dL_pattern_93 ?_
          refine zkIp (pc := 94) (zrS (As := [.int (iI x92), .int (iI 5)]) hx hb hml hown hG hw (c_L_below l Γ K X Rf x92 5 (by (first | assumption | omega)) (by (first | assumption | omega))) cb_L_below wl_L_9 rfl ⟨Nat.le_of_ble_eq_true rfl, Nat.le_of_ble_eq_true rfl⟩ hl.1 rfl (Nat.le_of_ble_eq_true rfl) dL_pattern_94 ⟨Nat.zero_le _, Nat.zero_le _⟩) hw (fun r94 H locs hp94 hw => ?_)
          refine zadd (pc := 97) hx hb dL_pattern_97 ?_
          refine ztop (fun x98 ex98 => ?_)
          refine lv_istore (pc := 98) (lv' := [(5, .int (iI x98)), (4, .int (iI x46)), (3, .int (iI r5)), (0, .ref x), (1, .int (iI v)), (2, .int (iI sg))]) hx hb dL_pattern_98 hl (by decide) rfl (fun ls hl => ?_)
          refine lv_aload_n (pc := 100) hx hb dL_pattern_100 rfl (lv_at hl 3 rfl) ?_
          refine lv_iload (pc := 101) hx hb dL_pattern_101 (lv_at hl 1 rfl) ?_
          refine lv_iload_n (pc := 103) hx hb dL_pattern_103 rfl (lv_at hl 2 rfl) ?_
          refine lv_iload (pc := 104) hx hb dL_pattern_104 (lv_at hl 0 rfl) ?_
          have hcd : cdAdp M x46 r5 x98 = 0 := by unfold cdAdp; rw [if_pos (by omega), if_neg (by omega)]
          refine zxkI (pc := 106) (zxrV (As := [.int (iI x46), .int (iI r5), .int (iI x98)]) hx hb hml hown hG hX hw (c_X8_addPattern l hl9 Γ K X Rf x x46 r5 x98 (ρ) M (by (first | assumption | omega)) (by (first | assumption | omega)) (by (first | assumption | omega))) (T := TX8) hC.1.1 rfl cb_X8_addPattern wl_L_15 rfl ⟨Nat.le_of_ble_eq_true rfl, Nat.le_of_ble_eq_true rfl⟩ hl.1 rfl (Nat.le_of_ble_eq_true rfl) dL_pattern_106 ⟨(by show 0 + 2 ≤ 2; omega), (by show 0 + 9 ≤ 9; omega)⟩) hw (fun E9 ce9 q9 H9 locs9 hxp9 hw9 hce9 hcv9 hcl9 => (by exfalso; first | exact hxp9 | omega | (rcases hxp9 with ⟨-, hq9⟩ | ⟨-, hq9⟩ | ⟨-, hq9⟩ <;> omega) | (rcases hxp9 with ⟨-, hq9⟩ | ⟨-, hq9⟩ <;> omega))) (fun r106 K106 X106 R106 H locs hp106 hw => ?_)
          obtain ⟨⟨er106, -⟩, ρ106, hC106, -⟩ := hp106
          have hk106 : K106 x = (1, 7) := hC106.1.1
          exact vx_ret (zretI (pc := 109) hx hb hlocks hr hw (by show 0 + 2 ≤ 2; omega) (by show 0 + 9 ≤ 9; omega) dL_pattern_109 ⟨_, _, _, ⟨hcd, by omega⟩, ρ106, hC106⟩)
        · skip
          refine ziconst (pc := 74) (n := 1) hx hb dL_pattern_74 ?_
          refine lv_iload_n (pc := 75) hx hb dL_pattern_75 rfl (lv_at hl 3 rfl) ?_
          refine zbipush (pc := 76) (n := 12) hx hb dL_pattern_76 rfl ?_
          refine zshA (pc := 78) hx hb dL_pattern_78 (fun x78 fx78 => ?_)
          refine zbipush (pc := 79) (n := 31) hx hb dL_pattern_79 rfl ?_
          refine zkIp (pc := 81) (zrS (As := [.int (iI x78), .int (iI 31)]) hx hb hml hown hG hw (c_L_below l Γ K X Rf x78 31 (by (first | assumption | omega)) (by (first | assumption | omega))) cb_L_below wl_L_9 rfl ⟨Nat.le_of_ble_eq_true rfl, Nat.le_of_ble_eq_true rfl⟩ hl.1 rfl (Nat.le_of_ble_eq_true rfl) dL_pattern_81 ⟨Nat.zero_le _, Nat.zero_le _⟩) hw (fun r81 H locs hp81 hw => ?_)
          refine zadd (pc := 84) hx hb dL_pattern_84 ?_
          refine lv_goto (pc := 85) (tgt := 98) hx hb dL_pattern_85 (by decide) ?_
          refine ztop (fun x98 ex98 => ?_)
          refine lv_istore (pc := 98) (lv' := [(5, .int (iI x98)), (4, .int (iI x46)), (3, .int (iI r5)), (0, .ref x), (1, .int (iI v)), (2, .int (iI sg))]) hx hb dL_pattern_98 hl (by decide) rfl (fun ls hl => ?_)
          refine lv_aload_n (pc := 100) hx hb dL_pattern_100 rfl (lv_at hl 3 rfl) ?_
          refine lv_iload (pc := 101) hx hb dL_pattern_101 (lv_at hl 1 rfl) ?_
          refine lv_iload_n (pc := 103) hx hb dL_pattern_103 rfl (lv_at hl 2 rfl) ?_
          refine lv_iload (pc := 104) hx hb dL_pattern_104 (lv_at hl 0 rfl) ?_
          have hcd : cdAdp M x46 r5 x98 = 0 := by unfold cdAdp; rw [if_pos (by omega), if_neg (by omega)]
          refine zxkI (pc := 106) (zxrV (As := [.int (iI x46), .int (iI r5), .int (iI x98)]) hx hb hml hown hG hX hw (c_X8_addPattern l hl9 Γ K X Rf x x46 r5 x98 (ρ) M (by (first | assumption | omega)) (by (first | assumption | omega)) (by (first | assumption | omega))) (T := TX8) hC.1.1 rfl cb_X8_addPattern wl_L_15 rfl ⟨Nat.le_of_ble_eq_true rfl, Nat.le_of_ble_eq_true rfl⟩ hl.1 rfl (Nat.le_of_ble_eq_true rfl) dL_pattern_106 ⟨(by show 0 + 2 ≤ 2; omega), (by show 0 + 9 ≤ 9; omega)⟩) hw (fun E9 ce9 q9 H9 locs9 hxp9 hw9 hce9 hcv9 hcl9 => (by exfalso; first | exact hxp9 | omega | (rcases hxp9 with ⟨-, hq9⟩ | ⟨-, hq9⟩ | ⟨-, hq9⟩ <;> omega) | (rcases hxp9 with ⟨-, hq9⟩ | ⟨-, hq9⟩ <;> omega))) (fun r106 K106 X106 R106 H locs hp106 hw => ?_)
          obtain ⟨⟨er106, -⟩, ρ106, hC106, -⟩ := hp106
          have hk106 : K106 x = (1, 7) := hC106.1.1
          exact vx_ret (zretI (pc := 109) hx hb hlocks hr hw (by show 0 + 2 ≤ 2; omega) (by show 0 + 9 ≤ 9; omega) dL_pattern_109 ⟨_, _, _, ⟨hcd, by omega⟩, ρ106, hC106⟩)
      · skip
        exfalso; omega
    · skip
      exfalso; omega
  · skip
    refine ziconst (pc := 15) (n := 0) hx hb dL_pattern_15 ?_
    refine lv_goto (pc := 16) (tgt := 46) hx hb dL_pattern_16 (by decide) ?_
    refine lv_istore (pc := 46) (lv' := [(4, .int (iI 0)), (3, .int (iI r5)), (0, .ref x), (1, .int (iI v)), (2, .int (iI sg))]) hx hb dL_pattern_46 hl (by decide) rfl (fun ls hl => ?_)
    refine lv_iload_n (pc := 48) hx hb dL_pattern_48 rfl (lv_at hl 1 rfl) ?_
    refine zbipush (pc := 49) (n := 16) hx hb dL_pattern_49 rfl ?_
    refine zicmp_ne (pc := 51) hx hb 69 (by omega) (by omega) dL_pattern_51 (by decide) (fun c51 => ?_) (fun c51 => ?_)
    · skip
      exfalso; omega
    · skip
      refine ziconst (pc := 54) (n := 1) hx hb dL_pattern_54 ?_
      refine lv_iload_n (pc := 55) hx hb dL_pattern_55 rfl (lv_at hl 3 rfl) ?_
      refine zbipush (pc := 56) (n := 12) hx hb dL_pattern_56 rfl ?_
      refine zshA (pc := 58) hx hb dL_pattern_58 (fun x58 fx58 => ?_)
      refine zsipush (pc := 59) (n := 200) hx hb dL_pattern_59 rfl ?_
      refine zkIp (pc := 62) (zrS (As := [.int (iI x58), .int (iI 200)]) hx hb hml hown hG hw (c_L_below l Γ K X Rf x58 200 (by (first | assumption | omega)) (by (first | assumption | omega))) cb_L_below wl_L_9 rfl ⟨Nat.le_of_ble_eq_true rfl, Nat.le_of_ble_eq_true rfl⟩ hl.1 rfl (Nat.le_of_ble_eq_true rfl) dL_pattern_62 ⟨Nat.zero_le _, Nat.zero_le _⟩) hw (fun r62 H locs hp62 hw => ?_)
      refine zadd (pc := 65) hx hb dL_pattern_65 ?_
      refine lv_goto (pc := 66) (tgt := 98) hx hb dL_pattern_66 (by decide) ?_
      refine ztop (fun x98 ex98 => ?_)
      refine lv_istore (pc := 98) (lv' := [(5, .int (iI x98)), (4, .int (iI 0)), (3, .int (iI r5)), (0, .ref x), (1, .int (iI v)), (2, .int (iI sg))]) hx hb dL_pattern_98 hl (by decide) rfl (fun ls hl => ?_)
      refine lv_aload_n (pc := 100) hx hb dL_pattern_100 rfl (lv_at hl 3 rfl) ?_
      refine lv_iload (pc := 101) hx hb dL_pattern_101 (lv_at hl 1 rfl) ?_
      refine lv_iload_n (pc := 103) hx hb dL_pattern_103 rfl (lv_at hl 2 rfl) ?_
      refine lv_iload (pc := 104) hx hb dL_pattern_104 (lv_at hl 0 rfl) ?_
      have hcd : cdAdp M 0 r5 x98 = 0 := by unfold cdAdp; rw [if_pos (by omega), if_neg (by omega)]
      refine zxkI (pc := 106) (zxrV (As := [.int (iI 0), .int (iI r5), .int (iI x98)]) hx hb hml hown hG hX hw (c_X8_addPattern l hl9 Γ K X Rf x 0 r5 x98 (ρ) M (by (first | assumption | omega)) (by (first | assumption | omega)) (by (first | assumption | omega))) (T := TX8) hC.1.1 rfl cb_X8_addPattern wl_L_15 rfl ⟨Nat.le_of_ble_eq_true rfl, Nat.le_of_ble_eq_true rfl⟩ hl.1 rfl (Nat.le_of_ble_eq_true rfl) dL_pattern_106 ⟨(by show 0 + 2 ≤ 2; omega), (by show 0 + 9 ≤ 9; omega)⟩) hw (fun E9 ce9 q9 H9 locs9 hxp9 hw9 hce9 hcv9 hcl9 => (by exfalso; first | exact hxp9 | omega | (rcases hxp9 with ⟨-, hq9⟩ | ⟨-, hq9⟩ | ⟨-, hq9⟩ <;> omega) | (rcases hxp9 with ⟨-, hq9⟩ | ⟨-, hq9⟩ <;> omega))) (fun r106 K106 X106 R106 H locs hp106 hw => ?_)
      obtain ⟨⟨er106, -⟩, ρ106, hC106, -⟩ := hp106
      have hk106 : K106 x = (1, 7) := hC106.1.1
      exact vx_ret (zretI (pc := 109) hx hb hlocks hr hw (by show 0 + 2 ≤ 2; omega) (by show 0 + 9 ≤ 9; omega) dL_pattern_109 ⟨_, _, _, ⟨hcd, by omega⟩, ρ106, hC106⟩)
