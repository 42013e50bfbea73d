set_option maxHeartbeats 4000000 in
set_option maxRecDepth 100000 in
theorem c_L_isSeriesSound (l : Launch) (hl9 : l.stackTraces = false) (Γ : zG) (K : zK) (X : zX) (Rf : zR) (x : Nat) (se : Int) (ρ : zL) (M : zM) (hC : repC ρ K X Rf x M) (hM : okM M) (h1 : 0 ≤ se ∧ se < M 40 16) : Cx l yL_isSeriesSound cL_isSeriesSound 6 (some .boolean) 8 32400 194000 Γ [.ref x, .int (iI se)] K X Rf (pI (zp0 K X Rf (fun r : Int => r = 1))) (fun _ : String => False) := by
  refine Cx.of (by decide +kernel) (Nat.le_of_ble_eq_true rfl) ?_
  intro p e s m below meth c ls hx hb hr hml hown hG hlocks hname ht hX hw hl
  have hl : lv_has ls 6 [(0, .ref x), (1, .int (iI se))] := hl
  have h16 : M 40 16 ≤ 6 := hM.1.2.2.1.2
  have hcd : cdSer M se = 0 := by unfold cdSer; rw [if_pos (by omega)]
  have hcd2 : cdSerS M se se = 0 := by unfold cdSerS; rw [if_pos (by omega)]
  obtain ⟨sL, hlL, hgL⟩ := cp_dates hM (n := se.toNat) (by omega)
  have hwr := wdD_rng hgL
  have hw0 := wdD_0 sL
  refine lv_aload_n (pc := 0) hx hb dL_isSeriesSound_0 rfl (lv_at hl 0 rfl) ?_
  refine lv_iload_n (pc := 1) hx hb dL_isSeriesSound_1 rfl (lv_at hl 1 rfl) ?_
  refine zxkIp (pc := 2) (zxrV (As := [.int (iI se)]) hx hb hml hown hG hX hw (c_X8_dates l hl9 Γ K X Rf x se (ρ) M (by (first | assumption | omega)) (by (first | assumption | omega)) (by (first | assumption | omega))) (T := TX8) hC.1.1 rfl cb_X8_dates wl_L_80 rfl ⟨Nat.le_of_ble_eq_true rfl, Nat.le_of_ble_eq_true rfl⟩ hl.1 rfl (Nat.le_of_ble_eq_true rfl) dL_isSeriesSound_2 ⟨(by show 0 + 1 ≤ 32400; omega), (by show 0 + 6 ≤ 194000; omega)⟩) hw (fun E9 ce9 q9 H9 locs9 hxp9 hw9 hce9 hcv9 hcl9 => (by exfalso; first | exact hxp9 | omega | (rcases hxp9 with ⟨-, hq9⟩ | ⟨-, hq9⟩ | ⟨-, hq9⟩ <;> omega) | (rcases hxp9 with ⟨-, hq9⟩ | ⟨-, hq9⟩ <;> omega))) (fun r2 H locs hp2 hw => ?_)
  have er2 := hp2.1
  refine lv_istore_n (pc := 5) (lv' := [(2, .int (iI r2)), (0, .ref x), (1, .int (iI se))]) hx hb dL_isSeriesSound_5 rfl hl (by decide) rfl (fun ls hl => ?_)
  refine ziconst (pc := 6) (n := 0) hx hb dL_isSeriesSound_6 ?_
  refine lv_istore_n (pc := 7) (lv' := [(3, .int (iI 0)), (2, .int (iI r2)), (0, .ref x), (1, .int (iI se))]) hx hb dL_isSeriesSound_7 rfl hl (by decide) rfl (fun ls hl => ?_)
  refine ziconst (pc := 8) (n := 0) hx hb dL_isSeriesSound_8 ?_
  refine lv_istore (pc := 9) (lv' := [(4, .int (iI 0)), (3, .int (iI 0)), (2, .int (iI r2)), (0, .ref x), (1, .int (iI se))]) hx hb dL_isSeriesSound_9 hl (by decide) rfl (fun ls hl => ?_)
  have lp11 : ∀ (n11 : Nat) (kk : Int) (wd : Int) (cw : Nat) (sw : Nat) (H : Heap) (locs : List Loc), (hk : 0 ≤ kk ∧ kk ≤ ((datM M se.toNat).length : Int) + 7) → (hwd : 0 ≤ wd ∧ wd ≤ wdD (datM M se.toNat)) → (hcw : cw ≤ 10 + 8 * kk.toNat ∧ sw ≤ 100 + 48 * kk.toNat) → ((((datM M se.toNat).length : Int) + 8 - kk).toNat < n11) → Wd Γ (zA K s.heap.size) K X Rf s H locs → ∀ ls : Array Slot, lv_has ls 6 [(4, .int (iI kk)), (3, .int (iI wd)), (2, .int (iI r2)), (0, .ref x), (1, .int (iI se))] → W p l e (rmL 8 32400 194000) s m ([.ref x, .int (iI se)] : List Value).toArray below meth c H locs cw sw (vx_MQ below (zQ Γ K s.heap.size (pI (zp0 K X Rf (fun r : Int => r = 1)))) (zXC Γ K X Rf s.heap.size (fun _ : String => False)) ([.ref x, .int (iI se)] : List Value).toArray s 32400 194000 (zA K s.heap.size)) (F0 m 11 ls []) := by
    intro n11
    induction n11 with
    | zero => intro kk wd cw sw H locs hk hwd hcw hm11; exact absurd hm11 (Nat.not_lt_zero _)
    | succ n11 ih11 =>
      intro kk wd cw sw H locs hk hwd hcw hm11 hw ls hl
      refine lv_iload (pc := 11) hx hb dL_isSeriesSound_11 (lv_at hl 0 rfl) ?_
      refine lv_iload_n (pc := 13) hx hb dL_isSeriesSound_13 rfl (lv_at hl 2 rfl) ?_
      refine zicmp_ge (pc := 14) hx hb 101 (by omega) (by omega) dL_isSeriesSound_14 (by decide) (fun c14 => ?_) (fun c14 => ?_)
      · skip
        refine lv_aload_n (pc := 101) hx hb dL_isSeriesSound_101 rfl (lv_at hl 3 rfl) ?_
        refine lv_iload_n (pc := 102) hx hb dL_isSeriesSound_102 rfl (lv_at hl 4 rfl) ?_
        refine zxkIp (pc := 103) (zxrV (As := [.int (iI se)]) hx hb hml hown hG hX hw (c_X8_widestGap l hl9 Γ K X Rf x se (ρ) M (by (first | assumption | omega)) (by (first | assumption | omega)) (by (first | assumption | omega))) (T := TX8) hC.1.1 rfl cb_X8_widestGap wl_L_146 rfl ⟨Nat.le_of_ble_eq_true rfl, Nat.le_of_ble_eq_true rfl⟩ hl.1 rfl (Nat.le_of_ble_eq_true rfl) dL_isSeriesSound_103 ⟨(by show cw + 1 ≤ 32400; omega), (by show sw + 6 ≤ 194000; omega)⟩) hw (fun E9 ce9 q9 H9 locs9 hxp9 hw9 hce9 hcv9 hcl9 => (by exfalso; first | exact hxp9 | omega | (rcases hxp9 with ⟨-, hq9⟩ | ⟨-, hq9⟩ | ⟨-, hq9⟩ <;> omega) | (rcases hxp9 with ⟨-, hq9⟩ | ⟨-, hq9⟩ <;> omega))) (fun r103 H locs hp103 hw => ?_)
        have er103 := hp103.1
        rw [← er103] at hwd
        refine lv_iload_n (pc := 106) hx hb dL_isSeriesSound_106 rfl (lv_at hl 1 rfl) ?_
        refine zicmp_lt (pc := 107) hx hb 165 (by omega) (by omega) dL_isSeriesSound_107 (by decide) (fun c107 => ?_) (fun c107 => ?_)
        · skip
          exfalso; omega
        · skip
          refine lv_aload_n (pc := 110) hx hb dL_isSeriesSound_110 rfl (lv_at hl 3 rfl) ?_
          refine lv_iload_n (pc := 111) hx hb dL_isSeriesSound_111 rfl (lv_at hl 4 rfl) ?_
          refine lv_iload_n (pc := 112) hx hb dL_isSeriesSound_112 rfl (lv_at hl 4 rfl) ?_
          refine zxkIp (pc := 113) (zxrV (As := [.int (iI se), .int (iI se)]) hx hb hml hown hG hX hw (c_X8_common l hl9 Γ K X Rf x se se (ρ) M (by (first | assumption | omega)) (by (first | assumption | omega)) (by (first | assumption | omega))) (T := TX8) hC.1.1 rfl cb_X8_common wl_L_77 rfl ⟨Nat.le_of_ble_eq_true rfl, Nat.le_of_ble_eq_true rfl⟩ hl.1 rfl (Nat.le_of_ble_eq_true rfl) dL_isSeriesSound_113 ⟨(by show cw + 1 + 2 ≤ 32400; omega), (by show sw + 6 + 12 ≤ 194000; omega)⟩) hw (fun E9 ce9 q9 H9 locs9 hxp9 hw9 hce9 hcv9 hcl9 => (by exfalso; first | exact hxp9 | omega | (rcases hxp9 with ⟨-, hq9⟩ | ⟨-, hq9⟩ | ⟨-, hq9⟩ <;> omega) | (rcases hxp9 with ⟨-, hq9⟩ | ⟨-, hq9⟩ <;> omega))) (fun r113 H locs hp113 hw => ?_)
          have er113 := hp113.1
          have e113 := er113.trans (shD_self sL)
          refine lv_iload_n (pc := 116) hx hb dL_isSeriesSound_116 rfl (lv_at hl 2 rfl) ?_
          refine zicmp_ne (pc := 117) hx hb 165 (by omega) (by omega) dL_isSeriesSound_117 (by decide) (fun c117 => ?_) (fun c117 => ?_)
          · skip
            exfalso; omega
          · skip
            refine lv_iload_n (pc := 120) hx hb dL_isSeriesSound_120 rfl (lv_at hl 2 rfl) ?_
            refine ziconst (pc := 121) (n := 2) hx hb dL_isSeriesSound_121 ?_
            refine zicmp_ge (pc := 122) hx hb 129 (by omega) (by omega) dL_isSeriesSound_122 (by decide) (fun c122 => ?_) (fun c122 => ?_)
            · skip
              refine ziconst (pc := 129) (n := 0) hx hb dL_isSeriesSound_129 ?_
              refine lv_aload_n (pc := 130) hx hb dL_isSeriesSound_130 rfl (lv_at hl 3 rfl) ?_
              refine lv_iload_n (pc := 131) hx hb dL_isSeriesSound_131 rfl (lv_at hl 4 rfl) ?_
              refine zxkIp (pc := 132) (zxrV (As := [.int (iI se)]) hx hb hml hown hG hX hw (c_X8_widestGap l hl9 Γ K X Rf x se (ρ) M (by (first | assumption | omega)) (by (first | assumption | omega)) (by (first | assumption | omega))) (T := TX8) hC.1.1 rfl cb_X8_widestGap wl_L_146 rfl ⟨Nat.le_of_ble_eq_true rfl, Nat.le_of_ble_eq_true rfl⟩ hl.1 rfl (Nat.le_of_ble_eq_true rfl) dL_isSeriesSound_132 ⟨(by show cw + 1 + 2 + 1 ≤ 32400; omega), (by show sw + 6 + 12 + 6 ≤ 194000; omega)⟩) hw (fun E9 ce9 q9 H9 locs9 hxp9 hw9 hce9 hcv9 hcl9 => (by exfalso; first | exact hxp9 | omega | (rcases hxp9 with ⟨-, hq9⟩ | ⟨-, hq9⟩ | ⟨-, hq9⟩ <;> omega) | (rcases hxp9 with ⟨-, hq9⟩ | ⟨-, hq9⟩ <;> omega))) (fun r132 H locs hp132 hw => ?_)
              have er132 := hp132.1
              rw [← er132] at hw0
              refine zif_ne (pc := 135) hx hb 142 (by omega) dL_isSeriesSound_135 (by decide) (fun c135 => ?_) (fun c135 => ?_)
              · skip
                refine ziconst (pc := 142) (n := 0) hx hb dL_isSeriesSound_142 ?_
                refine zicmp_ne (pc := 143) hx hb 165 (by omega) (by omega) dL_isSeriesSound_143 (by decide) (fun c143 => ?_) (fun c143 => ?_)
                · skip
                  exfalso; omega
                · skip
                  refine lv_aload_n (pc := 146) hx hb dL_isSeriesSound_146 rfl (lv_at hl 3 rfl) ?_
                  refine lv_iload_n (pc := 147) hx hb dL_isSeriesSound_147 rfl (lv_at hl 4 rfl) ?_
                  refine zxkDp (pc := 148) (zxrV (As := [.int (iI se)]) hx hb hml hown hG hX hw (c_X8_meanGap l hl9 Γ K X Rf x se (ρ) M (by (first | assumption | omega)) (by (first | assumption | omega)) (by (first | assumption | omega))) (T := TX8) hC.1.1 rfl cb_X8_meanGap wl_L_149 rfl ⟨Nat.le_of_ble_eq_true rfl, Nat.le_of_ble_eq_true rfl⟩ hl.1 rfl (Nat.le_of_ble_eq_true rfl) dL_isSeriesSound_148 ⟨(by show cw + 1 + 2 + 1 + 1 ≤ 32400; omega), (by show sw + 6 + 12 + 6 + 6 ≤ 194000; omega)⟩) hw (fun E9 ce9 q9 H9 locs9 hxp9 hw9 hce9 hcv9 hcl9 => (by exfalso; first | exact hxp9 | omega | (rcases hxp9 with ⟨-, hq9⟩ | ⟨-, hq9⟩ | ⟨-, hq9⟩ <;> omega) | (rcases hxp9 with ⟨-, hq9⟩ | ⟨-, hq9⟩ <;> omega))) (fun r148 H locs hp148 hw => ?_)
                  have er148 := hp148.1
                  refine lv_aload_n (pc := 151) hx hb dL_isSeriesSound_151 rfl (lv_at hl 3 rfl) ?_
                  refine lv_iload_n (pc := 152) hx hb dL_isSeriesSound_152 rfl (lv_at hl 4 rfl) ?_
                  refine zxkIp (pc := 153) (zxrV (As := [.int (iI se)]) hx hb hml hown hG hX hw (c_X8_widestGap l hl9 Γ K X Rf x se (ρ) M (by (first | assumption | omega)) (by (first | assumption | omega)) (by (first | assumption | omega))) (T := TX8) hC.1.1 rfl cb_X8_widestGap wl_L_146 rfl ⟨Nat.le_of_ble_eq_true rfl, Nat.le_of_ble_eq_true rfl⟩ hl.1 rfl (Nat.le_of_ble_eq_true rfl) dL_isSeriesSound_153 ⟨(by show cw + 1 + 2 + 1 + 1 + 1 ≤ 32400; omega), (by show sw + 6 + 12 + 6 + 6 + 6 ≤ 194000; omega)⟩) hw (fun E9 ce9 q9 H9 locs9 hxp9 hw9 hce9 hcv9 hcl9 => (by exfalso; first | exact hxp9 | omega | (rcases hxp9 with ⟨-, hq9⟩ | ⟨-, hq9⟩ | ⟨-, hq9⟩ <;> omega) | (rcases hxp9 with ⟨-, hq9⟩ | ⟨-, hq9⟩ <;> omega))) (fun r153 H locs hp153 hw => ?_)
                  have er153 := hp153.1
                  refine lv_i2d (pc := 156) hx hb dL_isSeriesSound_156 ?_
                  refine zdcmpE (pc := 157) hx hb (by rw [er148, er153]; exact cp_mean sL hlL hgL) dL_isSeriesSound_157 (fun r157 hr157 => ?_)
                  refine zif_gt (pc := 158) hx hb 165 (by omega) dL_isSeriesSound_158 (by decide) (fun c158 => ?_) (fun c158 => ?_)
                  · skip
                    exfalso; omega
                  · skip
                    refine ziconst (pc := 161) (n := 1) hx hb dL_isSeriesSound_161 ?_
                    refine lv_goto (pc := 162) (tgt := 166) hx hb dL_isSeriesSound_162 (by decide) ?_
                    exact vx_ret (zretZ (pc := 166) hx hb hlocks hr (Or.inr rfl) hw (by show cw + 1 + 2 + 1 + 1 + 1 ≤ 32400; omega) (by show sw + 6 + 12 + 6 + 6 + 6 ≤ 194000; omega) dL_isSeriesSound_166 ⟨by (try dsimp only) <;> (rfl), rfl, rfl, rfl⟩)
              · skip
                exfalso; omega
            · skip
              refine ziconst (pc := 125) (n := 1) hx hb dL_isSeriesSound_125 ?_
              refine lv_goto (pc := 126) (tgt := 130) hx hb dL_isSeriesSound_126 (by decide) ?_
              refine lv_aload_n (pc := 130) hx hb dL_isSeriesSound_130 rfl (lv_at hl 3 rfl) ?_
              refine lv_iload_n (pc := 131) hx hb dL_isSeriesSound_131 rfl (lv_at hl 4 rfl) ?_
              refine zxkIp (pc := 132) (zxrV (As := [.int (iI se)]) hx hb hml hown hG hX hw (c_X8_widestGap l hl9 Γ K X Rf x se (ρ) M (by (first | assumption | omega)) (by (first | assumption | omega)) (by (first | assumption | omega))) (T := TX8) hC.1.1 rfl cb_X8_widestGap wl_L_146 rfl ⟨Nat.le_of_ble_eq_true rfl, Nat.le_of_ble_eq_true rfl⟩ hl.1 rfl (Nat.le_of_ble_eq_true rfl) dL_isSeriesSound_132 ⟨(by show cw + 1 + 2 + 1 ≤ 32400; omega), (by show sw + 6 + 12 + 6 ≤ 194000; omega)⟩) hw (fun E9 ce9 q9 H9 locs9 hxp9 hw9 hce9 hcv9 hcl9 => (by exfalso; first | exact hxp9 | omega | (rcases hxp9 with ⟨-, hq9⟩ | ⟨-, hq9⟩ | ⟨-, hq9⟩ <;> omega) | (rcases hxp9 with ⟨-, hq9⟩ | ⟨-, hq9⟩ <;> omega))) (fun r132 H locs hp132 hw => ?_)
              have er132 := hp132.1
              rw [← er132] at hw0
              refine zif_ne (pc := 135) hx hb 142 (by omega) dL_isSeriesSound_135 (by decide) (fun c135 => ?_) (fun c135 => ?_)
              · skip
                exfalso; omega
              · skip
                refine ziconst (pc := 138) (n := 1) hx hb dL_isSeriesSound_138 ?_
                refine lv_goto (pc := 139) (tgt := 143) hx hb dL_isSeriesSound_139 (by decide) ?_
                refine zicmp_ne (pc := 143) hx hb 165 (by omega) (by omega) dL_isSeriesSound_143 (by decide) (fun c143 => ?_) (fun c143 => ?_)
                · skip
                  exfalso; omega
                · skip
                  refine lv_aload_n (pc := 146) hx hb dL_isSeriesSound_146 rfl (lv_at hl 3 rfl) ?_
                  refine lv_iload_n (pc := 147) hx hb dL_isSeriesSound_147 rfl (lv_at hl 4 rfl) ?_
                  refine zxkDp (pc := 148) (zxrV (As := [.int (iI se)]) hx hb hml hown hG hX hw (c_X8_meanGap l hl9 Γ K X Rf x se (ρ) M (by (first | assumption | omega)) (by (first | assumption | omega)) (by (first | assumption | omega))) (T := TX8) hC.1.1 rfl cb_X8_meanGap wl_L_149 rfl ⟨Nat.le_of_ble_eq_true rfl, Nat.le_of_ble_eq_true rfl⟩ hl.1 rfl (Nat.le_of_ble_eq_true rfl) dL_isSeriesSound_148 ⟨(by show cw + 1 + 2 + 1 + 1 ≤ 32400; omega), (by show sw + 6 + 12 + 6 + 6 ≤ 194000; omega)⟩) hw (fun E9 ce9 q9 H9 locs9 hxp9 hw9 hce9 hcv9 hcl9 => (by exfalso; first | exact hxp9 | omega | (rcases hxp9 with ⟨-, hq9⟩ | ⟨-, hq9⟩ | ⟨-, hq9⟩ <;> omega) | (rcases hxp9 with ⟨-, hq9⟩ | ⟨-, hq9⟩ <;> omega))) (fun r148 H locs hp148 hw => ?_)
                  have er148 := hp148.1
                  refine lv_aload_n (pc := 151) hx hb dL_isSeriesSound_151 rfl (lv_at hl 3 rfl) ?_
                  refine lv_iload_n (pc := 152) hx hb dL_isSeriesSound_152 rfl (lv_at hl 4 rfl) ?_
                  refine zxkIp (pc := 153) (zxrV (As := [.int (iI se)]) hx hb hml hown hG hX hw (c_X8_widestGap l hl9 Γ K X Rf x se (ρ) M (by (first | assumption | omega)) (by (first | assumption | omega)) (by (first | assumption | omega))) (T := TX8) hC.1.1 rfl cb_X8_widestGap wl_L_146 rfl ⟨Nat.le_of_ble_eq_true rfl, Nat.le_of_ble_eq_true rfl⟩ hl.1 rfl (Nat.le_of_ble_eq_true rfl) dL_isSeriesSound_153 ⟨(by show cw + 1 + 2 + 1 + 1 + 1 ≤ 32400; omega), (by show sw + 6 + 12 + 6 + 6 + 6 ≤ 194000; omega)⟩) hw (fun E9 ce9 q9 H9 locs9 hxp9 hw9 hce9 hcv9 hcl9 => (by exfalso; first | exact hxp9 | omega | (rcases hxp9 with ⟨-, hq9⟩ | ⟨-, hq9⟩ | ⟨-, hq9⟩ <;> omega) | (rcases hxp9 with ⟨-, hq9⟩ | ⟨-, hq9⟩ <;> omega))) (fun r153 H locs hp153 hw => ?_)
                  have er153 := hp153.1
                  refine lv_i2d (pc := 156) hx hb dL_isSeriesSound_156 ?_
                  refine zdcmpE (pc := 157) hx hb (by rw [er148, er153]; exact cp_mean sL hlL hgL) dL_isSeriesSound_157 (fun r157 hr157 => ?_)
                  refine zif_gt (pc := 158) hx hb 165 (by omega) dL_isSeriesSound_158 (by decide) (fun c158 => ?_) (fun c158 => ?_)
                  · skip
                    exfalso; omega
                  · skip
                    refine ziconst (pc := 161) (n := 1) hx hb dL_isSeriesSound_161 ?_
                    refine lv_goto (pc := 162) (tgt := 166) hx hb dL_isSeriesSound_162 (by decide) ?_
                    exact vx_ret (zretZ (pc := 166) hx hb hlocks hr (Or.inr rfl) hw (by show cw + 1 + 2 + 1 + 1 + 1 ≤ 32400; omega) (by show sw + 6 + 12 + 6 + 6 + 6 ≤ 194000; omega) dL_isSeriesSound_166 ⟨by (try dsimp only) <;> (rfl), rfl, rfl, rfl⟩)
      · skip
        refine lv_aload_n (pc := 17) hx hb dL_isSeriesSound_17 rfl (lv_at hl 3 rfl) ?_
        refine lv_iload_n (pc := 18) hx hb dL_isSeriesSound_18 rfl (lv_at hl 4 rfl) ?_
        refine lv_iload (pc := 19) hx hb dL_isSeriesSound_19 (lv_at hl 0 rfl) ?_
        have hcd21 : cdSerK M se kk = 0 := by unfold cdSerK; rw [if_pos (by omega)]
        refine zxkIp (pc := 21) (zxrV (As := [.int (iI se), .int (iI kk)]) hx hb hml hown hG hX hw (c_X8_dateAt l hl9 Γ K X Rf x se kk (ρ) M (by (first | assumption | omega)) (by (first | assumption | omega)) (by (first | assumption | omega))) (T := TX8) hC.1.1 rfl cb_X8_dateAt wl_L_137 rfl ⟨Nat.le_of_ble_eq_true rfl, Nat.le_of_ble_eq_true rfl⟩ hl.1 rfl (Nat.le_of_ble_eq_true rfl) dL_isSeriesSound_21 ⟨(by show cw + 2 ≤ 32400; omega), (by show sw + 12 ≤ 194000; omega)⟩) hw (fun E9 ce9 q9 H9 locs9 hxp9 hw9 hce9 hcv9 hcl9 => (by exfalso; first | exact hxp9 | omega | (rcases hxp9 with ⟨-, hq9⟩ | ⟨-, hq9⟩ | ⟨-, hq9⟩ <;> omega) | (rcases hxp9 with ⟨-, hq9⟩ | ⟨-, hq9⟩ <;> omega))) (fun r21 H locs hp21 hw => ?_)
        have er21 := hp21.1
        have hg21 := hgL kk.toNat (by omega)
        have e21 := er21.trans (dtL_in (by omega) (by omega))
        rw [← e21] at hg21
        refine lv_istore (pc := 24) (lv' := [(5, .int (iI r21)), (4, .int (iI kk)), (3, .int (iI wd)), (2, .int (iI r2)), (0, .ref x), (1, .int (iI se))]) hx hb dL_isSeriesSound_24 hl (by decide) rfl (fun ls hl => ?_)
        refine lv_aload_n (pc := 26) hx hb dL_isSeriesSound_26 rfl (lv_at hl 4 rfl) ?_
        refine lv_iload_n (pc := 27) hx hb dL_isSeriesSound_27 rfl (lv_at hl 5 rfl) ?_
        refine lv_iload (pc := 28) hx hb dL_isSeriesSound_28 (lv_at hl 0 rfl) ?_
        have hcd30 : cdSerD M se r21 = 0 := by unfold cdSerD; rw [if_pos (by omega)]
        refine zxkIp (pc := 30) (zxrV (As := [.int (iI se), .int (iI r21)]) hx hb hml hown hG hX hw (c_X8_dateFrom l hl9 Γ K X Rf x se r21 (ρ) M (by (first | assumption | omega)) (by (first | assumption | omega)) (by (first | assumption | omega))) (T := TX8) hC.1.1 rfl cb_X8_dateFrom wl_L_140 rfl ⟨Nat.le_of_ble_eq_true rfl, Nat.le_of_ble_eq_true rfl⟩ hl.1 rfl (Nat.le_of_ble_eq_true rfl) dL_isSeriesSound_30 ⟨(by show cw + 2 + 2 ≤ 32400; omega), (by show sw + 12 + 12 ≤ 194000; omega)⟩) hw (fun E9 ce9 q9 H9 locs9 hxp9 hw9 hce9 hcv9 hcl9 => (by exfalso; first | exact hxp9 | omega | (rcases hxp9 with ⟨-, hq9⟩ | ⟨-, hq9⟩ | ⟨-, hq9⟩ <;> omega) | (rcases hxp9 with ⟨-, hq9⟩ | ⟨-, hq9⟩ <;> omega))) (fun r30 H locs hp30 hw => ?_)
        have er30 := hp30.1
        have e30 : r30 = kk := by rw [er30, e21]; exact ffD_at sL (by omega) (by omega)
        refine lv_iload (pc := 33) hx hb dL_isSeriesSound_33 (lv_at hl 1 rfl) ?_
        refine zicmp_ne (pc := 35) hx hb 57 (by omega) (by omega) dL_isSeriesSound_35 (by decide) (fun c35 => ?_) (fun c35 => ?_)
        · skip
          exfalso; omega
        · skip
          refine lv_iload (pc := 38) hx hb dL_isSeriesSound_38 (lv_at hl 1 rfl) ?_
          refine zif_le (pc := 40) hx hb 59 (by omega) dL_isSeriesSound_40 (by decide) (fun c40 => ?_) (fun c40 => ?_)
          · skip
            refine lv_iload (pc := 59) hx hb dL_isSeriesSound_59 (lv_at hl 1 rfl) ?_
            refine zif_le (pc := 61) hx hb 81 (by omega) dL_isSeriesSound_61 (by decide) (fun c61 => ?_) (fun c61 => ?_)
            · skip
              refine lv_iload (pc := 81) hx hb dL_isSeriesSound_81 (lv_at hl 1 rfl) ?_
              refine lv_iload_n (pc := 83) hx hb dL_isSeriesSound_83 rfl (lv_at hl 3 rfl) ?_
              refine zbipush (pc := 84) (n := 60) hx hb dL_isSeriesSound_84 rfl ?_
              refine zicmp_ge (pc := 86) hx hb 93 (by omega) (by omega) dL_isSeriesSound_86 (by decide) (fun c86 => ?_) (fun c86 => ?_)
              · skip
                refine zbipush (pc := 93) (n := 7) hx hb dL_isSeriesSound_93 rfl ?_
                refine zadd (pc := 95) hx hb dL_isSeriesSound_95 ?_
                refine ztop (fun x96 ex96 => ?_)
                refine lv_istore (pc := 96) (lv' := [(4, .int (iI x96)), (5, .int (iI r21)), (3, .int (iI wd)), (2, .int (iI r2)), (0, .ref x), (1, .int (iI se))]) hx hb dL_isSeriesSound_96 hl (by decide) rfl (fun ls hl => ?_)
                refine lv_goto (pc := 98) (tgt := 11) hx hb dL_isSeriesSound_98 (by decide) ?_
                exact ih11 x96 wd (cw + 2 + 2) (sw + 12 + 12) _ _ (by (first | assumption | omega)) (by (first | assumption | omega)) (by (first | assumption | omega)) (by omega) hw _ (lv_sub hl [0, 2, 3, 4, 5] rfl)
              · skip
                refine ziconst (pc := 89) (n := 1) hx hb dL_isSeriesSound_89 ?_
                refine lv_goto (pc := 90) (tgt := 95) hx hb dL_isSeriesSound_90 (by decide) ?_
                refine zadd (pc := 95) hx hb dL_isSeriesSound_95 ?_
                refine ztop (fun x96 ex96 => ?_)
                refine lv_istore (pc := 96) (lv' := [(4, .int (iI x96)), (5, .int (iI r21)), (3, .int (iI wd)), (2, .int (iI r2)), (0, .ref x), (1, .int (iI se))]) hx hb dL_isSeriesSound_96 hl (by decide) rfl (fun ls hl => ?_)
                refine lv_goto (pc := 98) (tgt := 11) hx hb dL_isSeriesSound_98 (by decide) ?_
                exact ih11 x96 wd (cw + 2 + 2) (sw + 12 + 12) _ _ (by (first | assumption | omega)) (by (first | assumption | omega)) (by (first | assumption | omega)) (by omega) hw _ (lv_sub hl [0, 2, 3, 4, 5] rfl)
            · skip
              exfalso; omega
          · skip
            refine lv_aload_n (pc := 43) hx hb dL_isSeriesSound_43 rfl (lv_at hl 4 rfl) ?_
            refine lv_iload_n (pc := 44) hx hb dL_isSeriesSound_44 rfl (lv_at hl 5 rfl) ?_
            refine lv_iload (pc := 45) hx hb dL_isSeriesSound_45 (lv_at hl 1 rfl) ?_
            refine ziconst (pc := 47) (n := 1) hx hb dL_isSeriesSound_47 ?_
            refine zsub (pc := 48) hx hb dL_isSeriesSound_48 ?_
            have hcd49 : cdSerK M se (kk - 1) = 0 := by unfold cdSerK; rw [if_pos (by omega)]
            refine zxkIp (pc := 49) (zxrV (As := [.int (iI se), .int (iI (kk - 1))]) hx hb hml hown hG hX hw (c_X8_dateAt l hl9 Γ K X Rf x se (kk - 1) (ρ) M (by (first | assumption | omega)) (by (first | assumption | omega)) (by (first | assumption | omega))) (T := TX8) hC.1.1 rfl cb_X8_dateAt wl_L_137 rfl ⟨Nat.le_of_ble_eq_true rfl, Nat.le_of_ble_eq_true rfl⟩ hl.1 rfl (Nat.le_of_ble_eq_true rfl) dL_isSeriesSound_49 ⟨(by show cw + 2 + 2 + 2 ≤ 32400; omega), (by show sw + 12 + 12 + 12 ≤ 194000; omega)⟩) hw (fun E9 ce9 q9 H9 locs9 hxp9 hw9 hce9 hcv9 hcl9 => (by exfalso; first | exact hxp9 | omega | (rcases hxp9 with ⟨-, hq9⟩ | ⟨-, hq9⟩ | ⟨-, hq9⟩ <;> omega) | (rcases hxp9 with ⟨-, hq9⟩ | ⟨-, hq9⟩ <;> omega))) (fun r49 H locs hp49 hw => ?_)
            have er49 := hp49.1
            have e49 := er49.trans (dtL_in (by omega) (by omega))
            have hg49 := hgL (kk - 1).toNat (by omega)
            rw [← e49] at hg49
            have h49 := sr_get sL (i := (kk - 1).toNat) (j := kk.toNat) (by omega) (by omega)
            rw [← e49, ← e21] at h49
            refine lv_iload (pc := 52) hx hb dL_isSeriesSound_52 (lv_at hl 0 rfl) ?_
            refine zicmp_lt (pc := 54) hx hb 59 (by omega) (by omega) dL_isSeriesSound_54 (by decide) (fun c54 => ?_) (fun c54 => ?_)
            · skip
              refine lv_iload (pc := 59) hx hb dL_isSeriesSound_59 (lv_at hl 1 rfl) ?_
              refine zif_le (pc := 61) hx hb 81 (by omega) dL_isSeriesSound_61 (by decide) (fun c61 => ?_) (fun c61 => ?_)
              · skip
                exfalso; omega
              · skip
                refine lv_iload_n (pc := 64) hx hb dL_isSeriesSound_64 rfl (lv_at hl 2 rfl) ?_
                refine lv_iload (pc := 65) hx hb dL_isSeriesSound_65 (lv_at hl 0 rfl) ?_
                refine lv_aload_n (pc := 67) hx hb dL_isSeriesSound_67 rfl (lv_at hl 4 rfl) ?_
                refine lv_iload_n (pc := 68) hx hb dL_isSeriesSound_68 rfl (lv_at hl 5 rfl) ?_
                refine lv_iload (pc := 69) hx hb dL_isSeriesSound_69 (lv_at hl 1 rfl) ?_
                refine ziconst (pc := 71) (n := 1) hx hb dL_isSeriesSound_71 ?_
                refine zsub (pc := 72) hx hb dL_isSeriesSound_72 ?_
                refine zxkIp (pc := 73) (zxrV (As := [.int (iI se), .int (iI (kk - 1))]) hx hb hml hown hG hX hw (c_X8_dateAt l hl9 Γ K X Rf x se (kk - 1) (ρ) M (by (first | assumption | omega)) (by (first | assumption | omega)) (by (first | assumption | omega))) (T := TX8) hC.1.1 rfl cb_X8_dateAt wl_L_137 rfl ⟨Nat.le_of_ble_eq_true rfl, Nat.le_of_ble_eq_true rfl⟩ hl.1 rfl (Nat.le_of_ble_eq_true rfl) dL_isSeriesSound_73 ⟨(by show cw + 2 + 2 + 2 + 2 ≤ 32400; omega), (by show sw + 12 + 12 + 12 + 12 ≤ 194000; omega)⟩) hw (fun E9 ce9 q9 H9 locs9 hxp9 hw9 hce9 hcv9 hcl9 => (by exfalso; first | exact hxp9 | omega | (rcases hxp9 with ⟨-, hq9⟩ | ⟨-, hq9⟩ | ⟨-, hq9⟩ <;> omega) | (rcases hxp9 with ⟨-, hq9⟩ | ⟨-, hq9⟩ <;> omega))) (fun r73 H locs hp73 hw => ?_)
                have er73 := hp73.1
                have e73 := er73.trans (dtL_in (by omega) (by omega))
                have h73 := wdD_ge (l := (datM M se.toNat)) (k := kk.toNat) (by omega) (by omega)
                rw [show kk.toNat - 1 = (kk - 1).toNat by omega, ← e73, ← e21] at h73
                have hq73 : r73 = r49 := er73.trans er49.symm
                refine zsub (pc := 76) hx hb dL_isSeriesSound_76 ?_
                refine zmax (pc := 77) hx hb (hml.trans hl.1.symm) hown hG wl_L_143 w1_zmx wi_javalangMath w2_zmx (Nat.le_of_ble_eq_true rfl) (Nat.le_of_ble_eq_true rfl) (by show cw + 2 + 2 + 2 + 2 ≤ 32400; omega) (by show sw + 12 + 12 + 12 + 12 ≤ 194000; omega) ⟨by omega, by omega⟩ dL_isSeriesSound_77 ?_
                refine ztop (fun x80 ex80 => ?_)
                refine lv_istore_n (pc := 80) (lv' := [(3, .int (iI x80)), (5, .int (iI r21)), (4, .int (iI kk)), (2, .int (iI r2)), (0, .ref x), (1, .int (iI se))]) hx hb dL_isSeriesSound_80 rfl hl (by decide) rfl (fun ls hl => ?_)
                refine lv_iload (pc := 81) hx hb dL_isSeriesSound_81 (lv_at hl 2 rfl) ?_
                refine lv_iload_n (pc := 83) hx hb dL_isSeriesSound_83 rfl (lv_at hl 3 rfl) ?_
                refine zbipush (pc := 84) (n := 60) hx hb dL_isSeriesSound_84 rfl ?_
                refine zicmp_ge (pc := 86) hx hb 93 (by omega) (by omega) dL_isSeriesSound_86 (by decide) (fun c86 => ?_) (fun c86 => ?_)
                · skip
                  refine zbipush (pc := 93) (n := 7) hx hb dL_isSeriesSound_93 rfl ?_
                  refine zadd (pc := 95) hx hb dL_isSeriesSound_95 ?_
                  refine ztop (fun x96 ex96 => ?_)
                  refine lv_istore (pc := 96) (lv' := [(4, .int (iI x96)), (3, .int (iI x80)), (5, .int (iI r21)), (2, .int (iI r2)), (0, .ref x), (1, .int (iI se))]) hx hb dL_isSeriesSound_96 hl (by decide) rfl (fun ls hl => ?_)
                  refine lv_goto (pc := 98) (tgt := 11) hx hb dL_isSeriesSound_98 (by decide) ?_
                  exact ih11 x96 x80 (cw + 2 + 2 + 2 + 2) (sw + 12 + 12 + 12 + 12) _ _ (by (first | assumption | omega)) (by (first | assumption | omega)) (by (first | assumption | omega)) (by omega) hw _ (lv_sub hl [0, 1, 3, 4, 5] rfl)
                · skip
                  refine ziconst (pc := 89) (n := 1) hx hb dL_isSeriesSound_89 ?_
                  refine lv_goto (pc := 90) (tgt := 95) hx hb dL_isSeriesSound_90 (by decide) ?_
                  refine zadd (pc := 95) hx hb dL_isSeriesSound_95 ?_
                  refine ztop (fun x96 ex96 => ?_)
                  refine lv_istore (pc := 96) (lv' := [(4, .int (iI x96)), (3, .int (iI x80)), (5, .int (iI r21)), (2, .int (iI r2)), (0, .ref x), (1, .int (iI se))]) hx hb dL_isSeriesSound_96 hl (by decide) rfl (fun ls hl => ?_)
                  refine lv_goto (pc := 98) (tgt := 11) hx hb dL_isSeriesSound_98 (by decide) ?_
                  exact ih11 x96 x80 (cw + 2 + 2 + 2 + 2) (sw + 12 + 12 + 12 + 12) _ _ (by (first | assumption | omega)) (by (first | assumption | omega)) (by (first | assumption | omega)) (by omega) hw _ (lv_sub hl [0, 1, 3, 4, 5] rfl)
            · skip
              exfalso; omega
  exact lp11 _ 0 0 (0 + 1) (0 + 6) _ _ (by (first | assumption | omega)) (by (first | assumption | omega)) (by (first | assumption | omega)) (Nat.lt_succ_self _) hw _ (lv_sub hl [0, 1, 2, 3, 4] rfl)
