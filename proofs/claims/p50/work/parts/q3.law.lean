set_option maxHeartbeats 4000000 in
set_option maxRecDepth 100000 in
theorem lg_46 {p : Program} {l : Launch} (hl9 : l.stackTraces = false) {e : Env} {s : State} {m : MethodId} {below : List Frame} {meth : Method} {c : Code} {b L : Nat} {xs : Nat → Int32} (E : LE p s m c meth b L xs) {Γ : zG} {K : zK} {X : zX} {Rf : zR} {H : Heap} {locs : List Loc} {ls : Array Slot} {cw sw : Nat} {q0 : Nat} {ρ : zL} {M : zM} {np : Int} (hC : repC ρ K X Rf q0 M) (hM : okM M) (hnp : 1 ≤ np ∧ np ≤ 5) (hv : M 40 1 = np ∧ M 40 5 = 0 ∧ M 40 16 = 0 ∧ M 40 29 = 0) (hpm : PM M np) (hcs : cw ≤ 120 ∧ sw ≤ 9400) (hw : Wd Γ (zA zK0 s.heap.size) K X Rf s H locs) (hl : lv_has ls 8 [(2, .int (iI np)), (1, .ref q0), (0, .ref b)]) : W p l e room_1 s m #[Value.ref b] below meth c H locs cw sw (lw_Z below #[Value.ref b] s) (F0 m 46 ls []) := by
  have E0 := E
  obtain ⟨⟨hx, hb, hml, hown⟩, hG, hX, hXs, hbl, hbA, hL, hr, hlocks⟩ := E
  have hkq : K q0 = (1, 7) := hC.1.1
  refine ziconst (pc := 46) (n := 1) hx hb dL_law_46 ?_
  refine lv_aload_n (pc := 47) hx hb dL_law_47 rfl (lv_at hl 2 rfl) ?_
  refine zbipush (pc := 48) (n := 6) hx hb dL_law_48 rfl ?_
  refine zkIp (pc := 50) (zrSs (As := [.ref b, .int (iI 6)]) hx hb hml hown hG hXs hbl hbA hw (c_L_cell l Γ K X Rf b 6 L xs hL (zKb hw hbA) (by (first | assumption | omega))) cb_L_cell wl_L_22 rfl ⟨Nat.le_of_ble_eq_true rfl, Nat.le_of_ble_eq_true rfl⟩ hl.1 rfl (Nat.le_of_ble_eq_true rfl) dL_law_50 ⟨(by show cw + 0 ≤ 600064; omega), (by show sw + 0 ≤ 7301640; omega)⟩) hw (fun r50 H locs hp50 hw => ?_)
  refine ziconst (pc := 53) (n := 3) hx hb dL_law_53 ?_
  refine zkIp (pc := 54) (zrS (As := [.int (iI r50), .int (iI 3)]) hx hb hml hown hG hw (c_L_below l Γ K X Rf r50 3 (by (first | assumption | omega)) (by (first | assumption | omega))) cb_L_below wl_L_9 rfl ⟨Nat.le_of_ble_eq_true rfl, Nat.le_of_ble_eq_true rfl⟩ hl.1 rfl (Nat.le_of_ble_eq_true rfl) dL_law_54 ⟨(by show cw + 0 ≤ 600064; omega), (by show sw + 0 ≤ 7301640; omega)⟩) hw (fun r54 H locs hp54 hw => ?_)
  refine zadd (pc := 57) hx hb dL_law_57 ?_
  refine ztop (fun x58 ex58 => ?_)
  refine lv_istore_n (pc := 58) (lv' := [(3, .int (iI x58)), (2, .int (iI np)), (1, .ref q0), (0, .ref b)]) hx hb dL_law_58 rfl hl (by decide) rfl (fun ls hl => ?_)
  refine ziconst (pc := 59) (n := 0) hx hb dL_law_59 ?_
  refine lv_istore (pc := 60) (lv' := [(4, .int (iI 0)), (3, .int (iI x58)), (2, .int (iI np)), (1, .ref q0), (0, .ref b)]) hx hb dL_law_60 hl (by decide) rfl (fun ls hl => ?_)
  have lp62 : ∀ (n62 : Nat) (pk : Int) (ρ2 : zL) (M2 : zM) (cw2 : Nat) (sw2 : Nat) (KL62 : zK) (XL62 : zX) (RL62 : zR) (H : Heap) (locs : List Loc), (hpk : 0 ≤ pk ∧ pk ≤ x58) → (hC2 : repC ρ2 KL62 XL62 RL62 q0 M2) → (hM2 : okM M2) → (hv2 : M2 40 1 = np ∧ M2 40 5 = pk ∧ M2 40 16 = 0 ∧ M2 40 29 = 0) → (hpm2 : PM M2 np) → (hcs2 : cw2 ≤ 120 + 40 * pk.toNat ∧ sw2 ≤ 9400 + 2700 * pk.toNat) → ((x58 - pk).toNat < n62) → Wd Γ (zA zK0 s.heap.size) KL62 XL62 RL62 s H locs → ∀ ls : Array Slot, lv_has ls 8 [(4, .int (iI pk)), (3, .int (iI x58)), (2, .int (iI np)), (1, .ref q0), (0, .ref b)] → W p l e room_1 s m #[Value.ref b] below meth c H locs cw2 sw2 (lw_Z below #[Value.ref b] s) (F0 m 62 ls []) := by
    intro n62
    induction n62 with
    | zero => intro pk ρ2 M2 cw2 sw2 KL62 XL62 RL62 H locs hpk hC2 hM2 hv2 hpm2 hcs2 hm62; exact absurd hm62 (Nat.not_lt_zero _)
    | succ n62 ih62 =>
      intro pk ρ2 M2 cw2 sw2 KL62 XL62 RL62 H locs hpk hC2 hM2 hv2 hpm2 hcs2 hm62 hw ls hl
      have hk62q : KL62 q0 = (1, 7) := hC2.1.1
      refine lv_iload (pc := 62) hx hb dL_law_62 (lv_at hl 0 rfl) ?_
      refine lv_iload_n (pc := 64) hx hb dL_law_64 rfl (lv_at hl 1 rfl) ?_
      refine zicmp_ge (pc := 65) hx hb 220 (by omega) (by omega) dL_law_65 (by decide) (fun c65 => ?_) (fun c65 => ?_)
      · skip
        exact lg_220 hl9 E0 hC2 hM2 ⟨hnp, by omega, by omega⟩ ⟨by omega, by omega, by omega, by omega⟩ ⟨by omega, by omega⟩ hw (lv_sub hl [1, 2, 3, 4] rfl)
      · skip
        refine lv_aload_n (pc := 68) hx hb dL_law_68 rfl (lv_at hl 3 rfl) ?_
        refine lv_aload_n (pc := 69) hx hb dL_law_69 rfl (lv_at hl 4 rfl) ?_
        refine zbipush (pc := 70) (n := 7) hx hb dL_law_70 rfl ?_
        refine lv_iload (pc := 72) hx hb dL_law_72 (lv_at hl 0 rfl) ?_
        refine zadd (pc := 74) hx hb dL_law_74 ?_
        refine zkIp (pc := 75) (zrSs (As := [.ref b, .int (iI (7 + pk))]) hx hb hml hown hG hXs hbl hbA hw (c_L_cell l Γ KL62 XL62 RL62 b (7 + pk) L xs hL (zKb hw hbA) (by (first | assumption | omega))) cb_L_cell wl_L_22 rfl ⟨Nat.le_of_ble_eq_true rfl, Nat.le_of_ble_eq_true rfl⟩ hl.1 rfl (Nat.le_of_ble_eq_true rfl) dL_law_75 ⟨(by show cw2 + 0 ≤ 600064; omega), (by show sw2 + 0 ≤ 7301640; omega)⟩) hw (fun r75 H locs hp75 hw => ?_)
        refine zsipush (pc := 78) (n := 1681) hx hb dL_law_78 rfl ?_
        refine zkIp (pc := 81) (zrS (As := [.int (iI r75), .int (iI 1681)]) hx hb hml hown hG hw (c_L_below l Γ KL62 XL62 RL62 r75 1681 (by (first | assumption | omega)) (by (first | assumption | omega))) cb_L_below wl_L_9 rfl ⟨Nat.le_of_ble_eq_true rfl, Nat.le_of_ble_eq_true rfl⟩ hl.1 rfl (Nat.le_of_ble_eq_true rfl) dL_law_81 ⟨(by show cw2 + 0 ≤ 600064; omega), (by show sw2 + 0 ≤ 7301640; omega)⟩) hw (fun r81 H locs hp81 hw => ?_)
        refine zsipush (pc := 84) (n := 840) hx hb dL_law_84 rfl ?_
        refine zsub (pc := 87) hx hb dL_law_87 ?_
        have hcd88 : cdApl M2 (r81 - 840) = 0 := by unfold cdApl; rw [if_pos (by omega), if_neg (by omega)]
        refine zxkI (pc := 88) (zxrV (As := [.int (iI (r81 - 840))]) hx hb hml hown hG hX hw (c_X8_addPlace l hl9 Γ KL62 XL62 RL62 q0 (r81 - 840) (ρ2) M2 (by (first | assumption | omega)) (by (first | assumption | omega)) (by (first | assumption | omega))) (T := TX8) hk62q rfl cb_X8_addPlace wl_L_30 rfl ⟨Nat.le_of_ble_eq_true rfl, Nat.le_of_ble_eq_true rfl⟩ hl.1 rfl (Nat.le_of_ble_eq_true rfl) dL_law_88 ⟨(by show cw2 + 6 ≤ 600064; omega), (by show sw2 + 2430 ≤ 7301640; omega)⟩) hw (fun E9 ce9 q9 H9 locs9 hxp9 hw9 hce9 hcv9 hcl9 => (by exfalso; first | exact hxp9 | omega | (rcases hxp9 with ⟨-, hq9⟩ | ⟨-, hq9⟩ | ⟨-, hq9⟩ <;> omega) | (rcases hxp9 with ⟨-, hq9⟩ | ⟨-, hq9⟩ <;> omega))) (fun r88 K88 X88 R88 H locs hp88 hw => ?_)
        obtain ⟨⟨er88, -⟩, ρ88, hC88, -⟩ := hp88
        have hk88 : K88 q0 = (1, 7) := hC88.1.1
        obtain ⟨M88, eM88⟩ : ∃ Z : zM, Z = plM M2 (M2 40 5).toNat (r81 - 840) := ⟨_, rfl⟩
        rw [← eM88] at hC88
        have hM88 : okM M88 := by rw [eM88]; exact okM_plc hM2 hcd88
        obtain ⟨hv88, h788, hf88⟩ := plc_v hM2 hv2.2.1 (by omega) eM88
        have hpm88 := hpm2.same hf88
        refine lv_pop (pc := 91) hx hb dL_law_91 rfl ?_
        refine lv_aload_n (pc := 92) hx hb dL_law_92 rfl (lv_at hl 4 rfl) ?_
        refine zbipush (pc := 93) (n := 10) hx hb dL_law_93 rfl ?_
        refine zkIp (pc := 95) (zrSs (As := [.ref b, .int (iI 10)]) hx hb hml hown hG hXs hbl hbA hw (c_L_cell l Γ K88 X88 R88 b 10 L xs hL (zKb hw hbA) (by (first | assumption | omega))) cb_L_cell wl_L_22 rfl ⟨Nat.le_of_ble_eq_true rfl, Nat.le_of_ble_eq_true rfl⟩ hl.1 rfl (Nat.le_of_ble_eq_true rfl) dL_law_95 ⟨(by show cw2 + 6 + 0 ≤ 600064; omega), (by show sw2 + 2430 + 0 ≤ 7301640; omega)⟩) hw (fun r95 H locs hp95 hw => ?_)
        refine ziconst (pc := 98) (n := 2) hx hb dL_law_98 ?_
        refine lv_iload (pc := 99) hx hb dL_law_99 (lv_at hl 0 rfl) ?_
        refine zmul (pc := 101) hx hb dL_law_101 ?_
        refine zshA (pc := 102) hx hb dL_law_102 (fun x102 fx102 => ?_)
        refine ziconst (pc := 103) (n := 4) hx hb dL_law_103 ?_
        refine zkIp (pc := 104) (zrS (As := [.int (iI x102), .int (iI 4)]) hx hb hml hown hG hw (c_L_below l Γ K88 X88 R88 x102 4 (by (first | assumption | omega)) (by (first | assumption | omega))) cb_L_below wl_L_9 rfl ⟨Nat.le_of_ble_eq_true rfl, Nat.le_of_ble_eq_true rfl⟩ hl.1 rfl (Nat.le_of_ble_eq_true rfl) dL_law_104 ⟨(by show cw2 + 6 + 0 ≤ 600064; omega), (by show sw2 + 2430 + 0 ≤ 7301640; omega)⟩) hw (fun r104 H locs hp104 hw => ?_)
        refine lv_istore (pc := 107) (lv' := [(5, .int (iI r104)), (4, .int (iI pk)), (3, .int (iI x58)), (2, .int (iI np)), (1, .ref q0), (0, .ref b)]) hx hb dL_law_107 hl (by decide) rfl (fun ls hl => ?_)
        have lp109 : ∀ (n109 : Nat) (tt : Int) (ρ3 : zL) (M3 : zM) (cw3 : Nat) (sw3 : Nat) (KL109 : zK) (XL109 : zX) (RL109 : zR) (H : Heap) (locs : List Loc), (htt : 0 ≤ tt ∧ tt ≤ r104) → (hC3 : repC ρ3 KL109 XL109 RL109 q0 M3) → (hM3 : okM M3) → (hv3 : M3 40 1 = np ∧ M3 40 5 = pk + 1 ∧ M3 40 16 = 0 ∧ M3 40 29 = 0 ∧ M3 7 pk.toNat = r104 - tt) → (hpm3 : PM M3 np) → (hcs3 : cw3 ≤ cw2 + 6 + 9 * (r104 - tt).toNat ∧ sw3 ≤ sw2 + 2430 + 60 * (r104 - tt).toNat) → (tt.toNat < n109) → Wd Γ (zA zK0 s.heap.size) KL109 XL109 RL109 s H locs → ∀ ls : Array Slot, lv_has ls 8 [(5, .int (iI tt)), (4, .int (iI pk)), (3, .int (iI x58)), (2, .int (iI np)), (1, .ref q0), (0, .ref b)] → W p l e room_1 s m #[Value.ref b] below meth c H locs cw3 sw3 (lw_Z below #[Value.ref b] s) (F0 m 109 ls []) := by
          intro n109
          induction n109 with
          | zero => intro tt ρ3 M3 cw3 sw3 KL109 XL109 RL109 H locs htt hC3 hM3 hv3 hpm3 hcs3 hm109; exact absurd hm109 (Nat.not_lt_zero _)
          | succ n109 ih109 =>
            intro tt ρ3 M3 cw3 sw3 KL109 XL109 RL109 H locs htt hC3 hM3 hv3 hpm3 hcs3 hm109 hw ls hl
            have hk109q : KL109 q0 = (1, 7) := hC3.1.1
            refine lv_iload (pc := 109) hx hb dL_law_109 (lv_at hl 0 rfl) ?_
            refine zif_le (pc := 111) hx hb 214 (by omega) dL_law_111 (by decide) (fun c111 => ?_) (fun c111 => ?_)
            · skip
              refine ziinc (pc := 214) (lv' := [(4, .int (iI (pk + 1))), (5, .int (iI tt)), (3, .int (iI x58)), (2, .int (iI np)), (1, .ref q0), (0, .ref b)]) hx hb 1 dL_law_214 hl rfl (by decide) rfl (fun ls hl => ?_)
              obtain ⟨x214, ex214⟩ : ∃ zz : Int, zz = (pk + 1) := ⟨_, rfl⟩
              rw [← ex214] at hl
              refine lv_goto (pc := 217) (tgt := 62) hx hb dL_law_217 (by decide) ?_
              exact ih62 x214 (ρ3) M3 cw3 sw3 KL109 XL109 RL109 _ _ (by (first | assumption | omega)) (by (first | assumption | omega)) (by (first | assumption | omega)) (by (first | assumption | omega)) (by (first | assumption | omega)) (by (first | assumption | omega)) (by omega) hw _ (lv_sub hl [0, 2, 3, 4, 5] rfl)
            · skip
              refine lv_aload_n (pc := 114) hx hb dL_law_114 rfl (lv_at hl 5 rfl) ?_
              refine zbipush (pc := 115) (n := 10) hx hb dL_law_115 rfl ?_
              refine lv_iload (pc := 117) hx hb dL_law_117 (lv_at hl 0 rfl) ?_
              refine zadd (pc := 119) hx hb dL_law_119 ?_
              refine lv_iload (pc := 120) hx hb dL_law_120 (lv_at hl 1 rfl) ?_
              refine zadd (pc := 122) hx hb dL_law_122 ?_
              refine zkIp (pc := 123) (zrSs (As := [.ref b, .int (iI ((10 + tt) + pk))]) hx hb hml hown hG hXs hbl hbA hw (c_L_cell l Γ KL109 XL109 RL109 b ((10 + tt) + pk) L xs hL (zKb hw hbA) (by (first | assumption | omega))) cb_L_cell wl_L_22 rfl ⟨Nat.le_of_ble_eq_true rfl, Nat.le_of_ble_eq_true rfl⟩ hl.1 rfl (Nat.le_of_ble_eq_true rfl) dL_law_123 ⟨(by show cw3 + 0 ≤ 600064; omega), (by show sw3 + 0 ≤ 7301640; omega)⟩) hw (fun r123 H locs hp123 hw => ?_)
              refine lv_istore (pc := 126) (lv' := [(6, .int (iI r123)), (5, .int (iI tt)), (4, .int (iI pk)), (3, .int (iI x58)), (2, .int (iI np)), (1, .ref q0), (0, .ref b)]) hx hb dL_law_126 hl (by decide) rfl (fun ls hl => ?_)
              refine zsipush (pc := 128) (n := 1900) hx hb dL_law_128 rfl ?_
              refine lv_iload (pc := 131) hx hb dL_law_131 (lv_at hl 0 rfl) ?_
              refine zsipush (pc := 133) (n := 200) hx hb dL_law_133 rfl ?_
              refine zkIp (pc := 136) (zrS (As := [.int (iI r123), .int (iI 200)]) hx hb hml hown hG hw (c_L_below l Γ KL109 XL109 RL109 r123 200 (by (first | assumption | omega)) (by (first | assumption | omega))) cb_L_below wl_L_9 rfl ⟨Nat.le_of_ble_eq_true rfl, Nat.le_of_ble_eq_true rfl⟩ hl.1 rfl (Nat.le_of_ble_eq_true rfl) dL_law_136 ⟨(by show cw3 + 0 ≤ 600064; omega), (by show sw3 + 0 ≤ 7301640; omega)⟩) hw (fun r136 H locs hp136 hw => ?_)
              refine zadd (pc := 139) hx hb dL_law_139 ?_
              refine ztop (fun x140 ex140 => ?_)
              refine lv_istore (pc := 140) (lv' := [(7, .int (iI x140)), (6, .int (iI r123)), (5, .int (iI tt)), (4, .int (iI pk)), (3, .int (iI x58)), (2, .int (iI np)), (1, .ref q0), (0, .ref b)]) hx hb dL_law_140 hl (by decide) rfl (fun ls hl => ?_)
              refine lv_aload_n (pc := 142) hx hb dL_law_142 rfl (lv_at hl 6 rfl) ?_
              refine lv_iload (pc := 143) hx hb dL_law_143 (lv_at hl 3 rfl) ?_
              refine lv_iload (pc := 145) hx hb dL_law_145 (lv_at hl 0 rfl) ?_
              refine zsipush (pc := 147) (n := 2099) hx hb dL_law_147 rfl ?_
              refine lv_iload (pc := 150) hx hb dL_law_150 (lv_at hl 0 rfl) ?_
              refine lv_iload (pc := 152) hx hb dL_law_152 (lv_at hl 1 rfl) ?_
              refine ziconst (pc := 154) (n := 3) hx hb dL_law_154 ?_
              refine zshA (pc := 155) hx hb dL_law_155 (fun x155 fx155 => ?_)
              refine zbipush (pc := 156) (n := 30) hx hb dL_law_156 rfl ?_
              refine zkIp (pc := 158) (zrS (As := [.int (iI x155), .int (iI 30)]) hx hb hml hown hG hw (c_L_below l Γ KL109 XL109 RL109 x155 30 (by (first | assumption | omega)) (by (first | assumption | omega))) cb_L_below wl_L_9 rfl ⟨Nat.le_of_ble_eq_true rfl, Nat.le_of_ble_eq_true rfl⟩ hl.1 rfl (Nat.le_of_ble_eq_true rfl) dL_law_158 ⟨(by show cw3 + 0 ≤ 600064; omega), (by show sw3 + 0 ≤ 7301640; omega)⟩) hw (fun r158 H locs hp158 hw => ?_)
              refine zadd (pc := 161) hx hb dL_law_161 ?_
              refine zmin (pc := 162) hx hb (hml.trans hl.1.symm) hown hG wl_L_34 w1_zmn wi_javalangMath w2_zmn (Nat.le_of_ble_eq_true rfl) (Nat.le_of_ble_eq_true rfl) (by show cw3 ≤ 600064; omega) (by show sw3 ≤ 7301640; omega) ⟨by omega, by omega⟩ dL_law_162 ?_
              refine lv_iload (pc := 165) hx hb dL_law_165 (lv_at hl 1 rfl) ?_
              refine ziconst (pc := 167) (n := 5) hx hb dL_law_167 ?_
              refine zshA (pc := 168) hx hb dL_law_168 (fun x168 fx168 => ?_)
              refine lv_iload_n (pc := 169) hx hb dL_law_169 rfl (lv_at hl 5 rfl) ?_
              refine zkIp (pc := 170) (zrS (As := [.int (iI x168), .int (iI np)]) hx hb hml hown hG hw (c_L_below l Γ KL109 XL109 RL109 x168 np (by (first | assumption | omega)) (by (first | assumption | omega))) cb_L_below wl_L_9 rfl ⟨Nat.le_of_ble_eq_true rfl, Nat.le_of_ble_eq_true rfl⟩ hl.1 rfl (Nat.le_of_ble_eq_true rfl) dL_law_170 ⟨(by show cw3 + 0 ≤ 600064; omega), (by show sw3 + 0 ≤ 7301640; omega)⟩) hw (fun r170 H locs hp170 hw => ?_)
              refine lv_iload (pc := 173) hx hb dL_law_173 (lv_at hl 1 rfl) ?_
              refine zbipush (pc := 175) (n := 7) hx hb dL_law_175 rfl ?_
              refine zshA (pc := 177) hx hb dL_law_177 (fun x177 fx177 => ?_)
              refine zsipush (pc := 178) (n := 1440) hx hb dL_law_178 rfl ?_
              refine zkIp (pc := 181) (zrS (As := [.int (iI x177), .int (iI 1440)]) hx hb hml hown hG hw (c_L_below l Γ KL109 XL109 RL109 x177 1440 (by (first | assumption | omega)) (by (first | assumption | omega))) cb_L_below wl_L_9 rfl ⟨Nat.le_of_ble_eq_true rfl, Nat.le_of_ble_eq_true rfl⟩ hl.1 rfl (Nat.le_of_ble_eq_true rfl) dL_law_181 ⟨(by show cw3 + 0 ≤ 600064; omega), (by show sw3 + 0 ≤ 7301640; omega)⟩) hw (fun r181 H locs hp181 hw => ?_)
              refine lv_iload (pc := 184) hx hb dL_law_184 (lv_at hl 1 rfl) ?_
              refine zbipush (pc := 186) (n := 9) hx hb dL_law_186 rfl ?_
              refine zshA (pc := 188) hx hb dL_law_188 (fun x188 fx188 => ?_)
              refine ziconst (pc := 189) (n := 3) hx hb dL_law_189 ?_
              refine zkIp (pc := 190) (zrS (As := [.int (iI x188), .int (iI 3)]) hx hb hml hown hG hw (c_L_below l Γ KL109 XL109 RL109 x188 3 (by (first | assumption | omega)) (by (first | assumption | omega))) cb_L_below wl_L_9 rfl ⟨Nat.le_of_ble_eq_true rfl, Nat.le_of_ble_eq_true rfl⟩ hl.1 rfl (Nat.le_of_ble_eq_true rfl) dL_law_190 ⟨(by show cw3 + 0 ≤ 600064; omega), (by show sw3 + 0 ≤ 7301640; omega)⟩) hw (fun r190 H locs hp190 hw => ?_)
              refine lv_iload (pc := 193) hx hb dL_law_193 (lv_at hl 1 rfl) ?_
              refine zbipush (pc := 195) (n := 11) hx hb dL_law_195 rfl ?_
              refine zshA (pc := 197) hx hb dL_law_197 (fun x197 fx197 => ?_)
              refine zsipush (pc := 198) (n := 181) hx hb dL_law_198 rfl ?_
              refine zkIp (pc := 201) (zrS (As := [.int (iI x197), .int (iI 181)]) hx hb hml hown hG hw (c_L_below l Γ KL109 XL109 RL109 x197 181 (by (first | assumption | omega)) (by (first | assumption | omega))) cb_L_below wl_L_9 rfl ⟨Nat.le_of_ble_eq_true rfl, Nat.le_of_ble_eq_true rfl⟩ hl.1 rfl (Nat.le_of_ble_eq_true rfl) dL_law_201 ⟨(by show cw3 + 0 ≤ 600064; omega), (by show sw3 + 0 ≤ 7301640; omega)⟩) hw (fun r201 H locs hp201 hw => ?_)
              have hpt204 := hpm3 r170.toNat (by omega)
              have hcd204 : cdAtu M3 pk x140 (min 2099 (x140 + r158)) r170 r181 r190 r201 = 0 := by unfold cdAtu; rw [if_pos (by omega), if_pos ⟨by omega, by omega, hpt204⟩, if_neg (by omega)]
              refine zxkI (pc := 204) (zxrV (As := [.int (iI pk), .int (iI x140), .int (iI (min 2099 (x140 + r158))), .int (iI r170), .int (iI r181), .int (iI r190), .int (iI r201)]) hx hb hml hown hG hX hw (c_X8_addTurn l hl9 Γ KL109 XL109 RL109 q0 pk x140 (min 2099 (x140 + r158)) r170 r181 r190 r201 (ρ3) M3 (by (first | assumption | omega)) (by (first | assumption | omega)) (by (first | assumption | omega)) (by (first | assumption | omega))) (T := TX8) hk109q rfl cb_X8_addTurn wl_L_39 rfl ⟨Nat.le_of_ble_eq_true rfl, Nat.le_of_ble_eq_true rfl⟩ hl.1 rfl (Nat.le_of_ble_eq_true rfl) dL_law_204 ⟨(by show cw3 + 9 ≤ 600064; omega), (by show sw3 + 60 ≤ 7301640; omega)⟩) hw (fun E9 ce9 q9 H9 locs9 hxp9 hw9 hce9 hcv9 hcl9 => (by exfalso; first | exact hxp9 | omega | (rcases hxp9 with ⟨-, hq9⟩ | ⟨-, hq9⟩ | ⟨-, hq9⟩ <;> omega) | (rcases hxp9 with ⟨-, hq9⟩ | ⟨-, hq9⟩ <;> omega))) (fun r204 K204 X204 R204 H locs hp204 hw => ?_)
              obtain ⟨⟨er204, -⟩, ρ204, hC204, -⟩ := hp204
              have hk204 : K204 q0 = (1, 7) := hC204.1.1
              obtain ⟨M204, eM204⟩ : ∃ Z : zM, Z = tuM M3 pk.toNat x140 (min 2099 (x140 + r158)) r170 r181 r190 r201 := ⟨_, rfl⟩
              rw [← eM204] at hC204
              have hM204 : okM M204 := by rw [eM204]; exact okM_tur hM3 hcd204
              obtain ⟨hv204, h7204, hf204⟩ := tur_v eM204
              have hpm204 := hpm3.same hf204
              refine lv_pop (pc := 207) hx hb dL_law_207 rfl ?_
              refine ziinc (pc := 208) (lv' := [(5, .int (iI (tt + (-1)))), (7, .int (iI x140)), (6, .int (iI r123)), (4, .int (iI pk)), (3, .int (iI x58)), (2, .int (iI np)), (1, .ref q0), (0, .ref b)]) hx hb 2 dL_law_208 hl rfl (by decide) rfl (fun ls hl => ?_)
              obtain ⟨x208, ex208⟩ : ∃ zz : Int, zz = (tt + (-1)) := ⟨_, rfl⟩
              rw [← ex208] at hl
              refine lv_goto (pc := 211) (tgt := 109) hx hb dL_law_211 (by decide) ?_
              exact ih109 x208 (ρ204) M204 (cw3 + 9) (sw3 + 60) K204 X204 R204 _ _ (by (first | assumption | omega)) (by (first | assumption | omega)) (by (first | assumption | omega)) (by (first | assumption | omega)) (by (first | assumption | omega)) (by (first | assumption | omega)) (by omega) hw _ (lv_sub hl [0, 3, 4, 5, 6, 7] rfl)
        exact lp109 _ r104 (ρ88) M88 (cw2 + 6) (sw2 + 2430) K88 X88 R88 _ _ (by (first | assumption | omega)) (by (first | assumption | omega)) (by (first | assumption | omega)) (by (first | assumption | omega)) (by (first | assumption | omega)) (by (first | assumption | omega)) (Nat.lt_succ_self _) hw _ (lv_sub hl [0, 1, 2, 3, 4, 5] rfl)
  exact lp62 _ 0 (ρ) M cw sw K X Rf _ _ (by (first | assumption | omega)) (by (first | assumption | omega)) (by (first | assumption | omega)) (by (first | assumption | omega)) (by (first | assumption | omega)) (by (first | assumption | omega)) (Nat.lt_succ_self _) hw _ (lv_sub hl [0, 1, 2, 3, 4] rfl)
