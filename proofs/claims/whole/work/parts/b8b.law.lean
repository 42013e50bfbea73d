set_option maxHeartbeats 4000000 in
set_option maxRecDepth 100000 in
theorem lc_12 {p : Program} {l : Launch} (hl9 : l.stackTraces = false) {e : Env} {s : State} {m : MethodId} {below : List Frame} {meth : Method} {c : Code} {Q : State → Prop} {b L : Nat} {xs : Nat → Int32} {Γ : zG} {K0 : zK} (E : LE p s m c b L xs K0) {ρ : zL} {K : zK} {X : zX} {Rf : zR} {M : zM} {x md out outD it : Nat} {i : Int} {cw sw : Nat} {H : Heap} {locs : List Loc} {ls : Array Slot} (hi : 0 ≤ i ∧ i + 8 ≤ (L : Int)) (hit : it ≤ 511) (hI : LI ρ K X Rf x md out outD M) (hcs : cw ≤ 100 + 1100 * it ∧ sw + ptR X Rf md ≤ 112000 + 14000 * it) (hw : Wd Γ (zA K0 s.heap.size) K X Rf s H locs) (hl : lv_has ls 9 [(5, .int (iI i)), (4, .ref outD), (3, .ref out), (2, .ref md), (1, .ref x), (0, .ref b)]) (kk : ∀ (ρ' : zL) (K' : zK) (X' : zX) (R' : zR) (M' : zM) (H' : Heap) (locs' : List Loc) (cl' sl' : Nat) (ls' : Array Slot), LI ρ' K' X' R' x md out outD M' → (cl' ≤ 100 + 1100 * (it + 1) ∧ sl' + ptR X' R' md ≤ 112000 + 14000 * (it + 1)) → Wd Γ (zA K0 s.heap.size) K' X' R' s H' locs' → lv_has ls' 9 [(5, .int (iI i)), (4, .ref outD), (3, .ref out), (2, .ref md), (1, .ref x), (0, .ref b)] → W p l e room_1 s m #[Value.ref b] below meth c H' locs' cl' sl' Q (F0 m 3400 ls' [])) : W p l e room_1 s m #[Value.ref b] below meth c H locs cw sw Q (F0 m 1011 ls []) := by
  obtain ⟨⟨hx, hb, hml, hown⟩, hG, h46, hX, hXs, hbl, hbA, hL⟩ := E
  obtain ⟨hC, hRr, hM, ⟨hko4, hlo4⟩, hko5, hlo5⟩ := id hI
  have hCk := hC.1.1
  have hloo : ρ out = 4000 ∨ ρ out = 4001 := Or.inl hlo4
  have hlod : ρ outD = 4000 ∨ ρ outD = 4001 := Or.inr hlo5
  obtain ⟨a, hq1⟩ : ∃ z : Int, scI xs (i + 1).toNat = z := ⟨_, rfl⟩
  have hf1 : fit a := by rw [← hq1]; exact scI_fit
  obtain ⟨day, hq2⟩ : ∃ z : Int, scI xs (i + 2).toNat = z := ⟨_, rfl⟩
  have hf2 : fit day := by rw [← hq2]; exact scI_fit
  refine lv_aload_n (pc := 1011) hx hb dL_law_1011 rfl (lv_at hl 4 rfl) ?_
  refine lv_aload_n (pc := 1012) hx hb dL_law_1012 rfl (lv_at hl 5 rfl) ?_
  refine lv_iload (pc := 1013) hx hb dL_law_1013 (lv_at hl 0 rfl) ?_
  refine ziconst (pc := 1015) (n := 1) hx hb dL_law_1015 ?_
  refine zadd (pc := 1016) hx hb dL_law_1016 ?_
  refine zsld (pc := 1017) hx hb hXs hbl hbA hL hw ⟨by omega, by omega⟩ hq1 dL_law_1017 ?_
  refine lv_aload_n (pc := 1018) hx hb dL_law_1018 rfl (lv_at hl 5 rfl) ?_
  refine lv_iload (pc := 1019) hx hb dL_law_1019 (lv_at hl 0 rfl) ?_
  refine ziconst (pc := 1021) (n := 2) hx hb dL_law_1021 ?_
  refine zadd (pc := 1022) hx hb dL_law_1022 ?_
  refine zsld (pc := 1023) hx hb hXs hbl hbA hL hw ⟨by omega, by omega⟩ hq2 dL_law_1023 ?_
  refine lv_aload_n (pc := 1024) hx hb dL_law_1024 rfl (lv_at hl 2 rfl) ?_
  refine zkI (pc := 1025) (zlrS (As := [.ref x, .int (iI a), .int (iI day), .ref out]) hx hb hml hown hG h46 hX hw (c_L_nextTold l hl9 Γ K X Rf x a day out (ρ) M (by (first | assumption | omega)) (by (first | assumption | omega)) (by (first | assumption | omega)) (by (first | assumption | omega)) (by (first | assumption | omega))) cb_L_nextTold wl_L_211 rfl ⟨Nat.le_of_ble_eq_true rfl, Nat.le_of_ble_eq_true rfl⟩ hl.1 rfl (Nat.le_of_ble_eq_true rfl) dL_law_1025 ⟨(by show cw + 2 ≤ 601024; omega), (by show sw + 12 ≤ 7293033; omega)⟩) hw (fun r1025 K1025 X1025 R1025 H locs hp1025 hw => ?_)
  obtain ⟨hk1, hv1, ρ1, hC1, hf1⟩ := hp1025
  obtain ⟨hR1, hpt1, hk1o⟩ := hI.c (Or.inl rfl) hC1 hf1
  have hmd1 := hR1.1.1
  refine lv_istore (pc := 1028) (lv' := [(6, .int (iI r1025)), (5, .int (iI i)), (4, .ref outD), (3, .ref out), (2, .ref md), (1, .ref x), (0, .ref b)]) hx hb dL_law_1028 hl (by decide) rfl (fun ls hl => ?_)
  refine lv_aload_n (pc := 1030) hx hb dL_law_1030 rfl (lv_at hl 4 rfl) ?_
  refine lv_aload_n (pc := 1031) hx hb dL_law_1031 rfl (lv_at hl 6 rfl) ?_
  refine lv_iload (pc := 1032) hx hb dL_law_1032 (lv_at hl 1 rfl) ?_
  refine ziconst (pc := 1034) (n := 1) hx hb dL_law_1034 ?_
  refine zadd (pc := 1035) hx hb dL_law_1035 ?_
  refine zsld (pc := 1036) hx hb hXs hbl hbA hL hw ⟨by omega, by omega⟩ hq1 dL_law_1036 ?_
  refine lv_aload_n (pc := 1037) hx hb dL_law_1037 rfl (lv_at hl 6 rfl) ?_
  refine lv_iload (pc := 1038) hx hb dL_law_1038 (lv_at hl 1 rfl) ?_
  refine ziconst (pc := 1040) (n := 2) hx hb dL_law_1040 ?_
  refine zadd (pc := 1041) hx hb dL_law_1041 ?_
  refine zsld (pc := 1042) hx hb hXs hbl hbA hL hw ⟨by omega, by omega⟩ hq2 dL_law_1042 ?_
  have hM1 : okM M := by exact hM
  refine zkIx (pc := 1043) (zrV (As := [.int (iI a), .int (iI day)]) hx hb hml hown hG hw (c_X9_nextTold l Γ K1025 X1025 R1025 md a day (rlb K1025 ρ1) M (by (first | assumption | omega)) (by (first | assumption | omega)) (by (first | assumption | omega))) (T := TX9) hmd1 rfl cb_X9_nextTold wl_L_213 rfl ⟨Nat.le_of_ble_eq_true rfl, Nat.le_of_ble_eq_true rfl⟩ hl.1 rfl (Nat.le_of_ble_eq_true rfl) dL_law_1043 ⟨(by show cw + 2 + 0 ≤ 601024; omega), (by show sw + 12 + 0 ≤ 7293033; omega)⟩) hw (fun r1043 X1043 H locs hp1043 hw => ?_)
  obtain ⟨hv2, h02, ρ2, hR2, hg2, hpt2⟩ : (cdPatD M a day = 0 → r1043 = nextT (patM M a.toNat) day) ∧ X1043 md 0 = cdPatD M a day ∧ ∃ ρ2, repR ρ2 K1025 X1043 R1025 md M ∧ frR (rlb K1025 ρ1) K1025 X1025 R1025 ρ2 K1025 X1043 R1025 ∧ ptR X1043 R1025 md ≤ ptR X1025 R1025 md := by obtain ⟨a1, a2⟩ := hp1043; exact ⟨a1, by rw [a2]; exact up2_s, rlb K1025 ρ1, by rw [a2]; exact hR1.own ⟨rfl, by decide⟩, by rw [a2]; exact frR_own hR1, by rw [a2]; exact ptR_ls (lsR_own hR1)⟩
  obtain ⟨hxo, hxd, ρ3, hI3⟩ := LI.r hC1 hk1o hM1 hR2 hg2
  have hmd3 := hI3.2.1.1.1
  have hko3 := hI3.2.2.2.1.1
  have hkd3 := hI3.2.2.2.2.1
  have hcb : 0 ≤ cdPatD M a day ∧ cdPatD M a day ≤ 3 := by unfold cdPatD; (repeat' split) <;> omega
  refine lv_istore (pc := 1046) (lv' := [(7, .int (iI r1043)), (6, .int (iI r1025)), (5, .int (iI i)), (4, .ref outD), (3, .ref out), (2, .ref md), (1, .ref x), (0, .ref b)]) hx hb dL_law_1046 hl (by decide) rfl (fun ls hl => ?_)
  refine lv_aload_n (pc := 1048) hx hb dL_law_1048 rfl (lv_at hl 5 rfl) ?_
  refine zkIp (pc := 1049) (zrV (As := []) hx hb hml hown hG hw (c_X9_thrown l Γ K1025 X1043 R1025 md  (by (first | assumption | omega))) (T := TX9) hmd3 rfl cb_X9_thrown wl_L_172 rfl ⟨Nat.le_of_ble_eq_true rfl, Nat.le_of_ble_eq_true rfl⟩ hl.1 rfl (Nat.le_of_ble_eq_true rfl) dL_law_1049 ⟨(by show cw + 2 + 0 ≤ 601024; omega), (by show sw + 12 + 0 ≤ 7293033; omega)⟩) hw (fun r1049 H locs hp1049 hw => ?_)
  subst hp1049
  refine lv_iload (pc := 1052) hx hb dL_law_1052 (lv_at hl 1 rfl) ?_
  refine zicmp_eq (pc := 1054) hx hb 1059 (by omega) (by omega) dL_law_1054 (by decide) (fun c1054 => ?_) (fun c1054 => ?_)
  · skip
    refine lv_iload (pc := 1059) hx hb dL_law_1059 (lv_at hl 1 rfl) ?_
    refine zif_ne (pc := 1061) hx hb 1076 (by omega) dL_law_1061 (by decide) (fun c1061 => ?_) (fun c1061 => ?_)
    · skip
      refine lv_goto (pc := 1076) (tgt := 3400) hx hb dL_law_1076 (by decide) ?_
      exact kk ρ3 K1025 X1043 R1025 _ H locs _ _ ls hI3 ⟨by omega, by omega⟩ hw (lv_sub hl [2, 3, 4, 5, 6, 7] rfl)
    · skip
      have hc0 : cdPatD M a day = 0 := by omega
      have hov : X1043 out 0 = wI r1043 := by rw [congrFun hxo 0, hv1 hc0, hv2 hc0]
      refine lv_aload_n (pc := 1064) hx hb dL_law_1064 rfl (lv_at hl 4 rfl) ?_
      refine ziconst (pc := 1065) (n := 0) hx hb dL_law_1065 ?_
      refine zlald (pc := 1066) hx hb hw hko3 ⟨by omega, by omega⟩ (by omega) dL_law_1066 ?_
      refine lv_iload (pc := 1067) hx hb dL_law_1067 (lv_at hl 0 rfl) ?_
      refine zi2lw (pc := 1069) hx hb dL_law_1069 ?_
      refine zlcmpE (pc := 1070) hx hb hov dL_law_1070 ?_
      refine zif_eq (pc := 1071) hx hb 1076 (by omega) dL_law_1071 (by decide) (fun c1071 => ?_) (fun c1071 => ?_)
      · skip
        refine lv_goto (pc := 1076) (tgt := 3400) hx hb dL_law_1076 (by decide) ?_
        exact kk ρ3 K1025 X1043 R1025 _ H locs _ _ ls hI3 ⟨by omega, by omega⟩ hw (lv_sub hl [2, 3, 4, 5, 6, 7] rfl)
      · skip
        exfalso; omega
  · skip
    exfalso; omega
set_option maxHeartbeats 4000000 in
set_option maxRecDepth 100000 in
theorem lc_13 {p : Program} {l : Launch} (hl9 : l.stackTraces = false) {e : Env} {s : State} {m : MethodId} {below : List Frame} {meth : Method} {c : Code} {Q : State → Prop} {b L : Nat} {xs : Nat → Int32} {Γ : zG} {K0 : zK} (E : LE p s m c b L xs K0) {ρ : zL} {K : zK} {X : zX} {Rf : zR} {M : zM} {x md out outD it : Nat} {i : Int} {cw sw : Nat} {H : Heap} {locs : List Loc} {ls : Array Slot} (hi : 0 ≤ i ∧ i + 8 ≤ (L : Int)) (hit : it ≤ 511) (hI : LI ρ K X Rf x md out outD M) (hcs : cw ≤ 100 + 1100 * it ∧ sw + ptR X Rf md ≤ 112000 + 14000 * it) (hw : Wd Γ (zA K0 s.heap.size) K X Rf s H locs) (hl : lv_has ls 9 [(5, .int (iI i)), (4, .ref outD), (3, .ref out), (2, .ref md), (1, .ref x), (0, .ref b)]) (kk : ∀ (ρ' : zL) (K' : zK) (X' : zX) (R' : zR) (M' : zM) (H' : Heap) (locs' : List Loc) (cl' sl' : Nat) (ls' : Array Slot), LI ρ' K' X' R' x md out outD M' → (cl' ≤ 100 + 1100 * (it + 1) ∧ sl' + ptR X' R' md ≤ 112000 + 14000 * (it + 1)) → Wd Γ (zA K0 s.heap.size) K' X' R' s H' locs' → lv_has ls' 9 [(5, .int (iI i)), (4, .ref outD), (3, .ref out), (2, .ref md), (1, .ref x), (0, .ref b)] → W p l e room_1 s m #[Value.ref b] below meth c H' locs' cl' sl' Q (F0 m 3400 ls' [])) : W p l e room_1 s m #[Value.ref b] below meth c H locs cw sw Q (F0 m 1079 ls []) := by
  obtain ⟨⟨hx, hb, hml, hown⟩, hG, h46, hX, hXs, hbl, hbA, hL⟩ := E
  obtain ⟨hC, hRr, hM, ⟨hko4, hlo4⟩, hko5, hlo5⟩ := id hI
  have hCk := hC.1.1
  have hloo : ρ out = 4000 ∨ ρ out = 4001 := Or.inl hlo4
  have hlod : ρ outD = 4000 ∨ ρ outD = 4001 := Or.inr hlo5
  obtain ⟨bs, hq1⟩ : ∃ z : Int, scI xs (i + 1).toNat = z := ⟨_, rfl⟩
  have hf1 : fit bs := by rw [← hq1]; exact scI_fit
  refine lv_aload_n (pc := 1079) hx hb dL_law_1079 rfl (lv_at hl 4 rfl) ?_
  refine lv_aload_n (pc := 1080) hx hb dL_law_1080 rfl (lv_at hl 5 rfl) ?_
  refine lv_iload (pc := 1081) hx hb dL_law_1081 (lv_at hl 0 rfl) ?_
  refine ziconst (pc := 1083) (n := 1) hx hb dL_law_1083 ?_
  refine zadd (pc := 1084) hx hb dL_law_1084 ?_
  refine zsld (pc := 1085) hx hb hXs hbl hbA hL hw ⟨by omega, by omega⟩ hq1 dL_law_1085 ?_
  refine lv_aload_n (pc := 1086) hx hb dL_law_1086 rfl (lv_at hl 2 rfl) ?_
  refine zkI (pc := 1087) (zlrS (As := [.ref x, .int (iI bs), .ref out]) hx hb hml hown hG h46 hX hw (c_L_addPlace l hl9 Γ K X Rf x bs out (ρ) M (by (first | assumption | omega)) (by (first | assumption | omega)) (by (first | assumption | omega)) (by (first | assumption | omega)) (by (first | assumption | omega))) cb_L_addPlace wl_L_214 rfl ⟨Nat.le_of_ble_eq_true rfl, Nat.le_of_ble_eq_true rfl⟩ hl.1 rfl (Nat.le_of_ble_eq_true rfl) dL_law_1087 ⟨(by show cw + 6 ≤ 601024; omega), (by show sw + 2430 ≤ 7293033; omega)⟩) hw (fun r1087 K1087 X1087 R1087 H locs hp1087 hw => ?_)
  obtain ⟨hk1, hv1, ρ1, hC1, hf1⟩ := hp1087
  obtain ⟨hR1, hpt1, hk1o⟩ := hI.c (Or.inl rfl) hC1 hf1
  have hmd1 := hR1.1.1
  refine lv_istore (pc := 1090) (lv' := [(6, .int (iI r1087)), (5, .int (iI i)), (4, .ref outD), (3, .ref out), (2, .ref md), (1, .ref x), (0, .ref b)]) hx hb dL_law_1090 hl (by decide) rfl (fun ls hl => ?_)
  refine lv_aload_n (pc := 1092) hx hb dL_law_1092 rfl (lv_at hl 4 rfl) ?_
  refine lv_aload_n (pc := 1093) hx hb dL_law_1093 rfl (lv_at hl 6 rfl) ?_
  refine lv_iload (pc := 1094) hx hb dL_law_1094 (lv_at hl 1 rfl) ?_
  refine ziconst (pc := 1096) (n := 1) hx hb dL_law_1096 ?_
  refine zadd (pc := 1097) hx hb dL_law_1097 ?_
  refine zsld (pc := 1098) hx hb hXs hbl hbA hL hw ⟨by omega, by omega⟩ hq1 dL_law_1098 ?_
  have hM1 : okM (if cdApl M bs = 0 then (plM M (M 40 5).toNat bs) else M) := by split; (next h9 => exact okM_plc hM h9); exact hM
  refine zkI (pc := 1099) (zrV (As := [.int (iI bs)]) hx hb hml hown hG hw (c_X9_addPlace l Γ K1087 X1087 R1087 md bs (rlb K1087 ρ1) M (by (first | assumption | omega)) (by (first | assumption | omega)) (by (first | assumption | omega))) (T := TX9) hmd1 rfl cb_X9_addPlace wl_L_216 rfl ⟨Nat.le_of_ble_eq_true rfl, Nat.le_of_ble_eq_true rfl⟩ hl.1 rfl (Nat.le_of_ble_eq_true rfl) dL_law_1099 ⟨(by show cw + 6 + 2 ≤ 601024; omega), (by show sw + 2430 + 0 ≤ 7293033; omega)⟩) hw (fun r1099 K1099 X1099 R1099 H locs hp1099 hw => ?_)
  obtain ⟨hv2, h02, ρ2, hR2, hg2, hpt2⟩ : (cdApl M bs = 0 → r1099 = M 40 5) ∧ X1099 md 0 = cdApl M bs ∧ ∃ ρ2, repR ρ2 K1099 X1099 R1099 md (if cdApl M bs = 0 then (plM M (M 40 5).toNat bs) else M) ∧ frR (rlb K1087 ρ1) K1087 X1087 R1087 ρ2 K1099 X1099 R1099 ∧ ptR X1099 R1099 md ≤ ptR X1087 R1087 md + 5000 := by obtain ⟨a1, a2, ρ', a3, a4, a5⟩ := hp1099; exact ⟨a1, a2, ρ', a3, a4, a5⟩
  obtain ⟨hxo, hxd, ρ3, hI3⟩ := LI.r hC1 hk1o hM1 hR2 hg2
  have hmd3 := hI3.2.1.1.1
  have hko3 := hI3.2.2.2.1.1
  have hkd3 := hI3.2.2.2.2.1
  have hcb : 0 ≤ cdApl M bs ∧ cdApl M bs ≤ 3 := by unfold cdApl; (repeat' split) <;> omega
  refine lv_istore (pc := 1102) (lv' := [(7, .int (iI r1099)), (6, .int (iI r1087)), (5, .int (iI i)), (4, .ref outD), (3, .ref out), (2, .ref md), (1, .ref x), (0, .ref b)]) hx hb dL_law_1102 hl (by decide) rfl (fun ls hl => ?_)
  refine lv_aload_n (pc := 1104) hx hb dL_law_1104 rfl (lv_at hl 5 rfl) ?_
  refine zkIp (pc := 1105) (zrV (As := []) hx hb hml hown hG hw (c_X9_thrown l Γ K1099 X1099 R1099 md  (by (first | assumption | omega))) (T := TX9) hmd3 rfl cb_X9_thrown wl_L_172 rfl ⟨Nat.le_of_ble_eq_true rfl, Nat.le_of_ble_eq_true rfl⟩ hl.1 rfl (Nat.le_of_ble_eq_true rfl) dL_law_1105 ⟨(by show cw + 6 + 2 + 0 ≤ 601024; omega), (by show sw + 2430 + 0 ≤ 7293033; omega)⟩) hw (fun r1105 H locs hp1105 hw => ?_)
  subst hp1105
  refine lv_iload (pc := 1108) hx hb dL_law_1108 (lv_at hl 1 rfl) ?_
  refine zicmp_eq (pc := 1110) hx hb 1115 (by omega) (by omega) dL_law_1110 (by decide) (fun c1110 => ?_) (fun c1110 => ?_)
  · skip
    refine lv_iload (pc := 1115) hx hb dL_law_1115 (lv_at hl 1 rfl) ?_
    refine zif_ne (pc := 1117) hx hb 1132 (by omega) dL_law_1117 (by decide) (fun c1117 => ?_) (fun c1117 => ?_)
    · skip
      refine lv_goto (pc := 1132) (tgt := 3400) hx hb dL_law_1132 (by decide) ?_
      exact kk ρ3 K1099 X1099 R1099 _ H locs _ _ ls hI3 ⟨by omega, by omega⟩ hw (lv_sub hl [2, 3, 4, 5, 6, 7] rfl)
    · skip
      have hc0 : cdApl M bs = 0 := by omega
      have hov : X1099 out 0 = wI r1099 := by rw [congrFun hxo 0, hv1 hc0, hv2 hc0]
      refine lv_aload_n (pc := 1120) hx hb dL_law_1120 rfl (lv_at hl 4 rfl) ?_
      refine ziconst (pc := 1121) (n := 0) hx hb dL_law_1121 ?_
      refine zlald (pc := 1122) hx hb hw hko3 ⟨by omega, by omega⟩ (by omega) dL_law_1122 ?_
      refine lv_iload (pc := 1123) hx hb dL_law_1123 (lv_at hl 0 rfl) ?_
      refine zi2lw (pc := 1125) hx hb dL_law_1125 ?_
      refine zlcmpE (pc := 1126) hx hb hov dL_law_1126 ?_
      refine zif_eq (pc := 1127) hx hb 1132 (by omega) dL_law_1127 (by decide) (fun c1127 => ?_) (fun c1127 => ?_)
      · skip
        refine lv_goto (pc := 1132) (tgt := 3400) hx hb dL_law_1132 (by decide) ?_
        exact kk ρ3 K1099 X1099 R1099 _ H locs _ _ ls hI3 ⟨by omega, by omega⟩ hw (lv_sub hl [2, 3, 4, 5, 6, 7] rfl)
      · skip
        exfalso; omega
  · skip
    exfalso; omega
set_option maxHeartbeats 4000000 in
set_option maxRecDepth 100000 in
theorem lc_14 {p : Program} {l : Launch} (hl9 : l.stackTraces = false) {e : Env} {s : State} {m : MethodId} {below : List Frame} {meth : Method} {c : Code} {Q : State → Prop} {b L : Nat} {xs : Nat → Int32} {Γ : zG} {K0 : zK} (E : LE p s m c b L xs K0) {ρ : zL} {K : zK} {X : zX} {Rf : zR} {M : zM} {x md out outD it : Nat} {i : Int} {cw sw : Nat} {H : Heap} {locs : List Loc} {ls : Array Slot} (hi : 0 ≤ i ∧ i + 8 ≤ (L : Int)) (hit : it ≤ 511) (hI : LI ρ K X Rf x md out outD M) (hcs : cw ≤ 100 + 1100 * it ∧ sw + ptR X Rf md ≤ 112000 + 14000 * it) (hw : Wd Γ (zA K0 s.heap.size) K X Rf s H locs) (hl : lv_has ls 9 [(5, .int (iI i)), (4, .ref outD), (3, .ref out), (2, .ref md), (1, .ref x), (0, .ref b)]) (kk : ∀ (ρ' : zL) (K' : zK) (X' : zX) (R' : zR) (M' : zM) (H' : Heap) (locs' : List Loc) (cl' sl' : Nat) (ls' : Array Slot), LI ρ' K' X' R' x md out outD M' → (cl' ≤ 100 + 1100 * (it + 1) ∧ sl' + ptR X' R' md ≤ 112000 + 14000 * (it + 1)) → Wd Γ (zA K0 s.heap.size) K' X' R' s H' locs' → lv_has ls' 9 [(5, .int (iI i)), (4, .ref outD), (3, .ref out), (2, .ref md), (1, .ref x), (0, .ref b)] → W p l e room_1 s m #[Value.ref b] below meth c H' locs' cl' sl' Q (F0 m 3400 ls' [])) : W p l e room_1 s m #[Value.ref b] below meth c H locs cw sw Q (F0 m 1135 ls []) := by
  obtain ⟨⟨hx, hb, hml, hown⟩, hG, h46, hX, hXs, hbl, hbA, hL⟩ := E
  obtain ⟨hC, hRr, hM, ⟨hko4, hlo4⟩, hko5, hlo5⟩ := id hI
  have hCk := hC.1.1
  have hloo : ρ out = 4000 ∨ ρ out = 4001 := Or.inl hlo4
  have hlod : ρ outD = 4000 ∨ ρ outD = 4001 := Or.inr hlo5
  obtain ⟨a, hq1⟩ : ∃ z : Int, scI xs (i + 1).toNat = z := ⟨_, rfl⟩
  have hf1 : fit a := by rw [← hq1]; exact scI_fit
  obtain ⟨fy, hq2⟩ : ∃ z : Int, scI xs (i + 2).toNat = z := ⟨_, rfl⟩
  have hf2 : fit fy := by rw [← hq2]; exact scI_fit
  obtain ⟨ly, hq3⟩ : ∃ z : Int, scI xs (i + 3).toNat = z := ⟨_, rfl⟩
  have hf3 : fit ly := by rw [← hq3]; exact scI_fit
  obtain ⟨b9, hq4⟩ : ∃ z : Int, scI xs (i + 4).toNat = z := ⟨_, rfl⟩
  have hf4 : fit b9 := by rw [← hq4]; exact scI_fit
  obtain ⟨mn, hq5⟩ : ∃ z : Int, scI xs (i + 5).toNat = z := ⟨_, rfl⟩
  have hf5 : fit mn := by rw [← hq5]; exact scI_fit
  obtain ⟨cl, hq6⟩ : ∃ z : Int, scI xs (i + 6).toNat = z := ⟨_, rfl⟩
  have hf6 : fit cl := by rw [← hq6]; exact scI_fit
  obtain ⟨sv, hq7⟩ : ∃ z : Int, scI xs (i + 7).toNat = z := ⟨_, rfl⟩
  have hf7 : fit sv := by rw [← hq7]; exact scI_fit
  refine lv_aload_n (pc := 1135) hx hb dL_law_1135 rfl (lv_at hl 4 rfl) ?_
  refine lv_aload_n (pc := 1136) hx hb dL_law_1136 rfl (lv_at hl 5 rfl) ?_
  refine lv_iload (pc := 1137) hx hb dL_law_1137 (lv_at hl 0 rfl) ?_
  refine ziconst (pc := 1139) (n := 1) hx hb dL_law_1139 ?_
  refine zadd (pc := 1140) hx hb dL_law_1140 ?_
  refine zsld (pc := 1141) hx hb hXs hbl hbA hL hw ⟨by omega, by omega⟩ hq1 dL_law_1141 ?_
  refine lv_aload_n (pc := 1142) hx hb dL_law_1142 rfl (lv_at hl 5 rfl) ?_
  refine lv_iload (pc := 1143) hx hb dL_law_1143 (lv_at hl 0 rfl) ?_
  refine ziconst (pc := 1145) (n := 2) hx hb dL_law_1145 ?_
  refine zadd (pc := 1146) hx hb dL_law_1146 ?_
  refine zsld (pc := 1147) hx hb hXs hbl hbA hL hw ⟨by omega, by omega⟩ hq2 dL_law_1147 ?_
  refine lv_aload_n (pc := 1148) hx hb dL_law_1148 rfl (lv_at hl 5 rfl) ?_
  refine lv_iload (pc := 1149) hx hb dL_law_1149 (lv_at hl 0 rfl) ?_
  refine ziconst (pc := 1151) (n := 3) hx hb dL_law_1151 ?_
  refine zadd (pc := 1152) hx hb dL_law_1152 ?_
  refine zsld (pc := 1153) hx hb hXs hbl hbA hL hw ⟨by omega, by omega⟩ hq3 dL_law_1153 ?_
  refine lv_aload_n (pc := 1154) hx hb dL_law_1154 rfl (lv_at hl 5 rfl) ?_
  refine lv_iload (pc := 1155) hx hb dL_law_1155 (lv_at hl 0 rfl) ?_
  refine ziconst (pc := 1157) (n := 4) hx hb dL_law_1157 ?_
  refine zadd (pc := 1158) hx hb dL_law_1158 ?_
  refine zsld (pc := 1159) hx hb hXs hbl hbA hL hw ⟨by omega, by omega⟩ hq4 dL_law_1159 ?_
  refine lv_aload_n (pc := 1160) hx hb dL_law_1160 rfl (lv_at hl 5 rfl) ?_
  refine lv_iload (pc := 1161) hx hb dL_law_1161 (lv_at hl 0 rfl) ?_
  refine ziconst (pc := 1163) (n := 5) hx hb dL_law_1163 ?_
  refine zadd (pc := 1164) hx hb dL_law_1164 ?_
  refine zsld (pc := 1165) hx hb hXs hbl hbA hL hw ⟨by omega, by omega⟩ hq5 dL_law_1165 ?_
  refine lv_aload_n (pc := 1166) hx hb dL_law_1166 rfl (lv_at hl 5 rfl) ?_
  refine lv_iload (pc := 1167) hx hb dL_law_1167 (lv_at hl 0 rfl) ?_
  refine zbipush (pc := 1169) (n := 6) hx hb dL_law_1169 rfl ?_
  refine zadd (pc := 1171) hx hb dL_law_1171 ?_
  refine zsld (pc := 1172) hx hb hXs hbl hbA hL hw ⟨by omega, by omega⟩ hq6 dL_law_1172 ?_
  refine lv_aload_n (pc := 1173) hx hb dL_law_1173 rfl (lv_at hl 5 rfl) ?_
  refine lv_iload (pc := 1174) hx hb dL_law_1174 (lv_at hl 0 rfl) ?_
  refine zbipush (pc := 1176) (n := 7) hx hb dL_law_1176 rfl ?_
  refine zadd (pc := 1178) hx hb dL_law_1178 ?_
  refine zsld (pc := 1179) hx hb hXs hbl hbA hL hw ⟨by omega, by omega⟩ hq7 dL_law_1179 ?_
  refine lv_aload_n (pc := 1180) hx hb dL_law_1180 rfl (lv_at hl 2 rfl) ?_
  refine zkI (pc := 1181) (zlrS (As := [.ref x, .int (iI a), .int (iI fy), .int (iI ly), .int (iI b9), .int (iI mn), .int (iI cl), .int (iI sv), .ref out]) hx hb hml hown hG h46 hX hw (c_L_addTurn l hl9 Γ K X Rf x a fy ly b9 mn cl sv out (ρ) M (by (first | assumption | omega)) (by (first | assumption | omega)) (by (first | assumption | omega)) (by (first | assumption | omega)) (by (first | assumption | omega)) (by (first | assumption | omega))) cb_L_addTurn wl_L_217 rfl ⟨Nat.le_of_ble_eq_true rfl, Nat.le_of_ble_eq_true rfl⟩ hl.1 rfl (Nat.le_of_ble_eq_true rfl) dL_law_1181 ⟨(by show cw + 9 ≤ 601024; omega), (by show sw + 60 ≤ 7293033; omega)⟩) hw (fun r1181 K1181 X1181 R1181 H locs hp1181 hw => ?_)
  obtain ⟨hk1, hv1, ρ1, hC1, hf1⟩ := hp1181
  obtain ⟨hR1, hpt1, hk1o⟩ := hI.c (Or.inl rfl) hC1 hf1
  have hmd1 := hR1.1.1
  refine lv_istore (pc := 1184) (lv' := [(6, .int (iI r1181)), (5, .int (iI i)), (4, .ref outD), (3, .ref out), (2, .ref md), (1, .ref x), (0, .ref b)]) hx hb dL_law_1184 hl (by decide) rfl (fun ls hl => ?_)
  refine lv_aload_n (pc := 1186) hx hb dL_law_1186 rfl (lv_at hl 4 rfl) ?_
  refine lv_aload_n (pc := 1187) hx hb dL_law_1187 rfl (lv_at hl 6 rfl) ?_
  refine lv_iload (pc := 1188) hx hb dL_law_1188 (lv_at hl 1 rfl) ?_
  refine ziconst (pc := 1190) (n := 1) hx hb dL_law_1190 ?_
  refine zadd (pc := 1191) hx hb dL_law_1191 ?_
  refine zsld (pc := 1192) hx hb hXs hbl hbA hL hw ⟨by omega, by omega⟩ hq1 dL_law_1192 ?_
  refine lv_aload_n (pc := 1193) hx hb dL_law_1193 rfl (lv_at hl 6 rfl) ?_
  refine lv_iload (pc := 1194) hx hb dL_law_1194 (lv_at hl 1 rfl) ?_
  refine ziconst (pc := 1196) (n := 2) hx hb dL_law_1196 ?_
  refine zadd (pc := 1197) hx hb dL_law_1197 ?_
  refine zsld (pc := 1198) hx hb hXs hbl hbA hL hw ⟨by omega, by omega⟩ hq2 dL_law_1198 ?_
  refine lv_aload_n (pc := 1199) hx hb dL_law_1199 rfl (lv_at hl 6 rfl) ?_
  refine lv_iload (pc := 1200) hx hb dL_law_1200 (lv_at hl 1 rfl) ?_
  refine ziconst (pc := 1202) (n := 3) hx hb dL_law_1202 ?_
  refine zadd (pc := 1203) hx hb dL_law_1203 ?_
  refine zsld (pc := 1204) hx hb hXs hbl hbA hL hw ⟨by omega, by omega⟩ hq3 dL_law_1204 ?_
  refine lv_aload_n (pc := 1205) hx hb dL_law_1205 rfl (lv_at hl 6 rfl) ?_
  refine lv_iload (pc := 1206) hx hb dL_law_1206 (lv_at hl 1 rfl) ?_
  refine ziconst (pc := 1208) (n := 4) hx hb dL_law_1208 ?_
  refine zadd (pc := 1209) hx hb dL_law_1209 ?_
  refine zsld (pc := 1210) hx hb hXs hbl hbA hL hw ⟨by omega, by omega⟩ hq4 dL_law_1210 ?_
  refine lv_aload_n (pc := 1211) hx hb dL_law_1211 rfl (lv_at hl 6 rfl) ?_
  refine lv_iload (pc := 1212) hx hb dL_law_1212 (lv_at hl 1 rfl) ?_
  refine ziconst (pc := 1214) (n := 5) hx hb dL_law_1214 ?_
  refine zadd (pc := 1215) hx hb dL_law_1215 ?_
  refine zsld (pc := 1216) hx hb hXs hbl hbA hL hw ⟨by omega, by omega⟩ hq5 dL_law_1216 ?_
  refine lv_aload_n (pc := 1217) hx hb dL_law_1217 rfl (lv_at hl 6 rfl) ?_
  refine lv_iload (pc := 1218) hx hb dL_law_1218 (lv_at hl 1 rfl) ?_
  refine zbipush (pc := 1220) (n := 6) hx hb dL_law_1220 rfl ?_
  refine zadd (pc := 1222) hx hb dL_law_1222 ?_
  refine zsld (pc := 1223) hx hb hXs hbl hbA hL hw ⟨by omega, by omega⟩ hq6 dL_law_1223 ?_
  refine lv_aload_n (pc := 1224) hx hb dL_law_1224 rfl (lv_at hl 6 rfl) ?_
  refine lv_iload (pc := 1225) hx hb dL_law_1225 (lv_at hl 1 rfl) ?_
  refine zbipush (pc := 1227) (n := 7) hx hb dL_law_1227 rfl ?_
  refine zadd (pc := 1229) hx hb dL_law_1229 ?_
  refine zsld (pc := 1230) hx hb hXs hbl hbA hL hw ⟨by omega, by omega⟩ hq7 dL_law_1230 ?_
  have hM1 : okM (if cdAtu M a fy ly b9 mn cl sv = 0 then (tuM M a.toNat fy ly b9 mn cl sv) else M) := by split; (next h9 => exact okM_tur hM h9); exact hM
  refine zkI (pc := 1231) (zrV (As := [.int (iI a), .int (iI fy), .int (iI ly), .int (iI b9), .int (iI mn), .int (iI cl), .int (iI sv)]) hx hb hml hown hG hw (c_X9_addTurn l Γ K1181 X1181 R1181 md a fy ly b9 mn cl sv (rlb K1181 ρ1) M (by (first | assumption | omega)) (by (first | assumption | omega)) (by (first | assumption | omega)) (by (first | assumption | omega))) (T := TX9) hmd1 rfl cb_X9_addTurn wl_L_220 rfl ⟨Nat.le_of_ble_eq_true rfl, Nat.le_of_ble_eq_true rfl⟩ hl.1 rfl (Nat.le_of_ble_eq_true rfl) dL_law_1231 ⟨(by show cw + 9 + 1 ≤ 601024; omega), (by show sw + 60 + 6 ≤ 7293033; omega)⟩) hw (fun r1231 K1231 X1231 R1231 H locs hp1231 hw => ?_)
  obtain ⟨hv2, h02, ρ2, hR2, hg2, hpt2⟩ : (cdAtu M a fy ly b9 mn cl sv = 0 → r1231 = M 7 a.toNat) ∧ X1231 md 0 = cdAtu M a fy ly b9 mn cl sv ∧ ∃ ρ2, repR ρ2 K1231 X1231 R1231 md (if cdAtu M a fy ly b9 mn cl sv = 0 then (tuM M a.toNat fy ly b9 mn cl sv) else M) ∧ frR (rlb K1181 ρ1) K1181 X1181 R1181 ρ2 K1231 X1231 R1231 ∧ ptR X1231 R1231 md ≤ ptR X1181 R1181 md + 5000 := by obtain ⟨a1, a2, ρ', a3, a4, a5⟩ := hp1231; exact ⟨a1, a2, ρ', a3, a4, a5⟩
  obtain ⟨hxo, hxd, ρ3, hI3⟩ := LI.r hC1 hk1o hM1 hR2 hg2
  have hmd3 := hI3.2.1.1.1
  have hko3 := hI3.2.2.2.1.1
  have hkd3 := hI3.2.2.2.2.1
  have hcb : 0 ≤ cdAtu M a fy ly b9 mn cl sv ∧ cdAtu M a fy ly b9 mn cl sv ≤ 3 := by unfold cdAtu; (repeat' split) <;> omega
  refine lv_istore (pc := 1234) (lv' := [(7, .int (iI r1231)), (6, .int (iI r1181)), (5, .int (iI i)), (4, .ref outD), (3, .ref out), (2, .ref md), (1, .ref x), (0, .ref b)]) hx hb dL_law_1234 hl (by decide) rfl (fun ls hl => ?_)
  refine lv_aload_n (pc := 1236) hx hb dL_law_1236 rfl (lv_at hl 5 rfl) ?_
  refine zkIp (pc := 1237) (zrV (As := []) hx hb hml hown hG hw (c_X9_thrown l Γ K1231 X1231 R1231 md  (by (first | assumption | omega))) (T := TX9) hmd3 rfl cb_X9_thrown wl_L_172 rfl ⟨Nat.le_of_ble_eq_true rfl, Nat.le_of_ble_eq_true rfl⟩ hl.1 rfl (Nat.le_of_ble_eq_true rfl) dL_law_1237 ⟨(by show cw + 9 + 1 + 0 ≤ 601024; omega), (by show sw + 60 + 6 + 0 ≤ 7293033; omega)⟩) hw (fun r1237 H locs hp1237 hw => ?_)
  subst hp1237
  refine lv_iload (pc := 1240) hx hb dL_law_1240 (lv_at hl 1 rfl) ?_
  refine zicmp_eq (pc := 1242) hx hb 1247 (by omega) (by omega) dL_law_1242 (by decide) (fun c1242 => ?_) (fun c1242 => ?_)
  · skip
    refine lv_iload (pc := 1247) hx hb dL_law_1247 (lv_at hl 1 rfl) ?_
    refine zif_ne (pc := 1249) hx hb 1264 (by omega) dL_law_1249 (by decide) (fun c1249 => ?_) (fun c1249 => ?_)
    · skip
      refine lv_goto (pc := 1264) (tgt := 3400) hx hb dL_law_1264 (by decide) ?_
      exact kk ρ3 K1231 X1231 R1231 _ H locs _ _ ls hI3 ⟨by omega, by omega⟩ hw (lv_sub hl [2, 3, 4, 5, 6, 7] rfl)
    · skip
      have hc0 : cdAtu M a fy ly b9 mn cl sv = 0 := by omega
      have hov : X1231 out 0 = wI r1231 := by rw [congrFun hxo 0, hv1 hc0, hv2 hc0]
      refine lv_aload_n (pc := 1252) hx hb dL_law_1252 rfl (lv_at hl 4 rfl) ?_
      refine ziconst (pc := 1253) (n := 0) hx hb dL_law_1253 ?_
      refine zlald (pc := 1254) hx hb hw hko3 ⟨by omega, by omega⟩ (by omega) dL_law_1254 ?_
      refine lv_iload (pc := 1255) hx hb dL_law_1255 (lv_at hl 0 rfl) ?_
      refine zi2lw (pc := 1257) hx hb dL_law_1257 ?_
      refine zlcmpE (pc := 1258) hx hb hov dL_law_1258 ?_
      refine zif_eq (pc := 1259) hx hb 1264 (by omega) dL_law_1259 (by decide) (fun c1259 => ?_) (fun c1259 => ?_)
      · skip
        refine lv_goto (pc := 1264) (tgt := 3400) hx hb dL_law_1264 (by decide) ?_
        exact kk ρ3 K1231 X1231 R1231 _ H locs _ _ ls hI3 ⟨by omega, by omega⟩ hw (lv_sub hl [2, 3, 4, 5, 6, 7] rfl)
      · skip
        exfalso; omega
  · skip
    exfalso; omega
set_option maxHeartbeats 4000000 in
set_option maxRecDepth 100000 in
theorem lc_15 {p : Program} {l : Launch} (hl9 : l.stackTraces = false) {e : Env} {s : State} {m : MethodId} {below : List Frame} {meth : Method} {c : Code} {Q : State → Prop} {b L : Nat} {xs : Nat → Int32} {Γ : zG} {K0 : zK} (E : LE p s m c b L xs K0) {ρ : zL} {K : zK} {X : zX} {Rf : zR} {M : zM} {x md out outD it : Nat} {i : Int} {cw sw : Nat} {H : Heap} {locs : List Loc} {ls : Array Slot} (hi : 0 ≤ i ∧ i + 8 ≤ (L : Int)) (hit : it ≤ 511) (hI : LI ρ K X Rf x md out outD M) (hcs : cw ≤ 100 + 1100 * it ∧ sw + ptR X Rf md ≤ 112000 + 14000 * it) (hw : Wd Γ (zA K0 s.heap.size) K X Rf s H locs) (hl : lv_has ls 9 [(5, .int (iI i)), (4, .ref outD), (3, .ref out), (2, .ref md), (1, .ref x), (0, .ref b)]) (kk : ∀ (ρ' : zL) (K' : zK) (X' : zX) (R' : zR) (M' : zM) (H' : Heap) (locs' : List Loc) (cl' sl' : Nat) (ls' : Array Slot), LI ρ' K' X' R' x md out outD M' → (cl' ≤ 100 + 1100 * (it + 1) ∧ sl' + ptR X' R' md ≤ 112000 + 14000 * (it + 1)) → Wd Γ (zA K0 s.heap.size) K' X' R' s H' locs' → lv_has ls' 9 [(5, .int (iI i)), (4, .ref outD), (3, .ref out), (2, .ref md), (1, .ref x), (0, .ref b)] → W p l e room_1 s m #[Value.ref b] below meth c H' locs' cl' sl' Q (F0 m 3400 ls' [])) : W p l e room_1 s m #[Value.ref b] below meth c H locs cw sw Q (F0 m 1267 ls []) := by
  obtain ⟨⟨hx, hb, hml, hown⟩, hG, h46, hX, hXs, hbl, hbA, hL⟩ := E
  obtain ⟨hC, hRr, hM, ⟨hko4, hlo4⟩, hko5, hlo5⟩ := id hI
  have hCk := hC.1.1
  have hloo : ρ out = 4000 ∨ ρ out = 4001 := Or.inl hlo4
  have hlod : ρ outD = 4000 ∨ ρ outD = 4001 := Or.inr hlo5
  obtain ⟨a, hq1⟩ : ∃ z : Int, scI xs (i + 1).toNat = z := ⟨_, rfl⟩
  have hf1 : fit a := by rw [← hq1]; exact scI_fit
  obtain ⟨mo, hq2⟩ : ∃ z : Int, scI xs (i + 2).toNat = z := ⟨_, rfl⟩
  have hf2 : fit mo := by rw [← hq2]; exact scI_fit
  refine lv_aload_n (pc := 1267) hx hb dL_law_1267 rfl (lv_at hl 4 rfl) ?_
  refine lv_aload_n (pc := 1268) hx hb dL_law_1268 rfl (lv_at hl 5 rfl) ?_
  refine lv_iload (pc := 1269) hx hb dL_law_1269 (lv_at hl 0 rfl) ?_
  refine ziconst (pc := 1271) (n := 1) hx hb dL_law_1271 ?_
  refine zadd (pc := 1272) hx hb dL_law_1272 ?_
  refine zsld (pc := 1273) hx hb hXs hbl hbA hL hw ⟨by omega, by omega⟩ hq1 dL_law_1273 ?_
  refine lv_aload_n (pc := 1274) hx hb dL_law_1274 rfl (lv_at hl 5 rfl) ?_
  refine lv_iload (pc := 1275) hx hb dL_law_1275 (lv_at hl 0 rfl) ?_
  refine ziconst (pc := 1277) (n := 2) hx hb dL_law_1277 ?_
  refine zadd (pc := 1278) hx hb dL_law_1278 ?_
  refine zsld (pc := 1279) hx hb hXs hbl hbA hL hw ⟨by omega, by omega⟩ hq2 dL_law_1279 ?_
  refine lv_aload_n (pc := 1280) hx hb dL_law_1280 rfl (lv_at hl 2 rfl) ?_
  refine zkI (pc := 1281) (zlrS (As := [.ref x, .int (iI a), .int (iI mo), .ref out]) hx hb hml hown hG h46 hX hw (c_L_savingAt l hl9 Γ K X Rf x a mo out (ρ) M (by (first | assumption | omega)) (by (first | assumption | omega)) (by (first | assumption | omega)) (by (first | assumption | omega)) (by (first | assumption | omega))) cb_L_savingAt wl_L_221 rfl ⟨Nat.le_of_ble_eq_true rfl, Nat.le_of_ble_eq_true rfl⟩ hl.1 rfl (Nat.le_of_ble_eq_true rfl) dL_law_1281 ⟨(by show cw + 2 ≤ 601024; omega), (by show sw + 12 ≤ 7293033; omega)⟩) hw (fun r1281 K1281 X1281 R1281 H locs hp1281 hw => ?_)
  obtain ⟨hk1, hv1, ρ1, hC1, hf1⟩ := hp1281
  obtain ⟨hR1, hpt1, hk1o⟩ := hI.c (Or.inl rfl) hC1 hf1
  have hmd1 := hR1.1.1
  refine lv_istore (pc := 1284) (lv' := [(6, .int (iI r1281)), (5, .int (iI i)), (4, .ref outD), (3, .ref out), (2, .ref md), (1, .ref x), (0, .ref b)]) hx hb dL_law_1284 hl (by decide) rfl (fun ls hl => ?_)
  refine lv_aload_n (pc := 1286) hx hb dL_law_1286 rfl (lv_at hl 4 rfl) ?_
  refine lv_aload_n (pc := 1287) hx hb dL_law_1287 rfl (lv_at hl 6 rfl) ?_
  refine lv_iload (pc := 1288) hx hb dL_law_1288 (lv_at hl 1 rfl) ?_
  refine ziconst (pc := 1290) (n := 1) hx hb dL_law_1290 ?_
  refine zadd (pc := 1291) hx hb dL_law_1291 ?_
  refine zsld (pc := 1292) hx hb hXs hbl hbA hL hw ⟨by omega, by omega⟩ hq1 dL_law_1292 ?_
  refine lv_aload_n (pc := 1293) hx hb dL_law_1293 rfl (lv_at hl 6 rfl) ?_
  refine lv_iload (pc := 1294) hx hb dL_law_1294 (lv_at hl 1 rfl) ?_
  refine ziconst (pc := 1296) (n := 2) hx hb dL_law_1296 ?_
  refine zadd (pc := 1297) hx hb dL_law_1297 ?_
  refine zsld (pc := 1298) hx hb hXs hbl hbA hL hw ⟨by omega, by omega⟩ hq2 dL_law_1298 ?_
  have hM1 : okM M := by exact hM
  have hdc9 := dlC_le (X := X1281) (Rf := R1281) (md := md) (p := a.toNat)
  refine zkI (pc := 1299) (zrV (As := [.int (iI a), .int (iI mo)]) hx hb hml hown hG hw (c_X9_savingAt l Γ K1281 X1281 R1281 md a mo (rlb K1281 ρ1) M (by (first | assumption | omega)) (by (first | assumption | omega)) (by (first | assumption | omega))) (T := TX9) hmd1 rfl cb_X9_savingAt wl_L_223 rfl ⟨Nat.le_of_ble_eq_true rfl, Nat.le_of_ble_eq_true rfl⟩ hl.1 rfl (Nat.le_of_ble_eq_true rfl) dL_law_1299 ⟨(by show cw + 2 + (min 5 (dlC X1281 R1281 md a.toNat)) ≤ 601024; omega), (by show sw + 12 + (dlC X1281 R1281 md a.toNat) ≤ 7293033; omega)⟩) hw (fun r1299 K1299 X1299 R1299 H locs hp1299 hw => ?_)
  obtain ⟨hv2, h02, ρ2, hR2, hg2, hpt2⟩ : (cdPlM M a mo = 0 → r1299 = savM M a.toNat mo) ∧ X1299 md 0 = cdPlM M a mo ∧ ∃ ρ2, repR ρ2 K1299 X1299 R1299 md M ∧ frR (rlb K1281 ρ1) K1281 X1281 R1281 ρ2 K1299 X1299 R1299 ∧ ptR X1299 R1299 md ≤ ptR X1281 R1281 md := by obtain ⟨a1, a2, ⟨ρ', a3, a4⟩, a5, -⟩ := hp1299; exact ⟨a1, a2, ρ', a3, a4, ptR_ls a5⟩
  obtain ⟨hxo, hxd, ρ3, hI3⟩ := LI.r hC1 hk1o hM1 hR2 hg2
  have hmd3 := hI3.2.1.1.1
  have hko3 := hI3.2.2.2.1.1
  have hkd3 := hI3.2.2.2.2.1
  have hcb : 0 ≤ cdPlM M a mo ∧ cdPlM M a mo ≤ 3 := by unfold cdPlM; (repeat' split) <;> omega
  refine lv_istore (pc := 1302) (lv' := [(7, .int (iI r1299)), (6, .int (iI r1281)), (5, .int (iI i)), (4, .ref outD), (3, .ref out), (2, .ref md), (1, .ref x), (0, .ref b)]) hx hb dL_law_1302 hl (by decide) rfl (fun ls hl => ?_)
  refine lv_aload_n (pc := 1304) hx hb dL_law_1304 rfl (lv_at hl 5 rfl) ?_
  refine zkIp (pc := 1305) (zrV (As := []) hx hb hml hown hG hw (c_X9_thrown l Γ K1299 X1299 R1299 md  (by (first | assumption | omega))) (T := TX9) hmd3 rfl cb_X9_thrown wl_L_172 rfl ⟨Nat.le_of_ble_eq_true rfl, Nat.le_of_ble_eq_true rfl⟩ hl.1 rfl (Nat.le_of_ble_eq_true rfl) dL_law_1305 ⟨(by show cw + 2 + (min 5 (dlC X1281 R1281 md a.toNat)) + 0 ≤ 601024; omega), (by show sw + 12 + (dlC X1281 R1281 md a.toNat) + 0 ≤ 7293033; omega)⟩) hw (fun r1305 H locs hp1305 hw => ?_)
  subst hp1305
  refine lv_iload (pc := 1308) hx hb dL_law_1308 (lv_at hl 1 rfl) ?_
  refine zicmp_eq (pc := 1310) hx hb 1315 (by omega) (by omega) dL_law_1310 (by decide) (fun c1310 => ?_) (fun c1310 => ?_)
  · skip
    refine lv_iload (pc := 1315) hx hb dL_law_1315 (lv_at hl 1 rfl) ?_
    refine zif_ne (pc := 1317) hx hb 1332 (by omega) dL_law_1317 (by decide) (fun c1317 => ?_) (fun c1317 => ?_)
    · skip
      refine lv_goto (pc := 1332) (tgt := 3400) hx hb dL_law_1332 (by decide) ?_
      exact kk ρ3 K1299 X1299 R1299 _ H locs _ _ ls hI3 ⟨by omega, by omega⟩ hw (lv_sub hl [2, 3, 4, 5, 6, 7] rfl)
    · skip
      have hc0 : cdPlM M a mo = 0 := by omega
      have hov : X1299 out 0 = wI r1299 := by rw [congrFun hxo 0, hv1 hc0, hv2 hc0]
      refine lv_aload_n (pc := 1320) hx hb dL_law_1320 rfl (lv_at hl 4 rfl) ?_
      refine ziconst (pc := 1321) (n := 0) hx hb dL_law_1321 ?_
      refine zlald (pc := 1322) hx hb hw hko3 ⟨by omega, by omega⟩ (by omega) dL_law_1322 ?_
      refine lv_iload (pc := 1323) hx hb dL_law_1323 (lv_at hl 0 rfl) ?_
      refine zi2lw (pc := 1325) hx hb dL_law_1325 ?_
      refine zlcmpE (pc := 1326) hx hb hov dL_law_1326 ?_
      refine zif_eq (pc := 1327) hx hb 1332 (by omega) dL_law_1327 (by decide) (fun c1327 => ?_) (fun c1327 => ?_)
      · skip
        refine lv_goto (pc := 1332) (tgt := 3400) hx hb dL_law_1332 (by decide) ?_
        exact kk ρ3 K1299 X1299 R1299 _ H locs _ _ ls hI3 ⟨by omega, by omega⟩ hw (lv_sub hl [2, 3, 4, 5, 6, 7] rfl)
      · skip
        exfalso; omega
  · skip
    exfalso; omega
set_option maxHeartbeats 4000000 in
set_option maxRecDepth 100000 in
theorem lc_16 {p : Program} {l : Launch} (hl9 : l.stackTraces = false) {e : Env} {s : State} {m : MethodId} {below : List Frame} {meth : Method} {c : Code} {Q : State → Prop} {b L : Nat} {xs : Nat → Int32} {Γ : zG} {K0 : zK} (E : LE p s m c b L xs K0) {ρ : zL} {K : zK} {X : zX} {Rf : zR} {M : zM} {x md out outD it : Nat} {i : Int} {cw sw : Nat} {H : Heap} {locs : List Loc} {ls : Array Slot} (hi : 0 ≤ i ∧ i + 8 ≤ (L : Int)) (hit : it ≤ 511) (hI : LI ρ K X Rf x md out outD M) (hcs : cw ≤ 100 + 1100 * it ∧ sw + ptR X Rf md ≤ 112000 + 14000 * it) (hw : Wd Γ (zA K0 s.heap.size) K X Rf s H locs) (hl : lv_has ls 9 [(5, .int (iI i)), (4, .ref outD), (3, .ref out), (2, .ref md), (1, .ref x), (0, .ref b)]) (kk : ∀ (ρ' : zL) (K' : zK) (X' : zX) (R' : zR) (M' : zM) (H' : Heap) (locs' : List Loc) (cl' sl' : Nat) (ls' : Array Slot), LI ρ' K' X' R' x md out outD M' → (cl' ≤ 100 + 1100 * (it + 1) ∧ sl' + ptR X' R' md ≤ 112000 + 14000 * (it + 1)) → Wd Γ (zA K0 s.heap.size) K' X' R' s H' locs' → lv_has ls' 9 [(5, .int (iI i)), (4, .ref outD), (3, .ref out), (2, .ref md), (1, .ref x), (0, .ref b)] → W p l e room_1 s m #[Value.ref b] below meth c H' locs' cl' sl' Q (F0 m 3400 ls' [])) : W p l e room_1 s m #[Value.ref b] below meth c H locs cw sw Q (F0 m 1335 ls []) := by
  obtain ⟨⟨hx, hb, hml, hown⟩, hG, h46, hX, hXs, hbl, hbA, hL⟩ := E
  obtain ⟨hC, hRr, hM, ⟨hko4, hlo4⟩, hko5, hlo5⟩ := id hI
  have hCk := hC.1.1
  have hloo : ρ out = 4000 ∨ ρ out = 4001 := Or.inl hlo4
  have hlod : ρ outD = 4000 ∨ ρ outD = 4001 := Or.inr hlo5
  obtain ⟨a, hq1⟩ : ∃ z : Int, scI xs (i + 1).toNat = z := ⟨_, rfl⟩
  have hf1 : fit a := by rw [← hq1]; exact scI_fit
  obtain ⟨mo, hq2⟩ : ∃ z : Int, scI xs (i + 2).toNat = z := ⟨_, rfl⟩
  have hf2 : fit mo := by rw [← hq2]; exact scI_fit
  refine lv_aload_n (pc := 1335) hx hb dL_law_1335 rfl (lv_at hl 4 rfl) ?_
  refine lv_aload_n (pc := 1336) hx hb dL_law_1336 rfl (lv_at hl 5 rfl) ?_
  refine lv_iload (pc := 1337) hx hb dL_law_1337 (lv_at hl 0 rfl) ?_
  refine ziconst (pc := 1339) (n := 1) hx hb dL_law_1339 ?_
  refine zadd (pc := 1340) hx hb dL_law_1340 ?_
  refine zsld (pc := 1341) hx hb hXs hbl hbA hL hw ⟨by omega, by omega⟩ hq1 dL_law_1341 ?_
  refine lv_aload_n (pc := 1342) hx hb dL_law_1342 rfl (lv_at hl 5 rfl) ?_
  refine lv_iload (pc := 1343) hx hb dL_law_1343 (lv_at hl 0 rfl) ?_
  refine ziconst (pc := 1345) (n := 2) hx hb dL_law_1345 ?_
  refine zadd (pc := 1346) hx hb dL_law_1346 ?_
  refine zsld (pc := 1347) hx hb hXs hbl hbA hL hw ⟨by omega, by omega⟩ hq2 dL_law_1347 ?_
  refine lv_aload_n (pc := 1348) hx hb dL_law_1348 rfl (lv_at hl 2 rfl) ?_
  refine zkI (pc := 1349) (zlrS (As := [.ref x, .int (iI a), .int (iI mo), .ref out]) hx hb hml hown hG h46 hX hw (c_L_localAt l hl9 Γ K X Rf x a mo out (ρ) M (by (first | assumption | omega)) (by (first | assumption | omega)) (by (first | assumption | omega)) (by (first | assumption | omega)) (by (first | assumption | omega))) cb_L_localAt wl_L_224 rfl ⟨Nat.le_of_ble_eq_true rfl, Nat.le_of_ble_eq_true rfl⟩ hl.1 rfl (Nat.le_of_ble_eq_true rfl) dL_law_1349 ⟨(by show cw + 2 ≤ 601024; omega), (by show sw + 12 ≤ 7293033; omega)⟩) hw (fun r1349 K1349 X1349 R1349 H locs hp1349 hw => ?_)
  obtain ⟨hk1, hv1, ρ1, hC1, hf1⟩ := hp1349
  obtain ⟨hR1, hpt1, hk1o⟩ := hI.c (Or.inl rfl) hC1 hf1
  have hmd1 := hR1.1.1
  refine lv_istore (pc := 1352) (lv' := [(6, .int (iI r1349)), (5, .int (iI i)), (4, .ref outD), (3, .ref out), (2, .ref md), (1, .ref x), (0, .ref b)]) hx hb dL_law_1352 hl (by decide) rfl (fun ls hl => ?_)
  refine lv_aload_n (pc := 1354) hx hb dL_law_1354 rfl (lv_at hl 4 rfl) ?_
  refine lv_aload_n (pc := 1355) hx hb dL_law_1355 rfl (lv_at hl 6 rfl) ?_
  refine lv_iload (pc := 1356) hx hb dL_law_1356 (lv_at hl 1 rfl) ?_
  refine ziconst (pc := 1358) (n := 1) hx hb dL_law_1358 ?_
  refine zadd (pc := 1359) hx hb dL_law_1359 ?_
  refine zsld (pc := 1360) hx hb hXs hbl hbA hL hw ⟨by omega, by omega⟩ hq1 dL_law_1360 ?_
  refine lv_aload_n (pc := 1361) hx hb dL_law_1361 rfl (lv_at hl 6 rfl) ?_
  refine lv_iload (pc := 1362) hx hb dL_law_1362 (lv_at hl 1 rfl) ?_
  refine ziconst (pc := 1364) (n := 2) hx hb dL_law_1364 ?_
  refine zadd (pc := 1365) hx hb dL_law_1365 ?_
  refine zsld (pc := 1366) hx hb hXs hbl hbA hL hw ⟨by omega, by omega⟩ hq2 dL_law_1366 ?_
  have hM1 : okM M := by exact hM
  refine zkI (pc := 1367) (zrV (As := [.int (iI a), .int (iI mo)]) hx hb hml hown hG hw (c_X9_localAt l Γ K1349 X1349 R1349 md a mo (rlb K1349 ρ1) M (by (first | assumption | omega)) (by (first | assumption | omega)) (by (first | assumption | omega))) (T := TX9) hmd1 rfl cb_X9_localAt wl_L_226 rfl ⟨Nat.le_of_ble_eq_true rfl, Nat.le_of_ble_eq_true rfl⟩ hl.1 rfl (Nat.le_of_ble_eq_true rfl) dL_law_1367 ⟨(by show cw + 2 + 5 ≤ 601024; omega), (by show sw + 12 + 5000 ≤ 7293033; omega)⟩) hw (fun r1367 K1367 X1367 R1367 H locs hp1367 hw => ?_)
  obtain ⟨hv2, h02, ρ2, hR2, hg2, hpt2⟩ : (cdPlM M a mo = 0 → r1367 = locM M a mo) ∧ X1367 md 0 = cdPlM M a mo ∧ ∃ ρ2, repR ρ2 K1367 X1367 R1367 md M ∧ frR (rlb K1349 ρ1) K1349 X1349 R1349 ρ2 K1367 X1367 R1367 ∧ ptR X1367 R1367 md ≤ ptR X1349 R1349 md := by obtain ⟨a1, a2, ⟨ρ', a3, a4⟩, a5, -⟩ := hp1367; exact ⟨a1, a2, ρ', a3, a4, ptR_ls a5⟩
  obtain ⟨hxo, hxd, ρ3, hI3⟩ := LI.r hC1 hk1o hM1 hR2 hg2
  have hmd3 := hI3.2.1.1.1
  have hko3 := hI3.2.2.2.1.1
  have hkd3 := hI3.2.2.2.2.1
  have hcb : 0 ≤ cdPlM M a mo ∧ cdPlM M a mo ≤ 3 := by unfold cdPlM; (repeat' split) <;> omega
  refine lv_istore (pc := 1370) (lv' := [(7, .int (iI r1367)), (6, .int (iI r1349)), (5, .int (iI i)), (4, .ref outD), (3, .ref out), (2, .ref md), (1, .ref x), (0, .ref b)]) hx hb dL_law_1370 hl (by decide) rfl (fun ls hl => ?_)
  refine lv_aload_n (pc := 1372) hx hb dL_law_1372 rfl (lv_at hl 5 rfl) ?_
  refine zkIp (pc := 1373) (zrV (As := []) hx hb hml hown hG hw (c_X9_thrown l Γ K1367 X1367 R1367 md  (by (first | assumption | omega))) (T := TX9) hmd3 rfl cb_X9_thrown wl_L_172 rfl ⟨Nat.le_of_ble_eq_true rfl, Nat.le_of_ble_eq_true rfl⟩ hl.1 rfl (Nat.le_of_ble_eq_true rfl) dL_law_1373 ⟨(by show cw + 2 + 5 + 0 ≤ 601024; omega), (by show sw + 12 + 5000 + 0 ≤ 7293033; omega)⟩) hw (fun r1373 H locs hp1373 hw => ?_)
  subst hp1373
  refine lv_iload (pc := 1376) hx hb dL_law_1376 (lv_at hl 1 rfl) ?_
  refine zicmp_eq (pc := 1378) hx hb 1383 (by omega) (by omega) dL_law_1378 (by decide) (fun c1378 => ?_) (fun c1378 => ?_)
  · skip
    refine lv_iload (pc := 1383) hx hb dL_law_1383 (lv_at hl 1 rfl) ?_
    refine zif_ne (pc := 1385) hx hb 1400 (by omega) dL_law_1385 (by decide) (fun c1385 => ?_) (fun c1385 => ?_)
    · skip
      refine lv_goto (pc := 1400) (tgt := 3400) hx hb dL_law_1400 (by decide) ?_
      exact kk ρ3 K1367 X1367 R1367 _ H locs _ _ ls hI3 ⟨by omega, by omega⟩ hw (lv_sub hl [2, 3, 4, 5, 6, 7] rfl)
    · skip
      have hc0 : cdPlM M a mo = 0 := by omega
      have hov : X1367 out 0 = wI r1367 := by rw [congrFun hxo 0, hv1 hc0, hv2 hc0]
      refine lv_aload_n (pc := 1388) hx hb dL_law_1388 rfl (lv_at hl 4 rfl) ?_
      refine ziconst (pc := 1389) (n := 0) hx hb dL_law_1389 ?_
      refine zlald (pc := 1390) hx hb hw hko3 ⟨by omega, by omega⟩ (by omega) dL_law_1390 ?_
      refine lv_iload (pc := 1391) hx hb dL_law_1391 (lv_at hl 0 rfl) ?_
      refine zi2lw (pc := 1393) hx hb dL_law_1393 ?_
      refine zlcmpE (pc := 1394) hx hb hov dL_law_1394 ?_
      refine zif_eq (pc := 1395) hx hb 1400 (by omega) dL_law_1395 (by decide) (fun c1395 => ?_) (fun c1395 => ?_)
      · skip
        refine lv_goto (pc := 1400) (tgt := 3400) hx hb dL_law_1400 (by decide) ?_
        exact kk ρ3 K1367 X1367 R1367 _ H locs _ _ ls hI3 ⟨by omega, by omega⟩ hw (lv_sub hl [2, 3, 4, 5, 6, 7] rfl)
      · skip
        exfalso; omega
  · skip
    exfalso; omega
set_option maxHeartbeats 4000000 in
set_option maxRecDepth 100000 in
theorem lc_17 {p : Program} {l : Launch} (hl9 : l.stackTraces = false) {e : Env} {s : State} {m : MethodId} {below : List Frame} {meth : Method} {c : Code} {Q : State → Prop} {b L : Nat} {xs : Nat → Int32} {Γ : zG} {K0 : zK} (E : LE p s m c b L xs K0) {ρ : zL} {K : zK} {X : zX} {Rf : zR} {M : zM} {x md out outD it : Nat} {i : Int} {cw sw : Nat} {H : Heap} {locs : List Loc} {ls : Array Slot} (hi : 0 ≤ i ∧ i + 8 ≤ (L : Int)) (hit : it ≤ 511) (hI : LI ρ K X Rf x md out outD M) (hcs : cw ≤ 100 + 1100 * it ∧ sw + ptR X Rf md ≤ 112000 + 14000 * it) (hw : Wd Γ (zA K0 s.heap.size) K X Rf s H locs) (hl : lv_has ls 9 [(5, .int (iI i)), (4, .ref outD), (3, .ref out), (2, .ref md), (1, .ref x), (0, .ref b)]) (kk : ∀ (ρ' : zL) (K' : zK) (X' : zX) (R' : zR) (M' : zM) (H' : Heap) (locs' : List Loc) (cl' sl' : Nat) (ls' : Array Slot), LI ρ' K' X' R' x md out outD M' → (cl' ≤ 100 + 1100 * (it + 1) ∧ sl' + ptR X' R' md ≤ 112000 + 14000 * (it + 1)) → Wd Γ (zA K0 s.heap.size) K' X' R' s H' locs' → lv_has ls' 9 [(5, .int (iI i)), (4, .ref outD), (3, .ref out), (2, .ref md), (1, .ref x), (0, .ref b)] → W p l e room_1 s m #[Value.ref b] below meth c H' locs' cl' sl' Q (F0 m 3400 ls' [])) : W p l e room_1 s m #[Value.ref b] below meth c H locs cw sw Q (F0 m 1403 ls []) := by
  obtain ⟨⟨hx, hb, hml, hown⟩, hG, h46, hX, hXs, hbl, hbA, hL⟩ := E
  obtain ⟨hC, hRr, hM, ⟨hko4, hlo4⟩, hko5, hlo5⟩ := id hI
  have hCk := hC.1.1
  have hloo : ρ out = 4000 ∨ ρ out = 4001 := Or.inl hlo4
  have hlod : ρ outD = 4000 ∨ ρ outD = 4001 := Or.inr hlo5
  obtain ⟨a, hq1⟩ : ∃ z : Int, scI xs (i + 1).toNat = z := ⟨_, rfl⟩
  have hf1 : fit a := by rw [← hq1]; exact scI_fit
  obtain ⟨mo, hq2⟩ : ∃ z : Int, scI xs (i + 2).toNat = z := ⟨_, rfl⟩
  have hf2 : fit mo := by rw [← hq2]; exact scI_fit
  refine lv_aload_n (pc := 1403) hx hb dL_law_1403 rfl (lv_at hl 4 rfl) ?_
  refine lv_aload_n (pc := 1404) hx hb dL_law_1404 rfl (lv_at hl 5 rfl) ?_
  refine lv_iload (pc := 1405) hx hb dL_law_1405 (lv_at hl 0 rfl) ?_
  refine ziconst (pc := 1407) (n := 1) hx hb dL_law_1407 ?_
  refine zadd (pc := 1408) hx hb dL_law_1408 ?_
  refine zsld (pc := 1409) hx hb hXs hbl hbA hL hw ⟨by omega, by omega⟩ hq1 dL_law_1409 ?_
  refine lv_aload_n (pc := 1410) hx hb dL_law_1410 rfl (lv_at hl 5 rfl) ?_
  refine lv_iload (pc := 1411) hx hb dL_law_1411 (lv_at hl 0 rfl) ?_
  refine ziconst (pc := 1413) (n := 2) hx hb dL_law_1413 ?_
  refine zadd (pc := 1414) hx hb dL_law_1414 ?_
  refine zsld (pc := 1415) hx hb hXs hbl hbA hL hw ⟨by omega, by omega⟩ hq2 dL_law_1415 ?_
  refine lv_aload_n (pc := 1416) hx hb dL_law_1416 rfl (lv_at hl 2 rfl) ?_
  refine zkI (pc := 1417) (zlrS (As := [.ref x, .int (iI a), .int (iI mo), .ref out]) hx hb hml hown hG h46 hX hw (c_L_nextChange l hl9 Γ K X Rf x a mo out (ρ) M (by (first | assumption | omega)) (by (first | assumption | omega)) (by (first | assumption | omega)) (by (first | assumption | omega)) (by (first | assumption | omega))) cb_L_nextChange wl_L_227 rfl ⟨Nat.le_of_ble_eq_true rfl, Nat.le_of_ble_eq_true rfl⟩ hl.1 rfl (Nat.le_of_ble_eq_true rfl) dL_law_1417 ⟨(by show cw + 2 ≤ 601024; omega), (by show sw + 12 ≤ 7293033; omega)⟩) hw (fun r1417 K1417 X1417 R1417 H locs hp1417 hw => ?_)
  obtain ⟨hk1, hv1, ρ1, hC1, hf1⟩ := hp1417
  obtain ⟨hR1, hpt1, hk1o⟩ := hI.c (Or.inl rfl) hC1 hf1
  have hmd1 := hR1.1.1
  refine lv_istore (pc := 1420) (lv' := [(6, .int (iI r1417)), (5, .int (iI i)), (4, .ref outD), (3, .ref out), (2, .ref md), (1, .ref x), (0, .ref b)]) hx hb dL_law_1420 hl (by decide) rfl (fun ls hl => ?_)
  refine lv_aload_n (pc := 1422) hx hb dL_law_1422 rfl (lv_at hl 4 rfl) ?_
  refine lv_aload_n (pc := 1423) hx hb dL_law_1423 rfl (lv_at hl 6 rfl) ?_
  refine lv_iload (pc := 1424) hx hb dL_law_1424 (lv_at hl 1 rfl) ?_
  refine ziconst (pc := 1426) (n := 1) hx hb dL_law_1426 ?_
  refine zadd (pc := 1427) hx hb dL_law_1427 ?_
  refine zsld (pc := 1428) hx hb hXs hbl hbA hL hw ⟨by omega, by omega⟩ hq1 dL_law_1428 ?_
  refine lv_aload_n (pc := 1429) hx hb dL_law_1429 rfl (lv_at hl 6 rfl) ?_
  refine lv_iload (pc := 1430) hx hb dL_law_1430 (lv_at hl 1 rfl) ?_
  refine ziconst (pc := 1432) (n := 2) hx hb dL_law_1432 ?_
  refine zadd (pc := 1433) hx hb dL_law_1433 ?_
  refine zsld (pc := 1434) hx hb hXs hbl hbA hL hw ⟨by omega, by omega⟩ hq2 dL_law_1434 ?_
  have hM1 : okM M := by exact hM
  refine zkI (pc := 1435) (zrV (As := [.int (iI a), .int (iI mo)]) hx hb hml hown hG hw (c_X9_nextChange l Γ K1417 X1417 R1417 md a mo (rlb K1417 ρ1) M (by (first | assumption | omega)) (by (first | assumption | omega)) (by (first | assumption | omega))) (T := TX9) hmd1 rfl cb_X9_nextChange wl_L_229 rfl ⟨Nat.le_of_ble_eq_true rfl, Nat.le_of_ble_eq_true rfl⟩ hl.1 rfl (Nat.le_of_ble_eq_true rfl) dL_law_1435 ⟨(by show cw + 2 + 5 ≤ 601024; omega), (by show sw + 12 + 5000 ≤ 7293033; omega)⟩) hw (fun r1435 K1435 X1435 R1435 H locs hp1435 hw => ?_)
  obtain ⟨hv2, h02, ρ2, hR2, hg2, hpt2⟩ : (cdPlM M a mo = 0 → r1435 = ncF (savM M a.toNat) mo) ∧ X1435 md 0 = cdPlM M a mo ∧ ∃ ρ2, repR ρ2 K1435 X1435 R1435 md M ∧ frR (rlb K1417 ρ1) K1417 X1417 R1417 ρ2 K1435 X1435 R1435 ∧ ptR X1435 R1435 md ≤ ptR X1417 R1417 md := by obtain ⟨a1, a2, ⟨ρ', a3, a4⟩, a5, -⟩ := hp1435; exact ⟨a1, a2, ρ', a3, a4, ptR_ls a5⟩
  obtain ⟨hxo, hxd, ρ3, hI3⟩ := LI.r hC1 hk1o hM1 hR2 hg2
  have hmd3 := hI3.2.1.1.1
  have hko3 := hI3.2.2.2.1.1
  have hkd3 := hI3.2.2.2.2.1
  have hcb : 0 ≤ cdPlM M a mo ∧ cdPlM M a mo ≤ 3 := by unfold cdPlM; (repeat' split) <;> omega
  refine lv_istore (pc := 1438) (lv' := [(7, .int (iI r1435)), (6, .int (iI r1417)), (5, .int (iI i)), (4, .ref outD), (3, .ref out), (2, .ref md), (1, .ref x), (0, .ref b)]) hx hb dL_law_1438 hl (by decide) rfl (fun ls hl => ?_)
  refine lv_aload_n (pc := 1440) hx hb dL_law_1440 rfl (lv_at hl 5 rfl) ?_
  refine zkIp (pc := 1441) (zrV (As := []) hx hb hml hown hG hw (c_X9_thrown l Γ K1435 X1435 R1435 md  (by (first | assumption | omega))) (T := TX9) hmd3 rfl cb_X9_thrown wl_L_172 rfl ⟨Nat.le_of_ble_eq_true rfl, Nat.le_of_ble_eq_true rfl⟩ hl.1 rfl (Nat.le_of_ble_eq_true rfl) dL_law_1441 ⟨(by show cw + 2 + 5 + 0 ≤ 601024; omega), (by show sw + 12 + 5000 + 0 ≤ 7293033; omega)⟩) hw (fun r1441 H locs hp1441 hw => ?_)
  subst hp1441
  refine lv_iload (pc := 1444) hx hb dL_law_1444 (lv_at hl 1 rfl) ?_
  refine zicmp_eq (pc := 1446) hx hb 1451 (by omega) (by omega) dL_law_1446 (by decide) (fun c1446 => ?_) (fun c1446 => ?_)
  · skip
    refine lv_iload (pc := 1451) hx hb dL_law_1451 (lv_at hl 1 rfl) ?_
    refine zif_ne (pc := 1453) hx hb 1468 (by omega) dL_law_1453 (by decide) (fun c1453 => ?_) (fun c1453 => ?_)
    · skip
      refine lv_goto (pc := 1468) (tgt := 3400) hx hb dL_law_1468 (by decide) ?_
      exact kk ρ3 K1435 X1435 R1435 _ H locs _ _ ls hI3 ⟨by omega, by omega⟩ hw (lv_sub hl [2, 3, 4, 5, 6, 7] rfl)
    · skip
      have hc0 : cdPlM M a mo = 0 := by omega
      have hov : X1435 out 0 = wI r1435 := by rw [congrFun hxo 0, hv1 hc0, hv2 hc0]
      refine lv_aload_n (pc := 1456) hx hb dL_law_1456 rfl (lv_at hl 4 rfl) ?_
      refine ziconst (pc := 1457) (n := 0) hx hb dL_law_1457 ?_
      refine zlald (pc := 1458) hx hb hw hko3 ⟨by omega, by omega⟩ (by omega) dL_law_1458 ?_
      refine lv_iload (pc := 1459) hx hb dL_law_1459 (lv_at hl 0 rfl) ?_
      refine zi2lw (pc := 1461) hx hb dL_law_1461 ?_
      refine zlcmpE (pc := 1462) hx hb hov dL_law_1462 ?_
      refine zif_eq (pc := 1463) hx hb 1468 (by omega) dL_law_1463 (by decide) (fun c1463 => ?_) (fun c1463 => ?_)
      · skip
        refine lv_goto (pc := 1468) (tgt := 3400) hx hb dL_law_1468 (by decide) ?_
        exact kk ρ3 K1435 X1435 R1435 _ H locs _ _ ls hI3 ⟨by omega, by omega⟩ hw (lv_sub hl [2, 3, 4, 5, 6, 7] rfl)
      · skip
        exfalso; omega
  · skip
    exfalso; omega
set_option maxHeartbeats 4000000 in
set_option maxRecDepth 100000 in
theorem lc_18 {p : Program} {l : Launch} (hl9 : l.stackTraces = false) {e : Env} {s : State} {m : MethodId} {below : List Frame} {meth : Method} {c : Code} {Q : State → Prop} {b L : Nat} {xs : Nat → Int32} {Γ : zG} {K0 : zK} (E : LE p s m c b L xs K0) {ρ : zL} {K : zK} {X : zX} {Rf : zR} {M : zM} {x md out outD it : Nat} {i : Int} {cw sw : Nat} {H : Heap} {locs : List Loc} {ls : Array Slot} (hi : 0 ≤ i ∧ i + 8 ≤ (L : Int)) (hit : it ≤ 511) (hI : LI ρ K X Rf x md out outD M) (hcs : cw ≤ 100 + 1100 * it ∧ sw + ptR X Rf md ≤ 112000 + 14000 * it) (hw : Wd Γ (zA K0 s.heap.size) K X Rf s H locs) (hl : lv_has ls 9 [(5, .int (iI i)), (4, .ref outD), (3, .ref out), (2, .ref md), (1, .ref x), (0, .ref b)]) (kk : ∀ (ρ' : zL) (K' : zK) (X' : zX) (R' : zR) (M' : zM) (H' : Heap) (locs' : List Loc) (cl' sl' : Nat) (ls' : Array Slot), LI ρ' K' X' R' x md out outD M' → (cl' ≤ 100 + 1100 * (it + 1) ∧ sl' + ptR X' R' md ≤ 112000 + 14000 * (it + 1)) → Wd Γ (zA K0 s.heap.size) K' X' R' s H' locs' → lv_has ls' 9 [(5, .int (iI i)), (4, .ref outD), (3, .ref out), (2, .ref md), (1, .ref x), (0, .ref b)] → W p l e room_1 s m #[Value.ref b] below meth c H' locs' cl' sl' Q (F0 m 3400 ls' [])) : W p l e room_1 s m #[Value.ref b] below meth c H locs cw sw Q (F0 m 1471 ls []) := by
  obtain ⟨⟨hx, hb, hml, hown⟩, hG, h46, hX, hXs, hbl, hbA, hL⟩ := E
  obtain ⟨hC, hRr, hM, ⟨hko4, hlo4⟩, hko5, hlo5⟩ := id hI
  have hCk := hC.1.1
  have hloo : ρ out = 4000 ∨ ρ out = 4001 := Or.inl hlo4
  have hlod : ρ outD = 4000 ∨ ρ outD = 4001 := Or.inr hlo5
  obtain ⟨a, hq1⟩ : ∃ z : Int, scI xs (i + 1).toNat = z := ⟨_, rfl⟩
  have hf1 : fit a := by rw [← hq1]; exact scI_fit
  obtain ⟨lo, hq2⟩ : ∃ z : Int, scI xs (i + 2).toNat = z := ⟨_, rfl⟩
  have hf2 : fit lo := by rw [← hq2]; exact scI_fit
  refine lv_aload_n (pc := 1471) hx hb dL_law_1471 rfl (lv_at hl 4 rfl) ?_
  refine lv_aload_n (pc := 1472) hx hb dL_law_1472 rfl (lv_at hl 5 rfl) ?_
  refine lv_iload (pc := 1473) hx hb dL_law_1473 (lv_at hl 0 rfl) ?_
  refine ziconst (pc := 1475) (n := 1) hx hb dL_law_1475 ?_
  refine zadd (pc := 1476) hx hb dL_law_1476 ?_
  refine zsld (pc := 1477) hx hb hXs hbl hbA hL hw ⟨by omega, by omega⟩ hq1 dL_law_1477 ?_
  refine lv_aload_n (pc := 1478) hx hb dL_law_1478 rfl (lv_at hl 5 rfl) ?_
  refine lv_iload (pc := 1479) hx hb dL_law_1479 (lv_at hl 0 rfl) ?_
  refine ziconst (pc := 1481) (n := 2) hx hb dL_law_1481 ?_
  refine zadd (pc := 1482) hx hb dL_law_1482 ?_
  refine zsld (pc := 1483) hx hb hXs hbl hbA hL hw ⟨by omega, by omega⟩ hq2 dL_law_1483 ?_
  refine lv_aload_n (pc := 1484) hx hb dL_law_1484 rfl (lv_at hl 2 rfl) ?_
  refine zkI (pc := 1485) (zlrS (As := [.ref x, .int (iI a), .int (iI lo), .ref out]) hx hb hml hown hG h46 hX hw (c_L_showsOften l hl9 Γ K X Rf x a lo out (ρ) M (by (first | assumption | omega)) (by (first | assumption | omega)) (by (first | assumption | omega)) (by (first | assumption | omega)) (by (first | assumption | omega))) cb_L_showsOften wl_L_230 rfl ⟨Nat.le_of_ble_eq_true rfl, Nat.le_of_ble_eq_true rfl⟩ hl.1 rfl (Nat.le_of_ble_eq_true rfl) dL_law_1485 ⟨(by show cw + 1 ≤ 601024; omega), (by show sw + 6 ≤ 7293033; omega)⟩) hw (fun r1485 K1485 X1485 R1485 H locs hp1485 hw => ?_)
  obtain ⟨hk1, hv1, ρ1, hC1, hf1⟩ := hp1485
  obtain ⟨hR1, hpt1, hk1o⟩ := hI.c (Or.inl rfl) hC1 hf1
  have hmd1 := hR1.1.1
  refine lv_istore (pc := 1488) (lv' := [(6, .int (iI r1485)), (5, .int (iI i)), (4, .ref outD), (3, .ref out), (2, .ref md), (1, .ref x), (0, .ref b)]) hx hb dL_law_1488 hl (by decide) rfl (fun ls hl => ?_)
  refine lv_aload_n (pc := 1490) hx hb dL_law_1490 rfl (lv_at hl 4 rfl) ?_
  refine lv_aload_n (pc := 1491) hx hb dL_law_1491 rfl (lv_at hl 6 rfl) ?_
  refine lv_iload (pc := 1492) hx hb dL_law_1492 (lv_at hl 1 rfl) ?_
  refine ziconst (pc := 1494) (n := 1) hx hb dL_law_1494 ?_
  refine zadd (pc := 1495) hx hb dL_law_1495 ?_
  refine zsld (pc := 1496) hx hb hXs hbl hbA hL hw ⟨by omega, by omega⟩ hq1 dL_law_1496 ?_
  refine lv_aload_n (pc := 1497) hx hb dL_law_1497 rfl (lv_at hl 6 rfl) ?_
  refine lv_iload (pc := 1498) hx hb dL_law_1498 (lv_at hl 1 rfl) ?_
  refine ziconst (pc := 1500) (n := 2) hx hb dL_law_1500 ?_
  refine zadd (pc := 1501) hx hb dL_law_1501 ?_
  refine zsld (pc := 1502) hx hb hXs hbl hbA hL hw ⟨by omega, by omega⟩ hq2 dL_law_1502 ?_
  have hM1 : okM M := by exact hM
  refine zkI (pc := 1503) (zrV (As := [.int (iI a), .int (iI lo)]) hx hb hml hown hG hw (c_X9_showsOften l Γ K1485 X1485 R1485 md a lo (rlb K1485 ρ1) M (by (first | assumption | omega)) (by (first | assumption | omega)) (by (first | assumption | omega))) (T := TX9) hmd1 rfl cb_X9_showsOften wl_L_232 rfl ⟨Nat.le_of_ble_eq_true rfl, Nat.le_of_ble_eq_true rfl⟩ hl.1 rfl (Nat.le_of_ble_eq_true rfl) dL_law_1503 ⟨(by show cw + 1 + 5 ≤ 601024; omega), (by show sw + 6 + 5000 ≤ 7293033; omega)⟩) hw (fun r1503 K1503 X1503 R1503 H locs hp1503 hw => ?_)
  obtain ⟨hv2, h02, ρ2, hR2, hg2, hpt2⟩ : (cdPl M a = 0 → r1503 = shN (savM M a.toNat) (M 6 a.toNat) lo) ∧ X1503 md 0 = cdPl M a ∧ ∃ ρ2, repR ρ2 K1503 X1503 R1503 md M ∧ frR (rlb K1485 ρ1) K1485 X1485 R1485 ρ2 K1503 X1503 R1503 ∧ ptR X1503 R1503 md ≤ ptR X1485 R1485 md := by obtain ⟨a1, a2, ⟨ρ', a3, a4⟩, a5, -⟩ := hp1503; exact ⟨a1, a2, ρ', a3, a4, ptR_ls a5⟩
  obtain ⟨hxo, hxd, ρ3, hI3⟩ := LI.r hC1 hk1o hM1 hR2 hg2
  have hmd3 := hI3.2.1.1.1
  have hko3 := hI3.2.2.2.1.1
  have hkd3 := hI3.2.2.2.2.1
  have hcb : 0 ≤ cdPl M a ∧ cdPl M a ≤ 3 := by unfold cdPl; (repeat' split) <;> omega
  refine lv_istore (pc := 1506) (lv' := [(7, .int (iI r1503)), (6, .int (iI r1485)), (5, .int (iI i)), (4, .ref outD), (3, .ref out), (2, .ref md), (1, .ref x), (0, .ref b)]) hx hb dL_law_1506 hl (by decide) rfl (fun ls hl => ?_)
  refine lv_aload_n (pc := 1508) hx hb dL_law_1508 rfl (lv_at hl 5 rfl) ?_
  refine zkIp (pc := 1509) (zrV (As := []) hx hb hml hown hG hw (c_X9_thrown l Γ K1503 X1503 R1503 md  (by (first | assumption | omega))) (T := TX9) hmd3 rfl cb_X9_thrown wl_L_172 rfl ⟨Nat.le_of_ble_eq_true rfl, Nat.le_of_ble_eq_true rfl⟩ hl.1 rfl (Nat.le_of_ble_eq_true rfl) dL_law_1509 ⟨(by show cw + 1 + 5 + 0 ≤ 601024; omega), (by show sw + 6 + 5000 + 0 ≤ 7293033; omega)⟩) hw (fun r1509 H locs hp1509 hw => ?_)
  subst hp1509
  refine lv_iload (pc := 1512) hx hb dL_law_1512 (lv_at hl 1 rfl) ?_
  refine zicmp_eq (pc := 1514) hx hb 1519 (by omega) (by omega) dL_law_1514 (by decide) (fun c1514 => ?_) (fun c1514 => ?_)
  · skip
    refine lv_iload (pc := 1519) hx hb dL_law_1519 (lv_at hl 1 rfl) ?_
    refine zif_ne (pc := 1521) hx hb 1536 (by omega) dL_law_1521 (by decide) (fun c1521 => ?_) (fun c1521 => ?_)
    · skip
      refine lv_goto (pc := 1536) (tgt := 3400) hx hb dL_law_1536 (by decide) ?_
      exact kk ρ3 K1503 X1503 R1503 _ H locs _ _ ls hI3 ⟨by omega, by omega⟩ hw (lv_sub hl [2, 3, 4, 5, 6, 7] rfl)
    · skip
      have hc0 : cdPl M a = 0 := by omega
      have hov : X1503 out 0 = wI r1503 := by rw [congrFun hxo 0, hv1 hc0, hv2 hc0]
      refine lv_aload_n (pc := 1524) hx hb dL_law_1524 rfl (lv_at hl 4 rfl) ?_
      refine ziconst (pc := 1525) (n := 0) hx hb dL_law_1525 ?_
      refine zlald (pc := 1526) hx hb hw hko3 ⟨by omega, by omega⟩ (by omega) dL_law_1526 ?_
      refine lv_iload (pc := 1527) hx hb dL_law_1527 (lv_at hl 0 rfl) ?_
      refine zi2lw (pc := 1529) hx hb dL_law_1529 ?_
      refine zlcmpE (pc := 1530) hx hb hov dL_law_1530 ?_
      refine zif_eq (pc := 1531) hx hb 1536 (by omega) dL_law_1531 (by decide) (fun c1531 => ?_) (fun c1531 => ?_)
      · skip
        refine lv_goto (pc := 1536) (tgt := 3400) hx hb dL_law_1536 (by decide) ?_
        exact kk ρ3 K1503 X1503 R1503 _ H locs _ _ ls hI3 ⟨by omega, by omega⟩ hw (lv_sub hl [2, 3, 4, 5, 6, 7] rfl)
      · skip
        exfalso; omega
  · skip
    exfalso; omega
set_option maxHeartbeats 4000000 in
set_option maxRecDepth 100000 in
theorem lc_19 {p : Program} {l : Launch} (hl9 : l.stackTraces = false) {e : Env} {s : State} {m : MethodId} {below : List Frame} {meth : Method} {c : Code} {Q : State → Prop} {b L : Nat} {xs : Nat → Int32} {Γ : zG} {K0 : zK} (E : LE p s m c b L xs K0) {ρ : zL} {K : zK} {X : zX} {Rf : zR} {M : zM} {x md out outD it : Nat} {i : Int} {cw sw : Nat} {H : Heap} {locs : List Loc} {ls : Array Slot} (hi : 0 ≤ i ∧ i + 8 ≤ (L : Int)) (hit : it ≤ 511) (hI : LI ρ K X Rf x md out outD M) (hcs : cw ≤ 100 + 1100 * it ∧ sw + ptR X Rf md ≤ 112000 + 14000 * it) (hw : Wd Γ (zA K0 s.heap.size) K X Rf s H locs) (hl : lv_has ls 9 [(5, .int (iI i)), (4, .ref outD), (3, .ref out), (2, .ref md), (1, .ref x), (0, .ref b)]) (kk : ∀ (ρ' : zL) (K' : zK) (X' : zX) (R' : zR) (M' : zM) (H' : Heap) (locs' : List Loc) (cl' sl' : Nat) (ls' : Array Slot), LI ρ' K' X' R' x md out outD M' → (cl' ≤ 100 + 1100 * (it + 1) ∧ sl' + ptR X' R' md ≤ 112000 + 14000 * (it + 1)) → Wd Γ (zA K0 s.heap.size) K' X' R' s H' locs' → lv_has ls' 9 [(5, .int (iI i)), (4, .ref outD), (3, .ref out), (2, .ref md), (1, .ref x), (0, .ref b)] → W p l e room_1 s m #[Value.ref b] below meth c H' locs' cl' sl' Q (F0 m 3400 ls' [])) : W p l e room_1 s m #[Value.ref b] below meth c H locs cw sw Q (F0 m 1539 ls []) := by
  obtain ⟨⟨hx, hb, hml, hown⟩, hG, h46, hX, hXs, hbl, hbA, hL⟩ := E
  obtain ⟨hC, hRr, hM, ⟨hko4, hlo4⟩, hko5, hlo5⟩ := id hI
  have hCk := hC.1.1
  have hloo : ρ out = 4000 ∨ ρ out = 4001 := Or.inl hlo4
  have hlod : ρ outD = 4000 ∨ ρ outD = 4001 := Or.inr hlo5
  obtain ⟨a, hq1⟩ : ∃ z : Int, scI xs (i + 1).toNat = z := ⟨_, rfl⟩
  have hf1 : fit a := by rw [← hq1]; exact scI_fit
  obtain ⟨lo, hq2⟩ : ∃ z : Int, scI xs (i + 2).toNat = z := ⟨_, rfl⟩
  have hf2 : fit lo := by rw [← hq2]; exact scI_fit
  refine lv_aload_n (pc := 1539) hx hb dL_law_1539 rfl (lv_at hl 4 rfl) ?_
  refine lv_aload_n (pc := 1540) hx hb dL_law_1540 rfl (lv_at hl 5 rfl) ?_
  refine lv_iload (pc := 1541) hx hb dL_law_1541 (lv_at hl 0 rfl) ?_
  refine ziconst (pc := 1543) (n := 1) hx hb dL_law_1543 ?_
  refine zadd (pc := 1544) hx hb dL_law_1544 ?_
  refine zsld (pc := 1545) hx hb hXs hbl hbA hL hw ⟨by omega, by omega⟩ hq1 dL_law_1545 ?_
  refine lv_aload_n (pc := 1546) hx hb dL_law_1546 rfl (lv_at hl 5 rfl) ?_
  refine lv_iload (pc := 1547) hx hb dL_law_1547 (lv_at hl 0 rfl) ?_
  refine ziconst (pc := 1549) (n := 2) hx hb dL_law_1549 ?_
  refine zadd (pc := 1550) hx hb dL_law_1550 ?_
  refine zsld (pc := 1551) hx hb hXs hbl hbA hL hw ⟨by omega, by omega⟩ hq2 dL_law_1551 ?_
  refine lv_aload_n (pc := 1552) hx hb dL_law_1552 rfl (lv_at hl 2 rfl) ?_
  refine zkI (pc := 1553) (zlrS (As := [.ref x, .int (iI a), .int (iI lo), .ref out]) hx hb hml hown hG h46 hX hw (c_L_momentOf l hl9 Γ K X Rf x a lo out (ρ) M (by (first | assumption | omega)) (by (first | assumption | omega)) (by (first | assumption | omega)) (by (first | assumption | omega)) (by (first | assumption | omega))) cb_L_momentOf wl_L_233 rfl ⟨Nat.le_of_ble_eq_true rfl, Nat.le_of_ble_eq_true rfl⟩ hl.1 rfl (Nat.le_of_ble_eq_true rfl) dL_law_1553 ⟨(by show cw + 1 ≤ 601024; omega), (by show sw + 6 ≤ 7293033; omega)⟩) hw (fun r1553 K1553 X1553 R1553 H locs hp1553 hw => ?_)
  obtain ⟨hk1, hv1, ρ1, hC1, hf1⟩ := hp1553
  obtain ⟨hR1, hpt1, hk1o⟩ := hI.c (Or.inl rfl) hC1 hf1
  have hmd1 := hR1.1.1
  refine lv_istore (pc := 1556) (lv' := [(6, .int (iI r1553)), (5, .int (iI i)), (4, .ref outD), (3, .ref out), (2, .ref md), (1, .ref x), (0, .ref b)]) hx hb dL_law_1556 hl (by decide) rfl (fun ls hl => ?_)
  refine lv_aload_n (pc := 1558) hx hb dL_law_1558 rfl (lv_at hl 4 rfl) ?_
  refine lv_aload_n (pc := 1559) hx hb dL_law_1559 rfl (lv_at hl 6 rfl) ?_
  refine lv_iload (pc := 1560) hx hb dL_law_1560 (lv_at hl 1 rfl) ?_
  refine ziconst (pc := 1562) (n := 1) hx hb dL_law_1562 ?_
  refine zadd (pc := 1563) hx hb dL_law_1563 ?_
  refine zsld (pc := 1564) hx hb hXs hbl hbA hL hw ⟨by omega, by omega⟩ hq1 dL_law_1564 ?_
  refine lv_aload_n (pc := 1565) hx hb dL_law_1565 rfl (lv_at hl 6 rfl) ?_
  refine lv_iload (pc := 1566) hx hb dL_law_1566 (lv_at hl 1 rfl) ?_
  refine ziconst (pc := 1568) (n := 2) hx hb dL_law_1568 ?_
  refine zadd (pc := 1569) hx hb dL_law_1569 ?_
  refine zsld (pc := 1570) hx hb hXs hbl hbA hL hw ⟨by omega, by omega⟩ hq2 dL_law_1570 ?_
  have hM1 : okM M := by exact hM
  refine zkI (pc := 1571) (zrV (As := [.int (iI a), .int (iI lo)]) hx hb hml hown hG hw (c_X9_momentOf l Γ K1553 X1553 R1553 md a lo (rlb K1553 ρ1) M (by (first | assumption | omega)) (by (first | assumption | omega)) (by (first | assumption | omega))) (T := TX9) hmd1 rfl cb_X9_momentOf wl_L_235 rfl ⟨Nat.le_of_ble_eq_true rfl, Nat.le_of_ble_eq_true rfl⟩ hl.1 rfl (Nat.le_of_ble_eq_true rfl) dL_law_1571 ⟨(by show cw + 1 + 5 ≤ 601024; omega), (by show sw + 6 + 5000 ≤ 7293033; omega)⟩) hw (fun r1571 K1571 X1571 R1571 H locs hp1571 hw => ?_)
  obtain ⟨hv2, h02, ρ2, hR2, hg2, hpt2⟩ : (cdPl M a = 0 → r1571 = momF (savM M a.toNat) (M 6 a.toNat) lo) ∧ X1571 md 0 = cdPl M a ∧ ∃ ρ2, repR ρ2 K1571 X1571 R1571 md M ∧ frR (rlb K1553 ρ1) K1553 X1553 R1553 ρ2 K1571 X1571 R1571 ∧ ptR X1571 R1571 md ≤ ptR X1553 R1553 md := by obtain ⟨a1, a2, ⟨ρ', a3, a4⟩, a5, -⟩ := hp1571; exact ⟨a1, a2, ρ', a3, a4, ptR_ls a5⟩
  obtain ⟨hxo, hxd, ρ3, hI3⟩ := LI.r hC1 hk1o hM1 hR2 hg2
  have hmd3 := hI3.2.1.1.1
  have hko3 := hI3.2.2.2.1.1
  have hkd3 := hI3.2.2.2.2.1
  have hcb : 0 ≤ cdPl M a ∧ cdPl M a ≤ 3 := by unfold cdPl; (repeat' split) <;> omega
  refine lv_istore (pc := 1574) (lv' := [(7, .int (iI r1571)), (6, .int (iI r1553)), (5, .int (iI i)), (4, .ref outD), (3, .ref out), (2, .ref md), (1, .ref x), (0, .ref b)]) hx hb dL_law_1574 hl (by decide) rfl (fun ls hl => ?_)
  refine lv_aload_n (pc := 1576) hx hb dL_law_1576 rfl (lv_at hl 5 rfl) ?_
  refine zkIp (pc := 1577) (zrV (As := []) hx hb hml hown hG hw (c_X9_thrown l Γ K1571 X1571 R1571 md  (by (first | assumption | omega))) (T := TX9) hmd3 rfl cb_X9_thrown wl_L_172 rfl ⟨Nat.le_of_ble_eq_true rfl, Nat.le_of_ble_eq_true rfl⟩ hl.1 rfl (Nat.le_of_ble_eq_true rfl) dL_law_1577 ⟨(by show cw + 1 + 5 + 0 ≤ 601024; omega), (by show sw + 6 + 5000 + 0 ≤ 7293033; omega)⟩) hw (fun r1577 H locs hp1577 hw => ?_)
  subst hp1577
  refine lv_iload (pc := 1580) hx hb dL_law_1580 (lv_at hl 1 rfl) ?_
  refine zicmp_eq (pc := 1582) hx hb 1587 (by omega) (by omega) dL_law_1582 (by decide) (fun c1582 => ?_) (fun c1582 => ?_)
  · skip
    refine lv_iload (pc := 1587) hx hb dL_law_1587 (lv_at hl 1 rfl) ?_
    refine zif_ne (pc := 1589) hx hb 1604 (by omega) dL_law_1589 (by decide) (fun c1589 => ?_) (fun c1589 => ?_)
    · skip
      refine lv_goto (pc := 1604) (tgt := 3400) hx hb dL_law_1604 (by decide) ?_
      exact kk ρ3 K1571 X1571 R1571 _ H locs _ _ ls hI3 ⟨by omega, by omega⟩ hw (lv_sub hl [2, 3, 4, 5, 6, 7] rfl)
    · skip
      have hc0 : cdPl M a = 0 := by omega
      have hov : X1571 out 0 = wI r1571 := by rw [congrFun hxo 0, hv1 hc0, hv2 hc0]
      refine lv_aload_n (pc := 1592) hx hb dL_law_1592 rfl (lv_at hl 4 rfl) ?_
      refine ziconst (pc := 1593) (n := 0) hx hb dL_law_1593 ?_
      refine zlald (pc := 1594) hx hb hw hko3 ⟨by omega, by omega⟩ (by omega) dL_law_1594 ?_
      refine lv_iload (pc := 1595) hx hb dL_law_1595 (lv_at hl 0 rfl) ?_
      refine zi2lw (pc := 1597) hx hb dL_law_1597 ?_
      refine zlcmpE (pc := 1598) hx hb hov dL_law_1598 ?_
      refine zif_eq (pc := 1599) hx hb 1604 (by omega) dL_law_1599 (by decide) (fun c1599 => ?_) (fun c1599 => ?_)
      · skip
        refine lv_goto (pc := 1604) (tgt := 3400) hx hb dL_law_1604 (by decide) ?_
        exact kk ρ3 K1571 X1571 R1571 _ H locs _ _ ls hI3 ⟨by omega, by omega⟩ hw (lv_sub hl [2, 3, 4, 5, 6, 7] rfl)
      · skip
        exfalso; omega
  · skip
    exfalso; omega
set_option maxHeartbeats 4000000 in
set_option maxRecDepth 100000 in
theorem lc_20 {p : Program} {l : Launch} (hl9 : l.stackTraces = false) {e : Env} {s : State} {m : MethodId} {below : List Frame} {meth : Method} {c : Code} {Q : State → Prop} {b L : Nat} {xs : Nat → Int32} {Γ : zG} {K0 : zK} (E : LE p s m c b L xs K0) {ρ : zL} {K : zK} {X : zX} {Rf : zR} {M : zM} {x md out outD it : Nat} {i : Int} {cw sw : Nat} {H : Heap} {locs : List Loc} {ls : Array Slot} (hi : 0 ≤ i ∧ i + 8 ≤ (L : Int)) (hit : it ≤ 511) (hI : LI ρ K X Rf x md out outD M) (hcs : cw ≤ 100 + 1100 * it ∧ sw + ptR X Rf md ≤ 112000 + 14000 * it) (hw : Wd Γ (zA K0 s.heap.size) K X Rf s H locs) (hl : lv_has ls 9 [(5, .int (iI i)), (4, .ref outD), (3, .ref out), (2, .ref md), (1, .ref x), (0, .ref b)]) (kk : ∀ (ρ' : zL) (K' : zK) (X' : zX) (R' : zR) (M' : zM) (H' : Heap) (locs' : List Loc) (cl' sl' : Nat) (ls' : Array Slot), LI ρ' K' X' R' x md out outD M' → (cl' ≤ 100 + 1100 * (it + 1) ∧ sl' + ptR X' R' md ≤ 112000 + 14000 * (it + 1)) → Wd Γ (zA K0 s.heap.size) K' X' R' s H' locs' → lv_has ls' 9 [(5, .int (iI i)), (4, .ref outD), (3, .ref out), (2, .ref md), (1, .ref x), (0, .ref b)] → W p l e room_1 s m #[Value.ref b] below meth c H' locs' cl' sl' Q (F0 m 3400 ls' [])) : W p l e room_1 s m #[Value.ref b] below meth c H locs cw sw Q (F0 m 1607 ls []) := by
  obtain ⟨⟨hx, hb, hml, hown⟩, hG, h46, hX, hXs, hbl, hbA, hL⟩ := E
  obtain ⟨hC, hRr, hM, ⟨hko4, hlo4⟩, hko5, hlo5⟩ := id hI
  have hCk := hC.1.1
  have hloo : ρ out = 4000 ∨ ρ out = 4001 := Or.inl hlo4
  have hlod : ρ outD = 4000 ∨ ρ outD = 4001 := Or.inr hlo5
  obtain ⟨a, hq1⟩ : ∃ z : Int, scI xs (i + 1).toNat = z := ⟨_, rfl⟩
  have hf1 : fit a := by rw [← hq1]; exact scI_fit
  obtain ⟨lo, hq2⟩ : ∃ z : Int, scI xs (i + 2).toNat = z := ⟨_, rfl⟩
  have hf2 : fit lo := by rw [← hq2]; exact scI_fit
  refine lv_aload_n (pc := 1607) hx hb dL_law_1607 rfl (lv_at hl 4 rfl) ?_
  refine lv_aload_n (pc := 1608) hx hb dL_law_1608 rfl (lv_at hl 5 rfl) ?_
  refine lv_iload (pc := 1609) hx hb dL_law_1609 (lv_at hl 0 rfl) ?_
  refine ziconst (pc := 1611) (n := 1) hx hb dL_law_1611 ?_
  refine zadd (pc := 1612) hx hb dL_law_1612 ?_
  refine zsld (pc := 1613) hx hb hXs hbl hbA hL hw ⟨by omega, by omega⟩ hq1 dL_law_1613 ?_
  refine lv_aload_n (pc := 1614) hx hb dL_law_1614 rfl (lv_at hl 5 rfl) ?_
  refine lv_iload (pc := 1615) hx hb dL_law_1615 (lv_at hl 0 rfl) ?_
  refine ziconst (pc := 1617) (n := 2) hx hb dL_law_1617 ?_
  refine zadd (pc := 1618) hx hb dL_law_1618 ?_
  refine zsld (pc := 1619) hx hb hXs hbl hbA hL hw ⟨by omega, by omega⟩ hq2 dL_law_1619 ?_
  refine lv_aload_n (pc := 1620) hx hb dL_law_1620 rfl (lv_at hl 2 rfl) ?_
  refine zkI (pc := 1621) (zlrS (As := [.ref x, .int (iI a), .int (iI lo), .ref out]) hx hb hml hown hG h46 hX hw (c_L_lastMomentOf l hl9 Γ K X Rf x a lo out (ρ) M (by (first | assumption | omega)) (by (first | assumption | omega)) (by (first | assumption | omega)) (by (first | assumption | omega)) (by (first | assumption | omega))) cb_L_lastMomentOf wl_L_236 rfl ⟨Nat.le_of_ble_eq_true rfl, Nat.le_of_ble_eq_true rfl⟩ hl.1 rfl (Nat.le_of_ble_eq_true rfl) dL_law_1621 ⟨(by show cw + 1 ≤ 601024; omega), (by show sw + 6 ≤ 7293033; omega)⟩) hw (fun r1621 K1621 X1621 R1621 H locs hp1621 hw => ?_)
  obtain ⟨hk1, hv1, ρ1, hC1, hf1⟩ := hp1621
  obtain ⟨hR1, hpt1, hk1o⟩ := hI.c (Or.inl rfl) hC1 hf1
  have hmd1 := hR1.1.1
  refine lv_istore (pc := 1624) (lv' := [(6, .int (iI r1621)), (5, .int (iI i)), (4, .ref outD), (3, .ref out), (2, .ref md), (1, .ref x), (0, .ref b)]) hx hb dL_law_1624 hl (by decide) rfl (fun ls hl => ?_)
  refine lv_aload_n (pc := 1626) hx hb dL_law_1626 rfl (lv_at hl 4 rfl) ?_
  refine lv_aload_n (pc := 1627) hx hb dL_law_1627 rfl (lv_at hl 6 rfl) ?_
  refine lv_iload (pc := 1628) hx hb dL_law_1628 (lv_at hl 1 rfl) ?_
  refine ziconst (pc := 1630) (n := 1) hx hb dL_law_1630 ?_
  refine zadd (pc := 1631) hx hb dL_law_1631 ?_
  refine zsld (pc := 1632) hx hb hXs hbl hbA hL hw ⟨by omega, by omega⟩ hq1 dL_law_1632 ?_
  refine lv_aload_n (pc := 1633) hx hb dL_law_1633 rfl (lv_at hl 6 rfl) ?_
  refine lv_iload (pc := 1634) hx hb dL_law_1634 (lv_at hl 1 rfl) ?_
  refine ziconst (pc := 1636) (n := 2) hx hb dL_law_1636 ?_
  refine zadd (pc := 1637) hx hb dL_law_1637 ?_
  refine zsld (pc := 1638) hx hb hXs hbl hbA hL hw ⟨by omega, by omega⟩ hq2 dL_law_1638 ?_
  have hM1 : okM M := by exact hM
  refine zkI (pc := 1639) (zrV (As := [.int (iI a), .int (iI lo)]) hx hb hml hown hG hw (c_X9_lastMomentOf l Γ K1621 X1621 R1621 md a lo (rlb K1621 ρ1) M (by (first | assumption | omega)) (by (first | assumption | omega)) (by (first | assumption | omega))) (T := TX9) hmd1 rfl cb_X9_lastMomentOf wl_L_238 rfl ⟨Nat.le_of_ble_eq_true rfl, Nat.le_of_ble_eq_true rfl⟩ hl.1 rfl (Nat.le_of_ble_eq_true rfl) dL_law_1639 ⟨(by show cw + 1 + 5 ≤ 601024; omega), (by show sw + 6 + 5000 ≤ 7293033; omega)⟩) hw (fun r1639 K1639 X1639 R1639 H locs hp1639 hw => ?_)
  obtain ⟨hv2, h02, ρ2, hR2, hg2, hpt2⟩ : (cdPl M a = 0 → r1639 = shL (savM M a.toNat) (M 6 a.toNat) lo) ∧ X1639 md 0 = cdPl M a ∧ ∃ ρ2, repR ρ2 K1639 X1639 R1639 md M ∧ frR (rlb K1621 ρ1) K1621 X1621 R1621 ρ2 K1639 X1639 R1639 ∧ ptR X1639 R1639 md ≤ ptR X1621 R1621 md := by obtain ⟨a1, a2, ⟨ρ', a3, a4⟩, a5, -⟩ := hp1639; exact ⟨a1, a2, ρ', a3, a4, ptR_ls a5⟩
  obtain ⟨hxo, hxd, ρ3, hI3⟩ := LI.r hC1 hk1o hM1 hR2 hg2
  have hmd3 := hI3.2.1.1.1
  have hko3 := hI3.2.2.2.1.1
  have hkd3 := hI3.2.2.2.2.1
  have hcb : 0 ≤ cdPl M a ∧ cdPl M a ≤ 3 := by unfold cdPl; (repeat' split) <;> omega
  refine lv_istore (pc := 1642) (lv' := [(7, .int (iI r1639)), (6, .int (iI r1621)), (5, .int (iI i)), (4, .ref outD), (3, .ref out), (2, .ref md), (1, .ref x), (0, .ref b)]) hx hb dL_law_1642 hl (by decide) rfl (fun ls hl => ?_)
  refine lv_aload_n (pc := 1644) hx hb dL_law_1644 rfl (lv_at hl 5 rfl) ?_
  refine zkIp (pc := 1645) (zrV (As := []) hx hb hml hown hG hw (c_X9_thrown l Γ K1639 X1639 R1639 md  (by (first | assumption | omega))) (T := TX9) hmd3 rfl cb_X9_thrown wl_L_172 rfl ⟨Nat.le_of_ble_eq_true rfl, Nat.le_of_ble_eq_true rfl⟩ hl.1 rfl (Nat.le_of_ble_eq_true rfl) dL_law_1645 ⟨(by show cw + 1 + 5 + 0 ≤ 601024; omega), (by show sw + 6 + 5000 + 0 ≤ 7293033; omega)⟩) hw (fun r1645 H locs hp1645 hw => ?_)
  subst hp1645
  refine lv_iload (pc := 1648) hx hb dL_law_1648 (lv_at hl 1 rfl) ?_
  refine zicmp_eq (pc := 1650) hx hb 1655 (by omega) (by omega) dL_law_1650 (by decide) (fun c1650 => ?_) (fun c1650 => ?_)
  · skip
    refine lv_iload (pc := 1655) hx hb dL_law_1655 (lv_at hl 1 rfl) ?_
    refine zif_ne (pc := 1657) hx hb 1672 (by omega) dL_law_1657 (by decide) (fun c1657 => ?_) (fun c1657 => ?_)
    · skip
      refine lv_goto (pc := 1672) (tgt := 3400) hx hb dL_law_1672 (by decide) ?_
      exact kk ρ3 K1639 X1639 R1639 _ H locs _ _ ls hI3 ⟨by omega, by omega⟩ hw (lv_sub hl [2, 3, 4, 5, 6, 7] rfl)
    · skip
      have hc0 : cdPl M a = 0 := by omega
      have hov : X1639 out 0 = wI r1639 := by rw [congrFun hxo 0, hv1 hc0, hv2 hc0]
      refine lv_aload_n (pc := 1660) hx hb dL_law_1660 rfl (lv_at hl 4 rfl) ?_
      refine ziconst (pc := 1661) (n := 0) hx hb dL_law_1661 ?_
      refine zlald (pc := 1662) hx hb hw hko3 ⟨by omega, by omega⟩ (by omega) dL_law_1662 ?_
      refine lv_iload (pc := 1663) hx hb dL_law_1663 (lv_at hl 0 rfl) ?_
      refine zi2lw (pc := 1665) hx hb dL_law_1665 ?_
      refine zlcmpE (pc := 1666) hx hb hov dL_law_1666 ?_
      refine zif_eq (pc := 1667) hx hb 1672 (by omega) dL_law_1667 (by decide) (fun c1667 => ?_) (fun c1667 => ?_)
      · skip
        refine lv_goto (pc := 1672) (tgt := 3400) hx hb dL_law_1672 (by decide) ?_
        exact kk ρ3 K1639 X1639 R1639 _ H locs _ _ ls hI3 ⟨by omega, by omega⟩ hw (lv_sub hl [2, 3, 4, 5, 6, 7] rfl)
      · skip
        exfalso; omega
  · skip
    exfalso; omega
set_option maxHeartbeats 4000000 in
set_option maxRecDepth 100000 in
theorem lc_21 {p : Program} {l : Launch} (hl9 : l.stackTraces = false) {e : Env} {s : State} {m : MethodId} {below : List Frame} {meth : Method} {c : Code} {Q : State → Prop} {b L : Nat} {xs : Nat → Int32} {Γ : zG} {K0 : zK} (E : LE p s m c b L xs K0) {ρ : zL} {K : zK} {X : zX} {Rf : zR} {M : zM} {x md out outD it : Nat} {i : Int} {cw sw : Nat} {H : Heap} {locs : List Loc} {ls : Array Slot} (hi : 0 ≤ i ∧ i + 8 ≤ (L : Int)) (hit : it ≤ 511) (hI : LI ρ K X Rf x md out outD M) (hcs : cw ≤ 100 + 1100 * it ∧ sw + ptR X Rf md ≤ 112000 + 14000 * it) (hw : Wd Γ (zA K0 s.heap.size) K X Rf s H locs) (hl : lv_has ls 9 [(5, .int (iI i)), (4, .ref outD), (3, .ref out), (2, .ref md), (1, .ref x), (0, .ref b)]) (kk : ∀ (ρ' : zL) (K' : zK) (X' : zX) (R' : zR) (M' : zM) (H' : Heap) (locs' : List Loc) (cl' sl' : Nat) (ls' : Array Slot), LI ρ' K' X' R' x md out outD M' → (cl' ≤ 100 + 1100 * (it + 1) ∧ sl' + ptR X' R' md ≤ 112000 + 14000 * (it + 1)) → Wd Γ (zA K0 s.heap.size) K' X' R' s H' locs' → lv_has ls' 9 [(5, .int (iI i)), (4, .ref outD), (3, .ref out), (2, .ref md), (1, .ref x), (0, .ref b)] → W p l e room_1 s m #[Value.ref b] below meth c H' locs' cl' sl' Q (F0 m 3400 ls' [])) : W p l e room_1 s m #[Value.ref b] below meth c H locs cw sw Q (F0 m 1675 ls []) := by
  obtain ⟨⟨hx, hb, hml, hown⟩, hG, h46, hX, hXs, hbl, hbA, hL⟩ := E
  obtain ⟨hC, hRr, hM, ⟨hko4, hlo4⟩, hko5, hlo5⟩ := id hI
  have hCk := hC.1.1
  have hloo : ρ out = 4000 ∨ ρ out = 4001 := Or.inl hlo4
  have hlod : ρ outD = 4000 ∨ ρ outD = 4001 := Or.inr hlo5
  obtain ⟨a, hq1⟩ : ∃ z : Int, scI xs (i + 1).toNat = z := ⟨_, rfl⟩
  have hf1 : fit a := by rw [← hq1]; exact scI_fit
  obtain ⟨b9, hq2⟩ : ∃ z : Int, scI xs (i + 2).toNat = z := ⟨_, rfl⟩
  have hf2 : fit b9 := by rw [← hq2]; exact scI_fit
  obtain ⟨mo, hq3⟩ : ∃ z : Int, scI xs (i + 3).toNat = z := ⟨_, rfl⟩
  have hf3 : fit mo := by rw [← hq3]; exact scI_fit
  refine lv_aload_n (pc := 1675) hx hb dL_law_1675 rfl (lv_at hl 4 rfl) ?_
  refine lv_aload_n (pc := 1676) hx hb dL_law_1676 rfl (lv_at hl 5 rfl) ?_
  refine lv_iload (pc := 1677) hx hb dL_law_1677 (lv_at hl 0 rfl) ?_
  refine ziconst (pc := 1679) (n := 1) hx hb dL_law_1679 ?_
  refine zadd (pc := 1680) hx hb dL_law_1680 ?_
  refine zsld (pc := 1681) hx hb hXs hbl hbA hL hw ⟨by omega, by omega⟩ hq1 dL_law_1681 ?_
  refine lv_aload_n (pc := 1682) hx hb dL_law_1682 rfl (lv_at hl 5 rfl) ?_
  refine lv_iload (pc := 1683) hx hb dL_law_1683 (lv_at hl 0 rfl) ?_
  refine ziconst (pc := 1685) (n := 2) hx hb dL_law_1685 ?_
  refine zadd (pc := 1686) hx hb dL_law_1686 ?_
  refine zsld (pc := 1687) hx hb hXs hbl hbA hL hw ⟨by omega, by omega⟩ hq2 dL_law_1687 ?_
  refine lv_aload_n (pc := 1688) hx hb dL_law_1688 rfl (lv_at hl 5 rfl) ?_
  refine lv_iload (pc := 1689) hx hb dL_law_1689 (lv_at hl 0 rfl) ?_
  refine ziconst (pc := 1691) (n := 3) hx hb dL_law_1691 ?_
  refine zadd (pc := 1692) hx hb dL_law_1692 ?_
  refine zsld (pc := 1693) hx hb hXs hbl hbA hL hw ⟨by omega, by omega⟩ hq3 dL_law_1693 ?_
  refine lv_aload_n (pc := 1694) hx hb dL_law_1694 rfl (lv_at hl 2 rfl) ?_
  refine zkI (pc := 1695) (zlrS (As := [.ref x, .int (iI a), .int (iI b9), .int (iI mo), .ref out]) hx hb hml hown hG h46 hX hw (c_L_ahead l hl9 Γ K X Rf x a b9 mo out (ρ) M (by (first | assumption | omega)) (by (first | assumption | omega)) (by (first | assumption | omega)) (by (first | assumption | omega)) (by (first | assumption | omega))) cb_L_ahead wl_L_239 rfl ⟨Nat.le_of_ble_eq_true rfl, Nat.le_of_ble_eq_true rfl⟩ hl.1 rfl (Nat.le_of_ble_eq_true rfl) dL_law_1695 ⟨(by show cw + 3 ≤ 601024; omega), (by show sw + 18 ≤ 7293033; omega)⟩) hw (fun r1695 K1695 X1695 R1695 H locs hp1695 hw => ?_)
  obtain ⟨hk1, hv1, ρ1, hC1, hf1⟩ := hp1695
  obtain ⟨hR1, hpt1, hk1o⟩ := hI.c (Or.inl rfl) hC1 hf1
  have hmd1 := hR1.1.1
  refine lv_istore (pc := 1698) (lv' := [(6, .int (iI r1695)), (5, .int (iI i)), (4, .ref outD), (3, .ref out), (2, .ref md), (1, .ref x), (0, .ref b)]) hx hb dL_law_1698 hl (by decide) rfl (fun ls hl => ?_)
  refine lv_aload_n (pc := 1700) hx hb dL_law_1700 rfl (lv_at hl 4 rfl) ?_
  refine lv_aload_n (pc := 1701) hx hb dL_law_1701 rfl (lv_at hl 6 rfl) ?_
  refine lv_iload (pc := 1702) hx hb dL_law_1702 (lv_at hl 1 rfl) ?_
  refine ziconst (pc := 1704) (n := 1) hx hb dL_law_1704 ?_
  refine zadd (pc := 1705) hx hb dL_law_1705 ?_
  refine zsld (pc := 1706) hx hb hXs hbl hbA hL hw ⟨by omega, by omega⟩ hq1 dL_law_1706 ?_
  refine lv_aload_n (pc := 1707) hx hb dL_law_1707 rfl (lv_at hl 6 rfl) ?_
  refine lv_iload (pc := 1708) hx hb dL_law_1708 (lv_at hl 1 rfl) ?_
  refine ziconst (pc := 1710) (n := 2) hx hb dL_law_1710 ?_
  refine zadd (pc := 1711) hx hb dL_law_1711 ?_
  refine zsld (pc := 1712) hx hb hXs hbl hbA hL hw ⟨by omega, by omega⟩ hq2 dL_law_1712 ?_
  refine lv_aload_n (pc := 1713) hx hb dL_law_1713 rfl (lv_at hl 6 rfl) ?_
  refine lv_iload (pc := 1714) hx hb dL_law_1714 (lv_at hl 1 rfl) ?_
  refine ziconst (pc := 1716) (n := 3) hx hb dL_law_1716 ?_
  refine zadd (pc := 1717) hx hb dL_law_1717 ?_
  refine zsld (pc := 1718) hx hb hXs hbl hbA hL hw ⟨by omega, by omega⟩ hq3 dL_law_1718 ?_
  have hM1 : okM M := by exact hM
  refine zkI (pc := 1719) (zrV (As := [.int (iI a), .int (iI b9), .int (iI mo)]) hx hb hml hown hG hw (c_X9_ahead l Γ K1695 X1695 R1695 md a b9 mo (rlb K1695 ρ1) M (by (first | assumption | omega)) (by (first | assumption | omega)) (by (first | assumption | omega))) (T := TX9) hmd1 rfl cb_X9_ahead wl_L_241 rfl ⟨Nat.le_of_ble_eq_true rfl, Nat.le_of_ble_eq_true rfl⟩ hl.1 rfl (Nat.le_of_ble_eq_true rfl) dL_law_1719 ⟨(by show cw + 3 + 10 ≤ 601024; omega), (by show sw + 18 + 10000 ≤ 7293033; omega)⟩) hw (fun r1719 K1719 X1719 R1719 H locs hp1719 hw => ?_)
  obtain ⟨hv2, h02, ρ2, hR2, hg2, hpt2⟩ : (cdPlPlM M a b9 mo = 0 → r1719 = locM M a mo - locM M b9 mo) ∧ X1719 md 0 = cdPlPlM M a b9 mo ∧ ∃ ρ2, repR ρ2 K1719 X1719 R1719 md M ∧ frR (rlb K1695 ρ1) K1695 X1695 R1695 ρ2 K1719 X1719 R1719 ∧ ptR X1719 R1719 md ≤ ptR X1695 R1695 md := by obtain ⟨a1, a2, ⟨ρ', a3, a4⟩, a5, -⟩ := hp1719; exact ⟨a1, a2, ρ', a3, a4, ptR_ls a5⟩
  obtain ⟨hxo, hxd, ρ3, hI3⟩ := LI.r hC1 hk1o hM1 hR2 hg2
  have hmd3 := hI3.2.1.1.1
  have hko3 := hI3.2.2.2.1.1
  have hkd3 := hI3.2.2.2.2.1
  have hcb : 0 ≤ cdPlPlM M a b9 mo ∧ cdPlPlM M a b9 mo ≤ 3 := by unfold cdPlPlM; (repeat' split) <;> omega
  refine lv_istore (pc := 1722) (lv' := [(7, .int (iI r1719)), (6, .int (iI r1695)), (5, .int (iI i)), (4, .ref outD), (3, .ref out), (2, .ref md), (1, .ref x), (0, .ref b)]) hx hb dL_law_1722 hl (by decide) rfl (fun ls hl => ?_)
  refine lv_aload_n (pc := 1724) hx hb dL_law_1724 rfl (lv_at hl 5 rfl) ?_
  refine zkIp (pc := 1725) (zrV (As := []) hx hb hml hown hG hw (c_X9_thrown l Γ K1719 X1719 R1719 md  (by (first | assumption | omega))) (T := TX9) hmd3 rfl cb_X9_thrown wl_L_172 rfl ⟨Nat.le_of_ble_eq_true rfl, Nat.le_of_ble_eq_true rfl⟩ hl.1 rfl (Nat.le_of_ble_eq_true rfl) dL_law_1725 ⟨(by show cw + 3 + 10 + 0 ≤ 601024; omega), (by show sw + 18 + 10000 + 0 ≤ 7293033; omega)⟩) hw (fun r1725 H locs hp1725 hw => ?_)
  subst hp1725
  refine lv_iload (pc := 1728) hx hb dL_law_1728 (lv_at hl 1 rfl) ?_
  refine zicmp_eq (pc := 1730) hx hb 1735 (by omega) (by omega) dL_law_1730 (by decide) (fun c1730 => ?_) (fun c1730 => ?_)
  · skip
    refine lv_iload (pc := 1735) hx hb dL_law_1735 (lv_at hl 1 rfl) ?_
    refine zif_ne (pc := 1737) hx hb 1752 (by omega) dL_law_1737 (by decide) (fun c1737 => ?_) (fun c1737 => ?_)
    · skip
      refine lv_goto (pc := 1752) (tgt := 3400) hx hb dL_law_1752 (by decide) ?_
      exact kk ρ3 K1719 X1719 R1719 _ H locs _ _ ls hI3 ⟨by omega, by omega⟩ hw (lv_sub hl [2, 3, 4, 5, 6, 7] rfl)
    · skip
      have hc0 : cdPlPlM M a b9 mo = 0 := by omega
      have hov : X1719 out 0 = wI r1719 := by rw [congrFun hxo 0, hv1 hc0, hv2 hc0]
      refine lv_aload_n (pc := 1740) hx hb dL_law_1740 rfl (lv_at hl 4 rfl) ?_
      refine ziconst (pc := 1741) (n := 0) hx hb dL_law_1741 ?_
      refine zlald (pc := 1742) hx hb hw hko3 ⟨by omega, by omega⟩ (by omega) dL_law_1742 ?_
      refine lv_iload (pc := 1743) hx hb dL_law_1743 (lv_at hl 0 rfl) ?_
      refine zi2lw (pc := 1745) hx hb dL_law_1745 ?_
      refine zlcmpE (pc := 1746) hx hb hov dL_law_1746 ?_
      refine zif_eq (pc := 1747) hx hb 1752 (by omega) dL_law_1747 (by decide) (fun c1747 => ?_) (fun c1747 => ?_)
      · skip
        refine lv_goto (pc := 1752) (tgt := 3400) hx hb dL_law_1752 (by decide) ?_
        exact kk ρ3 K1719 X1719 R1719 _ H locs _ _ ls hI3 ⟨by omega, by omega⟩ hw (lv_sub hl [2, 3, 4, 5, 6, 7] rfl)
      · skip
        exfalso; omega
  · skip
    exfalso; omega
set_option maxHeartbeats 4000000 in
set_option maxRecDepth 100000 in
theorem lc_22 {p : Program} {l : Launch} (hl9 : l.stackTraces = false) {e : Env} {s : State} {m : MethodId} {below : List Frame} {meth : Method} {c : Code} {Q : State → Prop} {b L : Nat} {xs : Nat → Int32} {Γ : zG} {K0 : zK} (E : LE p s m c b L xs K0) {ρ : zL} {K : zK} {X : zX} {Rf : zR} {M : zM} {x md out outD it : Nat} {i : Int} {cw sw : Nat} {H : Heap} {locs : List Loc} {ls : Array Slot} (hi : 0 ≤ i ∧ i + 8 ≤ (L : Int)) (hit : it ≤ 511) (hI : LI ρ K X Rf x md out outD M) (hcs : cw ≤ 100 + 1100 * it ∧ sw + ptR X Rf md ≤ 112000 + 14000 * it) (hw : Wd Γ (zA K0 s.heap.size) K X Rf s H locs) (hl : lv_has ls 9 [(5, .int (iI i)), (4, .ref outD), (3, .ref out), (2, .ref md), (1, .ref x), (0, .ref b)]) (kk : ∀ (ρ' : zL) (K' : zK) (X' : zX) (R' : zR) (M' : zM) (H' : Heap) (locs' : List Loc) (cl' sl' : Nat) (ls' : Array Slot), LI ρ' K' X' R' x md out outD M' → (cl' ≤ 100 + 1100 * (it + 1) ∧ sl' + ptR X' R' md ≤ 112000 + 14000 * (it + 1)) → Wd Γ (zA K0 s.heap.size) K' X' R' s H' locs' → lv_has ls' 9 [(5, .int (iI i)), (4, .ref outD), (3, .ref out), (2, .ref md), (1, .ref x), (0, .ref b)] → W p l e room_1 s m #[Value.ref b] below meth c H' locs' cl' sl' Q (F0 m 3400 ls' [])) : W p l e room_1 s m #[Value.ref b] below meth c H locs cw sw Q (F0 m 1755 ls []) := by
  obtain ⟨⟨hx, hb, hml, hown⟩, hG, h46, hX, hXs, hbl, hbA, hL⟩ := E
  obtain ⟨hC, hRr, hM, ⟨hko4, hlo4⟩, hko5, hlo5⟩ := id hI
  have hCk := hC.1.1
  have hloo : ρ out = 4000 ∨ ρ out = 4001 := Or.inl hlo4
  have hlod : ρ outD = 4000 ∨ ρ outD = 4001 := Or.inr hlo5
  obtain ⟨a, hq1⟩ : ∃ z : Int, scI xs (i + 1).toNat = z := ⟨_, rfl⟩
  have hf1 : fit a := by rw [← hq1]; exact scI_fit
  obtain ⟨bg, hq2⟩ : ∃ z : Int, scI xs (i + 2).toNat = z := ⟨_, rfl⟩
  have hf2 : fit bg := by rw [← hq2]; exact scI_fit
  obtain ⟨ki, hq3⟩ : ∃ z : Int, scI xs (i + 3).toNat = z := ⟨_, rfl⟩
  have hf3 : fit ki := by rw [← hq3]; exact scI_fit
  obtain ⟨st, hq4⟩ : ∃ z : Int, scI xs (i + 4).toNat = z := ⟨_, rfl⟩
  have hf4 : fit st := by rw [← hq4]; exact scI_fit
  obtain ⟨wd, hq5⟩ : ∃ z : Int, scI xs (i + 5).toNat = z := ⟨_, rfl⟩
  have hf5 : fit wd := by rw [← hq5]; exact scI_fit
  refine lv_aload_n (pc := 1755) hx hb dL_law_1755 rfl (lv_at hl 4 rfl) ?_
  refine lv_aload_n (pc := 1756) hx hb dL_law_1756 rfl (lv_at hl 5 rfl) ?_
  refine lv_iload (pc := 1757) hx hb dL_law_1757 (lv_at hl 0 rfl) ?_
  refine ziconst (pc := 1759) (n := 1) hx hb dL_law_1759 ?_
  refine zadd (pc := 1760) hx hb dL_law_1760 ?_
  refine zsld (pc := 1761) hx hb hXs hbl hbA hL hw ⟨by omega, by omega⟩ hq1 dL_law_1761 ?_
  refine lv_aload_n (pc := 1762) hx hb dL_law_1762 rfl (lv_at hl 5 rfl) ?_
  refine lv_iload (pc := 1763) hx hb dL_law_1763 (lv_at hl 0 rfl) ?_
  refine ziconst (pc := 1765) (n := 2) hx hb dL_law_1765 ?_
  refine zadd (pc := 1766) hx hb dL_law_1766 ?_
  refine zsld (pc := 1767) hx hb hXs hbl hbA hL hw ⟨by omega, by omega⟩ hq2 dL_law_1767 ?_
  refine lv_aload_n (pc := 1768) hx hb dL_law_1768 rfl (lv_at hl 5 rfl) ?_
  refine lv_iload (pc := 1769) hx hb dL_law_1769 (lv_at hl 0 rfl) ?_
  refine ziconst (pc := 1771) (n := 3) hx hb dL_law_1771 ?_
  refine zadd (pc := 1772) hx hb dL_law_1772 ?_
  refine zsld (pc := 1773) hx hb hXs hbl hbA hL hw ⟨by omega, by omega⟩ hq3 dL_law_1773 ?_
  refine lv_aload_n (pc := 1774) hx hb dL_law_1774 rfl (lv_at hl 5 rfl) ?_
  refine lv_iload (pc := 1775) hx hb dL_law_1775 (lv_at hl 0 rfl) ?_
  refine ziconst (pc := 1777) (n := 4) hx hb dL_law_1777 ?_
  refine zadd (pc := 1778) hx hb dL_law_1778 ?_
  refine zsld (pc := 1779) hx hb hXs hbl hbA hL hw ⟨by omega, by omega⟩ hq4 dL_law_1779 ?_
  refine lv_aload_n (pc := 1780) hx hb dL_law_1780 rfl (lv_at hl 5 rfl) ?_
  refine lv_iload (pc := 1781) hx hb dL_law_1781 (lv_at hl 0 rfl) ?_
  refine ziconst (pc := 1783) (n := 5) hx hb dL_law_1783 ?_
  refine zadd (pc := 1784) hx hb dL_law_1784 ?_
  refine zsld (pc := 1785) hx hb hXs hbl hbA hL hw ⟨by omega, by omega⟩ hq5 dL_law_1785 ?_
  refine lv_aload_n (pc := 1786) hx hb dL_law_1786 rfl (lv_at hl 2 rfl) ?_
  refine zkI (pc := 1787) (zlrS (As := [.ref x, .int (iI a), .int (iI bg), .int (iI ki), .int (iI st), .int (iI wd), .ref out]) hx hb hml hown hG h46 hX hw (c_L_addSeries l hl9 Γ K X Rf x a bg ki st wd out (ρ) M (by (first | assumption | omega)) (by (first | assumption | omega)) (by (first | assumption | omega)) (by (first | assumption | omega)) (by (first | assumption | omega)) (by (first | assumption | omega))) cb_L_addSeries wl_L_242 rfl ⟨Nat.le_of_ble_eq_true rfl, Nat.le_of_ble_eq_true rfl⟩ hl.1 rfl (Nat.le_of_ble_eq_true rfl) dL_law_1787 ⟨(by show cw + 8 ≤ 601024; omega), (by show sw + 4060 ≤ 7293033; omega)⟩) hw (fun r1787 K1787 X1787 R1787 H locs hp1787 hw => ?_)
  obtain ⟨hk1, hv1, ρ1, hC1, hf1⟩ := hp1787
  obtain ⟨hR1, hpt1, hk1o⟩ := hI.c (Or.inl rfl) hC1 hf1
  have hmd1 := hR1.1.1
  refine lv_istore (pc := 1790) (lv' := [(6, .int (iI r1787)), (5, .int (iI i)), (4, .ref outD), (3, .ref out), (2, .ref md), (1, .ref x), (0, .ref b)]) hx hb dL_law_1790 hl (by decide) rfl (fun ls hl => ?_)
  refine lv_aload_n (pc := 1792) hx hb dL_law_1792 rfl (lv_at hl 4 rfl) ?_
  refine lv_aload_n (pc := 1793) hx hb dL_law_1793 rfl (lv_at hl 6 rfl) ?_
  refine lv_iload (pc := 1794) hx hb dL_law_1794 (lv_at hl 1 rfl) ?_
  refine ziconst (pc := 1796) (n := 1) hx hb dL_law_1796 ?_
  refine zadd (pc := 1797) hx hb dL_law_1797 ?_
  refine zsld (pc := 1798) hx hb hXs hbl hbA hL hw ⟨by omega, by omega⟩ hq1 dL_law_1798 ?_
  refine lv_aload_n (pc := 1799) hx hb dL_law_1799 rfl (lv_at hl 6 rfl) ?_
  refine lv_iload (pc := 1800) hx hb dL_law_1800 (lv_at hl 1 rfl) ?_
  refine ziconst (pc := 1802) (n := 2) hx hb dL_law_1802 ?_
  refine zadd (pc := 1803) hx hb dL_law_1803 ?_
  refine zsld (pc := 1804) hx hb hXs hbl hbA hL hw ⟨by omega, by omega⟩ hq2 dL_law_1804 ?_
  refine lv_aload_n (pc := 1805) hx hb dL_law_1805 rfl (lv_at hl 6 rfl) ?_
  refine lv_iload (pc := 1806) hx hb dL_law_1806 (lv_at hl 1 rfl) ?_
  refine ziconst (pc := 1808) (n := 3) hx hb dL_law_1808 ?_
  refine zadd (pc := 1809) hx hb dL_law_1809 ?_
  refine zsld (pc := 1810) hx hb hXs hbl hbA hL hw ⟨by omega, by omega⟩ hq3 dL_law_1810 ?_
  refine lv_aload_n (pc := 1811) hx hb dL_law_1811 rfl (lv_at hl 6 rfl) ?_
  refine lv_iload (pc := 1812) hx hb dL_law_1812 (lv_at hl 1 rfl) ?_
  refine ziconst (pc := 1814) (n := 4) hx hb dL_law_1814 ?_
  refine zadd (pc := 1815) hx hb dL_law_1815 ?_
  refine zsld (pc := 1816) hx hb hXs hbl hbA hL hw ⟨by omega, by omega⟩ hq4 dL_law_1816 ?_
  refine lv_aload_n (pc := 1817) hx hb dL_law_1817 rfl (lv_at hl 6 rfl) ?_
  refine lv_iload (pc := 1818) hx hb dL_law_1818 (lv_at hl 1 rfl) ?_
  refine ziconst (pc := 1820) (n := 5) hx hb dL_law_1820 ?_
  refine zadd (pc := 1821) hx hb dL_law_1821 ?_
  refine zsld (pc := 1822) hx hb hXs hbl hbA hL hw ⟨by omega, by omega⟩ hq5 dL_law_1822 ?_
  have hM1 : okM (if cdAse M a bg ki st wd = 0 then (seM M (M 40 16).toNat a bg ki st wd) else M) := by split; (next h9 => exact okM_ser hM h9); exact hM
  refine zkI (pc := 1823) (zrV (As := [.int (iI a), .int (iI bg), .int (iI ki), .int (iI st), .int (iI wd)]) hx hb hml hown hG hw (c_X9_addSeries l Γ K1787 X1787 R1787 md a bg ki st wd (rlb K1787 ρ1) M (by (first | assumption | omega)) (by (first | assumption | omega)) (by (first | assumption | omega)) (by (first | assumption | omega))) (T := TX9) hmd1 rfl cb_X9_addSeries wl_L_245 rfl ⟨Nat.le_of_ble_eq_true rfl, Nat.le_of_ble_eq_true rfl⟩ hl.1 rfl (Nat.le_of_ble_eq_true rfl) dL_law_1823 ⟨(by show cw + 8 + 1 ≤ 601024; omega), (by show sw + 4060 + 11 ≤ 7293033; omega)⟩) hw (fun r1823 K1823 X1823 R1823 H locs hp1823 hw => ?_)
  obtain ⟨hv2, h02, ρ2, hR2, hg2, hpt2⟩ : (cdAse M a bg ki st wd = 0 → r1823 = M 40 16) ∧ X1823 md 0 = cdAse M a bg ki st wd ∧ ∃ ρ2, repR ρ2 K1823 X1823 R1823 md (if cdAse M a bg ki st wd = 0 then (seM M (M 40 16).toNat a bg ki st wd) else M) ∧ frR (rlb K1787 ρ1) K1787 X1787 R1787 ρ2 K1823 X1823 R1823 ∧ ptR X1823 R1823 md ≤ ptR X1787 R1787 md + 5000 := by obtain ⟨a1, a2, ρ', a3, a4, a5⟩ := hp1823; exact ⟨a1, a2, ρ', a3, a4, a5⟩
  obtain ⟨hxo, hxd, ρ3, hI3⟩ := LI.r hC1 hk1o hM1 hR2 hg2
  have hmd3 := hI3.2.1.1.1
  have hko3 := hI3.2.2.2.1.1
  have hkd3 := hI3.2.2.2.2.1
  have hcb : 0 ≤ cdAse M a bg ki st wd ∧ cdAse M a bg ki st wd ≤ 3 := by unfold cdAse; (repeat' split) <;> omega
  refine lv_istore (pc := 1826) (lv' := [(7, .int (iI r1823)), (6, .int (iI r1787)), (5, .int (iI i)), (4, .ref outD), (3, .ref out), (2, .ref md), (1, .ref x), (0, .ref b)]) hx hb dL_law_1826 hl (by decide) rfl (fun ls hl => ?_)
  refine lv_aload_n (pc := 1828) hx hb dL_law_1828 rfl (lv_at hl 5 rfl) ?_
  refine zkIp (pc := 1829) (zrV (As := []) hx hb hml hown hG hw (c_X9_thrown l Γ K1823 X1823 R1823 md  (by (first | assumption | omega))) (T := TX9) hmd3 rfl cb_X9_thrown wl_L_172 rfl ⟨Nat.le_of_ble_eq_true rfl, Nat.le_of_ble_eq_true rfl⟩ hl.1 rfl (Nat.le_of_ble_eq_true rfl) dL_law_1829 ⟨(by show cw + 8 + 1 + 0 ≤ 601024; omega), (by show sw + 4060 + 11 + 0 ≤ 7293033; omega)⟩) hw (fun r1829 H locs hp1829 hw => ?_)
  subst hp1829
  refine lv_iload (pc := 1832) hx hb dL_law_1832 (lv_at hl 1 rfl) ?_
  refine zicmp_eq (pc := 1834) hx hb 1839 (by omega) (by omega) dL_law_1834 (by decide) (fun c1834 => ?_) (fun c1834 => ?_)
  · skip
    refine lv_iload (pc := 1839) hx hb dL_law_1839 (lv_at hl 1 rfl) ?_
    refine zif_ne (pc := 1841) hx hb 1856 (by omega) dL_law_1841 (by decide) (fun c1841 => ?_) (fun c1841 => ?_)
    · skip
      refine lv_goto (pc := 1856) (tgt := 3400) hx hb dL_law_1856 (by decide) ?_
      exact kk ρ3 K1823 X1823 R1823 _ H locs _ _ ls hI3 ⟨by omega, by omega⟩ hw (lv_sub hl [2, 3, 4, 5, 6, 7] rfl)
    · skip
      have hc0 : cdAse M a bg ki st wd = 0 := by omega
      have hov : X1823 out 0 = wI r1823 := by rw [congrFun hxo 0, hv1 hc0, hv2 hc0]
      refine lv_aload_n (pc := 1844) hx hb dL_law_1844 rfl (lv_at hl 4 rfl) ?_
      refine ziconst (pc := 1845) (n := 0) hx hb dL_law_1845 ?_
      refine zlald (pc := 1846) hx hb hw hko3 ⟨by omega, by omega⟩ (by omega) dL_law_1846 ?_
      refine lv_iload (pc := 1847) hx hb dL_law_1847 (lv_at hl 0 rfl) ?_
      refine zi2lw (pc := 1849) hx hb dL_law_1849 ?_
      refine zlcmpE (pc := 1850) hx hb hov dL_law_1850 ?_
      refine zif_eq (pc := 1851) hx hb 1856 (by omega) dL_law_1851 (by decide) (fun c1851 => ?_) (fun c1851 => ?_)
      · skip
        refine lv_goto (pc := 1856) (tgt := 3400) hx hb dL_law_1856 (by decide) ?_
        exact kk ρ3 K1823 X1823 R1823 _ H locs _ _ ls hI3 ⟨by omega, by omega⟩ hw (lv_sub hl [2, 3, 4, 5, 6, 7] rfl)
      · skip
        exfalso; omega
  · skip
    exfalso; omega
set_option maxHeartbeats 4000000 in
set_option maxRecDepth 100000 in
theorem lc_23 {p : Program} {l : Launch} (hl9 : l.stackTraces = false) {e : Env} {s : State} {m : MethodId} {below : List Frame} {meth : Method} {c : Code} {Q : State → Prop} {b L : Nat} {xs : Nat → Int32} {Γ : zG} {K0 : zK} (E : LE p s m c b L xs K0) {ρ : zL} {K : zK} {X : zX} {Rf : zR} {M : zM} {x md out outD it : Nat} {i : Int} {cw sw : Nat} {H : Heap} {locs : List Loc} {ls : Array Slot} (hi : 0 ≤ i ∧ i + 8 ≤ (L : Int)) (hit : it ≤ 511) (hI : LI ρ K X Rf x md out outD M) (hcs : cw ≤ 100 + 1100 * it ∧ sw + ptR X Rf md ≤ 112000 + 14000 * it) (hw : Wd Γ (zA K0 s.heap.size) K X Rf s H locs) (hl : lv_has ls 9 [(5, .int (iI i)), (4, .ref outD), (3, .ref out), (2, .ref md), (1, .ref x), (0, .ref b)]) (kk : ∀ (ρ' : zL) (K' : zK) (X' : zX) (R' : zR) (M' : zM) (H' : Heap) (locs' : List Loc) (cl' sl' : Nat) (ls' : Array Slot), LI ρ' K' X' R' x md out outD M' → (cl' ≤ 100 + 1100 * (it + 1) ∧ sl' + ptR X' R' md ≤ 112000 + 14000 * (it + 1)) → Wd Γ (zA K0 s.heap.size) K' X' R' s H' locs' → lv_has ls' 9 [(5, .int (iI i)), (4, .ref outD), (3, .ref out), (2, .ref md), (1, .ref x), (0, .ref b)] → W p l e room_1 s m #[Value.ref b] below meth c H' locs' cl' sl' Q (F0 m 3400 ls' [])) : W p l e room_1 s m #[Value.ref b] below meth c H locs cw sw Q (F0 m 1859 ls []) := by
  obtain ⟨⟨hx, hb, hml, hown⟩, hG, h46, hX, hXs, hbl, hbA, hL⟩ := E
  obtain ⟨hC, hRr, hM, ⟨hko4, hlo4⟩, hko5, hlo5⟩ := id hI
  have hCk := hC.1.1
  have hloo : ρ out = 4000 ∨ ρ out = 4001 := Or.inl hlo4
  have hlod : ρ outD = 4000 ∨ ρ outD = 4001 := Or.inr hlo5
  obtain ⟨a, hq1⟩ : ∃ z : Int, scI xs (i + 1).toNat = z := ⟨_, rfl⟩
  have hf1 : fit a := by rw [← hq1]; exact scI_fit
  obtain ⟨b9, hq2⟩ : ∃ z : Int, scI xs (i + 2).toNat = z := ⟨_, rfl⟩
  have hf2 : fit b9 := by rw [← hq2]; exact scI_fit
  refine lv_aload_n (pc := 1859) hx hb dL_law_1859 rfl (lv_at hl 4 rfl) ?_
  refine lv_aload_n (pc := 1860) hx hb dL_law_1860 rfl (lv_at hl 5 rfl) ?_
  refine lv_iload (pc := 1861) hx hb dL_law_1861 (lv_at hl 0 rfl) ?_
  refine ziconst (pc := 1863) (n := 1) hx hb dL_law_1863 ?_
  refine zadd (pc := 1864) hx hb dL_law_1864 ?_
  refine zsld (pc := 1865) hx hb hXs hbl hbA hL hw ⟨by omega, by omega⟩ hq1 dL_law_1865 ?_
  refine lv_aload_n (pc := 1866) hx hb dL_law_1866 rfl (lv_at hl 5 rfl) ?_
  refine lv_iload (pc := 1867) hx hb dL_law_1867 (lv_at hl 0 rfl) ?_
  refine ziconst (pc := 1869) (n := 2) hx hb dL_law_1869 ?_
  refine zadd (pc := 1870) hx hb dL_law_1870 ?_
  refine zsld (pc := 1871) hx hb hXs hbl hbA hL hw ⟨by omega, by omega⟩ hq2 dL_law_1871 ?_
  refine lv_aload_n (pc := 1872) hx hb dL_law_1872 rfl (lv_at hl 2 rfl) ?_
  refine zkI (pc := 1873) (zlrS (As := [.ref x, .int (iI a), .int (iI b9), .ref out]) hx hb hml hown hG h46 hX hw (c_L_usePattern l hl9 Γ K X Rf x a b9 out (ρ) M (by (first | assumption | omega)) (by (first | assumption | omega)) (by (first | assumption | omega)) (by (first | assumption | omega)) (by (first | assumption | omega))) cb_L_usePattern wl_L_246 rfl ⟨Nat.le_of_ble_eq_true rfl, Nat.le_of_ble_eq_true rfl⟩ hl.1 rfl (Nat.le_of_ble_eq_true rfl) dL_law_1873 ⟨(by show cw + 3 ≤ 601024; omega), (by show sw + 18 ≤ 7293033; omega)⟩) hw (fun r1873 K1873 X1873 R1873 H locs hp1873 hw => ?_)
  obtain ⟨hk1, hv1, ρ1, hC1, hf1⟩ := hp1873
  obtain ⟨hR1, hpt1, hk1o⟩ := hI.c (Or.inl rfl) hC1 hf1
  have hmd1 := hR1.1.1
  refine lv_istore (pc := 1876) (lv' := [(6, .int (iI r1873)), (5, .int (iI i)), (4, .ref outD), (3, .ref out), (2, .ref md), (1, .ref x), (0, .ref b)]) hx hb dL_law_1876 hl (by decide) rfl (fun ls hl => ?_)
  refine lv_aload_n (pc := 1878) hx hb dL_law_1878 rfl (lv_at hl 4 rfl) ?_
  refine lv_aload_n (pc := 1879) hx hb dL_law_1879 rfl (lv_at hl 6 rfl) ?_
  refine lv_iload (pc := 1880) hx hb dL_law_1880 (lv_at hl 1 rfl) ?_
  refine ziconst (pc := 1882) (n := 1) hx hb dL_law_1882 ?_
  refine zadd (pc := 1883) hx hb dL_law_1883 ?_
  refine zsld (pc := 1884) hx hb hXs hbl hbA hL hw ⟨by omega, by omega⟩ hq1 dL_law_1884 ?_
  refine lv_aload_n (pc := 1885) hx hb dL_law_1885 rfl (lv_at hl 6 rfl) ?_
  refine lv_iload (pc := 1886) hx hb dL_law_1886 (lv_at hl 1 rfl) ?_
  refine ziconst (pc := 1888) (n := 2) hx hb dL_law_1888 ?_
  refine zadd (pc := 1889) hx hb dL_law_1889 ?_
  refine zsld (pc := 1890) hx hb hXs hbl hbA hL hw ⟨by omega, by omega⟩ hq2 dL_law_1890 ?_
  have hM1 : okM (if cdUse M a b9 = 0 then (usaM M a.toNat b9) else M) := by split; (next h9 => exact okM_use hM h9); exact hM
  refine zkI (pc := 1891) (zrV (As := [.int (iI a), .int (iI b9)]) hx hb hml hown hG hw (c_X9_usePattern l Γ K1873 X1873 R1873 md a b9 (rlb K1873 ρ1) M (by (first | assumption | omega)) (by (first | assumption | omega)) (by (first | assumption | omega))) (T := TX9) hmd1 rfl cb_X9_usePattern wl_L_248 rfl ⟨Nat.le_of_ble_eq_true rfl, Nat.le_of_ble_eq_true rfl⟩ hl.1 rfl (Nat.le_of_ble_eq_true rfl) dL_law_1891 ⟨(by show cw + 3 + 0 ≤ 601024; omega), (by show sw + 18 + 0 ≤ 7293033; omega)⟩) hw (fun r1891 K1891 X1891 R1891 H locs hp1891 hw => ?_)
  obtain ⟨hv2, h02, ρ2, hR2, hg2, hpt2⟩ : (cdUse M a b9 = 0 → r1891 = serM M a.toNat 9 + 1) ∧ X1891 md 0 = cdUse M a b9 ∧ ∃ ρ2, repR ρ2 K1891 X1891 R1891 md (if cdUse M a b9 = 0 then (usaM M a.toNat b9) else M) ∧ frR (rlb K1873 ρ1) K1873 X1873 R1873 ρ2 K1891 X1891 R1891 ∧ ptR X1891 R1891 md ≤ ptR X1873 R1873 md + 5000 := by obtain ⟨a1, a2, ρ', a3, a4, a5⟩ := hp1891; exact ⟨a1, a2, ρ', a3, a4, a5⟩
  obtain ⟨hxo, hxd, ρ3, hI3⟩ := LI.r hC1 hk1o hM1 hR2 hg2
  have hmd3 := hI3.2.1.1.1
  have hko3 := hI3.2.2.2.1.1
  have hkd3 := hI3.2.2.2.2.1
  have hcb : 0 ≤ cdUse M a b9 ∧ cdUse M a b9 ≤ 3 := by unfold cdUse; (repeat' split) <;> omega
  refine lv_istore (pc := 1894) (lv' := [(7, .int (iI r1891)), (6, .int (iI r1873)), (5, .int (iI i)), (4, .ref outD), (3, .ref out), (2, .ref md), (1, .ref x), (0, .ref b)]) hx hb dL_law_1894 hl (by decide) rfl (fun ls hl => ?_)
  refine lv_aload_n (pc := 1896) hx hb dL_law_1896 rfl (lv_at hl 5 rfl) ?_
  refine zkIp (pc := 1897) (zrV (As := []) hx hb hml hown hG hw (c_X9_thrown l Γ K1891 X1891 R1891 md  (by (first | assumption | omega))) (T := TX9) hmd3 rfl cb_X9_thrown wl_L_172 rfl ⟨Nat.le_of_ble_eq_true rfl, Nat.le_of_ble_eq_true rfl⟩ hl.1 rfl (Nat.le_of_ble_eq_true rfl) dL_law_1897 ⟨(by show cw + 3 + 0 ≤ 601024; omega), (by show sw + 18 + 0 ≤ 7293033; omega)⟩) hw (fun r1897 H locs hp1897 hw => ?_)
  subst hp1897
  refine lv_iload (pc := 1900) hx hb dL_law_1900 (lv_at hl 1 rfl) ?_
  refine zicmp_eq (pc := 1902) hx hb 1907 (by omega) (by omega) dL_law_1902 (by decide) (fun c1902 => ?_) (fun c1902 => ?_)
  · skip
    refine lv_iload (pc := 1907) hx hb dL_law_1907 (lv_at hl 1 rfl) ?_
    refine zif_ne (pc := 1909) hx hb 1924 (by omega) dL_law_1909 (by decide) (fun c1909 => ?_) (fun c1909 => ?_)
    · skip
      refine lv_goto (pc := 1924) (tgt := 3400) hx hb dL_law_1924 (by decide) ?_
      exact kk ρ3 K1891 X1891 R1891 _ H locs _ _ ls hI3 ⟨by omega, by omega⟩ hw (lv_sub hl [2, 3, 4, 5, 6, 7] rfl)
    · skip
      have hc0 : cdUse M a b9 = 0 := by omega
      have hov : X1891 out 0 = wI r1891 := by rw [congrFun hxo 0, hv1 hc0, hv2 hc0]
      refine lv_aload_n (pc := 1912) hx hb dL_law_1912 rfl (lv_at hl 4 rfl) ?_
      refine ziconst (pc := 1913) (n := 0) hx hb dL_law_1913 ?_
      refine zlald (pc := 1914) hx hb hw hko3 ⟨by omega, by omega⟩ (by omega) dL_law_1914 ?_
      refine lv_iload (pc := 1915) hx hb dL_law_1915 (lv_at hl 0 rfl) ?_
      refine zi2lw (pc := 1917) hx hb dL_law_1917 ?_
      refine zlcmpE (pc := 1918) hx hb hov dL_law_1918 ?_
      refine zif_eq (pc := 1919) hx hb 1924 (by omega) dL_law_1919 (by decide) (fun c1919 => ?_) (fun c1919 => ?_)
      · skip
        refine lv_goto (pc := 1924) (tgt := 3400) hx hb dL_law_1924 (by decide) ?_
        exact kk ρ3 K1891 X1891 R1891 _ H locs _ _ ls hI3 ⟨by omega, by omega⟩ hw (lv_sub hl [2, 3, 4, 5, 6, 7] rfl)
      · skip
        exfalso; omega
  · skip
    exfalso; omega
