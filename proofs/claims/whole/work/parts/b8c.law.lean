set_option maxHeartbeats 4000000 in
set_option maxRecDepth 100000 in
theorem lc_24 {p : Program} {l : Launch} (hl9 : l.stackTraces = false) {e : Env} {s : State} {m : MethodId} {below : List Frame} {meth : Method} {c : Code} {Q : State → Prop} {b L : Nat} {xs : Nat → Int32} {Γ : zG} {K0 : zK} (E : LE p s m c b L xs K0) {ρ : zL} {K : zK} {X : zX} {Rf : zR} {M : zM} {x md out outD it : Nat} {i : Int} {cw sw : Nat} {H : Heap} {locs : List Loc} {ls : Array Slot} (hi : 0 ≤ i ∧ i + 8 ≤ (L : Int)) (hit : it ≤ 511) (hI : LI ρ K X Rf x md out outD M) (hcs : cw ≤ 100 + 1100 * it ∧ sw + ptR X Rf md ≤ 112000 + 14000 * it) (hw : Wd Γ (zA K0 s.heap.size) K X Rf s H locs) (hl : lv_has ls 9 [(5, .int (iI i)), (4, .ref outD), (3, .ref out), (2, .ref md), (1, .ref x), (0, .ref b)]) (kk : ∀ (ρ' : zL) (K' : zK) (X' : zX) (R' : zR) (M' : zM) (H' : Heap) (locs' : List Loc) (cl' sl' : Nat) (ls' : Array Slot), LI ρ' K' X' R' x md out outD M' → (cl' ≤ 100 + 1100 * (it + 1) ∧ sl' + ptR X' R' md ≤ 112000 + 14000 * (it + 1)) → Wd Γ (zA K0 s.heap.size) K' X' R' s H' locs' → lv_has ls' 9 [(5, .int (iI i)), (4, .ref outD), (3, .ref out), (2, .ref md), (1, .ref x), (0, .ref b)] → W p l e room_1 s m #[Value.ref b] below meth c H' locs' cl' sl' Q (F0 m 3400 ls' [])) : W p l e room_1 s m #[Value.ref b] below meth c H locs cw sw Q (F0 m 1927 ls []) := by
  obtain ⟨⟨hx, hb, hml, hown⟩, hG, h46, hX, hXs, hbl, hbA, hL⟩ := E
  obtain ⟨hC, hRr, hM, ⟨hko4, hlo4⟩, hko5, hlo5⟩ := id hI
  have hCk := hC.1.1
  have hloo : ρ out = 4000 ∨ ρ out = 4001 := Or.inl hlo4
  have hlod : ρ outD = 4000 ∨ ρ outD = 4001 := Or.inr hlo5
  obtain ⟨a, hq1⟩ : ∃ z : Int, scI xs (i + 1).toNat = z := ⟨_, rfl⟩
  have hf1 : fit a := by rw [← hq1]; exact scI_fit
  obtain ⟨v, hq2⟩ : ∃ z : Int, scI xs (i + 2).toNat = z := ⟨_, rfl⟩
  have hf2 : fit v := by rw [← hq2]; exact scI_fit
  refine lv_aload_n (pc := 1927) hx hb dL_law_1927 rfl (lv_at hl 4 rfl) ?_
  refine lv_aload_n (pc := 1928) hx hb dL_law_1928 rfl (lv_at hl 5 rfl) ?_
  refine lv_iload (pc := 1929) hx hb dL_law_1929 (lv_at hl 0 rfl) ?_
  refine ziconst (pc := 1931) (n := 1) hx hb dL_law_1931 ?_
  refine zadd (pc := 1932) hx hb dL_law_1932 ?_
  refine zsld (pc := 1933) hx hb hXs hbl hbA hL hw ⟨by omega, by omega⟩ hq1 dL_law_1933 ?_
  refine lv_aload_n (pc := 1934) hx hb dL_law_1934 rfl (lv_at hl 5 rfl) ?_
  refine lv_iload (pc := 1935) hx hb dL_law_1935 (lv_at hl 0 rfl) ?_
  refine ziconst (pc := 1937) (n := 2) hx hb dL_law_1937 ?_
  refine zadd (pc := 1938) hx hb dL_law_1938 ?_
  refine zsld (pc := 1939) hx hb hXs hbl hbA hL hw ⟨by omega, by omega⟩ hq2 dL_law_1939 ?_
  refine lv_aload_n (pc := 1940) hx hb dL_law_1940 rfl (lv_at hl 2 rfl) ?_
  refine zkI (pc := 1941) (zlrS (As := [.ref x, .int (iI a), .int (iI v), .ref out]) hx hb hml hown hG h46 hX hw (c_L_setChoice l hl9 Γ K X Rf x a v out (ρ) M (by (first | assumption | omega)) (by (first | assumption | omega)) (by (first | assumption | omega)) (by (first | assumption | omega)) (by (first | assumption | omega))) cb_L_setChoice wl_L_249 rfl ⟨Nat.le_of_ble_eq_true rfl, Nat.le_of_ble_eq_true rfl⟩ hl.1 rfl (Nat.le_of_ble_eq_true rfl) dL_law_1941 ⟨(by show cw + 2 ≤ 601024; omega), (by show sw + 12 ≤ 7293033; omega)⟩) hw (fun r1941 K1941 X1941 R1941 H locs hp1941 hw => ?_)
  obtain ⟨hk1, hv1, ρ1, hC1, hf1⟩ := hp1941
  obtain ⟨hR1, hpt1, hk1o⟩ := hI.c (Or.inl rfl) hC1 hf1
  have hmd1 := hR1.1.1
  refine lv_istore (pc := 1944) (lv' := [(6, .int (iI r1941)), (5, .int (iI i)), (4, .ref outD), (3, .ref out), (2, .ref md), (1, .ref x), (0, .ref b)]) hx hb dL_law_1944 hl (by decide) rfl (fun ls hl => ?_)
  refine lv_aload_n (pc := 1946) hx hb dL_law_1946 rfl (lv_at hl 4 rfl) ?_
  refine lv_aload_n (pc := 1947) hx hb dL_law_1947 rfl (lv_at hl 6 rfl) ?_
  refine lv_iload (pc := 1948) hx hb dL_law_1948 (lv_at hl 1 rfl) ?_
  refine ziconst (pc := 1950) (n := 1) hx hb dL_law_1950 ?_
  refine zadd (pc := 1951) hx hb dL_law_1951 ?_
  refine zsld (pc := 1952) hx hb hXs hbl hbA hL hw ⟨by omega, by omega⟩ hq1 dL_law_1952 ?_
  refine lv_aload_n (pc := 1953) hx hb dL_law_1953 rfl (lv_at hl 6 rfl) ?_
  refine lv_iload (pc := 1954) hx hb dL_law_1954 (lv_at hl 1 rfl) ?_
  refine ziconst (pc := 1956) (n := 2) hx hb dL_law_1956 ?_
  refine zadd (pc := 1957) hx hb dL_law_1957 ?_
  refine zsld (pc := 1958) hx hb hXs hbl hbA hL hw ⟨by omega, by omega⟩ hq2 dL_law_1958 ?_
  have hM1 : okM (if cdSet M a v (-6) 6 = 0 then (up2 M 17 (11 * a.toNat + 5) v) else M) := by split; (next h9 => exact okM_set5 hM h9); exact hM
  refine zkI (pc := 1959) (zrV (As := [.int (iI a), .int (iI v)]) hx hb hml hown hG hw (c_X9_setChoice l Γ K1941 X1941 R1941 md a v (rlb K1941 ρ1) M (by (first | assumption | omega)) (by (first | assumption | omega)) (by (first | assumption | omega))) (T := TX9) hmd1 rfl cb_X9_setChoice wl_L_251 rfl ⟨Nat.le_of_ble_eq_true rfl, Nat.le_of_ble_eq_true rfl⟩ hl.1 rfl (Nat.le_of_ble_eq_true rfl) dL_law_1959 ⟨(by show cw + 2 + 0 ≤ 601024; omega), (by show sw + 12 + 0 ≤ 7293033; omega)⟩) hw (fun r1959 K1959 X1959 R1959 H locs hp1959 hw => ?_)
  obtain ⟨hv2, h02, ρ2, hR2, hg2, hpt2⟩ : (cdSet M a v (-6) 6 = 0 → r1959 = serM M a.toNat 5) ∧ X1959 md 0 = cdSet M a v (-6) 6 ∧ ∃ ρ2, repR ρ2 K1959 X1959 R1959 md (if cdSet M a v (-6) 6 = 0 then (up2 M 17 (11 * a.toNat + 5) v) else M) ∧ frR (rlb K1941 ρ1) K1941 X1941 R1941 ρ2 K1959 X1959 R1959 ∧ ptR X1959 R1959 md ≤ ptR X1941 R1941 md + 5000 := by obtain ⟨a1, a2, ρ', a3, a4, a5⟩ := hp1959; exact ⟨a1, a2, ρ', a3, a4, a5⟩
  obtain ⟨hxo, hxd, ρ3, hI3⟩ := LI.r hC1 hk1o hM1 hR2 hg2
  have hmd3 := hI3.2.1.1.1
  have hko3 := hI3.2.2.2.1.1
  have hkd3 := hI3.2.2.2.2.1
  have hcb : 0 ≤ cdSet M a v (-6) 6 ∧ cdSet M a v (-6) 6 ≤ 3 := by unfold cdSet; (repeat' split) <;> omega
  refine lv_istore (pc := 1962) (lv' := [(7, .int (iI r1959)), (6, .int (iI r1941)), (5, .int (iI i)), (4, .ref outD), (3, .ref out), (2, .ref md), (1, .ref x), (0, .ref b)]) hx hb dL_law_1962 hl (by decide) rfl (fun ls hl => ?_)
  refine lv_aload_n (pc := 1964) hx hb dL_law_1964 rfl (lv_at hl 5 rfl) ?_
  refine zkIp (pc := 1965) (zrV (As := []) hx hb hml hown hG hw (c_X9_thrown l Γ K1959 X1959 R1959 md  (by (first | assumption | omega))) (T := TX9) hmd3 rfl cb_X9_thrown wl_L_172 rfl ⟨Nat.le_of_ble_eq_true rfl, Nat.le_of_ble_eq_true rfl⟩ hl.1 rfl (Nat.le_of_ble_eq_true rfl) dL_law_1965 ⟨(by show cw + 2 + 0 ≤ 601024; omega), (by show sw + 12 + 0 ≤ 7293033; omega)⟩) hw (fun r1965 H locs hp1965 hw => ?_)
  subst hp1965
  refine lv_iload (pc := 1968) hx hb dL_law_1968 (lv_at hl 1 rfl) ?_
  refine zicmp_eq (pc := 1970) hx hb 1975 (by omega) (by omega) dL_law_1970 (by decide) (fun c1970 => ?_) (fun c1970 => ?_)
  · skip
    refine lv_iload (pc := 1975) hx hb dL_law_1975 (lv_at hl 1 rfl) ?_
    refine zif_ne (pc := 1977) hx hb 1992 (by omega) dL_law_1977 (by decide) (fun c1977 => ?_) (fun c1977 => ?_)
    · skip
      refine lv_goto (pc := 1992) (tgt := 3400) hx hb dL_law_1992 (by decide) ?_
      exact kk ρ3 K1959 X1959 R1959 _ H locs _ _ ls hI3 ⟨by omega, by omega⟩ hw (lv_sub hl [2, 3, 4, 5, 6, 7] rfl)
    · skip
      have hc0 : cdSet M a v (-6) 6 = 0 := by omega
      have hov : X1959 out 0 = wI r1959 := by rw [congrFun hxo 0, hv1 hc0, hv2 hc0]
      refine lv_aload_n (pc := 1980) hx hb dL_law_1980 rfl (lv_at hl 4 rfl) ?_
      refine ziconst (pc := 1981) (n := 0) hx hb dL_law_1981 ?_
      refine zlald (pc := 1982) hx hb hw hko3 ⟨by omega, by omega⟩ (by omega) dL_law_1982 ?_
      refine lv_iload (pc := 1983) hx hb dL_law_1983 (lv_at hl 0 rfl) ?_
      refine zi2lw (pc := 1985) hx hb dL_law_1985 ?_
      refine zlcmpE (pc := 1986) hx hb hov dL_law_1986 ?_
      refine zif_eq (pc := 1987) hx hb 1992 (by omega) dL_law_1987 (by decide) (fun c1987 => ?_) (fun c1987 => ?_)
      · skip
        refine lv_goto (pc := 1992) (tgt := 3400) hx hb dL_law_1992 (by decide) ?_
        exact kk ρ3 K1959 X1959 R1959 _ H locs _ _ ls hI3 ⟨by omega, by omega⟩ hw (lv_sub hl [2, 3, 4, 5, 6, 7] rfl)
      · skip
        exfalso; omega
  · skip
    exfalso; omega
set_option maxHeartbeats 4000000 in
set_option maxRecDepth 100000 in
theorem lc_25 {p : Program} {l : Launch} (hl9 : l.stackTraces = false) {e : Env} {s : State} {m : MethodId} {below : List Frame} {meth : Method} {c : Code} {Q : State → Prop} {b L : Nat} {xs : Nat → Int32} {Γ : zG} {K0 : zK} (E : LE p s m c b L xs K0) {ρ : zL} {K : zK} {X : zX} {Rf : zR} {M : zM} {x md out outD it : Nat} {i : Int} {cw sw : Nat} {H : Heap} {locs : List Loc} {ls : Array Slot} (hi : 0 ≤ i ∧ i + 8 ≤ (L : Int)) (hit : it ≤ 511) (hI : LI ρ K X Rf x md out outD M) (hcs : cw ≤ 100 + 1100 * it ∧ sw + ptR X Rf md ≤ 112000 + 14000 * it) (hw : Wd Γ (zA K0 s.heap.size) K X Rf s H locs) (hl : lv_has ls 9 [(5, .int (iI i)), (4, .ref outD), (3, .ref out), (2, .ref md), (1, .ref x), (0, .ref b)]) (kk : ∀ (ρ' : zL) (K' : zK) (X' : zX) (R' : zR) (M' : zM) (H' : Heap) (locs' : List Loc) (cl' sl' : Nat) (ls' : Array Slot), LI ρ' K' X' R' x md out outD M' → (cl' ≤ 100 + 1100 * (it + 1) ∧ sl' + ptR X' R' md ≤ 112000 + 14000 * (it + 1)) → Wd Γ (zA K0 s.heap.size) K' X' R' s H' locs' → lv_has ls' 9 [(5, .int (iI i)), (4, .ref outD), (3, .ref out), (2, .ref md), (1, .ref x), (0, .ref b)] → W p l e room_1 s m #[Value.ref b] below meth c H' locs' cl' sl' Q (F0 m 3400 ls' [])) : W p l e room_1 s m #[Value.ref b] below meth c H locs cw sw Q (F0 m 1995 ls []) := by
  obtain ⟨⟨hx, hb, hml, hown⟩, hG, h46, hX, hXs, hbl, hbA, hL⟩ := E
  obtain ⟨hC, hRr, hM, ⟨hko4, hlo4⟩, hko5, hlo5⟩ := id hI
  have hCk := hC.1.1
  have hloo : ρ out = 4000 ∨ ρ out = 4001 := Or.inl hlo4
  have hlod : ρ outD = 4000 ∨ ρ outD = 4001 := Or.inr hlo5
  obtain ⟨a, hq1⟩ : ∃ z : Int, scI xs (i + 1).toNat = z := ⟨_, rfl⟩
  have hf1 : fit a := by rw [← hq1]; exact scI_fit
  obtain ⟨v, hq2⟩ : ∃ z : Int, scI xs (i + 2).toNat = z := ⟨_, rfl⟩
  have hf2 : fit v := by rw [← hq2]; exact scI_fit
  refine lv_aload_n (pc := 1995) hx hb dL_law_1995 rfl (lv_at hl 4 rfl) ?_
  refine lv_aload_n (pc := 1996) hx hb dL_law_1996 rfl (lv_at hl 5 rfl) ?_
  refine lv_iload (pc := 1997) hx hb dL_law_1997 (lv_at hl 0 rfl) ?_
  refine ziconst (pc := 1999) (n := 1) hx hb dL_law_1999 ?_
  refine zadd (pc := 2000) hx hb dL_law_2000 ?_
  refine zsld (pc := 2001) hx hb hXs hbl hbA hL hw ⟨by omega, by omega⟩ hq1 dL_law_2001 ?_
  refine lv_aload_n (pc := 2002) hx hb dL_law_2002 rfl (lv_at hl 5 rfl) ?_
  refine lv_iload (pc := 2003) hx hb dL_law_2003 (lv_at hl 0 rfl) ?_
  refine ziconst (pc := 2005) (n := 2) hx hb dL_law_2005 ?_
  refine zadd (pc := 2006) hx hb dL_law_2006 ?_
  refine zsld (pc := 2007) hx hb hXs hbl hbA hL hw ⟨by omega, by omega⟩ hq2 dL_law_2007 ?_
  refine lv_aload_n (pc := 2008) hx hb dL_law_2008 rfl (lv_at hl 2 rfl) ?_
  refine zkI (pc := 2009) (zlrS (As := [.ref x, .int (iI a), .int (iI v), .ref out]) hx hb hml hown hG h46 hX hw (c_L_setMost l hl9 Γ K X Rf x a v out (ρ) M (by (first | assumption | omega)) (by (first | assumption | omega)) (by (first | assumption | omega)) (by (first | assumption | omega)) (by (first | assumption | omega))) cb_L_setMost wl_L_252 rfl ⟨Nat.le_of_ble_eq_true rfl, Nat.le_of_ble_eq_true rfl⟩ hl.1 rfl (Nat.le_of_ble_eq_true rfl) dL_law_2009 ⟨(by show cw + 2 ≤ 601024; omega), (by show sw + 12 ≤ 7293033; omega)⟩) hw (fun r2009 K2009 X2009 R2009 H locs hp2009 hw => ?_)
  obtain ⟨hk1, hv1, ρ1, hC1, hf1⟩ := hp2009
  obtain ⟨hR1, hpt1, hk1o⟩ := hI.c (Or.inl rfl) hC1 hf1
  have hmd1 := hR1.1.1
  refine lv_istore (pc := 2012) (lv' := [(6, .int (iI r2009)), (5, .int (iI i)), (4, .ref outD), (3, .ref out), (2, .ref md), (1, .ref x), (0, .ref b)]) hx hb dL_law_2012 hl (by decide) rfl (fun ls hl => ?_)
  refine lv_aload_n (pc := 2014) hx hb dL_law_2014 rfl (lv_at hl 4 rfl) ?_
  refine lv_aload_n (pc := 2015) hx hb dL_law_2015 rfl (lv_at hl 6 rfl) ?_
  refine lv_iload (pc := 2016) hx hb dL_law_2016 (lv_at hl 1 rfl) ?_
  refine ziconst (pc := 2018) (n := 1) hx hb dL_law_2018 ?_
  refine zadd (pc := 2019) hx hb dL_law_2019 ?_
  refine zsld (pc := 2020) hx hb hXs hbl hbA hL hw ⟨by omega, by omega⟩ hq1 dL_law_2020 ?_
  refine lv_aload_n (pc := 2021) hx hb dL_law_2021 rfl (lv_at hl 6 rfl) ?_
  refine lv_iload (pc := 2022) hx hb dL_law_2022 (lv_at hl 1 rfl) ?_
  refine ziconst (pc := 2024) (n := 2) hx hb dL_law_2024 ?_
  refine zadd (pc := 2025) hx hb dL_law_2025 ?_
  refine zsld (pc := 2026) hx hb hXs hbl hbA hL hw ⟨by omega, by omega⟩ hq2 dL_law_2026 ?_
  have hM1 : okM (if cdSet M a v 0 500 = 0 then (up2 M 17 (11 * a.toNat + 6) v) else M) := by split; (next h9 => exact okM_set6 hM h9); exact hM
  refine zkI (pc := 2027) (zrV (As := [.int (iI a), .int (iI v)]) hx hb hml hown hG hw (c_X9_setMost l Γ K2009 X2009 R2009 md a v (rlb K2009 ρ1) M (by (first | assumption | omega)) (by (first | assumption | omega)) (by (first | assumption | omega))) (T := TX9) hmd1 rfl cb_X9_setMost wl_L_254 rfl ⟨Nat.le_of_ble_eq_true rfl, Nat.le_of_ble_eq_true rfl⟩ hl.1 rfl (Nat.le_of_ble_eq_true rfl) dL_law_2027 ⟨(by show cw + 2 + 0 ≤ 601024; omega), (by show sw + 12 + 0 ≤ 7293033; omega)⟩) hw (fun r2027 K2027 X2027 R2027 H locs hp2027 hw => ?_)
  obtain ⟨hv2, h02, ρ2, hR2, hg2, hpt2⟩ : (cdSet M a v 0 500 = 0 → r2027 = serM M a.toNat 6) ∧ X2027 md 0 = cdSet M a v 0 500 ∧ ∃ ρ2, repR ρ2 K2027 X2027 R2027 md (if cdSet M a v 0 500 = 0 then (up2 M 17 (11 * a.toNat + 6) v) else M) ∧ frR (rlb K2009 ρ1) K2009 X2009 R2009 ρ2 K2027 X2027 R2027 ∧ ptR X2027 R2027 md ≤ ptR X2009 R2009 md + 5000 := by obtain ⟨a1, a2, ρ', a3, a4, a5⟩ := hp2027; exact ⟨a1, a2, ρ', a3, a4, a5⟩
  obtain ⟨hxo, hxd, ρ3, hI3⟩ := LI.r hC1 hk1o hM1 hR2 hg2
  have hmd3 := hI3.2.1.1.1
  have hko3 := hI3.2.2.2.1.1
  have hkd3 := hI3.2.2.2.2.1
  have hcb : 0 ≤ cdSet M a v 0 500 ∧ cdSet M a v 0 500 ≤ 3 := by unfold cdSet; (repeat' split) <;> omega
  refine lv_istore (pc := 2030) (lv' := [(7, .int (iI r2027)), (6, .int (iI r2009)), (5, .int (iI i)), (4, .ref outD), (3, .ref out), (2, .ref md), (1, .ref x), (0, .ref b)]) hx hb dL_law_2030 hl (by decide) rfl (fun ls hl => ?_)
  refine lv_aload_n (pc := 2032) hx hb dL_law_2032 rfl (lv_at hl 5 rfl) ?_
  refine zkIp (pc := 2033) (zrV (As := []) hx hb hml hown hG hw (c_X9_thrown l Γ K2027 X2027 R2027 md  (by (first | assumption | omega))) (T := TX9) hmd3 rfl cb_X9_thrown wl_L_172 rfl ⟨Nat.le_of_ble_eq_true rfl, Nat.le_of_ble_eq_true rfl⟩ hl.1 rfl (Nat.le_of_ble_eq_true rfl) dL_law_2033 ⟨(by show cw + 2 + 0 ≤ 601024; omega), (by show sw + 12 + 0 ≤ 7293033; omega)⟩) hw (fun r2033 H locs hp2033 hw => ?_)
  subst hp2033
  refine lv_iload (pc := 2036) hx hb dL_law_2036 (lv_at hl 1 rfl) ?_
  refine zicmp_eq (pc := 2038) hx hb 2043 (by omega) (by omega) dL_law_2038 (by decide) (fun c2038 => ?_) (fun c2038 => ?_)
  · skip
    refine lv_iload (pc := 2043) hx hb dL_law_2043 (lv_at hl 1 rfl) ?_
    refine zif_ne (pc := 2045) hx hb 2060 (by omega) dL_law_2045 (by decide) (fun c2045 => ?_) (fun c2045 => ?_)
    · skip
      refine lv_goto (pc := 2060) (tgt := 3400) hx hb dL_law_2060 (by decide) ?_
      exact kk ρ3 K2027 X2027 R2027 _ H locs _ _ ls hI3 ⟨by omega, by omega⟩ hw (lv_sub hl [2, 3, 4, 5, 6, 7] rfl)
    · skip
      have hc0 : cdSet M a v 0 500 = 0 := by omega
      have hov : X2027 out 0 = wI r2027 := by rw [congrFun hxo 0, hv1 hc0, hv2 hc0]
      refine lv_aload_n (pc := 2048) hx hb dL_law_2048 rfl (lv_at hl 4 rfl) ?_
      refine ziconst (pc := 2049) (n := 0) hx hb dL_law_2049 ?_
      refine zlald (pc := 2050) hx hb hw hko3 ⟨by omega, by omega⟩ (by omega) dL_law_2050 ?_
      refine lv_iload (pc := 2051) hx hb dL_law_2051 (lv_at hl 0 rfl) ?_
      refine zi2lw (pc := 2053) hx hb dL_law_2053 ?_
      refine zlcmpE (pc := 2054) hx hb hov dL_law_2054 ?_
      refine zif_eq (pc := 2055) hx hb 2060 (by omega) dL_law_2055 (by decide) (fun c2055 => ?_) (fun c2055 => ?_)
      · skip
        refine lv_goto (pc := 2060) (tgt := 3400) hx hb dL_law_2060 (by decide) ?_
        exact kk ρ3 K2027 X2027 R2027 _ H locs _ _ ls hI3 ⟨by omega, by omega⟩ hw (lv_sub hl [2, 3, 4, 5, 6, 7] rfl)
      · skip
        exfalso; omega
  · skip
    exfalso; omega
set_option maxHeartbeats 4000000 in
set_option maxRecDepth 100000 in
theorem lc_26 {p : Program} {l : Launch} (hl9 : l.stackTraces = false) {e : Env} {s : State} {m : MethodId} {below : List Frame} {meth : Method} {c : Code} {Q : State → Prop} {b L : Nat} {xs : Nat → Int32} {Γ : zG} {K0 : zK} (E : LE p s m c b L xs K0) {ρ : zL} {K : zK} {X : zX} {Rf : zR} {M : zM} {x md out outD it : Nat} {i : Int} {cw sw : Nat} {H : Heap} {locs : List Loc} {ls : Array Slot} (hi : 0 ≤ i ∧ i + 8 ≤ (L : Int)) (hit : it ≤ 511) (hI : LI ρ K X Rf x md out outD M) (hcs : cw ≤ 100 + 1100 * it ∧ sw + ptR X Rf md ≤ 112000 + 14000 * it) (hw : Wd Γ (zA K0 s.heap.size) K X Rf s H locs) (hl : lv_has ls 9 [(5, .int (iI i)), (4, .ref outD), (3, .ref out), (2, .ref md), (1, .ref x), (0, .ref b)]) (kk : ∀ (ρ' : zL) (K' : zK) (X' : zX) (R' : zR) (M' : zM) (H' : Heap) (locs' : List Loc) (cl' sl' : Nat) (ls' : Array Slot), LI ρ' K' X' R' x md out outD M' → (cl' ≤ 100 + 1100 * (it + 1) ∧ sl' + ptR X' R' md ≤ 112000 + 14000 * (it + 1)) → Wd Γ (zA K0 s.heap.size) K' X' R' s H' locs' → lv_has ls' 9 [(5, .int (iI i)), (4, .ref outD), (3, .ref out), (2, .ref md), (1, .ref x), (0, .ref b)] → W p l e room_1 s m #[Value.ref b] below meth c H' locs' cl' sl' Q (F0 m 3400 ls' [])) : W p l e room_1 s m #[Value.ref b] below meth c H locs cw sw Q (F0 m 2063 ls []) := by
  obtain ⟨⟨hx, hb, hml, hown⟩, hG, h46, hX, hXs, hbl, hbA, hL⟩ := E
  obtain ⟨hC, hRr, hM, ⟨hko4, hlo4⟩, hko5, hlo5⟩ := id hI
  have hCk := hC.1.1
  have hloo : ρ out = 4000 ∨ ρ out = 4001 := Or.inl hlo4
  have hlod : ρ outD = 4000 ∨ ρ outD = 4001 := Or.inr hlo5
  obtain ⟨a, hq1⟩ : ∃ z : Int, scI xs (i + 1).toNat = z := ⟨_, rfl⟩
  have hf1 : fit a := by rw [← hq1]; exact scI_fit
  obtain ⟨v, hq2⟩ : ∃ z : Int, scI xs (i + 2).toNat = z := ⟨_, rfl⟩
  have hf2 : fit v := by rw [← hq2]; exact scI_fit
  refine lv_aload_n (pc := 2063) hx hb dL_law_2063 rfl (lv_at hl 4 rfl) ?_
  refine lv_aload_n (pc := 2064) hx hb dL_law_2064 rfl (lv_at hl 5 rfl) ?_
  refine lv_iload (pc := 2065) hx hb dL_law_2065 (lv_at hl 0 rfl) ?_
  refine ziconst (pc := 2067) (n := 1) hx hb dL_law_2067 ?_
  refine zadd (pc := 2068) hx hb dL_law_2068 ?_
  refine zsld (pc := 2069) hx hb hXs hbl hbA hL hw ⟨by omega, by omega⟩ hq1 dL_law_2069 ?_
  refine lv_aload_n (pc := 2070) hx hb dL_law_2070 rfl (lv_at hl 5 rfl) ?_
  refine lv_iload (pc := 2071) hx hb dL_law_2071 (lv_at hl 0 rfl) ?_
  refine ziconst (pc := 2073) (n := 2) hx hb dL_law_2073 ?_
  refine zadd (pc := 2074) hx hb dL_law_2074 ?_
  refine zsld (pc := 2075) hx hb hXs hbl hbA hL hw ⟨by omega, by omega⟩ hq2 dL_law_2075 ?_
  refine lv_aload_n (pc := 2076) hx hb dL_law_2076 rfl (lv_at hl 2 rfl) ?_
  refine zkI (pc := 2077) (zlrS (As := [.ref x, .int (iI a), .int (iI v), .ref out]) hx hb hml hown hG h46 hX hw (c_L_setLast l hl9 Γ K X Rf x a v out (ρ) M (by (first | assumption | omega)) (by (first | assumption | omega)) (by (first | assumption | omega)) (by (first | assumption | omega)) (by (first | assumption | omega))) cb_L_setLast wl_L_255 rfl ⟨Nat.le_of_ble_eq_true rfl, Nat.le_of_ble_eq_true rfl⟩ hl.1 rfl (Nat.le_of_ble_eq_true rfl) dL_law_2077 ⟨(by show cw + 2 ≤ 601024; omega), (by show sw + 12 ≤ 7293033; omega)⟩) hw (fun r2077 K2077 X2077 R2077 H locs hp2077 hw => ?_)
  obtain ⟨hk1, hv1, ρ1, hC1, hf1⟩ := hp2077
  obtain ⟨hR1, hpt1, hk1o⟩ := hI.c (Or.inl rfl) hC1 hf1
  have hmd1 := hR1.1.1
  refine lv_istore (pc := 2080) (lv' := [(6, .int (iI r2077)), (5, .int (iI i)), (4, .ref outD), (3, .ref out), (2, .ref md), (1, .ref x), (0, .ref b)]) hx hb dL_law_2080 hl (by decide) rfl (fun ls hl => ?_)
  refine lv_aload_n (pc := 2082) hx hb dL_law_2082 rfl (lv_at hl 4 rfl) ?_
  refine lv_aload_n (pc := 2083) hx hb dL_law_2083 rfl (lv_at hl 6 rfl) ?_
  refine lv_iload (pc := 2084) hx hb dL_law_2084 (lv_at hl 1 rfl) ?_
  refine ziconst (pc := 2086) (n := 1) hx hb dL_law_2086 ?_
  refine zadd (pc := 2087) hx hb dL_law_2087 ?_
  refine zsld (pc := 2088) hx hb hXs hbl hbA hL hw ⟨by omega, by omega⟩ hq1 dL_law_2088 ?_
  refine lv_aload_n (pc := 2089) hx hb dL_law_2089 rfl (lv_at hl 6 rfl) ?_
  refine lv_iload (pc := 2090) hx hb dL_law_2090 (lv_at hl 1 rfl) ?_
  refine ziconst (pc := 2092) (n := 2) hx hb dL_law_2092 ?_
  refine zadd (pc := 2093) hx hb dL_law_2093 ?_
  refine zsld (pc := 2094) hx hb hXs hbl hbA hL hw ⟨by omega, by omega⟩ hq2 dL_law_2094 ?_
  have hM1 : okM (if cdSet M a v (serM M a.toNat 1 / 1440) (serM M a.toNat 8) = 0 then (up2 M 17 (11 * a.toNat + 7) v) else M) := by split; (next h9 => exact okM_set7 hM h9); exact hM
  refine zkI (pc := 2095) (zrV (As := [.int (iI a), .int (iI v)]) hx hb hml hown hG hw (c_X9_setLast l Γ K2077 X2077 R2077 md a v (rlb K2077 ρ1) M (by (first | assumption | omega)) (by (first | assumption | omega)) (by (first | assumption | omega))) (T := TX9) hmd1 rfl cb_X9_setLast wl_L_257 rfl ⟨Nat.le_of_ble_eq_true rfl, Nat.le_of_ble_eq_true rfl⟩ hl.1 rfl (Nat.le_of_ble_eq_true rfl) dL_law_2095 ⟨(by show cw + 2 + 0 ≤ 601024; omega), (by show sw + 12 + 0 ≤ 7293033; omega)⟩) hw (fun r2095 K2095 X2095 R2095 H locs hp2095 hw => ?_)
  obtain ⟨hv2, h02, ρ2, hR2, hg2, hpt2⟩ : (cdSet M a v (serM M a.toNat 1 / 1440) (serM M a.toNat 8) = 0 → r2095 = serM M a.toNat 7) ∧ X2095 md 0 = cdSet M a v (serM M a.toNat 1 / 1440) (serM M a.toNat 8) ∧ ∃ ρ2, repR ρ2 K2095 X2095 R2095 md (if cdSet M a v (serM M a.toNat 1 / 1440) (serM M a.toNat 8) = 0 then (up2 M 17 (11 * a.toNat + 7) v) else M) ∧ frR (rlb K2077 ρ1) K2077 X2077 R2077 ρ2 K2095 X2095 R2095 ∧ ptR X2095 R2095 md ≤ ptR X2077 R2077 md + 5000 := by obtain ⟨a1, a2, ρ', a3, a4, a5⟩ := hp2095; exact ⟨a1, a2, ρ', a3, a4, a5⟩
  obtain ⟨hxo, hxd, ρ3, hI3⟩ := LI.r hC1 hk1o hM1 hR2 hg2
  have hmd3 := hI3.2.1.1.1
  have hko3 := hI3.2.2.2.1.1
  have hkd3 := hI3.2.2.2.2.1
  have hcb : 0 ≤ cdSet M a v (serM M a.toNat 1 / 1440) (serM M a.toNat 8) ∧ cdSet M a v (serM M a.toNat 1 / 1440) (serM M a.toNat 8) ≤ 3 := by unfold cdSet; (repeat' split) <;> omega
  refine lv_istore (pc := 2098) (lv' := [(7, .int (iI r2095)), (6, .int (iI r2077)), (5, .int (iI i)), (4, .ref outD), (3, .ref out), (2, .ref md), (1, .ref x), (0, .ref b)]) hx hb dL_law_2098 hl (by decide) rfl (fun ls hl => ?_)
  refine lv_aload_n (pc := 2100) hx hb dL_law_2100 rfl (lv_at hl 5 rfl) ?_
  refine zkIp (pc := 2101) (zrV (As := []) hx hb hml hown hG hw (c_X9_thrown l Γ K2095 X2095 R2095 md  (by (first | assumption | omega))) (T := TX9) hmd3 rfl cb_X9_thrown wl_L_172 rfl ⟨Nat.le_of_ble_eq_true rfl, Nat.le_of_ble_eq_true rfl⟩ hl.1 rfl (Nat.le_of_ble_eq_true rfl) dL_law_2101 ⟨(by show cw + 2 + 0 ≤ 601024; omega), (by show sw + 12 + 0 ≤ 7293033; omega)⟩) hw (fun r2101 H locs hp2101 hw => ?_)
  subst hp2101
  refine lv_iload (pc := 2104) hx hb dL_law_2104 (lv_at hl 1 rfl) ?_
  refine zicmp_eq (pc := 2106) hx hb 2111 (by omega) (by omega) dL_law_2106 (by decide) (fun c2106 => ?_) (fun c2106 => ?_)
  · skip
    refine lv_iload (pc := 2111) hx hb dL_law_2111 (lv_at hl 1 rfl) ?_
    refine zif_ne (pc := 2113) hx hb 2128 (by omega) dL_law_2113 (by decide) (fun c2113 => ?_) (fun c2113 => ?_)
    · skip
      refine lv_goto (pc := 2128) (tgt := 3400) hx hb dL_law_2128 (by decide) ?_
      exact kk ρ3 K2095 X2095 R2095 _ H locs _ _ ls hI3 ⟨by omega, by omega⟩ hw (lv_sub hl [2, 3, 4, 5, 6, 7] rfl)
    · skip
      have hc0 : cdSet M a v (serM M a.toNat 1 / 1440) (serM M a.toNat 8) = 0 := by omega
      have hov : X2095 out 0 = wI r2095 := by rw [congrFun hxo 0, hv1 hc0, hv2 hc0]
      refine lv_aload_n (pc := 2116) hx hb dL_law_2116 rfl (lv_at hl 4 rfl) ?_
      refine ziconst (pc := 2117) (n := 0) hx hb dL_law_2117 ?_
      refine zlald (pc := 2118) hx hb hw hko3 ⟨by omega, by omega⟩ (by omega) dL_law_2118 ?_
      refine lv_iload (pc := 2119) hx hb dL_law_2119 (lv_at hl 0 rfl) ?_
      refine zi2lw (pc := 2121) hx hb dL_law_2121 ?_
      refine zlcmpE (pc := 2122) hx hb hov dL_law_2122 ?_
      refine zif_eq (pc := 2123) hx hb 2128 (by omega) dL_law_2123 (by decide) (fun c2123 => ?_) (fun c2123 => ?_)
      · skip
        refine lv_goto (pc := 2128) (tgt := 3400) hx hb dL_law_2128 (by decide) ?_
        exact kk ρ3 K2095 X2095 R2095 _ H locs _ _ ls hI3 ⟨by omega, by omega⟩ hw (lv_sub hl [2, 3, 4, 5, 6, 7] rfl)
      · skip
        exfalso; omega
  · skip
    exfalso; omega
set_option maxHeartbeats 4000000 in
set_option maxRecDepth 100000 in
theorem lc_27 {p : Program} {l : Launch} (hl9 : l.stackTraces = false) {e : Env} {s : State} {m : MethodId} {below : List Frame} {meth : Method} {c : Code} {Q : State → Prop} {b L : Nat} {xs : Nat → Int32} {Γ : zG} {K0 : zK} (E : LE p s m c b L xs K0) {ρ : zL} {K : zK} {X : zX} {Rf : zR} {M : zM} {x md out outD it : Nat} {i : Int} {cw sw : Nat} {H : Heap} {locs : List Loc} {ls : Array Slot} (hi : 0 ≤ i ∧ i + 8 ≤ (L : Int)) (hit : it ≤ 511) (hI : LI ρ K X Rf x md out outD M) (hcs : cw ≤ 100 + 1100 * it ∧ sw + ptR X Rf md ≤ 112000 + 14000 * it) (hw : Wd Γ (zA K0 s.heap.size) K X Rf s H locs) (hl : lv_has ls 9 [(5, .int (iI i)), (4, .ref outD), (3, .ref out), (2, .ref md), (1, .ref x), (0, .ref b)]) (kk : ∀ (ρ' : zL) (K' : zK) (X' : zX) (R' : zR) (M' : zM) (H' : Heap) (locs' : List Loc) (cl' sl' : Nat) (ls' : Array Slot), LI ρ' K' X' R' x md out outD M' → (cl' ≤ 100 + 1100 * (it + 1) ∧ sl' + ptR X' R' md ≤ 112000 + 14000 * (it + 1)) → Wd Γ (zA K0 s.heap.size) K' X' R' s H' locs' → lv_has ls' 9 [(5, .int (iI i)), (4, .ref outD), (3, .ref out), (2, .ref md), (1, .ref x), (0, .ref b)] → W p l e room_1 s m #[Value.ref b] below meth c H' locs' cl' sl' Q (F0 m 3400 ls' [])) : W p l e room_1 s m #[Value.ref b] below meth c H locs cw sw Q (F0 m 2131 ls []) := by
  obtain ⟨⟨hx, hb, hml, hown⟩, hG, h46, hX, hXs, hbl, hbA, hL⟩ := E
  obtain ⟨hC, hRr, hM, ⟨hko4, hlo4⟩, hko5, hlo5⟩ := id hI
  have hCk := hC.1.1
  have hloo : ρ out = 4000 ∨ ρ out = 4001 := Or.inl hlo4
  have hlod : ρ outD = 4000 ∨ ρ outD = 4001 := Or.inr hlo5
  obtain ⟨a, hq1⟩ : ∃ z : Int, scI xs (i + 1).toNat = z := ⟨_, rfl⟩
  have hf1 : fit a := by rw [← hq1]; exact scI_fit
  obtain ⟨day, hq2⟩ : ∃ z : Int, scI xs (i + 2).toNat = z := ⟨_, rfl⟩
  have hf2 : fit day := by rw [← hq2]; exact scI_fit
  refine lv_aload_n (pc := 2131) hx hb dL_law_2131 rfl (lv_at hl 4 rfl) ?_
  refine lv_aload_n (pc := 2132) hx hb dL_law_2132 rfl (lv_at hl 5 rfl) ?_
  refine lv_iload (pc := 2133) hx hb dL_law_2133 (lv_at hl 0 rfl) ?_
  refine ziconst (pc := 2135) (n := 1) hx hb dL_law_2135 ?_
  refine zadd (pc := 2136) hx hb dL_law_2136 ?_
  refine zsld (pc := 2137) hx hb hXs hbl hbA hL hw ⟨by omega, by omega⟩ hq1 dL_law_2137 ?_
  refine lv_aload_n (pc := 2138) hx hb dL_law_2138 rfl (lv_at hl 5 rfl) ?_
  refine lv_iload (pc := 2139) hx hb dL_law_2139 (lv_at hl 0 rfl) ?_
  refine ziconst (pc := 2141) (n := 2) hx hb dL_law_2141 ?_
  refine zadd (pc := 2142) hx hb dL_law_2142 ?_
  refine zsld (pc := 2143) hx hb hXs hbl hbA hL hw ⟨by omega, by omega⟩ hq2 dL_law_2143 ?_
  refine lv_aload_n (pc := 2144) hx hb dL_law_2144 rfl (lv_at hl 2 rfl) ?_
  refine zkI (pc := 2145) (zlrS (As := [.ref x, .int (iI a), .int (iI day), .ref out]) hx hb hml hown hG h46 hX hw (c_L_except l hl9 Γ K X Rf x a day out (ρ) M (by (first | assumption | omega)) (by (first | assumption | omega)) (by (first | assumption | omega)) (by (first | assumption | omega)) (by (first | assumption | omega))) cb_L_except wl_L_258 rfl ⟨Nat.le_of_ble_eq_true rfl, Nat.le_of_ble_eq_true rfl⟩ hl.1 rfl (Nat.le_of_ble_eq_true rfl) dL_law_2145 ⟨(by show cw + 3 ≤ 601024; omega), (by show sw + 18 ≤ 7293033; omega)⟩) hw (fun r2145 K2145 X2145 R2145 H locs hp2145 hw => ?_)
  obtain ⟨hk1, hv1, ρ1, hC1, hf1⟩ := hp2145
  obtain ⟨hR1, hpt1, hk1o⟩ := hI.c (Or.inl rfl) hC1 hf1
  have hmd1 := hR1.1.1
  refine lv_istore (pc := 2148) (lv' := [(6, .int (iI r2145)), (5, .int (iI i)), (4, .ref outD), (3, .ref out), (2, .ref md), (1, .ref x), (0, .ref b)]) hx hb dL_law_2148 hl (by decide) rfl (fun ls hl => ?_)
  refine lv_aload_n (pc := 2150) hx hb dL_law_2150 rfl (lv_at hl 4 rfl) ?_
  refine lv_aload_n (pc := 2151) hx hb dL_law_2151 rfl (lv_at hl 6 rfl) ?_
  refine lv_iload (pc := 2152) hx hb dL_law_2152 (lv_at hl 1 rfl) ?_
  refine ziconst (pc := 2154) (n := 1) hx hb dL_law_2154 ?_
  refine zadd (pc := 2155) hx hb dL_law_2155 ?_
  refine zsld (pc := 2156) hx hb hXs hbl hbA hL hw ⟨by omega, by omega⟩ hq1 dL_law_2156 ?_
  refine lv_aload_n (pc := 2157) hx hb dL_law_2157 rfl (lv_at hl 6 rfl) ?_
  refine lv_iload (pc := 2158) hx hb dL_law_2158 (lv_at hl 1 rfl) ?_
  refine ziconst (pc := 2160) (n := 2) hx hb dL_law_2160 ?_
  refine zadd (pc := 2161) hx hb dL_law_2161 ?_
  refine zsld (pc := 2162) hx hb hXs hbl hbA hL hw ⟨by omega, by omega⟩ hq2 dL_law_2162 ?_
  have hM1 : okM (if cdExc M a day = 0 then (nxExc M a day) else M) := by split; (next h9 => exact okM_exc hM h9); exact hM
  refine zkI (pc := 2163) (zrV (As := [.int (iI a), .int (iI day)]) hx hb hml hown hG hw (c_X9_except l Γ K2145 X2145 R2145 md a day (rlb K2145 ρ1) M (by (first | assumption | omega)) (by (first | assumption | omega)) (by (first | assumption | omega))) (T := TX9) hmd1 rfl cb_X9_except wl_L_260 rfl ⟨Nat.le_of_ble_eq_true rfl, Nat.le_of_ble_eq_true rfl⟩ hl.1 rfl (Nat.le_of_ble_eq_true rfl) dL_law_2163 ⟨(by show cw + 3 + 0 ≤ 601024; omega), (by show sw + 18 + 0 ≤ 7293033; omega)⟩) hw (fun r2163 K2163 X2163 R2163 H locs hp2163 hw => ?_)
  obtain ⟨hv2, h02, ρ2, hR2, hg2, hpt2⟩ : (cdExc M a day = 0 → r2163 = vlExc M a day) ∧ X2163 md 0 = cdExc M a day ∧ ∃ ρ2, repR ρ2 K2163 X2163 R2163 md (if cdExc M a day = 0 then (nxExc M a day) else M) ∧ frR (rlb K2145 ρ1) K2145 X2145 R2145 ρ2 K2163 X2163 R2163 ∧ ptR X2163 R2163 md ≤ ptR X2145 R2145 md + 5000 := by obtain ⟨a1, a2, ρ', a3, a4, a5⟩ := hp2163; exact ⟨a1, a2, ρ', a3, a4, a5⟩
  obtain ⟨hxo, hxd, ρ3, hI3⟩ := LI.r hC1 hk1o hM1 hR2 hg2
  have hmd3 := hI3.2.1.1.1
  have hko3 := hI3.2.2.2.1.1
  have hkd3 := hI3.2.2.2.2.1
  have hcb : 0 ≤ cdExc M a day ∧ cdExc M a day ≤ 3 := by unfold cdExc; (repeat' split) <;> omega
  refine lv_istore (pc := 2166) (lv' := [(7, .int (iI r2163)), (6, .int (iI r2145)), (5, .int (iI i)), (4, .ref outD), (3, .ref out), (2, .ref md), (1, .ref x), (0, .ref b)]) hx hb dL_law_2166 hl (by decide) rfl (fun ls hl => ?_)
  refine lv_aload_n (pc := 2168) hx hb dL_law_2168 rfl (lv_at hl 5 rfl) ?_
  refine zkIp (pc := 2169) (zrV (As := []) hx hb hml hown hG hw (c_X9_thrown l Γ K2163 X2163 R2163 md  (by (first | assumption | omega))) (T := TX9) hmd3 rfl cb_X9_thrown wl_L_172 rfl ⟨Nat.le_of_ble_eq_true rfl, Nat.le_of_ble_eq_true rfl⟩ hl.1 rfl (Nat.le_of_ble_eq_true rfl) dL_law_2169 ⟨(by show cw + 3 + 0 ≤ 601024; omega), (by show sw + 18 + 0 ≤ 7293033; omega)⟩) hw (fun r2169 H locs hp2169 hw => ?_)
  subst hp2169
  refine lv_iload (pc := 2172) hx hb dL_law_2172 (lv_at hl 1 rfl) ?_
  refine zicmp_eq (pc := 2174) hx hb 2179 (by omega) (by omega) dL_law_2174 (by decide) (fun c2174 => ?_) (fun c2174 => ?_)
  · skip
    refine lv_iload (pc := 2179) hx hb dL_law_2179 (lv_at hl 1 rfl) ?_
    refine zif_ne (pc := 2181) hx hb 2196 (by omega) dL_law_2181 (by decide) (fun c2181 => ?_) (fun c2181 => ?_)
    · skip
      refine lv_goto (pc := 2196) (tgt := 3400) hx hb dL_law_2196 (by decide) ?_
      exact kk ρ3 K2163 X2163 R2163 _ H locs _ _ ls hI3 ⟨by omega, by omega⟩ hw (lv_sub hl [2, 3, 4, 5, 6, 7] rfl)
    · skip
      have hc0 : cdExc M a day = 0 := by omega
      have hov : X2163 out 0 = wI r2163 := by rw [congrFun hxo 0, hv1 hc0, hv2 hc0]
      refine lv_aload_n (pc := 2184) hx hb dL_law_2184 rfl (lv_at hl 4 rfl) ?_
      refine ziconst (pc := 2185) (n := 0) hx hb dL_law_2185 ?_
      refine zlald (pc := 2186) hx hb hw hko3 ⟨by omega, by omega⟩ (by omega) dL_law_2186 ?_
      refine lv_iload (pc := 2187) hx hb dL_law_2187 (lv_at hl 0 rfl) ?_
      refine zi2lw (pc := 2189) hx hb dL_law_2189 ?_
      refine zlcmpE (pc := 2190) hx hb hov dL_law_2190 ?_
      refine zif_eq (pc := 2191) hx hb 2196 (by omega) dL_law_2191 (by decide) (fun c2191 => ?_) (fun c2191 => ?_)
      · skip
        refine lv_goto (pc := 2196) (tgt := 3400) hx hb dL_law_2196 (by decide) ?_
        exact kk ρ3 K2163 X2163 R2163 _ H locs _ _ ls hI3 ⟨by omega, by omega⟩ hw (lv_sub hl [2, 3, 4, 5, 6, 7] rfl)
      · skip
        exfalso; omega
  · skip
    exfalso; omega
set_option maxHeartbeats 4000000 in
set_option maxRecDepth 100000 in
theorem lc_28 {p : Program} {l : Launch} (hl9 : l.stackTraces = false) {e : Env} {s : State} {m : MethodId} {below : List Frame} {meth : Method} {c : Code} {Q : State → Prop} {b L : Nat} {xs : Nat → Int32} {Γ : zG} {K0 : zK} (E : LE p s m c b L xs K0) {ρ : zL} {K : zK} {X : zX} {Rf : zR} {M : zM} {x md out outD it : Nat} {i : Int} {cw sw : Nat} {H : Heap} {locs : List Loc} {ls : Array Slot} (hi : 0 ≤ i ∧ i + 8 ≤ (L : Int)) (hit : it ≤ 511) (hI : LI ρ K X Rf x md out outD M) (hcs : cw ≤ 100 + 1100 * it ∧ sw + ptR X Rf md ≤ 112000 + 14000 * it) (hw : Wd Γ (zA K0 s.heap.size) K X Rf s H locs) (hl : lv_has ls 9 [(5, .int (iI i)), (4, .ref outD), (3, .ref out), (2, .ref md), (1, .ref x), (0, .ref b)]) (kk : ∀ (ρ' : zL) (K' : zK) (X' : zX) (R' : zR) (M' : zM) (H' : Heap) (locs' : List Loc) (cl' sl' : Nat) (ls' : Array Slot), LI ρ' K' X' R' x md out outD M' → (cl' ≤ 100 + 1100 * (it + 1) ∧ sl' + ptR X' R' md ≤ 112000 + 14000 * (it + 1)) → Wd Γ (zA K0 s.heap.size) K' X' R' s H' locs' → lv_has ls' 9 [(5, .int (iI i)), (4, .ref outD), (3, .ref out), (2, .ref md), (1, .ref x), (0, .ref b)] → W p l e room_1 s m #[Value.ref b] below meth c H' locs' cl' sl' Q (F0 m 3400 ls' [])) : W p l e room_1 s m #[Value.ref b] below meth c H locs cw sw Q (F0 m 2199 ls []) := by
  obtain ⟨⟨hx, hb, hml, hown⟩, hG, h46, hX, hXs, hbl, hbA, hL⟩ := E
  obtain ⟨hC, hRr, hM, ⟨hko4, hlo4⟩, hko5, hlo5⟩ := id hI
  have hCk := hC.1.1
  have hloo : ρ out = 4000 ∨ ρ out = 4001 := Or.inl hlo4
  have hlod : ρ outD = 4000 ∨ ρ outD = 4001 := Or.inr hlo5
  obtain ⟨a, hq1⟩ : ∃ z : Int, scI xs (i + 1).toNat = z := ⟨_, rfl⟩
  have hf1 : fit a := by rw [← hq1]; exact scI_fit
  refine lv_aload_n (pc := 2199) hx hb dL_law_2199 rfl (lv_at hl 4 rfl) ?_
  refine lv_aload_n (pc := 2200) hx hb dL_law_2200 rfl (lv_at hl 5 rfl) ?_
  refine lv_iload (pc := 2201) hx hb dL_law_2201 (lv_at hl 0 rfl) ?_
  refine ziconst (pc := 2203) (n := 1) hx hb dL_law_2203 ?_
  refine zadd (pc := 2204) hx hb dL_law_2204 ?_
  refine zsld (pc := 2205) hx hb hXs hbl hbA hL hw ⟨by omega, by omega⟩ hq1 dL_law_2205 ?_
  refine lv_aload_n (pc := 2206) hx hb dL_law_2206 rfl (lv_at hl 2 rfl) ?_
  refine zkI (pc := 2207) (zlrS (As := [.ref x, .int (iI a), .ref out]) hx hb hml hown hG h46 hX hw (c_L_dates l hl9 Γ K X Rf x a out (ρ) M (by (first | assumption | omega)) (by (first | assumption | omega)) (by (first | assumption | omega)) (by (first | assumption | omega)) (by (first | assumption | omega))) cb_L_dates wl_L_261 rfl ⟨Nat.le_of_ble_eq_true rfl, Nat.le_of_ble_eq_true rfl⟩ hl.1 rfl (Nat.le_of_ble_eq_true rfl) dL_law_2207 ⟨(by show cw + 1 ≤ 601024; omega), (by show sw + 6 ≤ 7293033; omega)⟩) hw (fun r2207 K2207 X2207 R2207 H locs hp2207 hw => ?_)
  obtain ⟨hk1, hv1, ρ1, hC1, hf1⟩ := hp2207
  obtain ⟨hR1, hpt1, hk1o⟩ := hI.c (Or.inl rfl) hC1 hf1
  have hmd1 := hR1.1.1
  refine lv_istore (pc := 2210) (lv' := [(6, .int (iI r2207)), (5, .int (iI i)), (4, .ref outD), (3, .ref out), (2, .ref md), (1, .ref x), (0, .ref b)]) hx hb dL_law_2210 hl (by decide) rfl (fun ls hl => ?_)
  refine lv_aload_n (pc := 2212) hx hb dL_law_2212 rfl (lv_at hl 4 rfl) ?_
  refine lv_aload_n (pc := 2213) hx hb dL_law_2213 rfl (lv_at hl 6 rfl) ?_
  refine lv_iload (pc := 2214) hx hb dL_law_2214 (lv_at hl 1 rfl) ?_
  refine ziconst (pc := 2216) (n := 1) hx hb dL_law_2216 ?_
  refine zadd (pc := 2217) hx hb dL_law_2217 ?_
  refine zsld (pc := 2218) hx hb hXs hbl hbA hL hw ⟨by omega, by omega⟩ hq1 dL_law_2218 ?_
  have hM1 : okM M := by exact hM
  refine zkI (pc := 2219) (zrV (As := [.int (iI a)]) hx hb hml hown hG hw (c_X9_dates l Γ K2207 X2207 R2207 md a (rlb K2207 ρ1) M (by (first | assumption | omega)) (by (first | assumption | omega)) (by (first | assumption | omega))) (T := TX9) hmd1 rfl cb_X9_dates wl_L_263 rfl ⟨Nat.le_of_ble_eq_true rfl, Nat.le_of_ble_eq_true rfl⟩ hl.1 rfl (Nat.le_of_ble_eq_true rfl) dL_law_2219 ⟨(by show cw + 1 + 1 ≤ 601024; omega), (by show sw + 6 + 4001 ≤ 7293033; omega)⟩) hw (fun r2219 K2219 X2219 R2219 H locs hp2219 hw => ?_)
  obtain ⟨hv2, h02, ρ2, hR2, hg2, hpt2⟩ : (cdSer M a = 0 → r2219 = ((datM M a.toNat).length : Int)) ∧ X2219 md 0 = cdSer M a ∧ ∃ ρ2, repR ρ2 K2219 X2219 R2219 md M ∧ frR (rlb K2207 ρ1) K2207 X2207 R2207 ρ2 K2219 X2219 R2219 ∧ ptR X2219 R2219 md ≤ ptR X2207 R2207 md := by obtain ⟨a1, a2, ⟨ρ', a3, a4⟩, a5, -⟩ := hp2219; exact ⟨a1, a2, ρ', a3, a4, ptR_ls a5⟩
  obtain ⟨hxo, hxd, ρ3, hI3⟩ := LI.r hC1 hk1o hM1 hR2 hg2
  have hmd3 := hI3.2.1.1.1
  have hko3 := hI3.2.2.2.1.1
  have hkd3 := hI3.2.2.2.2.1
  have hcb : 0 ≤ cdSer M a ∧ cdSer M a ≤ 3 := by unfold cdSer; (repeat' split) <;> omega
  refine lv_istore (pc := 2222) (lv' := [(7, .int (iI r2219)), (6, .int (iI r2207)), (5, .int (iI i)), (4, .ref outD), (3, .ref out), (2, .ref md), (1, .ref x), (0, .ref b)]) hx hb dL_law_2222 hl (by decide) rfl (fun ls hl => ?_)
  refine lv_aload_n (pc := 2224) hx hb dL_law_2224 rfl (lv_at hl 5 rfl) ?_
  refine zkIp (pc := 2225) (zrV (As := []) hx hb hml hown hG hw (c_X9_thrown l Γ K2219 X2219 R2219 md  (by (first | assumption | omega))) (T := TX9) hmd3 rfl cb_X9_thrown wl_L_172 rfl ⟨Nat.le_of_ble_eq_true rfl, Nat.le_of_ble_eq_true rfl⟩ hl.1 rfl (Nat.le_of_ble_eq_true rfl) dL_law_2225 ⟨(by show cw + 1 + 1 + 0 ≤ 601024; omega), (by show sw + 6 + 4001 + 0 ≤ 7293033; omega)⟩) hw (fun r2225 H locs hp2225 hw => ?_)
  subst hp2225
  refine lv_iload (pc := 2228) hx hb dL_law_2228 (lv_at hl 1 rfl) ?_
  refine zicmp_eq (pc := 2230) hx hb 2235 (by omega) (by omega) dL_law_2230 (by decide) (fun c2230 => ?_) (fun c2230 => ?_)
  · skip
    refine lv_iload (pc := 2235) hx hb dL_law_2235 (lv_at hl 1 rfl) ?_
    refine zif_ne (pc := 2237) hx hb 2252 (by omega) dL_law_2237 (by decide) (fun c2237 => ?_) (fun c2237 => ?_)
    · skip
      refine lv_goto (pc := 2252) (tgt := 3400) hx hb dL_law_2252 (by decide) ?_
      exact kk ρ3 K2219 X2219 R2219 _ H locs _ _ ls hI3 ⟨by omega, by omega⟩ hw (lv_sub hl [2, 3, 4, 5, 6, 7] rfl)
    · skip
      have hc0 : cdSer M a = 0 := by omega
      have hov : X2219 out 0 = wI r2219 := by rw [congrFun hxo 0, hv1 hc0, hv2 hc0]
      refine lv_aload_n (pc := 2240) hx hb dL_law_2240 rfl (lv_at hl 4 rfl) ?_
      refine ziconst (pc := 2241) (n := 0) hx hb dL_law_2241 ?_
      refine zlald (pc := 2242) hx hb hw hko3 ⟨by omega, by omega⟩ (by omega) dL_law_2242 ?_
      refine lv_iload (pc := 2243) hx hb dL_law_2243 (lv_at hl 0 rfl) ?_
      refine zi2lw (pc := 2245) hx hb dL_law_2245 ?_
      refine zlcmpE (pc := 2246) hx hb hov dL_law_2246 ?_
      refine zif_eq (pc := 2247) hx hb 2252 (by omega) dL_law_2247 (by decide) (fun c2247 => ?_) (fun c2247 => ?_)
      · skip
        refine lv_goto (pc := 2252) (tgt := 3400) hx hb dL_law_2252 (by decide) ?_
        exact kk ρ3 K2219 X2219 R2219 _ H locs _ _ ls hI3 ⟨by omega, by omega⟩ hw (lv_sub hl [2, 3, 4, 5, 6, 7] rfl)
      · skip
        exfalso; omega
  · skip
    exfalso; omega
set_option maxHeartbeats 4000000 in
set_option maxRecDepth 100000 in
theorem lc_29 {p : Program} {l : Launch} (hl9 : l.stackTraces = false) {e : Env} {s : State} {m : MethodId} {below : List Frame} {meth : Method} {c : Code} {Q : State → Prop} {b L : Nat} {xs : Nat → Int32} {Γ : zG} {K0 : zK} (E : LE p s m c b L xs K0) {ρ : zL} {K : zK} {X : zX} {Rf : zR} {M : zM} {x md out outD it : Nat} {i : Int} {cw sw : Nat} {H : Heap} {locs : List Loc} {ls : Array Slot} (hi : 0 ≤ i ∧ i + 8 ≤ (L : Int)) (hit : it ≤ 511) (hI : LI ρ K X Rf x md out outD M) (hcs : cw ≤ 100 + 1100 * it ∧ sw + ptR X Rf md ≤ 112000 + 14000 * it) (hw : Wd Γ (zA K0 s.heap.size) K X Rf s H locs) (hl : lv_has ls 9 [(5, .int (iI i)), (4, .ref outD), (3, .ref out), (2, .ref md), (1, .ref x), (0, .ref b)]) (kk : ∀ (ρ' : zL) (K' : zK) (X' : zX) (R' : zR) (M' : zM) (H' : Heap) (locs' : List Loc) (cl' sl' : Nat) (ls' : Array Slot), LI ρ' K' X' R' x md out outD M' → (cl' ≤ 100 + 1100 * (it + 1) ∧ sl' + ptR X' R' md ≤ 112000 + 14000 * (it + 1)) → Wd Γ (zA K0 s.heap.size) K' X' R' s H' locs' → lv_has ls' 9 [(5, .int (iI i)), (4, .ref outD), (3, .ref out), (2, .ref md), (1, .ref x), (0, .ref b)] → W p l e room_1 s m #[Value.ref b] below meth c H' locs' cl' sl' Q (F0 m 3400 ls' [])) : W p l e room_1 s m #[Value.ref b] below meth c H locs cw sw Q (F0 m 2255 ls []) := by
  obtain ⟨⟨hx, hb, hml, hown⟩, hG, h46, hX, hXs, hbl, hbA, hL⟩ := E
  obtain ⟨hC, hRr, hM, ⟨hko4, hlo4⟩, hko5, hlo5⟩ := id hI
  have hCk := hC.1.1
  have hloo : ρ out = 4000 ∨ ρ out = 4001 := Or.inl hlo4
  have hlod : ρ outD = 4000 ∨ ρ outD = 4001 := Or.inr hlo5
  obtain ⟨a, hq1⟩ : ∃ z : Int, scI xs (i + 1).toNat = z := ⟨_, rfl⟩
  have hf1 : fit a := by rw [← hq1]; exact scI_fit
  obtain ⟨k9, hq2⟩ : ∃ z : Int, scI xs (i + 2).toNat = z := ⟨_, rfl⟩
  have hf2 : fit k9 := by rw [← hq2]; exact scI_fit
  refine lv_aload_n (pc := 2255) hx hb dL_law_2255 rfl (lv_at hl 4 rfl) ?_
  refine lv_aload_n (pc := 2256) hx hb dL_law_2256 rfl (lv_at hl 5 rfl) ?_
  refine lv_iload (pc := 2257) hx hb dL_law_2257 (lv_at hl 0 rfl) ?_
  refine ziconst (pc := 2259) (n := 1) hx hb dL_law_2259 ?_
  refine zadd (pc := 2260) hx hb dL_law_2260 ?_
  refine zsld (pc := 2261) hx hb hXs hbl hbA hL hw ⟨by omega, by omega⟩ hq1 dL_law_2261 ?_
  refine lv_aload_n (pc := 2262) hx hb dL_law_2262 rfl (lv_at hl 5 rfl) ?_
  refine lv_iload (pc := 2263) hx hb dL_law_2263 (lv_at hl 0 rfl) ?_
  refine ziconst (pc := 2265) (n := 2) hx hb dL_law_2265 ?_
  refine zadd (pc := 2266) hx hb dL_law_2266 ?_
  refine zsld (pc := 2267) hx hb hXs hbl hbA hL hw ⟨by omega, by omega⟩ hq2 dL_law_2267 ?_
  refine lv_aload_n (pc := 2268) hx hb dL_law_2268 rfl (lv_at hl 2 rfl) ?_
  refine zkI (pc := 2269) (zlrS (As := [.ref x, .int (iI a), .int (iI k9), .ref out]) hx hb hml hown hG h46 hX hw (c_L_dateAt l hl9 Γ K X Rf x a k9 out (ρ) M (by (first | assumption | omega)) (by (first | assumption | omega)) (by (first | assumption | omega)) (by (first | assumption | omega)) (by (first | assumption | omega))) cb_L_dateAt wl_L_264 rfl ⟨Nat.le_of_ble_eq_true rfl, Nat.le_of_ble_eq_true rfl⟩ hl.1 rfl (Nat.le_of_ble_eq_true rfl) dL_law_2269 ⟨(by show cw + 2 ≤ 601024; omega), (by show sw + 12 ≤ 7293033; omega)⟩) hw (fun r2269 K2269 X2269 R2269 H locs hp2269 hw => ?_)
  obtain ⟨hk1, hv1, ρ1, hC1, hf1⟩ := hp2269
  obtain ⟨hR1, hpt1, hk1o⟩ := hI.c (Or.inl rfl) hC1 hf1
  have hmd1 := hR1.1.1
  refine lv_istore (pc := 2272) (lv' := [(6, .int (iI r2269)), (5, .int (iI i)), (4, .ref outD), (3, .ref out), (2, .ref md), (1, .ref x), (0, .ref b)]) hx hb dL_law_2272 hl (by decide) rfl (fun ls hl => ?_)
  refine lv_aload_n (pc := 2274) hx hb dL_law_2274 rfl (lv_at hl 4 rfl) ?_
  refine lv_aload_n (pc := 2275) hx hb dL_law_2275 rfl (lv_at hl 6 rfl) ?_
  refine lv_iload (pc := 2276) hx hb dL_law_2276 (lv_at hl 1 rfl) ?_
  refine ziconst (pc := 2278) (n := 1) hx hb dL_law_2278 ?_
  refine zadd (pc := 2279) hx hb dL_law_2279 ?_
  refine zsld (pc := 2280) hx hb hXs hbl hbA hL hw ⟨by omega, by omega⟩ hq1 dL_law_2280 ?_
  refine lv_aload_n (pc := 2281) hx hb dL_law_2281 rfl (lv_at hl 6 rfl) ?_
  refine lv_iload (pc := 2282) hx hb dL_law_2282 (lv_at hl 1 rfl) ?_
  refine ziconst (pc := 2284) (n := 2) hx hb dL_law_2284 ?_
  refine zadd (pc := 2285) hx hb dL_law_2285 ?_
  refine zsld (pc := 2286) hx hb hXs hbl hbA hL hw ⟨by omega, by omega⟩ hq2 dL_law_2286 ?_
  have hM1 : okM M := by exact hM
  refine zkI (pc := 2287) (zrV (As := [.int (iI a), .int (iI k9)]) hx hb hml hown hG hw (c_X9_dateAt l Γ K2269 X2269 R2269 md a k9 (rlb K2269 ρ1) M (by (first | assumption | omega)) (by (first | assumption | omega)) (by (first | assumption | omega))) (T := TX9) hmd1 rfl cb_X9_dateAt wl_L_266 rfl ⟨Nat.le_of_ble_eq_true rfl, Nat.le_of_ble_eq_true rfl⟩ hl.1 rfl (Nat.le_of_ble_eq_true rfl) dL_law_2287 ⟨(by show cw + 2 + 2 ≤ 601024; omega), (by show sw + 12 + 8002 ≤ 7293033; omega)⟩) hw (fun r2287 K2287 X2287 R2287 H locs hp2287 hw => ?_)
  obtain ⟨hv2, h02, ρ2, hR2, hg2, hpt2⟩ : (cdSerK M a k9 = 0 → r2287 = dtL (datM M a.toNat) k9) ∧ X2287 md 0 = cdSerK M a k9 ∧ ∃ ρ2, repR ρ2 K2287 X2287 R2287 md M ∧ frR (rlb K2269 ρ1) K2269 X2269 R2269 ρ2 K2287 X2287 R2287 ∧ ptR X2287 R2287 md ≤ ptR X2269 R2269 md := by obtain ⟨a1, a2, ⟨ρ', a3, a4⟩, a5, -⟩ := hp2287; exact ⟨a1, a2, ρ', a3, a4, ptR_ls a5⟩
  obtain ⟨hxo, hxd, ρ3, hI3⟩ := LI.r hC1 hk1o hM1 hR2 hg2
  have hmd3 := hI3.2.1.1.1
  have hko3 := hI3.2.2.2.1.1
  have hkd3 := hI3.2.2.2.2.1
  have hcb : 0 ≤ cdSerK M a k9 ∧ cdSerK M a k9 ≤ 3 := by unfold cdSerK; (repeat' split) <;> omega
  refine lv_istore (pc := 2290) (lv' := [(7, .int (iI r2287)), (6, .int (iI r2269)), (5, .int (iI i)), (4, .ref outD), (3, .ref out), (2, .ref md), (1, .ref x), (0, .ref b)]) hx hb dL_law_2290 hl (by decide) rfl (fun ls hl => ?_)
  refine lv_aload_n (pc := 2292) hx hb dL_law_2292 rfl (lv_at hl 5 rfl) ?_
  refine zkIp (pc := 2293) (zrV (As := []) hx hb hml hown hG hw (c_X9_thrown l Γ K2287 X2287 R2287 md  (by (first | assumption | omega))) (T := TX9) hmd3 rfl cb_X9_thrown wl_L_172 rfl ⟨Nat.le_of_ble_eq_true rfl, Nat.le_of_ble_eq_true rfl⟩ hl.1 rfl (Nat.le_of_ble_eq_true rfl) dL_law_2293 ⟨(by show cw + 2 + 2 + 0 ≤ 601024; omega), (by show sw + 12 + 8002 + 0 ≤ 7293033; omega)⟩) hw (fun r2293 H locs hp2293 hw => ?_)
  subst hp2293
  refine lv_iload (pc := 2296) hx hb dL_law_2296 (lv_at hl 1 rfl) ?_
  refine zicmp_eq (pc := 2298) hx hb 2303 (by omega) (by omega) dL_law_2298 (by decide) (fun c2298 => ?_) (fun c2298 => ?_)
  · skip
    refine lv_iload (pc := 2303) hx hb dL_law_2303 (lv_at hl 1 rfl) ?_
    refine zif_ne (pc := 2305) hx hb 2320 (by omega) dL_law_2305 (by decide) (fun c2305 => ?_) (fun c2305 => ?_)
    · skip
      refine lv_goto (pc := 2320) (tgt := 3400) hx hb dL_law_2320 (by decide) ?_
      exact kk ρ3 K2287 X2287 R2287 _ H locs _ _ ls hI3 ⟨by omega, by omega⟩ hw (lv_sub hl [2, 3, 4, 5, 6, 7] rfl)
    · skip
      have hc0 : cdSerK M a k9 = 0 := by omega
      have hov : X2287 out 0 = wI r2287 := by rw [congrFun hxo 0, hv1 hc0, hv2 hc0]
      refine lv_aload_n (pc := 2308) hx hb dL_law_2308 rfl (lv_at hl 4 rfl) ?_
      refine ziconst (pc := 2309) (n := 0) hx hb dL_law_2309 ?_
      refine zlald (pc := 2310) hx hb hw hko3 ⟨by omega, by omega⟩ (by omega) dL_law_2310 ?_
      refine lv_iload (pc := 2311) hx hb dL_law_2311 (lv_at hl 0 rfl) ?_
      refine zi2lw (pc := 2313) hx hb dL_law_2313 ?_
      refine zlcmpE (pc := 2314) hx hb hov dL_law_2314 ?_
      refine zif_eq (pc := 2315) hx hb 2320 (by omega) dL_law_2315 (by decide) (fun c2315 => ?_) (fun c2315 => ?_)
      · skip
        refine lv_goto (pc := 2320) (tgt := 3400) hx hb dL_law_2320 (by decide) ?_
        exact kk ρ3 K2287 X2287 R2287 _ H locs _ _ ls hI3 ⟨by omega, by omega⟩ hw (lv_sub hl [2, 3, 4, 5, 6, 7] rfl)
      · skip
        exfalso; omega
  · skip
    exfalso; omega
set_option maxHeartbeats 4000000 in
set_option maxRecDepth 100000 in
theorem lc_30 {p : Program} {l : Launch} (hl9 : l.stackTraces = false) {e : Env} {s : State} {m : MethodId} {below : List Frame} {meth : Method} {c : Code} {Q : State → Prop} {b L : Nat} {xs : Nat → Int32} {Γ : zG} {K0 : zK} (E : LE p s m c b L xs K0) {ρ : zL} {K : zK} {X : zX} {Rf : zR} {M : zM} {x md out outD it : Nat} {i : Int} {cw sw : Nat} {H : Heap} {locs : List Loc} {ls : Array Slot} (hi : 0 ≤ i ∧ i + 8 ≤ (L : Int)) (hit : it ≤ 511) (hI : LI ρ K X Rf x md out outD M) (hcs : cw ≤ 100 + 1100 * it ∧ sw + ptR X Rf md ≤ 112000 + 14000 * it) (hw : Wd Γ (zA K0 s.heap.size) K X Rf s H locs) (hl : lv_has ls 9 [(5, .int (iI i)), (4, .ref outD), (3, .ref out), (2, .ref md), (1, .ref x), (0, .ref b)]) (kk : ∀ (ρ' : zL) (K' : zK) (X' : zX) (R' : zR) (M' : zM) (H' : Heap) (locs' : List Loc) (cl' sl' : Nat) (ls' : Array Slot), LI ρ' K' X' R' x md out outD M' → (cl' ≤ 100 + 1100 * (it + 1) ∧ sl' + ptR X' R' md ≤ 112000 + 14000 * (it + 1)) → Wd Γ (zA K0 s.heap.size) K' X' R' s H' locs' → lv_has ls' 9 [(5, .int (iI i)), (4, .ref outD), (3, .ref out), (2, .ref md), (1, .ref x), (0, .ref b)] → W p l e room_1 s m #[Value.ref b] below meth c H' locs' cl' sl' Q (F0 m 3400 ls' [])) : W p l e room_1 s m #[Value.ref b] below meth c H locs cw sw Q (F0 m 2323 ls []) := by
  obtain ⟨⟨hx, hb, hml, hown⟩, hG, h46, hX, hXs, hbl, hbA, hL⟩ := E
  obtain ⟨hC, hRr, hM, ⟨hko4, hlo4⟩, hko5, hlo5⟩ := id hI
  have hCk := hC.1.1
  have hloo : ρ out = 4000 ∨ ρ out = 4001 := Or.inl hlo4
  have hlod : ρ outD = 4000 ∨ ρ outD = 4001 := Or.inr hlo5
  obtain ⟨a, hq1⟩ : ∃ z : Int, scI xs (i + 1).toNat = z := ⟨_, rfl⟩
  have hf1 : fit a := by rw [← hq1]; exact scI_fit
  obtain ⟨day, hq2⟩ : ∃ z : Int, scI xs (i + 2).toNat = z := ⟨_, rfl⟩
  have hf2 : fit day := by rw [← hq2]; exact scI_fit
  refine lv_aload_n (pc := 2323) hx hb dL_law_2323 rfl (lv_at hl 4 rfl) ?_
  refine lv_aload_n (pc := 2324) hx hb dL_law_2324 rfl (lv_at hl 5 rfl) ?_
  refine lv_iload (pc := 2325) hx hb dL_law_2325 (lv_at hl 0 rfl) ?_
  refine ziconst (pc := 2327) (n := 1) hx hb dL_law_2327 ?_
  refine zadd (pc := 2328) hx hb dL_law_2328 ?_
  refine zsld (pc := 2329) hx hb hXs hbl hbA hL hw ⟨by omega, by omega⟩ hq1 dL_law_2329 ?_
  refine lv_aload_n (pc := 2330) hx hb dL_law_2330 rfl (lv_at hl 5 rfl) ?_
  refine lv_iload (pc := 2331) hx hb dL_law_2331 (lv_at hl 0 rfl) ?_
  refine ziconst (pc := 2333) (n := 2) hx hb dL_law_2333 ?_
  refine zadd (pc := 2334) hx hb dL_law_2334 ?_
  refine zsld (pc := 2335) hx hb hXs hbl hbA hL hw ⟨by omega, by omega⟩ hq2 dL_law_2335 ?_
  refine lv_aload_n (pc := 2336) hx hb dL_law_2336 rfl (lv_at hl 2 rfl) ?_
  refine zkI (pc := 2337) (zlrS (As := [.ref x, .int (iI a), .int (iI day), .ref out]) hx hb hml hown hG h46 hX hw (c_L_dateFrom l hl9 Γ K X Rf x a day out (ρ) M (by (first | assumption | omega)) (by (first | assumption | omega)) (by (first | assumption | omega)) (by (first | assumption | omega)) (by (first | assumption | omega))) cb_L_dateFrom wl_L_267 rfl ⟨Nat.le_of_ble_eq_true rfl, Nat.le_of_ble_eq_true rfl⟩ hl.1 rfl (Nat.le_of_ble_eq_true rfl) dL_law_2337 ⟨(by show cw + 2 ≤ 601024; omega), (by show sw + 12 ≤ 7293033; omega)⟩) hw (fun r2337 K2337 X2337 R2337 H locs hp2337 hw => ?_)
  obtain ⟨hk1, hv1, ρ1, hC1, hf1⟩ := hp2337
  obtain ⟨hR1, hpt1, hk1o⟩ := hI.c (Or.inl rfl) hC1 hf1
  have hmd1 := hR1.1.1
  refine lv_istore (pc := 2340) (lv' := [(6, .int (iI r2337)), (5, .int (iI i)), (4, .ref outD), (3, .ref out), (2, .ref md), (1, .ref x), (0, .ref b)]) hx hb dL_law_2340 hl (by decide) rfl (fun ls hl => ?_)
  refine lv_aload_n (pc := 2342) hx hb dL_law_2342 rfl (lv_at hl 4 rfl) ?_
  refine lv_aload_n (pc := 2343) hx hb dL_law_2343 rfl (lv_at hl 6 rfl) ?_
  refine lv_iload (pc := 2344) hx hb dL_law_2344 (lv_at hl 1 rfl) ?_
  refine ziconst (pc := 2346) (n := 1) hx hb dL_law_2346 ?_
  refine zadd (pc := 2347) hx hb dL_law_2347 ?_
  refine zsld (pc := 2348) hx hb hXs hbl hbA hL hw ⟨by omega, by omega⟩ hq1 dL_law_2348 ?_
  refine lv_aload_n (pc := 2349) hx hb dL_law_2349 rfl (lv_at hl 6 rfl) ?_
  refine lv_iload (pc := 2350) hx hb dL_law_2350 (lv_at hl 1 rfl) ?_
  refine ziconst (pc := 2352) (n := 2) hx hb dL_law_2352 ?_
  refine zadd (pc := 2353) hx hb dL_law_2353 ?_
  refine zsld (pc := 2354) hx hb hXs hbl hbA hL hw ⟨by omega, by omega⟩ hq2 dL_law_2354 ?_
  have hM1 : okM M := by exact hM
  refine zkI (pc := 2355) (zrV (As := [.int (iI a), .int (iI day)]) hx hb hml hown hG hw (c_X9_dateFrom l Γ K2337 X2337 R2337 md a day (rlb K2337 ρ1) M (by (first | assumption | omega)) (by (first | assumption | omega)) (by (first | assumption | omega))) (T := TX9) hmd1 rfl cb_X9_dateFrom wl_L_269 rfl ⟨Nat.le_of_ble_eq_true rfl, Nat.le_of_ble_eq_true rfl⟩ hl.1 rfl (Nat.le_of_ble_eq_true rfl) dL_law_2355 ⟨(by show cw + 2 + 1 ≤ 601024; omega), (by show sw + 12 + 4001 ≤ 7293033; omega)⟩) hw (fun r2355 K2355 X2355 R2355 H locs hp2355 hw => ?_)
  obtain ⟨hv2, h02, ρ2, hR2, hg2, hpt2⟩ : (cdSerD M a day = 0 → r2355 = ffD (datM M a.toNat) day) ∧ X2355 md 0 = cdSerD M a day ∧ ∃ ρ2, repR ρ2 K2355 X2355 R2355 md M ∧ frR (rlb K2337 ρ1) K2337 X2337 R2337 ρ2 K2355 X2355 R2355 ∧ ptR X2355 R2355 md ≤ ptR X2337 R2337 md := by obtain ⟨a1, a2, ⟨ρ', a3, a4⟩, a5, -⟩ := hp2355; exact ⟨a1, a2, ρ', a3, a4, ptR_ls a5⟩
  obtain ⟨hxo, hxd, ρ3, hI3⟩ := LI.r hC1 hk1o hM1 hR2 hg2
  have hmd3 := hI3.2.1.1.1
  have hko3 := hI3.2.2.2.1.1
  have hkd3 := hI3.2.2.2.2.1
  have hcb : 0 ≤ cdSerD M a day ∧ cdSerD M a day ≤ 3 := by unfold cdSerD; (repeat' split) <;> omega
  refine lv_istore (pc := 2358) (lv' := [(7, .int (iI r2355)), (6, .int (iI r2337)), (5, .int (iI i)), (4, .ref outD), (3, .ref out), (2, .ref md), (1, .ref x), (0, .ref b)]) hx hb dL_law_2358 hl (by decide) rfl (fun ls hl => ?_)
  refine lv_aload_n (pc := 2360) hx hb dL_law_2360 rfl (lv_at hl 5 rfl) ?_
  refine zkIp (pc := 2361) (zrV (As := []) hx hb hml hown hG hw (c_X9_thrown l Γ K2355 X2355 R2355 md  (by (first | assumption | omega))) (T := TX9) hmd3 rfl cb_X9_thrown wl_L_172 rfl ⟨Nat.le_of_ble_eq_true rfl, Nat.le_of_ble_eq_true rfl⟩ hl.1 rfl (Nat.le_of_ble_eq_true rfl) dL_law_2361 ⟨(by show cw + 2 + 1 + 0 ≤ 601024; omega), (by show sw + 12 + 4001 + 0 ≤ 7293033; omega)⟩) hw (fun r2361 H locs hp2361 hw => ?_)
  subst hp2361
  refine lv_iload (pc := 2364) hx hb dL_law_2364 (lv_at hl 1 rfl) ?_
  refine zicmp_eq (pc := 2366) hx hb 2371 (by omega) (by omega) dL_law_2366 (by decide) (fun c2366 => ?_) (fun c2366 => ?_)
  · skip
    refine lv_iload (pc := 2371) hx hb dL_law_2371 (lv_at hl 1 rfl) ?_
    refine zif_ne (pc := 2373) hx hb 2388 (by omega) dL_law_2373 (by decide) (fun c2373 => ?_) (fun c2373 => ?_)
    · skip
      refine lv_goto (pc := 2388) (tgt := 3400) hx hb dL_law_2388 (by decide) ?_
      exact kk ρ3 K2355 X2355 R2355 _ H locs _ _ ls hI3 ⟨by omega, by omega⟩ hw (lv_sub hl [2, 3, 4, 5, 6, 7] rfl)
    · skip
      have hc0 : cdSerD M a day = 0 := by omega
      have hov : X2355 out 0 = wI r2355 := by rw [congrFun hxo 0, hv1 hc0, hv2 hc0]
      refine lv_aload_n (pc := 2376) hx hb dL_law_2376 rfl (lv_at hl 4 rfl) ?_
      refine ziconst (pc := 2377) (n := 0) hx hb dL_law_2377 ?_
      refine zlald (pc := 2378) hx hb hw hko3 ⟨by omega, by omega⟩ (by omega) dL_law_2378 ?_
      refine lv_iload (pc := 2379) hx hb dL_law_2379 (lv_at hl 0 rfl) ?_
      refine zi2lw (pc := 2381) hx hb dL_law_2381 ?_
      refine zlcmpE (pc := 2382) hx hb hov dL_law_2382 ?_
      refine zif_eq (pc := 2383) hx hb 2388 (by omega) dL_law_2383 (by decide) (fun c2383 => ?_) (fun c2383 => ?_)
      · skip
        refine lv_goto (pc := 2388) (tgt := 3400) hx hb dL_law_2388 (by decide) ?_
        exact kk ρ3 K2355 X2355 R2355 _ H locs _ _ ls hI3 ⟨by omega, by omega⟩ hw (lv_sub hl [2, 3, 4, 5, 6, 7] rfl)
      · skip
        exfalso; omega
  · skip
    exfalso; omega
set_option maxHeartbeats 4000000 in
set_option maxRecDepth 100000 in
theorem lc_31 {p : Program} {l : Launch} (hl9 : l.stackTraces = false) {e : Env} {s : State} {m : MethodId} {below : List Frame} {meth : Method} {c : Code} {Q : State → Prop} {b L : Nat} {xs : Nat → Int32} {Γ : zG} {K0 : zK} (E : LE p s m c b L xs K0) {ρ : zL} {K : zK} {X : zX} {Rf : zR} {M : zM} {x md out outD it : Nat} {i : Int} {cw sw : Nat} {H : Heap} {locs : List Loc} {ls : Array Slot} (hi : 0 ≤ i ∧ i + 8 ≤ (L : Int)) (hit : it ≤ 511) (hI : LI ρ K X Rf x md out outD M) (hcs : cw ≤ 100 + 1100 * it ∧ sw + ptR X Rf md ≤ 112000 + 14000 * it) (hw : Wd Γ (zA K0 s.heap.size) K X Rf s H locs) (hl : lv_has ls 9 [(5, .int (iI i)), (4, .ref outD), (3, .ref out), (2, .ref md), (1, .ref x), (0, .ref b)]) (kk : ∀ (ρ' : zL) (K' : zK) (X' : zX) (R' : zR) (M' : zM) (H' : Heap) (locs' : List Loc) (cl' sl' : Nat) (ls' : Array Slot), LI ρ' K' X' R' x md out outD M' → (cl' ≤ 100 + 1100 * (it + 1) ∧ sl' + ptR X' R' md ≤ 112000 + 14000 * (it + 1)) → Wd Γ (zA K0 s.heap.size) K' X' R' s H' locs' → lv_has ls' 9 [(5, .int (iI i)), (4, .ref outD), (3, .ref out), (2, .ref md), (1, .ref x), (0, .ref b)] → W p l e room_1 s m #[Value.ref b] below meth c H' locs' cl' sl' Q (F0 m 3400 ls' [])) : W p l e room_1 s m #[Value.ref b] below meth c H locs cw sw Q (F0 m 2391 ls []) := by
  obtain ⟨⟨hx, hb, hml, hown⟩, hG, h46, hX, hXs, hbl, hbA, hL⟩ := E
  obtain ⟨hC, hRr, hM, ⟨hko4, hlo4⟩, hko5, hlo5⟩ := id hI
  have hCk := hC.1.1
  have hloo : ρ out = 4000 ∨ ρ out = 4001 := Or.inl hlo4
  have hlod : ρ outD = 4000 ∨ ρ outD = 4001 := Or.inr hlo5
  obtain ⟨a, hq1⟩ : ∃ z : Int, scI xs (i + 1).toNat = z := ⟨_, rfl⟩
  have hf1 : fit a := by rw [← hq1]; exact scI_fit
  obtain ⟨k9, hq2⟩ : ∃ z : Int, scI xs (i + 2).toNat = z := ⟨_, rfl⟩
  have hf2 : fit k9 := by rw [← hq2]; exact scI_fit
  refine lv_aload_n (pc := 2391) hx hb dL_law_2391 rfl (lv_at hl 4 rfl) ?_
  refine lv_aload_n (pc := 2392) hx hb dL_law_2392 rfl (lv_at hl 5 rfl) ?_
  refine lv_iload (pc := 2393) hx hb dL_law_2393 (lv_at hl 0 rfl) ?_
  refine ziconst (pc := 2395) (n := 1) hx hb dL_law_2395 ?_
  refine zadd (pc := 2396) hx hb dL_law_2396 ?_
  refine zsld (pc := 2397) hx hb hXs hbl hbA hL hw ⟨by omega, by omega⟩ hq1 dL_law_2397 ?_
  refine lv_aload_n (pc := 2398) hx hb dL_law_2398 rfl (lv_at hl 5 rfl) ?_
  refine lv_iload (pc := 2399) hx hb dL_law_2399 (lv_at hl 0 rfl) ?_
  refine ziconst (pc := 2401) (n := 2) hx hb dL_law_2401 ?_
  refine zadd (pc := 2402) hx hb dL_law_2402 ?_
  refine zsld (pc := 2403) hx hb hXs hbl hbA hL hw ⟨by omega, by omega⟩ hq2 dL_law_2403 ?_
  refine lv_aload_n (pc := 2404) hx hb dL_law_2404 rfl (lv_at hl 2 rfl) ?_
  refine zkI (pc := 2405) (zlrS (As := [.ref x, .int (iI a), .int (iI k9), .ref out]) hx hb hml hown hG h46 hX hw (c_L_dateMoment l hl9 Γ K X Rf x a k9 out (ρ) M (by (first | assumption | omega)) (by (first | assumption | omega)) (by (first | assumption | omega)) (by (first | assumption | omega)) (by (first | assumption | omega))) cb_L_dateMoment wl_L_270 rfl ⟨Nat.le_of_ble_eq_true rfl, Nat.le_of_ble_eq_true rfl⟩ hl.1 rfl (Nat.le_of_ble_eq_true rfl) dL_law_2405 ⟨(by show cw + 2 ≤ 601024; omega), (by show sw + 12 ≤ 7293033; omega)⟩) hw (fun r2405 K2405 X2405 R2405 H locs hp2405 hw => ?_)
  obtain ⟨hk1, hv1, ρ1, hC1, hf1⟩ := hp2405
  obtain ⟨hR1, hpt1, hk1o⟩ := hI.c (Or.inl rfl) hC1 hf1
  have hmd1 := hR1.1.1
  refine lv_istore (pc := 2408) (lv' := [(6, .int (iI r2405)), (5, .int (iI i)), (4, .ref outD), (3, .ref out), (2, .ref md), (1, .ref x), (0, .ref b)]) hx hb dL_law_2408 hl (by decide) rfl (fun ls hl => ?_)
  refine lv_aload_n (pc := 2410) hx hb dL_law_2410 rfl (lv_at hl 4 rfl) ?_
  refine lv_aload_n (pc := 2411) hx hb dL_law_2411 rfl (lv_at hl 6 rfl) ?_
  refine lv_iload (pc := 2412) hx hb dL_law_2412 (lv_at hl 1 rfl) ?_
  refine ziconst (pc := 2414) (n := 1) hx hb dL_law_2414 ?_
  refine zadd (pc := 2415) hx hb dL_law_2415 ?_
  refine zsld (pc := 2416) hx hb hXs hbl hbA hL hw ⟨by omega, by omega⟩ hq1 dL_law_2416 ?_
  refine lv_aload_n (pc := 2417) hx hb dL_law_2417 rfl (lv_at hl 6 rfl) ?_
  refine lv_iload (pc := 2418) hx hb dL_law_2418 (lv_at hl 1 rfl) ?_
  refine ziconst (pc := 2420) (n := 2) hx hb dL_law_2420 ?_
  refine zadd (pc := 2421) hx hb dL_law_2421 ?_
  refine zsld (pc := 2422) hx hb hXs hbl hbA hL hw ⟨by omega, by omega⟩ hq2 dL_law_2422 ?_
  have hM1 : okM M := by exact hM
  refine zkI (pc := 2423) (zrV (As := [.int (iI a), .int (iI k9)]) hx hb hml hown hG hw (c_X9_dateMoment l Γ K2405 X2405 R2405 md a k9 (rlb K2405 ρ1) M (by (first | assumption | omega)) (by (first | assumption | omega)) (by (first | assumption | omega))) (T := TX9) hmd1 rfl cb_X9_dateMoment wl_L_272 rfl ⟨Nat.le_of_ble_eq_true rfl, Nat.le_of_ble_eq_true rfl⟩ hl.1 rfl (Nat.le_of_ble_eq_true rfl) dL_law_2423 ⟨(by show cw + 2 + 7 ≤ 601024; omega), (by show sw + 12 + 13002 ≤ 7293033; omega)⟩) hw (fun r2423 K2423 X2423 R2423 H locs hp2423 hw => ?_)
  obtain ⟨hv2, h02, ρ2, hR2, hg2, hpt2⟩ : (cdSerK M a k9 = 0 → r2423 = momF (savM M (serM M a.toNat 0).toNat) (M 6 (serM M a.toNat 0).toNat) (1440 * dtL (datM M a.toNat) k9 + serM M a.toNat 1 % 1440)) ∧ X2423 md 0 = cdSerK M a k9 ∧ ∃ ρ2, repR ρ2 K2423 X2423 R2423 md M ∧ frR (rlb K2405 ρ1) K2405 X2405 R2405 ρ2 K2423 X2423 R2423 ∧ ptR X2423 R2423 md ≤ ptR X2405 R2405 md := by obtain ⟨a1, a2, ⟨ρ', a3, a4⟩, a5, -⟩ := hp2423; exact ⟨a1, a2, ρ', a3, a4, ptR_ls a5⟩
  obtain ⟨hxo, hxd, ρ3, hI3⟩ := LI.r hC1 hk1o hM1 hR2 hg2
  have hmd3 := hI3.2.1.1.1
  have hko3 := hI3.2.2.2.1.1
  have hkd3 := hI3.2.2.2.2.1
  have hcb : 0 ≤ cdSerK M a k9 ∧ cdSerK M a k9 ≤ 3 := by unfold cdSerK; (repeat' split) <;> omega
  refine lv_istore (pc := 2426) (lv' := [(7, .int (iI r2423)), (6, .int (iI r2405)), (5, .int (iI i)), (4, .ref outD), (3, .ref out), (2, .ref md), (1, .ref x), (0, .ref b)]) hx hb dL_law_2426 hl (by decide) rfl (fun ls hl => ?_)
  refine lv_aload_n (pc := 2428) hx hb dL_law_2428 rfl (lv_at hl 5 rfl) ?_
  refine zkIp (pc := 2429) (zrV (As := []) hx hb hml hown hG hw (c_X9_thrown l Γ K2423 X2423 R2423 md  (by (first | assumption | omega))) (T := TX9) hmd3 rfl cb_X9_thrown wl_L_172 rfl ⟨Nat.le_of_ble_eq_true rfl, Nat.le_of_ble_eq_true rfl⟩ hl.1 rfl (Nat.le_of_ble_eq_true rfl) dL_law_2429 ⟨(by show cw + 2 + 7 + 0 ≤ 601024; omega), (by show sw + 12 + 13002 + 0 ≤ 7293033; omega)⟩) hw (fun r2429 H locs hp2429 hw => ?_)
  subst hp2429
  refine lv_iload (pc := 2432) hx hb dL_law_2432 (lv_at hl 1 rfl) ?_
  refine zicmp_eq (pc := 2434) hx hb 2439 (by omega) (by omega) dL_law_2434 (by decide) (fun c2434 => ?_) (fun c2434 => ?_)
  · skip
    refine lv_iload (pc := 2439) hx hb dL_law_2439 (lv_at hl 1 rfl) ?_
    refine zif_ne (pc := 2441) hx hb 2456 (by omega) dL_law_2441 (by decide) (fun c2441 => ?_) (fun c2441 => ?_)
    · skip
      refine lv_goto (pc := 2456) (tgt := 3400) hx hb dL_law_2456 (by decide) ?_
      exact kk ρ3 K2423 X2423 R2423 _ H locs _ _ ls hI3 ⟨by omega, by omega⟩ hw (lv_sub hl [2, 3, 4, 5, 6, 7] rfl)
    · skip
      have hc0 : cdSerK M a k9 = 0 := by omega
      have hov : X2423 out 0 = wI r2423 := by rw [congrFun hxo 0, hv1 hc0, hv2 hc0]
      refine lv_aload_n (pc := 2444) hx hb dL_law_2444 rfl (lv_at hl 4 rfl) ?_
      refine ziconst (pc := 2445) (n := 0) hx hb dL_law_2445 ?_
      refine zlald (pc := 2446) hx hb hw hko3 ⟨by omega, by omega⟩ (by omega) dL_law_2446 ?_
      refine lv_iload (pc := 2447) hx hb dL_law_2447 (lv_at hl 0 rfl) ?_
      refine zi2lw (pc := 2449) hx hb dL_law_2449 ?_
      refine zlcmpE (pc := 2450) hx hb hov dL_law_2450 ?_
      refine zif_eq (pc := 2451) hx hb 2456 (by omega) dL_law_2451 (by decide) (fun c2451 => ?_) (fun c2451 => ?_)
      · skip
        refine lv_goto (pc := 2456) (tgt := 3400) hx hb dL_law_2456 (by decide) ?_
        exact kk ρ3 K2423 X2423 R2423 _ H locs _ _ ls hI3 ⟨by omega, by omega⟩ hw (lv_sub hl [2, 3, 4, 5, 6, 7] rfl)
      · skip
        exfalso; omega
  · skip
    exfalso; omega
set_option maxHeartbeats 4000000 in
set_option maxRecDepth 100000 in
theorem lc_32 {p : Program} {l : Launch} (hl9 : l.stackTraces = false) {e : Env} {s : State} {m : MethodId} {below : List Frame} {meth : Method} {c : Code} {Q : State → Prop} {b L : Nat} {xs : Nat → Int32} {Γ : zG} {K0 : zK} (E : LE p s m c b L xs K0) {ρ : zL} {K : zK} {X : zX} {Rf : zR} {M : zM} {x md out outD it : Nat} {i : Int} {cw sw : Nat} {H : Heap} {locs : List Loc} {ls : Array Slot} (hi : 0 ≤ i ∧ i + 8 ≤ (L : Int)) (hit : it ≤ 511) (hI : LI ρ K X Rf x md out outD M) (hcs : cw ≤ 100 + 1100 * it ∧ sw + ptR X Rf md ≤ 112000 + 14000 * it) (hw : Wd Γ (zA K0 s.heap.size) K X Rf s H locs) (hl : lv_has ls 9 [(5, .int (iI i)), (4, .ref outD), (3, .ref out), (2, .ref md), (1, .ref x), (0, .ref b)]) (kk : ∀ (ρ' : zL) (K' : zK) (X' : zX) (R' : zR) (M' : zM) (H' : Heap) (locs' : List Loc) (cl' sl' : Nat) (ls' : Array Slot), LI ρ' K' X' R' x md out outD M' → (cl' ≤ 100 + 1100 * (it + 1) ∧ sl' + ptR X' R' md ≤ 112000 + 14000 * (it + 1)) → Wd Γ (zA K0 s.heap.size) K' X' R' s H' locs' → lv_has ls' 9 [(5, .int (iI i)), (4, .ref outD), (3, .ref out), (2, .ref md), (1, .ref x), (0, .ref b)] → W p l e room_1 s m #[Value.ref b] below meth c H' locs' cl' sl' Q (F0 m 3400 ls' [])) : W p l e room_1 s m #[Value.ref b] below meth c H locs cw sw Q (F0 m 2459 ls []) := by
  obtain ⟨⟨hx, hb, hml, hown⟩, hG, h46, hX, hXs, hbl, hbA, hL⟩ := E
  obtain ⟨hC, hRr, hM, ⟨hko4, hlo4⟩, hko5, hlo5⟩ := id hI
  have hCk := hC.1.1
  have hloo : ρ out = 4000 ∨ ρ out = 4001 := Or.inl hlo4
  have hlod : ρ outD = 4000 ∨ ρ outD = 4001 := Or.inr hlo5
  obtain ⟨a, hq1⟩ : ∃ z : Int, scI xs (i + 1).toNat = z := ⟨_, rfl⟩
  have hf1 : fit a := by rw [← hq1]; exact scI_fit
  obtain ⟨b9, hq2⟩ : ∃ z : Int, scI xs (i + 2).toNat = z := ⟨_, rfl⟩
  have hf2 : fit b9 := by rw [← hq2]; exact scI_fit
  refine lv_aload_n (pc := 2459) hx hb dL_law_2459 rfl (lv_at hl 4 rfl) ?_
  refine lv_aload_n (pc := 2460) hx hb dL_law_2460 rfl (lv_at hl 5 rfl) ?_
  refine lv_iload (pc := 2461) hx hb dL_law_2461 (lv_at hl 0 rfl) ?_
  refine ziconst (pc := 2463) (n := 1) hx hb dL_law_2463 ?_
  refine zadd (pc := 2464) hx hb dL_law_2464 ?_
  refine zsld (pc := 2465) hx hb hXs hbl hbA hL hw ⟨by omega, by omega⟩ hq1 dL_law_2465 ?_
  refine lv_aload_n (pc := 2466) hx hb dL_law_2466 rfl (lv_at hl 5 rfl) ?_
  refine lv_iload (pc := 2467) hx hb dL_law_2467 (lv_at hl 0 rfl) ?_
  refine ziconst (pc := 2469) (n := 2) hx hb dL_law_2469 ?_
  refine zadd (pc := 2470) hx hb dL_law_2470 ?_
  refine zsld (pc := 2471) hx hb hXs hbl hbA hL hw ⟨by omega, by omega⟩ hq2 dL_law_2471 ?_
  refine lv_aload_n (pc := 2472) hx hb dL_law_2472 rfl (lv_at hl 2 rfl) ?_
  refine zkI (pc := 2473) (zlrS (As := [.ref x, .int (iI a), .int (iI b9), .ref out]) hx hb hml hown hG h46 hX hw (c_L_common l hl9 Γ K X Rf x a b9 out (ρ) M (by (first | assumption | omega)) (by (first | assumption | omega)) (by (first | assumption | omega)) (by (first | assumption | omega)) (by (first | assumption | omega))) cb_L_common wl_L_273 rfl ⟨Nat.le_of_ble_eq_true rfl, Nat.le_of_ble_eq_true rfl⟩ hl.1 rfl (Nat.le_of_ble_eq_true rfl) dL_law_2473 ⟨(by show cw + 2 ≤ 601024; omega), (by show sw + 12 ≤ 7293033; omega)⟩) hw (fun r2473 K2473 X2473 R2473 H locs hp2473 hw => ?_)
  obtain ⟨hk1, hv1, ρ1, hC1, hf1⟩ := hp2473
  obtain ⟨hR1, hpt1, hk1o⟩ := hI.c (Or.inl rfl) hC1 hf1
  have hmd1 := hR1.1.1
  refine lv_istore (pc := 2476) (lv' := [(6, .int (iI r2473)), (5, .int (iI i)), (4, .ref outD), (3, .ref out), (2, .ref md), (1, .ref x), (0, .ref b)]) hx hb dL_law_2476 hl (by decide) rfl (fun ls hl => ?_)
  refine lv_aload_n (pc := 2478) hx hb dL_law_2478 rfl (lv_at hl 4 rfl) ?_
  refine lv_aload_n (pc := 2479) hx hb dL_law_2479 rfl (lv_at hl 6 rfl) ?_
  refine lv_iload (pc := 2480) hx hb dL_law_2480 (lv_at hl 1 rfl) ?_
  refine ziconst (pc := 2482) (n := 1) hx hb dL_law_2482 ?_
  refine zadd (pc := 2483) hx hb dL_law_2483 ?_
  refine zsld (pc := 2484) hx hb hXs hbl hbA hL hw ⟨by omega, by omega⟩ hq1 dL_law_2484 ?_
  refine lv_aload_n (pc := 2485) hx hb dL_law_2485 rfl (lv_at hl 6 rfl) ?_
  refine lv_iload (pc := 2486) hx hb dL_law_2486 (lv_at hl 1 rfl) ?_
  refine ziconst (pc := 2488) (n := 2) hx hb dL_law_2488 ?_
  refine zadd (pc := 2489) hx hb dL_law_2489 ?_
  refine zsld (pc := 2490) hx hb hXs hbl hbA hL hw ⟨by omega, by omega⟩ hq2 dL_law_2490 ?_
  have hM1 : okM M := by exact hM
  refine zkI (pc := 2491) (zrV (As := [.int (iI a), .int (iI b9)]) hx hb hml hown hG hw (c_X9_common l Γ K2473 X2473 R2473 md a b9 (rlb K2473 ρ1) M (by (first | assumption | omega)) (by (first | assumption | omega)) (by (first | assumption | omega))) (T := TX9) hmd1 rfl cb_X9_common wl_L_275 rfl ⟨Nat.le_of_ble_eq_true rfl, Nat.le_of_ble_eq_true rfl⟩ hl.1 rfl (Nat.le_of_ble_eq_true rfl) dL_law_2491 ⟨(by show cw + 2 + 2 ≤ 601024; omega), (by show sw + 12 + 8002 ≤ 7293033; omega)⟩) hw (fun r2491 K2491 X2491 R2491 H locs hp2491 hw => ?_)
  obtain ⟨hv2, h02, ρ2, hR2, hg2, hpt2⟩ : (cdSerS M a b9 = 0 → r2491 = shD (datM M a.toNat) (datM M b9.toNat)) ∧ X2491 md 0 = cdSerS M a b9 ∧ ∃ ρ2, repR ρ2 K2491 X2491 R2491 md M ∧ frR (rlb K2473 ρ1) K2473 X2473 R2473 ρ2 K2491 X2491 R2491 ∧ ptR X2491 R2491 md ≤ ptR X2473 R2473 md := by obtain ⟨a1, a2, ⟨ρ', a3, a4⟩, a5, -⟩ := hp2491; exact ⟨a1, a2, ρ', a3, a4, ptR_ls a5⟩
  obtain ⟨hxo, hxd, ρ3, hI3⟩ := LI.r hC1 hk1o hM1 hR2 hg2
  have hmd3 := hI3.2.1.1.1
  have hko3 := hI3.2.2.2.1.1
  have hkd3 := hI3.2.2.2.2.1
  have hcb : 0 ≤ cdSerS M a b9 ∧ cdSerS M a b9 ≤ 3 := by unfold cdSerS; (repeat' split) <;> omega
  refine lv_istore (pc := 2494) (lv' := [(7, .int (iI r2491)), (6, .int (iI r2473)), (5, .int (iI i)), (4, .ref outD), (3, .ref out), (2, .ref md), (1, .ref x), (0, .ref b)]) hx hb dL_law_2494 hl (by decide) rfl (fun ls hl => ?_)
  refine lv_aload_n (pc := 2496) hx hb dL_law_2496 rfl (lv_at hl 5 rfl) ?_
  refine zkIp (pc := 2497) (zrV (As := []) hx hb hml hown hG hw (c_X9_thrown l Γ K2491 X2491 R2491 md  (by (first | assumption | omega))) (T := TX9) hmd3 rfl cb_X9_thrown wl_L_172 rfl ⟨Nat.le_of_ble_eq_true rfl, Nat.le_of_ble_eq_true rfl⟩ hl.1 rfl (Nat.le_of_ble_eq_true rfl) dL_law_2497 ⟨(by show cw + 2 + 2 + 0 ≤ 601024; omega), (by show sw + 12 + 8002 + 0 ≤ 7293033; omega)⟩) hw (fun r2497 H locs hp2497 hw => ?_)
  subst hp2497
  refine lv_iload (pc := 2500) hx hb dL_law_2500 (lv_at hl 1 rfl) ?_
  refine zicmp_eq (pc := 2502) hx hb 2507 (by omega) (by omega) dL_law_2502 (by decide) (fun c2502 => ?_) (fun c2502 => ?_)
  · skip
    refine lv_iload (pc := 2507) hx hb dL_law_2507 (lv_at hl 1 rfl) ?_
    refine zif_ne (pc := 2509) hx hb 2524 (by omega) dL_law_2509 (by decide) (fun c2509 => ?_) (fun c2509 => ?_)
    · skip
      refine lv_goto (pc := 2524) (tgt := 3400) hx hb dL_law_2524 (by decide) ?_
      exact kk ρ3 K2491 X2491 R2491 _ H locs _ _ ls hI3 ⟨by omega, by omega⟩ hw (lv_sub hl [2, 3, 4, 5, 6, 7] rfl)
    · skip
      have hc0 : cdSerS M a b9 = 0 := by omega
      have hov : X2491 out 0 = wI r2491 := by rw [congrFun hxo 0, hv1 hc0, hv2 hc0]
      refine lv_aload_n (pc := 2512) hx hb dL_law_2512 rfl (lv_at hl 4 rfl) ?_
      refine ziconst (pc := 2513) (n := 0) hx hb dL_law_2513 ?_
      refine zlald (pc := 2514) hx hb hw hko3 ⟨by omega, by omega⟩ (by omega) dL_law_2514 ?_
      refine lv_iload (pc := 2515) hx hb dL_law_2515 (lv_at hl 0 rfl) ?_
      refine zi2lw (pc := 2517) hx hb dL_law_2517 ?_
      refine zlcmpE (pc := 2518) hx hb hov dL_law_2518 ?_
      refine zif_eq (pc := 2519) hx hb 2524 (by omega) dL_law_2519 (by decide) (fun c2519 => ?_) (fun c2519 => ?_)
      · skip
        refine lv_goto (pc := 2524) (tgt := 3400) hx hb dL_law_2524 (by decide) ?_
        exact kk ρ3 K2491 X2491 R2491 _ H locs _ _ ls hI3 ⟨by omega, by omega⟩ hw (lv_sub hl [2, 3, 4, 5, 6, 7] rfl)
      · skip
        exfalso; omega
  · skip
    exfalso; omega
set_option maxHeartbeats 4000000 in
set_option maxRecDepth 100000 in
theorem lc_33 {p : Program} {l : Launch} (hl9 : l.stackTraces = false) {e : Env} {s : State} {m : MethodId} {below : List Frame} {meth : Method} {c : Code} {Q : State → Prop} {b L : Nat} {xs : Nat → Int32} {Γ : zG} {K0 : zK} (E : LE p s m c b L xs K0) {ρ : zL} {K : zK} {X : zX} {Rf : zR} {M : zM} {x md out outD it : Nat} {i : Int} {cw sw : Nat} {H : Heap} {locs : List Loc} {ls : Array Slot} (hi : 0 ≤ i ∧ i + 8 ≤ (L : Int)) (hit : it ≤ 511) (hI : LI ρ K X Rf x md out outD M) (hcs : cw ≤ 100 + 1100 * it ∧ sw + ptR X Rf md ≤ 112000 + 14000 * it) (hw : Wd Γ (zA K0 s.heap.size) K X Rf s H locs) (hl : lv_has ls 9 [(5, .int (iI i)), (4, .ref outD), (3, .ref out), (2, .ref md), (1, .ref x), (0, .ref b)]) (kk : ∀ (ρ' : zL) (K' : zK) (X' : zX) (R' : zR) (M' : zM) (H' : Heap) (locs' : List Loc) (cl' sl' : Nat) (ls' : Array Slot), LI ρ' K' X' R' x md out outD M' → (cl' ≤ 100 + 1100 * (it + 1) ∧ sl' + ptR X' R' md ≤ 112000 + 14000 * (it + 1)) → Wd Γ (zA K0 s.heap.size) K' X' R' s H' locs' → lv_has ls' 9 [(5, .int (iI i)), (4, .ref outD), (3, .ref out), (2, .ref md), (1, .ref x), (0, .ref b)] → W p l e room_1 s m #[Value.ref b] below meth c H' locs' cl' sl' Q (F0 m 3400 ls' [])) : W p l e room_1 s m #[Value.ref b] below meth c H locs cw sw Q (F0 m 2527 ls []) := by
  obtain ⟨⟨hx, hb, hml, hown⟩, hG, h46, hX, hXs, hbl, hbA, hL⟩ := E
  obtain ⟨hC, hRr, hM, ⟨hko4, hlo4⟩, hko5, hlo5⟩ := id hI
  have hCk := hC.1.1
  have hloo : ρ out = 4000 ∨ ρ out = 4001 := Or.inl hlo4
  have hlod : ρ outD = 4000 ∨ ρ outD = 4001 := Or.inr hlo5
  obtain ⟨a, hq1⟩ : ∃ z : Int, scI xs (i + 1).toNat = z := ⟨_, rfl⟩
  have hf1 : fit a := by rw [← hq1]; exact scI_fit
  refine lv_aload_n (pc := 2527) hx hb dL_law_2527 rfl (lv_at hl 4 rfl) ?_
  refine lv_aload_n (pc := 2528) hx hb dL_law_2528 rfl (lv_at hl 5 rfl) ?_
  refine lv_iload (pc := 2529) hx hb dL_law_2529 (lv_at hl 0 rfl) ?_
  refine ziconst (pc := 2531) (n := 1) hx hb dL_law_2531 ?_
  refine zadd (pc := 2532) hx hb dL_law_2532 ?_
  refine zsld (pc := 2533) hx hb hXs hbl hbA hL hw ⟨by omega, by omega⟩ hq1 dL_law_2533 ?_
  refine lv_aload_n (pc := 2534) hx hb dL_law_2534 rfl (lv_at hl 2 rfl) ?_
  refine zkI (pc := 2535) (zlrS (As := [.ref x, .int (iI a), .ref out]) hx hb hml hown hG h46 hX hw (c_L_widestGap l hl9 Γ K X Rf x a out (ρ) M (by (first | assumption | omega)) (by (first | assumption | omega)) (by (first | assumption | omega)) (by (first | assumption | omega)) (by (first | assumption | omega))) cb_L_widestGap wl_L_276 rfl ⟨Nat.le_of_ble_eq_true rfl, Nat.le_of_ble_eq_true rfl⟩ hl.1 rfl (Nat.le_of_ble_eq_true rfl) dL_law_2535 ⟨(by show cw + 1 ≤ 601024; omega), (by show sw + 6 ≤ 7293033; omega)⟩) hw (fun r2535 K2535 X2535 R2535 H locs hp2535 hw => ?_)
  obtain ⟨hk1, hv1, ρ1, hC1, hf1⟩ := hp2535
  obtain ⟨hR1, hpt1, hk1o⟩ := hI.c (Or.inl rfl) hC1 hf1
  have hmd1 := hR1.1.1
  refine lv_istore (pc := 2538) (lv' := [(6, .int (iI r2535)), (5, .int (iI i)), (4, .ref outD), (3, .ref out), (2, .ref md), (1, .ref x), (0, .ref b)]) hx hb dL_law_2538 hl (by decide) rfl (fun ls hl => ?_)
  refine lv_aload_n (pc := 2540) hx hb dL_law_2540 rfl (lv_at hl 4 rfl) ?_
  refine lv_aload_n (pc := 2541) hx hb dL_law_2541 rfl (lv_at hl 6 rfl) ?_
  refine lv_iload (pc := 2542) hx hb dL_law_2542 (lv_at hl 1 rfl) ?_
  refine ziconst (pc := 2544) (n := 1) hx hb dL_law_2544 ?_
  refine zadd (pc := 2545) hx hb dL_law_2545 ?_
  refine zsld (pc := 2546) hx hb hXs hbl hbA hL hw ⟨by omega, by omega⟩ hq1 dL_law_2546 ?_
  have hM1 : okM M := by exact hM
  refine zkI (pc := 2547) (zrV (As := [.int (iI a)]) hx hb hml hown hG hw (c_X9_widestGap l Γ K2535 X2535 R2535 md a (rlb K2535 ρ1) M (by (first | assumption | omega)) (by (first | assumption | omega)) (by (first | assumption | omega))) (T := TX9) hmd1 rfl cb_X9_widestGap wl_L_278 rfl ⟨Nat.le_of_ble_eq_true rfl, Nat.le_of_ble_eq_true rfl⟩ hl.1 rfl (Nat.le_of_ble_eq_true rfl) dL_law_2547 ⟨(by show cw + 1 + 1 ≤ 601024; omega), (by show sw + 6 + 4001 ≤ 7293033; omega)⟩) hw (fun r2547 K2547 X2547 R2547 H locs hp2547 hw => ?_)
  obtain ⟨hv2, h02, ρ2, hR2, hg2, hpt2⟩ : (cdSer M a = 0 → r2547 = wdD (datM M a.toNat)) ∧ X2547 md 0 = cdSer M a ∧ ∃ ρ2, repR ρ2 K2547 X2547 R2547 md M ∧ frR (rlb K2535 ρ1) K2535 X2535 R2535 ρ2 K2547 X2547 R2547 ∧ ptR X2547 R2547 md ≤ ptR X2535 R2535 md := by obtain ⟨a1, a2, ⟨ρ', a3, a4⟩, a5, -⟩ := hp2547; exact ⟨a1, a2, ρ', a3, a4, ptR_ls a5⟩
  obtain ⟨hxo, hxd, ρ3, hI3⟩ := LI.r hC1 hk1o hM1 hR2 hg2
  have hmd3 := hI3.2.1.1.1
  have hko3 := hI3.2.2.2.1.1
  have hkd3 := hI3.2.2.2.2.1
  have hcb : 0 ≤ cdSer M a ∧ cdSer M a ≤ 3 := by unfold cdSer; (repeat' split) <;> omega
  refine lv_istore (pc := 2550) (lv' := [(7, .int (iI r2547)), (6, .int (iI r2535)), (5, .int (iI i)), (4, .ref outD), (3, .ref out), (2, .ref md), (1, .ref x), (0, .ref b)]) hx hb dL_law_2550 hl (by decide) rfl (fun ls hl => ?_)
  refine lv_aload_n (pc := 2552) hx hb dL_law_2552 rfl (lv_at hl 5 rfl) ?_
  refine zkIp (pc := 2553) (zrV (As := []) hx hb hml hown hG hw (c_X9_thrown l Γ K2547 X2547 R2547 md  (by (first | assumption | omega))) (T := TX9) hmd3 rfl cb_X9_thrown wl_L_172 rfl ⟨Nat.le_of_ble_eq_true rfl, Nat.le_of_ble_eq_true rfl⟩ hl.1 rfl (Nat.le_of_ble_eq_true rfl) dL_law_2553 ⟨(by show cw + 1 + 1 + 0 ≤ 601024; omega), (by show sw + 6 + 4001 + 0 ≤ 7293033; omega)⟩) hw (fun r2553 H locs hp2553 hw => ?_)
  subst hp2553
  refine lv_iload (pc := 2556) hx hb dL_law_2556 (lv_at hl 1 rfl) ?_
  refine zicmp_eq (pc := 2558) hx hb 2563 (by omega) (by omega) dL_law_2558 (by decide) (fun c2558 => ?_) (fun c2558 => ?_)
  · skip
    refine lv_iload (pc := 2563) hx hb dL_law_2563 (lv_at hl 1 rfl) ?_
    refine zif_ne (pc := 2565) hx hb 2580 (by omega) dL_law_2565 (by decide) (fun c2565 => ?_) (fun c2565 => ?_)
    · skip
      refine lv_goto (pc := 2580) (tgt := 3400) hx hb dL_law_2580 (by decide) ?_
      exact kk ρ3 K2547 X2547 R2547 _ H locs _ _ ls hI3 ⟨by omega, by omega⟩ hw (lv_sub hl [2, 3, 4, 5, 6, 7] rfl)
    · skip
      have hc0 : cdSer M a = 0 := by omega
      have hov : X2547 out 0 = wI r2547 := by rw [congrFun hxo 0, hv1 hc0, hv2 hc0]
      refine lv_aload_n (pc := 2568) hx hb dL_law_2568 rfl (lv_at hl 4 rfl) ?_
      refine ziconst (pc := 2569) (n := 0) hx hb dL_law_2569 ?_
      refine zlald (pc := 2570) hx hb hw hko3 ⟨by omega, by omega⟩ (by omega) dL_law_2570 ?_
      refine lv_iload (pc := 2571) hx hb dL_law_2571 (lv_at hl 0 rfl) ?_
      refine zi2lw (pc := 2573) hx hb dL_law_2573 ?_
      refine zlcmpE (pc := 2574) hx hb hov dL_law_2574 ?_
      refine zif_eq (pc := 2575) hx hb 2580 (by omega) dL_law_2575 (by decide) (fun c2575 => ?_) (fun c2575 => ?_)
      · skip
        refine lv_goto (pc := 2580) (tgt := 3400) hx hb dL_law_2580 (by decide) ?_
        exact kk ρ3 K2547 X2547 R2547 _ H locs _ _ ls hI3 ⟨by omega, by omega⟩ hw (lv_sub hl [2, 3, 4, 5, 6, 7] rfl)
      · skip
        exfalso; omega
  · skip
    exfalso; omega
set_option maxHeartbeats 4000000 in
set_option maxRecDepth 100000 in
theorem lc_34 {p : Program} {l : Launch} (hl9 : l.stackTraces = false) {e : Env} {s : State} {m : MethodId} {below : List Frame} {meth : Method} {c : Code} {Q : State → Prop} {b L : Nat} {xs : Nat → Int32} {Γ : zG} {K0 : zK} (E : LE p s m c b L xs K0) {ρ : zL} {K : zK} {X : zX} {Rf : zR} {M : zM} {x md out outD it : Nat} {i : Int} {cw sw : Nat} {H : Heap} {locs : List Loc} {ls : Array Slot} (hi : 0 ≤ i ∧ i + 8 ≤ (L : Int)) (hit : it ≤ 511) (hI : LI ρ K X Rf x md out outD M) (hcs : cw ≤ 100 + 1100 * it ∧ sw + ptR X Rf md ≤ 112000 + 14000 * it) (hw : Wd Γ (zA K0 s.heap.size) K X Rf s H locs) (hl : lv_has ls 9 [(5, .int (iI i)), (4, .ref outD), (3, .ref out), (2, .ref md), (1, .ref x), (0, .ref b)]) (kk : ∀ (ρ' : zL) (K' : zK) (X' : zX) (R' : zR) (M' : zM) (H' : Heap) (locs' : List Loc) (cl' sl' : Nat) (ls' : Array Slot), LI ρ' K' X' R' x md out outD M' → (cl' ≤ 100 + 1100 * (it + 1) ∧ sl' + ptR X' R' md ≤ 112000 + 14000 * (it + 1)) → Wd Γ (zA K0 s.heap.size) K' X' R' s H' locs' → lv_has ls' 9 [(5, .int (iI i)), (4, .ref outD), (3, .ref out), (2, .ref md), (1, .ref x), (0, .ref b)] → W p l e room_1 s m #[Value.ref b] below meth c H' locs' cl' sl' Q (F0 m 3400 ls' [])) : W p l e room_1 s m #[Value.ref b] below meth c H locs cw sw Q (F0 m 2583 ls []) := by
  obtain ⟨⟨hx, hb, hml, hown⟩, hG, h46, hX, hXs, hbl, hbA, hL⟩ := E
  obtain ⟨hC, hRr, hM, ⟨hko4, hlo4⟩, hko5, hlo5⟩ := id hI
  have hCk := hC.1.1
  have hloo : ρ out = 4000 ∨ ρ out = 4001 := Or.inl hlo4
  have hlod : ρ outD = 4000 ∨ ρ outD = 4001 := Or.inr hlo5
  obtain ⟨a, hq1⟩ : ∃ z : Int, scI xs (i + 1).toNat = z := ⟨_, rfl⟩
  have hf1 : fit a := by rw [← hq1]; exact scI_fit
  refine lv_aload_n (pc := 2583) hx hb dL_law_2583 rfl (lv_at hl 4 rfl) ?_
  refine lv_aload_n (pc := 2584) hx hb dL_law_2584 rfl (lv_at hl 5 rfl) ?_
  refine lv_iload (pc := 2585) hx hb dL_law_2585 (lv_at hl 0 rfl) ?_
  refine ziconst (pc := 2587) (n := 1) hx hb dL_law_2587 ?_
  refine zadd (pc := 2588) hx hb dL_law_2588 ?_
  refine zsld (pc := 2589) hx hb hXs hbl hbA hL hw ⟨by omega, by omega⟩ hq1 dL_law_2589 ?_
  refine lv_aload_n (pc := 2590) hx hb dL_law_2590 rfl (lv_at hl 2 rfl) ?_
  refine zkI (pc := 2591) (zlrS (As := [.ref x, .int (iI a), .ref out]) hx hb hml hown hG h46 hX hw (c_L_setWorkPlace l hl9 Γ K X Rf x a out (ρ) M (by (first | assumption | omega)) (by (first | assumption | omega)) (by (first | assumption | omega)) (by (first | assumption | omega)) (by (first | assumption | omega))) cb_L_setWorkPlace wl_L_279 rfl ⟨Nat.le_of_ble_eq_true rfl, Nat.le_of_ble_eq_true rfl⟩ hl.1 rfl (Nat.le_of_ble_eq_true rfl) dL_law_2591 ⟨(by show cw + 1 ≤ 601024; omega), (by show sw + 6 ≤ 7293033; omega)⟩) hw (fun r2591 K2591 X2591 R2591 H locs hp2591 hw => ?_)
  obtain ⟨hk1, hv1, ρ1, hC1, hf1⟩ := hp2591
  obtain ⟨hR1, hpt1, hk1o⟩ := hI.c (Or.inl rfl) hC1 hf1
  have hmd1 := hR1.1.1
  refine lv_istore (pc := 2594) (lv' := [(6, .int (iI r2591)), (5, .int (iI i)), (4, .ref outD), (3, .ref out), (2, .ref md), (1, .ref x), (0, .ref b)]) hx hb dL_law_2594 hl (by decide) rfl (fun ls hl => ?_)
  refine lv_aload_n (pc := 2596) hx hb dL_law_2596 rfl (lv_at hl 4 rfl) ?_
  refine lv_aload_n (pc := 2597) hx hb dL_law_2597 rfl (lv_at hl 6 rfl) ?_
  refine lv_iload (pc := 2598) hx hb dL_law_2598 (lv_at hl 1 rfl) ?_
  refine ziconst (pc := 2600) (n := 1) hx hb dL_law_2600 ?_
  refine zadd (pc := 2601) hx hb dL_law_2601 ?_
  refine zsld (pc := 2602) hx hb hXs hbl hbA hL hw ⟨by omega, by omega⟩ hq1 dL_law_2602 ?_
  have hM1 : okM (if cdPl M a = 0 then (upM M 25 a) else M) := by split; (next h9 => exact okM_wp hM h9); exact hM
  refine zkI (pc := 2603) (zrV (As := [.int (iI a)]) hx hb hml hown hG hw (c_X9_setWorkPlace l Γ K2591 X2591 R2591 md a (rlb K2591 ρ1) M (by (first | assumption | omega)) (by (first | assumption | omega)) (by (first | assumption | omega))) (T := TX9) hmd1 rfl cb_X9_setWorkPlace wl_L_281 rfl ⟨Nat.le_of_ble_eq_true rfl, Nat.le_of_ble_eq_true rfl⟩ hl.1 rfl (Nat.le_of_ble_eq_true rfl) dL_law_2603 ⟨(by show cw + 1 + 0 ≤ 601024; omega), (by show sw + 6 + 0 ≤ 7293033; omega)⟩) hw (fun r2603 K2603 X2603 R2603 H locs hp2603 hw => ?_)
  obtain ⟨hv2, h02, ρ2, hR2, hg2, hpt2⟩ : (cdPl M a = 0 → r2603 = M 40 25) ∧ X2603 md 0 = cdPl M a ∧ ∃ ρ2, repR ρ2 K2603 X2603 R2603 md (if cdPl M a = 0 then (upM M 25 a) else M) ∧ frR (rlb K2591 ρ1) K2591 X2591 R2591 ρ2 K2603 X2603 R2603 ∧ ptR X2603 R2603 md ≤ ptR X2591 R2591 md + 5000 := by obtain ⟨a1, a2, ρ', a3, a4, a5⟩ := hp2603; exact ⟨a1, a2, ρ', a3, a4, a5⟩
  obtain ⟨hxo, hxd, ρ3, hI3⟩ := LI.r hC1 hk1o hM1 hR2 hg2
  have hmd3 := hI3.2.1.1.1
  have hko3 := hI3.2.2.2.1.1
  have hkd3 := hI3.2.2.2.2.1
  have hcb : 0 ≤ cdPl M a ∧ cdPl M a ≤ 3 := by unfold cdPl; (repeat' split) <;> omega
  refine lv_istore (pc := 2606) (lv' := [(7, .int (iI r2603)), (6, .int (iI r2591)), (5, .int (iI i)), (4, .ref outD), (3, .ref out), (2, .ref md), (1, .ref x), (0, .ref b)]) hx hb dL_law_2606 hl (by decide) rfl (fun ls hl => ?_)
  refine lv_aload_n (pc := 2608) hx hb dL_law_2608 rfl (lv_at hl 5 rfl) ?_
  refine zkIp (pc := 2609) (zrV (As := []) hx hb hml hown hG hw (c_X9_thrown l Γ K2603 X2603 R2603 md  (by (first | assumption | omega))) (T := TX9) hmd3 rfl cb_X9_thrown wl_L_172 rfl ⟨Nat.le_of_ble_eq_true rfl, Nat.le_of_ble_eq_true rfl⟩ hl.1 rfl (Nat.le_of_ble_eq_true rfl) dL_law_2609 ⟨(by show cw + 1 + 0 ≤ 601024; omega), (by show sw + 6 + 0 ≤ 7293033; omega)⟩) hw (fun r2609 H locs hp2609 hw => ?_)
  subst hp2609
  refine lv_iload (pc := 2612) hx hb dL_law_2612 (lv_at hl 1 rfl) ?_
  refine zicmp_eq (pc := 2614) hx hb 2619 (by omega) (by omega) dL_law_2614 (by decide) (fun c2614 => ?_) (fun c2614 => ?_)
  · skip
    refine lv_iload (pc := 2619) hx hb dL_law_2619 (lv_at hl 1 rfl) ?_
    refine zif_ne (pc := 2621) hx hb 2636 (by omega) dL_law_2621 (by decide) (fun c2621 => ?_) (fun c2621 => ?_)
    · skip
      refine lv_goto (pc := 2636) (tgt := 3400) hx hb dL_law_2636 (by decide) ?_
      exact kk ρ3 K2603 X2603 R2603 _ H locs _ _ ls hI3 ⟨by omega, by omega⟩ hw (lv_sub hl [2, 3, 4, 5, 6, 7] rfl)
    · skip
      have hc0 : cdPl M a = 0 := by omega
      have hov : X2603 out 0 = wI r2603 := by rw [congrFun hxo 0, hv1 hc0, hv2 hc0]
      refine lv_aload_n (pc := 2624) hx hb dL_law_2624 rfl (lv_at hl 4 rfl) ?_
      refine ziconst (pc := 2625) (n := 0) hx hb dL_law_2625 ?_
      refine zlald (pc := 2626) hx hb hw hko3 ⟨by omega, by omega⟩ (by omega) dL_law_2626 ?_
      refine lv_iload (pc := 2627) hx hb dL_law_2627 (lv_at hl 0 rfl) ?_
      refine zi2lw (pc := 2629) hx hb dL_law_2629 ?_
      refine zlcmpE (pc := 2630) hx hb hov dL_law_2630 ?_
      refine zif_eq (pc := 2631) hx hb 2636 (by omega) dL_law_2631 (by decide) (fun c2631 => ?_) (fun c2631 => ?_)
      · skip
        refine lv_goto (pc := 2636) (tgt := 3400) hx hb dL_law_2636 (by decide) ?_
        exact kk ρ3 K2603 X2603 R2603 _ H locs _ _ ls hI3 ⟨by omega, by omega⟩ hw (lv_sub hl [2, 3, 4, 5, 6, 7] rfl)
      · skip
        exfalso; omega
  · skip
    exfalso; omega
set_option maxHeartbeats 4000000 in
set_option maxRecDepth 100000 in
theorem lc_35 {p : Program} {l : Launch} (hl9 : l.stackTraces = false) {e : Env} {s : State} {m : MethodId} {below : List Frame} {meth : Method} {c : Code} {Q : State → Prop} {b L : Nat} {xs : Nat → Int32} {Γ : zG} {K0 : zK} (E : LE p s m c b L xs K0) {ρ : zL} {K : zK} {X : zX} {Rf : zR} {M : zM} {x md out outD it : Nat} {i : Int} {cw sw : Nat} {H : Heap} {locs : List Loc} {ls : Array Slot} (hi : 0 ≤ i ∧ i + 8 ≤ (L : Int)) (hit : it ≤ 511) (hI : LI ρ K X Rf x md out outD M) (hcs : cw ≤ 100 + 1100 * it ∧ sw + ptR X Rf md ≤ 112000 + 14000 * it) (hw : Wd Γ (zA K0 s.heap.size) K X Rf s H locs) (hl : lv_has ls 9 [(5, .int (iI i)), (4, .ref outD), (3, .ref out), (2, .ref md), (1, .ref x), (0, .ref b)]) (kk : ∀ (ρ' : zL) (K' : zK) (X' : zX) (R' : zR) (M' : zM) (H' : Heap) (locs' : List Loc) (cl' sl' : Nat) (ls' : Array Slot), LI ρ' K' X' R' x md out outD M' → (cl' ≤ 100 + 1100 * (it + 1) ∧ sl' + ptR X' R' md ≤ 112000 + 14000 * (it + 1)) → Wd Γ (zA K0 s.heap.size) K' X' R' s H' locs' → lv_has ls' 9 [(5, .int (iI i)), (4, .ref outD), (3, .ref out), (2, .ref md), (1, .ref x), (0, .ref b)] → W p l e room_1 s m #[Value.ref b] below meth c H' locs' cl' sl' Q (F0 m 3400 ls' [])) : W p l e room_1 s m #[Value.ref b] below meth c H locs cw sw Q (F0 m 2639 ls []) := by
  obtain ⟨⟨hx, hb, hml, hown⟩, hG, h46, hX, hXs, hbl, hbA, hL⟩ := E
  obtain ⟨hC, hRr, hM, ⟨hko4, hlo4⟩, hko5, hlo5⟩ := id hI
  have hCk := hC.1.1
  have hloo : ρ out = 4000 ∨ ρ out = 4001 := Or.inl hlo4
  have hlod : ρ outD = 4000 ∨ ρ outD = 4001 := Or.inr hlo5
  obtain ⟨w9, hq1⟩ : ∃ z : Int, scI xs (i + 1).toNat = z := ⟨_, rfl⟩
  have hf1 : fit w9 := by rw [← hq1]; exact scI_fit
  refine lv_aload_n (pc := 2639) hx hb dL_law_2639 rfl (lv_at hl 4 rfl) ?_
  refine lv_aload_n (pc := 2640) hx hb dL_law_2640 rfl (lv_at hl 5 rfl) ?_
  refine lv_iload (pc := 2641) hx hb dL_law_2641 (lv_at hl 0 rfl) ?_
  refine ziconst (pc := 2643) (n := 1) hx hb dL_law_2643 ?_
  refine zadd (pc := 2644) hx hb dL_law_2644 ?_
  refine zsld (pc := 2645) hx hb hXs hbl hbA hL hw ⟨by omega, by omega⟩ hq1 dL_law_2645 ?_
  refine lv_aload_n (pc := 2646) hx hb dL_law_2646 rfl (lv_at hl 2 rfl) ?_
  refine zkI (pc := 2647) (zlrS (As := [.ref x, .int (iI w9), .ref out]) hx hb hml hown hG h46 hX hw (c_L_setWeek l hl9 Γ K X Rf x w9 out (ρ) M (by (first | assumption | omega)) (by (first | assumption | omega)) (by (first | assumption | omega)) (by (first | assumption | omega)) (by (first | assumption | omega))) cb_L_setWeek wl_L_282 rfl ⟨Nat.le_of_ble_eq_true rfl, Nat.le_of_ble_eq_true rfl⟩ hl.1 rfl (Nat.le_of_ble_eq_true rfl) dL_law_2647 ⟨(by show cw + 1 ≤ 601024; omega), (by show sw + 6 ≤ 7293033; omega)⟩) hw (fun r2647 K2647 X2647 R2647 H locs hp2647 hw => ?_)
  obtain ⟨hk1, hv1, ρ1, hC1, hf1⟩ := hp2647
  obtain ⟨hR1, hpt1, hk1o⟩ := hI.c (Or.inl rfl) hC1 hf1
  have hmd1 := hR1.1.1
  refine lv_istore (pc := 2650) (lv' := [(6, .int (iI r2647)), (5, .int (iI i)), (4, .ref outD), (3, .ref out), (2, .ref md), (1, .ref x), (0, .ref b)]) hx hb dL_law_2650 hl (by decide) rfl (fun ls hl => ?_)
  refine lv_aload_n (pc := 2652) hx hb dL_law_2652 rfl (lv_at hl 4 rfl) ?_
  refine lv_aload_n (pc := 2653) hx hb dL_law_2653 rfl (lv_at hl 6 rfl) ?_
  refine lv_iload (pc := 2654) hx hb dL_law_2654 (lv_at hl 1 rfl) ?_
  refine ziconst (pc := 2656) (n := 1) hx hb dL_law_2656 ?_
  refine zadd (pc := 2657) hx hb dL_law_2657 ?_
  refine zsld (pc := 2658) hx hb hXs hbl hbA hL hw ⟨by omega, by omega⟩ hq1 dL_law_2658 ?_
  have hM1 : okM (if cdWk w9 = 0 then (upM M 26 w9) else M) := by split; (next h9 => exact okM_wk hM h9); exact hM
  refine zkI (pc := 2659) (zrV (As := [.int (iI w9)]) hx hb hml hown hG hw (c_X9_setWeek l Γ K2647 X2647 R2647 md w9 (rlb K2647 ρ1) M (by (first | assumption | omega)) (by (first | assumption | omega)) (by (first | assumption | omega))) (T := TX9) hmd1 rfl cb_X9_setWeek wl_L_284 rfl ⟨Nat.le_of_ble_eq_true rfl, Nat.le_of_ble_eq_true rfl⟩ hl.1 rfl (Nat.le_of_ble_eq_true rfl) dL_law_2659 ⟨(by show cw + 1 + 0 ≤ 601024; omega), (by show sw + 6 + 0 ≤ 7293033; omega)⟩) hw (fun r2659 K2659 X2659 R2659 H locs hp2659 hw => ?_)
  obtain ⟨hv2, h02, ρ2, hR2, hg2, hpt2⟩ : (cdWk w9 = 0 → r2659 = M 40 26) ∧ X2659 md 0 = cdWk w9 ∧ ∃ ρ2, repR ρ2 K2659 X2659 R2659 md (if cdWk w9 = 0 then (upM M 26 w9) else M) ∧ frR (rlb K2647 ρ1) K2647 X2647 R2647 ρ2 K2659 X2659 R2659 ∧ ptR X2659 R2659 md ≤ ptR X2647 R2647 md + 5000 := by obtain ⟨a1, a2, ρ', a3, a4, a5⟩ := hp2659; exact ⟨a1, a2, ρ', a3, a4, a5⟩
  obtain ⟨hxo, hxd, ρ3, hI3⟩ := LI.r hC1 hk1o hM1 hR2 hg2
  have hmd3 := hI3.2.1.1.1
  have hko3 := hI3.2.2.2.1.1
  have hkd3 := hI3.2.2.2.2.1
  have hcb : 0 ≤ cdWk w9 ∧ cdWk w9 ≤ 3 := by unfold cdWk; (repeat' split) <;> omega
  refine lv_istore (pc := 2662) (lv' := [(7, .int (iI r2659)), (6, .int (iI r2647)), (5, .int (iI i)), (4, .ref outD), (3, .ref out), (2, .ref md), (1, .ref x), (0, .ref b)]) hx hb dL_law_2662 hl (by decide) rfl (fun ls hl => ?_)
  refine lv_aload_n (pc := 2664) hx hb dL_law_2664 rfl (lv_at hl 5 rfl) ?_
  refine zkIp (pc := 2665) (zrV (As := []) hx hb hml hown hG hw (c_X9_thrown l Γ K2659 X2659 R2659 md  (by (first | assumption | omega))) (T := TX9) hmd3 rfl cb_X9_thrown wl_L_172 rfl ⟨Nat.le_of_ble_eq_true rfl, Nat.le_of_ble_eq_true rfl⟩ hl.1 rfl (Nat.le_of_ble_eq_true rfl) dL_law_2665 ⟨(by show cw + 1 + 0 ≤ 601024; omega), (by show sw + 6 + 0 ≤ 7293033; omega)⟩) hw (fun r2665 H locs hp2665 hw => ?_)
  subst hp2665
  refine lv_iload (pc := 2668) hx hb dL_law_2668 (lv_at hl 1 rfl) ?_
  refine zicmp_eq (pc := 2670) hx hb 2675 (by omega) (by omega) dL_law_2670 (by decide) (fun c2670 => ?_) (fun c2670 => ?_)
  · skip
    refine lv_iload (pc := 2675) hx hb dL_law_2675 (lv_at hl 1 rfl) ?_
    refine zif_ne (pc := 2677) hx hb 2692 (by omega) dL_law_2677 (by decide) (fun c2677 => ?_) (fun c2677 => ?_)
    · skip
      refine lv_goto (pc := 2692) (tgt := 3400) hx hb dL_law_2692 (by decide) ?_
      exact kk ρ3 K2659 X2659 R2659 _ H locs _ _ ls hI3 ⟨by omega, by omega⟩ hw (lv_sub hl [2, 3, 4, 5, 6, 7] rfl)
    · skip
      have hc0 : cdWk w9 = 0 := by omega
      have hov : X2659 out 0 = wI r2659 := by rw [congrFun hxo 0, hv1 hc0, hv2 hc0]
      refine lv_aload_n (pc := 2680) hx hb dL_law_2680 rfl (lv_at hl 4 rfl) ?_
      refine ziconst (pc := 2681) (n := 0) hx hb dL_law_2681 ?_
      refine zlald (pc := 2682) hx hb hw hko3 ⟨by omega, by omega⟩ (by omega) dL_law_2682 ?_
      refine lv_iload (pc := 2683) hx hb dL_law_2683 (lv_at hl 0 rfl) ?_
      refine zi2lw (pc := 2685) hx hb dL_law_2685 ?_
      refine zlcmpE (pc := 2686) hx hb hov dL_law_2686 ?_
      refine zif_eq (pc := 2687) hx hb 2692 (by omega) dL_law_2687 (by decide) (fun c2687 => ?_) (fun c2687 => ?_)
      · skip
        refine lv_goto (pc := 2692) (tgt := 3400) hx hb dL_law_2692 (by decide) ?_
        exact kk ρ3 K2659 X2659 R2659 _ H locs _ _ ls hI3 ⟨by omega, by omega⟩ hw (lv_sub hl [2, 3, 4, 5, 6, 7] rfl)
      · skip
        exfalso; omega
  · skip
    exfalso; omega
