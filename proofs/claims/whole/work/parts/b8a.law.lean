set_option maxHeartbeats 4000000 in
set_option maxRecDepth 100000 in
theorem lc_0 {p : Program} {l : Launch} (hl9 : l.stackTraces = false) {e : Env} {s : State} {m : MethodId} {below : List Frame} {meth : Method} {c : Code} {Q : State → Prop} {b L : Nat} {xs : Nat → Int32} {Γ : zG} {K0 : zK} (E : LE p s m c b L xs K0) {ρ : zL} {K : zK} {X : zX} {Rf : zR} {M : zM} {x md out outD it : Nat} {i : Int} {cw sw : Nat} {H : Heap} {locs : List Loc} {ls : Array Slot} (hi : 0 ≤ i ∧ i + 8 ≤ (L : Int)) (hit : it ≤ 511) (hI : LI ρ K X Rf x md out outD M) (hcs : cw ≤ 100 + 1100 * it ∧ sw + ptR X Rf md ≤ 112000 + 14000 * it) (hw : Wd Γ (zA K0 s.heap.size) K X Rf s H locs) (hl : lv_has ls 9 [(5, .int (iI i)), (4, .ref outD), (3, .ref out), (2, .ref md), (1, .ref x), (0, .ref b)]) (kk : ∀ (ρ' : zL) (K' : zK) (X' : zX) (R' : zR) (M' : zM) (H' : Heap) (locs' : List Loc) (cl' sl' : Nat) (ls' : Array Slot), LI ρ' K' X' R' x md out outD M' → (cl' ≤ 100 + 1100 * (it + 1) ∧ sl' + ptR X' R' md ≤ 112000 + 14000 * (it + 1)) → Wd Γ (zA K0 s.heap.size) K' X' R' s H' locs' → lv_has ls' 9 [(5, .int (iI i)), (4, .ref outD), (3, .ref out), (2, .ref md), (1, .ref x), (0, .ref b)] → W p l e room_1 s m #[Value.ref b] below meth c H' locs' cl' sl' Q (F0 m 3400 ls' [])) : W p l e room_1 s m #[Value.ref b] below meth c H locs cw sw Q (F0 m 248 ls []) := by
  obtain ⟨⟨hx, hb, hml, hown⟩, hG, h46, hX, hXs, hbl, hbA, hL⟩ := E
  obtain ⟨hC, hRr, hM, ⟨hko4, hlo4⟩, hko5, hlo5⟩ := id hI
  have hCk := hC.1.1
  have hloo : ρ out = 4000 ∨ ρ out = 4001 := Or.inl hlo4
  have hlod : ρ outD = 4000 ∨ ρ outD = 4001 := Or.inr hlo5
  obtain ⟨year, hq1⟩ : ∃ z : Int, scI xs (i + 1).toNat = z := ⟨_, rfl⟩
  have hf1 : fit year := by rw [← hq1]; exact scI_fit
  obtain ⟨month, hq2⟩ : ∃ z : Int, scI xs (i + 2).toNat = z := ⟨_, rfl⟩
  have hf2 : fit month := by rw [← hq2]; exact scI_fit
  obtain ⟨day, hq3⟩ : ∃ z : Int, scI xs (i + 3).toNat = z := ⟨_, rfl⟩
  have hf3 : fit day := by rw [← hq3]; exact scI_fit
  refine lv_aload_n (pc := 248) hx hb dL_law_248 rfl (lv_at hl 4 rfl) ?_
  refine lv_aload_n (pc := 249) hx hb dL_law_249 rfl (lv_at hl 5 rfl) ?_
  refine lv_iload (pc := 250) hx hb dL_law_250 (lv_at hl 0 rfl) ?_
  refine ziconst (pc := 252) (n := 1) hx hb dL_law_252 ?_
  refine zadd (pc := 253) hx hb dL_law_253 ?_
  refine zsld (pc := 254) hx hb hXs hbl hbA hL hw ⟨by omega, by omega⟩ hq1 dL_law_254 ?_
  refine lv_aload_n (pc := 255) hx hb dL_law_255 rfl (lv_at hl 5 rfl) ?_
  refine lv_iload (pc := 256) hx hb dL_law_256 (lv_at hl 0 rfl) ?_
  refine ziconst (pc := 258) (n := 2) hx hb dL_law_258 ?_
  refine zadd (pc := 259) hx hb dL_law_259 ?_
  refine zsld (pc := 260) hx hb hXs hbl hbA hL hw ⟨by omega, by omega⟩ hq2 dL_law_260 ?_
  refine lv_aload_n (pc := 261) hx hb dL_law_261 rfl (lv_at hl 5 rfl) ?_
  refine lv_iload (pc := 262) hx hb dL_law_262 (lv_at hl 0 rfl) ?_
  refine ziconst (pc := 264) (n := 3) hx hb dL_law_264 ?_
  refine zadd (pc := 265) hx hb dL_law_265 ?_
  refine zsld (pc := 266) hx hb hXs hbl hbA hL hw ⟨by omega, by omega⟩ hq3 dL_law_266 ?_
  refine lv_aload_n (pc := 267) hx hb dL_law_267 rfl (lv_at hl 2 rfl) ?_
  refine zkI (pc := 268) (zlrS (As := [.ref x, .int (iI year), .int (iI month), .int (iI day), .ref out]) hx hb hml hown hG h46 hX hw (c_L_dayOf l hl9 Γ K X Rf x year month day out (ρ) M (by (first | assumption | omega)) (by (first | assumption | omega)) (by (first | assumption | omega)) (by (first | assumption | omega)) (by (first | assumption | omega))) cb_L_dayOf wl_L_166 rfl ⟨Nat.le_of_ble_eq_true rfl, Nat.le_of_ble_eq_true rfl⟩ hl.1 rfl (Nat.le_of_ble_eq_true rfl) dL_law_268 ⟨(by show cw + 2 ≤ 601024; omega), (by show sw + 12 ≤ 7293033; omega)⟩) hw (fun r268 K268 X268 R268 H locs hp268 hw => ?_)
  obtain ⟨hk1, hv1, ρ1, hC1, hf1⟩ := hp268
  obtain ⟨hR1, hpt1, hk1o⟩ := hI.c (Or.inl rfl) hC1 hf1
  have hmd1 := hR1.1.1
  refine lv_istore (pc := 271) (lv' := [(6, .int (iI r268)), (5, .int (iI i)), (4, .ref outD), (3, .ref out), (2, .ref md), (1, .ref x), (0, .ref b)]) hx hb dL_law_271 hl (by decide) rfl (fun ls hl => ?_)
  refine lv_aload_n (pc := 273) hx hb dL_law_273 rfl (lv_at hl 4 rfl) ?_
  refine lv_aload_n (pc := 274) hx hb dL_law_274 rfl (lv_at hl 6 rfl) ?_
  refine lv_iload (pc := 275) hx hb dL_law_275 (lv_at hl 1 rfl) ?_
  refine ziconst (pc := 277) (n := 1) hx hb dL_law_277 ?_
  refine zadd (pc := 278) hx hb dL_law_278 ?_
  refine zsld (pc := 279) hx hb hXs hbl hbA hL hw ⟨by omega, by omega⟩ hq1 dL_law_279 ?_
  refine lv_aload_n (pc := 280) hx hb dL_law_280 rfl (lv_at hl 6 rfl) ?_
  refine lv_iload (pc := 281) hx hb dL_law_281 (lv_at hl 1 rfl) ?_
  refine ziconst (pc := 283) (n := 2) hx hb dL_law_283 ?_
  refine zadd (pc := 284) hx hb dL_law_284 ?_
  refine zsld (pc := 285) hx hb hXs hbl hbA hL hw ⟨by omega, by omega⟩ hq2 dL_law_285 ?_
  refine lv_aload_n (pc := 286) hx hb dL_law_286 rfl (lv_at hl 6 rfl) ?_
  refine lv_iload (pc := 287) hx hb dL_law_287 (lv_at hl 1 rfl) ?_
  refine ziconst (pc := 289) (n := 3) hx hb dL_law_289 ?_
  refine zadd (pc := 290) hx hb dL_law_290 ?_
  refine zsld (pc := 291) hx hb hXs hbl hbA hL hw ⟨by omega, by omega⟩ hq3 dL_law_291 ?_
  have hM1 : okM M := by exact hM
  refine zkIx (pc := 292) (zrV (As := [.int (iI year), .int (iI month), .int (iI day)]) hx hb hml hown hG hw (c_X9_dayOf l Γ K268 X268 R268 md year month day (rlb K268 ρ1) M (by (first | assumption | omega)) (by (first | assumption | omega)) (by (first | assumption | omega))) (T := TX9) hmd1 rfl cb_X9_dayOf wl_L_171 rfl ⟨Nat.le_of_ble_eq_true rfl, Nat.le_of_ble_eq_true rfl⟩ hl.1 rfl (Nat.le_of_ble_eq_true rfl) dL_law_292 ⟨(by show cw + 2 + 0 ≤ 601024; omega), (by show sw + 12 + 0 ≤ 7293033; omega)⟩) hw (fun r292 X292 H locs hp292 hw => ?_)
  obtain ⟨hv2, h02, ρ2, hR2, hg2, hpt2⟩ : (cdDate year month day = 0 → r292 = vlDate year month day) ∧ X292 md 0 = cdDate year month day ∧ ∃ ρ2, repR ρ2 K268 X292 R268 md M ∧ frR (rlb K268 ρ1) K268 X268 R268 ρ2 K268 X292 R268 ∧ ptR X292 R268 md ≤ ptR X268 R268 md := by obtain ⟨a1, a2⟩ := hp292; exact ⟨a1, by rw [a2]; exact up2_s, rlb K268 ρ1, by rw [a2]; exact hR1.own ⟨rfl, by decide⟩, by rw [a2]; exact frR_own hR1, by rw [a2]; exact ptR_ls (lsR_own hR1)⟩
  obtain ⟨hxo, hxd, ρ3, hI3⟩ := LI.r hC1 hk1o hM1 hR2 hg2
  have hmd3 := hI3.2.1.1.1
  have hko3 := hI3.2.2.2.1.1
  have hkd3 := hI3.2.2.2.2.1
  have hcb : 0 ≤ cdDate year month day ∧ cdDate year month day ≤ 3 := by unfold cdDate; (repeat' split) <;> omega
  refine lv_istore (pc := 295) (lv' := [(7, .int (iI r292)), (6, .int (iI r268)), (5, .int (iI i)), (4, .ref outD), (3, .ref out), (2, .ref md), (1, .ref x), (0, .ref b)]) hx hb dL_law_295 hl (by decide) rfl (fun ls hl => ?_)
  refine lv_aload_n (pc := 297) hx hb dL_law_297 rfl (lv_at hl 5 rfl) ?_
  refine zkIp (pc := 298) (zrV (As := []) hx hb hml hown hG hw (c_X9_thrown l Γ K268 X292 R268 md  (by (first | assumption | omega))) (T := TX9) hmd3 rfl cb_X9_thrown wl_L_172 rfl ⟨Nat.le_of_ble_eq_true rfl, Nat.le_of_ble_eq_true rfl⟩ hl.1 rfl (Nat.le_of_ble_eq_true rfl) dL_law_298 ⟨(by show cw + 2 + 0 ≤ 601024; omega), (by show sw + 12 + 0 ≤ 7293033; omega)⟩) hw (fun r298 H locs hp298 hw => ?_)
  subst hp298
  refine lv_iload (pc := 301) hx hb dL_law_301 (lv_at hl 1 rfl) ?_
  refine zicmp_eq (pc := 303) hx hb 308 (by omega) (by omega) dL_law_303 (by decide) (fun c303 => ?_) (fun c303 => ?_)
  · skip
    refine lv_iload (pc := 308) hx hb dL_law_308 (lv_at hl 1 rfl) ?_
    refine zif_ne (pc := 310) hx hb 325 (by omega) dL_law_310 (by decide) (fun c310 => ?_) (fun c310 => ?_)
    · skip
      refine lv_goto (pc := 325) (tgt := 3400) hx hb dL_law_325 (by decide) ?_
      exact kk ρ3 K268 X292 R268 _ H locs _ _ ls hI3 ⟨by omega, by omega⟩ hw (lv_sub hl [2, 3, 4, 5, 6, 7] rfl)
    · skip
      have hc0 : cdDate year month day = 0 := by omega
      have hov : X292 out 0 = wI r292 := by rw [congrFun hxo 0, hv1 hc0, hv2 hc0]
      refine lv_aload_n (pc := 313) hx hb dL_law_313 rfl (lv_at hl 4 rfl) ?_
      refine ziconst (pc := 314) (n := 0) hx hb dL_law_314 ?_
      refine zlald (pc := 315) hx hb hw hko3 ⟨by omega, by omega⟩ (by omega) dL_law_315 ?_
      refine lv_iload (pc := 316) hx hb dL_law_316 (lv_at hl 0 rfl) ?_
      refine zi2lw (pc := 318) hx hb dL_law_318 ?_
      refine zlcmpE (pc := 319) hx hb hov dL_law_319 ?_
      refine zif_eq (pc := 320) hx hb 325 (by omega) dL_law_320 (by decide) (fun c320 => ?_) (fun c320 => ?_)
      · skip
        refine lv_goto (pc := 325) (tgt := 3400) hx hb dL_law_325 (by decide) ?_
        exact kk ρ3 K268 X292 R268 _ H locs _ _ ls hI3 ⟨by omega, by omega⟩ hw (lv_sub hl [2, 3, 4, 5, 6, 7] rfl)
      · skip
        exfalso; omega
  · skip
    exfalso; omega
set_option maxHeartbeats 4000000 in
set_option maxRecDepth 100000 in
theorem lc_1 {p : Program} {l : Launch} (hl9 : l.stackTraces = false) {e : Env} {s : State} {m : MethodId} {below : List Frame} {meth : Method} {c : Code} {Q : State → Prop} {b L : Nat} {xs : Nat → Int32} {Γ : zG} {K0 : zK} (E : LE p s m c b L xs K0) {ρ : zL} {K : zK} {X : zX} {Rf : zR} {M : zM} {x md out outD it : Nat} {i : Int} {cw sw : Nat} {H : Heap} {locs : List Loc} {ls : Array Slot} (hi : 0 ≤ i ∧ i + 8 ≤ (L : Int)) (hit : it ≤ 511) (hI : LI ρ K X Rf x md out outD M) (hcs : cw ≤ 100 + 1100 * it ∧ sw + ptR X Rf md ≤ 112000 + 14000 * it) (hw : Wd Γ (zA K0 s.heap.size) K X Rf s H locs) (hl : lv_has ls 9 [(5, .int (iI i)), (4, .ref outD), (3, .ref out), (2, .ref md), (1, .ref x), (0, .ref b)]) (kk : ∀ (ρ' : zL) (K' : zK) (X' : zX) (R' : zR) (M' : zM) (H' : Heap) (locs' : List Loc) (cl' sl' : Nat) (ls' : Array Slot), LI ρ' K' X' R' x md out outD M' → (cl' ≤ 100 + 1100 * (it + 1) ∧ sl' + ptR X' R' md ≤ 112000 + 14000 * (it + 1)) → Wd Γ (zA K0 s.heap.size) K' X' R' s H' locs' → lv_has ls' 9 [(5, .int (iI i)), (4, .ref outD), (3, .ref out), (2, .ref md), (1, .ref x), (0, .ref b)] → W p l e room_1 s m #[Value.ref b] below meth c H' locs' cl' sl' Q (F0 m 3400 ls' [])) : W p l e room_1 s m #[Value.ref b] below meth c H locs cw sw Q (F0 m 328 ls []) := by
  obtain ⟨⟨hx, hb, hml, hown⟩, hG, h46, hX, hXs, hbl, hbA, hL⟩ := E
  obtain ⟨hC, hRr, hM, ⟨hko4, hlo4⟩, hko5, hlo5⟩ := id hI
  have hCk := hC.1.1
  have hloo : ρ out = 4000 ∨ ρ out = 4001 := Or.inl hlo4
  have hlod : ρ outD = 4000 ∨ ρ outD = 4001 := Or.inr hlo5
  obtain ⟨day, hq1⟩ : ∃ z : Int, scI xs (i + 1).toNat = z := ⟨_, rfl⟩
  have hf1 : fit day := by rw [← hq1]; exact scI_fit
  refine lv_aload_n (pc := 328) hx hb dL_law_328 rfl (lv_at hl 4 rfl) ?_
  refine lv_aload_n (pc := 329) hx hb dL_law_329 rfl (lv_at hl 5 rfl) ?_
  refine lv_iload (pc := 330) hx hb dL_law_330 (lv_at hl 0 rfl) ?_
  refine ziconst (pc := 332) (n := 1) hx hb dL_law_332 ?_
  refine zadd (pc := 333) hx hb dL_law_333 ?_
  refine zsld (pc := 334) hx hb hXs hbl hbA hL hw ⟨by omega, by omega⟩ hq1 dL_law_334 ?_
  refine lv_aload_n (pc := 335) hx hb dL_law_335 rfl (lv_at hl 2 rfl) ?_
  refine zkI (pc := 336) (zlrS (As := [.ref x, .int (iI day), .ref out]) hx hb hml hown hG h46 hX hw (c_L_yearOf l hl9 Γ K X Rf x day out (ρ) M (by (first | assumption | omega)) (by (first | assumption | omega)) (by (first | assumption | omega)) (by (first | assumption | omega)) (by (first | assumption | omega))) cb_L_yearOf wl_L_176 rfl ⟨Nat.le_of_ble_eq_true rfl, Nat.le_of_ble_eq_true rfl⟩ hl.1 rfl (Nat.le_of_ble_eq_true rfl) dL_law_336 ⟨(by show cw + 1 ≤ 601024; omega), (by show sw + 6 ≤ 7293033; omega)⟩) hw (fun r336 K336 X336 R336 H locs hp336 hw => ?_)
  obtain ⟨hk1, hv1, ρ1, hC1, hf1⟩ := hp336
  obtain ⟨hR1, hpt1, hk1o⟩ := hI.c (Or.inl rfl) hC1 hf1
  have hmd1 := hR1.1.1
  refine lv_istore (pc := 339) (lv' := [(6, .int (iI r336)), (5, .int (iI i)), (4, .ref outD), (3, .ref out), (2, .ref md), (1, .ref x), (0, .ref b)]) hx hb dL_law_339 hl (by decide) rfl (fun ls hl => ?_)
  refine lv_aload_n (pc := 341) hx hb dL_law_341 rfl (lv_at hl 4 rfl) ?_
  refine lv_aload_n (pc := 342) hx hb dL_law_342 rfl (lv_at hl 6 rfl) ?_
  refine lv_iload (pc := 343) hx hb dL_law_343 (lv_at hl 1 rfl) ?_
  refine ziconst (pc := 345) (n := 1) hx hb dL_law_345 ?_
  refine zadd (pc := 346) hx hb dL_law_346 ?_
  refine zsld (pc := 347) hx hb hXs hbl hbA hL hw ⟨by omega, by omega⟩ hq1 dL_law_347 ?_
  have hM1 : okM M := by exact hM
  refine zkIx (pc := 348) (zrV (As := [.int (iI day)]) hx hb hml hown hG hw (c_X9_yearOf l Γ K336 X336 R336 md day (rlb K336 ρ1) M (by (first | assumption | omega)) (by (first | assumption | omega)) (by (first | assumption | omega))) (T := TX9) hmd1 rfl cb_X9_yearOf wl_L_179 rfl ⟨Nat.le_of_ble_eq_true rfl, Nat.le_of_ble_eq_true rfl⟩ hl.1 rfl (Nat.le_of_ble_eq_true rfl) dL_law_348 ⟨(by show cw + 1 + 0 ≤ 601024; omega), (by show sw + 6 + 0 ≤ 7293033; omega)⟩) hw (fun r348 X348 H locs hp348 hw => ?_)
  obtain ⟨hv2, h02, ρ2, hR2, hg2, hpt2⟩ : (cdDay day = 0 → r348 = 1900 + yr day) ∧ X348 md 0 = cdDay day ∧ ∃ ρ2, repR ρ2 K336 X348 R336 md M ∧ frR (rlb K336 ρ1) K336 X336 R336 ρ2 K336 X348 R336 ∧ ptR X348 R336 md ≤ ptR X336 R336 md := by obtain ⟨a1, a2⟩ := hp348; exact ⟨a1, by rw [a2]; exact up2_s, rlb K336 ρ1, by rw [a2]; exact hR1.own ⟨rfl, by decide⟩, by rw [a2]; exact frR_own hR1, by rw [a2]; exact ptR_ls (lsR_own hR1)⟩
  obtain ⟨hxo, hxd, ρ3, hI3⟩ := LI.r hC1 hk1o hM1 hR2 hg2
  have hmd3 := hI3.2.1.1.1
  have hko3 := hI3.2.2.2.1.1
  have hkd3 := hI3.2.2.2.2.1
  have hcb : 0 ≤ cdDay day ∧ cdDay day ≤ 3 := by unfold cdDay; (repeat' split) <;> omega
  refine lv_istore (pc := 351) (lv' := [(7, .int (iI r348)), (6, .int (iI r336)), (5, .int (iI i)), (4, .ref outD), (3, .ref out), (2, .ref md), (1, .ref x), (0, .ref b)]) hx hb dL_law_351 hl (by decide) rfl (fun ls hl => ?_)
  refine lv_aload_n (pc := 353) hx hb dL_law_353 rfl (lv_at hl 5 rfl) ?_
  refine zkIp (pc := 354) (zrV (As := []) hx hb hml hown hG hw (c_X9_thrown l Γ K336 X348 R336 md  (by (first | assumption | omega))) (T := TX9) hmd3 rfl cb_X9_thrown wl_L_172 rfl ⟨Nat.le_of_ble_eq_true rfl, Nat.le_of_ble_eq_true rfl⟩ hl.1 rfl (Nat.le_of_ble_eq_true rfl) dL_law_354 ⟨(by show cw + 1 + 0 ≤ 601024; omega), (by show sw + 6 + 0 ≤ 7293033; omega)⟩) hw (fun r354 H locs hp354 hw => ?_)
  subst hp354
  refine lv_iload (pc := 357) hx hb dL_law_357 (lv_at hl 1 rfl) ?_
  refine zicmp_eq (pc := 359) hx hb 364 (by omega) (by omega) dL_law_359 (by decide) (fun c359 => ?_) (fun c359 => ?_)
  · skip
    refine lv_iload (pc := 364) hx hb dL_law_364 (lv_at hl 1 rfl) ?_
    refine zif_ne (pc := 366) hx hb 381 (by omega) dL_law_366 (by decide) (fun c366 => ?_) (fun c366 => ?_)
    · skip
      refine lv_goto (pc := 381) (tgt := 3400) hx hb dL_law_381 (by decide) ?_
      exact kk ρ3 K336 X348 R336 _ H locs _ _ ls hI3 ⟨by omega, by omega⟩ hw (lv_sub hl [2, 3, 4, 5, 6, 7] rfl)
    · skip
      have hc0 : cdDay day = 0 := by omega
      have hov : X348 out 0 = wI r348 := by rw [congrFun hxo 0, hv1 hc0, hv2 hc0]
      refine lv_aload_n (pc := 369) hx hb dL_law_369 rfl (lv_at hl 4 rfl) ?_
      refine ziconst (pc := 370) (n := 0) hx hb dL_law_370 ?_
      refine zlald (pc := 371) hx hb hw hko3 ⟨by omega, by omega⟩ (by omega) dL_law_371 ?_
      refine lv_iload (pc := 372) hx hb dL_law_372 (lv_at hl 0 rfl) ?_
      refine zi2lw (pc := 374) hx hb dL_law_374 ?_
      refine zlcmpE (pc := 375) hx hb hov dL_law_375 ?_
      refine zif_eq (pc := 376) hx hb 381 (by omega) dL_law_376 (by decide) (fun c376 => ?_) (fun c376 => ?_)
      · skip
        refine lv_goto (pc := 381) (tgt := 3400) hx hb dL_law_381 (by decide) ?_
        exact kk ρ3 K336 X348 R336 _ H locs _ _ ls hI3 ⟨by omega, by omega⟩ hw (lv_sub hl [2, 3, 4, 5, 6, 7] rfl)
      · skip
        exfalso; omega
  · skip
    exfalso; omega
set_option maxHeartbeats 4000000 in
set_option maxRecDepth 100000 in
theorem lc_2 {p : Program} {l : Launch} (hl9 : l.stackTraces = false) {e : Env} {s : State} {m : MethodId} {below : List Frame} {meth : Method} {c : Code} {Q : State → Prop} {b L : Nat} {xs : Nat → Int32} {Γ : zG} {K0 : zK} (E : LE p s m c b L xs K0) {ρ : zL} {K : zK} {X : zX} {Rf : zR} {M : zM} {x md out outD it : Nat} {i : Int} {cw sw : Nat} {H : Heap} {locs : List Loc} {ls : Array Slot} (hi : 0 ≤ i ∧ i + 8 ≤ (L : Int)) (hit : it ≤ 511) (hI : LI ρ K X Rf x md out outD M) (hcs : cw ≤ 100 + 1100 * it ∧ sw + ptR X Rf md ≤ 112000 + 14000 * it) (hw : Wd Γ (zA K0 s.heap.size) K X Rf s H locs) (hl : lv_has ls 9 [(5, .int (iI i)), (4, .ref outD), (3, .ref out), (2, .ref md), (1, .ref x), (0, .ref b)]) (kk : ∀ (ρ' : zL) (K' : zK) (X' : zX) (R' : zR) (M' : zM) (H' : Heap) (locs' : List Loc) (cl' sl' : Nat) (ls' : Array Slot), LI ρ' K' X' R' x md out outD M' → (cl' ≤ 100 + 1100 * (it + 1) ∧ sl' + ptR X' R' md ≤ 112000 + 14000 * (it + 1)) → Wd Γ (zA K0 s.heap.size) K' X' R' s H' locs' → lv_has ls' 9 [(5, .int (iI i)), (4, .ref outD), (3, .ref out), (2, .ref md), (1, .ref x), (0, .ref b)] → W p l e room_1 s m #[Value.ref b] below meth c H' locs' cl' sl' Q (F0 m 3400 ls' [])) : W p l e room_1 s m #[Value.ref b] below meth c H locs cw sw Q (F0 m 384 ls []) := by
  obtain ⟨⟨hx, hb, hml, hown⟩, hG, h46, hX, hXs, hbl, hbA, hL⟩ := E
  obtain ⟨hC, hRr, hM, ⟨hko4, hlo4⟩, hko5, hlo5⟩ := id hI
  have hCk := hC.1.1
  have hloo : ρ out = 4000 ∨ ρ out = 4001 := Or.inl hlo4
  have hlod : ρ outD = 4000 ∨ ρ outD = 4001 := Or.inr hlo5
  obtain ⟨day, hq1⟩ : ∃ z : Int, scI xs (i + 1).toNat = z := ⟨_, rfl⟩
  have hf1 : fit day := by rw [← hq1]; exact scI_fit
  refine lv_aload_n (pc := 384) hx hb dL_law_384 rfl (lv_at hl 4 rfl) ?_
  refine lv_aload_n (pc := 385) hx hb dL_law_385 rfl (lv_at hl 5 rfl) ?_
  refine lv_iload (pc := 386) hx hb dL_law_386 (lv_at hl 0 rfl) ?_
  refine ziconst (pc := 388) (n := 1) hx hb dL_law_388 ?_
  refine zadd (pc := 389) hx hb dL_law_389 ?_
  refine zsld (pc := 390) hx hb hXs hbl hbA hL hw ⟨by omega, by omega⟩ hq1 dL_law_390 ?_
  refine lv_aload_n (pc := 391) hx hb dL_law_391 rfl (lv_at hl 2 rfl) ?_
  refine zkI (pc := 392) (zlrS (As := [.ref x, .int (iI day), .ref out]) hx hb hml hown hG h46 hX hw (c_L_monthOf l hl9 Γ K X Rf x day out (ρ) M (by (first | assumption | omega)) (by (first | assumption | omega)) (by (first | assumption | omega)) (by (first | assumption | omega)) (by (first | assumption | omega))) cb_L_monthOf wl_L_180 rfl ⟨Nat.le_of_ble_eq_true rfl, Nat.le_of_ble_eq_true rfl⟩ hl.1 rfl (Nat.le_of_ble_eq_true rfl) dL_law_392 ⟨(by show cw + 1 ≤ 601024; omega), (by show sw + 6 ≤ 7293033; omega)⟩) hw (fun r392 K392 X392 R392 H locs hp392 hw => ?_)
  obtain ⟨hk1, hv1, ρ1, hC1, hf1⟩ := hp392
  obtain ⟨hR1, hpt1, hk1o⟩ := hI.c (Or.inl rfl) hC1 hf1
  have hmd1 := hR1.1.1
  refine lv_istore (pc := 395) (lv' := [(6, .int (iI r392)), (5, .int (iI i)), (4, .ref outD), (3, .ref out), (2, .ref md), (1, .ref x), (0, .ref b)]) hx hb dL_law_395 hl (by decide) rfl (fun ls hl => ?_)
  refine lv_aload_n (pc := 397) hx hb dL_law_397 rfl (lv_at hl 4 rfl) ?_
  refine lv_aload_n (pc := 398) hx hb dL_law_398 rfl (lv_at hl 6 rfl) ?_
  refine lv_iload (pc := 399) hx hb dL_law_399 (lv_at hl 1 rfl) ?_
  refine ziconst (pc := 401) (n := 1) hx hb dL_law_401 ?_
  refine zadd (pc := 402) hx hb dL_law_402 ?_
  refine zsld (pc := 403) hx hb hXs hbl hbA hL hw ⟨by omega, by omega⟩ hq1 dL_law_403 ?_
  have hM1 : okM M := by exact hM
  refine zkIx (pc := 404) (zrV (As := [.int (iI day)]) hx hb hml hown hG hw (c_X9_monthOf l Γ K392 X392 R392 md day (rlb K392 ρ1) M (by (first | assumption | omega)) (by (first | assumption | omega)) (by (first | assumption | omega))) (T := TX9) hmd1 rfl cb_X9_monthOf wl_L_182 rfl ⟨Nat.le_of_ble_eq_true rfl, Nat.le_of_ble_eq_true rfl⟩ hl.1 rfl (Nat.le_of_ble_eq_true rfl) dL_law_404 ⟨(by show cw + 1 + 0 ≤ 601024; omega), (by show sw + 6 + 0 ≤ 7293033; omega)⟩) hw (fun r404 X404 H locs hp404 hw => ?_)
  obtain ⟨hv2, h02, ρ2, hR2, hg2, hpt2⟩ : (cdDay day = 0 → r404 = mi day % 12 + 1) ∧ X404 md 0 = cdDay day ∧ ∃ ρ2, repR ρ2 K392 X404 R392 md M ∧ frR (rlb K392 ρ1) K392 X392 R392 ρ2 K392 X404 R392 ∧ ptR X404 R392 md ≤ ptR X392 R392 md := by obtain ⟨a1, a2⟩ := hp404; exact ⟨a1, by rw [a2]; exact up2_s, rlb K392 ρ1, by rw [a2]; exact hR1.own ⟨rfl, by decide⟩, by rw [a2]; exact frR_own hR1, by rw [a2]; exact ptR_ls (lsR_own hR1)⟩
  obtain ⟨hxo, hxd, ρ3, hI3⟩ := LI.r hC1 hk1o hM1 hR2 hg2
  have hmd3 := hI3.2.1.1.1
  have hko3 := hI3.2.2.2.1.1
  have hkd3 := hI3.2.2.2.2.1
  have hcb : 0 ≤ cdDay day ∧ cdDay day ≤ 3 := by unfold cdDay; (repeat' split) <;> omega
  refine lv_istore (pc := 407) (lv' := [(7, .int (iI r404)), (6, .int (iI r392)), (5, .int (iI i)), (4, .ref outD), (3, .ref out), (2, .ref md), (1, .ref x), (0, .ref b)]) hx hb dL_law_407 hl (by decide) rfl (fun ls hl => ?_)
  refine lv_aload_n (pc := 409) hx hb dL_law_409 rfl (lv_at hl 5 rfl) ?_
  refine zkIp (pc := 410) (zrV (As := []) hx hb hml hown hG hw (c_X9_thrown l Γ K392 X404 R392 md  (by (first | assumption | omega))) (T := TX9) hmd3 rfl cb_X9_thrown wl_L_172 rfl ⟨Nat.le_of_ble_eq_true rfl, Nat.le_of_ble_eq_true rfl⟩ hl.1 rfl (Nat.le_of_ble_eq_true rfl) dL_law_410 ⟨(by show cw + 1 + 0 ≤ 601024; omega), (by show sw + 6 + 0 ≤ 7293033; omega)⟩) hw (fun r410 H locs hp410 hw => ?_)
  subst hp410
  refine lv_iload (pc := 413) hx hb dL_law_413 (lv_at hl 1 rfl) ?_
  refine zicmp_eq (pc := 415) hx hb 420 (by omega) (by omega) dL_law_415 (by decide) (fun c415 => ?_) (fun c415 => ?_)
  · skip
    refine lv_iload (pc := 420) hx hb dL_law_420 (lv_at hl 1 rfl) ?_
    refine zif_ne (pc := 422) hx hb 437 (by omega) dL_law_422 (by decide) (fun c422 => ?_) (fun c422 => ?_)
    · skip
      refine lv_goto (pc := 437) (tgt := 3400) hx hb dL_law_437 (by decide) ?_
      exact kk ρ3 K392 X404 R392 _ H locs _ _ ls hI3 ⟨by omega, by omega⟩ hw (lv_sub hl [2, 3, 4, 5, 6, 7] rfl)
    · skip
      have hc0 : cdDay day = 0 := by omega
      have hov : X404 out 0 = wI r404 := by rw [congrFun hxo 0, hv1 hc0, hv2 hc0]
      refine lv_aload_n (pc := 425) hx hb dL_law_425 rfl (lv_at hl 4 rfl) ?_
      refine ziconst (pc := 426) (n := 0) hx hb dL_law_426 ?_
      refine zlald (pc := 427) hx hb hw hko3 ⟨by omega, by omega⟩ (by omega) dL_law_427 ?_
      refine lv_iload (pc := 428) hx hb dL_law_428 (lv_at hl 0 rfl) ?_
      refine zi2lw (pc := 430) hx hb dL_law_430 ?_
      refine zlcmpE (pc := 431) hx hb hov dL_law_431 ?_
      refine zif_eq (pc := 432) hx hb 437 (by omega) dL_law_432 (by decide) (fun c432 => ?_) (fun c432 => ?_)
      · skip
        refine lv_goto (pc := 437) (tgt := 3400) hx hb dL_law_437 (by decide) ?_
        exact kk ρ3 K392 X404 R392 _ H locs _ _ ls hI3 ⟨by omega, by omega⟩ hw (lv_sub hl [2, 3, 4, 5, 6, 7] rfl)
      · skip
        exfalso; omega
  · skip
    exfalso; omega
set_option maxHeartbeats 4000000 in
set_option maxRecDepth 100000 in
theorem lc_3 {p : Program} {l : Launch} (hl9 : l.stackTraces = false) {e : Env} {s : State} {m : MethodId} {below : List Frame} {meth : Method} {c : Code} {Q : State → Prop} {b L : Nat} {xs : Nat → Int32} {Γ : zG} {K0 : zK} (E : LE p s m c b L xs K0) {ρ : zL} {K : zK} {X : zX} {Rf : zR} {M : zM} {x md out outD it : Nat} {i : Int} {cw sw : Nat} {H : Heap} {locs : List Loc} {ls : Array Slot} (hi : 0 ≤ i ∧ i + 8 ≤ (L : Int)) (hit : it ≤ 511) (hI : LI ρ K X Rf x md out outD M) (hcs : cw ≤ 100 + 1100 * it ∧ sw + ptR X Rf md ≤ 112000 + 14000 * it) (hw : Wd Γ (zA K0 s.heap.size) K X Rf s H locs) (hl : lv_has ls 9 [(5, .int (iI i)), (4, .ref outD), (3, .ref out), (2, .ref md), (1, .ref x), (0, .ref b)]) (kk : ∀ (ρ' : zL) (K' : zK) (X' : zX) (R' : zR) (M' : zM) (H' : Heap) (locs' : List Loc) (cl' sl' : Nat) (ls' : Array Slot), LI ρ' K' X' R' x md out outD M' → (cl' ≤ 100 + 1100 * (it + 1) ∧ sl' + ptR X' R' md ≤ 112000 + 14000 * (it + 1)) → Wd Γ (zA K0 s.heap.size) K' X' R' s H' locs' → lv_has ls' 9 [(5, .int (iI i)), (4, .ref outD), (3, .ref out), (2, .ref md), (1, .ref x), (0, .ref b)] → W p l e room_1 s m #[Value.ref b] below meth c H' locs' cl' sl' Q (F0 m 3400 ls' [])) : W p l e room_1 s m #[Value.ref b] below meth c H locs cw sw Q (F0 m 440 ls []) := by
  obtain ⟨⟨hx, hb, hml, hown⟩, hG, h46, hX, hXs, hbl, hbA, hL⟩ := E
  obtain ⟨hC, hRr, hM, ⟨hko4, hlo4⟩, hko5, hlo5⟩ := id hI
  have hCk := hC.1.1
  have hloo : ρ out = 4000 ∨ ρ out = 4001 := Or.inl hlo4
  have hlod : ρ outD = 4000 ∨ ρ outD = 4001 := Or.inr hlo5
  obtain ⟨day, hq1⟩ : ∃ z : Int, scI xs (i + 1).toNat = z := ⟨_, rfl⟩
  have hf1 : fit day := by rw [← hq1]; exact scI_fit
  refine lv_aload_n (pc := 440) hx hb dL_law_440 rfl (lv_at hl 4 rfl) ?_
  refine lv_aload_n (pc := 441) hx hb dL_law_441 rfl (lv_at hl 5 rfl) ?_
  refine lv_iload (pc := 442) hx hb dL_law_442 (lv_at hl 0 rfl) ?_
  refine ziconst (pc := 444) (n := 1) hx hb dL_law_444 ?_
  refine zadd (pc := 445) hx hb dL_law_445 ?_
  refine zsld (pc := 446) hx hb hXs hbl hbA hL hw ⟨by omega, by omega⟩ hq1 dL_law_446 ?_
  refine lv_aload_n (pc := 447) hx hb dL_law_447 rfl (lv_at hl 2 rfl) ?_
  refine zkI (pc := 448) (zlrS (As := [.ref x, .int (iI day), .ref out]) hx hb hml hown hG h46 hX hw (c_L_dayOfMonth l hl9 Γ K X Rf x day out (ρ) M (by (first | assumption | omega)) (by (first | assumption | omega)) (by (first | assumption | omega)) (by (first | assumption | omega)) (by (first | assumption | omega))) cb_L_dayOfMonth wl_L_183 rfl ⟨Nat.le_of_ble_eq_true rfl, Nat.le_of_ble_eq_true rfl⟩ hl.1 rfl (Nat.le_of_ble_eq_true rfl) dL_law_448 ⟨(by show cw + 1 ≤ 601024; omega), (by show sw + 6 ≤ 7293033; omega)⟩) hw (fun r448 K448 X448 R448 H locs hp448 hw => ?_)
  obtain ⟨hk1, hv1, ρ1, hC1, hf1⟩ := hp448
  obtain ⟨hR1, hpt1, hk1o⟩ := hI.c (Or.inl rfl) hC1 hf1
  have hmd1 := hR1.1.1
  refine lv_istore (pc := 451) (lv' := [(6, .int (iI r448)), (5, .int (iI i)), (4, .ref outD), (3, .ref out), (2, .ref md), (1, .ref x), (0, .ref b)]) hx hb dL_law_451 hl (by decide) rfl (fun ls hl => ?_)
  refine lv_aload_n (pc := 453) hx hb dL_law_453 rfl (lv_at hl 4 rfl) ?_
  refine lv_aload_n (pc := 454) hx hb dL_law_454 rfl (lv_at hl 6 rfl) ?_
  refine lv_iload (pc := 455) hx hb dL_law_455 (lv_at hl 1 rfl) ?_
  refine ziconst (pc := 457) (n := 1) hx hb dL_law_457 ?_
  refine zadd (pc := 458) hx hb dL_law_458 ?_
  refine zsld (pc := 459) hx hb hXs hbl hbA hL hw ⟨by omega, by omega⟩ hq1 dL_law_459 ?_
  have hM1 : okM M := by exact hM
  refine zkIx (pc := 460) (zrV (As := [.int (iI day)]) hx hb hml hown hG hw (c_X9_dayOfMonth l Γ K448 X448 R448 md day (rlb K448 ρ1) M (by (first | assumption | omega)) (by (first | assumption | omega)) (by (first | assumption | omega))) (T := TX9) hmd1 rfl cb_X9_dayOfMonth wl_L_185 rfl ⟨Nat.le_of_ble_eq_true rfl, Nat.le_of_ble_eq_true rfl⟩ hl.1 rfl (Nat.le_of_ble_eq_true rfl) dL_law_460 ⟨(by show cw + 1 + 0 ≤ 601024; omega), (by show sw + 6 + 0 ≤ 7293033; omega)⟩) hw (fun r460 X460 H locs hp460 hw => ?_)
  obtain ⟨hv2, h02, ρ2, hR2, hg2, hpt2⟩ : (cdDay day = 0 → r460 = day - mB (mi day) + 1) ∧ X460 md 0 = cdDay day ∧ ∃ ρ2, repR ρ2 K448 X460 R448 md M ∧ frR (rlb K448 ρ1) K448 X448 R448 ρ2 K448 X460 R448 ∧ ptR X460 R448 md ≤ ptR X448 R448 md := by obtain ⟨a1, a2⟩ := hp460; exact ⟨a1, by rw [a2]; exact up2_s, rlb K448 ρ1, by rw [a2]; exact hR1.own ⟨rfl, by decide⟩, by rw [a2]; exact frR_own hR1, by rw [a2]; exact ptR_ls (lsR_own hR1)⟩
  obtain ⟨hxo, hxd, ρ3, hI3⟩ := LI.r hC1 hk1o hM1 hR2 hg2
  have hmd3 := hI3.2.1.1.1
  have hko3 := hI3.2.2.2.1.1
  have hkd3 := hI3.2.2.2.2.1
  have hcb : 0 ≤ cdDay day ∧ cdDay day ≤ 3 := by unfold cdDay; (repeat' split) <;> omega
  refine lv_istore (pc := 463) (lv' := [(7, .int (iI r460)), (6, .int (iI r448)), (5, .int (iI i)), (4, .ref outD), (3, .ref out), (2, .ref md), (1, .ref x), (0, .ref b)]) hx hb dL_law_463 hl (by decide) rfl (fun ls hl => ?_)
  refine lv_aload_n (pc := 465) hx hb dL_law_465 rfl (lv_at hl 5 rfl) ?_
  refine zkIp (pc := 466) (zrV (As := []) hx hb hml hown hG hw (c_X9_thrown l Γ K448 X460 R448 md  (by (first | assumption | omega))) (T := TX9) hmd3 rfl cb_X9_thrown wl_L_172 rfl ⟨Nat.le_of_ble_eq_true rfl, Nat.le_of_ble_eq_true rfl⟩ hl.1 rfl (Nat.le_of_ble_eq_true rfl) dL_law_466 ⟨(by show cw + 1 + 0 ≤ 601024; omega), (by show sw + 6 + 0 ≤ 7293033; omega)⟩) hw (fun r466 H locs hp466 hw => ?_)
  subst hp466
  refine lv_iload (pc := 469) hx hb dL_law_469 (lv_at hl 1 rfl) ?_
  refine zicmp_eq (pc := 471) hx hb 476 (by omega) (by omega) dL_law_471 (by decide) (fun c471 => ?_) (fun c471 => ?_)
  · skip
    refine lv_iload (pc := 476) hx hb dL_law_476 (lv_at hl 1 rfl) ?_
    refine zif_ne (pc := 478) hx hb 493 (by omega) dL_law_478 (by decide) (fun c478 => ?_) (fun c478 => ?_)
    · skip
      refine lv_goto (pc := 493) (tgt := 3400) hx hb dL_law_493 (by decide) ?_
      exact kk ρ3 K448 X460 R448 _ H locs _ _ ls hI3 ⟨by omega, by omega⟩ hw (lv_sub hl [2, 3, 4, 5, 6, 7] rfl)
    · skip
      have hc0 : cdDay day = 0 := by omega
      have hov : X460 out 0 = wI r460 := by rw [congrFun hxo 0, hv1 hc0, hv2 hc0]
      refine lv_aload_n (pc := 481) hx hb dL_law_481 rfl (lv_at hl 4 rfl) ?_
      refine ziconst (pc := 482) (n := 0) hx hb dL_law_482 ?_
      refine zlald (pc := 483) hx hb hw hko3 ⟨by omega, by omega⟩ (by omega) dL_law_483 ?_
      refine lv_iload (pc := 484) hx hb dL_law_484 (lv_at hl 0 rfl) ?_
      refine zi2lw (pc := 486) hx hb dL_law_486 ?_
      refine zlcmpE (pc := 487) hx hb hov dL_law_487 ?_
      refine zif_eq (pc := 488) hx hb 493 (by omega) dL_law_488 (by decide) (fun c488 => ?_) (fun c488 => ?_)
      · skip
        refine lv_goto (pc := 493) (tgt := 3400) hx hb dL_law_493 (by decide) ?_
        exact kk ρ3 K448 X460 R448 _ H locs _ _ ls hI3 ⟨by omega, by omega⟩ hw (lv_sub hl [2, 3, 4, 5, 6, 7] rfl)
      · skip
        exfalso; omega
  · skip
    exfalso; omega
set_option maxHeartbeats 4000000 in
set_option maxRecDepth 100000 in
theorem lc_4 {p : Program} {l : Launch} (hl9 : l.stackTraces = false) {e : Env} {s : State} {m : MethodId} {below : List Frame} {meth : Method} {c : Code} {Q : State → Prop} {b L : Nat} {xs : Nat → Int32} {Γ : zG} {K0 : zK} (E : LE p s m c b L xs K0) {ρ : zL} {K : zK} {X : zX} {Rf : zR} {M : zM} {x md out outD it : Nat} {i : Int} {cw sw : Nat} {H : Heap} {locs : List Loc} {ls : Array Slot} (hi : 0 ≤ i ∧ i + 8 ≤ (L : Int)) (hit : it ≤ 511) (hI : LI ρ K X Rf x md out outD M) (hcs : cw ≤ 100 + 1100 * it ∧ sw + ptR X Rf md ≤ 112000 + 14000 * it) (hw : Wd Γ (zA K0 s.heap.size) K X Rf s H locs) (hl : lv_has ls 9 [(5, .int (iI i)), (4, .ref outD), (3, .ref out), (2, .ref md), (1, .ref x), (0, .ref b)]) (kk : ∀ (ρ' : zL) (K' : zK) (X' : zX) (R' : zR) (M' : zM) (H' : Heap) (locs' : List Loc) (cl' sl' : Nat) (ls' : Array Slot), LI ρ' K' X' R' x md out outD M' → (cl' ≤ 100 + 1100 * (it + 1) ∧ sl' + ptR X' R' md ≤ 112000 + 14000 * (it + 1)) → Wd Γ (zA K0 s.heap.size) K' X' R' s H' locs' → lv_has ls' 9 [(5, .int (iI i)), (4, .ref outD), (3, .ref out), (2, .ref md), (1, .ref x), (0, .ref b)] → W p l e room_1 s m #[Value.ref b] below meth c H' locs' cl' sl' Q (F0 m 3400 ls' [])) : W p l e room_1 s m #[Value.ref b] below meth c H locs cw sw Q (F0 m 496 ls []) := by
  obtain ⟨⟨hx, hb, hml, hown⟩, hG, h46, hX, hXs, hbl, hbA, hL⟩ := E
  obtain ⟨hC, hRr, hM, ⟨hko4, hlo4⟩, hko5, hlo5⟩ := id hI
  have hCk := hC.1.1
  have hloo : ρ out = 4000 ∨ ρ out = 4001 := Or.inl hlo4
  have hlod : ρ outD = 4000 ∨ ρ outD = 4001 := Or.inr hlo5
  obtain ⟨day, hq1⟩ : ∃ z : Int, scI xs (i + 1).toNat = z := ⟨_, rfl⟩
  have hf1 : fit day := by rw [← hq1]; exact scI_fit
  refine lv_aload_n (pc := 496) hx hb dL_law_496 rfl (lv_at hl 4 rfl) ?_
  refine lv_aload_n (pc := 497) hx hb dL_law_497 rfl (lv_at hl 5 rfl) ?_
  refine lv_iload (pc := 498) hx hb dL_law_498 (lv_at hl 0 rfl) ?_
  refine ziconst (pc := 500) (n := 1) hx hb dL_law_500 ?_
  refine zadd (pc := 501) hx hb dL_law_501 ?_
  refine zsld (pc := 502) hx hb hXs hbl hbA hL hw ⟨by omega, by omega⟩ hq1 dL_law_502 ?_
  refine lv_aload_n (pc := 503) hx hb dL_law_503 rfl (lv_at hl 2 rfl) ?_
  refine zkI (pc := 504) (zlrS (As := [.ref x, .int (iI day), .ref out]) hx hb hml hown hG h46 hX hw (c_L_weekdayOf l hl9 Γ K X Rf x day out (ρ) M (by (first | assumption | omega)) (by (first | assumption | omega)) (by (first | assumption | omega)) (by (first | assumption | omega)) (by (first | assumption | omega))) cb_L_weekdayOf wl_L_186 rfl ⟨Nat.le_of_ble_eq_true rfl, Nat.le_of_ble_eq_true rfl⟩ hl.1 rfl (Nat.le_of_ble_eq_true rfl) dL_law_504 ⟨(by show cw + 1 ≤ 601024; omega), (by show sw + 6 ≤ 7293033; omega)⟩) hw (fun r504 K504 X504 R504 H locs hp504 hw => ?_)
  obtain ⟨hk1, hv1, ρ1, hC1, hf1⟩ := hp504
  obtain ⟨hR1, hpt1, hk1o⟩ := hI.c (Or.inl rfl) hC1 hf1
  have hmd1 := hR1.1.1
  refine lv_istore (pc := 507) (lv' := [(6, .int (iI r504)), (5, .int (iI i)), (4, .ref outD), (3, .ref out), (2, .ref md), (1, .ref x), (0, .ref b)]) hx hb dL_law_507 hl (by decide) rfl (fun ls hl => ?_)
  refine lv_aload_n (pc := 509) hx hb dL_law_509 rfl (lv_at hl 4 rfl) ?_
  refine lv_aload_n (pc := 510) hx hb dL_law_510 rfl (lv_at hl 6 rfl) ?_
  refine lv_iload (pc := 511) hx hb dL_law_511 (lv_at hl 1 rfl) ?_
  refine ziconst (pc := 513) (n := 1) hx hb dL_law_513 ?_
  refine zadd (pc := 514) hx hb dL_law_514 ?_
  refine zsld (pc := 515) hx hb hXs hbl hbA hL hw ⟨by omega, by omega⟩ hq1 dL_law_515 ?_
  have hM1 : okM M := by exact hM
  refine zkIx (pc := 516) (zrV (As := [.int (iI day)]) hx hb hml hown hG hw (c_X9_weekdayOf l Γ K504 X504 R504 md day (rlb K504 ρ1) M (by (first | assumption | omega)) (by (first | assumption | omega)) (by (first | assumption | omega))) (T := TX9) hmd1 rfl cb_X9_weekdayOf wl_L_188 rfl ⟨Nat.le_of_ble_eq_true rfl, Nat.le_of_ble_eq_true rfl⟩ hl.1 rfl (Nat.le_of_ble_eq_true rfl) dL_law_516 ⟨(by show cw + 1 + 0 ≤ 601024; omega), (by show sw + 6 + 0 ≤ 7293033; omega)⟩) hw (fun r516 X516 H locs hp516 hw => ?_)
  obtain ⟨hv2, h02, ρ2, hR2, hg2, hpt2⟩ : (cdDay day = 0 → r516 = day % 7) ∧ X516 md 0 = cdDay day ∧ ∃ ρ2, repR ρ2 K504 X516 R504 md M ∧ frR (rlb K504 ρ1) K504 X504 R504 ρ2 K504 X516 R504 ∧ ptR X516 R504 md ≤ ptR X504 R504 md := by obtain ⟨a1, a2⟩ := hp516; exact ⟨a1, by rw [a2]; exact up2_s, rlb K504 ρ1, by rw [a2]; exact hR1.own ⟨rfl, by decide⟩, by rw [a2]; exact frR_own hR1, by rw [a2]; exact ptR_ls (lsR_own hR1)⟩
  obtain ⟨hxo, hxd, ρ3, hI3⟩ := LI.r hC1 hk1o hM1 hR2 hg2
  have hmd3 := hI3.2.1.1.1
  have hko3 := hI3.2.2.2.1.1
  have hkd3 := hI3.2.2.2.2.1
  have hcb : 0 ≤ cdDay day ∧ cdDay day ≤ 3 := by unfold cdDay; (repeat' split) <;> omega
  refine lv_istore (pc := 519) (lv' := [(7, .int (iI r516)), (6, .int (iI r504)), (5, .int (iI i)), (4, .ref outD), (3, .ref out), (2, .ref md), (1, .ref x), (0, .ref b)]) hx hb dL_law_519 hl (by decide) rfl (fun ls hl => ?_)
  refine lv_aload_n (pc := 521) hx hb dL_law_521 rfl (lv_at hl 5 rfl) ?_
  refine zkIp (pc := 522) (zrV (As := []) hx hb hml hown hG hw (c_X9_thrown l Γ K504 X516 R504 md  (by (first | assumption | omega))) (T := TX9) hmd3 rfl cb_X9_thrown wl_L_172 rfl ⟨Nat.le_of_ble_eq_true rfl, Nat.le_of_ble_eq_true rfl⟩ hl.1 rfl (Nat.le_of_ble_eq_true rfl) dL_law_522 ⟨(by show cw + 1 + 0 ≤ 601024; omega), (by show sw + 6 + 0 ≤ 7293033; omega)⟩) hw (fun r522 H locs hp522 hw => ?_)
  subst hp522
  refine lv_iload (pc := 525) hx hb dL_law_525 (lv_at hl 1 rfl) ?_
  refine zicmp_eq (pc := 527) hx hb 532 (by omega) (by omega) dL_law_527 (by decide) (fun c527 => ?_) (fun c527 => ?_)
  · skip
    refine lv_iload (pc := 532) hx hb dL_law_532 (lv_at hl 1 rfl) ?_
    refine zif_ne (pc := 534) hx hb 549 (by omega) dL_law_534 (by decide) (fun c534 => ?_) (fun c534 => ?_)
    · skip
      refine lv_goto (pc := 549) (tgt := 3400) hx hb dL_law_549 (by decide) ?_
      exact kk ρ3 K504 X516 R504 _ H locs _ _ ls hI3 ⟨by omega, by omega⟩ hw (lv_sub hl [2, 3, 4, 5, 6, 7] rfl)
    · skip
      have hc0 : cdDay day = 0 := by omega
      have hov : X516 out 0 = wI r516 := by rw [congrFun hxo 0, hv1 hc0, hv2 hc0]
      refine lv_aload_n (pc := 537) hx hb dL_law_537 rfl (lv_at hl 4 rfl) ?_
      refine ziconst (pc := 538) (n := 0) hx hb dL_law_538 ?_
      refine zlald (pc := 539) hx hb hw hko3 ⟨by omega, by omega⟩ (by omega) dL_law_539 ?_
      refine lv_iload (pc := 540) hx hb dL_law_540 (lv_at hl 0 rfl) ?_
      refine zi2lw (pc := 542) hx hb dL_law_542 ?_
      refine zlcmpE (pc := 543) hx hb hov dL_law_543 ?_
      refine zif_eq (pc := 544) hx hb 549 (by omega) dL_law_544 (by decide) (fun c544 => ?_) (fun c544 => ?_)
      · skip
        refine lv_goto (pc := 549) (tgt := 3400) hx hb dL_law_549 (by decide) ?_
        exact kk ρ3 K504 X516 R504 _ H locs _ _ ls hI3 ⟨by omega, by omega⟩ hw (lv_sub hl [2, 3, 4, 5, 6, 7] rfl)
      · skip
        exfalso; omega
  · skip
    exfalso; omega
set_option maxHeartbeats 4000000 in
set_option maxRecDepth 100000 in
theorem lc_5 {p : Program} {l : Launch} (hl9 : l.stackTraces = false) {e : Env} {s : State} {m : MethodId} {below : List Frame} {meth : Method} {c : Code} {Q : State → Prop} {b L : Nat} {xs : Nat → Int32} {Γ : zG} {K0 : zK} (E : LE p s m c b L xs K0) {ρ : zL} {K : zK} {X : zX} {Rf : zR} {M : zM} {x md out outD it : Nat} {i : Int} {cw sw : Nat} {H : Heap} {locs : List Loc} {ls : Array Slot} (hi : 0 ≤ i ∧ i + 8 ≤ (L : Int)) (hit : it ≤ 511) (hI : LI ρ K X Rf x md out outD M) (hcs : cw ≤ 100 + 1100 * it ∧ sw + ptR X Rf md ≤ 112000 + 14000 * it) (hw : Wd Γ (zA K0 s.heap.size) K X Rf s H locs) (hl : lv_has ls 9 [(5, .int (iI i)), (4, .ref outD), (3, .ref out), (2, .ref md), (1, .ref x), (0, .ref b)]) (kk : ∀ (ρ' : zL) (K' : zK) (X' : zX) (R' : zR) (M' : zM) (H' : Heap) (locs' : List Loc) (cl' sl' : Nat) (ls' : Array Slot), LI ρ' K' X' R' x md out outD M' → (cl' ≤ 100 + 1100 * (it + 1) ∧ sl' + ptR X' R' md ≤ 112000 + 14000 * (it + 1)) → Wd Γ (zA K0 s.heap.size) K' X' R' s H' locs' → lv_has ls' 9 [(5, .int (iI i)), (4, .ref outD), (3, .ref out), (2, .ref md), (1, .ref x), (0, .ref b)] → W p l e room_1 s m #[Value.ref b] below meth c H' locs' cl' sl' Q (F0 m 3400 ls' [])) : W p l e room_1 s m #[Value.ref b] below meth c H locs cw sw Q (F0 m 552 ls []) := by
  obtain ⟨⟨hx, hb, hml, hown⟩, hG, h46, hX, hXs, hbl, hbA, hL⟩ := E
  obtain ⟨hC, hRr, hM, ⟨hko4, hlo4⟩, hko5, hlo5⟩ := id hI
  have hCk := hC.1.1
  have hloo : ρ out = 4000 ∨ ρ out = 4001 := Or.inl hlo4
  have hlod : ρ outD = 4000 ∨ ρ outD = 4001 := Or.inr hlo5
  obtain ⟨day, hq1⟩ : ∃ z : Int, scI xs (i + 1).toNat = z := ⟨_, rfl⟩
  have hf1 : fit day := by rw [← hq1]; exact scI_fit
  refine lv_aload_n (pc := 552) hx hb dL_law_552 rfl (lv_at hl 4 rfl) ?_
  refine lv_aload_n (pc := 553) hx hb dL_law_553 rfl (lv_at hl 5 rfl) ?_
  refine lv_iload (pc := 554) hx hb dL_law_554 (lv_at hl 0 rfl) ?_
  refine ziconst (pc := 556) (n := 1) hx hb dL_law_556 ?_
  refine zadd (pc := 557) hx hb dL_law_557 ?_
  refine zsld (pc := 558) hx hb hXs hbl hbA hL hw ⟨by omega, by omega⟩ hq1 dL_law_558 ?_
  refine lv_aload_n (pc := 559) hx hb dL_law_559 rfl (lv_at hl 2 rfl) ?_
  refine zkI (pc := 560) (zlrS (As := [.ref x, .int (iI day), .ref out]) hx hb hml hown hG h46 hX hw (c_L_weekOf l hl9 Γ K X Rf x day out (ρ) M (by (first | assumption | omega)) (by (first | assumption | omega)) (by (first | assumption | omega)) (by (first | assumption | omega)) (by (first | assumption | omega))) cb_L_weekOf wl_L_189 rfl ⟨Nat.le_of_ble_eq_true rfl, Nat.le_of_ble_eq_true rfl⟩ hl.1 rfl (Nat.le_of_ble_eq_true rfl) dL_law_560 ⟨(by show cw + 1 ≤ 601024; omega), (by show sw + 6 ≤ 7293033; omega)⟩) hw (fun r560 K560 X560 R560 H locs hp560 hw => ?_)
  obtain ⟨hk1, hv1, ρ1, hC1, hf1⟩ := hp560
  obtain ⟨hR1, hpt1, hk1o⟩ := hI.c (Or.inl rfl) hC1 hf1
  have hmd1 := hR1.1.1
  refine lv_istore (pc := 563) (lv' := [(6, .int (iI r560)), (5, .int (iI i)), (4, .ref outD), (3, .ref out), (2, .ref md), (1, .ref x), (0, .ref b)]) hx hb dL_law_563 hl (by decide) rfl (fun ls hl => ?_)
  refine lv_aload_n (pc := 565) hx hb dL_law_565 rfl (lv_at hl 4 rfl) ?_
  refine lv_aload_n (pc := 566) hx hb dL_law_566 rfl (lv_at hl 6 rfl) ?_
  refine lv_iload (pc := 567) hx hb dL_law_567 (lv_at hl 1 rfl) ?_
  refine ziconst (pc := 569) (n := 1) hx hb dL_law_569 ?_
  refine zadd (pc := 570) hx hb dL_law_570 ?_
  refine zsld (pc := 571) hx hb hXs hbl hbA hL hw ⟨by omega, by omega⟩ hq1 dL_law_571 ?_
  have hM1 : okM M := by exact hM
  refine zkIx (pc := 572) (zrV (As := [.int (iI day)]) hx hb hml hown hG hw (c_X9_weekOf l Γ K560 X560 R560 md day (rlb K560 ρ1) M (by (first | assumption | omega)) (by (first | assumption | omega)) (by (first | assumption | omega))) (T := TX9) hmd1 rfl cb_X9_weekOf wl_L_191 rfl ⟨Nat.le_of_ble_eq_true rfl, Nat.le_of_ble_eq_true rfl⟩ hl.1 rfl (Nat.le_of_ble_eq_true rfl) dL_law_572 ⟨(by show cw + 1 + 0 ≤ 601024; omega), (by show sw + 6 + 0 ≤ 7293033; omega)⟩) hw (fun r572 X572 H locs hp572 hw => ?_)
  obtain ⟨hv2, h02, ρ2, hR2, hg2, hpt2⟩ : (cdDay day = 0 → r572 = vlWeek day) ∧ X572 md 0 = cdDay day ∧ ∃ ρ2, repR ρ2 K560 X572 R560 md M ∧ frR (rlb K560 ρ1) K560 X560 R560 ρ2 K560 X572 R560 ∧ ptR X572 R560 md ≤ ptR X560 R560 md := by obtain ⟨a1, a2⟩ := hp572; exact ⟨a1, by rw [a2]; exact up2_s, rlb K560 ρ1, by rw [a2]; exact hR1.own ⟨rfl, by decide⟩, by rw [a2]; exact frR_own hR1, by rw [a2]; exact ptR_ls (lsR_own hR1)⟩
  obtain ⟨hxo, hxd, ρ3, hI3⟩ := LI.r hC1 hk1o hM1 hR2 hg2
  have hmd3 := hI3.2.1.1.1
  have hko3 := hI3.2.2.2.1.1
  have hkd3 := hI3.2.2.2.2.1
  have hcb : 0 ≤ cdDay day ∧ cdDay day ≤ 3 := by unfold cdDay; (repeat' split) <;> omega
  refine lv_istore (pc := 575) (lv' := [(7, .int (iI r572)), (6, .int (iI r560)), (5, .int (iI i)), (4, .ref outD), (3, .ref out), (2, .ref md), (1, .ref x), (0, .ref b)]) hx hb dL_law_575 hl (by decide) rfl (fun ls hl => ?_)
  refine lv_aload_n (pc := 577) hx hb dL_law_577 rfl (lv_at hl 5 rfl) ?_
  refine zkIp (pc := 578) (zrV (As := []) hx hb hml hown hG hw (c_X9_thrown l Γ K560 X572 R560 md  (by (first | assumption | omega))) (T := TX9) hmd3 rfl cb_X9_thrown wl_L_172 rfl ⟨Nat.le_of_ble_eq_true rfl, Nat.le_of_ble_eq_true rfl⟩ hl.1 rfl (Nat.le_of_ble_eq_true rfl) dL_law_578 ⟨(by show cw + 1 + 0 ≤ 601024; omega), (by show sw + 6 + 0 ≤ 7293033; omega)⟩) hw (fun r578 H locs hp578 hw => ?_)
  subst hp578
  refine lv_iload (pc := 581) hx hb dL_law_581 (lv_at hl 1 rfl) ?_
  refine zicmp_eq (pc := 583) hx hb 588 (by omega) (by omega) dL_law_583 (by decide) (fun c583 => ?_) (fun c583 => ?_)
  · skip
    refine lv_iload (pc := 588) hx hb dL_law_588 (lv_at hl 1 rfl) ?_
    refine zif_ne (pc := 590) hx hb 605 (by omega) dL_law_590 (by decide) (fun c590 => ?_) (fun c590 => ?_)
    · skip
      refine lv_goto (pc := 605) (tgt := 3400) hx hb dL_law_605 (by decide) ?_
      exact kk ρ3 K560 X572 R560 _ H locs _ _ ls hI3 ⟨by omega, by omega⟩ hw (lv_sub hl [2, 3, 4, 5, 6, 7] rfl)
    · skip
      have hc0 : cdDay day = 0 := by omega
      have hov : X572 out 0 = wI r572 := by rw [congrFun hxo 0, hv1 hc0, hv2 hc0]
      refine lv_aload_n (pc := 593) hx hb dL_law_593 rfl (lv_at hl 4 rfl) ?_
      refine ziconst (pc := 594) (n := 0) hx hb dL_law_594 ?_
      refine zlald (pc := 595) hx hb hw hko3 ⟨by omega, by omega⟩ (by omega) dL_law_595 ?_
      refine lv_iload (pc := 596) hx hb dL_law_596 (lv_at hl 0 rfl) ?_
      refine zi2lw (pc := 598) hx hb dL_law_598 ?_
      refine zlcmpE (pc := 599) hx hb hov dL_law_599 ?_
      refine zif_eq (pc := 600) hx hb 605 (by omega) dL_law_600 (by decide) (fun c600 => ?_) (fun c600 => ?_)
      · skip
        refine lv_goto (pc := 605) (tgt := 3400) hx hb dL_law_605 (by decide) ?_
        exact kk ρ3 K560 X572 R560 _ H locs _ _ ls hI3 ⟨by omega, by omega⟩ hw (lv_sub hl [2, 3, 4, 5, 6, 7] rfl)
      · skip
        exfalso; omega
  · skip
    exfalso; omega
set_option maxHeartbeats 4000000 in
set_option maxRecDepth 100000 in
theorem lc_6 {p : Program} {l : Launch} (hl9 : l.stackTraces = false) {e : Env} {s : State} {m : MethodId} {below : List Frame} {meth : Method} {c : Code} {Q : State → Prop} {b L : Nat} {xs : Nat → Int32} {Γ : zG} {K0 : zK} (E : LE p s m c b L xs K0) {ρ : zL} {K : zK} {X : zX} {Rf : zR} {M : zM} {x md out outD it : Nat} {i : Int} {cw sw : Nat} {H : Heap} {locs : List Loc} {ls : Array Slot} (hi : 0 ≤ i ∧ i + 8 ≤ (L : Int)) (hit : it ≤ 511) (hI : LI ρ K X Rf x md out outD M) (hcs : cw ≤ 100 + 1100 * it ∧ sw + ptR X Rf md ≤ 112000 + 14000 * it) (hw : Wd Γ (zA K0 s.heap.size) K X Rf s H locs) (hl : lv_has ls 9 [(5, .int (iI i)), (4, .ref outD), (3, .ref out), (2, .ref md), (1, .ref x), (0, .ref b)]) (kk : ∀ (ρ' : zL) (K' : zK) (X' : zX) (R' : zR) (M' : zM) (H' : Heap) (locs' : List Loc) (cl' sl' : Nat) (ls' : Array Slot), LI ρ' K' X' R' x md out outD M' → (cl' ≤ 100 + 1100 * (it + 1) ∧ sl' + ptR X' R' md ≤ 112000 + 14000 * (it + 1)) → Wd Γ (zA K0 s.heap.size) K' X' R' s H' locs' → lv_has ls' 9 [(5, .int (iI i)), (4, .ref outD), (3, .ref out), (2, .ref md), (1, .ref x), (0, .ref b)] → W p l e room_1 s m #[Value.ref b] below meth c H' locs' cl' sl' Q (F0 m 3400 ls' [])) : W p l e room_1 s m #[Value.ref b] below meth c H locs cw sw Q (F0 m 608 ls []) := by
  obtain ⟨⟨hx, hb, hml, hown⟩, hG, h46, hX, hXs, hbl, hbA, hL⟩ := E
  obtain ⟨hC, hRr, hM, ⟨hko4, hlo4⟩, hko5, hlo5⟩ := id hI
  have hCk := hC.1.1
  have hloo : ρ out = 4000 ∨ ρ out = 4001 := Or.inl hlo4
  have hlod : ρ outD = 4000 ∨ ρ outD = 4001 := Or.inr hlo5
  obtain ⟨day, hq1⟩ : ∃ z : Int, scI xs (i + 1).toNat = z := ⟨_, rfl⟩
  have hf1 : fit day := by rw [← hq1]; exact scI_fit
  refine lv_aload_n (pc := 608) hx hb dL_law_608 rfl (lv_at hl 4 rfl) ?_
  refine lv_aload_n (pc := 609) hx hb dL_law_609 rfl (lv_at hl 5 rfl) ?_
  refine lv_iload (pc := 610) hx hb dL_law_610 (lv_at hl 0 rfl) ?_
  refine ziconst (pc := 612) (n := 1) hx hb dL_law_612 ?_
  refine zadd (pc := 613) hx hb dL_law_613 ?_
  refine zsld (pc := 614) hx hb hXs hbl hbA hL hw ⟨by omega, by omega⟩ hq1 dL_law_614 ?_
  refine lv_aload_n (pc := 615) hx hb dL_law_615 rfl (lv_at hl 2 rfl) ?_
  refine zkI (pc := 616) (zlrS (As := [.ref x, .int (iI day), .ref out]) hx hb hml hown hG h46 hX hw (c_L_yearOfWeek l hl9 Γ K X Rf x day out (ρ) M (by (first | assumption | omega)) (by (first | assumption | omega)) (by (first | assumption | omega)) (by (first | assumption | omega)) (by (first | assumption | omega))) cb_L_yearOfWeek wl_L_192 rfl ⟨Nat.le_of_ble_eq_true rfl, Nat.le_of_ble_eq_true rfl⟩ hl.1 rfl (Nat.le_of_ble_eq_true rfl) dL_law_616 ⟨(by show cw + 1 ≤ 601024; omega), (by show sw + 6 ≤ 7293033; omega)⟩) hw (fun r616 K616 X616 R616 H locs hp616 hw => ?_)
  obtain ⟨hk1, hv1, ρ1, hC1, hf1⟩ := hp616
  obtain ⟨hR1, hpt1, hk1o⟩ := hI.c (Or.inl rfl) hC1 hf1
  have hmd1 := hR1.1.1
  refine lv_istore (pc := 619) (lv' := [(6, .int (iI r616)), (5, .int (iI i)), (4, .ref outD), (3, .ref out), (2, .ref md), (1, .ref x), (0, .ref b)]) hx hb dL_law_619 hl (by decide) rfl (fun ls hl => ?_)
  refine lv_aload_n (pc := 621) hx hb dL_law_621 rfl (lv_at hl 4 rfl) ?_
  refine lv_aload_n (pc := 622) hx hb dL_law_622 rfl (lv_at hl 6 rfl) ?_
  refine lv_iload (pc := 623) hx hb dL_law_623 (lv_at hl 1 rfl) ?_
  refine ziconst (pc := 625) (n := 1) hx hb dL_law_625 ?_
  refine zadd (pc := 626) hx hb dL_law_626 ?_
  refine zsld (pc := 627) hx hb hXs hbl hbA hL hw ⟨by omega, by omega⟩ hq1 dL_law_627 ?_
  have hM1 : okM M := by exact hM
  refine zkIx (pc := 628) (zrV (As := [.int (iI day)]) hx hb hml hown hG hw (c_X9_yearOfWeek l Γ K616 X616 R616 md day (rlb K616 ρ1) M (by (first | assumption | omega)) (by (first | assumption | omega)) (by (first | assumption | omega))) (T := TX9) hmd1 rfl cb_X9_yearOfWeek wl_L_194 rfl ⟨Nat.le_of_ble_eq_true rfl, Nat.le_of_ble_eq_true rfl⟩ hl.1 rfl (Nat.le_of_ble_eq_true rfl) dL_law_628 ⟨(by show cw + 1 + 0 ≤ 601024; omega), (by show sw + 6 + 0 ≤ 7293033; omega)⟩) hw (fun r628 X628 H locs hp628 hw => ?_)
  obtain ⟨hv2, h02, ρ2, hR2, hg2, hpt2⟩ : (cdDay day = 0 → r628 = 1900 + yr (day - day % 7 + 3)) ∧ X628 md 0 = cdDay day ∧ ∃ ρ2, repR ρ2 K616 X628 R616 md M ∧ frR (rlb K616 ρ1) K616 X616 R616 ρ2 K616 X628 R616 ∧ ptR X628 R616 md ≤ ptR X616 R616 md := by obtain ⟨a1, a2⟩ := hp628; exact ⟨a1, by rw [a2]; exact up2_s, rlb K616 ρ1, by rw [a2]; exact hR1.own ⟨rfl, by decide⟩, by rw [a2]; exact frR_own hR1, by rw [a2]; exact ptR_ls (lsR_own hR1)⟩
  obtain ⟨hxo, hxd, ρ3, hI3⟩ := LI.r hC1 hk1o hM1 hR2 hg2
  have hmd3 := hI3.2.1.1.1
  have hko3 := hI3.2.2.2.1.1
  have hkd3 := hI3.2.2.2.2.1
  have hcb : 0 ≤ cdDay day ∧ cdDay day ≤ 3 := by unfold cdDay; (repeat' split) <;> omega
  refine lv_istore (pc := 631) (lv' := [(7, .int (iI r628)), (6, .int (iI r616)), (5, .int (iI i)), (4, .ref outD), (3, .ref out), (2, .ref md), (1, .ref x), (0, .ref b)]) hx hb dL_law_631 hl (by decide) rfl (fun ls hl => ?_)
  refine lv_aload_n (pc := 633) hx hb dL_law_633 rfl (lv_at hl 5 rfl) ?_
  refine zkIp (pc := 634) (zrV (As := []) hx hb hml hown hG hw (c_X9_thrown l Γ K616 X628 R616 md  (by (first | assumption | omega))) (T := TX9) hmd3 rfl cb_X9_thrown wl_L_172 rfl ⟨Nat.le_of_ble_eq_true rfl, Nat.le_of_ble_eq_true rfl⟩ hl.1 rfl (Nat.le_of_ble_eq_true rfl) dL_law_634 ⟨(by show cw + 1 + 0 ≤ 601024; omega), (by show sw + 6 + 0 ≤ 7293033; omega)⟩) hw (fun r634 H locs hp634 hw => ?_)
  subst hp634
  refine lv_iload (pc := 637) hx hb dL_law_637 (lv_at hl 1 rfl) ?_
  refine zicmp_eq (pc := 639) hx hb 644 (by omega) (by omega) dL_law_639 (by decide) (fun c639 => ?_) (fun c639 => ?_)
  · skip
    refine lv_iload (pc := 644) hx hb dL_law_644 (lv_at hl 1 rfl) ?_
    refine zif_ne (pc := 646) hx hb 661 (by omega) dL_law_646 (by decide) (fun c646 => ?_) (fun c646 => ?_)
    · skip
      refine lv_goto (pc := 661) (tgt := 3400) hx hb dL_law_661 (by decide) ?_
      exact kk ρ3 K616 X628 R616 _ H locs _ _ ls hI3 ⟨by omega, by omega⟩ hw (lv_sub hl [2, 3, 4, 5, 6, 7] rfl)
    · skip
      have hc0 : cdDay day = 0 := by omega
      have hov : X628 out 0 = wI r628 := by rw [congrFun hxo 0, hv1 hc0, hv2 hc0]
      refine lv_aload_n (pc := 649) hx hb dL_law_649 rfl (lv_at hl 4 rfl) ?_
      refine ziconst (pc := 650) (n := 0) hx hb dL_law_650 ?_
      refine zlald (pc := 651) hx hb hw hko3 ⟨by omega, by omega⟩ (by omega) dL_law_651 ?_
      refine lv_iload (pc := 652) hx hb dL_law_652 (lv_at hl 0 rfl) ?_
      refine zi2lw (pc := 654) hx hb dL_law_654 ?_
      refine zlcmpE (pc := 655) hx hb hov dL_law_655 ?_
      refine zif_eq (pc := 656) hx hb 661 (by omega) dL_law_656 (by decide) (fun c656 => ?_) (fun c656 => ?_)
      · skip
        refine lv_goto (pc := 661) (tgt := 3400) hx hb dL_law_661 (by decide) ?_
        exact kk ρ3 K616 X628 R616 _ H locs _ _ ls hI3 ⟨by omega, by omega⟩ hw (lv_sub hl [2, 3, 4, 5, 6, 7] rfl)
      · skip
        exfalso; omega
  · skip
    exfalso; omega
set_option maxHeartbeats 4000000 in
set_option maxRecDepth 100000 in
theorem lc_7 {p : Program} {l : Launch} (hl9 : l.stackTraces = false) {e : Env} {s : State} {m : MethodId} {below : List Frame} {meth : Method} {c : Code} {Q : State → Prop} {b L : Nat} {xs : Nat → Int32} {Γ : zG} {K0 : zK} (E : LE p s m c b L xs K0) {ρ : zL} {K : zK} {X : zX} {Rf : zR} {M : zM} {x md out outD it : Nat} {i : Int} {cw sw : Nat} {H : Heap} {locs : List Loc} {ls : Array Slot} (hi : 0 ≤ i ∧ i + 8 ≤ (L : Int)) (hit : it ≤ 511) (hI : LI ρ K X Rf x md out outD M) (hcs : cw ≤ 100 + 1100 * it ∧ sw + ptR X Rf md ≤ 112000 + 14000 * it) (hw : Wd Γ (zA K0 s.heap.size) K X Rf s H locs) (hl : lv_has ls 9 [(5, .int (iI i)), (4, .ref outD), (3, .ref out), (2, .ref md), (1, .ref x), (0, .ref b)]) (kk : ∀ (ρ' : zL) (K' : zK) (X' : zX) (R' : zR) (M' : zM) (H' : Heap) (locs' : List Loc) (cl' sl' : Nat) (ls' : Array Slot), LI ρ' K' X' R' x md out outD M' → (cl' ≤ 100 + 1100 * (it + 1) ∧ sl' + ptR X' R' md ≤ 112000 + 14000 * (it + 1)) → Wd Γ (zA K0 s.heap.size) K' X' R' s H' locs' → lv_has ls' 9 [(5, .int (iI i)), (4, .ref outD), (3, .ref out), (2, .ref md), (1, .ref x), (0, .ref b)] → W p l e room_1 s m #[Value.ref b] below meth c H' locs' cl' sl' Q (F0 m 3400 ls' [])) : W p l e room_1 s m #[Value.ref b] below meth c H locs cw sw Q (F0 m 664 ls []) := by
  obtain ⟨⟨hx, hb, hml, hown⟩, hG, h46, hX, hXs, hbl, hbA, hL⟩ := E
  obtain ⟨hC, hRr, hM, ⟨hko4, hlo4⟩, hko5, hlo5⟩ := id hI
  have hCk := hC.1.1
  have hloo : ρ out = 4000 ∨ ρ out = 4001 := Or.inl hlo4
  have hlod : ρ outD = 4000 ∨ ρ outD = 4001 := Or.inr hlo5
  obtain ⟨year, hq1⟩ : ∃ z : Int, scI xs (i + 1).toNat = z := ⟨_, rfl⟩
  have hf1 : fit year := by rw [← hq1]; exact scI_fit
  refine lv_aload_n (pc := 664) hx hb dL_law_664 rfl (lv_at hl 4 rfl) ?_
  refine lv_aload_n (pc := 665) hx hb dL_law_665 rfl (lv_at hl 5 rfl) ?_
  refine lv_iload (pc := 666) hx hb dL_law_666 (lv_at hl 0 rfl) ?_
  refine ziconst (pc := 668) (n := 1) hx hb dL_law_668 ?_
  refine zadd (pc := 669) hx hb dL_law_669 ?_
  refine zsld (pc := 670) hx hb hXs hbl hbA hL hw ⟨by omega, by omega⟩ hq1 dL_law_670 ?_
  refine lv_aload_n (pc := 671) hx hb dL_law_671 rfl (lv_at hl 2 rfl) ?_
  refine zkI (pc := 672) (zlrS (As := [.ref x, .int (iI year), .ref out]) hx hb hml hown hG h46 hX hw (c_L_easterOf l hl9 Γ K X Rf x year out (ρ) M (by (first | assumption | omega)) (by (first | assumption | omega)) (by (first | assumption | omega)) (by (first | assumption | omega)) (by (first | assumption | omega))) cb_L_easterOf wl_L_195 rfl ⟨Nat.le_of_ble_eq_true rfl, Nat.le_of_ble_eq_true rfl⟩ hl.1 rfl (Nat.le_of_ble_eq_true rfl) dL_law_672 ⟨(by show cw + 1 ≤ 601024; omega), (by show sw + 6 ≤ 7293033; omega)⟩) hw (fun r672 K672 X672 R672 H locs hp672 hw => ?_)
  obtain ⟨hk1, hv1, ρ1, hC1, hf1⟩ := hp672
  obtain ⟨hR1, hpt1, hk1o⟩ := hI.c (Or.inl rfl) hC1 hf1
  have hmd1 := hR1.1.1
  refine lv_istore (pc := 675) (lv' := [(6, .int (iI r672)), (5, .int (iI i)), (4, .ref outD), (3, .ref out), (2, .ref md), (1, .ref x), (0, .ref b)]) hx hb dL_law_675 hl (by decide) rfl (fun ls hl => ?_)
  refine lv_aload_n (pc := 677) hx hb dL_law_677 rfl (lv_at hl 4 rfl) ?_
  refine lv_aload_n (pc := 678) hx hb dL_law_678 rfl (lv_at hl 6 rfl) ?_
  refine lv_iload (pc := 679) hx hb dL_law_679 (lv_at hl 1 rfl) ?_
  refine ziconst (pc := 681) (n := 1) hx hb dL_law_681 ?_
  refine zadd (pc := 682) hx hb dL_law_682 ?_
  refine zsld (pc := 683) hx hb hXs hbl hbA hL hw ⟨by omega, by omega⟩ hq1 dL_law_683 ?_
  have hM1 : okM M := by exact hM
  refine zkIx (pc := 684) (zrV (As := [.int (iI year)]) hx hb hml hown hG hw (c_X9_easterOf l Γ K672 X672 R672 md year (rlb K672 ρ1) M (by (first | assumption | omega)) (by (first | assumption | omega)) (by (first | assumption | omega))) (T := TX9) hmd1 rfl cb_X9_easterOf wl_L_197 rfl ⟨Nat.le_of_ble_eq_true rfl, Nat.le_of_ble_eq_true rfl⟩ hl.1 rfl (Nat.le_of_ble_eq_true rfl) dL_law_684 ⟨(by show cw + 1 + 0 ≤ 601024; omega), (by show sw + 6 + 0 ≤ 7293033; omega)⟩) hw (fun r684 X684 H locs hp684 hw => ?_)
  obtain ⟨hv2, h02, ρ2, hR2, hg2, hpt2⟩ : (cdYear year = 0 → r684 = est year) ∧ X684 md 0 = cdYear year ∧ ∃ ρ2, repR ρ2 K672 X684 R672 md M ∧ frR (rlb K672 ρ1) K672 X672 R672 ρ2 K672 X684 R672 ∧ ptR X684 R672 md ≤ ptR X672 R672 md := by obtain ⟨a1, a2⟩ := hp684; exact ⟨a1, by rw [a2]; exact up2_s, rlb K672 ρ1, by rw [a2]; exact hR1.own ⟨rfl, by decide⟩, by rw [a2]; exact frR_own hR1, by rw [a2]; exact ptR_ls (lsR_own hR1)⟩
  obtain ⟨hxo, hxd, ρ3, hI3⟩ := LI.r hC1 hk1o hM1 hR2 hg2
  have hmd3 := hI3.2.1.1.1
  have hko3 := hI3.2.2.2.1.1
  have hkd3 := hI3.2.2.2.2.1
  have hcb : 0 ≤ cdYear year ∧ cdYear year ≤ 3 := by unfold cdYear; (repeat' split) <;> omega
  refine lv_istore (pc := 687) (lv' := [(7, .int (iI r684)), (6, .int (iI r672)), (5, .int (iI i)), (4, .ref outD), (3, .ref out), (2, .ref md), (1, .ref x), (0, .ref b)]) hx hb dL_law_687 hl (by decide) rfl (fun ls hl => ?_)
  refine lv_aload_n (pc := 689) hx hb dL_law_689 rfl (lv_at hl 5 rfl) ?_
  refine zkIp (pc := 690) (zrV (As := []) hx hb hml hown hG hw (c_X9_thrown l Γ K672 X684 R672 md  (by (first | assumption | omega))) (T := TX9) hmd3 rfl cb_X9_thrown wl_L_172 rfl ⟨Nat.le_of_ble_eq_true rfl, Nat.le_of_ble_eq_true rfl⟩ hl.1 rfl (Nat.le_of_ble_eq_true rfl) dL_law_690 ⟨(by show cw + 1 + 0 ≤ 601024; omega), (by show sw + 6 + 0 ≤ 7293033; omega)⟩) hw (fun r690 H locs hp690 hw => ?_)
  subst hp690
  refine lv_iload (pc := 693) hx hb dL_law_693 (lv_at hl 1 rfl) ?_
  refine zicmp_eq (pc := 695) hx hb 700 (by omega) (by omega) dL_law_695 (by decide) (fun c695 => ?_) (fun c695 => ?_)
  · skip
    refine lv_iload (pc := 700) hx hb dL_law_700 (lv_at hl 1 rfl) ?_
    refine zif_ne (pc := 702) hx hb 717 (by omega) dL_law_702 (by decide) (fun c702 => ?_) (fun c702 => ?_)
    · skip
      refine lv_goto (pc := 717) (tgt := 3400) hx hb dL_law_717 (by decide) ?_
      exact kk ρ3 K672 X684 R672 _ H locs _ _ ls hI3 ⟨by omega, by omega⟩ hw (lv_sub hl [2, 3, 4, 5, 6, 7] rfl)
    · skip
      have hc0 : cdYear year = 0 := by omega
      have hov : X684 out 0 = wI r684 := by rw [congrFun hxo 0, hv1 hc0, hv2 hc0]
      refine lv_aload_n (pc := 705) hx hb dL_law_705 rfl (lv_at hl 4 rfl) ?_
      refine ziconst (pc := 706) (n := 0) hx hb dL_law_706 ?_
      refine zlald (pc := 707) hx hb hw hko3 ⟨by omega, by omega⟩ (by omega) dL_law_707 ?_
      refine lv_iload (pc := 708) hx hb dL_law_708 (lv_at hl 0 rfl) ?_
      refine zi2lw (pc := 710) hx hb dL_law_710 ?_
      refine zlcmpE (pc := 711) hx hb hov dL_law_711 ?_
      refine zif_eq (pc := 712) hx hb 717 (by omega) dL_law_712 (by decide) (fun c712 => ?_) (fun c712 => ?_)
      · skip
        refine lv_goto (pc := 717) (tgt := 3400) hx hb dL_law_717 (by decide) ?_
        exact kk ρ3 K672 X684 R672 _ H locs _ _ ls hI3 ⟨by omega, by omega⟩ hw (lv_sub hl [2, 3, 4, 5, 6, 7] rfl)
      · skip
        exfalso; omega
  · skip
    exfalso; omega
set_option maxHeartbeats 4000000 in
set_option maxRecDepth 100000 in
theorem lc_8 {p : Program} {l : Launch} (hl9 : l.stackTraces = false) {e : Env} {s : State} {m : MethodId} {below : List Frame} {meth : Method} {c : Code} {Q : State → Prop} {b L : Nat} {xs : Nat → Int32} {Γ : zG} {K0 : zK} (E : LE p s m c b L xs K0) {ρ : zL} {K : zK} {X : zX} {Rf : zR} {M : zM} {x md out outD it : Nat} {i : Int} {cw sw : Nat} {H : Heap} {locs : List Loc} {ls : Array Slot} (hi : 0 ≤ i ∧ i + 8 ≤ (L : Int)) (hit : it ≤ 511) (hI : LI ρ K X Rf x md out outD M) (hcs : cw ≤ 100 + 1100 * it ∧ sw + ptR X Rf md ≤ 112000 + 14000 * it) (hw : Wd Γ (zA K0 s.heap.size) K X Rf s H locs) (hl : lv_has ls 9 [(5, .int (iI i)), (4, .ref outD), (3, .ref out), (2, .ref md), (1, .ref x), (0, .ref b)]) (kk : ∀ (ρ' : zL) (K' : zK) (X' : zX) (R' : zR) (M' : zM) (H' : Heap) (locs' : List Loc) (cl' sl' : Nat) (ls' : Array Slot), LI ρ' K' X' R' x md out outD M' → (cl' ≤ 100 + 1100 * (it + 1) ∧ sl' + ptR X' R' md ≤ 112000 + 14000 * (it + 1)) → Wd Γ (zA K0 s.heap.size) K' X' R' s H' locs' → lv_has ls' 9 [(5, .int (iI i)), (4, .ref outD), (3, .ref out), (2, .ref md), (1, .ref x), (0, .ref b)] → W p l e room_1 s m #[Value.ref b] below meth c H' locs' cl' sl' Q (F0 m 3400 ls' [])) : W p l e room_1 s m #[Value.ref b] below meth c H locs cw sw Q (F0 m 720 ls []) := by
  obtain ⟨⟨hx, hb, hml, hown⟩, hG, h46, hX, hXs, hbl, hbA, hL⟩ := E
  obtain ⟨hC, hRr, hM, ⟨hko4, hlo4⟩, hko5, hlo5⟩ := id hI
  have hCk := hC.1.1
  have hloo : ρ out = 4000 ∨ ρ out = 4001 := Or.inl hlo4
  have hlod : ρ outD = 4000 ∨ ρ outD = 4001 := Or.inr hlo5
  obtain ⟨day, hq1⟩ : ∃ z : Int, scI xs (i + 1).toNat = z := ⟨_, rfl⟩
  have hf1 : fit day := by rw [← hq1]; exact scI_fit
  obtain ⟨n9, hq2⟩ : ∃ z : Int, scI xs (i + 2).toNat = z := ⟨_, rfl⟩
  have hf2 : fit n9 := by rw [← hq2]; exact scI_fit
  refine lv_aload_n (pc := 720) hx hb dL_law_720 rfl (lv_at hl 4 rfl) ?_
  refine lv_aload_n (pc := 721) hx hb dL_law_721 rfl (lv_at hl 5 rfl) ?_
  refine lv_iload (pc := 722) hx hb dL_law_722 (lv_at hl 0 rfl) ?_
  refine ziconst (pc := 724) (n := 1) hx hb dL_law_724 ?_
  refine zadd (pc := 725) hx hb dL_law_725 ?_
  refine zsld (pc := 726) hx hb hXs hbl hbA hL hw ⟨by omega, by omega⟩ hq1 dL_law_726 ?_
  refine lv_aload_n (pc := 727) hx hb dL_law_727 rfl (lv_at hl 5 rfl) ?_
  refine lv_iload (pc := 728) hx hb dL_law_728 (lv_at hl 0 rfl) ?_
  refine ziconst (pc := 730) (n := 2) hx hb dL_law_730 ?_
  refine zadd (pc := 731) hx hb dL_law_731 ?_
  refine zsld (pc := 732) hx hb hXs hbl hbA hL hw ⟨by omega, by omega⟩ hq2 dL_law_732 ?_
  refine lv_aload_n (pc := 733) hx hb dL_law_733 rfl (lv_at hl 2 rfl) ?_
  refine zkI (pc := 734) (zlrS (As := [.ref x, .int (iI day), .int (iI n9), .ref out]) hx hb hml hown hG h46 hX hw (c_L_plusMonths l hl9 Γ K X Rf x day n9 out (ρ) M (by (first | assumption | omega)) (by (first | assumption | omega)) (by (first | assumption | omega)) (by (first | assumption | omega)) (by (first | assumption | omega)) (by (first | assumption | omega))) cb_L_plusMonths wl_L_198 rfl ⟨Nat.le_of_ble_eq_true rfl, Nat.le_of_ble_eq_true rfl⟩ hl.1 rfl (Nat.le_of_ble_eq_true rfl) dL_law_734 ⟨(by show cw + 2 ≤ 601024; omega), (by show sw + 12 ≤ 7293033; omega)⟩) hw (fun r734 K734 X734 R734 H locs hp734 hw => ?_)
  obtain ⟨hk1, hv1, ρ1, hC1, hf1⟩ := hp734
  obtain ⟨hR1, hpt1, hk1o⟩ := hI.c (Or.inl rfl) hC1 hf1
  have hmd1 := hR1.1.1
  refine lv_istore (pc := 737) (lv' := [(6, .int (iI r734)), (5, .int (iI i)), (4, .ref outD), (3, .ref out), (2, .ref md), (1, .ref x), (0, .ref b)]) hx hb dL_law_737 hl (by decide) rfl (fun ls hl => ?_)
  refine lv_aload_n (pc := 739) hx hb dL_law_739 rfl (lv_at hl 4 rfl) ?_
  refine lv_aload_n (pc := 740) hx hb dL_law_740 rfl (lv_at hl 6 rfl) ?_
  refine lv_iload (pc := 741) hx hb dL_law_741 (lv_at hl 1 rfl) ?_
  refine ziconst (pc := 743) (n := 1) hx hb dL_law_743 ?_
  refine zadd (pc := 744) hx hb dL_law_744 ?_
  refine zsld (pc := 745) hx hb hXs hbl hbA hL hw ⟨by omega, by omega⟩ hq1 dL_law_745 ?_
  refine lv_aload_n (pc := 746) hx hb dL_law_746 rfl (lv_at hl 6 rfl) ?_
  refine lv_iload (pc := 747) hx hb dL_law_747 (lv_at hl 1 rfl) ?_
  refine ziconst (pc := 749) (n := 2) hx hb dL_law_749 ?_
  refine zadd (pc := 750) hx hb dL_law_750 ?_
  refine zsld (pc := 751) hx hb hXs hbl hbA hL hw ⟨by omega, by omega⟩ hq2 dL_law_751 ?_
  have hM1 : okM M := by exact hM
  refine zkIx (pc := 752) (zrV (As := [.int (iI day), .int (iI n9)]) hx hb hml hown hG hw (c_X9_plusMonths l Γ K734 X734 R734 md day n9 (rlb K734 ρ1) M (by (first | assumption | omega)) (by (first | assumption | omega)) (by (first | assumption | omega))) (T := TX9) hmd1 rfl cb_X9_plusMonths wl_L_201 rfl ⟨Nat.le_of_ble_eq_true rfl, Nat.le_of_ble_eq_true rfl⟩ hl.1 rfl (Nat.le_of_ble_eq_true rfl) dL_law_752 ⟨(by show cw + 2 + 0 ≤ 601024; omega), (by show sw + 12 + 0 ≤ 7293033; omega)⟩) hw (fun r752 X752 H locs hp752 hw => ?_)
  obtain ⟨hv2, h02, ρ2, hR2, hg2, hpt2⟩ : (cdPlus day n9 = 0 → r752 = vlPlus day n9) ∧ X752 md 0 = cdPlus day n9 ∧ ∃ ρ2, repR ρ2 K734 X752 R734 md M ∧ frR (rlb K734 ρ1) K734 X734 R734 ρ2 K734 X752 R734 ∧ ptR X752 R734 md ≤ ptR X734 R734 md := by obtain ⟨a1, a2⟩ := hp752; exact ⟨a1, by rw [a2]; exact up2_s, rlb K734 ρ1, by rw [a2]; exact hR1.own ⟨rfl, by decide⟩, by rw [a2]; exact frR_own hR1, by rw [a2]; exact ptR_ls (lsR_own hR1)⟩
  obtain ⟨hxo, hxd, ρ3, hI3⟩ := LI.r hC1 hk1o hM1 hR2 hg2
  have hmd3 := hI3.2.1.1.1
  have hko3 := hI3.2.2.2.1.1
  have hkd3 := hI3.2.2.2.2.1
  have hcb : 0 ≤ cdPlus day n9 ∧ cdPlus day n9 ≤ 3 := by unfold cdPlus; (repeat' split) <;> omega
  refine lv_istore (pc := 755) (lv' := [(7, .int (iI r752)), (6, .int (iI r734)), (5, .int (iI i)), (4, .ref outD), (3, .ref out), (2, .ref md), (1, .ref x), (0, .ref b)]) hx hb dL_law_755 hl (by decide) rfl (fun ls hl => ?_)
  refine lv_aload_n (pc := 757) hx hb dL_law_757 rfl (lv_at hl 5 rfl) ?_
  refine zkIp (pc := 758) (zrV (As := []) hx hb hml hown hG hw (c_X9_thrown l Γ K734 X752 R734 md  (by (first | assumption | omega))) (T := TX9) hmd3 rfl cb_X9_thrown wl_L_172 rfl ⟨Nat.le_of_ble_eq_true rfl, Nat.le_of_ble_eq_true rfl⟩ hl.1 rfl (Nat.le_of_ble_eq_true rfl) dL_law_758 ⟨(by show cw + 2 + 0 ≤ 601024; omega), (by show sw + 12 + 0 ≤ 7293033; omega)⟩) hw (fun r758 H locs hp758 hw => ?_)
  subst hp758
  refine lv_iload (pc := 761) hx hb dL_law_761 (lv_at hl 1 rfl) ?_
  refine zicmp_eq (pc := 763) hx hb 768 (by omega) (by omega) dL_law_763 (by decide) (fun c763 => ?_) (fun c763 => ?_)
  · skip
    refine lv_iload (pc := 768) hx hb dL_law_768 (lv_at hl 1 rfl) ?_
    refine zif_ne (pc := 770) hx hb 785 (by omega) dL_law_770 (by decide) (fun c770 => ?_) (fun c770 => ?_)
    · skip
      refine lv_goto (pc := 785) (tgt := 3400) hx hb dL_law_785 (by decide) ?_
      exact kk ρ3 K734 X752 R734 _ H locs _ _ ls hI3 ⟨by omega, by omega⟩ hw (lv_sub hl [2, 3, 4, 5, 6, 7] rfl)
    · skip
      have hc0 : cdPlus day n9 = 0 := by omega
      have hov : X752 out 0 = wI r752 := by rw [congrFun hxo 0, hv1 hc0, hv2 hc0]
      refine lv_aload_n (pc := 773) hx hb dL_law_773 rfl (lv_at hl 4 rfl) ?_
      refine ziconst (pc := 774) (n := 0) hx hb dL_law_774 ?_
      refine zlald (pc := 775) hx hb hw hko3 ⟨by omega, by omega⟩ (by omega) dL_law_775 ?_
      refine lv_iload (pc := 776) hx hb dL_law_776 (lv_at hl 0 rfl) ?_
      refine zi2lw (pc := 778) hx hb dL_law_778 ?_
      refine zlcmpE (pc := 779) hx hb hov dL_law_779 ?_
      refine zif_eq (pc := 780) hx hb 785 (by omega) dL_law_780 (by decide) (fun c780 => ?_) (fun c780 => ?_)
      · skip
        refine lv_goto (pc := 785) (tgt := 3400) hx hb dL_law_785 (by decide) ?_
        exact kk ρ3 K734 X752 R734 _ H locs _ _ ls hI3 ⟨by omega, by omega⟩ hw (lv_sub hl [2, 3, 4, 5, 6, 7] rfl)
      · skip
        exfalso; omega
  · skip
    exfalso; omega
set_option maxHeartbeats 4000000 in
set_option maxRecDepth 100000 in
theorem lc_9 {p : Program} {l : Launch} (hl9 : l.stackTraces = false) {e : Env} {s : State} {m : MethodId} {below : List Frame} {meth : Method} {c : Code} {Q : State → Prop} {b L : Nat} {xs : Nat → Int32} {Γ : zG} {K0 : zK} (E : LE p s m c b L xs K0) {ρ : zL} {K : zK} {X : zX} {Rf : zR} {M : zM} {x md out outD it : Nat} {i : Int} {cw sw : Nat} {H : Heap} {locs : List Loc} {ls : Array Slot} (hi : 0 ≤ i ∧ i + 8 ≤ (L : Int)) (hit : it ≤ 511) (hI : LI ρ K X Rf x md out outD M) (hcs : cw ≤ 100 + 1100 * it ∧ sw + ptR X Rf md ≤ 112000 + 14000 * it) (hw : Wd Γ (zA K0 s.heap.size) K X Rf s H locs) (hl : lv_has ls 9 [(5, .int (iI i)), (4, .ref outD), (3, .ref out), (2, .ref md), (1, .ref x), (0, .ref b)]) (kk : ∀ (ρ' : zL) (K' : zK) (X' : zX) (R' : zR) (M' : zM) (H' : Heap) (locs' : List Loc) (cl' sl' : Nat) (ls' : Array Slot), LI ρ' K' X' R' x md out outD M' → (cl' ≤ 100 + 1100 * (it + 1) ∧ sl' + ptR X' R' md ≤ 112000 + 14000 * (it + 1)) → Wd Γ (zA K0 s.heap.size) K' X' R' s H' locs' → lv_has ls' 9 [(5, .int (iI i)), (4, .ref outD), (3, .ref out), (2, .ref md), (1, .ref x), (0, .ref b)] → W p l e room_1 s m #[Value.ref b] below meth c H' locs' cl' sl' Q (F0 m 3400 ls' [])) : W p l e room_1 s m #[Value.ref b] below meth c H locs cw sw Q (F0 m 788 ls []) := by
  obtain ⟨⟨hx, hb, hml, hown⟩, hG, h46, hX, hXs, hbl, hbA, hL⟩ := E
  obtain ⟨hC, hRr, hM, ⟨hko4, hlo4⟩, hko5, hlo5⟩ := id hI
  have hCk := hC.1.1
  have hloo : ρ out = 4000 ∨ ρ out = 4001 := Or.inl hlo4
  have hlod : ρ outD = 4000 ∨ ρ outD = 4001 := Or.inr hlo5
  obtain ⟨mo, hq1⟩ : ∃ z : Int, scI xs (i + 1).toNat = z := ⟨_, rfl⟩
  have hf1 : fit mo := by rw [← hq1]; exact scI_fit
  obtain ⟨ki, hq2⟩ : ∃ z : Int, scI xs (i + 2).toNat = z := ⟨_, rfl⟩
  have hf2 : fit ki := by rw [← hq2]; exact scI_fit
  obtain ⟨nu, hq3⟩ : ∃ z : Int, scI xs (i + 3).toNat = z := ⟨_, rfl⟩
  have hf3 : fit nu := by rw [← hq3]; exact scI_fit
  refine lv_aload_n (pc := 788) hx hb dL_law_788 rfl (lv_at hl 4 rfl) ?_
  refine lv_aload_n (pc := 789) hx hb dL_law_789 rfl (lv_at hl 5 rfl) ?_
  refine lv_iload (pc := 790) hx hb dL_law_790 (lv_at hl 0 rfl) ?_
  refine ziconst (pc := 792) (n := 1) hx hb dL_law_792 ?_
  refine zadd (pc := 793) hx hb dL_law_793 ?_
  refine zsld (pc := 794) hx hb hXs hbl hbA hL hw ⟨by omega, by omega⟩ hq1 dL_law_794 ?_
  refine lv_aload_n (pc := 795) hx hb dL_law_795 rfl (lv_at hl 5 rfl) ?_
  refine lv_iload (pc := 796) hx hb dL_law_796 (lv_at hl 0 rfl) ?_
  refine ziconst (pc := 798) (n := 2) hx hb dL_law_798 ?_
  refine zadd (pc := 799) hx hb dL_law_799 ?_
  refine zsld (pc := 800) hx hb hXs hbl hbA hL hw ⟨by omega, by omega⟩ hq2 dL_law_800 ?_
  refine lv_aload_n (pc := 801) hx hb dL_law_801 rfl (lv_at hl 5 rfl) ?_
  refine lv_iload (pc := 802) hx hb dL_law_802 (lv_at hl 0 rfl) ?_
  refine ziconst (pc := 804) (n := 3) hx hb dL_law_804 ?_
  refine zadd (pc := 805) hx hb dL_law_805 ?_
  refine zsld (pc := 806) hx hb hXs hbl hbA hL hw ⟨by omega, by omega⟩ hq3 dL_law_806 ?_
  refine lv_aload_n (pc := 807) hx hb dL_law_807 rfl (lv_at hl 2 rfl) ?_
  refine zkI (pc := 808) (zlrS (As := [.ref x, .int (iI mo), .int (iI ki), .int (iI nu), .ref out]) hx hb hml hown hG h46 hX hw (c_L_addPattern l hl9 Γ K X Rf x mo ki nu out (ρ) M (by (first | assumption | omega)) (by (first | assumption | omega)) (by (first | assumption | omega)) (by (first | assumption | omega)) (by (first | assumption | omega))) cb_L_addPattern wl_L_202 rfl ⟨Nat.le_of_ble_eq_true rfl, Nat.le_of_ble_eq_true rfl⟩ hl.1 rfl (Nat.le_of_ble_eq_true rfl) dL_law_808 ⟨(by show cw + 2 ≤ 601024; omega), (by show sw + 9 ≤ 7293033; omega)⟩) hw (fun r808 K808 X808 R808 H locs hp808 hw => ?_)
  obtain ⟨hk1, hv1, ρ1, hC1, hf1⟩ := hp808
  obtain ⟨hR1, hpt1, hk1o⟩ := hI.c (Or.inl rfl) hC1 hf1
  have hmd1 := hR1.1.1
  refine lv_istore (pc := 811) (lv' := [(6, .int (iI r808)), (5, .int (iI i)), (4, .ref outD), (3, .ref out), (2, .ref md), (1, .ref x), (0, .ref b)]) hx hb dL_law_811 hl (by decide) rfl (fun ls hl => ?_)
  refine lv_aload_n (pc := 813) hx hb dL_law_813 rfl (lv_at hl 4 rfl) ?_
  refine lv_aload_n (pc := 814) hx hb dL_law_814 rfl (lv_at hl 6 rfl) ?_
  refine lv_iload (pc := 815) hx hb dL_law_815 (lv_at hl 1 rfl) ?_
  refine ziconst (pc := 817) (n := 1) hx hb dL_law_817 ?_
  refine zadd (pc := 818) hx hb dL_law_818 ?_
  refine zsld (pc := 819) hx hb hXs hbl hbA hL hw ⟨by omega, by omega⟩ hq1 dL_law_819 ?_
  refine lv_aload_n (pc := 820) hx hb dL_law_820 rfl (lv_at hl 6 rfl) ?_
  refine lv_iload (pc := 821) hx hb dL_law_821 (lv_at hl 1 rfl) ?_
  refine ziconst (pc := 823) (n := 2) hx hb dL_law_823 ?_
  refine zadd (pc := 824) hx hb dL_law_824 ?_
  refine zsld (pc := 825) hx hb hXs hbl hbA hL hw ⟨by omega, by omega⟩ hq2 dL_law_825 ?_
  refine lv_aload_n (pc := 826) hx hb dL_law_826 rfl (lv_at hl 6 rfl) ?_
  refine lv_iload (pc := 827) hx hb dL_law_827 (lv_at hl 1 rfl) ?_
  refine ziconst (pc := 829) (n := 3) hx hb dL_law_829 ?_
  refine zadd (pc := 830) hx hb dL_law_830 ?_
  refine zsld (pc := 831) hx hb hXs hbl hbA hL hw ⟨by omega, by omega⟩ hq3 dL_law_831 ?_
  have hM1 : okM (if cdAdp M mo ki nu = 0 then (padM M (M 40 1).toNat mo ki nu) else M) := by split; (next h9 => exact okM_pad hM h9); exact hM
  refine zkI (pc := 832) (zrV (As := [.int (iI mo), .int (iI ki), .int (iI nu)]) hx hb hml hown hG hw (c_X9_addPattern l Γ K808 X808 R808 md mo ki nu (rlb K808 ρ1) M (by (first | assumption | omega)) (by (first | assumption | omega)) (by (first | assumption | omega))) (T := TX9) hmd1 rfl cb_X9_addPattern wl_L_204 rfl ⟨Nat.le_of_ble_eq_true rfl, Nat.le_of_ble_eq_true rfl⟩ hl.1 rfl (Nat.le_of_ble_eq_true rfl) dL_law_832 ⟨(by show cw + 2 + 0 ≤ 601024; omega), (by show sw + 9 + 0 ≤ 7293033; omega)⟩) hw (fun r832 K832 X832 R832 H locs hp832 hw => ?_)
  obtain ⟨hv2, h02, ρ2, hR2, hg2, hpt2⟩ : (cdAdp M mo ki nu = 0 → r832 = M 40 1) ∧ X832 md 0 = cdAdp M mo ki nu ∧ ∃ ρ2, repR ρ2 K832 X832 R832 md (if cdAdp M mo ki nu = 0 then (padM M (M 40 1).toNat mo ki nu) else M) ∧ frR (rlb K808 ρ1) K808 X808 R808 ρ2 K832 X832 R832 ∧ ptR X832 R832 md ≤ ptR X808 R808 md + 5000 := by obtain ⟨a1, a2, ρ', a3, a4, a5⟩ := hp832; exact ⟨a1, a2, ρ', a3, a4, a5⟩
  obtain ⟨hxo, hxd, ρ3, hI3⟩ := LI.r hC1 hk1o hM1 hR2 hg2
  have hmd3 := hI3.2.1.1.1
  have hko3 := hI3.2.2.2.1.1
  have hkd3 := hI3.2.2.2.2.1
  have hcb : 0 ≤ cdAdp M mo ki nu ∧ cdAdp M mo ki nu ≤ 3 := by unfold cdAdp; (repeat' split) <;> omega
  refine lv_istore (pc := 835) (lv' := [(7, .int (iI r832)), (6, .int (iI r808)), (5, .int (iI i)), (4, .ref outD), (3, .ref out), (2, .ref md), (1, .ref x), (0, .ref b)]) hx hb dL_law_835 hl (by decide) rfl (fun ls hl => ?_)
  refine lv_aload_n (pc := 837) hx hb dL_law_837 rfl (lv_at hl 5 rfl) ?_
  refine zkIp (pc := 838) (zrV (As := []) hx hb hml hown hG hw (c_X9_thrown l Γ K832 X832 R832 md  (by (first | assumption | omega))) (T := TX9) hmd3 rfl cb_X9_thrown wl_L_172 rfl ⟨Nat.le_of_ble_eq_true rfl, Nat.le_of_ble_eq_true rfl⟩ hl.1 rfl (Nat.le_of_ble_eq_true rfl) dL_law_838 ⟨(by show cw + 2 + 0 ≤ 601024; omega), (by show sw + 9 + 0 ≤ 7293033; omega)⟩) hw (fun r838 H locs hp838 hw => ?_)
  subst hp838
  refine lv_iload (pc := 841) hx hb dL_law_841 (lv_at hl 1 rfl) ?_
  refine zicmp_eq (pc := 843) hx hb 848 (by omega) (by omega) dL_law_843 (by decide) (fun c843 => ?_) (fun c843 => ?_)
  · skip
    refine lv_iload (pc := 848) hx hb dL_law_848 (lv_at hl 1 rfl) ?_
    refine zif_ne (pc := 850) hx hb 865 (by omega) dL_law_850 (by decide) (fun c850 => ?_) (fun c850 => ?_)
    · skip
      refine lv_goto (pc := 865) (tgt := 3400) hx hb dL_law_865 (by decide) ?_
      exact kk ρ3 K832 X832 R832 _ H locs _ _ ls hI3 ⟨by omega, by omega⟩ hw (lv_sub hl [2, 3, 4, 5, 6, 7] rfl)
    · skip
      have hc0 : cdAdp M mo ki nu = 0 := by omega
      have hov : X832 out 0 = wI r832 := by rw [congrFun hxo 0, hv1 hc0, hv2 hc0]
      refine lv_aload_n (pc := 853) hx hb dL_law_853 rfl (lv_at hl 4 rfl) ?_
      refine ziconst (pc := 854) (n := 0) hx hb dL_law_854 ?_
      refine zlald (pc := 855) hx hb hw hko3 ⟨by omega, by omega⟩ (by omega) dL_law_855 ?_
      refine lv_iload (pc := 856) hx hb dL_law_856 (lv_at hl 0 rfl) ?_
      refine zi2lw (pc := 858) hx hb dL_law_858 ?_
      refine zlcmpE (pc := 859) hx hb hov dL_law_859 ?_
      refine zif_eq (pc := 860) hx hb 865 (by omega) dL_law_860 (by decide) (fun c860 => ?_) (fun c860 => ?_)
      · skip
        refine lv_goto (pc := 865) (tgt := 3400) hx hb dL_law_865 (by decide) ?_
        exact kk ρ3 K832 X832 R832 _ H locs _ _ ls hI3 ⟨by omega, by omega⟩ hw (lv_sub hl [2, 3, 4, 5, 6, 7] rfl)
      · skip
        exfalso; omega
  · skip
    exfalso; omega
set_option maxHeartbeats 4000000 in
set_option maxRecDepth 100000 in
theorem lc_10 {p : Program} {l : Launch} (hl9 : l.stackTraces = false) {e : Env} {s : State} {m : MethodId} {below : List Frame} {meth : Method} {c : Code} {Q : State → Prop} {b L : Nat} {xs : Nat → Int32} {Γ : zG} {K0 : zK} (E : LE p s m c b L xs K0) {ρ : zL} {K : zK} {X : zX} {Rf : zR} {M : zM} {x md out outD it : Nat} {i : Int} {cw sw : Nat} {H : Heap} {locs : List Loc} {ls : Array Slot} (hi : 0 ≤ i ∧ i + 8 ≤ (L : Int)) (hit : it ≤ 511) (hI : LI ρ K X Rf x md out outD M) (hcs : cw ≤ 100 + 1100 * it ∧ sw + ptR X Rf md ≤ 112000 + 14000 * it) (hw : Wd Γ (zA K0 s.heap.size) K X Rf s H locs) (hl : lv_has ls 9 [(5, .int (iI i)), (4, .ref outD), (3, .ref out), (2, .ref md), (1, .ref x), (0, .ref b)]) (kk : ∀ (ρ' : zL) (K' : zK) (X' : zX) (R' : zR) (M' : zM) (H' : Heap) (locs' : List Loc) (cl' sl' : Nat) (ls' : Array Slot), LI ρ' K' X' R' x md out outD M' → (cl' ≤ 100 + 1100 * (it + 1) ∧ sl' + ptR X' R' md ≤ 112000 + 14000 * (it + 1)) → Wd Γ (zA K0 s.heap.size) K' X' R' s H' locs' → lv_has ls' 9 [(5, .int (iI i)), (4, .ref outD), (3, .ref out), (2, .ref md), (1, .ref x), (0, .ref b)] → W p l e room_1 s m #[Value.ref b] below meth c H' locs' cl' sl' Q (F0 m 3400 ls' [])) : W p l e room_1 s m #[Value.ref b] below meth c H locs cw sw Q (F0 m 868 ls []) := by
  obtain ⟨⟨hx, hb, hml, hown⟩, hG, h46, hX, hXs, hbl, hbA, hL⟩ := E
  obtain ⟨hC, hRr, hM, ⟨hko4, hlo4⟩, hko5, hlo5⟩ := id hI
  have hCk := hC.1.1
  have hloo : ρ out = 4000 ∨ ρ out = 4001 := Or.inl hlo4
  have hlod : ρ outD = 4000 ∨ ρ outD = 4001 := Or.inr hlo5
  obtain ⟨a, hq1⟩ : ∃ z : Int, scI xs (i + 1).toNat = z := ⟨_, rfl⟩
  have hf1 : fit a := by rw [← hq1]; exact scI_fit
  obtain ⟨year, hq2⟩ : ∃ z : Int, scI xs (i + 2).toNat = z := ⟨_, rfl⟩
  have hf2 : fit year := by rw [← hq2]; exact scI_fit
  refine lv_aload_n (pc := 868) hx hb dL_law_868 rfl (lv_at hl 4 rfl) ?_
  refine lv_aload_n (pc := 869) hx hb dL_law_869 rfl (lv_at hl 5 rfl) ?_
  refine lv_iload (pc := 870) hx hb dL_law_870 (lv_at hl 0 rfl) ?_
  refine ziconst (pc := 872) (n := 1) hx hb dL_law_872 ?_
  refine zadd (pc := 873) hx hb dL_law_873 ?_
  refine zsld (pc := 874) hx hb hXs hbl hbA hL hw ⟨by omega, by omega⟩ hq1 dL_law_874 ?_
  refine lv_aload_n (pc := 875) hx hb dL_law_875 rfl (lv_at hl 5 rfl) ?_
  refine lv_iload (pc := 876) hx hb dL_law_876 (lv_at hl 0 rfl) ?_
  refine ziconst (pc := 878) (n := 2) hx hb dL_law_878 ?_
  refine zadd (pc := 879) hx hb dL_law_879 ?_
  refine zsld (pc := 880) hx hb hXs hbl hbA hL hw ⟨by omega, by omega⟩ hq2 dL_law_880 ?_
  refine lv_aload_n (pc := 881) hx hb dL_law_881 rfl (lv_at hl 2 rfl) ?_
  refine zkI (pc := 882) (zlrS (As := [.ref x, .int (iI a), .int (iI year), .ref out]) hx hb hml hown hG h46 hX hw (c_L_daysTold l hl9 Γ K X Rf x a year out (ρ) M (by (first | assumption | omega)) (by (first | assumption | omega)) (by (first | assumption | omega)) (by (first | assumption | omega)) (by (first | assumption | omega))) cb_L_daysTold wl_L_205 rfl ⟨Nat.le_of_ble_eq_true rfl, Nat.le_of_ble_eq_true rfl⟩ hl.1 rfl (Nat.le_of_ble_eq_true rfl) dL_law_882 ⟨(by show cw + 2 ≤ 601024; omega), (by show sw + 12 ≤ 7293033; omega)⟩) hw (fun r882 K882 X882 R882 H locs hp882 hw => ?_)
  obtain ⟨hk1, hv1, ρ1, hC1, hf1⟩ := hp882
  obtain ⟨hR1, hpt1, hk1o⟩ := hI.c (Or.inl rfl) hC1 hf1
  have hmd1 := hR1.1.1
  refine lv_istore (pc := 885) (lv' := [(6, .int (iI r882)), (5, .int (iI i)), (4, .ref outD), (3, .ref out), (2, .ref md), (1, .ref x), (0, .ref b)]) hx hb dL_law_885 hl (by decide) rfl (fun ls hl => ?_)
  refine lv_aload_n (pc := 887) hx hb dL_law_887 rfl (lv_at hl 4 rfl) ?_
  refine lv_aload_n (pc := 888) hx hb dL_law_888 rfl (lv_at hl 6 rfl) ?_
  refine lv_iload (pc := 889) hx hb dL_law_889 (lv_at hl 1 rfl) ?_
  refine ziconst (pc := 891) (n := 1) hx hb dL_law_891 ?_
  refine zadd (pc := 892) hx hb dL_law_892 ?_
  refine zsld (pc := 893) hx hb hXs hbl hbA hL hw ⟨by omega, by omega⟩ hq1 dL_law_893 ?_
  refine lv_aload_n (pc := 894) hx hb dL_law_894 rfl (lv_at hl 6 rfl) ?_
  refine lv_iload (pc := 895) hx hb dL_law_895 (lv_at hl 1 rfl) ?_
  refine ziconst (pc := 897) (n := 2) hx hb dL_law_897 ?_
  refine zadd (pc := 898) hx hb dL_law_898 ?_
  refine zsld (pc := 899) hx hb hXs hbl hbA hL hw ⟨by omega, by omega⟩ hq2 dL_law_899 ?_
  have hM1 : okM M := by exact hM
  refine zkIx (pc := 900) (zrV (As := [.int (iI a), .int (iI year)]) hx hb hml hown hG hw (c_X9_daysTold l Γ K882 X882 R882 md a year (rlb K882 ρ1) M (by (first | assumption | omega)) (by (first | assumption | omega)) (by (first | assumption | omega))) (T := TX9) hmd1 rfl cb_X9_daysTold wl_L_207 rfl ⟨Nat.le_of_ble_eq_true rfl, Nat.le_of_ble_eq_true rfl⟩ hl.1 rfl (Nat.le_of_ble_eq_true rfl) dL_law_900 ⟨(by show cw + 2 + 0 ≤ 601024; omega), (by show sw + 12 + 0 ≤ 7293033; omega)⟩) hw (fun r900 X900 H locs hp900 hw => ?_)
  obtain ⟨hv2, h02, ρ2, hR2, hg2, hpt2⟩ : (cdPatY M a year = 0 → r900 = cntT (patM M a.toNat) (12 * (year - 1900)) 12) ∧ X900 md 0 = cdPatY M a year ∧ ∃ ρ2, repR ρ2 K882 X900 R882 md M ∧ frR (rlb K882 ρ1) K882 X882 R882 ρ2 K882 X900 R882 ∧ ptR X900 R882 md ≤ ptR X882 R882 md := by obtain ⟨a1, a2⟩ := hp900; exact ⟨a1, by rw [a2]; exact up2_s, rlb K882 ρ1, by rw [a2]; exact hR1.own ⟨rfl, by decide⟩, by rw [a2]; exact frR_own hR1, by rw [a2]; exact ptR_ls (lsR_own hR1)⟩
  obtain ⟨hxo, hxd, ρ3, hI3⟩ := LI.r hC1 hk1o hM1 hR2 hg2
  have hmd3 := hI3.2.1.1.1
  have hko3 := hI3.2.2.2.1.1
  have hkd3 := hI3.2.2.2.2.1
  have hcb : 0 ≤ cdPatY M a year ∧ cdPatY M a year ≤ 3 := by unfold cdPatY; (repeat' split) <;> omega
  refine lv_istore (pc := 903) (lv' := [(7, .int (iI r900)), (6, .int (iI r882)), (5, .int (iI i)), (4, .ref outD), (3, .ref out), (2, .ref md), (1, .ref x), (0, .ref b)]) hx hb dL_law_903 hl (by decide) rfl (fun ls hl => ?_)
  refine lv_aload_n (pc := 905) hx hb dL_law_905 rfl (lv_at hl 5 rfl) ?_
  refine zkIp (pc := 906) (zrV (As := []) hx hb hml hown hG hw (c_X9_thrown l Γ K882 X900 R882 md  (by (first | assumption | omega))) (T := TX9) hmd3 rfl cb_X9_thrown wl_L_172 rfl ⟨Nat.le_of_ble_eq_true rfl, Nat.le_of_ble_eq_true rfl⟩ hl.1 rfl (Nat.le_of_ble_eq_true rfl) dL_law_906 ⟨(by show cw + 2 + 0 ≤ 601024; omega), (by show sw + 12 + 0 ≤ 7293033; omega)⟩) hw (fun r906 H locs hp906 hw => ?_)
  subst hp906
  refine lv_iload (pc := 909) hx hb dL_law_909 (lv_at hl 1 rfl) ?_
  refine zicmp_eq (pc := 911) hx hb 916 (by omega) (by omega) dL_law_911 (by decide) (fun c911 => ?_) (fun c911 => ?_)
  · skip
    refine lv_iload (pc := 916) hx hb dL_law_916 (lv_at hl 1 rfl) ?_
    refine zif_ne (pc := 918) hx hb 933 (by omega) dL_law_918 (by decide) (fun c918 => ?_) (fun c918 => ?_)
    · skip
      refine lv_goto (pc := 933) (tgt := 3400) hx hb dL_law_933 (by decide) ?_
      exact kk ρ3 K882 X900 R882 _ H locs _ _ ls hI3 ⟨by omega, by omega⟩ hw (lv_sub hl [2, 3, 4, 5, 6, 7] rfl)
    · skip
      have hc0 : cdPatY M a year = 0 := by omega
      have hov : X900 out 0 = wI r900 := by rw [congrFun hxo 0, hv1 hc0, hv2 hc0]
      refine lv_aload_n (pc := 921) hx hb dL_law_921 rfl (lv_at hl 4 rfl) ?_
      refine ziconst (pc := 922) (n := 0) hx hb dL_law_922 ?_
      refine zlald (pc := 923) hx hb hw hko3 ⟨by omega, by omega⟩ (by omega) dL_law_923 ?_
      refine lv_iload (pc := 924) hx hb dL_law_924 (lv_at hl 0 rfl) ?_
      refine zi2lw (pc := 926) hx hb dL_law_926 ?_
      refine zlcmpE (pc := 927) hx hb hov dL_law_927 ?_
      refine zif_eq (pc := 928) hx hb 933 (by omega) dL_law_928 (by decide) (fun c928 => ?_) (fun c928 => ?_)
      · skip
        refine lv_goto (pc := 933) (tgt := 3400) hx hb dL_law_933 (by decide) ?_
        exact kk ρ3 K882 X900 R882 _ H locs _ _ ls hI3 ⟨by omega, by omega⟩ hw (lv_sub hl [2, 3, 4, 5, 6, 7] rfl)
      · skip
        exfalso; omega
  · skip
    exfalso; omega
set_option maxHeartbeats 4000000 in
set_option maxRecDepth 100000 in
theorem lc_11 {p : Program} {l : Launch} (hl9 : l.stackTraces = false) {e : Env} {s : State} {m : MethodId} {below : List Frame} {meth : Method} {c : Code} {Q : State → Prop} {b L : Nat} {xs : Nat → Int32} {Γ : zG} {K0 : zK} (E : LE p s m c b L xs K0) {ρ : zL} {K : zK} {X : zX} {Rf : zR} {M : zM} {x md out outD it : Nat} {i : Int} {cw sw : Nat} {H : Heap} {locs : List Loc} {ls : Array Slot} (hi : 0 ≤ i ∧ i + 8 ≤ (L : Int)) (hit : it ≤ 511) (hI : LI ρ K X Rf x md out outD M) (hcs : cw ≤ 100 + 1100 * it ∧ sw + ptR X Rf md ≤ 112000 + 14000 * it) (hw : Wd Γ (zA K0 s.heap.size) K X Rf s H locs) (hl : lv_has ls 9 [(5, .int (iI i)), (4, .ref outD), (3, .ref out), (2, .ref md), (1, .ref x), (0, .ref b)]) (kk : ∀ (ρ' : zL) (K' : zK) (X' : zX) (R' : zR) (M' : zM) (H' : Heap) (locs' : List Loc) (cl' sl' : Nat) (ls' : Array Slot), LI ρ' K' X' R' x md out outD M' → (cl' ≤ 100 + 1100 * (it + 1) ∧ sl' + ptR X' R' md ≤ 112000 + 14000 * (it + 1)) → Wd Γ (zA K0 s.heap.size) K' X' R' s H' locs' → lv_has ls' 9 [(5, .int (iI i)), (4, .ref outD), (3, .ref out), (2, .ref md), (1, .ref x), (0, .ref b)] → W p l e room_1 s m #[Value.ref b] below meth c H' locs' cl' sl' Q (F0 m 3400 ls' [])) : W p l e room_1 s m #[Value.ref b] below meth c H locs cw sw Q (F0 m 936 ls []) := by
  obtain ⟨⟨hx, hb, hml, hown⟩, hG, h46, hX, hXs, hbl, hbA, hL⟩ := E
  obtain ⟨hC, hRr, hM, ⟨hko4, hlo4⟩, hko5, hlo5⟩ := id hI
  have hCk := hC.1.1
  have hloo : ρ out = 4000 ∨ ρ out = 4001 := Or.inl hlo4
  have hlod : ρ outD = 4000 ∨ ρ outD = 4001 := Or.inr hlo5
  obtain ⟨a, hq1⟩ : ∃ z : Int, scI xs (i + 1).toNat = z := ⟨_, rfl⟩
  have hf1 : fit a := by rw [← hq1]; exact scI_fit
  obtain ⟨day, hq2⟩ : ∃ z : Int, scI xs (i + 2).toNat = z := ⟨_, rfl⟩
  have hf2 : fit day := by rw [← hq2]; exact scI_fit
  refine lv_aload_n (pc := 936) hx hb dL_law_936 rfl (lv_at hl 4 rfl) ?_
  refine lv_aload_n (pc := 937) hx hb dL_law_937 rfl (lv_at hl 5 rfl) ?_
  refine lv_iload (pc := 938) hx hb dL_law_938 (lv_at hl 0 rfl) ?_
  refine ziconst (pc := 940) (n := 1) hx hb dL_law_940 ?_
  refine zadd (pc := 941) hx hb dL_law_941 ?_
  refine zsld (pc := 942) hx hb hXs hbl hbA hL hw ⟨by omega, by omega⟩ hq1 dL_law_942 ?_
  refine lv_aload_n (pc := 943) hx hb dL_law_943 rfl (lv_at hl 5 rfl) ?_
  refine lv_iload (pc := 944) hx hb dL_law_944 (lv_at hl 0 rfl) ?_
  refine ziconst (pc := 946) (n := 2) hx hb dL_law_946 ?_
  refine zadd (pc := 947) hx hb dL_law_947 ?_
  refine zsld (pc := 948) hx hb hXs hbl hbA hL hw ⟨by omega, by omega⟩ hq2 dL_law_948 ?_
  refine lv_aload_n (pc := 949) hx hb dL_law_949 rfl (lv_at hl 2 rfl) ?_
  refine zkI (pc := 950) (zlrS (As := [.ref x, .int (iI a), .int (iI day), .ref out]) hx hb hml hown hG h46 hX hw (c_L_tells l hl9 Γ K X Rf x a day out (ρ) M (by (first | assumption | omega)) (by (first | assumption | omega)) (by (first | assumption | omega)) (by (first | assumption | omega)) (by (first | assumption | omega))) cb_L_tells wl_L_208 rfl ⟨Nat.le_of_ble_eq_true rfl, Nat.le_of_ble_eq_true rfl⟩ hl.1 rfl (Nat.le_of_ble_eq_true rfl) dL_law_950 ⟨(by show cw + 2 ≤ 601024; omega), (by show sw + 12 ≤ 7293033; omega)⟩) hw (fun r950 K950 X950 R950 H locs hp950 hw => ?_)
  obtain ⟨hk1, hv1, ρ1, hC1, hf1⟩ := hp950
  obtain ⟨hR1, hpt1, hk1o⟩ := hI.c (Or.inl rfl) hC1 hf1
  have hmd1 := hR1.1.1
  refine lv_istore (pc := 953) (lv' := [(6, .int (iI r950)), (5, .int (iI i)), (4, .ref outD), (3, .ref out), (2, .ref md), (1, .ref x), (0, .ref b)]) hx hb dL_law_953 hl (by decide) rfl (fun ls hl => ?_)
  refine lv_aload_n (pc := 955) hx hb dL_law_955 rfl (lv_at hl 4 rfl) ?_
  refine lv_aload_n (pc := 956) hx hb dL_law_956 rfl (lv_at hl 6 rfl) ?_
  refine lv_iload (pc := 957) hx hb dL_law_957 (lv_at hl 1 rfl) ?_
  refine ziconst (pc := 959) (n := 1) hx hb dL_law_959 ?_
  refine zadd (pc := 960) hx hb dL_law_960 ?_
  refine zsld (pc := 961) hx hb hXs hbl hbA hL hw ⟨by omega, by omega⟩ hq1 dL_law_961 ?_
  refine lv_aload_n (pc := 962) hx hb dL_law_962 rfl (lv_at hl 6 rfl) ?_
  refine lv_iload (pc := 963) hx hb dL_law_963 (lv_at hl 1 rfl) ?_
  refine ziconst (pc := 965) (n := 2) hx hb dL_law_965 ?_
  refine zadd (pc := 966) hx hb dL_law_966 ?_
  refine zsld (pc := 967) hx hb hXs hbl hbA hL hw ⟨by omega, by omega⟩ hq2 dL_law_967 ?_
  have hM1 : okM M := by exact hM
  refine zkIx (pc := 968) (zrV (As := [.int (iI a), .int (iI day)]) hx hb hml hown hG hw (c_X9_tells l Γ K950 X950 R950 md a day (rlb K950 ρ1) M (by (first | assumption | omega)) (by (first | assumption | omega)) (by (first | assumption | omega))) (T := TX9) hmd1 rfl cb_X9_tells wl_L_210 rfl ⟨Nat.le_of_ble_eq_true rfl, Nat.le_of_ble_eq_true rfl⟩ hl.1 rfl (Nat.le_of_ble_eq_true rfl) dL_law_968 ⟨(by show cw + 2 + 0 ≤ 601024; omega), (by show sw + 12 + 0 ≤ 7293033; omega)⟩) hw (fun r968 X968 H locs hp968 hw => ?_)
  obtain ⟨hv2, h02, ρ2, hR2, hg2, hpt2⟩ : (cdPatD M a day = 0 → r968 = (if told (patM M a.toNat) (mi day) = day then 1 else 0)) ∧ X968 md 0 = cdPatD M a day ∧ ∃ ρ2, repR ρ2 K950 X968 R950 md M ∧ frR (rlb K950 ρ1) K950 X950 R950 ρ2 K950 X968 R950 ∧ ptR X968 R950 md ≤ ptR X950 R950 md := by obtain ⟨a1, a2⟩ := hp968; exact ⟨a1, by rw [a2]; exact up2_s, rlb K950 ρ1, by rw [a2]; exact hR1.own ⟨rfl, by decide⟩, by rw [a2]; exact frR_own hR1, by rw [a2]; exact ptR_ls (lsR_own hR1)⟩
  obtain ⟨hxo, hxd, ρ3, hI3⟩ := LI.r hC1 hk1o hM1 hR2 hg2
  have hmd3 := hI3.2.1.1.1
  have hko3 := hI3.2.2.2.1.1
  have hkd3 := hI3.2.2.2.2.1
  have hcb : 0 ≤ cdPatD M a day ∧ cdPatD M a day ≤ 3 := by unfold cdPatD; (repeat' split) <;> omega
  refine lv_istore (pc := 971) (lv' := [(7, .int (iI r968)), (6, .int (iI r950)), (5, .int (iI i)), (4, .ref outD), (3, .ref out), (2, .ref md), (1, .ref x), (0, .ref b)]) hx hb dL_law_971 hl (by decide) rfl (fun ls hl => ?_)
  refine lv_aload_n (pc := 973) hx hb dL_law_973 rfl (lv_at hl 5 rfl) ?_
  refine zkIp (pc := 974) (zrV (As := []) hx hb hml hown hG hw (c_X9_thrown l Γ K950 X968 R950 md  (by (first | assumption | omega))) (T := TX9) hmd3 rfl cb_X9_thrown wl_L_172 rfl ⟨Nat.le_of_ble_eq_true rfl, Nat.le_of_ble_eq_true rfl⟩ hl.1 rfl (Nat.le_of_ble_eq_true rfl) dL_law_974 ⟨(by show cw + 2 + 0 ≤ 601024; omega), (by show sw + 12 + 0 ≤ 7293033; omega)⟩) hw (fun r974 H locs hp974 hw => ?_)
  subst hp974
  refine lv_iload (pc := 977) hx hb dL_law_977 (lv_at hl 1 rfl) ?_
  refine zicmp_eq (pc := 979) hx hb 984 (by omega) (by omega) dL_law_979 (by decide) (fun c979 => ?_) (fun c979 => ?_)
  · skip
    refine lv_iload (pc := 984) hx hb dL_law_984 (lv_at hl 1 rfl) ?_
    refine zif_ne (pc := 986) hx hb 1008 (by omega) dL_law_986 (by decide) (fun c986 => ?_) (fun c986 => ?_)
    · skip
      refine lv_goto (pc := 1008) (tgt := 3400) hx hb dL_law_1008 (by decide) ?_
      exact kk ρ3 K950 X968 R950 _ H locs _ _ ls hI3 ⟨by omega, by omega⟩ hw (lv_sub hl [2, 3, 4, 5, 6, 7] rfl)
    · skip
      have hc0 : cdPatD M a day = 0 := by omega
      have hr01 : r968 = 0 ∨ r968 = 1 := by rw [hv2 hc0]; (try unfold bI); split <;> first | exact Or.inr rfl | exact Or.inl rfl
      have hov : X968 out 0 = r968 := by rw [congrFun hxo 0, hv1 hc0, hv2 hc0]
      refine lv_aload_n (pc := 989) hx hb dL_law_989 rfl (lv_at hl 4 rfl) ?_
      refine ziconst (pc := 990) (n := 0) hx hb dL_law_990 ?_
      refine zlald (pc := 991) hx hb hw hko3 ⟨by omega, by omega⟩ (by omega) dL_law_991 ?_
      refine lv_iload (pc := 992) hx hb dL_law_992 (lv_at hl 0 rfl) ?_
      refine zif_eq (pc := 994) hx hb 1001 (by omega) dL_law_994 (by decide) (fun c994 => ?_) (fun c994 => ?_)
      · skip
        refine zlconst (pc := 1001) (z := 0) hx hb rfl dL_law_1001 ?_
        refine zlcmpE (pc := 1002) hx hb (hov.trans (by omega)) dL_law_1002 ?_
        refine zif_eq (pc := 1003) hx hb 1008 (by omega) dL_law_1003 (by decide) (fun c1003 => ?_) (fun c1003 => ?_)
        · skip
          refine lv_goto (pc := 1008) (tgt := 3400) hx hb dL_law_1008 (by decide) ?_
          exact kk ρ3 K950 X968 R950 _ H locs _ _ ls hI3 ⟨by omega, by omega⟩ hw (lv_sub hl [2, 3, 4, 5, 6, 7] rfl)
        · skip
          exfalso; omega
      · skip
        refine zlconst (pc := 997) (z := 1) hx hb rfl dL_law_997 ?_
        refine lv_goto (pc := 998) (tgt := 1002) hx hb dL_law_998 (by decide) ?_
        refine zlcmpE (pc := 1002) hx hb (hov.trans (by omega)) dL_law_1002 ?_
        refine zif_eq (pc := 1003) hx hb 1008 (by omega) dL_law_1003 (by decide) (fun c1003 => ?_) (fun c1003 => ?_)
        · skip
          refine lv_goto (pc := 1008) (tgt := 3400) hx hb dL_law_1008 (by decide) ?_
          exact kk ρ3 K950 X968 R950 _ H locs _ _ ls hI3 ⟨by omega, by omega⟩ hw (lv_sub hl [2, 3, 4, 5, 6, 7] rfl)
        · skip
          exfalso; omega
  · skip
    exfalso; omega
