set_option maxHeartbeats 4000000 in
set_option maxRecDepth 100000 in
theorem lg_339 {p : Program} {l : Launch} (hl9 : l.stackTraces = false) {e : Env} {s : State} {m : MethodId} {below : List Frame} {meth : Method} {c : Code} {b L : Nat} {xs : Nat → Int32} (E : LE p s m c meth b L xs) {Γ : zG} {K : zK} {X : zX} {Rf : zR} {H : Heap} {locs : List Loc} {ls : Array Slot} {cw sw : Nat} {q0 : Nat} {ρ : zL} {M : zM} {np npl : Int} (hC : repC ρ K X Rf q0 M) (hM : okM M) (hnp : (1 ≤ np ∧ np ≤ 5) ∧ 1 ≤ npl ∧ npl ≤ 3) (hv : M 40 1 = np ∧ M 40 5 = npl ∧ M 40 16 = 2 ∧ M 40 29 = 0) (hcs : cw ≤ 400 ∧ sw ≤ 27000) (hw : Wd Γ (zA zK0 s.heap.size) K X Rf s H locs) (hl : lv_has ls 8 [(3, .int (iI npl)), (2, .int (iI np)), (1, .ref q0), (0, .ref b)]) : W p l e room_1 s m #[Value.ref b] below meth c H locs cw sw (lw_Z below #[Value.ref b] s) (F0 m 339 ls []) := by
  have E0 := E
  obtain ⟨⟨hx, hb, hml, hown⟩, hG, hX, hXs, hbl, hbA, hL, hr, hlocks⟩ := E
  have hkq : K q0 = (1, 7) := hC.1.1
  refine ziconst (pc := 339) (n := 0) hx hb dL_law_339 ?_
  refine lv_istore (pc := 340) (lv' := [(4, .int (iI 0)), (3, .int (iI npl)), (2, .int (iI np)), (1, .ref q0), (0, .ref b)]) hx hb dL_law_340 hl (by decide) rfl (fun ls hl => ?_)
  have lp342 : ∀ (n342 : Nat) (fk : Int) (ρ5 : zL) (M5 : zM) (cw5 : Nat) (sw5 : Nat) (KL342 : zK) (XL342 : zX) (RL342 : zR) (H : Heap) (locs : List Loc), (hfk : 0 ≤ fk ∧ fk ≤ 3) → (hC5 : repC ρ5 KL342 XL342 RL342 q0 M5) → (hM5 : okM M5) → (hv5 : M5 40 1 = np ∧ M5 40 5 = npl ∧ M5 40 16 = 2 ∧ M5 40 29 = fk) → (hcs5 : cw5 ≤ 400 + 5 * fk.toNat ∧ sw5 ≤ 27000 + 30 * fk.toNat) → ((3 - fk).toNat < n342) → Wd Γ (zA zK0 s.heap.size) KL342 XL342 RL342 s H locs → ∀ ls : Array Slot, lv_has ls 8 [(4, .int (iI fk)), (3, .int (iI npl)), (2, .int (iI np)), (1, .ref q0), (0, .ref b)] → W p l e room_1 s m #[Value.ref b] below meth c H locs cw5 sw5 (lw_Z below #[Value.ref b] s) (F0 m 342 ls []) := by
    intro n342
    induction n342 with
    | zero => intro fk ρ5 M5 cw5 sw5 KL342 XL342 RL342 H locs hfk hC5 hM5 hv5 hcs5 hm342; exact absurd hm342 (Nat.not_lt_zero _)
    | succ n342 ih342 =>
      intro fk ρ5 M5 cw5 sw5 KL342 XL342 RL342 H locs hfk hC5 hM5 hv5 hcs5 hm342 hw ls hl
      have hk342q : KL342 q0 = (1, 7) := hC5.1.1
      refine lv_iload (pc := 342) hx hb dL_law_342 (lv_at hl 0 rfl) ?_
      refine ziconst (pc := 344) (n := 3) hx hb dL_law_344 ?_
      refine zicmp_ge (pc := 345) hx hb 393 (by omega) (by omega) dL_law_345 (by decide) (fun c345 => ?_) (fun c345 => ?_)
      · skip
        exact lg_393 hl9 E0 hC5 hM5 hnp ⟨by omega, by omega, by omega, by omega⟩ ⟨by omega, by omega⟩ hw (lv_sub hl [1, 2, 3, 4] rfl)
      · skip
        refine lv_aload_n (pc := 348) hx hb dL_law_348 rfl (lv_at hl 3 rfl) ?_
        refine zsipush (pc := 349) (n := 1900) hx hb dL_law_349 rfl ?_
        refine zsipush (pc := 352) (n := 2099) hx hb dL_law_352 rfl ?_
        refine lv_aload_n (pc := 355) hx hb dL_law_355 rfl (lv_at hl 4 rfl) ?_
        refine zbipush (pc := 356) (n := 19) hx hb dL_law_356 rfl ?_
        refine zkIp (pc := 358) (zrSs (As := [.ref b, .int (iI 19)]) hx hb hml hown hG hXs hbl hbA hw (c_L_cell l Γ KL342 XL342 RL342 b 19 L xs hL (zKb hw hbA) (by (first | assumption | omega))) cb_L_cell wl_L_22 rfl ⟨Nat.le_of_ble_eq_true rfl, Nat.le_of_ble_eq_true rfl⟩ hl.1 rfl (Nat.le_of_ble_eq_true rfl) dL_law_358 ⟨(by show cw5 + 0 ≤ 600064; omega), (by show sw5 + 0 ≤ 7301640; omega)⟩) hw (fun r358 H locs hp358 hw => ?_)
        refine lv_iload (pc := 361) hx hb dL_law_361 (lv_at hl 0 rfl) ?_
        refine zshA (pc := 363) hx hb dL_law_363 (fun x363 fx363 => ?_)
        refine lv_iload_n (pc := 364) hx hb dL_law_364 rfl (lv_at hl 2 rfl) ?_
        refine zkIp (pc := 365) (zrS (As := [.int (iI x363), .int (iI np)]) hx hb hml hown hG hw (c_L_below l Γ KL342 XL342 RL342 x363 np (by (first | assumption | omega)) (by (first | assumption | omega))) cb_L_below wl_L_9 rfl ⟨Nat.le_of_ble_eq_true rfl, Nat.le_of_ble_eq_true rfl⟩ hl.1 rfl (Nat.le_of_ble_eq_true rfl) dL_law_365 ⟨(by show cw5 + 0 ≤ 600064; omega), (by show sw5 + 0 ≤ 7301640; omega)⟩) hw (fun r365 H locs hp365 hw => ?_)
        refine lv_aload_n (pc := 368) hx hb dL_law_368 rfl (lv_at hl 4 rfl) ?_
        refine zbipush (pc := 369) (n := 20) hx hb dL_law_369 rfl ?_
        refine zkIp (pc := 371) (zrSs (As := [.ref b, .int (iI 20)]) hx hb hml hown hG hXs hbl hbA hw (c_L_cell l Γ KL342 XL342 RL342 b 20 L xs hL (zKb hw hbA) (by (first | assumption | omega))) cb_L_cell wl_L_22 rfl ⟨Nat.le_of_ble_eq_true rfl, Nat.le_of_ble_eq_true rfl⟩ hl.1 rfl (Nat.le_of_ble_eq_true rfl) dL_law_371 ⟨(by show cw5 + 0 ≤ 600064; omega), (by show sw5 + 0 ≤ 7301640; omega)⟩) hw (fun r371 H locs hp371 hw => ?_)
        refine ziconst (pc := 374) (n := 2) hx hb dL_law_374 ?_
        refine lv_iload (pc := 375) hx hb dL_law_375 (lv_at hl 0 rfl) ?_
        refine zmul (pc := 377) hx hb dL_law_377 ?_
        refine zshA (pc := 378) hx hb dL_law_378 (fun x378 fx378 => ?_)
        refine ziconst (pc := 379) (n := 4) hx hb dL_law_379 ?_
        refine zkIp (pc := 380) (zrS (As := [.int (iI x378), .int (iI 4)]) hx hb hml hown hG hw (c_L_below l Γ KL342 XL342 RL342 x378 4 (by (first | assumption | omega)) (by (first | assumption | omega))) cb_L_below wl_L_9 rfl ⟨Nat.le_of_ble_eq_true rfl, Nat.le_of_ble_eq_true rfl⟩ hl.1 rfl (Nat.le_of_ble_eq_true rfl) dL_law_380 ⟨(by show cw5 + 0 ≤ 600064; omega), (by show sw5 + 0 ≤ 7301640; omega)⟩) hw (fun r380 H locs hp380 hw => ?_)
        have hcd383 : cdAfe M5 1900 2099 r365 r380 = 0 := by unfold cdAfe; rw [if_pos (by omega), if_pos (by omega), if_neg (by omega)]
        refine zxkI (pc := 383) (zxrV (As := [.int (iI 1900), .int (iI 2099), .int (iI r365), .int (iI r380)]) hx hb hml hown hG hX hw (c_X8_addFeast l hl9 Γ KL342 XL342 RL342 q0 1900 2099 r365 r380 (ρ5) M5 (by (first | assumption | omega)) (by (first | assumption | omega)) (by (first | assumption | omega))) (T := TX8) hk342q rfl cb_X8_addFeast wl_L_54 rfl ⟨Nat.le_of_ble_eq_true rfl, Nat.le_of_ble_eq_true rfl⟩ hl.1 rfl (Nat.le_of_ble_eq_true rfl) dL_law_383 ⟨(by show cw5 + 5 ≤ 600064; omega), (by show sw5 + 30 ≤ 7301640; omega)⟩) hw (fun E9 ce9 q9 H9 locs9 hxp9 hw9 hce9 hcv9 hcl9 => (by exfalso; first | exact hxp9 | omega | (rcases hxp9 with ⟨-, hq9⟩ | ⟨-, hq9⟩ | ⟨-, hq9⟩ <;> omega) | (rcases hxp9 with ⟨-, hq9⟩ | ⟨-, hq9⟩ <;> omega))) (fun r383 K383 X383 R383 H locs hp383 hw => ?_)
        obtain ⟨⟨er383, -⟩, ρ383, hC383, -⟩ := hp383
        have hk383 : K383 q0 = (1, 7) := hC383.1.1
        obtain ⟨M383, eM383⟩ : ∃ Z : zM, Z = faM M5 (M5 40 29).toNat 1900 2099 r365 r380 := ⟨_, rfl⟩
        rw [← eM383] at hC383
        have hM383 : okM M383 := by rw [eM383]; exact okM_fea hM5 hcd383
        obtain hv383 := fea_v hv5.2.2.2 (by omega) eM383
        refine lv_pop (pc := 386) hx hb dL_law_386 rfl ?_
        refine ziinc (pc := 387) (lv' := [(4, .int (iI (fk + 1))), (3, .int (iI npl)), (2, .int (iI np)), (1, .ref q0), (0, .ref b)]) hx hb 0 dL_law_387 hl rfl (by decide) rfl (fun ls hl => ?_)
        obtain ⟨x387, ex387⟩ : ∃ zz : Int, zz = (fk + 1) := ⟨_, rfl⟩
        rw [← ex387] at hl
        refine lv_goto (pc := 390) (tgt := 342) hx hb dL_law_390 (by decide) ?_
        exact ih342 x387 (ρ383) M383 (cw5 + 5) (sw5 + 30) K383 X383 R383 _ _ (by (first | assumption | omega)) (by (first | assumption | omega)) (by (first | assumption | omega)) (by (first | assumption | omega)) (by (first | assumption | omega)) (by omega) hw _ (lv_sub hl [0, 1, 2, 3, 4] rfl)
  exact lp342 _ 0 (ρ) M cw sw K X Rf _ _ (by (first | assumption | omega)) (by (first | assumption | omega)) (by (first | assumption | omega)) (by (first | assumption | omega)) (by (first | assumption | omega)) (Nat.lt_succ_self _) hw _ (lv_sub hl [0, 1, 2, 3, 4] rfl)
set_option maxHeartbeats 4000000 in
set_option maxRecDepth 100000 in
theorem lg_220 {p : Program} {l : Launch} (hl9 : l.stackTraces = false) {e : Env} {s : State} {m : MethodId} {below : List Frame} {meth : Method} {c : Code} {b L : Nat} {xs : Nat → Int32} (E : LE p s m c meth b L xs) {Γ : zG} {K : zK} {X : zX} {Rf : zR} {H : Heap} {locs : List Loc} {ls : Array Slot} {cw sw : Nat} {q0 : Nat} {ρ : zL} {M : zM} {np npl : Int} (hC : repC ρ K X Rf q0 M) (hM : okM M) (hnp : (1 ≤ np ∧ np ≤ 5) ∧ 1 ≤ npl ∧ npl ≤ 3) (hv : M 40 1 = np ∧ M 40 5 = npl ∧ M 40 16 = 0 ∧ M 40 29 = 0) (hcs : cw ≤ 300 ∧ sw ≤ 17600) (hw : Wd Γ (zA zK0 s.heap.size) K X Rf s H locs) (hl : lv_has ls 8 [(3, .int (iI npl)), (2, .int (iI np)), (1, .ref q0), (0, .ref b)]) : W p l e room_1 s m #[Value.ref b] below meth c H locs cw sw (lw_Z below #[Value.ref b] s) (F0 m 220 ls []) := by
  have E0 := E
  obtain ⟨⟨hx, hb, hml, hown⟩, hG, hX, hXs, hbl, hbA, hL, hr, hlocks⟩ := E
  have hkq : K q0 = (1, 7) := hC.1.1
  refine ziconst (pc := 220) (n := 0) hx hb dL_law_220 ?_
  refine lv_istore (pc := 221) (lv' := [(4, .int (iI 0)), (3, .int (iI npl)), (2, .int (iI np)), (1, .ref q0), (0, .ref b)]) hx hb dL_law_221 hl (by decide) rfl (fun ls hl => ?_)
  have lp223 : ∀ (n223 : Nat) (sk : Int) (ρ4 : zL) (M4 : zM) (cw4 : Nat) (sw4 : Nat) (KL223 : zK) (XL223 : zX) (RL223 : zR) (H : Heap) (locs : List Loc), (hsk : 0 ≤ sk ∧ sk ≤ 2) → (hC4 : repC ρ4 KL223 XL223 RL223 q0 M4) → (hM4 : okM M4) → (hv4 : M4 40 1 = np ∧ M4 40 5 = npl ∧ M4 40 16 = sk ∧ M4 40 29 = 0) → (hcs4 : cw4 ≤ 300 + 20 * sk.toNat ∧ sw4 ≤ 17600 + 4100 * sk.toNat) → ((2 - sk).toNat < n223) → Wd Γ (zA zK0 s.heap.size) KL223 XL223 RL223 s H locs → ∀ ls : Array Slot, lv_has ls 8 [(4, .int (iI sk)), (3, .int (iI npl)), (2, .int (iI np)), (1, .ref q0), (0, .ref b)] → W p l e room_1 s m #[Value.ref b] below meth c H locs cw4 sw4 (lw_Z below #[Value.ref b] s) (F0 m 223 ls []) := by
    intro n223
    induction n223 with
    | zero => intro sk ρ4 M4 cw4 sw4 KL223 XL223 RL223 H locs hsk hC4 hM4 hv4 hcs4 hm223; exact absurd hm223 (Nat.not_lt_zero _)
    | succ n223 ih223 =>
      intro sk ρ4 M4 cw4 sw4 KL223 XL223 RL223 H locs hsk hC4 hM4 hv4 hcs4 hm223 hw ls hl
      have hk223q : KL223 q0 = (1, 7) := hC4.1.1
      refine lv_iload (pc := 223) hx hb dL_law_223 (lv_at hl 0 rfl) ?_
      refine ziconst (pc := 225) (n := 2) hx hb dL_law_225 ?_
      refine zicmp_ge (pc := 226) hx hb 339 (by omega) (by omega) dL_law_226 (by decide) (fun c226 => ?_) (fun c226 => ?_)
      · skip
        exact lg_339 hl9 E0 hC4 hM4 hnp ⟨by omega, by omega, by omega, by omega⟩ ⟨by omega, by omega⟩ hw (lv_sub hl [1, 2, 3, 4] rfl)
      · skip
        refine lv_aload_n (pc := 229) hx hb dL_law_229 rfl (lv_at hl 4 rfl) ?_
        refine zbipush (pc := 230) (n := 17) hx hb dL_law_230 rfl ?_
        refine lv_iload (pc := 232) hx hb dL_law_232 (lv_at hl 0 rfl) ?_
        refine zadd (pc := 234) hx hb dL_law_234 ?_
        refine zkIp (pc := 235) (zrSs (As := [.ref b, .int (iI (17 + sk))]) hx hb hml hown hG hXs hbl hbA hw (c_L_cell l Γ KL223 XL223 RL223 b (17 + sk) L xs hL (zKb hw hbA) (by (first | assumption | omega))) cb_L_cell wl_L_22 rfl ⟨Nat.le_of_ble_eq_true rfl, Nat.le_of_ble_eq_true rfl⟩ hl.1 rfl (Nat.le_of_ble_eq_true rfl) dL_law_235 ⟨(by show cw4 + 0 ≤ 600064; omega), (by show sw4 + 0 ≤ 7301640; omega)⟩) hw (fun r235 H locs hp235 hw => ?_)
        refine lv_istore (pc := 238) (lv' := [(5, .int (iI r235)), (4, .int (iI sk)), (3, .int (iI npl)), (2, .int (iI np)), (1, .ref q0), (0, .ref b)]) hx hb dL_law_238 hl (by decide) rfl (fun ls hl => ?_)
        refine lv_aload_n (pc := 240) hx hb dL_law_240 rfl (lv_at hl 4 rfl) ?_
        refine lv_iload (pc := 241) hx hb dL_law_241 (lv_at hl 0 rfl) ?_
        refine lv_iload_n (pc := 243) hx hb dL_law_243 rfl (lv_at hl 2 rfl) ?_
        refine zkIp (pc := 244) (zrS (As := [.int (iI r235), .int (iI npl)]) hx hb hml hown hG hw (c_L_below l Γ KL223 XL223 RL223 r235 npl (by (first | assumption | omega)) (by (first | assumption | omega))) cb_L_below wl_L_9 rfl ⟨Nat.le_of_ble_eq_true rfl, Nat.le_of_ble_eq_true rfl⟩ hl.1 rfl (Nat.le_of_ble_eq_true rfl) dL_law_244 ⟨(by show cw4 + 0 ≤ 600064; omega), (by show sw4 + 0 ≤ 7301640; omega)⟩) hw (fun r244 H locs hp244 hw => ?_)
        refine lv_iload (pc := 247) hx hb dL_law_247 (lv_at hl 0 rfl) ?_
        refine ziconst (pc := 249) (n := 1) hx hb dL_law_249 ?_
        refine zshA (pc := 250) hx hb dL_law_250 (fun x250 fx250 => ?_)
        refine zldc (pc := 251) (n := 105190560) hx hb hown hG wk_L_43 dL_law_251 ?_
        refine zkIp (pc := 253) (zrS (As := [.int (iI x250), .int (iI 105190560)]) hx hb hml hown hG hw (c_L_below l Γ KL223 XL223 RL223 x250 105190560 (by (first | assumption | omega)) (by (first | assumption | omega))) cb_L_below wl_L_9 rfl ⟨Nat.le_of_ble_eq_true rfl, Nat.le_of_ble_eq_true rfl⟩ hl.1 rfl (Nat.le_of_ble_eq_true rfl) dL_law_253 ⟨(by show cw4 + 0 ≤ 600064; omega), (by show sw4 + 0 ≤ 7301640; omega)⟩) hw (fun r253 H locs hp253 hw => ?_)
        refine lv_iload (pc := 256) hx hb dL_law_256 (lv_at hl 0 rfl) ?_
        refine ziconst (pc := 258) (n := 3) hx hb dL_law_258 ?_
        refine zshA (pc := 259) hx hb dL_law_259 (fun x259 fx259 => ?_)
        refine ziconst (pc := 260) (n := 4) hx hb dL_law_260 ?_
        refine zkIp (pc := 261) (zrS (As := [.int (iI x259), .int (iI 4)]) hx hb hml hown hG hw (c_L_below l Γ KL223 XL223 RL223 x259 4 (by (first | assumption | omega)) (by (first | assumption | omega))) cb_L_below wl_L_9 rfl ⟨Nat.le_of_ble_eq_true rfl, Nat.le_of_ble_eq_true rfl⟩ hl.1 rfl (Nat.le_of_ble_eq_true rfl) dL_law_261 ⟨(by show cw4 + 0 ≤ 600064; omega), (by show sw4 + 0 ≤ 7301640; omega)⟩) hw (fun r261 H locs hp261 hw => ?_)
        refine ziconst (pc := 264) (n := 1) hx hb dL_law_264 ?_
        refine lv_iload (pc := 265) hx hb dL_law_265 (lv_at hl 0 rfl) ?_
        refine ziconst (pc := 267) (n := 5) hx hb dL_law_267 ?_
        refine zshA (pc := 268) hx hb dL_law_268 (fun x268 fx268 => ?_)
        refine zbipush (pc := 269) (n := 60) hx hb dL_law_269 rfl ?_
        refine zkIp (pc := 271) (zrS (As := [.int (iI x268), .int (iI 60)]) hx hb hml hown hG hw (c_L_below l Γ KL223 XL223 RL223 x268 60 (by (first | assumption | omega)) (by (first | assumption | omega))) cb_L_below wl_L_9 rfl ⟨Nat.le_of_ble_eq_true rfl, Nat.le_of_ble_eq_true rfl⟩ hl.1 rfl (Nat.le_of_ble_eq_true rfl) dL_law_271 ⟨(by show cw4 + 0 ≤ 600064; omega), (by show sw4 + 0 ≤ 7301640; omega)⟩) hw (fun r271 H locs hp271 hw => ?_)
        refine zadd (pc := 274) hx hb dL_law_274 ?_
        refine lv_iload (pc := 275) hx hb dL_law_275 (lv_at hl 0 rfl) ?_
        refine zbipush (pc := 277) (n := 9) hx hb dL_law_277 rfl ?_
        refine zshA (pc := 279) hx hb dL_law_279 (fun x279 fx279 => ?_)
        refine zsipush (pc := 280) (n := 128) hx hb dL_law_280 rfl ?_
        refine zkIp (pc := 283) (zrS (As := [.int (iI x279), .int (iI 128)]) hx hb hml hown hG hw (c_L_below l Γ KL223 XL223 RL223 x279 128 (by (first | assumption | omega)) (by (first | assumption | omega))) cb_L_below wl_L_9 rfl ⟨Nat.le_of_ble_eq_true rfl, Nat.le_of_ble_eq_true rfl⟩ hl.1 rfl (Nat.le_of_ble_eq_true rfl) dL_law_283 ⟨(by show cw4 + 0 ≤ 600064; omega), (by show sw4 + 0 ≤ 7301640; omega)⟩) hw (fun r283 H locs hp283 hw => ?_)
        have hcd286 : cdAse M4 r244 r253 r261 (1 + r271) r283 = 0 := by unfold cdAse; rw [if_pos (by omega), if_pos (by omega), if_neg (by omega)]
        refine zxkI (pc := 286) (zxrV (As := [.int (iI r244), .int (iI r253), .int (iI r261), .int (iI (1 + r271)), .int (iI r283)]) hx hb hml hown hG hX hw (c_X8_addSeries l hl9 Γ KL223 XL223 RL223 q0 r244 r253 r261 (1 + r271) r283 (ρ4) M4 (by (first | assumption | omega)) (by (first | assumption | omega)) (by (first | assumption | omega)) (by (first | assumption | omega))) (T := TX8) hk223q rfl cb_X8_addSeries wl_L_44 rfl ⟨Nat.le_of_ble_eq_true rfl, Nat.le_of_ble_eq_true rfl⟩ hl.1 rfl (Nat.le_of_ble_eq_true rfl) dL_law_286 ⟨(by show cw4 + 8 ≤ 600064; omega), (by show sw4 + 4060 ≤ 7301640; omega)⟩) hw (fun E9 ce9 q9 H9 locs9 hxp9 hw9 hce9 hcv9 hcl9 => (by exfalso; first | exact hxp9 | omega | (rcases hxp9 with ⟨-, hq9⟩ | ⟨-, hq9⟩ | ⟨-, hq9⟩ <;> omega) | (rcases hxp9 with ⟨-, hq9⟩ | ⟨-, hq9⟩ <;> omega))) (fun r286 K286 X286 R286 H locs hp286 hw => ?_)
        obtain ⟨⟨er286, -⟩, ρ286, hC286, -⟩ := hp286
        have hk286 : K286 q0 = (1, 7) := hC286.1.1
        obtain ⟨M286, eM286⟩ : ∃ Z : zM, Z = seM M4 (M4 40 16).toNat r244 r253 r261 (1 + r271) r283 := ⟨_, rfl⟩
        rw [← eM286] at hC286
        have hM286 : okM M286 := by rw [eM286]; exact okM_ser hM4 hcd286
        obtain ⟨hv286, h9286⟩ := ser_v hv4.2.2.1 (by omega) eM286
        refine lv_pop (pc := 289) hx hb dL_law_289 rfl ?_
        refine lv_iload (pc := 290) hx hb dL_law_290 (lv_at hl 0 rfl) ?_
        refine ziconst (pc := 292) (n := 2) hx hb dL_law_292 ?_
        refine zshA (pc := 293) hx hb dL_law_293 (fun x293 fx293 => ?_)
        refine ziconst (pc := 294) (n := 2) hx hb dL_law_294 ?_
        refine zkIp (pc := 295) (zrS (As := [.int (iI x293), .int (iI 2)]) hx hb hml hown hG hw (c_L_below l Γ K286 X286 R286 x293 2 (by (first | assumption | omega)) (by (first | assumption | omega))) cb_L_below wl_L_9 rfl ⟨Nat.le_of_ble_eq_true rfl, Nat.le_of_ble_eq_true rfl⟩ hl.1 rfl (Nat.le_of_ble_eq_true rfl) dL_law_295 ⟨(by show cw4 + 8 + 0 ≤ 600064; omega), (by show sw4 + 4060 + 0 ≤ 7301640; omega)⟩) hw (fun r295 H locs hp295 hw => ?_)
        refine zif_ne (pc := 298) hx hb 316 (by omega) dL_law_298 (by decide) (fun c298 => ?_) (fun c298 => ?_)
        · skip
          refine lv_aload_n (pc := 316) hx hb dL_law_316 rfl (lv_at hl 4 rfl) ?_
          refine lv_iload (pc := 317) hx hb dL_law_317 (lv_at hl 1 rfl) ?_
          refine lv_iload (pc := 319) hx hb dL_law_319 (lv_at hl 0 rfl) ?_
          refine zbipush (pc := 321) (n := 6) hx hb dL_law_321 rfl ?_
          refine zshA (pc := 323) hx hb dL_law_323 (fun x323 fx323 => ?_)
          refine zbipush (pc := 324) (n := 40) hx hb dL_law_324 rfl ?_
          refine zkIp (pc := 326) (zrS (As := [.int (iI x323), .int (iI 40)]) hx hb hml hown hG hw (c_L_below l Γ K286 X286 R286 x323 40 (by (first | assumption | omega)) (by (first | assumption | omega))) cb_L_below wl_L_9 rfl ⟨Nat.le_of_ble_eq_true rfl, Nat.le_of_ble_eq_true rfl⟩ hl.1 rfl (Nat.le_of_ble_eq_true rfl) dL_law_326 ⟨(by show cw4 + 8 + 0 ≤ 600064; omega), (by show sw4 + 4060 + 0 ≤ 7301640; omega)⟩) hw (fun r326 H locs hp326 hw => ?_)
          have hcd329 : cdSet M286 sk r326 0 500 = 0 := by unfold cdSet; rw [if_pos (by omega), if_pos (by omega)]
          refine zxkI (pc := 329) (zxrV (As := [.int (iI sk), .int (iI r326)]) hx hb hml hown hG hX hw (c_X8_setMost l hl9 Γ K286 X286 R286 q0 sk r326 (ρ286) M286 (by (first | assumption | omega)) (by (first | assumption | omega)) (by (first | assumption | omega))) (T := TX8) hk286 rfl cb_X8_setMost wl_L_51 rfl ⟨Nat.le_of_ble_eq_true rfl, Nat.le_of_ble_eq_true rfl⟩ hl.1 rfl (Nat.le_of_ble_eq_true rfl) dL_law_329 ⟨(by show cw4 + 8 + 2 ≤ 600064; omega), (by show sw4 + 4060 + 12 ≤ 7301640; omega)⟩) hw (fun E9 ce9 q9 H9 locs9 hxp9 hw9 hce9 hcv9 hcl9 => (by exfalso; first | exact hxp9 | omega | (rcases hxp9 with ⟨-, hq9⟩ | ⟨-, hq9⟩ | ⟨-, hq9⟩ <;> omega) | (rcases hxp9 with ⟨-, hq9⟩ | ⟨-, hq9⟩ <;> omega))) (fun r329 K329 X329 R329 H locs hp329 hw => ?_)
          obtain ⟨⟨er329, -⟩, ρ329, hC329, -⟩ := hp329
          have hk329 : K329 q0 = (1, 7) := hC329.1.1
          obtain ⟨M329, eM329⟩ : ∃ Z : zM, Z = up2 M286 17 (11 * sk.toNat + 6) r326 := ⟨_, rfl⟩
          rw [← eM329] at hC329
          have hM329 : okM M329 := by rw [eM329]; exact okM_set6 hM286 hcd329
          obtain hv329 := set_v eM329
          refine lv_pop (pc := 332) hx hb dL_law_332 rfl ?_
          refine ziinc (pc := 333) (lv' := [(4, .int (iI (sk + 1))), (5, .int (iI r235)), (3, .int (iI npl)), (2, .int (iI np)), (1, .ref q0), (0, .ref b)]) hx hb 1 dL_law_333 hl rfl (by decide) rfl (fun ls hl => ?_)
          obtain ⟨x333, ex333⟩ : ∃ zz : Int, zz = (sk + 1) := ⟨_, rfl⟩
          rw [← ex333] at hl
          refine lv_goto (pc := 336) (tgt := 223) hx hb dL_law_336 (by decide) ?_
          exact ih223 x333 (ρ329) M329 (cw4 + 8 + 2) (sw4 + 4060 + 12) K329 X329 R329 _ _ (by (first | assumption | omega)) (by (first | assumption | omega)) (by (first | assumption | omega)) (by (first | assumption | omega)) (by (first | assumption | omega)) (by omega) hw _ (lv_sub hl [0, 2, 3, 4, 5] rfl)
        · skip
          refine lv_aload_n (pc := 301) hx hb dL_law_301 rfl (lv_at hl 4 rfl) ?_
          refine lv_iload (pc := 302) hx hb dL_law_302 (lv_at hl 1 rfl) ?_
          refine lv_iload (pc := 304) hx hb dL_law_304 (lv_at hl 0 rfl) ?_
          refine ziconst (pc := 306) (n := 4) hx hb dL_law_306 ?_
          refine zshA (pc := 307) hx hb dL_law_307 (fun x307 fx307 => ?_)
          refine lv_iload_n (pc := 308) hx hb dL_law_308 rfl (lv_at hl 3 rfl) ?_
          refine zkIp (pc := 309) (zrS (As := [.int (iI x307), .int (iI np)]) hx hb hml hown hG hw (c_L_below l Γ K286 X286 R286 x307 np (by (first | assumption | omega)) (by (first | assumption | omega))) cb_L_below wl_L_9 rfl ⟨Nat.le_of_ble_eq_true rfl, Nat.le_of_ble_eq_true rfl⟩ hl.1 rfl (Nat.le_of_ble_eq_true rfl) dL_law_309 ⟨(by show cw4 + 8 + 0 ≤ 600064; omega), (by show sw4 + 4060 + 0 ≤ 7301640; omega)⟩) hw (fun r309 H locs hp309 hw => ?_)
          have hcd312 : cdUse M286 sk r309 = 0 := by unfold cdUse; rw [if_pos (by omega), if_neg (by omega)]
          refine zxkI (pc := 312) (zxrV (As := [.int (iI sk), .int (iI r309)]) hx hb hml hown hG hX hw (c_X8_usePattern l hl9 Γ K286 X286 R286 q0 sk r309 (ρ286) M286 (by (first | assumption | omega)) (by (first | assumption | omega)) (by (first | assumption | omega))) (T := TX8) hk286 rfl cb_X8_usePattern wl_L_48 rfl ⟨Nat.le_of_ble_eq_true rfl, Nat.le_of_ble_eq_true rfl⟩ hl.1 rfl (Nat.le_of_ble_eq_true rfl) dL_law_312 ⟨(by show cw4 + 8 + 3 ≤ 600064; omega), (by show sw4 + 4060 + 18 ≤ 7301640; omega)⟩) hw (fun E9 ce9 q9 H9 locs9 hxp9 hw9 hce9 hcv9 hcl9 => (by exfalso; first | exact hxp9 | omega | (rcases hxp9 with ⟨-, hq9⟩ | ⟨-, hq9⟩ | ⟨-, hq9⟩ <;> omega) | (rcases hxp9 with ⟨-, hq9⟩ | ⟨-, hq9⟩ <;> omega))) (fun r312 K312 X312 R312 H locs hp312 hw => ?_)
          obtain ⟨⟨er312, -⟩, ρ312, hC312, -⟩ := hp312
          have hk312 : K312 q0 = (1, 7) := hC312.1.1
          obtain ⟨M312, eM312⟩ : ∃ Z : zM, Z = usaM M286 sk.toNat r309 := ⟨_, rfl⟩
          rw [← eM312] at hC312
          have hM312 : okM M312 := by rw [eM312]; exact okM_use hM286 hcd312
          obtain hv312 := use_v eM312
          refine lv_pop (pc := 315) hx hb dL_law_315 rfl ?_
          refine lv_aload_n (pc := 316) hx hb dL_law_316 rfl (lv_at hl 4 rfl) ?_
          refine lv_iload (pc := 317) hx hb dL_law_317 (lv_at hl 1 rfl) ?_
          refine lv_iload (pc := 319) hx hb dL_law_319 (lv_at hl 0 rfl) ?_
          refine zbipush (pc := 321) (n := 6) hx hb dL_law_321 rfl ?_
          refine zshA (pc := 323) hx hb dL_law_323 (fun x323 fx323 => ?_)
          refine zbipush (pc := 324) (n := 40) hx hb dL_law_324 rfl ?_
          refine zkIp (pc := 326) (zrS (As := [.int (iI x323), .int (iI 40)]) hx hb hml hown hG hw (c_L_below l Γ K312 X312 R312 x323 40 (by (first | assumption | omega)) (by (first | assumption | omega))) cb_L_below wl_L_9 rfl ⟨Nat.le_of_ble_eq_true rfl, Nat.le_of_ble_eq_true rfl⟩ hl.1 rfl (Nat.le_of_ble_eq_true rfl) dL_law_326 ⟨(by show cw4 + 8 + 3 + 0 ≤ 600064; omega), (by show sw4 + 4060 + 18 + 0 ≤ 7301640; omega)⟩) hw (fun r326 H locs hp326 hw => ?_)
          have hcd329 : cdSet M312 sk r326 0 500 = 0 := by unfold cdSet; rw [if_pos (by omega), if_pos (by omega)]
          refine zxkI (pc := 329) (zxrV (As := [.int (iI sk), .int (iI r326)]) hx hb hml hown hG hX hw (c_X8_setMost l hl9 Γ K312 X312 R312 q0 sk r326 (ρ312) M312 (by (first | assumption | omega)) (by (first | assumption | omega)) (by (first | assumption | omega))) (T := TX8) hk312 rfl cb_X8_setMost wl_L_51 rfl ⟨Nat.le_of_ble_eq_true rfl, Nat.le_of_ble_eq_true rfl⟩ hl.1 rfl (Nat.le_of_ble_eq_true rfl) dL_law_329 ⟨(by show cw4 + 8 + 3 + 2 ≤ 600064; omega), (by show sw4 + 4060 + 18 + 12 ≤ 7301640; omega)⟩) hw (fun E9 ce9 q9 H9 locs9 hxp9 hw9 hce9 hcv9 hcl9 => (by exfalso; first | exact hxp9 | omega | (rcases hxp9 with ⟨-, hq9⟩ | ⟨-, hq9⟩ | ⟨-, hq9⟩ <;> omega) | (rcases hxp9 with ⟨-, hq9⟩ | ⟨-, hq9⟩ <;> omega))) (fun r329 K329 X329 R329 H locs hp329 hw => ?_)
          obtain ⟨⟨er329, -⟩, ρ329, hC329, -⟩ := hp329
          have hk329 : K329 q0 = (1, 7) := hC329.1.1
          obtain ⟨M329, eM329⟩ : ∃ Z : zM, Z = up2 M312 17 (11 * sk.toNat + 6) r326 := ⟨_, rfl⟩
          rw [← eM329] at hC329
          have hM329 : okM M329 := by rw [eM329]; exact okM_set6 hM312 hcd329
          obtain hv329 := set_v eM329
          refine lv_pop (pc := 332) hx hb dL_law_332 rfl ?_
          refine ziinc (pc := 333) (lv' := [(4, .int (iI (sk + 1))), (5, .int (iI r235)), (3, .int (iI npl)), (2, .int (iI np)), (1, .ref q0), (0, .ref b)]) hx hb 1 dL_law_333 hl rfl (by decide) rfl (fun ls hl => ?_)
          obtain ⟨x333, ex333⟩ : ∃ zz : Int, zz = (sk + 1) := ⟨_, rfl⟩
          rw [← ex333] at hl
          refine lv_goto (pc := 336) (tgt := 223) hx hb dL_law_336 (by decide) ?_
          exact ih223 x333 (ρ329) M329 (cw4 + 8 + 3 + 2) (sw4 + 4060 + 18 + 12) K329 X329 R329 _ _ (by (first | assumption | omega)) (by (first | assumption | omega)) (by (first | assumption | omega)) (by (first | assumption | omega)) (by (first | assumption | omega)) (by omega) hw _ (lv_sub hl [0, 2, 3, 4, 5] rfl)
  exact lp223 _ 0 (ρ) M cw sw K X Rf _ _ (by (first | assumption | omega)) (by (first | assumption | omega)) (by (first | assumption | omega)) (by (first | assumption | omega)) (by (first | assumption | omega)) (Nat.lt_succ_self _) hw _ (lv_sub hl [0, 1, 2, 3, 4] rfl)
