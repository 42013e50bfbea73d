/-- what holds all through the law -/
def LE (p : Program) (s : State) (m : MethodId) (c : Code) (meth : Method) (b L : Nat) (xs : Nat → Int32) : Prop := (p.tables.exec = Jvm.exec ∧ c.code = cL_law ∧ c.maxLocals = 8 ∧ s.vm.findClass RL = some m.cls) ∧ (∀ w ∈ GG, w.before #[Value.ref b] s = true) ∧ zXs zK0 s ∧ va_X b L xs s s.heap ∧ b < s.heap.size ∧ ¬ zA zK0 s.heap.size b ∧ L ≤ 260 ∧ meth.sig.returnType = ret ∧ meth.locks = false
set_option maxHeartbeats 4000000 in
set_option maxRecDepth 100000 in
theorem lg_493 {p : Program} {l : Launch} (hl9 : l.stackTraces = false) {e : Env} {s : State} {m : MethodId} {below : List Frame} {meth : Method} {c : Code} {b L : Nat} {xs : Nat → Int32} (E : LE p s m c meth b L xs) {Γ : zG} {K : zK} {X : zX} {Rf : zR} {H : Heap} {locs : List Loc} {ls : Array Slot} {cw sw : Nat} {q0 : Nat} {ρ : zL} {M : zM} {np npl dg : Int} (hC : repC ρ K X Rf q0 M) (hM : okM M) (hv : M 40 16 = 2) (hdg : dg = dgM M) (hcs : cw ≤ 1600 ∧ sw ≤ 40000) (hw : Wd Γ (zA zK0 s.heap.size) K X Rf s H locs) (hl : lv_has ls 8 [(4, .long (lJ dg)), (3, .int (iI npl)), (2, .int (iI np)), (1, .ref q0), (0, .ref b)]) : W p l e room_1 s m #[Value.ref b] below meth c H locs cw sw (lw_Z below #[Value.ref b] s) (F0 m 493 ls []) := by
  have E0 := E
  obtain ⟨⟨hx, hb, hml, hown⟩, hG, hX, hXs, hbl, hbA, hL, hr, hlocks⟩ := E
  have hkq : K q0 = (1, 7) := hC.1.1
  have hcd1 : cdSerS M 0 1 = 0 := by unfold cdSerS; rw [if_pos (by omega)]
  have hcd2 : cdSerS M 1 0 = 0 := by unfold cdSerS; rw [if_pos (by omega)]
  have hcd3 : cdSer M 0 = 0 := by unfold cdSer; rw [if_pos (by omega)]
  have hcd4 : cdSer M 1 = 0 := by unfold cdSer; rw [if_pos (by omega)]
  obtain ⟨s0, w0, -⟩ := cp_dates hM (n := (0 : Int).toNat) (by omega)
  obtain ⟨s1, w1, -⟩ := cp_dates hM (n := (1 : Int).toNat) (by omega)
  have hsh := cp_sh s0 s1
  refine lv_aload_n (pc := 493) hx hb dL_law_493 rfl (lv_at hl 3 rfl) ?_
  refine ziconst (pc := 494) (n := 0) hx hb dL_law_494 ?_
  refine zxkIp (pc := 495) (zxrS (As := [.ref q0, .int (iI 0)]) hx hb hml hown hG hX hw (c_L_isSeriesSound l hl9 Γ K X Rf q0 0 (ρ) M (by (first | assumption | omega)) (by (first | assumption | omega)) (by (first | assumption | omega))) cb_L_isSeriesSound wl_L_73 rfl ⟨Nat.le_of_ble_eq_true rfl, Nat.le_of_ble_eq_true rfl⟩ hl.1 rfl (Nat.le_of_ble_eq_true rfl) dL_law_495 ⟨(by show cw + 32400 ≤ 600064; omega), (by show sw + 194000 ≤ 7301640; omega)⟩) hw (fun E9 ce9 q9 H9 locs9 hxp9 hw9 hce9 hcv9 hcl9 => (by exfalso; first | exact hxp9 | omega | (rcases hxp9 with ⟨-, hq9⟩ | ⟨-, hq9⟩ | ⟨-, hq9⟩ <;> omega) | (rcases hxp9 with ⟨-, hq9⟩ | ⟨-, hq9⟩ <;> omega))) (fun r495 H locs hp495 hw => ?_)
  refine zif_eq (pc := 498) hx hb 560 (by omega) dL_law_498 (by decide) (fun c498 => ?_) (fun c498 => ?_)
  · skip
    exfalso; omega
  · skip
    refine lv_aload_n (pc := 501) hx hb dL_law_501 rfl (lv_at hl 3 rfl) ?_
    refine ziconst (pc := 502) (n := 1) hx hb dL_law_502 ?_
    refine zxkIp (pc := 503) (zxrS (As := [.ref q0, .int (iI 1)]) hx hb hml hown hG hX hw (c_L_isSeriesSound l hl9 Γ K X Rf q0 1 (ρ) M (by (first | assumption | omega)) (by (first | assumption | omega)) (by (first | assumption | omega))) cb_L_isSeriesSound wl_L_73 rfl ⟨Nat.le_of_ble_eq_true rfl, Nat.le_of_ble_eq_true rfl⟩ hl.1 rfl (Nat.le_of_ble_eq_true rfl) dL_law_503 ⟨(by show cw + 32400 + 32400 ≤ 600064; omega), (by show sw + 194000 + 194000 ≤ 7301640; omega)⟩) hw (fun E9 ce9 q9 H9 locs9 hxp9 hw9 hce9 hcv9 hcl9 => (by exfalso; first | exact hxp9 | omega | (rcases hxp9 with ⟨-, hq9⟩ | ⟨-, hq9⟩ | ⟨-, hq9⟩ <;> omega) | (rcases hxp9 with ⟨-, hq9⟩ | ⟨-, hq9⟩ <;> omega))) (fun r503 H locs hp503 hw => ?_)
    refine zif_eq (pc := 506) hx hb 560 (by omega) dL_law_506 (by decide) (fun c506 => ?_) (fun c506 => ?_)
    · skip
      exfalso; omega
    · skip
      refine lv_aload_n (pc := 509) hx hb dL_law_509 rfl (lv_at hl 3 rfl) ?_
      refine ziconst (pc := 510) (n := 0) hx hb dL_law_510 ?_
      refine ziconst (pc := 511) (n := 1) hx hb dL_law_511 ?_
      refine zxkIp (pc := 512) (zxrV (As := [.int (iI 0), .int (iI 1)]) hx hb hml hown hG hX hw (c_X8_common l hl9 Γ K X Rf q0 0 1 (ρ) M (by (first | assumption | omega)) (by (first | assumption | omega)) (by (first | assumption | omega))) (T := TX8) hkq rfl cb_X8_common wl_L_77 rfl ⟨Nat.le_of_ble_eq_true rfl, Nat.le_of_ble_eq_true rfl⟩ hl.1 rfl (Nat.le_of_ble_eq_true rfl) dL_law_512 ⟨(by show cw + 32400 + 32400 + 2 ≤ 600064; omega), (by show sw + 194000 + 194000 + 12 ≤ 7301640; omega)⟩) hw (fun E9 ce9 q9 H9 locs9 hxp9 hw9 hce9 hcv9 hcl9 => (by exfalso; first | exact hxp9 | omega | (rcases hxp9 with ⟨-, hq9⟩ | ⟨-, hq9⟩ | ⟨-, hq9⟩ <;> omega) | (rcases hxp9 with ⟨-, hq9⟩ | ⟨-, hq9⟩ <;> omega))) (fun r512 H locs hp512 hw => ?_)
      have er512 := hp512.1
      have g512 := shD_rng (l := datM M (0 : Int).toNat) (o := datM M (1 : Int).toNat)
      rw [← er512] at g512
      refine lv_aload_n (pc := 515) hx hb dL_law_515 rfl (lv_at hl 3 rfl) ?_
      refine ziconst (pc := 516) (n := 1) hx hb dL_law_516 ?_
      refine ziconst (pc := 517) (n := 0) hx hb dL_law_517 ?_
      refine zxkIp (pc := 518) (zxrV (As := [.int (iI 1), .int (iI 0)]) hx hb hml hown hG hX hw (c_X8_common l hl9 Γ K X Rf q0 1 0 (ρ) M (by (first | assumption | omega)) (by (first | assumption | omega)) (by (first | assumption | omega))) (T := TX8) hkq rfl cb_X8_common wl_L_77 rfl ⟨Nat.le_of_ble_eq_true rfl, Nat.le_of_ble_eq_true rfl⟩ hl.1 rfl (Nat.le_of_ble_eq_true rfl) dL_law_518 ⟨(by show cw + 32400 + 32400 + 2 + 2 ≤ 600064; omega), (by show sw + 194000 + 194000 + 12 + 12 ≤ 7301640; omega)⟩) hw (fun E9 ce9 q9 H9 locs9 hxp9 hw9 hce9 hcv9 hcl9 => (by exfalso; first | exact hxp9 | omega | (rcases hxp9 with ⟨-, hq9⟩ | ⟨-, hq9⟩ | ⟨-, hq9⟩ <;> omega) | (rcases hxp9 with ⟨-, hq9⟩ | ⟨-, hq9⟩ <;> omega))) (fun r518 H locs hp518 hw => ?_)
      have er518 := hp518.1
      have g518 := shD_rng (l := datM M (1 : Int).toNat) (o := datM M (0 : Int).toNat)
      rw [← er518] at g518
      have e521 : r512 = r518 := er512.trans (hsh.1.trans er518.symm)
      refine zicmp_ne (pc := 521) hx hb 560 (by omega) (by omega) dL_law_521 (by decide) (fun c521 => ?_) (fun c521 => ?_)
      · skip
        exfalso; omega
      · skip
        refine lv_aload_n (pc := 524) hx hb dL_law_524 rfl (lv_at hl 3 rfl) ?_
        refine ziconst (pc := 525) (n := 0) hx hb dL_law_525 ?_
        refine ziconst (pc := 526) (n := 1) hx hb dL_law_526 ?_
        refine zxkIp (pc := 527) (zxrV (As := [.int (iI 0), .int (iI 1)]) hx hb hml hown hG hX hw (c_X8_common l hl9 Γ K X Rf q0 0 1 (ρ) M (by (first | assumption | omega)) (by (first | assumption | omega)) (by (first | assumption | omega))) (T := TX8) hkq rfl cb_X8_common wl_L_77 rfl ⟨Nat.le_of_ble_eq_true rfl, Nat.le_of_ble_eq_true rfl⟩ hl.1 rfl (Nat.le_of_ble_eq_true rfl) dL_law_527 ⟨(by show cw + 32400 + 32400 + 2 + 2 + 2 ≤ 600064; omega), (by show sw + 194000 + 194000 + 12 + 12 + 12 ≤ 7301640; omega)⟩) hw (fun E9 ce9 q9 H9 locs9 hxp9 hw9 hce9 hcv9 hcl9 => (by exfalso; first | exact hxp9 | omega | (rcases hxp9 with ⟨-, hq9⟩ | ⟨-, hq9⟩ | ⟨-, hq9⟩ <;> omega) | (rcases hxp9 with ⟨-, hq9⟩ | ⟨-, hq9⟩ <;> omega))) (fun r527 H locs hp527 hw => ?_)
        have er527 := hp527.1
        have g527 := shD_rng (l := datM M (0 : Int).toNat) (o := datM M (1 : Int).toNat)
        rw [← er527] at g527
        refine lv_aload_n (pc := 530) hx hb dL_law_530 rfl (lv_at hl 3 rfl) ?_
        refine ziconst (pc := 531) (n := 0) hx hb dL_law_531 ?_
        refine zxkIp (pc := 532) (zxrV (As := [.int (iI 0)]) hx hb hml hown hG hX hw (c_X8_dates l hl9 Γ K X Rf q0 0 (ρ) M (by (first | assumption | omega)) (by (first | assumption | omega)) (by (first | assumption | omega))) (T := TX8) hkq rfl cb_X8_dates wl_L_80 rfl ⟨Nat.le_of_ble_eq_true rfl, Nat.le_of_ble_eq_true rfl⟩ hl.1 rfl (Nat.le_of_ble_eq_true rfl) dL_law_532 ⟨(by show cw + 32400 + 32400 + 2 + 2 + 2 + 1 ≤ 600064; omega), (by show sw + 194000 + 194000 + 12 + 12 + 12 + 6 ≤ 7301640; omega)⟩) hw (fun E9 ce9 q9 H9 locs9 hxp9 hw9 hce9 hcv9 hcl9 => (by exfalso; first | exact hxp9 | omega | (rcases hxp9 with ⟨-, hq9⟩ | ⟨-, hq9⟩ | ⟨-, hq9⟩ <;> omega) | (rcases hxp9 with ⟨-, hq9⟩ | ⟨-, hq9⟩ <;> omega))) (fun r532 H locs hp532 hw => ?_)
        have er532 := hp532.1
        refine lv_aload_n (pc := 535) hx hb dL_law_535 rfl (lv_at hl 3 rfl) ?_
        refine ziconst (pc := 536) (n := 1) hx hb dL_law_536 ?_
        refine zxkIp (pc := 537) (zxrV (As := [.int (iI 1)]) hx hb hml hown hG hX hw (c_X8_dates l hl9 Γ K X Rf q0 1 (ρ) M (by (first | assumption | omega)) (by (first | assumption | omega)) (by (first | assumption | omega))) (T := TX8) hkq rfl cb_X8_dates wl_L_80 rfl ⟨Nat.le_of_ble_eq_true rfl, Nat.le_of_ble_eq_true rfl⟩ hl.1 rfl (Nat.le_of_ble_eq_true rfl) dL_law_537 ⟨(by show cw + 32400 + 32400 + 2 + 2 + 2 + 1 + 1 ≤ 600064; omega), (by show sw + 194000 + 194000 + 12 + 12 + 12 + 6 + 6 ≤ 7301640; omega)⟩) hw (fun E9 ce9 q9 H9 locs9 hxp9 hw9 hce9 hcv9 hcl9 => (by exfalso; first | exact hxp9 | omega | (rcases hxp9 with ⟨-, hq9⟩ | ⟨-, hq9⟩ | ⟨-, hq9⟩ <;> omega) | (rcases hxp9 with ⟨-, hq9⟩ | ⟨-, hq9⟩ <;> omega))) (fun r537 H locs hp537 hw => ?_)
        have er537 := hp537.1
        have e540 : r527 ≤ min r532 r537 := by rw [er527, er532, er537]; exact hsh.2
        refine zmin (pc := 540) hx hb (hml.trans hl.1.symm) hown hG wl_L_34 w1_zmn wi_javalangMath w2_zmn (Nat.le_of_ble_eq_true rfl) (Nat.le_of_ble_eq_true rfl) (by show cw + 32400 + 32400 + 2 + 2 + 2 + 1 + 1 ≤ 600064; omega) (by show sw + 194000 + 194000 + 12 + 12 + 12 + 6 + 6 ≤ 7301640; omega) ⟨by omega, by omega⟩ dL_law_540 ?_
        refine zicmp_gt (pc := 543) hx hb 560 (by omega) (by omega) dL_law_543 (by decide) (fun c543 => ?_) (fun c543 => ?_)
        · skip
          exfalso; omega
        · skip
          refine lv_aload_n (pc := 546) hx hb dL_law_546 rfl (lv_at hl 3 rfl) ?_
          refine zkL (pc := 547) (zrV (As := []) hx hb hml hown hG hw (c_X8_digest l Γ K X Rf q0 (ρ) M (by (first | assumption | omega)) (by (first | assumption | omega))) (T := TX8) hkq rfl cb_X8_digest wl_L_61 rfl ⟨Nat.le_of_ble_eq_true rfl, Nat.le_of_ble_eq_true rfl⟩ hl.1 rfl (Nat.le_of_ble_eq_true rfl) dL_law_547 ⟨(by show cw + 32400 + 32400 + 2 + 2 + 2 + 1 + 1 + 0 ≤ 600064; omega), (by show sw + 194000 + 194000 + 12 + 12 + 12 + 6 + 6 + 0 ≤ 7301640; omega)⟩) hw (fun r547 K547 X547 R547 H locs hp547 hw => ?_)
          obtain ⟨er547, ρ547, hC547, -⟩ := hp547
          have hk547 : K547 q0 = (1, 7) := hC547.1.1
          refine lv_lload (pc := 550) hx hb dL_law_550 (lv_at hl 0 rfl) ?_
          refine zlcmpE (pc := 552) hx hb (er547.trans hdg.symm) dL_law_552 ?_
          refine zif_ne (pc := 553) hx hb 560 (by omega) dL_law_553 (by decide) (fun c553 => ?_) (fun c553 => ?_)
          · skip
            exact absurd rfl c553
          · skip
            refine ziconst (pc := 556) (n := 1) hx hb dL_law_556 ?_
            refine lv_goto (pc := 557) (tgt := 561) hx hb dL_law_557 (by decide) ?_
            exact va_forget (fun q hq => by rcases hw.2.2.1.2.2 q hq with h9 | h9; exact absurd rfl h9; exact h9) (W.widen (k := 600064) (n := 7301640) (by omega) (by omega) (W.base (lw_ret (Drawn.sameBut.refl s.drawn lw_cs) hx hb hr hlocks dL_law_561)))
set_option maxHeartbeats 4000000 in
set_option maxRecDepth 100000 in
theorem lg_417 {p : Program} {l : Launch} (hl9 : l.stackTraces = false) {e : Env} {s : State} {m : MethodId} {below : List Frame} {meth : Method} {c : Code} {b L : Nat} {xs : Nat → Int32} (E : LE p s m c meth b L xs) {Γ : zG} {K : zK} {X : zX} {Rf : zR} {H : Heap} {locs : List Loc} {ls : Array Slot} {cw sw : Nat} {q0 : Nat} {ρ : zL} {M : zM} {np npl dg : Int} (hC : repC ρ K X Rf q0 M) (hM : okM M) (hnp : (1 ≤ np ∧ np ≤ 5) ∧ 1 ≤ npl ∧ npl ≤ 3) (hv : M 40 1 = np ∧ M 40 5 = npl ∧ M 40 16 = 2) (hdg : dg = dgM M) (hcs : cw ≤ 500 ∧ sw ≤ 30000) (hw : Wd Γ (zA zK0 s.heap.size) K X Rf s H locs) (hl : lv_has ls 8 [(4, .long (lJ dg)), (3, .int (iI npl)), (2, .int (iI np)), (1, .ref q0), (0, .ref b)]) : W p l e room_1 s m #[Value.ref b] below meth c H locs cw sw (lw_Z below #[Value.ref b] s) (F0 m 417 ls []) := by
  have E0 := E
  obtain ⟨⟨hx, hb, hml, hown⟩, hG, hX, hXs, hbl, hbA, hL, hr, hlocks⟩ := E
  have hkq : K q0 = (1, 7) := hC.1.1
  refine ziconst (pc := 417) (n := 0) hx hb dL_law_417 ?_
  refine lv_istore (pc := 418) (lv' := [(6, .int (iI 0)), (4, .long (lJ dg)), (3, .int (iI npl)), (2, .int (iI np)), (1, .ref q0), (0, .ref b)]) hx hb dL_law_418 hl (by decide) rfl (fun ls hl => ?_)
  have lp420 : ∀ (n420 : Nat) (tm : Int) (ρ6 : zL) (cw6 : Nat) (sw6 : Nat) (KL420 : zK) (XL420 : zX) (RL420 : zR) (H : Heap) (locs : List Loc), (htm : 0 ≤ tm ∧ tm ≤ 10) → (hC6 : repC ρ6 KL420 XL420 RL420 q0 M) → (hcs6 : cw6 ≤ 500 + 100 * tm.toNat ∧ sw6 ≤ 30000 + 600 * tm.toNat) → ((10 - tm).toNat < n420) → Wd Γ (zA zK0 s.heap.size) KL420 XL420 RL420 s H locs → ∀ ls : Array Slot, lv_has ls 8 [(6, .int (iI tm)), (4, .long (lJ dg)), (3, .int (iI npl)), (2, .int (iI np)), (1, .ref q0), (0, .ref b)] → W p l e room_1 s m #[Value.ref b] below meth c H locs cw6 sw6 (lw_Z below #[Value.ref b] s) (F0 m 420 ls []) := by
    intro n420
    induction n420 with
    | zero => intro tm ρ6 cw6 sw6 KL420 XL420 RL420 H locs htm hC6 hcs6 hm420; exact absurd hm420 (Nat.not_lt_zero _)
    | succ n420 ih420 =>
      intro tm ρ6 cw6 sw6 KL420 XL420 RL420 H locs htm hC6 hcs6 hm420 hw ls hl
      have hk420q : KL420 q0 = (1, 7) := hC6.1.1
      refine lv_iload (pc := 420) hx hb dL_law_420 (lv_at hl 0 rfl) ?_
      refine zbipush (pc := 422) (n := 10) hx hb dL_law_422 rfl ?_
      refine zicmp_ge (pc := 424) hx hb 493 (by omega) (by omega) dL_law_424 (by decide) (fun c424 => ?_) (fun c424 => ?_)
      · skip
        exact lg_493 hl9 E0 hC6 hM hv.2.2 hdg ⟨by omega, by omega⟩ hw (lv_sub hl [1, 2, 3, 4, 5] rfl)
      · skip
        refine lv_aload_n (pc := 427) hx hb dL_law_427 rfl (lv_at hl 5 rfl) ?_
        refine zbipush (pc := 428) (n := 22) hx hb dL_law_428 rfl ?_
        refine lv_iload (pc := 430) hx hb dL_law_430 (lv_at hl 0 rfl) ?_
        refine zadd (pc := 432) hx hb dL_law_432 ?_
        refine zkIp (pc := 433) (zrSs (As := [.ref b, .int (iI (22 + tm))]) hx hb hml hown hG hXs hbl hbA hw (c_L_cell l Γ KL420 XL420 RL420 b (22 + tm) L xs hL (zKb hw hbA) (by (first | assumption | omega))) cb_L_cell wl_L_22 rfl ⟨Nat.le_of_ble_eq_true rfl, Nat.le_of_ble_eq_true rfl⟩ hl.1 rfl (Nat.le_of_ble_eq_true rfl) dL_law_433 ⟨(by show cw6 + 0 ≤ 600064; omega), (by show sw6 + 0 ≤ 7301640; omega)⟩) hw (fun r433 H locs hp433 hw => ?_)
        refine lv_istore (pc := 436) (lv' := [(7, .int (iI r433)), (6, .int (iI tm)), (4, .long (lJ dg)), (3, .int (iI npl)), (2, .int (iI np)), (1, .ref q0), (0, .ref b)]) hx hb dL_law_436 hl (by decide) rfl (fun ls hl => ?_)
        refine lv_aload_n (pc := 438) hx hb dL_law_438 rfl (lv_at hl 5 rfl) ?_
        refine lv_iload (pc := 439) hx hb dL_law_439 (lv_at hl 0 rfl) ?_
        refine lv_iload_n (pc := 441) hx hb dL_law_441 rfl (lv_at hl 3 rfl) ?_
        refine zkIp (pc := 442) (zrS (As := [.int (iI r433), .int (iI npl)]) hx hb hml hown hG hw (c_L_below l Γ KL420 XL420 RL420 r433 npl (by (first | assumption | omega)) (by (first | assumption | omega))) cb_L_below wl_L_9 rfl ⟨Nat.le_of_ble_eq_true rfl, Nat.le_of_ble_eq_true rfl⟩ hl.1 rfl (Nat.le_of_ble_eq_true rfl) dL_law_442 ⟨(by show cw6 + 0 ≤ 600064; omega), (by show sw6 + 0 ≤ 7301640; omega)⟩) hw (fun r442 H locs hp442 hw => ?_)
        refine lv_iload (pc := 445) hx hb dL_law_445 (lv_at hl 0 rfl) ?_
        refine ziconst (pc := 447) (n := 2) hx hb dL_law_447 ?_
        refine zshA (pc := 448) hx hb dL_law_448 (fun x448 fx448 => ?_)
        refine zldc (pc := 449) (n := 105190560) hx hb hown hG wk_L_43 dL_law_449 ?_
        refine zkIp (pc := 451) (zrS (As := [.int (iI x448), .int (iI 105190560)]) hx hb hml hown hG hw (c_L_below l Γ KL420 XL420 RL420 x448 105190560 (by (first | assumption | omega)) (by (first | assumption | omega))) cb_L_below wl_L_9 rfl ⟨Nat.le_of_ble_eq_true rfl, Nat.le_of_ble_eq_true rfl⟩ hl.1 rfl (Nat.le_of_ble_eq_true rfl) dL_law_451 ⟨(by show cw6 + 0 ≤ 600064; omega), (by show sw6 + 0 ≤ 7301640; omega)⟩) hw (fun r451 H locs hp451 hw => ?_)
        refine zxkIp (pc := 454) (zxrS (As := [.ref q0, .int (iI r442), .int (iI r451)]) hx hb hml hown hG hX hw (c_L_areClocksSound l hl9 Γ KL420 XL420 RL420 q0 r442 r451 (ρ6) M (by (first | assumption | omega)) (by (first | assumption | omega)) (by (first | assumption | omega))) cb_L_areClocksSound wl_L_65 rfl ⟨Nat.le_of_ble_eq_true rfl, Nat.le_of_ble_eq_true rfl⟩ hl.1 rfl (Nat.le_of_ble_eq_true rfl) dL_law_454 ⟨(by show cw6 + 40 ≤ 600064; omega), (by show sw6 + 240 ≤ 7301640; omega)⟩) hw (fun E9 ce9 q9 H9 locs9 hxp9 hw9 hce9 hcv9 hcl9 => (by exfalso; first | exact hxp9 | omega | (rcases hxp9 with ⟨-, hq9⟩ | ⟨-, hq9⟩ | ⟨-, hq9⟩ <;> omega) | (rcases hxp9 with ⟨-, hq9⟩ | ⟨-, hq9⟩ <;> omega))) (fun r454 H locs hp454 hw => ?_)
        refine zif_eq (pc := 457) hx hb 485 (by omega) dL_law_457 (by decide) (fun c457 => ?_) (fun c457 => ?_)
        · skip
          exfalso; omega
        · skip
          refine lv_aload_n (pc := 460) hx hb dL_law_460 rfl (lv_at hl 5 rfl) ?_
          refine lv_iload (pc := 461) hx hb dL_law_461 (lv_at hl 0 rfl) ?_
          refine ziconst (pc := 463) (n := 4) hx hb dL_law_463 ?_
          refine zshA (pc := 464) hx hb dL_law_464 (fun x464 fx464 => ?_)
          refine lv_iload_n (pc := 465) hx hb dL_law_465 rfl (lv_at hl 4 rfl) ?_
          refine zkIp (pc := 466) (zrS (As := [.int (iI x464), .int (iI np)]) hx hb hml hown hG hw (c_L_below l Γ KL420 XL420 RL420 x464 np (by (first | assumption | omega)) (by (first | assumption | omega))) cb_L_below wl_L_9 rfl ⟨Nat.le_of_ble_eq_true rfl, Nat.le_of_ble_eq_true rfl⟩ hl.1 rfl (Nat.le_of_ble_eq_true rfl) dL_law_466 ⟨(by show cw6 + 40 + 0 ≤ 600064; omega), (by show sw6 + 240 + 0 ≤ 7301640; omega)⟩) hw (fun r466 H locs hp466 hw => ?_)
          refine lv_iload (pc := 469) hx hb dL_law_469 (lv_at hl 0 rfl) ?_
          refine zbipush (pc := 471) (n := 6) hx hb dL_law_471 rfl ?_
          refine zshA (pc := 473) hx hb dL_law_473 (fun x473 fx473 => ?_)
          refine zldc (pc := 474) (n := 73049) hx hb hown hG wk_L_69 dL_law_474 ?_
          refine zkIp (pc := 476) (zrS (As := [.int (iI x473), .int (iI 73049)]) hx hb hml hown hG hw (c_L_below l Γ KL420 XL420 RL420 x473 73049 (by (first | assumption | omega)) (by (first | assumption | omega))) cb_L_below wl_L_9 rfl ⟨Nat.le_of_ble_eq_true rfl, Nat.le_of_ble_eq_true rfl⟩ hl.1 rfl (Nat.le_of_ble_eq_true rfl) dL_law_476 ⟨(by show cw6 + 40 + 0 ≤ 600064; omega), (by show sw6 + 240 + 0 ≤ 7301640; omega)⟩) hw (fun r476 H locs hp476 hw => ?_)
          refine zxkI (pc := 479) (zxrS (As := [.ref q0, .int (iI r466), .int (iI r476)]) hx hb hml hown hG hX hw (c_L_areDaysSound l hl9 Γ KL420 XL420 RL420 q0 r466 r476 (ρ6) M (by (first | assumption | omega)) (by (first | assumption | omega)) (by (first | assumption | omega))) cb_L_areDaysSound wl_L_70 rfl ⟨Nat.le_of_ble_eq_true rfl, Nat.le_of_ble_eq_true rfl⟩ hl.1 rfl (Nat.le_of_ble_eq_true rfl) dL_law_479 ⟨(by show cw6 + 40 + 50 ≤ 600064; omega), (by show sw6 + 240 + 300 ≤ 7301640; omega)⟩) hw (fun E9 ce9 q9 H9 locs9 hxp9 hw9 hce9 hcv9 hcl9 => (by exfalso; first | exact hxp9 | omega | (rcases hxp9 with ⟨-, hq9⟩ | ⟨-, hq9⟩ | ⟨-, hq9⟩ <;> omega) | (rcases hxp9 with ⟨-, hq9⟩ | ⟨-, hq9⟩ <;> omega))) (fun r479 K479 X479 R479 H locs hp479 hw => ?_)
          obtain ⟨er479, ρ479, hC479⟩ := hp479
          have hk479 : K479 q0 = (1, 7) := hC479.1.1
          refine zif_ne (pc := 482) hx hb 487 (by omega) dL_law_482 (by decide) (fun c482 => ?_) (fun c482 => ?_)
          · skip
            refine ziinc (pc := 487) (lv' := [(6, .int (iI (tm + 1))), (7, .int (iI r433)), (4, .long (lJ dg)), (3, .int (iI npl)), (2, .int (iI np)), (1, .ref q0), (0, .ref b)]) hx hb 1 dL_law_487 hl rfl (by decide) rfl (fun ls hl => ?_)
            obtain ⟨x487, ex487⟩ : ∃ zz : Int, zz = (tm + 1) := ⟨_, rfl⟩
            rw [← ex487] at hl
            refine lv_goto (pc := 490) (tgt := 420) hx hb dL_law_490 (by decide) ?_
            exact ih420 x487 (ρ479) (cw6 + 40 + 50) (sw6 + 240 + 300) K479 X479 R479 _ _ (by (first | assumption | omega)) (by (first | assumption | omega)) (by (first | assumption | omega)) (by omega) hw _ (lv_sub hl [0, 2, 3, 4, 5, 6] rfl)
          · skip
            exfalso; omega
  exact lp420 _ 0 (ρ) cw sw K X Rf _ _ (by (first | assumption | omega)) (by (first | assumption | omega)) (by (first | assumption | omega)) (Nat.lt_succ_self _) hw _ (lv_sub hl [0, 1, 2, 3, 4, 5] rfl)
set_option maxHeartbeats 4000000 in
set_option maxRecDepth 100000 in
theorem lg_393 {p : Program} {l : Launch} (hl9 : l.stackTraces = false) {e : Env} {s : State} {m : MethodId} {below : List Frame} {meth : Method} {c : Code} {b L : Nat} {xs : Nat → Int32} (E : LE p s m c meth b L xs) {Γ : zG} {K : zK} {X : zX} {Rf : zR} {H : Heap} {locs : List Loc} {ls : Array Slot} {cw sw : Nat} {q0 : Nat} {ρ : zL} {M : zM} {np npl : Int} (hC : repC ρ K X Rf q0 M) (hM : okM M) (hnp : (1 ≤ np ∧ np ≤ 5) ∧ 1 ≤ npl ∧ npl ≤ 3) (hv : M 40 1 = np ∧ M 40 5 = npl ∧ M 40 16 = 2 ∧ M 40 29 = 3) (hcs : cw ≤ 480 ∧ sw ≤ 29000) (hw : Wd Γ (zA zK0 s.heap.size) K X Rf s H locs) (hl : lv_has ls 8 [(3, .int (iI npl)), (2, .int (iI np)), (1, .ref q0), (0, .ref b)]) : W p l e room_1 s m #[Value.ref b] below meth c H locs cw sw (lw_Z below #[Value.ref b] s) (F0 m 393 ls []) := by
  have E0 := E
  obtain ⟨⟨hx, hb, hml, hown⟩, hG, hX, hXs, hbl, hbA, hL, hr, hlocks⟩ := E
  have hkq : K q0 = (1, 7) := hC.1.1
  refine lv_aload_n (pc := 393) hx hb dL_law_393 rfl (lv_at hl 2 rfl) ?_
  refine ziconst (pc := 394) (n := 1) hx hb dL_law_394 ?_
  refine lv_aload_n (pc := 395) hx hb dL_law_395 rfl (lv_at hl 3 rfl) ?_
  refine zbipush (pc := 396) (n := 21) hx hb dL_law_396 rfl ?_
  refine zkIp (pc := 398) (zrSs (As := [.ref b, .int (iI 21)]) hx hb hml hown hG hXs hbl hbA hw (c_L_cell l Γ K X Rf b 21 L xs hL (zKb hw hbA) (by (first | assumption | omega))) cb_L_cell wl_L_22 rfl ⟨Nat.le_of_ble_eq_true rfl, Nat.le_of_ble_eq_true rfl⟩ hl.1 rfl (Nat.le_of_ble_eq_true rfl) dL_law_398 ⟨(by show cw + 0 ≤ 600064; omega), (by show sw + 0 ≤ 7301640; omega)⟩) hw (fun r398 H locs hp398 hw => ?_)
  refine zbipush (pc := 401) (n := 127) hx hb dL_law_401 rfl ?_
  refine zkIp (pc := 403) (zrS (As := [.int (iI r398), .int (iI 127)]) hx hb hml hown hG hw (c_L_below l Γ K X Rf r398 127 (by (first | assumption | omega)) (by (first | assumption | omega))) cb_L_below wl_L_9 rfl ⟨Nat.le_of_ble_eq_true rfl, Nat.le_of_ble_eq_true rfl⟩ hl.1 rfl (Nat.le_of_ble_eq_true rfl) dL_law_403 ⟨(by show cw + 0 ≤ 600064; omega), (by show sw + 0 ≤ 7301640; omega)⟩) hw (fun r403 H locs hp403 hw => ?_)
  refine zadd (pc := 406) hx hb dL_law_406 ?_
  have hcd407 : cdWk (1 + r403) = 0 := by unfold cdWk; rw [if_pos (by omega)]
  refine zxkI (pc := 407) (zxrV (As := [.int (iI (1 + r403))]) hx hb hml hown hG hX hw (c_X8_setWeek l hl9 Γ K X Rf q0 (1 + r403) (ρ) M (by (first | assumption | omega)) (by (first | assumption | omega)) (by (first | assumption | omega))) (T := TX8) hkq rfl cb_X8_setWeek wl_L_58 rfl ⟨Nat.le_of_ble_eq_true rfl, Nat.le_of_ble_eq_true rfl⟩ hl.1 rfl (Nat.le_of_ble_eq_true rfl) dL_law_407 ⟨(by show cw + 1 ≤ 600064; omega), (by show sw + 6 ≤ 7301640; omega)⟩) hw (fun E9 ce9 q9 H9 locs9 hxp9 hw9 hce9 hcv9 hcl9 => (by exfalso; first | exact hxp9 | omega | (rcases hxp9 with ⟨-, hq9⟩ | ⟨-, hq9⟩ | ⟨-, hq9⟩ <;> omega) | (rcases hxp9 with ⟨-, hq9⟩ | ⟨-, hq9⟩ <;> omega))) (fun r407 K407 X407 R407 H locs hp407 hw => ?_)
  obtain ⟨⟨er407, -⟩, ρ407, hC407, -⟩ := hp407
  have hk407 : K407 q0 = (1, 7) := hC407.1.1
  obtain ⟨M407, eM407⟩ : ∃ Z : zM, Z = upM M 26 (1 + r403) := ⟨_, rfl⟩
  rw [← eM407] at hC407
  have hM407 : okM M407 := by rw [eM407]; exact okM_wk hM hcd407
  obtain hv407 := wk_v eM407
  refine lv_pop (pc := 410) hx hb dL_law_410 rfl ?_
  refine lv_aload_n (pc := 411) hx hb dL_law_411 rfl (lv_at hl 2 rfl) ?_
  refine zkL (pc := 412) (zrV (As := []) hx hb hml hown hG hw (c_X8_digest l Γ K407 X407 R407 q0 (ρ407) M407 (by (first | assumption | omega)) (by (first | assumption | omega))) (T := TX8) hk407 rfl cb_X8_digest wl_L_61 rfl ⟨Nat.le_of_ble_eq_true rfl, Nat.le_of_ble_eq_true rfl⟩ hl.1 rfl (Nat.le_of_ble_eq_true rfl) dL_law_412 ⟨(by show cw + 1 + 0 ≤ 600064; omega), (by show sw + 6 + 0 ≤ 7301640; omega)⟩) hw (fun r412 K412 X412 R412 H locs hp412 hw => ?_)
  obtain ⟨er412, ρ412, hC412, -⟩ := hp412
  have hk412 : K412 q0 = (1, 7) := hC412.1.1
  refine lv_lstore (pc := 415) (lv' := [(4, .long (lJ r412)), (3, .int (iI npl)), (2, .int (iI np)), (1, .ref q0), (0, .ref b)]) hx hb dL_law_415 hl (by decide) rfl (fun ls hl => ?_)
  exact lg_417 hl9 E0 hC412 hM407 hnp ⟨by omega, by omega, by omega⟩ er412 ⟨by omega, by omega⟩ hw (lv_sub hl [0, 1, 2, 3, 4] rfl)
