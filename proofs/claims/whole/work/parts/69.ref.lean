set_option maxHeartbeats 4000000 in
set_option maxRecDepth 100000 in
theorem c_X9_of (l : Launch) (Γ : zG) (K : zK) (X : zX) (Rf : zR) (md : Nat) (n : Int) (q : Int) (a17 : Nat) (hmd : K md = (1, 8)) (hB17 : Rf md 17 = some a17) (hA17 : K a17 = (2, 66)) (h1 : (0 ≤ n ∧ n < 6) ∧ 0 ≤ q ∧ q < 11) : Ct l yX9_of cX9_of 3 (some .int) 0 0 0 Γ [.ref md, .int (iI n), .int (iI q)] K X Rf (pI (zp0 K X Rf (fun r : Int => r = X a17 (11 * n + q).toNat))) := by
  refine Ct.of (by decide +kernel) (Nat.le_of_ble_eq_true rfl) ?_
  intro p e s m below meth c ls hx hb hr hml hown hG hlocks hname hw hl
  have hl : lv_has ls 3 [(0, .ref md), (1, .int (iI n)), (2, .int (iI q))] := hl
  refine lv_aload_n (pc := 0) hx hb dX9_of_0 rfl (lv_at hl 0 rfl) ?_
  refine zgetR (pc := 1) hx hb hG hown hw hmd (T := TX9) rfl 17 (by decide) rfl wf_X9_39 rfl hB17 dX9_of_1 ?_
  refine zbipush (pc := 4) (n := 11) hx hb dX9_of_4 rfl ?_
  refine lv_iload_n (pc := 6) hx hb dX9_of_6 rfl (lv_at hl 1 rfl) ?_
  refine zmul (pc := 7) hx hb dX9_of_7 ?_
  refine lv_iload_n (pc := 8) hx hb dX9_of_8 rfl (lv_at hl 2 rfl) ?_
  refine zadd (pc := 9) hx hb dX9_of_9 ?_
  refine zald (pc := 10) hx hb hw hA17 ⟨by omega, by omega⟩ (by omega) dX9_of_10 ?_
  exact zretI (pc := 11) hx hb hlocks hr hw (Nat.zero_le _) (Nat.zero_le _) dX9_of_11 ⟨by (try dsimp only) <;> ((first | assumption | omega)), rfl, rfl, rfl⟩
set_option maxHeartbeats 4000000 in
set_option maxRecDepth 100000 in
theorem c_X9_isOut (l : Launch) (Γ : zG) (K : zK) (X : zX) (Rf : zR) (md : Nat) (n : Int) (day : Int) (a17 : Nat) (a19 : Nat) (E : Nat → Int) (c : Nat) (hmd : K md = (1, 8)) (hB17 : Rf md 17 = some a17) (hB19 : Rf md 19 = some a19) (hA17 : K a17 = (2, 66)) (hA19 : K a19 = (2, 48)) (h1 : (0 ≤ n ∧ n < 6) ∧ fit day) (hc : X a17 (11 * n + 10).toNat = c ∧ c ≤ 8) (hE : ∀ k, k < 8 → X a19 (8 * n.toNat + k) = E k ∧ fit (E k)) : Ct l yX9_isOut cX9_isOut 5 (some .boolean) 1 0 0 Γ [.ref md, .int (iI n), .int (iI day)] K X Rf (pI (zp0 K X Rf (fun r : Int => r = exV E day c))) := by
  refine Ct.of (by decide +kernel) (Nat.le_of_ble_eq_true rfl) ?_
  intro p e s m below meth c ls hx hb hr hml hown hG hlocks hname hw hl
  have hl : lv_has ls 5 [(0, .ref md), (1, .int (iI n)), (2, .int (iI day))] := hl
  refine ziconst (pc := 0) (n := 0) hx hb dX9_isOut_0 ?_
  refine lv_istore_n (pc := 1) (lv' := [(3, .int (iI 0)), (0, .ref md), (1, .int (iI n)), (2, .int (iI day))]) hx hb dX9_isOut_1 rfl hl (by decide) rfl (fun ls hl => ?_)
  refine ziconst (pc := 2) (n := 0) hx hb dX9_isOut_2 ?_
  refine lv_istore (pc := 3) (lv' := [(4, .int (iI 0)), (3, .int (iI 0)), (0, .ref md), (1, .int (iI n)), (2, .int (iI day))]) hx hb dX9_isOut_3 hl (by decide) rfl (fun ls hl => ?_)
  have lp5 : ∀ (n5 : Nat) (kk : Int) (is : Int) (H : Heap) (locs : List Loc), (hi : 0 ≤ kk ∧ kk ≤ c) → (hs : is = exV E day kk.toNat) → (((c : Int) - kk).toNat < n5) → Wd Γ (zA K s.heap.size) K X Rf s H locs → ∀ ls : Array Slot, lv_has ls 5 [(4, .int (iI kk)), (3, .int (iI is)), (0, .ref md), (1, .int (iI n)), (2, .int (iI day))] → W p l e (rmL 1 0 0) s m ([.ref md, .int (iI n), .int (iI day)] : List Value).toArray below meth c H locs 0 0 (MQ below (zQ Γ K s.heap.size (pI (zp0 K X Rf (fun r : Int => r = exV E day c)))) ([.ref md, .int (iI n), .int (iI day)] : List Value).toArray s 0 0 (zA K s.heap.size)) (F0 m 5 ls []) := by
    intro n5
    induction n5 with
    | zero => intro kk is H locs hi hs hm5; exact absurd hm5 (Nat.not_lt_zero _)
    | succ n5 ih5 =>
      intro kk is H locs hi hs hm5 hw ls hl
      have hev := exV_rng E day kk.toNat
      refine lv_iload (pc := 5) hx hb dX9_isOut_5 (lv_at hl 0 rfl) ?_
      refine lv_aload_n (pc := 7) hx hb dX9_isOut_7 rfl (lv_at hl 2 rfl) ?_
      refine lv_iload_n (pc := 8) hx hb dX9_isOut_8 rfl (lv_at hl 3 rfl) ?_
      refine zbipush (pc := 9) (n := 10) hx hb dX9_isOut_9 rfl ?_
      refine zkIp (pc := 11) (zrV (As := [.int (iI n), .int (iI 10)]) hx hb hml hown hG hw (c_X9_of l Γ K X Rf md n 10 a17 (by (first | assumption | omega)) (by (first | assumption | omega)) (by (first | assumption | omega)) (by (first | assumption | omega))) (T := TX9) hmd rfl cb_X9_of wl_X9_234 rfl ⟨Nat.le_of_ble_eq_true rfl, Nat.le_of_ble_eq_true rfl⟩ hl.1 rfl (Nat.le_of_ble_eq_true rfl) dX9_isOut_11 ⟨Nat.zero_le _, Nat.zero_le _⟩) hw (fun r11 H locs hp11 hw => ?_)
      subst hp11
      refine zicmp_ge (pc := 14) hx hb 47 (by omega) (by omega) dX9_isOut_14 (by decide) (fun c14 => ?_) (fun c14 => ?_)
      · skip
        refine lv_iload_n (pc := 47) hx hb dX9_isOut_47 rfl (lv_at hl 1 rfl) ?_
        exact zretZ (pc := 48) hx hb hlocks hr (by omega) hw (Nat.zero_le _) (Nat.zero_le _) dX9_isOut_48 ⟨by (try dsimp only) <;> (rw [hs, show kk.toNat = c by omega]), rfl, rfl, rfl⟩
      · skip
        refine lv_iload_n (pc := 17) hx hb dX9_isOut_17 rfl (lv_at hl 1 rfl) ?_
        refine lv_aload_n (pc := 18) hx hb dX9_isOut_18 rfl (lv_at hl 2 rfl) ?_
        refine zgetR (pc := 19) hx hb hG hown hw hmd (T := TX9) rfl 19 (by decide) rfl wf_X9_45 rfl hB19 dX9_isOut_19 ?_
        refine zbipush (pc := 22) (n := 8) hx hb dX9_isOut_22 rfl ?_
        refine lv_iload_n (pc := 24) hx hb dX9_isOut_24 rfl (lv_at hl 3 rfl) ?_
        refine zmul (pc := 25) hx hb dX9_isOut_25 ?_
        refine lv_iload (pc := 26) hx hb dX9_isOut_26 (lv_at hl 0 rfl) ?_
        refine zadd (pc := 28) hx hb dX9_isOut_28 ?_
        refine zald (pc := 29) hx hb hw hA19 ⟨by omega, by omega⟩ (by omega) dX9_isOut_29 ?_
        refine lv_iload_n (pc := 30) hx hb dX9_isOut_30 rfl (lv_at hl 4 rfl) ?_
        have hEk := hE kk.toNat (by omega)
        have hix : (8 * n + kk).toNat = 8 * n.toNat + kk.toNat := by omega
        have hXk : X a19 (8 * n + kk).toNat = E kk.toNat := by rw [hix]; exact hEk.1
        refine zicmp_ne (pc := 31) hx hb 38 (by omega) (by omega) dX9_isOut_31 (by decide) (fun c31 => ?_) (fun c31 => ?_)
        · skip
          refine ziconst (pc := 38) (n := 0) hx hb dX9_isOut_38 ?_
          refine zor01 (pc := 39) hx hb (by omega) dX9_isOut_39 ?_
          refine ztop (fun x40 ex40 => ?_)
          refine lv_istore_n (pc := 40) (lv' := [(3, .int (iI x40)), (4, .int (iI kk)), (0, .ref md), (1, .int (iI n)), (2, .int (iI day))]) hx hb dX9_isOut_40 rfl hl (by decide) rfl (fun ls hl => ?_)
          refine ziinc (pc := 41) (lv' := [(4, .int (iI (kk + 1))), (3, .int (iI x40)), (0, .ref md), (1, .int (iI n)), (2, .int (iI day))]) hx hb 1 dX9_isOut_41 hl rfl (by decide) rfl (fun ls hl => ?_)
          obtain ⟨x41, ex41⟩ : ∃ zz : Int, zz = (kk + 1) := ⟨_, rfl⟩
          rw [← ex41] at hl
          refine lv_goto (pc := 44) (tgt := 5) hx hb dX9_isOut_44 (by decide) ?_
          exact ih5 x41 x40 _ _ (by (first | assumption | omega)) (by rw [ex40, ex41, show (kk + 1).toNat = kk.toNat + 1 by omega]; first | (rw [exV_y (by omega)]; omega) | (rw [exV_n (by omega), ← hs]; omega)) (by omega) hw _ (lv_sub hl [0, 1, 2, 3, 4] rfl)
        · skip
          refine ziconst (pc := 34) (n := 1) hx hb dX9_isOut_34 ?_
          refine lv_goto (pc := 35) (tgt := 39) hx hb dX9_isOut_35 (by decide) ?_
          refine zor01 (pc := 39) hx hb (by omega) dX9_isOut_39 ?_
          refine ztop (fun x40 ex40 => ?_)
          refine lv_istore_n (pc := 40) (lv' := [(3, .int (iI x40)), (4, .int (iI kk)), (0, .ref md), (1, .int (iI n)), (2, .int (iI day))]) hx hb dX9_isOut_40 rfl hl (by decide) rfl (fun ls hl => ?_)
          refine ziinc (pc := 41) (lv' := [(4, .int (iI (kk + 1))), (3, .int (iI x40)), (0, .ref md), (1, .int (iI n)), (2, .int (iI day))]) hx hb 1 dX9_isOut_41 hl rfl (by decide) rfl (fun ls hl => ?_)
          obtain ⟨x41, ex41⟩ : ∃ zz : Int, zz = (kk + 1) := ⟨_, rfl⟩
          rw [← ex41] at hl
          refine lv_goto (pc := 44) (tgt := 5) hx hb dX9_isOut_44 (by decide) ?_
          exact ih5 x41 x40 _ _ (by (first | assumption | omega)) (by rw [ex40, ex41, show (kk + 1).toNat = kk.toNat + 1 by omega]; first | (rw [exV_y (by omega)]; omega) | (rw [exV_n (by omega), ← hs]; omega)) (by omega) hw _ (lv_sub hl [0, 1, 2, 3, 4] rfl)
  exact lp5 _ 0 0 _ _ (by (first | assumption | omega)) (by rfl) (Nat.lt_succ_self _) hw _ (lv_sub hl [0, 1, 2, 3, 4] rfl)
