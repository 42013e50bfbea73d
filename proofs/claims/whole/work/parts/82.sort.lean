set_option maxHeartbeats 4000000 in
set_option maxRecDepth 100000 in
theorem c_J7_rangeCheck_23922 (l : Launch) (Γ : zG) (K : zK) (X : zX) (Rf : zR) (len : Int) (fr : Int) (to : Int)  (h1 : (0 ≤ fr ∧ fr ≤ to) ∧ to ≤ len ∧ len ≤ 2147483647) : Ct l yJ7_rangeCheck_23922 cJ7_rangeCheck_23922 3 none 0 0 0 Γ [.int (iI len), .int (iI fr), .int (iI to)] K X Rf (pV (zpv K Rf (fun X' : zX => X' = X))) := by
  refine Ct.ofF (by decide +kernel) (Nat.le_of_ble_eq_true rfl) ?_
  intro p e s m below meth c ls hx hb hr hml hown hG hlocks hname hw hl
  have hl : lv_has ls 3 [(0, .int (iI len)), (1, .int (iI fr)), (2, .int (iI to))] := hl
  refine lv_iload_n (pc := 0) hx hb dJ7_rangeCheck_23922_0 rfl (lv_at hl 1 rfl) ?_
  refine lv_iload_n (pc := 1) hx hb dJ7_rangeCheck_23922_1 rfl (lv_at hl 2 rfl) ?_
  refine zicmp_le (pc := 2) hx hb 46 (by omega) (by omega) dJ7_rangeCheck_23922_2 (by decide) (fun c2 => ?_) (fun c2 => ?_)
  · skip
    refine lv_iload_n (pc := 46) hx hb dJ7_rangeCheck_23922_46 rfl (lv_at hl 1 rfl) ?_
    refine zif_ge (pc := 47) hx hb 59 (by omega) dJ7_rangeCheck_23922_47 (by decide) (fun c47 => ?_) (fun c47 => ?_)
    · skip
      refine lv_iload_n (pc := 59) hx hb dJ7_rangeCheck_23922_59 rfl (lv_at hl 2 rfl) ?_
      refine lv_iload_n (pc := 60) hx hb dJ7_rangeCheck_23922_60 rfl (lv_at hl 0 rfl) ?_
      refine zicmp_le (pc := 61) hx hb 73 (by omega) (by omega) dJ7_rangeCheck_23922_61 (by decide) (fun c61 => ?_) (fun c61 => ?_)
      · skip
        exact zretV (pc := 73) hx hb hlocks hr hw (Nat.zero_le _) (Nat.zero_le _) dJ7_rangeCheck_23922_73 ⟨by (try dsimp only) <;> (rfl), rfl, rfl⟩
      · skip
        exfalso; omega
    · skip
      exfalso; omega
  · skip
    exfalso; omega
