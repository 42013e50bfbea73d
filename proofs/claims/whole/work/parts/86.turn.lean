set_option maxHeartbeats 4000000 in
set_option maxRecDepth 100000 in
theorem c_X9_savingBehind (l : Launch) (Γ : zG) (K : zK) (X : zX) (Rf : zR) (md : Nat) (pl : Int) (hp9 : Int) (a11 : Nat) (sv : Nat) (nn : Nat) (hmd : K md = (1, 8)) (hB11 : Rf md 11 = some a11) (hA11 : K a11 = (11, 6)) (hsv : Rf a11 pl.toNat = some sv) (hks : K sv = (2, nn)) (h1 : (0 ≤ pl ∧ pl < 6) ∧ (0 ≤ hp9 ∧ hp9 ≤ nn) ∧ nn ≤ 1200) : Ct l yX9_savingBehind cX9_savingBehind 3 (some .int) 0 0 0 Γ [.ref md, .int (iI pl), .int (iI hp9)] K X Rf (pI (zp0 K X Rf (fun r : Int => r = (if hp9 = 0 then 0 else X sv (hp9 - 1).toNat)))) := by
  refine Ct.of (by decide +kernel) (Nat.le_of_ble_eq_true rfl) ?_
  intro p e s m below meth c ls hx hb hr hml hown hG hlocks hname hw hl
  have hl : lv_has ls 3 [(0, .ref md), (1, .int (iI pl)), (2, .int (iI hp9))] := hl
  refine lv_iload_n (pc := 0) hx hb dX9_savingBehind_0 rfl (lv_at hl 2 rfl) ?_
  refine zif_ne (pc := 1) hx hb 8 (by omega) dX9_savingBehind_1 (by decide) (fun c1 => ?_) (fun c1 => ?_)
  · skip
    refine lv_aload_n (pc := 8) hx hb dX9_savingBehind_8 rfl (lv_at hl 0 rfl) ?_
    refine zgetR (pc := 9) hx hb hG hown hw hmd (T := TX9) rfl 11 (by decide) rfl wf_X9_36 rfl hB11 dX9_savingBehind_9 ?_
    refine lv_iload_n (pc := 12) hx hb dX9_savingBehind_12 rfl (lv_at hl 1 rfl) ?_
    refine zaaldR5 (pc := 13) hx hb hw hA11 ⟨by omega, by omega⟩ (by omega) hsv dX9_savingBehind_13 ?_
    refine lv_iload_n (pc := 14) hx hb dX9_savingBehind_14 rfl (lv_at hl 2 rfl) ?_
    refine ziconst (pc := 15) (n := 1) hx hb dX9_savingBehind_15 ?_
    refine zsub (pc := 16) hx hb dX9_savingBehind_16 ?_
    refine zald (pc := 17) hx hb hw hks ⟨by omega, by omega⟩ (by omega) dX9_savingBehind_17 ?_
    exact zretI (pc := 18) hx hb hlocks hr hw (Nat.zero_le _) (Nat.zero_le _) dX9_savingBehind_18 ⟨by (try dsimp only) <;> (first | (rw [if_pos (by omega)]) | (rw [if_neg (by omega)])), rfl, rfl, rfl⟩
  · skip
    refine ziconst (pc := 4) (n := 0) hx hb dX9_savingBehind_4 ?_
    refine lv_goto (pc := 5) (tgt := 18) hx hb dX9_savingBehind_5 (by decide) ?_
    exact zretI (pc := 18) hx hb hlocks hr hw (Nat.zero_le _) (Nat.zero_le _) dX9_savingBehind_18 ⟨by (try dsimp only) <;> (first | (rw [if_pos (by omega)]) | (rw [if_neg (by omega)])), rfl, rfl, rfl⟩
