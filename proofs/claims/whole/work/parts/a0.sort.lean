set_option maxHeartbeats 4000000 in
set_option maxRecDepth 100000 in
theorem c_X10_sort (l : Launch) (Γ : zG) (K : zK) (X : zX) (Rf : zR) (a : Nat) (lo : Int) (hi : Int) (n : Nat) (hka : K a = (2, n)) (hn : n ≤ 20000) (h1 : lo = 0 ∧ 0 ≤ hi ∧ hi ≤ n ∧ hi ≤ 1200) (hF : ∀ j : Nat, (j : Int) < hi → fit (X a j)) (hj : injR lo hi (X a)) : Ct l yX10_sort cX10_sort 7 none 83 2 1400 Γ [.ref a, .int (iI 0), .int (iI lo), .int (iI hi)] K X Rf (pV (fun (K' : zK) (X' : zX) (R' : zR) => (∀ b, (K b).1 ≠ 0 → K' b = K b ∧ R' b = Rf b ∧ (b ≠ a → X' b = X b)) ∧ Prm lo hi (X a) (X' a) ∧ srtR lo hi (X' a))) := by
  refine Ct.ofF (by decide +kernel) (Nat.le_of_ble_eq_true rfl) ?_
  intro p e s m below meth c ls hx hb hr hml hown hG hlocks hname hw hl
  have hl : lv_has ls 7 [(0, .ref a), (1, .int (iI 0)), (2, .int (iI lo)), (3, .int (iI hi))] := hl
  refine lv_iload_n (pc := 0) hx hb dX10_sort_0 rfl (lv_at hl 3 rfl) ?_
  refine lv_iload_n (pc := 1) hx hb dX10_sort_1 rfl (lv_at hl 2 rfl) ?_
  refine zsub (pc := 2) hx hb dX10_sort_2 ?_
  refine ztop (fun x3 ex3 => ?_)
  refine lv_istore (pc := 3) (lv' := [(4, .int (iI x3)), (0, .ref a), (1, .int (iI 0)), (2, .int (iI lo)), (3, .int (iI hi))]) hx hb dX10_sort_3 hl (by decide) rfl (fun ls hl => ?_)
  refine lv_iload_n (pc := 5) hx hb dX10_sort_5 rfl (lv_at hl 2 rfl) ?_
  refine ziconst (pc := 6) (n := 1) hx hb dX10_sort_6 ?_
  refine zicmp_le (pc := 7) hx hb 68 (by omega) (by omega) dX10_sort_7 (by decide) (fun c7 => ?_) (fun c7 => ?_)
  · skip
    refine lv_null (pc := 68) hx hb dX10_sort_68 ?_
    refine lv_aload_n (pc := 69) hx hb dX10_sort_69 rfl (lv_at hl 1 rfl) ?_
    refine ziconst (pc := 70) (n := 0) hx hb dX10_sort_70 ?_
    refine lv_iload_n (pc := 71) hx hb dX10_sort_71 rfl (lv_at hl 3 rfl) ?_
    refine lv_iload_n (pc := 72) hx hb dX10_sort_72 rfl (lv_at hl 4 rfl) ?_
    refine zkV (pc := 73) (zrS (As := [.null, .ref a, .int (iI 0), .int (iI lo), .int (iI hi)]) hx hb hml hown hG hw (c_X10_sort_ l 65 Γ K X Rf a 0 lo hi n 2 1400 (by (first | assumption | omega)) (by (first | assumption | omega)) (by omega) (by intro j _ g; exact hF j g) (by (first | assumption | omega)) (by intro g; exact absurd g (by decide))) cb_X10_sort_ wl_X10_26 rfl ⟨Nat.le_of_ble_eq_true rfl, Nat.le_of_ble_eq_true rfl⟩ hl.1 rfl (Nat.le_of_ble_eq_true rfl) dX10_sort_73 ⟨(by show 0 + 2 ≤ 2; omega), (by show 0 + 1400 ≤ 1400; omega)⟩) hw (fun K73 X73 R73 H locs hp73 hw => ?_)
    exact zretV (pc := 76) hx hb hlocks hr hw (by show 0 + 2 ≤ 2; omega) (by show 0 + 1400 ≤ 1400; omega) dX10_sort_76 (by exact hp73)
  · skip
    exfalso; omega
set_option maxHeartbeats 4000000 in
set_option maxRecDepth 100000 in
theorem c_J7_sort_e9f53 (l : Launch) (Γ : zG) (K : zK) (X : zX) (Rf : zR) (a : Nat) (lo : Int) (hi : Int) (n : Nat) (hka : K a = (2, n)) (hn : n ≤ 20000) (h1 : lo = 0 ∧ 0 ≤ hi ∧ hi ≤ n ∧ hi ≤ 1200) (hF : ∀ j : Nat, (j : Int) < hi → fit (X a j)) (hj : injR lo hi (X a)) : Ct l yJ7_sort_e9f53 cJ7_sort_e9f53 3 none 84 2 1400 Γ [.ref a, .int (iI lo), .int (iI hi)] K X Rf (pV (fun (K' : zK) (X' : zX) (R' : zR) => (∀ b, (K b).1 ≠ 0 → K' b = K b ∧ R' b = Rf b ∧ (b ≠ a → X' b = X b)) ∧ Prm lo hi (X a) (X' a) ∧ srtR lo hi (X' a))) := by
  refine Ct.ofF (by decide +kernel) (Nat.le_of_ble_eq_true rfl) ?_
  intro p e s m below meth c ls hx hb hr hml hown hG hlocks hname hw hl
  have hl : lv_has ls 3 [(0, .ref a), (1, .int (iI lo)), (2, .int (iI hi))] := hl
  refine lv_aload_n (pc := 0) hx hb dJ7_sort_e9f53_0 rfl (lv_at hl 0 rfl) ?_
  refine zlen2 (pc := 1) hx hb hw hka dJ7_sort_e9f53_1 ?_
  refine lv_iload_n (pc := 2) hx hb dJ7_sort_e9f53_2 rfl (lv_at hl 1 rfl) ?_
  refine lv_iload_n (pc := 3) hx hb dJ7_sort_e9f53_3 rfl (lv_at hl 2 rfl) ?_
  refine zkVx (pc := 4) (zrS (As := [.int (iI (n : Int)), .int (iI lo), .int (iI hi)]) hx hb hml hown hG hw (c_J7_rangeCheck_23922 l Γ K X Rf (n : Int) lo hi  (by (first | assumption | omega))) cb_J7_rangeCheck_23922 wl_J7_13 rfl ⟨Nat.le_of_ble_eq_true rfl, Nat.le_of_ble_eq_true rfl⟩ hl.1 rfl (Nat.le_of_ble_eq_true rfl) dJ7_sort_e9f53_4 ⟨Nat.zero_le _, Nat.zero_le _⟩) hw (fun X4 H locs hp4 hw => ?_)
  replace hp4 := hp4.symm
  subst hp4
  refine lv_aload_n (pc := 7) hx hb dJ7_sort_e9f53_7 rfl (lv_at hl 0 rfl) ?_
  refine ziconst (pc := 8) (n := 0) hx hb dJ7_sort_e9f53_8 ?_
  refine lv_iload_n (pc := 9) hx hb dJ7_sort_e9f53_9 rfl (lv_at hl 1 rfl) ?_
  refine lv_iload_n (pc := 10) hx hb dJ7_sort_e9f53_10 rfl (lv_at hl 2 rfl) ?_
  refine zkV (pc := 11) (zrS (As := [.ref a, .int (iI 0), .int (iI lo), .int (iI hi)]) hx hb hml hown hG hw (c_X10_sort l Γ K X Rf a lo hi n (by (first | assumption | omega)) (by (first | assumption | omega)) (by (first | assumption | omega)) (by (first | assumption | omega)) (by (first | assumption | omega))) cb_X10_sort wl_J7_7 rfl ⟨Nat.le_of_ble_eq_true rfl, Nat.le_of_ble_eq_true rfl⟩ hl.1 rfl (Nat.le_of_ble_eq_true rfl) dJ7_sort_e9f53_11 ⟨(by show 0 + 2 ≤ 2; omega), (by show 0 + 1400 ≤ 1400; omega)⟩) hw (fun K11 X11 R11 H locs hp11 hw => ?_)
  exact zretV (pc := 14) hx hb hlocks hr hw (by show 0 + 2 ≤ 2; omega) (by show 0 + 1400 ≤ 1400; omega) dJ7_sort_e9f53_14 (by exact hp11)
