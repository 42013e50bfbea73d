set_option maxHeartbeats 4000000 in
set_option maxRecDepth 100000 in
theorem c_X9_happened_L (l : Launch) (Γ : zG) (K : zK) (X : zX) (Rf : zR) (md : Nat) (pl : Int) (mt : Int) (ρ : zL) (M : zM) (hR : repR ρ K X Rf md M) (hM : okM M) (h1 : 0 ≤ pl ∧ pl < M 40 5) (h2 : fit mt) (hla : dlC X Rf md pl.toNat = 0) : Ct l yX9_happened cX9_happened 6 (some .int) 86 0 0 Γ [.ref md, .int (iI pl), .int (iI mt)] K X Rf (pI (zp0 K X Rf (fun r : Int => r = ((hpM M pl.toNat mt : Nat) : Int)))) := by
  refine Ct.of (by decide +kernel) (Nat.le_of_ble_eq_true rfl) ?_
  intro p e s m below meth c ls hx hb hr hml hown hG hlocks hname hw hl
  have hl : lv_has ls 6 [(0, .ref md), (1, .int (iI pl)), (2, .int (iI mt))] := hl
  obtain ⟨hmd, hlmd⟩ := id hR.1
  obtain ⟨⟨hb1, hb2, hb3, hb4⟩, hokP, hokL, hokS, hokW, hokF⟩ := id hM
  have hq1 : X md 1 = M 40 1 := hR.2.1 1 rfl
  have hq5 : X md 5 = M 40 5 := hR.2.1 5 rfl
  have hq16 : X md 16 = M 40 16 := hR.2.1 16 rfl
  have hq25 : X md 25 = M 40 25 := hR.2.1 25 rfl
  have hq26 : X md 26 = M 40 26 := hR.2.1 26 rfl
  have hq27 : X md 27 = M 40 27 := hR.2.1 27 rfl
  have hq28 : X md 28 = M 40 28 := hR.2.1 28 rfl
  have hq29 : X md 29 = M 40 29 := hR.2.1 29 rfl
  obtain ⟨a6, hB6, hA6, hL6, hD6⟩ : ∃ a, Rf md 6 = some a ∧ K a = (2, 6) ∧ ρ a = 2007 ∧ X a = M 6 := hR.fd 6 (by decide) rfl
  have hN6 : Apt a6 md := zkn2 hA6 hmd (by simp)
  obtain ⟨a9, hB9, hA9, hL9⟩ : ∃ a, Rf md 9 = some a ∧ K a = (2, 6) ∧ ρ a = 2010 := hR.ff 9 (by decide)
  have hN9 : Apt a9 md := zkn2 hA9 hmd (by simp)
  obtain ⟨a10, hB10, hA10, hL10⟩ : ∃ a, Rf md 10 = some a ∧ K a = (11, 6) ∧ ρ a = 2011 := hR.ff 10 (by decide)
  have hN10 : Apt a10 md := zkn2 hA10 hmd (by simp)
  obtain ⟨a11, hB11, hA11, hL11⟩ : ∃ a, Rf md 11 = some a ∧ K a = (11, 6) ∧ ρ a = 2012 := hR.ff 11 (by decide)
  have hN11 : Apt a11 md := zkn2 hA11 hmd (by simp)
  obtain ⟨hv9, mo, sv, ⟨hrm, hrs⟩, ⟨hkm, hks⟩, hvm, hvs⟩ := hR.plc hB9 hB10 hB11 (p := pl.toNat) (by omega) (by omega) hla
  have hNle := evNM_le hM (p := pl.toNat) (by omega)
  have hb6 := (hokL pl.toNat (by omega)).1
  refine lv_aload_n (pc := 0) hx hb dX9_happened_0 rfl (lv_at hl 0 rfl) ?_
  refine lv_iload_n (pc := 1) hx hb dX9_happened_1 rfl (lv_at hl 1 rfl) ?_
  refine zkVx (pc := 2) (zrV (As := [.int (iI pl)]) hx hb hml hown hG hw (c_X9_lay_L l Γ K X Rf md pl (ρ) M (by (first | assumption | omega)) (by (first | assumption | omega)) (by (first | assumption | omega)) (by (first | assumption | omega))) (T := TX9) hmd rfl cb_X9_lay wl_X9_185 rfl ⟨Nat.le_of_ble_eq_true rfl, Nat.le_of_ble_eq_true rfl⟩ hl.1 rfl (Nat.le_of_ble_eq_true rfl) dX9_happened_2 ⟨Nat.zero_le _, Nat.zero_le _⟩) hw (fun X2 H locs hp2 hw => ?_)
  replace hp2 := hp2.symm
  subst hp2
  refine ziconst (pc := 5) (n := 0) hx hb dX9_happened_5 ?_
  refine lv_istore_n (pc := 6) (lv' := [(3, .int (iI 0)), (0, .ref md), (1, .int (iI pl)), (2, .int (iI mt))]) hx hb dX9_happened_6 rfl hl (by decide) rfl (fun ls hl => ?_)
  refine lv_aload_n (pc := 7) hx hb dX9_happened_7 rfl (lv_at hl 1 rfl) ?_
  refine zgetR (pc := 8) hx hb hG hown hw hmd (T := TX9) rfl 9 (by decide) rfl wf_X9_28 rfl hB9 dX9_happened_8 ?_
  refine lv_iload_n (pc := 11) hx hb dX9_happened_11 rfl (lv_at hl 2 rfl) ?_
  refine zald (pc := 12) hx hb hw hA9 ⟨by omega, by omega⟩ (by omega) dX9_happened_12 ?_
  refine ztop (fun x13 ex13 => ?_)
  refine lv_istore (pc := 13) (lv' := [(4, .int (iI x13)), (3, .int (iI 0)), (0, .ref md), (1, .int (iI pl)), (2, .int (iI mt))]) hx hb dX9_happened_13 hl (by decide) rfl (fun ls hl => ?_)
  have lp15 : ∀ (n15 : Nat) (hi9 : Int) (lo9 : Int) (H : Heap) (locs : List Loc), (hi : 0 ≤ lo9 ∧ lo9 ≤ hi9 ∧ hi9 ≤ (evNM M pl.toNat)) → (hLo : ∀ i : Nat, (i : Int) < lo9 → evMo M pl.toNat i ≤ mt) → (hHi : ∀ i : Nat, hi9 ≤ i → i < (evNM M pl.toNat) → mt < evMo M pl.toNat i) → ((hi9 - lo9).toNat < n15) → Wd Γ (zA K s.heap.size) K X Rf s H locs → ∀ ls : Array Slot, lv_has ls 6 [(4, .int (iI hi9)), (3, .int (iI lo9)), (0, .ref md), (1, .int (iI pl)), (2, .int (iI mt))] → W p l e (rmL 86 0 0) s m ([.ref md, .int (iI pl), .int (iI mt)] : List Value).toArray below meth c H locs 0 0 (MQ below (zQ Γ K s.heap.size (pI (zp0 K X Rf (fun r : Int => r = ((hpM M pl.toNat mt : Nat) : Int))))) ([.ref md, .int (iI pl), .int (iI mt)] : List Value).toArray s 0 0 (zA K s.heap.size)) (F0 m 15 ls []) := by
    intro n15
    induction n15 with
    | zero => intro hi9 lo9 H locs hi hLo hHi hm15; exact absurd hm15 (Nat.not_lt_zero _)
    | succ n15 ih15 =>
      intro hi9 lo9 H locs hi hLo hHi hm15 hw ls hl
      refine lv_iload_n (pc := 15) hx hb dX9_happened_15 rfl (lv_at hl 1 rfl) ?_
      refine lv_iload (pc := 16) hx hb dX9_happened_16 (lv_at hl 0 rfl) ?_
      refine zicmp_ge (pc := 18) hx hb 57 (by omega) (by omega) dX9_happened_18 (by decide) (fun c18 => ?_) (fun c18 => ?_)
      · skip
        refine lv_iload_n (pc := 57) hx hb dX9_happened_57 rfl (lv_at hl 1 rfl) ?_
        exact zretI (pc := 58) hx hb hlocks hr hw (Nat.zero_le _) (Nat.zero_le _) dX9_happened_58 ⟨by (try dsimp only) <;> (have e9 := hpM_is (M := M) (p := pl.toNat) (m := mt) (h := lo9.toNat) (by omega) (fun i g => hLo i (by omega)) (fun i g1 g2 => hHi i (by omega) g2); rw [e9]; omega), rfl, rfl, rfl⟩
      · skip
        refine lv_iload_n (pc := 21) hx hb dX9_happened_21 rfl (lv_at hl 1 rfl) ?_
        refine lv_iload (pc := 22) hx hb dX9_happened_22 (lv_at hl 0 rfl) ?_
        refine zadd (pc := 24) hx hb dX9_happened_24 ?_
        refine ziconst (pc := 25) (n := 2) hx hb dX9_happened_25 ?_
        refine zdiv (pc := 26) hx hb (by omega) dX9_happened_26 ?_
        refine ztop (fun x27 ex27 => ?_)
        refine lv_istore (pc := 27) (lv' := [(5, .int (iI x27)), (4, .int (iI hi9)), (3, .int (iI lo9)), (0, .ref md), (1, .int (iI pl)), (2, .int (iI mt))]) hx hb dX9_happened_27 hl (by decide) rfl (fun ls hl => ?_)
        have hvx := hvm x27.toNat (by omega)
        have hrx := evMo_rng hM (p := pl.toNat) (by omega) (k := x27.toNat) (by omega)
        refine lv_aload_n (pc := 29) hx hb dX9_happened_29 rfl (lv_at hl 3 rfl) ?_
        refine zgetR (pc := 30) hx hb hG hown hw hmd (T := TX9) rfl 10 (by decide) rfl wf_X9_32 rfl hB10 dX9_happened_30 ?_
        refine lv_iload_n (pc := 33) hx hb dX9_happened_33 rfl (lv_at hl 4 rfl) ?_
        refine zaaldR5 (pc := 34) hx hb hw hA10 ⟨by omega, by omega⟩ (by omega) hrm dX9_happened_34 ?_
        refine lv_iload (pc := 35) hx hb dX9_happened_35 (lv_at hl 0 rfl) ?_
        refine zald (pc := 37) hx hb hw hkm ⟨by omega, by omega⟩ (by omega) dX9_happened_37 ?_
        refine lv_iload_n (pc := 38) hx hb dX9_happened_38 rfl (lv_at hl 5 rfl) ?_
        refine zicmp_gt (pc := 39) hx hb 50 (by omega) (by omega) dX9_happened_39 (by decide) (fun c39 => ?_) (fun c39 => ?_)
        · skip
          refine lv_iload (pc := 50) hx hb dX9_happened_50 (lv_at hl 0 rfl) ?_
          refine lv_istore (pc := 52) (lv' := [(4, .int (iI x27)), (5, .int (iI x27)), (3, .int (iI lo9)), (0, .ref md), (1, .int (iI pl)), (2, .int (iI mt))]) hx hb dX9_happened_52 hl (by decide) rfl (fun ls hl => ?_)
          refine lv_goto (pc := 54) (tgt := 15) hx hb dX9_happened_54 (by decide) ?_
          exact ih15 x27 lo9 _ _ (by omega) (by first | exact hLo | (intro i g; have h9 := evMo_mono (M := M) (p := pl.toNat) (show i ≤ x27.toNat by omega); omega)) (by first | exact hHi | (intro i g1 g2; have h9 := evMo_mono (M := M) (p := pl.toNat) (show x27.toNat ≤ i by omega); omega)) (by omega) hw _ (lv_sub hl [0, 2, 3, 4, 5] rfl)
        · skip
          refine lv_iload (pc := 42) hx hb dX9_happened_42 (lv_at hl 0 rfl) ?_
          refine ziconst (pc := 44) (n := 1) hx hb dX9_happened_44 ?_
          refine zadd (pc := 45) hx hb dX9_happened_45 ?_
          refine ztop (fun x46 ex46 => ?_)
          refine lv_istore_n (pc := 46) (lv' := [(3, .int (iI x46)), (5, .int (iI x27)), (4, .int (iI hi9)), (0, .ref md), (1, .int (iI pl)), (2, .int (iI mt))]) hx hb dX9_happened_46 rfl hl (by decide) rfl (fun ls hl => ?_)
          refine lv_goto (pc := 47) (tgt := 54) hx hb dX9_happened_47 (by decide) ?_
          refine lv_goto (pc := 54) (tgt := 15) hx hb dX9_happened_54 (by decide) ?_
          exact ih15 hi9 x46 _ _ (by omega) (by first | exact hLo | (intro i g; have h9 := evMo_mono (M := M) (p := pl.toNat) (show i ≤ x27.toNat by omega); omega)) (by first | exact hHi | (intro i g1 g2; have h9 := evMo_mono (M := M) (p := pl.toNat) (show x27.toNat ≤ i by omega); omega)) (by omega) hw _ (lv_sub hl [2, 0, 3, 4, 5] rfl)
  exact lp15 _ x13 0 _ _ (by omega) (by intro i g; omega) (by intro i g1 g2; omega) (Nat.lt_succ_self _) hw _ (lv_sub hl [0, 1, 2, 3, 4] rfl)
set_option maxHeartbeats 4000000 in
set_option maxRecDepth 100000 in
theorem c_X9_happened (l : Launch) (Γ : zG) (K : zK) (X : zX) (Rf : zR) (md : Nat) (pl : Int) (mt : Int) (ρ : zL) (M : zM) (hR : repR ρ K X Rf md M) (hM : okM M) (h1 : 0 ≤ pl ∧ pl < M 40 5) (h2 : fit mt) : Ct l yX9_happened cX9_happened 6 (some .int) 86 (min 5 (dlC X Rf md pl.toNat)) (dlC X Rf md pl.toNat) Γ [.ref md, .int (iI pl), .int (iI mt)] K X Rf (pI (fun (r : Int) (K' : zK) (X' : zX) (R' : zR) => r = ((hpM M pl.toNat mt : Nat) : Int) ∧ ∃ ρ', (repR ρ' K' X' R' md M ∧ frR ρ K X Rf ρ' K' X' R' ∧ (∀ q, q = 0 ∨ q = 36 → X' md q = X md q)) ∧ (lsR X Rf X' R' md ∧ dlC X' R' md pl.toNat = 0) ∧ ∀ a, (K a).1 ≠ 0 → 3000 ≤ ρ a → X' a = X a)) := by
  refine Ct.of (by decide +kernel) (Nat.le_of_ble_eq_true rfl) ?_
  intro p e s m below meth c ls hx hb hr hml hown hG hlocks hname hw hl
  have hl : lv_has ls 6 [(0, .ref md), (1, .int (iI pl)), (2, .int (iI mt))] := hl
  obtain ⟨hmd, hlmd⟩ := id hR.1
  obtain ⟨⟨hb1, hb2, hb3, hb4⟩, hokP, hokL, hokS, hokW, hokF⟩ := id hM
  have hq1 : X md 1 = M 40 1 := hR.2.1 1 rfl
  have hq5 : X md 5 = M 40 5 := hR.2.1 5 rfl
  have hq16 : X md 16 = M 40 16 := hR.2.1 16 rfl
  have hq25 : X md 25 = M 40 25 := hR.2.1 25 rfl
  have hq26 : X md 26 = M 40 26 := hR.2.1 26 rfl
  have hq27 : X md 27 = M 40 27 := hR.2.1 27 rfl
  have hq28 : X md 28 = M 40 28 := hR.2.1 28 rfl
  have hq29 : X md 29 = M 40 29 := hR.2.1 29 rfl
  have hNle := evNM_le hM (p := pl.toNat) (by omega)
  refine lv_aload_n (pc := 0) hx hb dX9_happened_0 rfl (lv_at hl 0 rfl) ?_
  refine lv_iload_n (pc := 1) hx hb dX9_happened_1 rfl (lv_at hl 1 rfl) ?_
  refine zkV (pc := 2) (zrV (As := [.int (iI pl)]) hx hb hml hown hG hw (c_X9_lay l Γ K X Rf md pl (ρ) M (by (first | assumption | omega)) (by (first | assumption | omega)) (by (first | assumption | omega))) (T := TX9) hmd rfl cb_X9_lay wl_X9_185 rfl ⟨Nat.le_of_ble_eq_true rfl, Nat.le_of_ble_eq_true rfl⟩ hl.1 rfl (Nat.le_of_ble_eq_true rfl) dX9_happened_2 ⟨(by show 0 + (min 5 (dlC X Rf md pl.toNat)) ≤ (min 5 (dlC X Rf md pl.toNat)); omega), (by show 0 + (dlC X Rf md pl.toNat) ≤ (dlC X Rf md pl.toNat); omega)⟩) hw (fun K2 X2 R2 H locs hp2 hw => ?_)
  obtain ⟨ρ2, ⟨hR2, hg2, hz2⟩, ⟨hs2, hd2⟩, hy2⟩ := hp2
  obtain ⟨hmd2, hlm2⟩ := id hR2.1
  obtain ⟨b6_2, hB6_2, hA6_2, hL6_2, hD6_2⟩ : ∃ a, R2 md 6 = some a ∧ K2 a = (2, 6) ∧ ρ2 a = 2007 ∧ X2 a = M 6 := hR2.fd 6 (by decide) rfl
  obtain ⟨b9_2, hB9_2, hA9_2, hL9_2⟩ : ∃ a, R2 md 9 = some a ∧ K2 a = (2, 6) ∧ ρ2 a = 2010 := hR2.ff 9 (by decide)
  obtain ⟨b10_2, hB10_2, hA10_2, hL10_2⟩ : ∃ a, R2 md 10 = some a ∧ K2 a = (11, 6) ∧ ρ2 a = 2011 := hR2.ff 10 (by decide)
  obtain ⟨b11_2, hB11_2, hA11_2, hL11_2⟩ : ∃ a, R2 md 11 = some a ∧ K2 a = (11, 6) ∧ ρ2 a = 2012 := hR2.ff 11 (by decide)
  obtain ⟨hv9, mo, sv, ⟨hrm, hrs⟩, ⟨hkm, hks⟩, hvm, hvs⟩ := hR2.plc hB9_2 hB10_2 hB11_2 (p := pl.toNat) (by omega) (by omega) hd2
  refine ziconst (pc := 5) (n := 0) hx hb dX9_happened_5 ?_
  refine lv_istore_n (pc := 6) (lv' := [(3, .int (iI 0)), (0, .ref md), (1, .int (iI pl)), (2, .int (iI mt))]) hx hb dX9_happened_6 rfl hl (by decide) rfl (fun ls hl => ?_)
  refine lv_aload_n (pc := 7) hx hb dX9_happened_7 rfl (lv_at hl 1 rfl) ?_
  refine zgetR (pc := 8) hx hb hG hown hw hmd2 (T := TX9) rfl 9 (by decide) rfl wf_X9_28 rfl hB9_2 dX9_happened_8 ?_
  refine lv_iload_n (pc := 11) hx hb dX9_happened_11 rfl (lv_at hl 2 rfl) ?_
  refine zald (pc := 12) hx hb hw hA9_2 ⟨by omega, by omega⟩ (by omega) dX9_happened_12 ?_
  refine ztop (fun x13 ex13 => ?_)
  refine lv_istore (pc := 13) (lv' := [(4, .int (iI x13)), (3, .int (iI 0)), (0, .ref md), (1, .int (iI pl)), (2, .int (iI mt))]) hx hb dX9_happened_13 hl (by decide) rfl (fun ls hl => ?_)
  have lp15 : ∀ (n15 : Nat) (hi9 : Int) (lo9 : Int) (H : Heap) (locs : List Loc), (hi : 0 ≤ lo9 ∧ lo9 ≤ hi9 ∧ hi9 ≤ (evNM M pl.toNat)) → (hLo : ∀ i : Nat, (i : Int) < lo9 → evMo M pl.toNat i ≤ mt) → (hHi : ∀ i : Nat, hi9 ≤ i → i < (evNM M pl.toNat) → mt < evMo M pl.toNat i) → ((hi9 - lo9).toNat < n15) → Wd Γ (zA K s.heap.size) K2 X2 R2 s H locs → ∀ ls : Array Slot, lv_has ls 6 [(4, .int (iI hi9)), (3, .int (iI lo9)), (0, .ref md), (1, .int (iI pl)), (2, .int (iI mt))] → W p l e (rmL 86 (min 5 (dlC X Rf md pl.toNat)) (dlC X Rf md pl.toNat)) s m ([.ref md, .int (iI pl), .int (iI mt)] : List Value).toArray below meth c H locs (0 + (min 5 (dlC X Rf md pl.toNat))) (0 + (dlC X Rf md pl.toNat)) (MQ below (zQ Γ K s.heap.size (pI (fun (r : Int) (K' : zK) (X' : zX) (R' : zR) => r = ((hpM M pl.toNat mt : Nat) : Int) ∧ ∃ ρ', (repR ρ' K' X' R' md M ∧ frR ρ K X Rf ρ' K' X' R' ∧ (∀ q, q = 0 ∨ q = 36 → X' md q = X md q)) ∧ (lsR X Rf X' R' md ∧ dlC X' R' md pl.toNat = 0) ∧ ∀ a, (K a).1 ≠ 0 → 3000 ≤ ρ a → X' a = X a))) ([.ref md, .int (iI pl), .int (iI mt)] : List Value).toArray s (min 5 (dlC X Rf md pl.toNat)) (dlC X Rf md pl.toNat) (zA K s.heap.size)) (F0 m 15 ls []) := by
    intro n15
    induction n15 with
    | zero => intro hi9 lo9 H locs hi hLo hHi hm15; exact absurd hm15 (Nat.not_lt_zero _)
    | succ n15 ih15 =>
      intro hi9 lo9 H locs hi hLo hHi hm15 hw ls hl
      refine lv_iload_n (pc := 15) hx hb dX9_happened_15 rfl (lv_at hl 1 rfl) ?_
      refine lv_iload (pc := 16) hx hb dX9_happened_16 (lv_at hl 0 rfl) ?_
      refine zicmp_ge (pc := 18) hx hb 57 (by omega) (by omega) dX9_happened_18 (by decide) (fun c18 => ?_) (fun c18 => ?_)
      · skip
        refine lv_iload_n (pc := 57) hx hb dX9_happened_57 rfl (lv_at hl 1 rfl) ?_
        exact zretI (pc := 58) hx hb hlocks hr hw (by show 0 + (min 5 (dlC X Rf md pl.toNat)) ≤ (min 5 (dlC X Rf md pl.toNat)); omega) (by show 0 + (dlC X Rf md pl.toNat) ≤ (dlC X Rf md pl.toNat); omega) dX9_happened_58 (by exact ⟨by have e9 := hpM_is (M := M) (p := pl.toNat) (m := mt) (h := lo9.toNat) (by omega) (fun i g => hLo i (by omega)) (fun i g1 g2 => hHi i (by omega) g2); rw [e9]; omega, ρ2, ⟨hR2, hg2, hz2⟩, ⟨hs2, hd2⟩, hy2⟩)
      · skip
        refine lv_iload_n (pc := 21) hx hb dX9_happened_21 rfl (lv_at hl 1 rfl) ?_
        refine lv_iload (pc := 22) hx hb dX9_happened_22 (lv_at hl 0 rfl) ?_
        refine zadd (pc := 24) hx hb dX9_happened_24 ?_
        refine ziconst (pc := 25) (n := 2) hx hb dX9_happened_25 ?_
        refine zdiv (pc := 26) hx hb (by omega) dX9_happened_26 ?_
        refine ztop (fun x27 ex27 => ?_)
        refine lv_istore (pc := 27) (lv' := [(5, .int (iI x27)), (4, .int (iI hi9)), (3, .int (iI lo9)), (0, .ref md), (1, .int (iI pl)), (2, .int (iI mt))]) hx hb dX9_happened_27 hl (by decide) rfl (fun ls hl => ?_)
        have hvx := hvm x27.toNat (by omega)
        have hrx := evMo_rng hM (p := pl.toNat) (by omega) (k := x27.toNat) (by omega)
        refine lv_aload_n (pc := 29) hx hb dX9_happened_29 rfl (lv_at hl 3 rfl) ?_
        refine zgetR (pc := 30) hx hb hG hown hw hmd2 (T := TX9) rfl 10 (by decide) rfl wf_X9_32 rfl hB10_2 dX9_happened_30 ?_
        refine lv_iload_n (pc := 33) hx hb dX9_happened_33 rfl (lv_at hl 4 rfl) ?_
        refine zaaldR5 (pc := 34) hx hb hw hA10_2 ⟨by omega, by omega⟩ (by omega) hrm dX9_happened_34 ?_
        refine lv_iload (pc := 35) hx hb dX9_happened_35 (lv_at hl 0 rfl) ?_
        refine zald (pc := 37) hx hb hw hkm ⟨by omega, by omega⟩ (by omega) dX9_happened_37 ?_
        refine lv_iload_n (pc := 38) hx hb dX9_happened_38 rfl (lv_at hl 5 rfl) ?_
        refine zicmp_gt (pc := 39) hx hb 50 (by omega) (by omega) dX9_happened_39 (by decide) (fun c39 => ?_) (fun c39 => ?_)
        · skip
          refine lv_iload (pc := 50) hx hb dX9_happened_50 (lv_at hl 0 rfl) ?_
          refine lv_istore (pc := 52) (lv' := [(4, .int (iI x27)), (5, .int (iI x27)), (3, .int (iI lo9)), (0, .ref md), (1, .int (iI pl)), (2, .int (iI mt))]) hx hb dX9_happened_52 hl (by decide) rfl (fun ls hl => ?_)
          refine lv_goto (pc := 54) (tgt := 15) hx hb dX9_happened_54 (by decide) ?_
          exact ih15 x27 lo9 _ _ (by omega) (by first | exact hLo | (intro i g; have h9 := evMo_mono (M := M) (p := pl.toNat) (show i ≤ x27.toNat by omega); omega)) (by first | exact hHi | (intro i g1 g2; have h9 := evMo_mono (M := M) (p := pl.toNat) (show x27.toNat ≤ i by omega); omega)) (by omega) hw _ (lv_sub hl [0, 2, 3, 4, 5] rfl)
        · skip
          refine lv_iload (pc := 42) hx hb dX9_happened_42 (lv_at hl 0 rfl) ?_
          refine ziconst (pc := 44) (n := 1) hx hb dX9_happened_44 ?_
          refine zadd (pc := 45) hx hb dX9_happened_45 ?_
          refine ztop (fun x46 ex46 => ?_)
          refine lv_istore_n (pc := 46) (lv' := [(3, .int (iI x46)), (5, .int (iI x27)), (4, .int (iI hi9)), (0, .ref md), (1, .int (iI pl)), (2, .int (iI mt))]) hx hb dX9_happened_46 rfl hl (by decide) rfl (fun ls hl => ?_)
          refine lv_goto (pc := 47) (tgt := 54) hx hb dX9_happened_47 (by decide) ?_
          refine lv_goto (pc := 54) (tgt := 15) hx hb dX9_happened_54 (by decide) ?_
          exact ih15 hi9 x46 _ _ (by omega) (by first | exact hLo | (intro i g; have h9 := evMo_mono (M := M) (p := pl.toNat) (show i ≤ x27.toNat by omega); omega)) (by first | exact hHi | (intro i g1 g2; have h9 := evMo_mono (M := M) (p := pl.toNat) (show x27.toNat ≤ i by omega); omega)) (by omega) hw _ (lv_sub hl [2, 0, 3, 4, 5] rfl)
  exact lp15 _ x13 0 _ _ (by omega) (by intro i g; omega) (by intro i g1 g2; omega) (Nat.lt_succ_self _) hw _ (lv_sub hl [0, 1, 2, 3, 4] rfl)
set_option maxHeartbeats 4000000 in
set_option maxRecDepth 100000 in
theorem c_X9_local_L (l : Launch) (Γ : zG) (K : zK) (X : zX) (Rf : zR) (md : Nat) (pl : Int) (mt : Int) (ρ : zL) (M : zM) (hR : repR ρ K X Rf md M) (hM : okM M) (h1 : 0 ≤ pl ∧ pl < M 40 5) (h2 : -1 ≤ mt ∧ mt ≤ 105190559) (hla : dlC X Rf md pl.toNat = 0) : Ct l yX9_local cX9_local 3 (some .int) 87 0 0 Γ [.ref md, .int (iI pl), .int (iI mt)] K X Rf (pI (zp0 K X Rf (fun r : Int => r = mt + M 6 pl.toNat + savM M pl.toNat mt))) := by
  refine Ct.of (by decide +kernel) (Nat.le_of_ble_eq_true rfl) ?_
  intro p e s m below meth c ls hx hb hr hml hown hG hlocks hname hw hl
  have hl : lv_has ls 3 [(0, .ref md), (1, .int (iI pl)), (2, .int (iI mt))] := hl
  obtain ⟨hmd, hlmd⟩ := id hR.1
  obtain ⟨⟨hb1, hb2, hb3, hb4⟩, hokP, hokL, hokS, hokW, hokF⟩ := id hM
  have hq1 : X md 1 = M 40 1 := hR.2.1 1 rfl
  have hq5 : X md 5 = M 40 5 := hR.2.1 5 rfl
  have hq16 : X md 16 = M 40 16 := hR.2.1 16 rfl
  have hq25 : X md 25 = M 40 25 := hR.2.1 25 rfl
  have hq26 : X md 26 = M 40 26 := hR.2.1 26 rfl
  have hq27 : X md 27 = M 40 27 := hR.2.1 27 rfl
  have hq28 : X md 28 = M 40 28 := hR.2.1 28 rfl
  have hq29 : X md 29 = M 40 29 := hR.2.1 29 rfl
  obtain ⟨a6, hB6, hA6, hL6, hD6⟩ : ∃ a, Rf md 6 = some a ∧ K a = (2, 6) ∧ ρ a = 2007 ∧ X a = M 6 := hR.fd 6 (by decide) rfl
  have hN6 : Apt a6 md := zkn2 hA6 hmd (by simp)
  obtain ⟨a9, hB9, hA9, hL9⟩ : ∃ a, Rf md 9 = some a ∧ K a = (2, 6) ∧ ρ a = 2010 := hR.ff 9 (by decide)
  have hN9 : Apt a9 md := zkn2 hA9 hmd (by simp)
  obtain ⟨a10, hB10, hA10, hL10⟩ : ∃ a, Rf md 10 = some a ∧ K a = (11, 6) ∧ ρ a = 2011 := hR.ff 10 (by decide)
  have hN10 : Apt a10 md := zkn2 hA10 hmd (by simp)
  obtain ⟨a11, hB11, hA11, hL11⟩ : ∃ a, Rf md 11 = some a ∧ K a = (11, 6) ∧ ρ a = 2012 := hR.ff 11 (by decide)
  have hN11 : Apt a11 md := zkn2 hA11 hmd (by simp)
  obtain ⟨hv9, mo, sv, ⟨hrm, hrs⟩, ⟨hkm, hks⟩, hvm, hvs⟩ := hR.plc hB9 hB10 hB11 (p := pl.toNat) (by omega) (by omega) hla
  have hNle := evNM_le hM (p := pl.toNat) (by omega)
  have hb6 := (hokL pl.toNat (by omega)).1
  have he9 := evSv_rng hM (p := pl.toNat) (by omega) (k := hpM M pl.toNat mt) (hpM_spec (M := M) (p := pl.toNat) mt).1
  have hsb := svb_eq (z := ((hpM M pl.toNat mt : Nat) : Int)) hvs ⟨by omega, by have := (hpM_spec (M := M) (p := pl.toNat) mt).1; omega⟩
  rw [Int.toNat_natCast] at hsb
  have hx6 : X a6 pl.toNat = M 6 pl.toNat := by rw [hD6]
  refine lv_iload_n (pc := 0) hx hb dX9_local_0 rfl (lv_at hl 2 rfl) ?_
  refine lv_aload_n (pc := 1) hx hb dX9_local_1 rfl (lv_at hl 0 rfl) ?_
  refine zgetR (pc := 2) hx hb hG hown hw hmd (T := TX9) rfl 6 (by decide) rfl wf_X9_19 rfl hB6 dX9_local_2 ?_
  refine lv_iload_n (pc := 5) hx hb dX9_local_5 rfl (lv_at hl 1 rfl) ?_
  refine zald (pc := 6) hx hb hw hA6 ⟨by omega, by omega⟩ (by omega) dX9_local_6 ?_
  refine zadd (pc := 7) hx hb dX9_local_7 ?_
  refine lv_aload_n (pc := 8) hx hb dX9_local_8 rfl (lv_at hl 0 rfl) ?_
  refine lv_iload_n (pc := 9) hx hb dX9_local_9 rfl (lv_at hl 1 rfl) ?_
  refine lv_aload_n (pc := 10) hx hb dX9_local_10 rfl (lv_at hl 0 rfl) ?_
  refine lv_iload_n (pc := 11) hx hb dX9_local_11 rfl (lv_at hl 1 rfl) ?_
  refine lv_iload_n (pc := 12) hx hb dX9_local_12 rfl (lv_at hl 2 rfl) ?_
  refine zkIp (pc := 13) (zrV (As := [.int (iI pl), .int (iI mt)]) hx hb hml hown hG hw (c_X9_happened_L l Γ K X Rf md pl mt (ρ) M (by (first | assumption | omega)) (by (first | assumption | omega)) (by (first | assumption | omega)) (by (first | assumption | omega)) (by (first | assumption | omega))) (T := TX9) hmd rfl cb_X9_happened wl_X9_189 rfl ⟨Nat.le_of_ble_eq_true rfl, Nat.le_of_ble_eq_true rfl⟩ hl.1 rfl (Nat.le_of_ble_eq_true rfl) dX9_local_13 ⟨Nat.zero_le _, Nat.zero_le _⟩) hw (fun r13 H locs hp13 hw => ?_)
  subst hp13
  have hp13f0 := (hpM_spec (M := M) (p := pl.toNat) mt).1
  refine zkIp (pc := 16) (zrV (As := [.int (iI pl), .int (iI (((hpM M pl.toNat mt : Nat) : Int)))]) hx hb hml hown hG hw (c_X9_savingBehind l Γ K X Rf md pl (((hpM M pl.toNat mt : Nat) : Int)) a11 sv (evNM M pl.toNat) (by (first | assumption | omega)) (by (first | assumption | omega)) (by (first | assumption | omega)) (by (first | assumption | omega)) (by (first | assumption | omega)) (by (first | assumption | omega))) (T := TX9) hmd rfl cb_X9_savingBehind wl_X9_192 rfl ⟨Nat.le_of_ble_eq_true rfl, Nat.le_of_ble_eq_true rfl⟩ hl.1 rfl (Nat.le_of_ble_eq_true rfl) dX9_local_16 ⟨Nat.zero_le _, Nat.zero_le _⟩) hw (fun r16 H locs hp16 hw => ?_)
  subst hp16
  refine zadd (pc := 19) hx hb dX9_local_19 ?_
  exact zretI (pc := 20) hx hb hlocks hr hw (Nat.zero_le _) (Nat.zero_le _) dX9_local_20 ⟨by (try dsimp only) <;> (rw [savM_hp, ← hsb]; omega), rfl, rfl, rfl⟩
set_option maxHeartbeats 4000000 in
set_option maxRecDepth 100000 in
theorem c_X9_local (l : Launch) (Γ : zG) (K : zK) (X : zX) (Rf : zR) (md : Nat) (pl : Int) (mt : Int) (ρ : zL) (M : zM) (hR : repR ρ K X Rf md M) (hM : okM M) (h1 : 0 ≤ pl ∧ pl < M 40 5) (h2 : -1 ≤ mt ∧ mt ≤ 105190559) : Ct l yX9_local cX9_local 3 (some .int) 87 (min 5 (dlC X Rf md pl.toNat)) (dlC X Rf md pl.toNat) Γ [.ref md, .int (iI pl), .int (iI mt)] K X Rf (pI (fun (r : Int) (K' : zK) (X' : zX) (R' : zR) => r = (mt + M 6 pl.toNat + savM M pl.toNat mt) ∧ ∃ ρ', (repR ρ' K' X' R' md M ∧ frR ρ K X Rf ρ' K' X' R' ∧ (∀ q, q = 0 ∨ q = 36 → X' md q = X md q)) ∧ (lsR X Rf X' R' md ∧ dlC X' R' md pl.toNat = 0) ∧ ∀ a, (K a).1 ≠ 0 → 3000 ≤ ρ a → X' a = X a)) := by
  refine Ct.of (by decide +kernel) (Nat.le_of_ble_eq_true rfl) ?_
  intro p e s m below meth c ls hx hb hr hml hown hG hlocks hname hw hl
  have hl : lv_has ls 3 [(0, .ref md), (1, .int (iI pl)), (2, .int (iI mt))] := hl
  obtain ⟨hmd, hlmd⟩ := id hR.1
  obtain ⟨⟨hb1, hb2, hb3, hb4⟩, hokP, hokL, hokS, hokW, hokF⟩ := id hM
  have hq1 : X md 1 = M 40 1 := hR.2.1 1 rfl
  have hq5 : X md 5 = M 40 5 := hR.2.1 5 rfl
  have hq16 : X md 16 = M 40 16 := hR.2.1 16 rfl
  have hq25 : X md 25 = M 40 25 := hR.2.1 25 rfl
  have hq26 : X md 26 = M 40 26 := hR.2.1 26 rfl
  have hq27 : X md 27 = M 40 27 := hR.2.1 27 rfl
  have hq28 : X md 28 = M 40 28 := hR.2.1 28 rfl
  have hq29 : X md 29 = M 40 29 := hR.2.1 29 rfl
  obtain ⟨a6, hB6, hA6, hL6, hD6⟩ : ∃ a, Rf md 6 = some a ∧ K a = (2, 6) ∧ ρ a = 2007 ∧ X a = M 6 := hR.fd 6 (by decide) rfl
  have hN6 : Apt a6 md := zkn2 hA6 hmd (by simp)
  have hNle := evNM_le hM (p := pl.toNat) (by omega)
  have hb6 := (hokL pl.toNat (by omega)).1
  have hx6 : X a6 pl.toNat = M 6 pl.toNat := by rw [hD6]
  refine lv_iload_n (pc := 0) hx hb dX9_local_0 rfl (lv_at hl 2 rfl) ?_
  refine lv_aload_n (pc := 1) hx hb dX9_local_1 rfl (lv_at hl 0 rfl) ?_
  refine zgetR (pc := 2) hx hb hG hown hw hmd (T := TX9) rfl 6 (by decide) rfl wf_X9_19 rfl hB6 dX9_local_2 ?_
  refine lv_iload_n (pc := 5) hx hb dX9_local_5 rfl (lv_at hl 1 rfl) ?_
  refine zald (pc := 6) hx hb hw hA6 ⟨by omega, by omega⟩ (by omega) dX9_local_6 ?_
  refine zadd (pc := 7) hx hb dX9_local_7 ?_
  refine lv_aload_n (pc := 8) hx hb dX9_local_8 rfl (lv_at hl 0 rfl) ?_
  refine lv_iload_n (pc := 9) hx hb dX9_local_9 rfl (lv_at hl 1 rfl) ?_
  refine lv_aload_n (pc := 10) hx hb dX9_local_10 rfl (lv_at hl 0 rfl) ?_
  refine lv_iload_n (pc := 11) hx hb dX9_local_11 rfl (lv_at hl 1 rfl) ?_
  refine lv_iload_n (pc := 12) hx hb dX9_local_12 rfl (lv_at hl 2 rfl) ?_
  refine zkI (pc := 13) (zrV (As := [.int (iI pl), .int (iI mt)]) hx hb hml hown hG hw (c_X9_happened l Γ K X Rf md pl mt (ρ) M (by (first | assumption | omega)) (by (first | assumption | omega)) (by (first | assumption | omega)) (by (first | assumption | omega))) (T := TX9) hmd rfl cb_X9_happened wl_X9_189 rfl ⟨Nat.le_of_ble_eq_true rfl, Nat.le_of_ble_eq_true rfl⟩ hl.1 rfl (Nat.le_of_ble_eq_true rfl) dX9_local_13 ⟨(by show 0 + (min 5 (dlC X Rf md pl.toNat)) ≤ (min 5 (dlC X Rf md pl.toNat)); omega), (by show 0 + (dlC X Rf md pl.toNat) ≤ (dlC X Rf md pl.toNat); omega)⟩) hw (fun r13 K13 X13 R13 H locs hp13 hw => ?_)
  obtain ⟨hw13, ρ13, ⟨hR13, hg13, hz13⟩, ⟨hs13, hd13⟩, hy13⟩ := hp13
  obtain ⟨hmd13, hlm13⟩ := id hR13.1
  obtain ⟨b6_13, hB6_13, hA6_13, hL6_13, hD6_13⟩ : ∃ a, R13 md 6 = some a ∧ K13 a = (2, 6) ∧ ρ13 a = 2007 ∧ X13 a = M 6 := hR13.fd 6 (by decide) rfl
  obtain ⟨b9_13, hB9_13, hA9_13, hL9_13⟩ : ∃ a, R13 md 9 = some a ∧ K13 a = (2, 6) ∧ ρ13 a = 2010 := hR13.ff 9 (by decide)
  obtain ⟨b10_13, hB10_13, hA10_13, hL10_13⟩ : ∃ a, R13 md 10 = some a ∧ K13 a = (11, 6) ∧ ρ13 a = 2011 := hR13.ff 10 (by decide)
  obtain ⟨b11_13, hB11_13, hA11_13, hL11_13⟩ : ∃ a, R13 md 11 = some a ∧ K13 a = (11, 6) ∧ ρ13 a = 2012 := hR13.ff 11 (by decide)
  obtain ⟨hv9, mo, sv, ⟨hrm, hrs⟩, ⟨hkm, hks⟩, hvm, hvs⟩ := hR13.plc hB9_13 hB10_13 hB11_13 (p := pl.toNat) (by omega) (by omega) hd13
  have he9 := evSv_rng hM (p := pl.toNat) (by omega) (k := hpM M pl.toNat mt) (hpM_spec (M := M) (p := pl.toNat) mt).1
  have hsb := svb_eq (z := ((hpM M pl.toNat mt : Nat) : Int)) hvs ⟨by omega, by have := (hpM_spec (M := M) (p := pl.toNat) mt).1; omega⟩
  rw [Int.toNat_natCast] at hsb
  rw [← hw13] at hsb
  have hpr := (hpM_spec (M := M) (p := pl.toNat) mt).1
  refine zkIp (pc := 16) (zrV (As := [.int (iI pl), .int (iI r13)]) hx hb hml hown hG hw (c_X9_savingBehind l Γ K13 X13 R13 md pl r13 b11_13 sv (evNM M pl.toNat) (by (first | assumption | omega)) (by (first | assumption | omega)) (by (first | assumption | omega)) (by (first | assumption | omega)) (by (first | assumption | omega)) (by (first | assumption | omega))) (T := TX9) hmd13 rfl cb_X9_savingBehind wl_X9_192 rfl ⟨Nat.le_of_ble_eq_true rfl, Nat.le_of_ble_eq_true rfl⟩ hl.1 rfl (Nat.le_of_ble_eq_true rfl) dX9_local_16 ⟨(by show 0 + (min 5 (dlC X Rf md pl.toNat)) + 0 ≤ (min 5 (dlC X Rf md pl.toNat)); omega), (by show 0 + (dlC X Rf md pl.toNat) + 0 ≤ (dlC X Rf md pl.toNat); omega)⟩) hw (fun r16 H locs hp16 hw => ?_)
  subst hp16
  refine zadd (pc := 19) hx hb dX9_local_19 ?_
  exact zretI (pc := 20) hx hb hlocks hr hw (by show 0 + (min 5 (dlC X Rf md pl.toNat)) ≤ (min 5 (dlC X Rf md pl.toNat)); omega) (by show 0 + (dlC X Rf md pl.toNat) ≤ (dlC X Rf md pl.toNat); omega) dX9_local_20 (by exact ⟨by rw [savM_hp, ← hsb]; omega, ρ13, ⟨hR13, hg13, hz13⟩, ⟨hs13, hd13⟩, hy13⟩)
set_option maxHeartbeats 4000000 in
set_option maxRecDepth 100000 in
theorem c_X9_changeBehind (l : Launch) (Γ : zG) (K : zK) (X : zX) (Rf : zR) (md : Nat) (pl : Int) (mt : Int) (ρ : zL) (M : zM) (hR : repR ρ K X Rf md M) (hM : okM M) (h1 : 0 ≤ pl ∧ pl < M 40 5) (h2 : 0 ≤ mt ∧ mt ≤ 105190559) : Ct l yX9_changeBehind cX9_changeBehind 6 (some .int) 87 (min 5 (dlC X Rf md pl.toNat)) (dlC X Rf md pl.toNat) Γ [.ref md, .int (iI pl), .int (iI mt)] K X Rf (pI (fun (r : Int) (K' : zK) (X' : zX) (R' : zR) => r = ncF (savM M pl.toNat) mt ∧ ∃ ρ', (repR ρ' K' X' R' md M ∧ frR ρ K X Rf ρ' K' X' R' ∧ (∀ q, q = 0 ∨ q = 36 → X' md q = X md q)) ∧ (lsR X Rf X' R' md ∧ dlC X' R' md pl.toNat = 0) ∧ ∀ a, (K a).1 ≠ 0 → 3000 ≤ ρ a → X' a = X a)) := by
  refine Ct.of (by decide +kernel) (Nat.le_of_ble_eq_true rfl) ?_
  intro p e s m below meth c ls hx hb hr hml hown hG hlocks hname hw hl
  have hl : lv_has ls 6 [(0, .ref md), (1, .int (iI pl)), (2, .int (iI mt))] := hl
  obtain ⟨hmd, hlmd⟩ := id hR.1
  obtain ⟨⟨hb1, hb2, hb3, hb4⟩, hokP, hokL, hokS, hokW, hokF⟩ := id hM
  have hq1 : X md 1 = M 40 1 := hR.2.1 1 rfl
  have hq5 : X md 5 = M 40 5 := hR.2.1 5 rfl
  have hq16 : X md 16 = M 40 16 := hR.2.1 16 rfl
  have hq25 : X md 25 = M 40 25 := hR.2.1 25 rfl
  have hq26 : X md 26 = M 40 26 := hR.2.1 26 rfl
  have hq27 : X md 27 = M 40 27 := hR.2.1 27 rfl
  have hq28 : X md 28 = M 40 28 := hR.2.1 28 rfl
  have hq29 : X md 29 = M 40 29 := hR.2.1 29 rfl
  have hNle := evNM_le hM (p := pl.toNat) (by omega)
  refine lv_aload_n (pc := 0) hx hb dX9_changeBehind_0 rfl (lv_at hl 0 rfl) ?_
  refine lv_iload_n (pc := 1) hx hb dX9_changeBehind_1 rfl (lv_at hl 1 rfl) ?_
  refine lv_iload_n (pc := 2) hx hb dX9_changeBehind_2 rfl (lv_at hl 2 rfl) ?_
  refine zkI (pc := 3) (zrV (As := [.int (iI pl), .int (iI mt)]) hx hb hml hown hG hw (c_X9_happened l Γ K X Rf md pl mt (ρ) M (by (first | assumption | omega)) (by (first | assumption | omega)) (by (first | assumption | omega)) (by (first | assumption | omega))) (T := TX9) hmd rfl cb_X9_happened wl_X9_189 rfl ⟨Nat.le_of_ble_eq_true rfl, Nat.le_of_ble_eq_true rfl⟩ hl.1 rfl (Nat.le_of_ble_eq_true rfl) dX9_changeBehind_3 ⟨(by show 0 + (min 5 (dlC X Rf md pl.toNat)) ≤ (min 5 (dlC X Rf md pl.toNat)); omega), (by show 0 + (dlC X Rf md pl.toNat) ≤ (dlC X Rf md pl.toNat); omega)⟩) hw (fun r3 K3 X3 R3 H locs hp3 hw => ?_)
  obtain ⟨hw3, ρ3, ⟨hR3, hg3, hz3⟩, ⟨hs3, hd3⟩, hy3⟩ := hp3
  obtain ⟨hmd3, hlm3⟩ := id hR3.1
  obtain ⟨b6_3, hB6_3, hA6_3, hL6_3, hD6_3⟩ : ∃ a, R3 md 6 = some a ∧ K3 a = (2, 6) ∧ ρ3 a = 2007 ∧ X3 a = M 6 := hR3.fd 6 (by decide) rfl
  obtain ⟨b9_3, hB9_3, hA9_3, hL9_3⟩ : ∃ a, R3 md 9 = some a ∧ K3 a = (2, 6) ∧ ρ3 a = 2010 := hR3.ff 9 (by decide)
  obtain ⟨b10_3, hB10_3, hA10_3, hL10_3⟩ : ∃ a, R3 md 10 = some a ∧ K3 a = (11, 6) ∧ ρ3 a = 2011 := hR3.ff 10 (by decide)
  obtain ⟨b11_3, hB11_3, hA11_3, hL11_3⟩ : ∃ a, R3 md 11 = some a ∧ K3 a = (11, 6) ∧ ρ3 a = 2012 := hR3.ff 11 (by decide)
  obtain ⟨hv9, mo, sv, ⟨hrm, hrs⟩, ⟨hkm, hks⟩, hvm, hvs⟩ := hR3.plc hB9_3 hB10_3 hB11_3 (p := pl.toNat) (by omega) (by omega) hd3
  refine lv_istore_n (pc := 6) (lv' := [(3, .int (iI r3)), (0, .ref md), (1, .int (iI pl)), (2, .int (iI mt))]) hx hb dX9_changeBehind_6 rfl hl (by decide) rfl (fun ls hl => ?_)
  have lp7 : ∀ (n7 : Nat) (at9 : Int) (cu : Int) (H : Heap) (locs : List Loc), (hi : 0 ≤ at9 ∧ at9 ≤ (evNM M pl.toNat) ∧ 0 ≤ cu ∧ cu ≤ 105190559) → (hat : at9.toNat = hpM M pl.toNat cu) → (hnc : fP (chg (savM M pl.toNat)) (105190560 - (cu + 1)).toNat (cu + 1) = ncF (savM M pl.toNat) mt) → (((evNM M pl.toNat) - at9).toNat < n7) → Wd Γ (zA K s.heap.size) K3 X3 R3 s H locs → ∀ ls : Array Slot, lv_has ls 6 [(3, .int (iI at9)), (0, .ref md), (1, .int (iI pl)), (2, .int (iI mt))] → W p l e (rmL 87 (min 5 (dlC X Rf md pl.toNat)) (dlC X Rf md pl.toNat)) s m ([.ref md, .int (iI pl), .int (iI mt)] : List Value).toArray below meth c H locs (0 + (min 5 (dlC X Rf md pl.toNat))) (0 + (dlC X Rf md pl.toNat)) (MQ below (zQ Γ K s.heap.size (pI (fun (r : Int) (K' : zK) (X' : zX) (R' : zR) => r = ncF (savM M pl.toNat) mt ∧ ∃ ρ', (repR ρ' K' X' R' md M ∧ frR ρ K X Rf ρ' K' X' R' ∧ (∀ q, q = 0 ∨ q = 36 → X' md q = X md q)) ∧ (lsR X Rf X' R' md ∧ dlC X' R' md pl.toNat = 0) ∧ ∀ a, (K a).1 ≠ 0 → 3000 ≤ ρ a → X' a = X a))) ([.ref md, .int (iI pl), .int (iI mt)] : List Value).toArray s (min 5 (dlC X Rf md pl.toNat)) (dlC X Rf md pl.toNat) (zA K s.heap.size)) (F0 m 7 ls []) := by
    intro n7
    induction n7 with
    | zero => intro at9 cu H locs hi hat hnc hm7; exact absurd hm7 (Nat.not_lt_zero _)
    | succ n7 ih7 =>
      intro at9 cu H locs hi hat hnc hm7 hw ls hl
      refine lv_iload_n (pc := 7) hx hb dX9_changeBehind_7 rfl (lv_at hl 0 rfl) ?_
      refine lv_aload_n (pc := 8) hx hb dX9_changeBehind_8 rfl (lv_at hl 1 rfl) ?_
      refine zgetR (pc := 9) hx hb hG hown hw hmd3 (T := TX9) rfl 9 (by decide) rfl wf_X9_28 rfl hB9_3 dX9_changeBehind_9 ?_
      refine lv_iload_n (pc := 12) hx hb dX9_changeBehind_12 rfl (lv_at hl 2 rfl) ?_
      refine zald (pc := 13) hx hb hw hA9_3 ⟨by omega, by omega⟩ (by omega) dX9_changeBehind_13 ?_
      refine zicmp_ge (pc := 14) hx hb 70 (by omega) (by omega) dX9_changeBehind_14 (by decide) (fun c14 => ?_) (fun c14 => ?_)
      · skip
        refine ziconst (pc := 70) (n := (-1)) hx hb dX9_changeBehind_70 ?_
        exact zretI (pc := 71) hx hb hlocks hr hw (by show 0 + (min 5 (dlC X Rf md pl.toNat)) ≤ (min 5 (dlC X Rf md pl.toNat)); omega) (by show 0 + (dlC X Rf md pl.toNat) ≤ (dlC X Rf md pl.toNat); omega) dX9_changeBehind_71 (by exact ⟨by rw [← hnc, nc_none hat (by omega) (fun _ => by omega)], ρ3, ⟨hR3, hg3, hz3⟩, ⟨hs3, hd3⟩, hy3⟩)
      · skip
        have hvx := hvm at9.toNat (by omega)
        have hrx := evMo_rng hM (p := pl.toNat) (by omega) (k := at9.toNat) (by omega)
        refine lv_aload_n (pc := 17) hx hb dX9_changeBehind_17 rfl (lv_at hl 1 rfl) ?_
        refine zgetR (pc := 18) hx hb hG hown hw hmd3 (T := TX9) rfl 10 (by decide) rfl wf_X9_32 rfl hB10_3 dX9_changeBehind_18 ?_
        refine lv_iload_n (pc := 21) hx hb dX9_changeBehind_21 rfl (lv_at hl 2 rfl) ?_
        refine zaaldR5 (pc := 22) hx hb hw hA10_3 ⟨by omega, by omega⟩ (by omega) hrm dX9_changeBehind_22 ?_
        refine lv_iload_n (pc := 23) hx hb dX9_changeBehind_23 rfl (lv_at hl 0 rfl) ?_
        refine zald (pc := 24) hx hb hw hkm ⟨by omega, by omega⟩ (by omega) dX9_changeBehind_24 ?_
        refine ztop (fun x25 ex25 => ?_)
        refine lv_istore (pc := 25) (lv' := [(4, .int (iI x25)), (3, .int (iI at9)), (0, .ref md), (1, .int (iI pl)), (2, .int (iI mt))]) hx hb dX9_changeBehind_25 hl (by decide) rfl (fun ls hl => ?_)
        refine lv_iload (pc := 27) hx hb dX9_changeBehind_27 (lv_at hl 0 rfl) ?_
        refine zldc (pc := 29) (n := 105190559) hx hb hown hG wk_X9_95 dX9_changeBehind_29 ?_
        refine zicmp_le (pc := 31) hx hb 36 (by omega) (by omega) dX9_changeBehind_31 (by decide) (fun c31 => ?_) (fun c31 => ?_)
        · skip
          have hst := nc_step (M := M) (p := pl.toNat) (c := cu) (nx := x25) (E := 105190560) (h := at9.toNat) hat (by omega) (by omega) (by omega)
          refine lv_aload_n (pc := 36) hx hb dX9_changeBehind_36 rfl (lv_at hl 2 rfl) ?_
          refine lv_iload_n (pc := 37) hx hb dX9_changeBehind_37 rfl (lv_at hl 3 rfl) ?_
          refine lv_iload (pc := 38) hx hb dX9_changeBehind_38 (lv_at hl 0 rfl) ?_
          refine zkIp (pc := 40) (zrV (As := [.int (iI pl), .int (iI x25)]) hx hb hml hown hG hw (c_X9_happened_L l Γ K3 X3 R3 md pl x25 (ρ3) M (by (first | assumption | omega)) (by (first | assumption | omega)) (by (first | assumption | omega)) (by (first | assumption | omega)) (by (first | assumption | omega))) (T := TX9) hmd3 rfl cb_X9_happened wl_X9_189 rfl ⟨Nat.le_of_ble_eq_true rfl, Nat.le_of_ble_eq_true rfl⟩ hl.1 rfl (Nat.le_of_ble_eq_true rfl) dX9_changeBehind_40 ⟨(by show 0 + (min 5 (dlC X Rf md pl.toNat)) + 0 ≤ (min 5 (dlC X Rf md pl.toNat)); omega), (by show 0 + (dlC X Rf md pl.toNat) + 0 ≤ (dlC X Rf md pl.toNat); omega)⟩) hw (fun r40 H locs hp40 hw => ?_)
          subst hp40
          have hp40f0 := (hpM_spec (M := M) (p := pl.toNat) x25).1
          have hps := hpM_spec (M := M) (p := pl.toNat) x25
          refine ztop (fun x43 ex43 => ?_)
          refine lv_istore (pc := 43) (lv' := [(5, .int (iI x43)), (4, .int (iI x25)), (3, .int (iI at9)), (0, .ref md), (1, .int (iI pl)), (2, .int (iI mt))]) hx hb dX9_changeBehind_43 hl (by decide) rfl (fun ls hl => ?_)
          refine lv_aload_n (pc := 45) hx hb dX9_changeBehind_45 rfl (lv_at hl 3 rfl) ?_
          refine lv_iload_n (pc := 46) hx hb dX9_changeBehind_46 rfl (lv_at hl 4 rfl) ?_
          refine lv_iload (pc := 47) hx hb dX9_changeBehind_47 (lv_at hl 0 rfl) ?_
          have hbd := evSv_rng hM (p := pl.toNat) (by omega) (k := hpM M pl.toNat x25) hps.1
          have hgt : at9.toNat < hpM M pl.toNat x25 := by
            by_cases g : at9.toNat < hpM M pl.toNat x25
            · exact g
            · exfalso; have h9 := hps.2.2 at9.toNat (by omega) (by omega); omega
          have hs1 := svb_eq (z := x43) hvs ⟨by omega, by have := hps.1; omega⟩
          rw [show x43.toNat = hpM M pl.toNat x25 by omega] at hs1
          have hs2 := svb_eq (z := at9) hvs ⟨by omega, by omega⟩
          have hb2 := evSv_rng hM (p := pl.toNat) (by omega) (k := at9.toNat) (by omega)
          refine zkIp (pc := 49) (zrV (As := [.int (iI pl), .int (iI x43)]) hx hb hml hown hG hw (c_X9_savingBehind l Γ K3 X3 R3 md pl x43 b11_3 sv (evNM M pl.toNat) (by (first | assumption | omega)) (by (first | assumption | omega)) (by (first | assumption | omega)) (by (first | assumption | omega)) (by (first | assumption | omega)) (by (first | assumption | omega))) (T := TX9) hmd3 rfl cb_X9_savingBehind wl_X9_192 rfl ⟨Nat.le_of_ble_eq_true rfl, Nat.le_of_ble_eq_true rfl⟩ hl.1 rfl (Nat.le_of_ble_eq_true rfl) dX9_changeBehind_49 ⟨(by show 0 + (min 5 (dlC X Rf md pl.toNat)) + 0 ≤ (min 5 (dlC X Rf md pl.toNat)); omega), (by show 0 + (dlC X Rf md pl.toNat) + 0 ≤ (dlC X Rf md pl.toNat); omega)⟩) hw (fun r49 H locs hp49 hw => ?_)
          subst hp49
          refine lv_aload_n (pc := 52) hx hb dX9_changeBehind_52 rfl (lv_at hl 3 rfl) ?_
          refine lv_iload_n (pc := 53) hx hb dX9_changeBehind_53 rfl (lv_at hl 4 rfl) ?_
          refine lv_iload_n (pc := 54) hx hb dX9_changeBehind_54 rfl (lv_at hl 2 rfl) ?_
          refine zkIp (pc := 55) (zrV (As := [.int (iI pl), .int (iI at9)]) hx hb hml hown hG hw (c_X9_savingBehind l Γ K3 X3 R3 md pl at9 b11_3 sv (evNM M pl.toNat) (by (first | assumption | omega)) (by (first | assumption | omega)) (by (first | assumption | omega)) (by (first | assumption | omega)) (by (first | assumption | omega)) (by (first | assumption | omega))) (T := TX9) hmd3 rfl cb_X9_savingBehind wl_X9_192 rfl ⟨Nat.le_of_ble_eq_true rfl, Nat.le_of_ble_eq_true rfl⟩ hl.1 rfl (Nat.le_of_ble_eq_true rfl) dX9_changeBehind_55 ⟨(by show 0 + (min 5 (dlC X Rf md pl.toNat)) + 0 ≤ (min 5 (dlC X Rf md pl.toNat)); omega), (by show 0 + (dlC X Rf md pl.toNat) + 0 ≤ (dlC X Rf md pl.toNat); omega)⟩) hw (fun r55 H locs hp55 hw => ?_)
          subst hp55
          rw [hs1, hs2]
          refine zicmp_eq (pc := 58) hx hb 64 (by omega) (by omega) dX9_changeBehind_58 (by decide) (fun c58 => ?_) (fun c58 => ?_)
          · skip
            refine lv_iload (pc := 64) hx hb dX9_changeBehind_64 (lv_at hl 0 rfl) ?_
            refine lv_istore_n (pc := 66) (lv' := [(3, .int (iI x43)), (5, .int (iI x43)), (4, .int (iI x25)), (0, .ref md), (1, .int (iI pl)), (2, .int (iI mt))]) hx hb dX9_changeBehind_66 rfl hl (by decide) rfl (fun ls hl => ?_)
            refine lv_goto (pc := 67) (tgt := 7) hx hb dX9_changeBehind_67 (by decide) ?_
            exact ih7 x43 x25 _ _ (by omega) (by omega) (by rw [← hnc, hst.2, if_pos (by omega)]) (by omega) hw _ (lv_sub hl [0, 3, 4, 5] rfl)
          · skip
            refine lv_iload (pc := 61) hx hb dX9_changeBehind_61 (lv_at hl 1 rfl) ?_
            exact zretI (pc := 63) hx hb hlocks hr hw (by show 0 + (min 5 (dlC X Rf md pl.toNat)) ≤ (min 5 (dlC X Rf md pl.toNat)); omega) (by show 0 + (dlC X Rf md pl.toNat) ≤ (dlC X Rf md pl.toNat); omega) dX9_changeBehind_63 (by exact ⟨by rw [← hnc, hst.2, if_neg (by omega)], ρ3, ⟨hR3, hg3, hz3⟩, ⟨hs3, hd3⟩, hy3⟩)
        · skip
          refine ziconst (pc := 34) (n := (-1)) hx hb dX9_changeBehind_34 ?_
          exact zretI (pc := 35) hx hb hlocks hr hw (by show 0 + (min 5 (dlC X Rf md pl.toNat)) ≤ (min 5 (dlC X Rf md pl.toNat)); omega) (by show 0 + (dlC X Rf md pl.toNat) ≤ (dlC X Rf md pl.toNat); omega) dX9_changeBehind_35 (by exact ⟨by rw [← hnc, nc_none hat (by omega) (fun _ => by omega)], ρ3, ⟨hR3, hg3, hz3⟩, ⟨hs3, hd3⟩, hy3⟩)
  exact lp7 _ r3 mt _ _ (by have h9 := (hpM_spec (M := M) (p := pl.toNat) mt).1; omega) (by omega) (by rfl) (Nat.lt_succ_self _) hw _ (lv_sub hl [0, 1, 2, 3] rfl)
