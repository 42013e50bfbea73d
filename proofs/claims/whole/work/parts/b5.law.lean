set_option maxHeartbeats 4000000 in
set_option maxRecDepth 100000 in
theorem c_L_usePattern (l : Launch) (hl9 : l.stackTraces = false) (Γ : zG) (K : zK) (X : zX) (Rf : zR) (x : Nat) (a : Int) (b9 : Int) (out : Nat) (ρ : zL) (M : zM) (hC : repC ρ K X Rf x M) (hM : okM M) (h1 : fit a ∧ fit b9) (hko : K out = (4, 1)) (hlo : ρ out = 4000 ∨ ρ out = 4001) : Cl l yL_usePattern cL_usePattern 5 (some .int) [(0, 10, 13, 19), (0, 10, 17, 46)] 8 3 18 Γ [.ref x, .int (iI a), .int (iI b9), .ref out] K X Rf (pI (fun (r : Int) (K' : zK) (X' : zX) (R' : zR) => r = cdUse M a b9 ∧ (cdUse M a b9 = 0 → X' out 0 = (wI (serM M a.toNat 9 + 1))) ∧ ∃ ρ', repC ρ' K' X' R' x (if cdUse M a b9 = 0 then (usaM M a.toNat b9) else M) ∧ frO ρ K X Rf out ρ' K' X' R')) := by
  refine Cl.of (by decide +kernel) (Nat.le_of_ble_eq_true rfl) ?_
  intro p e s m below meth c ls hx hb hr hml hown hG h46 hlocks hname ht hX hw hl
  have hl : lv_has ls 5 [(0, .ref x), (1, .int (iI a)), (2, .int (iI b9)), (3, .ref out)] := hl
  have hCk := hC.1.1
  refine lv_aload_n (pc := 0) hx hb dL_usePattern_0 rfl (lv_at hl 3 rfl) ?_
  refine ziconst (pc := 1) (n := 0) hx hb dL_usePattern_1 ?_
  refine lv_aload_n (pc := 2) hx hb dL_usePattern_2 rfl (lv_at hl 0 rfl) ?_
  refine lv_iload_n (pc := 3) hx hb dL_usePattern_3 rfl (lv_at hl 1 rfl) ?_
  refine lv_iload_n (pc := 4) hx hb dL_usePattern_4 rfl (lv_at hl 2 rfl) ?_
  refine zxkI (pc := 5) (zxrV (As := [.int (iI a), .int (iI b9)]) hx hb hml hown hG hX hw (c_X8_usePattern l hl9 Γ K X Rf x a b9 (ρ) M (by (first | assumption | omega)) (by (first | assumption | omega)) (by (first | assumption | omega))) (T := TX8) hCk rfl cb_X8_usePattern wl_L_90 rfl ⟨Nat.le_of_ble_eq_true rfl, Nat.le_of_ble_eq_true rfl⟩ hl.1 rfl (Nat.le_of_ble_eq_true rfl) dL_usePattern_5 ⟨(by show 0 + 3 ≤ 3; omega), (by show 0 + 18 ≤ 18; omega)⟩) hw (fun E9 ce9 q9 H locs hxp9 hw hce9 hcv9 hcl9 => ?_) (fun r5 K5 X5 R5 H locs hp5 hw => ?_)
  · skip
    rcases hxp9 with ⟨rfl, hq9⟩ | ⟨rfl, hq9⟩
    · skip
      refine zht1 (pc := 5) ⟨0, 10, 13, 19⟩ hown hX ht rfl (by decide) (hG _ wn_L_19) zg_391 hce9 hcv9 hcl9 ?_
      refine lv_astore (pc := 13) (lv' := [(4, .ref q9), (0, .ref x), (1, .int (iI a)), (2, .int (iI b9)), (3, .ref out)]) hx hb dL_usePattern_13 hl (by decide) rfl (fun ls hl => ?_)
      refine ziconst (pc := 15) (n := 1) hx hb dL_usePattern_15 ?_
      exact zretI (pc := 16) hx hb hlocks hr hw (by show 0 + 3 ≤ 3; omega) (by show 0 + 18 ≤ 18; omega) dL_usePattern_16 (by exact ⟨hq9.symm, fun h => absurd (hq9.symm.trans h) (by decide), ρ, (by rw [if_neg (by rw [hq9]; decide)]; exact hC), frO_refl⟩)
    · skip
      refine zht2 (pc := 5) ⟨0, 10, 13, 19⟩ ⟨0, 10, 17, 46⟩ hown hX ht rfl (by decide) h46 zg_121 (by decide) (hG _ wn_L_19) znc2 hce9 hcv9 hcl9 ?_
      refine lv_astore (pc := 17) (lv' := [(4, .ref q9), (0, .ref x), (1, .int (iI a)), (2, .int (iI b9)), (3, .ref out)]) hx hb dL_usePattern_17 hl (by decide) rfl (fun ls hl => ?_)
      refine ziconst (pc := 19) (n := 2) hx hb dL_usePattern_19 ?_
      exact zretI (pc := 20) hx hb hlocks hr hw (by show 0 + 3 ≤ 3; omega) (by show 0 + 18 ≤ 18; omega) dL_usePattern_20 (by exact ⟨hq9.symm, fun h => absurd (hq9.symm.trans h) (by decide), ρ, (by rw [if_neg (by rw [hq9]; decide)]; exact hC), frO_refl⟩)
  · skip
    obtain ⟨⟨hv9, hc9⟩, ρ1, hC1, hf1⟩ := hp5
    obtain ⟨hko1, hlo1, -⟩ := hf1 out (by rw [hko]; exact Nat.succ_ne_zero _)
    rw [hko] at hko1
    refine zi2lw (pc := 8) hx hb dL_usePattern_8 ?_
    refine zlast (pc := 9) hx hb hw hko1 ⟨by omega, by omega⟩ (by omega) dL_usePattern_9 (fun H locs hw => ?_)
    obtain ⟨X9, eX9⟩ : ∃ Y : zX, Y = up2 X5 out 0 (wI r5) := ⟨_, rfl⟩
    replace hw := Wd.re hw rfl eX9 rfl
    refine lv_goto (pc := 10) (tgt := 21) hx hb dL_usePattern_10 (by decide) ?_
    refine ziconst (pc := 21) (n := 0) hx hb dL_usePattern_21 ?_
    exact zretI (pc := 22) hx hb hlocks hr hw (by show 0 + 3 ≤ 3; omega) (by show 0 + 18 ≤ 18; omega) dL_usePattern_22 (by have L9 := Lend hC1 hf1 (Or.inl hko) hlo eX9; exact ⟨hc9.symm, fun _ => (L9.1.trans (congrArg wI hv9)), ρ1, (by rw [if_pos hc9]; exact L9.2.1), L9.2.2⟩)
set_option maxHeartbeats 4000000 in
set_option maxRecDepth 100000 in
theorem c_L_setChoice (l : Launch) (hl9 : l.stackTraces = false) (Γ : zG) (K : zK) (X : zX) (Rf : zR) (x : Nat) (a : Int) (v : Int) (out : Nat) (ρ : zL) (M : zM) (hC : repC ρ K X Rf x M) (hM : okM M) (h1 : fit a ∧ fit v) (hko : K out = (4, 1)) (hlo : ρ out = 4000 ∨ ρ out = 4001) : Cl l yL_setChoice cL_setChoice 5 (some .int) [(0, 10, 13, 19), (0, 10, 17, 13)] 8 2 12 Γ [.ref x, .int (iI a), .int (iI v), .ref out] K X Rf (pI (fun (r : Int) (K' : zK) (X' : zX) (R' : zR) => r = cdSet M a v (-6) 6 ∧ (cdSet M a v (-6) 6 = 0 → X' out 0 = (wI (serM M a.toNat 5))) ∧ ∃ ρ', repC ρ' K' X' R' x (if cdSet M a v (-6) 6 = 0 then (up2 M 17 (11 * a.toNat + 5) v) else M) ∧ frO ρ K X Rf out ρ' K' X' R')) := by
  refine Cl.of (by decide +kernel) (Nat.le_of_ble_eq_true rfl) ?_
  intro p e s m below meth c ls hx hb hr hml hown hG h46 hlocks hname ht hX hw hl
  have hl : lv_has ls 5 [(0, .ref x), (1, .int (iI a)), (2, .int (iI v)), (3, .ref out)] := hl
  have hCk := hC.1.1
  refine lv_aload_n (pc := 0) hx hb dL_setChoice_0 rfl (lv_at hl 3 rfl) ?_
  refine ziconst (pc := 1) (n := 0) hx hb dL_setChoice_1 ?_
  refine lv_aload_n (pc := 2) hx hb dL_setChoice_2 rfl (lv_at hl 0 rfl) ?_
  refine lv_iload_n (pc := 3) hx hb dL_setChoice_3 rfl (lv_at hl 1 rfl) ?_
  refine lv_iload_n (pc := 4) hx hb dL_setChoice_4 rfl (lv_at hl 2 rfl) ?_
  refine zxkI (pc := 5) (zxrV (As := [.int (iI a), .int (iI v)]) hx hb hml hown hG hX hw (c_X8_setChoice l hl9 Γ K X Rf x a v (ρ) M (by (first | assumption | omega)) (by (first | assumption | omega)) (by (first | assumption | omega))) (T := TX8) hCk rfl cb_X8_setChoice wl_L_93 rfl ⟨Nat.le_of_ble_eq_true rfl, Nat.le_of_ble_eq_true rfl⟩ hl.1 rfl (Nat.le_of_ble_eq_true rfl) dL_setChoice_5 ⟨(by show 0 + 2 ≤ 2; omega), (by show 0 + 12 ≤ 12; omega)⟩) hw (fun E9 ce9 q9 H locs hxp9 hw hce9 hcv9 hcl9 => ?_) (fun r5 K5 X5 R5 H locs hp5 hw => ?_)
  · skip
    rcases hxp9 with ⟨rfl, hq9⟩ | ⟨rfl, hq9⟩
    · skip
      refine zht1 (pc := 5) ⟨0, 10, 13, 19⟩ hown hX ht rfl (by decide) (hG _ wn_L_19) zg_391 hce9 hcv9 hcl9 ?_
      refine lv_astore (pc := 13) (lv' := [(4, .ref q9), (0, .ref x), (1, .int (iI a)), (2, .int (iI v)), (3, .ref out)]) hx hb dL_setChoice_13 hl (by decide) rfl (fun ls hl => ?_)
      refine ziconst (pc := 15) (n := 1) hx hb dL_setChoice_15 ?_
      exact zretI (pc := 16) hx hb hlocks hr hw (by show 0 + 2 ≤ 2; omega) (by show 0 + 12 ≤ 12; omega) dL_setChoice_16 (by exact ⟨hq9.symm, fun h => absurd (hq9.symm.trans h) (by decide), ρ, (by rw [if_neg (by rw [hq9]; decide)]; exact hC), frO_refl⟩)
    · skip
      refine zht2 (pc := 5) ⟨0, 10, 13, 19⟩ ⟨0, 10, 17, 13⟩ hown hX ht rfl (by decide) (hG _ wn_L_13) zg_60 (by decide) (hG _ wn_L_19) znc1 hce9 hcv9 hcl9 ?_
      refine lv_astore (pc := 17) (lv' := [(4, .ref q9), (0, .ref x), (1, .int (iI a)), (2, .int (iI v)), (3, .ref out)]) hx hb dL_setChoice_17 hl (by decide) rfl (fun ls hl => ?_)
      refine ziconst (pc := 19) (n := 2) hx hb dL_setChoice_19 ?_
      exact zretI (pc := 20) hx hb hlocks hr hw (by show 0 + 2 ≤ 2; omega) (by show 0 + 12 ≤ 12; omega) dL_setChoice_20 (by exact ⟨hq9.symm, fun h => absurd (hq9.symm.trans h) (by decide), ρ, (by rw [if_neg (by rw [hq9]; decide)]; exact hC), frO_refl⟩)
  · skip
    obtain ⟨⟨hv9, hc9⟩, ρ1, hC1, hf1⟩ := hp5
    obtain ⟨hko1, hlo1, -⟩ := hf1 out (by rw [hko]; exact Nat.succ_ne_zero _)
    rw [hko] at hko1
    refine zi2lw (pc := 8) hx hb dL_setChoice_8 ?_
    refine zlast (pc := 9) hx hb hw hko1 ⟨by omega, by omega⟩ (by omega) dL_setChoice_9 (fun H locs hw => ?_)
    obtain ⟨X9, eX9⟩ : ∃ Y : zX, Y = up2 X5 out 0 (wI r5) := ⟨_, rfl⟩
    replace hw := Wd.re hw rfl eX9 rfl
    refine lv_goto (pc := 10) (tgt := 21) hx hb dL_setChoice_10 (by decide) ?_
    refine ziconst (pc := 21) (n := 0) hx hb dL_setChoice_21 ?_
    exact zretI (pc := 22) hx hb hlocks hr hw (by show 0 + 2 ≤ 2; omega) (by show 0 + 12 ≤ 12; omega) dL_setChoice_22 (by have L9 := Lend hC1 hf1 (Or.inl hko) hlo eX9; exact ⟨hc9.symm, fun _ => (L9.1.trans (congrArg wI hv9)), ρ1, (by rw [if_pos hc9]; exact L9.2.1), L9.2.2⟩)
set_option maxHeartbeats 4000000 in
set_option maxRecDepth 100000 in
theorem c_L_setMost (l : Launch) (hl9 : l.stackTraces = false) (Γ : zG) (K : zK) (X : zX) (Rf : zR) (x : Nat) (a : Int) (v : Int) (out : Nat) (ρ : zL) (M : zM) (hC : repC ρ K X Rf x M) (hM : okM M) (h1 : fit a ∧ fit v) (hko : K out = (4, 1)) (hlo : ρ out = 4000 ∨ ρ out = 4001) : Cl l yL_setMost cL_setMost 5 (some .int) [(0, 10, 13, 19), (0, 10, 17, 13)] 8 2 12 Γ [.ref x, .int (iI a), .int (iI v), .ref out] K X Rf (pI (fun (r : Int) (K' : zK) (X' : zX) (R' : zR) => r = cdSet M a v 0 500 ∧ (cdSet M a v 0 500 = 0 → X' out 0 = (wI (serM M a.toNat 6))) ∧ ∃ ρ', repC ρ' K' X' R' x (if cdSet M a v 0 500 = 0 then (up2 M 17 (11 * a.toNat + 6) v) else M) ∧ frO ρ K X Rf out ρ' K' X' R')) := by
  refine Cl.of (by decide +kernel) (Nat.le_of_ble_eq_true rfl) ?_
  intro p e s m below meth c ls hx hb hr hml hown hG h46 hlocks hname ht hX hw hl
  have hl : lv_has ls 5 [(0, .ref x), (1, .int (iI a)), (2, .int (iI v)), (3, .ref out)] := hl
  have hCk := hC.1.1
  refine lv_aload_n (pc := 0) hx hb dL_setMost_0 rfl (lv_at hl 3 rfl) ?_
  refine ziconst (pc := 1) (n := 0) hx hb dL_setMost_1 ?_
  refine lv_aload_n (pc := 2) hx hb dL_setMost_2 rfl (lv_at hl 0 rfl) ?_
  refine lv_iload_n (pc := 3) hx hb dL_setMost_3 rfl (lv_at hl 1 rfl) ?_
  refine lv_iload_n (pc := 4) hx hb dL_setMost_4 rfl (lv_at hl 2 rfl) ?_
  refine zxkI (pc := 5) (zxrV (As := [.int (iI a), .int (iI v)]) hx hb hml hown hG hX hw (c_X8_setMost l hl9 Γ K X Rf x a v (ρ) M (by (first | assumption | omega)) (by (first | assumption | omega)) (by (first | assumption | omega))) (T := TX8) hCk rfl cb_X8_setMost wl_L_96 rfl ⟨Nat.le_of_ble_eq_true rfl, Nat.le_of_ble_eq_true rfl⟩ hl.1 rfl (Nat.le_of_ble_eq_true rfl) dL_setMost_5 ⟨(by show 0 + 2 ≤ 2; omega), (by show 0 + 12 ≤ 12; omega)⟩) hw (fun E9 ce9 q9 H locs hxp9 hw hce9 hcv9 hcl9 => ?_) (fun r5 K5 X5 R5 H locs hp5 hw => ?_)
  · skip
    rcases hxp9 with ⟨rfl, hq9⟩ | ⟨rfl, hq9⟩
    · skip
      refine zht1 (pc := 5) ⟨0, 10, 13, 19⟩ hown hX ht rfl (by decide) (hG _ wn_L_19) zg_391 hce9 hcv9 hcl9 ?_
      refine lv_astore (pc := 13) (lv' := [(4, .ref q9), (0, .ref x), (1, .int (iI a)), (2, .int (iI v)), (3, .ref out)]) hx hb dL_setMost_13 hl (by decide) rfl (fun ls hl => ?_)
      refine ziconst (pc := 15) (n := 1) hx hb dL_setMost_15 ?_
      exact zretI (pc := 16) hx hb hlocks hr hw (by show 0 + 2 ≤ 2; omega) (by show 0 + 12 ≤ 12; omega) dL_setMost_16 (by exact ⟨hq9.symm, fun h => absurd (hq9.symm.trans h) (by decide), ρ, (by rw [if_neg (by rw [hq9]; decide)]; exact hC), frO_refl⟩)
    · skip
      refine zht2 (pc := 5) ⟨0, 10, 13, 19⟩ ⟨0, 10, 17, 13⟩ hown hX ht rfl (by decide) (hG _ wn_L_13) zg_60 (by decide) (hG _ wn_L_19) znc1 hce9 hcv9 hcl9 ?_
      refine lv_astore (pc := 17) (lv' := [(4, .ref q9), (0, .ref x), (1, .int (iI a)), (2, .int (iI v)), (3, .ref out)]) hx hb dL_setMost_17 hl (by decide) rfl (fun ls hl => ?_)
      refine ziconst (pc := 19) (n := 2) hx hb dL_setMost_19 ?_
      exact zretI (pc := 20) hx hb hlocks hr hw (by show 0 + 2 ≤ 2; omega) (by show 0 + 12 ≤ 12; omega) dL_setMost_20 (by exact ⟨hq9.symm, fun h => absurd (hq9.symm.trans h) (by decide), ρ, (by rw [if_neg (by rw [hq9]; decide)]; exact hC), frO_refl⟩)
  · skip
    obtain ⟨⟨hv9, hc9⟩, ρ1, hC1, hf1⟩ := hp5
    obtain ⟨hko1, hlo1, -⟩ := hf1 out (by rw [hko]; exact Nat.succ_ne_zero _)
    rw [hko] at hko1
    refine zi2lw (pc := 8) hx hb dL_setMost_8 ?_
    refine zlast (pc := 9) hx hb hw hko1 ⟨by omega, by omega⟩ (by omega) dL_setMost_9 (fun H locs hw => ?_)
    obtain ⟨X9, eX9⟩ : ∃ Y : zX, Y = up2 X5 out 0 (wI r5) := ⟨_, rfl⟩
    replace hw := Wd.re hw rfl eX9 rfl
    refine lv_goto (pc := 10) (tgt := 21) hx hb dL_setMost_10 (by decide) ?_
    refine ziconst (pc := 21) (n := 0) hx hb dL_setMost_21 ?_
    exact zretI (pc := 22) hx hb hlocks hr hw (by show 0 + 2 ≤ 2; omega) (by show 0 + 12 ≤ 12; omega) dL_setMost_22 (by have L9 := Lend hC1 hf1 (Or.inl hko) hlo eX9; exact ⟨hc9.symm, fun _ => (L9.1.trans (congrArg wI hv9)), ρ1, (by rw [if_pos hc9]; exact L9.2.1), L9.2.2⟩)
set_option maxHeartbeats 4000000 in
set_option maxRecDepth 100000 in
theorem c_L_setLast (l : Launch) (hl9 : l.stackTraces = false) (Γ : zG) (K : zK) (X : zX) (Rf : zR) (x : Nat) (a : Int) (v : Int) (out : Nat) (ρ : zL) (M : zM) (hC : repC ρ K X Rf x M) (hM : okM M) (h1 : fit a ∧ fit v) (hko : K out = (4, 1)) (hlo : ρ out = 4000 ∨ ρ out = 4001) : Cl l yL_setLast cL_setLast 5 (some .int) [(0, 10, 13, 19), (0, 10, 17, 13)] 8 2 12 Γ [.ref x, .int (iI a), .int (iI v), .ref out] K X Rf (pI (fun (r : Int) (K' : zK) (X' : zX) (R' : zR) => r = cdSet M a v (serM M a.toNat 1 / 1440) (serM M a.toNat 8) ∧ (cdSet M a v (serM M a.toNat 1 / 1440) (serM M a.toNat 8) = 0 → X' out 0 = (wI (serM M a.toNat 7))) ∧ ∃ ρ', repC ρ' K' X' R' x (if cdSet M a v (serM M a.toNat 1 / 1440) (serM M a.toNat 8) = 0 then (up2 M 17 (11 * a.toNat + 7) v) else M) ∧ frO ρ K X Rf out ρ' K' X' R')) := by
  refine Cl.of (by decide +kernel) (Nat.le_of_ble_eq_true rfl) ?_
  intro p e s m below meth c ls hx hb hr hml hown hG h46 hlocks hname ht hX hw hl
  have hl : lv_has ls 5 [(0, .ref x), (1, .int (iI a)), (2, .int (iI v)), (3, .ref out)] := hl
  have hCk := hC.1.1
  refine lv_aload_n (pc := 0) hx hb dL_setLast_0 rfl (lv_at hl 3 rfl) ?_
  refine ziconst (pc := 1) (n := 0) hx hb dL_setLast_1 ?_
  refine lv_aload_n (pc := 2) hx hb dL_setLast_2 rfl (lv_at hl 0 rfl) ?_
  refine lv_iload_n (pc := 3) hx hb dL_setLast_3 rfl (lv_at hl 1 rfl) ?_
  refine lv_iload_n (pc := 4) hx hb dL_setLast_4 rfl (lv_at hl 2 rfl) ?_
  refine zxkI (pc := 5) (zxrV (As := [.int (iI a), .int (iI v)]) hx hb hml hown hG hX hw (c_X8_setLast l hl9 Γ K X Rf x a v (ρ) M (by (first | assumption | omega)) (by (first | assumption | omega)) (by (first | assumption | omega))) (T := TX8) hCk rfl cb_X8_setLast wl_L_99 rfl ⟨Nat.le_of_ble_eq_true rfl, Nat.le_of_ble_eq_true rfl⟩ hl.1 rfl (Nat.le_of_ble_eq_true rfl) dL_setLast_5 ⟨(by show 0 + 2 ≤ 2; omega), (by show 0 + 12 ≤ 12; omega)⟩) hw (fun E9 ce9 q9 H locs hxp9 hw hce9 hcv9 hcl9 => ?_) (fun r5 K5 X5 R5 H locs hp5 hw => ?_)
  · skip
    rcases hxp9 with ⟨rfl, hq9⟩ | ⟨rfl, hq9⟩
    · skip
      refine zht1 (pc := 5) ⟨0, 10, 13, 19⟩ hown hX ht rfl (by decide) (hG _ wn_L_19) zg_391 hce9 hcv9 hcl9 ?_
      refine lv_astore (pc := 13) (lv' := [(4, .ref q9), (0, .ref x), (1, .int (iI a)), (2, .int (iI v)), (3, .ref out)]) hx hb dL_setLast_13 hl (by decide) rfl (fun ls hl => ?_)
      refine ziconst (pc := 15) (n := 1) hx hb dL_setLast_15 ?_
      exact zretI (pc := 16) hx hb hlocks hr hw (by show 0 + 2 ≤ 2; omega) (by show 0 + 12 ≤ 12; omega) dL_setLast_16 (by exact ⟨hq9.symm, fun h => absurd (hq9.symm.trans h) (by decide), ρ, (by rw [if_neg (by rw [hq9]; decide)]; exact hC), frO_refl⟩)
    · skip
      refine zht2 (pc := 5) ⟨0, 10, 13, 19⟩ ⟨0, 10, 17, 13⟩ hown hX ht rfl (by decide) (hG _ wn_L_13) zg_60 (by decide) (hG _ wn_L_19) znc1 hce9 hcv9 hcl9 ?_
      refine lv_astore (pc := 17) (lv' := [(4, .ref q9), (0, .ref x), (1, .int (iI a)), (2, .int (iI v)), (3, .ref out)]) hx hb dL_setLast_17 hl (by decide) rfl (fun ls hl => ?_)
      refine ziconst (pc := 19) (n := 2) hx hb dL_setLast_19 ?_
      exact zretI (pc := 20) hx hb hlocks hr hw (by show 0 + 2 ≤ 2; omega) (by show 0 + 12 ≤ 12; omega) dL_setLast_20 (by exact ⟨hq9.symm, fun h => absurd (hq9.symm.trans h) (by decide), ρ, (by rw [if_neg (by rw [hq9]; decide)]; exact hC), frO_refl⟩)
  · skip
    obtain ⟨⟨hv9, hc9⟩, ρ1, hC1, hf1⟩ := hp5
    obtain ⟨hko1, hlo1, -⟩ := hf1 out (by rw [hko]; exact Nat.succ_ne_zero _)
    rw [hko] at hko1
    refine zi2lw (pc := 8) hx hb dL_setLast_8 ?_
    refine zlast (pc := 9) hx hb hw hko1 ⟨by omega, by omega⟩ (by omega) dL_setLast_9 (fun H locs hw => ?_)
    obtain ⟨X9, eX9⟩ : ∃ Y : zX, Y = up2 X5 out 0 (wI r5) := ⟨_, rfl⟩
    replace hw := Wd.re hw rfl eX9 rfl
    refine lv_goto (pc := 10) (tgt := 21) hx hb dL_setLast_10 (by decide) ?_
    refine ziconst (pc := 21) (n := 0) hx hb dL_setLast_21 ?_
    exact zretI (pc := 22) hx hb hlocks hr hw (by show 0 + 2 ≤ 2; omega) (by show 0 + 12 ≤ 12; omega) dL_setLast_22 (by have L9 := Lend hC1 hf1 (Or.inl hko) hlo eX9; exact ⟨hc9.symm, fun _ => (L9.1.trans (congrArg wI hv9)), ρ1, (by rw [if_pos hc9]; exact L9.2.1), L9.2.2⟩)
set_option maxHeartbeats 4000000 in
set_option maxRecDepth 100000 in
theorem c_L_except (l : Launch) (hl9 : l.stackTraces = false) (Γ : zG) (K : zK) (X : zX) (Rf : zR) (x : Nat) (a : Int) (day : Int) (out : Nat) (ρ : zL) (M : zM) (hC : repC ρ K X Rf x M) (hM : okM M) (h1 : fit a ∧ fit day) (hko : K out = (4, 1)) (hlo : ρ out = 4000 ∨ ρ out = 4001) : Cl l yL_except cL_except 5 (some .int) [(0, 10, 13, 19), (0, 10, 17, 46)] 8 3 18 Γ [.ref x, .int (iI a), .int (iI day), .ref out] K X Rf (pI (fun (r : Int) (K' : zK) (X' : zX) (R' : zR) => r = cdExc M a day ∧ (cdExc M a day = 0 → X' out 0 = (wI (vlExc M a day))) ∧ ∃ ρ', repC ρ' K' X' R' x (if cdExc M a day = 0 then (nxExc M a day) else M) ∧ frO ρ K X Rf out ρ' K' X' R')) := by
  refine Cl.of (by decide +kernel) (Nat.le_of_ble_eq_true rfl) ?_
  intro p e s m below meth c ls hx hb hr hml hown hG h46 hlocks hname ht hX hw hl
  have hl : lv_has ls 5 [(0, .ref x), (1, .int (iI a)), (2, .int (iI day)), (3, .ref out)] := hl
  have hCk := hC.1.1
  refine lv_aload_n (pc := 0) hx hb dL_except_0 rfl (lv_at hl 3 rfl) ?_
  refine ziconst (pc := 1) (n := 0) hx hb dL_except_1 ?_
  refine lv_aload_n (pc := 2) hx hb dL_except_2 rfl (lv_at hl 0 rfl) ?_
  refine lv_iload_n (pc := 3) hx hb dL_except_3 rfl (lv_at hl 1 rfl) ?_
  refine lv_iload_n (pc := 4) hx hb dL_except_4 rfl (lv_at hl 2 rfl) ?_
  refine zxkI (pc := 5) (zxrV (As := [.int (iI a), .int (iI day)]) hx hb hml hown hG hX hw (c_X8_except l hl9 Γ K X Rf x a day (ρ) M (by (first | assumption | omega)) (by (first | assumption | omega)) (by (first | assumption | omega))) (T := TX8) hCk rfl cb_X8_except wl_L_102 rfl ⟨Nat.le_of_ble_eq_true rfl, Nat.le_of_ble_eq_true rfl⟩ hl.1 rfl (Nat.le_of_ble_eq_true rfl) dL_except_5 ⟨(by show 0 + 3 ≤ 3; omega), (by show 0 + 18 ≤ 18; omega)⟩) hw (fun E9 ce9 q9 H locs hxp9 hw hce9 hcv9 hcl9 => ?_) (fun r5 K5 X5 R5 H locs hp5 hw => ?_)
  · skip
    rcases hxp9 with ⟨rfl, hq9⟩ | ⟨rfl, hq9⟩
    · skip
      refine zht1 (pc := 5) ⟨0, 10, 13, 19⟩ hown hX ht rfl (by decide) (hG _ wn_L_19) zg_391 hce9 hcv9 hcl9 ?_
      refine lv_astore (pc := 13) (lv' := [(4, .ref q9), (0, .ref x), (1, .int (iI a)), (2, .int (iI day)), (3, .ref out)]) hx hb dL_except_13 hl (by decide) rfl (fun ls hl => ?_)
      refine ziconst (pc := 15) (n := 1) hx hb dL_except_15 ?_
      exact zretI (pc := 16) hx hb hlocks hr hw (by show 0 + 3 ≤ 3; omega) (by show 0 + 18 ≤ 18; omega) dL_except_16 (by exact ⟨hq9.symm, fun h => absurd (hq9.symm.trans h) (by decide), ρ, (by rw [if_neg (by rw [hq9]; decide)]; exact hC), frO_refl⟩)
    · skip
      refine zht2 (pc := 5) ⟨0, 10, 13, 19⟩ ⟨0, 10, 17, 46⟩ hown hX ht rfl (by decide) h46 zg_121 (by decide) (hG _ wn_L_19) znc2 hce9 hcv9 hcl9 ?_
      refine lv_astore (pc := 17) (lv' := [(4, .ref q9), (0, .ref x), (1, .int (iI a)), (2, .int (iI day)), (3, .ref out)]) hx hb dL_except_17 hl (by decide) rfl (fun ls hl => ?_)
      refine ziconst (pc := 19) (n := 2) hx hb dL_except_19 ?_
      exact zretI (pc := 20) hx hb hlocks hr hw (by show 0 + 3 ≤ 3; omega) (by show 0 + 18 ≤ 18; omega) dL_except_20 (by exact ⟨hq9.symm, fun h => absurd (hq9.symm.trans h) (by decide), ρ, (by rw [if_neg (by rw [hq9]; decide)]; exact hC), frO_refl⟩)
  · skip
    obtain ⟨⟨hv9, hc9⟩, ρ1, hC1, hf1⟩ := hp5
    obtain ⟨hko1, hlo1, -⟩ := hf1 out (by rw [hko]; exact Nat.succ_ne_zero _)
    rw [hko] at hko1
    refine zi2lw (pc := 8) hx hb dL_except_8 ?_
    refine zlast (pc := 9) hx hb hw hko1 ⟨by omega, by omega⟩ (by omega) dL_except_9 (fun H locs hw => ?_)
    obtain ⟨X9, eX9⟩ : ∃ Y : zX, Y = up2 X5 out 0 (wI r5) := ⟨_, rfl⟩
    replace hw := Wd.re hw rfl eX9 rfl
    refine lv_goto (pc := 10) (tgt := 21) hx hb dL_except_10 (by decide) ?_
    refine ziconst (pc := 21) (n := 0) hx hb dL_except_21 ?_
    exact zretI (pc := 22) hx hb hlocks hr hw (by show 0 + 3 ≤ 3; omega) (by show 0 + 18 ≤ 18; omega) dL_except_22 (by have L9 := Lend hC1 hf1 (Or.inl hko) hlo eX9; exact ⟨hc9.symm, fun _ => (L9.1.trans (congrArg wI hv9)), ρ1, (by rw [if_pos hc9]; exact L9.2.1), L9.2.2⟩)
set_option maxHeartbeats 4000000 in
set_option maxRecDepth 100000 in
theorem c_L_dates (l : Launch) (hl9 : l.stackTraces = false) (Γ : zG) (K : zK) (X : zX) (Rf : zR) (x : Nat) (a : Int) (out : Nat) (ρ : zL) (M : zM) (hC : repC ρ K X Rf x M) (hM : okM M) (h1 : fit a) (hko : K out = (4, 1)) (hlo : ρ out = 4000 ∨ ρ out = 4001) : Cl l yL_dates cL_dates 4 (some .int) [(0, 9, 12, 19)] 8 1 6 Γ [.ref x, .int (iI a), .ref out] K X Rf (pI (fun (r : Int) (K' : zK) (X' : zX) (R' : zR) => r = cdSer M a ∧ (cdSer M a = 0 → X' out 0 = (wI (((datM M a.toNat).length : Int)))) ∧ ∃ ρ', repC ρ' K' X' R' x M ∧ frO ρ K X Rf out ρ' K' X' R')) := by
  refine Cl.of (by decide +kernel) (Nat.le_of_ble_eq_true rfl) ?_
  intro p e s m below meth c ls hx hb hr hml hown hG h46 hlocks hname ht hX hw hl
  have hl : lv_has ls 4 [(0, .ref x), (1, .int (iI a)), (2, .ref out)] := hl
  have hCk := hC.1.1
  refine lv_aload_n (pc := 0) hx hb dL_dates_0 rfl (lv_at hl 2 rfl) ?_
  refine ziconst (pc := 1) (n := 0) hx hb dL_dates_1 ?_
  refine lv_aload_n (pc := 2) hx hb dL_dates_2 rfl (lv_at hl 0 rfl) ?_
  refine lv_iload_n (pc := 3) hx hb dL_dates_3 rfl (lv_at hl 1 rfl) ?_
  refine zxkIp (pc := 4) (zxrV (As := [.int (iI a)]) hx hb hml hown hG hX hw (c_X8_dates l hl9 Γ K X Rf x a (ρ) M (by (first | assumption | omega)) (by (first | assumption | omega)) (by (first | assumption | omega))) (T := TX8) hCk rfl cb_X8_dates wl_L_105 rfl ⟨Nat.le_of_ble_eq_true rfl, Nat.le_of_ble_eq_true rfl⟩ hl.1 rfl (Nat.le_of_ble_eq_true rfl) dL_dates_4 ⟨(by show 0 + 1 ≤ 1; omega), (by show 0 + 6 ≤ 6; omega)⟩) hw (fun E9 ce9 q9 H locs hxp9 hw hce9 hcv9 hcl9 => ?_) (fun r4 H locs hp4 hw => ?_)
  · skip
    rcases hxp9 with ⟨rfl, hq9⟩
    · skip
      refine zht1 (pc := 4) ⟨0, 9, 12, 19⟩ hown hX ht rfl (by decide) (hG _ wn_L_19) zg_391 hce9 hcv9 hcl9 ?_
      refine lv_astore_n (pc := 12) (lv' := [(3, .ref q9), (0, .ref x), (1, .int (iI a)), (2, .ref out)]) hx hb dL_dates_12 rfl hl (by decide) rfl (fun ls hl => ?_)
      refine ziconst (pc := 13) (n := 1) hx hb dL_dates_13 ?_
      exact zretI (pc := 14) hx hb hlocks hr hw (by show 0 + 1 ≤ 1; omega) (by show 0 + 6 ≤ 6; omega) dL_dates_14 (by exact ⟨hq9.symm, fun h => absurd (hq9.symm.trans h) (by decide), ρ, (by exact hC), frO_refl⟩)
  · skip
    obtain ⟨hv9, hc9⟩ := hp4
    refine zi2lw (pc := 7) hx hb dL_dates_7 ?_
    refine zlast (pc := 8) hx hb hw hko ⟨by omega, by omega⟩ (by omega) dL_dates_8 (fun H locs hw => ?_)
    obtain ⟨X8, eX8⟩ : ∃ Y : zX, Y = up2 X out 0 (wI r4) := ⟨_, rfl⟩
    replace hw := Wd.re hw rfl eX8 rfl
    refine lv_goto (pc := 9) (tgt := 15) hx hb dL_dates_9 (by decide) ?_
    refine ziconst (pc := 15) (n := 0) hx hb dL_dates_15 ?_
    exact zretI (pc := 16) hx hb hlocks hr hw (by show 0 + 1 ≤ 1; omega) (by show 0 + 6 ≤ 6; omega) dL_dates_16 (by have L9 := Lend hC frC_refl (Or.inl hko) hlo eX8; exact ⟨hc9.symm, fun _ => (L9.1.trans (congrArg wI hv9)), ρ, (by exact L9.2.1), L9.2.2⟩)
set_option maxHeartbeats 4000000 in
set_option maxRecDepth 100000 in
theorem c_L_dateAt (l : Launch) (hl9 : l.stackTraces = false) (Γ : zG) (K : zK) (X : zX) (Rf : zR) (x : Nat) (a : Int) (k9 : Int) (out : Nat) (ρ : zL) (M : zM) (hC : repC ρ K X Rf x M) (hM : okM M) (h1 : fit a ∧ fit k9) (hko : K out = (4, 1)) (hlo : ρ out = 4000 ∨ ρ out = 4001) : Cl l yL_dateAt cL_dateAt 5 (some .int) [(0, 10, 13, 19)] 8 2 12 Γ [.ref x, .int (iI a), .int (iI k9), .ref out] K X Rf (pI (fun (r : Int) (K' : zK) (X' : zX) (R' : zR) => r = cdSerK M a k9 ∧ (cdSerK M a k9 = 0 → X' out 0 = (wI (dtL (datM M a.toNat) k9))) ∧ ∃ ρ', repC ρ' K' X' R' x M ∧ frO ρ K X Rf out ρ' K' X' R')) := by
  refine Cl.of (by decide +kernel) (Nat.le_of_ble_eq_true rfl) ?_
  intro p e s m below meth c ls hx hb hr hml hown hG h46 hlocks hname ht hX hw hl
  have hl : lv_has ls 5 [(0, .ref x), (1, .int (iI a)), (2, .int (iI k9)), (3, .ref out)] := hl
  have hCk := hC.1.1
  refine lv_aload_n (pc := 0) hx hb dL_dateAt_0 rfl (lv_at hl 3 rfl) ?_
  refine ziconst (pc := 1) (n := 0) hx hb dL_dateAt_1 ?_
  refine lv_aload_n (pc := 2) hx hb dL_dateAt_2 rfl (lv_at hl 0 rfl) ?_
  refine lv_iload_n (pc := 3) hx hb dL_dateAt_3 rfl (lv_at hl 1 rfl) ?_
  refine lv_iload_n (pc := 4) hx hb dL_dateAt_4 rfl (lv_at hl 2 rfl) ?_
  refine zxkIp (pc := 5) (zxrV (As := [.int (iI a), .int (iI k9)]) hx hb hml hown hG hX hw (c_X8_dateAt l hl9 Γ K X Rf x a k9 (ρ) M (by (first | assumption | omega)) (by (first | assumption | omega)) (by (first | assumption | omega))) (T := TX8) hCk rfl cb_X8_dateAt wl_L_108 rfl ⟨Nat.le_of_ble_eq_true rfl, Nat.le_of_ble_eq_true rfl⟩ hl.1 rfl (Nat.le_of_ble_eq_true rfl) dL_dateAt_5 ⟨(by show 0 + 2 ≤ 2; omega), (by show 0 + 12 ≤ 12; omega)⟩) hw (fun E9 ce9 q9 H locs hxp9 hw hce9 hcv9 hcl9 => ?_) (fun r5 H locs hp5 hw => ?_)
  · skip
    rcases hxp9 with ⟨rfl, hq9⟩
    · skip
      refine zht1 (pc := 5) ⟨0, 10, 13, 19⟩ hown hX ht rfl (by decide) (hG _ wn_L_19) zg_391 hce9 hcv9 hcl9 ?_
      refine lv_astore (pc := 13) (lv' := [(4, .ref q9), (0, .ref x), (1, .int (iI a)), (2, .int (iI k9)), (3, .ref out)]) hx hb dL_dateAt_13 hl (by decide) rfl (fun ls hl => ?_)
      refine ziconst (pc := 15) (n := 1) hx hb dL_dateAt_15 ?_
      exact zretI (pc := 16) hx hb hlocks hr hw (by show 0 + 2 ≤ 2; omega) (by show 0 + 12 ≤ 12; omega) dL_dateAt_16 (by exact ⟨hq9.symm, fun h => absurd (hq9.symm.trans h) (by decide), ρ, (by exact hC), frO_refl⟩)
  · skip
    obtain ⟨hv9, hc9⟩ := hp5
    refine zi2lw (pc := 8) hx hb dL_dateAt_8 ?_
    refine zlast (pc := 9) hx hb hw hko ⟨by omega, by omega⟩ (by omega) dL_dateAt_9 (fun H locs hw => ?_)
    obtain ⟨X9, eX9⟩ : ∃ Y : zX, Y = up2 X out 0 (wI r5) := ⟨_, rfl⟩
    replace hw := Wd.re hw rfl eX9 rfl
    refine lv_goto (pc := 10) (tgt := 17) hx hb dL_dateAt_10 (by decide) ?_
    refine ziconst (pc := 17) (n := 0) hx hb dL_dateAt_17 ?_
    exact zretI (pc := 18) hx hb hlocks hr hw (by show 0 + 2 ≤ 2; omega) (by show 0 + 12 ≤ 12; omega) dL_dateAt_18 (by have L9 := Lend hC frC_refl (Or.inl hko) hlo eX9; exact ⟨hc9.symm, fun _ => (L9.1.trans (congrArg wI hv9)), ρ, (by exact L9.2.1), L9.2.2⟩)
set_option maxHeartbeats 4000000 in
set_option maxRecDepth 100000 in
theorem c_L_dateFrom (l : Launch) (hl9 : l.stackTraces = false) (Γ : zG) (K : zK) (X : zX) (Rf : zR) (x : Nat) (a : Int) (day : Int) (out : Nat) (ρ : zL) (M : zM) (hC : repC ρ K X Rf x M) (hM : okM M) (h1 : fit a ∧ fit day) (hko : K out = (4, 1)) (hlo : ρ out = 4000 ∨ ρ out = 4001) : Cl l yL_dateFrom cL_dateFrom 5 (some .int) [(0, 10, 13, 19)] 8 2 12 Γ [.ref x, .int (iI a), .int (iI day), .ref out] K X Rf (pI (fun (r : Int) (K' : zK) (X' : zX) (R' : zR) => r = cdSerD M a day ∧ (cdSerD M a day = 0 → X' out 0 = (wI (ffD (datM M a.toNat) day))) ∧ ∃ ρ', repC ρ' K' X' R' x M ∧ frO ρ K X Rf out ρ' K' X' R')) := by
  refine Cl.of (by decide +kernel) (Nat.le_of_ble_eq_true rfl) ?_
  intro p e s m below meth c ls hx hb hr hml hown hG h46 hlocks hname ht hX hw hl
  have hl : lv_has ls 5 [(0, .ref x), (1, .int (iI a)), (2, .int (iI day)), (3, .ref out)] := hl
  have hCk := hC.1.1
  refine lv_aload_n (pc := 0) hx hb dL_dateFrom_0 rfl (lv_at hl 3 rfl) ?_
  refine ziconst (pc := 1) (n := 0) hx hb dL_dateFrom_1 ?_
  refine lv_aload_n (pc := 2) hx hb dL_dateFrom_2 rfl (lv_at hl 0 rfl) ?_
  refine lv_iload_n (pc := 3) hx hb dL_dateFrom_3 rfl (lv_at hl 1 rfl) ?_
  refine lv_iload_n (pc := 4) hx hb dL_dateFrom_4 rfl (lv_at hl 2 rfl) ?_
  refine zxkIp (pc := 5) (zxrV (As := [.int (iI a), .int (iI day)]) hx hb hml hown hG hX hw (c_X8_dateFrom l hl9 Γ K X Rf x a day (ρ) M (by (first | assumption | omega)) (by (first | assumption | omega)) (by (first | assumption | omega))) (T := TX8) hCk rfl cb_X8_dateFrom wl_L_111 rfl ⟨Nat.le_of_ble_eq_true rfl, Nat.le_of_ble_eq_true rfl⟩ hl.1 rfl (Nat.le_of_ble_eq_true rfl) dL_dateFrom_5 ⟨(by show 0 + 2 ≤ 2; omega), (by show 0 + 12 ≤ 12; omega)⟩) hw (fun E9 ce9 q9 H locs hxp9 hw hce9 hcv9 hcl9 => ?_) (fun r5 H locs hp5 hw => ?_)
  · skip
    rcases hxp9 with ⟨rfl, hq9⟩
    · skip
      refine zht1 (pc := 5) ⟨0, 10, 13, 19⟩ hown hX ht rfl (by decide) (hG _ wn_L_19) zg_391 hce9 hcv9 hcl9 ?_
      refine lv_astore (pc := 13) (lv' := [(4, .ref q9), (0, .ref x), (1, .int (iI a)), (2, .int (iI day)), (3, .ref out)]) hx hb dL_dateFrom_13 hl (by decide) rfl (fun ls hl => ?_)
      refine ziconst (pc := 15) (n := 1) hx hb dL_dateFrom_15 ?_
      exact zretI (pc := 16) hx hb hlocks hr hw (by show 0 + 2 ≤ 2; omega) (by show 0 + 12 ≤ 12; omega) dL_dateFrom_16 (by exact ⟨hq9.symm, fun h => absurd (hq9.symm.trans h) (by decide), ρ, (by exact hC), frO_refl⟩)
  · skip
    obtain ⟨hv9, hc9⟩ := hp5
    refine zi2lw (pc := 8) hx hb dL_dateFrom_8 ?_
    refine zlast (pc := 9) hx hb hw hko ⟨by omega, by omega⟩ (by omega) dL_dateFrom_9 (fun H locs hw => ?_)
    obtain ⟨X9, eX9⟩ : ∃ Y : zX, Y = up2 X out 0 (wI r5) := ⟨_, rfl⟩
    replace hw := Wd.re hw rfl eX9 rfl
    refine lv_goto (pc := 10) (tgt := 17) hx hb dL_dateFrom_10 (by decide) ?_
    refine ziconst (pc := 17) (n := 0) hx hb dL_dateFrom_17 ?_
    exact zretI (pc := 18) hx hb hlocks hr hw (by show 0 + 2 ≤ 2; omega) (by show 0 + 12 ≤ 12; omega) dL_dateFrom_18 (by have L9 := Lend hC frC_refl (Or.inl hko) hlo eX9; exact ⟨hc9.symm, fun _ => (L9.1.trans (congrArg wI hv9)), ρ, (by exact L9.2.1), L9.2.2⟩)
set_option maxHeartbeats 4000000 in
set_option maxRecDepth 100000 in
theorem c_L_dateMoment (l : Launch) (hl9 : l.stackTraces = false) (Γ : zG) (K : zK) (X : zX) (Rf : zR) (x : Nat) (a : Int) (k9 : Int) (out : Nat) (ρ : zL) (M : zM) (hC : repC ρ K X Rf x M) (hM : okM M) (h1 : fit a ∧ fit k9) (hko : K out = (4, 1)) (hlo : ρ out = 4000 ∨ ρ out = 4001) : Cl l yL_dateMoment cL_dateMoment 5 (some .int) [(0, 10, 13, 19)] 8 2 12 Γ [.ref x, .int (iI a), .int (iI k9), .ref out] K X Rf (pI (fun (r : Int) (K' : zK) (X' : zX) (R' : zR) => r = cdSerK M a k9 ∧ (cdSerK M a k9 = 0 → X' out 0 = (wI (momF (savM M (serM M a.toNat 0).toNat) (M 6 (serM M a.toNat 0).toNat) (1440 * dtL (datM M a.toNat) k9 + serM M a.toNat 1 % 1440)))) ∧ ∃ ρ', repC ρ' K' X' R' x M ∧ frO ρ K X Rf out ρ' K' X' R')) := by
  refine Cl.of (by decide +kernel) (Nat.le_of_ble_eq_true rfl) ?_
  intro p e s m below meth c ls hx hb hr hml hown hG h46 hlocks hname ht hX hw hl
  have hl : lv_has ls 5 [(0, .ref x), (1, .int (iI a)), (2, .int (iI k9)), (3, .ref out)] := hl
  have hCk := hC.1.1
  refine lv_aload_n (pc := 0) hx hb dL_dateMoment_0 rfl (lv_at hl 3 rfl) ?_
  refine ziconst (pc := 1) (n := 0) hx hb dL_dateMoment_1 ?_
  refine lv_aload_n (pc := 2) hx hb dL_dateMoment_2 rfl (lv_at hl 0 rfl) ?_
  refine lv_iload_n (pc := 3) hx hb dL_dateMoment_3 rfl (lv_at hl 1 rfl) ?_
  refine lv_iload_n (pc := 4) hx hb dL_dateMoment_4 rfl (lv_at hl 2 rfl) ?_
  refine zxkIp (pc := 5) (zxrV (As := [.int (iI a), .int (iI k9)]) hx hb hml hown hG hX hw (c_X8_dateMoment l hl9 Γ K X Rf x a k9 (ρ) M (by (first | assumption | omega)) (by (first | assumption | omega)) (by (first | assumption | omega))) (T := TX8) hCk rfl cb_X8_dateMoment wl_L_114 rfl ⟨Nat.le_of_ble_eq_true rfl, Nat.le_of_ble_eq_true rfl⟩ hl.1 rfl (Nat.le_of_ble_eq_true rfl) dL_dateMoment_5 ⟨(by show 0 + 2 ≤ 2; omega), (by show 0 + 12 ≤ 12; omega)⟩) hw (fun E9 ce9 q9 H locs hxp9 hw hce9 hcv9 hcl9 => ?_) (fun r5 H locs hp5 hw => ?_)
  · skip
    rcases hxp9 with ⟨rfl, hq9⟩
    · skip
      refine zht1 (pc := 5) ⟨0, 10, 13, 19⟩ hown hX ht rfl (by decide) (hG _ wn_L_19) zg_391 hce9 hcv9 hcl9 ?_
      refine lv_astore (pc := 13) (lv' := [(4, .ref q9), (0, .ref x), (1, .int (iI a)), (2, .int (iI k9)), (3, .ref out)]) hx hb dL_dateMoment_13 hl (by decide) rfl (fun ls hl => ?_)
      refine ziconst (pc := 15) (n := 1) hx hb dL_dateMoment_15 ?_
      exact zretI (pc := 16) hx hb hlocks hr hw (by show 0 + 2 ≤ 2; omega) (by show 0 + 12 ≤ 12; omega) dL_dateMoment_16 (by exact ⟨hq9.symm, fun h => absurd (hq9.symm.trans h) (by decide), ρ, (by exact hC), frO_refl⟩)
  · skip
    obtain ⟨hv9, hc9⟩ := hp5
    refine zi2lw (pc := 8) hx hb dL_dateMoment_8 ?_
    refine zlast (pc := 9) hx hb hw hko ⟨by omega, by omega⟩ (by omega) dL_dateMoment_9 (fun H locs hw => ?_)
    obtain ⟨X9, eX9⟩ : ∃ Y : zX, Y = up2 X out 0 (wI r5) := ⟨_, rfl⟩
    replace hw := Wd.re hw rfl eX9 rfl
    refine lv_goto (pc := 10) (tgt := 17) hx hb dL_dateMoment_10 (by decide) ?_
    refine ziconst (pc := 17) (n := 0) hx hb dL_dateMoment_17 ?_
    exact zretI (pc := 18) hx hb hlocks hr hw (by show 0 + 2 ≤ 2; omega) (by show 0 + 12 ≤ 12; omega) dL_dateMoment_18 (by have L9 := Lend hC frC_refl (Or.inl hko) hlo eX9; exact ⟨hc9.symm, fun _ => (L9.1.trans (congrArg wI hv9)), ρ, (by exact L9.2.1), L9.2.2⟩)
set_option maxHeartbeats 4000000 in
set_option maxRecDepth 100000 in
theorem c_L_common (l : Launch) (hl9 : l.stackTraces = false) (Γ : zG) (K : zK) (X : zX) (Rf : zR) (x : Nat) (a : Int) (b9 : Int) (out : Nat) (ρ : zL) (M : zM) (hC : repC ρ K X Rf x M) (hM : okM M) (h1 : fit a ∧ fit b9) (hko : K out = (4, 1)) (hlo : ρ out = 4000 ∨ ρ out = 4001) : Cl l yL_common cL_common 5 (some .int) [(0, 10, 13, 19)] 8 2 12 Γ [.ref x, .int (iI a), .int (iI b9), .ref out] K X Rf (pI (fun (r : Int) (K' : zK) (X' : zX) (R' : zR) => r = cdSerS M a b9 ∧ (cdSerS M a b9 = 0 → X' out 0 = (wI (shD (datM M a.toNat) (datM M b9.toNat)))) ∧ ∃ ρ', repC ρ' K' X' R' x M ∧ frO ρ K X Rf out ρ' K' X' R')) := by
  refine Cl.of (by decide +kernel) (Nat.le_of_ble_eq_true rfl) ?_
  intro p e s m below meth c ls hx hb hr hml hown hG h46 hlocks hname ht hX hw hl
  have hl : lv_has ls 5 [(0, .ref x), (1, .int (iI a)), (2, .int (iI b9)), (3, .ref out)] := hl
  have hCk := hC.1.1
  refine lv_aload_n (pc := 0) hx hb dL_common_0 rfl (lv_at hl 3 rfl) ?_
  refine ziconst (pc := 1) (n := 0) hx hb dL_common_1 ?_
  refine lv_aload_n (pc := 2) hx hb dL_common_2 rfl (lv_at hl 0 rfl) ?_
  refine lv_iload_n (pc := 3) hx hb dL_common_3 rfl (lv_at hl 1 rfl) ?_
  refine lv_iload_n (pc := 4) hx hb dL_common_4 rfl (lv_at hl 2 rfl) ?_
  refine zxkIp (pc := 5) (zxrV (As := [.int (iI a), .int (iI b9)]) hx hb hml hown hG hX hw (c_X8_common l hl9 Γ K X Rf x a b9 (ρ) M (by (first | assumption | omega)) (by (first | assumption | omega)) (by (first | assumption | omega))) (T := TX8) hCk rfl cb_X8_common wl_L_117 rfl ⟨Nat.le_of_ble_eq_true rfl, Nat.le_of_ble_eq_true rfl⟩ hl.1 rfl (Nat.le_of_ble_eq_true rfl) dL_common_5 ⟨(by show 0 + 2 ≤ 2; omega), (by show 0 + 12 ≤ 12; omega)⟩) hw (fun E9 ce9 q9 H locs hxp9 hw hce9 hcv9 hcl9 => ?_) (fun r5 H locs hp5 hw => ?_)
  · skip
    rcases hxp9 with ⟨rfl, hq9⟩
    · skip
      refine zht1 (pc := 5) ⟨0, 10, 13, 19⟩ hown hX ht rfl (by decide) (hG _ wn_L_19) zg_391 hce9 hcv9 hcl9 ?_
      refine lv_astore (pc := 13) (lv' := [(4, .ref q9), (0, .ref x), (1, .int (iI a)), (2, .int (iI b9)), (3, .ref out)]) hx hb dL_common_13 hl (by decide) rfl (fun ls hl => ?_)
      refine ziconst (pc := 15) (n := 1) hx hb dL_common_15 ?_
      exact zretI (pc := 16) hx hb hlocks hr hw (by show 0 + 2 ≤ 2; omega) (by show 0 + 12 ≤ 12; omega) dL_common_16 (by exact ⟨hq9.symm, fun h => absurd (hq9.symm.trans h) (by decide), ρ, (by exact hC), frO_refl⟩)
  · skip
    obtain ⟨hv9, hc9⟩ := hp5
    refine zi2lw (pc := 8) hx hb dL_common_8 ?_
    refine zlast (pc := 9) hx hb hw hko ⟨by omega, by omega⟩ (by omega) dL_common_9 (fun H locs hw => ?_)
    obtain ⟨X9, eX9⟩ : ∃ Y : zX, Y = up2 X out 0 (wI r5) := ⟨_, rfl⟩
    replace hw := Wd.re hw rfl eX9 rfl
    refine lv_goto (pc := 10) (tgt := 17) hx hb dL_common_10 (by decide) ?_
    refine ziconst (pc := 17) (n := 0) hx hb dL_common_17 ?_
    exact zretI (pc := 18) hx hb hlocks hr hw (by show 0 + 2 ≤ 2; omega) (by show 0 + 12 ≤ 12; omega) dL_common_18 (by have L9 := Lend hC frC_refl (Or.inl hko) hlo eX9; exact ⟨hc9.symm, fun _ => (L9.1.trans (congrArg wI hv9)), ρ, (by exact L9.2.1), L9.2.2⟩)
set_option maxHeartbeats 4000000 in
set_option maxRecDepth 100000 in
theorem c_L_widestGap (l : Launch) (hl9 : l.stackTraces = false) (Γ : zG) (K : zK) (X : zX) (Rf : zR) (x : Nat) (a : Int) (out : Nat) (ρ : zL) (M : zM) (hC : repC ρ K X Rf x M) (hM : okM M) (h1 : fit a) (hko : K out = (4, 1)) (hlo : ρ out = 4000 ∨ ρ out = 4001) : Cl l yL_widestGap cL_widestGap 4 (some .int) [(0, 9, 12, 19)] 8 1 6 Γ [.ref x, .int (iI a), .ref out] K X Rf (pI (fun (r : Int) (K' : zK) (X' : zX) (R' : zR) => r = cdSer M a ∧ (cdSer M a = 0 → X' out 0 = (wI (wdD (datM M a.toNat)))) ∧ ∃ ρ', repC ρ' K' X' R' x M ∧ frO ρ K X Rf out ρ' K' X' R')) := by
  refine Cl.of (by decide +kernel) (Nat.le_of_ble_eq_true rfl) ?_
  intro p e s m below meth c ls hx hb hr hml hown hG h46 hlocks hname ht hX hw hl
  have hl : lv_has ls 4 [(0, .ref x), (1, .int (iI a)), (2, .ref out)] := hl
  have hCk := hC.1.1
  refine lv_aload_n (pc := 0) hx hb dL_widestGap_0 rfl (lv_at hl 2 rfl) ?_
  refine ziconst (pc := 1) (n := 0) hx hb dL_widestGap_1 ?_
  refine lv_aload_n (pc := 2) hx hb dL_widestGap_2 rfl (lv_at hl 0 rfl) ?_
  refine lv_iload_n (pc := 3) hx hb dL_widestGap_3 rfl (lv_at hl 1 rfl) ?_
  refine zxkIp (pc := 4) (zxrV (As := [.int (iI a)]) hx hb hml hown hG hX hw (c_X8_widestGap l hl9 Γ K X Rf x a (ρ) M (by (first | assumption | omega)) (by (first | assumption | omega)) (by (first | assumption | omega))) (T := TX8) hCk rfl cb_X8_widestGap wl_L_120 rfl ⟨Nat.le_of_ble_eq_true rfl, Nat.le_of_ble_eq_true rfl⟩ hl.1 rfl (Nat.le_of_ble_eq_true rfl) dL_widestGap_4 ⟨(by show 0 + 1 ≤ 1; omega), (by show 0 + 6 ≤ 6; omega)⟩) hw (fun E9 ce9 q9 H locs hxp9 hw hce9 hcv9 hcl9 => ?_) (fun r4 H locs hp4 hw => ?_)
  · skip
    rcases hxp9 with ⟨rfl, hq9⟩
    · skip
      refine zht1 (pc := 4) ⟨0, 9, 12, 19⟩ hown hX ht rfl (by decide) (hG _ wn_L_19) zg_391 hce9 hcv9 hcl9 ?_
      refine lv_astore_n (pc := 12) (lv' := [(3, .ref q9), (0, .ref x), (1, .int (iI a)), (2, .ref out)]) hx hb dL_widestGap_12 rfl hl (by decide) rfl (fun ls hl => ?_)
      refine ziconst (pc := 13) (n := 1) hx hb dL_widestGap_13 ?_
      exact zretI (pc := 14) hx hb hlocks hr hw (by show 0 + 1 ≤ 1; omega) (by show 0 + 6 ≤ 6; omega) dL_widestGap_14 (by exact ⟨hq9.symm, fun h => absurd (hq9.symm.trans h) (by decide), ρ, (by exact hC), frO_refl⟩)
  · skip
    obtain ⟨hv9, hc9⟩ := hp4
    refine zi2lw (pc := 7) hx hb dL_widestGap_7 ?_
    refine zlast (pc := 8) hx hb hw hko ⟨by omega, by omega⟩ (by omega) dL_widestGap_8 (fun H locs hw => ?_)
    obtain ⟨X8, eX8⟩ : ∃ Y : zX, Y = up2 X out 0 (wI r4) := ⟨_, rfl⟩
    replace hw := Wd.re hw rfl eX8 rfl
    refine lv_goto (pc := 9) (tgt := 15) hx hb dL_widestGap_9 (by decide) ?_
    refine ziconst (pc := 15) (n := 0) hx hb dL_widestGap_15 ?_
    exact zretI (pc := 16) hx hb hlocks hr hw (by show 0 + 1 ≤ 1; omega) (by show 0 + 6 ≤ 6; omega) dL_widestGap_16 (by have L9 := Lend hC frC_refl (Or.inl hko) hlo eX8; exact ⟨hc9.symm, fun _ => (L9.1.trans (congrArg wI hv9)), ρ, (by exact L9.2.1), L9.2.2⟩)
set_option maxHeartbeats 4000000 in
set_option maxRecDepth 100000 in
theorem c_L_setWorkPlace (l : Launch) (hl9 : l.stackTraces = false) (Γ : zG) (K : zK) (X : zX) (Rf : zR) (x : Nat) (a : Int) (out : Nat) (ρ : zL) (M : zM) (hC : repC ρ K X Rf x M) (hM : okM M) (h1 : fit a) (hko : K out = (4, 1)) (hlo : ρ out = 4000 ∨ ρ out = 4001) : Cl l yL_setWorkPlace cL_setWorkPlace 4 (some .int) [(0, 9, 12, 19)] 8 1 6 Γ [.ref x, .int (iI a), .ref out] K X Rf (pI (fun (r : Int) (K' : zK) (X' : zX) (R' : zR) => r = cdPl M a ∧ (cdPl M a = 0 → X' out 0 = (wI (M 40 25))) ∧ ∃ ρ', repC ρ' K' X' R' x (if cdPl M a = 0 then (upM M 25 a) else M) ∧ frO ρ K X Rf out ρ' K' X' R')) := by
  refine Cl.of (by decide +kernel) (Nat.le_of_ble_eq_true rfl) ?_
  intro p e s m below meth c ls hx hb hr hml hown hG h46 hlocks hname ht hX hw hl
  have hl : lv_has ls 4 [(0, .ref x), (1, .int (iI a)), (2, .ref out)] := hl
  have hCk := hC.1.1
  refine lv_aload_n (pc := 0) hx hb dL_setWorkPlace_0 rfl (lv_at hl 2 rfl) ?_
  refine ziconst (pc := 1) (n := 0) hx hb dL_setWorkPlace_1 ?_
  refine lv_aload_n (pc := 2) hx hb dL_setWorkPlace_2 rfl (lv_at hl 0 rfl) ?_
  refine lv_iload_n (pc := 3) hx hb dL_setWorkPlace_3 rfl (lv_at hl 1 rfl) ?_
  refine zxkI (pc := 4) (zxrV (As := [.int (iI a)]) hx hb hml hown hG hX hw (c_X8_setWorkPlace l hl9 Γ K X Rf x a (ρ) M (by (first | assumption | omega)) (by (first | assumption | omega)) (by (first | assumption | omega))) (T := TX8) hCk rfl cb_X8_setWorkPlace wl_L_123 rfl ⟨Nat.le_of_ble_eq_true rfl, Nat.le_of_ble_eq_true rfl⟩ hl.1 rfl (Nat.le_of_ble_eq_true rfl) dL_setWorkPlace_4 ⟨(by show 0 + 1 ≤ 1; omega), (by show 0 + 6 ≤ 6; omega)⟩) hw (fun E9 ce9 q9 H locs hxp9 hw hce9 hcv9 hcl9 => ?_) (fun r4 K4 X4 R4 H locs hp4 hw => ?_)
  · skip
    rcases hxp9 with ⟨rfl, hq9⟩
    · skip
      refine zht1 (pc := 4) ⟨0, 9, 12, 19⟩ hown hX ht rfl (by decide) (hG _ wn_L_19) zg_391 hce9 hcv9 hcl9 ?_
      refine lv_astore_n (pc := 12) (lv' := [(3, .ref q9), (0, .ref x), (1, .int (iI a)), (2, .ref out)]) hx hb dL_setWorkPlace_12 rfl hl (by decide) rfl (fun ls hl => ?_)
      refine ziconst (pc := 13) (n := 1) hx hb dL_setWorkPlace_13 ?_
      exact zretI (pc := 14) hx hb hlocks hr hw (by show 0 + 1 ≤ 1; omega) (by show 0 + 6 ≤ 6; omega) dL_setWorkPlace_14 (by exact ⟨hq9.symm, fun h => absurd (hq9.symm.trans h) (by decide), ρ, (by rw [if_neg (by rw [hq9]; decide)]; exact hC), frO_refl⟩)
  · skip
    obtain ⟨⟨hv9, hc9⟩, ρ1, hC1, hf1⟩ := hp4
    obtain ⟨hko1, hlo1, -⟩ := hf1 out (by rw [hko]; exact Nat.succ_ne_zero _)
    rw [hko] at hko1
    refine zi2lw (pc := 7) hx hb dL_setWorkPlace_7 ?_
    refine zlast (pc := 8) hx hb hw hko1 ⟨by omega, by omega⟩ (by omega) dL_setWorkPlace_8 (fun H locs hw => ?_)
    obtain ⟨X8, eX8⟩ : ∃ Y : zX, Y = up2 X4 out 0 (wI r4) := ⟨_, rfl⟩
    replace hw := Wd.re hw rfl eX8 rfl
    refine lv_goto (pc := 9) (tgt := 15) hx hb dL_setWorkPlace_9 (by decide) ?_
    refine ziconst (pc := 15) (n := 0) hx hb dL_setWorkPlace_15 ?_
    exact zretI (pc := 16) hx hb hlocks hr hw (by show 0 + 1 ≤ 1; omega) (by show 0 + 6 ≤ 6; omega) dL_setWorkPlace_16 (by have L9 := Lend hC1 hf1 (Or.inl hko) hlo eX8; exact ⟨hc9.symm, fun _ => (L9.1.trans (congrArg wI hv9)), ρ1, (by rw [if_pos hc9]; exact L9.2.1), L9.2.2⟩)
set_option maxHeartbeats 4000000 in
set_option maxRecDepth 100000 in
theorem c_L_setWeek (l : Launch) (hl9 : l.stackTraces = false) (Γ : zG) (K : zK) (X : zX) (Rf : zR) (x : Nat) (w9 : Int) (out : Nat) (ρ : zL) (M : zM) (hC : repC ρ K X Rf x M) (hM : okM M) (h1 : fit w9) (hko : K out = (4, 1)) (hlo : ρ out = 4000 ∨ ρ out = 4001) : Cl l yL_setWeek cL_setWeek 4 (some .int) [(0, 9, 12, 13)] 7 1 6 Γ [.ref x, .int (iI w9), .ref out] K X Rf (pI (fun (r : Int) (K' : zK) (X' : zX) (R' : zR) => r = cdWk w9 ∧ (cdWk w9 = 0 → X' out 0 = (wI (M 40 26))) ∧ ∃ ρ', repC ρ' K' X' R' x (if cdWk w9 = 0 then (upM M 26 w9) else M) ∧ frO ρ K X Rf out ρ' K' X' R')) := by
  refine Cl.of (by decide +kernel) (Nat.le_of_ble_eq_true rfl) ?_
  intro p e s m below meth c ls hx hb hr hml hown hG h46 hlocks hname ht hX hw hl
  have hl : lv_has ls 4 [(0, .ref x), (1, .int (iI w9)), (2, .ref out)] := hl
  have hCk := hC.1.1
  refine lv_aload_n (pc := 0) hx hb dL_setWeek_0 rfl (lv_at hl 2 rfl) ?_
  refine ziconst (pc := 1) (n := 0) hx hb dL_setWeek_1 ?_
  refine lv_aload_n (pc := 2) hx hb dL_setWeek_2 rfl (lv_at hl 0 rfl) ?_
  refine lv_iload_n (pc := 3) hx hb dL_setWeek_3 rfl (lv_at hl 1 rfl) ?_
  refine zxkI (pc := 4) (zxrV (As := [.int (iI w9)]) hx hb hml hown hG hX hw (c_X8_setWeek l hl9 Γ K X Rf x w9 (ρ) M (by (first | assumption | omega)) (by (first | assumption | omega)) (by (first | assumption | omega))) (T := TX8) hCk rfl cb_X8_setWeek wl_L_126 rfl ⟨Nat.le_of_ble_eq_true rfl, Nat.le_of_ble_eq_true rfl⟩ hl.1 rfl (Nat.le_of_ble_eq_true rfl) dL_setWeek_4 ⟨(by show 0 + 1 ≤ 1; omega), (by show 0 + 6 ≤ 6; omega)⟩) hw (fun E9 ce9 q9 H locs hxp9 hw hce9 hcv9 hcl9 => ?_) (fun r4 K4 X4 R4 H locs hp4 hw => ?_)
  · skip
    rcases hxp9 with ⟨rfl, hq9⟩
    · skip
      refine zht1 (pc := 4) ⟨0, 9, 12, 13⟩ hown hX ht rfl (by decide) (hG _ wn_L_13) zg_60 hce9 hcv9 hcl9 ?_
      refine lv_astore_n (pc := 12) (lv' := [(3, .ref q9), (0, .ref x), (1, .int (iI w9)), (2, .ref out)]) hx hb dL_setWeek_12 rfl hl (by decide) rfl (fun ls hl => ?_)
      refine ziconst (pc := 13) (n := 1) hx hb dL_setWeek_13 ?_
      exact zretI (pc := 14) hx hb hlocks hr hw (by show 0 + 1 ≤ 1; omega) (by show 0 + 6 ≤ 6; omega) dL_setWeek_14 (by exact ⟨hq9.symm, fun h => absurd (hq9.symm.trans h) (by decide), ρ, (by rw [if_neg (by rw [hq9]; decide)]; exact hC), frO_refl⟩)
  · skip
    obtain ⟨⟨hv9, hc9⟩, ρ1, hC1, hf1⟩ := hp4
    obtain ⟨hko1, hlo1, -⟩ := hf1 out (by rw [hko]; exact Nat.succ_ne_zero _)
    rw [hko] at hko1
    refine zi2lw (pc := 7) hx hb dL_setWeek_7 ?_
    refine zlast (pc := 8) hx hb hw hko1 ⟨by omega, by omega⟩ (by omega) dL_setWeek_8 (fun H locs hw => ?_)
    obtain ⟨X8, eX8⟩ : ∃ Y : zX, Y = up2 X4 out 0 (wI r4) := ⟨_, rfl⟩
    replace hw := Wd.re hw rfl eX8 rfl
    refine lv_goto (pc := 9) (tgt := 15) hx hb dL_setWeek_9 (by decide) ?_
    refine ziconst (pc := 15) (n := 0) hx hb dL_setWeek_15 ?_
    exact zretI (pc := 16) hx hb hlocks hr hw (by show 0 + 1 ≤ 1; omega) (by show 0 + 6 ≤ 6; omega) dL_setWeek_16 (by have L9 := Lend hC1 hf1 (Or.inl hko) hlo eX8; exact ⟨hc9.symm, fun _ => (L9.1.trans (congrArg wI hv9)), ρ1, (by rw [if_pos hc9]; exact L9.2.1), L9.2.2⟩)
set_option maxHeartbeats 4000000 in
set_option maxRecDepth 100000 in
theorem c_L_setHours (l : Launch) (hl9 : l.stackTraces = false) (Γ : zG) (K : zK) (X : zX) (Rf : zR) (x : Nat) (f9 : Int) (l9 : Int) (out : Nat) (ρ : zL) (M : zM) (hC : repC ρ K X Rf x M) (hM : okM M) (h1 : fit f9 ∧ fit l9) (hko : K out = (4, 1)) (hlo : ρ out = 4000 ∨ ρ out = 4001) : Cl l yL_setHours cL_setHours 5 (some .int) [(0, 10, 13, 13)] 7 1 6 Γ [.ref x, .int (iI f9), .int (iI l9), .ref out] K X Rf (pI (fun (r : Int) (K' : zK) (X' : zX) (R' : zR) => r = cdHr f9 l9 ∧ (cdHr f9 l9 = 0 → X' out 0 = (wI (l9 - f9))) ∧ ∃ ρ', repC ρ' K' X' R' x (if cdHr f9 l9 = 0 then (upM (upM M 27 f9) 28 l9) else M) ∧ frO ρ K X Rf out ρ' K' X' R')) := by
  refine Cl.of (by decide +kernel) (Nat.le_of_ble_eq_true rfl) ?_
  intro p e s m below meth c ls hx hb hr hml hown hG h46 hlocks hname ht hX hw hl
  have hl : lv_has ls 5 [(0, .ref x), (1, .int (iI f9)), (2, .int (iI l9)), (3, .ref out)] := hl
  have hCk := hC.1.1
  refine lv_aload_n (pc := 0) hx hb dL_setHours_0 rfl (lv_at hl 3 rfl) ?_
  refine ziconst (pc := 1) (n := 0) hx hb dL_setHours_1 ?_
  refine lv_aload_n (pc := 2) hx hb dL_setHours_2 rfl (lv_at hl 0 rfl) ?_
  refine lv_iload_n (pc := 3) hx hb dL_setHours_3 rfl (lv_at hl 1 rfl) ?_
  refine lv_iload_n (pc := 4) hx hb dL_setHours_4 rfl (lv_at hl 2 rfl) ?_
  refine zxkI (pc := 5) (zxrV (As := [.int (iI f9), .int (iI l9)]) hx hb hml hown hG hX hw (c_X8_setHours l hl9 Γ K X Rf x f9 l9 (ρ) M (by (first | assumption | omega)) (by (first | assumption | omega)) (by (first | assumption | omega))) (T := TX8) hCk rfl cb_X8_setHours wl_L_129 rfl ⟨Nat.le_of_ble_eq_true rfl, Nat.le_of_ble_eq_true rfl⟩ hl.1 rfl (Nat.le_of_ble_eq_true rfl) dL_setHours_5 ⟨(by show 0 + 1 ≤ 1; omega), (by show 0 + 6 ≤ 6; omega)⟩) hw (fun E9 ce9 q9 H locs hxp9 hw hce9 hcv9 hcl9 => ?_) (fun r5 K5 X5 R5 H locs hp5 hw => ?_)
  · skip
    rcases hxp9 with ⟨rfl, hq9⟩
    · skip
      refine zht1 (pc := 5) ⟨0, 10, 13, 13⟩ hown hX ht rfl (by decide) (hG _ wn_L_13) zg_60 hce9 hcv9 hcl9 ?_
      refine lv_astore (pc := 13) (lv' := [(4, .ref q9), (0, .ref x), (1, .int (iI f9)), (2, .int (iI l9)), (3, .ref out)]) hx hb dL_setHours_13 hl (by decide) rfl (fun ls hl => ?_)
      refine ziconst (pc := 15) (n := 1) hx hb dL_setHours_15 ?_
      exact zretI (pc := 16) hx hb hlocks hr hw (by show 0 + 1 ≤ 1; omega) (by show 0 + 6 ≤ 6; omega) dL_setHours_16 (by exact ⟨hq9.symm, fun h => absurd (hq9.symm.trans h) (by decide), ρ, (by rw [if_neg (by rw [hq9]; decide)]; exact hC), frO_refl⟩)
  · skip
    obtain ⟨⟨hv9, hc9⟩, ρ1, hC1, hf1⟩ := hp5
    obtain ⟨hko1, hlo1, -⟩ := hf1 out (by rw [hko]; exact Nat.succ_ne_zero _)
    rw [hko] at hko1
    refine zi2lw (pc := 8) hx hb dL_setHours_8 ?_
    refine zlast (pc := 9) hx hb hw hko1 ⟨by omega, by omega⟩ (by omega) dL_setHours_9 (fun H locs hw => ?_)
    obtain ⟨X9, eX9⟩ : ∃ Y : zX, Y = up2 X5 out 0 (wI r5) := ⟨_, rfl⟩
    replace hw := Wd.re hw rfl eX9 rfl
    refine lv_goto (pc := 10) (tgt := 17) hx hb dL_setHours_10 (by decide) ?_
    refine ziconst (pc := 17) (n := 0) hx hb dL_setHours_17 ?_
    exact zretI (pc := 18) hx hb hlocks hr hw (by show 0 + 1 ≤ 1; omega) (by show 0 + 6 ≤ 6; omega) dL_setHours_18 (by have L9 := Lend hC1 hf1 (Or.inl hko) hlo eX9; exact ⟨hc9.symm, fun _ => (L9.1.trans (congrArg wI hv9)), ρ1, (by rw [if_pos hc9]; exact L9.2.1), L9.2.2⟩)
set_option maxHeartbeats 4000000 in
set_option maxRecDepth 100000 in
theorem c_L_addFeast (l : Launch) (hl9 : l.stackTraces = false) (Γ : zG) (K : zK) (X : zX) (Rf : zR) (x : Nat) (fy : Int) (ly : Int) (b9 : Int) (wy : Int) (out : Nat) (ρ : zL) (M : zM) (hC : repC ρ K X Rf x M) (hM : okM M) (h1 : fit fy ∧ fit ly ∧ fit b9 ∧ fit wy) (hko : K out = (4, 1)) (hlo : ρ out = 4000 ∨ ρ out = 4001) : Cl l yL_addFeast cL_addFeast 7 (some .int) [(0, 14, 17, 19), (0, 14, 21, 13), (0, 14, 25, 46)] 9 5 30 Γ [.ref x, .int (iI fy), .int (iI ly), .int (iI b9), .int (iI wy), .ref out] K X Rf (pI (fun (r : Int) (K' : zK) (X' : zX) (R' : zR) => r = cdAfe M fy ly b9 wy ∧ (cdAfe M fy ly b9 wy = 0 → X' out 0 = (wI (M 40 29))) ∧ ∃ ρ', repC ρ' K' X' R' x (if cdAfe M fy ly b9 wy = 0 then (faM M (M 40 29).toNat fy ly b9 wy) else M) ∧ frO ρ K X Rf out ρ' K' X' R')) := by
  refine Cl.of (by decide +kernel) (Nat.le_of_ble_eq_true rfl) ?_
  intro p e s m below meth c ls hx hb hr hml hown hG h46 hlocks hname ht hX hw hl
  have hl : lv_has ls 7 [(0, .ref x), (1, .int (iI fy)), (2, .int (iI ly)), (3, .int (iI b9)), (4, .int (iI wy)), (5, .ref out)] := hl
  have hCk := hC.1.1
  refine lv_aload (pc := 0) hx hb dL_addFeast_0 (lv_at hl 5 rfl) ?_
  refine ziconst (pc := 2) (n := 0) hx hb dL_addFeast_2 ?_
  refine lv_aload_n (pc := 3) hx hb dL_addFeast_3 rfl (lv_at hl 0 rfl) ?_
  refine lv_iload_n (pc := 4) hx hb dL_addFeast_4 rfl (lv_at hl 1 rfl) ?_
  refine lv_iload_n (pc := 5) hx hb dL_addFeast_5 rfl (lv_at hl 2 rfl) ?_
  refine lv_iload_n (pc := 6) hx hb dL_addFeast_6 rfl (lv_at hl 3 rfl) ?_
  refine lv_iload (pc := 7) hx hb dL_addFeast_7 (lv_at hl 4 rfl) ?_
  refine zxkI (pc := 9) (zxrV (As := [.int (iI fy), .int (iI ly), .int (iI b9), .int (iI wy)]) hx hb hml hown hG hX hw (c_X8_addFeast l hl9 Γ K X Rf x fy ly b9 wy (ρ) M (by (first | assumption | omega)) (by (first | assumption | omega)) (by (first | assumption | omega))) (T := TX8) hCk rfl cb_X8_addFeast wl_L_132 rfl ⟨Nat.le_of_ble_eq_true rfl, Nat.le_of_ble_eq_true rfl⟩ hl.1 rfl (Nat.le_of_ble_eq_true rfl) dL_addFeast_9 ⟨(by show 0 + 5 ≤ 5; omega), (by show 0 + 30 ≤ 30; omega)⟩) hw (fun E9 ce9 q9 H locs hxp9 hw hce9 hcv9 hcl9 => ?_) (fun r9 K9 X9 R9 H locs hp9 hw => ?_)
  · skip
    rcases hxp9 with ⟨rfl, hq9⟩ | ⟨rfl, hq9⟩ | ⟨rfl, hq9⟩
    · skip
      refine zht1 (pc := 9) ⟨0, 14, 17, 19⟩ hown hX ht rfl (by decide) (hG _ wn_L_19) zg_391 hce9 hcv9 hcl9 ?_
      refine lv_astore (pc := 17) (lv' := [(6, .ref q9), (0, .ref x), (1, .int (iI fy)), (2, .int (iI ly)), (3, .int (iI b9)), (4, .int (iI wy)), (5, .ref out)]) hx hb dL_addFeast_17 hl (by decide) rfl (fun ls hl => ?_)
      refine ziconst (pc := 19) (n := 1) hx hb dL_addFeast_19 ?_
      exact zretI (pc := 20) hx hb hlocks hr hw (by show 0 + 5 ≤ 5; omega) (by show 0 + 30 ≤ 30; omega) dL_addFeast_20 (by exact ⟨hq9.symm, fun h => absurd (hq9.symm.trans h) (by decide), ρ, (by rw [if_neg (by rw [hq9]; decide)]; exact hC), frO_refl⟩)
    · skip
      refine zht2 (pc := 9) ⟨0, 14, 17, 19⟩ ⟨0, 14, 21, 13⟩ hown hX ht rfl (by decide) (hG _ wn_L_13) zg_60 (by decide) (hG _ wn_L_19) znc1 hce9 hcv9 hcl9 ?_
      refine lv_astore (pc := 21) (lv' := [(6, .ref q9), (0, .ref x), (1, .int (iI fy)), (2, .int (iI ly)), (3, .int (iI b9)), (4, .int (iI wy)), (5, .ref out)]) hx hb dL_addFeast_21 hl (by decide) rfl (fun ls hl => ?_)
      refine ziconst (pc := 23) (n := 2) hx hb dL_addFeast_23 ?_
      exact zretI (pc := 24) hx hb hlocks hr hw (by show 0 + 5 ≤ 5; omega) (by show 0 + 30 ≤ 30; omega) dL_addFeast_24 (by exact ⟨hq9.symm, fun h => absurd (hq9.symm.trans h) (by decide), ρ, (by rw [if_neg (by rw [hq9]; decide)]; exact hC), frO_refl⟩)
    · skip
      refine zht3 (pc := 9) ⟨0, 14, 17, 19⟩ ⟨0, 14, 21, 13⟩ ⟨0, 14, 25, 46⟩ hown hX ht rfl (by decide) h46 zg_121 (by decide) (hG _ wn_L_19) znc2 (by decide) (hG _ wn_L_13) znc3 hce9 hcv9 hcl9 ?_
      refine lv_astore (pc := 25) (lv' := [(6, .ref q9), (0, .ref x), (1, .int (iI fy)), (2, .int (iI ly)), (3, .int (iI b9)), (4, .int (iI wy)), (5, .ref out)]) hx hb dL_addFeast_25 hl (by decide) rfl (fun ls hl => ?_)
      refine ziconst (pc := 27) (n := 3) hx hb dL_addFeast_27 ?_
      exact zretI (pc := 28) hx hb hlocks hr hw (by show 0 + 5 ≤ 5; omega) (by show 0 + 30 ≤ 30; omega) dL_addFeast_28 (by exact ⟨hq9.symm, fun h => absurd (hq9.symm.trans h) (by decide), ρ, (by rw [if_neg (by rw [hq9]; decide)]; exact hC), frO_refl⟩)
  · skip
    obtain ⟨⟨hv9, hc9⟩, ρ1, hC1, hf1⟩ := hp9
    obtain ⟨hko1, hlo1, -⟩ := hf1 out (by rw [hko]; exact Nat.succ_ne_zero _)
    rw [hko] at hko1
    refine zi2lw (pc := 12) hx hb dL_addFeast_12 ?_
    refine zlast (pc := 13) hx hb hw hko1 ⟨by omega, by omega⟩ (by omega) dL_addFeast_13 (fun H locs hw => ?_)
    obtain ⟨X13, eX13⟩ : ∃ Y : zX, Y = up2 X9 out 0 (wI r9) := ⟨_, rfl⟩
    replace hw := Wd.re hw rfl eX13 rfl
    refine lv_goto (pc := 14) (tgt := 29) hx hb dL_addFeast_14 (by decide) ?_
    refine ziconst (pc := 29) (n := 0) hx hb dL_addFeast_29 ?_
    exact zretI (pc := 30) hx hb hlocks hr hw (by show 0 + 5 ≤ 5; omega) (by show 0 + 30 ≤ 30; omega) dL_addFeast_30 (by have L9 := Lend hC1 hf1 (Or.inl hko) hlo eX13; exact ⟨hc9.symm, fun _ => (L9.1.trans (congrArg wI hv9)), ρ1, (by rw [if_pos hc9]; exact L9.2.1), L9.2.2⟩)
set_option maxHeartbeats 4000000 in
set_option maxRecDepth 100000 in
theorem c_L_feastOn (l : Launch) (hl9 : l.stackTraces = false) (Γ : zG) (K : zK) (X : zX) (Rf : zR) (x : Nat) (day : Int) (out : Nat) (ρ : zL) (M : zM) (hC : repC ρ K X Rf x M) (hM : okM M) (h1 : fit day) (hko : K out = (4, 1)) (hlo : ρ out = 4000 ∨ ρ out = 4001) : Cl l yL_feastOn cL_feastOn 4 (some .int) [(0, 9, 12, 19)] 8 1 6 Γ [.ref x, .int (iI day), .ref out] K X Rf (pI (fun (r : Int) (K' : zK) (X' : zX) (R' : zR) => r = cdDay day ∧ (cdDay day = 0 → X' out 0 = (wI (falM M day))) ∧ ∃ ρ', repC ρ' K' X' R' x M ∧ frO ρ K X Rf out ρ' K' X' R')) := by
  refine Cl.of (by decide +kernel) (Nat.le_of_ble_eq_true rfl) ?_
  intro p e s m below meth c ls hx hb hr hml hown hG h46 hlocks hname ht hX hw hl
  have hl : lv_has ls 4 [(0, .ref x), (1, .int (iI day)), (2, .ref out)] := hl
  have hCk := hC.1.1
  refine lv_aload_n (pc := 0) hx hb dL_feastOn_0 rfl (lv_at hl 2 rfl) ?_
  refine ziconst (pc := 1) (n := 0) hx hb dL_feastOn_1 ?_
  refine lv_aload_n (pc := 2) hx hb dL_feastOn_2 rfl (lv_at hl 0 rfl) ?_
  refine lv_iload_n (pc := 3) hx hb dL_feastOn_3 rfl (lv_at hl 1 rfl) ?_
  refine zxkI (pc := 4) (zxrV (As := [.int (iI day)]) hx hb hml hown hG hX hw (c_X8_feastOn l hl9 Γ K X Rf x day (ρ) M (by (first | assumption | omega)) (by (first | assumption | omega)) (by (first | assumption | omega))) (T := TX8) hCk rfl cb_X8_feastOn wl_L_136 rfl ⟨Nat.le_of_ble_eq_true rfl, Nat.le_of_ble_eq_true rfl⟩ hl.1 rfl (Nat.le_of_ble_eq_true rfl) dL_feastOn_4 ⟨(by show 0 + 1 ≤ 1; omega), (by show 0 + 6 ≤ 6; omega)⟩) hw (fun E9 ce9 q9 H locs hxp9 hw hce9 hcv9 hcl9 => ?_) (fun r4 K4 X4 R4 H locs hp4 hw => ?_)
  · skip
    rcases hxp9 with ⟨rfl, hq9⟩
    · skip
      refine zht1 (pc := 4) ⟨0, 9, 12, 19⟩ hown hX ht rfl (by decide) (hG _ wn_L_19) zg_391 hce9 hcv9 hcl9 ?_
      refine lv_astore_n (pc := 12) (lv' := [(3, .ref q9), (0, .ref x), (1, .int (iI day)), (2, .ref out)]) hx hb dL_feastOn_12 rfl hl (by decide) rfl (fun ls hl => ?_)
      refine ziconst (pc := 13) (n := 1) hx hb dL_feastOn_13 ?_
      exact zretI (pc := 14) hx hb hlocks hr hw (by show 0 + 1 ≤ 1; omega) (by show 0 + 6 ≤ 6; omega) dL_feastOn_14 (by exact ⟨hq9.symm, fun h => absurd (hq9.symm.trans h) (by decide), ρ, (by exact hC), frO_refl⟩)
  · skip
    obtain ⟨⟨hv9, hc9⟩, ρ1, hC1, hf1⟩ := hp4
    obtain ⟨hko1, hlo1, -⟩ := hf1 out (by rw [hko]; exact Nat.succ_ne_zero _)
    rw [hko] at hko1
    refine zi2lw (pc := 7) hx hb dL_feastOn_7 ?_
    refine zlast (pc := 8) hx hb hw hko1 ⟨by omega, by omega⟩ (by omega) dL_feastOn_8 (fun H locs hw => ?_)
    obtain ⟨X8, eX8⟩ : ∃ Y : zX, Y = up2 X4 out 0 (wI r4) := ⟨_, rfl⟩
    replace hw := Wd.re hw rfl eX8 rfl
    refine lv_goto (pc := 9) (tgt := 15) hx hb dL_feastOn_9 (by decide) ?_
    refine ziconst (pc := 15) (n := 0) hx hb dL_feastOn_15 ?_
    exact zretI (pc := 16) hx hb hlocks hr hw (by show 0 + 1 ≤ 1; omega) (by show 0 + 6 ≤ 6; omega) dL_feastOn_16 (by have L9 := Lend hC1 hf1 (Or.inl hko) hlo eX8; exact ⟨hc9.symm, fun _ => (L9.1.trans (congrArg wI hv9)), ρ1, (by exact L9.2.1), L9.2.2⟩)
set_option maxHeartbeats 4000000 in
set_option maxRecDepth 100000 in
theorem c_L_isWorking (l : Launch) (hl9 : l.stackTraces = false) (Γ : zG) (K : zK) (X : zX) (Rf : zR) (x : Nat) (day : Int) (out : Nat) (ρ : zL) (M : zM) (hC : repC ρ K X Rf x M) (hM : okM M) (h1 : fit day) (hko : K out = (4, 1)) (hlo : ρ out = 4000 ∨ ρ out = 4001) : Cl l yL_isWorking cL_isWorking 4 (some .int) [(0, 16, 19, 19)] 8 1 6 Γ [.ref x, .int (iI day), .ref out] K X Rf (pI (fun (r : Int) (K' : zK) (X' : zX) (R' : zR) => r = cdDay day ∧ (cdDay day = 0 → X' out 0 = bI (wkdM M day)) ∧ ∃ ρ', repC ρ' K' X' R' x M ∧ frO ρ K X Rf out ρ' K' X' R')) := by
  refine Cl.of (by decide +kernel) (Nat.le_of_ble_eq_true rfl) ?_
  intro p e s m below meth c ls hx hb hr hml hown hG h46 hlocks hname ht hX hw hl
  have hl : lv_has ls 4 [(0, .ref x), (1, .int (iI day)), (2, .ref out)] := hl
  have hCk := hC.1.1
  refine lv_aload_n (pc := 0) hx hb dL_isWorking_0 rfl (lv_at hl 2 rfl) ?_
  refine ziconst (pc := 1) (n := 0) hx hb dL_isWorking_1 ?_
  refine lv_aload_n (pc := 2) hx hb dL_isWorking_2 rfl (lv_at hl 0 rfl) ?_
  refine lv_iload_n (pc := 3) hx hb dL_isWorking_3 rfl (lv_at hl 1 rfl) ?_
  refine zxkI (pc := 4) (zxrV (As := [.int (iI day)]) hx hb hml hown hG hX hw (c_X8_isWorking l hl9 Γ K X Rf x day (ρ) M (by (first | assumption | omega)) (by (first | assumption | omega)) (by (first | assumption | omega))) (T := TX8) hCk rfl cb_X8_isWorking wl_L_139 rfl ⟨Nat.le_of_ble_eq_true rfl, Nat.le_of_ble_eq_true rfl⟩ hl.1 rfl (Nat.le_of_ble_eq_true rfl) dL_isWorking_4 ⟨(by show 0 + 1 ≤ 1; omega), (by show 0 + 6 ≤ 6; omega)⟩) hw (fun E9 ce9 q9 H locs hxp9 hw hce9 hcv9 hcl9 => ?_) (fun r4 K4 X4 R4 H locs hp4 hw => ?_)
  · skip
    rcases hxp9 with ⟨rfl, hq9⟩
    · skip
      refine zht1 (pc := 4) ⟨0, 16, 19, 19⟩ hown hX ht rfl (by decide) (hG _ wn_L_19) zg_391 hce9 hcv9 hcl9 ?_
      refine lv_astore_n (pc := 19) (lv' := [(3, .ref q9), (0, .ref x), (1, .int (iI day)), (2, .ref out)]) hx hb dL_isWorking_19 rfl hl (by decide) rfl (fun ls hl => ?_)
      refine ziconst (pc := 20) (n := 1) hx hb dL_isWorking_20 ?_
      exact zretI (pc := 21) hx hb hlocks hr hw (by show 0 + 1 ≤ 1; omega) (by show 0 + 6 ≤ 6; omega) dL_isWorking_21 (by exact ⟨hq9.symm, fun h => absurd (hq9.symm.trans h) (by decide), ρ, (by exact hC), frO_refl⟩)
  · skip
    obtain ⟨⟨hv9, hc9⟩, ρ1, hC1, hf1⟩ := hp4
    have hr9 : r4 = 0 ∨ r4 = 1 := by rw [hv9]; (try unfold bI); split <;> first | exact Or.inr rfl | exact Or.inl rfl
    obtain ⟨hko1, hlo1, -⟩ := hf1 out (by rw [hko]; exact Nat.succ_ne_zero _)
    rw [hko] at hko1
    refine zif_eq (pc := 7) hx hb 14 (by omega) dL_isWorking_7 (by decide) (fun c7 => ?_) (fun c7 => ?_)
    · skip
      refine zlconst (pc := 14) (z := 0) hx hb rfl dL_isWorking_14 ?_
      refine zlast (pc := 15) hx hb hw hko1 ⟨by omega, by omega⟩ (by omega) dL_isWorking_15 (fun H locs hw => ?_)
      obtain ⟨X15, eX15⟩ : ∃ Y : zX, Y = up2 X4 out 0 0 := ⟨_, rfl⟩
      replace hw := Wd.re hw rfl eX15 rfl
      refine lv_goto (pc := 16) (tgt := 22) hx hb dL_isWorking_16 (by decide) ?_
      refine ziconst (pc := 22) (n := 0) hx hb dL_isWorking_22 ?_
      exact zretI (pc := 23) hx hb hlocks hr hw (by show 0 + 1 ≤ 1; omega) (by show 0 + 6 ≤ 6; omega) dL_isWorking_23 (by have L9 := Lend hC1 hf1 (Or.inl hko) hlo eX15; exact ⟨hc9.symm, fun _ => (L9.1.trans (by rw [← hv9]; omega)), ρ1, (by exact L9.2.1), L9.2.2⟩)
    · skip
      refine zlconst (pc := 10) (z := 1) hx hb rfl dL_isWorking_10 ?_
      refine lv_goto (pc := 11) (tgt := 15) hx hb dL_isWorking_11 (by decide) ?_
      refine zlast (pc := 15) hx hb hw hko1 ⟨by omega, by omega⟩ (by omega) dL_isWorking_15 (fun H locs hw => ?_)
      obtain ⟨X15, eX15⟩ : ∃ Y : zX, Y = up2 X4 out 0 1 := ⟨_, rfl⟩
      replace hw := Wd.re hw rfl eX15 rfl
      refine lv_goto (pc := 16) (tgt := 22) hx hb dL_isWorking_16 (by decide) ?_
      refine ziconst (pc := 22) (n := 0) hx hb dL_isWorking_22 ?_
      exact zretI (pc := 23) hx hb hlocks hr hw (by show 0 + 1 ≤ 1; omega) (by show 0 + 6 ≤ 6; omega) dL_isWorking_23 (by have L9 := Lend hC1 hf1 (Or.inl hko) hlo eX15; exact ⟨hc9.symm, fun _ => (L9.1.trans (by rw [← hv9]; omega)), ρ1, (by exact L9.2.1), L9.2.2⟩)
set_option maxHeartbeats 4000000 in
set_option maxRecDepth 100000 in
theorem c_L_workingDays (l : Launch) (hl9 : l.stackTraces = false) (Γ : zG) (K : zK) (X : zX) (Rf : zR) (x : Nat) (fr : Int) (days : Int) (out : Nat) (ρ : zL) (M : zM) (hC : repC ρ K X Rf x M) (hM : okM M) (h1 : fit fr ∧ fit days) (hko : K out = (4, 1)) (hlo : ρ out = 4000 ∨ ρ out = 4001) : Cl l yL_workingDays cL_workingDays 5 (some .int) [(0, 10, 13, 19), (0, 10, 17, 13)] 8 2 12 Γ [.ref x, .int (iI fr), .int (iI days), .ref out] K X Rf (pI (fun (r : Int) (K' : zK) (X' : zX) (R' : zR) => r = cdWds fr days ∧ (cdWds fr days = 0 → X' out 0 = (wI (cP (wkdM M) (fr + days - fr).toNat fr))) ∧ ∃ ρ', repC ρ' K' X' R' x M ∧ frO ρ K X Rf out ρ' K' X' R')) := by
  refine Cl.of (by decide +kernel) (Nat.le_of_ble_eq_true rfl) ?_
  intro p e s m below meth c ls hx hb hr hml hown hG h46 hlocks hname ht hX hw hl
  have hl : lv_has ls 5 [(0, .ref x), (1, .int (iI fr)), (2, .int (iI days)), (3, .ref out)] := hl
  have hCk := hC.1.1
  refine lv_aload_n (pc := 0) hx hb dL_workingDays_0 rfl (lv_at hl 3 rfl) ?_
  refine ziconst (pc := 1) (n := 0) hx hb dL_workingDays_1 ?_
  refine lv_aload_n (pc := 2) hx hb dL_workingDays_2 rfl (lv_at hl 0 rfl) ?_
  refine lv_iload_n (pc := 3) hx hb dL_workingDays_3 rfl (lv_at hl 1 rfl) ?_
  refine lv_iload_n (pc := 4) hx hb dL_workingDays_4 rfl (lv_at hl 2 rfl) ?_
  refine zxkI (pc := 5) (zxrV (As := [.int (iI fr), .int (iI days)]) hx hb hml hown hG hX hw (c_X8_workingDays l hl9 Γ K X Rf x fr days (ρ) M (by (first | assumption | omega)) (by (first | assumption | omega)) (by (first | assumption | omega))) (T := TX8) hCk rfl cb_X8_workingDays wl_L_143 rfl ⟨Nat.le_of_ble_eq_true rfl, Nat.le_of_ble_eq_true rfl⟩ hl.1 rfl (Nat.le_of_ble_eq_true rfl) dL_workingDays_5 ⟨(by show 0 + 2 ≤ 2; omega), (by show 0 + 12 ≤ 12; omega)⟩) hw (fun E9 ce9 q9 H locs hxp9 hw hce9 hcv9 hcl9 => ?_) (fun r5 K5 X5 R5 H locs hp5 hw => ?_)
  · skip
    rcases hxp9 with ⟨rfl, hq9⟩ | ⟨rfl, hq9⟩
    · skip
      refine zht1 (pc := 5) ⟨0, 10, 13, 19⟩ hown hX ht rfl (by decide) (hG _ wn_L_19) zg_391 hce9 hcv9 hcl9 ?_
      refine lv_astore (pc := 13) (lv' := [(4, .ref q9), (0, .ref x), (1, .int (iI fr)), (2, .int (iI days)), (3, .ref out)]) hx hb dL_workingDays_13 hl (by decide) rfl (fun ls hl => ?_)
      refine ziconst (pc := 15) (n := 1) hx hb dL_workingDays_15 ?_
      exact zretI (pc := 16) hx hb hlocks hr hw (by show 0 + 2 ≤ 2; omega) (by show 0 + 12 ≤ 12; omega) dL_workingDays_16 (by exact ⟨hq9.symm, fun h => absurd (hq9.symm.trans h) (by decide), ρ, (by exact hC), frO_refl⟩)
    · skip
      refine zht2 (pc := 5) ⟨0, 10, 13, 19⟩ ⟨0, 10, 17, 13⟩ hown hX ht rfl (by decide) (hG _ wn_L_13) zg_60 (by decide) (hG _ wn_L_19) znc1 hce9 hcv9 hcl9 ?_
      refine lv_astore (pc := 17) (lv' := [(4, .ref q9), (0, .ref x), (1, .int (iI fr)), (2, .int (iI days)), (3, .ref out)]) hx hb dL_workingDays_17 hl (by decide) rfl (fun ls hl => ?_)
      refine ziconst (pc := 19) (n := 2) hx hb dL_workingDays_19 ?_
      exact zretI (pc := 20) hx hb hlocks hr hw (by show 0 + 2 ≤ 2; omega) (by show 0 + 12 ≤ 12; omega) dL_workingDays_20 (by exact ⟨hq9.symm, fun h => absurd (hq9.symm.trans h) (by decide), ρ, (by exact hC), frO_refl⟩)
  · skip
    obtain ⟨⟨hv9, hc9⟩, ρ1, hC1, hf1⟩ := hp5
    obtain ⟨hko1, hlo1, -⟩ := hf1 out (by rw [hko]; exact Nat.succ_ne_zero _)
    rw [hko] at hko1
    refine zi2lw (pc := 8) hx hb dL_workingDays_8 ?_
    refine zlast (pc := 9) hx hb hw hko1 ⟨by omega, by omega⟩ (by omega) dL_workingDays_9 (fun H locs hw => ?_)
    obtain ⟨X9, eX9⟩ : ∃ Y : zX, Y = up2 X5 out 0 (wI r5) := ⟨_, rfl⟩
    replace hw := Wd.re hw rfl eX9 rfl
    refine lv_goto (pc := 10) (tgt := 21) hx hb dL_workingDays_10 (by decide) ?_
    refine ziconst (pc := 21) (n := 0) hx hb dL_workingDays_21 ?_
    exact zretI (pc := 22) hx hb hlocks hr hw (by show 0 + 2 ≤ 2; omega) (by show 0 + 12 ≤ 12; omega) dL_workingDays_22 (by have L9 := Lend hC1 hf1 (Or.inl hko) hlo eX9; exact ⟨hc9.symm, fun _ => (L9.1.trans (congrArg wI hv9)), ρ1, (by exact L9.2.1), L9.2.2⟩)
set_option maxHeartbeats 4000000 in
set_option maxRecDepth 100000 in
theorem c_L_plusWorking (l : Launch) (hl9 : l.stackTraces = false) (Γ : zG) (K : zK) (X : zX) (Rf : zR) (x : Nat) (day : Int) (days : Int) (out : Nat) (ρ : zL) (M : zM) (hC : repC ρ K X Rf x M) (hM : okM M) (h1 : fit day ∧ fit days) (hko : K out = (4, 1)) (hlo : ρ out = 4000 ∨ ρ out = 4001) : Cl l yL_plusWorking cL_plusWorking 5 (some .int) [(0, 10, 13, 19), (0, 10, 17, 13)] 8 2 12 Γ [.ref x, .int (iI day), .int (iI days), .ref out] K X Rf (pI (fun (r : Int) (K' : zK) (X' : zX) (R' : zR) => r = cdPwk day days ∧ (cdPwk day days = 0 → X' out 0 = (wI (bhF (wkdM M) day days))) ∧ ∃ ρ', repC ρ' K' X' R' x M ∧ frO ρ K X Rf out ρ' K' X' R')) := by
  refine Cl.of (by decide +kernel) (Nat.le_of_ble_eq_true rfl) ?_
  intro p e s m below meth c ls hx hb hr hml hown hG h46 hlocks hname ht hX hw hl
  have hl : lv_has ls 5 [(0, .ref x), (1, .int (iI day)), (2, .int (iI days)), (3, .ref out)] := hl
  have hCk := hC.1.1
  refine lv_aload_n (pc := 0) hx hb dL_plusWorking_0 rfl (lv_at hl 3 rfl) ?_
  refine ziconst (pc := 1) (n := 0) hx hb dL_plusWorking_1 ?_
  refine lv_aload_n (pc := 2) hx hb dL_plusWorking_2 rfl (lv_at hl 0 rfl) ?_
  refine lv_iload_n (pc := 3) hx hb dL_plusWorking_3 rfl (lv_at hl 1 rfl) ?_
  refine lv_iload_n (pc := 4) hx hb dL_plusWorking_4 rfl (lv_at hl 2 rfl) ?_
  refine zxkI (pc := 5) (zxrV (As := [.int (iI day), .int (iI days)]) hx hb hml hown hG hX hw (c_X8_plusWorking l hl9 Γ K X Rf x day days (ρ) M (by (first | assumption | omega)) (by (first | assumption | omega)) (by (first | assumption | omega))) (T := TX8) hCk rfl cb_X8_plusWorking wl_L_146 rfl ⟨Nat.le_of_ble_eq_true rfl, Nat.le_of_ble_eq_true rfl⟩ hl.1 rfl (Nat.le_of_ble_eq_true rfl) dL_plusWorking_5 ⟨(by show 0 + 2 ≤ 2; omega), (by show 0 + 12 ≤ 12; omega)⟩) hw (fun E9 ce9 q9 H locs hxp9 hw hce9 hcv9 hcl9 => ?_) (fun r5 K5 X5 R5 H locs hp5 hw => ?_)
  · skip
    rcases hxp9 with ⟨rfl, hq9⟩ | ⟨rfl, hq9⟩
    · skip
      refine zht1 (pc := 5) ⟨0, 10, 13, 19⟩ hown hX ht rfl (by decide) (hG _ wn_L_19) zg_391 hce9 hcv9 hcl9 ?_
      refine lv_astore (pc := 13) (lv' := [(4, .ref q9), (0, .ref x), (1, .int (iI day)), (2, .int (iI days)), (3, .ref out)]) hx hb dL_plusWorking_13 hl (by decide) rfl (fun ls hl => ?_)
      refine ziconst (pc := 15) (n := 1) hx hb dL_plusWorking_15 ?_
      exact zretI (pc := 16) hx hb hlocks hr hw (by show 0 + 2 ≤ 2; omega) (by show 0 + 12 ≤ 12; omega) dL_plusWorking_16 (by exact ⟨hq9.symm, fun h => absurd (hq9.symm.trans h) (by decide), ρ, (by exact hC), frO_refl⟩)
    · skip
      refine zht2 (pc := 5) ⟨0, 10, 13, 19⟩ ⟨0, 10, 17, 13⟩ hown hX ht rfl (by decide) (hG _ wn_L_13) zg_60 (by decide) (hG _ wn_L_19) znc1 hce9 hcv9 hcl9 ?_
      refine lv_astore (pc := 17) (lv' := [(4, .ref q9), (0, .ref x), (1, .int (iI day)), (2, .int (iI days)), (3, .ref out)]) hx hb dL_plusWorking_17 hl (by decide) rfl (fun ls hl => ?_)
      refine ziconst (pc := 19) (n := 2) hx hb dL_plusWorking_19 ?_
      exact zretI (pc := 20) hx hb hlocks hr hw (by show 0 + 2 ≤ 2; omega) (by show 0 + 12 ≤ 12; omega) dL_plusWorking_20 (by exact ⟨hq9.symm, fun h => absurd (hq9.symm.trans h) (by decide), ρ, (by exact hC), frO_refl⟩)
  · skip
    obtain ⟨⟨hv9, hc9⟩, ρ1, hC1, hf1⟩ := hp5
    obtain ⟨hko1, hlo1, -⟩ := hf1 out (by rw [hko]; exact Nat.succ_ne_zero _)
    rw [hko] at hko1
    refine zi2lw (pc := 8) hx hb dL_plusWorking_8 ?_
    refine zlast (pc := 9) hx hb hw hko1 ⟨by omega, by omega⟩ (by omega) dL_plusWorking_9 (fun H locs hw => ?_)
    obtain ⟨X9, eX9⟩ : ∃ Y : zX, Y = up2 X5 out 0 (wI r5) := ⟨_, rfl⟩
    replace hw := Wd.re hw rfl eX9 rfl
    refine lv_goto (pc := 10) (tgt := 21) hx hb dL_plusWorking_10 (by decide) ?_
    refine ziconst (pc := 21) (n := 0) hx hb dL_plusWorking_21 ?_
    exact zretI (pc := 22) hx hb hlocks hr hw (by show 0 + 2 ≤ 2; omega) (by show 0 + 12 ≤ 12; omega) dL_plusWorking_22 (by have L9 := Lend hC1 hf1 (Or.inl hko) hlo eX9; exact ⟨hc9.symm, fun _ => (L9.1.trans (congrArg wI hv9)), ρ1, (by exact L9.2.1), L9.2.2⟩)
set_option maxHeartbeats 4000000 in
set_option maxRecDepth 100000 in
theorem c_L_isWorkingMinute (l : Launch) (hl9 : l.stackTraces = false) (Γ : zG) (K : zK) (X : zX) (Rf : zR) (x : Nat) (mo : Int) (out : Nat) (ρ : zL) (M : zM) (hC : repC ρ K X Rf x M) (hM : okM M) (h1 : fit mo) (hko : K out = (4, 1)) (hlo : ρ out = 4000 ∨ ρ out = 4001) : Cl l yL_isWorkingMinute cL_isWorkingMinute 4 (some .int) [(0, 16, 19, 19)] 8 1 6 Γ [.ref x, .int (iI mo), .ref out] K X Rf (pI (fun (r : Int) (K' : zK) (X' : zX) (R' : zR) => r = cdMom mo ∧ (cdMom mo = 0 → X' out 0 = bI (wkmM M mo)) ∧ ∃ ρ', repC ρ' K' X' R' x M ∧ frO ρ K X Rf out ρ' K' X' R')) := by
  refine Cl.of (by decide +kernel) (Nat.le_of_ble_eq_true rfl) ?_
  intro p e s m below meth c ls hx hb hr hml hown hG h46 hlocks hname ht hX hw hl
  have hl : lv_has ls 4 [(0, .ref x), (1, .int (iI mo)), (2, .ref out)] := hl
  have hCk := hC.1.1
  refine lv_aload_n (pc := 0) hx hb dL_isWorkingMinute_0 rfl (lv_at hl 2 rfl) ?_
  refine ziconst (pc := 1) (n := 0) hx hb dL_isWorkingMinute_1 ?_
  refine lv_aload_n (pc := 2) hx hb dL_isWorkingMinute_2 rfl (lv_at hl 0 rfl) ?_
  refine lv_iload_n (pc := 3) hx hb dL_isWorkingMinute_3 rfl (lv_at hl 1 rfl) ?_
  refine zxkI (pc := 4) (zxrV (As := [.int (iI mo)]) hx hb hml hown hG hX hw (c_X8_isWorkingMinute l hl9 Γ K X Rf x mo (ρ) M (by (first | assumption | omega)) (by (first | assumption | omega)) (by (first | assumption | omega))) (T := TX8) hCk rfl cb_X8_isWorkingMinute wl_L_149 rfl ⟨Nat.le_of_ble_eq_true rfl, Nat.le_of_ble_eq_true rfl⟩ hl.1 rfl (Nat.le_of_ble_eq_true rfl) dL_isWorkingMinute_4 ⟨(by show 0 + 1 ≤ 1; omega), (by show 0 + 6 ≤ 6; omega)⟩) hw (fun E9 ce9 q9 H locs hxp9 hw hce9 hcv9 hcl9 => ?_) (fun r4 K4 X4 R4 H locs hp4 hw => ?_)
  · skip
    rcases hxp9 with ⟨rfl, hq9⟩
    · skip
      refine zht1 (pc := 4) ⟨0, 16, 19, 19⟩ hown hX ht rfl (by decide) (hG _ wn_L_19) zg_391 hce9 hcv9 hcl9 ?_
      refine lv_astore_n (pc := 19) (lv' := [(3, .ref q9), (0, .ref x), (1, .int (iI mo)), (2, .ref out)]) hx hb dL_isWorkingMinute_19 rfl hl (by decide) rfl (fun ls hl => ?_)
      refine ziconst (pc := 20) (n := 1) hx hb dL_isWorkingMinute_20 ?_
      exact zretI (pc := 21) hx hb hlocks hr hw (by show 0 + 1 ≤ 1; omega) (by show 0 + 6 ≤ 6; omega) dL_isWorkingMinute_21 (by exact ⟨hq9.symm, fun h => absurd (hq9.symm.trans h) (by decide), ρ, (by exact hC), frO_refl⟩)
  · skip
    obtain ⟨⟨hv9, hc9⟩, ρ1, hC1, hf1⟩ := hp4
    have hr9 : r4 = 0 ∨ r4 = 1 := by rw [hv9]; (try unfold bI); split <;> first | exact Or.inr rfl | exact Or.inl rfl
    obtain ⟨hko1, hlo1, -⟩ := hf1 out (by rw [hko]; exact Nat.succ_ne_zero _)
    rw [hko] at hko1
    refine zif_eq (pc := 7) hx hb 14 (by omega) dL_isWorkingMinute_7 (by decide) (fun c7 => ?_) (fun c7 => ?_)
    · skip
      refine zlconst (pc := 14) (z := 0) hx hb rfl dL_isWorkingMinute_14 ?_
      refine zlast (pc := 15) hx hb hw hko1 ⟨by omega, by omega⟩ (by omega) dL_isWorkingMinute_15 (fun H locs hw => ?_)
      obtain ⟨X15, eX15⟩ : ∃ Y : zX, Y = up2 X4 out 0 0 := ⟨_, rfl⟩
      replace hw := Wd.re hw rfl eX15 rfl
      refine lv_goto (pc := 16) (tgt := 22) hx hb dL_isWorkingMinute_16 (by decide) ?_
      refine ziconst (pc := 22) (n := 0) hx hb dL_isWorkingMinute_22 ?_
      exact zretI (pc := 23) hx hb hlocks hr hw (by show 0 + 1 ≤ 1; omega) (by show 0 + 6 ≤ 6; omega) dL_isWorkingMinute_23 (by have L9 := Lend hC1 hf1 (Or.inl hko) hlo eX15; exact ⟨hc9.symm, fun _ => (L9.1.trans (by rw [← hv9]; omega)), ρ1, (by exact L9.2.1), L9.2.2⟩)
    · skip
      refine zlconst (pc := 10) (z := 1) hx hb rfl dL_isWorkingMinute_10 ?_
      refine lv_goto (pc := 11) (tgt := 15) hx hb dL_isWorkingMinute_11 (by decide) ?_
      refine zlast (pc := 15) hx hb hw hko1 ⟨by omega, by omega⟩ (by omega) dL_isWorkingMinute_15 (fun H locs hw => ?_)
      obtain ⟨X15, eX15⟩ : ∃ Y : zX, Y = up2 X4 out 0 1 := ⟨_, rfl⟩
      replace hw := Wd.re hw rfl eX15 rfl
      refine lv_goto (pc := 16) (tgt := 22) hx hb dL_isWorkingMinute_16 (by decide) ?_
      refine ziconst (pc := 22) (n := 0) hx hb dL_isWorkingMinute_22 ?_
      exact zretI (pc := 23) hx hb hlocks hr hw (by show 0 + 1 ≤ 1; omega) (by show 0 + 6 ≤ 6; omega) dL_isWorkingMinute_23 (by have L9 := Lend hC1 hf1 (Or.inl hko) hlo eX15; exact ⟨hc9.symm, fun _ => (L9.1.trans (by rw [← hv9]; omega)), ρ1, (by exact L9.2.1), L9.2.2⟩)
set_option maxHeartbeats 4000000 in
set_option maxRecDepth 100000 in
theorem c_L_workWithin (l : Launch) (hl9 : l.stackTraces = false) (Γ : zG) (K : zK) (X : zX) (Rf : zR) (x : Nat) (fr : Int) (mn : Int) (out : Nat) (ρ : zL) (M : zM) (hC : repC ρ K X Rf x M) (hM : okM M) (h1 : fit fr ∧ fit mn) (hko : K out = (4, 1)) (hlo : ρ out = 4000 ∨ ρ out = 4001) : Cl l yL_workWithin cL_workWithin 5 (some .int) [(0, 10, 13, 19), (0, 10, 17, 13)] 8 2 12 Γ [.ref x, .int (iI fr), .int (iI mn), .ref out] K X Rf (pI (fun (r : Int) (K' : zK) (X' : zX) (R' : zR) => r = cdWwi fr mn ∧ (cdWwi fr mn = 0 → X' out 0 = (wI (cP (wkmM M) (fr + mn - fr).toNat fr))) ∧ ∃ ρ', repC ρ' K' X' R' x M ∧ frO ρ K X Rf out ρ' K' X' R')) := by
  refine Cl.of (by decide +kernel) (Nat.le_of_ble_eq_true rfl) ?_
  intro p e s m below meth c ls hx hb hr hml hown hG h46 hlocks hname ht hX hw hl
  have hl : lv_has ls 5 [(0, .ref x), (1, .int (iI fr)), (2, .int (iI mn)), (3, .ref out)] := hl
  have hCk := hC.1.1
  refine lv_aload_n (pc := 0) hx hb dL_workWithin_0 rfl (lv_at hl 3 rfl) ?_
  refine ziconst (pc := 1) (n := 0) hx hb dL_workWithin_1 ?_
  refine lv_aload_n (pc := 2) hx hb dL_workWithin_2 rfl (lv_at hl 0 rfl) ?_
  refine lv_iload_n (pc := 3) hx hb dL_workWithin_3 rfl (lv_at hl 1 rfl) ?_
  refine lv_iload_n (pc := 4) hx hb dL_workWithin_4 rfl (lv_at hl 2 rfl) ?_
  refine zxkI (pc := 5) (zxrV (As := [.int (iI fr), .int (iI mn)]) hx hb hml hown hG hX hw (c_X8_workWithin l hl9 Γ K X Rf x fr mn (ρ) M (by (first | assumption | omega)) (by (first | assumption | omega)) (by (first | assumption | omega))) (T := TX8) hCk rfl cb_X8_workWithin wl_L_152 rfl ⟨Nat.le_of_ble_eq_true rfl, Nat.le_of_ble_eq_true rfl⟩ hl.1 rfl (Nat.le_of_ble_eq_true rfl) dL_workWithin_5 ⟨(by show 0 + 2 ≤ 2; omega), (by show 0 + 12 ≤ 12; omega)⟩) hw (fun E9 ce9 q9 H locs hxp9 hw hce9 hcv9 hcl9 => ?_) (fun r5 K5 X5 R5 H locs hp5 hw => ?_)
  · skip
    rcases hxp9 with ⟨rfl, hq9⟩ | ⟨rfl, hq9⟩
    · skip
      refine zht1 (pc := 5) ⟨0, 10, 13, 19⟩ hown hX ht rfl (by decide) (hG _ wn_L_19) zg_391 hce9 hcv9 hcl9 ?_
      refine lv_astore (pc := 13) (lv' := [(4, .ref q9), (0, .ref x), (1, .int (iI fr)), (2, .int (iI mn)), (3, .ref out)]) hx hb dL_workWithin_13 hl (by decide) rfl (fun ls hl => ?_)
      refine ziconst (pc := 15) (n := 1) hx hb dL_workWithin_15 ?_
      exact zretI (pc := 16) hx hb hlocks hr hw (by show 0 + 2 ≤ 2; omega) (by show 0 + 12 ≤ 12; omega) dL_workWithin_16 (by exact ⟨hq9.symm, fun h => absurd (hq9.symm.trans h) (by decide), ρ, (by exact hC), frO_refl⟩)
    · skip
      refine zht2 (pc := 5) ⟨0, 10, 13, 19⟩ ⟨0, 10, 17, 13⟩ hown hX ht rfl (by decide) (hG _ wn_L_13) zg_60 (by decide) (hG _ wn_L_19) znc1 hce9 hcv9 hcl9 ?_
      refine lv_astore (pc := 17) (lv' := [(4, .ref q9), (0, .ref x), (1, .int (iI fr)), (2, .int (iI mn)), (3, .ref out)]) hx hb dL_workWithin_17 hl (by decide) rfl (fun ls hl => ?_)
      refine ziconst (pc := 19) (n := 2) hx hb dL_workWithin_19 ?_
      exact zretI (pc := 20) hx hb hlocks hr hw (by show 0 + 2 ≤ 2; omega) (by show 0 + 12 ≤ 12; omega) dL_workWithin_20 (by exact ⟨hq9.symm, fun h => absurd (hq9.symm.trans h) (by decide), ρ, (by exact hC), frO_refl⟩)
  · skip
    obtain ⟨⟨hv9, hc9⟩, ρ1, hC1, hf1⟩ := hp5
    obtain ⟨hko1, hlo1, -⟩ := hf1 out (by rw [hko]; exact Nat.succ_ne_zero _)
    rw [hko] at hko1
    refine zi2lw (pc := 8) hx hb dL_workWithin_8 ?_
    refine zlast (pc := 9) hx hb hw hko1 ⟨by omega, by omega⟩ (by omega) dL_workWithin_9 (fun H locs hw => ?_)
    obtain ⟨X9, eX9⟩ : ∃ Y : zX, Y = up2 X5 out 0 (wI r5) := ⟨_, rfl⟩
    replace hw := Wd.re hw rfl eX9 rfl
    refine lv_goto (pc := 10) (tgt := 21) hx hb dL_workWithin_10 (by decide) ?_
    refine ziconst (pc := 21) (n := 0) hx hb dL_workWithin_21 ?_
    exact zretI (pc := 22) hx hb hlocks hr hw (by show 0 + 2 ≤ 2; omega) (by show 0 + 12 ≤ 12; omega) dL_workWithin_22 (by have L9 := Lend hC1 hf1 (Or.inl hko) hlo eX9; exact ⟨hc9.symm, fun _ => (L9.1.trans (congrArg wI hv9)), ρ1, (by exact L9.2.1), L9.2.2⟩)
set_option maxHeartbeats 4000000 in
set_option maxRecDepth 100000 in
theorem c_L_doneAt (l : Launch) (hl9 : l.stackTraces = false) (Γ : zG) (K : zK) (X : zX) (Rf : zR) (x : Nat) (fr : Int) (wk : Int) (out : Nat) (ρ : zL) (M : zM) (hC : repC ρ K X Rf x M) (hM : okM M) (h1 : fit fr ∧ fit wk) (hko : K out = (4, 1)) (hlo : ρ out = 4000 ∨ ρ out = 4001) : Cl l yL_doneAt cL_doneAt 5 (some .int) [(0, 10, 13, 19), (0, 10, 17, 13)] 8 2 12 Γ [.ref x, .int (iI fr), .int (iI wk), .ref out] K X Rf (pI (fun (r : Int) (K' : zK) (X' : zX) (R' : zR) => r = cdDon fr wk ∧ (cdDon fr wk = 0 → X' out 0 = (wI (dnF (wkmM M) fr wk (min (fr + 50000) 105190559)))) ∧ ∃ ρ', repC ρ' K' X' R' x M ∧ frO ρ K X Rf out ρ' K' X' R')) := by
  refine Cl.of (by decide +kernel) (Nat.le_of_ble_eq_true rfl) ?_
  intro p e s m below meth c ls hx hb hr hml hown hG h46 hlocks hname ht hX hw hl
  have hl : lv_has ls 5 [(0, .ref x), (1, .int (iI fr)), (2, .int (iI wk)), (3, .ref out)] := hl
  have hCk := hC.1.1
  refine lv_aload_n (pc := 0) hx hb dL_doneAt_0 rfl (lv_at hl 3 rfl) ?_
  refine ziconst (pc := 1) (n := 0) hx hb dL_doneAt_1 ?_
  refine lv_aload_n (pc := 2) hx hb dL_doneAt_2 rfl (lv_at hl 0 rfl) ?_
  refine lv_iload_n (pc := 3) hx hb dL_doneAt_3 rfl (lv_at hl 1 rfl) ?_
  refine lv_iload_n (pc := 4) hx hb dL_doneAt_4 rfl (lv_at hl 2 rfl) ?_
  refine zxkI (pc := 5) (zxrV (As := [.int (iI fr), .int (iI wk)]) hx hb hml hown hG hX hw (c_X8_doneAt l hl9 Γ K X Rf x fr wk (ρ) M (by (first | assumption | omega)) (by (first | assumption | omega)) (by (first | assumption | omega))) (T := TX8) hCk rfl cb_X8_doneAt wl_L_155 rfl ⟨Nat.le_of_ble_eq_true rfl, Nat.le_of_ble_eq_true rfl⟩ hl.1 rfl (Nat.le_of_ble_eq_true rfl) dL_doneAt_5 ⟨(by show 0 + 2 ≤ 2; omega), (by show 0 + 12 ≤ 12; omega)⟩) hw (fun E9 ce9 q9 H locs hxp9 hw hce9 hcv9 hcl9 => ?_) (fun r5 K5 X5 R5 H locs hp5 hw => ?_)
  · skip
    rcases hxp9 with ⟨rfl, hq9⟩ | ⟨rfl, hq9⟩
    · skip
      refine zht1 (pc := 5) ⟨0, 10, 13, 19⟩ hown hX ht rfl (by decide) (hG _ wn_L_19) zg_391 hce9 hcv9 hcl9 ?_
      refine lv_astore (pc := 13) (lv' := [(4, .ref q9), (0, .ref x), (1, .int (iI fr)), (2, .int (iI wk)), (3, .ref out)]) hx hb dL_doneAt_13 hl (by decide) rfl (fun ls hl => ?_)
      refine ziconst (pc := 15) (n := 1) hx hb dL_doneAt_15 ?_
      exact zretI (pc := 16) hx hb hlocks hr hw (by show 0 + 2 ≤ 2; omega) (by show 0 + 12 ≤ 12; omega) dL_doneAt_16 (by exact ⟨hq9.symm, fun h => absurd (hq9.symm.trans h) (by decide), ρ, (by exact hC), frO_refl⟩)
    · skip
      refine zht2 (pc := 5) ⟨0, 10, 13, 19⟩ ⟨0, 10, 17, 13⟩ hown hX ht rfl (by decide) (hG _ wn_L_13) zg_60 (by decide) (hG _ wn_L_19) znc1 hce9 hcv9 hcl9 ?_
      refine lv_astore (pc := 17) (lv' := [(4, .ref q9), (0, .ref x), (1, .int (iI fr)), (2, .int (iI wk)), (3, .ref out)]) hx hb dL_doneAt_17 hl (by decide) rfl (fun ls hl => ?_)
      refine ziconst (pc := 19) (n := 2) hx hb dL_doneAt_19 ?_
      exact zretI (pc := 20) hx hb hlocks hr hw (by show 0 + 2 ≤ 2; omega) (by show 0 + 12 ≤ 12; omega) dL_doneAt_20 (by exact ⟨hq9.symm, fun h => absurd (hq9.symm.trans h) (by decide), ρ, (by exact hC), frO_refl⟩)
  · skip
    obtain ⟨⟨hv9, hc9⟩, ρ1, hC1, hf1⟩ := hp5
    obtain ⟨hko1, hlo1, -⟩ := hf1 out (by rw [hko]; exact Nat.succ_ne_zero _)
    rw [hko] at hko1
    refine zi2lw (pc := 8) hx hb dL_doneAt_8 ?_
    refine zlast (pc := 9) hx hb hw hko1 ⟨by omega, by omega⟩ (by omega) dL_doneAt_9 (fun H locs hw => ?_)
    obtain ⟨X9, eX9⟩ : ∃ Y : zX, Y = up2 X5 out 0 (wI r5) := ⟨_, rfl⟩
    replace hw := Wd.re hw rfl eX9 rfl
    refine lv_goto (pc := 10) (tgt := 21) hx hb dL_doneAt_10 (by decide) ?_
    refine ziconst (pc := 21) (n := 0) hx hb dL_doneAt_21 ?_
    exact zretI (pc := 22) hx hb hlocks hr hw (by show 0 + 2 ≤ 2; omega) (by show 0 + 12 ≤ 12; omega) dL_doneAt_22 (by have L9 := Lend hC1 hf1 (Or.inl hko) hlo eX9; exact ⟨hc9.symm, fun _ => (L9.1.trans (congrArg wI hv9)), ρ1, (by exact L9.2.1), L9.2.2⟩)
set_option maxHeartbeats 4000000 in
set_option maxRecDepth 100000 in
theorem c_L_meanGap (l : Launch) (hl9 : l.stackTraces = false) (Γ : zG) (K : zK) (X : zX) (Rf : zR) (x : Nat) (a : Int) (out : Nat) (ρ : zL) (M : zM) (hC : repC ρ K X Rf x M) (hM : okM M) (h1 : fit a) (hko : K out = (5, 1)) (hlo : ρ out = 4000 ∨ ρ out = 4001) : Cl l yL_meanGap cL_meanGap 4 (some .int) [(0, 8, 11, 19)] 8 1 6 Γ [.ref x, .int (iI a), .ref out] K X Rf (pI (fun (r : Int) (K' : zK) (X' : zX) (R' : zR) => r = cdSer M a ∧ (cdSer M a = 0 → X' out 0 = mgL (datM M a.toNat)) ∧ ∃ ρ', repC ρ' K' X' R' x M ∧ frO ρ K X Rf out ρ' K' X' R')) := by
  refine Cl.of (by decide +kernel) (Nat.le_of_ble_eq_true rfl) ?_
  intro p e s m below meth c ls hx hb hr hml hown hG h46 hlocks hname ht hX hw hl
  have hl : lv_has ls 4 [(0, .ref x), (1, .int (iI a)), (2, .ref out)] := hl
  have hCk := hC.1.1
  refine lv_aload_n (pc := 0) hx hb dL_meanGap_0 rfl (lv_at hl 2 rfl) ?_
  refine ziconst (pc := 1) (n := 0) hx hb dL_meanGap_1 ?_
  refine lv_aload_n (pc := 2) hx hb dL_meanGap_2 rfl (lv_at hl 0 rfl) ?_
  refine lv_iload_n (pc := 3) hx hb dL_meanGap_3 rfl (lv_at hl 1 rfl) ?_
  refine zxkDp (pc := 4) (zxrV (As := [.int (iI a)]) hx hb hml hown hG hX hw (c_X8_meanGap l hl9 Γ K X Rf x a (ρ) M (by (first | assumption | omega)) (by (first | assumption | omega)) (by (first | assumption | omega))) (T := TX8) hCk rfl cb_X8_meanGap wl_L_158 rfl ⟨Nat.le_of_ble_eq_true rfl, Nat.le_of_ble_eq_true rfl⟩ hl.1 rfl (Nat.le_of_ble_eq_true rfl) dL_meanGap_4 ⟨(by show 0 + 1 ≤ 1; omega), (by show 0 + 6 ≤ 6; omega)⟩) hw (fun E9 ce9 q9 H locs hxp9 hw hce9 hcv9 hcl9 => ?_) (fun r4 H locs hp4 hw => ?_)
  · skip
    rcases hxp9 with ⟨rfl, hq9⟩
    · skip
      refine zht1 (pc := 4) ⟨0, 8, 11, 19⟩ hown hX ht rfl (by decide) (hG _ wn_L_19) zg_391 hce9 hcv9 hcl9 ?_
      refine lv_astore_n (pc := 11) (lv' := [(3, .ref q9), (0, .ref x), (1, .int (iI a)), (2, .ref out)]) hx hb dL_meanGap_11 rfl hl (by decide) rfl (fun ls hl => ?_)
      refine ziconst (pc := 12) (n := 1) hx hb dL_meanGap_12 ?_
      exact zretI (pc := 13) hx hb hlocks hr hw (by show 0 + 1 ≤ 1; omega) (by show 0 + 6 ≤ 6; omega) dL_meanGap_13 (by exact ⟨hq9.symm, fun h => absurd (hq9.symm.trans h) (by decide), ρ, (by exact hC), frO_refl⟩)
  · skip
    obtain ⟨hv9, hc9⟩ := hp4
    refine zdast (pc := 7) hx hb hw hko ⟨by omega, by omega⟩ (by omega) dL_meanGap_7 (fun H locs hw => ?_)
    obtain ⟨X7, eX7⟩ : ∃ Y : zX, Y = up2 X out 0 r4 := ⟨_, rfl⟩
    replace hw := Wd.re hw rfl eX7 rfl
    refine lv_goto (pc := 8) (tgt := 14) hx hb dL_meanGap_8 (by decide) ?_
    refine ziconst (pc := 14) (n := 0) hx hb dL_meanGap_14 ?_
    exact zretI (pc := 15) hx hb hlocks hr hw (by show 0 + 1 ≤ 1; omega) (by show 0 + 6 ≤ 6; omega) dL_meanGap_15 (by have L9 := Lend hC frC_refl (Or.inr hko) hlo eX7; exact ⟨hc9.symm, fun _ => (L9.1.trans hv9), ρ, (by exact L9.2.1), L9.2.2⟩)
