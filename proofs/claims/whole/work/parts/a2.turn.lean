set_option maxHeartbeats 4000000 in
set_option maxRecDepth 100000 in
theorem c_X9_lay_L (l : Launch) (Γ : zG) (K : zK) (X : zX) (Rf : zR) (md : Nat) (pl : Int) (ρ : zL) (M : zM) (hR : repR ρ K X Rf md M) (hM : okM M) (h1 : 0 ≤ pl ∧ pl < M 40 5) (hla : dlC X Rf md pl.toNat = 0) : Ct l yX9_lay cX9_lay 9 none 85 0 0 Γ [.ref md, .int (iI pl)] K X Rf (pV (zpv K Rf (fun X' : zX => X' = X))) := by
  refine Ct.of (by decide +kernel) (Nat.le_of_ble_eq_true rfl) ?_
  intro p e s m below meth c ls hx hb hr hml hown hG hlocks hname hw hl
  have hl : lv_has ls 9 [(0, .ref md), (1, .int (iI pl))] := hl
  obtain ⟨hmd, hlmd⟩ := id hR.1
  obtain ⟨⟨hb1, hb2, hb3, hb4⟩, hokP, hokL, hokS, hokW, hokF⟩ := id hM
  have hq1 : X md 1 = M 40 1 := hR.2.1 1 rfl
  have hq5 : X md 5 = M 40 5 := hR.2.1 5 rfl
  have hq16 : X md 16 = M 40 16 := hR.2.1 16 rfl
  have hq25 : X md 25 = M 40 25 := hR.2.1 25 rfl
  have hq26 : X md 26 = M 40 26 := hR.2.1 26 rfl
  have hq27 : X md 27 = M 40 27 := hR.2.1 27 rfl
  have hq28 : X md 28 = M 40 28 := hR.2.1 28 rfl
  have hq29 : X md 29 = M 40 29 := hR.2.1 29 rfl
  obtain ⟨a9, hB9, hA9, hL9⟩ : ∃ a, Rf md 9 = some a ∧ K a = (2, 6) ∧ ρ a = 2010 := hR.ff 9 (by decide)
  have hN9 : Apt a9 md := zkn2 hA9 hmd (by simp)
  have hne : X a9 pl.toNat ≠ -1 := fun g => by rw [dlC_a hB9, if_pos g] at hla; exact absurd hla (by decide)
  have hr9 := hR.often hM hB9 (p := pl.toNat) (by omega)
  refine lv_aload_n (pc := 0) hx hb dX9_lay_0 rfl (lv_at hl 0 rfl) ?_
  refine zgetR (pc := 1) hx hb hG hown hw hmd (T := TX9) rfl 9 (by decide) rfl wf_X9_28 rfl hB9 dX9_lay_1 ?_
  refine lv_iload_n (pc := 4) hx hb dX9_lay_4 rfl (lv_at hl 1 rfl) ?_
  refine zald (pc := 5) hx hb hw hA9 ⟨by omega, by omega⟩ (by omega) dX9_lay_5 ?_
  refine ziconst (pc := 6) (n := (-1)) hx hb dX9_lay_6 ?_
  refine zicmp_eq (pc := 7) hx hb 11 (by omega) (by omega) dX9_lay_7 (by decide) (fun c7 => ?_) (fun c7 => ?_)
  · skip
    exfalso; omega
  · skip
    exact zretV (pc := 10) hx hb hlocks hr hw (Nat.zero_le _) (Nat.zero_le _) dX9_lay_10 ⟨by (try dsimp only) <;> (rfl), rfl, rfl⟩
set_option maxHeartbeats 4000000 in
set_option maxRecDepth 100000 in
theorem c_X9_lay (l : Launch) (Γ : zG) (K : zK) (X : zX) (Rf : zR) (md : Nat) (pl : Int) (ρ : zL) (M : zM) (hR : repR ρ K X Rf md M) (hM : okM M) (h1 : 0 ≤ pl ∧ pl < M 40 5) : Ct l yX9_lay cX9_lay 9 none 85 (min 5 (dlC X Rf md pl.toNat)) (dlC X Rf md pl.toNat) Γ [.ref md, .int (iI pl)] K X Rf (pV (fun (K' : zK) (X' : zX) (R' : zR) => ∃ ρ', (repR ρ' K' X' R' md M ∧ frR ρ K X Rf ρ' K' X' R' ∧ (∀ q, q = 0 ∨ q = 36 → X' md q = X md q)) ∧ (lsR X Rf X' R' md ∧ dlC X' R' md pl.toNat = 0) ∧ ∀ a, (K a).1 ≠ 0 → 3000 ≤ ρ a → X' a = X a)) := by
  refine Ct.of (by decide +kernel) (Nat.le_of_ble_eq_true rfl) ?_
  intro p e s m below meth c ls hx hb hr hml hown hG hlocks hname hw hl
  have hl : lv_has ls 9 [(0, .ref md), (1, .int (iI pl))] := hl
  obtain ⟨hmd, hlmd⟩ := id hR.1
  obtain ⟨⟨hb1, hb2, hb3, hb4⟩, hokP, hokL, hokS, hokW, hokF⟩ := id hM
  have hq1 : X md 1 = M 40 1 := hR.2.1 1 rfl
  have hq5 : X md 5 = M 40 5 := hR.2.1 5 rfl
  have hq16 : X md 16 = M 40 16 := hR.2.1 16 rfl
  have hq25 : X md 25 = M 40 25 := hR.2.1 25 rfl
  have hq26 : X md 26 = M 40 26 := hR.2.1 26 rfl
  have hq27 : X md 27 = M 40 27 := hR.2.1 27 rfl
  have hq28 : X md 28 = M 40 28 := hR.2.1 28 rfl
  have hq29 : X md 29 = M 40 29 := hR.2.1 29 rfl
  obtain ⟨a2, hB2, hA2, hL2, hD2⟩ : ∃ a, Rf md 2 = some a ∧ K a = (2, 24) ∧ ρ a = 2003 ∧ X a = M 2 := hR.fd 2 (by decide) rfl
  have hN2 : Apt a2 md := zkn2 hA2 hmd (by simp)
  obtain ⟨a3, hB3, hA3, hL3, hD3⟩ : ∃ a, Rf md 3 = some a ∧ K a = (2, 24) ∧ ρ a = 2004 ∧ X a = M 3 := hR.fd 3 (by decide) rfl
  have hN3 : Apt a3 md := zkn2 hA3 hmd (by simp)
  obtain ⟨a4, hB4, hA4, hL4, hD4⟩ : ∃ a, Rf md 4 = some a ∧ K a = (2, 24) ∧ ρ a = 2005 ∧ X a = M 4 := hR.fd 4 (by decide) rfl
  have hN4 : Apt a4 md := zkn2 hA4 hmd (by simp)
  obtain ⟨a6, hB6, hA6, hL6, hD6⟩ : ∃ a, Rf md 6 = some a ∧ K a = (2, 6) ∧ ρ a = 2007 ∧ X a = M 6 := hR.fd 6 (by decide) rfl
  have hN6 : Apt a6 md := zkn2 hA6 hmd (by simp)
  obtain ⟨a7, hB7, hA7, hL7, hD7⟩ : ∃ a, Rf md 7 = some a ∧ K a = (2, 6) ∧ ρ a = 2008 ∧ X a = M 7 := hR.fd 7 (by decide) rfl
  have hN7 : Apt a7 md := zkn2 hA7 hmd (by simp)
  obtain ⟨a8, hB8, hA8, hL8, hD8⟩ : ∃ a, Rf md 8 = some a ∧ K a = (2, 216) ∧ ρ a = 2009 ∧ X a = M 8 := hR.fd 8 (by decide) rfl
  have hN8 : Apt a8 md := zkn2 hA8 hmd (by simp)
  obtain ⟨a9, hB9, hA9, hL9⟩ : ∃ a, Rf md 9 = some a ∧ K a = (2, 6) ∧ ρ a = 2010 := hR.ff 9 (by decide)
  have hN9 : Apt a9 md := zkn2 hA9 hmd (by simp)
  obtain ⟨a10, hB10, hA10, hL10⟩ : ∃ a, Rf md 10 = some a ∧ K a = (11, 6) ∧ ρ a = 2011 := hR.ff 10 (by decide)
  have hN10 : Apt a10 md := zkn2 hA10 hmd (by simp)
  obtain ⟨a11, hB11, hA11, hL11⟩ : ∃ a, Rf md 11 = some a ∧ K a = (11, 6) ∧ ρ a = 2012 := hR.ff 11 (by decide)
  have hN11 : Apt a11 md := zkn2 hA11 hmd (by simp)
  have hLp := hokL pl.toNat (by omega)
  have hT : ∀ k, k < (M 7 pl.toNat).toNat → okT (turM M pl.toNat k) := fun k hk => (hLp.2.2 k (by omega)).1
  have hn6 : 0 ≤ M 7 pl.toNat ∧ M 7 pl.toNat ≤ 6 := hLp.2.1
  have hb6 := hLp.1
  have hTv : ∀ k w : Nat, k < 6 → w < 6 → X a8 ((6 * pl + k) * 6 + w).toNat = turM M pl.toNat k w := fun k w h1 h2 => by
    rw [hD8, show ((6 * pl + k) * 6 + w).toNat = (6 * pl.toNat + k) * 6 + w by omega]
    unfold turM; rw [if_pos ⟨h1, h2⟩]
  have hx7 : X a7 pl.toNat = M 7 pl.toNat := by rw [hD7]
  have hx6 : X a6 pl.toNat = M 6 pl.toNat := by rw [hD6]
  have hr9 := hR.often hM hB9 (p := pl.toNat) (by omega)
  refine lv_aload_n (pc := 0) hx hb dX9_lay_0 rfl (lv_at hl 0 rfl) ?_
  refine zgetR (pc := 1) hx hb hG hown hw hmd (T := TX9) rfl 9 (by decide) rfl wf_X9_28 rfl hB9 dX9_lay_1 ?_
  refine lv_iload_n (pc := 4) hx hb dX9_lay_4 rfl (lv_at hl 1 rfl) ?_
  refine zald (pc := 5) hx hb hw hA9 ⟨by omega, by omega⟩ (by omega) dX9_lay_5 ?_
  refine ziconst (pc := 6) (n := (-1)) hx hb dX9_lay_6 ?_
  refine zicmp_eq (pc := 7) hx hb 11 (by omega) (by omega) dX9_lay_7 (by decide) (fun c7 => ?_) (fun c7 => ?_)
  · skip
    have hdl : dlC X Rf md pl.toNat = 5000 := by rw [dlC_a hB9, if_pos c7]
    refine ziconst (pc := 11) (n := 0) hx hb dX9_lay_11 ?_
    refine lv_istore_n (pc := 12) (lv' := [(2, .int (iI 0)), (0, .ref md), (1, .int (iI pl))]) hx hb dX9_lay_12 rfl hl (by decide) rfl (fun ls hl => ?_)
    refine ziconst (pc := 13) (n := 0) hx hb dX9_lay_13 ?_
    refine lv_istore_n (pc := 14) (lv' := [(3, .int (iI 0)), (2, .int (iI 0)), (0, .ref md), (1, .int (iI pl))]) hx hb dX9_lay_14 rfl hl (by decide) rfl (fun ls hl => ?_)
    have lp15 : ∀ (n15 : Nat) (tt : Int) (mo9 : Int) (H : Heap) (locs : List Loc), (hi : 0 ≤ tt ∧ tt ≤ M 7 pl.toNat) → (hm : mo9 = smY (turM M pl.toNat) tt.toNat) → ((M 7 pl.toNat - tt).toNat < n15) → Wd Γ (zA K s.heap.size) K X Rf s H locs → ∀ ls : Array Slot, lv_has ls 9 [(3, .int (iI tt)), (2, .int (iI mo9)), (0, .ref md), (1, .int (iI pl))] → W p l e (rmL 85 (min 5 (dlC X Rf md pl.toNat)) (dlC X Rf md pl.toNat)) s m ([.ref md, .int (iI pl)] : List Value).toArray below meth c H locs 0 0 (MQ below (zQ Γ K s.heap.size (pV (fun (K' : zK) (X' : zX) (R' : zR) => ∃ ρ', (repR ρ' K' X' R' md M ∧ frR ρ K X Rf ρ' K' X' R' ∧ (∀ q, q = 0 ∨ q = 36 → X' md q = X md q)) ∧ (lsR X Rf X' R' md ∧ dlC X' R' md pl.toNat = 0) ∧ ∀ a, (K a).1 ≠ 0 → 3000 ≤ ρ a → X' a = X a))) ([.ref md, .int (iI pl)] : List Value).toArray s (min 5 (dlC X Rf md pl.toNat)) (dlC X Rf md pl.toNat) (zA K s.heap.size)) (F0 m 15 ls []) := by
      intro n15
      induction n15 with
      | zero => intro tt mo9 H locs hi hm hm15; exact absurd hm15 (Nat.not_lt_zero _)
      | succ n15 ih15 =>
        intro tt mo9 H locs hi hm hm15 hw ls hl
        have hsr := smY_rng hT tt.toNat (by omega)
        refine lv_iload_n (pc := 15) hx hb dX9_lay_15 rfl (lv_at hl 0 rfl) ?_
        refine lv_aload_n (pc := 16) hx hb dX9_lay_16 rfl (lv_at hl 2 rfl) ?_
        refine zgetR (pc := 17) hx hb hG hown hw hmd (T := TX9) rfl 7 (by decide) rfl wf_X9_22 rfl hB7 dX9_lay_17 ?_
        refine lv_iload_n (pc := 20) hx hb dX9_lay_20 rfl (lv_at hl 3 rfl) ?_
        refine zald (pc := 21) hx hb hw hA7 ⟨by omega, by omega⟩ (by omega) dX9_lay_21 ?_
        refine zicmp_ge (pc := 22) hx hb 51 (by omega) (by omega) dX9_lay_22 (by decide) (fun c22 => ?_) (fun c22 => ?_)
        · skip
          have hm6 : mo9 = smY (turM M pl.toNat) (M 7 pl.toNat).toNat := by rw [hm, show tt.toNat = (M 7 pl.toNat).toNat by omega]
          refine lv_iload_n (pc := 51) hx hb dX9_lay_51 rfl (lv_at hl 1 rfl) ?_
          refine znewi (pc := 52) hx hb hG hw wa_int ⟨by omega, by omega⟩ (by show 0 + 1 ≤ (min 5 (dlC X Rf md pl.toNat)); omega) (by show 0 + mo9.toNat ≤ (dlC X Rf md pl.toNat); omega) dX9_lay_52 (fun q52 H hfq52 hw => ?_)
          obtain ⟨K52, eK52⟩ : ∃ Y : zK, Y = zup K q52 (2, mo9.toNat) := ⟨_, rfl⟩
          obtain ⟨X52, eX52⟩ : ∃ Y : zX, Y = zupX X q52 := ⟨_, rfl⟩
          obtain ⟨R52, eR52⟩ : ∃ Y : zR, Y = zupR Rf q52 := ⟨_, rfl⟩
          replace hw := Wd.re hw eK52 eX52 eR52
          have hk52 : K52 md = (1, 8) := by rw [eK52]; exact zup_k hfq52 hmd (Nat.succ_ne_zero _)
          have hn52 : Apt md q52 := zne hmd hfq52
          have hk52_1 : K52 a2 = (2, 24) := by rw [eK52]; exact zup_k hfq52 hA2 (Nat.succ_ne_zero _)
          have hn52_1 : Apt a2 q52 := zne hA2 hfq52
          have hk52_2 : K52 a3 = (2, 24) := by rw [eK52]; exact zup_k hfq52 hA3 (Nat.succ_ne_zero _)
          have hn52_2 : Apt a3 q52 := zne hA3 hfq52
          have hk52_3 : K52 a4 = (2, 24) := by rw [eK52]; exact zup_k hfq52 hA4 (Nat.succ_ne_zero _)
          have hn52_3 : Apt a4 q52 := zne hA4 hfq52
          have hk52_4 : K52 a6 = (2, 6) := by rw [eK52]; exact zup_k hfq52 hA6 (Nat.succ_ne_zero _)
          have hn52_4 : Apt a6 q52 := zne hA6 hfq52
          have hk52_5 : K52 a7 = (2, 6) := by rw [eK52]; exact zup_k hfq52 hA7 (Nat.succ_ne_zero _)
          have hn52_5 : Apt a7 q52 := zne hA7 hfq52
          have hk52_6 : K52 a8 = (2, 216) := by rw [eK52]; exact zup_k hfq52 hA8 (Nat.succ_ne_zero _)
          have hn52_6 : Apt a8 q52 := zne hA8 hfq52
          have hk52_7 : K52 a9 = (2, 6) := by rw [eK52]; exact zup_k hfq52 hA9 (Nat.succ_ne_zero _)
          have hn52_7 : Apt a9 q52 := zne hA9 hfq52
          have hk52_8 : K52 a10 = (11, 6) := by rw [eK52]; exact zup_k hfq52 hA10 (Nat.succ_ne_zero _)
          have hn52_8 : Apt a10 q52 := zne hA10 hfq52
          have hk52_9 : K52 a11 = (11, 6) := by rw [eK52]; exact zup_k hfq52 hA11 (Nat.succ_ne_zero _)
          have hn52_9 : Apt a11 q52 := zne hA11 hfq52
          have hk52_10 : K52 q52 = (2, mo9.toNat) := by rw [eK52]; exact zup_s
          have hr52 : R52 md 2 = some a2 := by rw [eR52, zupR_n hn52]; exact hB2
          have hr52_1 : R52 md 3 = some a3 := by rw [eR52, zupR_n hn52]; exact hB3
          have hr52_2 : R52 md 4 = some a4 := by rw [eR52, zupR_n hn52]; exact hB4
          have hr52_3 : R52 md 6 = some a6 := by rw [eR52, zupR_n hn52]; exact hB6
          have hr52_4 : R52 md 7 = some a7 := by rw [eR52, zupR_n hn52]; exact hB7
          have hr52_5 : R52 md 8 = some a8 := by rw [eR52, zupR_n hn52]; exact hB8
          have hr52_6 : R52 md 9 = some a9 := by rw [eR52, zupR_n hn52]; exact hB9
          have hr52_7 : R52 md 10 = some a10 := by rw [eR52, zupR_n hn52]; exact hB10
          have hr52_8 : R52 md 11 = some a11 := by rw [eR52, zupR_n hn52]; exact hB11
          refine lv_astore_n (pc := 54) (lv' := [(3, .ref q52), (2, .int (iI mo9)), (0, .ref md), (1, .int (iI pl))]) hx hb dX9_lay_54 rfl hl (by decide) rfl (fun ls hl => ?_)
          refine ziconst (pc := 55) (n := 0) hx hb dX9_lay_55 ?_
          refine lv_istore (pc := 56) (lv' := [(4, .int (iI 0)), (3, .ref q52), (2, .int (iI mo9)), (0, .ref md), (1, .int (iI pl))]) hx hb dX9_lay_56 hl (by decide) rfl (fun ls hl => ?_)
          refine ziconst (pc := 58) (n := 0) hx hb dX9_lay_58 ?_
          refine lv_istore (pc := 59) (lv' := [(5, .int (iI 0)), (4, .int (iI 0)), (3, .ref q52), (2, .int (iI mo9)), (0, .ref md), (1, .int (iI pl))]) hx hb dX9_lay_59 hl (by decide) rfl (fun ls hl => ?_)
          have lp61 : ∀ (n61 : Nat) (tt : Int) (mn : Int) (XL61 : zX) (H : Heap) (locs : List Loc), (hi : 0 ≤ tt ∧ tt ≤ M 7 pl.toNat) → (hmn : mn ≤ smY (turM M pl.toNat) tt.toNat) → (ho : ∀ b, b ≠ q52 → XL61 b = X b) → (hks : KS (turM M pl.toNat) (tupM M pl.toNat) (dO tt.toNat) mn (XL61 q52)) → ((M 7 pl.toNat - tt).toNat < n61) → Wd Γ (zA K s.heap.size) K52 XL61 R52 s H locs → ∀ ls : Array Slot, lv_has ls 9 [(5, .int (iI tt)), (4, .int (iI mn)), (3, .ref q52), (2, .int (iI mo9)), (0, .ref md), (1, .int (iI pl))] → W p l e (rmL 85 (min 5 (dlC X Rf md pl.toNat)) (dlC X Rf md pl.toNat)) s m ([.ref md, .int (iI pl)] : List Value).toArray below meth c H locs (0 + 1) (0 + mo9.toNat) (MQ below (zQ Γ K s.heap.size (pV (fun (K' : zK) (X' : zX) (R' : zR) => ∃ ρ', (repR ρ' K' X' R' md M ∧ frR ρ K X Rf ρ' K' X' R' ∧ (∀ q, q = 0 ∨ q = 36 → X' md q = X md q)) ∧ (lsR X Rf X' R' md ∧ dlC X' R' md pl.toNat = 0) ∧ ∀ a, (K a).1 ≠ 0 → 3000 ≤ ρ a → X' a = X a))) ([.ref md, .int (iI pl)] : List Value).toArray s (min 5 (dlC X Rf md pl.toNat)) (dlC X Rf md pl.toNat) (zA K s.heap.size)) (F0 m 61 ls []) := by
            intro n61
            induction n61 with
            | zero => intro tt mn XL61 H locs hi hmn ho hks hm61; exact absurd hm61 (Nat.not_lt_zero _)
            | succ n61 ih61 =>
              intro tt mn XL61 H locs hi hmn ho hks hm61 hw ls hl
              have hc0 := hks.1
              have hsr := smY_rng hT tt.toNat (by omega)
              have h7O : XL61 a7 = X a7 := ho a7 (zne hA7 hfq52)
              have h8O : XL61 a8 = X a8 := ho a8 (zne hA8 hfq52)
              have h7p : XL61 a7 pl.toNat = M 7 pl.toNat := by rw [h7O]; exact hx7
              have hsm6 : smY (turM M pl.toNat) (M 7 pl.toNat).toNat ≤ 1200 := by have := smY_rng hT (M 7 pl.toNat).toNat (Nat.le_refl _); omega
              refine lv_iload (pc := 61) hx hb dX9_lay_61 (lv_at hl 0 rfl) ?_
              refine lv_aload_n (pc := 63) hx hb dX9_lay_63 rfl (lv_at hl 4 rfl) ?_
              refine zgetR (pc := 64) hx hb hG hown hw hk52 (T := TX9) rfl 7 (by decide) rfl wf_X9_22 rfl hr52_4 dX9_lay_64 ?_
              refine lv_iload_n (pc := 67) hx hb dX9_lay_67 rfl (lv_at hl 5 rfl) ?_
              refine zald (pc := 68) hx hb hw hk52_5 ⟨by omega, by omega⟩ (by omega) dX9_lay_68 ?_
              refine zicmp_ge (pc := 69) hx hb 155 (by omega) (by omega) dX9_lay_69 (by decide) (fun c69 => ?_) (fun c69 => ?_)
              · skip
                refine lv_aload_n (pc := 155) hx hb dX9_lay_155 rfl (lv_at hl 2 rfl) ?_
                refine ziconst (pc := 156) (n := 0) hx hb dX9_lay_156 ?_
                refine lv_iload (pc := 157) hx hb dX9_lay_157 (lv_at hl 1 rfl) ?_
                rw [show tt.toNat = (M 7 pl.toNat).toNat by omega] at hks hmn
                have hfk := hks.fits (n := (M 7 pl.toNat).toNat) (fun k y d => d) (by omega) hT
                refine zkV (pc := 159) (zrS (As := [.ref q52, .int (iI 0), .int (iI mn)]) hx hb hml hown hG hw (c_J7_sort_e9f53 l Γ K52 XL61 R52 q52 0 mn mo9.toNat (by (first | assumption | omega)) (by omega) (by omega) (by intro j g; have h9 := hfk j g; omega) (by exact hks.2.2.2)) cb_J7_sort_e9f53 wl_X9_176 rfl ⟨Nat.le_of_ble_eq_true rfl, Nat.le_of_ble_eq_true rfl⟩ hl.1 rfl (Nat.le_of_ble_eq_true rfl) dX9_lay_159 ⟨(by show 0 + 1 + 2 ≤ (min 5 (dlC X Rf md pl.toNat)); omega), (by show 0 + mo9.toNat + 1400 ≤ (dlC X Rf md pl.toNat); omega)⟩) hw (fun K159 X159 R159 H locs hp159 hw => ?_)
                obtain ⟨hfr9, hPm, hsr9⟩ := hp159
                have hfr8 : ∀ b, (K b).1 ≠ 0 → K159 b = K b ∧ R159 b = Rf b ∧ X159 b = X b := fun b hb => by
                  have hn9 : b ≠ q52 := zfa hb hfq52
                  have w := hfr9 b (by rw [eK52, zup_n hn9]; exact hb)
                  exact ⟨by rw [w.1, eK52, zup_n hn9], by rw [w.2.1, eR52, zupR_n hn9], by rw [w.2.2 hn9, ho b hn9]⟩
                have hev := hks.ev hT hPm hsr9
                obtain ⟨hNN, hLL⟩ := evOK_uniq hev (evF_ok (turM M pl.toNat) (tupM M pl.toNat) (M 7 pl.toNat).toNat)
                have hNe : mn.toNat = evNM M pl.toNat := hNN
                have hNle := evNM_le hM (p := pl.toNat) (by omega)
                have hmd8 := fun (i : Nat) (hi : i < mn.toNat) => hev.mod (by omega) hT hi
                have hk159 : K159 md = (1, 8) := by rw [(hfr9 md (zk1 hk52)).1]; exact hk52
                have hk159_1 : K159 a2 = (2, 24) := by rw [(hfr9 a2 (zk1 hk52_1)).1]; exact hk52_1
                have hk159_2 : K159 a3 = (2, 24) := by rw [(hfr9 a3 (zk1 hk52_2)).1]; exact hk52_2
                have hk159_3 : K159 a4 = (2, 24) := by rw [(hfr9 a4 (zk1 hk52_3)).1]; exact hk52_3
                have hk159_4 : K159 a6 = (2, 6) := by rw [(hfr9 a6 (zk1 hk52_4)).1]; exact hk52_4
                have hk159_5 : K159 a7 = (2, 6) := by rw [(hfr9 a7 (zk1 hk52_5)).1]; exact hk52_5
                have hk159_6 : K159 a8 = (2, 216) := by rw [(hfr9 a8 (zk1 hk52_6)).1]; exact hk52_6
                have hk159_7 : K159 a9 = (2, 6) := by rw [(hfr9 a9 (zk1 hk52_7)).1]; exact hk52_7
                have hk159_8 : K159 a10 = (11, 6) := by rw [(hfr9 a10 (zk1 hk52_8)).1]; exact hk52_8
                have hk159_9 : K159 a11 = (11, 6) := by rw [(hfr9 a11 (zk1 hk52_9)).1]; exact hk52_9
                have hk159_10 : K159 q52 = (2, mo9.toNat) := by rw [(hfr9 q52 (zk1 hk52_10)).1]; exact hk52_10
                have hr159 : R159 md 2 = some a2 := by rw [(hfr9 md (zk1 hk52)).2.1]; exact hr52
                have hr159_1 : R159 md 3 = some a3 := by rw [(hfr9 md (zk1 hk52)).2.1]; exact hr52_1
                have hr159_2 : R159 md 4 = some a4 := by rw [(hfr9 md (zk1 hk52)).2.1]; exact hr52_2
                have hr159_3 : R159 md 6 = some a6 := by rw [(hfr9 md (zk1 hk52)).2.1]; exact hr52_3
                have hr159_4 : R159 md 7 = some a7 := by rw [(hfr9 md (zk1 hk52)).2.1]; exact hr52_4
                have hr159_5 : R159 md 8 = some a8 := by rw [(hfr9 md (zk1 hk52)).2.1]; exact hr52_5
                have hr159_6 : R159 md 9 = some a9 := by rw [(hfr9 md (zk1 hk52)).2.1]; exact hr52_6
                have hr159_7 : R159 md 10 = some a10 := by rw [(hfr9 md (zk1 hk52)).2.1]; exact hr52_7
                have hr159_8 : R159 md 11 = some a11 := by rw [(hfr9 md (zk1 hk52)).2.1]; exact hr52_8
                refine lv_aload_n (pc := 162) hx hb dX9_lay_162 rfl (lv_at hl 4 rfl) ?_
                refine zgetR (pc := 163) hx hb hG hown hw hk159 (T := TX9) rfl 10 (by decide) rfl wf_X9_32 rfl hr159_7 dX9_lay_163 ?_
                refine lv_iload_n (pc := 166) hx hb dX9_lay_166 rfl (lv_at hl 5 rfl) ?_
                refine lv_iload (pc := 167) hx hb dX9_lay_167 (lv_at hl 1 rfl) ?_
                refine znewi (pc := 169) hx hb hG hw wa_int ⟨by omega, by omega⟩ (by show 0 + 1 + 2 + 1 ≤ (min 5 (dlC X Rf md pl.toNat)); omega) (by show 0 + mo9.toNat + 1400 + mn.toNat ≤ (dlC X Rf md pl.toNat); omega) dX9_lay_169 (fun q169 H hfq169 hw => ?_)
                obtain ⟨K169, eK169⟩ : ∃ Y : zK, Y = zup K159 q169 (2, mn.toNat) := ⟨_, rfl⟩
                obtain ⟨X169, eX169⟩ : ∃ Y : zX, Y = zupX X159 q169 := ⟨_, rfl⟩
                obtain ⟨R169, eR169⟩ : ∃ Y : zR, Y = zupR R159 q169 := ⟨_, rfl⟩
                replace hw := Wd.re hw eK169 eX169 eR169
                have hk169 : K169 md = (1, 8) := by rw [eK169]; exact zup_k hfq169 hk159 (Nat.succ_ne_zero _)
                have hn169 : Apt md q169 := zne hk159 hfq169
                have hk169_1 : K169 a2 = (2, 24) := by rw [eK169]; exact zup_k hfq169 hk159_1 (Nat.succ_ne_zero _)
                have hn169_1 : Apt a2 q169 := zne hk159_1 hfq169
                have hk169_2 : K169 a3 = (2, 24) := by rw [eK169]; exact zup_k hfq169 hk159_2 (Nat.succ_ne_zero _)
                have hn169_2 : Apt a3 q169 := zne hk159_2 hfq169
                have hk169_3 : K169 a4 = (2, 24) := by rw [eK169]; exact zup_k hfq169 hk159_3 (Nat.succ_ne_zero _)
                have hn169_3 : Apt a4 q169 := zne hk159_3 hfq169
                have hk169_4 : K169 a6 = (2, 6) := by rw [eK169]; exact zup_k hfq169 hk159_4 (Nat.succ_ne_zero _)
                have hn169_4 : Apt a6 q169 := zne hk159_4 hfq169
                have hk169_5 : K169 a7 = (2, 6) := by rw [eK169]; exact zup_k hfq169 hk159_5 (Nat.succ_ne_zero _)
                have hn169_5 : Apt a7 q169 := zne hk159_5 hfq169
                have hk169_6 : K169 a8 = (2, 216) := by rw [eK169]; exact zup_k hfq169 hk159_6 (Nat.succ_ne_zero _)
                have hn169_6 : Apt a8 q169 := zne hk159_6 hfq169
                have hk169_7 : K169 a9 = (2, 6) := by rw [eK169]; exact zup_k hfq169 hk159_7 (Nat.succ_ne_zero _)
                have hn169_7 : Apt a9 q169 := zne hk159_7 hfq169
                have hk169_8 : K169 a10 = (11, 6) := by rw [eK169]; exact zup_k hfq169 hk159_8 (Nat.succ_ne_zero _)
                have hn169_8 : Apt a10 q169 := zne hk159_8 hfq169
                have hk169_9 : K169 a11 = (11, 6) := by rw [eK169]; exact zup_k hfq169 hk159_9 (Nat.succ_ne_zero _)
                have hn169_9 : Apt a11 q169 := zne hk159_9 hfq169
                have hk169_10 : K169 q52 = (2, mo9.toNat) := by rw [eK169]; exact zup_k hfq169 hk159_10 (Nat.succ_ne_zero _)
                have hn169_10 : Apt q52 q169 := zne hk159_10 hfq169
                have hk169_11 : K169 q169 = (2, mn.toNat) := by rw [eK169]; exact zup_s
                have hr169 : R169 md 2 = some a2 := by rw [eR169, zupR_n hn169]; exact hr159
                have hr169_1 : R169 md 3 = some a3 := by rw [eR169, zupR_n hn169]; exact hr159_1
                have hr169_2 : R169 md 4 = some a4 := by rw [eR169, zupR_n hn169]; exact hr159_2
                have hr169_3 : R169 md 6 = some a6 := by rw [eR169, zupR_n hn169]; exact hr159_3
                have hr169_4 : R169 md 7 = some a7 := by rw [eR169, zupR_n hn169]; exact hr159_4
                have hr169_5 : R169 md 8 = some a8 := by rw [eR169, zupR_n hn169]; exact hr159_5
                have hr169_6 : R169 md 9 = some a9 := by rw [eR169, zupR_n hn169]; exact hr159_6
                have hr169_7 : R169 md 10 = some a10 := by rw [eR169, zupR_n hn169]; exact hr159_7
                have hr169_8 : R169 md 11 = some a11 := by rw [eR169, zupR_n hn169]; exact hr159_8
                refine zaast5 (pc := 171) hx hb hw hk169_8 hk169_11 ⟨by omega, by omega⟩ (by omega) dX9_lay_171 (fun H locs hw => ?_)
                obtain ⟨R171, eR171⟩ : ∃ Y : zR, Y = up2 R169 a10 pl.toNat (some q169) := ⟨_, rfl⟩
                rw [← eR171] at hw
                have hr171 : R171 md 2 = some a2 := by rw [eR171, up2_a (zkn2 hk169 hk169_8 (by simp))]; exact hr169
                have hr171_1 : R171 md 3 = some a3 := by rw [eR171, up2_a (zkn2 hk169 hk169_8 (by simp))]; exact hr169_1
                have hr171_2 : R171 md 4 = some a4 := by rw [eR171, up2_a (zkn2 hk169 hk169_8 (by simp))]; exact hr169_2
                have hr171_3 : R171 md 6 = some a6 := by rw [eR171, up2_a (zkn2 hk169 hk169_8 (by simp))]; exact hr169_3
                have hr171_4 : R171 md 7 = some a7 := by rw [eR171, up2_a (zkn2 hk169 hk169_8 (by simp))]; exact hr169_4
                have hr171_5 : R171 md 8 = some a8 := by rw [eR171, up2_a (zkn2 hk169 hk169_8 (by simp))]; exact hr169_5
                have hr171_6 : R171 md 9 = some a9 := by rw [eR171, up2_a (zkn2 hk169 hk169_8 (by simp))]; exact hr169_6
                have hr171_7 : R171 md 10 = some a10 := by rw [eR171, up2_a (zkn2 hk169 hk169_8 (by simp))]; exact hr169_7
                have hr171_8 : R171 md 11 = some a11 := by rw [eR171, up2_a (zkn2 hk169 hk169_8 (by simp))]; exact hr169_8
                have hr171_9 : R171 a10 pl.toNat = some q169 := by rw [eR171]; exact up2_s
                refine lv_aload_n (pc := 172) hx hb dX9_lay_172 rfl (lv_at hl 4 rfl) ?_
                refine zgetR (pc := 173) hx hb hG hown hw hk169 (T := TX9) rfl 11 (by decide) rfl wf_X9_36 rfl hr171_8 dX9_lay_173 ?_
                refine lv_iload_n (pc := 176) hx hb dX9_lay_176 rfl (lv_at hl 5 rfl) ?_
                refine lv_iload (pc := 177) hx hb dX9_lay_177 (lv_at hl 1 rfl) ?_
                refine znewi (pc := 179) hx hb hG hw wa_int ⟨by omega, by omega⟩ (by show 0 + 1 + 2 + 1 + 1 ≤ (min 5 (dlC X Rf md pl.toNat)); omega) (by show 0 + mo9.toNat + 1400 + mn.toNat + mn.toNat ≤ (dlC X Rf md pl.toNat); omega) dX9_lay_179 (fun q179 H hfq179 hw => ?_)
                obtain ⟨K179, eK179⟩ : ∃ Y : zK, Y = zup K169 q179 (2, mn.toNat) := ⟨_, rfl⟩
                obtain ⟨X179, eX179⟩ : ∃ Y : zX, Y = zupX X169 q179 := ⟨_, rfl⟩
                obtain ⟨R179, eR179⟩ : ∃ Y : zR, Y = zupR R171 q179 := ⟨_, rfl⟩
                replace hw := Wd.re hw eK179 eX179 eR179
                have hk179 : K179 md = (1, 8) := by rw [eK179]; exact zup_k hfq179 hk169 (Nat.succ_ne_zero _)
                have hn179 : Apt md q179 := zne hk169 hfq179
                have hk179_1 : K179 a2 = (2, 24) := by rw [eK179]; exact zup_k hfq179 hk169_1 (Nat.succ_ne_zero _)
                have hn179_1 : Apt a2 q179 := zne hk169_1 hfq179
                have hk179_2 : K179 a3 = (2, 24) := by rw [eK179]; exact zup_k hfq179 hk169_2 (Nat.succ_ne_zero _)
                have hn179_2 : Apt a3 q179 := zne hk169_2 hfq179
                have hk179_3 : K179 a4 = (2, 24) := by rw [eK179]; exact zup_k hfq179 hk169_3 (Nat.succ_ne_zero _)
                have hn179_3 : Apt a4 q179 := zne hk169_3 hfq179
                have hk179_4 : K179 a6 = (2, 6) := by rw [eK179]; exact zup_k hfq179 hk169_4 (Nat.succ_ne_zero _)
                have hn179_4 : Apt a6 q179 := zne hk169_4 hfq179
                have hk179_5 : K179 a7 = (2, 6) := by rw [eK179]; exact zup_k hfq179 hk169_5 (Nat.succ_ne_zero _)
                have hn179_5 : Apt a7 q179 := zne hk169_5 hfq179
                have hk179_6 : K179 a8 = (2, 216) := by rw [eK179]; exact zup_k hfq179 hk169_6 (Nat.succ_ne_zero _)
                have hn179_6 : Apt a8 q179 := zne hk169_6 hfq179
                have hk179_7 : K179 a9 = (2, 6) := by rw [eK179]; exact zup_k hfq179 hk169_7 (Nat.succ_ne_zero _)
                have hn179_7 : Apt a9 q179 := zne hk169_7 hfq179
                have hk179_8 : K179 a10 = (11, 6) := by rw [eK179]; exact zup_k hfq179 hk169_8 (Nat.succ_ne_zero _)
                have hn179_8 : Apt a10 q179 := zne hk169_8 hfq179
                have hk179_9 : K179 a11 = (11, 6) := by rw [eK179]; exact zup_k hfq179 hk169_9 (Nat.succ_ne_zero _)
                have hn179_9 : Apt a11 q179 := zne hk169_9 hfq179
                have hk179_10 : K179 q52 = (2, mo9.toNat) := by rw [eK179]; exact zup_k hfq179 hk169_10 (Nat.succ_ne_zero _)
                have hn179_10 : Apt q52 q179 := zne hk169_10 hfq179
                have hk179_11 : K179 q169 = (2, mn.toNat) := by rw [eK179]; exact zup_k hfq179 hk169_11 (Nat.succ_ne_zero _)
                have hn179_11 : Apt q169 q179 := zne hk169_11 hfq179
                have hk179_12 : K179 q179 = (2, mn.toNat) := by rw [eK179]; exact zup_s
                have hr179 : R179 md 2 = some a2 := by rw [eR179, zupR_n hn179]; exact hr171
                have hr179_1 : R179 md 3 = some a3 := by rw [eR179, zupR_n hn179]; exact hr171_1
                have hr179_2 : R179 md 4 = some a4 := by rw [eR179, zupR_n hn179]; exact hr171_2
                have hr179_3 : R179 md 6 = some a6 := by rw [eR179, zupR_n hn179]; exact hr171_3
                have hr179_4 : R179 md 7 = some a7 := by rw [eR179, zupR_n hn179]; exact hr171_4
                have hr179_5 : R179 md 8 = some a8 := by rw [eR179, zupR_n hn179]; exact hr171_5
                have hr179_6 : R179 md 9 = some a9 := by rw [eR179, zupR_n hn179]; exact hr171_6
                have hr179_7 : R179 md 10 = some a10 := by rw [eR179, zupR_n hn179]; exact hr171_7
                have hr179_8 : R179 md 11 = some a11 := by rw [eR179, zupR_n hn179]; exact hr171_8
                have hr179_9 : R179 a10 pl.toNat = some q169 := by rw [eR179, zupR_n hn179_8]; exact hr171_9
                have hq79 : q169 ≠ q179 := zne (show K169 q169 = (2, mn.toNat) by rw [eK169]; exact zup_s) hfq179
                have f1 : (K q169).1 = 0 := by
                  by_cases g : (K q169).1 = 0
                  · exact g
                  · exfalso; have h9 := hfq169; rw [(hfr8 q169 g).1] at h9; exact g h9
                have f2 : (K q179).1 = 0 := by
                  by_cases g : (K q179).1 = 0
                  · exact g
                  · exfalso; have h9 := hfq179; rw [eK169, zup_n (zfa g f1), (hfr8 q179 g).1] at h9; exact g h9
                have hfrZ : ∀ b, (K b).1 ≠ 0 → K179 b = K b ∧ X179 b = X b := fun b hb => by rw [eK179, zup_n (zfa hb f2), eK169, zup_n (zfa hb f1), eX179, zupX_n (zfa hb f2), eX169, zupX_n (zfa hb f1)]; exact ⟨(hfr8 b hb).1, (hfr8 b hb).2.2⟩
                have hkq : K159 q52 = (2, mo9.toNat) := by rw [(hfr9 q52 (by rw [eK52, zup_s]; exact Nat.succ_ne_zero _)).1, eK52]; exact zup_s
                have n1 : q52 ≠ q169 := zne hkq hfq169
                have n2 : q52 ≠ q179 := zne (show K169 q52 = (2, mo9.toNat) by rw [eK169, zup_n n1]; exact hkq) hfq179
                have hXq : X179 q52 = X159 q52 := by rw [eX179, zupX_n n2, eX169, zupX_n n1]
                have h1011x : a10 ≠ a11 := zne9 hL10 hL11 (by decide)
                refine zaast5 (pc := 181) hx hb hw hk179_9 hk179_12 ⟨by omega, by omega⟩ (by omega) dX9_lay_181 (fun H locs hw => ?_)
                obtain ⟨R181, eR181⟩ : ∃ Y : zR, Y = up2 R179 a11 pl.toNat (some q179) := ⟨_, rfl⟩
                rw [← eR181] at hw
                have hr181 : R181 md 2 = some a2 := by rw [eR181, up2_a (zkn2 hk179 hk179_9 (by simp))]; exact hr179
                have hr181_1 : R181 md 3 = some a3 := by rw [eR181, up2_a (zkn2 hk179 hk179_9 (by simp))]; exact hr179_1
                have hr181_2 : R181 md 4 = some a4 := by rw [eR181, up2_a (zkn2 hk179 hk179_9 (by simp))]; exact hr179_2
                have hr181_3 : R181 md 6 = some a6 := by rw [eR181, up2_a (zkn2 hk179 hk179_9 (by simp))]; exact hr179_3
                have hr181_4 : R181 md 7 = some a7 := by rw [eR181, up2_a (zkn2 hk179 hk179_9 (by simp))]; exact hr179_4
                have hr181_5 : R181 md 8 = some a8 := by rw [eR181, up2_a (zkn2 hk179 hk179_9 (by simp))]; exact hr179_5
                have hr181_6 : R181 md 9 = some a9 := by rw [eR181, up2_a (zkn2 hk179 hk179_9 (by simp))]; exact hr179_6
                have hr181_7 : R181 md 10 = some a10 := by rw [eR181, up2_a (zkn2 hk179 hk179_9 (by simp))]; exact hr179_7
                have hr181_8 : R181 md 11 = some a11 := by rw [eR181, up2_a (zkn2 hk179 hk179_9 (by simp))]; exact hr179_8
                have hr181_9 : R181 a10 pl.toNat = some q169 := by rw [eR181, up2_a h1011x]; exact hr179_9
                have hr181_10 : R181 a11 pl.toNat = some q179 := by rw [eR181]; exact up2_s
                refine ziconst (pc := 182) (n := 0) hx hb dX9_lay_182 ?_
                refine lv_istore (pc := 183) (lv' := [(5, .int (iI 0)), (4, .int (iI mn)), (3, .ref q52), (2, .int (iI mo9)), (0, .ref md), (1, .int (iI pl))]) hx hb dX9_lay_183 hl (by decide) rfl (fun ls hl => ?_)
                have lp185 : ∀ (n185 : Nat) (kk : Int) (XL185 : zX) (H : Heap) (locs : List Loc), (hk9 : 0 ≤ kk ∧ kk ≤ mn) → (hoL : ∀ b, b ≠ q169 → b ≠ q179 → XL185 b = X179 b) → (hmo : ∀ i : Nat, (i : Int) < kk → XL185 q169 i = evMo M pl.toNat i) → (hsv : ∀ i : Nat, (i : Int) < kk → XL185 q179 i = evSv M pl.toNat (i + 1)) → ((mn - kk).toNat < n185) → Wd Γ (zA K s.heap.size) K179 XL185 R181 s H locs → ∀ ls : Array Slot, lv_has ls 9 [(5, .int (iI kk)), (4, .int (iI mn)), (3, .ref q52), (2, .int (iI mo9)), (0, .ref md), (1, .int (iI pl))] → W p l e (rmL 85 (min 5 (dlC X Rf md pl.toNat)) (dlC X Rf md pl.toNat)) s m ([.ref md, .int (iI pl)] : List Value).toArray below meth c H locs (0 + 1 + 2 + 1 + 1) (0 + mo9.toNat + 1400 + mn.toNat + mn.toNat) (MQ below (zQ Γ K s.heap.size (pV (fun (K' : zK) (X' : zX) (R' : zR) => ∃ ρ', (repR ρ' K' X' R' md M ∧ frR ρ K X Rf ρ' K' X' R' ∧ (∀ q, q = 0 ∨ q = 36 → X' md q = X md q)) ∧ (lsR X Rf X' R' md ∧ dlC X' R' md pl.toNat = 0) ∧ ∀ a, (K a).1 ≠ 0 → 3000 ≤ ρ a → X' a = X a))) ([.ref md, .int (iI pl)] : List Value).toArray s (min 5 (dlC X Rf md pl.toNat)) (dlC X Rf md pl.toNat) (zA K s.heap.size)) (F0 m 185 ls []) := by
                  intro n185
                  induction n185 with
                  | zero => intro kk XL185 H locs hk9 hoL hmo hsv hm185; exact absurd hm185 (Nat.not_lt_zero _)
                  | succ n185 ih185 =>
                    intro kk XL185 H locs hk9 hoL hmo hsv hm185 hw ls hl
                    refine lv_iload (pc := 185) hx hb dX9_lay_185 (lv_at hl 0 rfl) ?_
                    refine lv_iload (pc := 187) hx hb dX9_lay_187 (lv_at hl 1 rfl) ?_
                    refine zicmp_ge (pc := 189) hx hb 321 (by omega) (by omega) dX9_lay_189 (by decide) (fun c189 => ?_) (fun c189 => ?_)
                    · skip
                      refine lv_aload_n (pc := 321) hx hb dX9_lay_321 rfl (lv_at hl 4 rfl) ?_
                      refine zgetR (pc := 322) hx hb hG hown hw hk179 (T := TX9) rfl 9 (by decide) rfl wf_X9_28 rfl hr181_6 dX9_lay_322 ?_
                      refine lv_iload_n (pc := 325) hx hb dX9_lay_325 rfl (lv_at hl 5 rfl) ?_
                      refine lv_iload (pc := 326) hx hb dX9_lay_326 (lv_at hl 1 rfl) ?_
                      refine zast (pc := 328) hx hb hw hk179_7 ⟨by omega, by omega⟩ (by omega) dX9_lay_328 (fun H locs hw => ?_)
                      obtain ⟨X328, eX328⟩ : ∃ Y : zX, Y = up2 XL185 a9 pl.toNat mn := ⟨_, rfl⟩
                      rw [← eX328] at hw
                      exact zretV (pc := 329) hx hb hlocks hr hw (by show 0 + 1 + 2 + 1 + 1 ≤ (min 5 (dlC X Rf md pl.toNat)); omega) (by show 0 + mo9.toNat + 1400 + mn.toNat + mn.toNat ≤ (dlC X Rf md pl.toNat); omega) dX9_lay_329 (by 
                                        obtain ⟨ρ', hρ⟩ : ∃ ρ' : zL, ρ' = fun a9' => if a9' = q169 then 3000 + pl.toNat else if a9' = q179 then 3010 + pl.toNat else ρ a9' := ⟨_, rfl⟩
                                        have hro : ∀ b, (K b).1 ≠ 0 → ρ' b = ρ b := fun b h9 => by rw [hρ]; dsimp only; rw [if_neg (zfa h9 f1), if_neg (zfa h9 f2)]
                                        have hl1 : ρ' q169 = 3000 + pl.toNat := by rw [hρ]; dsimp only; rw [if_pos rfl]
                                        have hl2 : ρ' q179 = 3010 + pl.toNat := by rw [hρ]; dsimp only; rw [if_neg (Ne.symm hq79), if_pos rfl]
                                        have e9k : kk = mn := by omega
                                        have gX : ∀ b, (K b).1 ≠ 0 → b ≠ a9 → X328 b = X b := fun b hb g => by rw [eX328, up2_o g, hoL b (zfa hb f1) (zfa hb f2), (hfrZ b hb).2]
                                        have gR : ∀ b, (K b).1 ≠ 0 → b ≠ a10 → b ≠ a11 → R181 b = Rf b := fun b hb g1 g2 => by rw [eR181, up2_o g2, eR179, zupR_n (zfa hb f2), eR171, up2_o g1, eR169, zupR_n (zfa hb f1), (hfr8 b hb).2.1]
                                        have h1011 : a10 ≠ a11 := zne9 hL10 hL11 (by decide)
                                        have d1 := zk1 hA10
                                        have d2 := zk1 hA11
                                        have d9 := zk1 hA9
                                        have L9 := hR.lay9 (p := pl.toNat) (K' := K179) (X' := X328) (Rf' := R181) (ρ' := ρ') (mo := q169) (sv := q179) hB9 hB10 hB11 (by omega) (by omega) (fun b hb => (hfrZ b hb).1) gX hro gR
                                          (fun k g => by rw [eX328, up2_k g, hoL a9 (zfa d9 f1) (zfa d9 f2), (hfrZ a9 d9).2]) (fun k g => by rw [eR181, up2_o h1011, eR179, zupR_n (zfa d1 f2), eR171, up2_k g, eR169, zupR_n (zfa d1 f1), (hfr8 a10 d1).2.1]) (fun k g => by rw [eR181, up2_k g, eR179, zupR_n (zfa d2 f2), eR171, up2_o (Ne.symm h1011), eR169, zupR_n (zfa d2 f1), (hfr8 a11 d2).2.1])
                                          ⟨by rw [eR181, up2_o h1011, eR179, zupR_n (zfa d1 f2), eR171]; exact up2_s, by rw [eR181]; exact up2_s⟩ ⟨by rw [eK179, zup_n hq79, eK169, zup_s, hNe], by rw [eK179, zup_s, hNe]⟩ ⟨hl1, hl2⟩ (by rw [eX328, up2_s]; omega)
                                          (fun k hk => by rw [eX328, up2_o (Ne.symm (zfa d9 f1)), hmo k (by omega)]) (fun k hk => by rw [eX328, up2_o (Ne.symm (zfa d9 f2)), hsv k (by omega)])
                                        exact ⟨ρ', ⟨L9.1, L9.2.1, fun q _ => by rw [gX md (zk1 hmd) (Ne.symm hN9)]⟩, ⟨L9.2.2.1, L9.2.2.2⟩, fun b h1 h2 => gX b h1 (fun g => by rw [g, hL9] at h2; omega)⟩)
                    · skip
                      have hLk : XL185 q52 kk.toNat = evLM M pl.toNat kk.toNat := by rw [hoL q52 n1 n2, hXq]; exact hLL kk.toNat (by omega)
                      have h8k : XL185 a8 = X a8 := by rw [hoL a8 (zfa (zk1 hA8) f1) (zfa (zk1 hA8) f2), (hfrZ a8 (zk1 hA8)).2]
                      have h6k : XL185 a6 pl.toNat = M 6 pl.toNat := by rw [hoL a6 (zfa (zk1 hA6) f1) (zfa (zk1 hA6) f2), (hfrZ a6 (zk1 hA6)).2]; exact hx6
                      have hmk := hmd8 kk.toNat (by omega)
                      rw [hLL kk.toNat (by omega)] at hmk
                      obtain ⟨lk, hlk⟩ : ∃ lk, evLM M pl.toNat kk.toNat = lk := ⟨_, rfl⟩
                      have hlk2 : evF (turM M pl.toNat) (tupM M pl.toNat) (M 7 pl.toNat).toNat kk.toNat = lk := hlk
                      rw [hlk2] at hmk
                      rw [hlk] at hLk
                      have hk7 : 0 ≤ lk % 8 ∧ lk % 8 < M 7 pl.toNat := by
                        obtain ⟨k, k1, y, k2, k3, k4⟩ := hev.2.1 kk.toNat (by omega)
                        rw [hLL kk.toNat (by omega), hlk2] at k4; omega
                      obtain ⟨st9, hst9⟩ : ∃ s9, stF (turM M pl.toNat) (M 6 pl.toNat) (evLM M pl.toNat) kk.toNat = s9 := ⟨_, rfl⟩
                      have hsr := stF_rng (N := evNM M pl.toNat) (L := evLM M pl.toNat) hb6 (fun i hi => (evF_ok (turM M pl.toNat) (tupM M pl.toNat) (M 7 pl.toNat).toNat).mod (by omega) hT hi) (j := kk.toNat) (by omega)
                      rw [hst9] at hsr
                      have e1m : evMo M pl.toNat kk.toNat = max st9.1 (tMom (turM M pl.toNat (lk % 8).toNat) (lk / 8) (M 6 pl.toNat) st9.2) := by rw [← hst9, ← hlk]; rfl
                      have e2m : evSv M pl.toNat (kk.toNat + 1) = turM M pl.toNat (lk % 8).toNat 5 := by rw [← hlk]; rfl
                      have hz0 : kk = 0 → st9 = (-1020, 0) := fun g => by rw [← hst9, g]; rfl
                      have hz1 : 0 < kk → st9.1 = XL185 q169 (kk - 1).toNat ∧ st9.2 = XL185 q179 (kk - 1).toNat := fun g => by
                        rw [hmo _ (by omega), hsv _ (by omega), ← hst9]; exact ⟨by unfold evMo moE; rw [show (kk - 1).toNat + 1 = kk.toNat by omega], by unfold evSv; rw [show (kk - 1).toNat + 1 = kk.toNat by omega]⟩
                      have hz2 : kk = 0 → st9.1 = -1020 ∧ st9.2 = 0 := fun g => by rw [hz0 g]; exact ⟨rfl, rfl⟩
                      clear hz0 hst9
                      refine lv_aload_n (pc := 192) hx hb dX9_lay_192 rfl (lv_at hl 2 rfl) ?_
                      refine lv_iload (pc := 193) hx hb dX9_lay_193 (lv_at hl 0 rfl) ?_
                      refine zald (pc := 195) hx hb hw hk179_10 ⟨by omega, by omega⟩ (by omega) dX9_lay_195 ?_
                      refine zbipush (pc := 196) (n := 8) hx hb dX9_lay_196 rfl ?_
                      refine zrem (pc := 198) hx hb (by omega) dX9_lay_198 ?_
                      refine ztop (fun x199 ex199 => ?_)
                      refine lv_istore (pc := 199) (lv' := [(6, .int (iI x199)), (5, .int (iI kk)), (4, .int (iI mn)), (3, .ref q52), (2, .int (iI mo9)), (0, .ref md), (1, .int (iI pl))]) hx hb dX9_lay_199 hl (by decide) rfl (fun ls hl => ?_)
                      have e99 : x199 = lk % 8 := by omega
                      have hw4 : XL185 a8 ((6 * pl + x199) * 6 + 4).toNat = turM M pl.toNat x199.toNat 4 := by rw [h8k]; have h9 := hTv x199.toNat 4 (by omega) (by decide); rw [show ((x199.toNat : Nat) : Int) = x199 by omega] at h9; exact h9
                      have hw5 : XL185 a8 ((6 * pl + x199) * 6 + 5).toNat = turM M pl.toNat x199.toNat 5 := by rw [h8k]; have h9 := hTv x199.toNat 5 (by omega) (by decide); rw [show ((x199.toNat : Nat) : Int) = x199 by omega] at h9; exact h9
                      rw [e99] at hw4 hw5
                      skip
                      refine lv_aload_n (pc := 201) hx hb dX9_lay_201 rfl (lv_at hl 5 rfl) ?_
                      refine lv_iload_n (pc := 202) hx hb dX9_lay_202 rfl (lv_at hl 6 rfl) ?_
                      refine lv_iload (pc := 203) hx hb dX9_lay_203 (lv_at hl 0 rfl) ?_
                      refine ziconst (pc := 205) (n := 4) hx hb dX9_lay_205 ?_
                      refine zkIp (pc := 206) (zrV (As := [.int (iI pl), .int (iI x199), .int (iI 4)]) hx hb hml hown hG hw (c_X9_ofTurn l Γ K179 XL185 R181 md pl x199 4 a8 (by (first | assumption | omega)) (by (first | assumption | omega)) (by (first | assumption | omega)) (by (first | assumption | omega))) (T := TX9) hk179 rfl cb_X9_ofTurn wl_X9_170 rfl ⟨Nat.le_of_ble_eq_true rfl, Nat.le_of_ble_eq_true rfl⟩ hl.1 rfl (Nat.le_of_ble_eq_true rfl) dX9_lay_206 ⟨(by show 0 + 1 + 2 + 1 + 1 + 0 ≤ (min 5 (dlC X Rf md pl.toNat)); omega), (by show 0 + mo9.toNat + 1400 + mn.toNat + mn.toNat + 0 ≤ (dlC X Rf md pl.toNat); omega)⟩) hw (fun r206 H locs hp206 hw => ?_)
                      subst hp206
                      refine ztop (fun x209 ex209 => ?_)
                      refine lv_istore (pc := 209) (lv' := [(7, .int (iI x209)), (6, .int (iI x199)), (5, .int (iI kk)), (4, .int (iI mn)), (3, .ref q52), (2, .int (iI mo9)), (0, .ref md), (1, .int (iI pl))]) hx hb dX9_lay_209 hl (by decide) rfl (fun ls hl => ?_)
                      have e09 : x209 = turM M pl.toNat (lk % 8).toNat 4 := by rw [ex209, e99]; exact hw4
                      refine lv_aload_n (pc := 211) hx hb dX9_lay_211 rfl (lv_at hl 4 rfl) ?_
                      refine lv_iload (pc := 212) hx hb dX9_lay_212 (lv_at hl 2 rfl) ?_
                      refine zald (pc := 214) hx hb hw hk179_10 ⟨by omega, by omega⟩ (by omega) dX9_lay_214 ?_
                      refine zbipush (pc := 215) (n := 8) hx hb dX9_lay_215 rfl ?_
                      refine zdiv (pc := 217) hx hb (by omega) dX9_lay_217 ?_
                      refine lv_iload (pc := 218) hx hb dX9_lay_218 (lv_at hl 0 rfl) ?_
                      refine ziconst (pc := 220) (n := 2) hx hb dX9_lay_220 ?_
                      refine zicmp_ge (pc := 221) hx hb 233 (by omega) (by omega) dX9_lay_221 (by decide) (fun c221 => ?_) (fun c221 => ?_)
                      · skip
                        refine ziconst (pc := 233) (n := 0) hx hb dX9_lay_233 ?_
                        refine zsub (pc := 234) hx hb dX9_lay_234 ?_
                        refine lv_iload (pc := 235) hx hb dX9_lay_235 (lv_at hl 0 rfl) ?_
                        refine zif_ne (pc := 237) hx hb 259 (by omega) dX9_lay_237 (by decide) (fun c237 => ?_) (fun c237 => ?_)
                        · skip
                          refine ziconst (pc := 259) (n := 0) hx hb dX9_lay_259 ?_
                          refine zsub (pc := 260) hx hb dX9_lay_260 ?_
                          refine ztop (fun x261 ex261 => ?_)
                          refine lv_istore (pc := 261) (lv' := [(8, .int (iI x261)), (7, .int (iI x209)), (6, .int (iI x199)), (5, .int (iI kk)), (4, .int (iI mn)), (3, .ref q52), (2, .int (iI mo9)), (0, .ref md), (1, .int (iI pl))]) hx hb dX9_lay_261 hl (by decide) rfl (fun ls hl => ?_)
                          have hmm : x261 = tMom (turM M pl.toNat (lk % 8).toNat) (lk / 8) (M 6 pl.toNat) st9.2 := by unfold tMom; rw [← e09]; (repeat' split) <;> omega
                          have hmr : -2000 ≤ x261 ∧ x261 ≤ 105200000 := by omega
                          rw [← hmm] at e1m
                          refine lv_aload_n (pc := 263) hx hb dX9_lay_263 rfl (lv_at hl 7 rfl) ?_
                          refine zgetR (pc := 264) hx hb hG hown hw hk179 (T := TX9) rfl 10 (by decide) rfl wf_X9_32 rfl hr181_7 dX9_lay_264 ?_
                          refine lv_iload_n (pc := 267) hx hb dX9_lay_267 rfl (lv_at hl 8 rfl) ?_
                          refine zaaldR5 (pc := 268) hx hb hw hk179_8 ⟨by omega, by omega⟩ (by omega) hr181_9 dX9_lay_268 ?_
                          refine lv_iload (pc := 269) hx hb dX9_lay_269 (lv_at hl 3 rfl) ?_
                          refine lv_iload (pc := 271) hx hb dX9_lay_271 (lv_at hl 3 rfl) ?_
                          refine zif_le (pc := 273) hx hb 295 (by omega) dX9_lay_273 (by decide) (fun c273 => ?_) (fun c273 => ?_)
                          · skip
                            refine lv_iload (pc := 295) hx hb dX9_lay_295 (lv_at hl 0 rfl) ?_
                            refine zast (pc := 297) hx hb hw hk179_11 ⟨by omega, by omega⟩ (by omega) dX9_lay_297 (fun H locs hw => ?_)
                            obtain ⟨X297, eX297⟩ : ∃ Y : zX, Y = up2 XL185 q169 kk.toNat x261 := ⟨_, rfl⟩
                            rw [← eX297] at hw
                            refine lv_aload_n (pc := 298) hx hb dX9_lay_298 rfl (lv_at hl 7 rfl) ?_
                            refine zgetR (pc := 299) hx hb hG hown hw hk179 (T := TX9) rfl 11 (by decide) rfl wf_X9_36 rfl hr181_8 dX9_lay_299 ?_
                            refine lv_iload_n (pc := 302) hx hb dX9_lay_302 rfl (lv_at hl 8 rfl) ?_
                            refine zaaldR5 (pc := 303) hx hb hw hk179_9 ⟨by omega, by omega⟩ (by omega) hr181_10 dX9_lay_303 ?_
                            refine lv_iload (pc := 304) hx hb dX9_lay_304 (lv_at hl 3 rfl) ?_
                            refine lv_aload_n (pc := 306) hx hb dX9_lay_306 rfl (lv_at hl 7 rfl) ?_
                            refine lv_iload_n (pc := 307) hx hb dX9_lay_307 rfl (lv_at hl 8 rfl) ?_
                            refine lv_iload (pc := 308) hx hb dX9_lay_308 (lv_at hl 2 rfl) ?_
                            refine ziconst (pc := 310) (n := 5) hx hb dX9_lay_310 ?_
                            refine zkIp (pc := 311) (zrV (As := [.int (iI pl), .int (iI x199), .int (iI 5)]) hx hb hml hown hG hw (c_X9_ofTurn l Γ K179 X297 R181 md pl x199 5 a8 (by (first | assumption | omega)) (by (first | assumption | omega)) (by (first | assumption | omega)) (by (first | assumption | omega))) (T := TX9) hk179 rfl cb_X9_ofTurn wl_X9_170 rfl ⟨Nat.le_of_ble_eq_true rfl, Nat.le_of_ble_eq_true rfl⟩ hl.1 rfl (Nat.le_of_ble_eq_true rfl) dX9_lay_311 ⟨(by show 0 + 1 + 2 + 1 + 1 + 0 ≤ (min 5 (dlC X Rf md pl.toNat)); omega), (by show 0 + mo9.toNat + 1400 + mn.toNat + mn.toNat + 0 ≤ (dlC X Rf md pl.toNat); omega)⟩) hw (fun r311 H locs hp311 hw => ?_)
                            subst hp311
                            have hcl5 : X297 a8 ((6 * pl + x199) * 6 + 5).toNat = turM M pl.toNat (lk % 8).toNat 5 := by rw [eX297, up2_o (zfa (zk1 hA8) f1), e99]; exact hw5
                            refine zast (pc := 314) hx hb hw hk179_12 ⟨by omega, by omega⟩ (by omega) dX9_lay_314 (fun H locs hw => ?_)
                            obtain ⟨X314, eX314⟩ : ∃ Y : zX, Y = up2 X297 q179 kk.toNat (X297 a8 ((6 * pl + x199) * 6 + 5).toNat) := ⟨_, rfl⟩
                            rw [← eX314] at hw
                            refine ziinc (pc := 315) (lv' := [(5, .int (iI (kk + 1))), (8, .int (iI x261)), (7, .int (iI x209)), (6, .int (iI x199)), (4, .int (iI mn)), (3, .ref q52), (2, .int (iI mo9)), (0, .ref md), (1, .int (iI pl))]) hx hb 3 dX9_lay_315 hl rfl (by decide) rfl (fun ls hl => ?_)
                            obtain ⟨x315, ex315⟩ : ∃ zz : Int, zz = (kk + 1) := ⟨_, rfl⟩
                            rw [← ex315] at hl
                            refine lv_goto (pc := 318) (tgt := 185) hx hb dX9_lay_318 (by decide) ?_
                            exact ih185 x315 X314 _ _ (by (first | assumption | omega)) (by exact fun b g1 g2 => by rw [eX314, up2_o g2, eX297, up2_o g1]; exact hoL b g1 g2) (by intro i g; rw [eX314, up2_o hq79, eX297, up2_row]; by_cases w : i = kk.toNat; (rw [w, updF_s, e1m]; omega); (rw [updF_o w]; exact hmo i (by omega))) (by intro i g; rw [eX314, up2_row]; by_cases w : i = kk.toNat; (rw [w, updF_s, e2m]; first | exact hcl5 | omega); (rw [updF_o w, eX297, up2_o (Ne.symm hq79)]; exact hsv i (by omega))) (by omega) hw _ (lv_sub hl [0, 4, 5, 6, 7, 8] rfl)
                          · skip
                            refine lv_iload (pc := 276) hx hb dX9_lay_276 (lv_at hl 0 rfl) ?_
                            refine lv_aload_n (pc := 278) hx hb dX9_lay_278 rfl (lv_at hl 7 rfl) ?_
                            refine zgetR (pc := 279) hx hb hG hown hw hk179 (T := TX9) rfl 10 (by decide) rfl wf_X9_32 rfl hr181_7 dX9_lay_279 ?_
                            refine lv_iload_n (pc := 282) hx hb dX9_lay_282 rfl (lv_at hl 8 rfl) ?_
                            refine zaaldR5 (pc := 283) hx hb hw hk179_8 ⟨by omega, by omega⟩ (by omega) hr181_9 dX9_lay_283 ?_
                            refine lv_iload (pc := 284) hx hb dX9_lay_284 (lv_at hl 3 rfl) ?_
                            refine ziconst (pc := 286) (n := 1) hx hb dX9_lay_286 ?_
                            refine zsub (pc := 287) hx hb dX9_lay_287 ?_
                            refine zald (pc := 288) hx hb hw hk179_11 ⟨by omega, by omega⟩ (by omega) dX9_lay_288 ?_
                            refine zmax (pc := 289) hx hb (hml.trans hl.1.symm) hown hG wl_X9_182 w1_zmx wi_javalangMath w2_zmx (Nat.le_of_ble_eq_true rfl) (Nat.le_of_ble_eq_true rfl) (by show 0 + 1 + 2 + 1 + 1 ≤ (min 5 (dlC X Rf md pl.toNat)); omega) (by show 0 + mo9.toNat + 1400 + mn.toNat + mn.toNat ≤ (dlC X Rf md pl.toNat); omega) ⟨by omega, by omega⟩ dX9_lay_289 ?_
                            refine lv_goto (pc := 292) (tgt := 297) hx hb dX9_lay_292 (by decide) ?_
                            refine zast (pc := 297) hx hb hw hk179_11 ⟨by omega, by omega⟩ (by omega) dX9_lay_297 (fun H locs hw => ?_)
                            obtain ⟨X297, eX297⟩ : ∃ Y : zX, Y = up2 XL185 q169 kk.toNat (max x261 (XL185 q169 (kk - 1).toNat)) := ⟨_, rfl⟩
                            rw [← eX297] at hw
                            refine lv_aload_n (pc := 298) hx hb dX9_lay_298 rfl (lv_at hl 7 rfl) ?_
                            refine zgetR (pc := 299) hx hb hG hown hw hk179 (T := TX9) rfl 11 (by decide) rfl wf_X9_36 rfl hr181_8 dX9_lay_299 ?_
                            refine lv_iload_n (pc := 302) hx hb dX9_lay_302 rfl (lv_at hl 8 rfl) ?_
                            refine zaaldR5 (pc := 303) hx hb hw hk179_9 ⟨by omega, by omega⟩ (by omega) hr181_10 dX9_lay_303 ?_
                            refine lv_iload (pc := 304) hx hb dX9_lay_304 (lv_at hl 3 rfl) ?_
                            refine lv_aload_n (pc := 306) hx hb dX9_lay_306 rfl (lv_at hl 7 rfl) ?_
                            refine lv_iload_n (pc := 307) hx hb dX9_lay_307 rfl (lv_at hl 8 rfl) ?_
                            refine lv_iload (pc := 308) hx hb dX9_lay_308 (lv_at hl 2 rfl) ?_
                            refine ziconst (pc := 310) (n := 5) hx hb dX9_lay_310 ?_
                            refine zkIp (pc := 311) (zrV (As := [.int (iI pl), .int (iI x199), .int (iI 5)]) hx hb hml hown hG hw (c_X9_ofTurn l Γ K179 X297 R181 md pl x199 5 a8 (by (first | assumption | omega)) (by (first | assumption | omega)) (by (first | assumption | omega)) (by (first | assumption | omega))) (T := TX9) hk179 rfl cb_X9_ofTurn wl_X9_170 rfl ⟨Nat.le_of_ble_eq_true rfl, Nat.le_of_ble_eq_true rfl⟩ hl.1 rfl (Nat.le_of_ble_eq_true rfl) dX9_lay_311 ⟨(by show 0 + 1 + 2 + 1 + 1 + 0 ≤ (min 5 (dlC X Rf md pl.toNat)); omega), (by show 0 + mo9.toNat + 1400 + mn.toNat + mn.toNat + 0 ≤ (dlC X Rf md pl.toNat); omega)⟩) hw (fun r311 H locs hp311 hw => ?_)
                            subst hp311
                            have hcl5 : X297 a8 ((6 * pl + x199) * 6 + 5).toNat = turM M pl.toNat (lk % 8).toNat 5 := by rw [eX297, up2_o (zfa (zk1 hA8) f1), e99]; exact hw5
                            refine zast (pc := 314) hx hb hw hk179_12 ⟨by omega, by omega⟩ (by omega) dX9_lay_314 (fun H locs hw => ?_)
                            obtain ⟨X314, eX314⟩ : ∃ Y : zX, Y = up2 X297 q179 kk.toNat (X297 a8 ((6 * pl + x199) * 6 + 5).toNat) := ⟨_, rfl⟩
                            rw [← eX314] at hw
                            refine ziinc (pc := 315) (lv' := [(5, .int (iI (kk + 1))), (8, .int (iI x261)), (7, .int (iI x209)), (6, .int (iI x199)), (4, .int (iI mn)), (3, .ref q52), (2, .int (iI mo9)), (0, .ref md), (1, .int (iI pl))]) hx hb 3 dX9_lay_315 hl rfl (by decide) rfl (fun ls hl => ?_)
                            obtain ⟨x315, ex315⟩ : ∃ zz : Int, zz = (kk + 1) := ⟨_, rfl⟩
                            rw [← ex315] at hl
                            refine lv_goto (pc := 318) (tgt := 185) hx hb dX9_lay_318 (by decide) ?_
                            exact ih185 x315 X314 _ _ (by (first | assumption | omega)) (by exact fun b g1 g2 => by rw [eX314, up2_o g2, eX297, up2_o g1]; exact hoL b g1 g2) (by intro i g; rw [eX314, up2_o hq79, eX297, up2_row]; by_cases w : i = kk.toNat; (rw [w, updF_s, e1m]; omega); (rw [updF_o w]; exact hmo i (by omega))) (by intro i g; rw [eX314, up2_row]; by_cases w : i = kk.toNat; (rw [w, updF_s, e2m]; first | exact hcl5 | omega); (rw [updF_o w, eX297, up2_o (Ne.symm hq79)]; exact hsv i (by omega))) (by omega) hw _ (lv_sub hl [0, 4, 5, 6, 7, 8] rfl)
                        · skip
                          refine lv_iload (pc := 240) hx hb dX9_lay_240 (lv_at hl 2 rfl) ?_
                          refine zif_le (pc := 242) hx hb 259 (by omega) dX9_lay_242 (by decide) (fun c242 => ?_) (fun c242 => ?_)
                          · skip
                            refine ziconst (pc := 259) (n := 0) hx hb dX9_lay_259 ?_
                            refine zsub (pc := 260) hx hb dX9_lay_260 ?_
                            refine ztop (fun x261 ex261 => ?_)
                            refine lv_istore (pc := 261) (lv' := [(8, .int (iI x261)), (7, .int (iI x209)), (6, .int (iI x199)), (5, .int (iI kk)), (4, .int (iI mn)), (3, .ref q52), (2, .int (iI mo9)), (0, .ref md), (1, .int (iI pl))]) hx hb dX9_lay_261 hl (by decide) rfl (fun ls hl => ?_)
                            have hmm : x261 = tMom (turM M pl.toNat (lk % 8).toNat) (lk / 8) (M 6 pl.toNat) st9.2 := by unfold tMom; rw [← e09]; (repeat' split) <;> omega
                            have hmr : -2000 ≤ x261 ∧ x261 ≤ 105200000 := by omega
                            rw [← hmm] at e1m
                            refine lv_aload_n (pc := 263) hx hb dX9_lay_263 rfl (lv_at hl 7 rfl) ?_
                            refine zgetR (pc := 264) hx hb hG hown hw hk179 (T := TX9) rfl 10 (by decide) rfl wf_X9_32 rfl hr181_7 dX9_lay_264 ?_
                            refine lv_iload_n (pc := 267) hx hb dX9_lay_267 rfl (lv_at hl 8 rfl) ?_
                            refine zaaldR5 (pc := 268) hx hb hw hk179_8 ⟨by omega, by omega⟩ (by omega) hr181_9 dX9_lay_268 ?_
                            refine lv_iload (pc := 269) hx hb dX9_lay_269 (lv_at hl 3 rfl) ?_
                            refine lv_iload (pc := 271) hx hb dX9_lay_271 (lv_at hl 3 rfl) ?_
                            refine zif_le (pc := 273) hx hb 295 (by omega) dX9_lay_273 (by decide) (fun c273 => ?_) (fun c273 => ?_)
                            · skip
                              refine lv_iload (pc := 295) hx hb dX9_lay_295 (lv_at hl 0 rfl) ?_
                              refine zast (pc := 297) hx hb hw hk179_11 ⟨by omega, by omega⟩ (by omega) dX9_lay_297 (fun H locs hw => ?_)
                              obtain ⟨X297, eX297⟩ : ∃ Y : zX, Y = up2 XL185 q169 kk.toNat x261 := ⟨_, rfl⟩
                              rw [← eX297] at hw
                              refine lv_aload_n (pc := 298) hx hb dX9_lay_298 rfl (lv_at hl 7 rfl) ?_
                              refine zgetR (pc := 299) hx hb hG hown hw hk179 (T := TX9) rfl 11 (by decide) rfl wf_X9_36 rfl hr181_8 dX9_lay_299 ?_
                              refine lv_iload_n (pc := 302) hx hb dX9_lay_302 rfl (lv_at hl 8 rfl) ?_
                              refine zaaldR5 (pc := 303) hx hb hw hk179_9 ⟨by omega, by omega⟩ (by omega) hr181_10 dX9_lay_303 ?_
                              refine lv_iload (pc := 304) hx hb dX9_lay_304 (lv_at hl 3 rfl) ?_
                              refine lv_aload_n (pc := 306) hx hb dX9_lay_306 rfl (lv_at hl 7 rfl) ?_
                              refine lv_iload_n (pc := 307) hx hb dX9_lay_307 rfl (lv_at hl 8 rfl) ?_
                              refine lv_iload (pc := 308) hx hb dX9_lay_308 (lv_at hl 2 rfl) ?_
                              refine ziconst (pc := 310) (n := 5) hx hb dX9_lay_310 ?_
                              refine zkIp (pc := 311) (zrV (As := [.int (iI pl), .int (iI x199), .int (iI 5)]) hx hb hml hown hG hw (c_X9_ofTurn l Γ K179 X297 R181 md pl x199 5 a8 (by (first | assumption | omega)) (by (first | assumption | omega)) (by (first | assumption | omega)) (by (first | assumption | omega))) (T := TX9) hk179 rfl cb_X9_ofTurn wl_X9_170 rfl ⟨Nat.le_of_ble_eq_true rfl, Nat.le_of_ble_eq_true rfl⟩ hl.1 rfl (Nat.le_of_ble_eq_true rfl) dX9_lay_311 ⟨(by show 0 + 1 + 2 + 1 + 1 + 0 ≤ (min 5 (dlC X Rf md pl.toNat)); omega), (by show 0 + mo9.toNat + 1400 + mn.toNat + mn.toNat + 0 ≤ (dlC X Rf md pl.toNat); omega)⟩) hw (fun r311 H locs hp311 hw => ?_)
                              subst hp311
                              have hcl5 : X297 a8 ((6 * pl + x199) * 6 + 5).toNat = turM M pl.toNat (lk % 8).toNat 5 := by rw [eX297, up2_o (zfa (zk1 hA8) f1), e99]; exact hw5
                              refine zast (pc := 314) hx hb hw hk179_12 ⟨by omega, by omega⟩ (by omega) dX9_lay_314 (fun H locs hw => ?_)
                              obtain ⟨X314, eX314⟩ : ∃ Y : zX, Y = up2 X297 q179 kk.toNat (X297 a8 ((6 * pl + x199) * 6 + 5).toNat) := ⟨_, rfl⟩
                              rw [← eX314] at hw
                              refine ziinc (pc := 315) (lv' := [(5, .int (iI (kk + 1))), (8, .int (iI x261)), (7, .int (iI x209)), (6, .int (iI x199)), (4, .int (iI mn)), (3, .ref q52), (2, .int (iI mo9)), (0, .ref md), (1, .int (iI pl))]) hx hb 3 dX9_lay_315 hl rfl (by decide) rfl (fun ls hl => ?_)
                              obtain ⟨x315, ex315⟩ : ∃ zz : Int, zz = (kk + 1) := ⟨_, rfl⟩
                              rw [← ex315] at hl
                              refine lv_goto (pc := 318) (tgt := 185) hx hb dX9_lay_318 (by decide) ?_
                              exact ih185 x315 X314 _ _ (by (first | assumption | omega)) (by exact fun b g1 g2 => by rw [eX314, up2_o g2, eX297, up2_o g1]; exact hoL b g1 g2) (by intro i g; rw [eX314, up2_o hq79, eX297, up2_row]; by_cases w : i = kk.toNat; (rw [w, updF_s, e1m]; omega); (rw [updF_o w]; exact hmo i (by omega))) (by intro i g; rw [eX314, up2_row]; by_cases w : i = kk.toNat; (rw [w, updF_s, e2m]; first | exact hcl5 | omega); (rw [updF_o w, eX297, up2_o (Ne.symm hq79)]; exact hsv i (by omega))) (by omega) hw _ (lv_sub hl [0, 4, 5, 6, 7, 8] rfl)
                            · skip
                              refine lv_iload (pc := 276) hx hb dX9_lay_276 (lv_at hl 0 rfl) ?_
                              refine lv_aload_n (pc := 278) hx hb dX9_lay_278 rfl (lv_at hl 7 rfl) ?_
                              refine zgetR (pc := 279) hx hb hG hown hw hk179 (T := TX9) rfl 10 (by decide) rfl wf_X9_32 rfl hr181_7 dX9_lay_279 ?_
                              refine lv_iload_n (pc := 282) hx hb dX9_lay_282 rfl (lv_at hl 8 rfl) ?_
                              refine zaaldR5 (pc := 283) hx hb hw hk179_8 ⟨by omega, by omega⟩ (by omega) hr181_9 dX9_lay_283 ?_
                              refine lv_iload (pc := 284) hx hb dX9_lay_284 (lv_at hl 3 rfl) ?_
                              refine ziconst (pc := 286) (n := 1) hx hb dX9_lay_286 ?_
                              refine zsub (pc := 287) hx hb dX9_lay_287 ?_
                              refine zald (pc := 288) hx hb hw hk179_11 ⟨by omega, by omega⟩ (by omega) dX9_lay_288 ?_
                              refine zmax (pc := 289) hx hb (hml.trans hl.1.symm) hown hG wl_X9_182 w1_zmx wi_javalangMath w2_zmx (Nat.le_of_ble_eq_true rfl) (Nat.le_of_ble_eq_true rfl) (by show 0 + 1 + 2 + 1 + 1 ≤ (min 5 (dlC X Rf md pl.toNat)); omega) (by show 0 + mo9.toNat + 1400 + mn.toNat + mn.toNat ≤ (dlC X Rf md pl.toNat); omega) ⟨by omega, by omega⟩ dX9_lay_289 ?_
                              refine lv_goto (pc := 292) (tgt := 297) hx hb dX9_lay_292 (by decide) ?_
                              refine zast (pc := 297) hx hb hw hk179_11 ⟨by omega, by omega⟩ (by omega) dX9_lay_297 (fun H locs hw => ?_)
                              obtain ⟨X297, eX297⟩ : ∃ Y : zX, Y = up2 XL185 q169 kk.toNat (max x261 (XL185 q169 (kk - 1).toNat)) := ⟨_, rfl⟩
                              rw [← eX297] at hw
                              refine lv_aload_n (pc := 298) hx hb dX9_lay_298 rfl (lv_at hl 7 rfl) ?_
                              refine zgetR (pc := 299) hx hb hG hown hw hk179 (T := TX9) rfl 11 (by decide) rfl wf_X9_36 rfl hr181_8 dX9_lay_299 ?_
                              refine lv_iload_n (pc := 302) hx hb dX9_lay_302 rfl (lv_at hl 8 rfl) ?_
                              refine zaaldR5 (pc := 303) hx hb hw hk179_9 ⟨by omega, by omega⟩ (by omega) hr181_10 dX9_lay_303 ?_
                              refine lv_iload (pc := 304) hx hb dX9_lay_304 (lv_at hl 3 rfl) ?_
                              refine lv_aload_n (pc := 306) hx hb dX9_lay_306 rfl (lv_at hl 7 rfl) ?_
                              refine lv_iload_n (pc := 307) hx hb dX9_lay_307 rfl (lv_at hl 8 rfl) ?_
                              refine lv_iload (pc := 308) hx hb dX9_lay_308 (lv_at hl 2 rfl) ?_
                              refine ziconst (pc := 310) (n := 5) hx hb dX9_lay_310 ?_
                              refine zkIp (pc := 311) (zrV (As := [.int (iI pl), .int (iI x199), .int (iI 5)]) hx hb hml hown hG hw (c_X9_ofTurn l Γ K179 X297 R181 md pl x199 5 a8 (by (first | assumption | omega)) (by (first | assumption | omega)) (by (first | assumption | omega)) (by (first | assumption | omega))) (T := TX9) hk179 rfl cb_X9_ofTurn wl_X9_170 rfl ⟨Nat.le_of_ble_eq_true rfl, Nat.le_of_ble_eq_true rfl⟩ hl.1 rfl (Nat.le_of_ble_eq_true rfl) dX9_lay_311 ⟨(by show 0 + 1 + 2 + 1 + 1 + 0 ≤ (min 5 (dlC X Rf md pl.toNat)); omega), (by show 0 + mo9.toNat + 1400 + mn.toNat + mn.toNat + 0 ≤ (dlC X Rf md pl.toNat); omega)⟩) hw (fun r311 H locs hp311 hw => ?_)
                              subst hp311
                              have hcl5 : X297 a8 ((6 * pl + x199) * 6 + 5).toNat = turM M pl.toNat (lk % 8).toNat 5 := by rw [eX297, up2_o (zfa (zk1 hA8) f1), e99]; exact hw5
                              refine zast (pc := 314) hx hb hw hk179_12 ⟨by omega, by omega⟩ (by omega) dX9_lay_314 (fun H locs hw => ?_)
                              obtain ⟨X314, eX314⟩ : ∃ Y : zX, Y = up2 X297 q179 kk.toNat (X297 a8 ((6 * pl + x199) * 6 + 5).toNat) := ⟨_, rfl⟩
                              rw [← eX314] at hw
                              refine ziinc (pc := 315) (lv' := [(5, .int (iI (kk + 1))), (8, .int (iI x261)), (7, .int (iI x209)), (6, .int (iI x199)), (4, .int (iI mn)), (3, .ref q52), (2, .int (iI mo9)), (0, .ref md), (1, .int (iI pl))]) hx hb 3 dX9_lay_315 hl rfl (by decide) rfl (fun ls hl => ?_)
                              obtain ⟨x315, ex315⟩ : ∃ zz : Int, zz = (kk + 1) := ⟨_, rfl⟩
                              rw [← ex315] at hl
                              refine lv_goto (pc := 318) (tgt := 185) hx hb dX9_lay_318 (by decide) ?_
                              exact ih185 x315 X314 _ _ (by (first | assumption | omega)) (by exact fun b g1 g2 => by rw [eX314, up2_o g2, eX297, up2_o g1]; exact hoL b g1 g2) (by intro i g; rw [eX314, up2_o hq79, eX297, up2_row]; by_cases w : i = kk.toNat; (rw [w, updF_s, e1m]; omega); (rw [updF_o w]; exact hmo i (by omega))) (by intro i g; rw [eX314, up2_row]; by_cases w : i = kk.toNat; (rw [w, updF_s, e2m]; first | exact hcl5 | omega); (rw [updF_o w, eX297, up2_o (Ne.symm hq79)]; exact hsv i (by omega))) (by omega) hw _ (lv_sub hl [0, 4, 5, 6, 7, 8] rfl)
                          · skip
                            refine lv_aload_n (pc := 245) hx hb dX9_lay_245 rfl (lv_at hl 6 rfl) ?_
                            refine zgetR (pc := 246) hx hb hG hown hw hk179 (T := TX9) rfl 11 (by decide) rfl wf_X9_36 rfl hr181_8 dX9_lay_246 ?_
                            refine lv_iload_n (pc := 249) hx hb dX9_lay_249 rfl (lv_at hl 7 rfl) ?_
                            refine zaaldR5 (pc := 250) hx hb hw hk179_9 ⟨by omega, by omega⟩ (by omega) hr181_10 dX9_lay_250 ?_
                            refine lv_iload (pc := 251) hx hb dX9_lay_251 (lv_at hl 2 rfl) ?_
                            refine ziconst (pc := 253) (n := 1) hx hb dX9_lay_253 ?_
                            refine zsub (pc := 254) hx hb dX9_lay_254 ?_
                            refine zald (pc := 255) hx hb hw hk179_12 ⟨by omega, by omega⟩ (by omega) dX9_lay_255 ?_
                            refine lv_goto (pc := 256) (tgt := 260) hx hb dX9_lay_256 (by decide) ?_
                            refine zsub (pc := 260) hx hb dX9_lay_260 ?_
                            refine ztop (fun x261 ex261 => ?_)
                            refine lv_istore (pc := 261) (lv' := [(8, .int (iI x261)), (7, .int (iI x209)), (6, .int (iI x199)), (5, .int (iI kk)), (4, .int (iI mn)), (3, .ref q52), (2, .int (iI mo9)), (0, .ref md), (1, .int (iI pl))]) hx hb dX9_lay_261 hl (by decide) rfl (fun ls hl => ?_)
                            have hmm : x261 = tMom (turM M pl.toNat (lk % 8).toNat) (lk / 8) (M 6 pl.toNat) st9.2 := by unfold tMom; rw [← e09]; (repeat' split) <;> omega
                            have hmr : -2000 ≤ x261 ∧ x261 ≤ 105200000 := by omega
                            rw [← hmm] at e1m
                            refine lv_aload_n (pc := 263) hx hb dX9_lay_263 rfl (lv_at hl 7 rfl) ?_
                            refine zgetR (pc := 264) hx hb hG hown hw hk179 (T := TX9) rfl 10 (by decide) rfl wf_X9_32 rfl hr181_7 dX9_lay_264 ?_
                            refine lv_iload_n (pc := 267) hx hb dX9_lay_267 rfl (lv_at hl 8 rfl) ?_
                            refine zaaldR5 (pc := 268) hx hb hw hk179_8 ⟨by omega, by omega⟩ (by omega) hr181_9 dX9_lay_268 ?_
                            refine lv_iload (pc := 269) hx hb dX9_lay_269 (lv_at hl 3 rfl) ?_
                            refine lv_iload (pc := 271) hx hb dX9_lay_271 (lv_at hl 3 rfl) ?_
                            refine zif_le (pc := 273) hx hb 295 (by omega) dX9_lay_273 (by decide) (fun c273 => ?_) (fun c273 => ?_)
                            · skip
                              refine lv_iload (pc := 295) hx hb dX9_lay_295 (lv_at hl 0 rfl) ?_
                              refine zast (pc := 297) hx hb hw hk179_11 ⟨by omega, by omega⟩ (by omega) dX9_lay_297 (fun H locs hw => ?_)
                              obtain ⟨X297, eX297⟩ : ∃ Y : zX, Y = up2 XL185 q169 kk.toNat x261 := ⟨_, rfl⟩
                              rw [← eX297] at hw
                              refine lv_aload_n (pc := 298) hx hb dX9_lay_298 rfl (lv_at hl 7 rfl) ?_
                              refine zgetR (pc := 299) hx hb hG hown hw hk179 (T := TX9) rfl 11 (by decide) rfl wf_X9_36 rfl hr181_8 dX9_lay_299 ?_
                              refine lv_iload_n (pc := 302) hx hb dX9_lay_302 rfl (lv_at hl 8 rfl) ?_
                              refine zaaldR5 (pc := 303) hx hb hw hk179_9 ⟨by omega, by omega⟩ (by omega) hr181_10 dX9_lay_303 ?_
                              refine lv_iload (pc := 304) hx hb dX9_lay_304 (lv_at hl 3 rfl) ?_
                              refine lv_aload_n (pc := 306) hx hb dX9_lay_306 rfl (lv_at hl 7 rfl) ?_
                              refine lv_iload_n (pc := 307) hx hb dX9_lay_307 rfl (lv_at hl 8 rfl) ?_
                              refine lv_iload (pc := 308) hx hb dX9_lay_308 (lv_at hl 2 rfl) ?_
                              refine ziconst (pc := 310) (n := 5) hx hb dX9_lay_310 ?_
                              refine zkIp (pc := 311) (zrV (As := [.int (iI pl), .int (iI x199), .int (iI 5)]) hx hb hml hown hG hw (c_X9_ofTurn l Γ K179 X297 R181 md pl x199 5 a8 (by (first | assumption | omega)) (by (first | assumption | omega)) (by (first | assumption | omega)) (by (first | assumption | omega))) (T := TX9) hk179 rfl cb_X9_ofTurn wl_X9_170 rfl ⟨Nat.le_of_ble_eq_true rfl, Nat.le_of_ble_eq_true rfl⟩ hl.1 rfl (Nat.le_of_ble_eq_true rfl) dX9_lay_311 ⟨(by show 0 + 1 + 2 + 1 + 1 + 0 ≤ (min 5 (dlC X Rf md pl.toNat)); omega), (by show 0 + mo9.toNat + 1400 + mn.toNat + mn.toNat + 0 ≤ (dlC X Rf md pl.toNat); omega)⟩) hw (fun r311 H locs hp311 hw => ?_)
                              subst hp311
                              have hcl5 : X297 a8 ((6 * pl + x199) * 6 + 5).toNat = turM M pl.toNat (lk % 8).toNat 5 := by rw [eX297, up2_o (zfa (zk1 hA8) f1), e99]; exact hw5
                              refine zast (pc := 314) hx hb hw hk179_12 ⟨by omega, by omega⟩ (by omega) dX9_lay_314 (fun H locs hw => ?_)
                              obtain ⟨X314, eX314⟩ : ∃ Y : zX, Y = up2 X297 q179 kk.toNat (X297 a8 ((6 * pl + x199) * 6 + 5).toNat) := ⟨_, rfl⟩
                              rw [← eX314] at hw
                              refine ziinc (pc := 315) (lv' := [(5, .int (iI (kk + 1))), (8, .int (iI x261)), (7, .int (iI x209)), (6, .int (iI x199)), (4, .int (iI mn)), (3, .ref q52), (2, .int (iI mo9)), (0, .ref md), (1, .int (iI pl))]) hx hb 3 dX9_lay_315 hl rfl (by decide) rfl (fun ls hl => ?_)
                              obtain ⟨x315, ex315⟩ : ∃ zz : Int, zz = (kk + 1) := ⟨_, rfl⟩
                              rw [← ex315] at hl
                              refine lv_goto (pc := 318) (tgt := 185) hx hb dX9_lay_318 (by decide) ?_
                              exact ih185 x315 X314 _ _ (by (first | assumption | omega)) (by exact fun b g1 g2 => by rw [eX314, up2_o g2, eX297, up2_o g1]; exact hoL b g1 g2) (by intro i g; rw [eX314, up2_o hq79, eX297, up2_row]; by_cases w : i = kk.toNat; (rw [w, updF_s, e1m]; omega); (rw [updF_o w]; exact hmo i (by omega))) (by intro i g; rw [eX314, up2_row]; by_cases w : i = kk.toNat; (rw [w, updF_s, e2m]; first | exact hcl5 | omega); (rw [updF_o w, eX297, up2_o (Ne.symm hq79)]; exact hsv i (by omega))) (by omega) hw _ (lv_sub hl [0, 4, 5, 6, 7, 8] rfl)
                            · skip
                              refine lv_iload (pc := 276) hx hb dX9_lay_276 (lv_at hl 0 rfl) ?_
                              refine lv_aload_n (pc := 278) hx hb dX9_lay_278 rfl (lv_at hl 7 rfl) ?_
                              refine zgetR (pc := 279) hx hb hG hown hw hk179 (T := TX9) rfl 10 (by decide) rfl wf_X9_32 rfl hr181_7 dX9_lay_279 ?_
                              refine lv_iload_n (pc := 282) hx hb dX9_lay_282 rfl (lv_at hl 8 rfl) ?_
                              refine zaaldR5 (pc := 283) hx hb hw hk179_8 ⟨by omega, by omega⟩ (by omega) hr181_9 dX9_lay_283 ?_
                              refine lv_iload (pc := 284) hx hb dX9_lay_284 (lv_at hl 3 rfl) ?_
                              refine ziconst (pc := 286) (n := 1) hx hb dX9_lay_286 ?_
                              refine zsub (pc := 287) hx hb dX9_lay_287 ?_
                              refine zald (pc := 288) hx hb hw hk179_11 ⟨by omega, by omega⟩ (by omega) dX9_lay_288 ?_
                              refine zmax (pc := 289) hx hb (hml.trans hl.1.symm) hown hG wl_X9_182 w1_zmx wi_javalangMath w2_zmx (Nat.le_of_ble_eq_true rfl) (Nat.le_of_ble_eq_true rfl) (by show 0 + 1 + 2 + 1 + 1 ≤ (min 5 (dlC X Rf md pl.toNat)); omega) (by show 0 + mo9.toNat + 1400 + mn.toNat + mn.toNat ≤ (dlC X Rf md pl.toNat); omega) ⟨by omega, by omega⟩ dX9_lay_289 ?_
                              refine lv_goto (pc := 292) (tgt := 297) hx hb dX9_lay_292 (by decide) ?_
                              refine zast (pc := 297) hx hb hw hk179_11 ⟨by omega, by omega⟩ (by omega) dX9_lay_297 (fun H locs hw => ?_)
                              obtain ⟨X297, eX297⟩ : ∃ Y : zX, Y = up2 XL185 q169 kk.toNat (max x261 (XL185 q169 (kk - 1).toNat)) := ⟨_, rfl⟩
                              rw [← eX297] at hw
                              refine lv_aload_n (pc := 298) hx hb dX9_lay_298 rfl (lv_at hl 7 rfl) ?_
                              refine zgetR (pc := 299) hx hb hG hown hw hk179 (T := TX9) rfl 11 (by decide) rfl wf_X9_36 rfl hr181_8 dX9_lay_299 ?_
                              refine lv_iload_n (pc := 302) hx hb dX9_lay_302 rfl (lv_at hl 8 rfl) ?_
                              refine zaaldR5 (pc := 303) hx hb hw hk179_9 ⟨by omega, by omega⟩ (by omega) hr181_10 dX9_lay_303 ?_
                              refine lv_iload (pc := 304) hx hb dX9_lay_304 (lv_at hl 3 rfl) ?_
                              refine lv_aload_n (pc := 306) hx hb dX9_lay_306 rfl (lv_at hl 7 rfl) ?_
                              refine lv_iload_n (pc := 307) hx hb dX9_lay_307 rfl (lv_at hl 8 rfl) ?_
                              refine lv_iload (pc := 308) hx hb dX9_lay_308 (lv_at hl 2 rfl) ?_
                              refine ziconst (pc := 310) (n := 5) hx hb dX9_lay_310 ?_
                              refine zkIp (pc := 311) (zrV (As := [.int (iI pl), .int (iI x199), .int (iI 5)]) hx hb hml hown hG hw (c_X9_ofTurn l Γ K179 X297 R181 md pl x199 5 a8 (by (first | assumption | omega)) (by (first | assumption | omega)) (by (first | assumption | omega)) (by (first | assumption | omega))) (T := TX9) hk179 rfl cb_X9_ofTurn wl_X9_170 rfl ⟨Nat.le_of_ble_eq_true rfl, Nat.le_of_ble_eq_true rfl⟩ hl.1 rfl (Nat.le_of_ble_eq_true rfl) dX9_lay_311 ⟨(by show 0 + 1 + 2 + 1 + 1 + 0 ≤ (min 5 (dlC X Rf md pl.toNat)); omega), (by show 0 + mo9.toNat + 1400 + mn.toNat + mn.toNat + 0 ≤ (dlC X Rf md pl.toNat); omega)⟩) hw (fun r311 H locs hp311 hw => ?_)
                              subst hp311
                              have hcl5 : X297 a8 ((6 * pl + x199) * 6 + 5).toNat = turM M pl.toNat (lk % 8).toNat 5 := by rw [eX297, up2_o (zfa (zk1 hA8) f1), e99]; exact hw5
                              refine zast (pc := 314) hx hb hw hk179_12 ⟨by omega, by omega⟩ (by omega) dX9_lay_314 (fun H locs hw => ?_)
                              obtain ⟨X314, eX314⟩ : ∃ Y : zX, Y = up2 X297 q179 kk.toNat (X297 a8 ((6 * pl + x199) * 6 + 5).toNat) := ⟨_, rfl⟩
                              rw [← eX314] at hw
                              refine ziinc (pc := 315) (lv' := [(5, .int (iI (kk + 1))), (8, .int (iI x261)), (7, .int (iI x209)), (6, .int (iI x199)), (4, .int (iI mn)), (3, .ref q52), (2, .int (iI mo9)), (0, .ref md), (1, .int (iI pl))]) hx hb 3 dX9_lay_315 hl rfl (by decide) rfl (fun ls hl => ?_)
                              obtain ⟨x315, ex315⟩ : ∃ zz : Int, zz = (kk + 1) := ⟨_, rfl⟩
                              rw [← ex315] at hl
                              refine lv_goto (pc := 318) (tgt := 185) hx hb dX9_lay_318 (by decide) ?_
                              exact ih185 x315 X314 _ _ (by (first | assumption | omega)) (by exact fun b g1 g2 => by rw [eX314, up2_o g2, eX297, up2_o g1]; exact hoL b g1 g2) (by intro i g; rw [eX314, up2_o hq79, eX297, up2_row]; by_cases w : i = kk.toNat; (rw [w, updF_s, e1m]; omega); (rw [updF_o w]; exact hmo i (by omega))) (by intro i g; rw [eX314, up2_row]; by_cases w : i = kk.toNat; (rw [w, updF_s, e2m]; first | exact hcl5 | omega); (rw [updF_o w, eX297, up2_o (Ne.symm hq79)]; exact hsv i (by omega))) (by omega) hw _ (lv_sub hl [0, 4, 5, 6, 7, 8] rfl)
                      · skip
                        refine lv_aload_n (pc := 224) hx hb dX9_lay_224 rfl (lv_at hl 6 rfl) ?_
                        refine zgetR (pc := 225) hx hb hG hown hw hk179 (T := TX9) rfl 6 (by decide) rfl wf_X9_19 rfl hr181_3 dX9_lay_225 ?_
                        refine lv_iload_n (pc := 228) hx hb dX9_lay_228 rfl (lv_at hl 7 rfl) ?_
                        refine zald (pc := 229) hx hb hw hk179_4 ⟨by omega, by omega⟩ (by omega) dX9_lay_229 ?_
                        refine lv_goto (pc := 230) (tgt := 234) hx hb dX9_lay_230 (by decide) ?_
                        refine zsub (pc := 234) hx hb dX9_lay_234 ?_
                        refine lv_iload (pc := 235) hx hb dX9_lay_235 (lv_at hl 0 rfl) ?_
                        refine zif_ne (pc := 237) hx hb 259 (by omega) dX9_lay_237 (by decide) (fun c237 => ?_) (fun c237 => ?_)
                        · skip
                          refine ziconst (pc := 259) (n := 0) hx hb dX9_lay_259 ?_
                          refine zsub (pc := 260) hx hb dX9_lay_260 ?_
                          refine ztop (fun x261 ex261 => ?_)
                          refine lv_istore (pc := 261) (lv' := [(8, .int (iI x261)), (7, .int (iI x209)), (6, .int (iI x199)), (5, .int (iI kk)), (4, .int (iI mn)), (3, .ref q52), (2, .int (iI mo9)), (0, .ref md), (1, .int (iI pl))]) hx hb dX9_lay_261 hl (by decide) rfl (fun ls hl => ?_)
                          have hmm : x261 = tMom (turM M pl.toNat (lk % 8).toNat) (lk / 8) (M 6 pl.toNat) st9.2 := by unfold tMom; rw [← e09]; (repeat' split) <;> omega
                          have hmr : -2000 ≤ x261 ∧ x261 ≤ 105200000 := by omega
                          rw [← hmm] at e1m
                          refine lv_aload_n (pc := 263) hx hb dX9_lay_263 rfl (lv_at hl 7 rfl) ?_
                          refine zgetR (pc := 264) hx hb hG hown hw hk179 (T := TX9) rfl 10 (by decide) rfl wf_X9_32 rfl hr181_7 dX9_lay_264 ?_
                          refine lv_iload_n (pc := 267) hx hb dX9_lay_267 rfl (lv_at hl 8 rfl) ?_
                          refine zaaldR5 (pc := 268) hx hb hw hk179_8 ⟨by omega, by omega⟩ (by omega) hr181_9 dX9_lay_268 ?_
                          refine lv_iload (pc := 269) hx hb dX9_lay_269 (lv_at hl 3 rfl) ?_
                          refine lv_iload (pc := 271) hx hb dX9_lay_271 (lv_at hl 3 rfl) ?_
                          refine zif_le (pc := 273) hx hb 295 (by omega) dX9_lay_273 (by decide) (fun c273 => ?_) (fun c273 => ?_)
                          · skip
                            refine lv_iload (pc := 295) hx hb dX9_lay_295 (lv_at hl 0 rfl) ?_
                            refine zast (pc := 297) hx hb hw hk179_11 ⟨by omega, by omega⟩ (by omega) dX9_lay_297 (fun H locs hw => ?_)
                            obtain ⟨X297, eX297⟩ : ∃ Y : zX, Y = up2 XL185 q169 kk.toNat x261 := ⟨_, rfl⟩
                            rw [← eX297] at hw
                            refine lv_aload_n (pc := 298) hx hb dX9_lay_298 rfl (lv_at hl 7 rfl) ?_
                            refine zgetR (pc := 299) hx hb hG hown hw hk179 (T := TX9) rfl 11 (by decide) rfl wf_X9_36 rfl hr181_8 dX9_lay_299 ?_
                            refine lv_iload_n (pc := 302) hx hb dX9_lay_302 rfl (lv_at hl 8 rfl) ?_
                            refine zaaldR5 (pc := 303) hx hb hw hk179_9 ⟨by omega, by omega⟩ (by omega) hr181_10 dX9_lay_303 ?_
                            refine lv_iload (pc := 304) hx hb dX9_lay_304 (lv_at hl 3 rfl) ?_
                            refine lv_aload_n (pc := 306) hx hb dX9_lay_306 rfl (lv_at hl 7 rfl) ?_
                            refine lv_iload_n (pc := 307) hx hb dX9_lay_307 rfl (lv_at hl 8 rfl) ?_
                            refine lv_iload (pc := 308) hx hb dX9_lay_308 (lv_at hl 2 rfl) ?_
                            refine ziconst (pc := 310) (n := 5) hx hb dX9_lay_310 ?_
                            refine zkIp (pc := 311) (zrV (As := [.int (iI pl), .int (iI x199), .int (iI 5)]) hx hb hml hown hG hw (c_X9_ofTurn l Γ K179 X297 R181 md pl x199 5 a8 (by (first | assumption | omega)) (by (first | assumption | omega)) (by (first | assumption | omega)) (by (first | assumption | omega))) (T := TX9) hk179 rfl cb_X9_ofTurn wl_X9_170 rfl ⟨Nat.le_of_ble_eq_true rfl, Nat.le_of_ble_eq_true rfl⟩ hl.1 rfl (Nat.le_of_ble_eq_true rfl) dX9_lay_311 ⟨(by show 0 + 1 + 2 + 1 + 1 + 0 ≤ (min 5 (dlC X Rf md pl.toNat)); omega), (by show 0 + mo9.toNat + 1400 + mn.toNat + mn.toNat + 0 ≤ (dlC X Rf md pl.toNat); omega)⟩) hw (fun r311 H locs hp311 hw => ?_)
                            subst hp311
                            have hcl5 : X297 a8 ((6 * pl + x199) * 6 + 5).toNat = turM M pl.toNat (lk % 8).toNat 5 := by rw [eX297, up2_o (zfa (zk1 hA8) f1), e99]; exact hw5
                            refine zast (pc := 314) hx hb hw hk179_12 ⟨by omega, by omega⟩ (by omega) dX9_lay_314 (fun H locs hw => ?_)
                            obtain ⟨X314, eX314⟩ : ∃ Y : zX, Y = up2 X297 q179 kk.toNat (X297 a8 ((6 * pl + x199) * 6 + 5).toNat) := ⟨_, rfl⟩
                            rw [← eX314] at hw
                            refine ziinc (pc := 315) (lv' := [(5, .int (iI (kk + 1))), (8, .int (iI x261)), (7, .int (iI x209)), (6, .int (iI x199)), (4, .int (iI mn)), (3, .ref q52), (2, .int (iI mo9)), (0, .ref md), (1, .int (iI pl))]) hx hb 3 dX9_lay_315 hl rfl (by decide) rfl (fun ls hl => ?_)
                            obtain ⟨x315, ex315⟩ : ∃ zz : Int, zz = (kk + 1) := ⟨_, rfl⟩
                            rw [← ex315] at hl
                            refine lv_goto (pc := 318) (tgt := 185) hx hb dX9_lay_318 (by decide) ?_
                            exact ih185 x315 X314 _ _ (by (first | assumption | omega)) (by exact fun b g1 g2 => by rw [eX314, up2_o g2, eX297, up2_o g1]; exact hoL b g1 g2) (by intro i g; rw [eX314, up2_o hq79, eX297, up2_row]; by_cases w : i = kk.toNat; (rw [w, updF_s, e1m]; omega); (rw [updF_o w]; exact hmo i (by omega))) (by intro i g; rw [eX314, up2_row]; by_cases w : i = kk.toNat; (rw [w, updF_s, e2m]; first | exact hcl5 | omega); (rw [updF_o w, eX297, up2_o (Ne.symm hq79)]; exact hsv i (by omega))) (by omega) hw _ (lv_sub hl [0, 4, 5, 6, 7, 8] rfl)
                          · skip
                            refine lv_iload (pc := 276) hx hb dX9_lay_276 (lv_at hl 0 rfl) ?_
                            refine lv_aload_n (pc := 278) hx hb dX9_lay_278 rfl (lv_at hl 7 rfl) ?_
                            refine zgetR (pc := 279) hx hb hG hown hw hk179 (T := TX9) rfl 10 (by decide) rfl wf_X9_32 rfl hr181_7 dX9_lay_279 ?_
                            refine lv_iload_n (pc := 282) hx hb dX9_lay_282 rfl (lv_at hl 8 rfl) ?_
                            refine zaaldR5 (pc := 283) hx hb hw hk179_8 ⟨by omega, by omega⟩ (by omega) hr181_9 dX9_lay_283 ?_
                            refine lv_iload (pc := 284) hx hb dX9_lay_284 (lv_at hl 3 rfl) ?_
                            refine ziconst (pc := 286) (n := 1) hx hb dX9_lay_286 ?_
                            refine zsub (pc := 287) hx hb dX9_lay_287 ?_
                            refine zald (pc := 288) hx hb hw hk179_11 ⟨by omega, by omega⟩ (by omega) dX9_lay_288 ?_
                            refine zmax (pc := 289) hx hb (hml.trans hl.1.symm) hown hG wl_X9_182 w1_zmx wi_javalangMath w2_zmx (Nat.le_of_ble_eq_true rfl) (Nat.le_of_ble_eq_true rfl) (by show 0 + 1 + 2 + 1 + 1 ≤ (min 5 (dlC X Rf md pl.toNat)); omega) (by show 0 + mo9.toNat + 1400 + mn.toNat + mn.toNat ≤ (dlC X Rf md pl.toNat); omega) ⟨by omega, by omega⟩ dX9_lay_289 ?_
                            refine lv_goto (pc := 292) (tgt := 297) hx hb dX9_lay_292 (by decide) ?_
                            refine zast (pc := 297) hx hb hw hk179_11 ⟨by omega, by omega⟩ (by omega) dX9_lay_297 (fun H locs hw => ?_)
                            obtain ⟨X297, eX297⟩ : ∃ Y : zX, Y = up2 XL185 q169 kk.toNat (max x261 (XL185 q169 (kk - 1).toNat)) := ⟨_, rfl⟩
                            rw [← eX297] at hw
                            refine lv_aload_n (pc := 298) hx hb dX9_lay_298 rfl (lv_at hl 7 rfl) ?_
                            refine zgetR (pc := 299) hx hb hG hown hw hk179 (T := TX9) rfl 11 (by decide) rfl wf_X9_36 rfl hr181_8 dX9_lay_299 ?_
                            refine lv_iload_n (pc := 302) hx hb dX9_lay_302 rfl (lv_at hl 8 rfl) ?_
                            refine zaaldR5 (pc := 303) hx hb hw hk179_9 ⟨by omega, by omega⟩ (by omega) hr181_10 dX9_lay_303 ?_
                            refine lv_iload (pc := 304) hx hb dX9_lay_304 (lv_at hl 3 rfl) ?_
                            refine lv_aload_n (pc := 306) hx hb dX9_lay_306 rfl (lv_at hl 7 rfl) ?_
                            refine lv_iload_n (pc := 307) hx hb dX9_lay_307 rfl (lv_at hl 8 rfl) ?_
                            refine lv_iload (pc := 308) hx hb dX9_lay_308 (lv_at hl 2 rfl) ?_
                            refine ziconst (pc := 310) (n := 5) hx hb dX9_lay_310 ?_
                            refine zkIp (pc := 311) (zrV (As := [.int (iI pl), .int (iI x199), .int (iI 5)]) hx hb hml hown hG hw (c_X9_ofTurn l Γ K179 X297 R181 md pl x199 5 a8 (by (first | assumption | omega)) (by (first | assumption | omega)) (by (first | assumption | omega)) (by (first | assumption | omega))) (T := TX9) hk179 rfl cb_X9_ofTurn wl_X9_170 rfl ⟨Nat.le_of_ble_eq_true rfl, Nat.le_of_ble_eq_true rfl⟩ hl.1 rfl (Nat.le_of_ble_eq_true rfl) dX9_lay_311 ⟨(by show 0 + 1 + 2 + 1 + 1 + 0 ≤ (min 5 (dlC X Rf md pl.toNat)); omega), (by show 0 + mo9.toNat + 1400 + mn.toNat + mn.toNat + 0 ≤ (dlC X Rf md pl.toNat); omega)⟩) hw (fun r311 H locs hp311 hw => ?_)
                            subst hp311
                            have hcl5 : X297 a8 ((6 * pl + x199) * 6 + 5).toNat = turM M pl.toNat (lk % 8).toNat 5 := by rw [eX297, up2_o (zfa (zk1 hA8) f1), e99]; exact hw5
                            refine zast (pc := 314) hx hb hw hk179_12 ⟨by omega, by omega⟩ (by omega) dX9_lay_314 (fun H locs hw => ?_)
                            obtain ⟨X314, eX314⟩ : ∃ Y : zX, Y = up2 X297 q179 kk.toNat (X297 a8 ((6 * pl + x199) * 6 + 5).toNat) := ⟨_, rfl⟩
                            rw [← eX314] at hw
                            refine ziinc (pc := 315) (lv' := [(5, .int (iI (kk + 1))), (8, .int (iI x261)), (7, .int (iI x209)), (6, .int (iI x199)), (4, .int (iI mn)), (3, .ref q52), (2, .int (iI mo9)), (0, .ref md), (1, .int (iI pl))]) hx hb 3 dX9_lay_315 hl rfl (by decide) rfl (fun ls hl => ?_)
                            obtain ⟨x315, ex315⟩ : ∃ zz : Int, zz = (kk + 1) := ⟨_, rfl⟩
                            rw [← ex315] at hl
                            refine lv_goto (pc := 318) (tgt := 185) hx hb dX9_lay_318 (by decide) ?_
                            exact ih185 x315 X314 _ _ (by (first | assumption | omega)) (by exact fun b g1 g2 => by rw [eX314, up2_o g2, eX297, up2_o g1]; exact hoL b g1 g2) (by intro i g; rw [eX314, up2_o hq79, eX297, up2_row]; by_cases w : i = kk.toNat; (rw [w, updF_s, e1m]; omega); (rw [updF_o w]; exact hmo i (by omega))) (by intro i g; rw [eX314, up2_row]; by_cases w : i = kk.toNat; (rw [w, updF_s, e2m]; first | exact hcl5 | omega); (rw [updF_o w, eX297, up2_o (Ne.symm hq79)]; exact hsv i (by omega))) (by omega) hw _ (lv_sub hl [0, 4, 5, 6, 7, 8] rfl)
                        · skip
                          refine lv_iload (pc := 240) hx hb dX9_lay_240 (lv_at hl 2 rfl) ?_
                          refine zif_le (pc := 242) hx hb 259 (by omega) dX9_lay_242 (by decide) (fun c242 => ?_) (fun c242 => ?_)
                          · skip
                            refine ziconst (pc := 259) (n := 0) hx hb dX9_lay_259 ?_
                            refine zsub (pc := 260) hx hb dX9_lay_260 ?_
                            refine ztop (fun x261 ex261 => ?_)
                            refine lv_istore (pc := 261) (lv' := [(8, .int (iI x261)), (7, .int (iI x209)), (6, .int (iI x199)), (5, .int (iI kk)), (4, .int (iI mn)), (3, .ref q52), (2, .int (iI mo9)), (0, .ref md), (1, .int (iI pl))]) hx hb dX9_lay_261 hl (by decide) rfl (fun ls hl => ?_)
                            have hmm : x261 = tMom (turM M pl.toNat (lk % 8).toNat) (lk / 8) (M 6 pl.toNat) st9.2 := by unfold tMom; rw [← e09]; (repeat' split) <;> omega
                            have hmr : -2000 ≤ x261 ∧ x261 ≤ 105200000 := by omega
                            rw [← hmm] at e1m
                            refine lv_aload_n (pc := 263) hx hb dX9_lay_263 rfl (lv_at hl 7 rfl) ?_
                            refine zgetR (pc := 264) hx hb hG hown hw hk179 (T := TX9) rfl 10 (by decide) rfl wf_X9_32 rfl hr181_7 dX9_lay_264 ?_
                            refine lv_iload_n (pc := 267) hx hb dX9_lay_267 rfl (lv_at hl 8 rfl) ?_
                            refine zaaldR5 (pc := 268) hx hb hw hk179_8 ⟨by omega, by omega⟩ (by omega) hr181_9 dX9_lay_268 ?_
                            refine lv_iload (pc := 269) hx hb dX9_lay_269 (lv_at hl 3 rfl) ?_
                            refine lv_iload (pc := 271) hx hb dX9_lay_271 (lv_at hl 3 rfl) ?_
                            refine zif_le (pc := 273) hx hb 295 (by omega) dX9_lay_273 (by decide) (fun c273 => ?_) (fun c273 => ?_)
                            · skip
                              refine lv_iload (pc := 295) hx hb dX9_lay_295 (lv_at hl 0 rfl) ?_
                              refine zast (pc := 297) hx hb hw hk179_11 ⟨by omega, by omega⟩ (by omega) dX9_lay_297 (fun H locs hw => ?_)
                              obtain ⟨X297, eX297⟩ : ∃ Y : zX, Y = up2 XL185 q169 kk.toNat x261 := ⟨_, rfl⟩
                              rw [← eX297] at hw
                              refine lv_aload_n (pc := 298) hx hb dX9_lay_298 rfl (lv_at hl 7 rfl) ?_
                              refine zgetR (pc := 299) hx hb hG hown hw hk179 (T := TX9) rfl 11 (by decide) rfl wf_X9_36 rfl hr181_8 dX9_lay_299 ?_
                              refine lv_iload_n (pc := 302) hx hb dX9_lay_302 rfl (lv_at hl 8 rfl) ?_
                              refine zaaldR5 (pc := 303) hx hb hw hk179_9 ⟨by omega, by omega⟩ (by omega) hr181_10 dX9_lay_303 ?_
                              refine lv_iload (pc := 304) hx hb dX9_lay_304 (lv_at hl 3 rfl) ?_
                              refine lv_aload_n (pc := 306) hx hb dX9_lay_306 rfl (lv_at hl 7 rfl) ?_
                              refine lv_iload_n (pc := 307) hx hb dX9_lay_307 rfl (lv_at hl 8 rfl) ?_
                              refine lv_iload (pc := 308) hx hb dX9_lay_308 (lv_at hl 2 rfl) ?_
                              refine ziconst (pc := 310) (n := 5) hx hb dX9_lay_310 ?_
                              refine zkIp (pc := 311) (zrV (As := [.int (iI pl), .int (iI x199), .int (iI 5)]) hx hb hml hown hG hw (c_X9_ofTurn l Γ K179 X297 R181 md pl x199 5 a8 (by (first | assumption | omega)) (by (first | assumption | omega)) (by (first | assumption | omega)) (by (first | assumption | omega))) (T := TX9) hk179 rfl cb_X9_ofTurn wl_X9_170 rfl ⟨Nat.le_of_ble_eq_true rfl, Nat.le_of_ble_eq_true rfl⟩ hl.1 rfl (Nat.le_of_ble_eq_true rfl) dX9_lay_311 ⟨(by show 0 + 1 + 2 + 1 + 1 + 0 ≤ (min 5 (dlC X Rf md pl.toNat)); omega), (by show 0 + mo9.toNat + 1400 + mn.toNat + mn.toNat + 0 ≤ (dlC X Rf md pl.toNat); omega)⟩) hw (fun r311 H locs hp311 hw => ?_)
                              subst hp311
                              have hcl5 : X297 a8 ((6 * pl + x199) * 6 + 5).toNat = turM M pl.toNat (lk % 8).toNat 5 := by rw [eX297, up2_o (zfa (zk1 hA8) f1), e99]; exact hw5
                              refine zast (pc := 314) hx hb hw hk179_12 ⟨by omega, by omega⟩ (by omega) dX9_lay_314 (fun H locs hw => ?_)
                              obtain ⟨X314, eX314⟩ : ∃ Y : zX, Y = up2 X297 q179 kk.toNat (X297 a8 ((6 * pl + x199) * 6 + 5).toNat) := ⟨_, rfl⟩
                              rw [← eX314] at hw
                              refine ziinc (pc := 315) (lv' := [(5, .int (iI (kk + 1))), (8, .int (iI x261)), (7, .int (iI x209)), (6, .int (iI x199)), (4, .int (iI mn)), (3, .ref q52), (2, .int (iI mo9)), (0, .ref md), (1, .int (iI pl))]) hx hb 3 dX9_lay_315 hl rfl (by decide) rfl (fun ls hl => ?_)
                              obtain ⟨x315, ex315⟩ : ∃ zz : Int, zz = (kk + 1) := ⟨_, rfl⟩
                              rw [← ex315] at hl
                              refine lv_goto (pc := 318) (tgt := 185) hx hb dX9_lay_318 (by decide) ?_
                              exact ih185 x315 X314 _ _ (by (first | assumption | omega)) (by exact fun b g1 g2 => by rw [eX314, up2_o g2, eX297, up2_o g1]; exact hoL b g1 g2) (by intro i g; rw [eX314, up2_o hq79, eX297, up2_row]; by_cases w : i = kk.toNat; (rw [w, updF_s, e1m]; omega); (rw [updF_o w]; exact hmo i (by omega))) (by intro i g; rw [eX314, up2_row]; by_cases w : i = kk.toNat; (rw [w, updF_s, e2m]; first | exact hcl5 | omega); (rw [updF_o w, eX297, up2_o (Ne.symm hq79)]; exact hsv i (by omega))) (by omega) hw _ (lv_sub hl [0, 4, 5, 6, 7, 8] rfl)
                            · skip
                              refine lv_iload (pc := 276) hx hb dX9_lay_276 (lv_at hl 0 rfl) ?_
                              refine lv_aload_n (pc := 278) hx hb dX9_lay_278 rfl (lv_at hl 7 rfl) ?_
                              refine zgetR (pc := 279) hx hb hG hown hw hk179 (T := TX9) rfl 10 (by decide) rfl wf_X9_32 rfl hr181_7 dX9_lay_279 ?_
                              refine lv_iload_n (pc := 282) hx hb dX9_lay_282 rfl (lv_at hl 8 rfl) ?_
                              refine zaaldR5 (pc := 283) hx hb hw hk179_8 ⟨by omega, by omega⟩ (by omega) hr181_9 dX9_lay_283 ?_
                              refine lv_iload (pc := 284) hx hb dX9_lay_284 (lv_at hl 3 rfl) ?_
                              refine ziconst (pc := 286) (n := 1) hx hb dX9_lay_286 ?_
                              refine zsub (pc := 287) hx hb dX9_lay_287 ?_
                              refine zald (pc := 288) hx hb hw hk179_11 ⟨by omega, by omega⟩ (by omega) dX9_lay_288 ?_
                              refine zmax (pc := 289) hx hb (hml.trans hl.1.symm) hown hG wl_X9_182 w1_zmx wi_javalangMath w2_zmx (Nat.le_of_ble_eq_true rfl) (Nat.le_of_ble_eq_true rfl) (by show 0 + 1 + 2 + 1 + 1 ≤ (min 5 (dlC X Rf md pl.toNat)); omega) (by show 0 + mo9.toNat + 1400 + mn.toNat + mn.toNat ≤ (dlC X Rf md pl.toNat); omega) ⟨by omega, by omega⟩ dX9_lay_289 ?_
                              refine lv_goto (pc := 292) (tgt := 297) hx hb dX9_lay_292 (by decide) ?_
                              refine zast (pc := 297) hx hb hw hk179_11 ⟨by omega, by omega⟩ (by omega) dX9_lay_297 (fun H locs hw => ?_)
                              obtain ⟨X297, eX297⟩ : ∃ Y : zX, Y = up2 XL185 q169 kk.toNat (max x261 (XL185 q169 (kk - 1).toNat)) := ⟨_, rfl⟩
                              rw [← eX297] at hw
                              refine lv_aload_n (pc := 298) hx hb dX9_lay_298 rfl (lv_at hl 7 rfl) ?_
                              refine zgetR (pc := 299) hx hb hG hown hw hk179 (T := TX9) rfl 11 (by decide) rfl wf_X9_36 rfl hr181_8 dX9_lay_299 ?_
                              refine lv_iload_n (pc := 302) hx hb dX9_lay_302 rfl (lv_at hl 8 rfl) ?_
                              refine zaaldR5 (pc := 303) hx hb hw hk179_9 ⟨by omega, by omega⟩ (by omega) hr181_10 dX9_lay_303 ?_
                              refine lv_iload (pc := 304) hx hb dX9_lay_304 (lv_at hl 3 rfl) ?_
                              refine lv_aload_n (pc := 306) hx hb dX9_lay_306 rfl (lv_at hl 7 rfl) ?_
                              refine lv_iload_n (pc := 307) hx hb dX9_lay_307 rfl (lv_at hl 8 rfl) ?_
                              refine lv_iload (pc := 308) hx hb dX9_lay_308 (lv_at hl 2 rfl) ?_
                              refine ziconst (pc := 310) (n := 5) hx hb dX9_lay_310 ?_
                              refine zkIp (pc := 311) (zrV (As := [.int (iI pl), .int (iI x199), .int (iI 5)]) hx hb hml hown hG hw (c_X9_ofTurn l Γ K179 X297 R181 md pl x199 5 a8 (by (first | assumption | omega)) (by (first | assumption | omega)) (by (first | assumption | omega)) (by (first | assumption | omega))) (T := TX9) hk179 rfl cb_X9_ofTurn wl_X9_170 rfl ⟨Nat.le_of_ble_eq_true rfl, Nat.le_of_ble_eq_true rfl⟩ hl.1 rfl (Nat.le_of_ble_eq_true rfl) dX9_lay_311 ⟨(by show 0 + 1 + 2 + 1 + 1 + 0 ≤ (min 5 (dlC X Rf md pl.toNat)); omega), (by show 0 + mo9.toNat + 1400 + mn.toNat + mn.toNat + 0 ≤ (dlC X Rf md pl.toNat); omega)⟩) hw (fun r311 H locs hp311 hw => ?_)
                              subst hp311
                              have hcl5 : X297 a8 ((6 * pl + x199) * 6 + 5).toNat = turM M pl.toNat (lk % 8).toNat 5 := by rw [eX297, up2_o (zfa (zk1 hA8) f1), e99]; exact hw5
                              refine zast (pc := 314) hx hb hw hk179_12 ⟨by omega, by omega⟩ (by omega) dX9_lay_314 (fun H locs hw => ?_)
                              obtain ⟨X314, eX314⟩ : ∃ Y : zX, Y = up2 X297 q179 kk.toNat (X297 a8 ((6 * pl + x199) * 6 + 5).toNat) := ⟨_, rfl⟩
                              rw [← eX314] at hw
                              refine ziinc (pc := 315) (lv' := [(5, .int (iI (kk + 1))), (8, .int (iI x261)), (7, .int (iI x209)), (6, .int (iI x199)), (4, .int (iI mn)), (3, .ref q52), (2, .int (iI mo9)), (0, .ref md), (1, .int (iI pl))]) hx hb 3 dX9_lay_315 hl rfl (by decide) rfl (fun ls hl => ?_)
                              obtain ⟨x315, ex315⟩ : ∃ zz : Int, zz = (kk + 1) := ⟨_, rfl⟩
                              rw [← ex315] at hl
                              refine lv_goto (pc := 318) (tgt := 185) hx hb dX9_lay_318 (by decide) ?_
                              exact ih185 x315 X314 _ _ (by (first | assumption | omega)) (by exact fun b g1 g2 => by rw [eX314, up2_o g2, eX297, up2_o g1]; exact hoL b g1 g2) (by intro i g; rw [eX314, up2_o hq79, eX297, up2_row]; by_cases w : i = kk.toNat; (rw [w, updF_s, e1m]; omega); (rw [updF_o w]; exact hmo i (by omega))) (by intro i g; rw [eX314, up2_row]; by_cases w : i = kk.toNat; (rw [w, updF_s, e2m]; first | exact hcl5 | omega); (rw [updF_o w, eX297, up2_o (Ne.symm hq79)]; exact hsv i (by omega))) (by omega) hw _ (lv_sub hl [0, 4, 5, 6, 7, 8] rfl)
                          · skip
                            refine lv_aload_n (pc := 245) hx hb dX9_lay_245 rfl (lv_at hl 6 rfl) ?_
                            refine zgetR (pc := 246) hx hb hG hown hw hk179 (T := TX9) rfl 11 (by decide) rfl wf_X9_36 rfl hr181_8 dX9_lay_246 ?_
                            refine lv_iload_n (pc := 249) hx hb dX9_lay_249 rfl (lv_at hl 7 rfl) ?_
                            refine zaaldR5 (pc := 250) hx hb hw hk179_9 ⟨by omega, by omega⟩ (by omega) hr181_10 dX9_lay_250 ?_
                            refine lv_iload (pc := 251) hx hb dX9_lay_251 (lv_at hl 2 rfl) ?_
                            refine ziconst (pc := 253) (n := 1) hx hb dX9_lay_253 ?_
                            refine zsub (pc := 254) hx hb dX9_lay_254 ?_
                            refine zald (pc := 255) hx hb hw hk179_12 ⟨by omega, by omega⟩ (by omega) dX9_lay_255 ?_
                            refine lv_goto (pc := 256) (tgt := 260) hx hb dX9_lay_256 (by decide) ?_
                            refine zsub (pc := 260) hx hb dX9_lay_260 ?_
                            refine ztop (fun x261 ex261 => ?_)
                            refine lv_istore (pc := 261) (lv' := [(8, .int (iI x261)), (7, .int (iI x209)), (6, .int (iI x199)), (5, .int (iI kk)), (4, .int (iI mn)), (3, .ref q52), (2, .int (iI mo9)), (0, .ref md), (1, .int (iI pl))]) hx hb dX9_lay_261 hl (by decide) rfl (fun ls hl => ?_)
                            have hmm : x261 = tMom (turM M pl.toNat (lk % 8).toNat) (lk / 8) (M 6 pl.toNat) st9.2 := by unfold tMom; rw [← e09]; (repeat' split) <;> omega
                            have hmr : -2000 ≤ x261 ∧ x261 ≤ 105200000 := by omega
                            rw [← hmm] at e1m
                            refine lv_aload_n (pc := 263) hx hb dX9_lay_263 rfl (lv_at hl 7 rfl) ?_
                            refine zgetR (pc := 264) hx hb hG hown hw hk179 (T := TX9) rfl 10 (by decide) rfl wf_X9_32 rfl hr181_7 dX9_lay_264 ?_
                            refine lv_iload_n (pc := 267) hx hb dX9_lay_267 rfl (lv_at hl 8 rfl) ?_
                            refine zaaldR5 (pc := 268) hx hb hw hk179_8 ⟨by omega, by omega⟩ (by omega) hr181_9 dX9_lay_268 ?_
                            refine lv_iload (pc := 269) hx hb dX9_lay_269 (lv_at hl 3 rfl) ?_
                            refine lv_iload (pc := 271) hx hb dX9_lay_271 (lv_at hl 3 rfl) ?_
                            refine zif_le (pc := 273) hx hb 295 (by omega) dX9_lay_273 (by decide) (fun c273 => ?_) (fun c273 => ?_)
                            · skip
                              refine lv_iload (pc := 295) hx hb dX9_lay_295 (lv_at hl 0 rfl) ?_
                              refine zast (pc := 297) hx hb hw hk179_11 ⟨by omega, by omega⟩ (by omega) dX9_lay_297 (fun H locs hw => ?_)
                              obtain ⟨X297, eX297⟩ : ∃ Y : zX, Y = up2 XL185 q169 kk.toNat x261 := ⟨_, rfl⟩
                              rw [← eX297] at hw
                              refine lv_aload_n (pc := 298) hx hb dX9_lay_298 rfl (lv_at hl 7 rfl) ?_
                              refine zgetR (pc := 299) hx hb hG hown hw hk179 (T := TX9) rfl 11 (by decide) rfl wf_X9_36 rfl hr181_8 dX9_lay_299 ?_
                              refine lv_iload_n (pc := 302) hx hb dX9_lay_302 rfl (lv_at hl 8 rfl) ?_
                              refine zaaldR5 (pc := 303) hx hb hw hk179_9 ⟨by omega, by omega⟩ (by omega) hr181_10 dX9_lay_303 ?_
                              refine lv_iload (pc := 304) hx hb dX9_lay_304 (lv_at hl 3 rfl) ?_
                              refine lv_aload_n (pc := 306) hx hb dX9_lay_306 rfl (lv_at hl 7 rfl) ?_
                              refine lv_iload_n (pc := 307) hx hb dX9_lay_307 rfl (lv_at hl 8 rfl) ?_
                              refine lv_iload (pc := 308) hx hb dX9_lay_308 (lv_at hl 2 rfl) ?_
                              refine ziconst (pc := 310) (n := 5) hx hb dX9_lay_310 ?_
                              refine zkIp (pc := 311) (zrV (As := [.int (iI pl), .int (iI x199), .int (iI 5)]) hx hb hml hown hG hw (c_X9_ofTurn l Γ K179 X297 R181 md pl x199 5 a8 (by (first | assumption | omega)) (by (first | assumption | omega)) (by (first | assumption | omega)) (by (first | assumption | omega))) (T := TX9) hk179 rfl cb_X9_ofTurn wl_X9_170 rfl ⟨Nat.le_of_ble_eq_true rfl, Nat.le_of_ble_eq_true rfl⟩ hl.1 rfl (Nat.le_of_ble_eq_true rfl) dX9_lay_311 ⟨(by show 0 + 1 + 2 + 1 + 1 + 0 ≤ (min 5 (dlC X Rf md pl.toNat)); omega), (by show 0 + mo9.toNat + 1400 + mn.toNat + mn.toNat + 0 ≤ (dlC X Rf md pl.toNat); omega)⟩) hw (fun r311 H locs hp311 hw => ?_)
                              subst hp311
                              have hcl5 : X297 a8 ((6 * pl + x199) * 6 + 5).toNat = turM M pl.toNat (lk % 8).toNat 5 := by rw [eX297, up2_o (zfa (zk1 hA8) f1), e99]; exact hw5
                              refine zast (pc := 314) hx hb hw hk179_12 ⟨by omega, by omega⟩ (by omega) dX9_lay_314 (fun H locs hw => ?_)
                              obtain ⟨X314, eX314⟩ : ∃ Y : zX, Y = up2 X297 q179 kk.toNat (X297 a8 ((6 * pl + x199) * 6 + 5).toNat) := ⟨_, rfl⟩
                              rw [← eX314] at hw
                              refine ziinc (pc := 315) (lv' := [(5, .int (iI (kk + 1))), (8, .int (iI x261)), (7, .int (iI x209)), (6, .int (iI x199)), (4, .int (iI mn)), (3, .ref q52), (2, .int (iI mo9)), (0, .ref md), (1, .int (iI pl))]) hx hb 3 dX9_lay_315 hl rfl (by decide) rfl (fun ls hl => ?_)
                              obtain ⟨x315, ex315⟩ : ∃ zz : Int, zz = (kk + 1) := ⟨_, rfl⟩
                              rw [← ex315] at hl
                              refine lv_goto (pc := 318) (tgt := 185) hx hb dX9_lay_318 (by decide) ?_
                              exact ih185 x315 X314 _ _ (by (first | assumption | omega)) (by exact fun b g1 g2 => by rw [eX314, up2_o g2, eX297, up2_o g1]; exact hoL b g1 g2) (by intro i g; rw [eX314, up2_o hq79, eX297, up2_row]; by_cases w : i = kk.toNat; (rw [w, updF_s, e1m]; omega); (rw [updF_o w]; exact hmo i (by omega))) (by intro i g; rw [eX314, up2_row]; by_cases w : i = kk.toNat; (rw [w, updF_s, e2m]; first | exact hcl5 | omega); (rw [updF_o w, eX297, up2_o (Ne.symm hq79)]; exact hsv i (by omega))) (by omega) hw _ (lv_sub hl [0, 4, 5, 6, 7, 8] rfl)
                            · skip
                              refine lv_iload (pc := 276) hx hb dX9_lay_276 (lv_at hl 0 rfl) ?_
                              refine lv_aload_n (pc := 278) hx hb dX9_lay_278 rfl (lv_at hl 7 rfl) ?_
                              refine zgetR (pc := 279) hx hb hG hown hw hk179 (T := TX9) rfl 10 (by decide) rfl wf_X9_32 rfl hr181_7 dX9_lay_279 ?_
                              refine lv_iload_n (pc := 282) hx hb dX9_lay_282 rfl (lv_at hl 8 rfl) ?_
                              refine zaaldR5 (pc := 283) hx hb hw hk179_8 ⟨by omega, by omega⟩ (by omega) hr181_9 dX9_lay_283 ?_
                              refine lv_iload (pc := 284) hx hb dX9_lay_284 (lv_at hl 3 rfl) ?_
                              refine ziconst (pc := 286) (n := 1) hx hb dX9_lay_286 ?_
                              refine zsub (pc := 287) hx hb dX9_lay_287 ?_
                              refine zald (pc := 288) hx hb hw hk179_11 ⟨by omega, by omega⟩ (by omega) dX9_lay_288 ?_
                              refine zmax (pc := 289) hx hb (hml.trans hl.1.symm) hown hG wl_X9_182 w1_zmx wi_javalangMath w2_zmx (Nat.le_of_ble_eq_true rfl) (Nat.le_of_ble_eq_true rfl) (by show 0 + 1 + 2 + 1 + 1 ≤ (min 5 (dlC X Rf md pl.toNat)); omega) (by show 0 + mo9.toNat + 1400 + mn.toNat + mn.toNat ≤ (dlC X Rf md pl.toNat); omega) ⟨by omega, by omega⟩ dX9_lay_289 ?_
                              refine lv_goto (pc := 292) (tgt := 297) hx hb dX9_lay_292 (by decide) ?_
                              refine zast (pc := 297) hx hb hw hk179_11 ⟨by omega, by omega⟩ (by omega) dX9_lay_297 (fun H locs hw => ?_)
                              obtain ⟨X297, eX297⟩ : ∃ Y : zX, Y = up2 XL185 q169 kk.toNat (max x261 (XL185 q169 (kk - 1).toNat)) := ⟨_, rfl⟩
                              rw [← eX297] at hw
                              refine lv_aload_n (pc := 298) hx hb dX9_lay_298 rfl (lv_at hl 7 rfl) ?_
                              refine zgetR (pc := 299) hx hb hG hown hw hk179 (T := TX9) rfl 11 (by decide) rfl wf_X9_36 rfl hr181_8 dX9_lay_299 ?_
                              refine lv_iload_n (pc := 302) hx hb dX9_lay_302 rfl (lv_at hl 8 rfl) ?_
                              refine zaaldR5 (pc := 303) hx hb hw hk179_9 ⟨by omega, by omega⟩ (by omega) hr181_10 dX9_lay_303 ?_
                              refine lv_iload (pc := 304) hx hb dX9_lay_304 (lv_at hl 3 rfl) ?_
                              refine lv_aload_n (pc := 306) hx hb dX9_lay_306 rfl (lv_at hl 7 rfl) ?_
                              refine lv_iload_n (pc := 307) hx hb dX9_lay_307 rfl (lv_at hl 8 rfl) ?_
                              refine lv_iload (pc := 308) hx hb dX9_lay_308 (lv_at hl 2 rfl) ?_
                              refine ziconst (pc := 310) (n := 5) hx hb dX9_lay_310 ?_
                              refine zkIp (pc := 311) (zrV (As := [.int (iI pl), .int (iI x199), .int (iI 5)]) hx hb hml hown hG hw (c_X9_ofTurn l Γ K179 X297 R181 md pl x199 5 a8 (by (first | assumption | omega)) (by (first | assumption | omega)) (by (first | assumption | omega)) (by (first | assumption | omega))) (T := TX9) hk179 rfl cb_X9_ofTurn wl_X9_170 rfl ⟨Nat.le_of_ble_eq_true rfl, Nat.le_of_ble_eq_true rfl⟩ hl.1 rfl (Nat.le_of_ble_eq_true rfl) dX9_lay_311 ⟨(by show 0 + 1 + 2 + 1 + 1 + 0 ≤ (min 5 (dlC X Rf md pl.toNat)); omega), (by show 0 + mo9.toNat + 1400 + mn.toNat + mn.toNat + 0 ≤ (dlC X Rf md pl.toNat); omega)⟩) hw (fun r311 H locs hp311 hw => ?_)
                              subst hp311
                              have hcl5 : X297 a8 ((6 * pl + x199) * 6 + 5).toNat = turM M pl.toNat (lk % 8).toNat 5 := by rw [eX297, up2_o (zfa (zk1 hA8) f1), e99]; exact hw5
                              refine zast (pc := 314) hx hb hw hk179_12 ⟨by omega, by omega⟩ (by omega) dX9_lay_314 (fun H locs hw => ?_)
                              obtain ⟨X314, eX314⟩ : ∃ Y : zX, Y = up2 X297 q179 kk.toNat (X297 a8 ((6 * pl + x199) * 6 + 5).toNat) := ⟨_, rfl⟩
                              rw [← eX314] at hw
                              refine ziinc (pc := 315) (lv' := [(5, .int (iI (kk + 1))), (8, .int (iI x261)), (7, .int (iI x209)), (6, .int (iI x199)), (4, .int (iI mn)), (3, .ref q52), (2, .int (iI mo9)), (0, .ref md), (1, .int (iI pl))]) hx hb 3 dX9_lay_315 hl rfl (by decide) rfl (fun ls hl => ?_)
                              obtain ⟨x315, ex315⟩ : ∃ zz : Int, zz = (kk + 1) := ⟨_, rfl⟩
                              rw [← ex315] at hl
                              refine lv_goto (pc := 318) (tgt := 185) hx hb dX9_lay_318 (by decide) ?_
                              exact ih185 x315 X314 _ _ (by (first | assumption | omega)) (by exact fun b g1 g2 => by rw [eX314, up2_o g2, eX297, up2_o g1]; exact hoL b g1 g2) (by intro i g; rw [eX314, up2_o hq79, eX297, up2_row]; by_cases w : i = kk.toNat; (rw [w, updF_s, e1m]; omega); (rw [updF_o w]; exact hmo i (by omega))) (by intro i g; rw [eX314, up2_row]; by_cases w : i = kk.toNat; (rw [w, updF_s, e2m]; first | exact hcl5 | omega); (rw [updF_o w, eX297, up2_o (Ne.symm hq79)]; exact hsv i (by omega))) (by omega) hw _ (lv_sub hl [0, 4, 5, 6, 7, 8] rfl)
                exact lp185 _ 0 X179 _ _ (by (first | assumption | omega)) (by exact fun _ _ _ => rfl) (by intro i g; omega) (by intro i g; omega) (Nat.lt_succ_self _) hw _ (lv_sub hl [0, 1, 2, 3, 4, 5] rfl)
              · skip
                have hTt := hT tt.toNat (by omega)
                have hw0 : XL61 a8 ((6 * pl + tt) * 6 + 0).toNat = turM M pl.toNat tt.toNat 0 := by rw [h8O]; have h9 := hTv tt.toNat 0 (by omega) (by decide); rw [show ((tt.toNat : Nat) : Int) = tt by omega] at h9; exact h9
                refine lv_aload_n (pc := 72) hx hb dX9_lay_72 rfl (lv_at hl 4 rfl) ?_
                refine lv_iload_n (pc := 73) hx hb dX9_lay_73 rfl (lv_at hl 5 rfl) ?_
                refine lv_iload (pc := 74) hx hb dX9_lay_74 (lv_at hl 0 rfl) ?_
                refine ziconst (pc := 76) (n := 0) hx hb dX9_lay_76 ?_
                refine zkIp (pc := 77) (zrV (As := [.int (iI pl), .int (iI tt), .int (iI 0)]) hx hb hml hown hG hw (c_X9_ofTurn l Γ K52 XL61 R52 md pl tt 0 a8 (by (first | assumption | omega)) (by (first | assumption | omega)) (by (first | assumption | omega)) (by (first | assumption | omega))) (T := TX9) hk52 rfl cb_X9_ofTurn wl_X9_170 rfl ⟨Nat.le_of_ble_eq_true rfl, Nat.le_of_ble_eq_true rfl⟩ hl.1 rfl (Nat.le_of_ble_eq_true rfl) dX9_lay_77 ⟨(by show 0 + 1 + 0 ≤ (min 5 (dlC X Rf md pl.toNat)); omega), (by show 0 + mo9.toNat + 0 ≤ (dlC X Rf md pl.toNat); omega)⟩) hw (fun r77 H locs hp77 hw => ?_)
                subst hp77
                refine ztop (fun x80 ex80 => ?_)
                refine lv_istore (pc := 80) (lv' := [(6, .int (iI x80)), (5, .int (iI tt)), (4, .int (iI mn)), (3, .ref q52), (2, .int (iI mo9)), (0, .ref md), (1, .int (iI pl))]) hx hb dX9_lay_80 hl (by decide) rfl (fun ls hl => ?_)
                have lp82 : ∀ (n82 : Nat) (yy : Int) (mn2 : Int) (XL82 : zX) (H : Heap) (locs : List Loc), (hy9 : (turM M pl.toNat) tt.toNat 0 ≤ yy ∧ yy ≤ (turM M pl.toNat) tt.toNat 1 + 1) → (hmn2 : mn2 ≤ smY (turM M pl.toNat) tt.toNat + (yy - (turM M pl.toNat) tt.toNat 0)) → (ho : ∀ b, b ≠ q52 → XL82 b = X b) → (hks : KS (turM M pl.toNat) (tupM M pl.toNat) (dI tt.toNat yy) mn2 (XL82 q52)) → (((turM M pl.toNat) tt.toNat 1 + 1 - yy).toNat < n82) → Wd Γ (zA K s.heap.size) K52 XL82 R52 s H locs → ∀ ls : Array Slot, lv_has ls 9 [(6, .int (iI yy)), (5, .int (iI tt)), (4, .int (iI mn2)), (3, .ref q52), (2, .int (iI mo9)), (0, .ref md), (1, .int (iI pl))] → W p l e (rmL 85 (min 5 (dlC X Rf md pl.toNat)) (dlC X Rf md pl.toNat)) s m ([.ref md, .int (iI pl)] : List Value).toArray below meth c H locs (0 + 1) (0 + mo9.toNat) (MQ below (zQ Γ K s.heap.size (pV (fun (K' : zK) (X' : zX) (R' : zR) => ∃ ρ', (repR ρ' K' X' R' md M ∧ frR ρ K X Rf ρ' K' X' R' ∧ (∀ q, q = 0 ∨ q = 36 → X' md q = X md q)) ∧ (lsR X Rf X' R' md ∧ dlC X' R' md pl.toNat = 0) ∧ ∀ a, (K a).1 ≠ 0 → 3000 ≤ ρ a → X' a = X a))) ([.ref md, .int (iI pl)] : List Value).toArray s (min 5 (dlC X Rf md pl.toNat)) (dlC X Rf md pl.toNat) (zA K s.heap.size)) (F0 m 82 ls []) := by
                  intro n82
                  induction n82 with
                  | zero => intro yy mn2 XL82 H locs hy9 hmn2 ho hks hm82; exact absurd hm82 (Nat.not_lt_zero _)
                  | succ n82 ih82 =>
                    intro yy mn2 XL82 H locs hy9 hmn2 ho hks hm82 hw ls hl
                    have hc0 := hks.1
                    have hTt := hT tt.toNat (by omega)
                    have hsm2 : smY (turM M pl.toNat) (tt.toNat + 1) ≤ smY (turM M pl.toNat) (M 7 pl.toNat).toNat := by have h9 := smY_mono hT (t := tt.toNat + 1) ((M 7 pl.toNat).toNat - (tt.toNat + 1)) (by omega); rw [show tt.toNat + 1 + ((M 7 pl.toNat).toNat - (tt.toNat + 1)) = (M 7 pl.toNat).toNat by omega] at h9; exact h9
                    have hse : smY (turM M pl.toNat) (tt.toNat + 1) = smY (turM M pl.toNat) tt.toNat + (turM M pl.toNat tt.toNat 1 - turM M pl.toNat tt.toNat 0 + 1) := rfl
                    have h8L : XL82 a8 = X a8 := ho a8 (zne hA8 hfq52)
                    have hRL : repR ρ K52 XL82 R52 md M := hR.keep (fun b hb _ => ⟨by rw [eK52, zup_n (zfa hb hfq52)], rfl, ho b (zfa hb hfq52), by rw [eR52, zupR_n (zfa hb hfq52)]⟩)
                    refine lv_iload (pc := 82) hx hb dX9_lay_82 (lv_at hl 0 rfl) ?_
                    have hw1 : XL82 a8 ((6 * pl + tt) * 6 + 1).toNat = turM M pl.toNat tt.toNat 1 := by rw [h8L]; have h9 := hTv tt.toNat 1 (by omega) (by decide); rw [show ((tt.toNat : Nat) : Int) = tt by omega] at h9; exact h9
                    have hw3 : XL82 a8 ((6 * pl + tt) * 6 + 3).toNat = turM M pl.toNat tt.toNat 3 := by rw [h8L]; have h9 := hTv tt.toNat 3 (by omega) (by decide); rw [show ((tt.toNat : Nat) : Int) = tt by omega] at h9; exact h9
                    refine lv_aload_n (pc := 84) hx hb dX9_lay_84 rfl (lv_at hl 5 rfl) ?_
                    refine lv_iload_n (pc := 85) hx hb dX9_lay_85 rfl (lv_at hl 6 rfl) ?_
                    refine lv_iload (pc := 86) hx hb dX9_lay_86 (lv_at hl 1 rfl) ?_
                    refine ziconst (pc := 88) (n := 1) hx hb dX9_lay_88 ?_
                    refine zkIp (pc := 89) (zrV (As := [.int (iI pl), .int (iI tt), .int (iI 1)]) hx hb hml hown hG hw (c_X9_ofTurn l Γ K52 XL82 R52 md pl tt 1 a8 (by (first | assumption | omega)) (by (first | assumption | omega)) (by (first | assumption | omega)) (by (first | assumption | omega))) (T := TX9) hk52 rfl cb_X9_ofTurn wl_X9_170 rfl ⟨Nat.le_of_ble_eq_true rfl, Nat.le_of_ble_eq_true rfl⟩ hl.1 rfl (Nat.le_of_ble_eq_true rfl) dX9_lay_89 ⟨(by show 0 + 1 + 0 ≤ (min 5 (dlC X Rf md pl.toNat)); omega), (by show 0 + mo9.toNat + 0 ≤ (dlC X Rf md pl.toNat); omega)⟩) hw (fun r89 H locs hp89 hw => ?_)
                    subst hp89
                    refine zicmp_gt (pc := 92) hx hb 149 (by omega) (by omega) dX9_lay_92 (by decide) (fun c92 => ?_) (fun c92 => ?_)
                    · skip
                      refine ziinc (pc := 149) (lv' := [(5, .int (iI (tt + 1))), (6, .int (iI yy)), (4, .int (iI mn2)), (3, .ref q52), (2, .int (iI mo9)), (0, .ref md), (1, .int (iI pl))]) hx hb 1 dX9_lay_149 hl rfl (by decide) rfl (fun ls hl => ?_)
                      obtain ⟨x149, ex149⟩ : ∃ zz : Int, zz = (tt + 1) := ⟨_, rfl⟩
                      rw [← ex149] at hl
                      refine lv_goto (pc := 152) (tgt := 61) hx hb dX9_lay_152 (by decide) ?_
                      exact ih61 x149 mn2 XL82 _ _ (by (first | assumption | omega)) (by rw [ex149, show (tt + 1).toNat = tt.toNat + 1 by omega]; show mn2 ≤ smY _ tt.toNat + (_ - _ + 1); omega) (by exact ho) (by rw [ex149, show (tt + 1).toNat = tt.toNat + 1 by omega]; exact hks.next (by omega)) (by omega) hw _ (lv_sub hl [0, 2, 3, 4, 5, 6] rfl)
                    · skip
                      refine lv_aload_n (pc := 95) hx hb dX9_lay_95 rfl (lv_at hl 5 rfl) ?_
                      refine lv_iload_n (pc := 96) hx hb dX9_lay_96 rfl (lv_at hl 6 rfl) ?_
                      refine lv_iload (pc := 97) hx hb dX9_lay_97 (lv_at hl 1 rfl) ?_
                      refine lv_iload (pc := 99) hx hb dX9_lay_99 (lv_at hl 0 rfl) ?_
                      refine zkIp (pc := 101) (zrV (As := [.int (iI pl), .int (iI tt), .int (iI yy)]) hx hb hml hown hG hw (c_X9_dayOfTurn l Γ K52 XL82 R52 md pl tt yy (ρ) M (by (first | assumption | omega)) (by (first | assumption | omega)) (by omega) (by (first | assumption | omega))) (T := TX9) hk52 rfl cb_X9_dayOfTurn wl_X9_173 rfl ⟨Nat.le_of_ble_eq_true rfl, Nat.le_of_ble_eq_true rfl⟩ hl.1 rfl (Nat.le_of_ble_eq_true rfl) dX9_lay_101 ⟨(by show 0 + 1 + 0 ≤ (min 5 (dlC X Rf md pl.toNat)); omega), (by show 0 + mo9.toNat + 0 ≤ (dlC X Rf md pl.toNat); omega)⟩) hw (fun r101 H locs hp101 hw => ?_)
                      subst hp101
                      have hp101f0 := nxT_rng (tupM M pl.toNat tt.toNat) 0 12 (12 * (yy - 1900))
                      refine ztop (fun x104 ex104 => ?_)
                      refine lv_istore (pc := 104) (lv' := [(7, .int (iI x104)), (6, .int (iI yy)), (5, .int (iI tt)), (4, .int (iI mn2)), (3, .ref q52), (2, .int (iI mo9)), (0, .ref md), (1, .int (iI pl))]) hx hb dX9_lay_104 hl (by decide) rfl (fun ls hl => ?_)
                      refine lv_iload (pc := 106) hx hb dX9_lay_106 (lv_at hl 0 rfl) ?_
                      refine ziconst (pc := 108) (n := (-1)) hx hb dX9_lay_108 ?_
                      refine zicmp_ne (pc := 109) hx hb 115 (by omega) (by omega) dX9_lay_109 (by decide) (fun c109 => ?_) (fun c109 => ?_)
                      · skip
                        have hed : ttE (turM M pl.toNat) (tupM M pl.toNat) tt.toNat yy = if x104 < 0 then -1 else 1440 * x104 + turM M pl.toNat tt.toNat 3 := ttE_day ⟨by omega, by omega⟩ ex104
                        have hxr := nxT_rng (tupM M pl.toNat tt.toNat) 0 12 (12 * (yy - 1900))
                        rw [← ex104] at hxr
                        rw [if_neg (by omega)] at hed
                        refine lv_aload_n (pc := 115) hx hb dX9_lay_115 rfl (lv_at hl 4 rfl) ?_
                        refine lv_iload (pc := 116) hx hb dX9_lay_116 (lv_at hl 3 rfl) ?_
                        refine zsipush (pc := 118) (n := 1440) hx hb dX9_lay_118 rfl ?_
                        refine lv_iload (pc := 121) hx hb dX9_lay_121 (lv_at hl 0 rfl) ?_
                        refine zmul (pc := 123) hx hb dX9_lay_123 ?_
                        refine lv_aload_n (pc := 124) hx hb dX9_lay_124 rfl (lv_at hl 6 rfl) ?_
                        refine lv_iload_n (pc := 125) hx hb dX9_lay_125 rfl (lv_at hl 7 rfl) ?_
                        refine lv_iload (pc := 126) hx hb dX9_lay_126 (lv_at hl 2 rfl) ?_
                        refine ziconst (pc := 128) (n := 3) hx hb dX9_lay_128 ?_
                        refine zkIp (pc := 129) (zrV (As := [.int (iI pl), .int (iI tt), .int (iI 3)]) hx hb hml hown hG hw (c_X9_ofTurn l Γ K52 XL82 R52 md pl tt 3 a8 (by (first | assumption | omega)) (by (first | assumption | omega)) (by (first | assumption | omega)) (by (first | assumption | omega))) (T := TX9) hk52 rfl cb_X9_ofTurn wl_X9_170 rfl ⟨Nat.le_of_ble_eq_true rfl, Nat.le_of_ble_eq_true rfl⟩ hl.1 rfl (Nat.le_of_ble_eq_true rfl) dX9_lay_129 ⟨(by show 0 + 1 + 0 ≤ (min 5 (dlC X Rf md pl.toNat)); omega), (by show 0 + mo9.toNat + 0 ≤ (dlC X Rf md pl.toNat); omega)⟩) hw (fun r129 H locs hp129 hw => ?_)
                        subst hp129
                        refine zadd (pc := 132) hx hb dX9_lay_132 ?_
                        refine zbipush (pc := 133) (n := 8) hx hb dX9_lay_133 rfl ?_
                        refine zmul (pc := 135) hx hb dX9_lay_135 ?_
                        refine lv_iload (pc := 136) hx hb dX9_lay_136 (lv_at hl 2 rfl) ?_
                        refine zadd (pc := 138) hx hb dX9_lay_138 ?_
                        refine zast (pc := 139) hx hb hw hk52_10 ⟨by omega, by omega⟩ (by omega) dX9_lay_139 (fun H locs hw => ?_)
                        obtain ⟨X139, eX139⟩ : ∃ Y : zX, Y = up2 XL82 q52 mn2.toNat ((((1440 * x104) + (XL82 a8 ((6 * pl + tt) * 6 + 3).toNat)) * 8) + tt) := ⟨_, rfl⟩
                        rw [← eX139] at hw
                        have hksP : KS (turM M pl.toNat) (tupM M pl.toNat) (dI tt.toNat (yy + 1)) (mn2 + 1) (X139 q52) := hks.put (fun k hk => hT k (by omega)) (by omega) (by omega) (by rw [eX139, up2_row]; congr 1; omega)
                        refine ziinc (pc := 140) (lv' := [(4, .int (iI (mn2 + 1))), (7, .int (iI x104)), (6, .int (iI yy)), (5, .int (iI tt)), (3, .ref q52), (2, .int (iI mo9)), (0, .ref md), (1, .int (iI pl))]) hx hb 3 dX9_lay_140 hl rfl (by decide) rfl (fun ls hl => ?_)
                        obtain ⟨x140, ex140⟩ : ∃ zz : Int, zz = (mn2 + 1) := ⟨_, rfl⟩
                        rw [← ex140] at hl
                        refine ziinc (pc := 143) (lv' := [(6, .int (iI (yy + 1))), (4, .int (iI x140)), (7, .int (iI x104)), (5, .int (iI tt)), (3, .ref q52), (2, .int (iI mo9)), (0, .ref md), (1, .int (iI pl))]) hx hb 2 dX9_lay_143 hl rfl (by decide) rfl (fun ls hl => ?_)
                        obtain ⟨x143, ex143⟩ : ∃ zz : Int, zz = (yy + 1) := ⟨_, rfl⟩
                        rw [← ex143] at hl
                        refine lv_goto (pc := 146) (tgt := 82) hx hb dX9_lay_146 (by decide) ?_
                        exact ih82 x143 x140 X139 _ _ (by omega) (by omega) (by first | exact ho | exact fun b hb => by rw [eX139, up2_o hb]; exact ho b hb) (by rw [show x143 = yy + 1 by omega]; first | exact hks.skip hneg | (rw [show x140 = mn2 + 1 by omega]; exact hksP)) (by omega) hw _ (lv_sub hl [0, 3, 1, 4, 5, 6, 7] rfl)
                      · skip
                        have hed : ttE (turM M pl.toNat) (tupM M pl.toNat) tt.toNat yy = if x104 < 0 then -1 else 1440 * x104 + turM M pl.toNat tt.toNat 3 := ttE_day ⟨by omega, by omega⟩ ex104
                        rw [if_pos (by omega)] at hed
                        have hneg : ttE (turM M pl.toNat) (tupM M pl.toNat) tt.toNat yy < 0 := by omega
                        refine lv_goto (pc := 112) (tgt := 143) hx hb dX9_lay_112 (by decide) ?_
                        refine ziinc (pc := 143) (lv' := [(6, .int (iI (yy + 1))), (7, .int (iI x104)), (5, .int (iI tt)), (4, .int (iI mn2)), (3, .ref q52), (2, .int (iI mo9)), (0, .ref md), (1, .int (iI pl))]) hx hb 1 dX9_lay_143 hl rfl (by decide) rfl (fun ls hl => ?_)
                        obtain ⟨x143, ex143⟩ : ∃ zz : Int, zz = (yy + 1) := ⟨_, rfl⟩
                        rw [← ex143] at hl
                        refine lv_goto (pc := 146) (tgt := 82) hx hb dX9_lay_146 (by decide) ?_
                        exact ih82 x143 mn2 XL82 _ _ (by omega) (by omega) (by first | exact ho | exact fun b hb => by rw [eX139, up2_o hb]; exact ho b hb) (by rw [show x143 = yy + 1 by omega]; first | exact hks.skip hneg | (rw [show x140 = mn2 + 1 by omega]; exact hksP)) (by omega) hw _ (lv_sub hl [0, 2, 3, 4, 5, 6, 7] rfl)
                exact lp82 _ x80 mn XL61 _ _ (by omega) (by omega) (by exact ho) (by rw [show x80 = turM M pl.toNat tt.toNat 0 by omega]; exact hks.start) (Nat.lt_succ_self _) hw _ (lv_sub hl [0, 1, 2, 3, 4, 5, 6] rfl)
          exact lp61 _ 0 0 X52 _ _ (by (first | assumption | omega)) (by exact Int.le_refl _) (by intro b hb; rw [eX52, zupX_n hb]) (by exact .zero) (Nat.lt_succ_self _) hw _ (lv_sub hl [0, 1, 2, 3, 4, 5] rfl)
        · skip
          have hw1 : X a8 ((6 * pl + tt) * 6 + 1).toNat = turM M pl.toNat tt.toNat 1 := by have h9 := hTv tt.toNat 1 (by omega) (by decide); rw [show ((tt.toNat : Nat) : Int) = tt by omega] at h9; exact h9
          have hw0 : X a8 ((6 * pl + tt) * 6 + 0).toNat = turM M pl.toNat tt.toNat 0 := by have h9 := hTv tt.toNat 0 (by omega) (by decide); rw [show ((tt.toNat : Nat) : Int) = tt by omega] at h9; exact h9
          have hTt := hT tt.toNat (by omega)
          refine lv_iload_n (pc := 25) hx hb dX9_lay_25 rfl (lv_at hl 1 rfl) ?_
          refine lv_aload_n (pc := 26) hx hb dX9_lay_26 rfl (lv_at hl 2 rfl) ?_
          refine lv_iload_n (pc := 27) hx hb dX9_lay_27 rfl (lv_at hl 3 rfl) ?_
          refine lv_iload_n (pc := 28) hx hb dX9_lay_28 rfl (lv_at hl 0 rfl) ?_
          refine ziconst (pc := 29) (n := 1) hx hb dX9_lay_29 ?_
          refine zkIp (pc := 30) (zrV (As := [.int (iI pl), .int (iI tt), .int (iI 1)]) hx hb hml hown hG hw (c_X9_ofTurn l Γ K X Rf md pl tt 1 a8 (by (first | assumption | omega)) (by (first | assumption | omega)) (by (first | assumption | omega)) (by (first | assumption | omega))) (T := TX9) hmd rfl cb_X9_ofTurn wl_X9_170 rfl ⟨Nat.le_of_ble_eq_true rfl, Nat.le_of_ble_eq_true rfl⟩ hl.1 rfl (Nat.le_of_ble_eq_true rfl) dX9_lay_30 ⟨Nat.zero_le _, Nat.zero_le _⟩) hw (fun r30 H locs hp30 hw => ?_)
          subst hp30
          refine lv_aload_n (pc := 33) hx hb dX9_lay_33 rfl (lv_at hl 2 rfl) ?_
          refine lv_iload_n (pc := 34) hx hb dX9_lay_34 rfl (lv_at hl 3 rfl) ?_
          refine lv_iload_n (pc := 35) hx hb dX9_lay_35 rfl (lv_at hl 0 rfl) ?_
          refine ziconst (pc := 36) (n := 0) hx hb dX9_lay_36 ?_
          refine zkIp (pc := 37) (zrV (As := [.int (iI pl), .int (iI tt), .int (iI 0)]) hx hb hml hown hG hw (c_X9_ofTurn l Γ K X Rf md pl tt 0 a8 (by (first | assumption | omega)) (by (first | assumption | omega)) (by (first | assumption | omega)) (by (first | assumption | omega))) (T := TX9) hmd rfl cb_X9_ofTurn wl_X9_170 rfl ⟨Nat.le_of_ble_eq_true rfl, Nat.le_of_ble_eq_true rfl⟩ hl.1 rfl (Nat.le_of_ble_eq_true rfl) dX9_lay_37 ⟨Nat.zero_le _, Nat.zero_le _⟩) hw (fun r37 H locs hp37 hw => ?_)
          subst hp37
          refine zsub (pc := 40) hx hb dX9_lay_40 ?_
          refine ziconst (pc := 41) (n := 1) hx hb dX9_lay_41 ?_
          refine zadd (pc := 42) hx hb dX9_lay_42 ?_
          refine zadd (pc := 43) hx hb dX9_lay_43 ?_
          refine ztop (fun x44 ex44 => ?_)
          refine lv_istore_n (pc := 44) (lv' := [(2, .int (iI x44)), (3, .int (iI tt)), (0, .ref md), (1, .int (iI pl))]) hx hb dX9_lay_44 rfl hl (by decide) rfl (fun ls hl => ?_)
          refine ziinc (pc := 45) (lv' := [(3, .int (iI (tt + 1))), (2, .int (iI x44)), (0, .ref md), (1, .int (iI pl))]) hx hb 1 dX9_lay_45 hl rfl (by decide) rfl (fun ls hl => ?_)
          obtain ⟨x45, ex45⟩ : ∃ zz : Int, zz = (tt + 1) := ⟨_, rfl⟩
          rw [← ex45] at hl
          refine lv_goto (pc := 48) (tgt := 15) hx hb dX9_lay_48 (by decide) ?_
          exact ih15 x45 x44 _ _ (by (first | assumption | omega)) (by rw [ex45, show (tt + 1).toNat = tt.toNat + 1 by omega]; show x44 = smY _ tt.toNat + (_ - _ + 1); omega) (by omega) hw _ (lv_sub hl [0, 1, 2, 3] rfl)
    exact lp15 _ 0 0 _ _ (by (first | assumption | omega)) (by rfl) (Nat.lt_succ_self _) hw _ (lv_sub hl [0, 1, 2, 3] rfl)
  · skip
    have hdl : dlC X Rf md pl.toNat = 0 := by rw [dlC_a hB9, if_neg c7]
    exact zretV (pc := 10) hx hb hlocks hr hw (Nat.zero_le _) (Nat.zero_le _) dX9_lay_10 (by exact ⟨ρ, ⟨hR, frR_refl, fun _ _ => rfl⟩, ⟨lsR_refl, hdl⟩, fun a _ _ => rfl⟩)
