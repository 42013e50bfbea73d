set_option maxHeartbeats 4000000 in
set_option maxRecDepth 100000 in
theorem c_X9_layFeasts (l : Launch) (Γ : zG) (K : zK) (X : zX) (Rf : zR) (md : Nat) (ρ : zL) (M : zM) (hR : repR ρ K X Rf md M) (hM : okM M) : Ct l yX9_layFeasts cX9_layFeasts 6 none 5 0 0 Γ [.ref md] K X Rf (pV (zpv K Rf (fun X' : zX => (repR ρ K X' Rf md M ∧ frR ρ K X Rf ρ K X' Rf) ∧ X' md 35 = 1 ∧ (∀ q, q ≠ 35 → X' md q = X md q) ∧ fsR ρ X X'))) := by
  refine Ct.of (by decide +kernel) (Nat.le_of_ble_eq_true rfl) ?_
  intro p e s m below meth c ls hx hb hr hml hown hG hlocks hname hw hl
  have hl : lv_has ls 6 [(0, .ref md)] := hl
  obtain ⟨hmd, hlmd⟩ := id hR.1
  obtain ⟨⟨hb1, hb2, hb3, hb4⟩, hokP, hokL, hokS, hokW, hokF⟩ := id hM
  have hq1 : X md 1 = M 40 1 := hR.2.1 1 rfl
  have hq5 : X md 5 = M 40 5 := hR.2.1 5 rfl
  have hq16 : X md 16 = M 40 16 := hR.2.1 16 rfl
  have hq25 : X md 25 = M 40 25 := hR.2.1 25 rfl
  have hq26 : X md 26 = M 40 26 := hR.2.1 26 rfl
  have hq27 : X md 27 = M 40 27 := hR.2.1 27 rfl
  have hq28 : X md 28 = M 40 28 := hR.2.1 28 rfl
  have hq29 : X md 29 = M 40 29 := hR.2.1 29 rfl
  obtain ⟨a2, hB2, hA2, hL2, hD2⟩ : ∃ a, Rf md 2 = some a ∧ K a = (2, 24) ∧ ρ a = 2003 ∧ X a = M 2 := hR.fd 2 (by decide) rfl
  have hN2 : Apt a2 md := zkn2 hA2 hmd (by simp)
  obtain ⟨a3, hB3, hA3, hL3, hD3⟩ : ∃ a, Rf md 3 = some a ∧ K a = (2, 24) ∧ ρ a = 2004 ∧ X a = M 3 := hR.fd 3 (by decide) rfl
  have hN3 : Apt a3 md := zkn2 hA3 hmd (by simp)
  obtain ⟨a4, hB4, hA4, hL4, hD4⟩ : ∃ a, Rf md 4 = some a ∧ K a = (2, 24) ∧ ρ a = 2005 ∧ X a = M 4 := hR.fd 4 (by decide) rfl
  have hN4 : Apt a4 md := zkn2 hA4 hmd (by simp)
  obtain ⟨a30, hB30, hA30, hL30, hD30⟩ : ∃ a, Rf md 30 = some a ∧ K a = (2, 20) ∧ ρ a = 2031 ∧ X a = M 30 := hR.fd 30 (by decide) rfl
  have hN30 : Apt a30 md := zkn2 hA30 hmd (by simp)
  obtain ⟨a31, hB31, hA31, hL31, hD31⟩ : ∃ a, Rf md 31 = some a ∧ K a = (2, 20) ∧ ρ a = 2032 ∧ X a = M 31 := hR.fd 31 (by decide) rfl
  have hN31 : Apt a31 md := zkn2 hA31 hmd (by simp)
  obtain ⟨a32, hB32, hA32, hL32, hD32⟩ : ∃ a, Rf md 32 = some a ∧ K a = (2, 20) ∧ ρ a = 2033 ∧ X a = M 32 := hR.fd 32 (by decide) rfl
  have hN32 : Apt a32 md := zkn2 hA32 hmd (by simp)
  obtain ⟨a33, hB33, hA33, hL33, hD33⟩ : ∃ a, Rf md 33 = some a ∧ K a = (2, 20) ∧ ρ a = 2034 ∧ X a = M 33 := hR.fd 33 (by decide) rfl
  have hN33 : Apt a33 md := zkn2 hA33 hmd (by simp)
  obtain ⟨a34, hB34, hA34, hL34⟩ : ∃ a, Rf md 34 = some a ∧ K a = (3, 73049) ∧ ρ a = 2035 := hR.ff 34 (by decide)
  have hN34 : Apt a34 md := zkn2 hA34 hmd (by simp)
  have hlaid := hR.laid hB34
  refine lv_aload_n (pc := 0) hx hb dX9_layFeasts_0 rfl (lv_at hl 0 rfl) ?_
  refine zgetI (pc := 1) hx hb hG hown hw hmd (T := TX9) rfl 35 (by decide) rfl wf_X9_281 rfl dX9_layFeasts_1 ?_
  refine zif_eq (pc := 4) hx hb 8 (by omega) dX9_layFeasts_4 (by decide) (fun c4 => ?_) (fun c4 => ?_)
  · skip
    refine lv_aload_n (pc := 8) hx hb dX9_layFeasts_8 rfl (lv_at hl 0 rfl) ?_
    refine ziconst (pc := 9) (n := 1) hx hb dX9_layFeasts_9 ?_
    refine zputZ (pc := 10) hx hb hG hown hw hmd (T := TX9) rfl 35 (by decide) rfl wf_X9_281 rfl (by omega) (by decide +kernel) rfl dX9_layFeasts_10 (fun H locs hw => ?_)
    obtain ⟨X10, eX10⟩ : ∃ Y : zX, Y = up2 X md 35 1 := ⟨_, rfl⟩
    rw [← eX10] at hw
    refine lv_aload_n (pc := 13) hx hb dX9_layFeasts_13 rfl (lv_at hl 0 rfl) ?_
    refine zgetR (pc := 14) hx hb hG hown hw hmd (T := TX9) rfl 34 (by decide) rfl wf_X9_83 rfl hB34 dX9_layFeasts_14 ?_
    refine ziconst (pc := 17) (n := (-1)) hx hb dX9_layFeasts_17 ?_
    refine zkVx (pc := 18) (zrS (As := [.ref a34, .int (iI (-1))]) hx hb hml hown hG hw (c_J7_fill_031fb l Γ K X10 Rf a34 (-1) 73049 (by (first | assumption | omega)) (by (first | assumption | omega))) cb_J7_fill_031fb wl_X9_297 rfl ⟨Nat.le_of_ble_eq_true rfl, Nat.le_of_ble_eq_true rfl⟩ hl.1 rfl (Nat.le_of_ble_eq_true rfl) dX9_layFeasts_18 ⟨Nat.zero_le _, Nat.zero_le _⟩) hw (fun X18 H locs hp18 hw => ?_)
    obtain ⟨ho18, hv18⟩ := hp18
    refine ziconst (pc := 21) (n := 0) hx hb dX9_layFeasts_21 ?_
    refine lv_istore_n (pc := 22) (lv' := [(1, .int (iI 0)), (0, .ref md)]) hx hb dX9_layFeasts_22 rfl hl (by decide) rfl (fun ls hl => ?_)
    have lp23 : ∀ (n23 : Nat) (ff : Int) (XL23 : zX) (H : Heap) (locs : List Loc), (hi : 0 ≤ ff ∧ ff ≤ M 40 29) → (ho : ∀ b, b ≠ a34 → XL23 b = X10 b) → (hv : ∀ d : Nat, d ≤ 73048 → XL23 a34 d = Fa (M 40 26) (feaM M) (fepM M) ff.toNat d) → ((M 40 29 - ff).toNat < n23) → Wd Γ (zA K s.heap.size) K XL23 Rf s H locs → ∀ ls : Array Slot, lv_has ls 6 [(1, .int (iI ff)), (0, .ref md)] → W p l e (rmL 5 0 0) s m ([.ref md] : List Value).toArray below meth c H locs 0 0 (MQ below (zQ Γ K s.heap.size (pV (zpv K Rf (fun X' : zX => (repR ρ K X' Rf md M ∧ frR ρ K X Rf ρ K X' Rf) ∧ X' md 35 = 1 ∧ (∀ q, q ≠ 35 → X' md q = X md q) ∧ fsR ρ X X')))) ([.ref md] : List Value).toArray s 0 0 (zA K s.heap.size)) (F0 m 23 ls []) := by
      intro n23
      induction n23 with
      | zero => intro ff XL23 H locs hi ho hv hm23; exact absurd hm23 (Nat.not_lt_zero _)
      | succ n23 ih23 =>
        intro ff XL23 H locs hi ho hv hm23 hw ls hl
        have hmdZ : XL23 md = X10 md := ho md (Ne.symm hN34)
        have hz26 : XL23 md 26 = M 40 26 := by rw [hmdZ, eX10, up2_k (by decide)]; exact hq26
        have hz29 : XL23 md 29 = M 40 29 := by rw [hmdZ, eX10, up2_k (by decide)]; exact hq29
        have hE2 : XL23 a2 = M 2 := by rw [ho a2 (zne9 hL2 hL34 (by decide)), eX10, up2_o hN2]; exact hD2
        have hE3 : XL23 a3 = M 3 := by rw [ho a3 (zne9 hL3 hL34 (by decide)), eX10, up2_o hN3]; exact hD3
        have hE4 : XL23 a4 = M 4 := by rw [ho a4 (zne9 hL4 hL34 (by decide)), eX10, up2_o hN4]; exact hD4
        have hE30 : XL23 a30 = M 30 := by rw [ho a30 (zne9 hL30 hL34 (by decide)), eX10, up2_o hN30]; exact hD30
        have hE31 : XL23 a31 = M 31 := by rw [ho a31 (zne9 hL31 hL34 (by decide)), eX10, up2_o hN31]; exact hD31
        have hE32 : XL23 a32 = M 32 := by rw [ho a32 (zne9 hL32 hL34 (by decide)), eX10, up2_o hN32]; exact hD32
        have hE33 : XL23 a33 = M 33 := by rw [ho a33 (zne9 hL33 hL34 (by decide)), eX10, up2_o hN33]; exact hD33
        refine lv_iload_n (pc := 23) hx hb dX9_layFeasts_23 rfl (lv_at hl 0 rfl) ?_
        refine lv_aload_n (pc := 24) hx hb dX9_layFeasts_24 rfl (lv_at hl 1 rfl) ?_
        refine zgetI (pc := 25) hx hb hG hown hw hmd (T := TX9) rfl 29 (by decide) rfl wf_X9_285 rfl dX9_layFeasts_25 ?_
        refine zicmp_ge (pc := 28) hx hb 135 (by omega) (by omega) dX9_layFeasts_28 (by decide) (fun c28 => ?_) (fun c28 => ?_)
        · skip
          exact zretV (pc := 135) hx hb hlocks hr hw (Nat.zero_le _) (Nat.zero_le _) dX9_layFeasts_135 ⟨by (try dsimp only) <;> (
                                        have hn9 : ff = M 40 29 := by omega
                                        have hvF : ∀ d : Nat, d ≤ 73048 → XL23 a34 d = falM M d := fun d hd => by rw [hv d hd, hn9]; rfl
                                        have hqF : ∀ q, q ≠ 35 → XL23 md q = X md q := fun q g => by rw [hmdZ, eX10, up2_k g]
                                        have h1F : XL23 md 35 = 1 := by rw [hmdZ, eX10, up2_s]
                                        exact ⟨hR.lay hB34 hqF (fun b g1 g2 => by rw [ho b g2, eX10, up2_o g1]) h1F hvF, h1F, hqF, fun b g1 g2 => by rw [ho b (fun g => g2 (by rw [g]; exact hL34)), eX10, up2_o (fun g => g1 (by rw [g]; exact hlmd))]⟩), rfl, rfl⟩
        · skip
          refine lv_aload_n (pc := 31) hx hb dX9_layFeasts_31 rfl (lv_at hl 1 rfl) ?_
          refine zgetR (pc := 32) hx hb hG hown hw hmd (T := TX9) rfl 30 (by decide) rfl wf_X9_70 rfl hB30 dX9_layFeasts_32 ?_
          refine lv_iload_n (pc := 35) hx hb dX9_layFeasts_35 rfl (lv_at hl 0 rfl) ?_
          refine zald (pc := 36) hx hb hw hA30 ⟨by omega, by omega⟩ (by omega) dX9_layFeasts_36 ?_
          refine ztop (fun x37 ex37 => ?_)
          refine lv_istore_n (pc := 37) (lv' := [(2, .int (iI x37)), (1, .int (iI ff)), (0, .ref md)]) hx hb dX9_layFeasts_37 rfl hl (by decide) rfl (fun ls hl => ?_)
          have hv30 : XL23 a30 ff.toNat = feaM M ff.toNat 0 := by rw [hE30]; rfl
          have hv31 : XL23 a31 ff.toNat = feaM M ff.toNat 1 := by rw [hE31]; rfl
          have hv33 : XL23 a33 ff.toNat = feaM M ff.toNat 3 := by rw [hE33]; rfl
          have hFo := (hokF ff.toNat (by omega)).1
          have hFp := (hokF ff.toNat (by omega)).2
          have hGr : ∀ d, -1 ≤ Fa (M 40 26) (feaM M) (fepM M) ff.toNat d ∧ Fa (M 40 26) (feaM M) (fepM M) ff.toNat d < ff := fun d => by have := Fa_rng (M 40 26) (feaM M) (fepM M) ff.toNat d; omega
          have lp38 : ∀ (n38 : Nat) (yy : Int) (XL38 : zX) (H : Heap) (locs : List Loc), (hy : feaM M ff.toNat 0 ≤ yy ∧ yy ≤ feaM M ff.toNat 1 + 1) → (ho2 : ∀ b, b ≠ a34 → XL38 b = X10 b) → (hv2 : ∀ d : Nat, d ≤ 73048 → XL38 a34 d = bF (M 40 26) (feaM M ff.toNat 3) (fepM M ff.toNat) (Fa (M 40 26) (feaM M) (fepM M) ff.toNat) ff (12 * (feaM M ff.toNat 0 - 1900)) (12 * (yy - 1900) - 1) d) → ((feaM M ff.toNat 1 + 1 - yy).toNat < n38) → Wd Γ (zA K s.heap.size) K XL38 Rf s H locs → ∀ ls : Array Slot, lv_has ls 6 [(2, .int (iI yy)), (1, .int (iI ff)), (0, .ref md)] → W p l e (rmL 5 0 0) s m ([.ref md] : List Value).toArray below meth c H locs 0 0 (MQ below (zQ Γ K s.heap.size (pV (zpv K Rf (fun X' : zX => (repR ρ K X' Rf md M ∧ frR ρ K X Rf ρ K X' Rf) ∧ X' md 35 = 1 ∧ (∀ q, q ≠ 35 → X' md q = X md q) ∧ fsR ρ X X')))) ([.ref md] : List Value).toArray s 0 0 (zA K s.heap.size)) (F0 m 38 ls []) := by
            intro n38
            induction n38 with
            | zero => intro yy XL38 H locs hy ho2 hv2 hm38; exact absurd hm38 (Nat.not_lt_zero _)
            | succ n38 ih38 =>
              intro yy XL38 H locs hy ho2 hv2 hm38 hw ls hl
              have hmdZ : XL38 md = X10 md := ho2 md (Ne.symm hN34)
              have hz26 : XL38 md 26 = M 40 26 := by rw [hmdZ, eX10, up2_k (by decide)]; exact hq26
              have hz29 : XL38 md 29 = M 40 29 := by rw [hmdZ, eX10, up2_k (by decide)]; exact hq29
              have hE2 : XL38 a2 = M 2 := by rw [ho2 a2 (zne9 hL2 hL34 (by decide)), eX10, up2_o hN2]; exact hD2
              have hE3 : XL38 a3 = M 3 := by rw [ho2 a3 (zne9 hL3 hL34 (by decide)), eX10, up2_o hN3]; exact hD3
              have hE4 : XL38 a4 = M 4 := by rw [ho2 a4 (zne9 hL4 hL34 (by decide)), eX10, up2_o hN4]; exact hD4
              have hE30 : XL38 a30 = M 30 := by rw [ho2 a30 (zne9 hL30 hL34 (by decide)), eX10, up2_o hN30]; exact hD30
              have hE31 : XL38 a31 = M 31 := by rw [ho2 a31 (zne9 hL31 hL34 (by decide)), eX10, up2_o hN31]; exact hD31
              have hE32 : XL38 a32 = M 32 := by rw [ho2 a32 (zne9 hL32 hL34 (by decide)), eX10, up2_o hN32]; exact hD32
              have hE33 : XL38 a33 = M 33 := by rw [ho2 a33 (zne9 hL33 hL34 (by decide)), eX10, up2_o hN33]; exact hD33
              have hv30 : XL38 a30 ff.toNat = feaM M ff.toNat 0 := by rw [hE30]; rfl
              have hv31 : XL38 a31 ff.toNat = feaM M ff.toNat 1 := by rw [hE31]; rfl
              have hv33 : XL38 a33 ff.toNat = feaM M ff.toNat 3 := by rw [hE33]; rfl
              refine lv_iload_n (pc := 38) hx hb dX9_layFeasts_38 rfl (lv_at hl 0 rfl) ?_
              refine lv_aload_n (pc := 39) hx hb dX9_layFeasts_39 rfl (lv_at hl 2 rfl) ?_
              refine zgetR (pc := 40) hx hb hG hown hw hmd (T := TX9) rfl 31 (by decide) rfl wf_X9_73 rfl hB31 dX9_layFeasts_40 ?_
              refine lv_iload_n (pc := 43) hx hb dX9_layFeasts_43 rfl (lv_at hl 1 rfl) ?_
              refine zald (pc := 44) hx hb hw hA31 ⟨by omega, by omega⟩ (by omega) dX9_layFeasts_44 ?_
              refine zicmp_gt (pc := 45) hx hb 129 (by omega) (by omega) dX9_layFeasts_45 (by decide) (fun c45 => ?_) (fun c45 => ?_)
              · skip
                refine ziinc (pc := 129) (lv' := [(1, .int (iI (ff + 1))), (2, .int (iI yy)), (0, .ref md)]) hx hb 1 dX9_layFeasts_129 hl rfl (by decide) rfl (fun ls hl => ?_)
                obtain ⟨x129, ex129⟩ : ∃ zz : Int, zz = (ff + 1) := ⟨_, rfl⟩
                rw [← ex129] at hl
                refine lv_goto (pc := 132) (tgt := 23) hx hb dX9_layFeasts_132 (by decide) ?_
                exact ih23 x129 XL38 _ _ (by (first | assumption | omega)) (by exact ho2) (by intro d hd; rw [ex129, show (ff + 1).toNat = ff.toNat + 1 by omega, Fa_s, hv2 d hd, show 12 * (yy - 1900) - 1 = 12 * (feaM M ff.toNat 1 - 1900) + 11 by omega, show ((ff.toNat : Nat) : Int) = ff by omega]) (by omega) hw _ (lv_sub hl [0, 2] rfl)
              · skip
                refine ziconst (pc := 48) (n := 1) hx hb dX9_layFeasts_48 ?_
                refine lv_istore_n (pc := 49) (lv' := [(3, .int (iI 1)), (2, .int (iI yy)), (1, .int (iI ff)), (0, .ref md)]) hx hb dX9_layFeasts_49 rfl hl (by decide) rfl (fun ls hl => ?_)
                have lp50 : ∀ (n50 : Nat) (mm : Int) (XL50 : zX) (H : Heap) (locs : List Loc), (hm : 1 ≤ mm ∧ mm ≤ 13) → (ho3 : ∀ b, b ≠ a34 → XL50 b = X10 b) → (hv3 : ∀ d : Nat, d ≤ 73048 → XL50 a34 d = bF (M 40 26) (feaM M ff.toNat 3) (fepM M ff.toNat) (Fa (M 40 26) (feaM M) (fepM M) ff.toNat) ff (12 * (feaM M ff.toNat 0 - 1900)) (12 * (yy - 1900) + mm - 2) d) → ((13 - mm).toNat < n50) → Wd Γ (zA K s.heap.size) K XL50 Rf s H locs → ∀ ls : Array Slot, lv_has ls 6 [(3, .int (iI mm)), (2, .int (iI yy)), (1, .int (iI ff)), (0, .ref md)] → W p l e (rmL 5 0 0) s m ([.ref md] : List Value).toArray below meth c H locs 0 0 (MQ below (zQ Γ K s.heap.size (pV (zpv K Rf (fun X' : zX => (repR ρ K X' Rf md M ∧ frR ρ K X Rf ρ K X' Rf) ∧ X' md 35 = 1 ∧ (∀ q, q ≠ 35 → X' md q = X md q) ∧ fsR ρ X X')))) ([.ref md] : List Value).toArray s 0 0 (zA K s.heap.size)) (F0 m 50 ls []) := by
                  intro n50
                  induction n50 with
                  | zero => intro mm XL50 H locs hm ho3 hv3 hm50; exact absurd hm50 (Nat.not_lt_zero _)
                  | succ n50 ih50 =>
                    intro mm XL50 H locs hm ho3 hv3 hm50 hw ls hl
                    have hmdZ : XL50 md = X10 md := ho3 md (Ne.symm hN34)
                    have hz26 : XL50 md 26 = M 40 26 := by rw [hmdZ, eX10, up2_k (by decide)]; exact hq26
                    have hz29 : XL50 md 29 = M 40 29 := by rw [hmdZ, eX10, up2_k (by decide)]; exact hq29
                    have hE2 : XL50 a2 = M 2 := by rw [ho3 a2 (zne9 hL2 hL34 (by decide)), eX10, up2_o hN2]; exact hD2
                    have hE3 : XL50 a3 = M 3 := by rw [ho3 a3 (zne9 hL3 hL34 (by decide)), eX10, up2_o hN3]; exact hD3
                    have hE4 : XL50 a4 = M 4 := by rw [ho3 a4 (zne9 hL4 hL34 (by decide)), eX10, up2_o hN4]; exact hD4
                    have hE30 : XL50 a30 = M 30 := by rw [ho3 a30 (zne9 hL30 hL34 (by decide)), eX10, up2_o hN30]; exact hD30
                    have hE31 : XL50 a31 = M 31 := by rw [ho3 a31 (zne9 hL31 hL34 (by decide)), eX10, up2_o hN31]; exact hD31
                    have hE32 : XL50 a32 = M 32 := by rw [ho3 a32 (zne9 hL32 hL34 (by decide)), eX10, up2_o hN32]; exact hD32
                    have hE33 : XL50 a33 = M 33 := by rw [ho3 a33 (zne9 hL33 hL34 (by decide)), eX10, up2_o hN33]; exact hD33
                    have hv30 : XL50 a30 ff.toNat = feaM M ff.toNat 0 := by rw [hE30]; rfl
                    have hv31 : XL50 a31 ff.toNat = feaM M ff.toNat 1 := by rw [hE31]; rfl
                    have hv33 : XL50 a33 ff.toNat = feaM M ff.toNat 3 := by rw [hE33]; rfl
                    refine lv_iload_n (pc := 50) hx hb dX9_layFeasts_50 rfl (lv_at hl 0 rfl) ?_
                    refine zbipush (pc := 51) (n := 12) hx hb dX9_layFeasts_51 rfl ?_
                    refine zicmp_gt (pc := 53) hx hb 123 (by omega) (by omega) dX9_layFeasts_53 (by decide) (fun c53 => ?_) (fun c53 => ?_)
                    · skip
                      refine ziinc (pc := 123) (lv' := [(2, .int (iI (yy + 1))), (3, .int (iI mm)), (1, .int (iI ff)), (0, .ref md)]) hx hb 1 dX9_layFeasts_123 hl rfl (by decide) rfl (fun ls hl => ?_)
                      obtain ⟨x123, ex123⟩ : ∃ zz : Int, zz = (yy + 1) := ⟨_, rfl⟩
                      rw [← ex123] at hl
                      refine lv_goto (pc := 126) (tgt := 38) hx hb dX9_layFeasts_126 (by decide) ?_
                      exact ih38 x123 XL50 _ _ (by (first | assumption | omega)) (by exact ho3) (by intro d hd; rw [ex123, hv3 d hd, show 12 * (yy + 1 - 1900) - 1 = 12 * (yy - 1900) + mm - 2 by omega]) (by omega) hw _ (lv_sub hl [0, 2, 3] rfl)
                    · skip
                      have hpf : pfX XL50 a2 a3 a4 (XL50 a32 ff.toNat).toNat = fepM M ff.toNat := by rw [hE32, pfX_M hE2 hE3 hE4]; rfl
                      have hv32 : XL50 a32 ff.toNat = M 32 ff.toNat := by rw [hE32]
                      have hP9 : okP2 (pfX XL50 a2 a3 a4 (XL50 a32 ff.toNat).toNat) := by rw [hpf]; exact hokP _ (by omega)
                      have htr := told_rng (fepM M ff.toNat) (12 * (yy - 1900) + mm - 1)
                      have hV9 := hv3
                      have hbv9 : ∀ d : Nat, d ≤ 73048 → -1 ≤ XL50 a34 d ∧ XL50 a34 d ≤ 19 := fun d hd => by
                        rw [hv3 d hd]
                        have h9 := hGr d
                        rcases bF_val (w := M 40 26) (way := feaM M ff.toNat 3) (P := fepM M ff.toNat) (num := ff) (a := 12 * (feaM M ff.toNat 0 - 1900)) (b := 12 * (yy - 1900) + mm - 2) (fun d => (hGr d).1) d with g | ⟨g, g1 | g1⟩ <;> omega
                      have hG9 : ∀ d : Int, Fa (M 40 26) (feaM M) (fepM M) ff.toNat d < 0 ↔ ¬((0 ≤ d ∧ d ≤ 73048) ∧ XL50 a34 (d).toNat ≠ -1 ∧ XL50 a34 (d).toNat ≠ ff) := bF_iff (by omega) hGr (fun d hd => Fa_out hd _) hv3
                      refine lv_aload_n (pc := 56) hx hb dX9_layFeasts_56 rfl (lv_at hl 3 rfl) ?_
                      refine lv_aload_n (pc := 57) hx hb dX9_layFeasts_57 rfl (lv_at hl 3 rfl) ?_
                      refine zgetR (pc := 58) hx hb hG hown hw hmd (T := TX9) rfl 32 (by decide) rfl wf_X9_76 rfl hB32 dX9_layFeasts_58 ?_
                      refine lv_iload_n (pc := 61) hx hb dX9_layFeasts_61 rfl (lv_at hl 2 rfl) ?_
                      refine zald (pc := 62) hx hb hw hA32 ⟨by omega, by omega⟩ (by omega) dX9_layFeasts_62 ?_
                      refine lv_iload_n (pc := 63) hx hb dX9_layFeasts_63 rfl (lv_at hl 1 rfl) ?_
                      refine lv_iload_n (pc := 64) hx hb dX9_layFeasts_64 rfl (lv_at hl 0 rfl) ?_
                      refine zkIp (pc := 65) (zrV (As := [.int (iI (XL50 a32 ff.toNat)), .int (iI yy), .int (iI mm)]) hx hb hml hown hG hw (c_X9_toldIn l Γ K XL50 Rf md (XL50 a32 ff.toNat) yy mm a2 a3 a4 (by (first | assumption | omega)) (by (first | assumption | omega)) (by (first | assumption | omega)) (by (first | assumption | omega)) (by (first | assumption | omega)) (by (first | assumption | omega)) (by (first | assumption | omega)) (by (first | assumption | omega)) (by (first | assumption | omega)) (by (first | assumption | omega)) (by (first | assumption | omega))) (T := TX9) hmd rfl cb_X9_toldIn wl_X9_145 rfl ⟨Nat.le_of_ble_eq_true rfl, Nat.le_of_ble_eq_true rfl⟩ hl.1 rfl (Nat.le_of_ble_eq_true rfl) dX9_layFeasts_65 ⟨Nat.zero_le _, Nat.zero_le _⟩) hw (fun r65 H locs hp65 hw => ?_)
                      subst hp65
                      have hp65f0 := told_rng (pfX XL50 a2 a3 a4 (XL50 a32 ff.toNat).toNat) (12 * (yy - 1900) + mm - 1)
                      refine ztop (fun x68 ex68 => ?_)
                      refine lv_istore (pc := 68) (lv' := [(4, .int (iI x68)), (3, .int (iI mm)), (2, .int (iI yy)), (1, .int (iI ff)), (0, .ref md)]) hx hb dX9_layFeasts_68 hl (by decide) rfl (fun ls hl => ?_)
                      have jn87_0 : ∀ (dy : Int) (H : Heap) (locs : List Loc), (hdy : dy = if x68 = -1 then -1 else mvD (frD (M 40 26) (feaM M ff.toNat 3) (Fa (M 40 26) (feaM M) (fepM M) ff.toNat)) (feaM M ff.toNat 3) x68) → (hdr : -1000 ≤ dy ∧ dy ≤ 80000) → Wd Γ (zA K s.heap.size) K XL50 Rf s H locs → ∀ ls : Array Slot, lv_has ls 6 [(4, .int (iI x68)), (3, .int (iI mm)), (2, .int (iI yy)), (1, .int (iI ff)), (0, .ref md)] → W p l e (rmL 5 0 0) s m ([.ref md] : List Value).toArray below meth c H locs 0 0 (MQ below (zQ Γ K s.heap.size (pV (zpv K Rf (fun X' : zX => (repR ρ K X' Rf md M ∧ frR ρ K X Rf ρ K X' Rf) ∧ X' md 35 = 1 ∧ (∀ q, q ≠ 35 → X' md q = X md q) ∧ fsR ρ X X')))) ([.ref md] : List Value).toArray s 0 0 (zA K s.heap.size)) (F0 m 87 ls [.int (iI dy)]) := by
                        intro dy H locs hdy hdr hw ls hl
                        have hlp := lay_put (t := x68) (dy := dy) (by omega) (by omega) hGr hv3 (by rw [show 12 * (yy - 1900) + mm - 2 + 1 = 12 * (yy - 1900) + mm - 1 by omega, ← hpf]; exact ex68.symm) (by omega) hdy
                        refine lv_istore (pc := 87) (lv' := [(5, .int (iI dy)), (4, .int (iI x68)), (3, .int (iI mm)), (2, .int (iI yy)), (1, .int (iI ff)), (0, .ref md)]) hx hb dX9_layFeasts_87 hl (by decide) rfl (fun ls hl => ?_)
                        refine lv_iload (pc := 89) hx hb dX9_layFeasts_89 (lv_at hl 0 rfl) ?_
                        refine zkIp (pc := 91) (zrS (As := [.int (iI dy)]) hx hb hml hown hG hw (c_X9_isDay l Γ K XL50 Rf dy  (by (first | assumption | omega))) cb_X9_isDay wl_X9_126 rfl ⟨Nat.le_of_ble_eq_true rfl, Nat.le_of_ble_eq_true rfl⟩ hl.1 rfl (Nat.le_of_ble_eq_true rfl) dX9_layFeasts_91 ⟨Nat.zero_le _, Nat.zero_le _⟩) hw (fun r91 H locs hp91 hw => ?_)
                        subst hp91
                        refine zif_eq (pc := 94) hx hb 117 (by omega) dX9_layFeasts_94 (by decide) (fun c94 => ?_) (fun c94 => ?_)
                        · skip
                          replace c94 := it0 c94
                          refine ziinc (pc := 117) (lv' := [(3, .int (iI (mm + 1))), (5, .int (iI dy)), (4, .int (iI x68)), (2, .int (iI yy)), (1, .int (iI ff)), (0, .ref md)]) hx hb 2 dX9_layFeasts_117 hl rfl (by decide) rfl (fun ls hl => ?_)
                          obtain ⟨x117, ex117⟩ : ∃ zz : Int, zz = (mm + 1) := ⟨_, rfl⟩
                          rw [← ex117] at hl
                          refine lv_goto (pc := 120) (tgt := 50) hx hb dX9_layFeasts_120 (by decide) ?_
                          exact ih50 x117 XL50 _ _ (by (first | assumption | omega)) (by first | exact ho3 | (intro b hb; rw [eX116, up2_o hb]; exact ho3 b hb)) (by rw [ex117, show 12 * (yy - 1900) + (mm + 1) - 2 = 12 * (yy - 1900) + mm - 2 + 1 by omega]; first | exact hlp.2 (by omega) | exact hlp.2 (fun g => absurd g.1 (by assumption)) | (rw [eX116]; exact hlp.1 ⟨by assumption, by assumption⟩ _ up2_s (fun j hj => up2_k hj))) (by omega) hw _ (lv_sub hl [0, 3, 4, 5] rfl)
                        · skip
                          replace c94 := it1 c94
                          have hb9 := hbv9 dy.toNat (by omega)
                          refine lv_aload_n (pc := 97) hx hb dX9_layFeasts_97 rfl (lv_at hl 5 rfl) ?_
                          refine zgetR (pc := 98) hx hb hG hown hw hmd (T := TX9) rfl 34 (by decide) rfl wf_X9_83 rfl hB34 dX9_layFeasts_98 ?_
                          refine lv_iload (pc := 101) hx hb dX9_layFeasts_101 (lv_at hl 0 rfl) ?_
                          refine zbald (pc := 103) hx hb hw hA34 ⟨by omega, by omega⟩ (by omega) dX9_layFeasts_103 ?_
                          refine ziconst (pc := 104) (n := (-1)) hx hb dX9_layFeasts_104 ?_
                          refine zicmp_ne (pc := 105) hx hb 117 (by omega) (by omega) dX9_layFeasts_105 (by decide) (fun c105 => ?_) (fun c105 => ?_)
                          · skip
                            refine ziinc (pc := 117) (lv' := [(3, .int (iI (mm + 1))), (5, .int (iI dy)), (4, .int (iI x68)), (2, .int (iI yy)), (1, .int (iI ff)), (0, .ref md)]) hx hb 2 dX9_layFeasts_117 hl rfl (by decide) rfl (fun ls hl => ?_)
                            obtain ⟨x117, ex117⟩ : ∃ zz : Int, zz = (mm + 1) := ⟨_, rfl⟩
                            rw [← ex117] at hl
                            refine lv_goto (pc := 120) (tgt := 50) hx hb dX9_layFeasts_120 (by decide) ?_
                            exact ih50 x117 XL50 _ _ (by (first | assumption | omega)) (by first | exact ho3 | (intro b hb; rw [eX116, up2_o hb]; exact ho3 b hb)) (by rw [ex117, show 12 * (yy - 1900) + (mm + 1) - 2 = 12 * (yy - 1900) + mm - 2 + 1 by omega]; first | exact hlp.2 (by omega) | exact hlp.2 (fun g => absurd g.1 (by assumption)) | (rw [eX116]; exact hlp.1 ⟨by assumption, by assumption⟩ _ up2_s (fun j hj => up2_k hj))) (by omega) hw _ (lv_sub hl [0, 3, 4, 5] rfl)
                          · skip
                            refine lv_aload_n (pc := 108) hx hb dX9_layFeasts_108 rfl (lv_at hl 5 rfl) ?_
                            refine zgetR (pc := 109) hx hb hG hown hw hmd (T := TX9) rfl 34 (by decide) rfl wf_X9_83 rfl hB34 dX9_layFeasts_109 ?_
                            refine lv_iload (pc := 112) hx hb dX9_layFeasts_112 (lv_at hl 0 rfl) ?_
                            refine lv_iload_n (pc := 114) hx hb dX9_layFeasts_114 rfl (lv_at hl 4 rfl) ?_
                            refine zi2b (pc := 115) hx hb (by omega) dX9_layFeasts_115 ?_
                            refine zbast (pc := 116) hx hb hw hA34 ⟨by omega, by omega⟩ (by omega) (zbyte (by omega)) dX9_layFeasts_116 (fun H locs hw => ?_)
                            obtain ⟨X116, eX116⟩ : ∃ Y : zX, Y = up2 XL50 a34 dy.toNat ff := ⟨_, rfl⟩
                            rw [← eX116] at hw
                            refine ziinc (pc := 117) (lv' := [(3, .int (iI (mm + 1))), (5, .int (iI dy)), (4, .int (iI x68)), (2, .int (iI yy)), (1, .int (iI ff)), (0, .ref md)]) hx hb 2 dX9_layFeasts_117 hl rfl (by decide) rfl (fun ls hl => ?_)
                            obtain ⟨x117, ex117⟩ : ∃ zz : Int, zz = (mm + 1) := ⟨_, rfl⟩
                            rw [← ex117] at hl
                            refine lv_goto (pc := 120) (tgt := 50) hx hb dX9_layFeasts_120 (by decide) ?_
                            exact ih50 x117 X116 _ _ (by (first | assumption | omega)) (by first | exact ho3 | (intro b hb; rw [eX116, up2_o hb]; exact ho3 b hb)) (by rw [ex117, show 12 * (yy - 1900) + (mm + 1) - 2 = 12 * (yy - 1900) + mm - 2 + 1 by omega]; first | exact hlp.2 (by omega) | exact hlp.2 (fun g => absurd g.1 (by assumption)) | (rw [eX116]; exact hlp.1 ⟨by assumption, by assumption⟩ _ up2_s (fun j hj => up2_k hj))) (by omega) hw _ (lv_sub hl [0, 3, 4, 5] rfl)
                      rw [hpf] at ex68
                      refine lv_iload (pc := 70) hx hb dX9_layFeasts_70 (lv_at hl 0 rfl) ?_
                      refine ziconst (pc := 72) (n := (-1)) hx hb dX9_layFeasts_72 ?_
                      refine zicmp_ne (pc := 73) hx hb 80 (by omega) (by omega) dX9_layFeasts_73 (by decide) (fun c73 => ?_) (fun c73 => ?_)
                      · skip
                        refine lv_aload_n (pc := 80) hx hb dX9_layFeasts_80 rfl (lv_at hl 4 rfl) ?_
                        refine lv_iload_n (pc := 81) hx hb dX9_layFeasts_81 rfl (lv_at hl 3 rfl) ?_
                        refine lv_iload (pc := 82) hx hb dX9_layFeasts_82 (lv_at hl 0 rfl) ?_
                        have hrt : 0 ≤ x68 ∧ x68 ≤ 73048 := by omega
                        refine zkIp (pc := 84) (zrV (As := [.int (iI ff), .int (iI x68)]) hx hb hml hown hG hw (c_X9_moved l Γ K XL50 Rf md ff x68 a33 a34 (Fa (M 40 26) (feaM M) (fepM M) ff.toNat) (by (first | assumption | omega)) (by (first | assumption | omega)) (by (first | assumption | omega)) (by (first | assumption | omega)) (by (first | assumption | omega)) (by (first | assumption | omega)) (by (first | assumption | omega)) (by (first | assumption | omega)) (by (first | assumption | omega)) (by (first | assumption | omega))) (T := TX9) hmd rfl cb_X9_moved wl_X9_301 rfl ⟨Nat.le_of_ble_eq_true rfl, Nat.le_of_ble_eq_true rfl⟩ hl.1 rfl (Nat.le_of_ble_eq_true rfl) dX9_layFeasts_84 ⟨Nat.zero_le _, Nat.zero_le _⟩) hw (fun r84 H locs hp84 hw => ?_)
                        subst hp84
                        have hp84f0 := mvD_rng (frD (XL50 md 26) (XL50 a33 ff.toNat) (Fa (M 40 26) (feaM M) (fepM M) ff.toNat)) (XL50 a33 ff.toNat) x68
                        exact jn87_0 (mvD (frD (XL50 md 26) (XL50 a33 ff.toNat) (Fa (M 40 26) (feaM M) (fepM M) ff.toNat)) (XL50 a33 ff.toNat) x68) _ _ (by first | (rw [if_pos (by omega)]) | (rw [if_neg (by omega), hz26, hv33])) (by omega) hw _ (lv_sub hl [0, 1, 2, 3, 4] rfl)
                      · skip
                        refine ziconst (pc := 76) (n := (-1)) hx hb dX9_layFeasts_76 ?_
                        refine lv_goto (pc := 77) (tgt := 87) hx hb dX9_layFeasts_77 (by decide) ?_
                        exact jn87_0 (-1) _ _ (by first | (rw [if_pos (by omega)]) | (rw [if_neg (by omega), hz26, hv33])) (by omega) hw _ (lv_sub hl [0, 1, 2, 3, 4] rfl)
                exact lp50 _ 1 XL38 _ _ (by (first | assumption | omega)) (by exact ho2) (by intro d hd; rw [hv2 d hd, show 12 * (yy - 1900) + 1 - 2 = 12 * (yy - 1900) - 1 by omega]) (Nat.lt_succ_self _) hw _ (lv_sub hl [0, 1, 2, 3] rfl)
          exact lp38 _ x37 XL23 _ _ (by (first | assumption | omega)) (by exact ho) (by intro d hd; rw [bF_0 (by omega) (fun d => (hGr d).1)]; exact hv d hd) (Nat.lt_succ_self _) hw _ (lv_sub hl [0, 1, 2] rfl)
    exact lp23 _ 0 X18 _ _ (by (first | assumption | omega)) (by exact ho18) (by intro d hd; exact hv18 d (by omega)) (Nat.lt_succ_self _) hw _ (lv_sub hl [0, 1] rfl)
  · skip
    exact zretV (pc := 7) hx hb hlocks hr hw (Nat.zero_le _) (Nat.zero_le _) dX9_layFeasts_7 ⟨by (try dsimp only) <;> (refine ⟨⟨hR, frR_refl⟩, ?_, fun _ _ => rfl, fun _ _ _ => rfl⟩; rcases hlaid with g | g; omega; exact g.1), rfl, rfl⟩
