set_option maxHeartbeats 4000000 in
set_option maxRecDepth 100000 in
theorem c_X10_pushDown (l : Launch) (Γ : zG) (K : zK) (X : zX) (Rf : zR) (a : Nat) (pp : Int) (v : Int) (lo : Int) (hi : Int) (n : Nat) (hka : K a = (2, n)) (hn : n ≤ 20000) (h1 : (0 ≤ lo ∧ lo ≤ pp) ∧ pp < hi ∧ hi ≤ n) (hF : ∀ j : Nat, lo ≤ j → (j : Int) < hi → fit (X a j)) (hv : fit v) (hH : ∀ u c : Nat, pp < u → ((c : Int) = 2 * u - lo + 1 ∨ (c : Int) = 2 * u - lo + 2) → (c : Int) < hi → X a c ≤ X a u) : Ct l yX10_pushDown cX10_pushDown 6 none 0 0 0 Γ [.ref a, .int (iI pp), .int (iI v), .int (iI lo), .int (iI hi)] K X Rf (pV (zpv K Rf (fun X' : zX => (∀ b, b ≠ a → X' b = X b) ∧ Swp lo hi (updF (X a) pp.toNat v) (X' a) ∧ ∀ u c : Nat, pp ≤ u → ((c : Int) = 2 * u - lo + 1 ∨ (c : Int) = 2 * u - lo + 2) → (c : Int) < hi → X' a c ≤ X' a u))) := by
  refine Ct.ofF (by decide +kernel) (Nat.le_of_ble_eq_true rfl) ?_
  intro p e s m below meth c ls hx hb hr hml hown hG hlocks hname hw hl
  have hl : lv_has ls 6 [(0, .ref a), (1, .int (iI pp)), (2, .int (iI v)), (3, .int (iI lo)), (4, .int (iI hi))] := hl
  have lp0 : ∀ (n0 : Nat) (q : Int) (XL0 : zX) (H : Heap) (locs : List Loc), (hq : pp ≤ q ∧ q < hi) → (ho : ∀ b, b ≠ a → XL0 b = X b) → (hs : Swp lo hi (updF (X a) pp.toNat v) (updF (XL0 a) q.toNat v)) → (hh : ∀ u c : Nat, pp ≤ u → ((c : Int) = 2 * u - lo + 1 ∨ (c : Int) = 2 * u - lo + 2) → (c : Int) < hi → (u : Int) ≠ q → (c : Int) ≠ q → XL0 a c ≤ XL0 a u) → (hg : ∀ u : Nat, pp ≤ u → (q = 2 * u - lo + 1 ∨ q = 2 * u - lo + 2) → v < XL0 a u ∧ ∀ c : Nat, ((c : Int) = 2 * q - lo + 1 ∨ (c : Int) = 2 * q - lo + 2) → (c : Int) < hi → XL0 a c ≤ XL0 a u) → ((hi - q).toNat < n0) → Wd Γ (zA K s.heap.size) K XL0 Rf s H locs → ∀ ls : Array Slot, lv_has ls 6 [(0, .ref a), (1, .int (iI q)), (2, .int (iI v)), (3, .int (iI lo)), (4, .int (iI hi))] → W p l e (rmL 0 0 0) s m ([.ref a, .int (iI pp), .int (iI v), .int (iI lo), .int (iI hi)] : List Value).toArray below meth c H locs 0 0 (MQ below (zQ Γ K s.heap.size (pV (zpv K Rf (fun X' : zX => (∀ b, b ≠ a → X' b = X b) ∧ Swp lo hi (updF (X a) pp.toNat v) (X' a) ∧ ∀ u c : Nat, pp ≤ u → ((c : Int) = 2 * u - lo + 1 ∨ (c : Int) = 2 * u - lo + 2) → (c : Int) < hi → X' a c ≤ X' a u)))) ([.ref a, .int (iI pp), .int (iI v), .int (iI lo), .int (iI hi)] : List Value).toArray s 0 0 (zA K s.heap.size)) (F0 m 0 ls []) := by
    intro n0
    induction n0 with
    | zero => intro q XL0 H locs hq ho hs hh hg hm0; exact absurd hm0 (Nat.not_lt_zero _)
    | succ n0 ih0 =>
      intro q XL0 H locs hq ho hs hh hg hm0 hw ls hl
      have hfv : ∀ j : Nat, lo ≤ j → (j : Int) < hi → (j : Int) ≠ q → fit (XL0 a j) := fun j g1 g2 g3 => by
        obtain ⟨m, m1, m2, m3⟩ := hs.vals j g1 g2
        rw [updF_o (by omega)] at m3
        rw [m3]
        by_cases g : m = pp.toNat
        · rw [g, updF_s]; exact hv
        · rw [updF_o g]; exact hF m m1 m2
      refine lv_iload_n (pc := 0) hx hb dX10_pushDown_0 rfl (lv_at hl 1 rfl) ?_
      refine ziconst (pc := 1) (n := 1) hx hb dX10_pushDown_1 ?_
      refine zshl (pc := 2) hx hb (by omega) dX10_pushDown_2 ?_
      rw [show q * 2 ^ (1 : Int).toNat = q * 2 by rw [show (2 : Int) ^ (1 : Int).toNat = 2 by decide]]
      refine lv_iload_n (pc := 3) hx hb dX10_pushDown_3 rfl (lv_at hl 3 rfl) ?_
      refine zsub (pc := 4) hx hb dX10_pushDown_4 ?_
      refine ziconst (pc := 5) (n := 2) hx hb dX10_pushDown_5 ?_
      refine zadd (pc := 6) hx hb dX10_pushDown_6 ?_
      refine ztop (fun x7 ex7 => ?_)
      refine lv_istore (pc := 7) (lv' := [(5, .int (iI x7)), (0, .ref a), (1, .int (iI q)), (2, .int (iI v)), (3, .int (iI lo)), (4, .int (iI hi))]) hx hb dX10_pushDown_7 hl (by decide) rfl (fun ls hl => ?_)
      refine lv_iload (pc := 9) hx hb dX10_pushDown_9 (lv_at hl 0 rfl) ?_
      refine lv_iload (pc := 11) hx hb dX10_pushDown_11 (lv_at hl 5 rfl) ?_
      refine zicmp_le (pc := 13) hx hb 19 (by omega) (by omega) dX10_pushDown_13 (by decide) (fun c13 => ?_) (fun c13 => ?_)
      · skip
        refine lv_iload (pc := 19) hx hb dX10_pushDown_19 (lv_at hl 0 rfl) ?_
        have jn42_0 : ∀ (kc : Int) (H : Heap) (locs : List Loc), (hkc : (kc = x7 ∨ kc = x7 - 1) ∧ q < kc ∧ kc < hi) → (hsb : ∀ c : Nat, ((c : Int) = x7 ∨ (c : Int) = x7 - 1) → (c : Int) < hi → XL0 a c ≤ XL0 a kc.toNat) → Wd Γ (zA K s.heap.size) K XL0 Rf s H locs → ∀ ls : Array Slot, lv_has ls 6 [(5, .int (iI kc)), (0, .ref a), (1, .int (iI q)), (2, .int (iI v)), (3, .int (iI lo)), (4, .int (iI hi))] → W p l e (rmL 0 0 0) s m ([.ref a, .int (iI pp), .int (iI v), .int (iI lo), .int (iI hi)] : List Value).toArray below meth c H locs 0 0 (MQ below (zQ Γ K s.heap.size (pV (zpv K Rf (fun X' : zX => (∀ b, b ≠ a → X' b = X b) ∧ Swp lo hi (updF (X a) pp.toNat v) (X' a) ∧ ∀ u c : Nat, pp ≤ u → ((c : Int) = 2 * u - lo + 1 ∨ (c : Int) = 2 * u - lo + 2) → (c : Int) < hi → X' a c ≤ X' a u)))) ([.ref a, .int (iI pp), .int (iI v), .int (iI lo), .int (iI hi)] : List Value).toArray s 0 0 (zA K s.heap.size)) (F0 m 42 ls []) := by
          intro kc H locs hkc hsb hw ls hl
          have hf3 := hfv kc.toNat (by omega) (by omega) (by omega)
          refine lv_aload_n (pc := 42) hx hb dX10_pushDown_42 rfl (lv_at hl 1 rfl) ?_
          refine lv_iload (pc := 43) hx hb dX10_pushDown_43 (lv_at hl 0 rfl) ?_
          refine zald (pc := 45) hx hb hw hka ⟨by omega, by omega⟩ (by omega) dX10_pushDown_45 ?_
          refine lv_iload_n (pc := 46) hx hb dX10_pushDown_46 rfl (lv_at hl 3 rfl) ?_
          refine zicmp_gt (pc := 47) hx hb 53 (by omega) (by omega) dX10_pushDown_47 (by decide) (fun c47 => ?_) (fun c47 => ?_)
          · skip
            refine lv_aload_n (pc := 53) hx hb dX10_pushDown_53 rfl (lv_at hl 1 rfl) ?_
            refine lv_iload_n (pc := 54) hx hb dX10_pushDown_54 rfl (lv_at hl 2 rfl) ?_
            refine lv_aload_n (pc := 55) hx hb dX10_pushDown_55 rfl (lv_at hl 1 rfl) ?_
            refine lv_iload (pc := 56) hx hb dX10_pushDown_56 (lv_at hl 0 rfl) ?_
            refine lv_dup (pc := 58) hx hb dX10_pushDown_58 rfl ?_
            refine lv_istore_n (pc := 59) (lv' := [(1, .int (iI kc)), (5, .int (iI kc)), (0, .ref a), (2, .int (iI v)), (3, .int (iI lo)), (4, .int (iI hi))]) hx hb dX10_pushDown_59 rfl hl (by decide) rfl (fun ls hl => ?_)
            refine zald (pc := 60) hx hb hw hka ⟨by omega, by omega⟩ (by omega) dX10_pushDown_60 ?_
            refine zast (pc := 61) hx hb hw hka ⟨by omega, by omega⟩ (by omega) dX10_pushDown_61 (fun H locs hw => ?_)
            obtain ⟨X61, eX61⟩ : ∃ Y : zX, Y = up2 XL0 a q.toNat (XL0 a kc.toNat) := ⟨_, rfl⟩
            rw [← eX61] at hw
            have e61 : X61 a = updF (XL0 a) q.toNat (XL0 a kc.toNat) := by rw [eX61, up2_row]
            refine lv_goto (pc := 62) (tgt := 0) hx hb dX10_pushDown_62 (by decide) ?_
            exact ih0 kc X61 _ _ (by (first | assumption | omega)) (by intro b hb; rw [eX61, up2_o hb]; exact ho b hb) (by rw [e61]; exact hs.move ⟨by omega, by omega⟩ ⟨by omega, by omega⟩ (by omega)) (by 
                                        intro u c g1 g2 g3 g4 g5
                                        rw [e61]
                                        by_cases gu : (u : Int) = q
                                        · rw [show u = q.toNat by omega, updF_s, updF_o (by omega)]; exact hsb c (by omega) g3
                                        · rw [updF_o (k := u) (by omega)]
                                          by_cases gc : (c : Int) = q
                                          · rw [show c = q.toNat by omega, updF_s]; exact (hg u g1 (by omega)).2 kc.toNat (by omega) (by omega)
                                          · rw [updF_o (by omega)]; exact hh u c g1 g2 g3 gu gc) (by 
                                        intro u g1 g2
                                        have hu : u = q.toNat := by omega
                                        rw [e61, hu, updF_s]
                                        refine ⟨by omega, fun c g3 g4 => ?_⟩
                                        rw [updF_o (by omega)]
                                        exact hh kc.toNat c (by omega) (by omega) g4 (by omega) (by omega)) (by omega) hw _ (lv_sub hl [2, 0, 3, 4, 5] rfl)
          · skip
            refine lv_goto (pc := 50) (tgt := 65) hx hb dX10_pushDown_50 (by decide) ?_
            refine lv_aload_n (pc := 65) hx hb dX10_pushDown_65 rfl (lv_at hl 1 rfl) ?_
            refine lv_iload_n (pc := 66) hx hb dX10_pushDown_66 rfl (lv_at hl 2 rfl) ?_
            refine lv_iload_n (pc := 67) hx hb dX10_pushDown_67 rfl (lv_at hl 3 rfl) ?_
            refine zast (pc := 68) hx hb hw hka ⟨by omega, by omega⟩ (by omega) dX10_pushDown_68 (fun H locs hw => ?_)
            obtain ⟨X68, eX68⟩ : ∃ Y : zX, Y = up2 XL0 a q.toNat v := ⟨_, rfl⟩
            rw [← eX68] at hw
            have e68 : X68 a = updF (XL0 a) q.toNat v := by rw [eX68, up2_row]
            exact zretV (pc := 69) hx hb hlocks hr hw (Nat.zero_le _) (Nat.zero_le _) dX10_pushDown_69 ⟨by (try dsimp only) <;> (
                                        refine ⟨fun b hb => by rw [eX68, up2_o hb]; exact ho b hb, by rw [e68]; exact hs, fun u c g1 g2 g3 => ?_⟩
                                        rw [e68]
                                        by_cases gu : (u : Int) = q
                                        · rw [show u = q.toNat by omega, updF_s, updF_o (by omega)]
                                          first
                                          | (exfalso; omega)
                                          | exact Int.le_trans (hsb c (by omega) g3) c47
                                          | exact Int.le_trans (hsb c (by omega) g3) (by omega)
                                        · rw [updF_o (k := u) (by omega)]
                                          by_cases gc : (c : Int) = q
                                          · rw [show c = q.toNat by omega, updF_s]; exact Int.le_of_lt (hg u g1 (by omega)).1
                                          · rw [updF_o (by omega)]; exact hh u c g1 g2 g3 gu gc), rfl, rfl⟩
        refine lv_iload (pc := 21) hx hb dX10_pushDown_21 (lv_at hl 5 rfl) ?_
        refine zicmp_eq (pc := 23) hx hb 39 (by omega) (by omega) dX10_pushDown_23 (by decide) (fun c23 => ?_) (fun c23 => ?_)
        · skip
          refine ziinc (pc := 39) (lv' := [(5, .int (iI (x7 + (-1)))), (0, .ref a), (1, .int (iI q)), (2, .int (iI v)), (3, .int (iI lo)), (4, .int (iI hi))]) hx hb 0 dX10_pushDown_39 hl rfl (by decide) rfl (fun ls hl => ?_)
          obtain ⟨x39, ex39⟩ : ∃ zz : Int, zz = (x7 + (-1)) := ⟨_, rfl⟩
          rw [← ex39] at hl
          exact jn42_0 x39 _ _ (by omega) (by intro c hc hl9; rcases hc with hc | hc; (first | (exfalso; omega) | (rw [show c = x7.toNat by omega]; first | (rw [ex39]; exact Int.le_of_lt c36) | exact Int.le_refl _)); (rw [show c = (x7 - 1).toNat by omega]; first | (rw [ex39]; exact Int.le_refl _) | (rw [show x7 + (-1) = x7 - 1 by omega] at *; exact Int.le_refl _) | exact c36)) hw _ (lv_sub hl [0, 1, 2, 3, 4, 5] rfl)
        · skip
          have hf1 := hfv x7.toNat (by omega) (by omega) (by omega)
          have hf2 := hfv (x7 - 1).toNat (by omega) (by omega) (by omega)
          refine lv_aload_n (pc := 26) hx hb dX10_pushDown_26 rfl (lv_at hl 1 rfl) ?_
          refine lv_iload (pc := 27) hx hb dX10_pushDown_27 (lv_at hl 0 rfl) ?_
          refine zald (pc := 29) hx hb hw hka ⟨by omega, by omega⟩ (by omega) dX10_pushDown_29 ?_
          refine lv_aload_n (pc := 30) hx hb dX10_pushDown_30 rfl (lv_at hl 1 rfl) ?_
          refine lv_iload (pc := 31) hx hb dX10_pushDown_31 (lv_at hl 0 rfl) ?_
          refine ziconst (pc := 33) (n := 1) hx hb dX10_pushDown_33 ?_
          refine zsub (pc := 34) hx hb dX10_pushDown_34 ?_
          refine zald (pc := 35) hx hb hw hka ⟨by omega, by omega⟩ (by omega) dX10_pushDown_35 ?_
          refine zicmp_ge (pc := 36) hx hb 42 (by omega) (by omega) dX10_pushDown_36 (by decide) (fun c36 => ?_) (fun c36 => ?_)
          · skip
            exact jn42_0 x7 _ _ (by omega) (by intro c hc hl9; rcases hc with hc | hc; (first | (exfalso; omega) | (rw [show c = x7.toNat by omega]; first | (rw [ex39]; exact Int.le_of_lt c36) | exact Int.le_refl _)); (rw [show c = (x7 - 1).toNat by omega]; first | (rw [ex39]; exact Int.le_refl _) | (rw [show x7 + (-1) = x7 - 1 by omega] at *; exact Int.le_refl _) | exact c36)) hw _ (lv_sub hl [0, 1, 2, 3, 4, 5] rfl)
          · skip
            refine ziinc (pc := 39) (lv' := [(5, .int (iI (x7 + (-1)))), (0, .ref a), (1, .int (iI q)), (2, .int (iI v)), (3, .int (iI lo)), (4, .int (iI hi))]) hx hb 0 dX10_pushDown_39 hl rfl (by decide) rfl (fun ls hl => ?_)
            obtain ⟨x39, ex39⟩ : ∃ zz : Int, zz = (x7 + (-1)) := ⟨_, rfl⟩
            rw [← ex39] at hl
            exact jn42_0 x39 _ _ (by omega) (by intro c hc hl9; rcases hc with hc | hc; (first | (exfalso; omega) | (rw [show c = x7.toNat by omega]; first | (rw [ex39]; exact Int.le_of_lt c36) | exact Int.le_refl _)); (rw [show c = (x7 - 1).toNat by omega]; first | (rw [ex39]; exact Int.le_refl _) | (rw [show x7 + (-1) = x7 - 1 by omega] at *; exact Int.le_refl _) | exact c36)) hw _ (lv_sub hl [0, 1, 2, 3, 4, 5] rfl)
      · skip
        refine lv_goto (pc := 16) (tgt := 65) hx hb dX10_pushDown_16 (by decide) ?_
        refine lv_aload_n (pc := 65) hx hb dX10_pushDown_65 rfl (lv_at hl 1 rfl) ?_
        refine lv_iload_n (pc := 66) hx hb dX10_pushDown_66 rfl (lv_at hl 2 rfl) ?_
        refine lv_iload_n (pc := 67) hx hb dX10_pushDown_67 rfl (lv_at hl 3 rfl) ?_
        refine zast (pc := 68) hx hb hw hka ⟨by omega, by omega⟩ (by omega) dX10_pushDown_68 (fun H locs hw => ?_)
        obtain ⟨X68, eX68⟩ : ∃ Y : zX, Y = up2 XL0 a q.toNat v := ⟨_, rfl⟩
        rw [← eX68] at hw
        have e68 : X68 a = updF (XL0 a) q.toNat v := by rw [eX68, up2_row]
        exact zretV (pc := 69) hx hb hlocks hr hw (Nat.zero_le _) (Nat.zero_le _) dX10_pushDown_69 ⟨by (try dsimp only) <;> (
                                        refine ⟨fun b hb => by rw [eX68, up2_o hb]; exact ho b hb, by rw [e68]; exact hs, fun u c g1 g2 g3 => ?_⟩
                                        rw [e68]
                                        by_cases gu : (u : Int) = q
                                        · rw [show u = q.toNat by omega, updF_s, updF_o (by omega)]
                                          first
                                          | (exfalso; omega)
                                          | exact Int.le_trans (hsb c (by omega) g3) c47
                                          | exact Int.le_trans (hsb c (by omega) g3) (by omega)
                                        · rw [updF_o (k := u) (by omega)]
                                          by_cases gc : (c : Int) = q
                                          · rw [show c = q.toNat by omega, updF_s]; exact Int.le_of_lt (hg u g1 (by omega)).1
                                          · rw [updF_o (by omega)]; exact hh u c g1 g2 g3 gu gc), rfl, rfl⟩
  exact lp0 _ pp X _ _ (by (first | assumption | omega)) (by exact fun _ _ => rfl) (by exact .refl) (by intro u c g1 g2 g3 g4 g5; exact hH u c (by omega) g2 g3) (by intro u g1 g2; omega) (Nat.lt_succ_self _) hw _ (lv_sub hl [0, 1, 2, 3, 4] rfl)
