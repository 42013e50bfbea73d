set_option maxHeartbeats 4000000 in
set_option maxRecDepth 100000 in
theorem c_X10_mergeParts (l : Launch) (Γ : zG) (K : zK) (X : zX) (Rf : zR) (ds : Nat) (k0 : Int) (a1 : Nat) (l9 : Int) (m9 : Int) (a2 : Nat) (m8 : Int) (h9 : Int) (n0 : Nat) (n1 : Nat) (n2 : Nat) (hkd : K ds = (2, n0)) (hk1 : K a1 = (2, n1)) (hk2 : K a2 = (2, n2)) (hn : n0 ≤ 20000 ∧ n1 ≤ 20000 ∧ n2 ≤ 20000) (h1 : (k0 = l9 ∧ m8 = m9) ∧ (0 ≤ l9 ∧ l9 ≤ m9 ∧ m9 ≤ h9) ∧ h9 ≤ n0 ∧ m9 ≤ n1 ∧ h9 ≤ n2) (hd1 : a1 ≠ ds) (h1s : srtS l9 m9 (X a1)) (h2s : srtS m9 h9 (X a2)) (hF1 : ∀ j : Nat, l9 ≤ j → (j : Int) < m9 → fit (X a1 j)) (hF2 : ∀ j : Nat, m9 ≤ j → (j : Int) < h9 → fit (X a2 j)) (hdj : ∀ i j : Nat, l9 ≤ i → (i : Int) < m9 → m9 ≤ j → (j : Int) < h9 → X a1 i ≠ X a2 j) : Ct l yX10_mergeParts cX10_mergeParts 14 none 0 0 0 Γ [.null, .ref ds, .int (iI k0), .ref a1, .int (iI l9), .int (iI m9), .ref a2, .int (iI m8), .int (iI h9)] K X Rf (pV (zpv K Rf (fun X' : zX => (∀ b, b ≠ ds → X' b = X b) ∧ (∀ j : Nat, (j : Int) < l9 ∨ h9 ≤ j → X' ds j = X ds j) ∧ srtS l9 h9 (X' ds) ∧ Prw l9 h9 (fun j => if (j : Int) < m9 then X a1 j else X a2 j) (X' ds)))) := by
  refine Ct.ofF (by decide +kernel) (Nat.le_of_ble_eq_true rfl) ?_
  intro p e s m below meth c ls hx hb hr hml hown hG hlocks hname hw hl
  have hl : lv_has ls 14 [(0, .null), (1, .ref ds), (2, .int (iI k0)), (3, .ref a1), (4, .int (iI l9)), (5, .int (iI m9)), (6, .ref a2), (7, .int (iI m8)), (8, .int (iI h9))] := hl
  refine lv_aload_nN (pc := 0) hx hb dX10_mergeParts_0 rfl (lv_at hl 0 rfl) ?_
  refine lv_ifnullN (pc := 1) (tgt := 170) hx hb dX10_mergeParts_1 (by decide) ?_
  have lp170 : ∀ (n170 : Nat) (k : Int) (p1 : Int) (p2 : Int) (XL170 : zX) (H : Heap) (locs : List Loc), (hk9 : k = p1 + p2 - m9) → (hm : MRG l9 m9 h9 (X a1) (X a2) (XL170 ds) p1 p2) → (ho : ∀ b, b ≠ ds → XL170 b = X b) → (hg : ∀ j : Nat, (j : Int) < l9 ∨ k ≤ j → XL170 ds j = X ds j) → ((m9 - p1 + (h9 - p2)).toNat < n170) → Wd Γ (zA K s.heap.size) K XL170 Rf s H locs → ∀ ls : Array Slot, lv_has ls 14 [(0, .null), (1, .ref ds), (2, .int (iI k)), (3, .ref a1), (4, .int (iI p1)), (5, .int (iI m9)), (6, .ref a2), (7, .int (iI p2)), (8, .int (iI h9))] → W p l e (rmL 0 0 0) s m ([.null, .ref ds, .int (iI k0), .ref a1, .int (iI l9), .int (iI m9), .ref a2, .int (iI m8), .int (iI h9)] : List Value).toArray below meth c H locs 0 0 (MQ below (zQ Γ K s.heap.size (pV (zpv K Rf (fun X' : zX => (∀ b, b ≠ ds → X' b = X b) ∧ (∀ j : Nat, (j : Int) < l9 ∨ h9 ≤ j → X' ds j = X ds j) ∧ srtS l9 h9 (X' ds) ∧ Prw l9 h9 (fun j => if (j : Int) < m9 then X a1 j else X a2 j) (X' ds))))) ([.null, .ref ds, .int (iI k0), .ref a1, .int (iI l9), .int (iI m9), .ref a2, .int (iI m8), .int (iI h9)] : List Value).toArray s 0 0 (zA K s.heap.size)) (F0 m 170 ls []) := by
    intro n170
    induction n170 with
    | zero => intro k p1 p2 XL170 H locs hk9 hm ho hg hm170; exact absurd hm170 (Nat.not_lt_zero _)
    | succ n170 ih170 =>
      intro k p1 p2 XL170 H locs hk9 hm ho hg hm170 hw ls hl
      have hm0 := hm.1
      refine lv_iload (pc := 170) hx hb dX10_mergeParts_170 (lv_at hl 4 rfl) ?_
      refine lv_iload (pc := 172) hx hb dX10_mergeParts_172 (lv_at hl 5 rfl) ?_
      refine zicmp_ge (pc := 174) hx hb 223 (by omega) (by omega) dX10_mergeParts_174 (by decide) (fun c174 => ?_) (fun c174 => ?_)
      · skip
        refine lv_aload_n (pc := 223) hx hb dX10_mergeParts_223 rfl (lv_at hl 1 rfl) ?_
        refine lv_aload_n (pc := 224) hx hb dX10_mergeParts_224 rfl (lv_at hl 3 rfl) ?_
        refine zacmp_ne (pc := 225) hx hb 234 dX10_mergeParts_225 (by decide) (fun c225 => ?_) (fun c225 => ?_)
        · skip
          have lp234 : ∀ (n234 : Nat) (k : Int) (p1 : Int) (XL234 : zX) (H : Heap) (locs : List Loc), (hk9 : k = p1 + p2 - m9) → (hm : MRG l9 m9 h9 (X a1) (X a2) (XL234 ds) p1 p2) → (ho : ∀ b, b ≠ ds → XL234 b = X b) → (hg : ∀ j : Nat, (j : Int) < l9 ∨ k ≤ j → XL234 ds j = X ds j) → (hx9 : p1 < m9 → p2 = h9) → ((m9 - p1).toNat < n234) → Wd Γ (zA K s.heap.size) K XL234 Rf s H locs → ∀ ls : Array Slot, lv_has ls 14 [(0, .null), (1, .ref ds), (2, .int (iI k)), (3, .ref a1), (4, .int (iI p1)), (5, .int (iI m9)), (6, .ref a2), (7, .int (iI p2)), (8, .int (iI h9))] → W p l e (rmL 0 0 0) s m ([.null, .ref ds, .int (iI k0), .ref a1, .int (iI l9), .int (iI m9), .ref a2, .int (iI m8), .int (iI h9)] : List Value).toArray below meth c H locs 0 0 (MQ below (zQ Γ K s.heap.size (pV (zpv K Rf (fun X' : zX => (∀ b, b ≠ ds → X' b = X b) ∧ (∀ j : Nat, (j : Int) < l9 ∨ h9 ≤ j → X' ds j = X ds j) ∧ srtS l9 h9 (X' ds) ∧ Prw l9 h9 (fun j => if (j : Int) < m9 then X a1 j else X a2 j) (X' ds))))) ([.null, .ref ds, .int (iI k0), .ref a1, .int (iI l9), .int (iI m9), .ref a2, .int (iI m8), .int (iI h9)] : List Value).toArray s 0 0 (zA K s.heap.size)) (F0 m 234 ls []) := by
            intro n234
            induction n234 with
            | zero => intro k p1 XL234 H locs hk9 hm ho hg hx9 hm234; exact absurd hm234 (Nat.not_lt_zero _)
            | succ n234 ih234 =>
              intro k p1 XL234 H locs hk9 hm ho hg hx9 hm234 hw ls hl
              have hm0 := hm.1
              refine lv_iload (pc := 234) hx hb dX10_mergeParts_234 (lv_at hl 4 rfl) ?_
              refine lv_iload (pc := 236) hx hb dX10_mergeParts_236 (lv_at hl 5 rfl) ?_
              refine zicmp_ge (pc := 238) hx hb 257 (by omega) (by omega) dX10_mergeParts_238 (by decide) (fun c238 => ?_) (fun c238 => ?_)
              · skip
                refine lv_aload_n (pc := 257) hx hb dX10_mergeParts_257 rfl (lv_at hl 1 rfl) ?_
                refine lv_aload (pc := 258) hx hb dX10_mergeParts_258 (lv_at hl 6 rfl) ?_
                refine zacmp_ne (pc := 260) hx hb 269 dX10_mergeParts_260 (by decide) (fun c260 => ?_) (fun c260 => ?_)
                · skip
                  have lp269 : ∀ (n269 : Nat) (k : Int) (p2 : Int) (XL269 : zX) (H : Heap) (locs : List Loc), (hk9 : k = p1 + p2 - m9) → (hm : MRG l9 m9 h9 (X a1) (X a2) (XL269 ds) p1 p2) → (ho : ∀ b, b ≠ ds → XL269 b = X b) → (hg : ∀ j : Nat, (j : Int) < l9 ∨ k ≤ j → XL269 ds j = X ds j) → ((h9 - p2).toNat < n269) → Wd Γ (zA K s.heap.size) K XL269 Rf s H locs → ∀ ls : Array Slot, lv_has ls 14 [(0, .null), (1, .ref ds), (2, .int (iI k)), (3, .ref a1), (4, .int (iI p1)), (5, .int (iI m9)), (6, .ref a2), (7, .int (iI p2)), (8, .int (iI h9))] → W p l e (rmL 0 0 0) s m ([.null, .ref ds, .int (iI k0), .ref a1, .int (iI l9), .int (iI m9), .ref a2, .int (iI m8), .int (iI h9)] : List Value).toArray below meth c H locs 0 0 (MQ below (zQ Γ K s.heap.size (pV (zpv K Rf (fun X' : zX => (∀ b, b ≠ ds → X' b = X b) ∧ (∀ j : Nat, (j : Int) < l9 ∨ h9 ≤ j → X' ds j = X ds j) ∧ srtS l9 h9 (X' ds) ∧ Prw l9 h9 (fun j => if (j : Int) < m9 then X a1 j else X a2 j) (X' ds))))) ([.null, .ref ds, .int (iI k0), .ref a1, .int (iI l9), .int (iI m9), .ref a2, .int (iI m8), .int (iI h9)] : List Value).toArray s 0 0 (zA K s.heap.size)) (F0 m 269 ls []) := by
                    intro n269
                    induction n269 with
                    | zero => intro k p2 XL269 H locs hk9 hm ho hg hm269; exact absurd hm269 (Nat.not_lt_zero _)
                    | succ n269 ih269 =>
                      intro k p2 XL269 H locs hk9 hm ho hg hm269 hw ls hl
                      have hm0 := hm.1
                      refine lv_iload (pc := 269) hx hb dX10_mergeParts_269 (lv_at hl 7 rfl) ?_
                      refine lv_iload (pc := 271) hx hb dX10_mergeParts_271 (lv_at hl 8 rfl) ?_
                      refine zicmp_ge (pc := 273) hx hb 293 (by omega) (by omega) dX10_mergeParts_273 (by decide) (fun c273 => ?_) (fun c273 => ?_)
                      · skip
                        exact zretV (pc := 293) hx hb hlocks hr hw (Nat.zero_le _) (Nat.zero_le _) dX10_mergeParts_293 ⟨by (try dsimp only) <;> (
                                        have e1 : p1 = m9 := by omega
                                        have hM : MRG l9 m9 h9 (X a1) (X a2) (XL269 ds) m9 h9 := by
                                          first
                                          | (rw [e1, show p2 = h9 by omega] at hm; exact hm)
                                          | (rw [e1] at hm; exact MRG.tail h2s _ p2 rfl hm (fun j g1 g2 => by rw [hg j (Or.inr (by omega)), c260]))
                                        exact ⟨ho, fun j hj => hg j (by omega), hM.done⟩), rfl, rfl⟩
                      · skip
                        have hr2 : XL269 a2 p2.toNat = X a2 p2.toNat := by
                          by_cases g : a2 = ds
                          · rw [g]; exact hg p2.toNat (Or.inr (by omega))
                          · rw [ho a2 g]
                        refine lv_aload_n (pc := 276) hx hb dX10_mergeParts_276 rfl (lv_at hl 1 rfl) ?_
                        refine lv_iload_n (pc := 277) hx hb dX10_mergeParts_277 rfl (lv_at hl 2 rfl) ?_
                        refine ziinc (pc := 278) (lv' := [(2, .int (iI (k + 1))), (0, .null), (1, .ref ds), (3, .ref a1), (4, .int (iI p1)), (5, .int (iI m9)), (6, .ref a2), (7, .int (iI p2)), (8, .int (iI h9))]) hx hb 2 dX10_mergeParts_278 hl rfl (by decide) rfl (fun ls hl => ?_)
                        obtain ⟨x278, ex278⟩ : ∃ zz : Int, zz = (k + 1) := ⟨_, rfl⟩
                        rw [← ex278] at hl
                        refine lv_aload (pc := 281) hx hb dX10_mergeParts_281 (lv_at hl 6 rfl) ?_
                        refine lv_iload (pc := 283) hx hb dX10_mergeParts_283 (lv_at hl 7 rfl) ?_
                        refine ziinc (pc := 285) (lv' := [(7, .int (iI (p2 + 1))), (2, .int (iI x278)), (0, .null), (1, .ref ds), (3, .ref a1), (4, .int (iI p1)), (5, .int (iI m9)), (6, .ref a2), (8, .int (iI h9))]) hx hb 7 dX10_mergeParts_285 hl rfl (by decide) rfl (fun ls hl => ?_)
                        obtain ⟨x285, ex285⟩ : ∃ zz : Int, zz = (p2 + 1) := ⟨_, rfl⟩
                        rw [← ex285] at hl
                        refine zald (pc := 288) hx hb hw hk2 ⟨by omega, by omega⟩ (by omega) dX10_mergeParts_288 ?_
                        refine zast (pc := 289) hx hb hw hkd ⟨by omega, by omega⟩ (by omega) dX10_mergeParts_289 (fun H locs hw => ?_)
                        obtain ⟨X289, eX289⟩ : ∃ Y : zX, Y = up2 XL269 ds k.toNat (XL269 a2 p2.toNat) := ⟨_, rfl⟩
                        rw [← eX289] at hw
                        refine lv_goto (pc := 290) (tgt := 269) hx hb dX10_mergeParts_290 (by decide) ?_
                        exact ih269 x278 x285 X289 _ _ (by omega) (by rw [show x285 = p2 + 1 by omega]; exact hm.s2 (by omega) (fun w => by omega) h2s (by rw [eX289, up2_row, hr2, show k.toNat = (p1 + p2 - m9).toNat by omega])) (by exact fun b hb => by rw [eX289, up2_o hb]; exact ho b hb) (by exact fun j hj => by rw [eX289, up2_k (by omega)]; exact hg j (by omega)) (by omega) hw _ (lv_sub hl [2, 3, 1, 4, 5, 6, 7, 0, 8] rfl)
                  exact lp269 _ k p2 XL234 _ _ (by (first | assumption | omega)) (by exact hm) (by exact ho) (by exact hg) (Nat.lt_succ_self _) hw _ (lv_sub hl [0, 1, 2, 3, 4, 5, 6, 7, 8] rfl)
                · skip
                  refine lv_iload_n (pc := 263) hx hb dX10_mergeParts_263 rfl (lv_at hl 2 rfl) ?_
                  refine lv_iload (pc := 264) hx hb dX10_mergeParts_264 (lv_at hl 7 rfl) ?_
                  refine zicmp_ge (pc := 266) hx hb 293 (by omega) (by omega) dX10_mergeParts_266 (by decide) (fun c266 => ?_) (fun c266 => ?_)
                  · skip
                    exact zretV (pc := 293) hx hb hlocks hr hw (Nat.zero_le _) (Nat.zero_le _) dX10_mergeParts_293 ⟨by (try dsimp only) <;> (
                                        have e1 : p1 = m9 := by omega
                                        have hM : MRG l9 m9 h9 (X a1) (X a2) (XL234 ds) m9 h9 := by
                                          first
                                          | (rw [e1, show p2 = h9 by omega] at hm; exact hm)
                                          | (rw [e1] at hm; exact MRG.tail h2s _ p2 rfl hm (fun j g1 g2 => by rw [hg j (Or.inr (by omega)), c260]))
                                        exact ⟨ho, fun j hj => hg j (by omega), hM.done⟩), rfl, rfl⟩
                  · skip
                    exfalso; omega
              · skip
                have hr1 : XL234 a1 p1.toNat = X a1 p1.toNat := by rw [ho a1 hd1]
                refine lv_aload_n (pc := 241) hx hb dX10_mergeParts_241 rfl (lv_at hl 1 rfl) ?_
                refine lv_iload_n (pc := 242) hx hb dX10_mergeParts_242 rfl (lv_at hl 2 rfl) ?_
                refine ziinc (pc := 243) (lv' := [(2, .int (iI (k + 1))), (0, .null), (1, .ref ds), (3, .ref a1), (4, .int (iI p1)), (5, .int (iI m9)), (6, .ref a2), (7, .int (iI p2)), (8, .int (iI h9))]) hx hb 2 dX10_mergeParts_243 hl rfl (by decide) rfl (fun ls hl => ?_)
                obtain ⟨x243, ex243⟩ : ∃ zz : Int, zz = (k + 1) := ⟨_, rfl⟩
                rw [← ex243] at hl
                refine lv_aload_n (pc := 246) hx hb dX10_mergeParts_246 rfl (lv_at hl 3 rfl) ?_
                refine lv_iload (pc := 247) hx hb dX10_mergeParts_247 (lv_at hl 4 rfl) ?_
                refine ziinc (pc := 249) (lv' := [(4, .int (iI (p1 + 1))), (2, .int (iI x243)), (0, .null), (1, .ref ds), (3, .ref a1), (5, .int (iI m9)), (6, .ref a2), (7, .int (iI p2)), (8, .int (iI h9))]) hx hb 4 dX10_mergeParts_249 hl rfl (by decide) rfl (fun ls hl => ?_)
                obtain ⟨x249, ex249⟩ : ∃ zz : Int, zz = (p1 + 1) := ⟨_, rfl⟩
                rw [← ex249] at hl
                refine zald (pc := 252) hx hb hw hk1 ⟨by omega, by omega⟩ (by omega) dX10_mergeParts_252 ?_
                refine zast (pc := 253) hx hb hw hkd ⟨by omega, by omega⟩ (by omega) dX10_mergeParts_253 (fun H locs hw => ?_)
                obtain ⟨X253, eX253⟩ : ∃ Y : zX, Y = up2 XL234 ds k.toNat (XL234 a1 p1.toNat) := ⟨_, rfl⟩
                rw [← eX253] at hw
                refine lv_goto (pc := 254) (tgt := 234) hx hb dX10_mergeParts_254 (by decide) ?_
                exact ih234 x243 x249 X253 _ _ (by omega) (by rw [show x249 = p1 + 1 by omega]; exact hm.s1 (by omega) (fun w => by omega) h1s (by rw [eX253, up2_row, hr1, show k.toNat = (p1 + p2 - m9).toNat by omega])) (by exact fun b hb => by rw [eX253, up2_o hb]; exact ho b hb) (by exact fun j hj => by rw [eX253, up2_k (by omega)]; exact hg j (by omega)) (by (first | assumption | omega)) (by omega) hw _ (lv_sub hl [2, 3, 1, 4, 0, 5, 6, 7, 8] rfl)
          exact lp234 _ k p1 XL170 _ _ (by (first | assumption | omega)) (by exact hm) (by exact ho) (by exact hg) (by (first | assumption | omega)) (Nat.lt_succ_self _) hw _ (lv_sub hl [0, 1, 2, 3, 4, 5, 6, 7, 8] rfl)
        · skip
          exact absurd c225.symm hd1
      · skip
        refine lv_iload (pc := 177) hx hb dX10_mergeParts_177 (lv_at hl 7 rfl) ?_
        refine lv_iload (pc := 179) hx hb dX10_mergeParts_179 (lv_at hl 8 rfl) ?_
        refine zicmp_ge (pc := 181) hx hb 223 (by omega) (by omega) dX10_mergeParts_181 (by decide) (fun c181 => ?_) (fun c181 => ?_)
        · skip
          refine lv_aload_n (pc := 223) hx hb dX10_mergeParts_223 rfl (lv_at hl 1 rfl) ?_
          refine lv_aload_n (pc := 224) hx hb dX10_mergeParts_224 rfl (lv_at hl 3 rfl) ?_
          refine zacmp_ne (pc := 225) hx hb 234 dX10_mergeParts_225 (by decide) (fun c225 => ?_) (fun c225 => ?_)
          · skip
            have lp234 : ∀ (n234 : Nat) (k : Int) (p1 : Int) (XL234 : zX) (H : Heap) (locs : List Loc), (hk9 : k = p1 + p2 - m9) → (hm : MRG l9 m9 h9 (X a1) (X a2) (XL234 ds) p1 p2) → (ho : ∀ b, b ≠ ds → XL234 b = X b) → (hg : ∀ j : Nat, (j : Int) < l9 ∨ k ≤ j → XL234 ds j = X ds j) → (hx9 : p1 < m9 → p2 = h9) → ((m9 - p1).toNat < n234) → Wd Γ (zA K s.heap.size) K XL234 Rf s H locs → ∀ ls : Array Slot, lv_has ls 14 [(0, .null), (1, .ref ds), (2, .int (iI k)), (3, .ref a1), (4, .int (iI p1)), (5, .int (iI m9)), (6, .ref a2), (7, .int (iI p2)), (8, .int (iI h9))] → W p l e (rmL 0 0 0) s m ([.null, .ref ds, .int (iI k0), .ref a1, .int (iI l9), .int (iI m9), .ref a2, .int (iI m8), .int (iI h9)] : List Value).toArray below meth c H locs 0 0 (MQ below (zQ Γ K s.heap.size (pV (zpv K Rf (fun X' : zX => (∀ b, b ≠ ds → X' b = X b) ∧ (∀ j : Nat, (j : Int) < l9 ∨ h9 ≤ j → X' ds j = X ds j) ∧ srtS l9 h9 (X' ds) ∧ Prw l9 h9 (fun j => if (j : Int) < m9 then X a1 j else X a2 j) (X' ds))))) ([.null, .ref ds, .int (iI k0), .ref a1, .int (iI l9), .int (iI m9), .ref a2, .int (iI m8), .int (iI h9)] : List Value).toArray s 0 0 (zA K s.heap.size)) (F0 m 234 ls []) := by
              intro n234
              induction n234 with
              | zero => intro k p1 XL234 H locs hk9 hm ho hg hx9 hm234; exact absurd hm234 (Nat.not_lt_zero _)
              | succ n234 ih234 =>
                intro k p1 XL234 H locs hk9 hm ho hg hx9 hm234 hw ls hl
                have hm0 := hm.1
                refine lv_iload (pc := 234) hx hb dX10_mergeParts_234 (lv_at hl 4 rfl) ?_
                refine lv_iload (pc := 236) hx hb dX10_mergeParts_236 (lv_at hl 5 rfl) ?_
                refine zicmp_ge (pc := 238) hx hb 257 (by omega) (by omega) dX10_mergeParts_238 (by decide) (fun c238 => ?_) (fun c238 => ?_)
                · skip
                  refine lv_aload_n (pc := 257) hx hb dX10_mergeParts_257 rfl (lv_at hl 1 rfl) ?_
                  refine lv_aload (pc := 258) hx hb dX10_mergeParts_258 (lv_at hl 6 rfl) ?_
                  refine zacmp_ne (pc := 260) hx hb 269 dX10_mergeParts_260 (by decide) (fun c260 => ?_) (fun c260 => ?_)
                  · skip
                    have lp269 : ∀ (n269 : Nat) (k : Int) (p2 : Int) (XL269 : zX) (H : Heap) (locs : List Loc), (hk9 : k = p1 + p2 - m9) → (hm : MRG l9 m9 h9 (X a1) (X a2) (XL269 ds) p1 p2) → (ho : ∀ b, b ≠ ds → XL269 b = X b) → (hg : ∀ j : Nat, (j : Int) < l9 ∨ k ≤ j → XL269 ds j = X ds j) → ((h9 - p2).toNat < n269) → Wd Γ (zA K s.heap.size) K XL269 Rf s H locs → ∀ ls : Array Slot, lv_has ls 14 [(0, .null), (1, .ref ds), (2, .int (iI k)), (3, .ref a1), (4, .int (iI p1)), (5, .int (iI m9)), (6, .ref a2), (7, .int (iI p2)), (8, .int (iI h9))] → W p l e (rmL 0 0 0) s m ([.null, .ref ds, .int (iI k0), .ref a1, .int (iI l9), .int (iI m9), .ref a2, .int (iI m8), .int (iI h9)] : List Value).toArray below meth c H locs 0 0 (MQ below (zQ Γ K s.heap.size (pV (zpv K Rf (fun X' : zX => (∀ b, b ≠ ds → X' b = X b) ∧ (∀ j : Nat, (j : Int) < l9 ∨ h9 ≤ j → X' ds j = X ds j) ∧ srtS l9 h9 (X' ds) ∧ Prw l9 h9 (fun j => if (j : Int) < m9 then X a1 j else X a2 j) (X' ds))))) ([.null, .ref ds, .int (iI k0), .ref a1, .int (iI l9), .int (iI m9), .ref a2, .int (iI m8), .int (iI h9)] : List Value).toArray s 0 0 (zA K s.heap.size)) (F0 m 269 ls []) := by
                      intro n269
                      induction n269 with
                      | zero => intro k p2 XL269 H locs hk9 hm ho hg hm269; exact absurd hm269 (Nat.not_lt_zero _)
                      | succ n269 ih269 =>
                        intro k p2 XL269 H locs hk9 hm ho hg hm269 hw ls hl
                        have hm0 := hm.1
                        refine lv_iload (pc := 269) hx hb dX10_mergeParts_269 (lv_at hl 7 rfl) ?_
                        refine lv_iload (pc := 271) hx hb dX10_mergeParts_271 (lv_at hl 8 rfl) ?_
                        refine zicmp_ge (pc := 273) hx hb 293 (by omega) (by omega) dX10_mergeParts_273 (by decide) (fun c273 => ?_) (fun c273 => ?_)
                        · skip
                          exact zretV (pc := 293) hx hb hlocks hr hw (Nat.zero_le _) (Nat.zero_le _) dX10_mergeParts_293 ⟨by (try dsimp only) <;> (
                                        have e1 : p1 = m9 := by omega
                                        have hM : MRG l9 m9 h9 (X a1) (X a2) (XL269 ds) m9 h9 := by
                                          first
                                          | (rw [e1, show p2 = h9 by omega] at hm; exact hm)
                                          | (rw [e1] at hm; exact MRG.tail h2s _ p2 rfl hm (fun j g1 g2 => by rw [hg j (Or.inr (by omega)), c260]))
                                        exact ⟨ho, fun j hj => hg j (by omega), hM.done⟩), rfl, rfl⟩
                        · skip
                          have hr2 : XL269 a2 p2.toNat = X a2 p2.toNat := by
                            by_cases g : a2 = ds
                            · rw [g]; exact hg p2.toNat (Or.inr (by omega))
                            · rw [ho a2 g]
                          refine lv_aload_n (pc := 276) hx hb dX10_mergeParts_276 rfl (lv_at hl 1 rfl) ?_
                          refine lv_iload_n (pc := 277) hx hb dX10_mergeParts_277 rfl (lv_at hl 2 rfl) ?_
                          refine ziinc (pc := 278) (lv' := [(2, .int (iI (k + 1))), (0, .null), (1, .ref ds), (3, .ref a1), (4, .int (iI p1)), (5, .int (iI m9)), (6, .ref a2), (7, .int (iI p2)), (8, .int (iI h9))]) hx hb 2 dX10_mergeParts_278 hl rfl (by decide) rfl (fun ls hl => ?_)
                          obtain ⟨x278, ex278⟩ : ∃ zz : Int, zz = (k + 1) := ⟨_, rfl⟩
                          rw [← ex278] at hl
                          refine lv_aload (pc := 281) hx hb dX10_mergeParts_281 (lv_at hl 6 rfl) ?_
                          refine lv_iload (pc := 283) hx hb dX10_mergeParts_283 (lv_at hl 7 rfl) ?_
                          refine ziinc (pc := 285) (lv' := [(7, .int (iI (p2 + 1))), (2, .int (iI x278)), (0, .null), (1, .ref ds), (3, .ref a1), (4, .int (iI p1)), (5, .int (iI m9)), (6, .ref a2), (8, .int (iI h9))]) hx hb 7 dX10_mergeParts_285 hl rfl (by decide) rfl (fun ls hl => ?_)
                          obtain ⟨x285, ex285⟩ : ∃ zz : Int, zz = (p2 + 1) := ⟨_, rfl⟩
                          rw [← ex285] at hl
                          refine zald (pc := 288) hx hb hw hk2 ⟨by omega, by omega⟩ (by omega) dX10_mergeParts_288 ?_
                          refine zast (pc := 289) hx hb hw hkd ⟨by omega, by omega⟩ (by omega) dX10_mergeParts_289 (fun H locs hw => ?_)
                          obtain ⟨X289, eX289⟩ : ∃ Y : zX, Y = up2 XL269 ds k.toNat (XL269 a2 p2.toNat) := ⟨_, rfl⟩
                          rw [← eX289] at hw
                          refine lv_goto (pc := 290) (tgt := 269) hx hb dX10_mergeParts_290 (by decide) ?_
                          exact ih269 x278 x285 X289 _ _ (by omega) (by rw [show x285 = p2 + 1 by omega]; exact hm.s2 (by omega) (fun w => by omega) h2s (by rw [eX289, up2_row, hr2, show k.toNat = (p1 + p2 - m9).toNat by omega])) (by exact fun b hb => by rw [eX289, up2_o hb]; exact ho b hb) (by exact fun j hj => by rw [eX289, up2_k (by omega)]; exact hg j (by omega)) (by omega) hw _ (lv_sub hl [2, 3, 1, 4, 5, 6, 7, 0, 8] rfl)
                    exact lp269 _ k p2 XL234 _ _ (by (first | assumption | omega)) (by exact hm) (by exact ho) (by exact hg) (Nat.lt_succ_self _) hw _ (lv_sub hl [0, 1, 2, 3, 4, 5, 6, 7, 8] rfl)
                  · skip
                    refine lv_iload_n (pc := 263) hx hb dX10_mergeParts_263 rfl (lv_at hl 2 rfl) ?_
                    refine lv_iload (pc := 264) hx hb dX10_mergeParts_264 (lv_at hl 7 rfl) ?_
                    refine zicmp_ge (pc := 266) hx hb 293 (by omega) (by omega) dX10_mergeParts_266 (by decide) (fun c266 => ?_) (fun c266 => ?_)
                    · skip
                      exact zretV (pc := 293) hx hb hlocks hr hw (Nat.zero_le _) (Nat.zero_le _) dX10_mergeParts_293 ⟨by (try dsimp only) <;> (
                                        have e1 : p1 = m9 := by omega
                                        have hM : MRG l9 m9 h9 (X a1) (X a2) (XL234 ds) m9 h9 := by
                                          first
                                          | (rw [e1, show p2 = h9 by omega] at hm; exact hm)
                                          | (rw [e1] at hm; exact MRG.tail h2s _ p2 rfl hm (fun j g1 g2 => by rw [hg j (Or.inr (by omega)), c260]))
                                        exact ⟨ho, fun j hj => hg j (by omega), hM.done⟩), rfl, rfl⟩
                    · skip
                      exfalso; omega
                · skip
                  have hr1 : XL234 a1 p1.toNat = X a1 p1.toNat := by rw [ho a1 hd1]
                  refine lv_aload_n (pc := 241) hx hb dX10_mergeParts_241 rfl (lv_at hl 1 rfl) ?_
                  refine lv_iload_n (pc := 242) hx hb dX10_mergeParts_242 rfl (lv_at hl 2 rfl) ?_
                  refine ziinc (pc := 243) (lv' := [(2, .int (iI (k + 1))), (0, .null), (1, .ref ds), (3, .ref a1), (4, .int (iI p1)), (5, .int (iI m9)), (6, .ref a2), (7, .int (iI p2)), (8, .int (iI h9))]) hx hb 2 dX10_mergeParts_243 hl rfl (by decide) rfl (fun ls hl => ?_)
                  obtain ⟨x243, ex243⟩ : ∃ zz : Int, zz = (k + 1) := ⟨_, rfl⟩
                  rw [← ex243] at hl
                  refine lv_aload_n (pc := 246) hx hb dX10_mergeParts_246 rfl (lv_at hl 3 rfl) ?_
                  refine lv_iload (pc := 247) hx hb dX10_mergeParts_247 (lv_at hl 4 rfl) ?_
                  refine ziinc (pc := 249) (lv' := [(4, .int (iI (p1 + 1))), (2, .int (iI x243)), (0, .null), (1, .ref ds), (3, .ref a1), (5, .int (iI m9)), (6, .ref a2), (7, .int (iI p2)), (8, .int (iI h9))]) hx hb 4 dX10_mergeParts_249 hl rfl (by decide) rfl (fun ls hl => ?_)
                  obtain ⟨x249, ex249⟩ : ∃ zz : Int, zz = (p1 + 1) := ⟨_, rfl⟩
                  rw [← ex249] at hl
                  refine zald (pc := 252) hx hb hw hk1 ⟨by omega, by omega⟩ (by omega) dX10_mergeParts_252 ?_
                  refine zast (pc := 253) hx hb hw hkd ⟨by omega, by omega⟩ (by omega) dX10_mergeParts_253 (fun H locs hw => ?_)
                  obtain ⟨X253, eX253⟩ : ∃ Y : zX, Y = up2 XL234 ds k.toNat (XL234 a1 p1.toNat) := ⟨_, rfl⟩
                  rw [← eX253] at hw
                  refine lv_goto (pc := 254) (tgt := 234) hx hb dX10_mergeParts_254 (by decide) ?_
                  exact ih234 x243 x249 X253 _ _ (by omega) (by rw [show x249 = p1 + 1 by omega]; exact hm.s1 (by omega) (fun w => by omega) h1s (by rw [eX253, up2_row, hr1, show k.toNat = (p1 + p2 - m9).toNat by omega])) (by exact fun b hb => by rw [eX253, up2_o hb]; exact ho b hb) (by exact fun j hj => by rw [eX253, up2_k (by omega)]; exact hg j (by omega)) (by (first | assumption | omega)) (by omega) hw _ (lv_sub hl [2, 3, 1, 4, 0, 5, 6, 7, 8] rfl)
            exact lp234 _ k p1 XL170 _ _ (by (first | assumption | omega)) (by exact hm) (by exact ho) (by exact hg) (by (first | assumption | omega)) (Nat.lt_succ_self _) hw _ (lv_sub hl [0, 1, 2, 3, 4, 5, 6, 7, 8] rfl)
          · skip
            exact absurd c225.symm hd1
        · skip
          have hr1 : XL170 a1 p1.toNat = X a1 p1.toNat := by rw [ho a1 hd1]
          have hr2 : XL170 a2 p2.toNat = X a2 p2.toNat := by
            by_cases g : a2 = ds
            · rw [g]; exact hg p2.toNat (Or.inr (by omega))
            · rw [ho a2 g]
          have hf1 := hF1 p1.toNat (by omega) (by omega)
          have hf2 := hF2 p2.toNat (by omega) (by omega)
          have hdd := hdj p1.toNat p2.toNat (by omega) (by omega) (by omega) (by omega)
          refine lv_aload_n (pc := 184) hx hb dX10_mergeParts_184 rfl (lv_at hl 1 rfl) ?_
          refine lv_iload_n (pc := 185) hx hb dX10_mergeParts_185 rfl (lv_at hl 2 rfl) ?_
          refine ziinc (pc := 186) (lv' := [(2, .int (iI (k + 1))), (0, .null), (1, .ref ds), (3, .ref a1), (4, .int (iI p1)), (5, .int (iI m9)), (6, .ref a2), (7, .int (iI p2)), (8, .int (iI h9))]) hx hb 2 dX10_mergeParts_186 hl rfl (by decide) rfl (fun ls hl => ?_)
          obtain ⟨x186, ex186⟩ : ∃ zz : Int, zz = (k + 1) := ⟨_, rfl⟩
          rw [← ex186] at hl
          refine lv_aload_n (pc := 189) hx hb dX10_mergeParts_189 rfl (lv_at hl 3 rfl) ?_
          refine lv_iload (pc := 190) hx hb dX10_mergeParts_190 (lv_at hl 4 rfl) ?_
          refine zald (pc := 192) hx hb hw hk1 ⟨by omega, by omega⟩ (by omega) dX10_mergeParts_192 ?_
          refine lv_aload (pc := 193) hx hb dX10_mergeParts_193 (lv_at hl 6 rfl) ?_
          refine lv_iload (pc := 195) hx hb dX10_mergeParts_195 (lv_at hl 7 rfl) ?_
          refine zald (pc := 197) hx hb hw hk2 ⟨by omega, by omega⟩ (by omega) dX10_mergeParts_197 ?_
          refine zicmp_ge (pc := 198) hx hb 211 (by omega) (by omega) dX10_mergeParts_198 (by decide) (fun c198 => ?_) (fun c198 => ?_)
          · skip
            have hlt9 : X a2 p2.toNat < X a1 p1.toNat := by omega
            refine lv_aload (pc := 211) hx hb dX10_mergeParts_211 (lv_at hl 6 rfl) ?_
            refine lv_iload (pc := 213) hx hb dX10_mergeParts_213 (lv_at hl 7 rfl) ?_
            refine ziinc (pc := 215) (lv' := [(7, .int (iI (p2 + 1))), (2, .int (iI x186)), (0, .null), (1, .ref ds), (3, .ref a1), (4, .int (iI p1)), (5, .int (iI m9)), (6, .ref a2), (8, .int (iI h9))]) hx hb 7 dX10_mergeParts_215 hl rfl (by decide) rfl (fun ls hl => ?_)
            obtain ⟨x215, ex215⟩ : ∃ zz : Int, zz = (p2 + 1) := ⟨_, rfl⟩
            rw [← ex215] at hl
            refine zald (pc := 218) hx hb hw hk2 ⟨by omega, by omega⟩ (by omega) dX10_mergeParts_218 ?_
            refine zast (pc := 219) hx hb hw hkd ⟨by omega, by omega⟩ (by omega) dX10_mergeParts_219 (fun H locs hw => ?_)
            obtain ⟨X219, eX219⟩ : ∃ Y : zX, Y = up2 XL170 ds k.toNat (XL170 a2 p2.toNat) := ⟨_, rfl⟩
            rw [← eX219] at hw
            refine lv_goto (pc := 220) (tgt := 170) hx hb dX10_mergeParts_220 (by decide) ?_
            exact ih170 x186 p1 x215 X219 _ _ (by omega) (by first | (rw [show x204 = p1 + 1 by omega]; exact hm.s1 (by omega) (fun _ => by omega) h1s (by rw [eX219, up2_row, hr1, show k.toNat = (p1 + p2 - m9).toNat by omega])) | (rw [show x215 = p2 + 1 by omega]; exact hm.s2 (by omega) (fun _ => hlt9) h2s (by rw [eX219, up2_row, hr2, show k.toNat = (p1 + p2 - m9).toNat by omega]))) (by exact fun b hb => by rw [eX219, up2_o hb]; exact ho b hb) (by exact fun j hj => by rw [eX219, up2_k (by omega)]; exact hg j (by omega)) (by omega) hw _ (lv_sub hl [2, 3, 1, 4, 5, 6, 7, 0, 8] rfl)
          · skip
            refine lv_aload_n (pc := 201) hx hb dX10_mergeParts_201 rfl (lv_at hl 3 rfl) ?_
            refine lv_iload (pc := 202) hx hb dX10_mergeParts_202 (lv_at hl 4 rfl) ?_
            refine ziinc (pc := 204) (lv' := [(4, .int (iI (p1 + 1))), (2, .int (iI x186)), (0, .null), (1, .ref ds), (3, .ref a1), (5, .int (iI m9)), (6, .ref a2), (7, .int (iI p2)), (8, .int (iI h9))]) hx hb 4 dX10_mergeParts_204 hl rfl (by decide) rfl (fun ls hl => ?_)
            obtain ⟨x204, ex204⟩ : ∃ zz : Int, zz = (p1 + 1) := ⟨_, rfl⟩
            rw [← ex204] at hl
            refine zald (pc := 207) hx hb hw hk1 ⟨by omega, by omega⟩ (by omega) dX10_mergeParts_207 ?_
            refine lv_goto (pc := 208) (tgt := 219) hx hb dX10_mergeParts_208 (by decide) ?_
            refine zast (pc := 219) hx hb hw hkd ⟨by omega, by omega⟩ (by omega) dX10_mergeParts_219 (fun H locs hw => ?_)
            obtain ⟨X219, eX219⟩ : ∃ Y : zX, Y = up2 XL170 ds k.toNat (XL170 a1 p1.toNat) := ⟨_, rfl⟩
            rw [← eX219] at hw
            refine lv_goto (pc := 220) (tgt := 170) hx hb dX10_mergeParts_220 (by decide) ?_
            exact ih170 x186 x204 p2 X219 _ _ (by omega) (by first | (rw [show x204 = p1 + 1 by omega]; exact hm.s1 (by omega) (fun _ => by omega) h1s (by rw [eX219, up2_row, hr1, show k.toNat = (p1 + p2 - m9).toNat by omega])) | (rw [show x215 = p2 + 1 by omega]; exact hm.s2 (by omega) (fun _ => hlt9) h2s (by rw [eX219, up2_row, hr2, show k.toNat = (p1 + p2 - m9).toNat by omega]))) (by exact fun b hb => by rw [eX219, up2_o hb]; exact ho b hb) (by exact fun j hj => by rw [eX219, up2_k (by omega)]; exact hg j (by omega)) (by omega) hw _ (lv_sub hl [2, 3, 1, 4, 0, 5, 6, 7, 8] rfl)
  exact lp170 _ k0 l9 m8 X _ _ (by (first | assumption | omega)) (by rw [h1.1.2]; exact MRG.zero ⟨by omega, by omega, by omega⟩) (by exact fun _ _ => rfl) (by exact fun _ _ => rfl) (Nat.lt_succ_self _) hw _ (lv_sub hl [0, 1, 2, 3, 4, 5, 6, 7, 8] rfl)
