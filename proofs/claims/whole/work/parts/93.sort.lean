set_option maxHeartbeats 4000000 in
set_option maxRecDepth 100000 in
theorem c_X10_mixedInsertionSort (l : Launch) (Γ : zG) (K : zK) (X : zX) (Rf : zR) (a : Nat) (lo : Int) (en : Int) (hi : Int) (n : Nat) (hka : K a = (2, n)) (hn : n ≤ 20000) (h1 : (1 ≤ lo ∧ lo ≤ en ∧ en ≤ hi ∧ hi ≤ n) ∧ (en < hi → lo < en) ∧ (hi - en) % 2 = 0) (hF : ∀ j : Nat, lo - 1 ≤ j → (j : Int) < hi → fit (X a j)) (hsn : ∀ m : Nat, lo ≤ m → (m : Int) < hi → X a (lo - 1).toNat ≤ X a m) : Ct l yX10_mixedInsertionSort cX10_mixedInsertionSort 8 none 0 0 0 Γ [.ref a, .int (iI lo), .int (iI en), .int (iI hi)] K X Rf (pV (zpv K Rf (fun X' : zX => (∀ b, b ≠ a → X' b = X b) ∧ Swp lo hi (X a) (X' a) ∧ srtR lo hi (X' a)))) := by
  refine Ct.ofF (by decide +kernel) (Nat.le_of_ble_eq_true rfl) ?_
  intro p e s m below meth c ls hx hb hr hml hown hG hlocks hname hw hl
  have hl : lv_has ls 8 [(0, .ref a), (1, .int (iI lo)), (2, .int (iI en)), (3, .int (iI hi))] := hl
  refine lv_iload_n (pc := 0) hx hb dX10_mixedInsertionSort_0 rfl (lv_at hl 2 rfl) ?_
  refine lv_iload_n (pc := 1) hx hb dX10_mixedInsertionSort_1 rfl (lv_at hl 3 rfl) ?_
  refine zicmp_ne (pc := 2) hx hb 60 (by omega) (by omega) dX10_mixedInsertionSort_2 (by decide) (fun c2 => ?_) (fun c2 => ?_)
  · skip
    have hf0 := hF en.toNat (by omega) (by omega)
    have hs0 := hsn en.toNat (by omega) (by omega)
    refine lv_aload_n (pc := 60) hx hb dX10_mixedInsertionSort_60 rfl (lv_at hl 0 rfl) ?_
    refine lv_iload_n (pc := 61) hx hb dX10_mixedInsertionSort_61 rfl (lv_at hl 2 rfl) ?_
    refine zald (pc := 62) hx hb hw hka ⟨by omega, by omega⟩ (by omega) dX10_mixedInsertionSort_62 ?_
    refine ztop (fun x63 ex63 => ?_)
    refine lv_istore (pc := 63) (lv' := [(4, .int (iI x63)), (0, .ref a), (1, .int (iI lo)), (2, .int (iI en)), (3, .int (iI hi))]) hx hb dX10_mixedInsertionSort_63 hl (by decide) rfl (fun ls hl => ?_)
    refine lv_iload_n (pc := 65) hx hb dX10_mixedInsertionSort_65 rfl (lv_at hl 4 rfl) ?_
    refine lv_istore (pc := 66) (lv' := [(6, .int (iI hi)), (4, .int (iI x63)), (0, .ref a), (1, .int (iI lo)), (2, .int (iI en)), (3, .int (iI hi))]) hx hb dX10_mixedInsertionSort_66 hl (by decide) rfl (fun ls hl => ?_)
    have lp68 : ∀ (n68 : Nat) (pp : Int) (kk : Int) (XL68 : zX) (H : Heap) (locs : List Loc), (hk9 : lo ≤ kk ∧ kk < en ∧ lo - 1 ≤ pp ∧ pp ≤ hi) → (ho : ∀ b, b ≠ a → XL68 b = X b) → (hs : Swp lo hi (X a) (XL68 a)) → (hq : srtR lo (kk + 1) (XL68 a)) → ((hi - kk).toNat < n68) → Wd Γ (zA K s.heap.size) K XL68 Rf s H locs → ∀ ls : Array Slot, lv_has ls 8 [(6, .int (iI pp)), (4, .int (iI x63)), (0, .ref a), (1, .int (iI kk)), (2, .int (iI en)), (3, .int (iI hi))] → W p l e (rmL 0 0 0) s m ([.ref a, .int (iI lo), .int (iI en), .int (iI hi)] : List Value).toArray below meth c H locs 0 0 (MQ below (zQ Γ K s.heap.size (pV (zpv K Rf (fun X' : zX => (∀ b, b ≠ a → X' b = X b) ∧ Swp lo hi (X a) (X' a) ∧ srtR lo hi (X' a))))) ([.ref a, .int (iI lo), .int (iI en), .int (iI hi)] : List Value).toArray s 0 0 (zA K s.heap.size)) (F0 m 68 ls []) := by
      intro n68
      induction n68 with
      | zero => intro pp kk XL68 H locs hk9 ho hs hq hm68; exact absurd hm68 (Nat.not_lt_zero _)
      | succ n68 ih68 =>
        intro pp kk XL68 H locs hk9 ho hs hq hm68 hw ls hl
        have hfv : ∀ j : Nat, lo - 1 ≤ j → (j : Int) < hi → fit (XL68 a j) := fun j g1 g2 => by
          by_cases g : lo ≤ j
          · obtain ⟨m, m1, m2, m3⟩ := hs.vals j g g2
            rw [m3]; exact hF m (by omega) m2
          · rw [hs.out (Or.inl (by omega))]; exact hF j g1 g2
        have hso : XL68 a (lo - 1).toNat = X a (lo - 1).toNat := hs.out (Or.inl (by omega))
        refine ziinc (pc := 68) (lv' := [(1, .int (iI (kk + 1))), (6, .int (iI pp)), (4, .int (iI x63)), (0, .ref a), (2, .int (iI en)), (3, .int (iI hi))]) hx hb 3 dX10_mixedInsertionSort_68 hl rfl (by decide) rfl (fun ls hl => ?_)
        obtain ⟨x68, ex68⟩ : ∃ zz : Int, zz = (kk + 1) := ⟨_, rfl⟩
        rw [← ex68] at hl
        refine lv_iload_n (pc := 71) hx hb dX10_mixedInsertionSort_71 rfl (lv_at hl 0 rfl) ?_
        refine lv_iload_n (pc := 72) hx hb dX10_mixedInsertionSort_72 rfl (lv_at hl 4 rfl) ?_
        refine zicmp_ge (pc := 73) hx hb 228 (by omega) (by omega) dX10_mixedInsertionSort_73 (by decide) (fun c73 => ?_) (fun c73 => ?_)
        · skip
          have lp228 : ∀ (n228 : Nat) (kk : Int) (XL228 : zX) (H : Heap) (locs : List Loc), (hk8 : en ≤ kk ∧ kk ≤ hi ∧ lo < kk ∧ (hi - kk) % 2 = 0) → (ho : ∀ b, b ≠ a → XL228 b = X b) → (hs : Swp lo hi (X a) (XL228 a)) → (hq : srtR lo kk (XL228 a)) → ((hi - kk).toNat < n228) → Wd Γ (zA K s.heap.size) K XL228 Rf s H locs → ∀ ls : Array Slot, lv_has ls 8 [(1, .int (iI kk)), (0, .ref a), (2, .int (iI en)), (3, .int (iI hi))] → W p l e (rmL 0 0 0) s m ([.ref a, .int (iI lo), .int (iI en), .int (iI hi)] : List Value).toArray below meth c H locs 0 0 (MQ below (zQ Γ K s.heap.size (pV (zpv K Rf (fun X' : zX => (∀ b, b ≠ a → X' b = X b) ∧ Swp lo hi (X a) (X' a) ∧ srtR lo hi (X' a))))) ([.ref a, .int (iI lo), .int (iI en), .int (iI hi)] : List Value).toArray s 0 0 (zA K s.heap.size)) (F0 m 228 ls []) := by
            intro n228
            induction n228 with
            | zero => intro kk XL228 H locs hk8 ho hs hq hm228; exact absurd hm228 (Nat.not_lt_zero _)
            | succ n228 ih228 =>
              intro kk XL228 H locs hk8 ho hs hq hm228 hw ls hl
              have hfv : ∀ j : Nat, lo - 1 ≤ j → (j : Int) < hi → fit (XL228 a j) := fun j g1 g2 => by
                by_cases g : lo ≤ j
                · obtain ⟨m, m1, m2, m3⟩ := hs.vals j g g2
                  rw [m3]; exact hF m (by omega) m2
                · rw [hs.out (Or.inl (by omega))]; exact hF j g1 g2
              refine lv_iload_n (pc := 228) hx hb dX10_mixedInsertionSort_228 rfl (lv_at hl 0 rfl) ?_
              refine lv_iload_n (pc := 229) hx hb dX10_mixedInsertionSort_229 rfl (lv_at hl 3 rfl) ?_
              refine zicmp_ge (pc := 230) hx hb 414 (by omega) (by omega) dX10_mixedInsertionSort_230 (by decide) (fun c230 => ?_) (fun c230 => ?_)
              · skip
                exact zretV (pc := 414) hx hb hlocks hr hw (Nat.zero_le _) (Nat.zero_le _) dX10_mixedInsertionSort_414 ⟨by (try dsimp only) <;> (first | exact ⟨ho, hs, fun i j g1 g2 g3 => hq i j g1 g2 (by omega)⟩), rfl, rfl⟩
              · skip
                refine lv_aload_n (pc := 233) hx hb dX10_mixedInsertionSort_233 rfl (lv_at hl 1 rfl) ?_
                refine lv_iload_n (pc := 234) hx hb dX10_mixedInsertionSort_234 rfl (lv_at hl 0 rfl) ?_
                refine lv_dup (pc := 235) hx hb dX10_mixedInsertionSort_235 rfl ?_
                refine lv_istore (pc := 236) (lv' := [(5, .int (iI kk)), (1, .int (iI kk)), (0, .ref a), (2, .int (iI en)), (3, .int (iI hi))]) hx hb dX10_mixedInsertionSort_236 hl (by decide) rfl (fun ls hl => ?_)
                refine zald (pc := 238) hx hb hw hka ⟨by omega, by omega⟩ (by omega) dX10_mixedInsertionSort_238 ?_
                refine ztop (fun x239 ex239 => ?_)
                refine lv_istore (pc := 239) (lv' := [(6, .int (iI x239)), (5, .int (iI kk)), (1, .int (iI kk)), (0, .ref a), (2, .int (iI en)), (3, .int (iI hi))]) hx hb dX10_mixedInsertionSort_239 hl (by decide) rfl (fun ls hl => ?_)
                refine lv_aload_n (pc := 241) hx hb dX10_mixedInsertionSort_241 rfl (lv_at hl 3 rfl) ?_
                refine ziinc (pc := 242) (lv' := [(1, .int (iI (kk + 1))), (6, .int (iI x239)), (5, .int (iI kk)), (0, .ref a), (2, .int (iI en)), (3, .int (iI hi))]) hx hb 2 dX10_mixedInsertionSort_242 hl rfl (by decide) rfl (fun ls hl => ?_)
                obtain ⟨x242, ex242⟩ : ∃ zz : Int, zz = (kk + 1) := ⟨_, rfl⟩
                rw [← ex242] at hl
                refine lv_iload_n (pc := 245) hx hb dX10_mixedInsertionSort_245 rfl (lv_at hl 0 rfl) ?_
                refine zald (pc := 246) hx hb hw hka ⟨by omega, by omega⟩ (by omega) dX10_mixedInsertionSort_246 ?_
                refine ztop (fun x247 ex247 => ?_)
                refine lv_istore (pc := 247) (lv' := [(7, .int (iI x247)), (1, .int (iI x242)), (6, .int (iI x239)), (5, .int (iI kk)), (0, .ref a), (2, .int (iI en)), (3, .int (iI hi))]) hx hb dX10_mixedInsertionSort_247 hl (by decide) rfl (fun ls hl => ?_)
                have hf6 := hfv kk.toNat (by omega) (by omega)
                have hf7 := hfv x242.toNat (by omega) (by omega)
                have e42 : x242 = kk + 1 := by omega
                refine lv_iload (pc := 249) hx hb dX10_mixedInsertionSort_249 (lv_at hl 2 rfl) ?_
                refine lv_iload (pc := 251) hx hb dX10_mixedInsertionSort_251 (lv_at hl 0 rfl) ?_
                refine zicmp_le (pc := 253) hx hb 328 (by omega) (by omega) dX10_mixedInsertionSort_253 (by decide) (fun c253 => ?_) (fun c253 => ?_)
                · skip
                  have hf8 := hfv (kk - 1).toNat (by omega) (by omega)
                  refine lv_iload (pc := 328) hx hb dX10_mixedInsertionSort_328 (lv_at hl 2 rfl) ?_
                  refine lv_aload_n (pc := 330) hx hb dX10_mixedInsertionSort_330 rfl (lv_at hl 4 rfl) ?_
                  refine lv_iload (pc := 331) hx hb dX10_mixedInsertionSort_331 (lv_at hl 3 rfl) ?_
                  refine ziconst (pc := 333) (n := 1) hx hb dX10_mixedInsertionSort_333 ?_
                  refine zsub (pc := 334) hx hb dX10_mixedInsertionSort_334 ?_
                  refine zald (pc := 335) hx hb hw hka ⟨by omega, by omega⟩ (by omega) dX10_mixedInsertionSort_335 ?_
                  refine zicmp_ge (pc := 336) hx hb 408 (by omega) (by omega) dX10_mixedInsertionSort_336 (by decide) (fun c336 => ?_) (fun c336 => ?_)
                  · skip
                    have hqN : srtR lo (x242 + 1) (XL228 a) := by
                      have h9 : srtR lo (kk + 1) (XL228 a) := hq.snoc (by omega) (by rw [← ex239]; exact c336)
                      rw [← e42] at h9
                      refine h9.snoc (by omega) ?_
                      rw [show (x242 - 1).toNat = kk.toNat by omega, ← ex239, ← ex247]; omega
                    refine ziinc (pc := 408) (lv' := [(1, .int (iI (x242 + 1))), (7, .int (iI x247)), (6, .int (iI x239)), (5, .int (iI kk)), (0, .ref a), (2, .int (iI en)), (3, .int (iI hi))]) hx hb 1 dX10_mixedInsertionSort_408 hl rfl (by decide) rfl (fun ls hl => ?_)
                    obtain ⟨x408, ex408⟩ : ∃ zz : Int, zz = (x242 + 1) := ⟨_, rfl⟩
                    rw [← ex408] at hl
                    refine lv_goto (pc := 411) (tgt := 228) hx hb dX10_mixedInsertionSort_411 (by decide) ?_
                    exact ih228 x408 XL228 _ _ (by (first | assumption | omega)) (by first | exact hoA | exact hoB | exact ho) (by first | exact hsA | exact hsB | exact hs) (by rw [show x408 = x242 + 1 by omega]; first | exact hqA | exact hqB | exact hqN) (by omega) hw _ (lv_sub hl [0, 4, 5, 6] rfl)
                  · skip
                    have ho1 := ho
                    have hen : Hol2 lo hi x242 (X a) (XL228 a) kk x239 x247 := by
                      rw [e42]
                      refine Hol2.start ⟨by omega, by omega, by omega⟩ (by omega) ?_ hq
                      rw [ex239, ex247, e42, updF_self, updF_self]; exact hs
                    have lp339 : ∀ (n339 : Nat) (ii : Int) (XL339 : zX) (H : Heap) (locs : List Loc), (ho2 : ∀ b, b ≠ a → XL339 b = X b) → (hh : Hol2 lo hi x242 (X a) (XL339 a) ii x239 x247) → (ii.toNat < n339) → Wd Γ (zA K s.heap.size) K XL339 Rf s H locs → ∀ ls : Array Slot, lv_has ls 8 [(7, .int (iI x247)), (1, .int (iI x242)), (6, .int (iI x239)), (5, .int (iI ii)), (0, .ref a), (2, .int (iI en)), (3, .int (iI hi))] → W p l e (rmL 0 0 0) s m ([.ref a, .int (iI lo), .int (iI en), .int (iI hi)] : List Value).toArray below meth c H locs 0 0 (MQ below (zQ Γ K s.heap.size (pV (zpv K Rf (fun X' : zX => (∀ b, b ≠ a → X' b = X b) ∧ Swp lo hi (X a) (X' a) ∧ srtR lo hi (X' a))))) ([.ref a, .int (iI lo), .int (iI en), .int (iI hi)] : List Value).toArray s 0 0 (zA K s.heap.size)) (F0 m 339 ls []) := by
                      intro n339
                      induction n339 with
                      | zero => intro ii XL339 H locs ho2 hh hm339; exact absurd hm339 (Nat.not_lt_zero _)
                      | succ n339 ih339 =>
                        intro ii XL339 H locs ho2 hh hm339 hw ls hl
                        have hh1 := hh.1
                        have hfw := hh.rng hF
                        refine lv_iload (pc := 339) hx hb dX10_mixedInsertionSort_339 (lv_at hl 0 rfl) ?_
                        refine lv_aload_n (pc := 341) hx hb dX10_mixedInsertionSort_341 rfl (lv_at hl 4 rfl) ?_
                        refine ziinc (pc := 342) (lv' := [(5, .int (iI (ii + (-1)))), (7, .int (iI x247)), (1, .int (iI x242)), (6, .int (iI x239)), (0, .ref a), (2, .int (iI en)), (3, .int (iI hi))]) hx hb 3 dX10_mixedInsertionSort_342 hl rfl (by decide) rfl (fun ls hl => ?_)
                        obtain ⟨x342, ex342⟩ : ∃ zz : Int, zz = (ii + (-1)) := ⟨_, rfl⟩
                        rw [← ex342] at hl
                        refine lv_iload (pc := 345) hx hb dX10_mixedInsertionSort_345 (lv_at hl 0 rfl) ?_
                        refine zald (pc := 347) hx hb hw hka ⟨by omega, by omega⟩ (by omega) dX10_mixedInsertionSort_347 ?_
                        have hf1 := hfw.1 x342.toNat (by omega) (by omega) (by omega) (by omega)
                        have hf2 := hfw.2
                        refine zicmp_ge (pc := 348) hx hb 364 (by omega) (by omega) dX10_mixedInsertionSort_348 (by decide) (fun c348 => ?_) (fun c348 => ?_)
                        · skip
                          have hd9 : XL339 a (ii - 1).toNat ≤ x247 := by rw [show (ii - 1).toNat = x342.toNat by omega]; exact c348
                          refine lv_aload_n (pc := 364) hx hb dX10_mixedInsertionSort_364 rfl (lv_at hl 4 rfl) ?_
                          refine ziinc (pc := 365) (lv' := [(5, .int (iI (x342 + 1))), (7, .int (iI x247)), (1, .int (iI x242)), (6, .int (iI x239)), (0, .ref a), (2, .int (iI en)), (3, .int (iI hi))]) hx hb 0 dX10_mixedInsertionSort_365 hl rfl (by decide) rfl (fun ls hl => ?_)
                          obtain ⟨x365, ex365⟩ : ∃ zz : Int, zz = (x342 + 1) := ⟨_, rfl⟩
                          rw [← ex365] at hl
                          refine lv_iload (pc := 368) hx hb dX10_mixedInsertionSort_368 (lv_at hl 0 rfl) ?_
                          refine ziconst (pc := 370) (n := 1) hx hb dX10_mixedInsertionSort_370 ?_
                          refine zadd (pc := 371) hx hb dX10_mixedInsertionSort_371 ?_
                          refine lv_iload (pc := 372) hx hb dX10_mixedInsertionSort_372 (lv_at hl 1 rfl) ?_
                          refine zast (pc := 374) hx hb hw hka ⟨by omega, by omega⟩ (by omega) dX10_mixedInsertionSort_374 (fun H locs hw => ?_)
                          obtain ⟨X374, eX374⟩ : ∃ Y : zX, Y = up2 XL339 a (x365 + 1).toNat x247 := ⟨_, rfl⟩
                          rw [← eX374] at hw
                          have ho1 : ∀ b, b ≠ a → X374 b = X b := fun b hb => by rw [eX374, up2_o hb]; exact ho2 b hb
                          have hen : Hol1 lo hi x242 (X a) (X374 a) x365 x239 := by rw [show x365 = ii by omega]; exact hh.done hd9 (by rw [eX374, up2_row, show x365 + 1 = ii + 1 by omega])
                          have lp375 : ∀ (n375 : Nat) (jj : Int) (XL375 : zX) (H : Heap) (locs : List Loc), (ho2 : ∀ b, b ≠ a → XL375 b = X b) → (hh : Hol1 lo hi x242 (X a) (XL375 a) jj x239) → (jj.toNat < n375) → Wd Γ (zA K s.heap.size) K XL375 Rf s H locs → ∀ ls : Array Slot, lv_has ls 8 [(5, .int (iI jj)), (7, .int (iI x247)), (1, .int (iI x242)), (6, .int (iI x239)), (0, .ref a), (2, .int (iI en)), (3, .int (iI hi))] → W p l e (rmL 0 0 0) s m ([.ref a, .int (iI lo), .int (iI en), .int (iI hi)] : List Value).toArray below meth c H locs 0 0 (MQ below (zQ Γ K s.heap.size (pV (zpv K Rf (fun X' : zX => (∀ b, b ≠ a → X' b = X b) ∧ Swp lo hi (X a) (X' a) ∧ srtR lo hi (X' a))))) ([.ref a, .int (iI lo), .int (iI en), .int (iI hi)] : List Value).toArray s 0 0 (zA K s.heap.size)) (F0 m 375 ls []) := by
                            intro n375
                            induction n375 with
                            | zero => intro jj XL375 H locs ho2 hh hm375; exact absurd hm375 (Nat.not_lt_zero _)
                            | succ n375 ih375 =>
                              intro jj XL375 H locs ho2 hh hm375 hw ls hl
                              have hh1 := hh.1
                              have hfw := hh.rng hF
                              refine lv_iload (pc := 375) hx hb dX10_mixedInsertionSort_375 (lv_at hl 3 rfl) ?_
                              refine lv_aload_n (pc := 377) hx hb dX10_mixedInsertionSort_377 rfl (lv_at hl 4 rfl) ?_
                              refine ziinc (pc := 378) (lv' := [(5, .int (iI (jj + (-1)))), (7, .int (iI x247)), (1, .int (iI x242)), (6, .int (iI x239)), (0, .ref a), (2, .int (iI en)), (3, .int (iI hi))]) hx hb 0 dX10_mixedInsertionSort_378 hl rfl (by decide) rfl (fun ls hl => ?_)
                              obtain ⟨x378, ex378⟩ : ∃ zz : Int, zz = (jj + (-1)) := ⟨_, rfl⟩
                              rw [← ex378] at hl
                              refine lv_iload (pc := 381) hx hb dX10_mixedInsertionSort_381 (lv_at hl 0 rfl) ?_
                              refine zald (pc := 383) hx hb hw hka ⟨by omega, by omega⟩ (by omega) dX10_mixedInsertionSort_383 ?_
                              have hf1 := hfw.1 x378.toNat (by omega) (by omega) (by omega)
                              have hf2 := hfw.2
                              refine zicmp_ge (pc := 384) hx hb 400 (by omega) (by omega) dX10_mixedInsertionSort_384 (by decide) (fun c384 => ?_) (fun c384 => ?_)
                              · skip
                                have hd9 : XL375 a (jj - 1).toNat ≤ x239 := by rw [show (jj - 1).toNat = x378.toNat by omega]; exact c384
                                refine lv_aload_n (pc := 400) hx hb dX10_mixedInsertionSort_400 rfl (lv_at hl 4 rfl) ?_
                                refine lv_iload (pc := 401) hx hb dX10_mixedInsertionSort_401 (lv_at hl 0 rfl) ?_
                                refine ziconst (pc := 403) (n := 1) hx hb dX10_mixedInsertionSort_403 ?_
                                refine zadd (pc := 404) hx hb dX10_mixedInsertionSort_404 ?_
                                refine lv_iload (pc := 405) hx hb dX10_mixedInsertionSort_405 (lv_at hl 3 rfl) ?_
                                refine zast (pc := 407) hx hb hw hka ⟨by omega, by omega⟩ (by omega) dX10_mixedInsertionSort_407 (fun H locs hw => ?_)
                                obtain ⟨X407, eX407⟩ : ∃ Y : zX, Y = up2 XL375 a (x378 + 1).toNat x239 := ⟨_, rfl⟩
                                rw [← eX407] at hw
                                obtain ⟨hsB, hqB⟩ := hh.done hd9 (G' := X407 a) (by rw [eX407, up2_row, show (x378 + 1).toNat = jj.toNat by omega])
                                have hoB : ∀ b, b ≠ a → X407 b = X b := fun b hb => by rw [eX407, up2_o hb]; exact ho2 b hb
                                refine ziinc (pc := 408) (lv' := [(1, .int (iI (x242 + 1))), (5, .int (iI x378)), (7, .int (iI x247)), (6, .int (iI x239)), (0, .ref a), (2, .int (iI en)), (3, .int (iI hi))]) hx hb 2 dX10_mixedInsertionSort_408 hl rfl (by decide) rfl (fun ls hl => ?_)
                                obtain ⟨x408, ex408⟩ : ∃ zz : Int, zz = (x242 + 1) := ⟨_, rfl⟩
                                rw [← ex408] at hl
                                refine lv_goto (pc := 411) (tgt := 228) hx hb dX10_mixedInsertionSort_411 (by decide) ?_
                                exact ih228 x408 X407 _ _ (by (first | assumption | omega)) (by first | exact hoA | exact hoB | exact ho) (by first | exact hsA | exact hsB | exact hs) (by rw [show x408 = x242 + 1 by omega]; first | exact hqA | exact hqB | exact hqN) (by omega) hw _ (lv_sub hl [0, 4, 5, 6] rfl)
                              · skip
                                have hc9 := c384
                                have hlow := hh.low (by omega) hsn (by rw [show (jj - 1).toNat = x378.toNat by omega]; exact c384)
                                refine lv_aload_n (pc := 387) hx hb dX10_mixedInsertionSort_387 rfl (lv_at hl 4 rfl) ?_
                                refine lv_iload (pc := 388) hx hb dX10_mixedInsertionSort_388 (lv_at hl 0 rfl) ?_
                                refine ziconst (pc := 390) (n := 1) hx hb dX10_mixedInsertionSort_390 ?_
                                refine zadd (pc := 391) hx hb dX10_mixedInsertionSort_391 ?_
                                refine lv_aload_n (pc := 392) hx hb dX10_mixedInsertionSort_392 rfl (lv_at hl 4 rfl) ?_
                                refine lv_iload (pc := 393) hx hb dX10_mixedInsertionSort_393 (lv_at hl 0 rfl) ?_
                                refine zald (pc := 395) hx hb hw hka ⟨by omega, by omega⟩ (by omega) dX10_mixedInsertionSort_395 ?_
                                refine zast (pc := 396) hx hb hw hka ⟨by omega, by omega⟩ (by omega) dX10_mixedInsertionSort_396 (fun H locs hw => ?_)
                                obtain ⟨X396, eX396⟩ : ∃ Y : zX, Y = up2 XL375 a (x378 + 1).toNat (XL375 a x378.toNat) := ⟨_, rfl⟩
                                rw [← eX396] at hw
                                refine lv_goto (pc := 397) (tgt := 375) hx hb dX10_mixedInsertionSort_397 (by decide) ?_
                                exact ih375 x378 X396 _ _ (by intro b hb; rw [eX396, up2_o hb]; exact ho2 b hb) (by rw [show x378 = jj - 1 by omega]; exact hh.step hlow (Int.le_of_lt (by rw [show (jj - 1).toNat = x378.toNat by omega]; exact hc9)) (by rw [eX396, up2_row, show (x378 + 1).toNat = jj.toNat by omega, show (jj - 1).toNat = x378.toNat by omega])) (by omega) hw _ (lv_sub hl [0, 1, 2, 3, 4, 5, 6] rfl)
                          exact lp375 _ x365 X374 _ _ (by exact ho1) (by exact hen) (Nat.lt_succ_self _) hw _ (lv_sub hl [0, 1, 2, 3, 4, 5, 6] rfl)
                        · skip
                          have hc9 := c348
                          have hlow := hh.low (by omega) hsn (by rw [show (ii - 1).toNat = x342.toNat by omega]; exact c348)
                          refine lv_aload_n (pc := 351) hx hb dX10_mixedInsertionSort_351 rfl (lv_at hl 4 rfl) ?_
                          refine lv_iload (pc := 352) hx hb dX10_mixedInsertionSort_352 (lv_at hl 0 rfl) ?_
                          refine ziconst (pc := 354) (n := 2) hx hb dX10_mixedInsertionSort_354 ?_
                          refine zadd (pc := 355) hx hb dX10_mixedInsertionSort_355 ?_
                          refine lv_aload_n (pc := 356) hx hb dX10_mixedInsertionSort_356 rfl (lv_at hl 4 rfl) ?_
                          refine lv_iload (pc := 357) hx hb dX10_mixedInsertionSort_357 (lv_at hl 0 rfl) ?_
                          refine zald (pc := 359) hx hb hw hka ⟨by omega, by omega⟩ (by omega) dX10_mixedInsertionSort_359 ?_
                          refine zast (pc := 360) hx hb hw hka ⟨by omega, by omega⟩ (by omega) dX10_mixedInsertionSort_360 (fun H locs hw => ?_)
                          obtain ⟨X360, eX360⟩ : ∃ Y : zX, Y = up2 XL339 a (x342 + 2).toNat (XL339 a x342.toNat) := ⟨_, rfl⟩
                          rw [← eX360] at hw
                          refine lv_goto (pc := 361) (tgt := 339) hx hb dX10_mixedInsertionSort_361 (by decide) ?_
                          exact ih339 x342 X360 _ _ (by intro b hb; rw [eX360, up2_o hb]; exact ho2 b hb) (by rw [show x342 = ii - 1 by omega]; exact hh.step hlow (Int.le_of_lt (by rw [show (ii - 1).toNat = x342.toNat by omega]; exact hc9)) (by rw [eX360, up2_row, show (x342 + 2).toNat = (ii + 1).toNat by omega, show (ii - 1).toNat = x342.toNat by omega])) (by omega) hw _ (lv_sub hl [1, 2, 3, 0, 4, 5, 6] rfl)
                    exact lp339 _ kk XL228 _ _ (by exact ho1) (by exact hen) (Nat.lt_succ_self _) hw _ (lv_sub hl [0, 1, 2, 3, 4, 5, 6] rfl)
                · skip
                  have ho1 := ho
                  have hen : Hol2 lo hi x242 (X a) (XL228 a) kk x247 x239 := by
                    rw [e42]
                    refine Hol2.start ⟨by omega, by omega, by omega⟩ (by omega) ?_ hq
                    rw [ex239, ex247, e42]; exact hs.step ⟨by omega, by omega⟩ ⟨by omega, by omega⟩
                  have lp256 : ∀ (n256 : Nat) (ii : Int) (XL256 : zX) (H : Heap) (locs : List Loc), (ho2 : ∀ b, b ≠ a → XL256 b = X b) → (hh : Hol2 lo hi x242 (X a) (XL256 a) ii x247 x239) → (ii.toNat < n256) → Wd Γ (zA K s.heap.size) K XL256 Rf s H locs → ∀ ls : Array Slot, lv_has ls 8 [(7, .int (iI x247)), (1, .int (iI x242)), (6, .int (iI x239)), (5, .int (iI ii)), (0, .ref a), (2, .int (iI en)), (3, .int (iI hi))] → W p l e (rmL 0 0 0) s m ([.ref a, .int (iI lo), .int (iI en), .int (iI hi)] : List Value).toArray below meth c H locs 0 0 (MQ below (zQ Γ K s.heap.size (pV (zpv K Rf (fun X' : zX => (∀ b, b ≠ a → X' b = X b) ∧ Swp lo hi (X a) (X' a) ∧ srtR lo hi (X' a))))) ([.ref a, .int (iI lo), .int (iI en), .int (iI hi)] : List Value).toArray s 0 0 (zA K s.heap.size)) (F0 m 256 ls []) := by
                    intro n256
                    induction n256 with
                    | zero => intro ii XL256 H locs ho2 hh hm256; exact absurd hm256 (Nat.not_lt_zero _)
                    | succ n256 ih256 =>
                      intro ii XL256 H locs ho2 hh hm256 hw ls hl
                      have hh1 := hh.1
                      have hfw := hh.rng hF
                      refine lv_iload (pc := 256) hx hb dX10_mixedInsertionSort_256 (lv_at hl 2 rfl) ?_
                      refine lv_aload_n (pc := 258) hx hb dX10_mixedInsertionSort_258 rfl (lv_at hl 4 rfl) ?_
                      refine ziinc (pc := 259) (lv' := [(5, .int (iI (ii + (-1)))), (7, .int (iI x247)), (1, .int (iI x242)), (6, .int (iI x239)), (0, .ref a), (2, .int (iI en)), (3, .int (iI hi))]) hx hb 3 dX10_mixedInsertionSort_259 hl rfl (by decide) rfl (fun ls hl => ?_)
                      obtain ⟨x259, ex259⟩ : ∃ zz : Int, zz = (ii + (-1)) := ⟨_, rfl⟩
                      rw [← ex259] at hl
                      refine lv_iload (pc := 262) hx hb dX10_mixedInsertionSort_262 (lv_at hl 0 rfl) ?_
                      refine zald (pc := 264) hx hb hw hka ⟨by omega, by omega⟩ (by omega) dX10_mixedInsertionSort_264 ?_
                      have hf1 := hfw.1 x259.toNat (by omega) (by omega) (by omega) (by omega)
                      have hf2 := hfw.2
                      refine zicmp_ge (pc := 265) hx hb 281 (by omega) (by omega) dX10_mixedInsertionSort_265 (by decide) (fun c265 => ?_) (fun c265 => ?_)
                      · skip
                        have hd9 : XL256 a (ii - 1).toNat ≤ x239 := by rw [show (ii - 1).toNat = x259.toNat by omega]; exact c265
                        refine lv_aload_n (pc := 281) hx hb dX10_mixedInsertionSort_281 rfl (lv_at hl 4 rfl) ?_
                        refine ziinc (pc := 282) (lv' := [(5, .int (iI (x259 + 1))), (7, .int (iI x247)), (1, .int (iI x242)), (6, .int (iI x239)), (0, .ref a), (2, .int (iI en)), (3, .int (iI hi))]) hx hb 0 dX10_mixedInsertionSort_282 hl rfl (by decide) rfl (fun ls hl => ?_)
                        obtain ⟨x282, ex282⟩ : ∃ zz : Int, zz = (x259 + 1) := ⟨_, rfl⟩
                        rw [← ex282] at hl
                        refine lv_iload (pc := 285) hx hb dX10_mixedInsertionSort_285 (lv_at hl 0 rfl) ?_
                        refine ziconst (pc := 287) (n := 1) hx hb dX10_mixedInsertionSort_287 ?_
                        refine zadd (pc := 288) hx hb dX10_mixedInsertionSort_288 ?_
                        refine lv_iload (pc := 289) hx hb dX10_mixedInsertionSort_289 (lv_at hl 3 rfl) ?_
                        refine zast (pc := 291) hx hb hw hka ⟨by omega, by omega⟩ (by omega) dX10_mixedInsertionSort_291 (fun H locs hw => ?_)
                        obtain ⟨X291, eX291⟩ : ∃ Y : zX, Y = up2 XL256 a (x282 + 1).toNat x239 := ⟨_, rfl⟩
                        rw [← eX291] at hw
                        have ho1 : ∀ b, b ≠ a → X291 b = X b := fun b hb => by rw [eX291, up2_o hb]; exact ho2 b hb
                        have hen : Hol1 lo hi x242 (X a) (X291 a) x282 x247 := by rw [show x282 = ii by omega]; exact hh.done hd9 (by rw [eX291, up2_row, show x282 + 1 = ii + 1 by omega])
                        have lp292 : ∀ (n292 : Nat) (jj : Int) (XL292 : zX) (H : Heap) (locs : List Loc), (ho2 : ∀ b, b ≠ a → XL292 b = X b) → (hh : Hol1 lo hi x242 (X a) (XL292 a) jj x247) → (jj.toNat < n292) → Wd Γ (zA K s.heap.size) K XL292 Rf s H locs → ∀ ls : Array Slot, lv_has ls 8 [(5, .int (iI jj)), (7, .int (iI x247)), (1, .int (iI x242)), (6, .int (iI x239)), (0, .ref a), (2, .int (iI en)), (3, .int (iI hi))] → W p l e (rmL 0 0 0) s m ([.ref a, .int (iI lo), .int (iI en), .int (iI hi)] : List Value).toArray below meth c H locs 0 0 (MQ below (zQ Γ K s.heap.size (pV (zpv K Rf (fun X' : zX => (∀ b, b ≠ a → X' b = X b) ∧ Swp lo hi (X a) (X' a) ∧ srtR lo hi (X' a))))) ([.ref a, .int (iI lo), .int (iI en), .int (iI hi)] : List Value).toArray s 0 0 (zA K s.heap.size)) (F0 m 292 ls []) := by
                          intro n292
                          induction n292 with
                          | zero => intro jj XL292 H locs ho2 hh hm292; exact absurd hm292 (Nat.not_lt_zero _)
                          | succ n292 ih292 =>
                            intro jj XL292 H locs ho2 hh hm292 hw ls hl
                            have hh1 := hh.1
                            have hfw := hh.rng hF
                            refine lv_iload (pc := 292) hx hb dX10_mixedInsertionSort_292 (lv_at hl 1 rfl) ?_
                            refine lv_aload_n (pc := 294) hx hb dX10_mixedInsertionSort_294 rfl (lv_at hl 4 rfl) ?_
                            refine ziinc (pc := 295) (lv' := [(5, .int (iI (jj + (-1)))), (7, .int (iI x247)), (1, .int (iI x242)), (6, .int (iI x239)), (0, .ref a), (2, .int (iI en)), (3, .int (iI hi))]) hx hb 0 dX10_mixedInsertionSort_295 hl rfl (by decide) rfl (fun ls hl => ?_)
                            obtain ⟨x295, ex295⟩ : ∃ zz : Int, zz = (jj + (-1)) := ⟨_, rfl⟩
                            rw [← ex295] at hl
                            refine lv_iload (pc := 298) hx hb dX10_mixedInsertionSort_298 (lv_at hl 0 rfl) ?_
                            refine zald (pc := 300) hx hb hw hka ⟨by omega, by omega⟩ (by omega) dX10_mixedInsertionSort_300 ?_
                            have hf1 := hfw.1 x295.toNat (by omega) (by omega) (by omega)
                            have hf2 := hfw.2
                            refine zicmp_ge (pc := 301) hx hb 317 (by omega) (by omega) dX10_mixedInsertionSort_301 (by decide) (fun c301 => ?_) (fun c301 => ?_)
                            · skip
                              have hd9 : XL292 a (jj - 1).toNat ≤ x247 := by rw [show (jj - 1).toNat = x295.toNat by omega]; exact c301
                              refine lv_aload_n (pc := 317) hx hb dX10_mixedInsertionSort_317 rfl (lv_at hl 4 rfl) ?_
                              refine lv_iload (pc := 318) hx hb dX10_mixedInsertionSort_318 (lv_at hl 0 rfl) ?_
                              refine ziconst (pc := 320) (n := 1) hx hb dX10_mixedInsertionSort_320 ?_
                              refine zadd (pc := 321) hx hb dX10_mixedInsertionSort_321 ?_
                              refine lv_iload (pc := 322) hx hb dX10_mixedInsertionSort_322 (lv_at hl 1 rfl) ?_
                              refine zast (pc := 324) hx hb hw hka ⟨by omega, by omega⟩ (by omega) dX10_mixedInsertionSort_324 (fun H locs hw => ?_)
                              obtain ⟨X324, eX324⟩ : ∃ Y : zX, Y = up2 XL292 a (x295 + 1).toNat x247 := ⟨_, rfl⟩
                              rw [← eX324] at hw
                              obtain ⟨hsA, hqA⟩ := hh.done hd9 (G' := X324 a) (by rw [eX324, up2_row, show (x295 + 1).toNat = jj.toNat by omega])
                              have hoA : ∀ b, b ≠ a → X324 b = X b := fun b hb => by rw [eX324, up2_o hb]; exact ho2 b hb
                              refine lv_goto (pc := 325) (tgt := 408) hx hb dX10_mixedInsertionSort_325 (by decide) ?_
                              refine ziinc (pc := 408) (lv' := [(1, .int (iI (x242 + 1))), (5, .int (iI x295)), (7, .int (iI x247)), (6, .int (iI x239)), (0, .ref a), (2, .int (iI en)), (3, .int (iI hi))]) hx hb 2 dX10_mixedInsertionSort_408 hl rfl (by decide) rfl (fun ls hl => ?_)
                              obtain ⟨x408, ex408⟩ : ∃ zz : Int, zz = (x242 + 1) := ⟨_, rfl⟩
                              rw [← ex408] at hl
                              refine lv_goto (pc := 411) (tgt := 228) hx hb dX10_mixedInsertionSort_411 (by decide) ?_
                              exact ih228 x408 X324 _ _ (by (first | assumption | omega)) (by first | exact hoA | exact hoB | exact ho) (by first | exact hsA | exact hsB | exact hs) (by rw [show x408 = x242 + 1 by omega]; first | exact hqA | exact hqB | exact hqN) (by omega) hw _ (lv_sub hl [0, 4, 5, 6] rfl)
                            · skip
                              have hc9 := c301
                              have hlow := hh.low (by omega) hsn (by rw [show (jj - 1).toNat = x295.toNat by omega]; exact c301)
                              refine lv_aload_n (pc := 304) hx hb dX10_mixedInsertionSort_304 rfl (lv_at hl 4 rfl) ?_
                              refine lv_iload (pc := 305) hx hb dX10_mixedInsertionSort_305 (lv_at hl 0 rfl) ?_
                              refine ziconst (pc := 307) (n := 1) hx hb dX10_mixedInsertionSort_307 ?_
                              refine zadd (pc := 308) hx hb dX10_mixedInsertionSort_308 ?_
                              refine lv_aload_n (pc := 309) hx hb dX10_mixedInsertionSort_309 rfl (lv_at hl 4 rfl) ?_
                              refine lv_iload (pc := 310) hx hb dX10_mixedInsertionSort_310 (lv_at hl 0 rfl) ?_
                              refine zald (pc := 312) hx hb hw hka ⟨by omega, by omega⟩ (by omega) dX10_mixedInsertionSort_312 ?_
                              refine zast (pc := 313) hx hb hw hka ⟨by omega, by omega⟩ (by omega) dX10_mixedInsertionSort_313 (fun H locs hw => ?_)
                              obtain ⟨X313, eX313⟩ : ∃ Y : zX, Y = up2 XL292 a (x295 + 1).toNat (XL292 a x295.toNat) := ⟨_, rfl⟩
                              rw [← eX313] at hw
                              refine lv_goto (pc := 314) (tgt := 292) hx hb dX10_mixedInsertionSort_314 (by decide) ?_
                              exact ih292 x295 X313 _ _ (by intro b hb; rw [eX313, up2_o hb]; exact ho2 b hb) (by rw [show x295 = jj - 1 by omega]; exact hh.step hlow (Int.le_of_lt (by rw [show (jj - 1).toNat = x295.toNat by omega]; exact hc9)) (by rw [eX313, up2_row, show (x295 + 1).toNat = jj.toNat by omega, show (jj - 1).toNat = x295.toNat by omega])) (by omega) hw _ (lv_sub hl [0, 1, 2, 3, 4, 5, 6] rfl)
                        exact lp292 _ x282 X291 _ _ (by exact ho1) (by exact hen) (Nat.lt_succ_self _) hw _ (lv_sub hl [0, 1, 2, 3, 4, 5, 6] rfl)
                      · skip
                        have hc9 := c265
                        have hlow := hh.low (by omega) hsn (by rw [show (ii - 1).toNat = x259.toNat by omega]; exact c265)
                        refine lv_aload_n (pc := 268) hx hb dX10_mixedInsertionSort_268 rfl (lv_at hl 4 rfl) ?_
                        refine lv_iload (pc := 269) hx hb dX10_mixedInsertionSort_269 (lv_at hl 0 rfl) ?_
                        refine ziconst (pc := 271) (n := 2) hx hb dX10_mixedInsertionSort_271 ?_
                        refine zadd (pc := 272) hx hb dX10_mixedInsertionSort_272 ?_
                        refine lv_aload_n (pc := 273) hx hb dX10_mixedInsertionSort_273 rfl (lv_at hl 4 rfl) ?_
                        refine lv_iload (pc := 274) hx hb dX10_mixedInsertionSort_274 (lv_at hl 0 rfl) ?_
                        refine zald (pc := 276) hx hb hw hka ⟨by omega, by omega⟩ (by omega) dX10_mixedInsertionSort_276 ?_
                        refine zast (pc := 277) hx hb hw hka ⟨by omega, by omega⟩ (by omega) dX10_mixedInsertionSort_277 (fun H locs hw => ?_)
                        obtain ⟨X277, eX277⟩ : ∃ Y : zX, Y = up2 XL256 a (x259 + 2).toNat (XL256 a x259.toNat) := ⟨_, rfl⟩
                        rw [← eX277] at hw
                        refine lv_goto (pc := 278) (tgt := 256) hx hb dX10_mixedInsertionSort_278 (by decide) ?_
                        exact ih256 x259 X277 _ _ (by intro b hb; rw [eX277, up2_o hb]; exact ho2 b hb) (by rw [show x259 = ii - 1 by omega]; exact hh.step hlow (Int.le_of_lt (by rw [show (ii - 1).toNat = x259.toNat by omega]; exact hc9)) (by rw [eX277, up2_row, show (x259 + 2).toNat = (ii + 1).toNat by omega, show (ii - 1).toNat = x259.toNat by omega])) (by omega) hw _ (lv_sub hl [1, 2, 3, 0, 4, 5, 6] rfl)
                  exact lp256 _ kk XL228 _ _ (by exact ho1) (by exact hen) (Nat.lt_succ_self _) hw _ (lv_sub hl [0, 1, 2, 3, 4, 5, 6] rfl)
          exact lp228 _ x68 XL68 _ _ (by omega) (by exact ho) (by exact hs) (by rw [show x68 = kk + 1 by omega]; exact hq) (Nat.lt_succ_self _) hw _ (lv_sub hl [0, 3, 4, 5] rfl)
        · skip
          refine lv_aload_n (pc := 76) hx hb dX10_mixedInsertionSort_76 rfl (lv_at hl 3 rfl) ?_
          refine lv_iload_n (pc := 77) hx hb dX10_mixedInsertionSort_77 rfl (lv_at hl 0 rfl) ?_
          refine lv_dup (pc := 78) hx hb dX10_mixedInsertionSort_78 rfl ?_
          refine lv_istore (pc := 79) (lv' := [(5, .int (iI x68)), (1, .int (iI x68)), (6, .int (iI pp)), (4, .int (iI x63)), (0, .ref a), (2, .int (iI en)), (3, .int (iI hi))]) hx hb dX10_mixedInsertionSort_79 hl (by decide) rfl (fun ls hl => ?_)
          refine zald (pc := 81) hx hb hw hka ⟨by omega, by omega⟩ (by omega) dX10_mixedInsertionSort_81 ?_
          refine ztop (fun x82 ex82 => ?_)
          refine lv_istore (pc := 82) (lv' := [(7, .int (iI x82)), (5, .int (iI x68)), (1, .int (iI x68)), (6, .int (iI pp)), (4, .int (iI x63)), (0, .ref a), (2, .int (iI en)), (3, .int (iI hi))]) hx hb dX10_mixedInsertionSort_82 hl (by decide) rfl (fun ls hl => ?_)
          have hf6 := hfv x68.toNat (by omega) (by omega)
          have hf7 := hfv (x68 - 1).toNat (by omega) (by omega)
          refine lv_iload (pc := 84) hx hb dX10_mixedInsertionSort_84 (lv_at hl 0 rfl) ?_
          refine lv_aload_n (pc := 86) hx hb dX10_mixedInsertionSort_86 rfl (lv_at hl 5 rfl) ?_
          refine lv_iload (pc := 87) hx hb dX10_mixedInsertionSort_87 (lv_at hl 1 rfl) ?_
          refine ziconst (pc := 89) (n := 1) hx hb dX10_mixedInsertionSort_89 ?_
          refine zsub (pc := 90) hx hb dX10_mixedInsertionSort_90 ?_
          refine zald (pc := 91) hx hb hw hka ⟨by omega, by omega⟩ (by omega) dX10_mixedInsertionSort_91 ?_
          refine zicmp_ge (pc := 92) hx hb 142 (by omega) (by omega) dX10_mixedInsertionSort_92 (by decide) (fun c92 => ?_) (fun c92 => ?_)
          · skip
            have hqN : srtR lo (x68 + 1) (XL68 a) := by
              have h9 : srtR lo x68 (XL68 a) := by rw [show x68 = kk + 1 by omega]; exact hq
              exact h9.snoc (by omega) (by rw [← ex82]; exact c92)
            refine lv_iload (pc := 142) hx hb dX10_mixedInsertionSort_142 (lv_at hl 3 rfl) ?_
            refine lv_iload (pc := 144) hx hb dX10_mixedInsertionSort_144 (lv_at hl 1 rfl) ?_
            refine zicmp_le (pc := 146) hx hb 225 (by omega) (by omega) dX10_mixedInsertionSort_146 (by decide) (fun c146 => ?_) (fun c146 => ?_)
            · skip
              refine lv_goto (pc := 225) (tgt := 68) hx hb dX10_mixedInsertionSort_225 (by decide) ?_
              exact ih68 pp x68 XL68 _ _ (by (first | assumption | omega)) (by first | exact hoA | exact ho) (by first | exact hsA | exact hs) (by first | exact hqA | exact hqN) (by omega) hw _ (lv_sub hl [3, 4, 5, 2, 6, 7] rfl)
            · skip
              refine lv_iload (pc := 149) hx hb dX10_mixedInsertionSort_149 (lv_at hl 0 rfl) ?_
              refine lv_iload (pc := 151) hx hb dX10_mixedInsertionSort_151 (lv_at hl 4 rfl) ?_
              refine zicmp_le (pc := 153) hx hb 225 (by omega) (by omega) dX10_mixedInsertionSort_153 (by decide) (fun c153 => ?_) (fun c153 => ?_)
              · skip
                refine lv_goto (pc := 225) (tgt := 68) hx hb dX10_mixedInsertionSort_225 (by decide) ?_
                exact ih68 pp x68 XL68 _ _ (by (first | assumption | omega)) (by first | exact hoA | exact ho) (by first | exact hsA | exact hs) (by first | exact hqA | exact hqN) (by omega) hw _ (lv_sub hl [3, 4, 5, 2, 6, 7] rfl)
              · skip
                have lp156 : ∀ (n156 : Nat) (pq : Int) (H : Heap) (locs : List Loc), (hpq : lo ≤ pq ∧ pq ≤ hi) → (pq.toNat < n156) → Wd Γ (zA K s.heap.size) K XL68 Rf s H locs → ∀ ls : Array Slot, lv_has ls 8 [(7, .int (iI x82)), (5, .int (iI x68)), (1, .int (iI x68)), (6, .int (iI pq)), (4, .int (iI x63)), (0, .ref a), (2, .int (iI en)), (3, .int (iI hi))] → W p l e (rmL 0 0 0) s m ([.ref a, .int (iI lo), .int (iI en), .int (iI hi)] : List Value).toArray below meth c H locs 0 0 (MQ below (zQ Γ K s.heap.size (pV (zpv K Rf (fun X' : zX => (∀ b, b ≠ a → X' b = X b) ∧ Swp lo hi (X a) (X' a) ∧ srtR lo hi (X' a))))) ([.ref a, .int (iI lo), .int (iI en), .int (iI hi)] : List Value).toArray s 0 0 (zA K s.heap.size)) (F0 m 156 ls []) := by
                  intro n156
                  induction n156 with
                  | zero => intro pq H locs hpq hm156; exact absurd hm156 (Nat.not_lt_zero _)
                  | succ n156 ih156 =>
                    intro pq H locs hpq hm156 hw ls hl
                    refine lv_aload_n (pc := 156) hx hb dX10_mixedInsertionSort_156 rfl (lv_at hl 5 rfl) ?_
                    refine ziinc (pc := 157) (lv' := [(6, .int (iI (pq + (-1)))), (7, .int (iI x82)), (5, .int (iI x68)), (1, .int (iI x68)), (4, .int (iI x63)), (0, .ref a), (2, .int (iI en)), (3, .int (iI hi))]) hx hb 3 dX10_mixedInsertionSort_157 hl rfl (by decide) rfl (fun ls hl => ?_)
                    obtain ⟨x157, ex157⟩ : ∃ zz : Int, zz = (pq + (-1)) := ⟨_, rfl⟩
                    rw [← ex157] at hl
                    refine lv_iload (pc := 160) hx hb dX10_mixedInsertionSort_160 (lv_at hl 0 rfl) ?_
                    refine zald (pc := 162) hx hb hw hka ⟨by omega, by omega⟩ (by omega) dX10_mixedInsertionSort_162 ?_
                    refine lv_iload (pc := 163) hx hb dX10_mixedInsertionSort_163 (lv_at hl 4 rfl) ?_
                    have hf5 := hfv x157.toNat (by omega) (by omega)
                    refine zicmp_le (pc := 165) hx hb 171 (by omega) (by omega) dX10_mixedInsertionSort_165 (by decide) (fun c165 => ?_) (fun c165 => ?_)
                    · skip
                      have jn192_0 : ∀ (av : Int) (Xjn192_0 : zX) (H : Heap) (locs : List Loc), (ho1 : ∀ b, b ≠ a → Xjn192_0 b = X b) → (hen : Hol1 lo hi x68 (X a) (Xjn192_0 a) x68 av) → Wd Γ (zA K s.heap.size) K Xjn192_0 Rf s H locs → ∀ ls : Array Slot, lv_has ls 8 [(6, .int (iI x157)), (7, .int (iI av)), (5, .int (iI x68)), (1, .int (iI x68)), (4, .int (iI x63)), (0, .ref a), (2, .int (iI en)), (3, .int (iI hi))] → W p l e (rmL 0 0 0) s m ([.ref a, .int (iI lo), .int (iI en), .int (iI hi)] : List Value).toArray below meth c H locs 0 0 (MQ below (zQ Γ K s.heap.size (pV (zpv K Rf (fun X' : zX => (∀ b, b ≠ a → X' b = X b) ∧ Swp lo hi (X a) (X' a) ∧ srtR lo hi (X' a))))) ([.ref a, .int (iI lo), .int (iI en), .int (iI hi)] : List Value).toArray s 0 0 (zA K s.heap.size)) (F0 m 192 ls []) := by
                        intro av Xjn192_0 H locs ho1 hen hw ls hl
                        have lp192 : ∀ (n192 : Nat) (ii : Int) (XL192 : zX) (H : Heap) (locs : List Loc), (ho2 : ∀ b, b ≠ a → XL192 b = X b) → (hh : Hol1 lo hi x68 (X a) (XL192 a) ii av) → (ii.toNat < n192) → Wd Γ (zA K s.heap.size) K XL192 Rf s H locs → ∀ ls : Array Slot, lv_has ls 8 [(6, .int (iI x157)), (7, .int (iI av)), (5, .int (iI ii)), (1, .int (iI x68)), (4, .int (iI x63)), (0, .ref a), (2, .int (iI en)), (3, .int (iI hi))] → W p l e (rmL 0 0 0) s m ([.ref a, .int (iI lo), .int (iI en), .int (iI hi)] : List Value).toArray below meth c H locs 0 0 (MQ below (zQ Γ K s.heap.size (pV (zpv K Rf (fun X' : zX => (∀ b, b ≠ a → X' b = X b) ∧ Swp lo hi (X a) (X' a) ∧ srtR lo hi (X' a))))) ([.ref a, .int (iI lo), .int (iI en), .int (iI hi)] : List Value).toArray s 0 0 (zA K s.heap.size)) (F0 m 192 ls []) := by
                          intro n192
                          induction n192 with
                          | zero => intro ii XL192 H locs ho2 hh hm192; exact absurd hm192 (Nat.not_lt_zero _)
                          | succ n192 ih192 =>
                            intro ii XL192 H locs ho2 hh hm192 hw ls hl
                            have hh1 := hh.1
                            have hfw := hh.rng hF
                            refine lv_iload (pc := 192) hx hb dX10_mixedInsertionSort_192 (lv_at hl 1 rfl) ?_
                            refine lv_aload_n (pc := 194) hx hb dX10_mixedInsertionSort_194 rfl (lv_at hl 5 rfl) ?_
                            refine ziinc (pc := 195) (lv' := [(5, .int (iI (ii + (-1)))), (6, .int (iI x157)), (7, .int (iI av)), (1, .int (iI x68)), (4, .int (iI x63)), (0, .ref a), (2, .int (iI en)), (3, .int (iI hi))]) hx hb 2 dX10_mixedInsertionSort_195 hl rfl (by decide) rfl (fun ls hl => ?_)
                            obtain ⟨x195, ex195⟩ : ∃ zz : Int, zz = (ii + (-1)) := ⟨_, rfl⟩
                            rw [← ex195] at hl
                            refine lv_iload (pc := 198) hx hb dX10_mixedInsertionSort_198 (lv_at hl 0 rfl) ?_
                            refine zald (pc := 200) hx hb hw hka ⟨by omega, by omega⟩ (by omega) dX10_mixedInsertionSort_200 ?_
                            have hf1 := hfw.1 x195.toNat (by omega) (by omega) (by omega)
                            have hf2 := hfw.2
                            refine zicmp_ge (pc := 201) hx hb 217 (by omega) (by omega) dX10_mixedInsertionSort_201 (by decide) (fun c201 => ?_) (fun c201 => ?_)
                            · skip
                              have hd9 : XL192 a (ii - 1).toNat ≤ av := by rw [show (ii - 1).toNat = x195.toNat by omega]; exact c201
                              refine lv_aload_n (pc := 217) hx hb dX10_mixedInsertionSort_217 rfl (lv_at hl 5 rfl) ?_
                              refine lv_iload (pc := 218) hx hb dX10_mixedInsertionSort_218 (lv_at hl 0 rfl) ?_
                              refine ziconst (pc := 220) (n := 1) hx hb dX10_mixedInsertionSort_220 ?_
                              refine zadd (pc := 221) hx hb dX10_mixedInsertionSort_221 ?_
                              refine lv_iload (pc := 222) hx hb dX10_mixedInsertionSort_222 (lv_at hl 2 rfl) ?_
                              refine zast (pc := 224) hx hb hw hka ⟨by omega, by omega⟩ (by omega) dX10_mixedInsertionSort_224 (fun H locs hw => ?_)
                              obtain ⟨X224, eX224⟩ : ∃ Y : zX, Y = up2 XL192 a (x195 + 1).toNat av := ⟨_, rfl⟩
                              rw [← eX224] at hw
                              obtain ⟨hsA, hqA⟩ := hh.done hd9 (G' := X224 a) (by rw [eX224, up2_row, show (x195 + 1).toNat = ii.toNat by omega])
                              have hoA : ∀ b, b ≠ a → X224 b = X b := fun b hb => by rw [eX224, up2_o hb]; exact ho2 b hb
                              refine lv_goto (pc := 225) (tgt := 68) hx hb dX10_mixedInsertionSort_225 (by decide) ?_
                              exact ih68 x157 x68 X224 _ _ (by (first | assumption | omega)) (by first | exact hoA | exact ho) (by first | exact hsA | exact hs) (by first | exact hqA | exact hqN) (by omega) hw _ (lv_sub hl [1, 4, 5, 3, 6, 7] rfl)
                            · skip
                              have hc9 := c201
                              have hlow := hh.low (by omega) hsn (by rw [show (ii - 1).toNat = x195.toNat by omega]; exact c201)
                              refine lv_aload_n (pc := 204) hx hb dX10_mixedInsertionSort_204 rfl (lv_at hl 5 rfl) ?_
                              refine lv_iload (pc := 205) hx hb dX10_mixedInsertionSort_205 (lv_at hl 0 rfl) ?_
                              refine ziconst (pc := 207) (n := 1) hx hb dX10_mixedInsertionSort_207 ?_
                              refine zadd (pc := 208) hx hb dX10_mixedInsertionSort_208 ?_
                              refine lv_aload_n (pc := 209) hx hb dX10_mixedInsertionSort_209 rfl (lv_at hl 5 rfl) ?_
                              refine lv_iload (pc := 210) hx hb dX10_mixedInsertionSort_210 (lv_at hl 0 rfl) ?_
                              refine zald (pc := 212) hx hb hw hka ⟨by omega, by omega⟩ (by omega) dX10_mixedInsertionSort_212 ?_
                              refine zast (pc := 213) hx hb hw hka ⟨by omega, by omega⟩ (by omega) dX10_mixedInsertionSort_213 (fun H locs hw => ?_)
                              obtain ⟨X213, eX213⟩ : ∃ Y : zX, Y = up2 XL192 a (x195 + 1).toNat (XL192 a x195.toNat) := ⟨_, rfl⟩
                              rw [← eX213] at hw
                              refine lv_goto (pc := 214) (tgt := 192) hx hb dX10_mixedInsertionSort_214 (by decide) ?_
                              exact ih192 x195 X213 _ _ (by intro b hb; rw [eX213, up2_o hb]; exact ho2 b hb) (by rw [show x195 = ii - 1 by omega]; exact hh.step hlow (Int.le_of_lt (by rw [show (ii - 1).toNat = x195.toNat by omega]; exact hc9)) (by rw [eX213, up2_row, show (x195 + 1).toNat = ii.toNat by omega, show (ii - 1).toNat = x195.toNat by omega])) (by omega) hw _ (lv_sub hl [1, 2, 0, 3, 4, 5, 6, 7] rfl)
                        exact lp192 _ x68 Xjn192_0 _ _ (by exact ho1) (by exact hen) (Nat.lt_succ_self _) hw _ (lv_sub hl [0, 1, 2, 3, 4, 5, 6, 7] rfl)
                      refine lv_iload (pc := 171) hx hb dX10_mixedInsertionSort_171 (lv_at hl 0 rfl) ?_
                      refine lv_iload (pc := 173) hx hb dX10_mixedInsertionSort_173 (lv_at hl 2 rfl) ?_
                      refine zicmp_le (pc := 175) hx hb 192 (by omega) (by omega) dX10_mixedInsertionSort_175 (by decide) (fun c175 => ?_) (fun c175 => ?_)
                      · skip
                        exact jn192_0 x82 XL68 _ _ (by first | exact ho | exact fun b hb => by rw [eX191, up2_o hb]; exact ho b hb) (by first | exact Hol1.start ⟨by omega, by omega, by omega⟩ (by rw [ex82, updF_self]; exact hs) (by rw [show x68 = kk + 1 by omega]; exact hq) | exact Hol1.start ⟨by omega, by omega, by omega⟩ (by rw [eX191, up2_row, ex182]; exact hs.step ⟨by omega, by omega⟩ ⟨by omega, by omega⟩) (by rw [eX191, up2_row, show x68 = kk + 1 by omega]; exact hq.upd (by omega))) hw _ (lv_sub hl [0, 1, 2, 3, 4, 5, 6, 7] rfl)
                      · skip
                        refine lv_aload_n (pc := 178) hx hb dX10_mixedInsertionSort_178 rfl (lv_at hl 5 rfl) ?_
                        refine lv_iload (pc := 179) hx hb dX10_mixedInsertionSort_179 (lv_at hl 0 rfl) ?_
                        refine zald (pc := 181) hx hb hw hka ⟨by omega, by omega⟩ (by omega) dX10_mixedInsertionSort_181 ?_
                        refine ztop (fun x182 ex182 => ?_)
                        refine lv_istore (pc := 182) (lv' := [(7, .int (iI x182)), (6, .int (iI x157)), (5, .int (iI x68)), (1, .int (iI x68)), (4, .int (iI x63)), (0, .ref a), (2, .int (iI en)), (3, .int (iI hi))]) hx hb dX10_mixedInsertionSort_182 hl (by decide) rfl (fun ls hl => ?_)
                        refine lv_aload_n (pc := 184) hx hb dX10_mixedInsertionSort_184 rfl (lv_at hl 5 rfl) ?_
                        refine lv_iload (pc := 185) hx hb dX10_mixedInsertionSort_185 (lv_at hl 1 rfl) ?_
                        refine lv_aload_n (pc := 187) hx hb dX10_mixedInsertionSort_187 rfl (lv_at hl 5 rfl) ?_
                        refine lv_iload (pc := 188) hx hb dX10_mixedInsertionSort_188 (lv_at hl 2 rfl) ?_
                        refine zald (pc := 190) hx hb hw hka ⟨by omega, by omega⟩ (by omega) dX10_mixedInsertionSort_190 ?_
                        refine zast (pc := 191) hx hb hw hka ⟨by omega, by omega⟩ (by omega) dX10_mixedInsertionSort_191 (fun H locs hw => ?_)
                        obtain ⟨X191, eX191⟩ : ∃ Y : zX, Y = up2 XL68 a x157.toNat (XL68 a x68.toNat) := ⟨_, rfl⟩
                        rw [← eX191] at hw
                        exact jn192_0 x182 X191 _ _ (by first | exact ho | exact fun b hb => by rw [eX191, up2_o hb]; exact ho b hb) (by first | exact Hol1.start ⟨by omega, by omega, by omega⟩ (by rw [ex82, updF_self]; exact hs) (by rw [show x68 = kk + 1 by omega]; exact hq) | exact Hol1.start ⟨by omega, by omega, by omega⟩ (by rw [eX191, up2_row, ex182]; exact hs.step ⟨by omega, by omega⟩ ⟨by omega, by omega⟩) (by rw [eX191, up2_row, show x68 = kk + 1 by omega]; exact hq.upd (by omega))) hw _ (lv_sub hl [1, 0, 2, 3, 4, 5, 6, 7] rfl)
                    · skip
                      have hp9 : lo ≤ x157 := by
                        by_cases g : lo ≤ x157
                        · exact g
                        · exfalso; have h9 := c165; rw [show x157.toNat = (lo - 1).toNat by omega, hso] at h9; omega
                      refine lv_goto (pc := 168) (tgt := 156) hx hb dX10_mixedInsertionSort_168 (by decide) ?_
                      exact ih156 x157 _ _ (by (first | assumption | omega)) (by omega) hw _ (lv_sub hl [1, 2, 3, 0, 4, 5, 6, 7] rfl)
                exact lp156 _ pp _ _ (by (first | assumption | omega)) (Nat.lt_succ_self _) hw _ (lv_sub hl [0, 1, 2, 3, 4, 5, 6, 7] rfl)
          · skip
            refine lv_aload_n (pc := 95) hx hb dX10_mixedInsertionSort_95 rfl (lv_at hl 5 rfl) ?_
            refine lv_iload (pc := 96) hx hb dX10_mixedInsertionSort_96 (lv_at hl 1 rfl) ?_
            refine lv_aload_n (pc := 98) hx hb dX10_mixedInsertionSort_98 rfl (lv_at hl 5 rfl) ?_
            refine ziinc (pc := 99) (lv' := [(5, .int (iI (x68 + (-1)))), (7, .int (iI x82)), (1, .int (iI x68)), (6, .int (iI pp)), (4, .int (iI x63)), (0, .ref a), (2, .int (iI en)), (3, .int (iI hi))]) hx hb 1 dX10_mixedInsertionSort_99 hl rfl (by decide) rfl (fun ls hl => ?_)
            obtain ⟨x99, ex99⟩ : ∃ zz : Int, zz = (x68 + (-1)) := ⟨_, rfl⟩
            rw [← ex99] at hl
            refine lv_iload (pc := 102) hx hb dX10_mixedInsertionSort_102 (lv_at hl 0 rfl) ?_
            refine zald (pc := 104) hx hb hw hka ⟨by omega, by omega⟩ (by omega) dX10_mixedInsertionSort_104 ?_
            refine zast (pc := 105) hx hb hw hka ⟨by omega, by omega⟩ (by omega) dX10_mixedInsertionSort_105 (fun H locs hw => ?_)
            obtain ⟨X105, eX105⟩ : ∃ Y : zX, Y = up2 XL68 a x68.toNat (XL68 a x99.toNat) := ⟨_, rfl⟩
            rw [← eX105] at hw
            have ho1 : ∀ b, b ≠ a → X105 b = X b := fun b hb => by rw [eX105, up2_o hb]; exact ho b hb
            have hen0 : Hol1 lo hi x68 (X a) (XL68 a) x68 x82 := Hol1.start ⟨by omega, by omega, by omega⟩ (by rw [ex82, updF_self]; exact hs) (by rw [show x68 = kk + 1 by omega]; exact hq)
            have hen : Hol1 lo hi x68 (X a) (X105 a) x99 x82 := by rw [show x99 = x68 - 1 by omega]; exact hen0.step (by omega) (Int.le_of_lt c92) (by rw [eX105, up2_row, show (x68 - 1).toNat = x99.toNat by omega])
            have lp106 : ∀ (n106 : Nat) (ii : Int) (XL106 : zX) (H : Heap) (locs : List Loc), (ho2 : ∀ b, b ≠ a → XL106 b = X b) → (hh : Hol1 lo hi x68 (X a) (XL106 a) ii x82) → (ii.toNat < n106) → Wd Γ (zA K s.heap.size) K XL106 Rf s H locs → ∀ ls : Array Slot, lv_has ls 8 [(5, .int (iI ii)), (7, .int (iI x82)), (1, .int (iI x68)), (6, .int (iI pp)), (4, .int (iI x63)), (0, .ref a), (2, .int (iI en)), (3, .int (iI hi))] → W p l e (rmL 0 0 0) s m ([.ref a, .int (iI lo), .int (iI en), .int (iI hi)] : List Value).toArray below meth c H locs 0 0 (MQ below (zQ Γ K s.heap.size (pV (zpv K Rf (fun X' : zX => (∀ b, b ≠ a → X' b = X b) ∧ Swp lo hi (X a) (X' a) ∧ srtR lo hi (X' a))))) ([.ref a, .int (iI lo), .int (iI en), .int (iI hi)] : List Value).toArray s 0 0 (zA K s.heap.size)) (F0 m 106 ls []) := by
              intro n106
              induction n106 with
              | zero => intro ii XL106 H locs ho2 hh hm106; exact absurd hm106 (Nat.not_lt_zero _)
              | succ n106 ih106 =>
                intro ii XL106 H locs ho2 hh hm106 hw ls hl
                have hh1 := hh.1
                have hfw := hh.rng hF
                refine lv_iload (pc := 106) hx hb dX10_mixedInsertionSort_106 (lv_at hl 1 rfl) ?_
                refine lv_aload_n (pc := 108) hx hb dX10_mixedInsertionSort_108 rfl (lv_at hl 5 rfl) ?_
                refine ziinc (pc := 109) (lv' := [(5, .int (iI (ii + (-1)))), (7, .int (iI x82)), (1, .int (iI x68)), (6, .int (iI pp)), (4, .int (iI x63)), (0, .ref a), (2, .int (iI en)), (3, .int (iI hi))]) hx hb 0 dX10_mixedInsertionSort_109 hl rfl (by decide) rfl (fun ls hl => ?_)
                obtain ⟨x109, ex109⟩ : ∃ zz : Int, zz = (ii + (-1)) := ⟨_, rfl⟩
                rw [← ex109] at hl
                refine lv_iload (pc := 112) hx hb dX10_mixedInsertionSort_112 (lv_at hl 0 rfl) ?_
                refine zald (pc := 114) hx hb hw hka ⟨by omega, by omega⟩ (by omega) dX10_mixedInsertionSort_114 ?_
                have hf1 := hfw.1 x109.toNat (by omega) (by omega) (by omega)
                have hf2 := hfw.2
                refine zicmp_ge (pc := 115) hx hb 131 (by omega) (by omega) dX10_mixedInsertionSort_115 (by decide) (fun c115 => ?_) (fun c115 => ?_)
                · skip
                  have hd9 : XL106 a (ii - 1).toNat ≤ x82 := by rw [show (ii - 1).toNat = x109.toNat by omega]; exact c115
                  refine lv_aload_n (pc := 131) hx hb dX10_mixedInsertionSort_131 rfl (lv_at hl 5 rfl) ?_
                  refine lv_iload (pc := 132) hx hb dX10_mixedInsertionSort_132 (lv_at hl 0 rfl) ?_
                  refine ziconst (pc := 134) (n := 1) hx hb dX10_mixedInsertionSort_134 ?_
                  refine zadd (pc := 135) hx hb dX10_mixedInsertionSort_135 ?_
                  refine lv_iload (pc := 136) hx hb dX10_mixedInsertionSort_136 (lv_at hl 1 rfl) ?_
                  refine zast (pc := 138) hx hb hw hka ⟨by omega, by omega⟩ (by omega) dX10_mixedInsertionSort_138 (fun H locs hw => ?_)
                  obtain ⟨X138, eX138⟩ : ∃ Y : zX, Y = up2 XL106 a (x109 + 1).toNat x82 := ⟨_, rfl⟩
                  rw [← eX138] at hw
                  obtain ⟨hsA, hqA⟩ := hh.done hd9 (G' := X138 a) (by rw [eX138, up2_row, show (x109 + 1).toNat = ii.toNat by omega])
                  have hoA : ∀ b, b ≠ a → X138 b = X b := fun b hb => by rw [eX138, up2_o hb]; exact ho2 b hb
                  refine lv_goto (pc := 139) (tgt := 225) hx hb dX10_mixedInsertionSort_139 (by decide) ?_
                  refine lv_goto (pc := 225) (tgt := 68) hx hb dX10_mixedInsertionSort_225 (by decide) ?_
                  exact ih68 pp x68 X138 _ _ (by (first | assumption | omega)) (by first | exact hoA | exact ho) (by first | exact hsA | exact hs) (by first | exact hqA | exact hqN) (by omega) hw _ (lv_sub hl [3, 4, 5, 2, 6, 7] rfl)
                · skip
                  have hc9 := c115
                  have hlow := hh.low (by omega) hsn (by rw [show (ii - 1).toNat = x109.toNat by omega]; exact c115)
                  refine lv_aload_n (pc := 118) hx hb dX10_mixedInsertionSort_118 rfl (lv_at hl 5 rfl) ?_
                  refine lv_iload (pc := 119) hx hb dX10_mixedInsertionSort_119 (lv_at hl 0 rfl) ?_
                  refine ziconst (pc := 121) (n := 1) hx hb dX10_mixedInsertionSort_121 ?_
                  refine zadd (pc := 122) hx hb dX10_mixedInsertionSort_122 ?_
                  refine lv_aload_n (pc := 123) hx hb dX10_mixedInsertionSort_123 rfl (lv_at hl 5 rfl) ?_
                  refine lv_iload (pc := 124) hx hb dX10_mixedInsertionSort_124 (lv_at hl 0 rfl) ?_
                  refine zald (pc := 126) hx hb hw hka ⟨by omega, by omega⟩ (by omega) dX10_mixedInsertionSort_126 ?_
                  refine zast (pc := 127) hx hb hw hka ⟨by omega, by omega⟩ (by omega) dX10_mixedInsertionSort_127 (fun H locs hw => ?_)
                  obtain ⟨X127, eX127⟩ : ∃ Y : zX, Y = up2 XL106 a (x109 + 1).toNat (XL106 a x109.toNat) := ⟨_, rfl⟩
                  rw [← eX127] at hw
                  refine lv_goto (pc := 128) (tgt := 106) hx hb dX10_mixedInsertionSort_128 (by decide) ?_
                  exact ih106 x109 X127 _ _ (by intro b hb; rw [eX127, up2_o hb]; exact ho2 b hb) (by rw [show x109 = ii - 1 by omega]; exact hh.step hlow (Int.le_of_lt (by rw [show (ii - 1).toNat = x109.toNat by omega]; exact hc9)) (by rw [eX127, up2_row, show (x109 + 1).toNat = ii.toNat by omega, show (ii - 1).toNat = x109.toNat by omega])) (by omega) hw _ (lv_sub hl [0, 1, 2, 3, 4, 5, 6, 7] rfl)
            exact lp106 _ x99 X105 _ _ (by exact ho1) (by exact hen) (Nat.lt_succ_self _) hw _ (lv_sub hl [0, 1, 2, 3, 4, 5, 6, 7] rfl)
    exact lp68 _ hi lo X _ _ (by (first | assumption | omega)) (by exact fun _ _ => rfl) (by exact .refl) (by exact .one (by omega)) (Nat.lt_succ_self _) hw _ (lv_sub hl [0, 1, 2, 3, 4, 5] rfl)
  · skip
    have lp5 : ∀ (n5 : Nat) (kk : Int) (XL5 : zX) (H : Heap) (locs : List Loc), (hk9 : lo ≤ kk ∧ (kk < hi ∨ kk = lo)) → (ho : ∀ b, b ≠ a → XL5 b = X b) → (hs : Swp lo hi (X a) (XL5 a)) → (hq : srtR lo (kk + 1) (XL5 a)) → ((hi + 1 - kk).toNat < n5) → Wd Γ (zA K s.heap.size) K XL5 Rf s H locs → ∀ ls : Array Slot, lv_has ls 8 [(0, .ref a), (1, .int (iI kk)), (2, .int (iI en)), (3, .int (iI hi))] → W p l e (rmL 0 0 0) s m ([.ref a, .int (iI lo), .int (iI en), .int (iI hi)] : List Value).toArray below meth c H locs 0 0 (MQ below (zQ Γ K s.heap.size (pV (zpv K Rf (fun X' : zX => (∀ b, b ≠ a → X' b = X b) ∧ Swp lo hi (X a) (X' a) ∧ srtR lo hi (X' a))))) ([.ref a, .int (iI lo), .int (iI en), .int (iI hi)] : List Value).toArray s 0 0 (zA K s.heap.size)) (F0 m 5 ls []) := by
      intro n5
      induction n5 with
      | zero => intro kk XL5 H locs hk9 ho hs hq hm5; exact absurd hm5 (Nat.not_lt_zero _)
      | succ n5 ih5 =>
        intro kk XL5 H locs hk9 ho hs hq hm5 hw ls hl
        have hfv : ∀ j : Nat, lo - 1 ≤ j → (j : Int) < hi → fit (XL5 a j) := fun j g1 g2 => by
          by_cases g : lo ≤ j
          · obtain ⟨m, m1, m2, m3⟩ := hs.vals j g g2
            rw [m3]; exact hF m (by omega) m2
          · rw [hs.out (Or.inl (by omega))]; exact hF j g1 g2
        refine ziinc (pc := 5) (lv' := [(1, .int (iI (kk + 1))), (0, .ref a), (2, .int (iI en)), (3, .int (iI hi))]) hx hb 1 dX10_mixedInsertionSort_5 hl rfl (by decide) rfl (fun ls hl => ?_)
        obtain ⟨x5, ex5⟩ : ∃ zz : Int, zz = (kk + 1) := ⟨_, rfl⟩
        rw [← ex5] at hl
        refine lv_iload_n (pc := 8) hx hb dX10_mixedInsertionSort_8 rfl (lv_at hl 0 rfl) ?_
        refine lv_iload_n (pc := 9) hx hb dX10_mixedInsertionSort_9 rfl (lv_at hl 2 rfl) ?_
        refine zicmp_ge (pc := 10) hx hb 57 (by omega) (by omega) dX10_mixedInsertionSort_10 (by decide) (fun c10 => ?_) (fun c10 => ?_)
        · skip
          refine lv_goto (pc := 57) (tgt := 414) hx hb dX10_mixedInsertionSort_57 (by decide) ?_
          exact zretV (pc := 414) hx hb hlocks hr hw (Nat.zero_le _) (Nat.zero_le _) dX10_mixedInsertionSort_414 ⟨by (try dsimp only) <;> (first | exact ⟨ho, hs, fun i j g1 g2 g3 => hq i j g1 g2 (by omega)⟩), rfl, rfl⟩
        · skip
          refine lv_aload_n (pc := 13) hx hb dX10_mixedInsertionSort_13 rfl (lv_at hl 1 rfl) ?_
          refine lv_iload_n (pc := 14) hx hb dX10_mixedInsertionSort_14 rfl (lv_at hl 0 rfl) ?_
          refine lv_dup (pc := 15) hx hb dX10_mixedInsertionSort_15 rfl ?_
          refine lv_istore (pc := 16) (lv' := [(4, .int (iI x5)), (1, .int (iI x5)), (0, .ref a), (2, .int (iI en)), (3, .int (iI hi))]) hx hb dX10_mixedInsertionSort_16 hl (by decide) rfl (fun ls hl => ?_)
          refine zald (pc := 18) hx hb hw hka ⟨by omega, by omega⟩ (by omega) dX10_mixedInsertionSort_18 ?_
          refine ztop (fun x19 ex19 => ?_)
          refine lv_istore (pc := 19) (lv' := [(5, .int (iI x19)), (4, .int (iI x5)), (1, .int (iI x5)), (0, .ref a), (2, .int (iI en)), (3, .int (iI hi))]) hx hb dX10_mixedInsertionSort_19 hl (by decide) rfl (fun ls hl => ?_)
          have ho1 := ho
          have hen : Hol1 lo hi x5 (X a) (XL5 a) x5 x19 := Hol1.start ⟨by omega, by omega, by omega⟩ (by rw [ex19, updF_self]; exact hs) (by rw [show x5 = kk + 1 by omega]; exact hq)
          have lp21 : ∀ (n21 : Nat) (ii : Int) (XL21 : zX) (H : Heap) (locs : List Loc), (ho2 : ∀ b, b ≠ a → XL21 b = X b) → (hh : Hol1 lo hi x5 (X a) (XL21 a) ii x19) → (ii.toNat < n21) → Wd Γ (zA K s.heap.size) K XL21 Rf s H locs → ∀ ls : Array Slot, lv_has ls 8 [(5, .int (iI x19)), (4, .int (iI ii)), (1, .int (iI x5)), (0, .ref a), (2, .int (iI en)), (3, .int (iI hi))] → W p l e (rmL 0 0 0) s m ([.ref a, .int (iI lo), .int (iI en), .int (iI hi)] : List Value).toArray below meth c H locs 0 0 (MQ below (zQ Γ K s.heap.size (pV (zpv K Rf (fun X' : zX => (∀ b, b ≠ a → X' b = X b) ∧ Swp lo hi (X a) (X' a) ∧ srtR lo hi (X' a))))) ([.ref a, .int (iI lo), .int (iI en), .int (iI hi)] : List Value).toArray s 0 0 (zA K s.heap.size)) (F0 m 21 ls []) := by
            intro n21
            induction n21 with
            | zero => intro ii XL21 H locs ho2 hh hm21; exact absurd hm21 (Nat.not_lt_zero _)
            | succ n21 ih21 =>
              intro ii XL21 H locs ho2 hh hm21 hw ls hl
              have hh1 := hh.1
              have hfw := hh.rng hF
              refine lv_iload (pc := 21) hx hb dX10_mixedInsertionSort_21 (lv_at hl 0 rfl) ?_
              refine lv_aload_n (pc := 23) hx hb dX10_mixedInsertionSort_23 rfl (lv_at hl 3 rfl) ?_
              refine ziinc (pc := 24) (lv' := [(4, .int (iI (ii + (-1)))), (5, .int (iI x19)), (1, .int (iI x5)), (0, .ref a), (2, .int (iI en)), (3, .int (iI hi))]) hx hb 1 dX10_mixedInsertionSort_24 hl rfl (by decide) rfl (fun ls hl => ?_)
              obtain ⟨x24, ex24⟩ : ∃ zz : Int, zz = (ii + (-1)) := ⟨_, rfl⟩
              rw [← ex24] at hl
              refine lv_iload (pc := 27) hx hb dX10_mixedInsertionSort_27 (lv_at hl 0 rfl) ?_
              refine zald (pc := 29) hx hb hw hka ⟨by omega, by omega⟩ (by omega) dX10_mixedInsertionSort_29 ?_
              have hf1 := hfw.1 x24.toNat (by omega) (by omega) (by omega)
              have hf2 := hfw.2
              refine zicmp_ge (pc := 30) hx hb 46 (by omega) (by omega) dX10_mixedInsertionSort_30 (by decide) (fun c30 => ?_) (fun c30 => ?_)
              · skip
                have hd9 : XL21 a (ii - 1).toNat ≤ x19 := by rw [show (ii - 1).toNat = x24.toNat by omega]; exact c30
                refine lv_aload_n (pc := 46) hx hb dX10_mixedInsertionSort_46 rfl (lv_at hl 3 rfl) ?_
                refine lv_iload (pc := 47) hx hb dX10_mixedInsertionSort_47 (lv_at hl 0 rfl) ?_
                refine ziconst (pc := 49) (n := 1) hx hb dX10_mixedInsertionSort_49 ?_
                refine zadd (pc := 50) hx hb dX10_mixedInsertionSort_50 ?_
                refine lv_iload (pc := 51) hx hb dX10_mixedInsertionSort_51 (lv_at hl 1 rfl) ?_
                refine zast (pc := 53) hx hb hw hka ⟨by omega, by omega⟩ (by omega) dX10_mixedInsertionSort_53 (fun H locs hw => ?_)
                obtain ⟨X53, eX53⟩ : ∃ Y : zX, Y = up2 XL21 a (x24 + 1).toNat x19 := ⟨_, rfl⟩
                rw [← eX53] at hw
                obtain ⟨hsA, hqA⟩ := hh.done hd9 (G' := X53 a) (by rw [eX53, up2_row, show (x24 + 1).toNat = ii.toNat by omega])
                have hoA : ∀ b, b ≠ a → X53 b = X b := fun b hb => by rw [eX53, up2_o hb]; exact ho2 b hb
                refine lv_goto (pc := 54) (tgt := 5) hx hb dX10_mixedInsertionSort_54 (by decide) ?_
                exact ih5 x5 X53 _ _ (by (first | assumption | omega)) (by exact hoA) (by exact hsA) (by exact hqA) (by omega) hw _ (lv_sub hl [3, 2, 4, 5] rfl)
              · skip
                have hc9 := c30
                have hlow := hh.low (by omega) hsn (by rw [show (ii - 1).toNat = x24.toNat by omega]; exact c30)
                refine lv_aload_n (pc := 33) hx hb dX10_mixedInsertionSort_33 rfl (lv_at hl 3 rfl) ?_
                refine lv_iload (pc := 34) hx hb dX10_mixedInsertionSort_34 (lv_at hl 0 rfl) ?_
                refine ziconst (pc := 36) (n := 1) hx hb dX10_mixedInsertionSort_36 ?_
                refine zadd (pc := 37) hx hb dX10_mixedInsertionSort_37 ?_
                refine lv_aload_n (pc := 38) hx hb dX10_mixedInsertionSort_38 rfl (lv_at hl 3 rfl) ?_
                refine lv_iload (pc := 39) hx hb dX10_mixedInsertionSort_39 (lv_at hl 0 rfl) ?_
                refine zald (pc := 41) hx hb hw hka ⟨by omega, by omega⟩ (by omega) dX10_mixedInsertionSort_41 ?_
                refine zast (pc := 42) hx hb hw hka ⟨by omega, by omega⟩ (by omega) dX10_mixedInsertionSort_42 (fun H locs hw => ?_)
                obtain ⟨X42, eX42⟩ : ∃ Y : zX, Y = up2 XL21 a (x24 + 1).toNat (XL21 a x24.toNat) := ⟨_, rfl⟩
                rw [← eX42] at hw
                refine lv_goto (pc := 43) (tgt := 21) hx hb dX10_mixedInsertionSort_43 (by decide) ?_
                exact ih21 x24 X42 _ _ (by intro b hb; rw [eX42, up2_o hb]; exact ho2 b hb) (by rw [show x24 = ii - 1 by omega]; exact hh.step hlow (Int.le_of_lt (by rw [show (ii - 1).toNat = x24.toNat by omega]; exact hc9)) (by rw [eX42, up2_row, show (x24 + 1).toNat = ii.toNat by omega, show (ii - 1).toNat = x24.toNat by omega])) (by omega) hw _ (lv_sub hl [1, 0, 2, 3, 4, 5] rfl)
          exact lp21 _ x5 XL5 _ _ (by exact ho1) (by exact hen) (Nat.lt_succ_self _) hw _ (lv_sub hl [0, 1, 2, 3, 4, 5] rfl)
    exact lp5 _ lo X _ _ (by (first | assumption | omega)) (by exact fun _ _ => rfl) (by exact .refl) (by exact .one (by omega)) (Nat.lt_succ_self _) hw _ (lv_sub hl [0, 1, 2, 3] rfl)
