set_option maxHeartbeats 4000000 in
set_option maxRecDepth 100000 in
theorem c_X10_tryMergeRuns (l : Launch) (Γ : zG) (K : zK) (X : zX) (Rf : zR) (a : Nat) (lo : Int) (sz : Int) (n : Nat) (hka : K a = (2, n)) (hn : n ≤ 20000) (h1 : lo = 0 ∧ 44 ≤ sz ∧ sz ≤ 1200 ∧ sz ≤ n) (hF : ∀ j : Nat, (j : Int) < sz → fit (X a j)) (hj : injR 0 sz (X a)) : Ct l yX10_tryMergeRuns cX10_tryMergeRuns 12 (some .boolean) 16 2 (127 + sz.toNat) Γ [.null, .ref a, .int (iI lo), .int (iI sz)] K X Rf (pI (fun (r : Int) (K' : zK) (X' : zX) (R' : zR) => (r = 0 ∨ r = 1) ∧ (∀ b, (K b).1 ≠ 0 → K' b = K b ∧ R' b = Rf b ∧ (b ≠ a → X' b = X b)) ∧ Prm 0 sz (X a) (X' a) ∧ (r = 1 → srtR 0 sz (X' a)))) := by
  refine Ct.ofF (by decide +kernel) (Nat.le_of_ble_eq_true rfl) ?_
  intro p e s m below meth c ls hx hb hr hml hown hG hlocks hname hw hl
  have hl : lv_has ls 12 [(0, .null), (1, .ref a), (2, .int (iI lo)), (3, .int (iI sz))] := hl
  refine lv_null (pc := 0) hx hb dX10_tryMergeRuns_0 ?_
  refine lv_astoreN (pc := 1) (lv' := [(4, .null), (0, .null), (1, .ref a), (2, .int (iI lo)), (3, .int (iI sz))]) hx hb dX10_tryMergeRuns_1 hl (by decide) rfl (fun ls hl => ?_)
  refine lv_iload_n (pc := 3) hx hb dX10_tryMergeRuns_3 rfl (lv_at hl 3 rfl) ?_
  refine lv_iload_n (pc := 4) hx hb dX10_tryMergeRuns_4 rfl (lv_at hl 4 rfl) ?_
  refine zadd (pc := 5) hx hb dX10_tryMergeRuns_5 ?_
  refine ztop (fun x6 ex6 => ?_)
  refine lv_istore (pc := 6) (lv' := [(5, .int (iI x6)), (4, .null), (0, .null), (1, .ref a), (2, .int (iI lo)), (3, .int (iI sz))]) hx hb dX10_tryMergeRuns_6 hl (by decide) rfl (fun ls hl => ?_)
  refine ziconst (pc := 8) (n := 1) hx hb dX10_tryMergeRuns_8 ?_
  refine lv_istore (pc := 9) (lv' := [(6, .int (iI 1)), (5, .int (iI x6)), (4, .null), (0, .null), (1, .ref a), (2, .int (iI lo)), (3, .int (iI sz))]) hx hb dX10_tryMergeRuns_9 hl (by decide) rfl (fun ls hl => ?_)
  refine lv_iload_n (pc := 11) hx hb dX10_tryMergeRuns_11 rfl (lv_at hl 5 rfl) ?_
  refine lv_istore (pc := 12) (lv' := [(7, .int (iI lo)), (6, .int (iI 1)), (5, .int (iI x6)), (4, .null), (0, .null), (1, .ref a), (2, .int (iI lo)), (3, .int (iI sz))]) hx hb dX10_tryMergeRuns_12 hl (by decide) rfl (fun ls hl => ?_)
  refine lv_iload_n (pc := 14) hx hb dX10_tryMergeRuns_14 rfl (lv_at hl 6 rfl) ?_
  refine ziconst (pc := 15) (n := 1) hx hb dX10_tryMergeRuns_15 ?_
  refine zadd (pc := 16) hx hb dX10_tryMergeRuns_16 ?_
  refine ztop (fun x17 ex17 => ?_)
  refine lv_istore (pc := 17) (lv' := [(8, .int (iI x17)), (7, .int (iI lo)), (6, .int (iI 1)), (5, .int (iI x6)), (4, .null), (0, .null), (1, .ref a), (2, .int (iI lo)), (3, .int (iI sz))]) hx hb dX10_tryMergeRuns_17 hl (by decide) rfl (fun ls hl => ?_)
  refine lv_iload (pc := 19) hx hb dX10_tryMergeRuns_19 (lv_at hl 0 rfl) ?_
  refine lv_iload (pc := 21) hx hb dX10_tryMergeRuns_21 (lv_at hl 3 rfl) ?_
  refine zicmp_ge (pc := 23) hx hb 322 (by omega) (by omega) dX10_tryMergeRuns_23 (by decide) (fun c23 => ?_) (fun c23 => ?_)
  · skip
    exfalso; omega
  · skip
    obtain ⟨s9, hs9⟩ : ∃ s9 : Int, s9 = lo := ⟨_, rfl⟩
    obtain ⟨k9, hk9s⟩ : ∃ k9 : Int, k9 = x17 := ⟨_, rfl⟩
    obtain ⟨E, hE⟩ : ∃ E : Nat → Int, E = X a := ⟨_, rfl⟩
    obtain ⟨ZE, hZE⟩ : ∃ ZE : zX, ZE = X := ⟨_, rfl⟩
    have hsE : Swp 0 sz (X a) E := by rw [hE]; exact .refl
    have hjE : injR 0 sz E := hsE.inj hj
    have hfE : ∀ j : Nat, (j : Int) < sz → fit (X a j) := fun j g => by
      obtain ⟨m, m1, m2, m3⟩ := hsE.vals j (by omega) g
      rw [← hE, m3]; exact hF m m2
    have hjX : injR 0 sz (X a) := by rw [← hE]; exact hjE
    have hkk : (k9 = s9 + 1 ∧ s9 = 0) ∨ (k9 = s9 ∧ 0 < s9) := by omega
    have hk9r : 1 ≤ k9 ∧ k9 < sz := by omega
    have hfA := hfE (x17 - 1).toNat (by omega)
    have hfB := hfE (x17).toNat (by omega)
    have hnA : X a (x17 - 1).toNat ≠ X a (x17).toNat := fun e => by have := hjX _ _ (by omega) (by omega) (by omega) (by omega) e; omega
    refine lv_aload_n (pc := 26) hx hb dX10_tryMergeRuns_26 rfl (lv_at hl 6 rfl) ?_
    have jn202_0 : ∀ (ke : Int) (Xjn202_0 : zX) (H : Heap) (locs : List Loc), (hke : k9 < ke ∧ ke ≤ sz) → (hoJ : ∀ b, b ≠ a → Xjn202_0 b = ZE b) → (hsJ : Swp 0 sz (X a) (Xjn202_0 a)) → (hpre : ∀ t : Nat, (t : Int) < s9 → Xjn202_0 a t = E t) → (hrun : srtS s9 ke (Xjn202_0 a)) → Wd Γ (zA K s.heap.size) K Xjn202_0 Rf s H locs → ∀ ls : Array Slot, lv_has ls 12 [(8, .int (iI ke)), (7, .int (iI lo)), (6, .int (iI 1)), (5, .int (iI x6)), (4, .null), (0, .null), (1, .ref a), (2, .int (iI lo)), (3, .int (iI sz))] → W p l e (rmL 16 2 (127 + sz.toNat)) s m ([.null, .ref a, .int (iI lo), .int (iI sz)] : List Value).toArray below meth c H locs 0 0 (MQ below (zQ Γ K s.heap.size (pI (fun (r : Int) (K' : zK) (X' : zX) (R' : zR) => (r = 0 ∨ r = 1) ∧ (∀ b, (K b).1 ≠ 0 → K' b = K b ∧ R' b = Rf b ∧ (b ≠ a → X' b = X b)) ∧ Prm 0 sz (X a) (X' a) ∧ (r = 1 → srtR 0 sz (X' a))))) ([.null, .ref a, .int (iI lo), .int (iI sz)] : List Value).toArray s 2 (127 + sz.toNat) (zA K s.heap.size)) (F0 m 202 ls []) := by
      intro ke Xjn202_0 H locs hke hoJ hsJ hpre hrun hw ls hl
      have hjJ : injR 0 sz (Xjn202_0 a) := hsJ.inj hj
      have hfJ : ∀ j : Nat, (j : Int) < sz → fit (Xjn202_0 a j) := fun j g => by
        obtain ⟨m, m1, m2, m3⟩ := hsJ.vals j (by omega) g
        rw [m3]; exact hF m m2
      refine lv_aloadN (pc := 202) hx hb dX10_tryMergeRuns_202 (lv_at hl 4 rfl) ?_
      refine lv_ifnonnullN (pc := 204) hx hb dX10_tryMergeRuns_204 ?_
      refine lv_iload (pc := 207) hx hb dX10_tryMergeRuns_207 (lv_at hl 0 rfl) ?_
      refine lv_iload (pc := 209) hx hb dX10_tryMergeRuns_209 (lv_at hl 3 rfl) ?_
      refine zicmp_ne (pc := 211) hx hb 216 (by omega) (by omega) dX10_tryMergeRuns_211 (by decide) (fun c211 => ?_) (fun c211 => ?_)
      · skip
        refine lv_iload (pc := 216) hx hb dX10_tryMergeRuns_216 (lv_at hl 0 rfl) ?_
        refine lv_iload_n (pc := 218) hx hb dX10_tryMergeRuns_218 rfl (lv_at hl 7 rfl) ?_
        refine zsub (pc := 219) hx hb dX10_tryMergeRuns_219 ?_
        refine zbipush (pc := 220) (n := 16) hx hb dX10_tryMergeRuns_220 rfl ?_
        refine zicmp_ge (pc := 222) hx hb 227 (by omega) (by omega) dX10_tryMergeRuns_222 (by decide) (fun c222 => ?_) (fun c222 => ?_)
        · skip
          refine lv_iload_n (pc := 227) hx hb dX10_tryMergeRuns_227 rfl (lv_at hl 8 rfl) ?_
          refine zbipush (pc := 228) (n := 10) hx hb dX10_tryMergeRuns_228 rfl ?_
          refine zshr (pc := 230) hx hb (by omega) dX10_tryMergeRuns_230 ?_
          rw [show (2 : Int) ^ (10 : Int).toNat = 1024 by decide]
          refine zbipush (pc := 231) (n := 127) hx hb dX10_tryMergeRuns_231 rfl ?_
          refine zor127 (pc := 233) hx hb (by omega) dX10_tryMergeRuns_233 ?_
          refine zsipush (pc := 234) (n := 1023) hx hb dX10_tryMergeRuns_234 rfl ?_
          refine zand1023 (pc := 237) hx hb dX10_tryMergeRuns_237 ?_
          refine znewi (pc := 238) hx hb hG hw wa_int ⟨by omega, by omega⟩ (by show 0 + 1 ≤ 2; omega) (by show 0 + 127 ≤ (127 + sz.toNat); omega) dX10_tryMergeRuns_238 (fun q238 H hfq238 hw => ?_)
          obtain ⟨K238, eK238⟩ : ∃ Y : zK, Y = zup K q238 (2, 127) := ⟨_, rfl⟩
          obtain ⟨X238, eX238⟩ : ∃ Y : zX, Y = zupX Xjn202_0 q238 := ⟨_, rfl⟩
          obtain ⟨R238, eR238⟩ : ∃ Y : zR, Y = zupR Rf q238 := ⟨_, rfl⟩
          replace hw := Wd.re hw eK238 eX238 eR238
          have hk238 : K238 a = (2, n) := by rw [eK238]; exact zup_k hfq238 hka (Nat.succ_ne_zero _)
          have hn238 : Apt a q238 := zne hka hfq238
          have hk238_1 : K238 q238 = (2, 127) := by rw [eK238]; exact zup_s
          have haq : a ≠ q238 := zne hka hfq238
          have hX0 : ∀ b, b ≠ a → Xjn202_0 b = X b := fun b g => by rw [hoJ b g, hZE]
          refine lv_astore (pc := 240) (lv' := [(4, .ref q238), (8, .int (iI ke)), (7, .int (iI lo)), (6, .int (iI 1)), (5, .int (iI x6)), (0, .null), (1, .ref a), (2, .int (iI lo)), (3, .int (iI sz))]) hx hb dX10_tryMergeRuns_240 hl (by decide) rfl (fun ls hl => ?_)
          refine lv_aload (pc := 242) hx hb dX10_tryMergeRuns_242 (lv_at hl 0 rfl) ?_
          refine ziconst (pc := 244) (n := 0) hx hb dX10_tryMergeRuns_244 ?_
          refine lv_iload_n (pc := 245) hx hb dX10_tryMergeRuns_245 rfl (lv_at hl 7 rfl) ?_
          refine zast (pc := 246) hx hb hw hk238_1 ⟨by omega, by omega⟩ (by omega) dX10_tryMergeRuns_246 (fun H locs hw => ?_)
          obtain ⟨X246, eX246⟩ : ∃ Y : zX, Y = up2 X238 q238 0 lo := ⟨_, rfl⟩
          replace hw := Wd.re hw rfl eX246 rfl
          refine lv_goto (pc := 247) (tgt := 309) hx hb dX10_tryMergeRuns_247 (by decide) ?_
          refine lv_aload (pc := 309) hx hb dX10_tryMergeRuns_309 (lv_at hl 0 rfl) ?_
          refine lv_iload (pc := 311) hx hb dX10_tryMergeRuns_311 (lv_at hl 3 rfl) ?_
          refine lv_iload (pc := 313) hx hb dX10_tryMergeRuns_313 (lv_at hl 1 rfl) ?_
          refine lv_dup (pc := 315) hx hb dX10_tryMergeRuns_315 rfl ?_
          refine lv_istore (pc := 316) (lv' := [(7, .int (iI ke)), (4, .ref q238), (8, .int (iI ke)), (6, .int (iI 1)), (5, .int (iI x6)), (0, .null), (1, .ref a), (2, .int (iI lo)), (3, .int (iI sz))]) hx hb dX10_tryMergeRuns_316 hl (by decide) rfl (fun ls hl => ?_)
          refine zast (pc := 318) hx hb hw hk238_1 ⟨by omega, by omega⟩ (by omega) dX10_tryMergeRuns_318 (fun H locs hw => ?_)
          obtain ⟨X318, eX318⟩ : ∃ Y : zX, Y = up2 X246 q238 1 ke := ⟨_, rfl⟩
          replace hw := Wd.re hw rfl eX318 rfl
          refine lv_goto (pc := 319) (tgt := 19) hx hb dX10_tryMergeRuns_319 (by decide) ?_
          have lp19 : ∀ (n19 : Nat) (la : Int) (kk : Int) (ct : Int) (XL19 : zX) (H : Heap) (locs : List Loc), (hk9 : (la = kk ∧ 0 < kk ∧ kk ≤ sz) ∧ 1 ≤ ct ∧ ct ≤ 10) → (ho : ∀ b, b ≠ a → b ≠ q238 → XL19 b = X238 b) → (hs : Swp 0 sz (X a) (XL19 a)) → (hru : XL19 q238 0 = 0 ∧ XL19 q238 ct.toNat = kk ∧ srtS 0 (ct + 1) (XL19 q238)) → (hq : ∀ j : Nat, (j : Int) < ct → srtS (XL19 q238 j) (XL19 q238 (j + 1)) (XL19 a)) → ((sz - kk).toNat < n19) → Wd Γ (zA K s.heap.size) K238 XL19 R238 s H locs → ∀ ls : Array Slot, lv_has ls 12 [(7, .int (iI la)), (4, .ref q238), (8, .int (iI kk)), (6, .int (iI ct)), (5, .int (iI x6)), (0, .null), (1, .ref a), (2, .int (iI lo)), (3, .int (iI sz))] → W p l e (rmL 16 2 (127 + sz.toNat)) s m ([.null, .ref a, .int (iI lo), .int (iI sz)] : List Value).toArray below meth c H locs (0 + 1) (0 + 127) (MQ below (zQ Γ K s.heap.size (pI (fun (r : Int) (K' : zK) (X' : zX) (R' : zR) => (r = 0 ∨ r = 1) ∧ (∀ b, (K b).1 ≠ 0 → K' b = K b ∧ R' b = Rf b ∧ (b ≠ a → X' b = X b)) ∧ Prm 0 sz (X a) (X' a) ∧ (r = 1 → srtR 0 sz (X' a))))) ([.null, .ref a, .int (iI lo), .int (iI sz)] : List Value).toArray s 2 (127 + sz.toNat) (zA K s.heap.size)) (F0 m 19 ls []) := by
            intro n19
            induction n19 with
            | zero => intro la kk ct XL19 H locs hk9 ho hs hru hq hm19; exact absurd hm19 (Nat.not_lt_zero _)
            | succ n19 ih19 =>
              intro la kk ct XL19 H locs hk9 ho hs hru hq hm19 hw ls hl
              refine lv_iload (pc := 19) hx hb dX10_tryMergeRuns_19 (lv_at hl 2 rfl) ?_
              refine lv_iload (pc := 21) hx hb dX10_tryMergeRuns_21 (lv_at hl 4 rfl) ?_
              refine zicmp_ge (pc := 23) hx hb 322 (by omega) (by omega) dX10_tryMergeRuns_23 (by decide) (fun c23 => ?_) (fun c23 => ?_)
              · skip
                have hr0 := hru.2.2
                have e6 : kk = sz := by omega
                refine lv_iload (pc := 322) hx hb dX10_tryMergeRuns_322 (lv_at hl 3 rfl) ?_
                refine ziconst (pc := 324) (n := 1) hx hb dX10_tryMergeRuns_324 ?_
                refine zicmp_le (pc := 325) hx hb 386 (by omega) (by omega) dX10_tryMergeRuns_325 (by decide) (fun c325 => ?_) (fun c325 => ?_)
                · skip
                  refine ziconst (pc := 386) (n := 1) hx hb dX10_tryMergeRuns_386 ?_
                  exact zretZ (pc := 387) hx hb hlocks hr (Or.inr rfl) hw (by show 0 + 1 ≤ 2; omega) (by show 0 + 127 ≤ (127 + sz.toNat); omega) dX10_tryMergeRuns_387 (by 
                                        first
                                        | exact ⟨Or.inr rfl, fun b hb => ⟨by rw [eK349, zup_n (zfa hb hz49), eK238, zup_n (zfa hb hfq238)], by rw [eR349, zupR_n (zfa hb hz49), eR238, zupR_n (zfa hb hfq238)], fun g => by rw [ho9 b g (zfa hb hz49), eX349, zupX_n (zfa hb hz49), ho b g (zfa hb hfq238), eX238, zupX_n (zfa hb hfq238), hX0 b g]⟩, Prm.trans (hs.prm hj) (Prm.of_w hp9 (fun k g => by rw [(hg9 k (by omega)).1, XRA]) hs8), fun _ => hs8.r⟩
                                        | exact ⟨Or.inr rfl, fun b hb => ⟨by rw [eK238, zup_n (zfa hb hfq238)], by rw [eR238, zupR_n (zfa hb hfq238)], fun g => by rw [ho b g (zfa hb hfq238), eX238, zupX_n (zfa hb hfq238), hX0 b g]⟩, hs.prm hj, fun _ => by have h9 := hq 0 (by omega); rw [hru.1, show (0 + 1 : Nat) = ct.toNat by omega, hru.2.1, e6] at h9; exact h9.r⟩)
                · skip
                  refine lv_iload_n (pc := 328) hx hb dX10_tryMergeRuns_328 rfl (lv_at hl 7 rfl) ?_
                  refine lv_istore (pc := 329) (lv' := [(9, .int (iI lo)), (7, .int (iI la)), (4, .ref q238), (8, .int (iI kk)), (6, .int (iI ct)), (5, .int (iI x6)), (0, .null), (1, .ref a), (2, .int (iI lo)), (3, .int (iI sz))]) hx hb dX10_tryMergeRuns_329 hl (by decide) rfl (fun ls hl => ?_)
                  refine lv_aload_nN (pc := 331) hx hb dX10_tryMergeRuns_331 rfl (lv_at hl 6 rfl) ?_
                  refine lv_ifnullN (pc := 332) (tgt := 348) hx hb dX10_tryMergeRuns_332 (by decide) ?_
                  refine lv_iload_n (pc := 348) hx hb dX10_tryMergeRuns_348 rfl (lv_at hl 9 rfl) ?_
                  refine znewi (pc := 349) hx hb hG hw wa_int ⟨by omega, by omega⟩ (by show 0 + 1 + 1 ≤ 2; omega) (by show 0 + 127 + sz.toNat ≤ (127 + sz.toNat); omega) dX10_tryMergeRuns_349 (fun q349 H hfq349 hw => ?_)
                  obtain ⟨K349, eK349⟩ : ∃ Y : zK, Y = zup K238 q349 (2, sz.toNat) := ⟨_, rfl⟩
                  obtain ⟨X349, eX349⟩ : ∃ Y : zX, Y = zupX XL19 q349 := ⟨_, rfl⟩
                  obtain ⟨R349, eR349⟩ : ∃ Y : zR, Y = zupR R238 q349 := ⟨_, rfl⟩
                  replace hw := Wd.re hw eK349 eX349 eR349
                  have hk349 : K349 a = (2, n) := by rw [eK349]; exact zup_k hfq349 hk238 (Nat.succ_ne_zero _)
                  have hn349 : Apt a q349 := zne hk238 hfq349
                  have hk349_1 : K349 q238 = (2, 127) := by rw [eK349]; exact zup_k hfq349 hk238_1 (Nat.succ_ne_zero _)
                  have hn349_1 : Apt q238 q349 := zne hk238_1 hfq349
                  have hk349_2 : K349 q349 = (2, sz.toNat) := by rw [eK349]; exact zup_s
                  have hz49 : (K q349).1 = 0 := by
                    by_cases g : (K q349).1 = 0
                    · exact g
                    · exfalso; have h9 := hfq349; rw [eK238, zup_n (zfa g hfq238)] at h9; exact g h9
                  refine lv_astore (pc := 351) (lv' := [(8, .ref q349), (9, .int (iI lo)), (7, .int (iI la)), (4, .ref q238), (6, .int (iI ct)), (5, .int (iI x6)), (0, .null), (1, .ref a), (2, .int (iI lo)), (3, .int (iI sz))]) hx hb dX10_tryMergeRuns_351 hl (by decide) rfl (fun ls hl => ?_)
                  refine lv_goto (pc := 353) (tgt := 362) hx hb dX10_tryMergeRuns_353 (by decide) ?_
                  refine lv_aload_n (pc := 362) hx hb dX10_tryMergeRuns_362 rfl (lv_at hl 7 rfl) ?_
                  refine lv_aload (pc := 363) hx hb dX10_tryMergeRuns_363 (lv_at hl 0 rfl) ?_
                  refine lv_iload (pc := 365) hx hb dX10_tryMergeRuns_365 (lv_at hl 1 rfl) ?_
                  refine ziconst (pc := 367) (n := 1) hx hb dX10_tryMergeRuns_367 ?_
                  refine lv_aload_nN (pc := 368) hx hb dX10_tryMergeRuns_368 rfl (lv_at hl 6 rfl) ?_
                  refine lv_ifnullN (pc := 369) (tgt := 376) hx hb dX10_tryMergeRuns_369 (by decide) ?_
                  refine ziconst (pc := 376) (n := 0) hx hb dX10_tryMergeRuns_376 ?_
                  refine lv_aload (pc := 377) hx hb dX10_tryMergeRuns_377 (lv_at hl 3 rfl) ?_
                  refine ziconst (pc := 379) (n := 0) hx hb dX10_tryMergeRuns_379 ?_
                  refine lv_iload (pc := 380) hx hb dX10_tryMergeRuns_380 (lv_at hl 4 rfl) ?_
                  have haq2 : a ≠ q349 := zne hk238 hfq349
                  have hqq : q349 ≠ q238 := Ne.symm (zne hk238_1 hfq349)
                  have XRU : X349 q238 = XL19 q238 := by rw [eX349, zupX_n (Ne.symm hqq)]
                  have XRA : X349 a = XL19 a := by rw [eX349, zupX_n haq2]
                  refine zkR (pc := 382) (zrS (As := [.ref a, .ref q349, .int (iI lo), .int (iI 1), .int (iI 0), .ref q238, .int (iI 0), .int (iI ct)]) hx hb hml hown hG hw (c_X10_mergeRuns l 12 Γ K349 X349 R349 a q349 lo 1 q238 0 ct n sz.toNat 127 (by (first | assumption | omega)) (by (first | assumption | omega)) (by (first | assumption | omega)) (by (first | assumption | omega)) (by exact ⟨haq2, haq, hqq⟩) (by omega) (by rw [XRU]; exact hru.2.2) (by rw [XRU]; show 0 ≤ XL19 q238 0 ∧ XL19 q238 ct.toNat ≤ n ∧ XL19 q238 ct.toNat ≤ sz.toNat; rw [hru.1, hru.2.1]; omega) (by intro j _ g2; rw [XRU, XRA]; exact hq j g2) (by rw [XRU, XRA]; show injR (XL19 q238 0) (XL19 q238 ct.toNat) (XL19 a); rw [hru.1, hru.2.1, e6]; exact hs.inj hj) (by intro j g1 g2; rw [XRU] at g2; rw [XRA]; obtain ⟨m, m1, m2, m3⟩ := hs.vals j (by omega) (by rw [hru.2.1] at g2; omega); rw [m3]; exact hF m m2)) cb_X10_mergeRuns wl_X10_69 rfl ⟨Nat.le_of_ble_eq_true rfl, Nat.le_of_ble_eq_true rfl⟩ hl.1 rfl (Nat.le_of_ble_eq_true rfl) dX10_tryMergeRuns_382 ⟨(by show 0 + 1 + 1 + 0 ≤ 2; omega), (by show 0 + 127 + sz.toNat + 0 ≤ (127 + sz.toNat); omega)⟩) hw (fun r382 K382 X382 R382 H locs hp382 hw => ?_)
                  obtain ⟨⟨eK382K, eR382R⟩, hA9, ho9, hg9, hs9z, hp9⟩ := hp382
                  rw [XRU] at hg9 hs9z hp9
                  rw [XRA] at hp9
                  have hs8 : srtS 0 sz (X382 r382) := by have h9 := hs9z; rw [show XL19 q238 (0 : Int).toNat = 0 from hru.1, hru.2.1, e6] at h9; exact h9
                  rw [show XL19 q238 (0 : Int).toNat = 0 from hru.1, hru.2.1, e6] at hg9 hp9
                  rw [hA9.2.1 (by decide)] at hs8 hp9
                  replace eK382K := eK382K.symm
                  replace eR382R := eR382R.symm
                  subst eK382K
                  subst eR382R
                  refine lv_pop (pc := 385) hx hb dX10_tryMergeRuns_385 rfl ?_
                  refine ziconst (pc := 386) (n := 1) hx hb dX10_tryMergeRuns_386 ?_
                  exact zretZ (pc := 387) hx hb hlocks hr (Or.inr rfl) hw (by show 0 + 1 + 1 ≤ 2; omega) (by show 0 + 127 + sz.toNat ≤ (127 + sz.toNat); omega) dX10_tryMergeRuns_387 (by 
                                        first
                                        | exact ⟨Or.inr rfl, fun b hb => ⟨by rw [eK349, zup_n (zfa hb hz49), eK238, zup_n (zfa hb hfq238)], by rw [eR349, zupR_n (zfa hb hz49), eR238, zupR_n (zfa hb hfq238)], fun g => by rw [ho9 b g (zfa hb hz49), eX349, zupX_n (zfa hb hz49), ho b g (zfa hb hfq238), eX238, zupX_n (zfa hb hfq238), hX0 b g]⟩, Prm.trans (hs.prm hj) (Prm.of_w hp9 (fun k g => by rw [(hg9 k (by omega)).1, XRA]) hs8), fun _ => hs8.r⟩
                                        | exact ⟨Or.inr rfl, fun b hb => ⟨by rw [eK238, zup_n (zfa hb hfq238)], by rw [eR238, zupR_n (zfa hb hfq238)], fun g => by rw [ho b g (zfa hb hfq238), eX238, zupX_n (zfa hb hfq238), hX0 b g]⟩, hs.prm hj, fun _ => by have h9 := hq 0 (by omega); rw [hru.1, show (0 + 1 : Nat) = ct.toNat by omega, hru.2.1, e6] at h9; exact h9.r⟩)
              · skip
                obtain ⟨s9, hs9⟩ : ∃ s9 : Int, s9 = la := ⟨_, rfl⟩
                obtain ⟨k9, hk9s⟩ : ∃ k9 : Int, k9 = kk := ⟨_, rfl⟩
                obtain ⟨E, hE⟩ : ∃ E : Nat → Int, E = XL19 a := ⟨_, rfl⟩
                obtain ⟨ZE, hZE⟩ : ∃ ZE : zX, ZE = XL19 := ⟨_, rfl⟩
                have hsE : Swp 0 sz (X a) E := by rw [hE]; exact hs
                have hjE : injR 0 sz E := hsE.inj hj
                have hfE : ∀ j : Nat, (j : Int) < sz → fit (XL19 a j) := fun j g => by
                  obtain ⟨m, m1, m2, m3⟩ := hsE.vals j (by omega) g
                  rw [← hE, m3]; exact hF m m2
                have hjX : injR 0 sz (XL19 a) := by rw [← hE]; exact hjE
                have hkk : (k9 = s9 + 1 ∧ s9 = 0) ∨ (k9 = s9 ∧ 0 < s9) := by omega
                have hk9r : 1 ≤ k9 ∧ k9 < sz := by omega
                have hfA := hfE (kk - 1).toNat (by omega)
                have hfB := hfE (kk).toNat (by omega)
                have hnA : XL19 a (kk - 1).toNat ≠ XL19 a (kk).toNat := fun e => by have := hjX _ _ (by omega) (by omega) (by omega) (by omega) e; omega
                refine lv_aload_n (pc := 26) hx hb dX10_tryMergeRuns_26 rfl (lv_at hl 6 rfl) ?_
                have jn202_1 : ∀ (ke : Int) (Xjn202_1 : zX) (H : Heap) (locs : List Loc), (hke : k9 < ke ∧ ke ≤ sz) → (hoJ : ∀ b, b ≠ a → Xjn202_1 b = ZE b) → (hsJ : Swp 0 sz (X a) (Xjn202_1 a)) → (hpre : ∀ t : Nat, (t : Int) < s9 → Xjn202_1 a t = E t) → (hrun : srtS s9 ke (Xjn202_1 a)) → Wd Γ (zA K s.heap.size) K238 Xjn202_1 R238 s H locs → ∀ ls : Array Slot, lv_has ls 12 [(7, .int (iI la)), (4, .ref q238), (8, .int (iI ke)), (6, .int (iI ct)), (5, .int (iI x6)), (0, .null), (1, .ref a), (2, .int (iI lo)), (3, .int (iI sz))] → W p l e (rmL 16 2 (127 + sz.toNat)) s m ([.null, .ref a, .int (iI lo), .int (iI sz)] : List Value).toArray below meth c H locs (0 + 1) (0 + 127) (MQ below (zQ Γ K s.heap.size (pI (fun (r : Int) (K' : zK) (X' : zX) (R' : zR) => (r = 0 ∨ r = 1) ∧ (∀ b, (K b).1 ≠ 0 → K' b = K b ∧ R' b = Rf b ∧ (b ≠ a → X' b = X b)) ∧ Prm 0 sz (X a) (X' a) ∧ (r = 1 → srtR 0 sz (X' a))))) ([.null, .ref a, .int (iI lo), .int (iI sz)] : List Value).toArray s 2 (127 + sz.toNat) (zA K s.heap.size)) (F0 m 202 ls []) := by
                  intro ke Xjn202_1 H locs hke hoJ hsJ hpre hrun hw ls hl
                  have hjJ : injR 0 sz (Xjn202_1 a) := hsJ.inj hj
                  have hfJ : ∀ j : Nat, (j : Int) < sz → fit (Xjn202_1 a j) := fun j g => by
                    obtain ⟨m, m1, m2, m3⟩ := hsJ.vals j (by omega) g
                    rw [m3]; exact hF m m2
                  refine lv_aload (pc := 202) hx hb dX10_tryMergeRuns_202 (lv_at hl 1 rfl) ?_
                  refine lv_ifnonnull (pc := 204) (tgt := 250) hx hb dX10_tryMergeRuns_204 (by decide) ?_
                  have f1 := hfJ (la - 1).toNat (by omega)
                  have f2 := hfJ la.toNat (by omega)
                  have f3 : Xjn202_1 a (la - 1).toNat ≠ Xjn202_1 a la.toNat := fun e => by have := hjJ _ _ (by omega) (by omega) (by omega) (by omega) e; omega
                  have ZRU : Xjn202_1 q238 = XL19 q238 := by rw [hoJ q238 (Ne.symm haq), hZE]
                  have hpre2 : ∀ t : Nat, (t : Int) < la → Xjn202_1 a t = XL19 a t := fun t g => by rw [hpre t (by omega), hE]
                  refine lv_aload_n (pc := 250) hx hb dX10_tryMergeRuns_250 rfl (lv_at hl 6 rfl) ?_
                  refine lv_iload (pc := 251) hx hb dX10_tryMergeRuns_251 (lv_at hl 0 rfl) ?_
                  refine ziconst (pc := 253) (n := 1) hx hb dX10_tryMergeRuns_253 ?_
                  refine zsub (pc := 254) hx hb dX10_tryMergeRuns_254 ?_
                  refine zald (pc := 255) hx hb hw hk238 ⟨by omega, by omega⟩ (by omega) dX10_tryMergeRuns_255 ?_
                  refine lv_aload_n (pc := 256) hx hb dX10_tryMergeRuns_256 rfl (lv_at hl 6 rfl) ?_
                  refine lv_iload (pc := 257) hx hb dX10_tryMergeRuns_257 (lv_at hl 0 rfl) ?_
                  refine zald (pc := 259) hx hb hw hk238 ⟨by omega, by omega⟩ (by omega) dX10_tryMergeRuns_259 ?_
                  refine zicmp_le (pc := 260) hx hb 309 (by omega) (by omega) dX10_tryMergeRuns_260 (by decide) (fun c260 => ?_) (fun c260 => ?_)
                  · skip
                    refine lv_aload (pc := 309) hx hb dX10_tryMergeRuns_309 (lv_at hl 1 rfl) ?_
                    refine lv_iload (pc := 311) hx hb dX10_tryMergeRuns_311 (lv_at hl 3 rfl) ?_
                    refine lv_iload (pc := 313) hx hb dX10_tryMergeRuns_313 (lv_at hl 2 rfl) ?_
                    refine lv_dup (pc := 315) hx hb dX10_tryMergeRuns_315 rfl ?_
                    refine lv_istore (pc := 316) (lv' := [(7, .int (iI ke)), (4, .ref q238), (8, .int (iI ke)), (6, .int (iI ct)), (5, .int (iI x6)), (0, .null), (1, .ref a), (2, .int (iI lo)), (3, .int (iI sz))]) hx hb dX10_tryMergeRuns_316 hl (by decide) rfl (fun ls hl => ?_)
                    refine zast (pc := 318) hx hb hw hk238_1 ⟨by omega, by omega⟩ (by omega) dX10_tryMergeRuns_318 (fun H locs hw => ?_)
                    obtain ⟨X318, eX318⟩ : ∃ Y : zX, Y = up2 Xjn202_1 q238 ct.toNat ke := ⟨_, rfl⟩
                    rw [← eX318] at hw
                    have hruE : X318 q238 0 = 0 ∧ X318 q238 ct.toNat = ke ∧ srtS 0 (ct + 1) (X318 q238) := by
                      refine ⟨by rw [eX318, up2_k (by omega), ZRU]; exact hru.1, by rw [eX318]; exact up2_s, ?_⟩
                      refine srtS.snoc (fun i j g1 g2 g3 => ?_) ⟨by omega, by omega⟩ ?_
                      · rw [eX318, up2_k (by omega), up2_k (by omega), ZRU]; exact hru.2.2 i j g1 g2 (by omega)
                      · have w := hru.2.2 (ct - 1).toNat ct.toNat (by omega) (by omega) (by omega)
                        rw [hru.2.1] at w
                        rw [eX318, up2_k (by omega), up2_s, ZRU]; omega
                    have hqE : ∀ j : Nat, (j : Int) < ct → srtS (X318 q238 j) (X318 q238 (j + 1)) (X318 a) := fun j g1 => by
                      have ea : X318 a = Xjn202_1 a := by rw [eX318, up2_o haq]
                      rw [ea]
                      by_cases g : (j : Int) + 1 < ct
                      · rw [eX318, up2_k (by omega), up2_k (by omega), ZRU]
                        refine (hq j g1).congr (fun t g2 g3 => hpre2 t ?_)
                        have w := hru.2.2.r (j + 1) ct.toNat (by omega) (by omega) (by omega)
                        rw [hru.2.1] at w; omega
                      · have w := hq j g1
                        have w2 := hru.2.2 j (j + 1) (by omega) (by omega) (by omega)
                        rw [show j + 1 = ct.toNat by omega, hru.2.1] at w w2
                        rw [show j + 1 = ct.toNat by omega, eX318, up2_k (by omega), up2_s, ZRU]
                        have w0 := hru.2.2.r 0 j (by omega) (by omega) (by omega)
                        rw [hru.1] at w0
                        refine (w.congr (fun t g2 g3 => hpre2 t (by omega))).app (by rw [show kk = s9 by omega]; exact hrun) ⟨w0, w2, by omega⟩ ?_
                        rw [show kk = la by omega]; omega
                    refine lv_goto (pc := 319) (tgt := 19) hx hb dX10_tryMergeRuns_319 (by decide) ?_
                    exact ih19 ke ke ct X318 _ _ (by (first | assumption | omega)) (by intro b g1 g2; rw [eX318, up2_o g2, hoJ b g1, hZE]; exact ho b g1 g2) (by rw [eX318, up2_o haq]; exact hsJ) (by first | exact hruN | exact hruE) (by first | exact hqN | exact hqE) (by omega) hw _ (lv_sub hl [0, 1, 2, 3, 4, 5, 6, 7, 8] rfl)
                  · skip
                    refine lv_iload (pc := 263) hx hb dX10_tryMergeRuns_263 (lv_at hl 3 rfl) ?_
                    refine lv_iload (pc := 265) hx hb dX10_tryMergeRuns_265 (lv_at hl 2 rfl) ?_
                    refine lv_iload_n (pc := 267) hx hb dX10_tryMergeRuns_267 rfl (lv_at hl 7 rfl) ?_
                    refine zsub (pc := 268) hx hb dX10_tryMergeRuns_268 ?_
                    refine zbipush (pc := 269) (n := 7) hx hb dX10_tryMergeRuns_269 rfl ?_
                    refine zshr (pc := 271) hx hb (by omega) dX10_tryMergeRuns_271 ?_
                    rw [show (2 : Int) ^ (7 : Int).toNat = 128 by decide]
                    refine zicmp_le (pc := 272) hx hb 277 (by omega) (by omega) dX10_tryMergeRuns_272 (by decide) (fun c272 => ?_) (fun c272 => ?_)
                    · skip
                      refine ziinc (pc := 277) (lv' := [(6, .int (iI (ct + 1))), (7, .int (iI la)), (4, .ref q238), (8, .int (iI ke)), (5, .int (iI x6)), (0, .null), (1, .ref a), (2, .int (iI lo)), (3, .int (iI sz))]) hx hb 3 dX10_tryMergeRuns_277 hl rfl (by decide) rfl (fun ls hl => ?_)
                      obtain ⟨x277, ex277⟩ : ∃ zz : Int, zz = (ct + 1) := ⟨_, rfl⟩
                      rw [← ex277] at hl
                      refine lv_iload (pc := 280) hx hb dX10_tryMergeRuns_280 (lv_at hl 0 rfl) ?_
                      refine zsipush (pc := 282) (n := 5120) hx hb dX10_tryMergeRuns_282 rfl ?_
                      refine zicmp_ne (pc := 285) hx hb 290 (by omega) (by omega) dX10_tryMergeRuns_285 (by decide) (fun c285 => ?_) (fun c285 => ?_)
                      · skip
                        refine lv_iload (pc := 290) hx hb dX10_tryMergeRuns_290 (lv_at hl 0 rfl) ?_
                        refine lv_aload (pc := 292) hx hb dX10_tryMergeRuns_292 (lv_at hl 2 rfl) ?_
                        refine zlen2 (pc := 294) hx hb hw hk238_1 dX10_tryMergeRuns_294 ?_
                        refine zicmp_ne (pc := 295) hx hb 309 (by omega) (by omega) dX10_tryMergeRuns_295 (by decide) (fun c295 => ?_) (fun c295 => ?_)
                        · skip
                          refine lv_aload (pc := 309) hx hb dX10_tryMergeRuns_309 (lv_at hl 2 rfl) ?_
                          refine lv_iload (pc := 311) hx hb dX10_tryMergeRuns_311 (lv_at hl 0 rfl) ?_
                          refine lv_iload (pc := 313) hx hb dX10_tryMergeRuns_313 (lv_at hl 3 rfl) ?_
                          refine lv_dup (pc := 315) hx hb dX10_tryMergeRuns_315 rfl ?_
                          refine lv_istore (pc := 316) (lv' := [(7, .int (iI ke)), (6, .int (iI x277)), (4, .ref q238), (8, .int (iI ke)), (5, .int (iI x6)), (0, .null), (1, .ref a), (2, .int (iI lo)), (3, .int (iI sz))]) hx hb dX10_tryMergeRuns_316 hl (by decide) rfl (fun ls hl => ?_)
                          refine zast (pc := 318) hx hb hw hk238_1 ⟨by omega, by omega⟩ (by omega) dX10_tryMergeRuns_318 (fun H locs hw => ?_)
                          obtain ⟨X318, eX318⟩ : ∃ Y : zX, Y = up2 Xjn202_1 q238 x277.toNat ke := ⟨_, rfl⟩
                          rw [← eX318] at hw
                          have hruN : X318 q238 0 = 0 ∧ X318 q238 x277.toNat = ke ∧ srtS 0 (x277 + 1) (X318 q238) := by
                            refine ⟨by rw [eX318, up2_k (by omega), ZRU]; exact hru.1, by rw [eX318]; exact up2_s, ?_⟩
                            refine srtS.snoc (fun i j g1 g2 g3 => ?_) ⟨by omega, by omega⟩ ?_
                            · rw [eX318, up2_k (by omega), up2_k (by omega), ZRU]; exact hru.2.2 i j g1 g2 (by omega)
                            · rw [eX318, up2_k (by omega), up2_s, ZRU, show (x277 - 1).toNat = ct.toNat by omega, hru.2.1]; omega
                          have hqN : ∀ j : Nat, (j : Int) < x277 → srtS (X318 q238 j) (X318 q238 (j + 1)) (X318 a) := fun j g1 => by
                            have ea : X318 a = Xjn202_1 a := by rw [eX318, up2_o haq]
                            rw [ea]
                            by_cases g : (j : Int) < ct
                            · rw [eX318, up2_k (by omega), up2_k (by omega), ZRU]
                              refine (hq j g).congr (fun t g2 g3 => hpre2 t ?_)
                              have w := hru.2.2.r (j + 1) ct.toNat (by omega) (by omega) (by omega)
                              rw [hru.2.1] at w; omega
                            · rw [show j + 1 = x277.toNat by omega, show j = ct.toNat by omega, eX318, up2_k (by omega), up2_s, ZRU, hru.2.1, show kk = s9 by omega]; exact hrun
                          refine lv_goto (pc := 319) (tgt := 19) hx hb dX10_tryMergeRuns_319 (by decide) ?_
                          exact ih19 ke ke x277 X318 _ _ (by (first | assumption | omega)) (by intro b g1 g2; rw [eX318, up2_o g2, hoJ b g1, hZE]; exact ho b g1 g2) (by rw [eX318, up2_o haq]; exact hsJ) (by first | exact hruN | exact hruE) (by first | exact hqN | exact hqE) (by omega) hw _ (lv_sub hl [0, 2, 3, 1, 4, 5, 6, 7, 8] rfl)
                        · skip
                          exfalso; omega
                      · skip
                        exfalso; omega
                    · skip
                      refine ziconst (pc := 275) (n := 0) hx hb dX10_tryMergeRuns_275 ?_
                      exact zretZ (pc := 276) hx hb hlocks hr (Or.inl rfl) hw (by show 0 + 1 ≤ 2; omega) (by show 0 + 127 ≤ (127 + sz.toNat); omega) dX10_tryMergeRuns_276 (by exact ⟨Or.inl rfl, fun b hb => ⟨by rw [eK238, zup_n (zfa hb hfq238)], by rw [eR238, zupR_n (zfa hb hfq238)], fun g => by rw [hoJ b g, hZE, ho b g (zfa hb hfq238), eX238, zupX_n (zfa hb hfq238), hX0 b g]⟩, hsJ.prm hj, fun g => absurd g (by decide)⟩)
                refine lv_iload (pc := 27) hx hb dX10_tryMergeRuns_27 (lv_at hl 2 rfl) ?_
                refine ziconst (pc := 29) (n := 1) hx hb dX10_tryMergeRuns_29 ?_
                refine zsub (pc := 30) hx hb dX10_tryMergeRuns_30 ?_
                refine zald (pc := 31) hx hb hw hk238 ⟨by omega, by omega⟩ (by omega) dX10_tryMergeRuns_31 ?_
                refine lv_aload_n (pc := 32) hx hb dX10_tryMergeRuns_32 rfl (lv_at hl 6 rfl) ?_
                refine lv_iload (pc := 33) hx hb dX10_tryMergeRuns_33 (lv_at hl 2 rfl) ?_
                refine zald (pc := 35) hx hb hw hk238 ⟨by omega, by omega⟩ (by omega) dX10_tryMergeRuns_35 ?_
                refine zicmp_ge (pc := 36) hx hb 65 (by omega) (by omega) dX10_tryMergeRuns_36 (by decide) (fun c36 => ?_) (fun c36 => ?_)
                · skip
                  refine lv_aload_n (pc := 65) hx hb dX10_tryMergeRuns_65 rfl (lv_at hl 6 rfl) ?_
                  refine lv_iload (pc := 66) hx hb dX10_tryMergeRuns_66 (lv_at hl 2 rfl) ?_
                  refine ziconst (pc := 68) (n := 1) hx hb dX10_tryMergeRuns_68 ?_
                  refine zsub (pc := 69) hx hb dX10_tryMergeRuns_69 ?_
                  refine zald (pc := 70) hx hb hw hk238 ⟨by omega, by omega⟩ (by omega) dX10_tryMergeRuns_70 ?_
                  refine lv_aload_n (pc := 71) hx hb dX10_tryMergeRuns_71 rfl (lv_at hl 6 rfl) ?_
                  refine lv_iload (pc := 72) hx hb dX10_tryMergeRuns_72 (lv_at hl 2 rfl) ?_
                  refine zald (pc := 74) hx hb hw hk238 ⟨by omega, by omega⟩ (by omega) dX10_tryMergeRuns_74 ?_
                  refine zicmp_le (pc := 75) hx hb 164 (by omega) (by omega) dX10_tryMergeRuns_75 (by decide) (fun c75 => ?_) (fun c75 => ?_)
                  · skip
                    exfalso; omega
                  · skip
                    have lp78 : ∀ (n78 : Nat) (kk2 : Int) (H : Heap) (locs : List Loc), (hk2 : k9 ≤ kk2 ∧ kk2 < sz) → (hdn : dscS (k9 - 1) (kk2 + 1) E) → ((sz - kk2).toNat < n78) → Wd Γ (zA K s.heap.size) K238 XL19 R238 s H locs → ∀ ls : Array Slot, lv_has ls 12 [(7, .int (iI la)), (4, .ref q238), (8, .int (iI kk2)), (6, .int (iI ct)), (5, .int (iI x6)), (0, .null), (1, .ref a), (2, .int (iI lo)), (3, .int (iI sz))] → W p l e (rmL 16 2 (127 + sz.toNat)) s m ([.null, .ref a, .int (iI lo), .int (iI sz)] : List Value).toArray below meth c H locs (0 + 1) (0 + 127) (MQ below (zQ Γ K s.heap.size (pI (fun (r : Int) (K' : zK) (X' : zX) (R' : zR) => (r = 0 ∨ r = 1) ∧ (∀ b, (K b).1 ≠ 0 → K' b = K b ∧ R' b = Rf b ∧ (b ≠ a → X' b = X b)) ∧ Prm 0 sz (X a) (X' a) ∧ (r = 1 → srtR 0 sz (X' a))))) ([.null, .ref a, .int (iI lo), .int (iI sz)] : List Value).toArray s 2 (127 + sz.toNat) (zA K s.heap.size)) (F0 m 78 ls []) := by
                      intro n78
                      induction n78 with
                      | zero => intro kk2 H locs hk2 hdn hm78; exact absurd hm78 (Nat.not_lt_zero _)
                      | succ n78 ih78 =>
                        intro kk2 H locs hk2 hdn hm78 hw ls hl
                        refine ziinc (pc := 78) (lv' := [(8, .int (iI (kk2 + 1))), (7, .int (iI la)), (4, .ref q238), (6, .int (iI ct)), (5, .int (iI x6)), (0, .null), (1, .ref a), (2, .int (iI lo)), (3, .int (iI sz))]) hx hb 2 dX10_tryMergeRuns_78 hl rfl (by decide) rfl (fun ls hl => ?_)
                        obtain ⟨x78, ex78⟩ : ∃ zz : Int, zz = (kk2 + 1) := ⟨_, rfl⟩
                        rw [← ex78] at hl
                        refine lv_iload (pc := 81) hx hb dX10_tryMergeRuns_81 (lv_at hl 0 rfl) ?_
                        refine lv_iload (pc := 83) hx hb dX10_tryMergeRuns_83 (lv_at hl 4 rfl) ?_
                        refine zicmp_ge (pc := 85) hx hb 104 (by omega) (by omega) dX10_tryMergeRuns_85 (by decide) (fun c85 => ?_) (fun c85 => ?_)
                        · skip
                          have hdD : dscS s9 x78 E := by rw [show x78 = kk2 + 1 by omega]; exact fun i j g1 g2 g3 => hdn i j (by omega) g2 g3
                          refine lv_iload (pc := 104) hx hb dX10_tryMergeRuns_104 (lv_at hl 1 rfl) ?_
                          refine ziconst (pc := 106) (n := 1) hx hb dX10_tryMergeRuns_106 ?_
                          refine zsub (pc := 107) hx hb dX10_tryMergeRuns_107 ?_
                          refine ztop (fun x108 ex108 => ?_)
                          refine lv_istore (pc := 108) (lv' := [(9, .int (iI x108)), (8, .int (iI x78)), (7, .int (iI la)), (4, .ref q238), (6, .int (iI ct)), (5, .int (iI x6)), (0, .null), (1, .ref a), (2, .int (iI lo)), (3, .int (iI sz))]) hx hb dX10_tryMergeRuns_108 hl (by decide) rfl (fun ls hl => ?_)
                          refine lv_iload (pc := 110) hx hb dX10_tryMergeRuns_110 (lv_at hl 1 rfl) ?_
                          refine lv_istore (pc := 112) (lv' := [(10, .int (iI x78)), (9, .int (iI x108)), (8, .int (iI x78)), (7, .int (iI la)), (4, .ref q238), (6, .int (iI ct)), (5, .int (iI x6)), (0, .null), (1, .ref a), (2, .int (iI lo)), (3, .int (iI sz))]) hx hb dX10_tryMergeRuns_112 hl (by decide) rfl (fun ls hl => ?_)
                          have lp114 : ∀ (n114 : Nat) (j9 : Int) (i9 : Int) (XL114 : zX) (H : Heap) (locs : List Loc), (hij : i9 + j9 = s9 + x78 - 1 ∧ s9 - 1 ≤ i9 ∧ i9 < j9) → (hoR : ∀ b, b ≠ a → XL114 b = ZE b) → (hsR : Swp 0 sz (X a) (XL114 a)) → (hvR : ∀ t : Nat, s9 ≤ t → (t : Int) < x78 → XL114 a t = if (t : Int) ≤ i9 ∨ j9 ≤ t then E (s9 + x78 - 1 - t).toNat else E t) → (hgR : ∀ t : Nat, (t : Int) < s9 ∨ x78 ≤ t → XL114 a t = E t) → (j9.toNat < n114) → Wd Γ (zA K s.heap.size) K238 XL114 R238 s H locs → ∀ ls : Array Slot, lv_has ls 12 [(10, .int (iI j9)), (9, .int (iI i9)), (8, .int (iI x78)), (7, .int (iI la)), (4, .ref q238), (6, .int (iI ct)), (5, .int (iI x6)), (0, .null), (1, .ref a), (2, .int (iI lo)), (3, .int (iI sz))] → W p l e (rmL 16 2 (127 + sz.toNat)) s m ([.null, .ref a, .int (iI lo), .int (iI sz)] : List Value).toArray below meth c H locs (0 + 1) (0 + 127) (MQ below (zQ Γ K s.heap.size (pI (fun (r : Int) (K' : zK) (X' : zX) (R' : zR) => (r = 0 ∨ r = 1) ∧ (∀ b, (K b).1 ≠ 0 → K' b = K b ∧ R' b = Rf b ∧ (b ≠ a → X' b = X b)) ∧ Prm 0 sz (X a) (X' a) ∧ (r = 1 → srtR 0 sz (X' a))))) ([.null, .ref a, .int (iI lo), .int (iI sz)] : List Value).toArray s 2 (127 + sz.toNat) (zA K s.heap.size)) (F0 m 114 ls []) := by
                            intro n114
                            induction n114 with
                            | zero => intro j9 i9 XL114 H locs hij hoR hsR hvR hgR hm114; exact absurd hm114 (Nat.not_lt_zero _)
                            | succ n114 ih114 =>
                              intro j9 i9 XL114 H locs hij hoR hsR hvR hgR hm114 hw ls hl
                              refine ziinc (pc := 114) (lv' := [(9, .int (iI (i9 + 1))), (10, .int (iI j9)), (8, .int (iI x78)), (7, .int (iI la)), (4, .ref q238), (6, .int (iI ct)), (5, .int (iI x6)), (0, .null), (1, .ref a), (2, .int (iI lo)), (3, .int (iI sz))]) hx hb 1 dX10_tryMergeRuns_114 hl rfl (by decide) rfl (fun ls hl => ?_)
                              obtain ⟨x114, ex114⟩ : ∃ zz : Int, zz = (i9 + 1) := ⟨_, rfl⟩
                              rw [← ex114] at hl
                              refine lv_iload (pc := 117) hx hb dX10_tryMergeRuns_117 (lv_at hl 0 rfl) ?_
                              refine ziinc (pc := 119) (lv' := [(10, .int (iI (j9 + (-1)))), (9, .int (iI x114)), (8, .int (iI x78)), (7, .int (iI la)), (4, .ref q238), (6, .int (iI ct)), (5, .int (iI x6)), (0, .null), (1, .ref a), (2, .int (iI lo)), (3, .int (iI sz))]) hx hb 1 dX10_tryMergeRuns_119 hl rfl (by decide) rfl (fun ls hl => ?_)
                              obtain ⟨x119, ex119⟩ : ∃ zz : Int, zz = (j9 + (-1)) := ⟨_, rfl⟩
                              rw [← ex119] at hl
                              refine lv_iload (pc := 122) hx hb dX10_tryMergeRuns_122 (lv_at hl 0 rfl) ?_
                              refine zicmp_ge (pc := 124) hx hb 161 (by omega) (by omega) dX10_tryMergeRuns_124 (by decide) (fun c124 => ?_) (fun c124 => ?_)
                              · skip
                                have hrunR : srtS s9 x78 (XL114 a) := hdD.rev (by omega) (fun t g1 g2 => by
                                  rw [hvR t g1 g2]
                                  by_cases u : (t : Int) ≤ i9 ∨ j9 ≤ t
                                  · rw [if_pos u]
                                  · rw [if_neg u]; congr 1; omega)
                                refine lv_goto (pc := 161) (tgt := 202) hx hb dX10_tryMergeRuns_161 (by decide) ?_
                                exact jn202_1 x78 XL114 _ _ (by (first | assumption | omega)) (by first | exact hoR | exact fun b _ => by rw [hZE]) (by first | exact hsR | exact (by rw [hE] at hsE; exact hsE)) (by first | exact fun t g => hgR t (Or.inl g) | exact fun t _ => by rw [hE]) (by first | exact hrunR | (rw [← hE, show x39 = kk2 + 1 by omega]; exact hup.sub (by omega) (Int.le_refl _))) hw _ (lv_sub hl [3, 4, 2, 5, 6, 7, 8, 9, 10] rfl)
                              · skip
                                have hvi : XL114 a x114.toNat = E x114.toNat := by rw [hvR _ (by omega) (by omega), if_neg (by omega)]
                                have hvj : XL114 a x119.toNat = E x119.toNat := by rw [hvR _ (by omega) (by omega), if_neg (by omega)]
                                have hvd := hdD x114.toNat x119.toNat (by omega) (by omega) (by omega)
                                have f4 : fit (E x114.toNat) := by rw [hE]; exact hfE _ (by omega)
                                have f5 : fit (E x119.toNat) := by rw [hE]; exact hfE _ (by omega)
                                refine lv_aload_n (pc := 127) hx hb dX10_tryMergeRuns_127 rfl (lv_at hl 8 rfl) ?_
                                refine lv_iload (pc := 128) hx hb dX10_tryMergeRuns_128 (lv_at hl 1 rfl) ?_
                                refine zald (pc := 130) hx hb hw hk238 ⟨by omega, by omega⟩ (by omega) dX10_tryMergeRuns_130 ?_
                                refine lv_aload_n (pc := 131) hx hb dX10_tryMergeRuns_131 rfl (lv_at hl 8 rfl) ?_
                                refine lv_iload (pc := 132) hx hb dX10_tryMergeRuns_132 (lv_at hl 0 rfl) ?_
                                refine zald (pc := 134) hx hb hw hk238 ⟨by omega, by omega⟩ (by omega) dX10_tryMergeRuns_134 ?_
                                refine zicmp_le (pc := 135) hx hb 161 (by omega) (by omega) dX10_tryMergeRuns_135 (by decide) (fun c135 => ?_) (fun c135 => ?_)
                                · skip
                                  exfalso; omega
                                · skip
                                  refine lv_aload_n (pc := 138) hx hb dX10_tryMergeRuns_138 rfl (lv_at hl 8 rfl) ?_
                                  refine lv_iload (pc := 139) hx hb dX10_tryMergeRuns_139 (lv_at hl 1 rfl) ?_
                                  refine zald (pc := 141) hx hb hw hk238 ⟨by omega, by omega⟩ (by omega) dX10_tryMergeRuns_141 ?_
                                  refine ztop (fun x142 ex142 => ?_)
                                  refine lv_istore (pc := 142) (lv' := [(11, .int (iI x142)), (10, .int (iI x119)), (9, .int (iI x114)), (8, .int (iI x78)), (7, .int (iI la)), (4, .ref q238), (6, .int (iI ct)), (5, .int (iI x6)), (0, .null), (1, .ref a), (2, .int (iI lo)), (3, .int (iI sz))]) hx hb dX10_tryMergeRuns_142 hl (by decide) rfl (fun ls hl => ?_)
                                  refine lv_aload_n (pc := 144) hx hb dX10_tryMergeRuns_144 rfl (lv_at hl 9 rfl) ?_
                                  refine lv_iload (pc := 145) hx hb dX10_tryMergeRuns_145 (lv_at hl 2 rfl) ?_
                                  refine lv_aload_n (pc := 147) hx hb dX10_tryMergeRuns_147 rfl (lv_at hl 9 rfl) ?_
                                  refine lv_iload (pc := 148) hx hb dX10_tryMergeRuns_148 (lv_at hl 1 rfl) ?_
                                  refine zald (pc := 150) hx hb hw hk238 ⟨by omega, by omega⟩ (by omega) dX10_tryMergeRuns_150 ?_
                                  refine zast (pc := 151) hx hb hw hk238 ⟨by omega, by omega⟩ (by omega) dX10_tryMergeRuns_151 (fun H locs hw => ?_)
                                  obtain ⟨X151, eX151⟩ : ∃ Y : zX, Y = up2 XL114 a x114.toNat (XL114 a x119.toNat) := ⟨_, rfl⟩
                                  rw [← eX151] at hw
                                  refine lv_aload_n (pc := 152) hx hb dX10_tryMergeRuns_152 rfl (lv_at hl 9 rfl) ?_
                                  refine lv_iload (pc := 153) hx hb dX10_tryMergeRuns_153 (lv_at hl 1 rfl) ?_
                                  refine lv_iload (pc := 155) hx hb dX10_tryMergeRuns_155 (lv_at hl 0 rfl) ?_
                                  refine zast (pc := 157) hx hb hw hk238 ⟨by omega, by omega⟩ (by omega) dX10_tryMergeRuns_157 (fun H locs hw => ?_)
                                  obtain ⟨X157, eX157⟩ : ∃ Y : zX, Y = up2 X151 a x119.toNat x142 := ⟨_, rfl⟩
                                  rw [← eX157] at hw
                                  have e57 : X157 a = updF (updF (XL114 a) x114.toNat (XL114 a x119.toNat)) x119.toNat (XL114 a x114.toNat) := by rw [eX157, up2_row, eX151, up2_row, ex142]
                                  refine lv_goto (pc := 158) (tgt := 114) hx hb dX10_tryMergeRuns_158 (by decide) ?_
                                  exact ih114 x119 x114 X157 _ _ (by (first | assumption | omega)) (by intro b hb; rw [eX157, up2_o hb, eX151, up2_o hb]; exact hoR b hb) (by rw [e57]; exact hsR.step ⟨by omega, by omega⟩ ⟨by omega, by omega⟩) (by 
                                        intro t g1 g2
                                        rw [e57]
                                        by_cases g : t = x119.toNat
                                        · rw [g, updF_s, if_pos (by omega), hvi]; congr 1; omega
                                        · rw [updF_o g]
                                          by_cases w : t = x114.toNat
                                          · rw [w, updF_s, if_pos (by omega), hvj]; congr 1; omega
                                          · rw [updF_o w, hvR t g1 g2]
                                            by_cases u : (t : Int) ≤ i9 ∨ j9 ≤ t
                                            · rw [if_pos u, if_pos (by omega)]
                                            · rw [if_neg u, if_neg (by omega)]) (by intro t g; rw [e57, updF_o (by omega), updF_o (by omega)]; exact hgR t g) (by omega) hw _ (lv_sub hl [1, 2, 3, 4, 5, 6, 7, 8, 9, 10, 11] rfl)
                          exact lp114 _ x78 x108 XL19 _ _ (by (first | assumption | omega)) (by exact fun b _ => by rw [hZE]) (by rw [hE] at hsE; exact hsE) (by intro t g1 g2; rw [if_neg (by omega), hE]) (by exact fun t _ => by rw [hE]) (Nat.lt_succ_self _) hw _ (lv_sub hl [0, 1, 2, 3, 4, 5, 6, 7, 8, 9, 10] rfl)
                        · skip
                          refine lv_aload_n (pc := 88) hx hb dX10_tryMergeRuns_88 rfl (lv_at hl 6 rfl) ?_
                          refine lv_iload (pc := 89) hx hb dX10_tryMergeRuns_89 (lv_at hl 0 rfl) ?_
                          refine ziconst (pc := 91) (n := 1) hx hb dX10_tryMergeRuns_91 ?_
                          have f1 := hfE (x78 - 1).toNat (by omega)
                          have f2 := hfE x78.toNat (by omega)
                          have f3 : XL19 a (x78 - 1).toNat ≠ XL19 a x78.toNat := fun e => by have := hjX _ _ (by omega) (by omega) (by omega) (by omega) e; omega
                          refine zsub (pc := 92) hx hb dX10_tryMergeRuns_92 ?_
                          refine zald (pc := 93) hx hb hw hk238 ⟨by omega, by omega⟩ (by omega) dX10_tryMergeRuns_93 ?_
                          refine lv_aload_n (pc := 94) hx hb dX10_tryMergeRuns_94 rfl (lv_at hl 6 rfl) ?_
                          refine lv_iload (pc := 95) hx hb dX10_tryMergeRuns_95 (lv_at hl 0 rfl) ?_
                          refine zald (pc := 97) hx hb hw hk238 ⟨by omega, by omega⟩ (by omega) dX10_tryMergeRuns_97 ?_
                          refine zicmp_lt (pc := 98) hx hb 104 (by omega) (by omega) dX10_tryMergeRuns_98 (by decide) (fun c98 => ?_) (fun c98 => ?_)
                          · skip
                            have hdD : dscS s9 x78 E := by rw [show x78 = kk2 + 1 by omega]; exact fun i j g1 g2 g3 => hdn i j (by omega) g2 g3
                            refine lv_iload (pc := 104) hx hb dX10_tryMergeRuns_104 (lv_at hl 1 rfl) ?_
                            refine ziconst (pc := 106) (n := 1) hx hb dX10_tryMergeRuns_106 ?_
                            refine zsub (pc := 107) hx hb dX10_tryMergeRuns_107 ?_
                            refine ztop (fun x108 ex108 => ?_)
                            refine lv_istore (pc := 108) (lv' := [(9, .int (iI x108)), (8, .int (iI x78)), (7, .int (iI la)), (4, .ref q238), (6, .int (iI ct)), (5, .int (iI x6)), (0, .null), (1, .ref a), (2, .int (iI lo)), (3, .int (iI sz))]) hx hb dX10_tryMergeRuns_108 hl (by decide) rfl (fun ls hl => ?_)
                            refine lv_iload (pc := 110) hx hb dX10_tryMergeRuns_110 (lv_at hl 1 rfl) ?_
                            refine lv_istore (pc := 112) (lv' := [(10, .int (iI x78)), (9, .int (iI x108)), (8, .int (iI x78)), (7, .int (iI la)), (4, .ref q238), (6, .int (iI ct)), (5, .int (iI x6)), (0, .null), (1, .ref a), (2, .int (iI lo)), (3, .int (iI sz))]) hx hb dX10_tryMergeRuns_112 hl (by decide) rfl (fun ls hl => ?_)
                            have lp114 : ∀ (n114 : Nat) (j9 : Int) (i9 : Int) (XL114 : zX) (H : Heap) (locs : List Loc), (hij : i9 + j9 = s9 + x78 - 1 ∧ s9 - 1 ≤ i9 ∧ i9 < j9) → (hoR : ∀ b, b ≠ a → XL114 b = ZE b) → (hsR : Swp 0 sz (X a) (XL114 a)) → (hvR : ∀ t : Nat, s9 ≤ t → (t : Int) < x78 → XL114 a t = if (t : Int) ≤ i9 ∨ j9 ≤ t then E (s9 + x78 - 1 - t).toNat else E t) → (hgR : ∀ t : Nat, (t : Int) < s9 ∨ x78 ≤ t → XL114 a t = E t) → (j9.toNat < n114) → Wd Γ (zA K s.heap.size) K238 XL114 R238 s H locs → ∀ ls : Array Slot, lv_has ls 12 [(10, .int (iI j9)), (9, .int (iI i9)), (8, .int (iI x78)), (7, .int (iI la)), (4, .ref q238), (6, .int (iI ct)), (5, .int (iI x6)), (0, .null), (1, .ref a), (2, .int (iI lo)), (3, .int (iI sz))] → W p l e (rmL 16 2 (127 + sz.toNat)) s m ([.null, .ref a, .int (iI lo), .int (iI sz)] : List Value).toArray below meth c H locs (0 + 1) (0 + 127) (MQ below (zQ Γ K s.heap.size (pI (fun (r : Int) (K' : zK) (X' : zX) (R' : zR) => (r = 0 ∨ r = 1) ∧ (∀ b, (K b).1 ≠ 0 → K' b = K b ∧ R' b = Rf b ∧ (b ≠ a → X' b = X b)) ∧ Prm 0 sz (X a) (X' a) ∧ (r = 1 → srtR 0 sz (X' a))))) ([.null, .ref a, .int (iI lo), .int (iI sz)] : List Value).toArray s 2 (127 + sz.toNat) (zA K s.heap.size)) (F0 m 114 ls []) := by
                              intro n114
                              induction n114 with
                              | zero => intro j9 i9 XL114 H locs hij hoR hsR hvR hgR hm114; exact absurd hm114 (Nat.not_lt_zero _)
                              | succ n114 ih114 =>
                                intro j9 i9 XL114 H locs hij hoR hsR hvR hgR hm114 hw ls hl
                                refine ziinc (pc := 114) (lv' := [(9, .int (iI (i9 + 1))), (10, .int (iI j9)), (8, .int (iI x78)), (7, .int (iI la)), (4, .ref q238), (6, .int (iI ct)), (5, .int (iI x6)), (0, .null), (1, .ref a), (2, .int (iI lo)), (3, .int (iI sz))]) hx hb 1 dX10_tryMergeRuns_114 hl rfl (by decide) rfl (fun ls hl => ?_)
                                obtain ⟨x114, ex114⟩ : ∃ zz : Int, zz = (i9 + 1) := ⟨_, rfl⟩
                                rw [← ex114] at hl
                                refine lv_iload (pc := 117) hx hb dX10_tryMergeRuns_117 (lv_at hl 0 rfl) ?_
                                refine ziinc (pc := 119) (lv' := [(10, .int (iI (j9 + (-1)))), (9, .int (iI x114)), (8, .int (iI x78)), (7, .int (iI la)), (4, .ref q238), (6, .int (iI ct)), (5, .int (iI x6)), (0, .null), (1, .ref a), (2, .int (iI lo)), (3, .int (iI sz))]) hx hb 1 dX10_tryMergeRuns_119 hl rfl (by decide) rfl (fun ls hl => ?_)
                                obtain ⟨x119, ex119⟩ : ∃ zz : Int, zz = (j9 + (-1)) := ⟨_, rfl⟩
                                rw [← ex119] at hl
                                refine lv_iload (pc := 122) hx hb dX10_tryMergeRuns_122 (lv_at hl 0 rfl) ?_
                                refine zicmp_ge (pc := 124) hx hb 161 (by omega) (by omega) dX10_tryMergeRuns_124 (by decide) (fun c124 => ?_) (fun c124 => ?_)
                                · skip
                                  have hrunR : srtS s9 x78 (XL114 a) := hdD.rev (by omega) (fun t g1 g2 => by
                                    rw [hvR t g1 g2]
                                    by_cases u : (t : Int) ≤ i9 ∨ j9 ≤ t
                                    · rw [if_pos u]
                                    · rw [if_neg u]; congr 1; omega)
                                  refine lv_goto (pc := 161) (tgt := 202) hx hb dX10_tryMergeRuns_161 (by decide) ?_
                                  exact jn202_1 x78 XL114 _ _ (by (first | assumption | omega)) (by first | exact hoR | exact fun b _ => by rw [hZE]) (by first | exact hsR | exact (by rw [hE] at hsE; exact hsE)) (by first | exact fun t g => hgR t (Or.inl g) | exact fun t _ => by rw [hE]) (by first | exact hrunR | (rw [← hE, show x39 = kk2 + 1 by omega]; exact hup.sub (by omega) (Int.le_refl _))) hw _ (lv_sub hl [3, 4, 2, 5, 6, 7, 8, 9, 10] rfl)
                                · skip
                                  have hvi : XL114 a x114.toNat = E x114.toNat := by rw [hvR _ (by omega) (by omega), if_neg (by omega)]
                                  have hvj : XL114 a x119.toNat = E x119.toNat := by rw [hvR _ (by omega) (by omega), if_neg (by omega)]
                                  have hvd := hdD x114.toNat x119.toNat (by omega) (by omega) (by omega)
                                  have f4 : fit (E x114.toNat) := by rw [hE]; exact hfE _ (by omega)
                                  have f5 : fit (E x119.toNat) := by rw [hE]; exact hfE _ (by omega)
                                  refine lv_aload_n (pc := 127) hx hb dX10_tryMergeRuns_127 rfl (lv_at hl 8 rfl) ?_
                                  refine lv_iload (pc := 128) hx hb dX10_tryMergeRuns_128 (lv_at hl 1 rfl) ?_
                                  refine zald (pc := 130) hx hb hw hk238 ⟨by omega, by omega⟩ (by omega) dX10_tryMergeRuns_130 ?_
                                  refine lv_aload_n (pc := 131) hx hb dX10_tryMergeRuns_131 rfl (lv_at hl 8 rfl) ?_
                                  refine lv_iload (pc := 132) hx hb dX10_tryMergeRuns_132 (lv_at hl 0 rfl) ?_
                                  refine zald (pc := 134) hx hb hw hk238 ⟨by omega, by omega⟩ (by omega) dX10_tryMergeRuns_134 ?_
                                  refine zicmp_le (pc := 135) hx hb 161 (by omega) (by omega) dX10_tryMergeRuns_135 (by decide) (fun c135 => ?_) (fun c135 => ?_)
                                  · skip
                                    exfalso; omega
                                  · skip
                                    refine lv_aload_n (pc := 138) hx hb dX10_tryMergeRuns_138 rfl (lv_at hl 8 rfl) ?_
                                    refine lv_iload (pc := 139) hx hb dX10_tryMergeRuns_139 (lv_at hl 1 rfl) ?_
                                    refine zald (pc := 141) hx hb hw hk238 ⟨by omega, by omega⟩ (by omega) dX10_tryMergeRuns_141 ?_
                                    refine ztop (fun x142 ex142 => ?_)
                                    refine lv_istore (pc := 142) (lv' := [(11, .int (iI x142)), (10, .int (iI x119)), (9, .int (iI x114)), (8, .int (iI x78)), (7, .int (iI la)), (4, .ref q238), (6, .int (iI ct)), (5, .int (iI x6)), (0, .null), (1, .ref a), (2, .int (iI lo)), (3, .int (iI sz))]) hx hb dX10_tryMergeRuns_142 hl (by decide) rfl (fun ls hl => ?_)
                                    refine lv_aload_n (pc := 144) hx hb dX10_tryMergeRuns_144 rfl (lv_at hl 9 rfl) ?_
                                    refine lv_iload (pc := 145) hx hb dX10_tryMergeRuns_145 (lv_at hl 2 rfl) ?_
                                    refine lv_aload_n (pc := 147) hx hb dX10_tryMergeRuns_147 rfl (lv_at hl 9 rfl) ?_
                                    refine lv_iload (pc := 148) hx hb dX10_tryMergeRuns_148 (lv_at hl 1 rfl) ?_
                                    refine zald (pc := 150) hx hb hw hk238 ⟨by omega, by omega⟩ (by omega) dX10_tryMergeRuns_150 ?_
                                    refine zast (pc := 151) hx hb hw hk238 ⟨by omega, by omega⟩ (by omega) dX10_tryMergeRuns_151 (fun H locs hw => ?_)
                                    obtain ⟨X151, eX151⟩ : ∃ Y : zX, Y = up2 XL114 a x114.toNat (XL114 a x119.toNat) := ⟨_, rfl⟩
                                    rw [← eX151] at hw
                                    refine lv_aload_n (pc := 152) hx hb dX10_tryMergeRuns_152 rfl (lv_at hl 9 rfl) ?_
                                    refine lv_iload (pc := 153) hx hb dX10_tryMergeRuns_153 (lv_at hl 1 rfl) ?_
                                    refine lv_iload (pc := 155) hx hb dX10_tryMergeRuns_155 (lv_at hl 0 rfl) ?_
                                    refine zast (pc := 157) hx hb hw hk238 ⟨by omega, by omega⟩ (by omega) dX10_tryMergeRuns_157 (fun H locs hw => ?_)
                                    obtain ⟨X157, eX157⟩ : ∃ Y : zX, Y = up2 X151 a x119.toNat x142 := ⟨_, rfl⟩
                                    rw [← eX157] at hw
                                    have e57 : X157 a = updF (updF (XL114 a) x114.toNat (XL114 a x119.toNat)) x119.toNat (XL114 a x114.toNat) := by rw [eX157, up2_row, eX151, up2_row, ex142]
                                    refine lv_goto (pc := 158) (tgt := 114) hx hb dX10_tryMergeRuns_158 (by decide) ?_
                                    exact ih114 x119 x114 X157 _ _ (by (first | assumption | omega)) (by intro b hb; rw [eX157, up2_o hb, eX151, up2_o hb]; exact hoR b hb) (by rw [e57]; exact hsR.step ⟨by omega, by omega⟩ ⟨by omega, by omega⟩) (by 
                                        intro t g1 g2
                                        rw [e57]
                                        by_cases g : t = x119.toNat
                                        · rw [g, updF_s, if_pos (by omega), hvi]; congr 1; omega
                                        · rw [updF_o g]
                                          by_cases w : t = x114.toNat
                                          · rw [w, updF_s, if_pos (by omega), hvj]; congr 1; omega
                                          · rw [updF_o w, hvR t g1 g2]
                                            by_cases u : (t : Int) ≤ i9 ∨ j9 ≤ t
                                            · rw [if_pos u, if_pos (by omega)]
                                            · rw [if_neg u, if_neg (by omega)]) (by intro t g; rw [e57, updF_o (by omega), updF_o (by omega)]; exact hgR t g) (by omega) hw _ (lv_sub hl [1, 2, 3, 4, 5, 6, 7, 8, 9, 10, 11] rfl)
                            exact lp114 _ x78 x108 XL19 _ _ (by (first | assumption | omega)) (by exact fun b _ => by rw [hZE]) (by rw [hE] at hsE; exact hsE) (by intro t g1 g2; rw [if_neg (by omega), hE]) (by exact fun t _ => by rw [hE]) (Nat.lt_succ_self _) hw _ (lv_sub hl [0, 1, 2, 3, 4, 5, 6, 7, 8, 9, 10] rfl)
                          · skip
                            have hdnN : dscS (k9 - 1) (x78 + 1) E := by
                              rw [show x78 + 1 = kk2 + 1 + 1 by omega]
                              refine hdn.snoc ⟨by omega, by omega⟩ ?_
                              rw [hE, show (kk2 + 1 - 1).toNat = (x78 - 1).toNat by omega, show (kk2 + 1).toNat = x78.toNat by omega]; omega
                            refine lv_goto (pc := 101) (tgt := 78) hx hb dX10_tryMergeRuns_101 (by decide) ?_
                            exact ih78 x78 _ _ (by (first | assumption | omega)) (by exact hdnN) (by omega) hw _ (lv_sub hl [1, 2, 0, 3, 4, 5, 6, 7, 8] rfl)
                    exact lp78 _ kk _ _ (by (first | assumption | omega)) (by rw [← hk9s]; exact (show dscS (k9 - 1) k9 E from fun i j g1 g2 g3 => by omega).snoc ⟨by omega, by omega⟩ (by rw [hE, hk9s]; omega)) (Nat.lt_succ_self _) hw _ (lv_sub hl [0, 1, 2, 3, 4, 5, 6, 7, 8] rfl)
                · skip
                  have lp39 : ∀ (n39 : Nat) (kk2 : Int) (H : Heap) (locs : List Loc), (hk2 : k9 ≤ kk2 ∧ kk2 < sz) → (hup : srtS (k9 - 1) (kk2 + 1) E) → ((sz - kk2).toNat < n39) → Wd Γ (zA K s.heap.size) K238 XL19 R238 s H locs → ∀ ls : Array Slot, lv_has ls 12 [(7, .int (iI la)), (4, .ref q238), (8, .int (iI kk2)), (6, .int (iI ct)), (5, .int (iI x6)), (0, .null), (1, .ref a), (2, .int (iI lo)), (3, .int (iI sz))] → W p l e (rmL 16 2 (127 + sz.toNat)) s m ([.null, .ref a, .int (iI lo), .int (iI sz)] : List Value).toArray below meth c H locs (0 + 1) (0 + 127) (MQ below (zQ Γ K s.heap.size (pI (fun (r : Int) (K' : zK) (X' : zX) (R' : zR) => (r = 0 ∨ r = 1) ∧ (∀ b, (K b).1 ≠ 0 → K' b = K b ∧ R' b = Rf b ∧ (b ≠ a → X' b = X b)) ∧ Prm 0 sz (X a) (X' a) ∧ (r = 1 → srtR 0 sz (X' a))))) ([.null, .ref a, .int (iI lo), .int (iI sz)] : List Value).toArray s 2 (127 + sz.toNat) (zA K s.heap.size)) (F0 m 39 ls []) := by
                    intro n39
                    induction n39 with
                    | zero => intro kk2 H locs hk2 hup hm39; exact absurd hm39 (Nat.not_lt_zero _)
                    | succ n39 ih39 =>
                      intro kk2 H locs hk2 hup hm39 hw ls hl
                      refine ziinc (pc := 39) (lv' := [(8, .int (iI (kk2 + 1))), (7, .int (iI la)), (4, .ref q238), (6, .int (iI ct)), (5, .int (iI x6)), (0, .null), (1, .ref a), (2, .int (iI lo)), (3, .int (iI sz))]) hx hb 2 dX10_tryMergeRuns_39 hl rfl (by decide) rfl (fun ls hl => ?_)
                      obtain ⟨x39, ex39⟩ : ∃ zz : Int, zz = (kk2 + 1) := ⟨_, rfl⟩
                      rw [← ex39] at hl
                      refine lv_iload (pc := 42) hx hb dX10_tryMergeRuns_42 (lv_at hl 0 rfl) ?_
                      refine lv_iload (pc := 44) hx hb dX10_tryMergeRuns_44 (lv_at hl 4 rfl) ?_
                      refine zicmp_ge (pc := 46) hx hb 202 (by omega) (by omega) dX10_tryMergeRuns_46 (by decide) (fun c46 => ?_) (fun c46 => ?_)
                      · skip
                        exact jn202_1 x39 XL19 _ _ (by (first | assumption | omega)) (by first | exact hoR | exact fun b _ => by rw [hZE]) (by first | exact hsR | exact (by rw [hE] at hsE; exact hsE)) (by first | exact fun t g => hgR t (Or.inl g) | exact fun t _ => by rw [hE]) (by first | exact hrunR | (rw [← hE, show x39 = kk2 + 1 by omega]; exact hup.sub (by omega) (Int.le_refl _))) hw _ (lv_sub hl [1, 2, 0, 3, 4, 5, 6, 7, 8] rfl)
                      · skip
                        refine lv_aload_n (pc := 49) hx hb dX10_tryMergeRuns_49 rfl (lv_at hl 6 rfl) ?_
                        refine lv_iload (pc := 50) hx hb dX10_tryMergeRuns_50 (lv_at hl 0 rfl) ?_
                        refine ziconst (pc := 52) (n := 1) hx hb dX10_tryMergeRuns_52 ?_
                        have f1 := hfE (x39 - 1).toNat (by omega)
                        have f2 := hfE x39.toNat (by omega)
                        have f3 : XL19 a (x39 - 1).toNat ≠ XL19 a x39.toNat := fun e => by have := hjX _ _ (by omega) (by omega) (by omega) (by omega) e; omega
                        refine zsub (pc := 53) hx hb dX10_tryMergeRuns_53 ?_
                        refine zald (pc := 54) hx hb hw hk238 ⟨by omega, by omega⟩ (by omega) dX10_tryMergeRuns_54 ?_
                        refine lv_aload_n (pc := 55) hx hb dX10_tryMergeRuns_55 rfl (lv_at hl 6 rfl) ?_
                        refine lv_iload (pc := 56) hx hb dX10_tryMergeRuns_56 (lv_at hl 0 rfl) ?_
                        refine zald (pc := 58) hx hb hw hk238 ⟨by omega, by omega⟩ (by omega) dX10_tryMergeRuns_58 ?_
                        refine zicmp_gt (pc := 59) hx hb 202 (by omega) (by omega) dX10_tryMergeRuns_59 (by decide) (fun c59 => ?_) (fun c59 => ?_)
                        · skip
                          exact jn202_1 x39 XL19 _ _ (by (first | assumption | omega)) (by first | exact hoR | exact fun b _ => by rw [hZE]) (by first | exact hsR | exact (by rw [hE] at hsE; exact hsE)) (by first | exact fun t g => hgR t (Or.inl g) | exact fun t _ => by rw [hE]) (by first | exact hrunR | (rw [← hE, show x39 = kk2 + 1 by omega]; exact hup.sub (by omega) (Int.le_refl _))) hw _ (lv_sub hl [1, 2, 0, 3, 4, 5, 6, 7, 8] rfl)
                        · skip
                          have hupN : srtS (k9 - 1) (x39 + 1) E := by
                            rw [show x39 + 1 = kk2 + 1 + 1 by omega]
                            refine hup.snoc ⟨by omega, by omega⟩ ?_
                            rw [hE, show (kk2 + 1 - 1).toNat = (x39 - 1).toNat by omega, show (kk2 + 1).toNat = x39.toNat by omega]; omega
                          refine lv_goto (pc := 62) (tgt := 39) hx hb dX10_tryMergeRuns_62 (by decide) ?_
                          exact ih39 x39 _ _ (by (first | assumption | omega)) (by exact hupN) (by omega) hw _ (lv_sub hl [1, 2, 0, 3, 4, 5, 6, 7, 8] rfl)
                  exact lp39 _ kk _ _ (by (first | assumption | omega)) (by rw [← hk9s]; exact (show srtS (k9 - 1) k9 E from fun i j g1 g2 g3 => by omega).snoc ⟨by omega, by omega⟩ (by rw [hE, hk9s]; omega)) (Nat.lt_succ_self _) hw _ (lv_sub hl [0, 1, 2, 3, 4, 5, 6, 7, 8] rfl)
          exact lp19 _ ke ke 1 X318 _ _ (by (first | assumption | omega)) (by intro b g1 g2; rw [eX318, up2_o g2, eX246, up2_o g2, eX238, zupX_n g2, hoJ b g1, hZE]) (by rw [eX318, up2_o haq, eX246, up2_o haq, eX238, zupX_n haq]; exact hsJ) (by 
                                        refine ⟨by rw [eX318, up2_k (by decide), eX246]; first | (rw [up2_s]; omega) | (show up2 _ _ _ _ _ _ = _; rw [up2_s]; omega), by rw [eX318]; exact up2_s, fun i j g1 g2 g3 => ?_⟩
                                        rw [show i = 0 by omega, show j = 1 by omega, eX318, up2_s, up2_k (by decide), eX246, up2_s]; omega) (by intro j g1; rw [show j = 0 by omega]; show srtS (X318 q238 0) (X318 q238 1) (X318 a); rw [show X318 q238 0 = 0 by rw [eX318, up2_k (by decide), eX246, up2_s]; omega, show X318 q238 1 = ke by rw [eX318]; exact up2_s, eX318, up2_o haq, eX246, up2_o haq, eX238, zupX_n haq]; rw [show s9 = 0 by omega] at hrun; exact hrun) (Nat.lt_succ_self _) hw _ (lv_sub hl [0, 1, 2, 3, 4, 5, 6, 7, 8] rfl)
        · skip
          refine ziconst (pc := 225) (n := 0) hx hb dX10_tryMergeRuns_225 ?_
          exact zretZ (pc := 226) hx hb hlocks hr (Or.inl rfl) hw (Nat.zero_le _) (Nat.zero_le _) dX10_tryMergeRuns_226 (by exact ⟨Or.inl rfl, fun b hb => ⟨rfl, rfl, fun g => by rw [hoJ b g, hZE]⟩, hsJ.prm hj, fun g => absurd g (by decide)⟩)
      · skip
        refine ziconst (pc := 214) (n := 1) hx hb dX10_tryMergeRuns_214 ?_
        exact zretZ (pc := 215) hx hb hlocks hr (Or.inr rfl) hw (Nat.zero_le _) (Nat.zero_le _) dX10_tryMergeRuns_215 (by exact ⟨Or.inr rfl, fun b hb => ⟨rfl, rfl, fun g => by rw [hoJ b g, hZE]⟩, hsJ.prm hj, fun _ => by rw [show sz = ke by omega, show (0 : Int) = s9 by omega]; exact hrun.r⟩)
    refine lv_iload (pc := 27) hx hb dX10_tryMergeRuns_27 (lv_at hl 0 rfl) ?_
    refine ziconst (pc := 29) (n := 1) hx hb dX10_tryMergeRuns_29 ?_
    refine zsub (pc := 30) hx hb dX10_tryMergeRuns_30 ?_
    refine zald (pc := 31) hx hb hw hka ⟨by omega, by omega⟩ (by omega) dX10_tryMergeRuns_31 ?_
    refine lv_aload_n (pc := 32) hx hb dX10_tryMergeRuns_32 rfl (lv_at hl 6 rfl) ?_
    refine lv_iload (pc := 33) hx hb dX10_tryMergeRuns_33 (lv_at hl 0 rfl) ?_
    refine zald (pc := 35) hx hb hw hka ⟨by omega, by omega⟩ (by omega) dX10_tryMergeRuns_35 ?_
    refine zicmp_ge (pc := 36) hx hb 65 (by omega) (by omega) dX10_tryMergeRuns_36 (by decide) (fun c36 => ?_) (fun c36 => ?_)
    · skip
      refine lv_aload_n (pc := 65) hx hb dX10_tryMergeRuns_65 rfl (lv_at hl 6 rfl) ?_
      refine lv_iload (pc := 66) hx hb dX10_tryMergeRuns_66 (lv_at hl 0 rfl) ?_
      refine ziconst (pc := 68) (n := 1) hx hb dX10_tryMergeRuns_68 ?_
      refine zsub (pc := 69) hx hb dX10_tryMergeRuns_69 ?_
      refine zald (pc := 70) hx hb hw hka ⟨by omega, by omega⟩ (by omega) dX10_tryMergeRuns_70 ?_
      refine lv_aload_n (pc := 71) hx hb dX10_tryMergeRuns_71 rfl (lv_at hl 6 rfl) ?_
      refine lv_iload (pc := 72) hx hb dX10_tryMergeRuns_72 (lv_at hl 0 rfl) ?_
      refine zald (pc := 74) hx hb hw hka ⟨by omega, by omega⟩ (by omega) dX10_tryMergeRuns_74 ?_
      refine zicmp_le (pc := 75) hx hb 164 (by omega) (by omega) dX10_tryMergeRuns_75 (by decide) (fun c75 => ?_) (fun c75 => ?_)
      · skip
        exfalso; omega
      · skip
        have lp78 : ∀ (n78 : Nat) (kk2 : Int) (H : Heap) (locs : List Loc), (hk2 : k9 ≤ kk2 ∧ kk2 < sz) → (hdn : dscS (k9 - 1) (kk2 + 1) E) → ((sz - kk2).toNat < n78) → Wd Γ (zA K s.heap.size) K X Rf s H locs → ∀ ls : Array Slot, lv_has ls 12 [(8, .int (iI kk2)), (7, .int (iI lo)), (6, .int (iI 1)), (5, .int (iI x6)), (4, .null), (0, .null), (1, .ref a), (2, .int (iI lo)), (3, .int (iI sz))] → W p l e (rmL 16 2 (127 + sz.toNat)) s m ([.null, .ref a, .int (iI lo), .int (iI sz)] : List Value).toArray below meth c H locs 0 0 (MQ below (zQ Γ K s.heap.size (pI (fun (r : Int) (K' : zK) (X' : zX) (R' : zR) => (r = 0 ∨ r = 1) ∧ (∀ b, (K b).1 ≠ 0 → K' b = K b ∧ R' b = Rf b ∧ (b ≠ a → X' b = X b)) ∧ Prm 0 sz (X a) (X' a) ∧ (r = 1 → srtR 0 sz (X' a))))) ([.null, .ref a, .int (iI lo), .int (iI sz)] : List Value).toArray s 2 (127 + sz.toNat) (zA K s.heap.size)) (F0 m 78 ls []) := by
          intro n78
          induction n78 with
          | zero => intro kk2 H locs hk2 hdn hm78; exact absurd hm78 (Nat.not_lt_zero _)
          | succ n78 ih78 =>
            intro kk2 H locs hk2 hdn hm78 hw ls hl
            refine ziinc (pc := 78) (lv' := [(8, .int (iI (kk2 + 1))), (7, .int (iI lo)), (6, .int (iI 1)), (5, .int (iI x6)), (4, .null), (0, .null), (1, .ref a), (2, .int (iI lo)), (3, .int (iI sz))]) hx hb 0 dX10_tryMergeRuns_78 hl rfl (by decide) rfl (fun ls hl => ?_)
            obtain ⟨x78, ex78⟩ : ∃ zz : Int, zz = (kk2 + 1) := ⟨_, rfl⟩
            rw [← ex78] at hl
            refine lv_iload (pc := 81) hx hb dX10_tryMergeRuns_81 (lv_at hl 0 rfl) ?_
            refine lv_iload (pc := 83) hx hb dX10_tryMergeRuns_83 (lv_at hl 3 rfl) ?_
            refine zicmp_ge (pc := 85) hx hb 104 (by omega) (by omega) dX10_tryMergeRuns_85 (by decide) (fun c85 => ?_) (fun c85 => ?_)
            · skip
              have hdD : dscS s9 x78 E := by rw [show x78 = kk2 + 1 by omega]; exact fun i j g1 g2 g3 => hdn i j (by omega) g2 g3
              refine lv_iload (pc := 104) hx hb dX10_tryMergeRuns_104 (lv_at hl 1 rfl) ?_
              refine ziconst (pc := 106) (n := 1) hx hb dX10_tryMergeRuns_106 ?_
              refine zsub (pc := 107) hx hb dX10_tryMergeRuns_107 ?_
              refine ztop (fun x108 ex108 => ?_)
              refine lv_istore (pc := 108) (lv' := [(9, .int (iI x108)), (8, .int (iI x78)), (7, .int (iI lo)), (6, .int (iI 1)), (5, .int (iI x6)), (4, .null), (0, .null), (1, .ref a), (2, .int (iI lo)), (3, .int (iI sz))]) hx hb dX10_tryMergeRuns_108 hl (by decide) rfl (fun ls hl => ?_)
              refine lv_iload (pc := 110) hx hb dX10_tryMergeRuns_110 (lv_at hl 1 rfl) ?_
              refine lv_istore (pc := 112) (lv' := [(10, .int (iI x78)), (9, .int (iI x108)), (8, .int (iI x78)), (7, .int (iI lo)), (6, .int (iI 1)), (5, .int (iI x6)), (4, .null), (0, .null), (1, .ref a), (2, .int (iI lo)), (3, .int (iI sz))]) hx hb dX10_tryMergeRuns_112 hl (by decide) rfl (fun ls hl => ?_)
              have lp114 : ∀ (n114 : Nat) (j9 : Int) (i9 : Int) (XL114 : zX) (H : Heap) (locs : List Loc), (hij : i9 + j9 = s9 + x78 - 1 ∧ s9 - 1 ≤ i9 ∧ i9 < j9) → (hoR : ∀ b, b ≠ a → XL114 b = ZE b) → (hsR : Swp 0 sz (X a) (XL114 a)) → (hvR : ∀ t : Nat, s9 ≤ t → (t : Int) < x78 → XL114 a t = if (t : Int) ≤ i9 ∨ j9 ≤ t then E (s9 + x78 - 1 - t).toNat else E t) → (hgR : ∀ t : Nat, (t : Int) < s9 ∨ x78 ≤ t → XL114 a t = E t) → (j9.toNat < n114) → Wd Γ (zA K s.heap.size) K XL114 Rf s H locs → ∀ ls : Array Slot, lv_has ls 12 [(10, .int (iI j9)), (9, .int (iI i9)), (8, .int (iI x78)), (7, .int (iI lo)), (6, .int (iI 1)), (5, .int (iI x6)), (4, .null), (0, .null), (1, .ref a), (2, .int (iI lo)), (3, .int (iI sz))] → W p l e (rmL 16 2 (127 + sz.toNat)) s m ([.null, .ref a, .int (iI lo), .int (iI sz)] : List Value).toArray below meth c H locs 0 0 (MQ below (zQ Γ K s.heap.size (pI (fun (r : Int) (K' : zK) (X' : zX) (R' : zR) => (r = 0 ∨ r = 1) ∧ (∀ b, (K b).1 ≠ 0 → K' b = K b ∧ R' b = Rf b ∧ (b ≠ a → X' b = X b)) ∧ Prm 0 sz (X a) (X' a) ∧ (r = 1 → srtR 0 sz (X' a))))) ([.null, .ref a, .int (iI lo), .int (iI sz)] : List Value).toArray s 2 (127 + sz.toNat) (zA K s.heap.size)) (F0 m 114 ls []) := by
                intro n114
                induction n114 with
                | zero => intro j9 i9 XL114 H locs hij hoR hsR hvR hgR hm114; exact absurd hm114 (Nat.not_lt_zero _)
                | succ n114 ih114 =>
                  intro j9 i9 XL114 H locs hij hoR hsR hvR hgR hm114 hw ls hl
                  refine ziinc (pc := 114) (lv' := [(9, .int (iI (i9 + 1))), (10, .int (iI j9)), (8, .int (iI x78)), (7, .int (iI lo)), (6, .int (iI 1)), (5, .int (iI x6)), (4, .null), (0, .null), (1, .ref a), (2, .int (iI lo)), (3, .int (iI sz))]) hx hb 1 dX10_tryMergeRuns_114 hl rfl (by decide) rfl (fun ls hl => ?_)
                  obtain ⟨x114, ex114⟩ : ∃ zz : Int, zz = (i9 + 1) := ⟨_, rfl⟩
                  rw [← ex114] at hl
                  refine lv_iload (pc := 117) hx hb dX10_tryMergeRuns_117 (lv_at hl 0 rfl) ?_
                  refine ziinc (pc := 119) (lv' := [(10, .int (iI (j9 + (-1)))), (9, .int (iI x114)), (8, .int (iI x78)), (7, .int (iI lo)), (6, .int (iI 1)), (5, .int (iI x6)), (4, .null), (0, .null), (1, .ref a), (2, .int (iI lo)), (3, .int (iI sz))]) hx hb 1 dX10_tryMergeRuns_119 hl rfl (by decide) rfl (fun ls hl => ?_)
                  obtain ⟨x119, ex119⟩ : ∃ zz : Int, zz = (j9 + (-1)) := ⟨_, rfl⟩
                  rw [← ex119] at hl
                  refine lv_iload (pc := 122) hx hb dX10_tryMergeRuns_122 (lv_at hl 0 rfl) ?_
                  refine zicmp_ge (pc := 124) hx hb 161 (by omega) (by omega) dX10_tryMergeRuns_124 (by decide) (fun c124 => ?_) (fun c124 => ?_)
                  · skip
                    have hrunR : srtS s9 x78 (XL114 a) := hdD.rev (by omega) (fun t g1 g2 => by
                      rw [hvR t g1 g2]
                      by_cases u : (t : Int) ≤ i9 ∨ j9 ≤ t
                      · rw [if_pos u]
                      · rw [if_neg u]; congr 1; omega)
                    refine lv_goto (pc := 161) (tgt := 202) hx hb dX10_tryMergeRuns_161 (by decide) ?_
                    exact jn202_0 x78 XL114 _ _ (by (first | assumption | omega)) (by first | exact hoR | exact fun b _ => by rw [hZE]) (by first | exact hsR | exact (by rw [hE] at hsE; exact hsE)) (by first | exact fun t g => hgR t (Or.inl g) | exact fun t _ => by rw [hE]) (by first | exact hrunR | (rw [← hE, show x39 = kk2 + 1 by omega]; exact hup.sub (by omega) (Int.le_refl _))) hw _ (lv_sub hl [2, 3, 4, 5, 6, 7, 8, 9, 10] rfl)
                  · skip
                    have hvi : XL114 a x114.toNat = E x114.toNat := by rw [hvR _ (by omega) (by omega), if_neg (by omega)]
                    have hvj : XL114 a x119.toNat = E x119.toNat := by rw [hvR _ (by omega) (by omega), if_neg (by omega)]
                    have hvd := hdD x114.toNat x119.toNat (by omega) (by omega) (by omega)
                    have f4 : fit (E x114.toNat) := by rw [hE]; exact hfE _ (by omega)
                    have f5 : fit (E x119.toNat) := by rw [hE]; exact hfE _ (by omega)
                    refine lv_aload_n (pc := 127) hx hb dX10_tryMergeRuns_127 rfl (lv_at hl 8 rfl) ?_
                    refine lv_iload (pc := 128) hx hb dX10_tryMergeRuns_128 (lv_at hl 1 rfl) ?_
                    refine zald (pc := 130) hx hb hw hka ⟨by omega, by omega⟩ (by omega) dX10_tryMergeRuns_130 ?_
                    refine lv_aload_n (pc := 131) hx hb dX10_tryMergeRuns_131 rfl (lv_at hl 8 rfl) ?_
                    refine lv_iload (pc := 132) hx hb dX10_tryMergeRuns_132 (lv_at hl 0 rfl) ?_
                    refine zald (pc := 134) hx hb hw hka ⟨by omega, by omega⟩ (by omega) dX10_tryMergeRuns_134 ?_
                    refine zicmp_le (pc := 135) hx hb 161 (by omega) (by omega) dX10_tryMergeRuns_135 (by decide) (fun c135 => ?_) (fun c135 => ?_)
                    · skip
                      exfalso; omega
                    · skip
                      refine lv_aload_n (pc := 138) hx hb dX10_tryMergeRuns_138 rfl (lv_at hl 8 rfl) ?_
                      refine lv_iload (pc := 139) hx hb dX10_tryMergeRuns_139 (lv_at hl 1 rfl) ?_
                      refine zald (pc := 141) hx hb hw hka ⟨by omega, by omega⟩ (by omega) dX10_tryMergeRuns_141 ?_
                      refine ztop (fun x142 ex142 => ?_)
                      refine lv_istore (pc := 142) (lv' := [(11, .int (iI x142)), (10, .int (iI x119)), (9, .int (iI x114)), (8, .int (iI x78)), (7, .int (iI lo)), (6, .int (iI 1)), (5, .int (iI x6)), (4, .null), (0, .null), (1, .ref a), (2, .int (iI lo)), (3, .int (iI sz))]) hx hb dX10_tryMergeRuns_142 hl (by decide) rfl (fun ls hl => ?_)
                      refine lv_aload_n (pc := 144) hx hb dX10_tryMergeRuns_144 rfl (lv_at hl 9 rfl) ?_
                      refine lv_iload (pc := 145) hx hb dX10_tryMergeRuns_145 (lv_at hl 2 rfl) ?_
                      refine lv_aload_n (pc := 147) hx hb dX10_tryMergeRuns_147 rfl (lv_at hl 9 rfl) ?_
                      refine lv_iload (pc := 148) hx hb dX10_tryMergeRuns_148 (lv_at hl 1 rfl) ?_
                      refine zald (pc := 150) hx hb hw hka ⟨by omega, by omega⟩ (by omega) dX10_tryMergeRuns_150 ?_
                      refine zast (pc := 151) hx hb hw hka ⟨by omega, by omega⟩ (by omega) dX10_tryMergeRuns_151 (fun H locs hw => ?_)
                      obtain ⟨X151, eX151⟩ : ∃ Y : zX, Y = up2 XL114 a x114.toNat (XL114 a x119.toNat) := ⟨_, rfl⟩
                      rw [← eX151] at hw
                      refine lv_aload_n (pc := 152) hx hb dX10_tryMergeRuns_152 rfl (lv_at hl 9 rfl) ?_
                      refine lv_iload (pc := 153) hx hb dX10_tryMergeRuns_153 (lv_at hl 1 rfl) ?_
                      refine lv_iload (pc := 155) hx hb dX10_tryMergeRuns_155 (lv_at hl 0 rfl) ?_
                      refine zast (pc := 157) hx hb hw hka ⟨by omega, by omega⟩ (by omega) dX10_tryMergeRuns_157 (fun H locs hw => ?_)
                      obtain ⟨X157, eX157⟩ : ∃ Y : zX, Y = up2 X151 a x119.toNat x142 := ⟨_, rfl⟩
                      rw [← eX157] at hw
                      have e57 : X157 a = updF (updF (XL114 a) x114.toNat (XL114 a x119.toNat)) x119.toNat (XL114 a x114.toNat) := by rw [eX157, up2_row, eX151, up2_row, ex142]
                      refine lv_goto (pc := 158) (tgt := 114) hx hb dX10_tryMergeRuns_158 (by decide) ?_
                      exact ih114 x119 x114 X157 _ _ (by (first | assumption | omega)) (by intro b hb; rw [eX157, up2_o hb, eX151, up2_o hb]; exact hoR b hb) (by rw [e57]; exact hsR.step ⟨by omega, by omega⟩ ⟨by omega, by omega⟩) (by 
                                        intro t g1 g2
                                        rw [e57]
                                        by_cases g : t = x119.toNat
                                        · rw [g, updF_s, if_pos (by omega), hvi]; congr 1; omega
                                        · rw [updF_o g]
                                          by_cases w : t = x114.toNat
                                          · rw [w, updF_s, if_pos (by omega), hvj]; congr 1; omega
                                          · rw [updF_o w, hvR t g1 g2]
                                            by_cases u : (t : Int) ≤ i9 ∨ j9 ≤ t
                                            · rw [if_pos u, if_pos (by omega)]
                                            · rw [if_neg u, if_neg (by omega)]) (by intro t g; rw [e57, updF_o (by omega), updF_o (by omega)]; exact hgR t g) (by omega) hw _ (lv_sub hl [1, 2, 3, 4, 5, 6, 7, 8, 9, 10, 11] rfl)
              exact lp114 _ x78 x108 X _ _ (by (first | assumption | omega)) (by exact fun b _ => by rw [hZE]) (by rw [hE] at hsE; exact hsE) (by intro t g1 g2; rw [if_neg (by omega), hE]) (by exact fun t _ => by rw [hE]) (Nat.lt_succ_self _) hw _ (lv_sub hl [0, 1, 2, 3, 4, 5, 6, 7, 8, 9, 10] rfl)
            · skip
              refine lv_aload_n (pc := 88) hx hb dX10_tryMergeRuns_88 rfl (lv_at hl 6 rfl) ?_
              refine lv_iload (pc := 89) hx hb dX10_tryMergeRuns_89 (lv_at hl 0 rfl) ?_
              refine ziconst (pc := 91) (n := 1) hx hb dX10_tryMergeRuns_91 ?_
              have f1 := hfE (x78 - 1).toNat (by omega)
              have f2 := hfE x78.toNat (by omega)
              have f3 : X a (x78 - 1).toNat ≠ X a x78.toNat := fun e => by have := hjX _ _ (by omega) (by omega) (by omega) (by omega) e; omega
              refine zsub (pc := 92) hx hb dX10_tryMergeRuns_92 ?_
              refine zald (pc := 93) hx hb hw hka ⟨by omega, by omega⟩ (by omega) dX10_tryMergeRuns_93 ?_
              refine lv_aload_n (pc := 94) hx hb dX10_tryMergeRuns_94 rfl (lv_at hl 6 rfl) ?_
              refine lv_iload (pc := 95) hx hb dX10_tryMergeRuns_95 (lv_at hl 0 rfl) ?_
              refine zald (pc := 97) hx hb hw hka ⟨by omega, by omega⟩ (by omega) dX10_tryMergeRuns_97 ?_
              refine zicmp_lt (pc := 98) hx hb 104 (by omega) (by omega) dX10_tryMergeRuns_98 (by decide) (fun c98 => ?_) (fun c98 => ?_)
              · skip
                have hdD : dscS s9 x78 E := by rw [show x78 = kk2 + 1 by omega]; exact fun i j g1 g2 g3 => hdn i j (by omega) g2 g3
                refine lv_iload (pc := 104) hx hb dX10_tryMergeRuns_104 (lv_at hl 1 rfl) ?_
                refine ziconst (pc := 106) (n := 1) hx hb dX10_tryMergeRuns_106 ?_
                refine zsub (pc := 107) hx hb dX10_tryMergeRuns_107 ?_
                refine ztop (fun x108 ex108 => ?_)
                refine lv_istore (pc := 108) (lv' := [(9, .int (iI x108)), (8, .int (iI x78)), (7, .int (iI lo)), (6, .int (iI 1)), (5, .int (iI x6)), (4, .null), (0, .null), (1, .ref a), (2, .int (iI lo)), (3, .int (iI sz))]) hx hb dX10_tryMergeRuns_108 hl (by decide) rfl (fun ls hl => ?_)
                refine lv_iload (pc := 110) hx hb dX10_tryMergeRuns_110 (lv_at hl 1 rfl) ?_
                refine lv_istore (pc := 112) (lv' := [(10, .int (iI x78)), (9, .int (iI x108)), (8, .int (iI x78)), (7, .int (iI lo)), (6, .int (iI 1)), (5, .int (iI x6)), (4, .null), (0, .null), (1, .ref a), (2, .int (iI lo)), (3, .int (iI sz))]) hx hb dX10_tryMergeRuns_112 hl (by decide) rfl (fun ls hl => ?_)
                have lp114 : ∀ (n114 : Nat) (j9 : Int) (i9 : Int) (XL114 : zX) (H : Heap) (locs : List Loc), (hij : i9 + j9 = s9 + x78 - 1 ∧ s9 - 1 ≤ i9 ∧ i9 < j9) → (hoR : ∀ b, b ≠ a → XL114 b = ZE b) → (hsR : Swp 0 sz (X a) (XL114 a)) → (hvR : ∀ t : Nat, s9 ≤ t → (t : Int) < x78 → XL114 a t = if (t : Int) ≤ i9 ∨ j9 ≤ t then E (s9 + x78 - 1 - t).toNat else E t) → (hgR : ∀ t : Nat, (t : Int) < s9 ∨ x78 ≤ t → XL114 a t = E t) → (j9.toNat < n114) → Wd Γ (zA K s.heap.size) K XL114 Rf s H locs → ∀ ls : Array Slot, lv_has ls 12 [(10, .int (iI j9)), (9, .int (iI i9)), (8, .int (iI x78)), (7, .int (iI lo)), (6, .int (iI 1)), (5, .int (iI x6)), (4, .null), (0, .null), (1, .ref a), (2, .int (iI lo)), (3, .int (iI sz))] → W p l e (rmL 16 2 (127 + sz.toNat)) s m ([.null, .ref a, .int (iI lo), .int (iI sz)] : List Value).toArray below meth c H locs 0 0 (MQ below (zQ Γ K s.heap.size (pI (fun (r : Int) (K' : zK) (X' : zX) (R' : zR) => (r = 0 ∨ r = 1) ∧ (∀ b, (K b).1 ≠ 0 → K' b = K b ∧ R' b = Rf b ∧ (b ≠ a → X' b = X b)) ∧ Prm 0 sz (X a) (X' a) ∧ (r = 1 → srtR 0 sz (X' a))))) ([.null, .ref a, .int (iI lo), .int (iI sz)] : List Value).toArray s 2 (127 + sz.toNat) (zA K s.heap.size)) (F0 m 114 ls []) := by
                  intro n114
                  induction n114 with
                  | zero => intro j9 i9 XL114 H locs hij hoR hsR hvR hgR hm114; exact absurd hm114 (Nat.not_lt_zero _)
                  | succ n114 ih114 =>
                    intro j9 i9 XL114 H locs hij hoR hsR hvR hgR hm114 hw ls hl
                    refine ziinc (pc := 114) (lv' := [(9, .int (iI (i9 + 1))), (10, .int (iI j9)), (8, .int (iI x78)), (7, .int (iI lo)), (6, .int (iI 1)), (5, .int (iI x6)), (4, .null), (0, .null), (1, .ref a), (2, .int (iI lo)), (3, .int (iI sz))]) hx hb 1 dX10_tryMergeRuns_114 hl rfl (by decide) rfl (fun ls hl => ?_)
                    obtain ⟨x114, ex114⟩ : ∃ zz : Int, zz = (i9 + 1) := ⟨_, rfl⟩
                    rw [← ex114] at hl
                    refine lv_iload (pc := 117) hx hb dX10_tryMergeRuns_117 (lv_at hl 0 rfl) ?_
                    refine ziinc (pc := 119) (lv' := [(10, .int (iI (j9 + (-1)))), (9, .int (iI x114)), (8, .int (iI x78)), (7, .int (iI lo)), (6, .int (iI 1)), (5, .int (iI x6)), (4, .null), (0, .null), (1, .ref a), (2, .int (iI lo)), (3, .int (iI sz))]) hx hb 1 dX10_tryMergeRuns_119 hl rfl (by decide) rfl (fun ls hl => ?_)
                    obtain ⟨x119, ex119⟩ : ∃ zz : Int, zz = (j9 + (-1)) := ⟨_, rfl⟩
                    rw [← ex119] at hl
                    refine lv_iload (pc := 122) hx hb dX10_tryMergeRuns_122 (lv_at hl 0 rfl) ?_
                    refine zicmp_ge (pc := 124) hx hb 161 (by omega) (by omega) dX10_tryMergeRuns_124 (by decide) (fun c124 => ?_) (fun c124 => ?_)
                    · skip
                      have hrunR : srtS s9 x78 (XL114 a) := hdD.rev (by omega) (fun t g1 g2 => by
                        rw [hvR t g1 g2]
                        by_cases u : (t : Int) ≤ i9 ∨ j9 ≤ t
                        · rw [if_pos u]
                        · rw [if_neg u]; congr 1; omega)
                      refine lv_goto (pc := 161) (tgt := 202) hx hb dX10_tryMergeRuns_161 (by decide) ?_
                      exact jn202_0 x78 XL114 _ _ (by (first | assumption | omega)) (by first | exact hoR | exact fun b _ => by rw [hZE]) (by first | exact hsR | exact (by rw [hE] at hsE; exact hsE)) (by first | exact fun t g => hgR t (Or.inl g) | exact fun t _ => by rw [hE]) (by first | exact hrunR | (rw [← hE, show x39 = kk2 + 1 by omega]; exact hup.sub (by omega) (Int.le_refl _))) hw _ (lv_sub hl [2, 3, 4, 5, 6, 7, 8, 9, 10] rfl)
                    · skip
                      have hvi : XL114 a x114.toNat = E x114.toNat := by rw [hvR _ (by omega) (by omega), if_neg (by omega)]
                      have hvj : XL114 a x119.toNat = E x119.toNat := by rw [hvR _ (by omega) (by omega), if_neg (by omega)]
                      have hvd := hdD x114.toNat x119.toNat (by omega) (by omega) (by omega)
                      have f4 : fit (E x114.toNat) := by rw [hE]; exact hfE _ (by omega)
                      have f5 : fit (E x119.toNat) := by rw [hE]; exact hfE _ (by omega)
                      refine lv_aload_n (pc := 127) hx hb dX10_tryMergeRuns_127 rfl (lv_at hl 8 rfl) ?_
                      refine lv_iload (pc := 128) hx hb dX10_tryMergeRuns_128 (lv_at hl 1 rfl) ?_
                      refine zald (pc := 130) hx hb hw hka ⟨by omega, by omega⟩ (by omega) dX10_tryMergeRuns_130 ?_
                      refine lv_aload_n (pc := 131) hx hb dX10_tryMergeRuns_131 rfl (lv_at hl 8 rfl) ?_
                      refine lv_iload (pc := 132) hx hb dX10_tryMergeRuns_132 (lv_at hl 0 rfl) ?_
                      refine zald (pc := 134) hx hb hw hka ⟨by omega, by omega⟩ (by omega) dX10_tryMergeRuns_134 ?_
                      refine zicmp_le (pc := 135) hx hb 161 (by omega) (by omega) dX10_tryMergeRuns_135 (by decide) (fun c135 => ?_) (fun c135 => ?_)
                      · skip
                        exfalso; omega
                      · skip
                        refine lv_aload_n (pc := 138) hx hb dX10_tryMergeRuns_138 rfl (lv_at hl 8 rfl) ?_
                        refine lv_iload (pc := 139) hx hb dX10_tryMergeRuns_139 (lv_at hl 1 rfl) ?_
                        refine zald (pc := 141) hx hb hw hka ⟨by omega, by omega⟩ (by omega) dX10_tryMergeRuns_141 ?_
                        refine ztop (fun x142 ex142 => ?_)
                        refine lv_istore (pc := 142) (lv' := [(11, .int (iI x142)), (10, .int (iI x119)), (9, .int (iI x114)), (8, .int (iI x78)), (7, .int (iI lo)), (6, .int (iI 1)), (5, .int (iI x6)), (4, .null), (0, .null), (1, .ref a), (2, .int (iI lo)), (3, .int (iI sz))]) hx hb dX10_tryMergeRuns_142 hl (by decide) rfl (fun ls hl => ?_)
                        refine lv_aload_n (pc := 144) hx hb dX10_tryMergeRuns_144 rfl (lv_at hl 9 rfl) ?_
                        refine lv_iload (pc := 145) hx hb dX10_tryMergeRuns_145 (lv_at hl 2 rfl) ?_
                        refine lv_aload_n (pc := 147) hx hb dX10_tryMergeRuns_147 rfl (lv_at hl 9 rfl) ?_
                        refine lv_iload (pc := 148) hx hb dX10_tryMergeRuns_148 (lv_at hl 1 rfl) ?_
                        refine zald (pc := 150) hx hb hw hka ⟨by omega, by omega⟩ (by omega) dX10_tryMergeRuns_150 ?_
                        refine zast (pc := 151) hx hb hw hka ⟨by omega, by omega⟩ (by omega) dX10_tryMergeRuns_151 (fun H locs hw => ?_)
                        obtain ⟨X151, eX151⟩ : ∃ Y : zX, Y = up2 XL114 a x114.toNat (XL114 a x119.toNat) := ⟨_, rfl⟩
                        rw [← eX151] at hw
                        refine lv_aload_n (pc := 152) hx hb dX10_tryMergeRuns_152 rfl (lv_at hl 9 rfl) ?_
                        refine lv_iload (pc := 153) hx hb dX10_tryMergeRuns_153 (lv_at hl 1 rfl) ?_
                        refine lv_iload (pc := 155) hx hb dX10_tryMergeRuns_155 (lv_at hl 0 rfl) ?_
                        refine zast (pc := 157) hx hb hw hka ⟨by omega, by omega⟩ (by omega) dX10_tryMergeRuns_157 (fun H locs hw => ?_)
                        obtain ⟨X157, eX157⟩ : ∃ Y : zX, Y = up2 X151 a x119.toNat x142 := ⟨_, rfl⟩
                        rw [← eX157] at hw
                        have e57 : X157 a = updF (updF (XL114 a) x114.toNat (XL114 a x119.toNat)) x119.toNat (XL114 a x114.toNat) := by rw [eX157, up2_row, eX151, up2_row, ex142]
                        refine lv_goto (pc := 158) (tgt := 114) hx hb dX10_tryMergeRuns_158 (by decide) ?_
                        exact ih114 x119 x114 X157 _ _ (by (first | assumption | omega)) (by intro b hb; rw [eX157, up2_o hb, eX151, up2_o hb]; exact hoR b hb) (by rw [e57]; exact hsR.step ⟨by omega, by omega⟩ ⟨by omega, by omega⟩) (by 
                                        intro t g1 g2
                                        rw [e57]
                                        by_cases g : t = x119.toNat
                                        · rw [g, updF_s, if_pos (by omega), hvi]; congr 1; omega
                                        · rw [updF_o g]
                                          by_cases w : t = x114.toNat
                                          · rw [w, updF_s, if_pos (by omega), hvj]; congr 1; omega
                                          · rw [updF_o w, hvR t g1 g2]
                                            by_cases u : (t : Int) ≤ i9 ∨ j9 ≤ t
                                            · rw [if_pos u, if_pos (by omega)]
                                            · rw [if_neg u, if_neg (by omega)]) (by intro t g; rw [e57, updF_o (by omega), updF_o (by omega)]; exact hgR t g) (by omega) hw _ (lv_sub hl [1, 2, 3, 4, 5, 6, 7, 8, 9, 10, 11] rfl)
                exact lp114 _ x78 x108 X _ _ (by (first | assumption | omega)) (by exact fun b _ => by rw [hZE]) (by rw [hE] at hsE; exact hsE) (by intro t g1 g2; rw [if_neg (by omega), hE]) (by exact fun t _ => by rw [hE]) (Nat.lt_succ_self _) hw _ (lv_sub hl [0, 1, 2, 3, 4, 5, 6, 7, 8, 9, 10] rfl)
              · skip
                have hdnN : dscS (k9 - 1) (x78 + 1) E := by
                  rw [show x78 + 1 = kk2 + 1 + 1 by omega]
                  refine hdn.snoc ⟨by omega, by omega⟩ ?_
                  rw [hE, show (kk2 + 1 - 1).toNat = (x78 - 1).toNat by omega, show (kk2 + 1).toNat = x78.toNat by omega]; omega
                refine lv_goto (pc := 101) (tgt := 78) hx hb dX10_tryMergeRuns_101 (by decide) ?_
                exact ih78 x78 _ _ (by (first | assumption | omega)) (by exact hdnN) (by omega) hw _ (lv_sub hl [0, 1, 2, 3, 4, 5, 6, 7, 8] rfl)
        exact lp78 _ x17 _ _ (by (first | assumption | omega)) (by rw [← hk9s]; exact (show dscS (k9 - 1) k9 E from fun i j g1 g2 g3 => by omega).snoc ⟨by omega, by omega⟩ (by rw [hE, hk9s]; omega)) (Nat.lt_succ_self _) hw _ (lv_sub hl [0, 1, 2, 3, 4, 5, 6, 7, 8] rfl)
    · skip
      have lp39 : ∀ (n39 : Nat) (kk2 : Int) (H : Heap) (locs : List Loc), (hk2 : k9 ≤ kk2 ∧ kk2 < sz) → (hup : srtS (k9 - 1) (kk2 + 1) E) → ((sz - kk2).toNat < n39) → Wd Γ (zA K s.heap.size) K X Rf s H locs → ∀ ls : Array Slot, lv_has ls 12 [(8, .int (iI kk2)), (7, .int (iI lo)), (6, .int (iI 1)), (5, .int (iI x6)), (4, .null), (0, .null), (1, .ref a), (2, .int (iI lo)), (3, .int (iI sz))] → W p l e (rmL 16 2 (127 + sz.toNat)) s m ([.null, .ref a, .int (iI lo), .int (iI sz)] : List Value).toArray below meth c H locs 0 0 (MQ below (zQ Γ K s.heap.size (pI (fun (r : Int) (K' : zK) (X' : zX) (R' : zR) => (r = 0 ∨ r = 1) ∧ (∀ b, (K b).1 ≠ 0 → K' b = K b ∧ R' b = Rf b ∧ (b ≠ a → X' b = X b)) ∧ Prm 0 sz (X a) (X' a) ∧ (r = 1 → srtR 0 sz (X' a))))) ([.null, .ref a, .int (iI lo), .int (iI sz)] : List Value).toArray s 2 (127 + sz.toNat) (zA K s.heap.size)) (F0 m 39 ls []) := by
        intro n39
        induction n39 with
        | zero => intro kk2 H locs hk2 hup hm39; exact absurd hm39 (Nat.not_lt_zero _)
        | succ n39 ih39 =>
          intro kk2 H locs hk2 hup hm39 hw ls hl
          refine ziinc (pc := 39) (lv' := [(8, .int (iI (kk2 + 1))), (7, .int (iI lo)), (6, .int (iI 1)), (5, .int (iI x6)), (4, .null), (0, .null), (1, .ref a), (2, .int (iI lo)), (3, .int (iI sz))]) hx hb 0 dX10_tryMergeRuns_39 hl rfl (by decide) rfl (fun ls hl => ?_)
          obtain ⟨x39, ex39⟩ : ∃ zz : Int, zz = (kk2 + 1) := ⟨_, rfl⟩
          rw [← ex39] at hl
          refine lv_iload (pc := 42) hx hb dX10_tryMergeRuns_42 (lv_at hl 0 rfl) ?_
          refine lv_iload (pc := 44) hx hb dX10_tryMergeRuns_44 (lv_at hl 3 rfl) ?_
          refine zicmp_ge (pc := 46) hx hb 202 (by omega) (by omega) dX10_tryMergeRuns_46 (by decide) (fun c46 => ?_) (fun c46 => ?_)
          · skip
            exact jn202_0 x39 X _ _ (by (first | assumption | omega)) (by first | exact hoR | exact fun b _ => by rw [hZE]) (by first | exact hsR | exact (by rw [hE] at hsE; exact hsE)) (by first | exact fun t g => hgR t (Or.inl g) | exact fun t _ => by rw [hE]) (by first | exact hrunR | (rw [← hE, show x39 = kk2 + 1 by omega]; exact hup.sub (by omega) (Int.le_refl _))) hw _ (lv_sub hl [0, 1, 2, 3, 4, 5, 6, 7, 8] rfl)
          · skip
            refine lv_aload_n (pc := 49) hx hb dX10_tryMergeRuns_49 rfl (lv_at hl 6 rfl) ?_
            refine lv_iload (pc := 50) hx hb dX10_tryMergeRuns_50 (lv_at hl 0 rfl) ?_
            refine ziconst (pc := 52) (n := 1) hx hb dX10_tryMergeRuns_52 ?_
            have f1 := hfE (x39 - 1).toNat (by omega)
            have f2 := hfE x39.toNat (by omega)
            have f3 : X a (x39 - 1).toNat ≠ X a x39.toNat := fun e => by have := hjX _ _ (by omega) (by omega) (by omega) (by omega) e; omega
            refine zsub (pc := 53) hx hb dX10_tryMergeRuns_53 ?_
            refine zald (pc := 54) hx hb hw hka ⟨by omega, by omega⟩ (by omega) dX10_tryMergeRuns_54 ?_
            refine lv_aload_n (pc := 55) hx hb dX10_tryMergeRuns_55 rfl (lv_at hl 6 rfl) ?_
            refine lv_iload (pc := 56) hx hb dX10_tryMergeRuns_56 (lv_at hl 0 rfl) ?_
            refine zald (pc := 58) hx hb hw hka ⟨by omega, by omega⟩ (by omega) dX10_tryMergeRuns_58 ?_
            refine zicmp_gt (pc := 59) hx hb 202 (by omega) (by omega) dX10_tryMergeRuns_59 (by decide) (fun c59 => ?_) (fun c59 => ?_)
            · skip
              exact jn202_0 x39 X _ _ (by (first | assumption | omega)) (by first | exact hoR | exact fun b _ => by rw [hZE]) (by first | exact hsR | exact (by rw [hE] at hsE; exact hsE)) (by first | exact fun t g => hgR t (Or.inl g) | exact fun t _ => by rw [hE]) (by first | exact hrunR | (rw [← hE, show x39 = kk2 + 1 by omega]; exact hup.sub (by omega) (Int.le_refl _))) hw _ (lv_sub hl [0, 1, 2, 3, 4, 5, 6, 7, 8] rfl)
            · skip
              have hupN : srtS (k9 - 1) (x39 + 1) E := by
                rw [show x39 + 1 = kk2 + 1 + 1 by omega]
                refine hup.snoc ⟨by omega, by omega⟩ ?_
                rw [hE, show (kk2 + 1 - 1).toNat = (x39 - 1).toNat by omega, show (kk2 + 1).toNat = x39.toNat by omega]; omega
              refine lv_goto (pc := 62) (tgt := 39) hx hb dX10_tryMergeRuns_62 (by decide) ?_
              exact ih39 x39 _ _ (by (first | assumption | omega)) (by exact hupN) (by omega) hw _ (lv_sub hl [0, 1, 2, 3, 4, 5, 6, 7, 8] rfl)
      exact lp39 _ x17 _ _ (by (first | assumption | omega)) (by rw [← hk9s]; exact (show srtS (k9 - 1) k9 E from fun i j g1 g2 g3 => by omega).snoc ⟨by omega, by omega⟩ (by rw [hE, hk9s]; omega)) (Nat.lt_succ_self _) hw _ (lv_sub hl [0, 1, 2, 3, 4, 5, 6, 7, 8] rfl)
