set_option maxHeartbeats 4000000 in
set_option maxRecDepth 100000 in
theorem c_X10_mergeRuns (l : Launch) : ∀ (dd : Nat) (Γ : zG) (K : zK) (X : zX) (Rf : zR) (a : Nat) (b : Nat) (off : Int) (aim : Int) (ru : Nat) (lo : Int) (hi : Int) (na : Nat) (nb : Nat) (nr : Nat) (hka : K a = (2, na)) (hkb : K b = (2, nb)) (hkr : K ru = (2, nr)) (hn : na ≤ 20000 ∧ nb ≤ 20000 ∧ nr ≤ 20000) (hne : a ≠ b ∧ a ≠ ru ∧ b ≠ ru) (h1 : off = 0 ∧ (0 ≤ lo ∧ lo < hi ∧ hi < nr) ∧ (-1 ≤ aim ∧ aim ≤ 1) ∧ hi - lo ≤ dd) (hR9 : srtS lo (hi + 1) (X ru)) (hR8 : 0 ≤ X ru lo.toNat ∧ X ru hi.toNat ≤ na ∧ X ru hi.toNat ≤ nb) (hq : ∀ j : Nat, lo ≤ j → (j : Int) < hi → srtS (X ru j) (X ru (j + 1)) (X a)) (hj : injR (X ru lo.toNat) (X ru hi.toNat) (X a)) (hF : ∀ j : Nat, X ru lo.toNat ≤ j → (j : Int) < X ru hi.toNat → fit (X a j)), Ct l yX10_mergeRuns cX10_mergeRuns 18 (some (.array .int)) (dd + 3) 0 0 Γ [.ref a, .ref b, .int (iI off), .int (iI aim), .int (iI 0), .ref ru, .int (iI lo), .int (iI hi)] K X Rf (pR (fun (r : Nat) (K' : zK) (X' : zX) (R' : zR) => (K' = K ∧ R' = Rf) ∧ ((r = a ∨ r = b) ∧ (0 < aim → r = a) ∧ (aim < 0 → r = b)) ∧ (∀ c, c ≠ a → c ≠ b → X' c = X c) ∧ (∀ j : Nat, (j : Int) < X ru lo.toNat ∨ X ru hi.toNat ≤ j → X' a j = X a j ∧ X' b j = X b j) ∧ srtS (X ru lo.toNat) (X ru hi.toNat) (X' r) ∧ Prw (X ru lo.toNat) (X ru hi.toNat) (X a) (X' r))) := by
  intro dd
  induction dd with
  | zero => intro Γ K X Rf a b off aim ru lo hi na nb nr hka hkb hkr hn hne h1 hR9 hR8 hq hj hF; exfalso; omega
  | succ dd ih =>
    intro Γ K X Rf a b off aim ru lo hi na nb nr hka hkb hkr hn hne h1 hR9 hR8 hq hj hF
    refine Ct.ofF (by decide +kernel) (Nat.le_of_ble_eq_true rfl) ?_
    intro p e s m below meth c ls hx hb hr hml hown hG hlocks hname hw hl
    have hl : lv_has ls 18 [(0, .ref a), (1, .ref b), (2, .int (iI off)), (3, .int (iI aim)), (4, .int (iI 0)), (5, .ref ru), (6, .int (iI lo)), (7, .int (iI hi))] := hl
    have hRr := hR9.r
    have hRlh := hR9 lo.toNat hi.toNat (by omega) (by omega) (by omega)
    refine lv_iload (pc := 0) hx hb dX10_mergeRuns_0 (lv_at hl 7 rfl) ?_
    refine lv_iload (pc := 2) hx hb dX10_mergeRuns_2 (lv_at hl 6 rfl) ?_
    refine zsub (pc := 4) hx hb dX10_mergeRuns_4 ?_
    refine ziconst (pc := 5) (n := 1) hx hb dX10_mergeRuns_5 ?_
    refine zicmp_ne (pc := 6) hx hb 61 (by omega) (by omega) dX10_mergeRuns_6 (by decide) (fun c6 => ?_) (fun c6 => ?_)
    · skip
      refine lv_iload (pc := 61) hx hb dX10_mergeRuns_61 (lv_at hl 6 rfl) ?_
      refine lv_istore (pc := 63) (lv' := [(8, .int (iI lo)), (0, .ref a), (1, .ref b), (2, .int (iI off)), (3, .int (iI aim)), (4, .int (iI 0)), (5, .ref ru), (6, .int (iI lo)), (7, .int (iI hi))]) hx hb dX10_mergeRuns_63 hl (by decide) rfl (fun ls hl => ?_)
      refine lv_aload (pc := 65) hx hb dX10_mergeRuns_65 (lv_at hl 6 rfl) ?_
      refine lv_iload (pc := 67) hx hb dX10_mergeRuns_67 (lv_at hl 7 rfl) ?_
      refine zald (pc := 69) hx hb hw hkr ⟨by omega, by omega⟩ (by omega) dX10_mergeRuns_69 ?_
      refine lv_aload (pc := 70) hx hb dX10_mergeRuns_70 (lv_at hl 6 rfl) ?_
      refine lv_iload (pc := 72) hx hb dX10_mergeRuns_72 (lv_at hl 8 rfl) ?_
      refine zald (pc := 74) hx hb hw hkr ⟨by omega, by omega⟩ (by omega) dX10_mergeRuns_74 ?_
      refine zadd (pc := 75) hx hb dX10_mergeRuns_75 ?_
      refine ziconst (pc := 76) (n := 1) hx hb dX10_mergeRuns_76 ?_
      refine zushr (pc := 77) hx hb (by omega) dX10_mergeRuns_77 ?_
      rw [show (2 : Int) ^ (1 : Int).toNat = 2 by decide]
      refine ztop (fun x78 ex78 => ?_)
      refine lv_istore (pc := 78) (lv' := [(9, .int (iI x78)), (8, .int (iI lo)), (0, .ref a), (1, .ref b), (2, .int (iI off)), (3, .int (iI aim)), (4, .int (iI 0)), (5, .ref ru), (6, .int (iI lo)), (7, .int (iI hi))]) hx hb dX10_mergeRuns_78 hl (by decide) rfl (fun ls hl => ?_)
      have lp80 : ∀ (n80 : Nat) (mi : Int) (H : Heap) (locs : List Loc), (hm9 : lo ≤ mi ∧ mi + 2 ≤ hi) → ((hi - mi).toNat < n80) → Wd Γ (zA K s.heap.size) K X Rf s H locs → ∀ ls : Array Slot, lv_has ls 18 [(9, .int (iI x78)), (8, .int (iI mi)), (0, .ref a), (1, .ref b), (2, .int (iI off)), (3, .int (iI aim)), (4, .int (iI 0)), (5, .ref ru), (6, .int (iI lo)), (7, .int (iI hi))] → W p l e (rmL (dd + 1 + 3) 0 0) s m ([.ref a, .ref b, .int (iI off), .int (iI aim), .int (iI 0), .ref ru, .int (iI lo), .int (iI hi)] : List Value).toArray below meth c H locs 0 0 (MQ below (zQ Γ K s.heap.size (pR (fun (r : Nat) (K' : zK) (X' : zX) (R' : zR) => (K' = K ∧ R' = Rf) ∧ ((r = a ∨ r = b) ∧ (0 < aim → r = a) ∧ (aim < 0 → r = b)) ∧ (∀ c, c ≠ a → c ≠ b → X' c = X c) ∧ (∀ j : Nat, (j : Int) < X ru lo.toNat ∨ X ru hi.toNat ≤ j → X' a j = X a j ∧ X' b j = X b j) ∧ srtS (X ru lo.toNat) (X ru hi.toNat) (X' r) ∧ Prw (X ru lo.toNat) (X ru hi.toNat) (X a) (X' r)))) ([.ref a, .ref b, .int (iI off), .int (iI aim), .int (iI 0), .ref ru, .int (iI lo), .int (iI hi)] : List Value).toArray s 0 0 (zA K s.heap.size)) (F0 m 80 ls []) := by
        intro n80
        induction n80 with
        | zero => intro mi H locs hm9 hm80; exact absurd hm80 (Nat.not_lt_zero _)
        | succ n80 ih80 =>
          intro mi H locs hm9 hm80 hw ls hl
          refine lv_aload (pc := 80) hx hb dX10_mergeRuns_80 (lv_at hl 7 rfl) ?_
          refine ziinc (pc := 82) (lv' := [(8, .int (iI (mi + 1))), (9, .int (iI x78)), (0, .ref a), (1, .ref b), (2, .int (iI off)), (3, .int (iI aim)), (4, .int (iI 0)), (5, .ref ru), (6, .int (iI lo)), (7, .int (iI hi))]) hx hb 1 dX10_mergeRuns_82 hl rfl (by decide) rfl (fun ls hl => ?_)
          obtain ⟨x82, ex82⟩ : ∃ zz : Int, zz = (mi + 1) := ⟨_, rfl⟩
          rw [← ex82] at hl
          refine lv_iload (pc := 85) hx hb dX10_mergeRuns_85 (lv_at hl 0 rfl) ?_
          refine ziconst (pc := 87) (n := 1) hx hb dX10_mergeRuns_87 ?_
          refine zadd (pc := 88) hx hb dX10_mergeRuns_88 ?_
          have hv1 := hRr lo.toNat (x82 + 1).toNat (by omega) (by omega) (by omega)
          have hv2 := hRr (x82 + 1).toNat hi.toNat (by omega) (by omega) (by omega)
          refine zald (pc := 89) hx hb hw hkr ⟨by omega, by omega⟩ (by omega) dX10_mergeRuns_89 ?_
          refine lv_iload (pc := 90) hx hb dX10_mergeRuns_90 (lv_at hl 1 rfl) ?_
          refine zicmp_gt (pc := 92) hx hb 98 (by omega) (by omega) dX10_mergeRuns_92 (by decide) (fun c92 => ?_) (fun c92 => ?_)
          · skip
            refine lv_iload (pc := 98) hx hb dX10_mergeRuns_98 (lv_at hl 6 rfl) ?_
            refine zif_eq (pc := 100) hx hb 164 (by omega) dX10_mergeRuns_100 (by decide) (fun c100 => ?_) (fun c100 => ?_)
            · skip
              refine lv_aload_n (pc := 164) hx hb dX10_mergeRuns_164 rfl (lv_at hl 2 rfl) ?_
              refine lv_aload_n (pc := 165) hx hb dX10_mergeRuns_165 rfl (lv_at hl 3 rfl) ?_
              refine lv_iload_n (pc := 166) hx hb dX10_mergeRuns_166 rfl (lv_at hl 4 rfl) ?_
              refine lv_iload_n (pc := 167) hx hb dX10_mergeRuns_167 rfl (lv_at hl 5 rfl) ?_
              refine zneg (pc := 168) hx hb dX10_mergeRuns_168 ?_
              refine ziconst (pc := 169) (n := 0) hx hb dX10_mergeRuns_169 ?_
              refine lv_aload (pc := 170) hx hb dX10_mergeRuns_170 (lv_at hl 7 rfl) ?_
              refine lv_iload (pc := 172) hx hb dX10_mergeRuns_172 (lv_at hl 8 rfl) ?_
              refine lv_iload (pc := 174) hx hb dX10_mergeRuns_174 (lv_at hl 0 rfl) ?_
              have hb1 := hR9 lo.toNat x82.toNat (by omega) (by omega) (by omega)
              have hb2 := hR9 x82.toNat hi.toNat (by omega) (by omega) (by omega)
              refine zkR (pc := 176) (zrS (As := [.ref a, .ref b, .int (iI off), .int (iI (-aim)), .int (iI 0), .ref ru, .int (iI lo), .int (iI x82)]) hx hb hml hown hG hw (ih Γ K X Rf a b off (-aim) ru lo x82 na nb nr (by (first | assumption | omega)) (by (first | assumption | omega)) (by (first | assumption | omega)) (by (first | assumption | omega)) (by (first | assumption | omega)) (by (first | assumption | omega)) (by exact hR9.sub (Int.le_refl _) (by omega)) (by omega) (by exact fun j g1 g2 => hq j g1 (by omega)) (by exact hj.sub (Int.le_refl _) (by omega)) (by exact fun j g1 g2 => hF j g1 (by omega))) cb_X10_mergeRuns wl_X10_69 rfl ⟨by show dd + 3 + 1 ≤ (dd + 1 + 3); omega, by show 8 + (18 + 11) + 100 * (dd + 3) ≤ 100 * (dd + 1 + 3); omega⟩ hl.1 rfl (Nat.le_of_ble_eq_true rfl) dX10_mergeRuns_176 ⟨Nat.zero_le _, Nat.zero_le _⟩) hw (fun r176 K176 X176 R176 H locs hp176 hw => ?_)
              obtain ⟨⟨eK176K, eR176R⟩, hA176, ho176, hg176, hs176, hp176⟩ := hp176
              obtain ⟨n176, hkr176, hnr176⟩ : ∃ n1, K176 r176 = (2, n1) ∧ X ru hi.toNat ≤ n1 ∧ n1 ≤ 20000 := by
                rw [eK176K]
                rcases hA176.1 with g | g
                · rw [g]; exact ⟨na, hka, by omega, by omega⟩
                · rw [g]; exact ⟨nb, hkb, by omega, by omega⟩
              have eru : X176 ru = X ru := ho176 ru (Ne.symm hne.2.1) (Ne.symm hne.2.2)
              replace eK176K := eK176K.symm
              replace eR176R := eR176R.symm
              subst eK176K
              subst eR176R
              refine lv_astore (pc := 179) (lv' := [(10, .ref r176), (8, .int (iI x82)), (9, .int (iI x78)), (0, .ref a), (1, .ref b), (2, .int (iI off)), (3, .int (iI aim)), (4, .int (iI 0)), (5, .ref ru), (6, .int (iI lo)), (7, .int (iI hi))]) hx hb dX10_mergeRuns_179 hl (by decide) rfl (fun ls hl => ?_)
              refine lv_aload_n (pc := 181) hx hb dX10_mergeRuns_181 rfl (lv_at hl 3 rfl) ?_
              refine lv_aload_n (pc := 182) hx hb dX10_mergeRuns_182 rfl (lv_at hl 4 rfl) ?_
              refine lv_iload_n (pc := 183) hx hb dX10_mergeRuns_183 rfl (lv_at hl 5 rfl) ?_
              refine ziconst (pc := 184) (n := 0) hx hb dX10_mergeRuns_184 ?_
              refine ziconst (pc := 185) (n := 0) hx hb dX10_mergeRuns_185 ?_
              refine lv_aload (pc := 186) hx hb dX10_mergeRuns_186 (lv_at hl 8 rfl) ?_
              refine lv_iload (pc := 188) hx hb dX10_mergeRuns_188 (lv_at hl 1 rfl) ?_
              refine lv_iload (pc := 190) hx hb dX10_mergeRuns_190 (lv_at hl 10 rfl) ?_
              refine zkR (pc := 192) (zrS (As := [.ref a, .ref b, .int (iI off), .int (iI 0), .int (iI 0), .ref ru, .int (iI x82), .int (iI hi)]) hx hb hml hown hG hw (ih Γ K X176 Rf a b off 0 ru x82 hi na nb nr (by (first | assumption | omega)) (by (first | assumption | omega)) (by (first | assumption | omega)) (by (first | assumption | omega)) (by (first | assumption | omega)) (by (first | assumption | omega)) (by rw [eru]; exact hR9.sub (by omega) (Int.le_refl _)) (by rw [eru]; omega) (by intro j g1 g2; rw [eru]; exact (hq j (by omega) g2).congr (fun i i1 i2 => (hg176 i (Or.inr (by have := hRr x82.toNat j (by omega) (by omega) (by omega); omega))).1)) (by rw [eru]; exact (hj.sub (by omega) (Int.le_refl _)).congr (fun i i1 i2 => (hg176 i (Or.inr i1)).1)) (by intro j g1 g2; rw [eru] at g1 g2; rw [(hg176 j (Or.inr g1)).1]; exact hF j (by omega) g2)) cb_X10_mergeRuns wl_X10_69 rfl ⟨by show dd + 3 + 1 ≤ (dd + 1 + 3); omega, by show 8 + (18 + 11) + 100 * (dd + 3) ≤ 100 * (dd + 1 + 3); omega⟩ hl.1 rfl (Nat.le_of_ble_eq_true rfl) dX10_mergeRuns_192 ⟨Nat.zero_le _, Nat.zero_le _⟩) hw (fun r192 K192 X192 R192 H locs hp192 hw => ?_)
              obtain ⟨⟨eK192K, eR192R⟩, hA192, ho192, hg192, hs192, hp192⟩ := hp192
              obtain ⟨n192, hkr192, hnr192⟩ : ∃ n1, K192 r192 = (2, n1) ∧ X ru hi.toNat ≤ n1 ∧ n1 ≤ 20000 := by
                rw [eK192K]
                rcases hA192.1 with g | g
                · rw [g]; exact ⟨na, hka, by omega, by omega⟩
                · rw [g]; exact ⟨nb, hkb, by omega, by omega⟩
              rw [eru] at hg192 hs192 hp192
              have eru2 : X192 ru = X ru := by rw [ho192 ru (Ne.symm hne.2.1) (Ne.symm hne.2.2)]; exact eru
              have e176 : ∀ j : Nat, (j : Int) < X ru x82.toNat → X192 r176 j = X176 r176 j := fun j hj9 => by
                rcases hA176.1 with g | g
                · rw [g]; exact (hg192 j (Or.inl hj9)).1
                · rw [g]; exact (hg192 j (Or.inl hj9)).2
              have hp92 : Prw (X ru x82.toNat) (X ru hi.toNat) (X a) (X192 r192) := hp192.congr (fun j g1 g2 => (hg176 j (Or.inr g1)).1.symm) (fun _ _ _ => rfl)
              have hp76 : Prw (X ru lo.toNat) (X ru x82.toNat) (X a) (X192 r176) := hp176.congr (fun _ _ _ => rfl) (fun j g1 g2 => e176 j g2)
              replace eK192K := eK192K.symm
              replace eR192R := eR192R.symm
              subst eK192K
              subst eR192R
              refine lv_astore (pc := 195) (lv' := [(11, .ref r192), (10, .ref r176), (8, .int (iI x82)), (9, .int (iI x78)), (0, .ref a), (1, .ref b), (2, .int (iI off)), (3, .int (iI aim)), (4, .int (iI 0)), (5, .ref ru), (6, .int (iI lo)), (7, .int (iI hi))]) hx hb dX10_mergeRuns_195 hl (by decide) rfl (fun ls hl => ?_)
              refine lv_aload (pc := 197) hx hb dX10_mergeRuns_197 (lv_at hl 1 rfl) ?_
              refine lv_aload_n (pc := 199) hx hb dX10_mergeRuns_199 rfl (lv_at hl 4 rfl) ?_
              refine zacmp_ne (pc := 200) hx hb 207 dX10_mergeRuns_200 (by decide) (fun c200 => ?_) (fun c200 => ?_)
              · skip
                refine lv_aload_n (pc := 207) hx hb dX10_mergeRuns_207 rfl (lv_at hl 4 rfl) ?_
                refine lv_astore (pc := 208) (lv' := [(12, .ref a), (11, .ref r192), (10, .ref r176), (8, .int (iI x82)), (9, .int (iI x78)), (0, .ref a), (1, .ref b), (2, .int (iI off)), (3, .int (iI aim)), (4, .int (iI 0)), (5, .ref ru), (6, .int (iI lo)), (7, .int (iI hi))]) hx hb dX10_mergeRuns_208 hl (by decide) rfl (fun ls hl => ?_)
                have jn231_0 : ∀ (k9 : Int) (H : Heap) (locs : List Loc), (hk9 : k9 = X ru lo.toNat) → Wd Γ (zA K s.heap.size) K X192 Rf s H locs → ∀ ls : Array Slot, lv_has ls 18 [(12, .ref a), (11, .ref r192), (10, .ref r176), (8, .int (iI x82)), (9, .int (iI x78)), (0, .ref a), (1, .ref b), (2, .int (iI off)), (3, .int (iI aim)), (4, .int (iI 0)), (5, .ref ru), (6, .int (iI lo)), (7, .int (iI hi))] → W p l e (rmL (dd + 1 + 3) 0 0) s m ([.ref a, .ref b, .int (iI off), .int (iI aim), .int (iI 0), .ref ru, .int (iI lo), .int (iI hi)] : List Value).toArray below meth c H locs 0 0 (MQ below (zQ Γ K s.heap.size (pR (fun (r : Nat) (K' : zK) (X' : zX) (R' : zR) => (K' = K ∧ R' = Rf) ∧ ((r = a ∨ r = b) ∧ (0 < aim → r = a) ∧ (aim < 0 → r = b)) ∧ (∀ c, c ≠ a → c ≠ b → X' c = X c) ∧ (∀ j : Nat, (j : Int) < X ru lo.toNat ∨ X ru hi.toNat ≤ j → X' a j = X a j ∧ X' b j = X b j) ∧ srtS (X ru lo.toNat) (X ru hi.toNat) (X' r) ∧ Prw (X ru lo.toNat) (X ru hi.toNat) (X a) (X' r)))) ([.ref a, .ref b, .int (iI off), .int (iI aim), .int (iI 0), .ref ru, .int (iI lo), .int (iI hi)] : List Value).toArray s 0 0 (zA K s.heap.size)) (F0 m 231 ls [.int (iI k9)]) := by
                  intro k9 H locs hk9 hw ls hl
                  refine lv_istore (pc := 231) (lv' := [(13, .int (iI k9)), (12, .ref a), (11, .ref r192), (10, .ref r176), (8, .int (iI x82)), (9, .int (iI x78)), (0, .ref a), (1, .ref b), (2, .int (iI off)), (3, .int (iI aim)), (4, .int (iI 0)), (5, .ref ru), (6, .int (iI lo)), (7, .int (iI hi))]) hx hb dX10_mergeRuns_231 hl (by decide) rfl (fun ls hl => ?_)
                  have jn254_1 : ∀ (l9 : Int) (H : Heap) (locs : List Loc), (hl9 : l9 = X ru lo.toNat) → Wd Γ (zA K s.heap.size) K X192 Rf s H locs → ∀ ls : Array Slot, lv_has ls 18 [(13, .int (iI k9)), (12, .ref a), (11, .ref r192), (10, .ref r176), (8, .int (iI x82)), (9, .int (iI x78)), (0, .ref a), (1, .ref b), (2, .int (iI off)), (3, .int (iI aim)), (4, .int (iI 0)), (5, .ref ru), (6, .int (iI lo)), (7, .int (iI hi))] → W p l e (rmL (dd + 1 + 3) 0 0) s m ([.ref a, .ref b, .int (iI off), .int (iI aim), .int (iI 0), .ref ru, .int (iI lo), .int (iI hi)] : List Value).toArray below meth c H locs 0 0 (MQ below (zQ Γ K s.heap.size (pR (fun (r : Nat) (K' : zK) (X' : zX) (R' : zR) => (K' = K ∧ R' = Rf) ∧ ((r = a ∨ r = b) ∧ (0 < aim → r = a) ∧ (aim < 0 → r = b)) ∧ (∀ c, c ≠ a → c ≠ b → X' c = X c) ∧ (∀ j : Nat, (j : Int) < X ru lo.toNat ∨ X ru hi.toNat ≤ j → X' a j = X a j ∧ X' b j = X b j) ∧ srtS (X ru lo.toNat) (X ru hi.toNat) (X' r) ∧ Prw (X ru lo.toNat) (X ru hi.toNat) (X a) (X' r)))) ([.ref a, .ref b, .int (iI off), .int (iI aim), .int (iI 0), .ref ru, .int (iI lo), .int (iI hi)] : List Value).toArray s 0 0 (zA K s.heap.size)) (F0 m 254 ls [.int (iI l9)]) := by
                    intro l9 H locs hl9 hw ls hl
                    refine lv_istore (pc := 254) (lv' := [(14, .int (iI l9)), (13, .int (iI k9)), (12, .ref a), (11, .ref r192), (10, .ref r176), (8, .int (iI x82)), (9, .int (iI x78)), (0, .ref a), (1, .ref b), (2, .int (iI off)), (3, .int (iI aim)), (4, .int (iI 0)), (5, .ref ru), (6, .int (iI lo)), (7, .int (iI hi))]) hx hb dX10_mergeRuns_254 hl (by decide) rfl (fun ls hl => ?_)
                    have jn277_2 : ∀ (m9 : Int) (H : Heap) (locs : List Loc), (hm8 : m9 = X ru x82.toNat) → Wd Γ (zA K s.heap.size) K X192 Rf s H locs → ∀ ls : Array Slot, lv_has ls 18 [(14, .int (iI l9)), (13, .int (iI k9)), (12, .ref a), (11, .ref r192), (10, .ref r176), (8, .int (iI x82)), (9, .int (iI x78)), (0, .ref a), (1, .ref b), (2, .int (iI off)), (3, .int (iI aim)), (4, .int (iI 0)), (5, .ref ru), (6, .int (iI lo)), (7, .int (iI hi))] → W p l e (rmL (dd + 1 + 3) 0 0) s m ([.ref a, .ref b, .int (iI off), .int (iI aim), .int (iI 0), .ref ru, .int (iI lo), .int (iI hi)] : List Value).toArray below meth c H locs 0 0 (MQ below (zQ Γ K s.heap.size (pR (fun (r : Nat) (K' : zK) (X' : zX) (R' : zR) => (K' = K ∧ R' = Rf) ∧ ((r = a ∨ r = b) ∧ (0 < aim → r = a) ∧ (aim < 0 → r = b)) ∧ (∀ c, c ≠ a → c ≠ b → X' c = X c) ∧ (∀ j : Nat, (j : Int) < X ru lo.toNat ∨ X ru hi.toNat ≤ j → X' a j = X a j ∧ X' b j = X b j) ∧ srtS (X ru lo.toNat) (X ru hi.toNat) (X' r) ∧ Prw (X ru lo.toNat) (X ru hi.toNat) (X a) (X' r)))) ([.ref a, .ref b, .int (iI off), .int (iI aim), .int (iI 0), .ref ru, .int (iI lo), .int (iI hi)] : List Value).toArray s 0 0 (zA K s.heap.size)) (F0 m 277 ls [.int (iI m9)]) := by
                      intro m9 H locs hm8 hw ls hl
                      refine lv_istore (pc := 277) (lv' := [(15, .int (iI m9)), (14, .int (iI l9)), (13, .int (iI k9)), (12, .ref a), (11, .ref r192), (10, .ref r176), (8, .int (iI x82)), (9, .int (iI x78)), (0, .ref a), (1, .ref b), (2, .int (iI off)), (3, .int (iI aim)), (4, .int (iI 0)), (5, .ref ru), (6, .int (iI lo)), (7, .int (iI hi))]) hx hb dX10_mergeRuns_277 hl (by decide) rfl (fun ls hl => ?_)
                      have jn300_3 : ∀ (n9 : Int) (H : Heap) (locs : List Loc), (hn9 : n9 = X ru x82.toNat) → Wd Γ (zA K s.heap.size) K X192 Rf s H locs → ∀ ls : Array Slot, lv_has ls 18 [(15, .int (iI m9)), (14, .int (iI l9)), (13, .int (iI k9)), (12, .ref a), (11, .ref r192), (10, .ref r176), (8, .int (iI x82)), (9, .int (iI x78)), (0, .ref a), (1, .ref b), (2, .int (iI off)), (3, .int (iI aim)), (4, .int (iI 0)), (5, .ref ru), (6, .int (iI lo)), (7, .int (iI hi))] → W p l e (rmL (dd + 1 + 3) 0 0) s m ([.ref a, .ref b, .int (iI off), .int (iI aim), .int (iI 0), .ref ru, .int (iI lo), .int (iI hi)] : List Value).toArray below meth c H locs 0 0 (MQ below (zQ Γ K s.heap.size (pR (fun (r : Nat) (K' : zK) (X' : zX) (R' : zR) => (K' = K ∧ R' = Rf) ∧ ((r = a ∨ r = b) ∧ (0 < aim → r = a) ∧ (aim < 0 → r = b)) ∧ (∀ c, c ≠ a → c ≠ b → X' c = X c) ∧ (∀ j : Nat, (j : Int) < X ru lo.toNat ∨ X ru hi.toNat ≤ j → X' a j = X a j ∧ X' b j = X b j) ∧ srtS (X ru lo.toNat) (X ru hi.toNat) (X' r) ∧ Prw (X ru lo.toNat) (X ru hi.toNat) (X a) (X' r)))) ([.ref a, .ref b, .int (iI off), .int (iI aim), .int (iI 0), .ref ru, .int (iI lo), .int (iI hi)] : List Value).toArray s 0 0 (zA K s.heap.size)) (F0 m 300 ls [.int (iI n9)]) := by
                        intro n9 H locs hn9 hw ls hl
                        refine lv_istore (pc := 300) (lv' := [(16, .int (iI n9)), (15, .int (iI m9)), (14, .int (iI l9)), (13, .int (iI k9)), (12, .ref a), (11, .ref r192), (10, .ref r176), (8, .int (iI x82)), (9, .int (iI x78)), (0, .ref a), (1, .ref b), (2, .int (iI off)), (3, .int (iI aim)), (4, .int (iI 0)), (5, .ref ru), (6, .int (iI lo)), (7, .int (iI hi))]) hx hb dX10_mergeRuns_300 hl (by decide) rfl (fun ls hl => ?_)
                        have jn323_4 : ∀ (h9 : Int) (H : Heap) (locs : List Loc), (hh9 : h9 = X ru hi.toNat) → Wd Γ (zA K s.heap.size) K X192 Rf s H locs → ∀ ls : Array Slot, lv_has ls 18 [(16, .int (iI n9)), (15, .int (iI m9)), (14, .int (iI l9)), (13, .int (iI k9)), (12, .ref a), (11, .ref r192), (10, .ref r176), (8, .int (iI x82)), (9, .int (iI x78)), (0, .ref a), (1, .ref b), (2, .int (iI off)), (3, .int (iI aim)), (4, .int (iI 0)), (5, .ref ru), (6, .int (iI lo)), (7, .int (iI hi))] → W p l e (rmL (dd + 1 + 3) 0 0) s m ([.ref a, .ref b, .int (iI off), .int (iI aim), .int (iI 0), .ref ru, .int (iI lo), .int (iI hi)] : List Value).toArray below meth c H locs 0 0 (MQ below (zQ Γ K s.heap.size (pR (fun (r : Nat) (K' : zK) (X' : zX) (R' : zR) => (K' = K ∧ R' = Rf) ∧ ((r = a ∨ r = b) ∧ (0 < aim → r = a) ∧ (aim < 0 → r = b)) ∧ (∀ c, c ≠ a → c ≠ b → X' c = X c) ∧ (∀ j : Nat, (j : Int) < X ru lo.toNat ∨ X ru hi.toNat ≤ j → X' a j = X a j ∧ X' b j = X b j) ∧ srtS (X ru lo.toNat) (X ru hi.toNat) (X' r) ∧ Prw (X ru lo.toNat) (X ru hi.toNat) (X a) (X' r)))) ([.ref a, .ref b, .int (iI off), .int (iI aim), .int (iI 0), .ref ru, .int (iI lo), .int (iI hi)] : List Value).toArray s 0 0 (zA K s.heap.size)) (F0 m 323 ls [.int (iI h9)]) := by
                          intro h9 H locs hh9 hw ls hl
                          refine lv_istore (pc := 323) (lv' := [(17, .int (iI h9)), (16, .int (iI n9)), (15, .int (iI m9)), (14, .int (iI l9)), (13, .int (iI k9)), (12, .ref a), (11, .ref r192), (10, .ref r176), (8, .int (iI x82)), (9, .int (iI x78)), (0, .ref a), (1, .ref b), (2, .int (iI off)), (3, .int (iI aim)), (4, .int (iI 0)), (5, .ref ru), (6, .int (iI lo)), (7, .int (iI hi))]) hx hb dX10_mergeRuns_323 hl (by decide) rfl (fun ls hl => ?_)
                          refine lv_iload (pc := 325) hx hb dX10_mergeRuns_325 (lv_at hl 14 rfl) ?_
                          refine zif_eq (pc := 327) hx hb 361 (by omega) dX10_mergeRuns_327 (by decide) (fun c327 => ?_) (fun c327 => ?_)
                          · skip
                            refine lv_null (pc := 361) hx hb dX10_mergeRuns_361 ?_
                            refine lv_aload (pc := 362) hx hb dX10_mergeRuns_362 (lv_at hl 5 rfl) ?_
                            refine lv_iload (pc := 364) hx hb dX10_mergeRuns_364 (lv_at hl 4 rfl) ?_
                            refine lv_aload (pc := 366) hx hb dX10_mergeRuns_366 (lv_at hl 7 rfl) ?_
                            refine lv_iload (pc := 368) hx hb dX10_mergeRuns_368 (lv_at hl 3 rfl) ?_
                            refine lv_iload (pc := 370) hx hb dX10_mergeRuns_370 (lv_at hl 2 rfl) ?_
                            refine lv_aload (pc := 372) hx hb dX10_mergeRuns_372 (lv_at hl 6 rfl) ?_
                            refine lv_iload (pc := 374) hx hb dX10_mergeRuns_374 (lv_at hl 1 rfl) ?_
                            refine lv_iload (pc := 376) hx hb dX10_mergeRuns_376 (lv_at hl 0 rfl) ?_
                            refine zkVx (pc := 378) (zrS (As := [.null, .ref a, .int (iI k9), .ref r176, .int (iI l9), .int (iI m9), .ref r192, .int (iI n9), .int (iI h9)]) hx hb hml hown hG hw (c_X10_mergeParts l Γ K X192 Rf a k9 r176 l9 m9 r192 n9 h9 na n176 n192 (by (first | assumption | omega)) (by (first | assumption | omega)) (by (first | assumption | omega)) (by (first | assumption | omega)) (by (first | assumption | omega)) (by first | exact c200 | (rw [c200]; exact hne.1)) (by rw [hl9, hm8]; exact hs176.congr (fun j g1 g2 => e176 j g2)) (by rw [hm8, hh9]; exact hs192) (by intro j g1 g2; rw [hl9] at g1; rw [hm8] at g2; obtain ⟨w, w1, w2, w3⟩ := hp76.1 j g1 g2; rw [w3]; exact hF w w1 (by omega)) (by intro j g1 g2; rw [hm8] at g1; rw [hh9] at g2; obtain ⟨w, w1, w2, w3⟩ := hp92.1 j g1 g2; rw [w3]; exact hF w (by omega) w2) (by intro i j i1 i2 j1 j2 e; rw [hl9] at i1; rw [hm8] at i2 j1; rw [hh9] at j2; obtain ⟨w, w1, w2, w3⟩ := hp76.1 i i1 i2; obtain ⟨u, u1, u2, u3⟩ := hp92.1 j j1 j2; rw [w3, u3] at e; have := hj w u w1 (by omega) (by omega) u2 e; omega)) cb_X10_mergeParts wl_X10_91 rfl ⟨by show 0 + 1 ≤ (dd + 1 + 3); omega, by show 8 + (14 + 11) + 100 * 0 ≤ 100 * (dd + 1 + 3); omega⟩ hl.1 rfl (Nat.le_of_ble_eq_true rfl) dX10_mergeRuns_378 ⟨Nat.zero_le _, Nat.zero_le _⟩) hw (fun X378 H locs hp378 hw => ?_)
                            obtain ⟨hoZ, hgZ, hsZ, hpZ⟩ := hp378
                            rw [hl9, hh9] at hgZ hsZ hpZ
                            rw [hm8] at hpZ
                            refine lv_aload (pc := 381) hx hb dX10_mergeRuns_381 (lv_at hl 5 rfl) ?_
                            exact zretR (pc := 383) hx hb hlocks hr (by first | exact Or.inl ⟨_, rfl⟩ | exact Or.inr ⟨_, rfl⟩) hw (Nat.zero_le _) (Nat.zero_le _) dX10_mergeRuns_383 (by 
                                        have hSp : Prw (X ru lo.toNat) (X ru hi.toNat) (X a) (fun j => if (j : Int) < X ru x82.toNat then X192 r176 j else X192 r192 j) := by
                                          refine Prw.app (mi := X ru x82.toNat) (hp76.congr (fun _ _ _ => rfl) (fun j g1 g2 => ?_)) (hp92.congr (fun _ _ _ => rfl) (fun j g1 g2 => ?_)) ⟨by omega, by omega⟩
                                          · rw [if_pos g2]
                                          · rw [if_neg (by omega)]
                                        have hP := hSp.trans hpZ
                                        have hX9 : ∀ j : Nat, (j : Int) < X ru lo.toNat ∨ X ru hi.toNat ≤ j → X192 a j = X a j ∧ X192 b j = X b j := fun j g => by
                                          have w1 := hg192 j (by omega)
                                          have w2 := hg176 j (by omega)
                                          exact ⟨by rw [w1.1, w2.1], by rw [w1.2, w2.2]⟩
                                        first
                                        | (refine ⟨⟨rfl, rfl⟩, ⟨Or.inl rfl, fun _ => rfl, fun g => absurd (hA176.2.1 (by omega)) c200⟩, fun c g1 g2 => by rw [hoZ c g1, ho192 c g1 g2, ho176 c g1 g2], fun j g => ⟨by rw [hgZ j g]; exact (hX9 j g).1, by rw [hoZ b (Ne.symm hne.1)]; exact (hX9 j g).2⟩, hsZ, hP⟩; done)
                                        | exact ⟨⟨rfl, rfl⟩, ⟨Or.inr rfl, fun g => absurd (c200.symm.trans (hA176.2.2 (by omega))) hne.1, fun _ => rfl⟩, fun c g1 g2 => by rw [hoZ c g2, ho192 c g1 g2, ho176 c g1 g2], fun j g => ⟨by rw [hoZ a hne.1]; exact (hX9 j g).1, by rw [hgZ j g]; exact (hX9 j g).2⟩, hsZ, hP⟩)
                          · skip
                            exfalso; omega
                        refine lv_aload (pc := 302) hx hb dX10_mergeRuns_302 (lv_at hl 5 rfl) ?_
                        refine lv_aload_n (pc := 304) hx hb dX10_mergeRuns_304 rfl (lv_at hl 10 rfl) ?_
                        refine zacmp_ne (pc := 305) hx hb 318 dX10_mergeRuns_305 (by decide) (fun c305 => ?_) (fun c305 => ?_)
                        · skip
                          refine lv_aload (pc := 318) hx hb dX10_mergeRuns_318 (lv_at hl 14 rfl) ?_
                          refine lv_iload (pc := 320) hx hb dX10_mergeRuns_320 (lv_at hl 16 rfl) ?_
                          refine zald (pc := 322) hx hb hw hkr ⟨by omega, by omega⟩ (by omega) dX10_mergeRuns_322 ?_
                          exact jn323_4 (X192 ru hi.toNat) _ _ (by first | (rw [eru2]; done) | (rw [eru2]; omega)) hw _ (lv_sub hl [0, 1, 2, 3, 4, 5, 6, 7, 8, 9, 10, 11, 12, 13, 14, 15, 16] rfl)
                        · skip
                          refine lv_aload (pc := 308) hx hb dX10_mergeRuns_308 (lv_at hl 14 rfl) ?_
                          refine lv_iload (pc := 310) hx hb dX10_mergeRuns_310 (lv_at hl 16 rfl) ?_
                          refine zald (pc := 312) hx hb hw hkr ⟨by omega, by omega⟩ (by omega) dX10_mergeRuns_312 ?_
                          refine lv_iload_n (pc := 313) hx hb dX10_mergeRuns_313 rfl (lv_at hl 11 rfl) ?_
                          refine zsub (pc := 314) hx hb dX10_mergeRuns_314 ?_
                          refine lv_goto (pc := 315) (tgt := 323) hx hb dX10_mergeRuns_315 (by decide) ?_
                          exact jn323_4 ((X192 ru hi.toNat) - off) _ _ (by first | (rw [eru2]; done) | (rw [eru2]; omega)) hw _ (lv_sub hl [0, 1, 2, 3, 4, 5, 6, 7, 8, 9, 10, 11, 12, 13, 14, 15, 16] rfl)
                      refine lv_aload (pc := 279) hx hb dX10_mergeRuns_279 (lv_at hl 4 rfl) ?_
                      refine lv_aload_n (pc := 281) hx hb dX10_mergeRuns_281 rfl (lv_at hl 9 rfl) ?_
                      refine zacmp_ne (pc := 282) hx hb 295 dX10_mergeRuns_282 (by decide) (fun c282 => ?_) (fun c282 => ?_)
                      · skip
                        refine lv_aload (pc := 295) hx hb dX10_mergeRuns_295 (lv_at hl 13 rfl) ?_
                        refine lv_iload (pc := 297) hx hb dX10_mergeRuns_297 (lv_at hl 6 rfl) ?_
                        refine zald (pc := 299) hx hb hw hkr ⟨by omega, by omega⟩ (by omega) dX10_mergeRuns_299 ?_
                        exact jn300_3 (X192 ru x82.toNat) _ _ (by first | (rw [eru2]; done) | (rw [eru2]; omega)) hw _ (lv_sub hl [0, 1, 2, 3, 4, 5, 6, 7, 8, 9, 10, 11, 12, 13, 14, 15] rfl)
                      · skip
                        refine lv_aload (pc := 285) hx hb dX10_mergeRuns_285 (lv_at hl 13 rfl) ?_
                        refine lv_iload (pc := 287) hx hb dX10_mergeRuns_287 (lv_at hl 6 rfl) ?_
                        refine zald (pc := 289) hx hb hw hkr ⟨by omega, by omega⟩ (by omega) dX10_mergeRuns_289 ?_
                        refine lv_iload_n (pc := 290) hx hb dX10_mergeRuns_290 rfl (lv_at hl 10 rfl) ?_
                        refine zsub (pc := 291) hx hb dX10_mergeRuns_291 ?_
                        refine lv_goto (pc := 292) (tgt := 300) hx hb dX10_mergeRuns_292 (by decide) ?_
                        exact jn300_3 ((X192 ru x82.toNat) - off) _ _ (by first | (rw [eru2]; done) | (rw [eru2]; omega)) hw _ (lv_sub hl [0, 1, 2, 3, 4, 5, 6, 7, 8, 9, 10, 11, 12, 13, 14, 15] rfl)
                    refine lv_aload (pc := 256) hx hb dX10_mergeRuns_256 (lv_at hl 4 rfl) ?_
                    refine lv_aload_n (pc := 258) hx hb dX10_mergeRuns_258 rfl (lv_at hl 8 rfl) ?_
                    refine zacmp_ne (pc := 259) hx hb 272 dX10_mergeRuns_259 (by decide) (fun c259 => ?_) (fun c259 => ?_)
                    · skip
                      refine lv_aload (pc := 272) hx hb dX10_mergeRuns_272 (lv_at hl 12 rfl) ?_
                      refine lv_iload (pc := 274) hx hb dX10_mergeRuns_274 (lv_at hl 5 rfl) ?_
                      refine zald (pc := 276) hx hb hw hkr ⟨by omega, by omega⟩ (by omega) dX10_mergeRuns_276 ?_
                      exact jn277_2 (X192 ru x82.toNat) _ _ (by first | (rw [eru2]; done) | (rw [eru2]; omega)) hw _ (lv_sub hl [0, 1, 2, 3, 4, 5, 6, 7, 8, 9, 10, 11, 12, 13, 14] rfl)
                    · skip
                      refine lv_aload (pc := 262) hx hb dX10_mergeRuns_262 (lv_at hl 12 rfl) ?_
                      refine lv_iload (pc := 264) hx hb dX10_mergeRuns_264 (lv_at hl 5 rfl) ?_
                      refine zald (pc := 266) hx hb hw hkr ⟨by omega, by omega⟩ (by omega) dX10_mergeRuns_266 ?_
                      refine lv_iload_n (pc := 267) hx hb dX10_mergeRuns_267 rfl (lv_at hl 9 rfl) ?_
                      refine zsub (pc := 268) hx hb dX10_mergeRuns_268 ?_
                      refine lv_goto (pc := 269) (tgt := 277) hx hb dX10_mergeRuns_269 (by decide) ?_
                      exact jn277_2 ((X192 ru x82.toNat) - off) _ _ (by first | (rw [eru2]; done) | (rw [eru2]; omega)) hw _ (lv_sub hl [0, 1, 2, 3, 4, 5, 6, 7, 8, 9, 10, 11, 12, 13, 14] rfl)
                  refine lv_aload (pc := 233) hx hb dX10_mergeRuns_233 (lv_at hl 3 rfl) ?_
                  refine lv_aload_n (pc := 235) hx hb dX10_mergeRuns_235 rfl (lv_at hl 7 rfl) ?_
                  refine zacmp_ne (pc := 236) hx hb 249 dX10_mergeRuns_236 (by decide) (fun c236 => ?_) (fun c236 => ?_)
                  · skip
                    refine lv_aload (pc := 249) hx hb dX10_mergeRuns_249 (lv_at hl 11 rfl) ?_
                    refine lv_iload (pc := 251) hx hb dX10_mergeRuns_251 (lv_at hl 12 rfl) ?_
                    refine zald (pc := 253) hx hb hw hkr ⟨by omega, by omega⟩ (by omega) dX10_mergeRuns_253 ?_
                    exact jn254_1 (X192 ru lo.toNat) _ _ (by first | (rw [eru2]; done) | (rw [eru2]; omega)) hw _ (lv_sub hl [0, 1, 2, 3, 4, 5, 6, 7, 8, 9, 10, 11, 12, 13] rfl)
                  · skip
                    refine lv_aload (pc := 239) hx hb dX10_mergeRuns_239 (lv_at hl 11 rfl) ?_
                    refine lv_iload (pc := 241) hx hb dX10_mergeRuns_241 (lv_at hl 12 rfl) ?_
                    refine zald (pc := 243) hx hb hw hkr ⟨by omega, by omega⟩ (by omega) dX10_mergeRuns_243 ?_
                    refine lv_iload_n (pc := 244) hx hb dX10_mergeRuns_244 rfl (lv_at hl 8 rfl) ?_
                    refine zsub (pc := 245) hx hb dX10_mergeRuns_245 ?_
                    refine lv_goto (pc := 246) (tgt := 254) hx hb dX10_mergeRuns_246 (by decide) ?_
                    exact jn254_1 ((X192 ru lo.toNat) - off) _ _ (by first | (rw [eru2]; done) | (rw [eru2]; omega)) hw _ (lv_sub hl [0, 1, 2, 3, 4, 5, 6, 7, 8, 9, 10, 11, 12, 13] rfl)
                refine lv_aload (pc := 210) hx hb dX10_mergeRuns_210 (lv_at hl 2 rfl) ?_
                refine lv_aload_n (pc := 212) hx hb dX10_mergeRuns_212 rfl (lv_at hl 5 rfl) ?_
                refine zacmp_ne (pc := 213) hx hb 226 dX10_mergeRuns_213 (by decide) (fun c213 => ?_) (fun c213 => ?_)
                · skip
                  refine lv_aload (pc := 226) hx hb dX10_mergeRuns_226 (lv_at hl 10 rfl) ?_
                  refine lv_iload (pc := 228) hx hb dX10_mergeRuns_228 (lv_at hl 11 rfl) ?_
                  refine zald (pc := 230) hx hb hw hkr ⟨by omega, by omega⟩ (by omega) dX10_mergeRuns_230 ?_
                  exact jn231_0 (X192 ru lo.toNat) _ _ (by first | (rw [eru2]; done) | (rw [eru2]; omega)) hw _ (lv_sub hl [0, 1, 2, 3, 4, 5, 6, 7, 8, 9, 10, 11, 12] rfl)
                · skip
                  refine lv_aload (pc := 216) hx hb dX10_mergeRuns_216 (lv_at hl 10 rfl) ?_
                  refine lv_iload (pc := 218) hx hb dX10_mergeRuns_218 (lv_at hl 11 rfl) ?_
                  refine zald (pc := 220) hx hb hw hkr ⟨by omega, by omega⟩ (by omega) dX10_mergeRuns_220 ?_
                  refine lv_iload_n (pc := 221) hx hb dX10_mergeRuns_221 rfl (lv_at hl 7 rfl) ?_
                  refine zsub (pc := 222) hx hb dX10_mergeRuns_222 ?_
                  refine lv_goto (pc := 223) (tgt := 231) hx hb dX10_mergeRuns_223 (by decide) ?_
                  exact jn231_0 ((X192 ru lo.toNat) - off) _ _ (by first | (rw [eru2]; done) | (rw [eru2]; omega)) hw _ (lv_sub hl [0, 1, 2, 3, 4, 5, 6, 7, 8, 9, 10, 11, 12] rfl)
              · skip
                refine lv_aload_n (pc := 203) hx hb dX10_mergeRuns_203 rfl (lv_at hl 5 rfl) ?_
                refine lv_goto (pc := 204) (tgt := 208) hx hb dX10_mergeRuns_204 (by decide) ?_
                refine lv_astore (pc := 208) (lv' := [(12, .ref b), (11, .ref r192), (10, .ref r176), (8, .int (iI x82)), (9, .int (iI x78)), (0, .ref a), (1, .ref b), (2, .int (iI off)), (3, .int (iI aim)), (4, .int (iI 0)), (5, .ref ru), (6, .int (iI lo)), (7, .int (iI hi))]) hx hb dX10_mergeRuns_208 hl (by decide) rfl (fun ls hl => ?_)
                have jn231_5 : ∀ (k9 : Int) (H : Heap) (locs : List Loc), (hk9 : k9 = X ru lo.toNat) → Wd Γ (zA K s.heap.size) K X192 Rf s H locs → ∀ ls : Array Slot, lv_has ls 18 [(12, .ref b), (11, .ref r192), (10, .ref r176), (8, .int (iI x82)), (9, .int (iI x78)), (0, .ref a), (1, .ref b), (2, .int (iI off)), (3, .int (iI aim)), (4, .int (iI 0)), (5, .ref ru), (6, .int (iI lo)), (7, .int (iI hi))] → W p l e (rmL (dd + 1 + 3) 0 0) s m ([.ref a, .ref b, .int (iI off), .int (iI aim), .int (iI 0), .ref ru, .int (iI lo), .int (iI hi)] : List Value).toArray below meth c H locs 0 0 (MQ below (zQ Γ K s.heap.size (pR (fun (r : Nat) (K' : zK) (X' : zX) (R' : zR) => (K' = K ∧ R' = Rf) ∧ ((r = a ∨ r = b) ∧ (0 < aim → r = a) ∧ (aim < 0 → r = b)) ∧ (∀ c, c ≠ a → c ≠ b → X' c = X c) ∧ (∀ j : Nat, (j : Int) < X ru lo.toNat ∨ X ru hi.toNat ≤ j → X' a j = X a j ∧ X' b j = X b j) ∧ srtS (X ru lo.toNat) (X ru hi.toNat) (X' r) ∧ Prw (X ru lo.toNat) (X ru hi.toNat) (X a) (X' r)))) ([.ref a, .ref b, .int (iI off), .int (iI aim), .int (iI 0), .ref ru, .int (iI lo), .int (iI hi)] : List Value).toArray s 0 0 (zA K s.heap.size)) (F0 m 231 ls [.int (iI k9)]) := by
                  intro k9 H locs hk9 hw ls hl
                  refine lv_istore (pc := 231) (lv' := [(13, .int (iI k9)), (12, .ref b), (11, .ref r192), (10, .ref r176), (8, .int (iI x82)), (9, .int (iI x78)), (0, .ref a), (1, .ref b), (2, .int (iI off)), (3, .int (iI aim)), (4, .int (iI 0)), (5, .ref ru), (6, .int (iI lo)), (7, .int (iI hi))]) hx hb dX10_mergeRuns_231 hl (by decide) rfl (fun ls hl => ?_)
                  have jn254_6 : ∀ (l9 : Int) (H : Heap) (locs : List Loc), (hl9 : l9 = X ru lo.toNat) → Wd Γ (zA K s.heap.size) K X192 Rf s H locs → ∀ ls : Array Slot, lv_has ls 18 [(13, .int (iI k9)), (12, .ref b), (11, .ref r192), (10, .ref r176), (8, .int (iI x82)), (9, .int (iI x78)), (0, .ref a), (1, .ref b), (2, .int (iI off)), (3, .int (iI aim)), (4, .int (iI 0)), (5, .ref ru), (6, .int (iI lo)), (7, .int (iI hi))] → W p l e (rmL (dd + 1 + 3) 0 0) s m ([.ref a, .ref b, .int (iI off), .int (iI aim), .int (iI 0), .ref ru, .int (iI lo), .int (iI hi)] : List Value).toArray below meth c H locs 0 0 (MQ below (zQ Γ K s.heap.size (pR (fun (r : Nat) (K' : zK) (X' : zX) (R' : zR) => (K' = K ∧ R' = Rf) ∧ ((r = a ∨ r = b) ∧ (0 < aim → r = a) ∧ (aim < 0 → r = b)) ∧ (∀ c, c ≠ a → c ≠ b → X' c = X c) ∧ (∀ j : Nat, (j : Int) < X ru lo.toNat ∨ X ru hi.toNat ≤ j → X' a j = X a j ∧ X' b j = X b j) ∧ srtS (X ru lo.toNat) (X ru hi.toNat) (X' r) ∧ Prw (X ru lo.toNat) (X ru hi.toNat) (X a) (X' r)))) ([.ref a, .ref b, .int (iI off), .int (iI aim), .int (iI 0), .ref ru, .int (iI lo), .int (iI hi)] : List Value).toArray s 0 0 (zA K s.heap.size)) (F0 m 254 ls [.int (iI l9)]) := by
                    intro l9 H locs hl9 hw ls hl
                    refine lv_istore (pc := 254) (lv' := [(14, .int (iI l9)), (13, .int (iI k9)), (12, .ref b), (11, .ref r192), (10, .ref r176), (8, .int (iI x82)), (9, .int (iI x78)), (0, .ref a), (1, .ref b), (2, .int (iI off)), (3, .int (iI aim)), (4, .int (iI 0)), (5, .ref ru), (6, .int (iI lo)), (7, .int (iI hi))]) hx hb dX10_mergeRuns_254 hl (by decide) rfl (fun ls hl => ?_)
                    have jn277_7 : ∀ (m9 : Int) (H : Heap) (locs : List Loc), (hm8 : m9 = X ru x82.toNat) → Wd Γ (zA K s.heap.size) K X192 Rf s H locs → ∀ ls : Array Slot, lv_has ls 18 [(14, .int (iI l9)), (13, .int (iI k9)), (12, .ref b), (11, .ref r192), (10, .ref r176), (8, .int (iI x82)), (9, .int (iI x78)), (0, .ref a), (1, .ref b), (2, .int (iI off)), (3, .int (iI aim)), (4, .int (iI 0)), (5, .ref ru), (6, .int (iI lo)), (7, .int (iI hi))] → W p l e (rmL (dd + 1 + 3) 0 0) s m ([.ref a, .ref b, .int (iI off), .int (iI aim), .int (iI 0), .ref ru, .int (iI lo), .int (iI hi)] : List Value).toArray below meth c H locs 0 0 (MQ below (zQ Γ K s.heap.size (pR (fun (r : Nat) (K' : zK) (X' : zX) (R' : zR) => (K' = K ∧ R' = Rf) ∧ ((r = a ∨ r = b) ∧ (0 < aim → r = a) ∧ (aim < 0 → r = b)) ∧ (∀ c, c ≠ a → c ≠ b → X' c = X c) ∧ (∀ j : Nat, (j : Int) < X ru lo.toNat ∨ X ru hi.toNat ≤ j → X' a j = X a j ∧ X' b j = X b j) ∧ srtS (X ru lo.toNat) (X ru hi.toNat) (X' r) ∧ Prw (X ru lo.toNat) (X ru hi.toNat) (X a) (X' r)))) ([.ref a, .ref b, .int (iI off), .int (iI aim), .int (iI 0), .ref ru, .int (iI lo), .int (iI hi)] : List Value).toArray s 0 0 (zA K s.heap.size)) (F0 m 277 ls [.int (iI m9)]) := by
                      intro m9 H locs hm8 hw ls hl
                      refine lv_istore (pc := 277) (lv' := [(15, .int (iI m9)), (14, .int (iI l9)), (13, .int (iI k9)), (12, .ref b), (11, .ref r192), (10, .ref r176), (8, .int (iI x82)), (9, .int (iI x78)), (0, .ref a), (1, .ref b), (2, .int (iI off)), (3, .int (iI aim)), (4, .int (iI 0)), (5, .ref ru), (6, .int (iI lo)), (7, .int (iI hi))]) hx hb dX10_mergeRuns_277 hl (by decide) rfl (fun ls hl => ?_)
                      have jn300_8 : ∀ (n9 : Int) (H : Heap) (locs : List Loc), (hn9 : n9 = X ru x82.toNat) → Wd Γ (zA K s.heap.size) K X192 Rf s H locs → ∀ ls : Array Slot, lv_has ls 18 [(15, .int (iI m9)), (14, .int (iI l9)), (13, .int (iI k9)), (12, .ref b), (11, .ref r192), (10, .ref r176), (8, .int (iI x82)), (9, .int (iI x78)), (0, .ref a), (1, .ref b), (2, .int (iI off)), (3, .int (iI aim)), (4, .int (iI 0)), (5, .ref ru), (6, .int (iI lo)), (7, .int (iI hi))] → W p l e (rmL (dd + 1 + 3) 0 0) s m ([.ref a, .ref b, .int (iI off), .int (iI aim), .int (iI 0), .ref ru, .int (iI lo), .int (iI hi)] : List Value).toArray below meth c H locs 0 0 (MQ below (zQ Γ K s.heap.size (pR (fun (r : Nat) (K' : zK) (X' : zX) (R' : zR) => (K' = K ∧ R' = Rf) ∧ ((r = a ∨ r = b) ∧ (0 < aim → r = a) ∧ (aim < 0 → r = b)) ∧ (∀ c, c ≠ a → c ≠ b → X' c = X c) ∧ (∀ j : Nat, (j : Int) < X ru lo.toNat ∨ X ru hi.toNat ≤ j → X' a j = X a j ∧ X' b j = X b j) ∧ srtS (X ru lo.toNat) (X ru hi.toNat) (X' r) ∧ Prw (X ru lo.toNat) (X ru hi.toNat) (X a) (X' r)))) ([.ref a, .ref b, .int (iI off), .int (iI aim), .int (iI 0), .ref ru, .int (iI lo), .int (iI hi)] : List Value).toArray s 0 0 (zA K s.heap.size)) (F0 m 300 ls [.int (iI n9)]) := by
                        intro n9 H locs hn9 hw ls hl
                        refine lv_istore (pc := 300) (lv' := [(16, .int (iI n9)), (15, .int (iI m9)), (14, .int (iI l9)), (13, .int (iI k9)), (12, .ref b), (11, .ref r192), (10, .ref r176), (8, .int (iI x82)), (9, .int (iI x78)), (0, .ref a), (1, .ref b), (2, .int (iI off)), (3, .int (iI aim)), (4, .int (iI 0)), (5, .ref ru), (6, .int (iI lo)), (7, .int (iI hi))]) hx hb dX10_mergeRuns_300 hl (by decide) rfl (fun ls hl => ?_)
                        have jn323_9 : ∀ (h9 : Int) (H : Heap) (locs : List Loc), (hh9 : h9 = X ru hi.toNat) → Wd Γ (zA K s.heap.size) K X192 Rf s H locs → ∀ ls : Array Slot, lv_has ls 18 [(16, .int (iI n9)), (15, .int (iI m9)), (14, .int (iI l9)), (13, .int (iI k9)), (12, .ref b), (11, .ref r192), (10, .ref r176), (8, .int (iI x82)), (9, .int (iI x78)), (0, .ref a), (1, .ref b), (2, .int (iI off)), (3, .int (iI aim)), (4, .int (iI 0)), (5, .ref ru), (6, .int (iI lo)), (7, .int (iI hi))] → W p l e (rmL (dd + 1 + 3) 0 0) s m ([.ref a, .ref b, .int (iI off), .int (iI aim), .int (iI 0), .ref ru, .int (iI lo), .int (iI hi)] : List Value).toArray below meth c H locs 0 0 (MQ below (zQ Γ K s.heap.size (pR (fun (r : Nat) (K' : zK) (X' : zX) (R' : zR) => (K' = K ∧ R' = Rf) ∧ ((r = a ∨ r = b) ∧ (0 < aim → r = a) ∧ (aim < 0 → r = b)) ∧ (∀ c, c ≠ a → c ≠ b → X' c = X c) ∧ (∀ j : Nat, (j : Int) < X ru lo.toNat ∨ X ru hi.toNat ≤ j → X' a j = X a j ∧ X' b j = X b j) ∧ srtS (X ru lo.toNat) (X ru hi.toNat) (X' r) ∧ Prw (X ru lo.toNat) (X ru hi.toNat) (X a) (X' r)))) ([.ref a, .ref b, .int (iI off), .int (iI aim), .int (iI 0), .ref ru, .int (iI lo), .int (iI hi)] : List Value).toArray s 0 0 (zA K s.heap.size)) (F0 m 323 ls [.int (iI h9)]) := by
                          intro h9 H locs hh9 hw ls hl
                          refine lv_istore (pc := 323) (lv' := [(17, .int (iI h9)), (16, .int (iI n9)), (15, .int (iI m9)), (14, .int (iI l9)), (13, .int (iI k9)), (12, .ref b), (11, .ref r192), (10, .ref r176), (8, .int (iI x82)), (9, .int (iI x78)), (0, .ref a), (1, .ref b), (2, .int (iI off)), (3, .int (iI aim)), (4, .int (iI 0)), (5, .ref ru), (6, .int (iI lo)), (7, .int (iI hi))]) hx hb dX10_mergeRuns_323 hl (by decide) rfl (fun ls hl => ?_)
                          refine lv_iload (pc := 325) hx hb dX10_mergeRuns_325 (lv_at hl 14 rfl) ?_
                          refine zif_eq (pc := 327) hx hb 361 (by omega) dX10_mergeRuns_327 (by decide) (fun c327 => ?_) (fun c327 => ?_)
                          · skip
                            refine lv_null (pc := 361) hx hb dX10_mergeRuns_361 ?_
                            refine lv_aload (pc := 362) hx hb dX10_mergeRuns_362 (lv_at hl 5 rfl) ?_
                            refine lv_iload (pc := 364) hx hb dX10_mergeRuns_364 (lv_at hl 4 rfl) ?_
                            refine lv_aload (pc := 366) hx hb dX10_mergeRuns_366 (lv_at hl 7 rfl) ?_
                            refine lv_iload (pc := 368) hx hb dX10_mergeRuns_368 (lv_at hl 3 rfl) ?_
                            refine lv_iload (pc := 370) hx hb dX10_mergeRuns_370 (lv_at hl 2 rfl) ?_
                            refine lv_aload (pc := 372) hx hb dX10_mergeRuns_372 (lv_at hl 6 rfl) ?_
                            refine lv_iload (pc := 374) hx hb dX10_mergeRuns_374 (lv_at hl 1 rfl) ?_
                            refine lv_iload (pc := 376) hx hb dX10_mergeRuns_376 (lv_at hl 0 rfl) ?_
                            refine zkVx (pc := 378) (zrS (As := [.null, .ref b, .int (iI k9), .ref r176, .int (iI l9), .int (iI m9), .ref r192, .int (iI n9), .int (iI h9)]) hx hb hml hown hG hw (c_X10_mergeParts l Γ K X192 Rf b k9 r176 l9 m9 r192 n9 h9 nb n176 n192 (by (first | assumption | omega)) (by (first | assumption | omega)) (by (first | assumption | omega)) (by (first | assumption | omega)) (by (first | assumption | omega)) (by first | exact c200 | (rw [c200]; exact hne.1)) (by rw [hl9, hm8]; exact hs176.congr (fun j g1 g2 => e176 j g2)) (by rw [hm8, hh9]; exact hs192) (by intro j g1 g2; rw [hl9] at g1; rw [hm8] at g2; obtain ⟨w, w1, w2, w3⟩ := hp76.1 j g1 g2; rw [w3]; exact hF w w1 (by omega)) (by intro j g1 g2; rw [hm8] at g1; rw [hh9] at g2; obtain ⟨w, w1, w2, w3⟩ := hp92.1 j g1 g2; rw [w3]; exact hF w (by omega) w2) (by intro i j i1 i2 j1 j2 e; rw [hl9] at i1; rw [hm8] at i2 j1; rw [hh9] at j2; obtain ⟨w, w1, w2, w3⟩ := hp76.1 i i1 i2; obtain ⟨u, u1, u2, u3⟩ := hp92.1 j j1 j2; rw [w3, u3] at e; have := hj w u w1 (by omega) (by omega) u2 e; omega)) cb_X10_mergeParts wl_X10_91 rfl ⟨by show 0 + 1 ≤ (dd + 1 + 3); omega, by show 8 + (14 + 11) + 100 * 0 ≤ 100 * (dd + 1 + 3); omega⟩ hl.1 rfl (Nat.le_of_ble_eq_true rfl) dX10_mergeRuns_378 ⟨Nat.zero_le _, Nat.zero_le _⟩) hw (fun X378 H locs hp378 hw => ?_)
                            obtain ⟨hoZ, hgZ, hsZ, hpZ⟩ := hp378
                            rw [hl9, hh9] at hgZ hsZ hpZ
                            rw [hm8] at hpZ
                            refine lv_aload (pc := 381) hx hb dX10_mergeRuns_381 (lv_at hl 5 rfl) ?_
                            exact zretR (pc := 383) hx hb hlocks hr (by first | exact Or.inl ⟨_, rfl⟩ | exact Or.inr ⟨_, rfl⟩) hw (Nat.zero_le _) (Nat.zero_le _) dX10_mergeRuns_383 (by 
                                        have hSp : Prw (X ru lo.toNat) (X ru hi.toNat) (X a) (fun j => if (j : Int) < X ru x82.toNat then X192 r176 j else X192 r192 j) := by
                                          refine Prw.app (mi := X ru x82.toNat) (hp76.congr (fun _ _ _ => rfl) (fun j g1 g2 => ?_)) (hp92.congr (fun _ _ _ => rfl) (fun j g1 g2 => ?_)) ⟨by omega, by omega⟩
                                          · rw [if_pos g2]
                                          · rw [if_neg (by omega)]
                                        have hP := hSp.trans hpZ
                                        have hX9 : ∀ j : Nat, (j : Int) < X ru lo.toNat ∨ X ru hi.toNat ≤ j → X192 a j = X a j ∧ X192 b j = X b j := fun j g => by
                                          have w1 := hg192 j (by omega)
                                          have w2 := hg176 j (by omega)
                                          exact ⟨by rw [w1.1, w2.1], by rw [w1.2, w2.2]⟩
                                        first
                                        | (refine ⟨⟨rfl, rfl⟩, ⟨Or.inl rfl, fun _ => rfl, fun g => absurd (hA176.2.1 (by omega)) c200⟩, fun c g1 g2 => by rw [hoZ c g1, ho192 c g1 g2, ho176 c g1 g2], fun j g => ⟨by rw [hgZ j g]; exact (hX9 j g).1, by rw [hoZ b (Ne.symm hne.1)]; exact (hX9 j g).2⟩, hsZ, hP⟩; done)
                                        | exact ⟨⟨rfl, rfl⟩, ⟨Or.inr rfl, fun g => absurd (c200.symm.trans (hA176.2.2 (by omega))) hne.1, fun _ => rfl⟩, fun c g1 g2 => by rw [hoZ c g2, ho192 c g1 g2, ho176 c g1 g2], fun j g => ⟨by rw [hoZ a hne.1]; exact (hX9 j g).1, by rw [hgZ j g]; exact (hX9 j g).2⟩, hsZ, hP⟩)
                          · skip
                            exfalso; omega
                        refine lv_aload (pc := 302) hx hb dX10_mergeRuns_302 (lv_at hl 5 rfl) ?_
                        refine lv_aload_n (pc := 304) hx hb dX10_mergeRuns_304 rfl (lv_at hl 10 rfl) ?_
                        refine zacmp_ne (pc := 305) hx hb 318 dX10_mergeRuns_305 (by decide) (fun c305 => ?_) (fun c305 => ?_)
                        · skip
                          refine lv_aload (pc := 318) hx hb dX10_mergeRuns_318 (lv_at hl 14 rfl) ?_
                          refine lv_iload (pc := 320) hx hb dX10_mergeRuns_320 (lv_at hl 16 rfl) ?_
                          refine zald (pc := 322) hx hb hw hkr ⟨by omega, by omega⟩ (by omega) dX10_mergeRuns_322 ?_
                          exact jn323_9 (X192 ru hi.toNat) _ _ (by first | (rw [eru2]; done) | (rw [eru2]; omega)) hw _ (lv_sub hl [0, 1, 2, 3, 4, 5, 6, 7, 8, 9, 10, 11, 12, 13, 14, 15, 16] rfl)
                        · skip
                          refine lv_aload (pc := 308) hx hb dX10_mergeRuns_308 (lv_at hl 14 rfl) ?_
                          refine lv_iload (pc := 310) hx hb dX10_mergeRuns_310 (lv_at hl 16 rfl) ?_
                          refine zald (pc := 312) hx hb hw hkr ⟨by omega, by omega⟩ (by omega) dX10_mergeRuns_312 ?_
                          refine lv_iload_n (pc := 313) hx hb dX10_mergeRuns_313 rfl (lv_at hl 11 rfl) ?_
                          refine zsub (pc := 314) hx hb dX10_mergeRuns_314 ?_
                          refine lv_goto (pc := 315) (tgt := 323) hx hb dX10_mergeRuns_315 (by decide) ?_
                          exact jn323_9 ((X192 ru hi.toNat) - off) _ _ (by first | (rw [eru2]; done) | (rw [eru2]; omega)) hw _ (lv_sub hl [0, 1, 2, 3, 4, 5, 6, 7, 8, 9, 10, 11, 12, 13, 14, 15, 16] rfl)
                      refine lv_aload (pc := 279) hx hb dX10_mergeRuns_279 (lv_at hl 4 rfl) ?_
                      refine lv_aload_n (pc := 281) hx hb dX10_mergeRuns_281 rfl (lv_at hl 9 rfl) ?_
                      refine zacmp_ne (pc := 282) hx hb 295 dX10_mergeRuns_282 (by decide) (fun c282 => ?_) (fun c282 => ?_)
                      · skip
                        refine lv_aload (pc := 295) hx hb dX10_mergeRuns_295 (lv_at hl 13 rfl) ?_
                        refine lv_iload (pc := 297) hx hb dX10_mergeRuns_297 (lv_at hl 6 rfl) ?_
                        refine zald (pc := 299) hx hb hw hkr ⟨by omega, by omega⟩ (by omega) dX10_mergeRuns_299 ?_
                        exact jn300_8 (X192 ru x82.toNat) _ _ (by first | (rw [eru2]; done) | (rw [eru2]; omega)) hw _ (lv_sub hl [0, 1, 2, 3, 4, 5, 6, 7, 8, 9, 10, 11, 12, 13, 14, 15] rfl)
                      · skip
                        refine lv_aload (pc := 285) hx hb dX10_mergeRuns_285 (lv_at hl 13 rfl) ?_
                        refine lv_iload (pc := 287) hx hb dX10_mergeRuns_287 (lv_at hl 6 rfl) ?_
                        refine zald (pc := 289) hx hb hw hkr ⟨by omega, by omega⟩ (by omega) dX10_mergeRuns_289 ?_
                        refine lv_iload_n (pc := 290) hx hb dX10_mergeRuns_290 rfl (lv_at hl 10 rfl) ?_
                        refine zsub (pc := 291) hx hb dX10_mergeRuns_291 ?_
                        refine lv_goto (pc := 292) (tgt := 300) hx hb dX10_mergeRuns_292 (by decide) ?_
                        exact jn300_8 ((X192 ru x82.toNat) - off) _ _ (by first | (rw [eru2]; done) | (rw [eru2]; omega)) hw _ (lv_sub hl [0, 1, 2, 3, 4, 5, 6, 7, 8, 9, 10, 11, 12, 13, 14, 15] rfl)
                    refine lv_aload (pc := 256) hx hb dX10_mergeRuns_256 (lv_at hl 4 rfl) ?_
                    refine lv_aload_n (pc := 258) hx hb dX10_mergeRuns_258 rfl (lv_at hl 8 rfl) ?_
                    refine zacmp_ne (pc := 259) hx hb 272 dX10_mergeRuns_259 (by decide) (fun c259 => ?_) (fun c259 => ?_)
                    · skip
                      refine lv_aload (pc := 272) hx hb dX10_mergeRuns_272 (lv_at hl 12 rfl) ?_
                      refine lv_iload (pc := 274) hx hb dX10_mergeRuns_274 (lv_at hl 5 rfl) ?_
                      refine zald (pc := 276) hx hb hw hkr ⟨by omega, by omega⟩ (by omega) dX10_mergeRuns_276 ?_
                      exact jn277_7 (X192 ru x82.toNat) _ _ (by first | (rw [eru2]; done) | (rw [eru2]; omega)) hw _ (lv_sub hl [0, 1, 2, 3, 4, 5, 6, 7, 8, 9, 10, 11, 12, 13, 14] rfl)
                    · skip
                      refine lv_aload (pc := 262) hx hb dX10_mergeRuns_262 (lv_at hl 12 rfl) ?_
                      refine lv_iload (pc := 264) hx hb dX10_mergeRuns_264 (lv_at hl 5 rfl) ?_
                      refine zald (pc := 266) hx hb hw hkr ⟨by omega, by omega⟩ (by omega) dX10_mergeRuns_266 ?_
                      refine lv_iload_n (pc := 267) hx hb dX10_mergeRuns_267 rfl (lv_at hl 9 rfl) ?_
                      refine zsub (pc := 268) hx hb dX10_mergeRuns_268 ?_
                      refine lv_goto (pc := 269) (tgt := 277) hx hb dX10_mergeRuns_269 (by decide) ?_
                      exact jn277_7 ((X192 ru x82.toNat) - off) _ _ (by first | (rw [eru2]; done) | (rw [eru2]; omega)) hw _ (lv_sub hl [0, 1, 2, 3, 4, 5, 6, 7, 8, 9, 10, 11, 12, 13, 14] rfl)
                  refine lv_aload (pc := 233) hx hb dX10_mergeRuns_233 (lv_at hl 3 rfl) ?_
                  refine lv_aload_n (pc := 235) hx hb dX10_mergeRuns_235 rfl (lv_at hl 7 rfl) ?_
                  refine zacmp_ne (pc := 236) hx hb 249 dX10_mergeRuns_236 (by decide) (fun c236 => ?_) (fun c236 => ?_)
                  · skip
                    refine lv_aload (pc := 249) hx hb dX10_mergeRuns_249 (lv_at hl 11 rfl) ?_
                    refine lv_iload (pc := 251) hx hb dX10_mergeRuns_251 (lv_at hl 12 rfl) ?_
                    refine zald (pc := 253) hx hb hw hkr ⟨by omega, by omega⟩ (by omega) dX10_mergeRuns_253 ?_
                    exact jn254_6 (X192 ru lo.toNat) _ _ (by first | (rw [eru2]; done) | (rw [eru2]; omega)) hw _ (lv_sub hl [0, 1, 2, 3, 4, 5, 6, 7, 8, 9, 10, 11, 12, 13] rfl)
                  · skip
                    refine lv_aload (pc := 239) hx hb dX10_mergeRuns_239 (lv_at hl 11 rfl) ?_
                    refine lv_iload (pc := 241) hx hb dX10_mergeRuns_241 (lv_at hl 12 rfl) ?_
                    refine zald (pc := 243) hx hb hw hkr ⟨by omega, by omega⟩ (by omega) dX10_mergeRuns_243 ?_
                    refine lv_iload_n (pc := 244) hx hb dX10_mergeRuns_244 rfl (lv_at hl 8 rfl) ?_
                    refine zsub (pc := 245) hx hb dX10_mergeRuns_245 ?_
                    refine lv_goto (pc := 246) (tgt := 254) hx hb dX10_mergeRuns_246 (by decide) ?_
                    exact jn254_6 ((X192 ru lo.toNat) - off) _ _ (by first | (rw [eru2]; done) | (rw [eru2]; omega)) hw _ (lv_sub hl [0, 1, 2, 3, 4, 5, 6, 7, 8, 9, 10, 11, 12, 13] rfl)
                refine lv_aload (pc := 210) hx hb dX10_mergeRuns_210 (lv_at hl 2 rfl) ?_
                refine lv_aload_n (pc := 212) hx hb dX10_mergeRuns_212 rfl (lv_at hl 5 rfl) ?_
                refine zacmp_ne (pc := 213) hx hb 226 dX10_mergeRuns_213 (by decide) (fun c213 => ?_) (fun c213 => ?_)
                · skip
                  refine lv_aload (pc := 226) hx hb dX10_mergeRuns_226 (lv_at hl 10 rfl) ?_
                  refine lv_iload (pc := 228) hx hb dX10_mergeRuns_228 (lv_at hl 11 rfl) ?_
                  refine zald (pc := 230) hx hb hw hkr ⟨by omega, by omega⟩ (by omega) dX10_mergeRuns_230 ?_
                  exact jn231_5 (X192 ru lo.toNat) _ _ (by first | (rw [eru2]; done) | (rw [eru2]; omega)) hw _ (lv_sub hl [0, 1, 2, 3, 4, 5, 6, 7, 8, 9, 10, 11, 12] rfl)
                · skip
                  refine lv_aload (pc := 216) hx hb dX10_mergeRuns_216 (lv_at hl 10 rfl) ?_
                  refine lv_iload (pc := 218) hx hb dX10_mergeRuns_218 (lv_at hl 11 rfl) ?_
                  refine zald (pc := 220) hx hb hw hkr ⟨by omega, by omega⟩ (by omega) dX10_mergeRuns_220 ?_
                  refine lv_iload_n (pc := 221) hx hb dX10_mergeRuns_221 rfl (lv_at hl 7 rfl) ?_
                  refine zsub (pc := 222) hx hb dX10_mergeRuns_222 ?_
                  refine lv_goto (pc := 223) (tgt := 231) hx hb dX10_mergeRuns_223 (by decide) ?_
                  exact jn231_5 ((X192 ru lo.toNat) - off) _ _ (by first | (rw [eru2]; done) | (rw [eru2]; omega)) hw _ (lv_sub hl [0, 1, 2, 3, 4, 5, 6, 7, 8, 9, 10, 11, 12] rfl)
            · skip
              exfalso; omega
          · skip
            have h9 : x82 + 2 ≤ hi := by
              by_cases g : x82 + 2 ≤ hi
              · exact g
              · exfalso; have h8 := c92; rw [show (x82 + 1).toNat = hi.toNat by omega] at h8; omega
            refine lv_goto (pc := 95) (tgt := 80) hx hb dX10_mergeRuns_95 (by decide) ?_
            exact ih80 x82 _ _ (by (first | assumption | omega)) (by omega) hw _ (lv_sub hl [1, 0, 2, 3, 4, 5, 6, 7, 8, 9] rfl)
      exact lp80 _ lo _ _ (by (first | assumption | omega)) (Nat.lt_succ_self _) hw _ (lv_sub hl [0, 1, 2, 3, 4, 5, 6, 7, 8, 9] rfl)
    · skip
      have hrun : srtS (X ru lo.toNat) (X ru hi.toNat) (X a) := by have h9 := hq lo.toNat (by omega) (by omega); rw [show lo.toNat + 1 = hi.toNat by omega] at h9; exact h9
      refine lv_iload_n (pc := 9) hx hb dX10_mergeRuns_9 rfl (lv_at hl 3 rfl) ?_
      refine zif_lt (pc := 10) hx hb 15 (by omega) dX10_mergeRuns_10 (by decide) (fun c10 => ?_) (fun c10 => ?_)
      · skip
        refine lv_aload (pc := 15) hx hb dX10_mergeRuns_15 (lv_at hl 5 rfl) ?_
        refine lv_iload (pc := 17) hx hb dX10_mergeRuns_17 (lv_at hl 7 rfl) ?_
        refine zald (pc := 19) hx hb hw hkr ⟨by omega, by omega⟩ (by omega) dX10_mergeRuns_19 ?_
        refine ztop (fun x20 ex20 => ?_)
        refine lv_istore (pc := 20) (lv' := [(8, .int (iI x20)), (0, .ref a), (1, .ref b), (2, .int (iI off)), (3, .int (iI aim)), (4, .int (iI 0)), (5, .ref ru), (6, .int (iI lo)), (7, .int (iI hi))]) hx hb dX10_mergeRuns_20 hl (by decide) rfl (fun ls hl => ?_)
        refine lv_iload (pc := 22) hx hb dX10_mergeRuns_22 (lv_at hl 0 rfl) ?_
        refine lv_iload_n (pc := 24) hx hb dX10_mergeRuns_24 rfl (lv_at hl 3 rfl) ?_
        refine zsub (pc := 25) hx hb dX10_mergeRuns_25 ?_
        refine ztop (fun x26 ex26 => ?_)
        refine lv_istore (pc := 26) (lv' := [(9, .int (iI x26)), (8, .int (iI x20)), (0, .ref a), (1, .ref b), (2, .int (iI off)), (3, .int (iI aim)), (4, .int (iI 0)), (5, .ref ru), (6, .int (iI lo)), (7, .int (iI hi))]) hx hb dX10_mergeRuns_26 hl (by decide) rfl (fun ls hl => ?_)
        refine lv_aload (pc := 28) hx hb dX10_mergeRuns_28 (lv_at hl 7 rfl) ?_
        refine lv_iload (pc := 30) hx hb dX10_mergeRuns_30 (lv_at hl 8 rfl) ?_
        refine zald (pc := 32) hx hb hw hkr ⟨by omega, by omega⟩ (by omega) dX10_mergeRuns_32 ?_
        refine ztop (fun x33 ex33 => ?_)
        refine lv_istore (pc := 33) (lv' := [(10, .int (iI x33)), (9, .int (iI x26)), (8, .int (iI x20)), (0, .ref a), (1, .ref b), (2, .int (iI off)), (3, .int (iI aim)), (4, .int (iI 0)), (5, .ref ru), (6, .int (iI lo)), (7, .int (iI hi))]) hx hb dX10_mergeRuns_33 hl (by decide) rfl (fun ls hl => ?_)
        have lp35 : ∀ (n35 : Nat) (j9 : Int) (i9 : Int) (XL35 : zX) (H : Heap) (locs : List Loc), (hi9 : j9 = i9 ∧ X ru lo.toNat ≤ i9 ∧ i9 ≤ X ru hi.toNat) → (ho : ∀ c, c ≠ b → XL35 c = X c) → (hb9 : ∀ j : Nat, i9 ≤ j → (j : Int) < X ru hi.toNat → XL35 b j = X a j) → (hg : ∀ j : Nat, (j : Int) < i9 ∨ X ru hi.toNat ≤ j → XL35 b j = X b j) → (i9.toNat < n35) → Wd Γ (zA K s.heap.size) K XL35 Rf s H locs → ∀ ls : Array Slot, lv_has ls 18 [(10, .int (iI x33)), (9, .int (iI j9)), (8, .int (iI i9)), (0, .ref a), (1, .ref b), (2, .int (iI off)), (3, .int (iI aim)), (4, .int (iI 0)), (5, .ref ru), (6, .int (iI lo)), (7, .int (iI hi))] → W p l e (rmL (dd + 1 + 3) 0 0) s m ([.ref a, .ref b, .int (iI off), .int (iI aim), .int (iI 0), .ref ru, .int (iI lo), .int (iI hi)] : List Value).toArray below meth c H locs 0 0 (MQ below (zQ Γ K s.heap.size (pR (fun (r : Nat) (K' : zK) (X' : zX) (R' : zR) => (K' = K ∧ R' = Rf) ∧ ((r = a ∨ r = b) ∧ (0 < aim → r = a) ∧ (aim < 0 → r = b)) ∧ (∀ c, c ≠ a → c ≠ b → X' c = X c) ∧ (∀ j : Nat, (j : Int) < X ru lo.toNat ∨ X ru hi.toNat ≤ j → X' a j = X a j ∧ X' b j = X b j) ∧ srtS (X ru lo.toNat) (X ru hi.toNat) (X' r) ∧ Prw (X ru lo.toNat) (X ru hi.toNat) (X a) (X' r)))) ([.ref a, .ref b, .int (iI off), .int (iI aim), .int (iI 0), .ref ru, .int (iI lo), .int (iI hi)] : List Value).toArray s 0 0 (zA K s.heap.size)) (F0 m 35 ls []) := by
          intro n35
          induction n35 with
          | zero => intro j9 i9 XL35 H locs hi9 ho hb9 hg hm35; exact absurd hm35 (Nat.not_lt_zero _)
          | succ n35 ih35 =>
            intro j9 i9 XL35 H locs hi9 ho hb9 hg hm35 hw ls hl
            refine lv_iload (pc := 35) hx hb dX10_mergeRuns_35 (lv_at hl 2 rfl) ?_
            refine lv_iload (pc := 37) hx hb dX10_mergeRuns_37 (lv_at hl 0 rfl) ?_
            refine zicmp_le (pc := 39) hx hb 59 (by omega) (by omega) dX10_mergeRuns_39 (by decide) (fun c39 => ?_) (fun c39 => ?_)
            · skip
              refine lv_aload_n (pc := 59) hx hb dX10_mergeRuns_59 rfl (lv_at hl 4 rfl) ?_
              exact zretR (pc := 60) hx hb hlocks hr (by first | exact Or.inl ⟨_, rfl⟩ | exact Or.inr ⟨_, rfl⟩) hw (Nat.zero_le _) (Nat.zero_le _) dX10_mergeRuns_60 (by exact ⟨⟨rfl, rfl⟩, ⟨Or.inr rfl, fun g => by omega, fun _ => rfl⟩, fun c _ g => ho c g, fun j g => ⟨by rw [ho a hne.1], hg j (by omega)⟩, hrun.congr (fun j g1 g2 => hb9 j (by omega) g2), Prw.of (fun j g1 g2 => hb9 j (by omega) g2)⟩)
            · skip
              refine lv_aload_n (pc := 42) hx hb dX10_mergeRuns_42 rfl (lv_at hl 4 rfl) ?_
              refine ziinc (pc := 43) (lv' := [(9, .int (iI (j9 + (-1)))), (10, .int (iI x33)), (8, .int (iI i9)), (0, .ref a), (1, .ref b), (2, .int (iI off)), (3, .int (iI aim)), (4, .int (iI 0)), (5, .ref ru), (6, .int (iI lo)), (7, .int (iI hi))]) hx hb 1 dX10_mergeRuns_43 hl rfl (by decide) rfl (fun ls hl => ?_)
              obtain ⟨x43, ex43⟩ : ∃ zz : Int, zz = (j9 + (-1)) := ⟨_, rfl⟩
              rw [← ex43] at hl
              refine lv_iload (pc := 46) hx hb dX10_mergeRuns_46 (lv_at hl 0 rfl) ?_
              refine lv_aload_n (pc := 48) hx hb dX10_mergeRuns_48 rfl (lv_at hl 3 rfl) ?_
              refine ziinc (pc := 49) (lv' := [(8, .int (iI (i9 + (-1)))), (9, .int (iI x43)), (10, .int (iI x33)), (0, .ref a), (1, .ref b), (2, .int (iI off)), (3, .int (iI aim)), (4, .int (iI 0)), (5, .ref ru), (6, .int (iI lo)), (7, .int (iI hi))]) hx hb 2 dX10_mergeRuns_49 hl rfl (by decide) rfl (fun ls hl => ?_)
              obtain ⟨x49, ex49⟩ : ∃ zz : Int, zz = (i9 + (-1)) := ⟨_, rfl⟩
              rw [← ex49] at hl
              refine lv_iload (pc := 52) hx hb dX10_mergeRuns_52 (lv_at hl 0 rfl) ?_
              refine zald (pc := 54) hx hb hw hka ⟨by omega, by omega⟩ (by omega) dX10_mergeRuns_54 ?_
              refine zast (pc := 55) hx hb hw hkb ⟨by omega, by omega⟩ (by omega) dX10_mergeRuns_55 (fun H locs hw => ?_)
              obtain ⟨X55, eX55⟩ : ∃ Y : zX, Y = up2 XL35 b x43.toNat (XL35 a x49.toNat) := ⟨_, rfl⟩
              rw [← eX55] at hw
              refine lv_goto (pc := 56) (tgt := 35) hx hb dX10_mergeRuns_56 (by decide) ?_
              exact ih35 x43 x49 X55 _ _ (by (first | assumption | omega)) (by intro c hc; rw [eX55, up2_o hc]; exact ho c hc) (by intro j g1 g2; rw [eX55, up2_row]; by_cases g : j = x43.toNat; (rw [g, updF_s, ho a hne.1, show x49.toNat = x43.toNat by omega]); (rw [updF_o g]; exact hb9 j (by omega) g2)) (by intro j g1; rw [eX55, up2_row, updF_o (by omega)]; exact hg j (by omega)) (by omega) hw _ (lv_sub hl [2, 1, 0, 3, 4, 5, 6, 7, 8, 9, 10] rfl)
        exact lp35 _ x26 x20 X _ _ (by (first | assumption | omega)) (by exact fun _ _ => rfl) (by intro j g1 g2; omega) (by exact fun _ _ => rfl) (Nat.lt_succ_self _) hw _ (lv_sub hl [0, 1, 2, 3, 4, 5, 6, 7, 8, 9, 10] rfl)
      · skip
        refine lv_aload_n (pc := 13) hx hb dX10_mergeRuns_13 rfl (lv_at hl 0 rfl) ?_
        exact zretR (pc := 14) hx hb hlocks hr (by first | exact Or.inl ⟨_, rfl⟩ | exact Or.inr ⟨_, rfl⟩) hw (Nat.zero_le _) (Nat.zero_le _) dX10_mergeRuns_14 (by exact ⟨⟨rfl, rfl⟩, ⟨Or.inl rfl, fun _ => rfl, fun g => by omega⟩, fun _ _ _ => rfl, fun _ _ => ⟨rfl, rfl⟩, hrun, Prw.of (fun _ _ _ => rfl)⟩)
