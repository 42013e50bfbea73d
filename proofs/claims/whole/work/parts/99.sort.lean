set_option maxHeartbeats 4000000 in
set_option maxRecDepth 100000 in
theorem c_X10_sort_ (l : Launch) : ∀ (dd : Nat) (Γ : zG) (K : zK) (X : zX) (Rf : zR) (a : Nat) (bits : Int) (lo : Int) (hi : Int) (n : Nat) (MC : Nat) (MS : Nat) (hka : K a = (2, n)) (hn : n ≤ 20000) (h1 : (0 ≤ lo ∧ lo ≤ hi ∧ hi ≤ n ∧ hi - lo ≤ 1200) ∧ (0 ≤ bits ∧ bits ≤ 385 ∧ 385 < bits + 6 * dd) ∧ (bits = 0 → lo = 0 ∧ 2 ≤ MC ∧ 1400 ≤ MS)) (hF : ∀ j : Nat, lo - 1 ≤ j → (j : Int) < hi → fit (X a j)) (hj : injR lo hi (X a)) (hsn : bits % 2 = 1 → 1 ≤ lo ∧ ∀ m : Nat, lo ≤ m → (m : Int) < hi → X a (lo - 1).toNat ≤ X a m), Ct l yX10_sort_ cX10_sort_ 21 none (dd + 17) MC MS Γ [.null, .ref a, .int (iI bits), .int (iI lo), .int (iI hi)] K X Rf (pV (fun (K' : zK) (X' : zX) (R' : zR) => (∀ b, (K b).1 ≠ 0 → K' b = K b ∧ R' b = Rf b ∧ (b ≠ a → X' b = X b)) ∧ Prm lo hi (X a) (X' a) ∧ srtR lo hi (X' a))) := by
  intro dd
  induction dd with
  | zero => intro Γ K X Rf a bits lo hi n MC MS hka hn h1 hF hj hsn; exfalso; omega
  | succ dd ih =>
    intro Γ K X Rf a bits lo hi n MC MS hka hn h1 hF hj hsn
    refine Ct.ofF (by decide +kernel) (Nat.le_of_ble_eq_true rfl) ?_
    intro p e s m below meth c ls hx hb hr hml hown hG hlocks hname hw hl
    have hl : lv_has ls 21 [(0, .null), (1, .ref a), (2, .int (iI bits)), (3, .int (iI lo)), (4, .int (iI hi))] := hl
    have lp0 : ∀ (n0 : Nat) (bt : Int) (hh : Int) (cz : Nat) (sz : Nat) (KL0 : zK) (XL0 : zX) (RL0 : zR) (H : Heap) (locs : List Loc), (hb9 : (bits ≤ bt ∧ bt ≤ 385 ∧ bt % 2 = bits % 2) ∧ (bt = 0 → bits = 0 ∧ hh = hi) ∧ lo ≤ hh ∧ hh ≤ hi) → (hkL : KL0 a = (2, n)) → (hfr : ∀ b, (K b).1 ≠ 0 → KL0 b = K b ∧ RL0 b = Rf b ∧ (b ≠ a → XL0 b = X b)) → (hP : Prm lo hi (X a) (XL0 a)) → (ht9 : srtR hh hi (XL0 a)) → (hc9 : ∀ i j : Nat, lo ≤ i → (i : Int) < hh → hh ≤ j → (j : Int) < hi → XL0 a i ≤ XL0 a j) → (hcs : cz ≤ MC ∧ sz ≤ MS ∧ (bt = 0 → cz = 0 ∧ sz = 0)) → ((hh - lo).toNat < n0) → Wd Γ (zA K s.heap.size) KL0 XL0 RL0 s H locs → ∀ ls : Array Slot, lv_has ls 21 [(0, .null), (1, .ref a), (2, .int (iI bt)), (3, .int (iI lo)), (4, .int (iI hh))] → W p l e (rmL (dd + 1 + 17) MC MS) s m ([.null, .ref a, .int (iI bits), .int (iI lo), .int (iI hi)] : List Value).toArray below meth c H locs cz sz (MQ below (zQ Γ K s.heap.size (pV (fun (K' : zK) (X' : zX) (R' : zR) => (∀ b, (K b).1 ≠ 0 → K' b = K b ∧ R' b = Rf b ∧ (b ≠ a → X' b = X b)) ∧ Prm lo hi (X a) (X' a) ∧ srtR lo hi (X' a)))) ([.null, .ref a, .int (iI bits), .int (iI lo), .int (iI hi)] : List Value).toArray s MC MS (zA K s.heap.size)) (F0 m 0 ls []) := by
      intro n0
      induction n0 with
      | zero => intro bt hh cz sz KL0 XL0 RL0 H locs hb9 hkL hfr hP ht9 hc9 hcs hm0; exact absurd hm0 (Nat.not_lt_zero _)
      | succ n0 ih0 =>
        intro bt hh cz sz KL0 XL0 RL0 H locs hb9 hkL hfr hP ht9 hc9 hcs hm0 hw ls hl
        have hjL : injR lo hi (XL0 a) := hP.2.2.2
        have hfv : ∀ j : Nat, lo - 1 ≤ j → (j : Int) < hi → fit (XL0 a j) := fun j g1 g2 => by
          by_cases g : lo ≤ j
          · exact hP.low (P := fit) (fun j g1 g2 => hF j (by omega) g2) j g g2
          · rw [hP.1 j (Or.inl (by omega))]; exact hF j g1 g2
        have hsnL : bits % 2 = 1 → 1 ≤ lo ∧ ∀ m : Nat, lo ≤ m → (m : Int) < hi → XL0 a (lo - 1).toNat ≤ XL0 a m := fun g => by
          obtain ⟨w1, w2⟩ := hsn g
          refine ⟨w1, fun m m1 m2 => ?_⟩
          rw [hP.1 (lo - 1).toNat (Or.inl (by omega))]
          exact hP.low (P := fun z => X a (lo - 1).toNat ≤ z) w2 m m1 m2
        refine lv_iload (pc := 0) hx hb dX10_sort__0 (lv_at hl 4 rfl) ?_
        refine ziconst (pc := 2) (n := 1) hx hb dX10_sort__2 ?_
        refine zsub (pc := 3) hx hb dX10_sort__3 ?_
        refine ztop (fun x4 ex4 => ?_)
        refine lv_istore (pc := 4) (lv' := [(5, .int (iI x4)), (0, .null), (1, .ref a), (2, .int (iI bt)), (3, .int (iI lo)), (4, .int (iI hh))]) hx hb dX10_sort__4 hl (by decide) rfl (fun ls hl => ?_)
        refine lv_iload (pc := 6) hx hb dX10_sort__6 (lv_at hl 5 rfl) ?_
        refine lv_iload_n (pc := 8) hx hb dX10_sort__8 rfl (lv_at hl 4 rfl) ?_
        refine zsub (pc := 9) hx hb dX10_sort__9 ?_
        refine ztop (fun x10 ex10 => ?_)
        refine lv_istore (pc := 10) (lv' := [(6, .int (iI x10)), (5, .int (iI x4)), (0, .null), (1, .ref a), (2, .int (iI bt)), (3, .int (iI lo)), (4, .int (iI hh))]) hx hb dX10_sort__10 hl (by decide) rfl (fun ls hl => ?_)
        have jn46_0 : ∀  (H : Heap) (locs : List Loc),  Wd Γ (zA K s.heap.size) KL0 XL0 RL0 s H locs → ∀ ls : Array Slot, lv_has ls 21 [(6, .int (iI x10)), (5, .int (iI x4)), (0, .null), (1, .ref a), (2, .int (iI bt)), (3, .int (iI lo)), (4, .int (iI hh))] → W p l e (rmL (dd + 1 + 17) MC MS) s m ([.null, .ref a, .int (iI bits), .int (iI lo), .int (iI hi)] : List Value).toArray below meth c H locs cz sz (MQ below (zQ Γ K s.heap.size (pV (fun (K' : zK) (X' : zX) (R' : zR) => (∀ b, (K b).1 ≠ 0 → K' b = K b ∧ R' b = Rf b ∧ (b ≠ a → X' b = X b)) ∧ Prm lo hi (X a) (X' a) ∧ srtR lo hi (X' a)))) ([.null, .ref a, .int (iI bits), .int (iI lo), .int (iI hi)] : List Value).toArray s MC MS (zA K s.heap.size)) (F0 m 46 ls []) := by
          intro H locs hw ls hl
          refine lv_iload (pc := 46) hx hb dX10_sort__46 (lv_at hl 0 rfl) ?_
          refine zbipush (pc := 48) (n := 44) hx hb dX10_sort__48 rfl ?_
          refine zicmp_ge (pc := 50) hx hb 61 (by omega) (by omega) dX10_sort__50 (by decide) (fun c50 => ?_) (fun c50 => ?_)
          · skip
            have jn91_1 : ∀  (cw sw : Nat) (Kjn91_1 : zK) (Xjn91_1 : zX) (Rjn91_1 : zR) (H : Heap) (locs : List Loc), (hkL : Kjn91_1 a = (2, n)) → (hfr : ∀ b, (K b).1 ≠ 0 → Kjn91_1 b = K b ∧ Rjn91_1 b = Rf b ∧ (b ≠ a → Xjn91_1 b = X b)) → (hP : Prm lo hi (X a) (Xjn91_1 a)) → (ht9 : srtR hh hi (Xjn91_1 a)) → (hc9 : ∀ i j : Nat, lo ≤ i → (i : Int) < hh → hh ≤ j → (j : Int) < hi → Xjn91_1 a i ≤ Xjn91_1 a j) → (hcw : cw ≤ MC ∧ sw ≤ MS) → Wd Γ (zA K s.heap.size) Kjn91_1 Xjn91_1 Rjn91_1 s H locs → ∀ ls : Array Slot, lv_has ls 21 [(6, .int (iI x10)), (5, .int (iI x4)), (0, .null), (1, .ref a), (2, .int (iI bt)), (3, .int (iI lo)), (4, .int (iI hh))] → W p l e (rmL (dd + 1 + 17) MC MS) s m ([.null, .ref a, .int (iI bits), .int (iI lo), .int (iI hi)] : List Value).toArray below meth c H locs cw sw (MQ below (zQ Γ K s.heap.size (pV (fun (K' : zK) (X' : zX) (R' : zR) => (∀ b, (K b).1 ≠ 0 → K' b = K b ∧ R' b = Rf b ∧ (b ≠ a → X' b = X b)) ∧ Prm lo hi (X a) (X' a) ∧ srtR lo hi (X' a)))) ([.null, .ref a, .int (iI bits), .int (iI lo), .int (iI hi)] : List Value).toArray s MC MS (zA K s.heap.size)) (F0 m 91 ls []) := by
              intro  cw sw Kjn91_1 Xjn91_1 Rjn91_1 H locs hkL hfr hP ht9 hc9 hcw hw ls hl
              have hjL : injR lo hi (Xjn91_1 a) := hP.2.2.2
              have hfv : ∀ j : Nat, lo - 1 ≤ j → (j : Int) < hi → fit (Xjn91_1 a j) := fun j g1 g2 => by
                by_cases g : lo ≤ j
                · exact hP.low (P := fit) (fun j g1 g2 => hF j (by omega) g2) j g g2
                · rw [hP.1 j (Or.inl (by omega))]; exact hF j g1 g2
              have hsnL : bits % 2 = 1 → 1 ≤ lo ∧ ∀ m : Nat, lo ≤ m → (m : Int) < hi → Xjn91_1 a (lo - 1).toNat ≤ Xjn91_1 a m := fun g => by
                obtain ⟨w1, w2⟩ := hsn g
                refine ⟨w1, fun m m1 m2 => ?_⟩
                rw [hP.1 (lo - 1).toNat (Or.inl (by omega))]
                exact hP.low (P := fun z => X a (lo - 1).toNat ≤ z) w2 m m1 m2
              refine ziinc (pc := 91) (lv' := [(2, .int (iI (bt + 6))), (6, .int (iI x10)), (5, .int (iI x4)), (0, .null), (1, .ref a), (3, .int (iI lo)), (4, .int (iI hh))]) hx hb 4 dX10_sort__91 hl rfl (by decide) rfl (fun ls hl => ?_)
              obtain ⟨x91, ex91⟩ : ∃ zz : Int, zz = (bt + 6) := ⟨_, rfl⟩
              rw [← ex91] at hl
              refine lv_iload_n (pc := 94) hx hb dX10_sort__94 rfl (lv_at hl 0 rfl) ?_
              refine zsipush (pc := 95) (n := 384) hx hb dX10_sort__95 rfl ?_
              refine zicmp_le (pc := 98) hx hb 109 (by omega) (by omega) dX10_sort__98 (by decide) (fun c98 => ?_) (fun c98 => ?_)
              · skip
                refine lv_iload (pc := 109) hx hb dX10_sort__109 (lv_at hl 1 rfl) ?_
                refine ziconst (pc := 111) (n := 3) hx hb dX10_sort__111 ?_
                refine zshr (pc := 112) hx hb (by omega) dX10_sort__112 ?_
                rw [show (2 : Int) ^ (3 : Int).toNat = 8 by decide]
                refine ziconst (pc := 113) (n := 3) hx hb dX10_sort__113 ?_
                refine zmul (pc := 114) hx hb dX10_sort__114 ?_
                refine ziconst (pc := 115) (n := 3) hx hb dX10_sort__115 ?_
                refine zadd (pc := 116) hx hb dX10_sort__116 ?_
                refine ztop (fun x117 ex117 => ?_)
                refine lv_istore (pc := 117) (lv' := [(7, .int (iI x117)), (2, .int (iI x91)), (6, .int (iI x10)), (5, .int (iI x4)), (0, .null), (1, .ref a), (3, .int (iI lo)), (4, .int (iI hh))]) hx hb dX10_sort__117 hl (by decide) rfl (fun ls hl => ?_)
                refine lv_iload_n (pc := 119) hx hb dX10_sort__119 rfl (lv_at hl 6 rfl) ?_
                refine lv_iload (pc := 120) hx hb dX10_sort__120 (lv_at hl 0 rfl) ?_
                refine zadd (pc := 122) hx hb dX10_sort__122 ?_
                refine ztop (fun x123 ex123 => ?_)
                refine lv_istore (pc := 123) (lv' := [(8, .int (iI x123)), (7, .int (iI x117)), (2, .int (iI x91)), (6, .int (iI x10)), (5, .int (iI x4)), (0, .null), (1, .ref a), (3, .int (iI lo)), (4, .int (iI hh))]) hx hb dX10_sort__123 hl (by decide) rfl (fun ls hl => ?_)
                refine lv_iload (pc := 125) hx hb dX10_sort__125 (lv_at hl 4 rfl) ?_
                refine lv_iload (pc := 127) hx hb dX10_sort__127 (lv_at hl 1 rfl) ?_
                refine zsub (pc := 129) hx hb dX10_sort__129 ?_
                refine ztop (fun x130 ex130 => ?_)
                refine lv_istore (pc := 130) (lv' := [(9, .int (iI x130)), (8, .int (iI x123)), (7, .int (iI x117)), (2, .int (iI x91)), (6, .int (iI x10)), (5, .int (iI x4)), (0, .null), (1, .ref a), (3, .int (iI lo)), (4, .int (iI hh))]) hx hb dX10_sort__130 hl (by decide) rfl (fun ls hl => ?_)
                refine lv_iload (pc := 132) hx hb dX10_sort__132 (lv_at hl 1 rfl) ?_
                refine lv_iload (pc := 134) hx hb dX10_sort__134 (lv_at hl 0 rfl) ?_
                refine zadd (pc := 136) hx hb dX10_sort__136 ?_
                refine ziconst (pc := 137) (n := 1) hx hb dX10_sort__137 ?_
                refine zushr (pc := 138) hx hb (by omega) dX10_sort__138 ?_
                rw [show (2 : Int) ^ (1 : Int).toNat = 2 by decide]
                refine ztop (fun x139 ex139 => ?_)
                refine lv_istore (pc := 139) (lv' := [(10, .int (iI x139)), (9, .int (iI x130)), (8, .int (iI x123)), (7, .int (iI x117)), (2, .int (iI x91)), (6, .int (iI x10)), (5, .int (iI x4)), (0, .null), (1, .ref a), (3, .int (iI lo)), (4, .int (iI hh))]) hx hb dX10_sort__139 hl (by decide) rfl (fun ls hl => ?_)
                refine lv_iload (pc := 141) hx hb dX10_sort__141 (lv_at hl 2 rfl) ?_
                refine lv_iload (pc := 143) hx hb dX10_sort__143 (lv_at hl 0 rfl) ?_
                refine zadd (pc := 145) hx hb dX10_sort__145 ?_
                refine ziconst (pc := 146) (n := 1) hx hb dX10_sort__146 ?_
                refine zushr (pc := 147) hx hb (by omega) dX10_sort__147 ?_
                rw [show (2 : Int) ^ (1 : Int).toNat = 2 by decide]
                refine ztop (fun x148 ex148 => ?_)
                refine lv_istore (pc := 148) (lv' := [(11, .int (iI x148)), (10, .int (iI x139)), (9, .int (iI x130)), (8, .int (iI x123)), (7, .int (iI x117)), (2, .int (iI x91)), (6, .int (iI x10)), (5, .int (iI x4)), (0, .null), (1, .ref a), (3, .int (iI lo)), (4, .int (iI hh))]) hx hb dX10_sort__148 hl (by decide) rfl (fun ls hl => ?_)
                refine lv_iload (pc := 150) hx hb dX10_sort__150 (lv_at hl 1 rfl) ?_
                refine lv_iload (pc := 152) hx hb dX10_sort__152 (lv_at hl 2 rfl) ?_
                refine zadd (pc := 154) hx hb dX10_sort__154 ?_
                refine ziconst (pc := 155) (n := 1) hx hb dX10_sort__155 ?_
                refine zushr (pc := 156) hx hb (by omega) dX10_sort__156 ?_
                rw [show (2 : Int) ^ (1 : Int).toNat = 2 by decide]
                refine ztop (fun x157 ex157 => ?_)
                refine lv_istore (pc := 157) (lv' := [(12, .int (iI x157)), (11, .int (iI x148)), (10, .int (iI x139)), (9, .int (iI x130)), (8, .int (iI x123)), (7, .int (iI x117)), (2, .int (iI x91)), (6, .int (iI x10)), (5, .int (iI x4)), (0, .null), (1, .ref a), (3, .int (iI lo)), (4, .int (iI hh))]) hx hb dX10_sort__157 hl (by decide) rfl (fun ls hl => ?_)
                have hord : (lo < x123 ∧ x123 < x148 ∧ x148 < x139) ∧ x139 < x157 ∧ x157 < x130 ∧ x130 < x4 := by omega
                have hx4 : x4 + 1 = hh := by omega
                clear ex117 ex123 ex130 ex139 ex148 ex157
                refine lv_aload_n (pc := 159) hx hb dX10_sort__159 rfl (lv_at hl 10 rfl) ?_
                refine lv_iload (pc := 160) hx hb dX10_sort__160 (lv_at hl 2 rfl) ?_
                refine zald (pc := 162) hx hb hw hkL ⟨by omega, by omega⟩ (by omega) dX10_sort__162 ?_
                obtain ⟨XB, hXB⟩ : ∃ XB : zX, XB = Xjn91_1 := ⟨_, rfl⟩
                have hoN : ∀ b, b ≠ a → Xjn91_1 b = XB b := fun b _ => by rw [hXB]
                have hsN : Swp lo hh (XB a) (Xjn91_1 a) := by rw [hXB]; exact .refl
                have hfN : ∀ j : Nat, lo ≤ j → (j : Int) < hh → fit (Xjn91_1 a j) := fun j g1 g2 => hfv j (by omega) (by omega)
                have hfB : ∀ j : Nat, lo ≤ j → (j : Int) ≤ x4 → fit (XB a j) := fun j g1 g2 => by rw [hXB]; exact hfv j (by omega) (by omega)
                have hjB : injR lo hh (XB a) := by rw [hXB]; exact hjL.sub (by omega) (by omega)
                refine ztop (fun x163 ex163 => ?_)
                refine lv_istore (pc := 163) (lv' := [(13, .int (iI x163)), (12, .int (iI x157)), (11, .int (iI x148)), (10, .int (iI x139)), (9, .int (iI x130)), (8, .int (iI x123)), (7, .int (iI x117)), (2, .int (iI x91)), (6, .int (iI x10)), (5, .int (iI x4)), (0, .null), (1, .ref a), (3, .int (iI lo)), (4, .int (iI hh))]) hx hb dX10_sort__163 hl (by decide) rfl (fun ls hl => ?_)
                have jn196_2 : ∀  (Xjn196_2 : zX) (H : Heap) (locs : List Loc), (hoN : ∀ b, b ≠ a → Xjn196_2 b = XB b) → (hsN : Swp lo hh (XB a) (Xjn196_2 a)) → (h3N : Xjn196_2 a x139.toNat = x163) → Wd Γ (zA K s.heap.size) Kjn91_1 Xjn196_2 Rjn91_1 s H locs → ∀ ls : Array Slot, lv_has ls 21 [(13, .int (iI x163)), (12, .int (iI x157)), (11, .int (iI x148)), (10, .int (iI x139)), (9, .int (iI x130)), (8, .int (iI x123)), (7, .int (iI x117)), (2, .int (iI x91)), (6, .int (iI x10)), (5, .int (iI x4)), (0, .null), (1, .ref a), (3, .int (iI lo)), (4, .int (iI hh))] → W p l e (rmL (dd + 1 + 17) MC MS) s m ([.null, .ref a, .int (iI bits), .int (iI lo), .int (iI hi)] : List Value).toArray below meth c H locs cw sw (MQ below (zQ Γ K s.heap.size (pV (fun (K' : zK) (X' : zX) (R' : zR) => (∀ b, (K b).1 ≠ 0 → K' b = K b ∧ R' b = Rf b ∧ (b ≠ a → X' b = X b)) ∧ Prm lo hi (X a) (X' a) ∧ srtR lo hi (X' a)))) ([.null, .ref a, .int (iI bits), .int (iI lo), .int (iI hi)] : List Value).toArray s MC MS (zA K s.heap.size)) (F0 m 196 ls []) := by
                  intro Xjn196_2 H locs hoN hsN h3N hw ls hl
                  have hfN : ∀ j : Nat, lo ≤ j → (j : Int) < hh → fit (Xjn196_2 a j) := fun j g1 g2 => by
                    obtain ⟨m, m1, m2, m3⟩ := hsN.vals j g1 g2
                    rw [m3, hXB]; exact hfv m (by omega) (by omega)
                  have jn227_3 : ∀  (Xjn227_3 : zX) (H : Heap) (locs : List Loc), (hoN : ∀ b, b ≠ a → Xjn227_3 b = XB b) → (hsN : Swp lo hh (XB a) (Xjn227_3 a)) → (h3N : Xjn227_3 a x139.toNat = x163) → Wd Γ (zA K s.heap.size) Kjn91_1 Xjn227_3 Rjn91_1 s H locs → ∀ ls : Array Slot, lv_has ls 21 [(13, .int (iI x163)), (12, .int (iI x157)), (11, .int (iI x148)), (10, .int (iI x139)), (9, .int (iI x130)), (8, .int (iI x123)), (7, .int (iI x117)), (2, .int (iI x91)), (6, .int (iI x10)), (5, .int (iI x4)), (0, .null), (1, .ref a), (3, .int (iI lo)), (4, .int (iI hh))] → W p l e (rmL (dd + 1 + 17) MC MS) s m ([.null, .ref a, .int (iI bits), .int (iI lo), .int (iI hi)] : List Value).toArray below meth c H locs cw sw (MQ below (zQ Γ K s.heap.size (pV (fun (K' : zK) (X' : zX) (R' : zR) => (∀ b, (K b).1 ≠ 0 → K' b = K b ∧ R' b = Rf b ∧ (b ≠ a → X' b = X b)) ∧ Prm lo hi (X a) (X' a) ∧ srtR lo hi (X' a)))) ([.null, .ref a, .int (iI bits), .int (iI lo), .int (iI hi)] : List Value).toArray s MC MS (zA K s.heap.size)) (F0 m 227 ls []) := by
                    intro Xjn227_3 H locs hoN hsN h3N hw ls hl
                    have hfN : ∀ j : Nat, lo ≤ j → (j : Int) < hh → fit (Xjn227_3 a j) := fun j g1 g2 => by
                      obtain ⟨m, m1, m2, m3⟩ := hsN.vals j g1 g2
                      rw [m3, hXB]; exact hfv m (by omega) (by omega)
                    have jn258_4 : ∀  (Xjn258_4 : zX) (H : Heap) (locs : List Loc), (hoN : ∀ b, b ≠ a → Xjn258_4 b = XB b) → (hsN : Swp lo hh (XB a) (Xjn258_4 a)) → (h3N : Xjn258_4 a x139.toNat = x163) → Wd Γ (zA K s.heap.size) Kjn91_1 Xjn258_4 Rjn91_1 s H locs → ∀ ls : Array Slot, lv_has ls 21 [(13, .int (iI x163)), (12, .int (iI x157)), (11, .int (iI x148)), (10, .int (iI x139)), (9, .int (iI x130)), (8, .int (iI x123)), (7, .int (iI x117)), (2, .int (iI x91)), (6, .int (iI x10)), (5, .int (iI x4)), (0, .null), (1, .ref a), (3, .int (iI lo)), (4, .int (iI hh))] → W p l e (rmL (dd + 1 + 17) MC MS) s m ([.null, .ref a, .int (iI bits), .int (iI lo), .int (iI hi)] : List Value).toArray below meth c H locs cw sw (MQ below (zQ Γ K s.heap.size (pV (fun (K' : zK) (X' : zX) (R' : zR) => (∀ b, (K b).1 ≠ 0 → K' b = K b ∧ R' b = Rf b ∧ (b ≠ a → X' b = X b)) ∧ Prm lo hi (X a) (X' a) ∧ srtR lo hi (X' a)))) ([.null, .ref a, .int (iI bits), .int (iI lo), .int (iI hi)] : List Value).toArray s MC MS (zA K s.heap.size)) (F0 m 258 ls []) := by
                      intro Xjn258_4 H locs hoN hsN h3N hw ls hl
                      have hfN : ∀ j : Nat, lo ≤ j → (j : Int) < hh → fit (Xjn258_4 a j) := fun j g1 g2 => by
                        obtain ⟨m, m1, m2, m3⟩ := hsN.vals j g1 g2
                        rw [m3, hXB]; exact hfv m (by omega) (by omega)
                      have jn289_5 : ∀  (Xjn289_5 : zX) (H : Heap) (locs : List Loc), (hoN : ∀ b, b ≠ a → Xjn289_5 b = XB b) → (hsN : Swp lo hh (XB a) (Xjn289_5 a)) → (h3N : Xjn289_5 a x139.toNat = x163) → Wd Γ (zA K s.heap.size) Kjn91_1 Xjn289_5 Rjn91_1 s H locs → ∀ ls : Array Slot, lv_has ls 21 [(13, .int (iI x163)), (12, .int (iI x157)), (11, .int (iI x148)), (10, .int (iI x139)), (9, .int (iI x130)), (8, .int (iI x123)), (7, .int (iI x117)), (2, .int (iI x91)), (6, .int (iI x10)), (5, .int (iI x4)), (0, .null), (1, .ref a), (3, .int (iI lo)), (4, .int (iI hh))] → W p l e (rmL (dd + 1 + 17) MC MS) s m ([.null, .ref a, .int (iI bits), .int (iI lo), .int (iI hi)] : List Value).toArray below meth c H locs cw sw (MQ below (zQ Γ K s.heap.size (pV (fun (K' : zK) (X' : zX) (R' : zR) => (∀ b, (K b).1 ≠ 0 → K' b = K b ∧ R' b = Rf b ∧ (b ≠ a → X' b = X b)) ∧ Prm lo hi (X a) (X' a) ∧ srtR lo hi (X' a)))) ([.null, .ref a, .int (iI bits), .int (iI lo), .int (iI hi)] : List Value).toArray s MC MS (zA K s.heap.size)) (F0 m 289 ls []) := by
                        intro Xjn289_5 H locs hoN hsN h3N hw ls hl
                        have hfN : ∀ j : Nat, lo ≤ j → (j : Int) < hh → fit (Xjn289_5 a j) := fun j g1 g2 => by
                          obtain ⟨m, m1, m2, m3⟩ := hsN.vals j g1 g2
                          rw [m3, hXB]; exact hfv m (by omega) (by omega)
                        have jn320_6 : ∀  (Xjn320_6 : zX) (H : Heap) (locs : List Loc), (hoN : ∀ b, b ≠ a → Xjn320_6 b = XB b) → (hsN : Swp lo hh (XB a) (Xjn320_6 a)) → (h3N : Xjn320_6 a x139.toNat = x163) → Wd Γ (zA K s.heap.size) Kjn91_1 Xjn320_6 Rjn91_1 s H locs → ∀ ls : Array Slot, lv_has ls 21 [(13, .int (iI x163)), (12, .int (iI x157)), (11, .int (iI x148)), (10, .int (iI x139)), (9, .int (iI x130)), (8, .int (iI x123)), (7, .int (iI x117)), (2, .int (iI x91)), (6, .int (iI x10)), (5, .int (iI x4)), (0, .null), (1, .ref a), (3, .int (iI lo)), (4, .int (iI hh))] → W p l e (rmL (dd + 1 + 17) MC MS) s m ([.null, .ref a, .int (iI bits), .int (iI lo), .int (iI hi)] : List Value).toArray below meth c H locs cw sw (MQ below (zQ Γ K s.heap.size (pV (fun (K' : zK) (X' : zX) (R' : zR) => (∀ b, (K b).1 ≠ 0 → K' b = K b ∧ R' b = Rf b ∧ (b ≠ a → X' b = X b)) ∧ Prm lo hi (X a) (X' a) ∧ srtR lo hi (X' a)))) ([.null, .ref a, .int (iI bits), .int (iI lo), .int (iI hi)] : List Value).toArray s MC MS (zA K s.heap.size)) (F0 m 320 ls []) := by
                          intro Xjn320_6 H locs hoN hsN h3N hw ls hl
                          have hfN : ∀ j : Nat, lo ≤ j → (j : Int) < hh → fit (Xjn320_6 a j) := fun j g1 g2 => by
                            obtain ⟨m, m1, m2, m3⟩ := hsN.vals j g1 g2
                            rw [m3, hXB]; exact hfv m (by omega) (by omega)
                          have jn437_7 : ∀  (Xjn437_7 : zX) (H : Heap) (locs : List Loc), (hoN : ∀ b, b ≠ a → Xjn437_7 b = XB b) → (hsN : Swp lo hh (XB a) (Xjn437_7 a)) → Wd Γ (zA K s.heap.size) Kjn91_1 Xjn437_7 Rjn91_1 s H locs → ∀ ls : Array Slot, lv_has ls 21 [(13, .int (iI x163)), (12, .int (iI x157)), (11, .int (iI x148)), (10, .int (iI x139)), (9, .int (iI x130)), (8, .int (iI x123)), (7, .int (iI x117)), (2, .int (iI x91)), (6, .int (iI x10)), (5, .int (iI x4)), (0, .null), (1, .ref a), (3, .int (iI lo)), (4, .int (iI hh))] → W p l e (rmL (dd + 1 + 17) MC MS) s m ([.null, .ref a, .int (iI bits), .int (iI lo), .int (iI hi)] : List Value).toArray below meth c H locs cw sw (MQ below (zQ Γ K s.heap.size (pV (fun (K' : zK) (X' : zX) (R' : zR) => (∀ b, (K b).1 ≠ 0 → K' b = K b ∧ R' b = Rf b ∧ (b ≠ a → X' b = X b)) ∧ Prm lo hi (X a) (X' a) ∧ srtR lo hi (X' a)))) ([.null, .ref a, .int (iI bits), .int (iI lo), .int (iI hi)] : List Value).toArray s MC MS (zA K s.heap.size)) (F0 m 437 ls []) := by
                            intro Xjn437_7 H locs hoN hsN hw ls hl
                            have hfN : ∀ j : Nat, lo ≤ j → (j : Int) < hh → fit (Xjn437_7 a j) := fun j g1 g2 => by
                              obtain ⟨m, m1, m2, m3⟩ := hsN.vals j g1 g2
                              rw [m3, hXB]; exact hfv m (by omega) (by omega)
                            refine lv_iload_n (pc := 437) hx hb dX10_sort__437 rfl (lv_at hl 12 rfl) ?_
                            refine lv_istore (pc := 438) (lv' := [(14, .int (iI lo)), (13, .int (iI x163)), (12, .int (iI x157)), (11, .int (iI x148)), (10, .int (iI x139)), (9, .int (iI x130)), (8, .int (iI x123)), (7, .int (iI x117)), (2, .int (iI x91)), (6, .int (iI x10)), (5, .int (iI x4)), (0, .null), (1, .ref a), (3, .int (iI lo)), (4, .int (iI hh))]) hx hb dX10_sort__438 hl (by decide) rfl (fun ls hl => ?_)
                            refine lv_iload (pc := 440) hx hb dX10_sort__440 (lv_at hl 10 rfl) ?_
                            refine lv_istore (pc := 442) (lv' := [(15, .int (iI x4)), (14, .int (iI lo)), (13, .int (iI x163)), (12, .int (iI x157)), (11, .int (iI x148)), (10, .int (iI x139)), (9, .int (iI x130)), (8, .int (iI x123)), (7, .int (iI x117)), (2, .int (iI x91)), (6, .int (iI x10)), (5, .int (iI x4)), (0, .null), (1, .ref a), (3, .int (iI lo)), (4, .int (iI hh))]) hx hb dX10_sort__442 hl (by decide) rfl (fun ls hl => ?_)
                            have jn776_8 : ∀  (H : Heap) (locs : List Loc),  Wd Γ (zA K s.heap.size) Kjn91_1 Xjn437_7 Rjn91_1 s H locs → ∀ ls : Array Slot, lv_has ls 21 [(15, .int (iI x4)), (14, .int (iI lo)), (13, .int (iI x163)), (12, .int (iI x157)), (11, .int (iI x148)), (10, .int (iI x139)), (9, .int (iI x130)), (8, .int (iI x123)), (7, .int (iI x117)), (2, .int (iI x91)), (6, .int (iI x10)), (5, .int (iI x4)), (0, .null), (1, .ref a), (3, .int (iI lo)), (4, .int (iI hh))] → W p l e (rmL (dd + 1 + 17) MC MS) s m ([.null, .ref a, .int (iI bits), .int (iI lo), .int (iI hi)] : List Value).toArray below meth c H locs cw sw (MQ below (zQ Γ K s.heap.size (pV (fun (K' : zK) (X' : zX) (R' : zR) => (∀ b, (K b).1 ≠ 0 → K' b = K b ∧ R' b = Rf b ∧ (b ≠ a → X' b = X b)) ∧ Prm lo hi (X a) (X' a) ∧ srtR lo hi (X' a)))) ([.null, .ref a, .int (iI bits), .int (iI lo), .int (iI hi)] : List Value).toArray s MC MS (zA K s.heap.size)) (F0 m 776 ls []) := by
                              intro H locs hw ls hl
                              refine lv_aload_n (pc := 776) hx hb dX10_sort__776 rfl (lv_at hl 13 rfl) ?_
                              refine lv_iload (pc := 777) hx hb dX10_sort__777 (lv_at hl 5 rfl) ?_
                              refine zald (pc := 779) hx hb hw hkL ⟨by omega, by omega⟩ (by omega) dX10_sort__779 ?_
                              refine ztop (fun x780 ex780 => ?_)
                              refine lv_istore (pc := 780) (lv' := [(16, .int (iI x780)), (15, .int (iI x4)), (14, .int (iI lo)), (13, .int (iI x163)), (12, .int (iI x157)), (11, .int (iI x148)), (10, .int (iI x139)), (9, .int (iI x130)), (8, .int (iI x123)), (7, .int (iI x117)), (2, .int (iI x91)), (6, .int (iI x10)), (5, .int (iI x4)), (0, .null), (1, .ref a), (3, .int (iI lo)), (4, .int (iI hh))]) hx hb dX10_sort__780 hl (by decide) rfl (fun ls hl => ?_)
                              have hfp : fit x780 := by rw [ex780]; exact hfN _ (by omega) (by omega)
                              refine lv_aload_n (pc := 782) hx hb dX10_sort__782 rfl (lv_at hl 14 rfl) ?_
                              refine lv_iload (pc := 783) hx hb dX10_sort__783 (lv_at hl 6 rfl) ?_
                              refine lv_aload_n (pc := 785) hx hb dX10_sort__785 rfl (lv_at hl 14 rfl) ?_
                              refine lv_iload (pc := 786) hx hb dX10_sort__786 (lv_at hl 2 rfl) ?_
                              refine zald (pc := 788) hx hb hw hkL ⟨by omega, by omega⟩ (by omega) dX10_sort__788 ?_
                              refine zast (pc := 789) hx hb hw hkL ⟨by omega, by omega⟩ (by omega) dX10_sort__789 (fun H locs hw => ?_)
                              obtain ⟨X789, eX789⟩ : ∃ Y : zX, Y = up2 Xjn437_7 a x139.toNat (Xjn437_7 a lo.toNat) := ⟨_, rfl⟩
                              rw [← eX789] at hw
                              refine ziinc (pc := 790) (lv' := [(15, .int (iI (x4 + 1))), (16, .int (iI x780)), (14, .int (iI lo)), (13, .int (iI x163)), (12, .int (iI x157)), (11, .int (iI x148)), (10, .int (iI x139)), (9, .int (iI x130)), (8, .int (iI x123)), (7, .int (iI x117)), (2, .int (iI x91)), (6, .int (iI x10)), (5, .int (iI x4)), (0, .null), (1, .ref a), (3, .int (iI lo)), (4, .int (iI hh))]) hx hb 1 dX10_sort__790 hl rfl (by decide) rfl (fun ls hl => ?_)
                              obtain ⟨x790, ex790⟩ : ∃ zz : Int, zz = (x4 + 1) := ⟨_, rfl⟩
                              rw [← ex790] at hl
                              refine lv_iload (pc := 793) hx hb dX10_sort__793 (lv_at hl 0 rfl) ?_
                              refine lv_istore (pc := 795) (lv' := [(17, .int (iI x790)), (15, .int (iI x790)), (16, .int (iI x780)), (14, .int (iI lo)), (13, .int (iI x163)), (12, .int (iI x157)), (11, .int (iI x148)), (10, .int (iI x139)), (9, .int (iI x130)), (8, .int (iI x123)), (7, .int (iI x117)), (2, .int (iI x91)), (6, .int (iI x10)), (5, .int (iI x4)), (0, .null), (1, .ref a), (3, .int (iI lo)), (4, .int (iI hh))]) hx hb dX10_sort__795 hl (by decide) rfl (fun ls hl => ?_)
                              have lp797 : ∀ (n797 : Nat) (kq : Int) (uq : Int) (lq : Int) (XL797 : zX) (H : Heap) (locs : List Loc), (hoD : ∀ b, b ≠ a → XL797 b = XB b) → (hd : SPI lo x4 x780 (XB a) (XL797 a) lq kq uq) → (kq.toNat < n797) → Wd Γ (zA K s.heap.size) Kjn91_1 XL797 Rjn91_1 s H locs → ∀ ls : Array Slot, lv_has ls 21 [(17, .int (iI kq)), (15, .int (iI uq)), (16, .int (iI x780)), (14, .int (iI lq)), (13, .int (iI x163)), (12, .int (iI x157)), (11, .int (iI x148)), (10, .int (iI x139)), (9, .int (iI x130)), (8, .int (iI x123)), (7, .int (iI x117)), (2, .int (iI x91)), (6, .int (iI x10)), (5, .int (iI x4)), (0, .null), (1, .ref a), (3, .int (iI lo)), (4, .int (iI hh))] → W p l e (rmL (dd + 1 + 17) MC MS) s m ([.null, .ref a, .int (iI bits), .int (iI lo), .int (iI hi)] : List Value).toArray below meth c H locs cw sw (MQ below (zQ Γ K s.heap.size (pV (fun (K' : zK) (X' : zX) (R' : zR) => (∀ b, (K b).1 ≠ 0 → K' b = K b ∧ R' b = Rf b ∧ (b ≠ a → X' b = X b)) ∧ Prm lo hi (X a) (X' a) ∧ srtR lo hi (X' a)))) ([.null, .ref a, .int (iI bits), .int (iI lo), .int (iI hi)] : List Value).toArray s MC MS (zA K s.heap.size)) (F0 m 797 ls []) := by
                                intro n797
                                induction n797 with
                                | zero => intro kq uq lq XL797 H locs hoD hd hm797; exact absurd hm797 (Nat.not_lt_zero _)
                                | succ n797 ih797 =>
                                  intro kq uq lq XL797 H locs hoD hd hm797 hw ls hl
                                  have hd0 := hd.1
                                  have hfD := hd.rng hfB
                                  refine ziinc (pc := 797) (lv' := [(17, .int (iI (kq + (-1)))), (15, .int (iI uq)), (16, .int (iI x780)), (14, .int (iI lq)), (13, .int (iI x163)), (12, .int (iI x157)), (11, .int (iI x148)), (10, .int (iI x139)), (9, .int (iI x130)), (8, .int (iI x123)), (7, .int (iI x117)), (2, .int (iI x91)), (6, .int (iI x10)), (5, .int (iI x4)), (0, .null), (1, .ref a), (3, .int (iI lo)), (4, .int (iI hh))]) hx hb 0 dX10_sort__797 hl rfl (by decide) rfl (fun ls hl => ?_)
                                  obtain ⟨x797, ex797⟩ : ∃ zz : Int, zz = (kq + (-1)) := ⟨_, rfl⟩
                                  rw [← ex797] at hl
                                  refine lv_iload (pc := 800) hx hb dX10_sort__800 (lv_at hl 0 rfl) ?_
                                  refine lv_iload (pc := 802) hx hb dX10_sort__802 (lv_at hl 3 rfl) ?_
                                  refine zicmp_le (pc := 804) hx hb 889 (by omega) (by omega) dX10_sort__804 (by decide) (fun c804 => ?_) (fun c804 => ?_)
                                  · skip
                                    refine lv_aload_n (pc := 889) hx hb dX10_sort__889 rfl (lv_at hl 15 rfl) ?_
                                    refine lv_iload_n (pc := 890) hx hb dX10_sort__890 rfl (lv_at hl 16 rfl) ?_
                                    refine lv_aload_n (pc := 891) hx hb dX10_sort__891 rfl (lv_at hl 15 rfl) ?_
                                    refine lv_iload (pc := 892) hx hb dX10_sort__892 (lv_at hl 3 rfl) ?_
                                    refine zald (pc := 894) hx hb hw hkL ⟨by omega, by omega⟩ (by omega) dX10_sort__894 ?_
                                    refine zast (pc := 895) hx hb hw hkL ⟨by omega, by omega⟩ (by omega) dX10_sort__895 (fun H locs hw => ?_)
                                    obtain ⟨X895, eX895⟩ : ∃ Y : zX, Y = up2 XL797 a lo.toNat (XL797 a lq.toNat) := ⟨_, rfl⟩
                                    rw [← eX895] at hw
                                    refine lv_aload_n (pc := 896) hx hb dX10_sort__896 rfl (lv_at hl 15 rfl) ?_
                                    refine lv_iload (pc := 897) hx hb dX10_sort__897 (lv_at hl 3 rfl) ?_
                                    refine lv_iload (pc := 899) hx hb dX10_sort__899 (lv_at hl 2 rfl) ?_
                                    refine zast (pc := 901) hx hb hw hkL ⟨by omega, by omega⟩ (by omega) dX10_sort__901 (fun H locs hw => ?_)
                                    obtain ⟨X901, eX901⟩ : ∃ Y : zX, Y = up2 X895 a lq.toNat x780 := ⟨_, rfl⟩
                                    rw [← eX901] at hw
                                    obtain ⟨hsP, haP, hbP, hcP⟩ := hd.fin (by omega) (G' := X901 a) (by rw [eX901, up2_row, eX895, up2_row])
                                    rw [hx4] at hsP
                                    have hoP : ∀ b, b ≠ a → X901 b = XB b := fun b hb => by rw [eX901, up2_o hb, eX895, up2_o hb]; exact hoD b hb
                                    have hPP : Prm lo hh (XB a) (X901 a) := hsP.prm hjB
                                    have hfP : ∀ j : Nat, lo ≤ j → (j : Int) < hh → fit (X901 a j) := hPP.low (P := fit) (fun j g1 g2 => hfB j g1 (by omega))
                                    refine lv_iload (pc := 902) hx hb dX10_sort__902 (lv_at hl 12 rfl) ?_
                                    refine zsipush (pc := 904) (n := 4096) hx hb dX10_sort__904 rfl ?_
                                    refine zicmp_le (pc := 907) hx hb 928 (by omega) (by omega) dX10_sort__907 (by decide) (fun c907 => ?_) (fun c907 => ?_)
                                    · skip
                                      refine lv_aload_nN (pc := 928) hx hb dX10_sort__928 rfl (lv_at hl 14 rfl) ?_
                                      refine lv_aload_n (pc := 929) hx hb dX10_sort__929 rfl (lv_at hl 15 rfl) ?_
                                      refine lv_iload_n (pc := 930) hx hb dX10_sort__930 rfl (lv_at hl 11 rfl) ?_
                                      refine ziconst (pc := 931) (n := 1) hx hb dX10_sort__931 ?_
                                      refine zor1 (pc := 932) hx hb ⟨by omega, by omega⟩ dX10_sort__932 ?_
                                      refine lv_iload (pc := 933) hx hb dX10_sort__933 (lv_at hl 1 rfl) ?_
                                      refine lv_iload (pc := 935) hx hb dX10_sort__935 (lv_at hl 17 rfl) ?_
                                      have hf937 : ∀ j : Nat, lo ≤ j → (j : Int) < hh → fit (X901 a j) := hfP
                                      have hj937 : injR uq hh (X901 a) := hPP.2.2.2.sub (by omega) (by omega)
                                      refine zkV (pc := 937) (zrS (As := [.null, .ref a, .int (iI (2 * (x91 / 2) + 1)), .int (iI uq), .int (iI hh)]) hx hb hml hown hG hw (ih Γ Kjn91_1 X901 Rjn91_1 a (2 * (x91 / 2) + 1) uq hh n 0 0 (by (first | assumption | omega)) (by (first | assumption | omega)) (by omega) (by intro j g1 g2; exact hf937 j (by omega) (by omega)) (by exact hj937) (by intro _; refine ⟨by omega, fun m m1 m2 => ?_⟩; rw [hbP (uq - 1).toNat (by omega) (by omega)]; exact Int.le_of_lt (hcP m (by omega) (by omega)))) cb_X10_sort_ wl_X10_26 rfl ⟨by show dd + 17 + 1 ≤ (dd + 1 + 17); omega, by show 8 + (21 + 11) + 100 * (dd + 17) ≤ 100 * (dd + 1 + 17); omega⟩ hl.1 rfl (Nat.le_of_ble_eq_true rfl) dX10_sort__937 ⟨(by show cw + 0 ≤ MC; omega), (by show sw + 0 ≤ MS; omega)⟩) hw (fun K937 X937 R937 H locs hp937 hw => ?_)
                                      obtain ⟨hfr937, hP937, hs937⟩ := hp937
                                      have hk937 : K937 a = (2, n) := by rw [(hfr937 a (by first | exact zk1 hkL | exact zk1 hk756)).1]; first | exact hk756 | exact hkL
                                      have hkZ := hk937
                                      have hfZ : ∀ b, (K b).1 ≠ 0 → K937 b = K b ∧ R937 b = Rf b ∧ (b ≠ a → X937 b = X b) := fun b hb => by
                                        have w1 := hfr b hb
                                        have w2 := hfr937 b (by rw [w1.1]; exact hb)
                                        exact ⟨by rw [w2.1, w1.1], by rw [w2.2.1, w1.2.1], fun g => by rw [w2.2.2 g, hoP b g, hXB, w1.2.2 g]⟩
                                      have hPz : Prm lo hh (XB a) (X937 a) := hPP.sub hP937 (by omega) (by omega)
                                      have hPZ : Prm lo hi (X a) (X937 a) := by
                                        rw [hXB] at hPz
                                        exact hP.sub hPz (Int.le_refl _) (by omega)
                                      have hSS := single_fin (lo := lo) (hh := hh) (lq := lq) (uq := uq) (p := x780) (by omega) haP hbP (fun j g1 g2 => hcP j g1 (by omega)) hP937 hs937
                                      have hTZ := join2 (by rw [hXB] at hPz; exact hPz) ⟨by omega, by omega⟩ ht9 hc9 hSS.1 hSS.2
                                      refine lv_iload (pc := 940) hx hb dX10_sort__940 (lv_at hl 3 rfl) ?_
                                      refine lv_istore (pc := 942) (lv' := [(4, .int (iI lq)), (17, .int (iI x797)), (15, .int (iI uq)), (16, .int (iI x780)), (14, .int (iI lq)), (13, .int (iI x163)), (12, .int (iI x157)), (11, .int (iI x148)), (10, .int (iI x139)), (9, .int (iI x130)), (8, .int (iI x123)), (7, .int (iI x117)), (2, .int (iI x91)), (6, .int (iI x10)), (5, .int (iI x4)), (0, .null), (1, .ref a), (3, .int (iI lo))]) hx hb dX10_sort__942 hl (by decide) rfl (fun ls hl => ?_)
                                      refine lv_goto (pc := 944) (tgt := 0) hx hb dX10_sort__944 (by decide) ?_
                                      exact ih0 x91 lq cw sw K937 X937 R937 _ _ (by omega) (by exact hkZ) (by exact hfZ) (by exact hPZ) (by exact hTZ.1) (by exact hTZ.2) (by omega) (by omega) hw _ (lv_sub hl [15, 16, 12, 17, 0] rfl)
                                    · skip
                                      exfalso; omega
                                  · skip
                                    have e6 : x797 = kq - 1 := by omega
                                    have hfk := hfD x797.toNat (by omega) (by omega)
                                    refine lv_aload_n (pc := 807) hx hb dX10_sort__807 rfl (lv_at hl 15 rfl) ?_
                                    refine lv_iload (pc := 808) hx hb dX10_sort__808 (lv_at hl 0 rfl) ?_
                                    refine zald (pc := 810) hx hb hw hkL ⟨by omega, by omega⟩ (by omega) dX10_sort__810 ?_
                                    refine ztop (fun x811 ex811 => ?_)
                                    refine lv_istore (pc := 811) (lv' := [(18, .int (iI x811)), (17, .int (iI x797)), (15, .int (iI uq)), (16, .int (iI x780)), (14, .int (iI lq)), (13, .int (iI x163)), (12, .int (iI x157)), (11, .int (iI x148)), (10, .int (iI x139)), (9, .int (iI x130)), (8, .int (iI x123)), (7, .int (iI x117)), (2, .int (iI x91)), (6, .int (iI x10)), (5, .int (iI x4)), (0, .null), (1, .ref a), (3, .int (iI lo)), (4, .int (iI hh))]) hx hb dX10_sort__811 hl (by decide) rfl (fun ls hl => ?_)
                                    refine lv_iload (pc := 813) hx hb dX10_sort__813 (lv_at hl 0 rfl) ?_
                                    refine lv_iload (pc := 815) hx hb dX10_sort__815 (lv_at hl 3 rfl) ?_
                                    refine zicmp_eq (pc := 817) hx hb 886 (by omega) (by omega) dX10_sort__817 (by decide) (fun c817 => ?_) (fun c817 => ?_)
                                    · skip
                                      refine lv_goto (pc := 886) (tgt := 797) hx hb dX10_sort__886 (by decide) ?_
                                      exact ih797 x797 uq lq XL797 _ _ (by first | exact hoD | (exact fun b hb => by rw [eX873, up2_o hb, eX867, up2_o hb, eX825, up2_o hb]; exact hoD b hb) | (exact fun b hb => by rw [eX873, up2_o hb, eX825, up2_o hb]; exact hoD b hb) | (exact fun b hb => by rw [eX885, up2_o hb, eX825, up2_o hb]; exact hoD b hb)) (by 
                                        rw [e6]
                                        first
                                        | exact hd.same (by omega) (by rw [← e6, ← ex811]; omega)
                                        | (rw [show x858 = uq - 1 by omega]; exact hd.lowG (x := x834) ⟨by omega, by omega⟩ hak hbs (by rw [← hv34 (by omega)]; omega) (by rw [eX873, up2_row, eX867, up2_row, hv34 (by omega), eX825, up2_row, ← e6, show (uq - 1).toNat = x858.toNat by omega, ← ex811]))
                                        | exact hd.lowE (x := x834) ⟨by omega, by omega⟩ hak hbs (fun g => by rw [← hv34 (by omega)]; omega) (by rw [eX873, up2_row, eX825, up2_row, ← e6, ← ex811])
                                        | (rw [show x878 = uq - 1 by omega]; exact hd.high (by omega) (by rw [← e6, ← ex811]; omega) (by rw [eX885, up2_row, eX825, up2_row, ← e6, show (uq - 1).toNat = x878.toNat by omega, ← ex811]))) (by omega) hw _ (lv_sub hl [1, 2, 3, 4, 5, 6, 7, 8, 9, 10, 11, 12, 13, 14, 15, 16, 17, 18] rfl)
                                    · skip
                                      refine lv_aload_n (pc := 820) hx hb dX10_sort__820 rfl (lv_at hl 16 rfl) ?_
                                      refine lv_iload (pc := 821) hx hb dX10_sort__821 (lv_at hl 1 rfl) ?_
                                      refine lv_iload (pc := 823) hx hb dX10_sort__823 (lv_at hl 3 rfl) ?_
                                      refine zast (pc := 825) hx hb hw hkL ⟨by omega, by omega⟩ (by omega) dX10_sort__825 (fun H locs hw => ?_)
                                      obtain ⟨X825, eX825⟩ : ∃ Y : zX, Y = up2 XL797 a x797.toNat x780 := ⟨_, rfl⟩
                                      rw [← eX825] at hw
                                      refine lv_iload (pc := 826) hx hb dX10_sort__826 (lv_at hl 0 rfl) ?_
                                      refine lv_iload (pc := 828) hx hb dX10_sort__828 (lv_at hl 3 rfl) ?_
                                      refine zicmp_ge (pc := 830) hx hb 877 (by omega) (by omega) dX10_sort__830 (by decide) (fun c830 => ?_) (fun c830 => ?_)
                                      · skip
                                        refine lv_aload_n (pc := 877) hx hb dX10_sort__877 rfl (lv_at hl 16 rfl) ?_
                                        refine ziinc (pc := 878) (lv' := [(15, .int (iI (uq + (-1)))), (18, .int (iI x811)), (17, .int (iI x797)), (16, .int (iI x780)), (14, .int (iI lq)), (13, .int (iI x163)), (12, .int (iI x157)), (11, .int (iI x148)), (10, .int (iI x139)), (9, .int (iI x130)), (8, .int (iI x123)), (7, .int (iI x117)), (2, .int (iI x91)), (6, .int (iI x10)), (5, .int (iI x4)), (0, .null), (1, .ref a), (3, .int (iI lo)), (4, .int (iI hh))]) hx hb 2 dX10_sort__878 hl rfl (by decide) rfl (fun ls hl => ?_)
                                        obtain ⟨x878, ex878⟩ : ∃ zz : Int, zz = (uq + (-1)) := ⟨_, rfl⟩
                                        rw [← ex878] at hl
                                        refine lv_iload (pc := 881) hx hb dX10_sort__881 (lv_at hl 0 rfl) ?_
                                        refine lv_iload (pc := 883) hx hb dX10_sort__883 (lv_at hl 1 rfl) ?_
                                        refine zast (pc := 885) hx hb hw hkL ⟨by omega, by omega⟩ (by omega) dX10_sort__885 (fun H locs hw => ?_)
                                        obtain ⟨X885, eX885⟩ : ∃ Y : zX, Y = up2 X825 a x878.toNat x811 := ⟨_, rfl⟩
                                        rw [← eX885] at hw
                                        refine lv_goto (pc := 886) (tgt := 797) hx hb dX10_sort__886 (by decide) ?_
                                        exact ih797 x797 x878 lq X885 _ _ (by first | exact hoD | (exact fun b hb => by rw [eX873, up2_o hb, eX867, up2_o hb, eX825, up2_o hb]; exact hoD b hb) | (exact fun b hb => by rw [eX873, up2_o hb, eX825, up2_o hb]; exact hoD b hb) | (exact fun b hb => by rw [eX885, up2_o hb, eX825, up2_o hb]; exact hoD b hb)) (by 
                                        rw [e6]
                                        first
                                        | exact hd.same (by omega) (by rw [← e6, ← ex811]; omega)
                                        | (rw [show x858 = uq - 1 by omega]; exact hd.lowG (x := x834) ⟨by omega, by omega⟩ hak hbs (by rw [← hv34 (by omega)]; omega) (by rw [eX873, up2_row, eX867, up2_row, hv34 (by omega), eX825, up2_row, ← e6, show (uq - 1).toNat = x858.toNat by omega, ← ex811]))
                                        | exact hd.lowE (x := x834) ⟨by omega, by omega⟩ hak hbs (fun g => by rw [← hv34 (by omega)]; omega) (by rw [eX873, up2_row, eX825, up2_row, ← e6, ← ex811])
                                        | (rw [show x878 = uq - 1 by omega]; exact hd.high (by omega) (by rw [← e6, ← ex811]; omega) (by rw [eX885, up2_row, eX825, up2_row, ← e6, show (uq - 1).toNat = x878.toNat by omega, ← ex811]))) (by omega) hw _ (lv_sub hl [2, 0, 3, 4, 5, 6, 7, 8, 9, 10, 11, 12, 13, 14, 15, 16, 17, 18] rfl)
                                      · skip
                                        have lp833 : ∀ (n833 : Nat) (lr : Int) (H : Heap) (locs : List Loc), (hlr : lq ≤ lr ∧ lr < x797) → (hbr : ∀ j : Nat, lo < j → (j : Int) ≤ lr → XL797 a j < x780) → ((x797 - lr).toNat < n833) → Wd Γ (zA K s.heap.size) Kjn91_1 X825 Rjn91_1 s H locs → ∀ ls : Array Slot, lv_has ls 21 [(18, .int (iI x811)), (17, .int (iI x797)), (15, .int (iI uq)), (16, .int (iI x780)), (14, .int (iI lr)), (13, .int (iI x163)), (12, .int (iI x157)), (11, .int (iI x148)), (10, .int (iI x139)), (9, .int (iI x130)), (8, .int (iI x123)), (7, .int (iI x117)), (2, .int (iI x91)), (6, .int (iI x10)), (5, .int (iI x4)), (0, .null), (1, .ref a), (3, .int (iI lo)), (4, .int (iI hh))] → W p l e (rmL (dd + 1 + 17) MC MS) s m ([.null, .ref a, .int (iI bits), .int (iI lo), .int (iI hi)] : List Value).toArray below meth c H locs cw sw (MQ below (zQ Γ K s.heap.size (pV (fun (K' : zK) (X' : zX) (R' : zR) => (∀ b, (K b).1 ≠ 0 → K' b = K b ∧ R' b = Rf b ∧ (b ≠ a → X' b = X b)) ∧ Prm lo hi (X a) (X' a) ∧ srtR lo hi (X' a)))) ([.null, .ref a, .int (iI bits), .int (iI lo), .int (iI hi)] : List Value).toArray s MC MS (zA K s.heap.size)) (F0 m 833 ls []) := by
                                          intro n833
                                          induction n833 with
                                          | zero => intro lr H locs hlr hbr hm833; exact absurd hm833 (Nat.not_lt_zero _)
                                          | succ n833 ih833 =>
                                            intro lr H locs hlr hbr hm833 hw ls hl
                                            refine lv_aload_n (pc := 833) hx hb dX10_sort__833 rfl (lv_at hl 16 rfl) ?_
                                            refine ziinc (pc := 834) (lv' := [(14, .int (iI (lr + 1))), (18, .int (iI x811)), (17, .int (iI x797)), (15, .int (iI uq)), (16, .int (iI x780)), (13, .int (iI x163)), (12, .int (iI x157)), (11, .int (iI x148)), (10, .int (iI x139)), (9, .int (iI x130)), (8, .int (iI x123)), (7, .int (iI x117)), (2, .int (iI x91)), (6, .int (iI x10)), (5, .int (iI x4)), (0, .null), (1, .ref a), (3, .int (iI lo)), (4, .int (iI hh))]) hx hb 4 dX10_sort__834 hl rfl (by decide) rfl (fun ls hl => ?_)
                                            obtain ⟨x834, ex834⟩ : ∃ zz : Int, zz = (lr + 1) := ⟨_, rfl⟩
                                            rw [← ex834] at hl
                                            refine lv_iload (pc := 837) hx hb dX10_sort__837 (lv_at hl 0 rfl) ?_
                                            refine zald (pc := 839) hx hb hw hkL ⟨by omega, by omega⟩ (by omega) dX10_sort__839 ?_
                                            refine lv_iload (pc := 840) hx hb dX10_sort__840 (lv_at hl 4 rfl) ?_
                                            have hv34 : x834 < x797 → X825 a x834.toNat = XL797 a x834.toNat := fun g => by rw [eX825, up2_row, updF_o (by omega)]
                                            have hv97 : X825 a x797.toNat = x780 := by rw [eX825]; exact up2_s
                                            have hfi : fit (X825 a x834.toNat) := by
                                              by_cases g : x834 = x797
                                              · rw [g, hv97]; exact hfp
                                              · rw [hv34 (by omega)]; exact hfD _ (by omega) (by omega)
                                            refine zicmp_ge (pc := 842) hx hb 848 (by omega) (by omega) dX10_sort__842 (by decide) (fun c842 => ?_) (fun c842 => ?_)
                                            · skip
                                              have hbs : ∀ j : Nat, lo < j → (j : Int) < x834 → XL797 a j < x780 := fun j g1 g2 => hbr j g1 (by omega)
                                              have hak : XL797 a (kq - 1).toNat < x780 := by rw [← e6, ← ex811]; omega
                                              refine lv_aload_n (pc := 848) hx hb dX10_sort__848 rfl (lv_at hl 16 rfl) ?_
                                              refine lv_iload (pc := 849) hx hb dX10_sort__849 (lv_at hl 0 rfl) ?_
                                              refine zald (pc := 851) hx hb hw hkL ⟨by omega, by omega⟩ (by omega) dX10_sort__851 ?_
                                              refine lv_iload (pc := 852) hx hb dX10_sort__852 (lv_at hl 4 rfl) ?_
                                              have hx97 : x834 < x797 ∨ X825 a x834.toNat = x780 := by
                                                by_cases g : x834 = x797
                                                · exact Or.inr (by rw [g]; exact hv97)
                                                · exact Or.inl (by omega)
                                              refine zicmp_le (pc := 854) hx hb 868 (by omega) (by omega) dX10_sort__854 (by decide) (fun c854 => ?_) (fun c854 => ?_)
                                              · skip
                                                refine lv_aload_n (pc := 868) hx hb dX10_sort__868 rfl (lv_at hl 16 rfl) ?_
                                                refine lv_iload (pc := 869) hx hb dX10_sort__869 (lv_at hl 0 rfl) ?_
                                                refine lv_iload (pc := 871) hx hb dX10_sort__871 (lv_at hl 1 rfl) ?_
                                                refine zast (pc := 873) hx hb hw hkL ⟨by omega, by omega⟩ (by omega) dX10_sort__873 (fun H locs hw => ?_)
                                                obtain ⟨X873, eX873⟩ : ∃ Y : zX, Y = up2 X825 a x834.toNat x811 := ⟨_, rfl⟩
                                                rw [← eX873] at hw
                                                refine lv_goto (pc := 874) (tgt := 886) hx hb dX10_sort__874 (by decide) ?_
                                                refine lv_goto (pc := 886) (tgt := 797) hx hb dX10_sort__886 (by decide) ?_
                                                exact ih797 x797 uq x834 X873 _ _ (by first | exact hoD | (exact fun b hb => by rw [eX873, up2_o hb, eX867, up2_o hb, eX825, up2_o hb]; exact hoD b hb) | (exact fun b hb => by rw [eX873, up2_o hb, eX825, up2_o hb]; exact hoD b hb) | (exact fun b hb => by rw [eX885, up2_o hb, eX825, up2_o hb]; exact hoD b hb)) (by 
                                        rw [e6]
                                        first
                                        | exact hd.same (by omega) (by rw [← e6, ← ex811]; omega)
                                        | (rw [show x858 = uq - 1 by omega]; exact hd.lowG (x := x834) ⟨by omega, by omega⟩ hak hbs (by rw [← hv34 (by omega)]; omega) (by rw [eX873, up2_row, eX867, up2_row, hv34 (by omega), eX825, up2_row, ← e6, show (uq - 1).toNat = x858.toNat by omega, ← ex811]))
                                        | exact hd.lowE (x := x834) ⟨by omega, by omega⟩ hak hbs (fun g => by rw [← hv34 (by omega)]; omega) (by rw [eX873, up2_row, eX825, up2_row, ← e6, ← ex811])
                                        | (rw [show x878 = uq - 1 by omega]; exact hd.high (by omega) (by rw [← e6, ← ex811]; omega) (by rw [eX885, up2_row, eX825, up2_row, ← e6, show (uq - 1).toNat = x878.toNat by omega, ← ex811]))) (by omega) hw _ (lv_sub hl [2, 3, 4, 0, 5, 6, 7, 8, 9, 10, 11, 12, 13, 14, 15, 16, 17, 18] rfl)
                                              · skip
                                                have hlt97 : x834 < x797 := by omega
                                                refine lv_aload_n (pc := 857) hx hb dX10_sort__857 rfl (lv_at hl 16 rfl) ?_
                                                refine ziinc (pc := 858) (lv' := [(15, .int (iI (uq + (-1)))), (14, .int (iI x834)), (18, .int (iI x811)), (17, .int (iI x797)), (16, .int (iI x780)), (13, .int (iI x163)), (12, .int (iI x157)), (11, .int (iI x148)), (10, .int (iI x139)), (9, .int (iI x130)), (8, .int (iI x123)), (7, .int (iI x117)), (2, .int (iI x91)), (6, .int (iI x10)), (5, .int (iI x4)), (0, .null), (1, .ref a), (3, .int (iI lo)), (4, .int (iI hh))]) hx hb 3 dX10_sort__858 hl rfl (by decide) rfl (fun ls hl => ?_)
                                                obtain ⟨x858, ex858⟩ : ∃ zz : Int, zz = (uq + (-1)) := ⟨_, rfl⟩
                                                rw [← ex858] at hl
                                                refine lv_iload (pc := 861) hx hb dX10_sort__861 (lv_at hl 0 rfl) ?_
                                                refine lv_aload_n (pc := 863) hx hb dX10_sort__863 rfl (lv_at hl 16 rfl) ?_
                                                refine lv_iload (pc := 864) hx hb dX10_sort__864 (lv_at hl 1 rfl) ?_
                                                refine zald (pc := 866) hx hb hw hkL ⟨by omega, by omega⟩ (by omega) dX10_sort__866 ?_
                                                refine zast (pc := 867) hx hb hw hkL ⟨by omega, by omega⟩ (by omega) dX10_sort__867 (fun H locs hw => ?_)
                                                obtain ⟨X867, eX867⟩ : ∃ Y : zX, Y = up2 X825 a x858.toNat (X825 a x834.toNat) := ⟨_, rfl⟩
                                                rw [← eX867] at hw
                                                refine lv_aload_n (pc := 868) hx hb dX10_sort__868 rfl (lv_at hl 16 rfl) ?_
                                                refine lv_iload (pc := 869) hx hb dX10_sort__869 (lv_at hl 1 rfl) ?_
                                                refine lv_iload (pc := 871) hx hb dX10_sort__871 (lv_at hl 2 rfl) ?_
                                                refine zast (pc := 873) hx hb hw hkL ⟨by omega, by omega⟩ (by omega) dX10_sort__873 (fun H locs hw => ?_)
                                                obtain ⟨X873, eX873⟩ : ∃ Y : zX, Y = up2 X867 a x834.toNat x811 := ⟨_, rfl⟩
                                                rw [← eX873] at hw
                                                refine lv_goto (pc := 874) (tgt := 886) hx hb dX10_sort__874 (by decide) ?_
                                                refine lv_goto (pc := 886) (tgt := 797) hx hb dX10_sort__886 (by decide) ?_
                                                exact ih797 x797 x858 x834 X873 _ _ (by first | exact hoD | (exact fun b hb => by rw [eX873, up2_o hb, eX867, up2_o hb, eX825, up2_o hb]; exact hoD b hb) | (exact fun b hb => by rw [eX873, up2_o hb, eX825, up2_o hb]; exact hoD b hb) | (exact fun b hb => by rw [eX885, up2_o hb, eX825, up2_o hb]; exact hoD b hb)) (by 
                                        rw [e6]
                                        first
                                        | exact hd.same (by omega) (by rw [← e6, ← ex811]; omega)
                                        | (rw [show x858 = uq - 1 by omega]; exact hd.lowG (x := x834) ⟨by omega, by omega⟩ hak hbs (by rw [← hv34 (by omega)]; omega) (by rw [eX873, up2_row, eX867, up2_row, hv34 (by omega), eX825, up2_row, ← e6, show (uq - 1).toNat = x858.toNat by omega, ← ex811]))
                                        | exact hd.lowE (x := x834) ⟨by omega, by omega⟩ hak hbs (fun g => by rw [← hv34 (by omega)]; omega) (by rw [eX873, up2_row, eX825, up2_row, ← e6, ← ex811])
                                        | (rw [show x878 = uq - 1 by omega]; exact hd.high (by omega) (by rw [← e6, ← ex811]; omega) (by rw [eX885, up2_row, eX825, up2_row, ← e6, show (uq - 1).toNat = x878.toNat by omega, ← ex811]))) (by omega) hw _ (lv_sub hl [3, 0, 4, 1, 5, 6, 7, 8, 9, 10, 11, 12, 13, 14, 15, 16, 17, 18] rfl)
                                            · skip
                                              have hne9 : x834 ≠ x797 := fun g => by rw [g] at c842; omega
                                              have hbR : ∀ j : Nat, lo < j → (j : Int) ≤ x834 → XL797 a j < x780 := fun j g1 g2 => by
                                                by_cases g : (j : Int) = x834
                                                · rw [show j = x834.toNat by omega, ← hv34 (by omega)]; exact c842
                                                · exact hbr j g1 (by omega)
                                              refine lv_goto (pc := 845) (tgt := 833) hx hb dX10_sort__845 (by decide) ?_
                                              exact ih833 x834 _ _ (by (first | assumption | omega)) (by exact hbR) (by omega) hw _ (lv_sub hl [1, 2, 3, 4, 0, 5, 6, 7, 8, 9, 10, 11, 12, 13, 14, 15, 16, 17, 18] rfl)
                                        exact lp833 _ lq _ _ (by (first | assumption | omega)) (by exact hd.2.2.1) (Nat.lt_succ_self _) hw _ (lv_sub hl [0, 1, 2, 3, 4, 5, 6, 7, 8, 9, 10, 11, 12, 13, 14, 15, 16, 17, 18] rfl)
                              exact lp797 _ x790 x790 lo X789 _ _ (by exact fun b hb => by rw [eX789, up2_o hb]; exact hoN b hb) (by refine ⟨by omega, ?_, fun j g1 g2 => by omega, fun j g1 g2 => by omega, fun j g1 g2 g3 => by omega⟩; rw [show x4 + 1 = hh by omega, eX789, up2_row, ex780]; exact hsN.step ⟨by omega, by omega⟩ ⟨by omega, by omega⟩) (Nat.lt_succ_self _) hw _ (lv_sub hl [0, 1, 2, 3, 4, 5, 6, 7, 8, 9, 10, 11, 12, 13, 14, 15, 16, 17] rfl)
                            refine lv_aload_n (pc := 444) hx hb dX10_sort__444 rfl (lv_at hl 13 rfl) ?_
                            refine lv_iload (pc := 445) hx hb dX10_sort__445 (lv_at hl 7 rfl) ?_
                            refine zald (pc := 447) hx hb hw hkL ⟨by omega, by omega⟩ (by omega) dX10_sort__447 ?_
                            refine lv_aload_n (pc := 448) hx hb dX10_sort__448 rfl (lv_at hl 13 rfl) ?_
                            refine lv_iload (pc := 449) hx hb dX10_sort__449 (lv_at hl 4 rfl) ?_
                            refine zald (pc := 451) hx hb hw hkL ⟨by omega, by omega⟩ (by omega) dX10_sort__451 ?_
                            have hfi := hfN x123.toNat (by omega) (by omega)
                            have hfj := hfN x148.toNat (by omega) (by omega)
                            refine zicmp_ge (pc := 452) hx hb 776 (by omega) (by omega) dX10_sort__452 (by decide) (fun c452 => ?_) (fun c452 => ?_)
                            · skip
                              exact jn776_8 _ _  hw _ (lv_sub hl [0, 1, 2, 3, 4, 5, 6, 7, 8, 9, 10, 11, 12, 13, 14, 15] rfl)
                            · skip
                              refine lv_aload_n (pc := 455) hx hb dX10_sort__455 rfl (lv_at hl 13 rfl) ?_
                              refine lv_iload (pc := 456) hx hb dX10_sort__456 (lv_at hl 4 rfl) ?_
                              refine zald (pc := 458) hx hb hw hkL ⟨by omega, by omega⟩ (by omega) dX10_sort__458 ?_
                              refine lv_aload_n (pc := 459) hx hb dX10_sort__459 rfl (lv_at hl 13 rfl) ?_
                              refine lv_iload (pc := 460) hx hb dX10_sort__460 (lv_at hl 5 rfl) ?_
                              refine zald (pc := 462) hx hb hw hkL ⟨by omega, by omega⟩ (by omega) dX10_sort__462 ?_
                              have hfi := hfN x148.toNat (by omega) (by omega)
                              have hfj := hfN x139.toNat (by omega) (by omega)
                              refine zicmp_ge (pc := 463) hx hb 776 (by omega) (by omega) dX10_sort__463 (by decide) (fun c463 => ?_) (fun c463 => ?_)
                              · skip
                                exact jn776_8 _ _  hw _ (lv_sub hl [0, 1, 2, 3, 4, 5, 6, 7, 8, 9, 10, 11, 12, 13, 14, 15] rfl)
                              · skip
                                refine lv_aload_n (pc := 466) hx hb dX10_sort__466 rfl (lv_at hl 13 rfl) ?_
                                refine lv_iload (pc := 467) hx hb dX10_sort__467 (lv_at hl 5 rfl) ?_
                                refine zald (pc := 469) hx hb hw hkL ⟨by omega, by omega⟩ (by omega) dX10_sort__469 ?_
                                refine lv_aload_n (pc := 470) hx hb dX10_sort__470 rfl (lv_at hl 13 rfl) ?_
                                refine lv_iload (pc := 471) hx hb dX10_sort__471 (lv_at hl 3 rfl) ?_
                                refine zald (pc := 473) hx hb hw hkL ⟨by omega, by omega⟩ (by omega) dX10_sort__473 ?_
                                have hfi := hfN x139.toNat (by omega) (by omega)
                                have hfj := hfN x157.toNat (by omega) (by omega)
                                refine zicmp_ge (pc := 474) hx hb 776 (by omega) (by omega) dX10_sort__474 (by decide) (fun c474 => ?_) (fun c474 => ?_)
                                · skip
                                  exact jn776_8 _ _  hw _ (lv_sub hl [0, 1, 2, 3, 4, 5, 6, 7, 8, 9, 10, 11, 12, 13, 14, 15] rfl)
                                · skip
                                  refine lv_aload_n (pc := 477) hx hb dX10_sort__477 rfl (lv_at hl 13 rfl) ?_
                                  refine lv_iload (pc := 478) hx hb dX10_sort__478 (lv_at hl 3 rfl) ?_
                                  refine zald (pc := 480) hx hb hw hkL ⟨by omega, by omega⟩ (by omega) dX10_sort__480 ?_
                                  refine lv_aload_n (pc := 481) hx hb dX10_sort__481 rfl (lv_at hl 13 rfl) ?_
                                  refine lv_iload (pc := 482) hx hb dX10_sort__482 (lv_at hl 6 rfl) ?_
                                  refine zald (pc := 484) hx hb hw hkL ⟨by omega, by omega⟩ (by omega) dX10_sort__484 ?_
                                  have hfi := hfN x157.toNat (by omega) (by omega)
                                  have hfj := hfN x130.toNat (by omega) (by omega)
                                  refine zicmp_ge (pc := 485) hx hb 776 (by omega) (by omega) dX10_sort__485 (by decide) (fun c485 => ?_) (fun c485 => ?_)
                                  · skip
                                    exact jn776_8 _ _  hw _ (lv_sub hl [0, 1, 2, 3, 4, 5, 6, 7, 8, 9, 10, 11, 12, 13, 14, 15] rfl)
                                  · skip
                                    refine lv_aload_n (pc := 488) hx hb dX10_sort__488 rfl (lv_at hl 13 rfl) ?_
                                    refine lv_iload (pc := 489) hx hb dX10_sort__489 (lv_at hl 7 rfl) ?_
                                    refine zald (pc := 491) hx hb hw hkL ⟨by omega, by omega⟩ (by omega) dX10_sort__491 ?_
                                    refine ztop (fun x492 ex492 => ?_)
                                    refine lv_istore (pc := 492) (lv' := [(16, .int (iI x492)), (15, .int (iI x4)), (14, .int (iI lo)), (13, .int (iI x163)), (12, .int (iI x157)), (11, .int (iI x148)), (10, .int (iI x139)), (9, .int (iI x130)), (8, .int (iI x123)), (7, .int (iI x117)), (2, .int (iI x91)), (6, .int (iI x10)), (5, .int (iI x4)), (0, .null), (1, .ref a), (3, .int (iI lo)), (4, .int (iI hh))]) hx hb dX10_sort__492 hl (by decide) rfl (fun ls hl => ?_)
                                    refine lv_aload_n (pc := 494) hx hb dX10_sort__494 rfl (lv_at hl 14 rfl) ?_
                                    refine lv_iload (pc := 495) hx hb dX10_sort__495 (lv_at hl 7 rfl) ?_
                                    refine zald (pc := 497) hx hb hw hkL ⟨by omega, by omega⟩ (by omega) dX10_sort__497 ?_
                                    refine ztop (fun x498 ex498 => ?_)
                                    refine lv_istore (pc := 498) (lv' := [(17, .int (iI x498)), (16, .int (iI x492)), (15, .int (iI x4)), (14, .int (iI lo)), (13, .int (iI x163)), (12, .int (iI x157)), (11, .int (iI x148)), (10, .int (iI x139)), (9, .int (iI x130)), (8, .int (iI x123)), (7, .int (iI x117)), (2, .int (iI x91)), (6, .int (iI x10)), (5, .int (iI x4)), (0, .null), (1, .ref a), (3, .int (iI lo)), (4, .int (iI hh))]) hx hb dX10_sort__498 hl (by decide) rfl (fun ls hl => ?_)
                                    refine lv_aload_n (pc := 500) hx hb dX10_sort__500 rfl (lv_at hl 15 rfl) ?_
                                    refine lv_iload (pc := 501) hx hb dX10_sort__501 (lv_at hl 9 rfl) ?_
                                    refine lv_aload_n (pc := 503) hx hb dX10_sort__503 rfl (lv_at hl 15 rfl) ?_
                                    refine lv_iload (pc := 504) hx hb dX10_sort__504 (lv_at hl 3 rfl) ?_
                                    refine zald (pc := 506) hx hb hw hkL ⟨by omega, by omega⟩ (by omega) dX10_sort__506 ?_
                                    refine zast (pc := 507) hx hb hw hkL ⟨by omega, by omega⟩ (by omega) dX10_sort__507 (fun H locs hw => ?_)
                                    obtain ⟨X507, eX507⟩ : ∃ Y : zX, Y = up2 Xjn437_7 a x123.toNat (Xjn437_7 a lo.toNat) := ⟨_, rfl⟩
                                    rw [← eX507] at hw
                                    refine lv_aload_n (pc := 508) hx hb dX10_sort__508 rfl (lv_at hl 15 rfl) ?_
                                    refine lv_iload (pc := 509) hx hb dX10_sort__509 (lv_at hl 8 rfl) ?_
                                    refine lv_aload_n (pc := 511) hx hb dX10_sort__511 rfl (lv_at hl 15 rfl) ?_
                                    refine lv_iload (pc := 512) hx hb dX10_sort__512 (lv_at hl 2 rfl) ?_
                                    refine zald (pc := 514) hx hb hw hkL ⟨by omega, by omega⟩ (by omega) dX10_sort__514 ?_
                                    refine zast (pc := 515) hx hb hw hkL ⟨by omega, by omega⟩ (by omega) dX10_sort__515 (fun H locs hw => ?_)
                                    obtain ⟨X515, eX515⟩ : ∃ Y : zX, Y = up2 X507 a x130.toNat (X507 a x4.toNat) := ⟨_, rfl⟩
                                    rw [← eX515] at hw
                                    have hVS : Swp lo hh (XB a) (VS lo.toNat x4.toNat x492 x498 (X515 a)) := VS_init hsN ⟨by omega, by omega, by omega, by omega, by omega⟩ ex492 ex498 (by rw [eX515, up2_row, eX507, up2_row, updF_o (show x4.toNat ≠ x123.toNat by omega)])
                                    have hm3 : x492 < X515 a x139.toNat ∧ X515 a x139.toNat < x498 := by
                                      rw [eX515, up2_row, eX507, up2_row, updF_o (show x139.toNat ≠ x130.toNat by omega), updF_o (show x139.toNat ≠ x123.toNat by omega)]; omega
                                    have hfW : ∀ j : Nat, lo < j → (j : Int) < x4 → fit (X515 a j) := fun j g1 g2 => by
                                      obtain ⟨m, m1, m2, m3⟩ := hVS.vals j (by omega) (by omega)
                                      rw [VS_at (by omega) (by omega)] at m3
                                      rw [m3]; exact hfB m m1 (by omega)
                                    have hf1p : fit x492 := by rw [ex492]; exact hfN _ (by omega) (by omega)
                                    have hf2p : fit x498 := by rw [ex498]; exact hfN _ (by omega) (by omega)
                                    have hpp : x492 < x498 := by omega
                                    have lp516 : ∀ (n516 : Nat) (lw : Int) (H : Heap) (locs : List Loc), (hlw : lo ≤ lw ∧ lw < x139) → (h1w : ∀ j : Nat, lo < j → (j : Int) ≤ lw → X515 a j < x492) → ((x139 - lw).toNat < n516) → Wd Γ (zA K s.heap.size) Kjn91_1 X515 Rjn91_1 s H locs → ∀ ls : Array Slot, lv_has ls 21 [(17, .int (iI x498)), (16, .int (iI x492)), (15, .int (iI x4)), (14, .int (iI lw)), (13, .int (iI x163)), (12, .int (iI x157)), (11, .int (iI x148)), (10, .int (iI x139)), (9, .int (iI x130)), (8, .int (iI x123)), (7, .int (iI x117)), (2, .int (iI x91)), (6, .int (iI x10)), (5, .int (iI x4)), (0, .null), (1, .ref a), (3, .int (iI lo)), (4, .int (iI hh))] → W p l e (rmL (dd + 1 + 17) MC MS) s m ([.null, .ref a, .int (iI bits), .int (iI lo), .int (iI hi)] : List Value).toArray below meth c H locs cw sw (MQ below (zQ Γ K s.heap.size (pV (fun (K' : zK) (X' : zX) (R' : zR) => (∀ b, (K b).1 ≠ 0 → K' b = K b ∧ R' b = Rf b ∧ (b ≠ a → X' b = X b)) ∧ Prm lo hi (X a) (X' a) ∧ srtR lo hi (X' a)))) ([.null, .ref a, .int (iI bits), .int (iI lo), .int (iI hi)] : List Value).toArray s MC MS (zA K s.heap.size)) (F0 m 516 ls []) := by
                                      intro n516
                                      induction n516 with
                                      | zero => intro lw H locs hlw h1w hm516; exact absurd hm516 (Nat.not_lt_zero _)
                                      | succ n516 ih516 =>
                                        intro lw H locs hlw h1w hm516 hw ls hl
                                        refine lv_aload_n (pc := 516) hx hb dX10_sort__516 rfl (lv_at hl 15 rfl) ?_
                                        refine ziinc (pc := 517) (lv' := [(14, .int (iI (lw + 1))), (17, .int (iI x498)), (16, .int (iI x492)), (15, .int (iI x4)), (13, .int (iI x163)), (12, .int (iI x157)), (11, .int (iI x148)), (10, .int (iI x139)), (9, .int (iI x130)), (8, .int (iI x123)), (7, .int (iI x117)), (2, .int (iI x91)), (6, .int (iI x10)), (5, .int (iI x4)), (0, .null), (1, .ref a), (3, .int (iI lo)), (4, .int (iI hh))]) hx hb 3 dX10_sort__517 hl rfl (by decide) rfl (fun ls hl => ?_)
                                        obtain ⟨x517, ex517⟩ : ∃ zz : Int, zz = (lw + 1) := ⟨_, rfl⟩
                                        rw [← ex517] at hl
                                        refine lv_iload (pc := 520) hx hb dX10_sort__520 (lv_at hl 0 rfl) ?_
                                        refine zald (pc := 522) hx hb hw hkL ⟨by omega, by omega⟩ (by omega) dX10_sort__522 ?_
                                        refine lv_iload (pc := 523) hx hb dX10_sort__523 (lv_at hl 2 rfl) ?_
                                        have hfi := hfW x517.toNat (by omega) (by omega)
                                        refine zicmp_ge (pc := 525) hx hb 531 (by omega) (by omega) dX10_sort__525 (by decide) (fun c525 => ?_) (fun c525 => ?_)
                                        · skip
                                          have lp531 : ∀ (n531 : Nat) (uw : Int) (H : Heap) (locs : List Loc), (huw : x139 < uw ∧ uw ≤ x4) → (h2w : ∀ j : Nat, uw ≤ j → (j : Int) < x4 → x498 < X515 a j) → (uw.toNat < n531) → Wd Γ (zA K s.heap.size) Kjn91_1 X515 Rjn91_1 s H locs → ∀ ls : Array Slot, lv_has ls 21 [(14, .int (iI x517)), (17, .int (iI x498)), (16, .int (iI x492)), (15, .int (iI uw)), (13, .int (iI x163)), (12, .int (iI x157)), (11, .int (iI x148)), (10, .int (iI x139)), (9, .int (iI x130)), (8, .int (iI x123)), (7, .int (iI x117)), (2, .int (iI x91)), (6, .int (iI x10)), (5, .int (iI x4)), (0, .null), (1, .ref a), (3, .int (iI lo)), (4, .int (iI hh))] → W p l e (rmL (dd + 1 + 17) MC MS) s m ([.null, .ref a, .int (iI bits), .int (iI lo), .int (iI hi)] : List Value).toArray below meth c H locs cw sw (MQ below (zQ Γ K s.heap.size (pV (fun (K' : zK) (X' : zX) (R' : zR) => (∀ b, (K b).1 ≠ 0 → K' b = K b ∧ R' b = Rf b ∧ (b ≠ a → X' b = X b)) ∧ Prm lo hi (X a) (X' a) ∧ srtR lo hi (X' a)))) ([.null, .ref a, .int (iI bits), .int (iI lo), .int (iI hi)] : List Value).toArray s MC MS (zA K s.heap.size)) (F0 m 531 ls []) := by
                                            intro n531
                                            induction n531 with
                                            | zero => intro uw H locs huw h2w hm531; exact absurd hm531 (Nat.not_lt_zero _)
                                            | succ n531 ih531 =>
                                              intro uw H locs huw h2w hm531 hw ls hl
                                              refine lv_aload_n (pc := 531) hx hb dX10_sort__531 rfl (lv_at hl 15 rfl) ?_
                                              refine ziinc (pc := 532) (lv' := [(15, .int (iI (uw + (-1)))), (14, .int (iI x517)), (17, .int (iI x498)), (16, .int (iI x492)), (13, .int (iI x163)), (12, .int (iI x157)), (11, .int (iI x148)), (10, .int (iI x139)), (9, .int (iI x130)), (8, .int (iI x123)), (7, .int (iI x117)), (2, .int (iI x91)), (6, .int (iI x10)), (5, .int (iI x4)), (0, .null), (1, .ref a), (3, .int (iI lo)), (4, .int (iI hh))]) hx hb 3 dX10_sort__532 hl rfl (by decide) rfl (fun ls hl => ?_)
                                              obtain ⟨x532, ex532⟩ : ∃ zz : Int, zz = (uw + (-1)) := ⟨_, rfl⟩
                                              rw [← ex532] at hl
                                              refine lv_iload (pc := 535) hx hb dX10_sort__535 (lv_at hl 0 rfl) ?_
                                              refine zald (pc := 537) hx hb hw hkL ⟨by omega, by omega⟩ (by omega) dX10_sort__537 ?_
                                              refine lv_iload (pc := 538) hx hb dX10_sort__538 (lv_at hl 2 rfl) ?_
                                              have hfi := hfW x532.toNat (by omega) (by omega)
                                              refine zicmp_le (pc := 540) hx hb 546 (by omega) (by omega) dX10_sort__540 (by decide) (fun c540 => ?_) (fun c540 => ?_)
                                              · skip
                                                refine ziinc (pc := 546) (lv' := [(14, .int (iI (x517 + (-1)))), (15, .int (iI x532)), (17, .int (iI x498)), (16, .int (iI x492)), (13, .int (iI x163)), (12, .int (iI x157)), (11, .int (iI x148)), (10, .int (iI x139)), (9, .int (iI x130)), (8, .int (iI x123)), (7, .int (iI x117)), (2, .int (iI x91)), (6, .int (iI x10)), (5, .int (iI x4)), (0, .null), (1, .ref a), (3, .int (iI lo)), (4, .int (iI hh))]) hx hb 1 dX10_sort__546 hl rfl (by decide) rfl (fun ls hl => ?_)
                                                obtain ⟨x546, ex546⟩ : ∃ zz : Int, zz = (x517 + (-1)) := ⟨_, rfl⟩
                                                rw [← ex546] at hl
                                                refine lv_iload (pc := 549) hx hb dX10_sort__549 (lv_at hl 0 rfl) ?_
                                                refine lv_istore (pc := 551) (lv' := [(18, .int (iI x546)), (14, .int (iI x546)), (15, .int (iI x532)), (17, .int (iI x498)), (16, .int (iI x492)), (13, .int (iI x163)), (12, .int (iI x157)), (11, .int (iI x148)), (10, .int (iI x139)), (9, .int (iI x130)), (8, .int (iI x123)), (7, .int (iI x117)), (2, .int (iI x91)), (6, .int (iI x10)), (5, .int (iI x4)), (0, .null), (1, .ref a), (3, .int (iI lo)), (4, .int (iI hh))]) hx hb dX10_sort__551 hl (by decide) rfl (fun ls hl => ?_)
                                                refine ziinc (pc := 553) (lv' := [(15, .int (iI (x532 + 1))), (18, .int (iI x546)), (14, .int (iI x546)), (17, .int (iI x498)), (16, .int (iI x492)), (13, .int (iI x163)), (12, .int (iI x157)), (11, .int (iI x148)), (10, .int (iI x139)), (9, .int (iI x130)), (8, .int (iI x123)), (7, .int (iI x117)), (2, .int (iI x91)), (6, .int (iI x10)), (5, .int (iI x4)), (0, .null), (1, .ref a), (3, .int (iI lo)), (4, .int (iI hh))]) hx hb 2 dX10_sort__553 hl rfl (by decide) rfl (fun ls hl => ?_)
                                                obtain ⟨x553, ex553⟩ : ∃ zz : Int, zz = (x532 + 1) := ⟨_, rfl⟩
                                                rw [← ex553] at hl
                                                refine lv_iload (pc := 556) hx hb dX10_sort__556 (lv_at hl 0 rfl) ?_
                                                refine lv_istore (pc := 558) (lv' := [(19, .int (iI x553)), (15, .int (iI x553)), (18, .int (iI x546)), (14, .int (iI x546)), (17, .int (iI x498)), (16, .int (iI x492)), (13, .int (iI x163)), (12, .int (iI x157)), (11, .int (iI x148)), (10, .int (iI x139)), (9, .int (iI x130)), (8, .int (iI x123)), (7, .int (iI x117)), (2, .int (iI x91)), (6, .int (iI x10)), (5, .int (iI x4)), (0, .null), (1, .ref a), (3, .int (iI lo)), (4, .int (iI hh))]) hx hb dX10_sort__558 hl (by decide) rfl (fun ls hl => ?_)
                                                have lp560 : ∀ (n560 : Nat) (kq : Int) (uq : Int) (lq : Int) (XL560 : zX) (H : Heap) (locs : List Loc), (hoD : ∀ b, b ≠ a → XL560 b = XB b) → (hd : DPI lo x4 x492 x498 (XB a) (XL560 a) lq kq uq) → (kq.toNat < n560) → Wd Γ (zA K s.heap.size) Kjn91_1 XL560 Rjn91_1 s H locs → ∀ ls : Array Slot, lv_has ls 21 [(19, .int (iI kq)), (15, .int (iI uq)), (18, .int (iI x546)), (14, .int (iI lq)), (17, .int (iI x498)), (16, .int (iI x492)), (13, .int (iI x163)), (12, .int (iI x157)), (11, .int (iI x148)), (10, .int (iI x139)), (9, .int (iI x130)), (8, .int (iI x123)), (7, .int (iI x117)), (2, .int (iI x91)), (6, .int (iI x10)), (5, .int (iI x4)), (0, .null), (1, .ref a), (3, .int (iI lo)), (4, .int (iI hh))] → W p l e (rmL (dd + 1 + 17) MC MS) s m ([.null, .ref a, .int (iI bits), .int (iI lo), .int (iI hi)] : List Value).toArray below meth c H locs cw sw (MQ below (zQ Γ K s.heap.size (pV (fun (K' : zK) (X' : zX) (R' : zR) => (∀ b, (K b).1 ≠ 0 → K' b = K b ∧ R' b = Rf b ∧ (b ≠ a → X' b = X b)) ∧ Prm lo hi (X a) (X' a) ∧ srtR lo hi (X' a)))) ([.null, .ref a, .int (iI bits), .int (iI lo), .int (iI hi)] : List Value).toArray s MC MS (zA K s.heap.size)) (F0 m 560 ls []) := by
                                                  intro n560
                                                  induction n560 with
                                                  | zero => intro kq uq lq XL560 H locs hoD hd hm560; exact absurd hm560 (Nat.not_lt_zero _)
                                                  | succ n560 ih560 =>
                                                    intro kq uq lq XL560 H locs hoD hd hm560 hw ls hl
                                                    have hd0 := hd.1
                                                    have hfD := hd.rng hfB
                                                    refine ziinc (pc := 560) (lv' := [(19, .int (iI (kq + (-1)))), (15, .int (iI uq)), (18, .int (iI x546)), (14, .int (iI lq)), (17, .int (iI x498)), (16, .int (iI x492)), (13, .int (iI x163)), (12, .int (iI x157)), (11, .int (iI x148)), (10, .int (iI x139)), (9, .int (iI x130)), (8, .int (iI x123)), (7, .int (iI x117)), (2, .int (iI x91)), (6, .int (iI x10)), (5, .int (iI x4)), (0, .null), (1, .ref a), (3, .int (iI lo)), (4, .int (iI hh))]) hx hb 0 dX10_sort__560 hl rfl (by decide) rfl (fun ls hl => ?_)
                                                    obtain ⟨x560, ex560⟩ : ∃ zz : Int, zz = (kq + (-1)) := ⟨_, rfl⟩
                                                    rw [← ex560] at hl
                                                    refine lv_iload (pc := 563) hx hb dX10_sort__563 (lv_at hl 0 rfl) ?_
                                                    refine lv_iload (pc := 565) hx hb dX10_sort__565 (lv_at hl 3 rfl) ?_
                                                    refine zicmp_le (pc := 567) hx hb 677 (by omega) (by omega) dX10_sort__567 (by decide) (fun c567 => ?_) (fun c567 => ?_)
                                                    · skip
                                                      refine lv_aload_n (pc := 677) hx hb dX10_sort__677 rfl (lv_at hl 17 rfl) ?_
                                                      refine lv_iload_n (pc := 678) hx hb dX10_sort__678 rfl (lv_at hl 18 rfl) ?_
                                                      refine lv_aload_n (pc := 679) hx hb dX10_sort__679 rfl (lv_at hl 17 rfl) ?_
                                                      refine lv_iload (pc := 680) hx hb dX10_sort__680 (lv_at hl 3 rfl) ?_
                                                      refine zald (pc := 682) hx hb hw hkL ⟨by omega, by omega⟩ (by omega) dX10_sort__682 ?_
                                                      refine zast (pc := 683) hx hb hw hkL ⟨by omega, by omega⟩ (by omega) dX10_sort__683 (fun H locs hw => ?_)
                                                      obtain ⟨X683, eX683⟩ : ∃ Y : zX, Y = up2 XL560 a lo.toNat (XL560 a lq.toNat) := ⟨_, rfl⟩
                                                      rw [← eX683] at hw
                                                      refine lv_aload_n (pc := 684) hx hb dX10_sort__684 rfl (lv_at hl 17 rfl) ?_
                                                      refine lv_iload (pc := 685) hx hb dX10_sort__685 (lv_at hl 3 rfl) ?_
                                                      refine lv_iload (pc := 687) hx hb dX10_sort__687 (lv_at hl 5 rfl) ?_
                                                      refine zast (pc := 689) hx hb hw hkL ⟨by omega, by omega⟩ (by omega) dX10_sort__689 (fun H locs hw => ?_)
                                                      obtain ⟨X689, eX689⟩ : ∃ Y : zX, Y = up2 X683 a lq.toNat x492 := ⟨_, rfl⟩
                                                      rw [← eX689] at hw
                                                      refine lv_aload_n (pc := 690) hx hb dX10_sort__690 rfl (lv_at hl 17 rfl) ?_
                                                      refine lv_iload (pc := 691) hx hb dX10_sort__691 (lv_at hl 15 rfl) ?_
                                                      refine lv_aload_n (pc := 693) hx hb dX10_sort__693 rfl (lv_at hl 17 rfl) ?_
                                                      refine lv_iload (pc := 694) hx hb dX10_sort__694 (lv_at hl 1 rfl) ?_
                                                      refine zald (pc := 696) hx hb hw hkL ⟨by omega, by omega⟩ (by omega) dX10_sort__696 ?_
                                                      refine zast (pc := 697) hx hb hw hkL ⟨by omega, by omega⟩ (by omega) dX10_sort__697 (fun H locs hw => ?_)
                                                      obtain ⟨X697, eX697⟩ : ∃ Y : zX, Y = up2 X689 a x4.toNat (X689 a uq.toNat) := ⟨_, rfl⟩
                                                      rw [← eX697] at hw
                                                      refine lv_aload_n (pc := 698) hx hb dX10_sort__698 rfl (lv_at hl 17 rfl) ?_
                                                      refine lv_iload (pc := 699) hx hb dX10_sort__699 (lv_at hl 1 rfl) ?_
                                                      refine lv_iload (pc := 701) hx hb dX10_sort__701 (lv_at hl 4 rfl) ?_
                                                      refine zast (pc := 703) hx hb hw hkL ⟨by omega, by omega⟩ (by omega) dX10_sort__703 (fun H locs hw => ?_)
                                                      obtain ⟨X703, eX703⟩ : ∃ Y : zX, Y = up2 X697 a uq.toNat x498 := ⟨_, rfl⟩
                                                      rw [← eX703] at hw
                                                      obtain ⟨hsP, hvP, haP, hbP, hcP⟩ := hd.fin (by omega) (G' := X703 a) (by rw [eX703, up2_row, eX697, up2_row, eX689, up2_row, eX683, up2_row, updF_o (show uq.toNat ≠ lq.toNat by omega), updF_o (show uq.toNat ≠ lo.toNat by omega)])
                                                      rw [hx4] at hsP
                                                      have hoP : ∀ b, b ≠ a → X703 b = XB b := fun b hb => by rw [eX703, up2_o hb, eX697, up2_o hb, eX689, up2_o hb, eX683, up2_o hb]; exact hoD b hb
                                                      have hPP : Prm lo hh (XB a) (X703 a) := hsP.prm hjB
                                                      have hfP : ∀ j : Nat, lo ≤ j → (j : Int) < hh → fit (X703 a j) := hPP.low (P := fit) (fun j g1 g2 => hfB j g1 (by omega))
                                                      refine lv_iload (pc := 704) hx hb dX10_sort__704 (lv_at hl 14 rfl) ?_
                                                      refine zsipush (pc := 706) (n := 4096) hx hb dX10_sort__706 rfl ?_
                                                      refine zicmp_le (pc := 709) hx hb 745 (by omega) (by omega) dX10_sort__709 (by decide) (fun c709 => ?_) (fun c709 => ?_)
                                                      · skip
                                                        refine lv_aload_nN (pc := 745) hx hb dX10_sort__745 rfl (lv_at hl 16 rfl) ?_
                                                        refine lv_aload_n (pc := 746) hx hb dX10_sort__746 rfl (lv_at hl 17 rfl) ?_
                                                        refine lv_iload_n (pc := 747) hx hb dX10_sort__747 rfl (lv_at hl 13 rfl) ?_
                                                        refine ziconst (pc := 748) (n := 1) hx hb dX10_sort__748 ?_
                                                        refine zor1 (pc := 749) hx hb ⟨by omega, by omega⟩ dX10_sort__749 ?_
                                                        refine lv_iload (pc := 750) hx hb dX10_sort__750 (lv_at hl 3 rfl) ?_
                                                        refine ziconst (pc := 752) (n := 1) hx hb dX10_sort__752 ?_
                                                        refine zadd (pc := 753) hx hb dX10_sort__753 ?_
                                                        refine lv_iload (pc := 754) hx hb dX10_sort__754 (lv_at hl 1 rfl) ?_
                                                        have hf756 : ∀ j : Nat, lo ≤ j → (j : Int) < hh → fit (X703 a j) := hfP
                                                        have hj756 : injR (lq + 1) uq (X703 a) := hPP.2.2.2.sub (by omega) (by omega)
                                                        refine zkV (pc := 756) (zrS (As := [.null, .ref a, .int (iI (2 * (x91 / 2) + 1)), .int (iI (lq + 1)), .int (iI uq)]) hx hb hml hown hG hw (ih Γ Kjn91_1 X703 Rjn91_1 a (2 * (x91 / 2) + 1) (lq + 1) uq n 0 0 (by (first | assumption | omega)) (by (first | assumption | omega)) (by omega) (by intro j g1 g2; exact hf756 j (by omega) (by omega)) (by exact hj756) (by intro _; refine ⟨by omega, fun m m1 m2 => ?_⟩; rw [show (lq + 1 - 1).toNat = lq.toNat by omega, hvP.1]; exact (hbP m (by omega) m2).1)) cb_X10_sort_ wl_X10_26 rfl ⟨by show dd + 17 + 1 ≤ (dd + 1 + 17); omega, by show 8 + (21 + 11) + 100 * (dd + 17) ≤ 100 * (dd + 1 + 17); omega⟩ hl.1 rfl (Nat.le_of_ble_eq_true rfl) dX10_sort__756 ⟨(by show cw + 0 ≤ MC; omega), (by show sw + 0 ≤ MS; omega)⟩) hw (fun K756 X756 R756 H locs hp756 hw => ?_)
                                                        obtain ⟨hfr756, hP756, hs756⟩ := hp756
                                                        have hk756 : K756 a = (2, n) := by rw [(hfr756 a (by first | exact zk1 hkL | exact zk1 hk756)).1]; first | exact hk756 | exact hkL
                                                        refine lv_aload_nN (pc := 759) hx hb dX10_sort__759 rfl (lv_at hl 16 rfl) ?_
                                                        refine lv_aload_n (pc := 760) hx hb dX10_sort__760 rfl (lv_at hl 17 rfl) ?_
                                                        refine lv_iload_n (pc := 761) hx hb dX10_sort__761 rfl (lv_at hl 13 rfl) ?_
                                                        refine ziconst (pc := 762) (n := 1) hx hb dX10_sort__762 ?_
                                                        refine zor1 (pc := 763) hx hb ⟨by omega, by omega⟩ dX10_sort__763 ?_
                                                        refine lv_iload (pc := 764) hx hb dX10_sort__764 (lv_at hl 1 rfl) ?_
                                                        refine ziconst (pc := 766) (n := 1) hx hb dX10_sort__766 ?_
                                                        refine zadd (pc := 767) hx hb dX10_sort__767 ?_
                                                        refine lv_iload (pc := 768) hx hb dX10_sort__768 (lv_at hl 19 rfl) ?_
                                                        have hP1 : Prm lo hh (XB a) (X756 a) := hPP.sub hP756 (by omega) (by omega)
                                                        have hf770 : ∀ j : Nat, lo ≤ j → (j : Int) < hh → fit (X756 a j) := hP1.low (P := fit) (fun j g1 g2 => hfB j g1 (by omega))
                                                        have hj770 : injR (uq + 1) hh (X756 a) := hP1.2.2.2.sub (by omega) (by omega)
                                                        refine zkV (pc := 770) (zrS (As := [.null, .ref a, .int (iI (2 * (x91 / 2) + 1)), .int (iI (uq + 1)), .int (iI hh)]) hx hb hml hown hG hw (ih Γ K756 X756 R756 a (2 * (x91 / 2) + 1) (uq + 1) hh n 0 0 (by (first | assumption | omega)) (by (first | assumption | omega)) (by omega) (by intro j g1 g2; exact hf770 j (by omega) (by omega)) (by exact hj770) (by intro _; refine ⟨by omega, fun m m1 m2 => ?_⟩; rw [show (uq + 1 - 1).toNat = uq.toNat by omega, hP756.1 _ (Or.inr (by omega)), hvP.2, hP756.1 m (Or.inr (by omega))]; exact Int.le_of_lt (hcP m (by omega) (by omega)))) cb_X10_sort_ wl_X10_26 rfl ⟨by show dd + 17 + 1 ≤ (dd + 1 + 17); omega, by show 8 + (21 + 11) + 100 * (dd + 17) ≤ 100 * (dd + 1 + 17); omega⟩ hl.1 rfl (Nat.le_of_ble_eq_true rfl) dX10_sort__770 ⟨(by show cw + 0 ≤ MC; omega), (by show sw + 0 ≤ MS; omega)⟩) hw (fun K770 X770 R770 H locs hp770 hw => ?_)
                                                        obtain ⟨hfr770, hP770, hs770⟩ := hp770
                                                        have hk770 : K770 a = (2, n) := by rw [(hfr770 a (by first | exact zk1 hkL | exact zk1 hk756)).1]; first | exact hk756 | exact hkL
                                                        have hkZ := hk770
                                                        have hfZ : ∀ b, (K b).1 ≠ 0 → K770 b = K b ∧ R770 b = Rf b ∧ (b ≠ a → X770 b = X b) := fun b hb => by
                                                          have w1 := hfr b hb
                                                          have w2 := hfr756 b (by rw [w1.1]; exact hb)
                                                          have w3 := hfr770 b (by rw [w2.1, w1.1]; exact hb)
                                                          exact ⟨by rw [w3.1, w2.1, w1.1], by rw [w3.2.1, w2.2.1, w1.2.1], fun g => by rw [w3.2.2 g, w2.2.2 g, hoP b g, hXB, w1.2.2 g]⟩
                                                        have hPz : Prm lo hh (XB a) (X770 a) := hP1.sub hP770 (by omega) (by omega)
                                                        have hPZ : Prm lo hi (X a) (X770 a) := by
                                                          rw [hXB] at hPz
                                                          exact hP.sub hPz (Int.le_refl _) (by omega)
                                                        have hSS := dual_fin (lo := lo) (hh := hh) (lq := lq) (uq := uq) (p1 := x492) (p2 := x498) (by omega) hpp hvP haP hbP (fun j g1 g2 => hcP j g1 (by omega)) hP756 hs756 hP770 hs770
                                                        have hTZ := join2 (by rw [hXB] at hPz; exact hPz) ⟨by omega, by omega⟩ ht9 hc9 hSS.1 hSS.2
                                                        refine lv_goto (pc := 773) (tgt := 940) hx hb dX10_sort__773 (by decide) ?_
                                                        refine lv_iload (pc := 940) hx hb dX10_sort__940 (lv_at hl 3 rfl) ?_
                                                        refine lv_istore (pc := 942) (lv' := [(4, .int (iI lq)), (19, .int (iI x560)), (15, .int (iI uq)), (18, .int (iI x546)), (14, .int (iI lq)), (17, .int (iI x498)), (16, .int (iI x492)), (13, .int (iI x163)), (12, .int (iI x157)), (11, .int (iI x148)), (10, .int (iI x139)), (9, .int (iI x130)), (8, .int (iI x123)), (7, .int (iI x117)), (2, .int (iI x91)), (6, .int (iI x10)), (5, .int (iI x4)), (0, .null), (1, .ref a), (3, .int (iI lo))]) hx hb dX10_sort__942 hl (by decide) rfl (fun ls hl => ?_)
                                                        refine lv_goto (pc := 944) (tgt := 0) hx hb dX10_sort__944 (by decide) ?_
                                                        exact ih0 x91 lq cw sw K770 X770 R770 _ _ (by omega) (by exact hkZ) (by exact hfZ) (by exact hPZ) (by exact hTZ.1) (by exact hTZ.2) (by omega) (by omega) hw _ (lv_sub hl [17, 18, 14, 19, 0] rfl)
                                                      · skip
                                                        exfalso; omega
                                                    · skip
                                                      have e6 : x560 = kq - 1 := by omega
                                                      have hfk := hfD x560.toNat (by omega) (by omega)
                                                      refine lv_aload_n (pc := 570) hx hb dX10_sort__570 rfl (lv_at hl 17 rfl) ?_
                                                      refine lv_iload (pc := 571) hx hb dX10_sort__571 (lv_at hl 0 rfl) ?_
                                                      refine zald (pc := 573) hx hb hw hkL ⟨by omega, by omega⟩ (by omega) dX10_sort__573 ?_
                                                      refine ztop (fun x574 ex574 => ?_)
                                                      refine lv_istore (pc := 574) (lv' := [(20, .int (iI x574)), (19, .int (iI x560)), (15, .int (iI uq)), (18, .int (iI x546)), (14, .int (iI lq)), (17, .int (iI x498)), (16, .int (iI x492)), (13, .int (iI x163)), (12, .int (iI x157)), (11, .int (iI x148)), (10, .int (iI x139)), (9, .int (iI x130)), (8, .int (iI x123)), (7, .int (iI x117)), (2, .int (iI x91)), (6, .int (iI x10)), (5, .int (iI x4)), (0, .null), (1, .ref a), (3, .int (iI lo)), (4, .int (iI hh))]) hx hb dX10_sort__574 hl (by decide) rfl (fun ls hl => ?_)
                                                      refine lv_iload (pc := 576) hx hb dX10_sort__576 (lv_at hl 0 rfl) ?_
                                                      refine lv_iload (pc := 578) hx hb dX10_sort__578 (lv_at hl 6 rfl) ?_
                                                      refine zicmp_ge (pc := 580) hx hb 650 (by omega) (by omega) dX10_sort__580 (by decide) (fun c580 => ?_) (fun c580 => ?_)
                                                      · skip
                                                        refine lv_iload (pc := 650) hx hb dX10_sort__650 (lv_at hl 0 rfl) ?_
                                                        refine lv_iload (pc := 652) hx hb dX10_sort__652 (lv_at hl 5 rfl) ?_
                                                        refine zicmp_le (pc := 654) hx hb 674 (by omega) (by omega) dX10_sort__654 (by decide) (fun c654 => ?_) (fun c654 => ?_)
                                                        · skip
                                                          refine lv_goto (pc := 674) (tgt := 560) hx hb dX10_sort__674 (by decide) ?_
                                                          exact ih560 x560 uq lq XL560 _ _ (by first | exact hoD | (exact fun b hb => by rw [eX646, up2_o hb, eX629, up2_o hb, eX621, up2_o hb]; exact hoD b hb) | (exact fun b hb => by rw [eX646, up2_o hb, eX640, up2_o hb]; exact hoD b hb) | (exact fun b hb => by rw [eX673, up2_o hb, eX667, up2_o hb]; exact hoD b hb)) (by 
                                        rw [e6]
                                        first
                                        | (rw [show lr = kq - 1 by omega]; exact hd.none (by omega) (fun j g1 g2 => hbr j g1 (by omega)))
                                        | exact hd.same (by omega) (by rw [← e6, ← ex574]; omega)
                                        | (rw [show x615 = uq - 1 by omega]; exact hd.cyc (x := x591) ⟨by omega, by omega⟩ hak hbs c608 (by rw [eX646, up2_row, eX629, up2_row, eX621, up2_row, updF_o (show x591.toNat ≠ x560.toNat by omega), ← e6, show (uq - 1).toNat = x615.toNat by omega, ← ex574]))
                                        | exact hd.swap (x := x591) ⟨by omega, by omega⟩ hak hbs ⟨hgx, c608⟩ (by rw [eX646, up2_row, eX640, up2_row, ← e6, ← ex574])
                                        | (rw [show x661 = uq - 1 by omega]; exact hd.high (by omega) (by rw [← e6, ← ex574]; omega) (by rw [eX673, up2_row, eX667, up2_row, ← e6, show (uq - 1).toNat = x661.toNat by omega, ← ex574]))) (by omega) hw _ (lv_sub hl [1, 2, 3, 4, 5, 6, 7, 8, 9, 10, 11, 12, 13, 14, 15, 16, 17, 18, 19, 20] rfl)
                                                        · skip
                                                          refine lv_aload_n (pc := 657) hx hb dX10_sort__657 rfl (lv_at hl 18 rfl) ?_
                                                          refine lv_iload (pc := 658) hx hb dX10_sort__658 (lv_at hl 1 rfl) ?_
                                                          refine lv_aload_n (pc := 660) hx hb dX10_sort__660 rfl (lv_at hl 18 rfl) ?_
                                                          refine ziinc (pc := 661) (lv' := [(15, .int (iI (uq + (-1)))), (20, .int (iI x574)), (19, .int (iI x560)), (18, .int (iI x546)), (14, .int (iI lq)), (17, .int (iI x498)), (16, .int (iI x492)), (13, .int (iI x163)), (12, .int (iI x157)), (11, .int (iI x148)), (10, .int (iI x139)), (9, .int (iI x130)), (8, .int (iI x123)), (7, .int (iI x117)), (2, .int (iI x91)), (6, .int (iI x10)), (5, .int (iI x4)), (0, .null), (1, .ref a), (3, .int (iI lo)), (4, .int (iI hh))]) hx hb 2 dX10_sort__661 hl rfl (by decide) rfl (fun ls hl => ?_)
                                                          obtain ⟨x661, ex661⟩ : ∃ zz : Int, zz = (uq + (-1)) := ⟨_, rfl⟩
                                                          rw [← ex661] at hl
                                                          refine lv_iload (pc := 664) hx hb dX10_sort__664 (lv_at hl 0 rfl) ?_
                                                          refine zald (pc := 666) hx hb hw hkL ⟨by omega, by omega⟩ (by omega) dX10_sort__666 ?_
                                                          refine zast (pc := 667) hx hb hw hkL ⟨by omega, by omega⟩ (by omega) dX10_sort__667 (fun H locs hw => ?_)
                                                          obtain ⟨X667, eX667⟩ : ∃ Y : zX, Y = up2 XL560 a x560.toNat (XL560 a x661.toNat) := ⟨_, rfl⟩
                                                          rw [← eX667] at hw
                                                          refine lv_aload_n (pc := 668) hx hb dX10_sort__668 rfl (lv_at hl 18 rfl) ?_
                                                          refine lv_iload (pc := 669) hx hb dX10_sort__669 (lv_at hl 0 rfl) ?_
                                                          refine lv_iload (pc := 671) hx hb dX10_sort__671 (lv_at hl 1 rfl) ?_
                                                          refine zast (pc := 673) hx hb hw hkL ⟨by omega, by omega⟩ (by omega) dX10_sort__673 (fun H locs hw => ?_)
                                                          obtain ⟨X673, eX673⟩ : ∃ Y : zX, Y = up2 X667 a x661.toNat x574 := ⟨_, rfl⟩
                                                          rw [← eX673] at hw
                                                          refine lv_goto (pc := 674) (tgt := 560) hx hb dX10_sort__674 (by decide) ?_
                                                          exact ih560 x560 x661 lq X673 _ _ (by first | exact hoD | (exact fun b hb => by rw [eX646, up2_o hb, eX629, up2_o hb, eX621, up2_o hb]; exact hoD b hb) | (exact fun b hb => by rw [eX646, up2_o hb, eX640, up2_o hb]; exact hoD b hb) | (exact fun b hb => by rw [eX673, up2_o hb, eX667, up2_o hb]; exact hoD b hb)) (by 
                                        rw [e6]
                                        first
                                        | (rw [show lr = kq - 1 by omega]; exact hd.none (by omega) (fun j g1 g2 => hbr j g1 (by omega)))
                                        | exact hd.same (by omega) (by rw [← e6, ← ex574]; omega)
                                        | (rw [show x615 = uq - 1 by omega]; exact hd.cyc (x := x591) ⟨by omega, by omega⟩ hak hbs c608 (by rw [eX646, up2_row, eX629, up2_row, eX621, up2_row, updF_o (show x591.toNat ≠ x560.toNat by omega), ← e6, show (uq - 1).toNat = x615.toNat by omega, ← ex574]))
                                        | exact hd.swap (x := x591) ⟨by omega, by omega⟩ hak hbs ⟨hgx, c608⟩ (by rw [eX646, up2_row, eX640, up2_row, ← e6, ← ex574])
                                        | (rw [show x661 = uq - 1 by omega]; exact hd.high (by omega) (by rw [← e6, ← ex574]; omega) (by rw [eX673, up2_row, eX667, up2_row, ← e6, show (uq - 1).toNat = x661.toNat by omega, ← ex574]))) (by omega) hw _ (lv_sub hl [2, 0, 3, 4, 5, 6, 7, 8, 9, 10, 11, 12, 13, 14, 15, 16, 17, 18, 19, 20] rfl)
                                                      · skip
                                                        have lp583 : ∀ (n583 : Nat) (lr : Int) (H : Heap) (locs : List Loc), (hlr : lq ≤ lr ∧ lr ≤ x560) → (hbr : ∀ j : Nat, lo < j → (j : Int) ≤ lr → XL560 a j < x492) → ((x560 - lr).toNat < n583) → Wd Γ (zA K s.heap.size) Kjn91_1 XL560 Rjn91_1 s H locs → ∀ ls : Array Slot, lv_has ls 21 [(20, .int (iI x574)), (19, .int (iI x560)), (15, .int (iI uq)), (18, .int (iI x546)), (14, .int (iI lr)), (17, .int (iI x498)), (16, .int (iI x492)), (13, .int (iI x163)), (12, .int (iI x157)), (11, .int (iI x148)), (10, .int (iI x139)), (9, .int (iI x130)), (8, .int (iI x123)), (7, .int (iI x117)), (2, .int (iI x91)), (6, .int (iI x10)), (5, .int (iI x4)), (0, .null), (1, .ref a), (3, .int (iI lo)), (4, .int (iI hh))] → W p l e (rmL (dd + 1 + 17) MC MS) s m ([.null, .ref a, .int (iI bits), .int (iI lo), .int (iI hi)] : List Value).toArray below meth c H locs cw sw (MQ below (zQ Γ K s.heap.size (pV (fun (K' : zK) (X' : zX) (R' : zR) => (∀ b, (K b).1 ≠ 0 → K' b = K b ∧ R' b = Rf b ∧ (b ≠ a → X' b = X b)) ∧ Prm lo hi (X a) (X' a) ∧ srtR lo hi (X' a)))) ([.null, .ref a, .int (iI bits), .int (iI lo), .int (iI hi)] : List Value).toArray s MC MS (zA K s.heap.size)) (F0 m 583 ls []) := by
                                                          intro n583
                                                          induction n583 with
                                                          | zero => intro lr H locs hlr hbr hm583; exact absurd hm583 (Nat.not_lt_zero _)
                                                          | succ n583 ih583 =>
                                                            intro lr H locs hlr hbr hm583 hw ls hl
                                                            refine lv_iload (pc := 583) hx hb dX10_sort__583 (lv_at hl 4 rfl) ?_
                                                            refine lv_iload (pc := 585) hx hb dX10_sort__585 (lv_at hl 1 rfl) ?_
                                                            refine zicmp_ge (pc := 587) hx hb 674 (by omega) (by omega) dX10_sort__587 (by decide) (fun c587 => ?_) (fun c587 => ?_)
                                                            · skip
                                                              refine lv_goto (pc := 674) (tgt := 560) hx hb dX10_sort__674 (by decide) ?_
                                                              exact ih560 x560 uq lr XL560 _ _ (by first | exact hoD | (exact fun b hb => by rw [eX646, up2_o hb, eX629, up2_o hb, eX621, up2_o hb]; exact hoD b hb) | (exact fun b hb => by rw [eX646, up2_o hb, eX640, up2_o hb]; exact hoD b hb) | (exact fun b hb => by rw [eX673, up2_o hb, eX667, up2_o hb]; exact hoD b hb)) (by 
                                        rw [e6]
                                        first
                                        | (rw [show lr = kq - 1 by omega]; exact hd.none (by omega) (fun j g1 g2 => hbr j g1 (by omega)))
                                        | exact hd.same (by omega) (by rw [← e6, ← ex574]; omega)
                                        | (rw [show x615 = uq - 1 by omega]; exact hd.cyc (x := x591) ⟨by omega, by omega⟩ hak hbs c608 (by rw [eX646, up2_row, eX629, up2_row, eX621, up2_row, updF_o (show x591.toNat ≠ x560.toNat by omega), ← e6, show (uq - 1).toNat = x615.toNat by omega, ← ex574]))
                                        | exact hd.swap (x := x591) ⟨by omega, by omega⟩ hak hbs ⟨hgx, c608⟩ (by rw [eX646, up2_row, eX640, up2_row, ← e6, ← ex574])
                                        | (rw [show x661 = uq - 1 by omega]; exact hd.high (by omega) (by rw [← e6, ← ex574]; omega) (by rw [eX673, up2_row, eX667, up2_row, ← e6, show (uq - 1).toNat = x661.toNat by omega, ← ex574]))) (by omega) hw _ (lv_sub hl [1, 2, 3, 4, 5, 6, 7, 8, 9, 10, 11, 12, 13, 14, 15, 16, 17, 18, 19, 20] rfl)
                                                            · skip
                                                              refine lv_aload_n (pc := 590) hx hb dX10_sort__590 rfl (lv_at hl 18 rfl) ?_
                                                              refine ziinc (pc := 591) (lv' := [(14, .int (iI (lr + 1))), (20, .int (iI x574)), (19, .int (iI x560)), (15, .int (iI uq)), (18, .int (iI x546)), (17, .int (iI x498)), (16, .int (iI x492)), (13, .int (iI x163)), (12, .int (iI x157)), (11, .int (iI x148)), (10, .int (iI x139)), (9, .int (iI x130)), (8, .int (iI x123)), (7, .int (iI x117)), (2, .int (iI x91)), (6, .int (iI x10)), (5, .int (iI x4)), (0, .null), (1, .ref a), (3, .int (iI lo)), (4, .int (iI hh))]) hx hb 4 dX10_sort__591 hl rfl (by decide) rfl (fun ls hl => ?_)
                                                              obtain ⟨x591, ex591⟩ : ∃ zz : Int, zz = (lr + 1) := ⟨_, rfl⟩
                                                              rw [← ex591] at hl
                                                              refine lv_iload (pc := 594) hx hb dX10_sort__594 (lv_at hl 0 rfl) ?_
                                                              refine zald (pc := 596) hx hb hw hkL ⟨by omega, by omega⟩ (by omega) dX10_sort__596 ?_
                                                              refine lv_iload (pc := 597) hx hb dX10_sort__597 (lv_at hl 6 rfl) ?_
                                                              have hfi := hfD x591.toNat (by omega) (by omega)
                                                              refine zicmp_lt (pc := 599) hx hb 583 (by omega) (by omega) dX10_sort__599 (by decide) (fun c599 => ?_) (fun c599 => ?_)
                                                              · skip
                                                                have hbR : ∀ j : Nat, lo < j → (j : Int) ≤ x591 → XL560 a j < x492 := fun j g1 g2 => by
                                                                  by_cases g : (j : Int) = x591
                                                                  · rw [show j = x591.toNat by omega]; exact c599
                                                                  · exact hbr j g1 (by omega)
                                                                exact ih583 x591 _ _ (by (first | assumption | omega)) (by exact hbR) (by omega) hw _ (lv_sub hl [1, 2, 3, 4, 0, 5, 6, 7, 8, 9, 10, 11, 12, 13, 14, 15, 16, 17, 18, 19, 20] rfl)
                                                              · skip
                                                                have hxk : x591 < x560 := by
                                                                  by_cases g : x591 = x560
                                                                  · exfalso; have h9 := c599; rw [g, ← ex574] at h9; omega
                                                                  · omega
                                                                have hbs : ∀ j : Nat, lo < j → (j : Int) < x591 → XL560 a j < x492 := fun j g1 g2 => hbr j g1 (by omega)
                                                                have hak : XL560 a (kq - 1).toNat < x492 := by rw [← e6, ← ex574]; omega
                                                                have hgx : x492 ≤ XL560 a x591.toNat := c599
                                                                refine lv_aload_n (pc := 602) hx hb dX10_sort__602 rfl (lv_at hl 18 rfl) ?_
                                                                refine lv_iload (pc := 603) hx hb dX10_sort__603 (lv_at hl 0 rfl) ?_
                                                                refine zald (pc := 605) hx hb hw hkL ⟨by omega, by omega⟩ (by omega) dX10_sort__605 ?_
                                                                refine lv_iload (pc := 606) hx hb dX10_sort__606 (lv_at hl 5 rfl) ?_
                                                                have hfi := hfD x591.toNat (by omega) (by omega)
                                                                refine zicmp_le (pc := 608) hx hb 633 (by omega) (by omega) dX10_sort__608 (by decide) (fun c608 => ?_) (fun c608 => ?_)
                                                                · skip
                                                                  refine lv_aload_n (pc := 633) hx hb dX10_sort__633 rfl (lv_at hl 18 rfl) ?_
                                                                  refine lv_iload (pc := 634) hx hb dX10_sort__634 (lv_at hl 2 rfl) ?_
                                                                  refine lv_aload_n (pc := 636) hx hb dX10_sort__636 rfl (lv_at hl 18 rfl) ?_
                                                                  refine lv_iload (pc := 637) hx hb dX10_sort__637 (lv_at hl 0 rfl) ?_
                                                                  refine zald (pc := 639) hx hb hw hkL ⟨by omega, by omega⟩ (by omega) dX10_sort__639 ?_
                                                                  refine zast (pc := 640) hx hb hw hkL ⟨by omega, by omega⟩ (by omega) dX10_sort__640 (fun H locs hw => ?_)
                                                                  obtain ⟨X640, eX640⟩ : ∃ Y : zX, Y = up2 XL560 a x560.toNat (XL560 a x591.toNat) := ⟨_, rfl⟩
                                                                  rw [← eX640] at hw
                                                                  refine lv_aload_n (pc := 641) hx hb dX10_sort__641 rfl (lv_at hl 18 rfl) ?_
                                                                  refine lv_iload (pc := 642) hx hb dX10_sort__642 (lv_at hl 0 rfl) ?_
                                                                  refine lv_iload (pc := 644) hx hb dX10_sort__644 (lv_at hl 1 rfl) ?_
                                                                  refine zast (pc := 646) hx hb hw hkL ⟨by omega, by omega⟩ (by omega) dX10_sort__646 (fun H locs hw => ?_)
                                                                  obtain ⟨X646, eX646⟩ : ∃ Y : zX, Y = up2 X640 a x591.toNat x574 := ⟨_, rfl⟩
                                                                  rw [← eX646] at hw
                                                                  have hdN : True := trivial
                                                                  refine lv_goto (pc := 647) (tgt := 674) hx hb dX10_sort__647 (by decide) ?_
                                                                  refine lv_goto (pc := 674) (tgt := 560) hx hb dX10_sort__674 (by decide) ?_
                                                                  exact ih560 x560 uq x591 X646 _ _ (by first | exact hoD | (exact fun b hb => by rw [eX646, up2_o hb, eX629, up2_o hb, eX621, up2_o hb]; exact hoD b hb) | (exact fun b hb => by rw [eX646, up2_o hb, eX640, up2_o hb]; exact hoD b hb) | (exact fun b hb => by rw [eX673, up2_o hb, eX667, up2_o hb]; exact hoD b hb)) (by 
                                        rw [e6]
                                        first
                                        | (rw [show lr = kq - 1 by omega]; exact hd.none (by omega) (fun j g1 g2 => hbr j g1 (by omega)))
                                        | exact hd.same (by omega) (by rw [← e6, ← ex574]; omega)
                                        | (rw [show x615 = uq - 1 by omega]; exact hd.cyc (x := x591) ⟨by omega, by omega⟩ hak hbs c608 (by rw [eX646, up2_row, eX629, up2_row, eX621, up2_row, updF_o (show x591.toNat ≠ x560.toNat by omega), ← e6, show (uq - 1).toNat = x615.toNat by omega, ← ex574]))
                                        | exact hd.swap (x := x591) ⟨by omega, by omega⟩ hak hbs ⟨hgx, c608⟩ (by rw [eX646, up2_row, eX640, up2_row, ← e6, ← ex574])
                                        | (rw [show x661 = uq - 1 by omega]; exact hd.high (by omega) (by rw [← e6, ← ex574]; omega) (by rw [eX673, up2_row, eX667, up2_row, ← e6, show (uq - 1).toNat = x661.toNat by omega, ← ex574]))) (by omega) hw _ (lv_sub hl [2, 3, 4, 0, 5, 6, 7, 8, 9, 10, 11, 12, 13, 14, 15, 16, 17, 18, 19, 20] rfl)
                                                                · skip
                                                                  refine lv_aload_n (pc := 611) hx hb dX10_sort__611 rfl (lv_at hl 18 rfl) ?_
                                                                  refine lv_iload (pc := 612) hx hb dX10_sort__612 (lv_at hl 2 rfl) ?_
                                                                  refine lv_aload_n (pc := 614) hx hb dX10_sort__614 rfl (lv_at hl 18 rfl) ?_
                                                                  refine ziinc (pc := 615) (lv' := [(15, .int (iI (uq + (-1)))), (14, .int (iI x591)), (20, .int (iI x574)), (19, .int (iI x560)), (18, .int (iI x546)), (17, .int (iI x498)), (16, .int (iI x492)), (13, .int (iI x163)), (12, .int (iI x157)), (11, .int (iI x148)), (10, .int (iI x139)), (9, .int (iI x130)), (8, .int (iI x123)), (7, .int (iI x117)), (2, .int (iI x91)), (6, .int (iI x10)), (5, .int (iI x4)), (0, .null), (1, .ref a), (3, .int (iI lo)), (4, .int (iI hh))]) hx hb 3 dX10_sort__615 hl rfl (by decide) rfl (fun ls hl => ?_)
                                                                  obtain ⟨x615, ex615⟩ : ∃ zz : Int, zz = (uq + (-1)) := ⟨_, rfl⟩
                                                                  rw [← ex615] at hl
                                                                  refine lv_iload (pc := 618) hx hb dX10_sort__618 (lv_at hl 0 rfl) ?_
                                                                  refine zald (pc := 620) hx hb hw hkL ⟨by omega, by omega⟩ (by omega) dX10_sort__620 ?_
                                                                  refine zast (pc := 621) hx hb hw hkL ⟨by omega, by omega⟩ (by omega) dX10_sort__621 (fun H locs hw => ?_)
                                                                  obtain ⟨X621, eX621⟩ : ∃ Y : zX, Y = up2 XL560 a x560.toNat (XL560 a x615.toNat) := ⟨_, rfl⟩
                                                                  rw [← eX621] at hw
                                                                  refine lv_aload_n (pc := 622) hx hb dX10_sort__622 rfl (lv_at hl 18 rfl) ?_
                                                                  refine lv_iload (pc := 623) hx hb dX10_sort__623 (lv_at hl 0 rfl) ?_
                                                                  refine lv_aload_n (pc := 625) hx hb dX10_sort__625 rfl (lv_at hl 18 rfl) ?_
                                                                  refine lv_iload (pc := 626) hx hb dX10_sort__626 (lv_at hl 1 rfl) ?_
                                                                  refine zald (pc := 628) hx hb hw hkL ⟨by omega, by omega⟩ (by omega) dX10_sort__628 ?_
                                                                  refine zast (pc := 629) hx hb hw hkL ⟨by omega, by omega⟩ (by omega) dX10_sort__629 (fun H locs hw => ?_)
                                                                  obtain ⟨X629, eX629⟩ : ∃ Y : zX, Y = up2 X621 a x615.toNat (X621 a x591.toNat) := ⟨_, rfl⟩
                                                                  rw [← eX629] at hw
                                                                  refine lv_goto (pc := 630) (tgt := 641) hx hb dX10_sort__630 (by decide) ?_
                                                                  refine lv_aload_n (pc := 641) hx hb dX10_sort__641 rfl (lv_at hl 18 rfl) ?_
                                                                  refine lv_iload (pc := 642) hx hb dX10_sort__642 (lv_at hl 1 rfl) ?_
                                                                  refine lv_iload (pc := 644) hx hb dX10_sort__644 (lv_at hl 2 rfl) ?_
                                                                  refine zast (pc := 646) hx hb hw hkL ⟨by omega, by omega⟩ (by omega) dX10_sort__646 (fun H locs hw => ?_)
                                                                  obtain ⟨X646, eX646⟩ : ∃ Y : zX, Y = up2 X629 a x591.toNat x574 := ⟨_, rfl⟩
                                                                  rw [← eX646] at hw
                                                                  have hdN : True := trivial
                                                                  refine lv_goto (pc := 647) (tgt := 674) hx hb dX10_sort__647 (by decide) ?_
                                                                  refine lv_goto (pc := 674) (tgt := 560) hx hb dX10_sort__674 (by decide) ?_
                                                                  exact ih560 x560 x615 x591 X646 _ _ (by first | exact hoD | (exact fun b hb => by rw [eX646, up2_o hb, eX629, up2_o hb, eX621, up2_o hb]; exact hoD b hb) | (exact fun b hb => by rw [eX646, up2_o hb, eX640, up2_o hb]; exact hoD b hb) | (exact fun b hb => by rw [eX673, up2_o hb, eX667, up2_o hb]; exact hoD b hb)) (by 
                                        rw [e6]
                                        first
                                        | (rw [show lr = kq - 1 by omega]; exact hd.none (by omega) (fun j g1 g2 => hbr j g1 (by omega)))
                                        | exact hd.same (by omega) (by rw [← e6, ← ex574]; omega)
                                        | (rw [show x615 = uq - 1 by omega]; exact hd.cyc (x := x591) ⟨by omega, by omega⟩ hak hbs c608 (by rw [eX646, up2_row, eX629, up2_row, eX621, up2_row, updF_o (show x591.toNat ≠ x560.toNat by omega), ← e6, show (uq - 1).toNat = x615.toNat by omega, ← ex574]))
                                        | exact hd.swap (x := x591) ⟨by omega, by omega⟩ hak hbs ⟨hgx, c608⟩ (by rw [eX646, up2_row, eX640, up2_row, ← e6, ← ex574])
                                        | (rw [show x661 = uq - 1 by omega]; exact hd.high (by omega) (by rw [← e6, ← ex574]; omega) (by rw [eX673, up2_row, eX667, up2_row, ← e6, show (uq - 1).toNat = x661.toNat by omega, ← ex574]))) (by omega) hw _ (lv_sub hl [3, 0, 4, 1, 5, 6, 7, 8, 9, 10, 11, 12, 13, 14, 15, 16, 17, 18, 19, 20] rfl)
                                                        exact lp583 _ lq _ _ (by (first | assumption | omega)) (by exact hd.2.2.1) (Nat.lt_succ_self _) hw _ (lv_sub hl [0, 1, 2, 3, 4, 5, 6, 7, 8, 9, 10, 11, 12, 13, 14, 15, 16, 17, 18, 19, 20] rfl)
                                                exact lp560 _ x553 x553 x546 X515 _ _ (by exact fun b hb => by rw [eX515, up2_o hb, eX507, up2_o hb]; exact hoN b hb) (by refine ⟨by omega, ?_, fun j g1 g2 => h1w j g1 (by omega), fun j g1 g2 => h2w j (by omega) g2, fun j g1 g2 g3 => by omega⟩; rw [show x4 + 1 = hh by omega]; exact hVS) (Nat.lt_succ_self _) hw _ (lv_sub hl [0, 1, 2, 3, 4, 5, 6, 7, 8, 9, 10, 11, 12, 13, 14, 15, 16, 17, 18, 19] rfl)
                                              · skip
                                                have hne9 : x532 ≠ x139 := fun g => by rw [g] at c540; omega
                                                have h2W : ∀ j : Nat, x532 ≤ j → (j : Int) < x4 → x498 < X515 a j := fun j g1 g2 => by
                                                  by_cases g : (j : Int) = x532
                                                  · rw [show j = x532.toNat by omega]; exact c540
                                                  · exact h2w j (by omega) g2
                                                refine lv_goto (pc := 543) (tgt := 531) hx hb dX10_sort__543 (by decide) ?_
                                                exact ih531 x532 _ _ (by (first | assumption | omega)) (by exact h2W) (by omega) hw _ (lv_sub hl [1, 2, 3, 0, 4, 5, 6, 7, 8, 9, 10, 11, 12, 13, 14, 15, 16, 17] rfl)
                                          exact lp531 _ x4 _ _ (by (first | assumption | omega)) (by intro j g1 g2; omega) (Nat.lt_succ_self _) hw _ (lv_sub hl [0, 1, 2, 3, 4, 5, 6, 7, 8, 9, 10, 11, 12, 13, 14, 15, 16, 17] rfl)
                                        · skip
                                          have hne9 : x517 ≠ x139 := fun g => by rw [g] at c525; omega
                                          have h1W : ∀ j : Nat, lo < j → (j : Int) ≤ x517 → X515 a j < x492 := fun j g1 g2 => by
                                            by_cases g : (j : Int) = x517
                                            · rw [show j = x517.toNat by omega]; exact c525
                                            · exact h1w j g1 (by omega)
                                          refine lv_goto (pc := 528) (tgt := 516) hx hb dX10_sort__528 (by decide) ?_
                                          exact ih516 x517 _ _ (by (first | assumption | omega)) (by exact h1W) (by omega) hw _ (lv_sub hl [1, 2, 3, 0, 4, 5, 6, 7, 8, 9, 10, 11, 12, 13, 14, 15, 16, 17] rfl)
                                    exact lp516 _ lo _ _ (by (first | assumption | omega)) (by intro j g1 g2; omega) (Nat.lt_succ_self _) hw _ (lv_sub hl [0, 1, 2, 3, 4, 5, 6, 7, 8, 9, 10, 11, 12, 13, 14, 15, 16, 17] rfl)
                          refine lv_iload (pc := 320) hx hb dX10_sort__320 (lv_at hl 0 rfl) ?_
                          refine lv_aload_n (pc := 322) hx hb dX10_sort__322 rfl (lv_at hl 11 rfl) ?_
                          refine lv_iload (pc := 323) hx hb dX10_sort__323 (lv_at hl 2 rfl) ?_
                          refine zald (pc := 325) hx hb hw hkL ⟨by omega, by omega⟩ (by omega) dX10_sort__325 ?_
                          have hfi := hfN x148.toNat (by omega) (by omega)
                          have hf3 := hfN x139.toNat (by omega) (by omega)
                          rw [h3N] at hf3
                          refine zicmp_ge (pc := 326) hx hb 380 (by omega) (by omega) dX10_sort__326 (by decide) (fun c326 => ?_) (fun c326 => ?_)
                          · skip
                            refine lv_iload (pc := 380) hx hb dX10_sort__380 (lv_at hl 0 rfl) ?_
                            refine lv_aload_n (pc := 382) hx hb dX10_sort__382 rfl (lv_at hl 11 rfl) ?_
                            refine lv_iload (pc := 383) hx hb dX10_sort__383 (lv_at hl 1 rfl) ?_
                            refine zald (pc := 385) hx hb hw hkL ⟨by omega, by omega⟩ (by omega) dX10_sort__385 ?_
                            have hfi := hfN x157.toNat (by omega) (by omega)
                            have hf3 := hfN x139.toNat (by omega) (by omega)
                            rw [h3N] at hf3
                            refine zicmp_le (pc := 386) hx hb 437 (by omega) (by omega) dX10_sort__386 (by decide) (fun c386 => ?_) (fun c386 => ?_)
                            · skip
                              exact jn437_7 Xjn320_6 _ _ (by first | exact hoN | (exact fun b hb => by rw [eX359, up2_o hb, eX353, up2_o hb, eX345, up2_o hb]; exact hoN b hb) | (exact fun b hb => by rw [eX376, up2_o hb, eX370, up2_o hb]; exact hoN b hb) | (exact fun b hb => by rw [eX419, up2_o hb, eX413, up2_o hb, eX405, up2_o hb]; exact hoN b hb) | (exact fun b hb => by rw [eX436, up2_o hb, eX430, up2_o hb]; exact hoN b hb)) (by first | exact hsN | (rw [eX359, up2_row, eX353, up2_row, eX345, up2_row, updF_o (show x123.toNat ≠ x139.toNat by omega), ← h3N]; exact hsN.cyc ⟨by omega, by omega⟩ ⟨by omega, by omega⟩ ⟨by omega, by omega⟩ (by omega) (by omega)) | (rw [eX376, up2_row, eX370, up2_row, ← h3N]; exact hsN.step ⟨by omega, by omega⟩ ⟨by omega, by omega⟩) | (rw [eX419, up2_row, eX413, up2_row, eX405, up2_row, updF_o (show x130.toNat ≠ x139.toNat by omega), ← h3N]; exact hsN.cyc ⟨by omega, by omega⟩ ⟨by omega, by omega⟩ ⟨by omega, by omega⟩ (by omega) (by omega)) | (rw [eX436, up2_row, eX430, up2_row, ← h3N]; exact hsN.step ⟨by omega, by omega⟩ ⟨by omega, by omega⟩)) hw _ (lv_sub hl [0, 1, 2, 3, 4, 5, 6, 7, 8, 9, 10, 11, 12, 13] rfl)
                            · skip
                              refine lv_iload (pc := 389) hx hb dX10_sort__389 (lv_at hl 0 rfl) ?_
                              refine lv_aload_n (pc := 391) hx hb dX10_sort__391 rfl (lv_at hl 11 rfl) ?_
                              refine lv_iload (pc := 392) hx hb dX10_sort__392 (lv_at hl 4 rfl) ?_
                              refine zald (pc := 394) hx hb hw hkL ⟨by omega, by omega⟩ (by omega) dX10_sort__394 ?_
                              have hfi := hfN x130.toNat (by omega) (by omega)
                              have hf3 := hfN x139.toNat (by omega) (by omega)
                              rw [h3N] at hf3
                              refine zicmp_le (pc := 395) hx hb 423 (by omega) (by omega) dX10_sort__395 (by decide) (fun c395 => ?_) (fun c395 => ?_)
                              · skip
                                refine lv_aload_n (pc := 423) hx hb dX10_sort__423 rfl (lv_at hl 11 rfl) ?_
                                refine lv_iload (pc := 424) hx hb dX10_sort__424 (lv_at hl 3 rfl) ?_
                                refine lv_aload_n (pc := 426) hx hb dX10_sort__426 rfl (lv_at hl 11 rfl) ?_
                                refine lv_iload (pc := 427) hx hb dX10_sort__427 (lv_at hl 1 rfl) ?_
                                refine zald (pc := 429) hx hb hw hkL ⟨by omega, by omega⟩ (by omega) dX10_sort__429 ?_
                                refine zast (pc := 430) hx hb hw hkL ⟨by omega, by omega⟩ (by omega) dX10_sort__430 (fun H locs hw => ?_)
                                obtain ⟨X430, eX430⟩ : ∃ Y : zX, Y = up2 Xjn320_6 a x139.toNat (Xjn320_6 a x157.toNat) := ⟨_, rfl⟩
                                rw [← eX430] at hw
                                refine lv_aload_n (pc := 431) hx hb dX10_sort__431 rfl (lv_at hl 11 rfl) ?_
                                refine lv_iload (pc := 432) hx hb dX10_sort__432 (lv_at hl 1 rfl) ?_
                                refine lv_iload (pc := 434) hx hb dX10_sort__434 (lv_at hl 0 rfl) ?_
                                refine zast (pc := 436) hx hb hw hkL ⟨by omega, by omega⟩ (by omega) dX10_sort__436 (fun H locs hw => ?_)
                                obtain ⟨X436, eX436⟩ : ∃ Y : zX, Y = up2 X430 a x157.toNat x163 := ⟨_, rfl⟩
                                rw [← eX436] at hw
                                exact jn437_7 X436 _ _ (by first | exact hoN | (exact fun b hb => by rw [eX359, up2_o hb, eX353, up2_o hb, eX345, up2_o hb]; exact hoN b hb) | (exact fun b hb => by rw [eX376, up2_o hb, eX370, up2_o hb]; exact hoN b hb) | (exact fun b hb => by rw [eX419, up2_o hb, eX413, up2_o hb, eX405, up2_o hb]; exact hoN b hb) | (exact fun b hb => by rw [eX436, up2_o hb, eX430, up2_o hb]; exact hoN b hb)) (by first | exact hsN | (rw [eX359, up2_row, eX353, up2_row, eX345, up2_row, updF_o (show x123.toNat ≠ x139.toNat by omega), ← h3N]; exact hsN.cyc ⟨by omega, by omega⟩ ⟨by omega, by omega⟩ ⟨by omega, by omega⟩ (by omega) (by omega)) | (rw [eX376, up2_row, eX370, up2_row, ← h3N]; exact hsN.step ⟨by omega, by omega⟩ ⟨by omega, by omega⟩) | (rw [eX419, up2_row, eX413, up2_row, eX405, up2_row, updF_o (show x130.toNat ≠ x139.toNat by omega), ← h3N]; exact hsN.cyc ⟨by omega, by omega⟩ ⟨by omega, by omega⟩ ⟨by omega, by omega⟩ (by omega) (by omega)) | (rw [eX436, up2_row, eX430, up2_row, ← h3N]; exact hsN.step ⟨by omega, by omega⟩ ⟨by omega, by omega⟩)) hw _ (lv_sub hl [0, 1, 2, 3, 4, 5, 6, 7, 8, 9, 10, 11, 12, 13] rfl)
                              · skip
                                refine lv_aload_n (pc := 398) hx hb dX10_sort__398 rfl (lv_at hl 11 rfl) ?_
                                refine lv_iload (pc := 399) hx hb dX10_sort__399 (lv_at hl 3 rfl) ?_
                                refine lv_aload_n (pc := 401) hx hb dX10_sort__401 rfl (lv_at hl 11 rfl) ?_
                                refine lv_iload (pc := 402) hx hb dX10_sort__402 (lv_at hl 1 rfl) ?_
                                refine zald (pc := 404) hx hb hw hkL ⟨by omega, by omega⟩ (by omega) dX10_sort__404 ?_
                                refine zast (pc := 405) hx hb hw hkL ⟨by omega, by omega⟩ (by omega) dX10_sort__405 (fun H locs hw => ?_)
                                obtain ⟨X405, eX405⟩ : ∃ Y : zX, Y = up2 Xjn320_6 a x139.toNat (Xjn320_6 a x157.toNat) := ⟨_, rfl⟩
                                rw [← eX405] at hw
                                refine lv_aload_n (pc := 406) hx hb dX10_sort__406 rfl (lv_at hl 11 rfl) ?_
                                refine lv_iload (pc := 407) hx hb dX10_sort__407 (lv_at hl 1 rfl) ?_
                                refine lv_aload_n (pc := 409) hx hb dX10_sort__409 rfl (lv_at hl 11 rfl) ?_
                                refine lv_iload (pc := 410) hx hb dX10_sort__410 (lv_at hl 4 rfl) ?_
                                refine zald (pc := 412) hx hb hw hkL ⟨by omega, by omega⟩ (by omega) dX10_sort__412 ?_
                                refine zast (pc := 413) hx hb hw hkL ⟨by omega, by omega⟩ (by omega) dX10_sort__413 (fun H locs hw => ?_)
                                obtain ⟨X413, eX413⟩ : ∃ Y : zX, Y = up2 X405 a x157.toNat (X405 a x130.toNat) := ⟨_, rfl⟩
                                rw [← eX413] at hw
                                refine lv_aload_n (pc := 414) hx hb dX10_sort__414 rfl (lv_at hl 11 rfl) ?_
                                refine lv_iload (pc := 415) hx hb dX10_sort__415 (lv_at hl 4 rfl) ?_
                                refine lv_iload (pc := 417) hx hb dX10_sort__417 (lv_at hl 0 rfl) ?_
                                refine zast (pc := 419) hx hb hw hkL ⟨by omega, by omega⟩ (by omega) dX10_sort__419 (fun H locs hw => ?_)
                                obtain ⟨X419, eX419⟩ : ∃ Y : zX, Y = up2 X413 a x130.toNat x163 := ⟨_, rfl⟩
                                rw [← eX419] at hw
                                refine lv_goto (pc := 420) (tgt := 437) hx hb dX10_sort__420 (by decide) ?_
                                exact jn437_7 X419 _ _ (by first | exact hoN | (exact fun b hb => by rw [eX359, up2_o hb, eX353, up2_o hb, eX345, up2_o hb]; exact hoN b hb) | (exact fun b hb => by rw [eX376, up2_o hb, eX370, up2_o hb]; exact hoN b hb) | (exact fun b hb => by rw [eX419, up2_o hb, eX413, up2_o hb, eX405, up2_o hb]; exact hoN b hb) | (exact fun b hb => by rw [eX436, up2_o hb, eX430, up2_o hb]; exact hoN b hb)) (by first | exact hsN | (rw [eX359, up2_row, eX353, up2_row, eX345, up2_row, updF_o (show x123.toNat ≠ x139.toNat by omega), ← h3N]; exact hsN.cyc ⟨by omega, by omega⟩ ⟨by omega, by omega⟩ ⟨by omega, by omega⟩ (by omega) (by omega)) | (rw [eX376, up2_row, eX370, up2_row, ← h3N]; exact hsN.step ⟨by omega, by omega⟩ ⟨by omega, by omega⟩) | (rw [eX419, up2_row, eX413, up2_row, eX405, up2_row, updF_o (show x130.toNat ≠ x139.toNat by omega), ← h3N]; exact hsN.cyc ⟨by omega, by omega⟩ ⟨by omega, by omega⟩ ⟨by omega, by omega⟩ (by omega) (by omega)) | (rw [eX436, up2_row, eX430, up2_row, ← h3N]; exact hsN.step ⟨by omega, by omega⟩ ⟨by omega, by omega⟩)) hw _ (lv_sub hl [0, 1, 2, 3, 4, 5, 6, 7, 8, 9, 10, 11, 12, 13] rfl)
                          · skip
                            refine lv_iload (pc := 329) hx hb dX10_sort__329 (lv_at hl 0 rfl) ?_
                            refine lv_aload_n (pc := 331) hx hb dX10_sort__331 rfl (lv_at hl 11 rfl) ?_
                            refine lv_iload (pc := 332) hx hb dX10_sort__332 (lv_at hl 5 rfl) ?_
                            refine zald (pc := 334) hx hb hw hkL ⟨by omega, by omega⟩ (by omega) dX10_sort__334 ?_
                            have hfi := hfN x123.toNat (by omega) (by omega)
                            have hf3 := hfN x139.toNat (by omega) (by omega)
                            rw [h3N] at hf3
                            refine zicmp_ge (pc := 335) hx hb 363 (by omega) (by omega) dX10_sort__335 (by decide) (fun c335 => ?_) (fun c335 => ?_)
                            · skip
                              refine lv_aload_n (pc := 363) hx hb dX10_sort__363 rfl (lv_at hl 11 rfl) ?_
                              refine lv_iload (pc := 364) hx hb dX10_sort__364 (lv_at hl 3 rfl) ?_
                              refine lv_aload_n (pc := 366) hx hb dX10_sort__366 rfl (lv_at hl 11 rfl) ?_
                              refine lv_iload (pc := 367) hx hb dX10_sort__367 (lv_at hl 2 rfl) ?_
                              refine zald (pc := 369) hx hb hw hkL ⟨by omega, by omega⟩ (by omega) dX10_sort__369 ?_
                              refine zast (pc := 370) hx hb hw hkL ⟨by omega, by omega⟩ (by omega) dX10_sort__370 (fun H locs hw => ?_)
                              obtain ⟨X370, eX370⟩ : ∃ Y : zX, Y = up2 Xjn320_6 a x139.toNat (Xjn320_6 a x148.toNat) := ⟨_, rfl⟩
                              rw [← eX370] at hw
                              refine lv_aload_n (pc := 371) hx hb dX10_sort__371 rfl (lv_at hl 11 rfl) ?_
                              refine lv_iload (pc := 372) hx hb dX10_sort__372 (lv_at hl 2 rfl) ?_
                              refine lv_iload (pc := 374) hx hb dX10_sort__374 (lv_at hl 0 rfl) ?_
                              refine zast (pc := 376) hx hb hw hkL ⟨by omega, by omega⟩ (by omega) dX10_sort__376 (fun H locs hw => ?_)
                              obtain ⟨X376, eX376⟩ : ∃ Y : zX, Y = up2 X370 a x148.toNat x163 := ⟨_, rfl⟩
                              rw [← eX376] at hw
                              refine lv_goto (pc := 377) (tgt := 437) hx hb dX10_sort__377 (by decide) ?_
                              exact jn437_7 X376 _ _ (by first | exact hoN | (exact fun b hb => by rw [eX359, up2_o hb, eX353, up2_o hb, eX345, up2_o hb]; exact hoN b hb) | (exact fun b hb => by rw [eX376, up2_o hb, eX370, up2_o hb]; exact hoN b hb) | (exact fun b hb => by rw [eX419, up2_o hb, eX413, up2_o hb, eX405, up2_o hb]; exact hoN b hb) | (exact fun b hb => by rw [eX436, up2_o hb, eX430, up2_o hb]; exact hoN b hb)) (by first | exact hsN | (rw [eX359, up2_row, eX353, up2_row, eX345, up2_row, updF_o (show x123.toNat ≠ x139.toNat by omega), ← h3N]; exact hsN.cyc ⟨by omega, by omega⟩ ⟨by omega, by omega⟩ ⟨by omega, by omega⟩ (by omega) (by omega)) | (rw [eX376, up2_row, eX370, up2_row, ← h3N]; exact hsN.step ⟨by omega, by omega⟩ ⟨by omega, by omega⟩) | (rw [eX419, up2_row, eX413, up2_row, eX405, up2_row, updF_o (show x130.toNat ≠ x139.toNat by omega), ← h3N]; exact hsN.cyc ⟨by omega, by omega⟩ ⟨by omega, by omega⟩ ⟨by omega, by omega⟩ (by omega) (by omega)) | (rw [eX436, up2_row, eX430, up2_row, ← h3N]; exact hsN.step ⟨by omega, by omega⟩ ⟨by omega, by omega⟩)) hw _ (lv_sub hl [0, 1, 2, 3, 4, 5, 6, 7, 8, 9, 10, 11, 12, 13] rfl)
                            · skip
                              refine lv_aload_n (pc := 338) hx hb dX10_sort__338 rfl (lv_at hl 11 rfl) ?_
                              refine lv_iload (pc := 339) hx hb dX10_sort__339 (lv_at hl 3 rfl) ?_
                              refine lv_aload_n (pc := 341) hx hb dX10_sort__341 rfl (lv_at hl 11 rfl) ?_
                              refine lv_iload (pc := 342) hx hb dX10_sort__342 (lv_at hl 2 rfl) ?_
                              refine zald (pc := 344) hx hb hw hkL ⟨by omega, by omega⟩ (by omega) dX10_sort__344 ?_
                              refine zast (pc := 345) hx hb hw hkL ⟨by omega, by omega⟩ (by omega) dX10_sort__345 (fun H locs hw => ?_)
                              obtain ⟨X345, eX345⟩ : ∃ Y : zX, Y = up2 Xjn320_6 a x139.toNat (Xjn320_6 a x148.toNat) := ⟨_, rfl⟩
                              rw [← eX345] at hw
                              refine lv_aload_n (pc := 346) hx hb dX10_sort__346 rfl (lv_at hl 11 rfl) ?_
                              refine lv_iload (pc := 347) hx hb dX10_sort__347 (lv_at hl 2 rfl) ?_
                              refine lv_aload_n (pc := 349) hx hb dX10_sort__349 rfl (lv_at hl 11 rfl) ?_
                              refine lv_iload (pc := 350) hx hb dX10_sort__350 (lv_at hl 5 rfl) ?_
                              refine zald (pc := 352) hx hb hw hkL ⟨by omega, by omega⟩ (by omega) dX10_sort__352 ?_
                              refine zast (pc := 353) hx hb hw hkL ⟨by omega, by omega⟩ (by omega) dX10_sort__353 (fun H locs hw => ?_)
                              obtain ⟨X353, eX353⟩ : ∃ Y : zX, Y = up2 X345 a x148.toNat (X345 a x123.toNat) := ⟨_, rfl⟩
                              rw [← eX353] at hw
                              refine lv_aload_n (pc := 354) hx hb dX10_sort__354 rfl (lv_at hl 11 rfl) ?_
                              refine lv_iload (pc := 355) hx hb dX10_sort__355 (lv_at hl 5 rfl) ?_
                              refine lv_iload (pc := 357) hx hb dX10_sort__357 (lv_at hl 0 rfl) ?_
                              refine zast (pc := 359) hx hb hw hkL ⟨by omega, by omega⟩ (by omega) dX10_sort__359 (fun H locs hw => ?_)
                              obtain ⟨X359, eX359⟩ : ∃ Y : zX, Y = up2 X353 a x123.toNat x163 := ⟨_, rfl⟩
                              rw [← eX359] at hw
                              refine lv_goto (pc := 360) (tgt := 437) hx hb dX10_sort__360 (by decide) ?_
                              exact jn437_7 X359 _ _ (by first | exact hoN | (exact fun b hb => by rw [eX359, up2_o hb, eX353, up2_o hb, eX345, up2_o hb]; exact hoN b hb) | (exact fun b hb => by rw [eX376, up2_o hb, eX370, up2_o hb]; exact hoN b hb) | (exact fun b hb => by rw [eX419, up2_o hb, eX413, up2_o hb, eX405, up2_o hb]; exact hoN b hb) | (exact fun b hb => by rw [eX436, up2_o hb, eX430, up2_o hb]; exact hoN b hb)) (by first | exact hsN | (rw [eX359, up2_row, eX353, up2_row, eX345, up2_row, updF_o (show x123.toNat ≠ x139.toNat by omega), ← h3N]; exact hsN.cyc ⟨by omega, by omega⟩ ⟨by omega, by omega⟩ ⟨by omega, by omega⟩ (by omega) (by omega)) | (rw [eX376, up2_row, eX370, up2_row, ← h3N]; exact hsN.step ⟨by omega, by omega⟩ ⟨by omega, by omega⟩) | (rw [eX419, up2_row, eX413, up2_row, eX405, up2_row, updF_o (show x130.toNat ≠ x139.toNat by omega), ← h3N]; exact hsN.cyc ⟨by omega, by omega⟩ ⟨by omega, by omega⟩ ⟨by omega, by omega⟩ (by omega) (by omega)) | (rw [eX436, up2_row, eX430, up2_row, ← h3N]; exact hsN.step ⟨by omega, by omega⟩ ⟨by omega, by omega⟩)) hw _ (lv_sub hl [0, 1, 2, 3, 4, 5, 6, 7, 8, 9, 10, 11, 12, 13] rfl)
                        refine lv_aload_n (pc := 289) hx hb dX10_sort__289 rfl (lv_at hl 11 rfl) ?_
                        refine lv_iload (pc := 290) hx hb dX10_sort__290 (lv_at hl 1 rfl) ?_
                        refine zald (pc := 292) hx hb hw hkL ⟨by omega, by omega⟩ (by omega) dX10_sort__292 ?_
                        refine lv_aload_n (pc := 293) hx hb dX10_sort__293 rfl (lv_at hl 11 rfl) ?_
                        refine lv_iload (pc := 294) hx hb dX10_sort__294 (lv_at hl 2 rfl) ?_
                        refine zald (pc := 296) hx hb hw hkL ⟨by omega, by omega⟩ (by omega) dX10_sort__296 ?_
                        have hfi := hfN x157.toNat (by omega) (by omega)
                        have hfj := hfN x148.toNat (by omega) (by omega)
                        refine zicmp_ge (pc := 297) hx hb 320 (by omega) (by omega) dX10_sort__297 (by decide) (fun c297 => ?_) (fun c297 => ?_)
                        · skip
                          exact jn320_6 Xjn289_5 _ _ (by first | exact hoN | exact fun b hb => by rw [eX319, up2_o hb, eX313, up2_o hb]; exact hoN b hb) (by first | exact hsN | (rw [eX319, up2_row, eX313, up2_row, ex304]; exact hsN.step ⟨by omega, by omega⟩ ⟨by omega, by omega⟩)) (by first | exact h3N | exact h3M | (rw [eX319, up2_row, eX313, up2_row, updF_o (by omega), updF_o (by omega)]; exact h3N)) hw _ (lv_sub hl [0, 1, 2, 3, 4, 5, 6, 7, 8, 9, 10, 11, 12, 13] rfl)
                        · skip
                          refine lv_aload_n (pc := 300) hx hb dX10_sort__300 rfl (lv_at hl 11 rfl) ?_
                          refine lv_iload (pc := 301) hx hb dX10_sort__301 (lv_at hl 1 rfl) ?_
                          refine zald (pc := 303) hx hb hw hkL ⟨by omega, by omega⟩ (by omega) dX10_sort__303 ?_
                          refine ztop (fun x304 ex304 => ?_)
                          refine lv_istore (pc := 304) (lv' := [(14, .int (iI x304)), (13, .int (iI x163)), (12, .int (iI x157)), (11, .int (iI x148)), (10, .int (iI x139)), (9, .int (iI x130)), (8, .int (iI x123)), (7, .int (iI x117)), (2, .int (iI x91)), (6, .int (iI x10)), (5, .int (iI x4)), (0, .null), (1, .ref a), (3, .int (iI lo)), (4, .int (iI hh))]) hx hb dX10_sort__304 hl (by decide) rfl (fun ls hl => ?_)
                          refine lv_aload_n (pc := 306) hx hb dX10_sort__306 rfl (lv_at hl 12 rfl) ?_
                          refine lv_iload (pc := 307) hx hb dX10_sort__307 (lv_at hl 2 rfl) ?_
                          refine lv_aload_n (pc := 309) hx hb dX10_sort__309 rfl (lv_at hl 12 rfl) ?_
                          refine lv_iload (pc := 310) hx hb dX10_sort__310 (lv_at hl 3 rfl) ?_
                          refine zald (pc := 312) hx hb hw hkL ⟨by omega, by omega⟩ (by omega) dX10_sort__312 ?_
                          refine zast (pc := 313) hx hb hw hkL ⟨by omega, by omega⟩ (by omega) dX10_sort__313 (fun H locs hw => ?_)
                          obtain ⟨X313, eX313⟩ : ∃ Y : zX, Y = up2 Xjn289_5 a x157.toNat (Xjn289_5 a x148.toNat) := ⟨_, rfl⟩
                          rw [← eX313] at hw
                          refine lv_aload_n (pc := 314) hx hb dX10_sort__314 rfl (lv_at hl 12 rfl) ?_
                          refine lv_iload (pc := 315) hx hb dX10_sort__315 (lv_at hl 3 rfl) ?_
                          refine lv_iload (pc := 317) hx hb dX10_sort__317 (lv_at hl 0 rfl) ?_
                          refine zast (pc := 319) hx hb hw hkL ⟨by omega, by omega⟩ (by omega) dX10_sort__319 (fun H locs hw => ?_)
                          obtain ⟨X319, eX319⟩ : ∃ Y : zX, Y = up2 X313 a x148.toNat x304 := ⟨_, rfl⟩
                          rw [← eX319] at hw
                          exact jn320_6 X319 _ _ (by first | exact hoN | exact fun b hb => by rw [eX319, up2_o hb, eX313, up2_o hb]; exact hoN b hb) (by first | exact hsN | (rw [eX319, up2_row, eX313, up2_row, ex304]; exact hsN.step ⟨by omega, by omega⟩ ⟨by omega, by omega⟩)) (by first | exact h3N | exact h3M | (rw [eX319, up2_row, eX313, up2_row, updF_o (by omega), updF_o (by omega)]; exact h3N)) hw _ (lv_sub hl [1, 2, 3, 4, 5, 6, 7, 8, 9, 10, 11, 12, 13, 14] rfl)
                      refine lv_aload_n (pc := 258) hx hb dX10_sort__258 rfl (lv_at hl 11 rfl) ?_
                      refine lv_iload (pc := 259) hx hb dX10_sort__259 (lv_at hl 2 rfl) ?_
                      refine zald (pc := 261) hx hb hw hkL ⟨by omega, by omega⟩ (by omega) dX10_sort__261 ?_
                      refine lv_aload_n (pc := 262) hx hb dX10_sort__262 rfl (lv_at hl 11 rfl) ?_
                      refine lv_iload (pc := 263) hx hb dX10_sort__263 (lv_at hl 5 rfl) ?_
                      refine zald (pc := 265) hx hb hw hkL ⟨by omega, by omega⟩ (by omega) dX10_sort__265 ?_
                      have hfi := hfN x148.toNat (by omega) (by omega)
                      have hfj := hfN x123.toNat (by omega) (by omega)
                      refine zicmp_ge (pc := 266) hx hb 289 (by omega) (by omega) dX10_sort__266 (by decide) (fun c266 => ?_) (fun c266 => ?_)
                      · skip
                        exact jn289_5 Xjn258_4 _ _ (by first | exact hoN | exact fun b hb => by rw [eX288, up2_o hb, eX282, up2_o hb]; exact hoN b hb) (by first | exact hsN | (rw [eX288, up2_row, eX282, up2_row, ex273]; exact hsN.step ⟨by omega, by omega⟩ ⟨by omega, by omega⟩)) (by first | exact h3N | exact h3M | (rw [eX288, up2_row, eX282, up2_row, updF_o (by omega), updF_o (by omega)]; exact h3N)) hw _ (lv_sub hl [0, 1, 2, 3, 4, 5, 6, 7, 8, 9, 10, 11, 12, 13] rfl)
                      · skip
                        refine lv_aload_n (pc := 269) hx hb dX10_sort__269 rfl (lv_at hl 11 rfl) ?_
                        refine lv_iload (pc := 270) hx hb dX10_sort__270 (lv_at hl 2 rfl) ?_
                        refine zald (pc := 272) hx hb hw hkL ⟨by omega, by omega⟩ (by omega) dX10_sort__272 ?_
                        refine ztop (fun x273 ex273 => ?_)
                        refine lv_istore (pc := 273) (lv' := [(14, .int (iI x273)), (13, .int (iI x163)), (12, .int (iI x157)), (11, .int (iI x148)), (10, .int (iI x139)), (9, .int (iI x130)), (8, .int (iI x123)), (7, .int (iI x117)), (2, .int (iI x91)), (6, .int (iI x10)), (5, .int (iI x4)), (0, .null), (1, .ref a), (3, .int (iI lo)), (4, .int (iI hh))]) hx hb dX10_sort__273 hl (by decide) rfl (fun ls hl => ?_)
                        refine lv_aload_n (pc := 275) hx hb dX10_sort__275 rfl (lv_at hl 12 rfl) ?_
                        refine lv_iload (pc := 276) hx hb dX10_sort__276 (lv_at hl 3 rfl) ?_
                        refine lv_aload_n (pc := 278) hx hb dX10_sort__278 rfl (lv_at hl 12 rfl) ?_
                        refine lv_iload (pc := 279) hx hb dX10_sort__279 (lv_at hl 6 rfl) ?_
                        refine zald (pc := 281) hx hb hw hkL ⟨by omega, by omega⟩ (by omega) dX10_sort__281 ?_
                        refine zast (pc := 282) hx hb hw hkL ⟨by omega, by omega⟩ (by omega) dX10_sort__282 (fun H locs hw => ?_)
                        obtain ⟨X282, eX282⟩ : ∃ Y : zX, Y = up2 Xjn258_4 a x148.toNat (Xjn258_4 a x123.toNat) := ⟨_, rfl⟩
                        rw [← eX282] at hw
                        refine lv_aload_n (pc := 283) hx hb dX10_sort__283 rfl (lv_at hl 12 rfl) ?_
                        refine lv_iload (pc := 284) hx hb dX10_sort__284 (lv_at hl 6 rfl) ?_
                        refine lv_iload (pc := 286) hx hb dX10_sort__286 (lv_at hl 0 rfl) ?_
                        refine zast (pc := 288) hx hb hw hkL ⟨by omega, by omega⟩ (by omega) dX10_sort__288 (fun H locs hw => ?_)
                        obtain ⟨X288, eX288⟩ : ∃ Y : zX, Y = up2 X282 a x123.toNat x273 := ⟨_, rfl⟩
                        rw [← eX288] at hw
                        exact jn289_5 X288 _ _ (by first | exact hoN | exact fun b hb => by rw [eX288, up2_o hb, eX282, up2_o hb]; exact hoN b hb) (by first | exact hsN | (rw [eX288, up2_row, eX282, up2_row, ex273]; exact hsN.step ⟨by omega, by omega⟩ ⟨by omega, by omega⟩)) (by first | exact h3N | exact h3M | (rw [eX288, up2_row, eX282, up2_row, updF_o (by omega), updF_o (by omega)]; exact h3N)) hw _ (lv_sub hl [1, 2, 3, 4, 5, 6, 7, 8, 9, 10, 11, 12, 13, 14] rfl)
                    refine lv_aload_n (pc := 227) hx hb dX10_sort__227 rfl (lv_at hl 11 rfl) ?_
                    refine lv_iload (pc := 228) hx hb dX10_sort__228 (lv_at hl 4 rfl) ?_
                    refine zald (pc := 230) hx hb hw hkL ⟨by omega, by omega⟩ (by omega) dX10_sort__230 ?_
                    refine lv_aload_n (pc := 231) hx hb dX10_sort__231 rfl (lv_at hl 11 rfl) ?_
                    refine lv_iload (pc := 232) hx hb dX10_sort__232 (lv_at hl 1 rfl) ?_
                    refine zald (pc := 234) hx hb hw hkL ⟨by omega, by omega⟩ (by omega) dX10_sort__234 ?_
                    have hfi := hfN x130.toNat (by omega) (by omega)
                    have hfj := hfN x157.toNat (by omega) (by omega)
                    refine zicmp_ge (pc := 235) hx hb 258 (by omega) (by omega) dX10_sort__235 (by decide) (fun c235 => ?_) (fun c235 => ?_)
                    · skip
                      exact jn258_4 Xjn227_3 _ _ (by first | exact hoN | exact fun b hb => by rw [eX257, up2_o hb, eX251, up2_o hb]; exact hoN b hb) (by first | exact hsN | (rw [eX257, up2_row, eX251, up2_row, ex242]; exact hsN.step ⟨by omega, by omega⟩ ⟨by omega, by omega⟩)) (by first | exact h3N | exact h3M | (rw [eX257, up2_row, eX251, up2_row, updF_o (by omega), updF_o (by omega)]; exact h3N)) hw _ (lv_sub hl [0, 1, 2, 3, 4, 5, 6, 7, 8, 9, 10, 11, 12, 13] rfl)
                    · skip
                      refine lv_aload_n (pc := 238) hx hb dX10_sort__238 rfl (lv_at hl 11 rfl) ?_
                      refine lv_iload (pc := 239) hx hb dX10_sort__239 (lv_at hl 4 rfl) ?_
                      refine zald (pc := 241) hx hb hw hkL ⟨by omega, by omega⟩ (by omega) dX10_sort__241 ?_
                      refine ztop (fun x242 ex242 => ?_)
                      refine lv_istore (pc := 242) (lv' := [(14, .int (iI x242)), (13, .int (iI x163)), (12, .int (iI x157)), (11, .int (iI x148)), (10, .int (iI x139)), (9, .int (iI x130)), (8, .int (iI x123)), (7, .int (iI x117)), (2, .int (iI x91)), (6, .int (iI x10)), (5, .int (iI x4)), (0, .null), (1, .ref a), (3, .int (iI lo)), (4, .int (iI hh))]) hx hb dX10_sort__242 hl (by decide) rfl (fun ls hl => ?_)
                      refine lv_aload_n (pc := 244) hx hb dX10_sort__244 rfl (lv_at hl 12 rfl) ?_
                      refine lv_iload (pc := 245) hx hb dX10_sort__245 (lv_at hl 5 rfl) ?_
                      refine lv_aload_n (pc := 247) hx hb dX10_sort__247 rfl (lv_at hl 12 rfl) ?_
                      refine lv_iload (pc := 248) hx hb dX10_sort__248 (lv_at hl 2 rfl) ?_
                      refine zald (pc := 250) hx hb hw hkL ⟨by omega, by omega⟩ (by omega) dX10_sort__250 ?_
                      refine zast (pc := 251) hx hb hw hkL ⟨by omega, by omega⟩ (by omega) dX10_sort__251 (fun H locs hw => ?_)
                      obtain ⟨X251, eX251⟩ : ∃ Y : zX, Y = up2 Xjn227_3 a x130.toNat (Xjn227_3 a x157.toNat) := ⟨_, rfl⟩
                      rw [← eX251] at hw
                      refine lv_aload_n (pc := 252) hx hb dX10_sort__252 rfl (lv_at hl 12 rfl) ?_
                      refine lv_iload (pc := 253) hx hb dX10_sort__253 (lv_at hl 2 rfl) ?_
                      refine lv_iload (pc := 255) hx hb dX10_sort__255 (lv_at hl 0 rfl) ?_
                      refine zast (pc := 257) hx hb hw hkL ⟨by omega, by omega⟩ (by omega) dX10_sort__257 (fun H locs hw => ?_)
                      obtain ⟨X257, eX257⟩ : ∃ Y : zX, Y = up2 X251 a x157.toNat x242 := ⟨_, rfl⟩
                      rw [← eX257] at hw
                      exact jn258_4 X257 _ _ (by first | exact hoN | exact fun b hb => by rw [eX257, up2_o hb, eX251, up2_o hb]; exact hoN b hb) (by first | exact hsN | (rw [eX257, up2_row, eX251, up2_row, ex242]; exact hsN.step ⟨by omega, by omega⟩ ⟨by omega, by omega⟩)) (by first | exact h3N | exact h3M | (rw [eX257, up2_row, eX251, up2_row, updF_o (by omega), updF_o (by omega)]; exact h3N)) hw _ (lv_sub hl [1, 2, 3, 4, 5, 6, 7, 8, 9, 10, 11, 12, 13, 14] rfl)
                  refine lv_aload_n (pc := 196) hx hb dX10_sort__196 rfl (lv_at hl 11 rfl) ?_
                  refine lv_iload (pc := 197) hx hb dX10_sort__197 (lv_at hl 1 rfl) ?_
                  refine zald (pc := 199) hx hb hw hkL ⟨by omega, by omega⟩ (by omega) dX10_sort__199 ?_
                  refine lv_aload_n (pc := 200) hx hb dX10_sort__200 rfl (lv_at hl 11 rfl) ?_
                  refine lv_iload (pc := 201) hx hb dX10_sort__201 (lv_at hl 5 rfl) ?_
                  refine zald (pc := 203) hx hb hw hkL ⟨by omega, by omega⟩ (by omega) dX10_sort__203 ?_
                  have hfi := hfN x157.toNat (by omega) (by omega)
                  have hfj := hfN x123.toNat (by omega) (by omega)
                  refine zicmp_ge (pc := 204) hx hb 227 (by omega) (by omega) dX10_sort__204 (by decide) (fun c204 => ?_) (fun c204 => ?_)
                  · skip
                    exact jn227_3 Xjn196_2 _ _ (by first | exact hoN | exact fun b hb => by rw [eX226, up2_o hb, eX220, up2_o hb]; exact hoN b hb) (by first | exact hsN | (rw [eX226, up2_row, eX220, up2_row, ex211]; exact hsN.step ⟨by omega, by omega⟩ ⟨by omega, by omega⟩)) (by first | exact h3N | exact h3M | (rw [eX226, up2_row, eX220, up2_row, updF_o (by omega), updF_o (by omega)]; exact h3N)) hw _ (lv_sub hl [0, 1, 2, 3, 4, 5, 6, 7, 8, 9, 10, 11, 12, 13] rfl)
                  · skip
                    refine lv_aload_n (pc := 207) hx hb dX10_sort__207 rfl (lv_at hl 11 rfl) ?_
                    refine lv_iload (pc := 208) hx hb dX10_sort__208 (lv_at hl 1 rfl) ?_
                    refine zald (pc := 210) hx hb hw hkL ⟨by omega, by omega⟩ (by omega) dX10_sort__210 ?_
                    refine ztop (fun x211 ex211 => ?_)
                    refine lv_istore (pc := 211) (lv' := [(14, .int (iI x211)), (13, .int (iI x163)), (12, .int (iI x157)), (11, .int (iI x148)), (10, .int (iI x139)), (9, .int (iI x130)), (8, .int (iI x123)), (7, .int (iI x117)), (2, .int (iI x91)), (6, .int (iI x10)), (5, .int (iI x4)), (0, .null), (1, .ref a), (3, .int (iI lo)), (4, .int (iI hh))]) hx hb dX10_sort__211 hl (by decide) rfl (fun ls hl => ?_)
                    refine lv_aload_n (pc := 213) hx hb dX10_sort__213 rfl (lv_at hl 12 rfl) ?_
                    refine lv_iload (pc := 214) hx hb dX10_sort__214 (lv_at hl 2 rfl) ?_
                    refine lv_aload_n (pc := 216) hx hb dX10_sort__216 rfl (lv_at hl 12 rfl) ?_
                    refine lv_iload (pc := 217) hx hb dX10_sort__217 (lv_at hl 6 rfl) ?_
                    refine zald (pc := 219) hx hb hw hkL ⟨by omega, by omega⟩ (by omega) dX10_sort__219 ?_
                    refine zast (pc := 220) hx hb hw hkL ⟨by omega, by omega⟩ (by omega) dX10_sort__220 (fun H locs hw => ?_)
                    obtain ⟨X220, eX220⟩ : ∃ Y : zX, Y = up2 Xjn196_2 a x157.toNat (Xjn196_2 a x123.toNat) := ⟨_, rfl⟩
                    rw [← eX220] at hw
                    refine lv_aload_n (pc := 221) hx hb dX10_sort__221 rfl (lv_at hl 12 rfl) ?_
                    refine lv_iload (pc := 222) hx hb dX10_sort__222 (lv_at hl 6 rfl) ?_
                    refine lv_iload (pc := 224) hx hb dX10_sort__224 (lv_at hl 0 rfl) ?_
                    refine zast (pc := 226) hx hb hw hkL ⟨by omega, by omega⟩ (by omega) dX10_sort__226 (fun H locs hw => ?_)
                    obtain ⟨X226, eX226⟩ : ∃ Y : zX, Y = up2 X220 a x123.toNat x211 := ⟨_, rfl⟩
                    rw [← eX226] at hw
                    exact jn227_3 X226 _ _ (by first | exact hoN | exact fun b hb => by rw [eX226, up2_o hb, eX220, up2_o hb]; exact hoN b hb) (by first | exact hsN | (rw [eX226, up2_row, eX220, up2_row, ex211]; exact hsN.step ⟨by omega, by omega⟩ ⟨by omega, by omega⟩)) (by first | exact h3N | exact h3M | (rw [eX226, up2_row, eX220, up2_row, updF_o (by omega), updF_o (by omega)]; exact h3N)) hw _ (lv_sub hl [1, 2, 3, 4, 5, 6, 7, 8, 9, 10, 11, 12, 13, 14] rfl)
                have h3M : Xjn91_1 a x139.toNat = x163 := ex163.symm
                have h3N := h3M
                refine lv_aload_n (pc := 165) hx hb dX10_sort__165 rfl (lv_at hl 11 rfl) ?_
                refine lv_iload (pc := 166) hx hb dX10_sort__166 (lv_at hl 4 rfl) ?_
                refine zald (pc := 168) hx hb hw hkL ⟨by omega, by omega⟩ (by omega) dX10_sort__168 ?_
                refine lv_aload_n (pc := 169) hx hb dX10_sort__169 rfl (lv_at hl 11 rfl) ?_
                refine lv_iload (pc := 170) hx hb dX10_sort__170 (lv_at hl 2 rfl) ?_
                refine zald (pc := 172) hx hb hw hkL ⟨by omega, by omega⟩ (by omega) dX10_sort__172 ?_
                have hfi := hfN x130.toNat (by omega) (by omega)
                have hfj := hfN x148.toNat (by omega) (by omega)
                refine zicmp_ge (pc := 173) hx hb 196 (by omega) (by omega) dX10_sort__173 (by decide) (fun c173 => ?_) (fun c173 => ?_)
                · skip
                  exact jn196_2 Xjn91_1 _ _ (by first | exact hoN | exact fun b hb => by rw [eX195, up2_o hb, eX189, up2_o hb]; exact hoN b hb) (by first | exact hsN | (rw [eX195, up2_row, eX189, up2_row, ex180]; exact hsN.step ⟨by omega, by omega⟩ ⟨by omega, by omega⟩)) (by first | exact h3N | exact h3M | (rw [eX195, up2_row, eX189, up2_row, updF_o (by omega), updF_o (by omega)]; exact h3N)) hw _ (lv_sub hl [0, 1, 2, 3, 4, 5, 6, 7, 8, 9, 10, 11, 12, 13] rfl)
                · skip
                  refine lv_aload_n (pc := 176) hx hb dX10_sort__176 rfl (lv_at hl 11 rfl) ?_
                  refine lv_iload (pc := 177) hx hb dX10_sort__177 (lv_at hl 4 rfl) ?_
                  refine zald (pc := 179) hx hb hw hkL ⟨by omega, by omega⟩ (by omega) dX10_sort__179 ?_
                  refine ztop (fun x180 ex180 => ?_)
                  refine lv_istore (pc := 180) (lv' := [(14, .int (iI x180)), (13, .int (iI x163)), (12, .int (iI x157)), (11, .int (iI x148)), (10, .int (iI x139)), (9, .int (iI x130)), (8, .int (iI x123)), (7, .int (iI x117)), (2, .int (iI x91)), (6, .int (iI x10)), (5, .int (iI x4)), (0, .null), (1, .ref a), (3, .int (iI lo)), (4, .int (iI hh))]) hx hb dX10_sort__180 hl (by decide) rfl (fun ls hl => ?_)
                  refine lv_aload_n (pc := 182) hx hb dX10_sort__182 rfl (lv_at hl 12 rfl) ?_
                  refine lv_iload (pc := 183) hx hb dX10_sort__183 (lv_at hl 5 rfl) ?_
                  refine lv_aload_n (pc := 185) hx hb dX10_sort__185 rfl (lv_at hl 12 rfl) ?_
                  refine lv_iload (pc := 186) hx hb dX10_sort__186 (lv_at hl 3 rfl) ?_
                  refine zald (pc := 188) hx hb hw hkL ⟨by omega, by omega⟩ (by omega) dX10_sort__188 ?_
                  refine zast (pc := 189) hx hb hw hkL ⟨by omega, by omega⟩ (by omega) dX10_sort__189 (fun H locs hw => ?_)
                  obtain ⟨X189, eX189⟩ : ∃ Y : zX, Y = up2 Xjn91_1 a x130.toNat (Xjn91_1 a x148.toNat) := ⟨_, rfl⟩
                  rw [← eX189] at hw
                  refine lv_aload_n (pc := 190) hx hb dX10_sort__190 rfl (lv_at hl 12 rfl) ?_
                  refine lv_iload (pc := 191) hx hb dX10_sort__191 (lv_at hl 3 rfl) ?_
                  refine lv_iload (pc := 193) hx hb dX10_sort__193 (lv_at hl 0 rfl) ?_
                  refine zast (pc := 195) hx hb hw hkL ⟨by omega, by omega⟩ (by omega) dX10_sort__195 (fun H locs hw => ?_)
                  obtain ⟨X195, eX195⟩ : ∃ Y : zX, Y = up2 X189 a x148.toNat x180 := ⟨_, rfl⟩
                  rw [← eX195] at hw
                  exact jn196_2 X195 _ _ (by first | exact hoN | exact fun b hb => by rw [eX195, up2_o hb, eX189, up2_o hb]; exact hoN b hb) (by first | exact hsN | (rw [eX195, up2_row, eX189, up2_row, ex180]; exact hsN.step ⟨by omega, by omega⟩ ⟨by omega, by omega⟩)) (by first | exact h3N | exact h3M | (rw [eX195, up2_row, eX189, up2_row, updF_o (by omega), updF_o (by omega)]; exact h3N)) hw _ (lv_sub hl [1, 2, 3, 4, 5, 6, 7, 8, 9, 10, 11, 12, 13, 14] rfl)
              · skip
                refine lv_aload_n (pc := 101) hx hb dX10_sort__101 rfl (lv_at hl 4 rfl) ?_
                refine lv_iload_n (pc := 102) hx hb dX10_sort__102 rfl (lv_at hl 5 rfl) ?_
                refine lv_iload (pc := 103) hx hb dX10_sort__103 (lv_at hl 6 rfl) ?_
                refine zkVx (pc := 105) (zrS (As := [.ref a, .int (iI lo), .int (iI hh)]) hx hb hml hown hG hw (c_X10_heapSort l Γ Kjn91_1 Xjn91_1 Rjn91_1 a lo hh n (by (first | assumption | omega)) (by (first | assumption | omega)) (by omega) (by exact fun j g1 g2 => hfv j (by omega) (by omega))) cb_X10_heapSort wl_X10_42 rfl ⟨by show 1 + 1 ≤ (dd + 1 + 17); omega, by show 8 + (4 + 11) + 100 * 1 ≤ 100 * (dd + 1 + 17); omega⟩ hl.1 rfl (Nat.le_of_ble_eq_true rfl) dX10_sort__105 ⟨(by show cw + 0 ≤ MC; omega), (by show sw + 0 ≤ MS; omega)⟩) hw (fun X105 H locs hp105 hw => ?_)
                obtain ⟨hoI, hsI, hqI⟩ := hp105
                exact zretV (pc := 108) hx hb hlocks hr hw (by show cw ≤ MC; omega) (by show sw ≤ MS; omega) dX10_sort__108 (by refine ⟨fun b hb => ⟨(hfr b hb).1, (hfr b hb).2.1, fun g => by rw [hoI b g]; exact (hfr b hb).2.2 g⟩, hP.sub (hsI.prm (hjL.sub (Int.le_refl _) (by omega))) (Int.le_refl _) (by omega), srtR.join (hsI.prm (hjL.sub (Int.le_refl _) (by omega))) hqI ht9 hc9⟩)
            refine lv_iload_n (pc := 61) hx hb dX10_sort__61 rfl (lv_at hl 4 rfl) ?_
            refine zif_eq (pc := 62) hx hb 79 (by omega) dX10_sort__62 (by decide) (fun c62 => ?_) (fun c62 => ?_)
            · skip
              refine lv_aload_nN (pc := 79) hx hb dX10_sort__79 rfl (lv_at hl 2 rfl) ?_
              refine lv_aload_n (pc := 80) hx hb dX10_sort__80 rfl (lv_at hl 3 rfl) ?_
              refine lv_iload_n (pc := 81) hx hb dX10_sort__81 rfl (lv_at hl 5 rfl) ?_
              refine lv_iload (pc := 82) hx hb dX10_sort__82 (lv_at hl 0 rfl) ?_
              refine zkI (pc := 84) (zrS (As := [.null, .ref a, .int (iI lo), .int (iI x10)]) hx hb hml hown hG hw (c_X10_tryMergeRuns l Γ KL0 XL0 RL0 a lo x10 n (by (first | assumption | omega)) (by (first | assumption | omega)) (by omega) (by exact fun j g => hfv j (by omega) (by omega)) (by exact hjL.sub (by omega) (by omega))) cb_X10_tryMergeRuns wl_X10_38 rfl ⟨by show 16 + 1 ≤ (dd + 1 + 17); omega, by show 8 + (12 + 11) + 100 * 16 ≤ 100 * (dd + 1 + 17); omega⟩ hl.1 rfl (Nat.le_of_ble_eq_true rfl) dX10_sort__84 ⟨(by show cz + 2 ≤ MC; omega), (by show sz + (127 + x10.toNat) ≤ MS; omega)⟩) hw (fun r84 K84 X84 R84 H locs hp84 hw => ?_)
              obtain ⟨h01, hfr8, hP8, hs8⟩ := hp84
              have hkT : K84 a = (2, n) := by rw [(hfr8 a (zk1 hkL)).1]; exact hkL
              have hfT : ∀ b, (K b).1 ≠ 0 → K84 b = K b ∧ R84 b = Rf b ∧ (b ≠ a → X84 b = X b) := fun b hb => by
                have w1 := hfr b hb
                have w2 := hfr8 b (by rw [w1.1]; exact hb)
                exact ⟨by rw [w2.1, w1.1], by rw [w2.2.1, w1.2.1], fun g => by rw [w2.2.2 g, w1.2.2 g]⟩
              have hbz : lo = 0 ∧ hh = hi ∧ x10 = hi := by omega
              have hPT : Prm lo hi (X a) (X84 a) := hP.sub hP8 (by omega) (by omega)
              have htT : srtR hh hi (X84 a) := .one (by omega)
              have hcT : ∀ i j : Nat, lo ≤ i → (i : Int) < hh → hh ≤ j → (j : Int) < hi → X84 a i ≤ X84 a j := fun i j g1 g2 g3 g4 => by omega
              refine zif_eq (pc := 87) hx hb 91 (by omega) dX10_sort__87 (by decide) (fun c87 => ?_) (fun c87 => ?_)
              · skip
                exact jn91_1 (cz + 2) (sz + (127 + x10.toNat)) K84 X84 R84 _ _ (by first | exact hkT | exact hkL) (by first | exact hfT | exact hfr) (by first | exact hPT | exact hP) (by first | exact htT | exact ht9) (by first | exact hcT | exact hc9) (by omega) hw _ (lv_sub hl [0, 1, 2, 3, 4, 5, 6] rfl)
              · skip
                exact zretV (pc := 90) hx hb hlocks hr hw (by show cz + 2 ≤ MC; omega) (by show sz + (127 + x10.toNat) ≤ MS; omega) dX10_sort__90 (by exact ⟨hfT, hPT, by rw [show lo = 0 by omega, ← hbz.2.2]; exact hs8 (by omega)⟩)
            · skip
              refine lv_iload (pc := 65) hx hb dX10_sort__65 (lv_at hl 0 rfl) ?_
              refine zsipush (pc := 67) (n := 4096) hx hb dX10_sort__67 rfl ?_
              refine zicmp_le (pc := 70) hx hb 91 (by omega) (by omega) dX10_sort__70 (by decide) (fun c70 => ?_) (fun c70 => ?_)
              · skip
                exact jn91_1 cz sz KL0 XL0 RL0 _ _ (by first | exact hkT | exact hkL) (by first | exact hfT | exact hfr) (by first | exact hPT | exact hP) (by first | exact htT | exact ht9) (by first | exact hcT | exact hc9) (by omega) hw _ (lv_sub hl [0, 1, 2, 3, 4, 5, 6] rfl)
              · skip
                exfalso; omega
          · skip
            refine lv_aload_n (pc := 53) hx hb dX10_sort__53 rfl (lv_at hl 3 rfl) ?_
            refine lv_iload_n (pc := 54) hx hb dX10_sort__54 rfl (lv_at hl 5 rfl) ?_
            refine lv_iload (pc := 55) hx hb dX10_sort__55 (lv_at hl 6 rfl) ?_
            refine zkVx (pc := 57) (zrS (As := [.ref a, .int (iI lo), .int (iI hh)]) hx hb hml hown hG hw (c_X10_insertionSort l Γ KL0 XL0 RL0 a lo hh n (by (first | assumption | omega)) (by (first | assumption | omega)) (by omega) (by exact fun j g1 g2 => hfv j (by omega) (by omega))) cb_X10_insertionSort wl_X10_34 rfl ⟨by show 0 + 1 ≤ (dd + 1 + 17); omega, by show 8 + (6 + 11) + 100 * 0 ≤ 100 * (dd + 1 + 17); omega⟩ hl.1 rfl (Nat.le_of_ble_eq_true rfl) dX10_sort__57 ⟨(by show cz + 0 ≤ MC; omega), (by show sz + 0 ≤ MS; omega)⟩) hw (fun X57 H locs hp57 hw => ?_)
            obtain ⟨hoI, hsI, hqI⟩ := hp57
            exact zretV (pc := 60) hx hb hlocks hr hw (by show cz ≤ MC; omega) (by show sz ≤ MS; omega) dX10_sort__60 (by refine ⟨fun b hb => ⟨(hfr b hb).1, (hfr b hb).2.1, fun g => by rw [hoI b g]; exact (hfr b hb).2.2 g⟩, hP.sub (hsI.prm (hjL.sub (Int.le_refl _) (by omega))) (Int.le_refl _) (by omega), srtR.join (hsI.prm (hjL.sub (Int.le_refl _) (by omega))) hqI ht9 hc9⟩)
        refine lv_iload (pc := 12) hx hb dX10_sort__12 (lv_at hl 0 rfl) ?_
        refine zbipush (pc := 14) (n := 65) hx hb dX10_sort__14 rfl ?_
        refine lv_iload_n (pc := 16) hx hb dX10_sort__16 rfl (lv_at hl 4 rfl) ?_
        refine zadd (pc := 17) hx hb dX10_sort__17 ?_
        refine zicmp_ge (pc := 18) hx hb 46 (by omega) (by omega) dX10_sort__18 (by decide) (fun c18 => ?_) (fun c18 => ?_)
        · skip
          exact jn46_0 _ _  hw _ (lv_sub hl [0, 1, 2, 3, 4, 5, 6] rfl)
        · skip
          refine lv_iload_n (pc := 21) hx hb dX10_sort__21 rfl (lv_at hl 4 rfl) ?_
          refine ziconst (pc := 22) (n := 1) hx hb dX10_sort__22 ?_
          refine zand1 (pc := 23) hx hb dX10_sort__23 ?_
          refine zif_le (pc := 24) hx hb 46 (by omega) dX10_sort__24 (by decide) (fun c24 => ?_) (fun c24 => ?_)
          · skip
            exact jn46_0 _ _  hw _ (lv_sub hl [0, 1, 2, 3, 4, 5, 6] rfl)
          · skip
            refine lv_aload_n (pc := 27) hx hb dX10_sort__27 rfl (lv_at hl 3 rfl) ?_
            refine lv_iload_n (pc := 28) hx hb dX10_sort__28 rfl (lv_at hl 5 rfl) ?_
            refine lv_iload (pc := 29) hx hb dX10_sort__29 (lv_at hl 6 rfl) ?_
            refine ziconst (pc := 31) (n := 3) hx hb dX10_sort__31 ?_
            refine lv_iload (pc := 32) hx hb dX10_sort__32 (lv_at hl 0 rfl) ?_
            refine ziconst (pc := 34) (n := 5) hx hb dX10_sort__34 ?_
            refine zshr (pc := 35) hx hb (by omega) dX10_sort__35 ?_
            rw [show (2 : Int) ^ (5 : Int).toNat = 32 by decide]
            refine ziconst (pc := 36) (n := 3) hx hb dX10_sort__36 ?_
            refine zshl (pc := 37) hx hb (by omega) dX10_sort__37 ?_
            rw [show (2 : Int) ^ (3 : Int).toNat = 8 by decide]
            refine zmul (pc := 38) hx hb dX10_sort__38 ?_
            refine zsub (pc := 39) hx hb dX10_sort__39 ?_
            refine lv_iload (pc := 40) hx hb dX10_sort__40 (lv_at hl 6 rfl) ?_
            have hodd := hsnL (by omega)
            refine zkVx (pc := 42) (zrS (As := [.ref a, .int (iI lo), .int (iI (hh - (3 * ((x10 / 32) * 8)))), .int (iI hh)]) hx hb hml hown hG hw (c_X10_mixedInsertionSort l Γ KL0 XL0 RL0 a lo (hh - (3 * ((x10 / 32) * 8))) hh n (by (first | assumption | omega)) (by (first | assumption | omega)) (by omega) (by exact fun j g1 g2 => hfv j g1 (by omega)) (by exact fun m g1 g2 => (hsnL (by omega)).2 m g1 (by omega))) cb_X10_mixedInsertionSort wl_X10_30 rfl ⟨by show 0 + 1 ≤ (dd + 1 + 17); omega, by show 8 + (8 + 11) + 100 * 0 ≤ 100 * (dd + 1 + 17); omega⟩ hl.1 rfl (Nat.le_of_ble_eq_true rfl) dX10_sort__42 ⟨(by show cz + 0 ≤ MC; omega), (by show sz + 0 ≤ MS; omega)⟩) hw (fun X42 H locs hp42 hw => ?_)
            obtain ⟨hoI, hsI, hqI⟩ := hp42
            exact zretV (pc := 45) hx hb hlocks hr hw (by show cz ≤ MC; omega) (by show sz ≤ MS; omega) dX10_sort__45 (by refine ⟨fun b hb => ⟨(hfr b hb).1, (hfr b hb).2.1, fun g => by rw [hoI b g]; exact (hfr b hb).2.2 g⟩, hP.sub (hsI.prm (hjL.sub (Int.le_refl _) (by omega))) (Int.le_refl _) (by omega), srtR.join (hsI.prm (hjL.sub (Int.le_refl _) (by omega))) hqI ht9 hc9⟩)
    exact lp0 _ bits hi 0 0 K X Rf _ _ (by (first | assumption | omega)) (by exact hka) (by exact fun b _ => ⟨rfl, rfl, fun _ => rfl⟩) (by exact .refl hj) (by exact .one (by omega)) (by intro i j g1 g2 g3 g4; omega) (by (first | assumption | omega)) (Nat.lt_succ_self _) hw _ (lv_sub hl [0, 1, 2, 3, 4] rfl)
