set_option maxHeartbeats 4000000 in
set_option maxRecDepth 100000 in
theorem lc_36 {p : Program} {l : Launch} (hl9 : l.stackTraces = false) {e : Env} {s : State} {m : MethodId} {below : List Frame} {meth : Method} {c : Code} {Q : State → Prop} {b L : Nat} {xs : Nat → Int32} {Γ : zG} {K0 : zK} (E : LE p s m c b L xs K0) {ρ : zL} {K : zK} {X : zX} {Rf : zR} {M : zM} {x md out outD it : Nat} {i : Int} {cw sw : Nat} {H : Heap} {locs : List Loc} {ls : Array Slot} (hi : 0 ≤ i ∧ i + 8 ≤ (L : Int)) (hit : it ≤ 511) (hI : LI ρ K X Rf x md out outD M) (hcs : cw ≤ 100 + 1100 * it ∧ sw + ptR X Rf md ≤ 112000 + 14000 * it) (hw : Wd Γ (zA K0 s.heap.size) K X Rf s H locs) (hl : lv_has ls 9 [(5, .int (iI i)), (4, .ref outD), (3, .ref out), (2, .ref md), (1, .ref x), (0, .ref b)]) (kk : ∀ (ρ' : zL) (K' : zK) (X' : zX) (R' : zR) (M' : zM) (H' : Heap) (locs' : List Loc) (cl' sl' : Nat) (ls' : Array Slot), LI ρ' K' X' R' x md out outD M' → (cl' ≤ 100 + 1100 * (it + 1) ∧ sl' + ptR X' R' md ≤ 112000 + 14000 * (it + 1)) → Wd Γ (zA K0 s.heap.size) K' X' R' s H' locs' → lv_has ls' 9 [(5, .int (iI i)), (4, .ref outD), (3, .ref out), (2, .ref md), (1, .ref x), (0, .ref b)] → W p l e room_1 s m #[Value.ref b] below meth c H' locs' cl' sl' Q (F0 m 3400 ls' [])) : W p l e room_1 s m #[Value.ref b] below meth c H locs cw sw Q (F0 m 2695 ls []) := by
  obtain ⟨⟨hx, hb, hml, hown⟩, hG, h46, hX, hXs, hbl, hbA, hL⟩ := E
  obtain ⟨hC, hRr, hM, ⟨hko4, hlo4⟩, hko5, hlo5⟩ := id hI
  have hCk := hC.1.1
  have hloo : ρ out = 4000 ∨ ρ out = 4001 := Or.inl hlo4
  have hlod : ρ outD = 4000 ∨ ρ outD = 4001 := Or.inr hlo5
  obtain ⟨f9, hq1⟩ : ∃ z : Int, scI xs (i + 1).toNat = z := ⟨_, rfl⟩
  have hf1 : fit f9 := by rw [← hq1]; exact scI_fit
  obtain ⟨l9, hq2⟩ : ∃ z : Int, scI xs (i + 2).toNat = z := ⟨_, rfl⟩
  have hf2 : fit l9 := by rw [← hq2]; exact scI_fit
  refine lv_aload_n (pc := 2695) hx hb dL_law_2695 rfl (lv_at hl 4 rfl) ?_
  refine lv_aload_n (pc := 2696) hx hb dL_law_2696 rfl (lv_at hl 5 rfl) ?_
  refine lv_iload (pc := 2697) hx hb dL_law_2697 (lv_at hl 0 rfl) ?_
  refine ziconst (pc := 2699) (n := 1) hx hb dL_law_2699 ?_
  refine zadd (pc := 2700) hx hb dL_law_2700 ?_
  refine zsld (pc := 2701) hx hb hXs hbl hbA hL hw ⟨by omega, by omega⟩ hq1 dL_law_2701 ?_
  refine lv_aload_n (pc := 2702) hx hb dL_law_2702 rfl (lv_at hl 5 rfl) ?_
  refine lv_iload (pc := 2703) hx hb dL_law_2703 (lv_at hl 0 rfl) ?_
  refine ziconst (pc := 2705) (n := 2) hx hb dL_law_2705 ?_
  refine zadd (pc := 2706) hx hb dL_law_2706 ?_
  refine zsld (pc := 2707) hx hb hXs hbl hbA hL hw ⟨by omega, by omega⟩ hq2 dL_law_2707 ?_
  refine lv_aload_n (pc := 2708) hx hb dL_law_2708 rfl (lv_at hl 2 rfl) ?_
  refine zkI (pc := 2709) (zlrS (As := [.ref x, .int (iI f9), .int (iI l9), .ref out]) hx hb hml hown hG h46 hX hw (c_L_setHours l hl9 Γ K X Rf x f9 l9 out (ρ) M (by (first | assumption | omega)) (by (first | assumption | omega)) (by (first | assumption | omega)) (by (first | assumption | omega)) (by (first | assumption | omega))) cb_L_setHours wl_L_285 rfl ⟨Nat.le_of_ble_eq_true rfl, Nat.le_of_ble_eq_true rfl⟩ hl.1 rfl (Nat.le_of_ble_eq_true rfl) dL_law_2709 ⟨(by show cw + 1 ≤ 601024; omega), (by show sw + 6 ≤ 7293033; omega)⟩) hw (fun r2709 K2709 X2709 R2709 H locs hp2709 hw => ?_)
  obtain ⟨hk1, hv1, ρ1, hC1, hf1⟩ := hp2709
  obtain ⟨hR1, hpt1, hk1o⟩ := hI.c (Or.inl rfl) hC1 hf1
  have hmd1 := hR1.1.1
  refine lv_istore (pc := 2712) (lv' := [(6, .int (iI r2709)), (5, .int (iI i)), (4, .ref outD), (3, .ref out), (2, .ref md), (1, .ref x), (0, .ref b)]) hx hb dL_law_2712 hl (by decide) rfl (fun ls hl => ?_)
  refine lv_aload_n (pc := 2714) hx hb dL_law_2714 rfl (lv_at hl 4 rfl) ?_
  refine lv_aload_n (pc := 2715) hx hb dL_law_2715 rfl (lv_at hl 6 rfl) ?_
  refine lv_iload (pc := 2716) hx hb dL_law_2716 (lv_at hl 1 rfl) ?_
  refine ziconst (pc := 2718) (n := 1) hx hb dL_law_2718 ?_
  refine zadd (pc := 2719) hx hb dL_law_2719 ?_
  refine zsld (pc := 2720) hx hb hXs hbl hbA hL hw ⟨by omega, by omega⟩ hq1 dL_law_2720 ?_
  refine lv_aload_n (pc := 2721) hx hb dL_law_2721 rfl (lv_at hl 6 rfl) ?_
  refine lv_iload (pc := 2722) hx hb dL_law_2722 (lv_at hl 1 rfl) ?_
  refine ziconst (pc := 2724) (n := 2) hx hb dL_law_2724 ?_
  refine zadd (pc := 2725) hx hb dL_law_2725 ?_
  refine zsld (pc := 2726) hx hb hXs hbl hbA hL hw ⟨by omega, by omega⟩ hq2 dL_law_2726 ?_
  have hM1 : okM (if cdHr f9 l9 = 0 then (upM (upM M 27 f9) 28 l9) else M) := by split; (next h9 => exact okM_hr hM h9); exact hM
  refine zkI (pc := 2727) (zrV (As := [.int (iI f9), .int (iI l9)]) hx hb hml hown hG hw (c_X9_setHours l Γ K2709 X2709 R2709 md f9 l9 (rlb K2709 ρ1) M (by (first | assumption | omega)) (by (first | assumption | omega)) (by (first | assumption | omega))) (T := TX9) hmd1 rfl cb_X9_setHours wl_L_287 rfl ⟨Nat.le_of_ble_eq_true rfl, Nat.le_of_ble_eq_true rfl⟩ hl.1 rfl (Nat.le_of_ble_eq_true rfl) dL_law_2727 ⟨(by show cw + 1 + 0 ≤ 601024; omega), (by show sw + 6 + 0 ≤ 7293033; omega)⟩) hw (fun r2727 K2727 X2727 R2727 H locs hp2727 hw => ?_)
  obtain ⟨hv2, h02, ρ2, hR2, hg2, hpt2⟩ : (cdHr f9 l9 = 0 → r2727 = l9 - f9) ∧ X2727 md 0 = cdHr f9 l9 ∧ ∃ ρ2, repR ρ2 K2727 X2727 R2727 md (if cdHr f9 l9 = 0 then (upM (upM M 27 f9) 28 l9) else M) ∧ frR (rlb K2709 ρ1) K2709 X2709 R2709 ρ2 K2727 X2727 R2727 ∧ ptR X2727 R2727 md ≤ ptR X2709 R2709 md + 5000 := by obtain ⟨a1, a2, ρ', a3, a4, a5⟩ := hp2727; exact ⟨a1, a2, ρ', a3, a4, a5⟩
  obtain ⟨hxo, hxd, ρ3, hI3⟩ := LI.r hC1 hk1o hM1 hR2 hg2
  have hmd3 := hI3.2.1.1.1
  have hko3 := hI3.2.2.2.1.1
  have hkd3 := hI3.2.2.2.2.1
  have hcb : 0 ≤ cdHr f9 l9 ∧ cdHr f9 l9 ≤ 3 := by unfold cdHr; (repeat' split) <;> omega
  refine lv_istore (pc := 2730) (lv' := [(7, .int (iI r2727)), (6, .int (iI r2709)), (5, .int (iI i)), (4, .ref outD), (3, .ref out), (2, .ref md), (1, .ref x), (0, .ref b)]) hx hb dL_law_2730 hl (by decide) rfl (fun ls hl => ?_)
  refine lv_aload_n (pc := 2732) hx hb dL_law_2732 rfl (lv_at hl 5 rfl) ?_
  refine zkIp (pc := 2733) (zrV (As := []) hx hb hml hown hG hw (c_X9_thrown l Γ K2727 X2727 R2727 md  (by (first | assumption | omega))) (T := TX9) hmd3 rfl cb_X9_thrown wl_L_172 rfl ⟨Nat.le_of_ble_eq_true rfl, Nat.le_of_ble_eq_true rfl⟩ hl.1 rfl (Nat.le_of_ble_eq_true rfl) dL_law_2733 ⟨(by show cw + 1 + 0 ≤ 601024; omega), (by show sw + 6 + 0 ≤ 7293033; omega)⟩) hw (fun r2733 H locs hp2733 hw => ?_)
  subst hp2733
  refine lv_iload (pc := 2736) hx hb dL_law_2736 (lv_at hl 1 rfl) ?_
  refine zicmp_eq (pc := 2738) hx hb 2743 (by omega) (by omega) dL_law_2738 (by decide) (fun c2738 => ?_) (fun c2738 => ?_)
  · skip
    refine lv_iload (pc := 2743) hx hb dL_law_2743 (lv_at hl 1 rfl) ?_
    refine zif_ne (pc := 2745) hx hb 2760 (by omega) dL_law_2745 (by decide) (fun c2745 => ?_) (fun c2745 => ?_)
    · skip
      refine lv_goto (pc := 2760) (tgt := 3400) hx hb dL_law_2760 (by decide) ?_
      exact kk ρ3 K2727 X2727 R2727 _ H locs _ _ ls hI3 ⟨by omega, by omega⟩ hw (lv_sub hl [2, 3, 4, 5, 6, 7] rfl)
    · skip
      have hc0 : cdHr f9 l9 = 0 := by omega
      have hov : X2727 out 0 = wI r2727 := by rw [congrFun hxo 0, hv1 hc0, hv2 hc0]
      refine lv_aload_n (pc := 2748) hx hb dL_law_2748 rfl (lv_at hl 4 rfl) ?_
      refine ziconst (pc := 2749) (n := 0) hx hb dL_law_2749 ?_
      refine zlald (pc := 2750) hx hb hw hko3 ⟨by omega, by omega⟩ (by omega) dL_law_2750 ?_
      refine lv_iload (pc := 2751) hx hb dL_law_2751 (lv_at hl 0 rfl) ?_
      refine zi2lw (pc := 2753) hx hb dL_law_2753 ?_
      refine zlcmpE (pc := 2754) hx hb hov dL_law_2754 ?_
      refine zif_eq (pc := 2755) hx hb 2760 (by omega) dL_law_2755 (by decide) (fun c2755 => ?_) (fun c2755 => ?_)
      · skip
        refine lv_goto (pc := 2760) (tgt := 3400) hx hb dL_law_2760 (by decide) ?_
        exact kk ρ3 K2727 X2727 R2727 _ H locs _ _ ls hI3 ⟨by omega, by omega⟩ hw (lv_sub hl [2, 3, 4, 5, 6, 7] rfl)
      · skip
        exfalso; omega
  · skip
    exfalso; omega
set_option maxHeartbeats 4000000 in
set_option maxRecDepth 100000 in
theorem lc_37 {p : Program} {l : Launch} (hl9 : l.stackTraces = false) {e : Env} {s : State} {m : MethodId} {below : List Frame} {meth : Method} {c : Code} {Q : State → Prop} {b L : Nat} {xs : Nat → Int32} {Γ : zG} {K0 : zK} (E : LE p s m c b L xs K0) {ρ : zL} {K : zK} {X : zX} {Rf : zR} {M : zM} {x md out outD it : Nat} {i : Int} {cw sw : Nat} {H : Heap} {locs : List Loc} {ls : Array Slot} (hi : 0 ≤ i ∧ i + 8 ≤ (L : Int)) (hit : it ≤ 511) (hI : LI ρ K X Rf x md out outD M) (hcs : cw ≤ 100 + 1100 * it ∧ sw + ptR X Rf md ≤ 112000 + 14000 * it) (hw : Wd Γ (zA K0 s.heap.size) K X Rf s H locs) (hl : lv_has ls 9 [(5, .int (iI i)), (4, .ref outD), (3, .ref out), (2, .ref md), (1, .ref x), (0, .ref b)]) (kk : ∀ (ρ' : zL) (K' : zK) (X' : zX) (R' : zR) (M' : zM) (H' : Heap) (locs' : List Loc) (cl' sl' : Nat) (ls' : Array Slot), LI ρ' K' X' R' x md out outD M' → (cl' ≤ 100 + 1100 * (it + 1) ∧ sl' + ptR X' R' md ≤ 112000 + 14000 * (it + 1)) → Wd Γ (zA K0 s.heap.size) K' X' R' s H' locs' → lv_has ls' 9 [(5, .int (iI i)), (4, .ref outD), (3, .ref out), (2, .ref md), (1, .ref x), (0, .ref b)] → W p l e room_1 s m #[Value.ref b] below meth c H' locs' cl' sl' Q (F0 m 3400 ls' [])) : W p l e room_1 s m #[Value.ref b] below meth c H locs cw sw Q (F0 m 2763 ls []) := by
  obtain ⟨⟨hx, hb, hml, hown⟩, hG, h46, hX, hXs, hbl, hbA, hL⟩ := E
  obtain ⟨hC, hRr, hM, ⟨hko4, hlo4⟩, hko5, hlo5⟩ := id hI
  have hCk := hC.1.1
  have hloo : ρ out = 4000 ∨ ρ out = 4001 := Or.inl hlo4
  have hlod : ρ outD = 4000 ∨ ρ outD = 4001 := Or.inr hlo5
  obtain ⟨fy, hq1⟩ : ∃ z : Int, scI xs (i + 1).toNat = z := ⟨_, rfl⟩
  have hf1 : fit fy := by rw [← hq1]; exact scI_fit
  obtain ⟨ly, hq2⟩ : ∃ z : Int, scI xs (i + 2).toNat = z := ⟨_, rfl⟩
  have hf2 : fit ly := by rw [← hq2]; exact scI_fit
  obtain ⟨b9, hq3⟩ : ∃ z : Int, scI xs (i + 3).toNat = z := ⟨_, rfl⟩
  have hf3 : fit b9 := by rw [← hq3]; exact scI_fit
  obtain ⟨wy, hq4⟩ : ∃ z : Int, scI xs (i + 4).toNat = z := ⟨_, rfl⟩
  have hf4 : fit wy := by rw [← hq4]; exact scI_fit
  refine lv_aload_n (pc := 2763) hx hb dL_law_2763 rfl (lv_at hl 4 rfl) ?_
  refine lv_aload_n (pc := 2764) hx hb dL_law_2764 rfl (lv_at hl 5 rfl) ?_
  refine lv_iload (pc := 2765) hx hb dL_law_2765 (lv_at hl 0 rfl) ?_
  refine ziconst (pc := 2767) (n := 1) hx hb dL_law_2767 ?_
  refine zadd (pc := 2768) hx hb dL_law_2768 ?_
  refine zsld (pc := 2769) hx hb hXs hbl hbA hL hw ⟨by omega, by omega⟩ hq1 dL_law_2769 ?_
  refine lv_aload_n (pc := 2770) hx hb dL_law_2770 rfl (lv_at hl 5 rfl) ?_
  refine lv_iload (pc := 2771) hx hb dL_law_2771 (lv_at hl 0 rfl) ?_
  refine ziconst (pc := 2773) (n := 2) hx hb dL_law_2773 ?_
  refine zadd (pc := 2774) hx hb dL_law_2774 ?_
  refine zsld (pc := 2775) hx hb hXs hbl hbA hL hw ⟨by omega, by omega⟩ hq2 dL_law_2775 ?_
  refine lv_aload_n (pc := 2776) hx hb dL_law_2776 rfl (lv_at hl 5 rfl) ?_
  refine lv_iload (pc := 2777) hx hb dL_law_2777 (lv_at hl 0 rfl) ?_
  refine ziconst (pc := 2779) (n := 3) hx hb dL_law_2779 ?_
  refine zadd (pc := 2780) hx hb dL_law_2780 ?_
  refine zsld (pc := 2781) hx hb hXs hbl hbA hL hw ⟨by omega, by omega⟩ hq3 dL_law_2781 ?_
  refine lv_aload_n (pc := 2782) hx hb dL_law_2782 rfl (lv_at hl 5 rfl) ?_
  refine lv_iload (pc := 2783) hx hb dL_law_2783 (lv_at hl 0 rfl) ?_
  refine ziconst (pc := 2785) (n := 4) hx hb dL_law_2785 ?_
  refine zadd (pc := 2786) hx hb dL_law_2786 ?_
  refine zsld (pc := 2787) hx hb hXs hbl hbA hL hw ⟨by omega, by omega⟩ hq4 dL_law_2787 ?_
  refine lv_aload_n (pc := 2788) hx hb dL_law_2788 rfl (lv_at hl 2 rfl) ?_
  refine zkI (pc := 2789) (zlrS (As := [.ref x, .int (iI fy), .int (iI ly), .int (iI b9), .int (iI wy), .ref out]) hx hb hml hown hG h46 hX hw (c_L_addFeast l hl9 Γ K X Rf x fy ly b9 wy out (ρ) M (by (first | assumption | omega)) (by (first | assumption | omega)) (by (first | assumption | omega)) (by (first | assumption | omega)) (by (first | assumption | omega))) cb_L_addFeast wl_L_288 rfl ⟨Nat.le_of_ble_eq_true rfl, Nat.le_of_ble_eq_true rfl⟩ hl.1 rfl (Nat.le_of_ble_eq_true rfl) dL_law_2789 ⟨(by show cw + 5 ≤ 601024; omega), (by show sw + 30 ≤ 7293033; omega)⟩) hw (fun r2789 K2789 X2789 R2789 H locs hp2789 hw => ?_)
  obtain ⟨hk1, hv1, ρ1, hC1, hf1⟩ := hp2789
  obtain ⟨hR1, hpt1, hk1o⟩ := hI.c (Or.inl rfl) hC1 hf1
  have hmd1 := hR1.1.1
  refine lv_istore (pc := 2792) (lv' := [(6, .int (iI r2789)), (5, .int (iI i)), (4, .ref outD), (3, .ref out), (2, .ref md), (1, .ref x), (0, .ref b)]) hx hb dL_law_2792 hl (by decide) rfl (fun ls hl => ?_)
  refine lv_aload_n (pc := 2794) hx hb dL_law_2794 rfl (lv_at hl 4 rfl) ?_
  refine lv_aload_n (pc := 2795) hx hb dL_law_2795 rfl (lv_at hl 6 rfl) ?_
  refine lv_iload (pc := 2796) hx hb dL_law_2796 (lv_at hl 1 rfl) ?_
  refine ziconst (pc := 2798) (n := 1) hx hb dL_law_2798 ?_
  refine zadd (pc := 2799) hx hb dL_law_2799 ?_
  refine zsld (pc := 2800) hx hb hXs hbl hbA hL hw ⟨by omega, by omega⟩ hq1 dL_law_2800 ?_
  refine lv_aload_n (pc := 2801) hx hb dL_law_2801 rfl (lv_at hl 6 rfl) ?_
  refine lv_iload (pc := 2802) hx hb dL_law_2802 (lv_at hl 1 rfl) ?_
  refine ziconst (pc := 2804) (n := 2) hx hb dL_law_2804 ?_
  refine zadd (pc := 2805) hx hb dL_law_2805 ?_
  refine zsld (pc := 2806) hx hb hXs hbl hbA hL hw ⟨by omega, by omega⟩ hq2 dL_law_2806 ?_
  refine lv_aload_n (pc := 2807) hx hb dL_law_2807 rfl (lv_at hl 6 rfl) ?_
  refine lv_iload (pc := 2808) hx hb dL_law_2808 (lv_at hl 1 rfl) ?_
  refine ziconst (pc := 2810) (n := 3) hx hb dL_law_2810 ?_
  refine zadd (pc := 2811) hx hb dL_law_2811 ?_
  refine zsld (pc := 2812) hx hb hXs hbl hbA hL hw ⟨by omega, by omega⟩ hq3 dL_law_2812 ?_
  refine lv_aload_n (pc := 2813) hx hb dL_law_2813 rfl (lv_at hl 6 rfl) ?_
  refine lv_iload (pc := 2814) hx hb dL_law_2814 (lv_at hl 1 rfl) ?_
  refine ziconst (pc := 2816) (n := 4) hx hb dL_law_2816 ?_
  refine zadd (pc := 2817) hx hb dL_law_2817 ?_
  refine zsld (pc := 2818) hx hb hXs hbl hbA hL hw ⟨by omega, by omega⟩ hq4 dL_law_2818 ?_
  have hM1 : okM (if cdAfe M fy ly b9 wy = 0 then (faM M (M 40 29).toNat fy ly b9 wy) else M) := by split; (next h9 => exact okM_fea hM h9); exact hM
  refine zkI (pc := 2819) (zrV (As := [.int (iI fy), .int (iI ly), .int (iI b9), .int (iI wy)]) hx hb hml hown hG hw (c_X9_addFeast l Γ K2789 X2789 R2789 md fy ly b9 wy (rlb K2789 ρ1) M (by (first | assumption | omega)) (by (first | assumption | omega)) (by (first | assumption | omega))) (T := TX9) hmd1 rfl cb_X9_addFeast wl_L_291 rfl ⟨Nat.le_of_ble_eq_true rfl, Nat.le_of_ble_eq_true rfl⟩ hl.1 rfl (Nat.le_of_ble_eq_true rfl) dL_law_2819 ⟨(by show cw + 5 + 0 ≤ 601024; omega), (by show sw + 30 + 0 ≤ 7293033; omega)⟩) hw (fun r2819 K2819 X2819 R2819 H locs hp2819 hw => ?_)
  obtain ⟨hv2, h02, ρ2, hR2, hg2, hpt2⟩ : (cdAfe M fy ly b9 wy = 0 → r2819 = M 40 29) ∧ X2819 md 0 = cdAfe M fy ly b9 wy ∧ ∃ ρ2, repR ρ2 K2819 X2819 R2819 md (if cdAfe M fy ly b9 wy = 0 then (faM M (M 40 29).toNat fy ly b9 wy) else M) ∧ frR (rlb K2789 ρ1) K2789 X2789 R2789 ρ2 K2819 X2819 R2819 ∧ ptR X2819 R2819 md ≤ ptR X2789 R2789 md + 5000 := by obtain ⟨a1, a2, ρ', a3, a4, a5⟩ := hp2819; exact ⟨a1, a2, ρ', a3, a4, a5⟩
  obtain ⟨hxo, hxd, ρ3, hI3⟩ := LI.r hC1 hk1o hM1 hR2 hg2
  have hmd3 := hI3.2.1.1.1
  have hko3 := hI3.2.2.2.1.1
  have hkd3 := hI3.2.2.2.2.1
  have hcb : 0 ≤ cdAfe M fy ly b9 wy ∧ cdAfe M fy ly b9 wy ≤ 3 := by unfold cdAfe; (repeat' split) <;> omega
  refine lv_istore (pc := 2822) (lv' := [(7, .int (iI r2819)), (6, .int (iI r2789)), (5, .int (iI i)), (4, .ref outD), (3, .ref out), (2, .ref md), (1, .ref x), (0, .ref b)]) hx hb dL_law_2822 hl (by decide) rfl (fun ls hl => ?_)
  refine lv_aload_n (pc := 2824) hx hb dL_law_2824 rfl (lv_at hl 5 rfl) ?_
  refine zkIp (pc := 2825) (zrV (As := []) hx hb hml hown hG hw (c_X9_thrown l Γ K2819 X2819 R2819 md  (by (first | assumption | omega))) (T := TX9) hmd3 rfl cb_X9_thrown wl_L_172 rfl ⟨Nat.le_of_ble_eq_true rfl, Nat.le_of_ble_eq_true rfl⟩ hl.1 rfl (Nat.le_of_ble_eq_true rfl) dL_law_2825 ⟨(by show cw + 5 + 0 ≤ 601024; omega), (by show sw + 30 + 0 ≤ 7293033; omega)⟩) hw (fun r2825 H locs hp2825 hw => ?_)
  subst hp2825
  refine lv_iload (pc := 2828) hx hb dL_law_2828 (lv_at hl 1 rfl) ?_
  refine zicmp_eq (pc := 2830) hx hb 2835 (by omega) (by omega) dL_law_2830 (by decide) (fun c2830 => ?_) (fun c2830 => ?_)
  · skip
    refine lv_iload (pc := 2835) hx hb dL_law_2835 (lv_at hl 1 rfl) ?_
    refine zif_ne (pc := 2837) hx hb 2852 (by omega) dL_law_2837 (by decide) (fun c2837 => ?_) (fun c2837 => ?_)
    · skip
      refine lv_goto (pc := 2852) (tgt := 3400) hx hb dL_law_2852 (by decide) ?_
      exact kk ρ3 K2819 X2819 R2819 _ H locs _ _ ls hI3 ⟨by omega, by omega⟩ hw (lv_sub hl [2, 3, 4, 5, 6, 7] rfl)
    · skip
      have hc0 : cdAfe M fy ly b9 wy = 0 := by omega
      have hov : X2819 out 0 = wI r2819 := by rw [congrFun hxo 0, hv1 hc0, hv2 hc0]
      refine lv_aload_n (pc := 2840) hx hb dL_law_2840 rfl (lv_at hl 4 rfl) ?_
      refine ziconst (pc := 2841) (n := 0) hx hb dL_law_2841 ?_
      refine zlald (pc := 2842) hx hb hw hko3 ⟨by omega, by omega⟩ (by omega) dL_law_2842 ?_
      refine lv_iload (pc := 2843) hx hb dL_law_2843 (lv_at hl 0 rfl) ?_
      refine zi2lw (pc := 2845) hx hb dL_law_2845 ?_
      refine zlcmpE (pc := 2846) hx hb hov dL_law_2846 ?_
      refine zif_eq (pc := 2847) hx hb 2852 (by omega) dL_law_2847 (by decide) (fun c2847 => ?_) (fun c2847 => ?_)
      · skip
        refine lv_goto (pc := 2852) (tgt := 3400) hx hb dL_law_2852 (by decide) ?_
        exact kk ρ3 K2819 X2819 R2819 _ H locs _ _ ls hI3 ⟨by omega, by omega⟩ hw (lv_sub hl [2, 3, 4, 5, 6, 7] rfl)
      · skip
        exfalso; omega
  · skip
    exfalso; omega
set_option maxHeartbeats 4000000 in
set_option maxRecDepth 100000 in
theorem lc_38 {p : Program} {l : Launch} (hl9 : l.stackTraces = false) {e : Env} {s : State} {m : MethodId} {below : List Frame} {meth : Method} {c : Code} {Q : State → Prop} {b L : Nat} {xs : Nat → Int32} {Γ : zG} {K0 : zK} (E : LE p s m c b L xs K0) {ρ : zL} {K : zK} {X : zX} {Rf : zR} {M : zM} {x md out outD it : Nat} {i : Int} {cw sw : Nat} {H : Heap} {locs : List Loc} {ls : Array Slot} (hi : 0 ≤ i ∧ i + 8 ≤ (L : Int)) (hit : it ≤ 511) (hI : LI ρ K X Rf x md out outD M) (hcs : cw ≤ 100 + 1100 * it ∧ sw + ptR X Rf md ≤ 112000 + 14000 * it) (hw : Wd Γ (zA K0 s.heap.size) K X Rf s H locs) (hl : lv_has ls 9 [(5, .int (iI i)), (4, .ref outD), (3, .ref out), (2, .ref md), (1, .ref x), (0, .ref b)]) (kk : ∀ (ρ' : zL) (K' : zK) (X' : zX) (R' : zR) (M' : zM) (H' : Heap) (locs' : List Loc) (cl' sl' : Nat) (ls' : Array Slot), LI ρ' K' X' R' x md out outD M' → (cl' ≤ 100 + 1100 * (it + 1) ∧ sl' + ptR X' R' md ≤ 112000 + 14000 * (it + 1)) → Wd Γ (zA K0 s.heap.size) K' X' R' s H' locs' → lv_has ls' 9 [(5, .int (iI i)), (4, .ref outD), (3, .ref out), (2, .ref md), (1, .ref x), (0, .ref b)] → W p l e room_1 s m #[Value.ref b] below meth c H' locs' cl' sl' Q (F0 m 3400 ls' [])) : W p l e room_1 s m #[Value.ref b] below meth c H locs cw sw Q (F0 m 2855 ls []) := by
  obtain ⟨⟨hx, hb, hml, hown⟩, hG, h46, hX, hXs, hbl, hbA, hL⟩ := E
  obtain ⟨hC, hRr, hM, ⟨hko4, hlo4⟩, hko5, hlo5⟩ := id hI
  have hCk := hC.1.1
  have hloo : ρ out = 4000 ∨ ρ out = 4001 := Or.inl hlo4
  have hlod : ρ outD = 4000 ∨ ρ outD = 4001 := Or.inr hlo5
  obtain ⟨day, hq1⟩ : ∃ z : Int, scI xs (i + 1).toNat = z := ⟨_, rfl⟩
  have hf1 : fit day := by rw [← hq1]; exact scI_fit
  refine lv_aload_n (pc := 2855) hx hb dL_law_2855 rfl (lv_at hl 4 rfl) ?_
  refine lv_aload_n (pc := 2856) hx hb dL_law_2856 rfl (lv_at hl 5 rfl) ?_
  refine lv_iload (pc := 2857) hx hb dL_law_2857 (lv_at hl 0 rfl) ?_
  refine ziconst (pc := 2859) (n := 1) hx hb dL_law_2859 ?_
  refine zadd (pc := 2860) hx hb dL_law_2860 ?_
  refine zsld (pc := 2861) hx hb hXs hbl hbA hL hw ⟨by omega, by omega⟩ hq1 dL_law_2861 ?_
  refine lv_aload_n (pc := 2862) hx hb dL_law_2862 rfl (lv_at hl 2 rfl) ?_
  refine zkI (pc := 2863) (zlrS (As := [.ref x, .int (iI day), .ref out]) hx hb hml hown hG h46 hX hw (c_L_feastOn l hl9 Γ K X Rf x day out (ρ) M (by (first | assumption | omega)) (by (first | assumption | omega)) (by (first | assumption | omega)) (by (first | assumption | omega)) (by (first | assumption | omega))) cb_L_feastOn wl_L_292 rfl ⟨Nat.le_of_ble_eq_true rfl, Nat.le_of_ble_eq_true rfl⟩ hl.1 rfl (Nat.le_of_ble_eq_true rfl) dL_law_2863 ⟨(by show cw + 1 ≤ 601024; omega), (by show sw + 6 ≤ 7293033; omega)⟩) hw (fun r2863 K2863 X2863 R2863 H locs hp2863 hw => ?_)
  obtain ⟨hk1, hv1, ρ1, hC1, hf1⟩ := hp2863
  obtain ⟨hR1, hpt1, hk1o⟩ := hI.c (Or.inl rfl) hC1 hf1
  have hmd1 := hR1.1.1
  refine lv_istore (pc := 2866) (lv' := [(6, .int (iI r2863)), (5, .int (iI i)), (4, .ref outD), (3, .ref out), (2, .ref md), (1, .ref x), (0, .ref b)]) hx hb dL_law_2866 hl (by decide) rfl (fun ls hl => ?_)
  refine lv_aload_n (pc := 2868) hx hb dL_law_2868 rfl (lv_at hl 4 rfl) ?_
  refine lv_aload_n (pc := 2869) hx hb dL_law_2869 rfl (lv_at hl 6 rfl) ?_
  refine lv_iload (pc := 2870) hx hb dL_law_2870 (lv_at hl 1 rfl) ?_
  refine ziconst (pc := 2872) (n := 1) hx hb dL_law_2872 ?_
  refine zadd (pc := 2873) hx hb dL_law_2873 ?_
  refine zsld (pc := 2874) hx hb hXs hbl hbA hL hw ⟨by omega, by omega⟩ hq1 dL_law_2874 ?_
  have hM1 : okM M := by exact hM
  refine zkIx (pc := 2875) (zrV (As := [.int (iI day)]) hx hb hml hown hG hw (c_X9_feastOn l Γ K2863 X2863 R2863 md day (rlb K2863 ρ1) M (by (first | assumption | omega)) (by (first | assumption | omega)) (by (first | assumption | omega))) (T := TX9) hmd1 rfl cb_X9_feastOn wl_L_294 rfl ⟨Nat.le_of_ble_eq_true rfl, Nat.le_of_ble_eq_true rfl⟩ hl.1 rfl (Nat.le_of_ble_eq_true rfl) dL_law_2875 ⟨(by show cw + 1 + 0 ≤ 601024; omega), (by show sw + 6 + 0 ≤ 7293033; omega)⟩) hw (fun r2875 X2875 H locs hp2875 hw => ?_)
  obtain ⟨hv2, h02, ρ2, hR2, hg2, hpt2⟩ : (cdDay day = 0 → r2875 = falM M day) ∧ X2875 md 0 = cdDay day ∧ ∃ ρ2, repR ρ2 K2863 X2875 R2863 md M ∧ frR (rlb K2863 ρ1) K2863 X2863 R2863 ρ2 K2863 X2875 R2863 ∧ ptR X2875 R2863 md ≤ ptR X2863 R2863 md := by obtain ⟨a1, a2, a3, a4, a5⟩ := hp2875; exact ⟨a1, a2, rlb K2863 ρ1, a3, a4, ptR_ls (a5.ls hR1)⟩
  obtain ⟨hxo, hxd, ρ3, hI3⟩ := LI.r hC1 hk1o hM1 hR2 hg2
  have hmd3 := hI3.2.1.1.1
  have hko3 := hI3.2.2.2.1.1
  have hkd3 := hI3.2.2.2.2.1
  have hcb : 0 ≤ cdDay day ∧ cdDay day ≤ 3 := by unfold cdDay; (repeat' split) <;> omega
  refine lv_istore (pc := 2878) (lv' := [(7, .int (iI r2875)), (6, .int (iI r2863)), (5, .int (iI i)), (4, .ref outD), (3, .ref out), (2, .ref md), (1, .ref x), (0, .ref b)]) hx hb dL_law_2878 hl (by decide) rfl (fun ls hl => ?_)
  refine lv_aload_n (pc := 2880) hx hb dL_law_2880 rfl (lv_at hl 5 rfl) ?_
  refine zkIp (pc := 2881) (zrV (As := []) hx hb hml hown hG hw (c_X9_thrown l Γ K2863 X2875 R2863 md  (by (first | assumption | omega))) (T := TX9) hmd3 rfl cb_X9_thrown wl_L_172 rfl ⟨Nat.le_of_ble_eq_true rfl, Nat.le_of_ble_eq_true rfl⟩ hl.1 rfl (Nat.le_of_ble_eq_true rfl) dL_law_2881 ⟨(by show cw + 1 + 0 ≤ 601024; omega), (by show sw + 6 + 0 ≤ 7293033; omega)⟩) hw (fun r2881 H locs hp2881 hw => ?_)
  subst hp2881
  refine lv_iload (pc := 2884) hx hb dL_law_2884 (lv_at hl 1 rfl) ?_
  refine zicmp_eq (pc := 2886) hx hb 2891 (by omega) (by omega) dL_law_2886 (by decide) (fun c2886 => ?_) (fun c2886 => ?_)
  · skip
    refine lv_iload (pc := 2891) hx hb dL_law_2891 (lv_at hl 1 rfl) ?_
    refine zif_ne (pc := 2893) hx hb 2908 (by omega) dL_law_2893 (by decide) (fun c2893 => ?_) (fun c2893 => ?_)
    · skip
      refine lv_goto (pc := 2908) (tgt := 3400) hx hb dL_law_2908 (by decide) ?_
      exact kk ρ3 K2863 X2875 R2863 _ H locs _ _ ls hI3 ⟨by omega, by omega⟩ hw (lv_sub hl [2, 3, 4, 5, 6, 7] rfl)
    · skip
      have hc0 : cdDay day = 0 := by omega
      have hov : X2875 out 0 = wI r2875 := by rw [congrFun hxo 0, hv1 hc0, hv2 hc0]
      refine lv_aload_n (pc := 2896) hx hb dL_law_2896 rfl (lv_at hl 4 rfl) ?_
      refine ziconst (pc := 2897) (n := 0) hx hb dL_law_2897 ?_
      refine zlald (pc := 2898) hx hb hw hko3 ⟨by omega, by omega⟩ (by omega) dL_law_2898 ?_
      refine lv_iload (pc := 2899) hx hb dL_law_2899 (lv_at hl 0 rfl) ?_
      refine zi2lw (pc := 2901) hx hb dL_law_2901 ?_
      refine zlcmpE (pc := 2902) hx hb hov dL_law_2902 ?_
      refine zif_eq (pc := 2903) hx hb 2908 (by omega) dL_law_2903 (by decide) (fun c2903 => ?_) (fun c2903 => ?_)
      · skip
        refine lv_goto (pc := 2908) (tgt := 3400) hx hb dL_law_2908 (by decide) ?_
        exact kk ρ3 K2863 X2875 R2863 _ H locs _ _ ls hI3 ⟨by omega, by omega⟩ hw (lv_sub hl [2, 3, 4, 5, 6, 7] rfl)
      · skip
        exfalso; omega
  · skip
    exfalso; omega
set_option maxHeartbeats 4000000 in
set_option maxRecDepth 100000 in
theorem lc_39 {p : Program} {l : Launch} (hl9 : l.stackTraces = false) {e : Env} {s : State} {m : MethodId} {below : List Frame} {meth : Method} {c : Code} {Q : State → Prop} {b L : Nat} {xs : Nat → Int32} {Γ : zG} {K0 : zK} (E : LE p s m c b L xs K0) {ρ : zL} {K : zK} {X : zX} {Rf : zR} {M : zM} {x md out outD it : Nat} {i : Int} {cw sw : Nat} {H : Heap} {locs : List Loc} {ls : Array Slot} (hi : 0 ≤ i ∧ i + 8 ≤ (L : Int)) (hit : it ≤ 511) (hI : LI ρ K X Rf x md out outD M) (hcs : cw ≤ 100 + 1100 * it ∧ sw + ptR X Rf md ≤ 112000 + 14000 * it) (hw : Wd Γ (zA K0 s.heap.size) K X Rf s H locs) (hl : lv_has ls 9 [(5, .int (iI i)), (4, .ref outD), (3, .ref out), (2, .ref md), (1, .ref x), (0, .ref b)]) (kk : ∀ (ρ' : zL) (K' : zK) (X' : zX) (R' : zR) (M' : zM) (H' : Heap) (locs' : List Loc) (cl' sl' : Nat) (ls' : Array Slot), LI ρ' K' X' R' x md out outD M' → (cl' ≤ 100 + 1100 * (it + 1) ∧ sl' + ptR X' R' md ≤ 112000 + 14000 * (it + 1)) → Wd Γ (zA K0 s.heap.size) K' X' R' s H' locs' → lv_has ls' 9 [(5, .int (iI i)), (4, .ref outD), (3, .ref out), (2, .ref md), (1, .ref x), (0, .ref b)] → W p l e room_1 s m #[Value.ref b] below meth c H' locs' cl' sl' Q (F0 m 3400 ls' [])) : W p l e room_1 s m #[Value.ref b] below meth c H locs cw sw Q (F0 m 2911 ls []) := by
  obtain ⟨⟨hx, hb, hml, hown⟩, hG, h46, hX, hXs, hbl, hbA, hL⟩ := E
  obtain ⟨hC, hRr, hM, ⟨hko4, hlo4⟩, hko5, hlo5⟩ := id hI
  have hCk := hC.1.1
  have hloo : ρ out = 4000 ∨ ρ out = 4001 := Or.inl hlo4
  have hlod : ρ outD = 4000 ∨ ρ outD = 4001 := Or.inr hlo5
  obtain ⟨day, hq1⟩ : ∃ z : Int, scI xs (i + 1).toNat = z := ⟨_, rfl⟩
  have hf1 : fit day := by rw [← hq1]; exact scI_fit
  refine lv_aload_n (pc := 2911) hx hb dL_law_2911 rfl (lv_at hl 4 rfl) ?_
  refine lv_aload_n (pc := 2912) hx hb dL_law_2912 rfl (lv_at hl 5 rfl) ?_
  refine lv_iload (pc := 2913) hx hb dL_law_2913 (lv_at hl 0 rfl) ?_
  refine ziconst (pc := 2915) (n := 1) hx hb dL_law_2915 ?_
  refine zadd (pc := 2916) hx hb dL_law_2916 ?_
  refine zsld (pc := 2917) hx hb hXs hbl hbA hL hw ⟨by omega, by omega⟩ hq1 dL_law_2917 ?_
  refine lv_aload_n (pc := 2918) hx hb dL_law_2918 rfl (lv_at hl 2 rfl) ?_
  refine zkI (pc := 2919) (zlrS (As := [.ref x, .int (iI day), .ref out]) hx hb hml hown hG h46 hX hw (c_L_isWorking l hl9 Γ K X Rf x day out (ρ) M (by (first | assumption | omega)) (by (first | assumption | omega)) (by (first | assumption | omega)) (by (first | assumption | omega)) (by (first | assumption | omega))) cb_L_isWorking wl_L_295 rfl ⟨Nat.le_of_ble_eq_true rfl, Nat.le_of_ble_eq_true rfl⟩ hl.1 rfl (Nat.le_of_ble_eq_true rfl) dL_law_2919 ⟨(by show cw + 1 ≤ 601024; omega), (by show sw + 6 ≤ 7293033; omega)⟩) hw (fun r2919 K2919 X2919 R2919 H locs hp2919 hw => ?_)
  obtain ⟨hk1, hv1, ρ1, hC1, hf1⟩ := hp2919
  obtain ⟨hR1, hpt1, hk1o⟩ := hI.c (Or.inl rfl) hC1 hf1
  have hmd1 := hR1.1.1
  refine lv_istore (pc := 2922) (lv' := [(6, .int (iI r2919)), (5, .int (iI i)), (4, .ref outD), (3, .ref out), (2, .ref md), (1, .ref x), (0, .ref b)]) hx hb dL_law_2922 hl (by decide) rfl (fun ls hl => ?_)
  refine lv_aload_n (pc := 2924) hx hb dL_law_2924 rfl (lv_at hl 4 rfl) ?_
  refine lv_aload_n (pc := 2925) hx hb dL_law_2925 rfl (lv_at hl 6 rfl) ?_
  refine lv_iload (pc := 2926) hx hb dL_law_2926 (lv_at hl 1 rfl) ?_
  refine ziconst (pc := 2928) (n := 1) hx hb dL_law_2928 ?_
  refine zadd (pc := 2929) hx hb dL_law_2929 ?_
  refine zsld (pc := 2930) hx hb hXs hbl hbA hL hw ⟨by omega, by omega⟩ hq1 dL_law_2930 ?_
  have hM1 : okM M := by exact hM
  refine zkIx (pc := 2931) (zrV (As := [.int (iI day)]) hx hb hml hown hG hw (c_X9_isWorking l Γ K2919 X2919 R2919 md day (rlb K2919 ρ1) M (by (first | assumption | omega)) (by (first | assumption | omega)) (by (first | assumption | omega))) (T := TX9) hmd1 rfl cb_X9_isWorking wl_L_297 rfl ⟨Nat.le_of_ble_eq_true rfl, Nat.le_of_ble_eq_true rfl⟩ hl.1 rfl (Nat.le_of_ble_eq_true rfl) dL_law_2931 ⟨(by show cw + 1 + 0 ≤ 601024; omega), (by show sw + 6 + 0 ≤ 7293033; omega)⟩) hw (fun r2931 X2931 H locs hp2931 hw => ?_)
  obtain ⟨hv2, h02, ρ2, hR2, hg2, hpt2⟩ : (cdDay day = 0 → r2931 = bI (wkdM M day)) ∧ X2931 md 0 = cdDay day ∧ ∃ ρ2, repR ρ2 K2919 X2931 R2919 md M ∧ frR (rlb K2919 ρ1) K2919 X2919 R2919 ρ2 K2919 X2931 R2919 ∧ ptR X2931 R2919 md ≤ ptR X2919 R2919 md := by obtain ⟨a1, a2, a3, a4, a5⟩ := hp2931; exact ⟨a1, a2, rlb K2919 ρ1, a3, a4, ptR_ls (a5.ls hR1)⟩
  obtain ⟨hxo, hxd, ρ3, hI3⟩ := LI.r hC1 hk1o hM1 hR2 hg2
  have hmd3 := hI3.2.1.1.1
  have hko3 := hI3.2.2.2.1.1
  have hkd3 := hI3.2.2.2.2.1
  have hcb : 0 ≤ cdDay day ∧ cdDay day ≤ 3 := by unfold cdDay; (repeat' split) <;> omega
  refine lv_istore (pc := 2934) (lv' := [(7, .int (iI r2931)), (6, .int (iI r2919)), (5, .int (iI i)), (4, .ref outD), (3, .ref out), (2, .ref md), (1, .ref x), (0, .ref b)]) hx hb dL_law_2934 hl (by decide) rfl (fun ls hl => ?_)
  refine lv_aload_n (pc := 2936) hx hb dL_law_2936 rfl (lv_at hl 5 rfl) ?_
  refine zkIp (pc := 2937) (zrV (As := []) hx hb hml hown hG hw (c_X9_thrown l Γ K2919 X2931 R2919 md  (by (first | assumption | omega))) (T := TX9) hmd3 rfl cb_X9_thrown wl_L_172 rfl ⟨Nat.le_of_ble_eq_true rfl, Nat.le_of_ble_eq_true rfl⟩ hl.1 rfl (Nat.le_of_ble_eq_true rfl) dL_law_2937 ⟨(by show cw + 1 + 0 ≤ 601024; omega), (by show sw + 6 + 0 ≤ 7293033; omega)⟩) hw (fun r2937 H locs hp2937 hw => ?_)
  subst hp2937
  refine lv_iload (pc := 2940) hx hb dL_law_2940 (lv_at hl 1 rfl) ?_
  refine zicmp_eq (pc := 2942) hx hb 2947 (by omega) (by omega) dL_law_2942 (by decide) (fun c2942 => ?_) (fun c2942 => ?_)
  · skip
    refine lv_iload (pc := 2947) hx hb dL_law_2947 (lv_at hl 1 rfl) ?_
    refine zif_ne (pc := 2949) hx hb 2971 (by omega) dL_law_2949 (by decide) (fun c2949 => ?_) (fun c2949 => ?_)
    · skip
      refine lv_goto (pc := 2971) (tgt := 3400) hx hb dL_law_2971 (by decide) ?_
      exact kk ρ3 K2919 X2931 R2919 _ H locs _ _ ls hI3 ⟨by omega, by omega⟩ hw (lv_sub hl [2, 3, 4, 5, 6, 7] rfl)
    · skip
      have hc0 : cdDay day = 0 := by omega
      have hr01 : r2931 = 0 ∨ r2931 = 1 := by rw [hv2 hc0]; (try unfold bI); split <;> first | exact Or.inr rfl | exact Or.inl rfl
      have hov : X2931 out 0 = r2931 := by rw [congrFun hxo 0, hv1 hc0, hv2 hc0]
      refine lv_aload_n (pc := 2952) hx hb dL_law_2952 rfl (lv_at hl 4 rfl) ?_
      refine ziconst (pc := 2953) (n := 0) hx hb dL_law_2953 ?_
      refine zlald (pc := 2954) hx hb hw hko3 ⟨by omega, by omega⟩ (by omega) dL_law_2954 ?_
      refine lv_iload (pc := 2955) hx hb dL_law_2955 (lv_at hl 0 rfl) ?_
      refine zif_eq (pc := 2957) hx hb 2964 (by omega) dL_law_2957 (by decide) (fun c2957 => ?_) (fun c2957 => ?_)
      · skip
        refine zlconst (pc := 2964) (z := 0) hx hb rfl dL_law_2964 ?_
        refine zlcmpE (pc := 2965) hx hb (hov.trans (by omega)) dL_law_2965 ?_
        refine zif_eq (pc := 2966) hx hb 2971 (by omega) dL_law_2966 (by decide) (fun c2966 => ?_) (fun c2966 => ?_)
        · skip
          refine lv_goto (pc := 2971) (tgt := 3400) hx hb dL_law_2971 (by decide) ?_
          exact kk ρ3 K2919 X2931 R2919 _ H locs _ _ ls hI3 ⟨by omega, by omega⟩ hw (lv_sub hl [2, 3, 4, 5, 6, 7] rfl)
        · skip
          exfalso; omega
      · skip
        refine zlconst (pc := 2960) (z := 1) hx hb rfl dL_law_2960 ?_
        refine lv_goto (pc := 2961) (tgt := 2965) hx hb dL_law_2961 (by decide) ?_
        refine zlcmpE (pc := 2965) hx hb (hov.trans (by omega)) dL_law_2965 ?_
        refine zif_eq (pc := 2966) hx hb 2971 (by omega) dL_law_2966 (by decide) (fun c2966 => ?_) (fun c2966 => ?_)
        · skip
          refine lv_goto (pc := 2971) (tgt := 3400) hx hb dL_law_2971 (by decide) ?_
          exact kk ρ3 K2919 X2931 R2919 _ H locs _ _ ls hI3 ⟨by omega, by omega⟩ hw (lv_sub hl [2, 3, 4, 5, 6, 7] rfl)
        · skip
          exfalso; omega
  · skip
    exfalso; omega
set_option maxHeartbeats 4000000 in
set_option maxRecDepth 100000 in
theorem lc_40 {p : Program} {l : Launch} (hl9 : l.stackTraces = false) {e : Env} {s : State} {m : MethodId} {below : List Frame} {meth : Method} {c : Code} {Q : State → Prop} {b L : Nat} {xs : Nat → Int32} {Γ : zG} {K0 : zK} (E : LE p s m c b L xs K0) {ρ : zL} {K : zK} {X : zX} {Rf : zR} {M : zM} {x md out outD it : Nat} {i : Int} {cw sw : Nat} {H : Heap} {locs : List Loc} {ls : Array Slot} (hi : 0 ≤ i ∧ i + 8 ≤ (L : Int)) (hit : it ≤ 511) (hI : LI ρ K X Rf x md out outD M) (hcs : cw ≤ 100 + 1100 * it ∧ sw + ptR X Rf md ≤ 112000 + 14000 * it) (hw : Wd Γ (zA K0 s.heap.size) K X Rf s H locs) (hl : lv_has ls 9 [(5, .int (iI i)), (4, .ref outD), (3, .ref out), (2, .ref md), (1, .ref x), (0, .ref b)]) (kk : ∀ (ρ' : zL) (K' : zK) (X' : zX) (R' : zR) (M' : zM) (H' : Heap) (locs' : List Loc) (cl' sl' : Nat) (ls' : Array Slot), LI ρ' K' X' R' x md out outD M' → (cl' ≤ 100 + 1100 * (it + 1) ∧ sl' + ptR X' R' md ≤ 112000 + 14000 * (it + 1)) → Wd Γ (zA K0 s.heap.size) K' X' R' s H' locs' → lv_has ls' 9 [(5, .int (iI i)), (4, .ref outD), (3, .ref out), (2, .ref md), (1, .ref x), (0, .ref b)] → W p l e room_1 s m #[Value.ref b] below meth c H' locs' cl' sl' Q (F0 m 3400 ls' [])) : W p l e room_1 s m #[Value.ref b] below meth c H locs cw sw Q (F0 m 2974 ls []) := by
  obtain ⟨⟨hx, hb, hml, hown⟩, hG, h46, hX, hXs, hbl, hbA, hL⟩ := E
  obtain ⟨hC, hRr, hM, ⟨hko4, hlo4⟩, hko5, hlo5⟩ := id hI
  have hCk := hC.1.1
  have hloo : ρ out = 4000 ∨ ρ out = 4001 := Or.inl hlo4
  have hlod : ρ outD = 4000 ∨ ρ outD = 4001 := Or.inr hlo5
  obtain ⟨fr, hq1⟩ : ∃ z : Int, scI xs (i + 1).toNat = z := ⟨_, rfl⟩
  have hf1 : fit fr := by rw [← hq1]; exact scI_fit
  obtain ⟨days, hq2⟩ : ∃ z : Int, scI xs (i + 2).toNat = z := ⟨_, rfl⟩
  have hf2 : fit days := by rw [← hq2]; exact scI_fit
  refine lv_aload_n (pc := 2974) hx hb dL_law_2974 rfl (lv_at hl 4 rfl) ?_
  refine lv_aload_n (pc := 2975) hx hb dL_law_2975 rfl (lv_at hl 5 rfl) ?_
  refine lv_iload (pc := 2976) hx hb dL_law_2976 (lv_at hl 0 rfl) ?_
  refine ziconst (pc := 2978) (n := 1) hx hb dL_law_2978 ?_
  refine zadd (pc := 2979) hx hb dL_law_2979 ?_
  refine zsld (pc := 2980) hx hb hXs hbl hbA hL hw ⟨by omega, by omega⟩ hq1 dL_law_2980 ?_
  refine lv_aload_n (pc := 2981) hx hb dL_law_2981 rfl (lv_at hl 5 rfl) ?_
  refine lv_iload (pc := 2982) hx hb dL_law_2982 (lv_at hl 0 rfl) ?_
  refine ziconst (pc := 2984) (n := 2) hx hb dL_law_2984 ?_
  refine zadd (pc := 2985) hx hb dL_law_2985 ?_
  refine zsld (pc := 2986) hx hb hXs hbl hbA hL hw ⟨by omega, by omega⟩ hq2 dL_law_2986 ?_
  refine lv_aload_n (pc := 2987) hx hb dL_law_2987 rfl (lv_at hl 2 rfl) ?_
  refine zkI (pc := 2988) (zlrS (As := [.ref x, .int (iI fr), .int (iI days), .ref out]) hx hb hml hown hG h46 hX hw (c_L_workingDays l hl9 Γ K X Rf x fr days out (ρ) M (by (first | assumption | omega)) (by (first | assumption | omega)) (by (first | assumption | omega)) (by (first | assumption | omega)) (by (first | assumption | omega))) cb_L_workingDays wl_L_298 rfl ⟨Nat.le_of_ble_eq_true rfl, Nat.le_of_ble_eq_true rfl⟩ hl.1 rfl (Nat.le_of_ble_eq_true rfl) dL_law_2988 ⟨(by show cw + 2 ≤ 601024; omega), (by show sw + 12 ≤ 7293033; omega)⟩) hw (fun r2988 K2988 X2988 R2988 H locs hp2988 hw => ?_)
  obtain ⟨hk1, hv1, ρ1, hC1, hf1⟩ := hp2988
  obtain ⟨hR1, hpt1, hk1o⟩ := hI.c (Or.inl rfl) hC1 hf1
  have hmd1 := hR1.1.1
  refine lv_istore (pc := 2991) (lv' := [(6, .int (iI r2988)), (5, .int (iI i)), (4, .ref outD), (3, .ref out), (2, .ref md), (1, .ref x), (0, .ref b)]) hx hb dL_law_2991 hl (by decide) rfl (fun ls hl => ?_)
  refine lv_aload_n (pc := 2993) hx hb dL_law_2993 rfl (lv_at hl 4 rfl) ?_
  refine lv_aload_n (pc := 2994) hx hb dL_law_2994 rfl (lv_at hl 6 rfl) ?_
  refine lv_iload (pc := 2995) hx hb dL_law_2995 (lv_at hl 1 rfl) ?_
  refine ziconst (pc := 2997) (n := 1) hx hb dL_law_2997 ?_
  refine zadd (pc := 2998) hx hb dL_law_2998 ?_
  refine zsld (pc := 2999) hx hb hXs hbl hbA hL hw ⟨by omega, by omega⟩ hq1 dL_law_2999 ?_
  refine lv_aload_n (pc := 3000) hx hb dL_law_3000 rfl (lv_at hl 6 rfl) ?_
  refine lv_iload (pc := 3001) hx hb dL_law_3001 (lv_at hl 1 rfl) ?_
  refine ziconst (pc := 3003) (n := 2) hx hb dL_law_3003 ?_
  refine zadd (pc := 3004) hx hb dL_law_3004 ?_
  refine zsld (pc := 3005) hx hb hXs hbl hbA hL hw ⟨by omega, by omega⟩ hq2 dL_law_3005 ?_
  have hM1 : okM M := by exact hM
  refine zkIx (pc := 3006) (zrV (As := [.int (iI fr), .int (iI days)]) hx hb hml hown hG hw (c_X9_workingDays l Γ K2988 X2988 R2988 md fr days (rlb K2988 ρ1) M (by (first | assumption | omega)) (by (first | assumption | omega)) (by (first | assumption | omega))) (T := TX9) hmd1 rfl cb_X9_workingDays wl_L_300 rfl ⟨Nat.le_of_ble_eq_true rfl, Nat.le_of_ble_eq_true rfl⟩ hl.1 rfl (Nat.le_of_ble_eq_true rfl) dL_law_3006 ⟨(by show cw + 2 + 0 ≤ 601024; omega), (by show sw + 12 + 0 ≤ 7293033; omega)⟩) hw (fun r3006 X3006 H locs hp3006 hw => ?_)
  obtain ⟨hv2, h02, ρ2, hR2, hg2, hpt2⟩ : (cdWds fr days = 0 → r3006 = cP (wkdM M) (fr + days - fr).toNat fr) ∧ X3006 md 0 = cdWds fr days ∧ ∃ ρ2, repR ρ2 K2988 X3006 R2988 md M ∧ frR (rlb K2988 ρ1) K2988 X2988 R2988 ρ2 K2988 X3006 R2988 ∧ ptR X3006 R2988 md ≤ ptR X2988 R2988 md := by obtain ⟨a1, a2, a3, a4, a5⟩ := hp3006; exact ⟨a1, a2, rlb K2988 ρ1, a3, a4, ptR_ls (a5.ls hR1)⟩
  obtain ⟨hxo, hxd, ρ3, hI3⟩ := LI.r hC1 hk1o hM1 hR2 hg2
  have hmd3 := hI3.2.1.1.1
  have hko3 := hI3.2.2.2.1.1
  have hkd3 := hI3.2.2.2.2.1
  have hcb : 0 ≤ cdWds fr days ∧ cdWds fr days ≤ 3 := by unfold cdWds; (repeat' split) <;> omega
  refine lv_istore (pc := 3009) (lv' := [(7, .int (iI r3006)), (6, .int (iI r2988)), (5, .int (iI i)), (4, .ref outD), (3, .ref out), (2, .ref md), (1, .ref x), (0, .ref b)]) hx hb dL_law_3009 hl (by decide) rfl (fun ls hl => ?_)
  refine lv_aload_n (pc := 3011) hx hb dL_law_3011 rfl (lv_at hl 5 rfl) ?_
  refine zkIp (pc := 3012) (zrV (As := []) hx hb hml hown hG hw (c_X9_thrown l Γ K2988 X3006 R2988 md  (by (first | assumption | omega))) (T := TX9) hmd3 rfl cb_X9_thrown wl_L_172 rfl ⟨Nat.le_of_ble_eq_true rfl, Nat.le_of_ble_eq_true rfl⟩ hl.1 rfl (Nat.le_of_ble_eq_true rfl) dL_law_3012 ⟨(by show cw + 2 + 0 ≤ 601024; omega), (by show sw + 12 + 0 ≤ 7293033; omega)⟩) hw (fun r3012 H locs hp3012 hw => ?_)
  subst hp3012
  refine lv_iload (pc := 3015) hx hb dL_law_3015 (lv_at hl 1 rfl) ?_
  refine zicmp_eq (pc := 3017) hx hb 3022 (by omega) (by omega) dL_law_3017 (by decide) (fun c3017 => ?_) (fun c3017 => ?_)
  · skip
    refine lv_iload (pc := 3022) hx hb dL_law_3022 (lv_at hl 1 rfl) ?_
    refine zif_ne (pc := 3024) hx hb 3039 (by omega) dL_law_3024 (by decide) (fun c3024 => ?_) (fun c3024 => ?_)
    · skip
      refine lv_goto (pc := 3039) (tgt := 3400) hx hb dL_law_3039 (by decide) ?_
      exact kk ρ3 K2988 X3006 R2988 _ H locs _ _ ls hI3 ⟨by omega, by omega⟩ hw (lv_sub hl [2, 3, 4, 5, 6, 7] rfl)
    · skip
      have hc0 : cdWds fr days = 0 := by omega
      have hov : X3006 out 0 = wI r3006 := by rw [congrFun hxo 0, hv1 hc0, hv2 hc0]
      refine lv_aload_n (pc := 3027) hx hb dL_law_3027 rfl (lv_at hl 4 rfl) ?_
      refine ziconst (pc := 3028) (n := 0) hx hb dL_law_3028 ?_
      refine zlald (pc := 3029) hx hb hw hko3 ⟨by omega, by omega⟩ (by omega) dL_law_3029 ?_
      refine lv_iload (pc := 3030) hx hb dL_law_3030 (lv_at hl 0 rfl) ?_
      refine zi2lw (pc := 3032) hx hb dL_law_3032 ?_
      refine zlcmpE (pc := 3033) hx hb hov dL_law_3033 ?_
      refine zif_eq (pc := 3034) hx hb 3039 (by omega) dL_law_3034 (by decide) (fun c3034 => ?_) (fun c3034 => ?_)
      · skip
        refine lv_goto (pc := 3039) (tgt := 3400) hx hb dL_law_3039 (by decide) ?_
        exact kk ρ3 K2988 X3006 R2988 _ H locs _ _ ls hI3 ⟨by omega, by omega⟩ hw (lv_sub hl [2, 3, 4, 5, 6, 7] rfl)
      · skip
        exfalso; omega
  · skip
    exfalso; omega
set_option maxHeartbeats 4000000 in
set_option maxRecDepth 100000 in
theorem lc_41 {p : Program} {l : Launch} (hl9 : l.stackTraces = false) {e : Env} {s : State} {m : MethodId} {below : List Frame} {meth : Method} {c : Code} {Q : State → Prop} {b L : Nat} {xs : Nat → Int32} {Γ : zG} {K0 : zK} (E : LE p s m c b L xs K0) {ρ : zL} {K : zK} {X : zX} {Rf : zR} {M : zM} {x md out outD it : Nat} {i : Int} {cw sw : Nat} {H : Heap} {locs : List Loc} {ls : Array Slot} (hi : 0 ≤ i ∧ i + 8 ≤ (L : Int)) (hit : it ≤ 511) (hI : LI ρ K X Rf x md out outD M) (hcs : cw ≤ 100 + 1100 * it ∧ sw + ptR X Rf md ≤ 112000 + 14000 * it) (hw : Wd Γ (zA K0 s.heap.size) K X Rf s H locs) (hl : lv_has ls 9 [(5, .int (iI i)), (4, .ref outD), (3, .ref out), (2, .ref md), (1, .ref x), (0, .ref b)]) (kk : ∀ (ρ' : zL) (K' : zK) (X' : zX) (R' : zR) (M' : zM) (H' : Heap) (locs' : List Loc) (cl' sl' : Nat) (ls' : Array Slot), LI ρ' K' X' R' x md out outD M' → (cl' ≤ 100 + 1100 * (it + 1) ∧ sl' + ptR X' R' md ≤ 112000 + 14000 * (it + 1)) → Wd Γ (zA K0 s.heap.size) K' X' R' s H' locs' → lv_has ls' 9 [(5, .int (iI i)), (4, .ref outD), (3, .ref out), (2, .ref md), (1, .ref x), (0, .ref b)] → W p l e room_1 s m #[Value.ref b] below meth c H' locs' cl' sl' Q (F0 m 3400 ls' [])) : W p l e room_1 s m #[Value.ref b] below meth c H locs cw sw Q (F0 m 3042 ls []) := by
  obtain ⟨⟨hx, hb, hml, hown⟩, hG, h46, hX, hXs, hbl, hbA, hL⟩ := E
  obtain ⟨hC, hRr, hM, ⟨hko4, hlo4⟩, hko5, hlo5⟩ := id hI
  have hCk := hC.1.1
  have hloo : ρ out = 4000 ∨ ρ out = 4001 := Or.inl hlo4
  have hlod : ρ outD = 4000 ∨ ρ outD = 4001 := Or.inr hlo5
  obtain ⟨day, hq1⟩ : ∃ z : Int, scI xs (i + 1).toNat = z := ⟨_, rfl⟩
  have hf1 : fit day := by rw [← hq1]; exact scI_fit
  obtain ⟨days, hq2⟩ : ∃ z : Int, scI xs (i + 2).toNat = z := ⟨_, rfl⟩
  have hf2 : fit days := by rw [← hq2]; exact scI_fit
  refine lv_aload_n (pc := 3042) hx hb dL_law_3042 rfl (lv_at hl 4 rfl) ?_
  refine lv_aload_n (pc := 3043) hx hb dL_law_3043 rfl (lv_at hl 5 rfl) ?_
  refine lv_iload (pc := 3044) hx hb dL_law_3044 (lv_at hl 0 rfl) ?_
  refine ziconst (pc := 3046) (n := 1) hx hb dL_law_3046 ?_
  refine zadd (pc := 3047) hx hb dL_law_3047 ?_
  refine zsld (pc := 3048) hx hb hXs hbl hbA hL hw ⟨by omega, by omega⟩ hq1 dL_law_3048 ?_
  refine lv_aload_n (pc := 3049) hx hb dL_law_3049 rfl (lv_at hl 5 rfl) ?_
  refine lv_iload (pc := 3050) hx hb dL_law_3050 (lv_at hl 0 rfl) ?_
  refine ziconst (pc := 3052) (n := 2) hx hb dL_law_3052 ?_
  refine zadd (pc := 3053) hx hb dL_law_3053 ?_
  refine zsld (pc := 3054) hx hb hXs hbl hbA hL hw ⟨by omega, by omega⟩ hq2 dL_law_3054 ?_
  refine lv_aload_n (pc := 3055) hx hb dL_law_3055 rfl (lv_at hl 2 rfl) ?_
  refine zkI (pc := 3056) (zlrS (As := [.ref x, .int (iI day), .int (iI days), .ref out]) hx hb hml hown hG h46 hX hw (c_L_plusWorking l hl9 Γ K X Rf x day days out (ρ) M (by (first | assumption | omega)) (by (first | assumption | omega)) (by (first | assumption | omega)) (by (first | assumption | omega)) (by (first | assumption | omega))) cb_L_plusWorking wl_L_301 rfl ⟨Nat.le_of_ble_eq_true rfl, Nat.le_of_ble_eq_true rfl⟩ hl.1 rfl (Nat.le_of_ble_eq_true rfl) dL_law_3056 ⟨(by show cw + 2 ≤ 601024; omega), (by show sw + 12 ≤ 7293033; omega)⟩) hw (fun r3056 K3056 X3056 R3056 H locs hp3056 hw => ?_)
  obtain ⟨hk1, hv1, ρ1, hC1, hf1⟩ := hp3056
  obtain ⟨hR1, hpt1, hk1o⟩ := hI.c (Or.inl rfl) hC1 hf1
  have hmd1 := hR1.1.1
  refine lv_istore (pc := 3059) (lv' := [(6, .int (iI r3056)), (5, .int (iI i)), (4, .ref outD), (3, .ref out), (2, .ref md), (1, .ref x), (0, .ref b)]) hx hb dL_law_3059 hl (by decide) rfl (fun ls hl => ?_)
  refine lv_aload_n (pc := 3061) hx hb dL_law_3061 rfl (lv_at hl 4 rfl) ?_
  refine lv_aload_n (pc := 3062) hx hb dL_law_3062 rfl (lv_at hl 6 rfl) ?_
  refine lv_iload (pc := 3063) hx hb dL_law_3063 (lv_at hl 1 rfl) ?_
  refine ziconst (pc := 3065) (n := 1) hx hb dL_law_3065 ?_
  refine zadd (pc := 3066) hx hb dL_law_3066 ?_
  refine zsld (pc := 3067) hx hb hXs hbl hbA hL hw ⟨by omega, by omega⟩ hq1 dL_law_3067 ?_
  refine lv_aload_n (pc := 3068) hx hb dL_law_3068 rfl (lv_at hl 6 rfl) ?_
  refine lv_iload (pc := 3069) hx hb dL_law_3069 (lv_at hl 1 rfl) ?_
  refine ziconst (pc := 3071) (n := 2) hx hb dL_law_3071 ?_
  refine zadd (pc := 3072) hx hb dL_law_3072 ?_
  refine zsld (pc := 3073) hx hb hXs hbl hbA hL hw ⟨by omega, by omega⟩ hq2 dL_law_3073 ?_
  have hM1 : okM M := by exact hM
  refine zkIx (pc := 3074) (zrV (As := [.int (iI day), .int (iI days)]) hx hb hml hown hG hw (c_X9_plusWorking l Γ K3056 X3056 R3056 md day days (rlb K3056 ρ1) M (by (first | assumption | omega)) (by (first | assumption | omega)) (by (first | assumption | omega))) (T := TX9) hmd1 rfl cb_X9_plusWorking wl_L_303 rfl ⟨Nat.le_of_ble_eq_true rfl, Nat.le_of_ble_eq_true rfl⟩ hl.1 rfl (Nat.le_of_ble_eq_true rfl) dL_law_3074 ⟨(by show cw + 2 + 0 ≤ 601024; omega), (by show sw + 12 + 0 ≤ 7293033; omega)⟩) hw (fun r3074 X3074 H locs hp3074 hw => ?_)
  obtain ⟨hv2, h02, ρ2, hR2, hg2, hpt2⟩ : (cdPwk day days = 0 → r3074 = bhF (wkdM M) day days) ∧ X3074 md 0 = cdPwk day days ∧ ∃ ρ2, repR ρ2 K3056 X3074 R3056 md M ∧ frR (rlb K3056 ρ1) K3056 X3056 R3056 ρ2 K3056 X3074 R3056 ∧ ptR X3074 R3056 md ≤ ptR X3056 R3056 md := by obtain ⟨a1, a2, a3, a4, a5⟩ := hp3074; exact ⟨a1, a2, rlb K3056 ρ1, a3, a4, ptR_ls (a5.ls hR1)⟩
  obtain ⟨hxo, hxd, ρ3, hI3⟩ := LI.r hC1 hk1o hM1 hR2 hg2
  have hmd3 := hI3.2.1.1.1
  have hko3 := hI3.2.2.2.1.1
  have hkd3 := hI3.2.2.2.2.1
  have hcb : 0 ≤ cdPwk day days ∧ cdPwk day days ≤ 3 := by unfold cdPwk; (repeat' split) <;> omega
  refine lv_istore (pc := 3077) (lv' := [(7, .int (iI r3074)), (6, .int (iI r3056)), (5, .int (iI i)), (4, .ref outD), (3, .ref out), (2, .ref md), (1, .ref x), (0, .ref b)]) hx hb dL_law_3077 hl (by decide) rfl (fun ls hl => ?_)
  refine lv_aload_n (pc := 3079) hx hb dL_law_3079 rfl (lv_at hl 5 rfl) ?_
  refine zkIp (pc := 3080) (zrV (As := []) hx hb hml hown hG hw (c_X9_thrown l Γ K3056 X3074 R3056 md  (by (first | assumption | omega))) (T := TX9) hmd3 rfl cb_X9_thrown wl_L_172 rfl ⟨Nat.le_of_ble_eq_true rfl, Nat.le_of_ble_eq_true rfl⟩ hl.1 rfl (Nat.le_of_ble_eq_true rfl) dL_law_3080 ⟨(by show cw + 2 + 0 ≤ 601024; omega), (by show sw + 12 + 0 ≤ 7293033; omega)⟩) hw (fun r3080 H locs hp3080 hw => ?_)
  subst hp3080
  refine lv_iload (pc := 3083) hx hb dL_law_3083 (lv_at hl 1 rfl) ?_
  refine zicmp_eq (pc := 3085) hx hb 3090 (by omega) (by omega) dL_law_3085 (by decide) (fun c3085 => ?_) (fun c3085 => ?_)
  · skip
    refine lv_iload (pc := 3090) hx hb dL_law_3090 (lv_at hl 1 rfl) ?_
    refine zif_ne (pc := 3092) hx hb 3107 (by omega) dL_law_3092 (by decide) (fun c3092 => ?_) (fun c3092 => ?_)
    · skip
      refine lv_goto (pc := 3107) (tgt := 3400) hx hb dL_law_3107 (by decide) ?_
      exact kk ρ3 K3056 X3074 R3056 _ H locs _ _ ls hI3 ⟨by omega, by omega⟩ hw (lv_sub hl [2, 3, 4, 5, 6, 7] rfl)
    · skip
      have hc0 : cdPwk day days = 0 := by omega
      have hov : X3074 out 0 = wI r3074 := by rw [congrFun hxo 0, hv1 hc0, hv2 hc0]
      refine lv_aload_n (pc := 3095) hx hb dL_law_3095 rfl (lv_at hl 4 rfl) ?_
      refine ziconst (pc := 3096) (n := 0) hx hb dL_law_3096 ?_
      refine zlald (pc := 3097) hx hb hw hko3 ⟨by omega, by omega⟩ (by omega) dL_law_3097 ?_
      refine lv_iload (pc := 3098) hx hb dL_law_3098 (lv_at hl 0 rfl) ?_
      refine zi2lw (pc := 3100) hx hb dL_law_3100 ?_
      refine zlcmpE (pc := 3101) hx hb hov dL_law_3101 ?_
      refine zif_eq (pc := 3102) hx hb 3107 (by omega) dL_law_3102 (by decide) (fun c3102 => ?_) (fun c3102 => ?_)
      · skip
        refine lv_goto (pc := 3107) (tgt := 3400) hx hb dL_law_3107 (by decide) ?_
        exact kk ρ3 K3056 X3074 R3056 _ H locs _ _ ls hI3 ⟨by omega, by omega⟩ hw (lv_sub hl [2, 3, 4, 5, 6, 7] rfl)
      · skip
        exfalso; omega
  · skip
    exfalso; omega
set_option maxHeartbeats 4000000 in
set_option maxRecDepth 100000 in
theorem lc_42 {p : Program} {l : Launch} (hl9 : l.stackTraces = false) {e : Env} {s : State} {m : MethodId} {below : List Frame} {meth : Method} {c : Code} {Q : State → Prop} {b L : Nat} {xs : Nat → Int32} {Γ : zG} {K0 : zK} (E : LE p s m c b L xs K0) {ρ : zL} {K : zK} {X : zX} {Rf : zR} {M : zM} {x md out outD it : Nat} {i : Int} {cw sw : Nat} {H : Heap} {locs : List Loc} {ls : Array Slot} (hi : 0 ≤ i ∧ i + 8 ≤ (L : Int)) (hit : it ≤ 511) (hI : LI ρ K X Rf x md out outD M) (hcs : cw ≤ 100 + 1100 * it ∧ sw + ptR X Rf md ≤ 112000 + 14000 * it) (hw : Wd Γ (zA K0 s.heap.size) K X Rf s H locs) (hl : lv_has ls 9 [(5, .int (iI i)), (4, .ref outD), (3, .ref out), (2, .ref md), (1, .ref x), (0, .ref b)]) (kk : ∀ (ρ' : zL) (K' : zK) (X' : zX) (R' : zR) (M' : zM) (H' : Heap) (locs' : List Loc) (cl' sl' : Nat) (ls' : Array Slot), LI ρ' K' X' R' x md out outD M' → (cl' ≤ 100 + 1100 * (it + 1) ∧ sl' + ptR X' R' md ≤ 112000 + 14000 * (it + 1)) → Wd Γ (zA K0 s.heap.size) K' X' R' s H' locs' → lv_has ls' 9 [(5, .int (iI i)), (4, .ref outD), (3, .ref out), (2, .ref md), (1, .ref x), (0, .ref b)] → W p l e room_1 s m #[Value.ref b] below meth c H' locs' cl' sl' Q (F0 m 3400 ls' [])) : W p l e room_1 s m #[Value.ref b] below meth c H locs cw sw Q (F0 m 3110 ls []) := by
  obtain ⟨⟨hx, hb, hml, hown⟩, hG, h46, hX, hXs, hbl, hbA, hL⟩ := E
  obtain ⟨hC, hRr, hM, ⟨hko4, hlo4⟩, hko5, hlo5⟩ := id hI
  have hCk := hC.1.1
  have hloo : ρ out = 4000 ∨ ρ out = 4001 := Or.inl hlo4
  have hlod : ρ outD = 4000 ∨ ρ outD = 4001 := Or.inr hlo5
  obtain ⟨mo, hq1⟩ : ∃ z : Int, scI xs (i + 1).toNat = z := ⟨_, rfl⟩
  have hf1 : fit mo := by rw [← hq1]; exact scI_fit
  refine lv_aload_n (pc := 3110) hx hb dL_law_3110 rfl (lv_at hl 4 rfl) ?_
  refine lv_aload_n (pc := 3111) hx hb dL_law_3111 rfl (lv_at hl 5 rfl) ?_
  refine lv_iload (pc := 3112) hx hb dL_law_3112 (lv_at hl 0 rfl) ?_
  refine ziconst (pc := 3114) (n := 1) hx hb dL_law_3114 ?_
  refine zadd (pc := 3115) hx hb dL_law_3115 ?_
  refine zsld (pc := 3116) hx hb hXs hbl hbA hL hw ⟨by omega, by omega⟩ hq1 dL_law_3116 ?_
  refine lv_aload_n (pc := 3117) hx hb dL_law_3117 rfl (lv_at hl 2 rfl) ?_
  refine zkI (pc := 3118) (zlrS (As := [.ref x, .int (iI mo), .ref out]) hx hb hml hown hG h46 hX hw (c_L_isWorkingMinute l hl9 Γ K X Rf x mo out (ρ) M (by (first | assumption | omega)) (by (first | assumption | omega)) (by (first | assumption | omega)) (by (first | assumption | omega)) (by (first | assumption | omega))) cb_L_isWorkingMinute wl_L_304 rfl ⟨Nat.le_of_ble_eq_true rfl, Nat.le_of_ble_eq_true rfl⟩ hl.1 rfl (Nat.le_of_ble_eq_true rfl) dL_law_3118 ⟨(by show cw + 1 ≤ 601024; omega), (by show sw + 6 ≤ 7293033; omega)⟩) hw (fun r3118 K3118 X3118 R3118 H locs hp3118 hw => ?_)
  obtain ⟨hk1, hv1, ρ1, hC1, hf1⟩ := hp3118
  obtain ⟨hR1, hpt1, hk1o⟩ := hI.c (Or.inl rfl) hC1 hf1
  have hmd1 := hR1.1.1
  refine lv_istore (pc := 3121) (lv' := [(6, .int (iI r3118)), (5, .int (iI i)), (4, .ref outD), (3, .ref out), (2, .ref md), (1, .ref x), (0, .ref b)]) hx hb dL_law_3121 hl (by decide) rfl (fun ls hl => ?_)
  refine lv_aload_n (pc := 3123) hx hb dL_law_3123 rfl (lv_at hl 4 rfl) ?_
  refine lv_aload_n (pc := 3124) hx hb dL_law_3124 rfl (lv_at hl 6 rfl) ?_
  refine lv_iload (pc := 3125) hx hb dL_law_3125 (lv_at hl 1 rfl) ?_
  refine ziconst (pc := 3127) (n := 1) hx hb dL_law_3127 ?_
  refine zadd (pc := 3128) hx hb dL_law_3128 ?_
  refine zsld (pc := 3129) hx hb hXs hbl hbA hL hw ⟨by omega, by omega⟩ hq1 dL_law_3129 ?_
  have hM1 : okM M := by exact hM
  refine zkI (pc := 3130) (zrV (As := [.int (iI mo)]) hx hb hml hown hG hw (c_X9_isWorkingMinute l Γ K3118 X3118 R3118 md mo (rlb K3118 ρ1) M (by (first | assumption | omega)) (by (first | assumption | omega)) (by (first | assumption | omega))) (T := TX9) hmd1 rfl cb_X9_isWorkingMinute wl_L_306 rfl ⟨Nat.le_of_ble_eq_true rfl, Nat.le_of_ble_eq_true rfl⟩ hl.1 rfl (Nat.le_of_ble_eq_true rfl) dL_law_3130 ⟨(by show cw + 1 + 5 ≤ 601024; omega), (by show sw + 6 + 5000 ≤ 7293033; omega)⟩) hw (fun r3130 K3130 X3130 R3130 H locs hp3130 hw => ?_)
  obtain ⟨hv2, h02, ρ2, hR2, hg2, hpt2⟩ : (cdMom mo = 0 → r3130 = bI (wkmM M mo)) ∧ X3130 md 0 = cdMom mo ∧ ∃ ρ2, repR ρ2 K3130 X3130 R3130 md M ∧ frR (rlb K3118 ρ1) K3118 X3118 R3118 ρ2 K3130 X3130 R3130 ∧ ptR X3130 R3130 md ≤ ptR X3118 R3118 md := by obtain ⟨a1, a2, ⟨ρ', a3, a4⟩, a5, -⟩ := hp3130; exact ⟨a1, a2, ρ', a3, a4, ptR_ls a5⟩
  obtain ⟨hxo, hxd, ρ3, hI3⟩ := LI.r hC1 hk1o hM1 hR2 hg2
  have hmd3 := hI3.2.1.1.1
  have hko3 := hI3.2.2.2.1.1
  have hkd3 := hI3.2.2.2.2.1
  have hcb : 0 ≤ cdMom mo ∧ cdMom mo ≤ 3 := by unfold cdMom; (repeat' split) <;> omega
  refine lv_istore (pc := 3133) (lv' := [(7, .int (iI r3130)), (6, .int (iI r3118)), (5, .int (iI i)), (4, .ref outD), (3, .ref out), (2, .ref md), (1, .ref x), (0, .ref b)]) hx hb dL_law_3133 hl (by decide) rfl (fun ls hl => ?_)
  refine lv_aload_n (pc := 3135) hx hb dL_law_3135 rfl (lv_at hl 5 rfl) ?_
  refine zkIp (pc := 3136) (zrV (As := []) hx hb hml hown hG hw (c_X9_thrown l Γ K3130 X3130 R3130 md  (by (first | assumption | omega))) (T := TX9) hmd3 rfl cb_X9_thrown wl_L_172 rfl ⟨Nat.le_of_ble_eq_true rfl, Nat.le_of_ble_eq_true rfl⟩ hl.1 rfl (Nat.le_of_ble_eq_true rfl) dL_law_3136 ⟨(by show cw + 1 + 5 + 0 ≤ 601024; omega), (by show sw + 6 + 5000 + 0 ≤ 7293033; omega)⟩) hw (fun r3136 H locs hp3136 hw => ?_)
  subst hp3136
  refine lv_iload (pc := 3139) hx hb dL_law_3139 (lv_at hl 1 rfl) ?_
  refine zicmp_eq (pc := 3141) hx hb 3146 (by omega) (by omega) dL_law_3141 (by decide) (fun c3141 => ?_) (fun c3141 => ?_)
  · skip
    refine lv_iload (pc := 3146) hx hb dL_law_3146 (lv_at hl 1 rfl) ?_
    refine zif_ne (pc := 3148) hx hb 3170 (by omega) dL_law_3148 (by decide) (fun c3148 => ?_) (fun c3148 => ?_)
    · skip
      refine lv_goto (pc := 3170) (tgt := 3400) hx hb dL_law_3170 (by decide) ?_
      exact kk ρ3 K3130 X3130 R3130 _ H locs _ _ ls hI3 ⟨by omega, by omega⟩ hw (lv_sub hl [2, 3, 4, 5, 6, 7] rfl)
    · skip
      have hc0 : cdMom mo = 0 := by omega
      have hr01 : r3130 = 0 ∨ r3130 = 1 := by rw [hv2 hc0]; (try unfold bI); split <;> first | exact Or.inr rfl | exact Or.inl rfl
      have hov : X3130 out 0 = r3130 := by rw [congrFun hxo 0, hv1 hc0, hv2 hc0]
      refine lv_aload_n (pc := 3151) hx hb dL_law_3151 rfl (lv_at hl 4 rfl) ?_
      refine ziconst (pc := 3152) (n := 0) hx hb dL_law_3152 ?_
      refine zlald (pc := 3153) hx hb hw hko3 ⟨by omega, by omega⟩ (by omega) dL_law_3153 ?_
      refine lv_iload (pc := 3154) hx hb dL_law_3154 (lv_at hl 0 rfl) ?_
      refine zif_eq (pc := 3156) hx hb 3163 (by omega) dL_law_3156 (by decide) (fun c3156 => ?_) (fun c3156 => ?_)
      · skip
        refine zlconst (pc := 3163) (z := 0) hx hb rfl dL_law_3163 ?_
        refine zlcmpE (pc := 3164) hx hb (hov.trans (by omega)) dL_law_3164 ?_
        refine zif_eq (pc := 3165) hx hb 3170 (by omega) dL_law_3165 (by decide) (fun c3165 => ?_) (fun c3165 => ?_)
        · skip
          refine lv_goto (pc := 3170) (tgt := 3400) hx hb dL_law_3170 (by decide) ?_
          exact kk ρ3 K3130 X3130 R3130 _ H locs _ _ ls hI3 ⟨by omega, by omega⟩ hw (lv_sub hl [2, 3, 4, 5, 6, 7] rfl)
        · skip
          exfalso; omega
      · skip
        refine zlconst (pc := 3159) (z := 1) hx hb rfl dL_law_3159 ?_
        refine lv_goto (pc := 3160) (tgt := 3164) hx hb dL_law_3160 (by decide) ?_
        refine zlcmpE (pc := 3164) hx hb (hov.trans (by omega)) dL_law_3164 ?_
        refine zif_eq (pc := 3165) hx hb 3170 (by omega) dL_law_3165 (by decide) (fun c3165 => ?_) (fun c3165 => ?_)
        · skip
          refine lv_goto (pc := 3170) (tgt := 3400) hx hb dL_law_3170 (by decide) ?_
          exact kk ρ3 K3130 X3130 R3130 _ H locs _ _ ls hI3 ⟨by omega, by omega⟩ hw (lv_sub hl [2, 3, 4, 5, 6, 7] rfl)
        · skip
          exfalso; omega
  · skip
    exfalso; omega
set_option maxHeartbeats 4000000 in
set_option maxRecDepth 100000 in
theorem lc_43 {p : Program} {l : Launch} (hl9 : l.stackTraces = false) {e : Env} {s : State} {m : MethodId} {below : List Frame} {meth : Method} {c : Code} {Q : State → Prop} {b L : Nat} {xs : Nat → Int32} {Γ : zG} {K0 : zK} (E : LE p s m c b L xs K0) {ρ : zL} {K : zK} {X : zX} {Rf : zR} {M : zM} {x md out outD it : Nat} {i : Int} {cw sw : Nat} {H : Heap} {locs : List Loc} {ls : Array Slot} (hi : 0 ≤ i ∧ i + 8 ≤ (L : Int)) (hit : it ≤ 511) (hI : LI ρ K X Rf x md out outD M) (hcs : cw ≤ 100 + 1100 * it ∧ sw + ptR X Rf md ≤ 112000 + 14000 * it) (hw : Wd Γ (zA K0 s.heap.size) K X Rf s H locs) (hl : lv_has ls 9 [(5, .int (iI i)), (4, .ref outD), (3, .ref out), (2, .ref md), (1, .ref x), (0, .ref b)]) (kk : ∀ (ρ' : zL) (K' : zK) (X' : zX) (R' : zR) (M' : zM) (H' : Heap) (locs' : List Loc) (cl' sl' : Nat) (ls' : Array Slot), LI ρ' K' X' R' x md out outD M' → (cl' ≤ 100 + 1100 * (it + 1) ∧ sl' + ptR X' R' md ≤ 112000 + 14000 * (it + 1)) → Wd Γ (zA K0 s.heap.size) K' X' R' s H' locs' → lv_has ls' 9 [(5, .int (iI i)), (4, .ref outD), (3, .ref out), (2, .ref md), (1, .ref x), (0, .ref b)] → W p l e room_1 s m #[Value.ref b] below meth c H' locs' cl' sl' Q (F0 m 3400 ls' [])) : W p l e room_1 s m #[Value.ref b] below meth c H locs cw sw Q (F0 m 3173 ls []) := by
  obtain ⟨⟨hx, hb, hml, hown⟩, hG, h46, hX, hXs, hbl, hbA, hL⟩ := E
  obtain ⟨hC, hRr, hM, ⟨hko4, hlo4⟩, hko5, hlo5⟩ := id hI
  have hCk := hC.1.1
  have hloo : ρ out = 4000 ∨ ρ out = 4001 := Or.inl hlo4
  have hlod : ρ outD = 4000 ∨ ρ outD = 4001 := Or.inr hlo5
  obtain ⟨fr, hq1⟩ : ∃ z : Int, scI xs (i + 1).toNat = z := ⟨_, rfl⟩
  have hf1 : fit fr := by rw [← hq1]; exact scI_fit
  obtain ⟨mn, hq2⟩ : ∃ z : Int, scI xs (i + 2).toNat = z := ⟨_, rfl⟩
  have hf2 : fit mn := by rw [← hq2]; exact scI_fit
  refine lv_aload_n (pc := 3173) hx hb dL_law_3173 rfl (lv_at hl 4 rfl) ?_
  refine lv_aload_n (pc := 3174) hx hb dL_law_3174 rfl (lv_at hl 5 rfl) ?_
  refine lv_iload (pc := 3175) hx hb dL_law_3175 (lv_at hl 0 rfl) ?_
  refine ziconst (pc := 3177) (n := 1) hx hb dL_law_3177 ?_
  refine zadd (pc := 3178) hx hb dL_law_3178 ?_
  refine zsld (pc := 3179) hx hb hXs hbl hbA hL hw ⟨by omega, by omega⟩ hq1 dL_law_3179 ?_
  refine lv_aload_n (pc := 3180) hx hb dL_law_3180 rfl (lv_at hl 5 rfl) ?_
  refine lv_iload (pc := 3181) hx hb dL_law_3181 (lv_at hl 0 rfl) ?_
  refine ziconst (pc := 3183) (n := 2) hx hb dL_law_3183 ?_
  refine zadd (pc := 3184) hx hb dL_law_3184 ?_
  refine zsld (pc := 3185) hx hb hXs hbl hbA hL hw ⟨by omega, by omega⟩ hq2 dL_law_3185 ?_
  refine lv_aload_n (pc := 3186) hx hb dL_law_3186 rfl (lv_at hl 2 rfl) ?_
  refine zkI (pc := 3187) (zlrS (As := [.ref x, .int (iI fr), .int (iI mn), .ref out]) hx hb hml hown hG h46 hX hw (c_L_workWithin l hl9 Γ K X Rf x fr mn out (ρ) M (by (first | assumption | omega)) (by (first | assumption | omega)) (by (first | assumption | omega)) (by (first | assumption | omega)) (by (first | assumption | omega))) cb_L_workWithin wl_L_307 rfl ⟨Nat.le_of_ble_eq_true rfl, Nat.le_of_ble_eq_true rfl⟩ hl.1 rfl (Nat.le_of_ble_eq_true rfl) dL_law_3187 ⟨(by show cw + 2 ≤ 601024; omega), (by show sw + 12 ≤ 7293033; omega)⟩) hw (fun r3187 K3187 X3187 R3187 H locs hp3187 hw => ?_)
  obtain ⟨hk1, hv1, ρ1, hC1, hf1⟩ := hp3187
  obtain ⟨hR1, hpt1, hk1o⟩ := hI.c (Or.inl rfl) hC1 hf1
  have hmd1 := hR1.1.1
  refine lv_istore (pc := 3190) (lv' := [(6, .int (iI r3187)), (5, .int (iI i)), (4, .ref outD), (3, .ref out), (2, .ref md), (1, .ref x), (0, .ref b)]) hx hb dL_law_3190 hl (by decide) rfl (fun ls hl => ?_)
  refine lv_aload_n (pc := 3192) hx hb dL_law_3192 rfl (lv_at hl 4 rfl) ?_
  refine lv_aload_n (pc := 3193) hx hb dL_law_3193 rfl (lv_at hl 6 rfl) ?_
  refine lv_iload (pc := 3194) hx hb dL_law_3194 (lv_at hl 1 rfl) ?_
  refine ziconst (pc := 3196) (n := 1) hx hb dL_law_3196 ?_
  refine zadd (pc := 3197) hx hb dL_law_3197 ?_
  refine zsld (pc := 3198) hx hb hXs hbl hbA hL hw ⟨by omega, by omega⟩ hq1 dL_law_3198 ?_
  refine lv_aload_n (pc := 3199) hx hb dL_law_3199 rfl (lv_at hl 6 rfl) ?_
  refine lv_iload (pc := 3200) hx hb dL_law_3200 (lv_at hl 1 rfl) ?_
  refine ziconst (pc := 3202) (n := 2) hx hb dL_law_3202 ?_
  refine zadd (pc := 3203) hx hb dL_law_3203 ?_
  refine zsld (pc := 3204) hx hb hXs hbl hbA hL hw ⟨by omega, by omega⟩ hq2 dL_law_3204 ?_
  have hM1 : okM M := by exact hM
  refine zkI (pc := 3205) (zrV (As := [.int (iI fr), .int (iI mn)]) hx hb hml hown hG hw (c_X9_workWithin l Γ K3187 X3187 R3187 md fr mn (rlb K3187 ρ1) M (by (first | assumption | omega)) (by (first | assumption | omega)) (by (first | assumption | omega))) (T := TX9) hmd1 rfl cb_X9_workWithin wl_L_309 rfl ⟨Nat.le_of_ble_eq_true rfl, Nat.le_of_ble_eq_true rfl⟩ hl.1 rfl (Nat.le_of_ble_eq_true rfl) dL_law_3205 ⟨(by show cw + 2 + 5 ≤ 601024; omega), (by show sw + 12 + 5000 ≤ 7293033; omega)⟩) hw (fun r3205 K3205 X3205 R3205 H locs hp3205 hw => ?_)
  obtain ⟨hv2, h02, ρ2, hR2, hg2, hpt2⟩ : (cdWwi fr mn = 0 → r3205 = cP (wkmM M) (fr + mn - fr).toNat fr) ∧ X3205 md 0 = cdWwi fr mn ∧ ∃ ρ2, repR ρ2 K3205 X3205 R3205 md M ∧ frR (rlb K3187 ρ1) K3187 X3187 R3187 ρ2 K3205 X3205 R3205 ∧ ptR X3205 R3205 md ≤ ptR X3187 R3187 md := by obtain ⟨a1, a2, ⟨ρ', a3, a4⟩, a5, -⟩ := hp3205; exact ⟨a1, a2, ρ', a3, a4, ptR_ls a5⟩
  obtain ⟨hxo, hxd, ρ3, hI3⟩ := LI.r hC1 hk1o hM1 hR2 hg2
  have hmd3 := hI3.2.1.1.1
  have hko3 := hI3.2.2.2.1.1
  have hkd3 := hI3.2.2.2.2.1
  have hcb : 0 ≤ cdWwi fr mn ∧ cdWwi fr mn ≤ 3 := by unfold cdWwi; (repeat' split) <;> omega
  refine lv_istore (pc := 3208) (lv' := [(7, .int (iI r3205)), (6, .int (iI r3187)), (5, .int (iI i)), (4, .ref outD), (3, .ref out), (2, .ref md), (1, .ref x), (0, .ref b)]) hx hb dL_law_3208 hl (by decide) rfl (fun ls hl => ?_)
  refine lv_aload_n (pc := 3210) hx hb dL_law_3210 rfl (lv_at hl 5 rfl) ?_
  refine zkIp (pc := 3211) (zrV (As := []) hx hb hml hown hG hw (c_X9_thrown l Γ K3205 X3205 R3205 md  (by (first | assumption | omega))) (T := TX9) hmd3 rfl cb_X9_thrown wl_L_172 rfl ⟨Nat.le_of_ble_eq_true rfl, Nat.le_of_ble_eq_true rfl⟩ hl.1 rfl (Nat.le_of_ble_eq_true rfl) dL_law_3211 ⟨(by show cw + 2 + 5 + 0 ≤ 601024; omega), (by show sw + 12 + 5000 + 0 ≤ 7293033; omega)⟩) hw (fun r3211 H locs hp3211 hw => ?_)
  subst hp3211
  refine lv_iload (pc := 3214) hx hb dL_law_3214 (lv_at hl 1 rfl) ?_
  refine zicmp_eq (pc := 3216) hx hb 3221 (by omega) (by omega) dL_law_3216 (by decide) (fun c3216 => ?_) (fun c3216 => ?_)
  · skip
    refine lv_iload (pc := 3221) hx hb dL_law_3221 (lv_at hl 1 rfl) ?_
    refine zif_ne (pc := 3223) hx hb 3238 (by omega) dL_law_3223 (by decide) (fun c3223 => ?_) (fun c3223 => ?_)
    · skip
      refine lv_goto (pc := 3238) (tgt := 3400) hx hb dL_law_3238 (by decide) ?_
      exact kk ρ3 K3205 X3205 R3205 _ H locs _ _ ls hI3 ⟨by omega, by omega⟩ hw (lv_sub hl [2, 3, 4, 5, 6, 7] rfl)
    · skip
      have hc0 : cdWwi fr mn = 0 := by omega
      have hov : X3205 out 0 = wI r3205 := by rw [congrFun hxo 0, hv1 hc0, hv2 hc0]
      refine lv_aload_n (pc := 3226) hx hb dL_law_3226 rfl (lv_at hl 4 rfl) ?_
      refine ziconst (pc := 3227) (n := 0) hx hb dL_law_3227 ?_
      refine zlald (pc := 3228) hx hb hw hko3 ⟨by omega, by omega⟩ (by omega) dL_law_3228 ?_
      refine lv_iload (pc := 3229) hx hb dL_law_3229 (lv_at hl 0 rfl) ?_
      refine zi2lw (pc := 3231) hx hb dL_law_3231 ?_
      refine zlcmpE (pc := 3232) hx hb hov dL_law_3232 ?_
      refine zif_eq (pc := 3233) hx hb 3238 (by omega) dL_law_3233 (by decide) (fun c3233 => ?_) (fun c3233 => ?_)
      · skip
        refine lv_goto (pc := 3238) (tgt := 3400) hx hb dL_law_3238 (by decide) ?_
        exact kk ρ3 K3205 X3205 R3205 _ H locs _ _ ls hI3 ⟨by omega, by omega⟩ hw (lv_sub hl [2, 3, 4, 5, 6, 7] rfl)
      · skip
        exfalso; omega
  · skip
    exfalso; omega
set_option maxHeartbeats 4000000 in
set_option maxRecDepth 100000 in
theorem lc_44 {p : Program} {l : Launch} (hl9 : l.stackTraces = false) {e : Env} {s : State} {m : MethodId} {below : List Frame} {meth : Method} {c : Code} {Q : State → Prop} {b L : Nat} {xs : Nat → Int32} {Γ : zG} {K0 : zK} (E : LE p s m c b L xs K0) {ρ : zL} {K : zK} {X : zX} {Rf : zR} {M : zM} {x md out outD it : Nat} {i : Int} {cw sw : Nat} {H : Heap} {locs : List Loc} {ls : Array Slot} (hi : 0 ≤ i ∧ i + 8 ≤ (L : Int)) (hit : it ≤ 511) (hI : LI ρ K X Rf x md out outD M) (hcs : cw ≤ 100 + 1100 * it ∧ sw + ptR X Rf md ≤ 112000 + 14000 * it) (hw : Wd Γ (zA K0 s.heap.size) K X Rf s H locs) (hl : lv_has ls 9 [(5, .int (iI i)), (4, .ref outD), (3, .ref out), (2, .ref md), (1, .ref x), (0, .ref b)]) (kk : ∀ (ρ' : zL) (K' : zK) (X' : zX) (R' : zR) (M' : zM) (H' : Heap) (locs' : List Loc) (cl' sl' : Nat) (ls' : Array Slot), LI ρ' K' X' R' x md out outD M' → (cl' ≤ 100 + 1100 * (it + 1) ∧ sl' + ptR X' R' md ≤ 112000 + 14000 * (it + 1)) → Wd Γ (zA K0 s.heap.size) K' X' R' s H' locs' → lv_has ls' 9 [(5, .int (iI i)), (4, .ref outD), (3, .ref out), (2, .ref md), (1, .ref x), (0, .ref b)] → W p l e room_1 s m #[Value.ref b] below meth c H' locs' cl' sl' Q (F0 m 3400 ls' [])) : W p l e room_1 s m #[Value.ref b] below meth c H locs cw sw Q (F0 m 3241 ls []) := by
  obtain ⟨⟨hx, hb, hml, hown⟩, hG, h46, hX, hXs, hbl, hbA, hL⟩ := E
  obtain ⟨hC, hRr, hM, ⟨hko4, hlo4⟩, hko5, hlo5⟩ := id hI
  have hCk := hC.1.1
  have hloo : ρ out = 4000 ∨ ρ out = 4001 := Or.inl hlo4
  have hlod : ρ outD = 4000 ∨ ρ outD = 4001 := Or.inr hlo5
  obtain ⟨fr, hq1⟩ : ∃ z : Int, scI xs (i + 1).toNat = z := ⟨_, rfl⟩
  have hf1 : fit fr := by rw [← hq1]; exact scI_fit
  obtain ⟨wk, hq2⟩ : ∃ z : Int, scI xs (i + 2).toNat = z := ⟨_, rfl⟩
  have hf2 : fit wk := by rw [← hq2]; exact scI_fit
  refine lv_aload_n (pc := 3241) hx hb dL_law_3241 rfl (lv_at hl 4 rfl) ?_
  refine lv_aload_n (pc := 3242) hx hb dL_law_3242 rfl (lv_at hl 5 rfl) ?_
  refine lv_iload (pc := 3243) hx hb dL_law_3243 (lv_at hl 0 rfl) ?_
  refine ziconst (pc := 3245) (n := 1) hx hb dL_law_3245 ?_
  refine zadd (pc := 3246) hx hb dL_law_3246 ?_
  refine zsld (pc := 3247) hx hb hXs hbl hbA hL hw ⟨by omega, by omega⟩ hq1 dL_law_3247 ?_
  refine lv_aload_n (pc := 3248) hx hb dL_law_3248 rfl (lv_at hl 5 rfl) ?_
  refine lv_iload (pc := 3249) hx hb dL_law_3249 (lv_at hl 0 rfl) ?_
  refine ziconst (pc := 3251) (n := 2) hx hb dL_law_3251 ?_
  refine zadd (pc := 3252) hx hb dL_law_3252 ?_
  refine zsld (pc := 3253) hx hb hXs hbl hbA hL hw ⟨by omega, by omega⟩ hq2 dL_law_3253 ?_
  refine lv_aload_n (pc := 3254) hx hb dL_law_3254 rfl (lv_at hl 2 rfl) ?_
  refine zkI (pc := 3255) (zlrS (As := [.ref x, .int (iI fr), .int (iI wk), .ref out]) hx hb hml hown hG h46 hX hw (c_L_doneAt l hl9 Γ K X Rf x fr wk out (ρ) M (by (first | assumption | omega)) (by (first | assumption | omega)) (by (first | assumption | omega)) (by (first | assumption | omega)) (by (first | assumption | omega))) cb_L_doneAt wl_L_310 rfl ⟨Nat.le_of_ble_eq_true rfl, Nat.le_of_ble_eq_true rfl⟩ hl.1 rfl (Nat.le_of_ble_eq_true rfl) dL_law_3255 ⟨(by show cw + 2 ≤ 601024; omega), (by show sw + 12 ≤ 7293033; omega)⟩) hw (fun r3255 K3255 X3255 R3255 H locs hp3255 hw => ?_)
  obtain ⟨hk1, hv1, ρ1, hC1, hf1⟩ := hp3255
  obtain ⟨hR1, hpt1, hk1o⟩ := hI.c (Or.inl rfl) hC1 hf1
  have hmd1 := hR1.1.1
  refine lv_istore (pc := 3258) (lv' := [(6, .int (iI r3255)), (5, .int (iI i)), (4, .ref outD), (3, .ref out), (2, .ref md), (1, .ref x), (0, .ref b)]) hx hb dL_law_3258 hl (by decide) rfl (fun ls hl => ?_)
  refine lv_aload_n (pc := 3260) hx hb dL_law_3260 rfl (lv_at hl 4 rfl) ?_
  refine lv_aload_n (pc := 3261) hx hb dL_law_3261 rfl (lv_at hl 6 rfl) ?_
  refine lv_iload (pc := 3262) hx hb dL_law_3262 (lv_at hl 1 rfl) ?_
  refine ziconst (pc := 3264) (n := 1) hx hb dL_law_3264 ?_
  refine zadd (pc := 3265) hx hb dL_law_3265 ?_
  refine zsld (pc := 3266) hx hb hXs hbl hbA hL hw ⟨by omega, by omega⟩ hq1 dL_law_3266 ?_
  refine lv_aload_n (pc := 3267) hx hb dL_law_3267 rfl (lv_at hl 6 rfl) ?_
  refine lv_iload (pc := 3268) hx hb dL_law_3268 (lv_at hl 1 rfl) ?_
  refine ziconst (pc := 3270) (n := 2) hx hb dL_law_3270 ?_
  refine zadd (pc := 3271) hx hb dL_law_3271 ?_
  refine zsld (pc := 3272) hx hb hXs hbl hbA hL hw ⟨by omega, by omega⟩ hq2 dL_law_3272 ?_
  have hM1 : okM M := by exact hM
  refine zkI (pc := 3273) (zrV (As := [.int (iI fr), .int (iI wk)]) hx hb hml hown hG hw (c_X9_doneAt l Γ K3255 X3255 R3255 md fr wk (rlb K3255 ρ1) M (by (first | assumption | omega)) (by (first | assumption | omega)) (by (first | assumption | omega))) (T := TX9) hmd1 rfl cb_X9_doneAt wl_L_312 rfl ⟨Nat.le_of_ble_eq_true rfl, Nat.le_of_ble_eq_true rfl⟩ hl.1 rfl (Nat.le_of_ble_eq_true rfl) dL_law_3273 ⟨(by show cw + 2 + 5 ≤ 601024; omega), (by show sw + 12 + 5000 ≤ 7293033; omega)⟩) hw (fun r3273 K3273 X3273 R3273 H locs hp3273 hw => ?_)
  obtain ⟨hv2, h02, ρ2, hR2, hg2, hpt2⟩ : (cdDon fr wk = 0 → r3273 = dnF (wkmM M) fr wk (min (fr + 50000) 105190559)) ∧ X3273 md 0 = cdDon fr wk ∧ ∃ ρ2, repR ρ2 K3273 X3273 R3273 md M ∧ frR (rlb K3255 ρ1) K3255 X3255 R3255 ρ2 K3273 X3273 R3273 ∧ ptR X3273 R3273 md ≤ ptR X3255 R3255 md := by obtain ⟨a1, a2, ⟨ρ', a3, a4⟩, a5, -⟩ := hp3273; exact ⟨a1, a2, ρ', a3, a4, ptR_ls a5⟩
  obtain ⟨hxo, hxd, ρ3, hI3⟩ := LI.r hC1 hk1o hM1 hR2 hg2
  have hmd3 := hI3.2.1.1.1
  have hko3 := hI3.2.2.2.1.1
  have hkd3 := hI3.2.2.2.2.1
  have hcb : 0 ≤ cdDon fr wk ∧ cdDon fr wk ≤ 3 := by unfold cdDon; (repeat' split) <;> omega
  refine lv_istore (pc := 3276) (lv' := [(7, .int (iI r3273)), (6, .int (iI r3255)), (5, .int (iI i)), (4, .ref outD), (3, .ref out), (2, .ref md), (1, .ref x), (0, .ref b)]) hx hb dL_law_3276 hl (by decide) rfl (fun ls hl => ?_)
  refine lv_aload_n (pc := 3278) hx hb dL_law_3278 rfl (lv_at hl 5 rfl) ?_
  refine zkIp (pc := 3279) (zrV (As := []) hx hb hml hown hG hw (c_X9_thrown l Γ K3273 X3273 R3273 md  (by (first | assumption | omega))) (T := TX9) hmd3 rfl cb_X9_thrown wl_L_172 rfl ⟨Nat.le_of_ble_eq_true rfl, Nat.le_of_ble_eq_true rfl⟩ hl.1 rfl (Nat.le_of_ble_eq_true rfl) dL_law_3279 ⟨(by show cw + 2 + 5 + 0 ≤ 601024; omega), (by show sw + 12 + 5000 + 0 ≤ 7293033; omega)⟩) hw (fun r3279 H locs hp3279 hw => ?_)
  subst hp3279
  refine lv_iload (pc := 3282) hx hb dL_law_3282 (lv_at hl 1 rfl) ?_
  refine zicmp_eq (pc := 3284) hx hb 3289 (by omega) (by omega) dL_law_3284 (by decide) (fun c3284 => ?_) (fun c3284 => ?_)
  · skip
    refine lv_iload (pc := 3289) hx hb dL_law_3289 (lv_at hl 1 rfl) ?_
    refine zif_ne (pc := 3291) hx hb 3306 (by omega) dL_law_3291 (by decide) (fun c3291 => ?_) (fun c3291 => ?_)
    · skip
      refine lv_goto (pc := 3306) (tgt := 3400) hx hb dL_law_3306 (by decide) ?_
      exact kk ρ3 K3273 X3273 R3273 _ H locs _ _ ls hI3 ⟨by omega, by omega⟩ hw (lv_sub hl [2, 3, 4, 5, 6, 7] rfl)
    · skip
      have hc0 : cdDon fr wk = 0 := by omega
      have hov : X3273 out 0 = wI r3273 := by rw [congrFun hxo 0, hv1 hc0, hv2 hc0]
      refine lv_aload_n (pc := 3294) hx hb dL_law_3294 rfl (lv_at hl 4 rfl) ?_
      refine ziconst (pc := 3295) (n := 0) hx hb dL_law_3295 ?_
      refine zlald (pc := 3296) hx hb hw hko3 ⟨by omega, by omega⟩ (by omega) dL_law_3296 ?_
      refine lv_iload (pc := 3297) hx hb dL_law_3297 (lv_at hl 0 rfl) ?_
      refine zi2lw (pc := 3299) hx hb dL_law_3299 ?_
      refine zlcmpE (pc := 3300) hx hb hov dL_law_3300 ?_
      refine zif_eq (pc := 3301) hx hb 3306 (by omega) dL_law_3301 (by decide) (fun c3301 => ?_) (fun c3301 => ?_)
      · skip
        refine lv_goto (pc := 3306) (tgt := 3400) hx hb dL_law_3306 (by decide) ?_
        exact kk ρ3 K3273 X3273 R3273 _ H locs _ _ ls hI3 ⟨by omega, by omega⟩ hw (lv_sub hl [2, 3, 4, 5, 6, 7] rfl)
      · skip
        exfalso; omega
  · skip
    exfalso; omega
set_option maxHeartbeats 4000000 in
set_option maxRecDepth 100000 in
theorem lc_45 {p : Program} {l : Launch} (hl9 : l.stackTraces = false) {e : Env} {s : State} {m : MethodId} {below : List Frame} {meth : Method} {c : Code} {Q : State → Prop} {b L : Nat} {xs : Nat → Int32} {Γ : zG} {K0 : zK} (E : LE p s m c b L xs K0) {ρ : zL} {K : zK} {X : zX} {Rf : zR} {M : zM} {x md out outD it : Nat} {i : Int} {cw sw : Nat} {H : Heap} {locs : List Loc} {ls : Array Slot} (hi : 0 ≤ i ∧ i + 8 ≤ (L : Int)) (hit : it ≤ 511) (hI : LI ρ K X Rf x md out outD M) (hcs : cw ≤ 100 + 1100 * it ∧ sw + ptR X Rf md ≤ 112000 + 14000 * it) (hw : Wd Γ (zA K0 s.heap.size) K X Rf s H locs) (hl : lv_has ls 9 [(5, .int (iI i)), (4, .ref outD), (3, .ref out), (2, .ref md), (1, .ref x), (0, .ref b)]) (kk : ∀ (ρ' : zL) (K' : zK) (X' : zX) (R' : zR) (M' : zM) (H' : Heap) (locs' : List Loc) (cl' sl' : Nat) (ls' : Array Slot), LI ρ' K' X' R' x md out outD M' → (cl' ≤ 100 + 1100 * (it + 1) ∧ sl' + ptR X' R' md ≤ 112000 + 14000 * (it + 1)) → Wd Γ (zA K0 s.heap.size) K' X' R' s H' locs' → lv_has ls' 9 [(5, .int (iI i)), (4, .ref outD), (3, .ref out), (2, .ref md), (1, .ref x), (0, .ref b)] → W p l e room_1 s m #[Value.ref b] below meth c H' locs' cl' sl' Q (F0 m 3400 ls' [])) : W p l e room_1 s m #[Value.ref b] below meth c H locs cw sw Q (F0 m 3309 ls []) := by
  obtain ⟨⟨hx, hb, hml, hown⟩, hG, h46, hX, hXs, hbl, hbA, hL⟩ := E
  obtain ⟨hC, hRr, hM, ⟨hko4, hlo4⟩, hko5, hlo5⟩ := id hI
  have hCk := hC.1.1
  have hloo : ρ out = 4000 ∨ ρ out = 4001 := Or.inl hlo4
  have hlod : ρ outD = 4000 ∨ ρ outD = 4001 := Or.inr hlo5
  obtain ⟨a, hq1⟩ : ∃ z : Int, scI xs (i + 1).toNat = z := ⟨_, rfl⟩
  have hf1 : fit a := by rw [← hq1]; exact scI_fit
  refine lv_aload_n (pc := 3309) hx hb dL_law_3309 rfl (lv_at hl 4 rfl) ?_
  refine lv_aload_n (pc := 3310) hx hb dL_law_3310 rfl (lv_at hl 5 rfl) ?_
  refine lv_iload (pc := 3311) hx hb dL_law_3311 (lv_at hl 0 rfl) ?_
  refine ziconst (pc := 3313) (n := 1) hx hb dL_law_3313 ?_
  refine zadd (pc := 3314) hx hb dL_law_3314 ?_
  refine zsld (pc := 3315) hx hb hXs hbl hbA hL hw ⟨by omega, by omega⟩ hq1 dL_law_3315 ?_
  refine lv_aload (pc := 3316) hx hb dL_law_3316 (lv_at hl 1 rfl) ?_
  refine zkI (pc := 3318) (zlrS (As := [.ref x, .int (iI a), .ref outD]) hx hb hml hown hG h46 hX hw (c_L_meanGap l hl9 Γ K X Rf x a outD (ρ) M (by (first | assumption | omega)) (by (first | assumption | omega)) (by (first | assumption | omega)) (by (first | assumption | omega)) (by (first | assumption | omega))) cb_L_meanGap wl_L_313 rfl ⟨Nat.le_of_ble_eq_true rfl, Nat.le_of_ble_eq_true rfl⟩ hl.1 rfl (Nat.le_of_ble_eq_true rfl) dL_law_3318 ⟨(by show cw + 1 ≤ 601024; omega), (by show sw + 6 ≤ 7293033; omega)⟩) hw (fun r3318 K3318 X3318 R3318 H locs hp3318 hw => ?_)
  obtain ⟨hk1, hv1, ρ1, hC1, hf1⟩ := hp3318
  obtain ⟨hR1, hpt1, hk1o⟩ := hI.c (Or.inr rfl) hC1 hf1
  have hmd1 := hR1.1.1
  refine lv_istore (pc := 3321) (lv' := [(6, .int (iI r3318)), (5, .int (iI i)), (4, .ref outD), (3, .ref out), (2, .ref md), (1, .ref x), (0, .ref b)]) hx hb dL_law_3321 hl (by decide) rfl (fun ls hl => ?_)
  refine lv_aload_n (pc := 3323) hx hb dL_law_3323 rfl (lv_at hl 4 rfl) ?_
  refine lv_aload_n (pc := 3324) hx hb dL_law_3324 rfl (lv_at hl 6 rfl) ?_
  refine lv_iload (pc := 3325) hx hb dL_law_3325 (lv_at hl 1 rfl) ?_
  refine ziconst (pc := 3327) (n := 1) hx hb dL_law_3327 ?_
  refine zadd (pc := 3328) hx hb dL_law_3328 ?_
  refine zsld (pc := 3329) hx hb hXs hbl hbA hL hw ⟨by omega, by omega⟩ hq1 dL_law_3329 ?_
  have hM1 : okM M := by exact hM
  refine zkD (pc := 3330) (zrV (As := [.int (iI a)]) hx hb hml hown hG hw (c_X9_meanGap l Γ K3318 X3318 R3318 md a (rlb K3318 ρ1) M (by (first | assumption | omega)) (by (first | assumption | omega)) (by (first | assumption | omega))) (T := TX9) hmd1 rfl cb_X9_meanGap wl_L_316 rfl ⟨Nat.le_of_ble_eq_true rfl, Nat.le_of_ble_eq_true rfl⟩ hl.1 rfl (Nat.le_of_ble_eq_true rfl) dL_law_3330 ⟨(by show cw + 1 + 1 ≤ 601024; omega), (by show sw + 6 + 4001 ≤ 7293033; omega)⟩) hw (fun r3330 K3330 X3330 R3330 H locs hp3330 hw => ?_)
  obtain ⟨hv2, h02, ρ2, hR2, hg2, hpt2⟩ : (cdSer M a = 0 → r3330 = mgL (datM M a.toNat)) ∧ X3330 md 0 = cdSer M a ∧ ∃ ρ2, repR ρ2 K3330 X3330 R3330 md M ∧ frR (rlb K3318 ρ1) K3318 X3318 R3318 ρ2 K3330 X3330 R3330 ∧ ptR X3330 R3330 md ≤ ptR X3318 R3318 md := by obtain ⟨a1, a2, ⟨ρ', a3, a4⟩, a5, -⟩ := hp3330; exact ⟨a1, a2, ρ', a3, a4, ptR_ls a5⟩
  obtain ⟨hxo, hxd, ρ3, hI3⟩ := LI.r hC1 hk1o hM1 hR2 hg2
  have hmd3 := hI3.2.1.1.1
  have hko3 := hI3.2.2.2.1.1
  have hkd3 := hI3.2.2.2.2.1
  have hcb : 0 ≤ cdSer M a ∧ cdSer M a ≤ 3 := by unfold cdSer; (repeat' split) <;> omega
  refine lv_dstore (pc := 3333) (lv' := [(7, .double (UInt64.ofNat r3330.toNat)), (6, .int (iI r3318)), (5, .int (iI i)), (4, .ref outD), (3, .ref out), (2, .ref md), (1, .ref x), (0, .ref b)]) hx hb dL_law_3333 hl (by decide) rfl (fun ls hl => ?_)
  refine lv_aload_n (pc := 3335) hx hb dL_law_3335 rfl (lv_at hl 5 rfl) ?_
  refine zkIp (pc := 3336) (zrV (As := []) hx hb hml hown hG hw (c_X9_thrown l Γ K3330 X3330 R3330 md  (by (first | assumption | omega))) (T := TX9) hmd3 rfl cb_X9_thrown wl_L_172 rfl ⟨Nat.le_of_ble_eq_true rfl, Nat.le_of_ble_eq_true rfl⟩ hl.1 rfl (Nat.le_of_ble_eq_true rfl) dL_law_3336 ⟨(by show cw + 1 + 1 + 0 ≤ 601024; omega), (by show sw + 6 + 4001 + 0 ≤ 7293033; omega)⟩) hw (fun r3336 H locs hp3336 hw => ?_)
  subst hp3336
  refine lv_iload (pc := 3339) hx hb dL_law_3339 (lv_at hl 1 rfl) ?_
  refine zicmp_eq (pc := 3341) hx hb 3346 (by omega) (by omega) dL_law_3341 (by decide) (fun c3341 => ?_) (fun c3341 => ?_)
  · skip
    refine lv_iload (pc := 3346) hx hb dL_law_3346 (lv_at hl 1 rfl) ?_
    refine zif_ne (pc := 3348) hx hb 3383 (by omega) dL_law_3348 (by decide) (fun c3348 => ?_) (fun c3348 => ?_)
    · skip
      refine lv_goto (pc := 3383) (tgt := 3400) hx hb dL_law_3383 (by decide) ?_
      exact kk ρ3 K3330 X3330 R3330 _ H locs _ _ ls hI3 ⟨by omega, by omega⟩ hw (lv_sub hl [2, 3, 4, 5, 6, 7] rfl)
    · skip
      have hc0 : cdSer M a = 0 := by omega
      have hov : X3330 outD 0 = r3330 := by rw [congrFun hxd 0, hv1 hc0, hv2 hc0]
      obtain ⟨t9, ht9, hft9⟩ : ∃ t9 : Int, iI t9 = Op.cmpValue (FP.dcmp (UInt64.ofNat r3330.toNat) (UInt64.ofNat r3330.toNat)) .l ∧ fit t9 := ⟨wI_of _, Int32.ofInt_toInt _, wI_fit _⟩
      refine lv_aload (pc := 3351) hx hb dL_law_3351 (lv_at hl 3 rfl) ?_
      refine ziconst (pc := 3353) (n := 0) hx hb dL_law_3353 ?_
      refine zdald (pc := 3354) hx hb hw hkd3 ⟨by omega, by omega⟩ (by omega) dL_law_3354 ?_
      rw [show X3330 outD (0 : Int).toNat = r3330 from hov]
      refine lv_dload (pc := 3355) hx hb dL_law_3355 (lv_at hl 0 rfl) ?_
      refine lv_dcmp (pc := 3357) hx hb dL_law_3357 ?_
      rw [← ht9]
      refine zif_eq (pc := 3358) hx hb 3383 (by omega) dL_law_3358 (by decide) (fun c3358 => ?_) (fun c3358 => ?_)
      · skip
        refine lv_goto (pc := 3383) (tgt := 3400) hx hb dL_law_3383 (by decide) ?_
        exact kk ρ3 K3330 X3330 R3330 _ H locs _ _ ls hI3 ⟨by omega, by omega⟩ hw (lv_sub hl [2, 3, 4, 5, 6, 7] rfl)
      · skip
        refine lv_aload (pc := 3361) hx hb dL_law_3361 (lv_at hl 3 rfl) ?_
        refine ziconst (pc := 3363) (n := 0) hx hb dL_law_3363 ?_
        refine zdald (pc := 3364) hx hb hw hkd3 ⟨by omega, by omega⟩ (by omega) dL_law_3364 ?_
        rw [show X3330 outD (0 : Int).toNat = r3330 from hov]
        refine lv_aload (pc := 3365) hx hb dL_law_3365 (lv_at hl 3 rfl) ?_
        refine ziconst (pc := 3367) (n := 0) hx hb dL_law_3367 ?_
        refine zdald (pc := 3368) hx hb hw hkd3 ⟨by omega, by omega⟩ (by omega) dL_law_3368 ?_
        rw [show X3330 outD (0 : Int).toNat = r3330 from hov]
        refine lv_dcmp (pc := 3369) hx hb dL_law_3369 ?_
        rw [← ht9]
        refine zif_eq (pc := 3370) hx hb 3381 (by omega) dL_law_3370 (by decide) (fun c3370 => ?_) (fun c3370 => ?_)
        · skip
          exfalso; omega
        · skip
          refine lv_dload (pc := 3373) hx hb dL_law_3373 (lv_at hl 0 rfl) ?_
          refine lv_dload (pc := 3375) hx hb dL_law_3375 (lv_at hl 0 rfl) ?_
          refine lv_dcmp (pc := 3377) hx hb dL_law_3377 ?_
          rw [← ht9]
          refine zif_ne (pc := 3378) hx hb 3383 (by omega) dL_law_3378 (by decide) (fun c3378 => ?_) (fun c3378 => ?_)
          · skip
            refine lv_goto (pc := 3383) (tgt := 3400) hx hb dL_law_3383 (by decide) ?_
            exact kk ρ3 K3330 X3330 R3330 _ H locs _ _ ls hI3 ⟨by omega, by omega⟩ hw (lv_sub hl [2, 3, 4, 5, 6, 7] rfl)
          · skip
            exfalso; omega
  · skip
    exfalso; omega
set_option maxHeartbeats 4000000 in
set_option maxRecDepth 100000 in
theorem lc_46 {p : Program} {l : Launch} (hl9 : l.stackTraces = false) {e : Env} {s : State} {m : MethodId} {below : List Frame} {meth : Method} {c : Code} {Q : State → Prop} {b L : Nat} {xs : Nat → Int32} {Γ : zG} {K0 : zK} (E : LE p s m c b L xs K0) {ρ : zL} {K : zK} {X : zX} {Rf : zR} {M : zM} {x md out outD it : Nat} {i : Int} {cw sw : Nat} {H : Heap} {locs : List Loc} {ls : Array Slot} (hi : 0 ≤ i ∧ i + 8 ≤ (L : Int)) (hit : it ≤ 511) (hI : LI ρ K X Rf x md out outD M) (hcs : cw ≤ 100 + 1100 * it ∧ sw + ptR X Rf md ≤ 112000 + 14000 * it) (hw : Wd Γ (zA K0 s.heap.size) K X Rf s H locs) (hl : lv_has ls 9 [(5, .int (iI i)), (4, .ref outD), (3, .ref out), (2, .ref md), (1, .ref x), (0, .ref b)]) (kk : ∀ (ρ' : zL) (K' : zK) (X' : zX) (R' : zR) (M' : zM) (H' : Heap) (locs' : List Loc) (cl' sl' : Nat) (ls' : Array Slot), LI ρ' K' X' R' x md out outD M' → (cl' ≤ 100 + 1100 * (it + 1) ∧ sl' + ptR X' R' md ≤ 112000 + 14000 * (it + 1)) → Wd Γ (zA K0 s.heap.size) K' X' R' s H' locs' → lv_has ls' 9 [(5, .int (iI i)), (4, .ref outD), (3, .ref out), (2, .ref md), (1, .ref x), (0, .ref b)] → W p l e room_1 s m #[Value.ref b] below meth c H' locs' cl' sl' Q (F0 m 3400 ls' [])) : W p l e room_1 s m #[Value.ref b] below meth c H locs cw sw Q (F0 m 3386 ls []) := by
  obtain ⟨⟨hx, hb, hml, hown⟩, hG, h46, hX, hXs, hbl, hbA, hL⟩ := E
  obtain ⟨hC, hRr, hM, ⟨hko4, hlo4⟩, hko5, hlo5⟩ := id hI
  have hCk := hC.1.1
  have hloo : ρ out = 4000 ∨ ρ out = 4001 := Or.inl hlo4
  have hlod : ρ outD = 4000 ∨ ρ outD = 4001 := Or.inr hlo5
  refine lv_aload_n (pc := 3386) hx hb dL_law_3386 rfl (lv_at hl 4 rfl) ?_
  refine zkL (pc := 3387) (zrV (As := []) hx hb hml hown hG hw (c_X8_digest l Γ K X Rf x (ρ) M (by (first | assumption | omega)) (by (first | assumption | omega))) (T := TX8) hCk rfl cb_X8_digest wl_L_317 rfl ⟨Nat.le_of_ble_eq_true rfl, Nat.le_of_ble_eq_true rfl⟩ hl.1 rfl (Nat.le_of_ble_eq_true rfl) dL_law_3387 ⟨(by show cw + 0 ≤ 601024; omega), (by show sw + 0 ≤ 7293033; omega)⟩) hw (fun r3387 K3387 X3387 R3387 H locs hp3387 hw => ?_)
  obtain ⟨hk1, ρ1, hC1, hf1⟩ := hp3387
  have hf1o : frO ρ K X Rf out ρ1 K3387 X3387 R3387 := fun a g => ⟨(hf1 a g).1, (hf1 a g).2.1, fun g2 => ⟨fun _ => ((hf1 a g).2.2 g2).1, ((hf1 a g).2.2 g2).2⟩⟩
  obtain ⟨hR1, hpt1, hk1o⟩ := hI.c (Or.inl rfl) hC1 hf1o
  have hmd1 := hR1.1.1
  refine lv_aload_n (pc := 3390) hx hb dL_law_3390 rfl (lv_at hl 3 rfl) ?_
  have hpp := pp_le (X := X3387) (Rf := R3387) (md := md) (M := M)
  refine zkL (pc := 3391) (zrV (As := []) hx hb hml hown hG hw (c_X9_digest l Γ K3387 X3387 R3387 md (rlb K3387 ρ1) M (by (first | assumption | omega)) (by (first | assumption | omega))) (T := TX9) hmd1 rfl cb_X9_digest wl_L_321 rfl ⟨Nat.le_of_ble_eq_true rfl, Nat.le_of_ble_eq_true rfl⟩ hl.1 rfl (Nat.le_of_ble_eq_true rfl) dL_law_3391 ⟨(by show cw + 200 ≤ 601024; omega), (by show sw + (plE X3387 R3387 md + pnE R3387 md M) ≤ 7293033; omega)⟩) hw (fun r3391 K3391 X3391 R3391 H locs hp3391 hw => ?_)
  obtain ⟨hk2, h02, ⟨ρ2, hR2, hg2⟩, hls2, hpt2⟩ := hp3391
  obtain ⟨hxo, hxd, ρ3, hI3⟩ := LI.r hC1 hk1o hM hR2 hg2
  refine zlcmpE (pc := 3394) hx hb (hk1.trans hk2.symm) dL_law_3394 ?_
  refine zif_eq (pc := 3395) hx hb 3400 (by omega) dL_law_3395 (by decide) (fun c3395 => ?_) (fun c3395 => ?_)
  · skip
    exact kk ρ3 K3391 X3391 R3391 _ H locs _ _ ls hI3 ⟨by omega, by omega⟩ hw (lv_sub hl [0, 1, 2, 3, 4, 5] rfl)
  · skip
    exfalso; omega
