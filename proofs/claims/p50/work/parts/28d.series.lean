set_option maxHeartbeats 4000000 in
set_option maxRecDepth 100000 in
theorem c_X5_takeSpan (l : Launch) (Γ : zG) (K : zK) (X : zX) (Rf : zR) (se : Nat) (dr : Nat) (first : Int) (en : Int) (Sd : Nat → Int) (Up : Nat → Nat → Int) (Ex : Nat → Int) (st : Int × List Int) (eo : Nat) (fo : Nat) (na : Nat) (hk : K se = (1, 4)) (hD : serD (X se) Sd) (hS : okS Sd) (hr13 : Rf se 13 = some eo) (hkeo : K eo = (2, 8)) (hE : ∀ k : Nat, (k : Int) < Sd 10 → X eo k = Ex k ∧ 0 ≤ Ex k ∧ Ex k ≤ 73048) (hr15 : Rf se 15 = some fo) (hkfo : K fo = (2, 4001)) (hkd : K dr = (1, 0)) (hr0 : Rf dr 0 = some na) (hkn : K na = (2, 4733)) (hb0 : (-100000 ≤ X dr 1 ∧ X dr 1 ≤ 200000) ∧ -100000 ≤ X dr 2 ∧ X dr 2 ≤ 200000) (hW : ∀ d : Int, first ≤ d → d ≤ en → rdv X dr na 4733 d = if ctS Sd Up d then 1 else -1) (h1 : (0 ≤ first ∧ first ≤ en + 1) ∧ en ≤ 73048) (hst : repD X se fo st) (hsb : dlB Sd first st) : Ct l yX5_takeSpan cX5_takeSpan 5 none 3 0 0 Γ [.ref se, .ref dr, .int (iI first), .int (iI en)] K X Rf (pV (zpv K Rf (fun X' : zX => repD X' se fo (tkS Sd Up Ex first en st) ∧ (∀ a, a ≠ se → a ≠ fo → X' a = X a) ∧ (∀ q, q ≠ 16 → q ≠ 17 → X' se q = X se q)))) := by
  refine Ct.of (by decide +kernel) (Nat.le_of_ble_eq_true rfl) ?_
  intro p e s m below meth c ls hx hb hr hml hown hG hlocks hname hw hl
  have hl : lv_has ls 5 [(0, .ref se), (1, .ref dr), (2, .int (iI first)), (3, .int (iI en))] := hl
  have hne : se ≠ fo := zkne hk hkfo (by simp)
  have hn1 : dr ≠ se := fun q => by rw [q, hk] at hkd; exact absurd hkd (by decide)
  have hn2 : dr ≠ fo := zkne hkd hkfo (by simp)
  have hn3 : na ≠ se := zkne hkn hk (by simp)
  have hn4 : na ≠ fo := fun q => by rw [q, hkfo] at hkn; exact absurd hkn (by decide)
  have hn5 : eo ≠ se := zkne hkeo hk (by simp)
  have hn6 : eo ≠ fo := fun q => by rw [q, hkfo] at hkeo; exact absurd hkeo (by decide)
  refine lv_aload_n (pc := 0) hx hb dX5_takeSpan_0 rfl (lv_at hl 0 rfl) ?_
  refine zgetI (pc := 1) hx hb hG hown hw hk (T := TX5) rfl 10 (by decide) rfl wf_X5_66 rfl dX5_takeSpan_1 ?_
  refine zif_eq (pc := 4) hx hb 19 (by omega) dX5_takeSpan_4 (by decide) (fun c4 => ?_) (fun c4 => ?_)
  · skip
    refine lv_iload_n (pc := 19) hx hb dX5_takeSpan_19 rfl (lv_at hl 2 rfl) ?_
    refine lv_istore (pc := 20) (lv' := [(4, .int (iI first)), (0, .ref se), (1, .ref dr), (2, .int (iI first)), (3, .int (iI en))]) hx hb dX5_takeSpan_20 hl (by decide) rfl (fun ls hl => ?_)
    have lp22 : ∀ (n22 : Nat) (dd : Int) (st2 : Int × List Int) (XL22 : zX) (H : Heap) (locs : List Loc), (hi : first ≤ dd ∧ dd ≤ en + 1) → (hr9 : repD XL22 se fo st2) → (hb9 : dlB Sd dd st2) → (ht9 : tkA Sd Up Ex (en - dd + 1).toNat dd st2 = tkA Sd Up Ex (en - first + 1).toNat first st) → (ho : (∀ a, a ≠ se → a ≠ fo → XL22 a = X a)) → (hq : (∀ q, q ≠ 16 → q ≠ 17 → XL22 se q = X se q)) → ((en + 1 - dd).toNat < n22) → Wd Γ (zA K s.heap.size) K XL22 Rf s H locs → ∀ ls : Array Slot, lv_has ls 5 [(4, .int (iI dd)), (0, .ref se), (1, .ref dr), (2, .int (iI first)), (3, .int (iI en))] → W p l e (rmL 3 0 0) s m ([.ref se, .ref dr, .int (iI first), .int (iI en)] : List Value).toArray below meth c H locs 0 0 (MQ below (zQ Γ K s.heap.size (pV (zpv K Rf (fun X' : zX => repD X' se fo (tkS Sd Up Ex first en st) ∧ (∀ a, a ≠ se → a ≠ fo → X' a = X a) ∧ (∀ q, q ≠ 16 → q ≠ 17 → X' se q = X se q))))) ([.ref se, .ref dr, .int (iI first), .int (iI en)] : List Value).toArray s 0 0 (zA K s.heap.size)) (F0 m 22 ls []) := by
      intro n22
      induction n22 with
      | zero => intro dd st2 XL22 H locs hi hr9 hb9 ht9 ho hq hm22; exact absurd hm22 (Nat.not_lt_zero _)
      | succ n22 ih22 =>
        intro dd st2 XL22 H locs hi hr9 hb9 ht9 ho hq hm22 hw ls hl
        have hdr : XL22 dr = X dr := ho dr hn1 hn2
        have hdn : XL22 na = X na := ho na hn3 hn4
        have hd1 : XL22 dr 1 = X dr 1 := by rw [hdr]
        have hd2 : XL22 dr 2 = X dr 2 := by rw [hdr]
        have hD2 : serD (XL22 se) Sd := hD.congr hq
        have hE2 : ∀ k : Nat, (k : Int) < Sd 10 → XL22 eo k = Ex k ∧ 0 ≤ Ex k ∧ Ex k ≤ 73048 := fun k hk => by rw [ho eo hn5 hn6]; exact hE k hk
        have hb9a := hb9.1
        have hb9b := hb9.2.1
        refine lv_iload (pc := 22) hx hb dX5_takeSpan_22 (lv_at hl 0 rfl) ?_
        refine lv_iload_n (pc := 24) hx hb dX5_takeSpan_24 rfl (lv_at hl 4 rfl) ?_
        refine zicmp_gt (pc := 25) hx hb 49 (by omega) (by omega) dX5_takeSpan_25 (by decide) (fun c25 => ?_) (fun c25 => ?_)
        · skip
          exact zretV (pc := 49) hx hb hlocks hr hw (Nat.zero_le _) (Nat.zero_le _) dX5_takeSpan_49 ⟨by (try dsimp only) <;> (unfold tkS; rw [if_neg (by omega), ← ht9, tkA_e (by omega)]; exact ⟨hr9, ho, hq⟩), rfl, rfl⟩
        · skip
          refine lv_aload_n (pc := 28) hx hb dX5_takeSpan_28 rfl (lv_at hl 2 rfl) ?_
          refine lv_iload (pc := 29) hx hb dX5_takeSpan_29 (lv_at hl 0 rfl) ?_
          refine zkIp (pc := 31) (zrV (As := [.int (iI dd)]) hx hb hml hown hG hw (c_X0_read l Γ K XL22 Rf dr dd na 4733 (by (first | assumption | omega)) (by (first | assumption | omega)) (by (first | assumption | omega)) (by (first | assumption | omega)) (by (first | assumption | omega)) (by (first | assumption | omega))) (T := TX0) hkd rfl cb_X0_read wl_X5_155 rfl ⟨Nat.le_of_ble_eq_true rfl, Nat.le_of_ble_eq_true rfl⟩ hl.1 rfl (Nat.le_of_ble_eq_true rfl) dX5_takeSpan_31 ⟨Nat.zero_le _, Nat.zero_le _⟩) hw (fun r31 H locs hp31 hw => ?_)
          subst hp31
          have hrw := hW dd (by omega) (by omega)
          rw [← rdv_congr hdr hdn] at hrw
          refine zif_le (pc := 34) hx hb 43 (by omega) dX5_takeSpan_34 (by decide) (fun c34 => ?_) (fun c34 => ?_)
          · skip
            have hcb : ctS Sd Up dd = false := by
              cases hq : ctS Sd Up dd
              · rfl
              · rw [hq] at hrw; rw [hrw] at c34; simp at c34
            refine ziinc (pc := 43) (lv' := [(4, .int (iI (dd + 1))), (0, .ref se), (1, .ref dr), (2, .int (iI first)), (3, .int (iI en))]) hx hb 0 dX5_takeSpan_43 hl rfl (by decide) rfl (fun ls hl => ?_)
            obtain ⟨x43, ex43⟩ : ∃ zz : Int, zz = (dd + 1) := ⟨_, rfl⟩
            rw [← ex43] at hl
            refine lv_goto (pc := 46) (tgt := 22) hx hb dX5_takeSpan_46 (by decide) ?_
            exact ih22 x43 (if ctS Sd Up dd then tkD Sd Ex st2 dd else st2) XL22 _ _ (by (first | assumption | omega)) (by rw [hcb]; first | exact hr9 | exact hp40.1) (by rw [hcb, ex43]; first | exact hb9.mono (by omega) | (have := tkD_dlB (Ex := Ex) (d := dd) hb9 (by omega) (by omega); rw [show max dd (dd + 1) = dd + 1 by omega] at this; exact this)) (by rw [ex43, ← tkA_s (by omega)]; exact ht9) (by first | exact ho | exact fun a g1 g2 => (hp40.2.1 a g1 g2).trans (ho a g1 g2)) (by first | exact hq | exact fun q g1 g2 => (hp40.2.2 q g1 g2).trans (hq q g1 g2)) (by omega) hw _ (lv_sub hl [0, 1, 2, 3, 4] rfl)
          · skip
            have hcb : ctS Sd Up dd = true := by
              cases hq : ctS Sd Up dd
              · rw [hq] at hrw; rw [hrw] at c34; simp at c34
              · rfl
            refine lv_aload_n (pc := 37) hx hb dX5_takeSpan_37 rfl (lv_at hl 1 rfl) ?_
            refine lv_iload (pc := 38) hx hb dX5_takeSpan_38 (lv_at hl 0 rfl) ?_
            refine zkVx (pc := 40) (zrV (As := [.int (iI dd)]) hx hb hml hown hG hw (c_X5_takeDay l Γ K XL22 Rf se dd Sd Ex st2 eo fo (by (first | assumption | omega)) (by (first | assumption | omega)) (by (first | assumption | omega)) (by (first | assumption | omega)) (by (first | assumption | omega)) (by (first | assumption | omega)) (by (first | assumption | omega)) (by (first | assumption | omega)) (by exact hr9) (by (first | assumption | omega)) (by (first | assumption | omega))) (T := TX5) hk rfl cb_X5_takeDay wl_X5_151 rfl ⟨Nat.le_of_ble_eq_true rfl, Nat.le_of_ble_eq_true rfl⟩ hl.1 rfl (Nat.le_of_ble_eq_true rfl) dX5_takeSpan_40 ⟨Nat.zero_le _, Nat.zero_le _⟩) hw (fun X40 H locs hp40 hw => ?_)
            refine ziinc (pc := 43) (lv' := [(4, .int (iI (dd + 1))), (0, .ref se), (1, .ref dr), (2, .int (iI first)), (3, .int (iI en))]) hx hb 0 dX5_takeSpan_43 hl rfl (by decide) rfl (fun ls hl => ?_)
            obtain ⟨x43, ex43⟩ : ∃ zz : Int, zz = (dd + 1) := ⟨_, rfl⟩
            rw [← ex43] at hl
            refine lv_goto (pc := 46) (tgt := 22) hx hb dX5_takeSpan_46 (by decide) ?_
            exact ih22 x43 (if ctS Sd Up dd then tkD Sd Ex st2 dd else st2) X40 _ _ (by (first | assumption | omega)) (by rw [hcb]; first | exact hr9 | exact hp40.1) (by rw [hcb, ex43]; first | exact hb9.mono (by omega) | (have := tkD_dlB (Ex := Ex) (d := dd) hb9 (by omega) (by omega); rw [show max dd (dd + 1) = dd + 1 by omega] at this; exact this)) (by rw [ex43, ← tkA_s (by omega)]; exact ht9) (by first | exact ho | exact fun a g1 g2 => (hp40.2.1 a g1 g2).trans (ho a g1 g2)) (by first | exact hq | exact fun q g1 g2 => (hp40.2.2 q g1 g2).trans (hq q g1 g2)) (by omega) hw _ (lv_sub hl [0, 1, 2, 3, 4] rfl)
    exact lp22 _ first st X _ _ (by (first | assumption | omega)) (by exact hst) (by exact hsb) (by rfl) (by exact fun _ _ _ => rfl) (by exact fun _ _ _ => rfl) (Nat.lt_succ_self _) hw _ (lv_sub hl [0, 1, 2, 3, 4] rfl)
  · skip
    refine lv_aload_n (pc := 7) hx hb dX5_takeSpan_7 rfl (lv_at hl 0 rfl) ?_
    refine lv_aload_n (pc := 8) hx hb dX5_takeSpan_8 rfl (lv_at hl 0 rfl) ?_
    refine lv_aload_n (pc := 9) hx hb dX5_takeSpan_9 rfl (lv_at hl 1 rfl) ?_
    refine lv_iload_n (pc := 10) hx hb dX5_takeSpan_10 rfl (lv_at hl 2 rfl) ?_
    refine lv_iload_n (pc := 11) hx hb dX5_takeSpan_11 rfl (lv_at hl 3 rfl) ?_
    refine zkIp (pc := 12) (zrV (As := [.ref dr, .int (iI first), .int (iI en)]) hx hb hml hown hG hw (c_X5_chosen l Γ K X Rf se dr first en Sd Up na (by (first | assumption | omega)) (by (first | assumption | omega)) (by (first | assumption | omega)) (by (first | assumption | omega)) (by (first | assumption | omega)) (by (first | assumption | omega)) (by (first | assumption | omega)) (by (first | assumption | omega)) (by (first | assumption | omega)) (by (first | assumption | omega))) (T := TX5) hk rfl cb_X5_chosen wl_X5_147 rfl ⟨Nat.le_of_ble_eq_true rfl, Nat.le_of_ble_eq_true rfl⟩ hl.1 rfl (Nat.le_of_ble_eq_true rfl) dX5_takeSpan_12 ⟨Nat.zero_le _, Nat.zero_le _⟩) hw (fun r12 H locs hp12 hw => ?_)
    subst hp12
    have hp12f0 := chS_rng (Sd := Sd) (Up := Up) (a := first) (b := en) (by omega)
    refine zkVx (pc := 15) (zrV (As := [.int (iI (chS Sd Up first en))]) hx hb hml hown hG hw (c_X5_takeDay l Γ K X Rf se (chS Sd Up first en) Sd Ex st eo fo (by (first | assumption | omega)) (by (first | assumption | omega)) (by (first | assumption | omega)) (by (first | assumption | omega)) (by (first | assumption | omega)) (by (first | assumption | omega)) (by (first | assumption | omega)) (by (first | assumption | omega)) (by (first | assumption | omega)) (by have a1 := hsb.1; have a2 := hsb.2.1; omega) (by (first | assumption | omega))) (T := TX5) hk rfl cb_X5_takeDay wl_X5_151 rfl ⟨Nat.le_of_ble_eq_true rfl, Nat.le_of_ble_eq_true rfl⟩ hl.1 rfl (Nat.le_of_ble_eq_true rfl) dX5_takeSpan_15 ⟨Nat.zero_le _, Nat.zero_le _⟩) hw (fun X15 H locs hp15 hw => ?_)
    exact zretV (pc := 18) hx hb hlocks hr hw (Nat.zero_le _) (Nat.zero_le _) dX5_takeSpan_18 ⟨by (try dsimp only) <;> (unfold tkS; rw [if_pos (by omega)]; exact hp15), rfl, rfl⟩
set_option maxHeartbeats 4000000 in
set_option maxRecDepth 100000 in
theorem c_X5_findDates (l : Launch) (Γ : zG) (K : zK) (X : zX) (Rf : zR) (se : Nat) (dr : Nat) (Sd : Nat → Int) (Up : Nat → Nat → Int) (Ex : Nat → Int) (po : Nat) (eo : Nat) (fo : Nat) (na : Nat) (hk : K se = (1, 4)) (hD : serD (X se) Sd) (hS : okS Sd) (hr8 : Rf se 8 = some po) (hkpo : K po = (6, 4)) (hU : upOK K X Rf po Sd Up) (hUs : usOK K X Rf se Sd) (hr13 : Rf se 13 = some eo) (hkeo : K eo = (2, 8)) (hE : ∀ k : Nat, (k : Int) < Sd 10 → X eo k = Ex k ∧ 0 ≤ Ex k ∧ Ex k ≤ 73048) (hr15 : Rf se 15 = some fo) (hkfo : K fo = (2, 4001)) (hkd : K dr = (1, 0)) (hr0 : Rf dr 0 = some na) (hkn : K na = (2, 4733)) : Ct l yX5_findDates cX5_findDates 4 none 5 0 0 Γ [.ref se, .ref dr] K X Rf (pV (zpv K Rf (fun X' : zX => repD X' se fo (spS Sd Up Ex 4001 0 (0, [])) ∧ (∀ a, a ≠ se → a ≠ fo → a ≠ dr → a ≠ na → X' a = X a) ∧ (∀ q, q ≠ 16 → q ≠ 17 → X' se q = X se q)))) := by
  refine Ct.of (by decide +kernel) (Nat.le_of_ble_eq_true rfl) ?_
  intro p e s m below meth c ls hx hb hr hml hown hG hlocks hname hw hl
  have hl : lv_has ls 4 [(0, .ref se), (1, .ref dr)] := hl
  have hne : se ≠ fo := zkne hk hkfo (by simp)
  have hn1 : dr ≠ se := fun q => by rw [q, hk] at hkd; exact absurd hkd (by decide)
  have hn2 : dr ≠ fo := zkne hkd hkfo (by simp)
  have hn3 : na ≠ se := zkne hkn hk (by simp)
  have hn4 : na ≠ fo := fun q => by rw [q, hkfo] at hkn; exact absurd hkn (by decide)
  have hn5 : eo ≠ se := zkne hkeo hk (by simp)
  have hn6 : eo ≠ fo := fun q => by rw [q, hkfo] at hkeo; exact absurd hkeo (by decide)
  have hb0 := spB_0 hS
  refine lv_aload_n (pc := 0) hx hb dX5_findDates_0 rfl (lv_at hl 0 rfl) ?_
  refine ziconst (pc := 1) (n := 0) hx hb dX5_findDates_1 ?_
  refine zputI (pc := 2) hx hb hG hown hw hk (T := TX5) rfl 16 (by decide) rfl wf_X5_85 rfl (by decide +kernel) rfl dX5_findDates_2 (fun H locs hw => ?_)
  obtain ⟨X2, eX2⟩ : ∃ Y : zX, Y = up2 X se 16 0 := ⟨_, rfl⟩
  rw [← eX2] at hw
  refine lv_aload_n (pc := 5) hx hb dX5_findDates_5 rfl (lv_at hl 0 rfl) ?_
  refine ziconst (pc := 6) (n := 0) hx hb dX5_findDates_6 ?_
  refine zputI (pc := 7) hx hb hG hown hw hk (T := TX5) rfl 17 (by decide) rfl wf_X5_88 rfl (by decide +kernel) rfl dX5_findDates_7 (fun H locs hw => ?_)
  obtain ⟨X7, eX7⟩ : ∃ Y : zX, Y = up2 X2 se 17 0 := ⟨_, rfl⟩
  rw [← eX7] at hw
  refine lv_aload_n (pc := 10) hx hb dX5_findDates_10 rfl (lv_at hl 0 rfl) ?_
  refine lv_aload_n (pc := 11) hx hb dX5_findDates_11 rfl (lv_at hl 1 rfl) ?_
  have hD3 : serD (X7 se) Sd := hD.congr (fun q g1 g2 => by rw [eX7, up2_k g2, eX2, up2_k g1])
  have hX3 : ∀ a, K a = (1, 2) → X7 a = X a := fun a ha => by rw [eX7, up2_o (fun q => by rw [q, hk] at ha; exact absurd ha (by decide)), eX2, up2_o (fun q => by rw [q, hk] at ha; exact absurd ha (by decide))]
  refine zkVx (pc := 12) (zrV (As := [.ref dr]) hx hb hml hown hG hw (c_X5_findCounting l Γ K X7 Rf se dr Sd Up po na (by (first | assumption | omega)) (by (first | assumption | omega)) (by (first | assumption | omega)) (by (first | assumption | omega)) (by (first | assumption | omega)) (by exact hU.mono hX3) (by exact hUs.mono hX3) (by (first | assumption | omega)) (by (first | assumption | omega)) (by (first | assumption | omega))) (T := TX5) hk rfl cb_X5_findCounting wl_X5_91 rfl ⟨Nat.le_of_ble_eq_true rfl, Nat.le_of_ble_eq_true rfl⟩ hl.1 rfl (Nat.le_of_ble_eq_true rfl) dX5_findDates_12 ⟨Nat.zero_le _, Nat.zero_le _⟩) hw (fun X12 H locs hp12 hw => ?_)
  have hy : X12 se = X7 se := hp12.2 se (Ne.symm hn1) (Ne.symm hn3)
  refine ziconst (pc := 15) (n := 0) hx hb dX5_findDates_15 ?_
  refine lv_istore_n (pc := 16) (lv' := [(2, .int (iI 0)), (0, .ref se), (1, .ref dr)]) hx hb dX5_findDates_16 rfl hl (by decide) rfl (fun ls hl => ?_)
  have lp17 : ∀ (n17 : Nat) (nn : Int) (st2 : Int × List Int) (XL17 : zX) (H : Heap) (locs : List Loc), (hi : 0 ≤ nn ∧ nn ≤ 4001) → (hr9 : repD XL17 se fo st2) → (hb9 : dlB Sd (min (spB Sd (nn * Sd 3)) 73049) st2) → (ht9 : spS Sd Up Ex (4001 - nn).toNat nn st2 = spS Sd Up Ex 4001 0 (0, [])) → (hW9 : ∀ d : Int, spB Sd 0 ≤ d → d ≤ min (Sd 7 + 366) 73048 → rdv XL17 dr na 4733 d = if ctS Sd Up d then 1 else -1) → (hd1 : XL17 dr 1 = spB Sd 0) → (hd2 : XL17 dr 2 = min (Sd 7 + 366) 73048) → (ho : ∀ a, a ≠ se → a ≠ fo → a ≠ dr → a ≠ na → XL17 a = X a) → (hq : (∀ q, q ≠ 16 → q ≠ 17 → XL17 se q = X se q)) → ((4001 - nn).toNat < n17) → Wd Γ (zA K s.heap.size) K XL17 Rf s H locs → ∀ ls : Array Slot, lv_has ls 4 [(2, .int (iI nn)), (0, .ref se), (1, .ref dr)] → W p l e (rmL 5 0 0) s m ([.ref se, .ref dr] : List Value).toArray below meth c H locs 0 0 (MQ below (zQ Γ K s.heap.size (pV (zpv K Rf (fun X' : zX => repD X' se fo (spS Sd Up Ex 4001 0 (0, [])) ∧ (∀ a, a ≠ se → a ≠ fo → a ≠ dr → a ≠ na → X' a = X a) ∧ (∀ q, q ≠ 16 → q ≠ 17 → X' se q = X se q))))) ([.ref se, .ref dr] : List Value).toArray s 0 0 (zA K s.heap.size)) (F0 m 17 ls []) := by
    intro n17
    induction n17 with
    | zero => intro nn st2 XL17 H locs hi hr9 hb9 ht9 hW9 hd1 hd2 ho hq hm17; exact absurd hm17 (Nat.not_lt_zero _)
    | succ n17 ih17 =>
      intro nn st2 XL17 H locs hi hr9 hb9 ht9 hW9 hd1 hd2 ho hq hm17 hw ls hl
      have hD2 : serD (XL17 se) Sd := hD.congr hq
      have hE2 : ∀ k : Nat, (k : Int) < Sd 10 → XL17 eo k = Ex k ∧ 0 ≤ Ex k ∧ Ex k ≤ 73048 := fun k hk => by rw [ho eo hn5 hn6 (zkne hkeo hkd (by simp)) (fun q => by rw [q, hkn] at hkeo; exact absurd hkeo (by decide))]; exact hE k hk
      have e4 : XL17 se 4 = Sd 3 := by rw [hq 4 (by decide) (by decide)]; exact hD.1.2.2.2.1
      have e12 : XL17 se 12 = Sd 7 := by rw [hq 12 (by decide) (by decide)]; exact hD.2.2.2.2.1
      refine lv_iload_n (pc := 17) hx hb dX5_findDates_17 rfl (lv_at hl 0 rfl) ?_
      refine zsipush (pc := 18) (n := 4000) hx hb dX5_findDates_18 rfl ?_
      refine zicmp_gt (pc := 21) hx hb 77 (by omega) (by omega) dX5_findDates_21 (by decide) (fun c21 => ?_) (fun c21 => ?_)
      · skip
        exact zretV (pc := 77) hx hb hlocks hr hw (Nat.zero_le _) (Nat.zero_le _) dX5_findDates_77 ⟨by (try dsimp only) <;> (rw [← ht9, spS_h (by omega)]; exact ⟨hr9, ho, hq⟩), rfl, rfl⟩
      · skip
        refine lv_aload_n (pc := 24) hx hb dX5_findDates_24 rfl (lv_at hl 1 rfl) ?_
        refine lv_iload_n (pc := 25) hx hb dX5_findDates_25 rfl (lv_at hl 0 rfl) ?_
        refine lv_aload_n (pc := 26) hx hb dX5_findDates_26 rfl (lv_at hl 1 rfl) ?_
        refine zgetI (pc := 27) hx hb hG hown hw hk (T := TX5) rfl 4 (by decide) rfl wf_X5_22 rfl dX5_findDates_27 ?_
        refine zmul (pc := 30) hx hb dX5_findDates_30 ?_
        rw [e4]
        have hnl2 := fd_mul hS hi.1 (by omega)
        refine zkIp (pc := 31) (zrV (As := [.int (iI (nn * (Sd 3)))]) hx hb hml hown hG hw (c_X5_spanBegin l Γ K XL17 Rf se (nn * (Sd 3)) Sd (by (first | assumption | omega)) (by (first | assumption | omega)) (by (first | assumption | omega)) (by (first | assumption | omega))) (T := TX5) hk rfl cb_X5_spanBegin wl_X5_95 rfl ⟨Nat.le_of_ble_eq_true rfl, Nat.le_of_ble_eq_true rfl⟩ hl.1 rfl (Nat.le_of_ble_eq_true rfl) dX5_findDates_31 ⟨Nat.zero_le _, Nat.zero_le _⟩) hw (fun r31 H locs hp31 hw => ?_)
        subst hp31
        have hp31f0 := spB_rng (Sd := Sd) (by assumption) (i := (nn * (Sd 3))) (by omega) (by omega)
        refine ztop (fun x34 ex34 => ?_)
        refine lv_istore_n (pc := 34) (lv' := [(3, .int (iI x34)), (2, .int (iI nn)), (0, .ref se), (1, .ref dr)]) hx hb dX5_findDates_34 rfl hl (by decide) rfl (fun ls hl => ?_)
        refine lv_iload_n (pc := 35) hx hb dX5_findDates_35 rfl (lv_at hl 0 rfl) ?_
        refine lv_aload_n (pc := 36) hx hb dX5_findDates_36 rfl (lv_at hl 2 rfl) ?_
        refine zgetI (pc := 37) hx hb hG hown hw hk (T := TX5) rfl 12 (by decide) rfl wf_X5_72 rfl dX5_findDates_37 ?_
        refine zicmp_le (pc := 40) hx hb 46 (by omega) (by omega) dX5_findDates_40 (by decide) (fun c40 => ?_) (fun c40 => ?_)
        · skip
          refine lv_aload_n (pc := 46) hx hb dX5_findDates_46 rfl (lv_at hl 2 rfl) ?_
          refine lv_aload_n (pc := 47) hx hb dX5_findDates_47 rfl (lv_at hl 3 rfl) ?_
          refine lv_iload_n (pc := 48) hx hb dX5_findDates_48 rfl (lv_at hl 0 rfl) ?_
          refine lv_aload_n (pc := 49) hx hb dX5_findDates_49 rfl (lv_at hl 2 rfl) ?_
          refine lv_iload_n (pc := 50) hx hb dX5_findDates_50 rfl (lv_at hl 1 rfl) ?_
          refine lv_aload_n (pc := 51) hx hb dX5_findDates_51 rfl (lv_at hl 2 rfl) ?_
          refine zgetI (pc := 52) hx hb hG hown hw hk (T := TX5) rfl 4 (by decide) rfl wf_X5_22 rfl dX5_findDates_52 ?_
          refine zmul (pc := 55) hx hb dX5_findDates_55 ?_
          refine ziconst (pc := 56) (n := 1) hx hb dX5_findDates_56 ?_
          refine zadd (pc := 57) hx hb dX5_findDates_57 ?_
          rw [e4]
          have hfr := fd_rng hS hi.1 ex34 (by omega)
          refine zkIp (pc := 58) (zrV (As := [.int (iI ((nn * (Sd 3)) + 1))]) hx hb hml hown hG hw (c_X5_spanBegin l Γ K XL17 Rf se ((nn * (Sd 3)) + 1) Sd (by (first | assumption | omega)) (by (first | assumption | omega)) (by (first | assumption | omega)) (by (first | assumption | omega))) (T := TX5) hk rfl cb_X5_spanBegin wl_X5_95 rfl ⟨Nat.le_of_ble_eq_true rfl, Nat.le_of_ble_eq_true rfl⟩ hl.1 rfl (Nat.le_of_ble_eq_true rfl) dX5_findDates_58 ⟨Nat.zero_le _, Nat.zero_le _⟩) hw (fun r58 H locs hp58 hw => ?_)
          subst hp58
          have hp58f0 := spB_rng (Sd := Sd) (by assumption) (i := ((nn * (Sd 3)) + 1)) (by omega) (by omega)
          refine ziconst (pc := 61) (n := 1) hx hb dX5_findDates_61 ?_
          refine zsub (pc := 62) hx hb dX5_findDates_62 ?_
          refine zldc (pc := 63) (n := 73048) hx hb hown hG wk_X5_31 dX5_findDates_63 ?_
          refine zmin (pc := 65) hx hb (hml.trans hl.1.symm) hown hG wl_X5_32 w1_zmn wi_javalangMath w2_zmn (Nat.le_of_ble_eq_true rfl) (Nat.le_of_ble_eq_true rfl) (Nat.zero_le _) (Nat.zero_le _) ⟨by omega, by omega⟩ dX5_findDates_65 ?_
          refine zkVx (pc := 68) (zrV (As := [.ref dr, .int (iI x34), .int (iI (min ((spB Sd ((nn * (Sd 3)) + 1)) - 1) 73048))]) hx hb hml hown hG hw (c_X5_takeSpan l Γ K XL17 Rf se dr x34 (min ((spB Sd ((nn * (Sd 3)) + 1)) - 1) 73048) Sd Up Ex st2 eo fo na (by (first | assumption | omega)) (by (first | assumption | omega)) (by (first | assumption | omega)) (by (first | assumption | omega)) (by (first | assumption | omega)) (by (first | assumption | omega)) (by (first | assumption | omega)) (by (first | assumption | omega)) (by (first | assumption | omega)) (by (first | assumption | omega)) (by (first | assumption | omega)) (by have hb1z := (spB_rng hS (i := 0) (by decide) (by decide)).1; clear hS hD hD2 hi hb0; omega) (by intro d g1 g2; exact hW9 d (by clear hS hD hD2 hi hb0 hd1 hd2; omega) (by clear hS hD hD2 hi hb0 hd1 hd2; omega)) (by clear hS hD hD2 hi hb0 hd1 hd2; omega) (by exact hr9) (by have q := hb9; rw [show min (spB Sd (nn * Sd 3)) 73049 = x34 by clear hS hD hD2 hi hb0 hd1 hd2; omega] at q; exact q)) (T := TX5) hk rfl cb_X5_takeSpan wl_X5_98 rfl ⟨Nat.le_of_ble_eq_true rfl, Nat.le_of_ble_eq_true rfl⟩ hl.1 rfl (Nat.le_of_ble_eq_true rfl) dX5_findDates_68 ⟨Nat.zero_le _, Nat.zero_le _⟩) hw (fun X68 H locs hp68 hw => ?_)
          refine ziinc (pc := 71) (lv' := [(2, .int (iI (nn + 1))), (3, .int (iI x34)), (0, .ref se), (1, .ref dr)]) hx hb 1 dX5_findDates_71 hl rfl (by decide) rfl (fun ls hl => ?_)
          obtain ⟨x71, ex71⟩ : ∃ zz : Int, zz = (nn + 1) := ⟨_, rfl⟩
          rw [← ex71] at hl
          refine lv_goto (pc := 74) (tgt := 17) hx hb dX5_findDates_74 (by decide) ?_
          have hbx := hb9
          rw [show min (spB Sd (nn * Sd 3)) 73049 = x34 by clear hS hD hD2 hi hb0 hd1 hd2; omega] at hbx
          have hb10 := (tkS_dlB (Up := Up) (Ex := Ex) (a := x34) (b := min (spB Sd (nn * Sd 3 + 1) - 1) 73048) (st := st2) (by clear hD hD2 hi hb0 hd1 hd2 hfr; omega) hfr.1.1.2.1 (by clear hS hD hD2 hi hb0 hd1 hd2; omega) hbx).mono (c' := min (spB Sd ((nn + 1) * Sd 3)) 73049) (by clear hS hD hD2 hi hb0 hd1 hd2; omega)
          exact ih17 x71 (tkS Sd Up Ex x34 (min (spB Sd (nn * Sd 3 + 1) - 1) 73048) st2) X68 _ _ (by (first | assumption | omega)) (by exact hp68.1) (by rw [ex71]; exact hb10) (by rw [ex71, ex34, ← spS_s (by omega) (by rw [← ex34]; omega)]; exact ht9) (by intro d g1 g2; rw [rdv_congr (hp68.2.1 dr hn1 hn2) (hp68.2.1 na hn3 hn4)]; exact hW9 d g1 g2) (by rw [hp68.2.1 dr hn1 hn2]; exact hd1) (by rw [hp68.2.1 dr hn1 hn2]; exact hd2) (by intro a g1 g2 g3 g4; rw [hp68.2.1 a g1 g2]; exact ho a g1 g2 g3 g4) (by intro q g1 g2; rw [hp68.2.2 q g1 g2]; exact hq q g1 g2) (by omega) hw _ (lv_sub hl [0, 2, 3] rfl)
        · skip
          refine lv_goto (pc := 43) (tgt := 77) hx hb dX5_findDates_43 (by decide) ?_
          exact zretV (pc := 77) hx hb hlocks hr hw (Nat.zero_le _) (Nat.zero_le _) dX5_findDates_77 ⟨by (try dsimp only) <;> (rw [← ht9, spS_h (by omega)]; exact ⟨hr9, ho, hq⟩), rfl, rfl⟩
  exact lp17 _ 0 (0, []) X12 _ _ (by (first | assumption | omega)) (by exact ⟨by rw [hy, eX7, up2_s], by rw [hy, eX7, up2_k (by decide), eX2, up2_s]; rfl, fun j hj => absurd hj (Nat.not_lt_zero _)⟩) (by exact dlB_0 _ _) (by rfl) (by exact hp12.1.1) (by exact hp12.1.2.1) (by exact hp12.1.2.2) (by intro a g1 g2 g3 g4; rw [hp12.2 a g3 g4, eX7, up2_o g1, eX2, up2_o g1]) (by intro q g1 g2; rw [hy, eX7, up2_k g2, eX2, up2_k g1]) (Nat.lt_succ_self _) hw _ (lv_sub hl [0, 1, 2] rfl)
