set_option maxHeartbeats 4000000 in
set_option maxRecDepth 100000 in
theorem c_X4_findPieces (l : Launch) (Γ : zG) (K : zK) (X : zX) (Rf : zR) (p0 : Nat) (tu : Nat) (to : Nat) (be : Nat) (sa : Nat) (n : Nat) (T : Nat → Nat → Int) (Pt : Nat → Nat → Int) (hk : K p0 = (1, 3)) (hr1 : Rf p0 1 = some tu) (hr3 : Rf p0 3 = some to) (hr4 : Rf p0 4 = some be) (hr5 : Rf p0 5 = some sa) (hktu : K tu = (9, 6)) (hkto : K to = (2, 6)) (hkbe : K be = (2, 1201)) (hksa : K sa = (2, 1201)) (hne1 : to ≠ be) (hne2 : to ≠ sa) (hne3 : be ≠ sa) (hTu : turnsOK K X Rf tu n T Pt) (hn : n ≤ 6) (hbase : -840 ≤ X p0 0 ∧ X p0 0 ≤ 840) : Ct l yX4_findPieces cX4_findPieces 7 none 5 0 0 Γ [.ref p0] K X Rf (pV (zpv K Rf (fun X' : zX => prep (X' be) (X' sa) (X' p0 6) (sav T Pt n (X p0 0)) ∧ (∀ a, a ≠ p0 → a ≠ to → a ≠ be → a ≠ sa → X' a = X a) ∧ (∀ q, q ≠ 6 → X' p0 q = X p0 q)))) := by
  refine Ct.of (by decide +kernel) (Nat.le_of_ble_eq_true rfl) ?_
  intro p e s m below meth c ls hx hb hr hml hown hG hlocks hname hw hl
  have hl : lv_has ls 7 [(0, .ref p0)] := hl
  have hnp1 : be ≠ p0 := zkne hkbe hk (by simp)
  have hnp2 : sa ≠ p0 := zkne hksa hk (by simp)
  have hnp3 : to ≠ p0 := zkne hkto hk (by simp)
  have hTk : ∀ k, k < n → okT (T k) := fun k hk => hTu.okk hn hk
  obtain ⟨L, hL⟩ : ∃ L, L = evF T Pt n := ⟨_, rfl⟩
  obtain ⟨N, hN⟩ : ∃ N, N = evN T Pt n := ⟨_, rfl⟩
  have hev : evOK T Pt n L N := by rw [hL, hN]; exact evF_ok T Pt n
  have hN2 : N ≤ 1200 := by rw [hN]; exact evN_le hn
  have hmd := fun (i : Nat) (hi : i < N) => hev.mod hn hTk hi
  refine lv_aload_n (pc := 0) hx hb dX4_findPieces_0 rfl (lv_at hl 0 rfl) ?_
  refine ziconst (pc := 1) (n := 0) hx hb dX4_findPieces_1 ?_
  refine zputI (pc := 2) hx hb hG hown hw hk (T := TX4) rfl 6 (by decide) rfl wf_X4_34 rfl (by decide +kernel) rfl dX4_findPieces_2 (fun H locs hw => ?_)
  obtain ⟨X2, eX2⟩ : ∃ Y : zX, Y = up2 X p0 6 0 := ⟨_, rfl⟩
  rw [← eX2] at hw
  refine lv_aload_n (pc := 5) hx hb dX4_findPieces_5 rfl (lv_at hl 0 rfl) ?_
  refine ziconst (pc := 6) (n := 0) hx hb dX4_findPieces_6 ?_
  refine ziconst (pc := 7) (n := 0) hx hb dX4_findPieces_7 ?_
  refine zkVx (pc := 8) (zrV (As := [.int (iI 0), .int (iI 0)]) hx hb hml hown hG hw (c_X4_addPiece l Γ K X2 Rf p0 0 0 be sa (by (first | assumption | omega)) (by (first | assumption | omega)) (by (first | assumption | omega)) (by (first | assumption | omega)) (by (first | assumption | omega)) (by (first | assumption | omega)) (by rw [eX2, up2_s]; omega) (by rw [eX2, up2_s]; omega)) (T := TX4) hk rfl cb_X4_addPiece wl_X4_37 rfl ⟨Nat.le_of_ble_eq_true rfl, Nat.le_of_ble_eq_true rfl⟩ hl.1 rfl (Nat.le_of_ble_eq_true rfl) dX4_findPieces_8 ⟨Nat.zero_le _, Nat.zero_le _⟩) hw (fun X8 H locs hp8 hw => ?_)
  refine zsipush (pc := 11) (n := (-1020)) hx hb dX4_findPieces_11 rfl ?_
  refine lv_istore_n (pc := 14) (lv' := [(1, .int (iI (-1020))), (0, .ref p0)]) hx hb dX4_findPieces_14 rfl hl (by decide) rfl (fun ls hl => ?_)
  refine ziconst (pc := 15) (n := 0) hx hb dX4_findPieces_15 ?_
  refine lv_istore_n (pc := 16) (lv' := [(2, .int (iI 0)), (1, .int (iI (-1020))), (0, .ref p0)]) hx hb dX4_findPieces_16 rfl hl (by decide) rfl (fun ls hl => ?_)
  refine zsipush (pc := 17) (n := 1900) hx hb dX4_findPieces_17 rfl ?_
  refine lv_istore_n (pc := 20) (lv' := [(3, .int (iI 1900)), (2, .int (iI 0)), (1, .int (iI (-1020))), (0, .ref p0)]) hx hb dX4_findPieces_20 rfl hl (by decide) rfl (fun ls hl => ?_)
  have lp21 : ∀ (n21 : Nat) (y : Int) (sv : Int) (mo : Int) (j : Nat) (XL21 : zX) (H : Heap) (locs : List Loc), (hy : 1900 ≤ y ∧ y ≤ 2100) → (hpi : pinv T (X p0 0) L (XL21 be) (XL21 sa) (XL21 p0 6) j) → (hs1 : mo = (stF T (X p0 0) L j).1) → (hs2 : sv = (stF T (X p0 0) L j).2) → (hys : ysp T Pt n L N j y) → (hof : ∀ a, a ≠ p0 → a ≠ to → a ≠ be → a ≠ sa → XL21 a = X a) → (hop : ∀ q, q ≠ 6 → XL21 p0 q = X p0 q) → ((2100 - y).toNat < n21) → Wd Γ (zA K s.heap.size) K XL21 Rf s H locs → ∀ ls : Array Slot, lv_has ls 7 [(3, .int (iI y)), (2, .int (iI sv)), (1, .int (iI mo)), (0, .ref p0)] → W p l e (rmL 5 0 0) s m ([.ref p0] : List Value).toArray below meth c H locs 0 0 (MQ below (zQ Γ K s.heap.size (pV (zpv K Rf (fun X' : zX => prep (X' be) (X' sa) (X' p0 6) (sav T Pt n (X p0 0)) ∧ (∀ a, a ≠ p0 → a ≠ to → a ≠ be → a ≠ sa → X' a = X a) ∧ (∀ q, q ≠ 6 → X' p0 q = X p0 q))))) ([.ref p0] : List Value).toArray s 0 0 (zA K s.heap.size)) (F0 m 21 ls []) := by
    intro n21
    induction n21 with
    | zero => intro y sv mo j XL21 H locs hy hpi hs1 hs2 hys hof hop hm21; exact absurd hm21 (Nat.not_lt_zero _)
    | succ n21 ih21 =>
      intro y sv mo j XL21 H locs hy hpi hs1 hs2 hys hof hop hm21 hw ls hl
      have hTu2 := hTu.mono (X' := XL21) (fun a ha => hof a (by rintro rfl; rcases ha with h | h <;> (rw [hk] at h; cases h)) (by rintro rfl; rcases ha with h | h <;> (rw [hkto] at h; cases h)) (by rintro rfl; rcases ha with h | h <;> (rw [hkbe] at h; cases h)) (by rintro rfl; rcases ha with h | h <;> (rw [hksa] at h; cases h)))
      refine lv_iload_n (pc := 21) hx hb dX4_findPieces_21 rfl (lv_at hl 0 rfl) ?_
      refine zsipush (pc := 22) (n := 2099) hx hb dX4_findPieces_22 rfl ?_
      refine zicmp_gt (pc := 25) hx hb 130 (by omega) (by omega) dX4_findPieces_25 (by decide) (fun c25 => ?_) (fun c25 => ?_)
      · skip
        exact zretV (pc := 130) hx hb hlocks hr hw (Nat.zero_le _) (Nat.zero_le _) dX4_findPieces_130 ⟨by (try dsimp only) <;> (
                                        have e9 := ysp_end hys (by omega)
                                        subst e9
                                        refine ⟨hpi.1.congr (fun _ _ => rfl) (fun _ _ => rfl) (fun m _ _ => ?_), hof, hop⟩
                                        unfold sav; rw [← hL, ← hN]), rfl, rfl⟩
      · skip
        refine lv_aload_n (pc := 28) hx hb dX4_findPieces_28 rfl (lv_at hl 3 rfl) ?_
        refine lv_iload_n (pc := 29) hx hb dX4_findPieces_29 rfl (lv_at hl 0 rfl) ?_
        refine zkVx (pc := 30) (zrV (As := [.int (iI y)]) hx hb hml hown hG hw (c_X4_tellTurns l Γ K XL21 Rf p0 y tu to n T Pt (by (first | assumption | omega)) (by (first | assumption | omega)) (by (first | assumption | omega)) (by (first | assumption | omega)) (by (first | assumption | omega)) (by (first | assumption | omega)) (by (first | assumption | omega)) (by (first | assumption | omega))) (T := TX4) hk rfl cb_X4_tellTurns wl_X4_41 rfl ⟨Nat.le_of_ble_eq_true rfl, Nat.le_of_ble_eq_true rfl⟩ hl.1 rfl (Nat.le_of_ble_eq_true rfl) dX4_findPieces_30 ⟨Nat.zero_le _, Nat.zero_le _⟩) hw (fun X30 H locs hp30 hw => ?_)
        obtain ⟨ht30, ho30⟩ := hp30
        refine ziconst (pc := 33) (n := 0) hx hb dX4_findPieces_33 ?_
        refine lv_istore (pc := 34) (lv' := [(4, .int (iI 0)), (3, .int (iI y)), (2, .int (iI sv)), (1, .int (iI mo)), (0, .ref p0)]) hx hb dX4_findPieces_34 hl (by decide) rfl (fun ls hl => ?_)
        have lp36 : ∀ (n36 : Nat) (it : Int) (sv2 : Int) (mo2 : Int) (j2 : Nat) (XL36 : zX) (H : Heap) (locs : List Loc), (hit : 0 ≤ it ∧ it ≤ 6) → (hnn : nn6 (XL36 to) ≤ 6 - it) → (hpi2 : pinv T (X p0 0) L (XL36 be) (XL36 sa) (XL36 p0 6) j2) → (hs12 : mo2 = (stF T (X p0 0) L j2).1) → (hs22 : sv2 = (stF T (X p0 0) L j2).2) → (hyt2 : yst T Pt n L N j2 y (XL36 to)) → (hof2 : ∀ a, a ≠ p0 → a ≠ to → a ≠ be → a ≠ sa → XL36 a = X a) → (hop2 : ∀ q, q ≠ 6 → XL36 p0 q = X p0 q) → ((6 - it).toNat < n36) → Wd Γ (zA K s.heap.size) K XL36 Rf s H locs → ∀ ls : Array Slot, lv_has ls 7 [(4, .int (iI it)), (3, .int (iI y)), (2, .int (iI sv2)), (1, .int (iI mo2)), (0, .ref p0)] → W p l e (rmL 5 0 0) s m ([.ref p0] : List Value).toArray below meth c H locs 0 0 (MQ below (zQ Γ K s.heap.size (pV (zpv K Rf (fun X' : zX => prep (X' be) (X' sa) (X' p0 6) (sav T Pt n (X p0 0)) ∧ (∀ a, a ≠ p0 → a ≠ to → a ≠ be → a ≠ sa → X' a = X a) ∧ (∀ q, q ≠ 6 → X' p0 q = X p0 q))))) ([.ref p0] : List Value).toArray s 0 0 (zA K s.heap.size)) (F0 m 36 ls []) := by
          intro n36
          induction n36 with
          | zero => intro it sv2 mo2 j2 XL36 H locs hit hnn hpi2 hs12 hs22 hyt2 hof2 hop2 hm36; exact absurd hm36 (Nat.not_lt_zero _)
          | succ n36 ih36 =>
            intro it sv2 mo2 j2 XL36 H locs hit hnn hpi2 hs12 hs22 hyt2 hof2 hop2 hm36 hw ls hl
            have hst := stF_rng (T := T) (L := L) (N := N) hbase hmd hyt2.1
            have hTu4 := hTu.mono (X' := XL36) (fun a ha => hof2 a (by rintro rfl; rcases ha with h | h <;> (rw [hk] at h; cases h)) (by rintro rfl; rcases ha with h | h <;> (rw [hkto] at h; cases h)) (by rintro rfl; rcases ha with h | h <;> (rw [hkbe] at h; cases h)) (by rintro rfl; rcases ha with h | h <;> (rw [hksa] at h; cases h)))
            refine lv_iload (pc := 36) hx hb dX4_findPieces_36 (lv_at hl 0 rfl) ?_
            refine zbipush (pc := 38) (n := 6) hx hb dX4_findPieces_38 rfl ?_
            refine zicmp_ge (pc := 40) hx hb 124 (by omega) (by omega) dX4_findPieces_40 (by decide) (fun c40 => ?_) (fun c40 => ?_)
            · skip
              refine ziinc (pc := 124) (lv' := [(3, .int (iI (y + 1))), (4, .int (iI it)), (2, .int (iI sv2)), (1, .int (iI mo2)), (0, .ref p0)]) hx hb 1 dX4_findPieces_124 hl rfl (by decide) rfl (fun ls hl => ?_)
              obtain ⟨x124, ex124⟩ : ∃ zz : Int, zz = (y + 1) := ⟨_, rfl⟩
              rw [← ex124] at hl
              refine lv_goto (pc := 127) (tgt := 21) hx hb dX4_findPieces_127 (by decide) ?_
              exact ih21 x124 sv2 mo2 j2 XL36 _ _ (by (first | assumption | omega)) (by first | exact hpi2 | (rw [hX44]; exact hpi2)) (by exact hs12) (by exact hs22) (by rw [ex124]; first | exact yst_end hn hyt2 (fun k hk => nn6_0 (by omega) hk) | exact yst_end hn hyt2 hneg) (by first | exact hof2 | (rw [hX44]; exact hof2)) (by first | exact hop2 | (rw [hX44]; exact hop2)) (by omega) hw _ (lv_sub hl [0, 2, 3, 4] rfl)
            · skip
              refine lv_aload_n (pc := 43) hx hb dX4_findPieces_43 rfl (lv_at hl 4 rfl) ?_
              refine zkIx (pc := 44) (zrV (As := []) hx hb hml hown hG hw (c_X4_takeEarliest l Γ K XL36 Rf p0 to (by (first | assumption | omega)) (by (first | assumption | omega)) (by (first | assumption | omega)) (by intro k hk; rcases hyt2.2.2.2 k hk with q | ⟨q1, q2, q3, q4⟩; omega; (have := ttE_rng (Pt := Pt) (hTk k q1) y; omega))) (T := TX4) hk rfl cb_X4_takeEarliest wl_X4_45 rfl ⟨Nat.le_of_ble_eq_true rfl, Nat.le_of_ble_eq_true rfl⟩ hl.1 rfl (Nat.le_of_ble_eq_true rfl) dX4_findPieces_44 ⟨Nat.zero_le _, Nat.zero_le _⟩) hw (fun r44 X44 H locs hp44 hw => ?_)
              refine lv_istore (pc := 47) (lv' := [(5, .int (iI r44)), (4, .int (iI it)), (3, .int (iI y)), (2, .int (iI sv2)), (1, .int (iI mo2)), (0, .ref p0)]) hx hb dX4_findPieces_47 hl (by decide) rfl (fun ls hl => ?_)
              refine lv_iload (pc := 49) hx hb dX4_findPieces_49 (lv_at hl 0 rfl) ?_
              refine zif_lt (pc := 51) hx hb 64 (by omega) dX4_findPieces_51 (by decide) (fun c51 => ?_) (fun c51 => ?_)
              · skip
                obtain ⟨hr44, hX44, hneg⟩ := hp44.resolve_right (fun q => by omega)
                refine lv_null (pc := 64) hx hb dX4_findPieces_64 ?_
                refine lv_goto (pc := 65) (tgt := 75) hx hb dX4_findPieces_65 (by decide) ?_
                refine lv_astoreN (pc := 75) (lv' := [(6, .null), (5, .int (iI r44)), (4, .int (iI it)), (3, .int (iI y)), (2, .int (iI sv2)), (1, .int (iI mo2)), (0, .ref p0)]) hx hb dX4_findPieces_75 hl (by decide) rfl (fun ls hl => ?_)
                refine lv_aloadN (pc := 77) hx hb dX4_findPieces_77 (lv_at hl 0 rfl) ?_
                refine lv_ifnonnullN (pc := 79) hx hb dX4_findPieces_79 ?_
                refine lv_goto (pc := 82) (tgt := 124) hx hb dX4_findPieces_82 (by decide) ?_
                refine ziinc (pc := 124) (lv' := [(3, .int (iI (y + 1))), (6, .null), (5, .int (iI r44)), (4, .int (iI it)), (2, .int (iI sv2)), (1, .int (iI mo2)), (0, .ref p0)]) hx hb 3 dX4_findPieces_124 hl rfl (by decide) rfl (fun ls hl => ?_)
                obtain ⟨x124, ex124⟩ : ∃ zz : Int, zz = (y + 1) := ⟨_, rfl⟩
                rw [← ex124] at hl
                refine lv_goto (pc := 127) (tgt := 21) hx hb dX4_findPieces_127 (by decide) ?_
                exact ih21 x124 sv2 mo2 j2 X44 _ _ (by (first | assumption | omega)) (by first | exact hpi2 | (rw [hX44]; exact hpi2)) (by exact hs12) (by exact hs22) (by rw [ex124]; first | exact yst_end hn hyt2 (fun k hk => nn6_0 (by omega) hk) | exact yst_end hn hyt2 hneg) (by first | exact hof2 | (rw [hX44]; exact hof2)) (by first | exact hop2 | (rw [hX44]; exact hop2)) (by omega) hw _ (lv_sub hl [0, 4, 5, 6] rfl)
              · skip
                obtain ⟨⟨hr0, hr6⟩, htd0, hmin, hX44⟩ := hp44.resolve_left (fun q => by omega)
                refine lv_iload (pc := 54) hx hb dX4_findPieces_54 (lv_at hl 0 rfl) ?_
                refine lv_aload_n (pc := 56) hx hb dX4_findPieces_56 rfl (lv_at hl 5 rfl) ?_
                refine zgetR (pc := 57) hx hb hG hown hw hk (T := TX4) rfl 1 (by decide) rfl wf_X4_17 rfl hr1 dX4_findPieces_57 ?_
                refine zlen9 (pc := 60) hx hb hw hktu dX4_findPieces_60 ?_
                refine zicmp_lt (pc := 61) hx hb 68 (by omega) (by omega) dX4_findPieces_61 (by decide) (fun c61 => ?_) (fun c61 => ?_)
                · skip
                  have htdx : ∀ k : Nat, k < 6 → X44 to k = if k = r44.toNat then -1 else XL36 to k := fun k hk => by rw [hX44, up2_eq]; simp
                  obtain ⟨hjN, hLj, htr, hrn, hyt3⟩ := yst_take hev hTk hn hyt2 (r := r44.toNat) (by omega) htd0 hmin htdx
                  have hTu3 : turnsOK K X44 Rf tu n T Pt := hTu4.mono (fun a ha => by rw [hX44, up2_o (by rintro rfl; rcases ha with h | h <;> (rw [hkto] at h; cases h))])
                  obtain ⟨-, t9, pa, hrt, hka, hrp, hkp, hoT, hoP, hts, hps⟩ := (hTu3 r44.toNat (by omega)).resolve_left (fun q => absurd hrn (by omega))
                  have hbs : X44 p0 0 = X p0 0 := by rw [hX44, up2_o (Ne.symm hnp3)]; exact hop2 0 (by omega)
                  refine lv_aload_n (pc := 68) hx hb dX4_findPieces_68 rfl (lv_at hl 5 rfl) ?_
                  refine zgetR (pc := 69) hx hb hG hown hw hk (T := TX4) rfl 1 (by decide) rfl wf_X4_17 rfl hr1 dX4_findPieces_69 ?_
                  refine lv_iload (pc := 72) hx hb dX4_findPieces_72 (lv_at hl 0 rfl) ?_
                  refine zaaldR3 (pc := 74) hx hb hw hktu ⟨by omega, by omega⟩ (by omega) hrt dX4_findPieces_74 ?_
                  refine lv_astore (pc := 75) (lv' := [(6, .ref t9), (5, .int (iI r44)), (4, .int (iI it)), (3, .int (iI y)), (2, .int (iI sv2)), (1, .int (iI mo2)), (0, .ref p0)]) hx hb dX4_findPieces_75 hl (by decide) rfl (fun ls hl => ?_)
                  refine lv_aload (pc := 77) hx hb dX4_findPieces_77 (lv_at hl 0 rfl) ?_
                  refine lv_ifnonnull (pc := 79) (tgt := 85) hx hb dX4_findPieces_79 (by decide) ?_
                  refine lv_iload_n (pc := 85) hx hb dX4_findPieces_85 rfl (lv_at hl 5 rfl) ?_
                  refine lv_aload (pc := 86) hx hb dX4_findPieces_86 (lv_at hl 0 rfl) ?_
                  refine lv_aload (pc := 88) hx hb dX4_findPieces_88 (lv_at hl 0 rfl) ?_
                  refine lv_iload_n (pc := 90) hx hb dX4_findPieces_90 rfl (lv_at hl 3 rfl) ?_
                  refine zkIp (pc := 91) (zrV (As := [.int (iI y)]) hx hb hml hown hG hw (c_X6_toldIn l Γ K X44 Rf t9 y pa (by (first | assumption | omega)) (by (first | assumption | omega)) (by (first | assumption | omega)) (by (first | assumption | omega)) (by (first | assumption | omega)) (by (first | assumption | omega))) (T := TX6) hka rfl cb_X6_toldIn wl_X4_49 rfl ⟨Nat.le_of_ble_eq_true rfl, Nat.le_of_ble_eq_true rfl⟩ hl.1 rfl (Nat.le_of_ble_eq_true rfl) dX4_findPieces_91 ⟨Nat.zero_le _, Nat.zero_le _⟩) hw (fun r91 H locs hp91 hw => ?_)
                  subst hp91
                  have hp91f0 := tTold_rng (T := X44 t9) (P := X44 pa) (by assumption) y
                  refine lv_aload_n (pc := 94) hx hb dX4_findPieces_94 rfl (lv_at hl 6 rfl) ?_
                  refine zgetI (pc := 95) hx hb hG hown hw hk (T := TX4) rfl 0 (by decide) rfl wf_X4_9 rfl dX4_findPieces_95 ?_
                  refine lv_iload_n (pc := 98) hx hb dX4_findPieces_98 rfl (lv_at hl 4 rfl) ?_
                  refine zkIp (pc := 99) (zrV (As := [.int (iI (tTold (X44 t9) (X44 pa) y)), .int (iI (X44 p0 0)), .int (iI sv2)]) hx hb hml hown hG hw (c_X6_momentOfTold l Γ K X44 Rf t9 (tTold (X44 t9) (X44 pa) y) (X44 p0 0) sv2  (by (first | assumption | omega)) (by (first | assumption | omega))) (T := TX6) hka rfl cb_X6_momentOfTold wl_X4_53 rfl ⟨Nat.le_of_ble_eq_true rfl, Nat.le_of_ble_eq_true rfl⟩ hl.1 rfl (Nat.le_of_ble_eq_true rfl) dX4_findPieces_99 ⟨Nat.zero_le _, Nat.zero_le _⟩) hw (fun r99 H locs hp99 hw => ?_)
                  subst hp99
                  have htm : -2000 ≤ tMom (X44 t9) (tTold (X44 t9) (X44 pa) y) (X44 p0 0) sv2 ∧ tMom (X44 t9) (tTold (X44 t9) (X44 pa) y) (X44 p0 0) sv2 ≤ 105200000 := by
                    have := tTold_rng (T := X44 t9) (P := X44 pa) hoT y
                    rw [hbs]; unfold tMom; (repeat' split) <;> omega
                  refine zmax (pc := 102) hx hb (hml.trans hl.1.symm) hown hG wl_X4_57 w1_zmx wi_javalangMath w2_zmx (Nat.le_of_ble_eq_true rfl) (Nat.le_of_ble_eq_true rfl) (Nat.zero_le _) (Nat.zero_le _) ⟨by omega, by omega⟩ dX4_findPieces_102 ?_
                  refine ztop (fun x105 ex105 => ?_)
                  refine lv_istore_n (pc := 105) (lv' := [(1, .int (iI x105)), (6, .ref t9), (5, .int (iI r44)), (4, .int (iI it)), (3, .int (iI y)), (2, .int (iI sv2)), (0, .ref p0)]) hx hb dX4_findPieces_105 rfl hl (by decide) rfl (fun ls hl => ?_)
                  refine lv_aload (pc := 106) hx hb dX4_findPieces_106 (lv_at hl 1 rfl) ?_
                  refine zgetI (pc := 108) hx hb hG hown hw hka (T := TX6) rfl 5 (by decide) rfl wf_X4_63 rfl dX4_findPieces_108 ?_
                  refine ztop (fun x111 ex111 => ?_)
                  refine lv_istore_n (pc := 111) (lv' := [(2, .int (iI x111)), (1, .int (iI x105)), (6, .ref t9), (5, .int (iI r44)), (4, .int (iI it)), (3, .int (iI y)), (0, .ref p0)]) hx hb dX4_findPieces_111 rfl hl (by decide) rfl (fun ls hl => ?_)
                  refine lv_aload_n (pc := 112) hx hb dX4_findPieces_112 rfl (lv_at hl 6 rfl) ?_
                  refine lv_iload_n (pc := 113) hx hb dX4_findPieces_113 rfl (lv_at hl 1 rfl) ?_
                  refine lv_iload_n (pc := 114) hx hb dX4_findPieces_114 rfl (lv_at hl 0 rfl) ?_
                  refine zkVx (pc := 115) (zrV (As := [.int (iI x105), .int (iI x111)]) hx hb hml hown hG hw (c_X4_addPiece l Γ K X44 Rf p0 x105 x111 be sa (by (first | assumption | omega)) (by (first | assumption | omega)) (by (first | assumption | omega)) (by (first | assumption | omega)) (by (first | assumption | omega)) (by (first | assumption | omega)) (by have := hpi2.1.1; have := hpi2.2.1; rw [hX44, up2_o (Ne.symm hnp3)]; omega) (by intro _; rw [hX44, up2_o (Ne.symm hnp3), up2_o (Ne.symm hne1)]; have := hpi2.1.1; exact (hpi2.1.2.2.2.1 _ (by omega)).1)) (T := TX4) hk rfl cb_X4_addPiece wl_X4_37 rfl ⟨Nat.le_of_ble_eq_true rfl, Nat.le_of_ble_eq_true rfl⟩ hl.1 rfl (Nat.le_of_ble_eq_true rfl) dX4_findPieces_115 ⟨Nat.zero_le _, Nat.zero_le _⟩) hw (fun X115 H locs hp115 hw => ?_)
                  refine ziinc (pc := 118) (lv' := [(4, .int (iI (it + 1))), (2, .int (iI x111)), (1, .int (iI x105)), (6, .ref t9), (5, .int (iI r44)), (3, .int (iI y)), (0, .ref p0)]) hx hb 4 dX4_findPieces_118 hl rfl (by decide) rfl (fun ls hl => ?_)
                  obtain ⟨x118, ex118⟩ : ∃ zz : Int, zz = (it + 1) := ⟨_, rfl⟩
                  rw [← ex118] at hl
                  refine lv_goto (pc := 121) (tgt := 36) hx hb dX4_findPieces_121 (by decide) ?_
                  have g0 := apX_eff (X := X44) (p := p0) (be := be) (sa := sa) (moment := x105) (saving := x111) hnp1 hnp2 hne3
                  rw [← hp115] at g0
                  obtain ⟨g1, g2, -⟩ := g0
                  have fs := fp_step (X := XL36) (X1 := X44) (X2 := X115) (r := r44.toNat) (m1 := x105) (s1 := x111) ⟨hnp1, hnp2, hne3, hnp3, hne1, hne2⟩ hev hn hN2 hTk hjN (by omega) hLj hpi2 (fun a ha => by rw [hX44, up2_o ha]) (by rw [ex105, hs12, hs22, tMom_congr hts, tTold_congr hts hps, hbs, htr]) (by rw [ex111]; exact hts.2.2.2.2) hp115
                  exact ih36 x118 x111 x105 (j2 + 1) X115 _ _ (by (first | assumption | omega)) (by rw [g1 to hnp3 hne1 hne2]; have := nn6_take (td := XL36 to) (td' := X44 to) (r := r44.toNat) (by omega) htd0 htdx; omega) (by exact fs.1) (by exact fs.2.1) (by exact fs.2.2) (by rw [g1 to hnp3 hne1 hne2]; exact hyt3) (by intro a h1 h2 h3 h4; rw [g1 a h1 h3 h4, hX44, up2_o h2]; exact hof2 a h1 h2 h3 h4) (by intro q hq; rw [g2 q hq, hX44, up2_o (Ne.symm hnp3)]; exact hop2 q hq) (by omega) hw _ (lv_sub hl [0, 5, 1, 2, 6] rfl)
                · skip
                  exfalso; omega
        exact lp36 _ 0 sv mo j X30 _ _ (by (first | assumption | omega)) (by have := nn6_le (X30 to); omega) (by rw [ho30 be (Ne.symm hne1), ho30 sa (Ne.symm hne2), ho30 p0 (Ne.symm hnp3)]; exact hpi) (by exact hs1) (by exact hs2) (by exact yst_start hev hTk hn (by omega) hys ht30) (by intro a h1 h2 h3 h4; rw [ho30 a h2]; exact hof a h1 h2 h3 h4) (by intro q hq; rw [ho30 p0 (Ne.symm hnp3)]; exact hop q hq) (Nat.lt_succ_self _) hw _ (lv_sub hl [0, 1, 2, 3, 4] rfl)
  have hX8 := apX_eff (X := X2) (p := p0) (be := be) (sa := sa) (moment := 0) (saving := 0) hnp1 hnp2 hne3
  rw [← hp8] at hX8
  obtain ⟨g1, g2, g3⟩ := hX8
  rw [if_neg (by omega)] at g3
  obtain ⟨w, hw9, g4, g5, g6, -⟩ := g3
  have hw0 : w = 0 := by rw [hw9, if_neg (by rw [eX2, up2_s]; omega), eX2, up2_s]
  subst hw0
  exact lp21 _ 1900 0 (-1020) 0 X8 _ _ (by (first | assumption | omega)) (by rw [show X8 p0 6 = 1 by omega]; exact pinv_0 g5 g6) (by rfl) (by rfl) (by exact ysp_0 hev) (by intro a h1 h2 h3 h4; rw [g1 a h1 h3 h4, eX2, up2_o h1]) (by intro q hq; rw [g2 q hq, eX2, up2_k hq]) (Nat.lt_succ_self _) hw _ (lv_sub hl [0, 1, 2, 3] rfl)
