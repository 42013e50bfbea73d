set_option maxHeartbeats 4000000 in
set_option maxRecDepth 100000 in
theorem c_X4_findPieces (l : Launch) (Γ : zG) (K : zK) (X : zX) (Rf : zR) (p0 : Nat) (tu : Nat) (to : Nat) (be : Nat) (sa : Nat) (n : Nat) (T : Nat → Nat → Int) (Pt : Nat → Nat → Int) (hk : K p0 = (1, 3)) (hr1 : Rf p0 1 = some tu) (hr3 : Rf p0 3 = some to) (hr4 : Rf p0 4 = some be) (hr5 : Rf p0 5 = some sa) (hktu : K tu = (9, 6)) (hkto : K to = (2, 6)) (hkbe : K be = (2, 1201)) (hksa : K sa = (2, 1201)) (hne1 : to ≠ be) (hne2 : to ≠ sa) (hne3 : be ≠ sa) (hTu : turnsOK K X Rf tu n T Pt) (hn : n ≤ 6) (hbase : -840 ≤ X p0 0 ∧ X p0 0 ≤ 840) : Ct l yX4_findPieces cX4_findPieces 7 none 5 0 0 Γ [.ref p0] K X Rf (pV (zpv K Rf (fun X' : zX => prep (X' be) (X' sa) (X' p0 6) (sav T Pt n (X p0 0)) ∧ (∀ a, a ≠ p0 → a ≠ to → a ≠ be → a ≠ sa → X' a = X a) ∧ (∀ q, q ≠ 6 → X' p0 q = X p0 q)))) := by
  refine Ct.of (by decide +kernel) (Nat.le_of_ble_eq_true rfl) ?_
  intro p e s m below meth c ls hx hb hr hml hown hG hlocks hname hw hl
  have hl : lv_has ls 7 [(0, .ref p0)] := hl
  have hnp1 : be ≠ p0 := zkne hkbe hk (by simp)
  have hnp2 : sa ≠ p0 := zkne hksa hk (by simp)
  have hnp3 : to ≠ p0 := zkne hkto hk (by simp)
  have hTk : ∀ k, k < n → okT (T k) := fun k hk => hTu.okk hn hk
  obtain ⟨L, hL⟩ : ∃ L, L = evF T Pt n := ⟨_, rfl⟩
  obtain ⟨N, hN⟩ : ∃ N, N = evN T Pt n := ⟨_, rfl⟩
  have hev : evOK T Pt n L N := by rw [hL, hN]; exact evF_ok T Pt n
  have hN2 : N ≤ 1200 := by rw [hN]; exact evN_le hn
  have hmd := fun (i : Nat) (hi : i < N) => hev.mod hn hTk hi
  refine lv_aload_n (pc := 0) hx hb dX4_findPieces_0 rfl (lv_at hl 0 rfl) ?_
  refine ziconst (pc := 1) (n := 0) hx hb dX4_findPieces_1 ?_
  refine zputI (pc := 2) hx hb hG hown hw hk (T := TX4) rfl 6 (by decide) rfl wf_X4_34 rfl (by decide +kernel) rfl dX4_findPieces_2 (fun H locs hw => ?_)
  obtain ⟨X2, eX2⟩ : ∃ Y : zX, Y = up2 X p0 6 0 := ⟨_, rfl⟩
  rw [← eX2] at hw
  refine lv_aload_n (pc := 5) hx hb dX4_findPieces_5 rfl (lv_at hl 0 rfl) ?_
  refine ziconst (pc := 6) (n := 0) hx hb dX4_findPieces_6 ?_
  refine ziconst (pc := 7) (n := 0) hx hb dX4_findPieces_7 ?_
  refine zkVx (pc := 8) (zrV (As := [.int (iI 0), .int (iI 0)]) hx hb hml hown hG hw (c_X4_addPiece l Γ K X2 Rf p0 0 0 be sa (by (first | assumption | omega)) (by (first | assumption | omega)) (by (first | assumption | omega)) (by (first | assumption | omega)) (by (first | assumption | omega)) (by (first | assumption | omega)) (by rw [eX2, up2_s]; omega) (by rw [eX2, up2_s]; omega)) (T := TX4) hk rfl cb_X4_addPiece wl_X4_37 rfl ⟨Nat.le_of_ble_eq_true rfl, Nat.le_of_ble_eq_true rfl⟩ hl.1 rfl (Nat.le_of_ble_eq_true rfl) dX4_findPieces_8 ⟨Nat.zero_le _, Nat.zero_le _⟩) hw (fun X8 H locs hp8 hw => ?_)
  refine zldc (pc := 11) (n := (-2147483648)) hx hb hown hG wk_X4_43 dX4_findPieces_11 ?_
  refine lv_istore_n (pc := 13) (lv' := [(1, .int (iI (-2147483648))), (0, .ref p0)]) hx hb dX4_findPieces_13 rfl hl (by decide) rfl (fun ls hl => ?_)
  refine ziconst (pc := 14) (n := 0) hx hb dX4_findPieces_14 ?_
  refine lv_istore_n (pc := 15) (lv' := [(2, .int (iI 0)), (1, .int (iI (-2147483648))), (0, .ref p0)]) hx hb dX4_findPieces_15 rfl hl (by decide) rfl (fun ls hl => ?_)
  refine zsipush (pc := 16) (n := 1900) hx hb dX4_findPieces_16 rfl ?_
  refine lv_istore_n (pc := 19) (lv' := [(3, .int (iI 1900)), (2, .int (iI 0)), (1, .int (iI (-2147483648))), (0, .ref p0)]) hx hb dX4_findPieces_19 rfl hl (by decide) rfl (fun ls hl => ?_)
  have lp20 : ∀ (n20 : Nat) (y : Int) (sv : Int) (mo : Int) (j : Nat) (XL20 : zX) (H : Heap) (locs : List Loc), (hy : 1900 ≤ y ∧ y ≤ 2100) → (hpi : pinv T (X p0 0) L (XL20 be) (XL20 sa) (XL20 p0 6) j) → (hs1 : mo = (stF T (X p0 0) L j).1) → (hs2 : sv = (stF T (X p0 0) L j).2) → (hys : ysp T Pt n L N j y) → (hof : ∀ a, a ≠ p0 → a ≠ to → a ≠ be → a ≠ sa → XL20 a = X a) → (hop : ∀ q, q ≠ 6 → XL20 p0 q = X p0 q) → ((2100 - y).toNat < n20) → Wd Γ (zA K s.heap.size) K XL20 Rf s H locs → ∀ ls : Array Slot, lv_has ls 7 [(3, .int (iI y)), (2, .int (iI sv)), (1, .int (iI mo)), (0, .ref p0)] → W p l e (rmL 5 0 0) s m ([.ref p0] : List Value).toArray below meth c H locs 0 0 (MQ below (zQ Γ K s.heap.size (pV (zpv K Rf (fun X' : zX => prep (X' be) (X' sa) (X' p0 6) (sav T Pt n (X p0 0)) ∧ (∀ a, a ≠ p0 → a ≠ to → a ≠ be → a ≠ sa → X' a = X a) ∧ (∀ q, q ≠ 6 → X' p0 q = X p0 q))))) ([.ref p0] : List Value).toArray s 0 0 (zA K s.heap.size)) (F0 m 20 ls []) := by
    intro n20
    induction n20 with
    | zero => intro y sv mo j XL20 H locs hy hpi hs1 hs2 hys hof hop hm20; exact absurd hm20 (Nat.not_lt_zero _)
    | succ n20 ih20 =>
      intro y sv mo j XL20 H locs hy hpi hs1 hs2 hys hof hop hm20 hw ls hl
      have hTu2 := hTu.mono (X' := XL20) (fun a ha => hof a (by rintro rfl; rcases ha with h | h <;> (rw [hk] at h; cases h)) (by rintro rfl; rcases ha with h | h <;> (rw [hkto] at h; cases h)) (by rintro rfl; rcases ha with h | h <;> (rw [hkbe] at h; cases h)) (by rintro rfl; rcases ha with h | h <;> (rw [hksa] at h; cases h)))
      refine lv_iload_n (pc := 20) hx hb dX4_findPieces_20 rfl (lv_at hl 0 rfl) ?_
      refine zsipush (pc := 21) (n := 2099) hx hb dX4_findPieces_21 rfl ?_
      refine zicmp_gt (pc := 24) hx hb 129 (by omega) (by omega) dX4_findPieces_24 (by decide) (fun c24 => ?_) (fun c24 => ?_)
      · skip
        exact zretV (pc := 129) hx hb hlocks hr hw (Nat.zero_le _) (Nat.zero_le _) dX4_findPieces_129 ⟨by (try dsimp only) <;> (
                                        have e9 := ysp_end hys (by omega)
                                        subst e9
                                        refine ⟨hpi.1.congr (fun _ _ => rfl) (fun _ _ => rfl) (fun m _ _ => ?_), hof, hop⟩
                                        unfold sav; rw [← hL, ← hN]), rfl, rfl⟩
      · skip
        refine lv_aload_n (pc := 27) hx hb dX4_findPieces_27 rfl (lv_at hl 3 rfl) ?_
        refine lv_iload_n (pc := 28) hx hb dX4_findPieces_28 rfl (lv_at hl 0 rfl) ?_
        refine zkVx (pc := 29) (zrV (As := [.int (iI y)]) hx hb hml hown hG hw (c_X4_tellTurns l Γ K XL20 Rf p0 y tu to n T Pt (by (first | assumption | omega)) (by (first | assumption | omega)) (by (first | assumption | omega)) (by (first | assumption | omega)) (by (first | assumption | omega)) (by (first | assumption | omega)) (by (first | assumption | omega)) (by (first | assumption | omega))) (T := TX4) hk rfl cb_X4_tellTurns wl_X4_44 rfl ⟨Nat.le_of_ble_eq_true rfl, Nat.le_of_ble_eq_true rfl⟩ hl.1 rfl (Nat.le_of_ble_eq_true rfl) dX4_findPieces_29 ⟨Nat.zero_le _, Nat.zero_le _⟩) hw (fun X29 H locs hp29 hw => ?_)
        obtain ⟨ht29, ho29⟩ := hp29
        refine ziconst (pc := 32) (n := 0) hx hb dX4_findPieces_32 ?_
        refine lv_istore (pc := 33) (lv' := [(4, .int (iI 0)), (3, .int (iI y)), (2, .int (iI sv)), (1, .int (iI mo)), (0, .ref p0)]) hx hb dX4_findPieces_33 hl (by decide) rfl (fun ls hl => ?_)
        have lp35 : ∀ (n35 : Nat) (it : Int) (sv2 : Int) (mo2 : Int) (j2 : Nat) (XL35 : zX) (H : Heap) (locs : List Loc), (hit : 0 ≤ it ∧ it ≤ 6) → (hnn : nn6 (XL35 to) ≤ 6 - it) → (hpi2 : pinv T (X p0 0) L (XL35 be) (XL35 sa) (XL35 p0 6) j2) → (hs12 : mo2 = (stF T (X p0 0) L j2).1) → (hs22 : sv2 = (stF T (X p0 0) L j2).2) → (hyt2 : yst T Pt n L N j2 y (XL35 to)) → (hof2 : ∀ a, a ≠ p0 → a ≠ to → a ≠ be → a ≠ sa → XL35 a = X a) → (hop2 : ∀ q, q ≠ 6 → XL35 p0 q = X p0 q) → ((6 - it).toNat < n35) → Wd Γ (zA K s.heap.size) K XL35 Rf s H locs → ∀ ls : Array Slot, lv_has ls 7 [(4, .int (iI it)), (3, .int (iI y)), (2, .int (iI sv2)), (1, .int (iI mo2)), (0, .ref p0)] → W p l e (rmL 5 0 0) s m ([.ref p0] : List Value).toArray below meth c H locs 0 0 (MQ below (zQ Γ K s.heap.size (pV (zpv K Rf (fun X' : zX => prep (X' be) (X' sa) (X' p0 6) (sav T Pt n (X p0 0)) ∧ (∀ a, a ≠ p0 → a ≠ to → a ≠ be → a ≠ sa → X' a = X a) ∧ (∀ q, q ≠ 6 → X' p0 q = X p0 q))))) ([.ref p0] : List Value).toArray s 0 0 (zA K s.heap.size)) (F0 m 35 ls []) := by
          intro n35
          induction n35 with
          | zero => intro it sv2 mo2 j2 XL35 H locs hit hnn hpi2 hs12 hs22 hyt2 hof2 hop2 hm35; exact absurd hm35 (Nat.not_lt_zero _)
          | succ n35 ih35 =>
            intro it sv2 mo2 j2 XL35 H locs hit hnn hpi2 hs12 hs22 hyt2 hof2 hop2 hm35 hw ls hl
            have hst := stF_rng (T := T) (L := L) (N := N) hbase hmd hyt2.1
            have hTu4 := hTu.mono (X' := XL35) (fun a ha => hof2 a (by rintro rfl; rcases ha with h | h <;> (rw [hk] at h; cases h)) (by rintro rfl; rcases ha with h | h <;> (rw [hkto] at h; cases h)) (by rintro rfl; rcases ha with h | h <;> (rw [hkbe] at h; cases h)) (by rintro rfl; rcases ha with h | h <;> (rw [hksa] at h; cases h)))
            refine lv_iload (pc := 35) hx hb dX4_findPieces_35 (lv_at hl 0 rfl) ?_
            refine zbipush (pc := 37) (n := 6) hx hb dX4_findPieces_37 rfl ?_
            refine zicmp_ge (pc := 39) hx hb 123 (by omega) (by omega) dX4_findPieces_39 (by decide) (fun c39 => ?_) (fun c39 => ?_)
            · skip
              refine ziinc (pc := 123) (lv' := [(3, .int (iI (y + 1))), (4, .int (iI it)), (2, .int (iI sv2)), (1, .int (iI mo2)), (0, .ref p0)]) hx hb 1 dX4_findPieces_123 hl rfl (by decide) rfl (fun ls hl => ?_)
              obtain ⟨x123, ex123⟩ : ∃ zz : Int, zz = (y + 1) := ⟨_, rfl⟩
              rw [← ex123] at hl
              refine lv_goto (pc := 126) (tgt := 20) hx hb dX4_findPieces_126 (by decide) ?_
              exact ih20 x123 sv2 mo2 j2 XL35 _ _ (by (first | assumption | omega)) (by first | exact hpi2 | (rw [hX43]; exact hpi2)) (by exact hs12) (by exact hs22) (by rw [ex123]; first | exact yst_end hn hyt2 (fun k hk => nn6_0 (by omega) hk) | exact yst_end hn hyt2 hneg) (by first | exact hof2 | (rw [hX43]; exact hof2)) (by first | exact hop2 | (rw [hX43]; exact hop2)) (by omega) hw _ (lv_sub hl [0, 2, 3, 4] rfl)
            · skip
              refine lv_aload_n (pc := 42) hx hb dX4_findPieces_42 rfl (lv_at hl 4 rfl) ?_
              refine zkIx (pc := 43) (zrV (As := []) hx hb hml hown hG hw (c_X4_takeEarliest l Γ K XL35 Rf p0 to (by (first | assumption | omega)) (by (first | assumption | omega)) (by (first | assumption | omega)) (by intro k hk; rcases hyt2.2.2.2 k hk with q | ⟨q1, q2, q3, q4⟩; omega; (have := ttE_rng (Pt := Pt) (hTk k q1) y; omega))) (T := TX4) hk rfl cb_X4_takeEarliest wl_X4_48 rfl ⟨Nat.le_of_ble_eq_true rfl, Nat.le_of_ble_eq_true rfl⟩ hl.1 rfl (Nat.le_of_ble_eq_true rfl) dX4_findPieces_43 ⟨Nat.zero_le _, Nat.zero_le _⟩) hw (fun r43 X43 H locs hp43 hw => ?_)
              refine lv_istore (pc := 46) (lv' := [(5, .int (iI r43)), (4, .int (iI it)), (3, .int (iI y)), (2, .int (iI sv2)), (1, .int (iI mo2)), (0, .ref p0)]) hx hb dX4_findPieces_46 hl (by decide) rfl (fun ls hl => ?_)
              refine lv_iload (pc := 48) hx hb dX4_findPieces_48 (lv_at hl 0 rfl) ?_
              refine zif_lt (pc := 50) hx hb 63 (by omega) dX4_findPieces_50 (by decide) (fun c50 => ?_) (fun c50 => ?_)
              · skip
                obtain ⟨hr43, hX43, hneg⟩ := hp43.resolve_right (fun q => by omega)
                refine lv_null (pc := 63) hx hb dX4_findPieces_63 ?_
                refine lv_goto (pc := 64) (tgt := 74) hx hb dX4_findPieces_64 (by decide) ?_
                refine lv_astoreN (pc := 74) (lv' := [(6, .null), (5, .int (iI r43)), (4, .int (iI it)), (3, .int (iI y)), (2, .int (iI sv2)), (1, .int (iI mo2)), (0, .ref p0)]) hx hb dX4_findPieces_74 hl (by decide) rfl (fun ls hl => ?_)
                refine lv_aloadN (pc := 76) hx hb dX4_findPieces_76 (lv_at hl 0 rfl) ?_
                refine lv_ifnonnullN (pc := 78) hx hb dX4_findPieces_78 ?_
                refine lv_goto (pc := 81) (tgt := 123) hx hb dX4_findPieces_81 (by decide) ?_
                refine ziinc (pc := 123) (lv' := [(3, .int (iI (y + 1))), (6, .null), (5, .int (iI r43)), (4, .int (iI it)), (2, .int (iI sv2)), (1, .int (iI mo2)), (0, .ref p0)]) hx hb 3 dX4_findPieces_123 hl rfl (by decide) rfl (fun ls hl => ?_)
                obtain ⟨x123, ex123⟩ : ∃ zz : Int, zz = (y + 1) := ⟨_, rfl⟩
                rw [← ex123] at hl
                refine lv_goto (pc := 126) (tgt := 20) hx hb dX4_findPieces_126 (by decide) ?_
                exact ih20 x123 sv2 mo2 j2 X43 _ _ (by (first | assumption | omega)) (by first | exact hpi2 | (rw [hX43]; exact hpi2)) (by exact hs12) (by exact hs22) (by rw [ex123]; first | exact yst_end hn hyt2 (fun k hk => nn6_0 (by omega) hk) | exact yst_end hn hyt2 hneg) (by first | exact hof2 | (rw [hX43]; exact hof2)) (by first | exact hop2 | (rw [hX43]; exact hop2)) (by omega) hw _ (lv_sub hl [0, 4, 5, 6] rfl)
              · skip
                obtain ⟨⟨hr0, hr6⟩, htd0, hmin, hX43⟩ := hp43.resolve_left (fun q => by omega)
                refine lv_iload (pc := 53) hx hb dX4_findPieces_53 (lv_at hl 0 rfl) ?_
                refine lv_aload_n (pc := 55) hx hb dX4_findPieces_55 rfl (lv_at hl 5 rfl) ?_
                refine zgetR (pc := 56) hx hb hG hown hw hk (T := TX4) rfl 1 (by decide) rfl wf_X4_17 rfl hr1 dX4_findPieces_56 ?_
                refine zlen9 (pc := 59) hx hb hw hktu dX4_findPieces_59 ?_
                refine zicmp_lt (pc := 60) hx hb 67 (by omega) (by omega) dX4_findPieces_60 (by decide) (fun c60 => ?_) (fun c60 => ?_)
                · skip
                  have htdx : ∀ k : Nat, k < 6 → X43 to k = if k = r43.toNat then -1 else XL35 to k := fun k hk => by rw [hX43, up2_eq]; simp
                  obtain ⟨hjN, hLj, htr, hrn, hyt3⟩ := yst_take hev hTk hn hyt2 (r := r43.toNat) (by omega) htd0 hmin htdx
                  have hTu3 : turnsOK K X43 Rf tu n T Pt := hTu4.mono (fun a ha => by rw [hX43, up2_o (by rintro rfl; rcases ha with h | h <;> (rw [hkto] at h; cases h))])
                  obtain ⟨-, t9, pa, hrt, hka, hrp, hkp, hoT, hoP, hts, hps⟩ := (hTu3 r43.toNat (by omega)).resolve_left (fun q => absurd hrn (by omega))
                  have hbs : X43 p0 0 = X p0 0 := by rw [hX43, up2_o (Ne.symm hnp3)]; exact hop2 0 (by omega)
                  refine lv_aload_n (pc := 67) hx hb dX4_findPieces_67 rfl (lv_at hl 5 rfl) ?_
                  refine zgetR (pc := 68) hx hb hG hown hw hk (T := TX4) rfl 1 (by decide) rfl wf_X4_17 rfl hr1 dX4_findPieces_68 ?_
                  refine lv_iload (pc := 71) hx hb dX4_findPieces_71 (lv_at hl 0 rfl) ?_
                  refine zaaldR3 (pc := 73) hx hb hw hktu ⟨by omega, by omega⟩ (by omega) hrt dX4_findPieces_73 ?_
                  refine lv_astore (pc := 74) (lv' := [(6, .ref t9), (5, .int (iI r43)), (4, .int (iI it)), (3, .int (iI y)), (2, .int (iI sv2)), (1, .int (iI mo2)), (0, .ref p0)]) hx hb dX4_findPieces_74 hl (by decide) rfl (fun ls hl => ?_)
                  refine lv_aload (pc := 76) hx hb dX4_findPieces_76 (lv_at hl 0 rfl) ?_
                  refine lv_ifnonnull (pc := 78) (tgt := 84) hx hb dX4_findPieces_78 (by decide) ?_
                  refine lv_iload_n (pc := 84) hx hb dX4_findPieces_84 rfl (lv_at hl 5 rfl) ?_
                  refine lv_aload (pc := 85) hx hb dX4_findPieces_85 (lv_at hl 0 rfl) ?_
                  refine lv_aload (pc := 87) hx hb dX4_findPieces_87 (lv_at hl 0 rfl) ?_
                  refine lv_iload_n (pc := 89) hx hb dX4_findPieces_89 rfl (lv_at hl 3 rfl) ?_
                  refine zkIp (pc := 90) (zrV (As := [.int (iI y)]) hx hb hml hown hG hw (c_X6_toldIn l Γ K X43 Rf t9 y pa (by (first | assumption | omega)) (by (first | assumption | omega)) (by (first | assumption | omega)) (by (first | assumption | omega)) (by (first | assumption | omega)) (by (first | assumption | omega))) (T := TX6) hka rfl cb_X6_toldIn wl_X4_52 rfl ⟨Nat.le_of_ble_eq_true rfl, Nat.le_of_ble_eq_true rfl⟩ hl.1 rfl (Nat.le_of_ble_eq_true rfl) dX4_findPieces_90 ⟨Nat.zero_le _, Nat.zero_le _⟩) hw (fun r90 H locs hp90 hw => ?_)
                  subst hp90
                  have hp90f0 := tTold_rng (T := X43 t9) (P := X43 pa) (by assumption) y
                  refine lv_aload_n (pc := 93) hx hb dX4_findPieces_93 rfl (lv_at hl 6 rfl) ?_
                  refine zgetI (pc := 94) hx hb hG hown hw hk (T := TX4) rfl 0 (by decide) rfl wf_X4_9 rfl dX4_findPieces_94 ?_
                  refine lv_iload_n (pc := 97) hx hb dX4_findPieces_97 rfl (lv_at hl 4 rfl) ?_
                  refine zkIp (pc := 98) (zrV (As := [.int (iI (tTold (X43 t9) (X43 pa) y)), .int (iI (X43 p0 0)), .int (iI sv2)]) hx hb hml hown hG hw (c_X6_momentOfTold l Γ K X43 Rf t9 (tTold (X43 t9) (X43 pa) y) (X43 p0 0) sv2  (by (first | assumption | omega)) (by (first | assumption | omega))) (T := TX6) hka rfl cb_X6_momentOfTold wl_X4_56 rfl ⟨Nat.le_of_ble_eq_true rfl, Nat.le_of_ble_eq_true rfl⟩ hl.1 rfl (Nat.le_of_ble_eq_true rfl) dX4_findPieces_98 ⟨Nat.zero_le _, Nat.zero_le _⟩) hw (fun r98 H locs hp98 hw => ?_)
                  subst hp98
                  have htm : -2000 ≤ tMom (X43 t9) (tTold (X43 t9) (X43 pa) y) (X43 p0 0) sv2 ∧ tMom (X43 t9) (tTold (X43 t9) (X43 pa) y) (X43 p0 0) sv2 ≤ 105200000 := by
                    have := tTold_rng (T := X43 t9) (P := X43 pa) hoT y
                    rw [hbs]; unfold tMom; (repeat' split) <;> omega
                  refine zmax (pc := 101) hx hb (hml.trans hl.1.symm) hown hG wl_X4_60 w1_zmx wi_javalangMath w2_zmx (Nat.le_of_ble_eq_true rfl) (Nat.le_of_ble_eq_true rfl) (Nat.zero_le _) (Nat.zero_le _) ⟨by omega, by omega⟩ dX4_findPieces_101 ?_
                  refine ztop (fun x104 ex104 => ?_)
                  refine lv_istore_n (pc := 104) (lv' := [(1, .int (iI x104)), (6, .ref t9), (5, .int (iI r43)), (4, .int (iI it)), (3, .int (iI y)), (2, .int (iI sv2)), (0, .ref p0)]) hx hb dX4_findPieces_104 rfl hl (by decide) rfl (fun ls hl => ?_)
                  refine lv_aload (pc := 105) hx hb dX4_findPieces_105 (lv_at hl 1 rfl) ?_
                  refine zgetI (pc := 107) hx hb hG hown hw hka (T := TX6) rfl 5 (by decide) rfl wf_X4_66 rfl dX4_findPieces_107 ?_
                  refine ztop (fun x110 ex110 => ?_)
                  refine lv_istore_n (pc := 110) (lv' := [(2, .int (iI x110)), (1, .int (iI x104)), (6, .ref t9), (5, .int (iI r43)), (4, .int (iI it)), (3, .int (iI y)), (0, .ref p0)]) hx hb dX4_findPieces_110 rfl hl (by decide) rfl (fun ls hl => ?_)
                  refine lv_aload_n (pc := 111) hx hb dX4_findPieces_111 rfl (lv_at hl 6 rfl) ?_
                  refine lv_iload_n (pc := 112) hx hb dX4_findPieces_112 rfl (lv_at hl 1 rfl) ?_
                  refine lv_iload_n (pc := 113) hx hb dX4_findPieces_113 rfl (lv_at hl 0 rfl) ?_
                  refine zkVx (pc := 114) (zrV (As := [.int (iI x104), .int (iI x110)]) hx hb hml hown hG hw (c_X4_addPiece l Γ K X43 Rf p0 x104 x110 be sa (by (first | assumption | omega)) (by (first | assumption | omega)) (by (first | assumption | omega)) (by (first | assumption | omega)) (by (first | assumption | omega)) (by (first | assumption | omega)) (by have := hpi2.1.1; have := hpi2.2.1; rw [hX43, up2_o (Ne.symm hnp3)]; omega) (by intro _; rw [hX43, up2_o (Ne.symm hnp3), up2_o (Ne.symm hne1)]; have := hpi2.1.1; exact (hpi2.1.2.2.2.1 _ (by omega)).1)) (T := TX4) hk rfl cb_X4_addPiece wl_X4_37 rfl ⟨Nat.le_of_ble_eq_true rfl, Nat.le_of_ble_eq_true rfl⟩ hl.1 rfl (Nat.le_of_ble_eq_true rfl) dX4_findPieces_114 ⟨Nat.zero_le _, Nat.zero_le _⟩) hw (fun X114 H locs hp114 hw => ?_)
                  refine ziinc (pc := 117) (lv' := [(4, .int (iI (it + 1))), (2, .int (iI x110)), (1, .int (iI x104)), (6, .ref t9), (5, .int (iI r43)), (3, .int (iI y)), (0, .ref p0)]) hx hb 4 dX4_findPieces_117 hl rfl (by decide) rfl (fun ls hl => ?_)
                  obtain ⟨x117, ex117⟩ : ∃ zz : Int, zz = (it + 1) := ⟨_, rfl⟩
                  rw [← ex117] at hl
                  refine lv_goto (pc := 120) (tgt := 35) hx hb dX4_findPieces_120 (by decide) ?_
                  have g0 := apX_eff (X := X43) (p := p0) (be := be) (sa := sa) (moment := x104) (saving := x110) hnp1 hnp2 hne3
                  rw [← hp114] at g0
                  obtain ⟨g1, g2, -⟩ := g0
                  have fs := fp_step (X := XL35) (X1 := X43) (X2 := X114) (r := r43.toNat) (m1 := x104) (s1 := x110) ⟨hnp1, hnp2, hne3, hnp3, hne1, hne2⟩ hev hn hN2 hTk hjN (by omega) hLj hpi2 (fun a ha => by rw [hX43, up2_o ha]) (by rw [ex104, hs12, hs22, tMom_congr hts, tTold_congr hts hps, hbs, htr]) (by rw [ex110]; exact hts.2.2.2.2) hp114
                  exact ih35 x117 x110 x104 (j2 + 1) X114 _ _ (by (first | assumption | omega)) (by rw [g1 to hnp3 hne1 hne2]; have := nn6_take (td := XL35 to) (td' := X43 to) (r := r43.toNat) (by omega) htd0 htdx; omega) (by exact fs.1) (by exact fs.2.1) (by exact fs.2.2) (by rw [g1 to hnp3 hne1 hne2]; exact hyt3) (by intro a h1 h2 h3 h4; rw [g1 a h1 h3 h4, hX43, up2_o h2]; exact hof2 a h1 h2 h3 h4) (by intro q hq; rw [g2 q hq, hX43, up2_o (Ne.symm hnp3)]; exact hop2 q hq) (by omega) hw _ (lv_sub hl [0, 5, 1, 2, 6] rfl)
                · skip
                  exfalso; omega
        exact lp35 _ 0 sv mo j X29 _ _ (by (first | assumption | omega)) (by have := nn6_le (X29 to); omega) (by rw [ho29 be (Ne.symm hne1), ho29 sa (Ne.symm hne2), ho29 p0 (Ne.symm hnp3)]; exact hpi) (by exact hs1) (by exact hs2) (by exact yst_start hev hTk hn (by omega) hys ht29) (by intro a h1 h2 h3 h4; rw [ho29 a h2]; exact hof a h1 h2 h3 h4) (by intro q hq; rw [ho29 p0 (Ne.symm hnp3)]; exact hop q hq) (Nat.lt_succ_self _) hw _ (lv_sub hl [0, 1, 2, 3, 4] rfl)
  have hX8 := apX_eff (X := X2) (p := p0) (be := be) (sa := sa) (moment := 0) (saving := 0) hnp1 hnp2 hne3
  rw [← hp8] at hX8
  obtain ⟨g1, g2, g3⟩ := hX8
  rw [if_neg (by omega)] at g3
  obtain ⟨w, hw9, g4, g5, g6, -⟩ := g3
  have hw0 : w = 0 := by rw [hw9, if_neg (by rw [eX2, up2_s]; omega), eX2, up2_s]
  subst hw0
  exact lp20 _ 1900 0 (-2147483648) 0 X8 _ _ (by (first | assumption | omega)) (by rw [show X8 p0 6 = 1 by omega]; exact pinv_0 g5 g6) (by rfl) (by rfl) (by exact ysp_0 hev) (by intro a h1 h2 h3 h4; rw [g1 a h1 h3 h4, eX2, up2_o h1]) (by intro q hq; rw [g2 q hq, eX2, up2_k hq]) (Nat.lt_succ_self _) hw _ (lv_sub hl [0, 1, 2, 3] rfl)
