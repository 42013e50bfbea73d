set_option maxHeartbeats 4000000 in
set_option maxRecDepth 100000 in
theorem c_X8_digestWork (l : Launch) (Γ : zG) (K : zK) (X : zX) (Rf : zR) (x : Nat) (v : Int) (ρ : zL) (M : zM) (hC : repC ρ K X Rf x M) (hM : okM M) : Ct l yX8_digestWork cX8_digestWork 8 (some .long) 6 0 0 Γ [.ref x, .long (lJ v)] K X Rf (pL (fun (r : Int) (K' : zK) (X' : zX) (R' : zR) => r = dgWo M v ∧ ∃ ρ', repC ρ' K' X' R' x M ∧ frC ρ K X Rf ρ' K' X' R')) := by
  refine Ct.of (by decide +kernel) (Nat.le_of_ble_eq_true rfl) ?_
  intro p e s m below meth c ls hx hb hr hml hown hG hlocks hname hw hl
  have hl : lv_has ls 8 [(0, .ref x), (1, .long (lJ v))] := hl
  obtain ⟨⟨hk, hlx⟩, pr, pl, sr, dr, na, wo, ⟨hr0, hr2, hr4, hr6, hr7, hrd⟩, ⟨hkpr, hkpl, hksr, hkdr, hkna⟩, ⟨hlpr, hlpl, hlsr, hldr, hlna⟩, ⟨hx1, hx3, hx5⟩, hpt, hpl, hse, hwo⟩ := id hC
  obtain ⟨⟨hb1, hb2, hb3, hb4⟩, hokP, hokL, hokS, hokW, hokF⟩ := id hM
  obtain ⟨⟨hkw, hlw⟩, fe, fa, fn, p09, ⟨hw1, hw5, hw7, hrf⟩, ⟨hkfe, hkfa, hkfn⟩, ⟨hlfe, hlfa, hlfn⟩, ⟨hw0, hwk2, hwk3, hwk4, hwk6⟩, hfs, hvr, hfb, hwp⟩ := id hwo
  obtain ⟨hwb1, hwb2, hwb3, hwb4⟩ := hokW
  have hnn : X wo 6 = ((M 40 29).toNat : Int) ∧ (M 40 29).toNat ≤ 20 := by omega
  have hne9 : fa ≠ fn := zkne hkfa hkfn (by simp)
  have hnw1 : wo ≠ fn := zkne hkw hkfn (by simp)
  have hnw2 : wo ≠ fa := zkn2 hkw hkfa (by simp)
  obtain ⟨p0, be, sa, hwr1, hkp0, ⟨hrb4, hrb5⟩, ⟨hkbe, hksa⟩, hpq, hbq, hbz⟩ := hwo.clk hpl hM
  have hpn1 : p0 ≠ fa := zkn2 hkp0 hkfa (by simp)
  have hpn2 : p0 ≠ fn := zkne hkp0 hkfn (by simp)
  have hpn3 : be ≠ fa := zkne hkbe hkfa (by simp)
  have hpn4 : be ≠ fn := zkn2 hkbe hkfn (by simp)
  have hpn5 : sa ≠ fa := zkne hksa hkfa (by simp)
  have hpn6 : sa ≠ fn := zkn2 hksa hkfn (by simp)
  refine zldcw (pc := 0) (n := 36500) hx hb hown hG wk_X8_384 dX8_digestWork_0 ?_
  refine lv_istore_n (pc := 3) (lv' := [(3, .int (iI 36500)), (0, .ref x), (1, .long (lJ v))]) hx hb dX8_digestWork_3 rfl hl (by decide) rfl (fun ls hl => ?_)
  refine zldcw (pc := 4) (n := 52560000) hx hb hown hG wk_X8_385 dX8_digestWork_4 ?_
  refine lv_istore (pc := 7) (lv' := [(4, .int (iI 52560000)), (3, .int (iI 36500)), (0, .ref x), (1, .long (lJ v))]) hx hb dX8_digestWork_7 hl (by decide) rfl (fun ls hl => ?_)
  refine lv_lload_n (pc := 9) hx hb dX8_digestWork_9 rfl (lv_at hl 3 rfl) ?_
  refine lv_lstore (pc := 10) (lv' := [(5, .long (lJ v)), (4, .int (iI 52560000)), (3, .int (iI 36500)), (0, .ref x), (1, .long (lJ v))]) hx hb dX8_digestWork_10 hl (by decide) rfl (fun ls hl => ?_)
  refine lv_aload_n (pc := 12) hx hb dX8_digestWork_12 rfl (lv_at hl 3 rfl) ?_
  refine zgetR (pc := 13) hx hb hG hown hw hk (T := TX8) rfl 7 (by decide) rfl wf_X8_49 rfl hr7 dX8_digestWork_13 ?_
  refine lv_iload_n (pc := 16) hx hb dX8_digestWork_16 rfl (lv_at hl 2 rfl) ?_
  refine lv_iload_n (pc := 17) hx hb dX8_digestWork_17 rfl (lv_at hl 2 rfl) ?_
  refine zbipush (pc := 18) (n := 19) hx hb dX8_digestWork_18 rfl ?_
  refine zadd (pc := 20) hx hb dX8_digestWork_20 ?_
  refine zkVx (pc := 21) (zrV (As := [.int (iI 36500), .int (iI (36500 + 19))]) hx hb hml hown hG hw (c_X7_findFeasts l Γ K X Rf wo 36500 (36500 + 19) fa fn fe (feaM M) (fepM M) ((M 40 29).toNat) (by (first | assumption | omega)) (by (first | assumption | omega)) (by (first | assumption | omega)) (by (first | assumption | omega)) (by (first | assumption | omega)) (by (first | assumption | omega)) (by (first | assumption | omega)) (by (first | assumption | omega)) (by (first | assumption | omega)) (by (first | assumption | omega)) (by (first | assumption | omega)) (by (first | assumption | omega))) (T := TX7) hkw rfl cb_X7_findFeasts wl_X8_316 rfl ⟨Nat.le_of_ble_eq_true rfl, Nat.le_of_ble_eq_true rfl⟩ hl.1 rfl (Nat.le_of_ble_eq_true rfl) dX8_digestWork_21 ⟨Nat.zero_le _, Nat.zero_le _⟩) hw (fun X21 H locs hp21 hw => ?_)
  obtain ⟨hfz21, ⟨hvz21, hbz21⟩, hoz21⟩ := hp21
  have hOz21 : ∀ a, a ≠ fa → a ≠ fn → X21 a = X a := fun a g1 g2 => hoz21 a g1 g2
  have hwz21 : X21 wo = X wo := hOz21 wo hnw2 hnw1
  have hw2z21 : X21 wo 2 = M 40 26 := by rw [hwz21]; exact hwk2
  have hw3z21 : X21 wo 3 = M 40 27 := by rw [hwz21]; exact hwk3
  have hw4z21 : X21 wo 4 = M 40 28 := by rw [hwz21]; exact hwk4
  have hw6z21 : X21 wo 6 = ((M 40 29).toNat : Int) ∧ (M 40 29).toNat ≤ 20 := by rw [hwz21]; exact hnn
  have hfsz21 : fstOK K X21 Rf fe (M 40 29).toNat (feaM M) (fepM M) := hfs.mono (fun a g => hOz21 a (by rintro rfl; rw [hkfa] at g; rcases g with g | g <;> exact absurd g (by decide)) (by rintro rfl; rw [hkfn] at g; rcases g with g | g <;> exact absurd g (by decide)))
  have hpz21 : X21 p0 = X p0 := hOz21 p0 hpn1 hpn2
  have hpqz21 : prep (X21 be) (X21 sa) (X21 p0 6) (csvM M) := by rw [hpz21, hOz21 be hpn3 hpn4, hOz21 sa hpn5 hpn6]; exact hpq
  have hbqz21 : X21 p0 0 = cbsM M := by rw [hpz21]; exact hbq
  have hbzz21 : -840 ≤ X21 p0 0 ∧ X21 p0 0 ≤ 840 := by rw [hpz21]; exact hbz
  rw [hwk2] at hfz21
  refine lv_iload_n (pc := 24) hx hb dX8_digestWork_24 rfl (lv_at hl 2 rfl) ?_
  refine lv_istore (pc := 25) (lv' := [(7, .int (iI 36500)), (5, .long (lJ v)), (4, .int (iI 52560000)), (3, .int (iI 36500)), (0, .ref x), (1, .long (lJ v))]) hx hb dX8_digestWork_25 hl (by decide) rfl (fun ls hl => ?_)
  have lp27 : ∀ (n27 : Nat) (dd : Int) (vv : Int) (H : Heap) (locs : List Loc), (hi : 36500 ≤ dd ∧ dd ≤ 36520) → (hv : vv = dgL (dgDy M) v (dd - 36500).toNat) → ((36520 - dd).toNat < n27) → Wd Γ (zA K s.heap.size) K X21 Rf s H locs → ∀ ls : Array Slot, lv_has ls 8 [(7, .int (iI dd)), (5, .long (lJ vv)), (4, .int (iI 52560000)), (3, .int (iI 36500)), (0, .ref x), (1, .long (lJ v))] → W p l e (rmL 6 0 0) s m ([.ref x, .long (lJ v)] : List Value).toArray below meth c H locs 0 0 (MQ below (zQ Γ K s.heap.size (pL (fun (r : Int) (K' : zK) (X' : zX) (R' : zR) => r = dgWo M v ∧ ∃ ρ', repC ρ' K' X' R' x M ∧ frC ρ K X Rf ρ' K' X' R'))) ([.ref x, .long (lJ v)] : List Value).toArray s 0 0 (zA K s.heap.size)) (F0 m 27 ls []) := by
    intro n27
    induction n27 with
    | zero => intro dd vv H locs hi hv hm27; exact absurd hm27 (Nat.not_lt_zero _)
    | succ n27 ih27 =>
      intro dd vv H locs hi hv hm27 hw ls hl
      refine lv_iload (pc := 27) hx hb dX8_digestWork_27 (lv_at hl 0 rfl) ?_
      refine lv_iload_n (pc := 29) hx hb dX8_digestWork_29 rfl (lv_at hl 3 rfl) ?_
      refine zbipush (pc := 30) (n := 20) hx hb dX8_digestWork_30 rfl ?_
      refine zadd (pc := 32) hx hb dX8_digestWork_32 ?_
      refine zicmp_ge (pc := 33) hx hb 83 (by omega) (by omega) dX8_digestWork_33 (by decide) (fun c33 => ?_) (fun c33 => ?_)
      · skip
        refine lv_lload (pc := 83) hx hb dX8_digestWork_83 (lv_at hl 1 rfl) ?_
        refine lv_aload_n (pc := 85) hx hb dX8_digestWork_85 rfl (lv_at hl 4 rfl) ?_
        refine zgetR (pc := 86) hx hb hG hown hw hk (T := TX8) rfl 7 (by decide) rfl wf_X8_49 rfl hr7 dX8_digestWork_86 ?_
        refine lv_iload_n (pc := 89) hx hb dX8_digestWork_89 rfl (lv_at hl 3 rfl) ?_
        refine zsipush (pc := 90) (n := 400) hx hb dX8_digestWork_90 rfl ?_
        refine zkIx (pc := 93) (zrV (As := [.int (iI 36500), .int (iI 400)]) hx hb hml hown hG hw (c_X7_countDays l Γ K X21 Rf wo 36500 400 fa fn fe (feaM M) (fepM M) ((M 40 29).toNat) (by (first | assumption | omega)) (by omega) (by (first | assumption | omega)) (by (first | assumption | omega)) (by (first | assumption | omega)) (by (first | assumption | omega)) (by (first | assumption | omega)) (by (first | assumption | omega)) (by (first | assumption | omega)) (by (first | assumption | omega)) (by (first | assumption | omega)) (by (first | assumption | omega))) (T := TX7) hkw rfl cb_X7_countDays wl_X8_328 rfl ⟨Nat.le_of_ble_eq_true rfl, Nat.le_of_ble_eq_true rfl⟩ hl.1 rfl (Nat.le_of_ble_eq_true rfl) dX8_digestWork_93 ⟨Nat.zero_le _, Nat.zero_le _⟩) hw (fun r93 X93 H locs hp93 hw => ?_)
        obtain ⟨hrz93, ⟨hvz93, hbz93⟩, hoz93⟩ := hp93
        have hOz93 : ∀ a, a ≠ fa → a ≠ fn → X93 a = X a := fun a g1 g2 => (hoz93 a g1 g2).trans (hOz21 a g1 g2)
        have hwz93 : X93 wo = X wo := hOz93 wo hnw2 hnw1
        have hw2z93 : X93 wo 2 = M 40 26 := by rw [hwz93]; exact hwk2
        have hw3z93 : X93 wo 3 = M 40 27 := by rw [hwz93]; exact hwk3
        have hw4z93 : X93 wo 4 = M 40 28 := by rw [hwz93]; exact hwk4
        have hw6z93 : X93 wo 6 = ((M 40 29).toNat : Int) ∧ (M 40 29).toNat ≤ 20 := by rw [hwz93]; exact hnn
        have hfsz93 : fstOK K X93 Rf fe (M 40 29).toNat (feaM M) (fepM M) := hfs.mono (fun a g => hOz93 a (by rintro rfl; rw [hkfa] at g; rcases g with g | g <;> exact absurd g (by decide)) (by rintro rfl; rw [hkfn] at g; rcases g with g | g <;> exact absurd g (by decide)))
        have hpz93 : X93 p0 = X p0 := hOz93 p0 hpn1 hpn2
        have hpqz93 : prep (X93 be) (X93 sa) (X93 p0 6) (csvM M) := by rw [hpz93, hOz93 be hpn3 hpn4, hOz93 sa hpn5 hpn6]; exact hpq
        have hbqz93 : X93 p0 0 = cbsM M := by rw [hpz93]; exact hbq
        have hbzz93 : -840 ≤ X93 p0 0 ∧ X93 p0 0 ≤ 840 := by rw [hpz93]; exact hbz
        rw [hw2z21] at hrz93
        replace hrz93 := Hid.mk hrz93
        refine zi2lw (pc := 96) hx hb dX8_digestWork_96 ?_
        refine zkLp (pc := 97) (zrS (As := [.long (lJ vv), .long (lJ (wI r93))]) hx hb hml hown hG hw (c_X8_mix l Γ K X93 Rf vv (wI r93)  ) cb_X8_mix wl_X8_373 rfl ⟨Nat.le_of_ble_eq_true rfl, Nat.le_of_ble_eq_true rfl⟩ hl.1 rfl (Nat.le_of_ble_eq_true rfl) dX8_digestWork_97 ⟨Nat.zero_le _, Nat.zero_le _⟩) hw (fun r97 H locs hp97 hw => ?_)
        subst hp97
        refine ztopL (fun x100 ex100 => ?_)
        refine lv_lstore (pc := 100) (lv' := [(5, .long (lJ x100)), (7, .int (iI dd)), (4, .int (iI 52560000)), (3, .int (iI 36500)), (0, .ref x), (1, .long (lJ v))]) hx hb dX8_digestWork_100 hl (by decide) rfl (fun ls hl => ?_)
        refine lv_lload (pc := 102) hx hb dX8_digestWork_102 (lv_at hl 0 rfl) ?_
        refine lv_aload_n (pc := 104) hx hb dX8_digestWork_104 rfl (lv_at hl 4 rfl) ?_
        refine zgetR (pc := 105) hx hb hG hown hw hk (T := TX8) rfl 7 (by decide) rfl wf_X8_49 rfl hr7 dX8_digestWork_105 ?_
        refine lv_iload_n (pc := 108) hx hb dX8_digestWork_108 rfl (lv_at hl 3 rfl) ?_
        refine zbipush (pc := 109) (n := 20) hx hb dX8_digestWork_109 rfl ?_
        refine zkIx (pc := 111) (zrV (As := [.int (iI 36500), .int (iI 20)]) hx hb hml hown hG hw (c_X7_dayBehind l Γ K X93 Rf wo 36500 20 fa fn fe (feaM M) (fepM M) ((M 40 29).toNat) (by (first | assumption | omega)) (by omega) (by (first | assumption | omega)) (by (first | assumption | omega)) (by (first | assumption | omega)) (by (first | assumption | omega)) (by (first | assumption | omega)) (by (first | assumption | omega)) (by (first | assumption | omega)) (by (first | assumption | omega)) (by (first | assumption | omega)) (by (first | assumption | omega)) (by (first | assumption | omega))) (T := TX7) hkw rfl cb_X7_dayBehind wl_X8_333 rfl ⟨Nat.le_of_ble_eq_true rfl, Nat.le_of_ble_eq_true rfl⟩ hl.1 rfl (Nat.le_of_ble_eq_true rfl) dX8_digestWork_111 ⟨Nat.zero_le _, Nat.zero_le _⟩) hw (fun r111 X111 H locs hp111 hw => ?_)
        obtain ⟨hrz111, ⟨hvz111, hbz111⟩, hoz111⟩ := hp111
        have hOz111 : ∀ a, a ≠ fa → a ≠ fn → X111 a = X a := fun a g1 g2 => (hoz111 a g1 g2).trans (hOz93 a g1 g2)
        have hwz111 : X111 wo = X wo := hOz111 wo hnw2 hnw1
        have hw2z111 : X111 wo 2 = M 40 26 := by rw [hwz111]; exact hwk2
        have hw3z111 : X111 wo 3 = M 40 27 := by rw [hwz111]; exact hwk3
        have hw4z111 : X111 wo 4 = M 40 28 := by rw [hwz111]; exact hwk4
        have hw6z111 : X111 wo 6 = ((M 40 29).toNat : Int) ∧ (M 40 29).toNat ≤ 20 := by rw [hwz111]; exact hnn
        have hfsz111 : fstOK K X111 Rf fe (M 40 29).toNat (feaM M) (fepM M) := hfs.mono (fun a g => hOz111 a (by rintro rfl; rw [hkfa] at g; rcases g with g | g <;> exact absurd g (by decide)) (by rintro rfl; rw [hkfn] at g; rcases g with g | g <;> exact absurd g (by decide)))
        have hpz111 : X111 p0 = X p0 := hOz111 p0 hpn1 hpn2
        have hpqz111 : prep (X111 be) (X111 sa) (X111 p0 6) (csvM M) := by rw [hpz111, hOz111 be hpn3 hpn4, hOz111 sa hpn5 hpn6]; exact hpq
        have hbqz111 : X111 p0 0 = cbsM M := by rw [hpz111]; exact hbq
        have hbzz111 : -840 ≤ X111 p0 0 ∧ X111 p0 0 ≤ 840 := by rw [hpz111]; exact hbz
        rw [hw2z93] at hrz111
        replace hrz111 := Hid.mk hrz111
        refine zi2lw (pc := 114) hx hb dX8_digestWork_114 ?_
        refine zkLp (pc := 115) (zrS (As := [.long (lJ x100), .long (lJ (wI r111))]) hx hb hml hown hG hw (c_X8_mix l Γ K X111 Rf x100 (wI r111)  ) cb_X8_mix wl_X8_373 rfl ⟨Nat.le_of_ble_eq_true rfl, Nat.le_of_ble_eq_true rfl⟩ hl.1 rfl (Nat.le_of_ble_eq_true rfl) dX8_digestWork_115 ⟨Nat.zero_le _, Nat.zero_le _⟩) hw (fun r115 H locs hp115 hw => ?_)
        subst hp115
        refine ztopL (fun x118 ex118 => ?_)
        refine lv_lstore (pc := 118) (lv' := [(5, .long (lJ x118)), (7, .int (iI dd)), (4, .int (iI 52560000)), (3, .int (iI 36500)), (0, .ref x), (1, .long (lJ v))]) hx hb dX8_digestWork_118 hl (by decide) rfl (fun ls hl => ?_)
        refine lv_aload_n (pc := 120) hx hb dX8_digestWork_120 rfl (lv_at hl 4 rfl) ?_
        refine zgetR (pc := 121) hx hb hG hown hw hk (T := TX8) rfl 7 (by decide) rfl wf_X8_49 rfl hr7 dX8_digestWork_121 ?_
        refine lv_iload (pc := 124) hx hb dX8_digestWork_124 (lv_at hl 2 rfl) ?_
        refine lv_iload (pc := 126) hx hb dX8_digestWork_126 (lv_at hl 2 rfl) ?_
        refine zldcw (pc := 128) (n := 50000) hx hb hown hG wk_X8_342 dX8_digestWork_128 ?_
        refine zadd (pc := 131) hx hb dX8_digestWork_131 ?_
        refine zkVx (pc := 132) (zrV (As := [.int (iI 52560000), .int (iI (52560000 + 50000))]) hx hb hml hown hG hw (c_X7_findFeastsWithin l Γ K X111 Rf wo 52560000 (52560000 + 50000) fa fn fe (feaM M) (fepM M) ((M 40 29).toNat) p0 (by (first | assumption | omega)) (by omega) (by (first | assumption | omega)) (by (first | assumption | omega)) (by (first | assumption | omega)) (by (first | assumption | omega)) (by (first | assumption | omega)) (by (first | assumption | omega)) (by (first | assumption | omega)) (by (first | assumption | omega)) (by (first | assumption | omega)) (by (first | assumption | omega)) (by (first | assumption | omega)) (by (first | assumption | omega)) (by (first | assumption | omega))) (T := TX7) hkw rfl cb_X7_findFeastsWithin wl_X8_336 rfl ⟨Nat.le_of_ble_eq_true rfl, Nat.le_of_ble_eq_true rfl⟩ hl.1 rfl (Nat.le_of_ble_eq_true rfl) dX8_digestWork_132 ⟨Nat.zero_le _, Nat.zero_le _⟩) hw (fun X132 H locs hp132 hw => ?_)
        obtain ⟨hfz132, ⟨hvz132, hbz132⟩, hoz132⟩ := hp132
        have hOz132 : ∀ a, a ≠ fa → a ≠ fn → X132 a = X a := fun a g1 g2 => (hoz132 a g1 g2).trans (hOz111 a g1 g2)
        have hwz132 : X132 wo = X wo := hOz132 wo hnw2 hnw1
        have hw2z132 : X132 wo 2 = M 40 26 := by rw [hwz132]; exact hwk2
        have hw3z132 : X132 wo 3 = M 40 27 := by rw [hwz132]; exact hwk3
        have hw4z132 : X132 wo 4 = M 40 28 := by rw [hwz132]; exact hwk4
        have hw6z132 : X132 wo 6 = ((M 40 29).toNat : Int) ∧ (M 40 29).toNat ≤ 20 := by rw [hwz132]; exact hnn
        have hfsz132 : fstOK K X132 Rf fe (M 40 29).toNat (feaM M) (fepM M) := hfs.mono (fun a g => hOz132 a (by rintro rfl; rw [hkfa] at g; rcases g with g | g <;> exact absurd g (by decide)) (by rintro rfl; rw [hkfn] at g; rcases g with g | g <;> exact absurd g (by decide)))
        have hpz132 : X132 p0 = X p0 := hOz132 p0 hpn1 hpn2
        have hpqz132 : prep (X132 be) (X132 sa) (X132 p0 6) (csvM M) := by rw [hpz132, hOz132 be hpn3 hpn4, hOz132 sa hpn5 hpn6]; exact hpq
        have hbqz132 : X132 p0 0 = cbsM M := by rw [hpz132]; exact hbq
        have hbzz132 : -840 ≤ X132 p0 0 ∧ X132 p0 0 ≤ 840 := by rw [hpz132]; exact hbz
        rw [hw2z111] at hfz132
        refine lv_lload (pc := 135) hx hb dX8_digestWork_135 (lv_at hl 0 rfl) ?_
        refine lv_aload_n (pc := 137) hx hb dX8_digestWork_137 rfl (lv_at hl 4 rfl) ?_
        refine zgetR (pc := 138) hx hb hG hown hw hk (T := TX8) rfl 7 (by decide) rfl wf_X8_49 rfl hr7 dX8_digestWork_138 ?_
        refine lv_iload (pc := 141) hx hb dX8_digestWork_141 (lv_at hl 2 rfl) ?_
        refine lv_iload (pc := 143) hx hb dX8_digestWork_143 (lv_at hl 2 rfl) ?_
        refine zsipush (pc := 145) (n := 20000) hx hb dX8_digestWork_145 rfl ?_
        refine zadd (pc := 148) hx hb dX8_digestWork_148 ?_
        refine zkIp (pc := 149) (zrV (As := [.int (iI 52560000), .int (iI (52560000 + 20000))]) hx hb hml hown hG hw (c_X7_minutesWithin l Γ K X132 Rf wo 52560000 (52560000 + 20000) fa fn p0 be sa (csvM M) (falM M) (by (first | assumption | omega)) (by omega) (by (first | assumption | omega)) (by (first | assumption | omega)) (by (first | assumption | omega)) (by (first | assumption | omega)) (by (first | assumption | omega)) (by (first | assumption | omega)) (by (first | assumption | omega)) (by (first | assumption | omega)) (by (first | assumption | omega)) (by (first | assumption | omega)) (by (first | assumption | omega)) (by (first | assumption | omega)) (by (first | assumption | omega)) (by (first | assumption | omega)) (by omega) (by (first | assumption | omega)) (by intro d g1 g2 g3 g4; rw [hpz132] at g3 g4; exact hfz132 d g1 g2 (by rw [hpz111]; omega) (by rw [hpz111]; omega))) (T := TX7) hkw rfl cb_X7_minutesWithin wl_X8_339 rfl ⟨Nat.le_of_ble_eq_true rfl, Nat.le_of_ble_eq_true rfl⟩ hl.1 rfl (Nat.le_of_ble_eq_true rfl) dX8_digestWork_149 ⟨Nat.zero_le _, Nat.zero_le _⟩) hw (fun r149 H locs hp149 hw => ?_)
        have hp149f0 := cP_rng (p := wkM (csvM M) (X132 p0 0) (X132 wo 3) (X132 wo 4) (wkF (X132 wo 2) (falM M))) (b := (52560000 + 20000)) 52560000
        replace hp149 := Hid.mk hp149
        refine zi2lw (pc := 152) hx hb dX8_digestWork_152 ?_
        refine zkLp (pc := 153) (zrS (As := [.long (lJ x118), .long (lJ (wI r149))]) hx hb hml hown hG hw (c_X8_mix l Γ K X132 Rf x118 (wI r149)  ) cb_X8_mix wl_X8_373 rfl ⟨Nat.le_of_ble_eq_true rfl, Nat.le_of_ble_eq_true rfl⟩ hl.1 rfl (Nat.le_of_ble_eq_true rfl) dX8_digestWork_153 ⟨Nat.zero_le _, Nat.zero_le _⟩) hw (fun r153 H locs hp153 hw => ?_)
        subst hp153
        refine ztopL (fun x156 ex156 => ?_)
        refine lv_lstore (pc := 156) (lv' := [(5, .long (lJ x156)), (7, .int (iI dd)), (4, .int (iI 52560000)), (3, .int (iI 36500)), (0, .ref x), (1, .long (lJ v))]) hx hb dX8_digestWork_156 hl (by decide) rfl (fun ls hl => ?_)
        refine lv_lload (pc := 158) hx hb dX8_digestWork_158 (lv_at hl 0 rfl) ?_
        refine lv_aload_n (pc := 160) hx hb dX8_digestWork_160 rfl (lv_at hl 4 rfl) ?_
        refine zgetR (pc := 161) hx hb hG hown hw hk (T := TX8) rfl 7 (by decide) rfl wf_X8_49 rfl hr7 dX8_digestWork_161 ?_
        refine lv_iload (pc := 164) hx hb dX8_digestWork_164 (lv_at hl 2 rfl) ?_
        refine zsipush (pc := 166) (n := 3000) hx hb dX8_digestWork_166 rfl ?_
        refine lv_iload (pc := 169) hx hb dX8_digestWork_169 (lv_at hl 2 rfl) ?_
        refine zldcw (pc := 171) (n := 50000) hx hb hown hG wk_X8_342 dX8_digestWork_171 ?_
        refine zadd (pc := 174) hx hb dX8_digestWork_174 ?_
        refine zkIp (pc := 175) (zrV (As := [.int (iI 52560000), .int (iI 3000), .int (iI (52560000 + 50000))]) hx hb hml hown hG hw (c_X7_finish l Γ K X132 Rf wo 52560000 3000 (52560000 + 50000) fa fn p0 be sa (csvM M) (falM M) (by (first | assumption | omega)) (by omega) (by (first | assumption | omega)) (by (first | assumption | omega)) (by (first | assumption | omega)) (by (first | assumption | omega)) (by (first | assumption | omega)) (by (first | assumption | omega)) (by (first | assumption | omega)) (by (first | assumption | omega)) (by (first | assumption | omega)) (by (first | assumption | omega)) (by (first | assumption | omega)) (by (first | assumption | omega)) (by (first | assumption | omega)) (by (first | assumption | omega)) (by omega) (by (first | assumption | omega)) (by (first | assumption | omega)) (by intro d g1 g2 g3 g4; rw [hpz132] at g3 g4; exact hfz132 d g1 g2 (by rw [hpz111]; omega) (by rw [hpz111]; omega))) (T := TX7) hkw rfl cb_X7_finish wl_X8_348 rfl ⟨Nat.le_of_ble_eq_true rfl, Nat.le_of_ble_eq_true rfl⟩ hl.1 rfl (Nat.le_of_ble_eq_true rfl) dX8_digestWork_175 ⟨Nat.zero_le _, Nat.zero_le _⟩) hw (fun r175 H locs hp175 hw => ?_)
        replace hp175 := Hid.mk hp175
        refine zi2lw (pc := 178) hx hb dX8_digestWork_178 ?_
        refine zkLp (pc := 179) (zrS (As := [.long (lJ x156), .long (lJ (wI r175))]) hx hb hml hown hG hw (c_X8_mix l Γ K X132 Rf x156 (wI r175)  ) cb_X8_mix wl_X8_373 rfl ⟨Nat.le_of_ble_eq_true rfl, Nat.le_of_ble_eq_true rfl⟩ hl.1 rfl (Nat.le_of_ble_eq_true rfl) dX8_digestWork_179 ⟨Nat.zero_le _, Nat.zero_le _⟩) hw (fun r179 H locs hp179 hw => ?_)
        subst hp179
        exact zretL (pc := 182) hx hb hlocks hr hw (Nat.zero_le _) (Nat.zero_le _) dX8_digestWork_182 (by 
                                        refine ⟨?_, hC.work hr7 hw7 hrf hOz132 hvz132 hbz132⟩
                                        rw [ex156, ex118, ex100, Hid.out hp149, Hid.out hp175, Hid.out hrz93, Hid.out hrz111, hv, hbqz132, hw3z132, hw4z132, hw2z132, show dd = 36520 by omega, show (36520 - 36500 : Int).toNat = 20 from rfl]
                                        unfold dgWo wkmM wkdM
                                        rfl)
      · skip
        have hfq : rdv X21 fa fn 1701 dd = falM M dd := hfz21 dd (by omega) (by omega) (by omega)
        refine lv_lload (pc := 36) hx hb dX8_digestWork_36 (lv_at hl 1 rfl) ?_
        refine lv_aload_n (pc := 38) hx hb dX8_digestWork_38 rfl (lv_at hl 4 rfl) ?_
        refine zgetR (pc := 39) hx hb hG hown hw hk (T := TX8) rfl 7 (by decide) rfl wf_X8_49 rfl hr7 dX8_digestWork_39 ?_
        refine lv_iload (pc := 42) hx hb dX8_digestWork_42 (lv_at hl 0 rfl) ?_
        refine zkIp (pc := 44) (zrV (As := [.int (iI dd)]) hx hb hml hown hG hw (c_X7_feastFound l Γ K X21 Rf wo dd fa fn (by (first | assumption | omega)) (by (first | assumption | omega)) (by (first | assumption | omega)) (by (first | assumption | omega)) (by (first | assumption | omega)) (by (first | assumption | omega)) (by (first | assumption | omega))) (T := TX7) hkw rfl cb_X7_feastFound wl_X8_319 rfl ⟨Nat.le_of_ble_eq_true rfl, Nat.le_of_ble_eq_true rfl⟩ hl.1 rfl (Nat.le_of_ble_eq_true rfl) dX8_digestWork_44 ⟨Nat.zero_le _, Nat.zero_le _⟩) hw (fun r44 H locs hp44 hw => ?_)
        subst hp44
        refine zi2lw (pc := 47) hx hb dX8_digestWork_47 ?_
        refine zkLp (pc := 48) (zrS (As := [.long (lJ vv), .long (lJ (wI (rdv X21 fa fn 1701 dd)))]) hx hb hml hown hG hw (c_X8_mix l Γ K X21 Rf vv (wI (rdv X21 fa fn 1701 dd))  ) cb_X8_mix wl_X8_373 rfl ⟨Nat.le_of_ble_eq_true rfl, Nat.le_of_ble_eq_true rfl⟩ hl.1 rfl (Nat.le_of_ble_eq_true rfl) dX8_digestWork_48 ⟨Nat.zero_le _, Nat.zero_le _⟩) hw (fun r48 H locs hp48 hw => ?_)
        subst hp48
        refine ztopL (fun x51 ex51 => ?_)
        refine lv_lstore (pc := 51) (lv' := [(5, .long (lJ x51)), (7, .int (iI dd)), (4, .int (iI 52560000)), (3, .int (iI 36500)), (0, .ref x), (1, .long (lJ v))]) hx hb dX8_digestWork_51 hl (by decide) rfl (fun ls hl => ?_)
        refine lv_lload (pc := 53) hx hb dX8_digestWork_53 (lv_at hl 0 rfl) ?_
        refine lv_aload_n (pc := 55) hx hb dX8_digestWork_55 rfl (lv_at hl 4 rfl) ?_
        refine zgetR (pc := 56) hx hb hG hown hw hk (T := TX8) rfl 7 (by decide) rfl wf_X8_49 rfl hr7 dX8_digestWork_56 ?_
        refine lv_iload (pc := 59) hx hb dX8_digestWork_59 (lv_at hl 1 rfl) ?_
        refine zkIp (pc := 61) (zrV (As := [.int (iI dd)]) hx hb hml hown hG hw (c_X7_worksOn l Γ K X21 Rf wo dd fa fn (by (first | assumption | omega)) (by omega) (by (first | assumption | omega)) (by (first | assumption | omega)) (by (first | assumption | omega)) (by (first | assumption | omega)) (by (first | assumption | omega)) (by (first | assumption | omega)) (by (first | assumption | omega))) (T := TX7) hkw rfl cb_X7_worksOn wl_X8_322 rfl ⟨Nat.le_of_ble_eq_true rfl, Nat.le_of_ble_eq_true rfl⟩ hl.1 rfl (Nat.le_of_ble_eq_true rfl) dX8_digestWork_61 ⟨Nat.zero_le _, Nat.zero_le _⟩) hw (fun r61 H locs hp61 hw => ?_)
        subst hp61
        have hp61f0 := bI_rng (wkF (X21 wo 2) (rdv X21 fa fn 1701) dd)
        have hwq : wkF (X21 wo 2) (rdv X21 fa fn 1701) dd = wkdM M dd := by rw [hw2z21]; unfold wkdM; exact wkF_congr hfq
        refine zif_eq (pc := 64) hx hb 71 (by omega) dX8_digestWork_64 (by decide) (fun c64 => ?_) (fun c64 => ?_)
        · skip
          have q64 := bI_0 c64
          rw [hwq] at q64
          refine zlconst (pc := 71) (z := 0) hx hb rfl dX8_digestWork_71 ?_
          refine zkLp (pc := 72) (zrS (As := [.long (lJ x51), .long (lJ 0)]) hx hb hml hown hG hw (c_X8_mix l Γ K X21 Rf x51 0  ) cb_X8_mix wl_X8_373 rfl ⟨Nat.le_of_ble_eq_true rfl, Nat.le_of_ble_eq_true rfl⟩ hl.1 rfl (Nat.le_of_ble_eq_true rfl) dX8_digestWork_72 ⟨Nat.zero_le _, Nat.zero_le _⟩) hw (fun r72 H locs hp72 hw => ?_)
          subst hp72
          refine ztopL (fun x75 ex75 => ?_)
          refine lv_lstore (pc := 75) (lv' := [(5, .long (lJ x75)), (7, .int (iI dd)), (4, .int (iI 52560000)), (3, .int (iI 36500)), (0, .ref x), (1, .long (lJ v))]) hx hb dX8_digestWork_75 hl (by decide) rfl (fun ls hl => ?_)
          refine ziinc (pc := 77) (lv' := [(7, .int (iI (dd + 1))), (5, .long (lJ x75)), (4, .int (iI 52560000)), (3, .int (iI 36500)), (0, .ref x), (1, .long (lJ v))]) hx hb 1 dX8_digestWork_77 hl rfl (by decide) rfl (fun ls hl => ?_)
          obtain ⟨x77, ex77⟩ : ∃ zz : Int, zz = (dd + 1) := ⟨_, rfl⟩
          rw [← ex77] at hl
          refine lv_goto (pc := 80) (tgt := 27) hx hb dX8_digestWork_80 (by decide) ?_
          exact ih27 x77 x75 _ _ (by (first | assumption | omega)) (by rw [ex77, show (dd + 1 - 36500) = (dd - 36500) + 1 by omega, dgL_s (by omega), ← hv]; unfold dgDy; rw [show (36500 + (((dd - 36500).toNat : Nat) : Int)) = dd by omega, ex75, ex51, hfq]; first | (rw [q64, if_pos rfl]) | (rw [q64, if_neg (by simp)])) (by omega) hw _ (lv_sub hl [0, 1, 2, 3, 4, 5] rfl)
        · skip
          have q64 := bI_1 c64
          rw [hwq] at q64
          refine zlconst (pc := 67) (z := 1) hx hb rfl dX8_digestWork_67 ?_
          refine lv_goto (pc := 68) (tgt := 72) hx hb dX8_digestWork_68 (by decide) ?_
          refine zkLp (pc := 72) (zrS (As := [.long (lJ x51), .long (lJ 1)]) hx hb hml hown hG hw (c_X8_mix l Γ K X21 Rf x51 1  ) cb_X8_mix wl_X8_373 rfl ⟨Nat.le_of_ble_eq_true rfl, Nat.le_of_ble_eq_true rfl⟩ hl.1 rfl (Nat.le_of_ble_eq_true rfl) dX8_digestWork_72 ⟨Nat.zero_le _, Nat.zero_le _⟩) hw (fun r72 H locs hp72 hw => ?_)
          subst hp72
          refine ztopL (fun x75 ex75 => ?_)
          refine lv_lstore (pc := 75) (lv' := [(5, .long (lJ x75)), (7, .int (iI dd)), (4, .int (iI 52560000)), (3, .int (iI 36500)), (0, .ref x), (1, .long (lJ v))]) hx hb dX8_digestWork_75 hl (by decide) rfl (fun ls hl => ?_)
          refine ziinc (pc := 77) (lv' := [(7, .int (iI (dd + 1))), (5, .long (lJ x75)), (4, .int (iI 52560000)), (3, .int (iI 36500)), (0, .ref x), (1, .long (lJ v))]) hx hb 1 dX8_digestWork_77 hl rfl (by decide) rfl (fun ls hl => ?_)
          obtain ⟨x77, ex77⟩ : ∃ zz : Int, zz = (dd + 1) := ⟨_, rfl⟩
          rw [← ex77] at hl
          refine lv_goto (pc := 80) (tgt := 27) hx hb dX8_digestWork_80 (by decide) ?_
          exact ih27 x77 x75 _ _ (by (first | assumption | omega)) (by rw [ex77, show (dd + 1 - 36500) = (dd - 36500) + 1 by omega, dgL_s (by omega), ← hv]; unfold dgDy; rw [show (36500 + (((dd - 36500).toNat : Nat) : Int)) = dd by omega, ex75, ex51, hfq]; first | (rw [q64, if_pos rfl]) | (rw [q64, if_neg (by simp)])) (by omega) hw _ (lv_sub hl [0, 1, 2, 3, 4, 5] rfl)
  exact lp27 _ 36500 v _ _ (by (first | assumption | omega)) (by rfl) (Nat.lt_succ_self _) hw _ (lv_sub hl [0, 1, 2, 3, 4, 5] rfl)
set_option maxHeartbeats 4000000 in
set_option maxRecDepth 100000 in
theorem c_X8_digest (l : Launch) (Γ : zG) (K : zK) (X : zX) (Rf : zR) (x : Nat) (ρ : zL) (M : zM) (hC : repC ρ K X Rf x M) (hM : okM M) : Ct l yX8_digest cX8_digest 3 (some .long) 7 0 0 Γ [.ref x] K X Rf (pL (fun (r : Int) (K' : zK) (X' : zX) (R' : zR) => r = dgM M ∧ ∃ ρ', repC ρ' K' X' R' x M ∧ frC ρ K X Rf ρ' K' X' R')) := by
  refine Ct.of (by decide +kernel) (Nat.le_of_ble_eq_true rfl) ?_
  intro p e s m below meth c ls hx hb hr hml hown hG hlocks hname hw hl
  have hl : lv_has ls 3 [(0, .ref x)] := hl
  obtain ⟨⟨hk, hlx⟩, pr, pl, sr, dr, na, wo, ⟨hr0, hr2, hr4, hr6, hr7, hrd⟩, ⟨hkpr, hkpl, hksr, hkdr, hkna⟩, ⟨hlpr, hlpl, hlsr, hldr, hlna⟩, ⟨hx1, hx3, hx5⟩, hpt, hpl, hse, hwo⟩ := id hC
  obtain ⟨⟨hb1, hb2, hb3, hb4⟩, hokP, hokL, hokS, hokW, hokF⟩ := id hM
  obtain ⟨⟨hkw, hlw⟩, fe, fa, fn, p09, ⟨hw1, hw5, hw7, hrf⟩, ⟨hkfe, hkfa, hkfn⟩, ⟨hlfe, hlfa, hlfn⟩, ⟨hw0, hwk2, hwk3, hwk4, hwk6⟩, hfs, hvr, hfb, hwp⟩ := id hwo
  obtain ⟨hwb1, hwb2, hwb3, hwb4⟩ := hokW
  have hnn : X wo 6 = ((M 40 29).toNat : Int) ∧ (M 40 29).toNat ≤ 20 := by omega
  have hne9 : fa ≠ fn := zkne hkfa hkfn (by simp)
  have hnw1 : wo ≠ fn := zkne hkw hkfn (by simp)
  have hnw2 : wo ≠ fa := zkn2 hkw hkfa (by simp)
  refine lv_aload_n (pc := 0) hx hb dX8_digest_0 rfl (lv_at hl 0 rfl) ?_
  refine zldc2 (pc := 1) (n := 2441) hx hb hown hG wk_X8_356 dX8_digest_1 ?_
  refine zkLp (pc := 4) (zrV (As := [.long (lJ 2441)]) hx hb hml hown hG hw (c_X8_digestPatterns l Γ K X Rf x 2441 (ρ) M (by (first | assumption | omega)) (by (first | assumption | omega))) (T := TX8) hk rfl cb_X8_digestPatterns wl_X8_358 rfl ⟨Nat.le_of_ble_eq_true rfl, Nat.le_of_ble_eq_true rfl⟩ hl.1 rfl (Nat.le_of_ble_eq_true rfl) dX8_digest_4 ⟨Nat.zero_le _, Nat.zero_le _⟩) hw (fun r4 H locs hp4 hw => ?_)
  subst hp4
  refine ztopL (fun x7 ex7 => ?_)
  refine lv_lstore_n (pc := 7) (lv' := [(1, .long (lJ x7)), (0, .ref x)]) hx hb dX8_digest_7 rfl hl (by decide) rfl (fun ls hl => ?_)
  refine lv_aload_n (pc := 8) hx hb dX8_digest_8 rfl (lv_at hl 1 rfl) ?_
  refine lv_lload_n (pc := 9) hx hb dX8_digest_9 rfl (lv_at hl 0 rfl) ?_
  refine zkLp (pc := 10) (zrV (As := [.long (lJ x7)]) hx hb hml hown hG hw (c_X8_digestPlaces l Γ K X Rf x x7 (ρ) M (by (first | assumption | omega)) (by (first | assumption | omega))) (T := TX8) hk rfl cb_X8_digestPlaces wl_X8_362 rfl ⟨Nat.le_of_ble_eq_true rfl, Nat.le_of_ble_eq_true rfl⟩ hl.1 rfl (Nat.le_of_ble_eq_true rfl) dX8_digest_10 ⟨Nat.zero_le _, Nat.zero_le _⟩) hw (fun r10 H locs hp10 hw => ?_)
  subst hp10
  refine ztopL (fun x13 ex13 => ?_)
  refine lv_lstore_n (pc := 13) (lv' := [(1, .long (lJ x13)), (0, .ref x)]) hx hb dX8_digest_13 rfl hl (by decide) rfl (fun ls hl => ?_)
  refine lv_aload_n (pc := 14) hx hb dX8_digest_14 rfl (lv_at hl 1 rfl) ?_
  refine lv_lload_n (pc := 15) hx hb dX8_digest_15 rfl (lv_at hl 0 rfl) ?_
  refine zkLp (pc := 16) (zrV (As := [.long (lJ x13)]) hx hb hml hown hG hw (c_X8_digestSeries l Γ K X Rf x x13 (ρ) M (by (first | assumption | omega)) (by (first | assumption | omega))) (T := TX8) hk rfl cb_X8_digestSeries wl_X8_365 rfl ⟨Nat.le_of_ble_eq_true rfl, Nat.le_of_ble_eq_true rfl⟩ hl.1 rfl (Nat.le_of_ble_eq_true rfl) dX8_digest_16 ⟨Nat.zero_le _, Nat.zero_le _⟩) hw (fun r16 H locs hp16 hw => ?_)
  subst hp16
  refine ztopL (fun x19 ex19 => ?_)
  refine lv_lstore_n (pc := 19) (lv' := [(1, .long (lJ x19)), (0, .ref x)]) hx hb dX8_digest_19 rfl hl (by decide) rfl (fun ls hl => ?_)
  refine lv_aload_n (pc := 20) hx hb dX8_digest_20 rfl (lv_at hl 1 rfl) ?_
  refine lv_lload_n (pc := 21) hx hb dX8_digest_21 rfl (lv_at hl 0 rfl) ?_
  refine zkL (pc := 22) (zrV (As := [.long (lJ x19)]) hx hb hml hown hG hw (c_X8_digestWork l Γ K X Rf x x19 (ρ) M (by (first | assumption | omega)) (by (first | assumption | omega))) (T := TX8) hk rfl cb_X8_digestWork wl_X8_368 rfl ⟨Nat.le_of_ble_eq_true rfl, Nat.le_of_ble_eq_true rfl⟩ hl.1 rfl (Nat.le_of_ble_eq_true rfl) dX8_digest_22 ⟨Nat.zero_le _, Nat.zero_le _⟩) hw (fun r22 K22 X22 R22 H locs hp22 hw => ?_)
  obtain ⟨hrd, hre⟩ := hp22
  exact zretL (pc := 25) hx hb hlocks hr hw (Nat.zero_le _) (Nat.zero_le _) dX8_digest_25 (by exact ⟨by rw [hrd, ex19, ex13, ex7]; rfl, hre⟩)
