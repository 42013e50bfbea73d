set_option maxHeartbeats 4000000 in
set_option maxRecDepth 100000 in
theorem c_X0_firstDay (l : Launch) (Γ : zG) (K : zK) (X : zX) (Rf : zR) (dr : Nat)  (hk : K dr = (1, 0)) : Ct l yX0_firstDay cX0_firstDay 1 (some .int) 0 0 0 Γ [.ref dr] K X Rf (pI (zp0 K X Rf (fun r : Int => r = X dr 1))) := by
  refine Ct.of (by decide +kernel) (Nat.le_of_ble_eq_true rfl) ?_
  intro p e s m below meth c ls hx hb hr hml hown hG hlocks hname hw hl
  have hl : lv_has ls 1 [(0, .ref dr)] := hl
  refine lv_aload_n (pc := 0) hx hb dX0_firstDay_0 rfl (lv_at hl 0 rfl) ?_
  refine zgetI (pc := 1) hx hb hG hown hw hk (T := TX0) rfl 1 (by decide) rfl wf_X0_13 rfl dX0_firstDay_1 ?_
  exact zretI (pc := 4) hx hb hlocks hr hw (Nat.zero_le _) (Nat.zero_le _) dX0_firstDay_4 ⟨by (try dsimp only) <;> ((first | assumption | omega)), rfl, rfl, rfl⟩
set_option maxHeartbeats 4000000 in
set_option maxRecDepth 100000 in
theorem c_X0_lastDay (l : Launch) (Γ : zG) (K : zK) (X : zX) (Rf : zR) (dr : Nat)  (hk : K dr = (1, 0)) : Ct l yX0_lastDay cX0_lastDay 1 (some .int) 0 0 0 Γ [.ref dr] K X Rf (pI (zp0 K X Rf (fun r : Int => r = X dr 2))) := by
  refine Ct.of (by decide +kernel) (Nat.le_of_ble_eq_true rfl) ?_
  intro p e s m below meth c ls hx hb hr hml hown hG hlocks hname hw hl
  have hl : lv_has ls 1 [(0, .ref dr)] := hl
  refine lv_aload_n (pc := 0) hx hb dX0_lastDay_0 rfl (lv_at hl 0 rfl) ?_
  refine zgetI (pc := 1) hx hb hG hown hw hk (T := TX0) rfl 2 (by decide) rfl wf_X0_17 rfl dX0_lastDay_1 ?_
  exact zretI (pc := 4) hx hb hlocks hr hw (Nat.zero_le _) (Nat.zero_le _) dX0_lastDay_4 ⟨by (try dsimp only) <;> ((first | assumption | omega)), rfl, rfl, rfl⟩
set_option maxHeartbeats 4000000 in
set_option maxRecDepth 100000 in
theorem c_X0_read (l : Launch) (Γ : zG) (K : zK) (X : zX) (Rf : zR) (dr : Nat) (day : Int) (na : Nat) (n : Nat) (hk : K dr = (1, 0)) (hr0 : Rf dr 0 = some na) (hkn : K na = (2, n)) (hn : n ≤ 10000) (hb0 : (-100000 ≤ X dr 1 ∧ X dr 1 ≤ 200000) ∧ -100000 ≤ X dr 2 ∧ X dr 2 ≤ 200000) (hd : -100000 ≤ day ∧ day ≤ 200000) : Ct l yX0_read cX0_read 3 (some .int) 0 0 0 Γ [.ref dr, .int (iI day)] K X Rf (pI (zp0 K X Rf (fun r : Int => r = rdv X dr na n day))) := by
  refine Ct.of (by decide +kernel) (Nat.le_of_ble_eq_true rfl) ?_
  intro p e s m below meth c ls hx hb hr hml hown hG hlocks hname hw hl
  have hl : lv_has ls 3 [(0, .ref dr), (1, .int (iI day))] := hl
  refine lv_iload_n (pc := 0) hx hb dX0_read_0 rfl (lv_at hl 1 rfl) ?_
  refine lv_aload_n (pc := 1) hx hb dX0_read_1 rfl (lv_at hl 0 rfl) ?_
  refine zgetI (pc := 2) hx hb hG hown hw hk (T := TX0) rfl 1 (by decide) rfl wf_X0_13 rfl dX0_read_2 ?_
  refine zsub (pc := 5) hx hb dX0_read_5 ?_
  refine ztop (fun x6 ex6 => ?_)
  refine lv_istore_n (pc := 6) (lv' := [(2, .int (iI x6)), (0, .ref dr), (1, .int (iI day))]) hx hb dX0_read_6 rfl hl (by decide) rfl (fun ls hl => ?_)
  refine lv_iload_n (pc := 7) hx hb dX0_read_7 rfl (lv_at hl 2 rfl) ?_
  refine lv_aload_n (pc := 8) hx hb dX0_read_8 rfl (lv_at hl 1 rfl) ?_
  refine zgetI (pc := 9) hx hb hG hown hw hk (T := TX0) rfl 2 (by decide) rfl wf_X0_17 rfl dX0_read_9 ?_
  refine zicmp_gt (pc := 12) hx hb 28 (by omega) (by omega) dX0_read_12 (by decide) (fun c12 => ?_) (fun c12 => ?_)
  · skip
    refine ziconst (pc := 28) (n := (-1)) hx hb dX0_read_28 ?_
    refine lv_goto (pc := 29) (tgt := 38) hx hb dX0_read_29 (by decide) ?_
    exact zretI (pc := 38) hx hb hlocks hr hw (Nat.zero_le _) (Nat.zero_le _) dX0_read_38 ⟨by (try dsimp only) <;> (unfold rdv; first | (rw [if_pos (by omega)]) | (rw [if_neg (by omega), ex6])), rfl, rfl, rfl⟩
  · skip
    refine lv_iload_n (pc := 15) hx hb dX0_read_15 rfl (lv_at hl 0 rfl) ?_
    refine zif_lt (pc := 16) hx hb 28 (by omega) dX0_read_16 (by decide) (fun c16 => ?_) (fun c16 => ?_)
    · skip
      refine ziconst (pc := 28) (n := (-1)) hx hb dX0_read_28 ?_
      refine lv_goto (pc := 29) (tgt := 38) hx hb dX0_read_29 (by decide) ?_
      exact zretI (pc := 38) hx hb hlocks hr hw (Nat.zero_le _) (Nat.zero_le _) dX0_read_38 ⟨by (try dsimp only) <;> (unfold rdv; first | (rw [if_pos (by omega)]) | (rw [if_neg (by omega), ex6])), rfl, rfl, rfl⟩
    · skip
      refine lv_iload_n (pc := 19) hx hb dX0_read_19 rfl (lv_at hl 0 rfl) ?_
      refine lv_aload_n (pc := 20) hx hb dX0_read_20 rfl (lv_at hl 1 rfl) ?_
      refine zgetR (pc := 21) hx hb hG hown hw hk (T := TX0) rfl 0 (by decide) rfl wf_X0_7 rfl hr0 dX0_read_21 ?_
      refine zlen2 (pc := 24) hx hb hw hkn dX0_read_24 ?_
      refine zicmp_lt (pc := 25) hx hb 32 (by omega) (by omega) dX0_read_25 (by decide) (fun c25 => ?_) (fun c25 => ?_)
      · skip
        refine lv_aload_n (pc := 32) hx hb dX0_read_32 rfl (lv_at hl 1 rfl) ?_
        refine zgetR (pc := 33) hx hb hG hown hw hk (T := TX0) rfl 0 (by decide) rfl wf_X0_7 rfl hr0 dX0_read_33 ?_
        refine lv_iload_n (pc := 36) hx hb dX0_read_36 rfl (lv_at hl 0 rfl) ?_
        refine zald (pc := 37) hx hb hw hkn ⟨by omega, by omega⟩ (by omega) dX0_read_37 ?_
        exact zretI (pc := 38) hx hb hlocks hr hw (Nat.zero_le _) (Nat.zero_le _) dX0_read_38 ⟨by (try dsimp only) <;> (unfold rdv; first | (rw [if_pos (by omega)]) | (rw [if_neg (by omega), ex6])), rfl, rfl, rfl⟩
      · skip
        refine ziconst (pc := 28) (n := (-1)) hx hb dX0_read_28 ?_
        refine lv_goto (pc := 29) (tgt := 38) hx hb dX0_read_29 (by decide) ?_
        exact zretI (pc := 38) hx hb hlocks hr hw (Nat.zero_le _) (Nat.zero_le _) dX0_read_38 ⟨by (try dsimp only) <;> (unfold rdv; first | (rw [if_pos (by omega)]) | (rw [if_neg (by omega), ex6])), rfl, rfl, rfl⟩
set_option maxHeartbeats 4000000 in
set_option maxRecDepth 100000 in
theorem c_X0_write (l : Launch) (Γ : zG) (K : zK) (X : zX) (Rf : zR) (dr : Nat) (day : Int) (number : Int) (na : Nat) (n : Nat) (hk : K dr = (1, 0)) (hr0 : Rf dr 0 = some na) (hkn : K na = (2, n)) (hn : n ≤ 10000) (hb0 : (-100000 ≤ X dr 1 ∧ X dr 1 ≤ 200000) ∧ -100000 ≤ X dr 2 ∧ X dr 2 ≤ 200000) (hd : -100000 ≤ day ∧ day ≤ 200000) : Ct l yX0_write cX0_write 4 none 0 0 0 Γ [.ref dr, .int (iI day), .int (iI number)] K X Rf (pV (zpv K Rf (fun X' : zX => X' = wrX X dr na n day number))) := by
  refine Ct.of (by decide +kernel) (Nat.le_of_ble_eq_true rfl) ?_
  intro p e s m below meth c ls hx hb hr hml hown hG hlocks hname hw hl
  have hl : lv_has ls 4 [(0, .ref dr), (1, .int (iI day)), (2, .int (iI number))] := hl
  refine lv_iload_n (pc := 0) hx hb dX0_write_0 rfl (lv_at hl 1 rfl) ?_
  refine lv_aload_n (pc := 1) hx hb dX0_write_1 rfl (lv_at hl 0 rfl) ?_
  refine zgetI (pc := 2) hx hb hG hown hw hk (T := TX0) rfl 1 (by decide) rfl wf_X0_13 rfl dX0_write_2 ?_
  refine zsub (pc := 5) hx hb dX0_write_5 ?_
  refine ztop (fun x6 ex6 => ?_)
  refine lv_istore_n (pc := 6) (lv' := [(3, .int (iI x6)), (0, .ref dr), (1, .int (iI day)), (2, .int (iI number))]) hx hb dX0_write_6 rfl hl (by decide) rfl (fun ls hl => ?_)
  refine lv_iload_n (pc := 7) hx hb dX0_write_7 rfl (lv_at hl 2 rfl) ?_
  refine lv_aload_n (pc := 8) hx hb dX0_write_8 rfl (lv_at hl 1 rfl) ?_
  refine zgetI (pc := 9) hx hb hG hown hw hk (T := TX0) rfl 2 (by decide) rfl wf_X0_17 rfl dX0_write_9 ?_
  refine zicmp_gt (pc := 12) hx hb 35 (by omega) (by omega) dX0_write_12 (by decide) (fun c12 => ?_) (fun c12 => ?_)
  · skip
    exact zretV (pc := 35) hx hb hlocks hr hw (Nat.zero_le _) (Nat.zero_le _) dX0_write_35 ⟨by (try dsimp only) <;> (unfold wrX; first | (rw [if_pos (by omega)]) | (rw [if_neg (by omega), eX34, ex6])), rfl, rfl⟩
  · skip
    refine lv_iload_n (pc := 15) hx hb dX0_write_15 rfl (lv_at hl 0 rfl) ?_
    refine zif_lt (pc := 16) hx hb 35 (by omega) dX0_write_16 (by decide) (fun c16 => ?_) (fun c16 => ?_)
    · skip
      exact zretV (pc := 35) hx hb hlocks hr hw (Nat.zero_le _) (Nat.zero_le _) dX0_write_35 ⟨by (try dsimp only) <;> (unfold wrX; first | (rw [if_pos (by omega)]) | (rw [if_neg (by omega), eX34, ex6])), rfl, rfl⟩
    · skip
      refine lv_iload_n (pc := 19) hx hb dX0_write_19 rfl (lv_at hl 0 rfl) ?_
      refine lv_aload_n (pc := 20) hx hb dX0_write_20 rfl (lv_at hl 1 rfl) ?_
      refine zgetR (pc := 21) hx hb hG hown hw hk (T := TX0) rfl 0 (by decide) rfl wf_X0_7 rfl hr0 dX0_write_21 ?_
      refine zlen2 (pc := 24) hx hb hw hkn dX0_write_24 ?_
      refine zicmp_ge (pc := 25) hx hb 35 (by omega) (by omega) dX0_write_25 (by decide) (fun c25 => ?_) (fun c25 => ?_)
      · skip
        exact zretV (pc := 35) hx hb hlocks hr hw (Nat.zero_le _) (Nat.zero_le _) dX0_write_35 ⟨by (try dsimp only) <;> (unfold wrX; first | (rw [if_pos (by omega)]) | (rw [if_neg (by omega), eX34, ex6])), rfl, rfl⟩
      · skip
        refine lv_aload_n (pc := 28) hx hb dX0_write_28 rfl (lv_at hl 1 rfl) ?_
        refine zgetR (pc := 29) hx hb hG hown hw hk (T := TX0) rfl 0 (by decide) rfl wf_X0_7 rfl hr0 dX0_write_29 ?_
        refine lv_iload_n (pc := 32) hx hb dX0_write_32 rfl (lv_at hl 0 rfl) ?_
        refine lv_iload_n (pc := 33) hx hb dX0_write_33 rfl (lv_at hl 3 rfl) ?_
        refine zast (pc := 34) hx hb hw hkn ⟨by omega, by omega⟩ (by omega) dX0_write_34 (fun H locs hw => ?_)
        obtain ⟨X34, eX34⟩ : ∃ Y : zX, Y = up2 X na x6.toNat number := ⟨_, rfl⟩
        rw [← eX34] at hw
        exact zretV (pc := 35) hx hb hlocks hr hw (Nat.zero_le _) (Nat.zero_le _) dX0_write_35 ⟨by (try dsimp only) <;> (unfold wrX; first | (rw [if_pos (by omega)]) | (rw [if_neg (by omega), eX34, ex6])), rfl, rfl⟩
set_option maxHeartbeats 4000000 in
set_option maxRecDepth 100000 in
theorem c_X0_clear (l : Launch) (Γ : zG) (K : zK) (X : zX) (Rf : zR) (dr : Nat) (firstDay : Int) (lastDay : Int) (na : Nat) (n : Nat) (hk : K dr = (1, 0)) (hr0 : Rf dr 0 = some na) (hkn : K na = (2, n)) (hn : n ≤ 10000) (h1 : 0 ≤ firstDay ∧ firstDay ≤ 100000) (h2 : -100000 ≤ lastDay ∧ lastDay ≤ 200000) : Ct l yX0_clear cX0_clear 4 none 2 0 0 Γ [.ref dr, .int (iI firstDay), .int (iI lastDay)] K X Rf (pV (zpv K Rf (fun X' : zX => X' dr 1 = firstDay ∧ X' dr 2 = min lastDay (firstDay + n - 1) ∧ (∀ j : Nat, (j : Int) < n → (j : Int) ≤ X' dr 2 - X' dr 1 → X' na j = -1) ∧ (∀ a, a ≠ dr → a ≠ na → X' a = X a) ∧ (∀ j : Nat, X' na j = -1 ∨ X' na j = X na j)))) := by
  refine Ct.of (by decide +kernel) (Nat.le_of_ble_eq_true rfl) ?_
  intro p e s m below meth c ls hx hb hr hml hown hG hlocks hname hw hl
  have hl : lv_has ls 4 [(0, .ref dr), (1, .int (iI firstDay)), (2, .int (iI lastDay))] := hl
  have hne : na ≠ dr := zkne hkn hk (by simp)
  refine lv_aload_n (pc := 0) hx hb dX0_clear_0 rfl (lv_at hl 0 rfl) ?_
  refine lv_iload_n (pc := 1) hx hb dX0_clear_1 rfl (lv_at hl 1 rfl) ?_
  refine zputI (pc := 2) hx hb hG hown hw hk (T := TX0) rfl 1 (by decide) rfl wf_X0_13 rfl (by decide +kernel) rfl dX0_clear_2 (fun H locs hw => ?_)
  obtain ⟨X2, eX2⟩ : ∃ Y : zX, Y = up2 X dr 1 firstDay := ⟨_, rfl⟩
  rw [← eX2] at hw
  refine lv_aload_n (pc := 5) hx hb dX0_clear_5 rfl (lv_at hl 0 rfl) ?_
  refine lv_iload_n (pc := 6) hx hb dX0_clear_6 rfl (lv_at hl 2 rfl) ?_
  refine lv_iload_n (pc := 7) hx hb dX0_clear_7 rfl (lv_at hl 1 rfl) ?_
  refine lv_aload_n (pc := 8) hx hb dX0_clear_8 rfl (lv_at hl 0 rfl) ?_
  refine zgetR (pc := 9) hx hb hG hown hw hk (T := TX0) rfl 0 (by decide) rfl wf_X0_7 rfl hr0 dX0_clear_9 ?_
  refine zlen2 (pc := 12) hx hb hw hkn dX0_clear_12 ?_
  refine zadd (pc := 13) hx hb dX0_clear_13 ?_
  refine ziconst (pc := 14) (n := 1) hx hb dX0_clear_14 ?_
  refine zsub (pc := 15) hx hb dX0_clear_15 ?_
  refine zmin (pc := 16) hx hb (hml.trans hl.1.symm) hown hG wl_X0_20 w1_zmn wi_javalangMath w2_zmn (Nat.le_of_ble_eq_true rfl) (Nat.le_of_ble_eq_true rfl) (Nat.zero_le _) (Nat.zero_le _) ⟨by omega, by omega⟩ dX0_clear_16 ?_
  refine zputI (pc := 19) hx hb hG hown hw hk (T := TX0) rfl 2 (by decide) rfl wf_X0_17 rfl (by decide +kernel) rfl dX0_clear_19 (fun H locs hw => ?_)
  obtain ⟨X19, eX19⟩ : ∃ Y : zX, Y = up2 X2 dr 2 (min lastDay ((firstDay + (n : Int)) - 1)) := ⟨_, rfl⟩
  rw [← eX19] at hw
  refine ziconst (pc := 22) (n := 0) hx hb dX0_clear_22 ?_
  refine lv_istore_n (pc := 23) (lv' := [(3, .int (iI 0)), (0, .ref dr), (1, .int (iI firstDay)), (2, .int (iI lastDay))]) hx hb dX0_clear_23 rfl hl (by decide) rfl (fun ls hl => ?_)
  have lp24 : ∀ (n24 : Nat) (kk : Int) (XL24 : zX) (H : Heap) (locs : List Loc), (hi : 0 ≤ kk ∧ kk ≤ n) → (h1x : XL24 dr 1 = firstDay) → (h2x : XL24 dr 2 = min lastDay (firstDay + n - 1)) → (hz : ∀ j : Nat, (j : Int) < kk → XL24 na j = -1) → (ho : ∀ a, a ≠ dr → a ≠ na → XL24 a = X a) → (hs9 : ∀ j : Nat, XL24 na j = -1 ∨ XL24 na j = X na j) → (((n : Int) - kk).toNat < n24) → Wd Γ (zA K s.heap.size) K XL24 Rf s H locs → ∀ ls : Array Slot, lv_has ls 4 [(3, .int (iI kk)), (0, .ref dr), (1, .int (iI firstDay)), (2, .int (iI lastDay))] → W p l e (rmL 2 0 0) s m ([.ref dr, .int (iI firstDay), .int (iI lastDay)] : List Value).toArray below meth c H locs 0 0 (MQ below (zQ Γ K s.heap.size (pV (zpv K Rf (fun X' : zX => X' dr 1 = firstDay ∧ X' dr 2 = min lastDay (firstDay + n - 1) ∧ (∀ j : Nat, (j : Int) < n → (j : Int) ≤ X' dr 2 - X' dr 1 → X' na j = -1) ∧ (∀ a, a ≠ dr → a ≠ na → X' a = X a) ∧ (∀ j : Nat, X' na j = -1 ∨ X' na j = X na j))))) ([.ref dr, .int (iI firstDay), .int (iI lastDay)] : List Value).toArray s 0 0 (zA K s.heap.size)) (F0 m 24 ls []) := by
    intro n24
    induction n24 with
    | zero => intro kk XL24 H locs hi h1x h2x hz ho hs9 hm24; exact absurd hm24 (Nat.not_lt_zero _)
    | succ n24 ih24 =>
      intro kk XL24 H locs hi h1x h2x hz ho hs9 hm24 hw ls hl
      refine lv_iload_n (pc := 24) hx hb dX0_clear_24 rfl (lv_at hl 0 rfl) ?_
      refine lv_aload_n (pc := 25) hx hb dX0_clear_25 rfl (lv_at hl 1 rfl) ?_
      refine zgetR (pc := 26) hx hb hG hown hw hk (T := TX0) rfl 0 (by decide) rfl wf_X0_7 rfl hr0 dX0_clear_26 ?_
      refine zlen2 (pc := 29) hx hb hw hkn dX0_clear_29 ?_
      refine zicmp_ge (pc := 30) hx hb 59 (by omega) (by omega) dX0_clear_30 (by decide) (fun c30 => ?_) (fun c30 => ?_)
      · skip
        exact zretV (pc := 59) hx hb hlocks hr hw (Nat.zero_le _) (Nat.zero_le _) dX0_clear_59 ⟨by (try dsimp only) <;> (exact ⟨h1x, h2x, fun j a b => hz j (by omega), ho, hs9⟩), rfl, rfl⟩
      · skip
        refine lv_iload_n (pc := 33) hx hb dX0_clear_33 rfl (lv_at hl 0 rfl) ?_
        refine lv_aload_n (pc := 34) hx hb dX0_clear_34 rfl (lv_at hl 1 rfl) ?_
        refine zgetI (pc := 35) hx hb hG hown hw hk (T := TX0) rfl 2 (by decide) rfl wf_X0_17 rfl dX0_clear_35 ?_
        refine lv_aload_n (pc := 38) hx hb dX0_clear_38 rfl (lv_at hl 1 rfl) ?_
        refine zgetI (pc := 39) hx hb hG hown hw hk (T := TX0) rfl 1 (by decide) rfl wf_X0_13 rfl dX0_clear_39 ?_
        refine zsub (pc := 42) hx hb dX0_clear_42 ?_
        refine zicmp_gt (pc := 43) hx hb 59 (by omega) (by omega) dX0_clear_43 (by decide) (fun c43 => ?_) (fun c43 => ?_)
        · skip
          exact zretV (pc := 59) hx hb hlocks hr hw (Nat.zero_le _) (Nat.zero_le _) dX0_clear_59 ⟨by (try dsimp only) <;> (exact ⟨h1x, h2x, fun j a b => hz j (by omega), ho, hs9⟩), rfl, rfl⟩
        · skip
          refine lv_aload_n (pc := 46) hx hb dX0_clear_46 rfl (lv_at hl 1 rfl) ?_
          refine zgetR (pc := 47) hx hb hG hown hw hk (T := TX0) rfl 0 (by decide) rfl wf_X0_7 rfl hr0 dX0_clear_47 ?_
          refine lv_iload_n (pc := 50) hx hb dX0_clear_50 rfl (lv_at hl 0 rfl) ?_
          refine ziconst (pc := 51) (n := (-1)) hx hb dX0_clear_51 ?_
          refine zast (pc := 52) hx hb hw hkn ⟨by omega, by omega⟩ (by omega) dX0_clear_52 (fun H locs hw => ?_)
          obtain ⟨X52, eX52⟩ : ∃ Y : zX, Y = up2 XL24 na kk.toNat (-1) := ⟨_, rfl⟩
          rw [← eX52] at hw
          refine ziinc (pc := 53) (lv' := [(3, .int (iI (kk + 1))), (0, .ref dr), (1, .int (iI firstDay)), (2, .int (iI lastDay))]) hx hb 0 dX0_clear_53 hl rfl (by decide) rfl (fun ls hl => ?_)
          obtain ⟨x53, ex53⟩ : ∃ zz : Int, zz = (kk + 1) := ⟨_, rfl⟩
          rw [← ex53] at hl
          refine lv_goto (pc := 56) (tgt := 24) hx hb dX0_clear_56 (by decide) ?_
          exact ih24 x53 X52 _ _ (by (first | assumption | omega)) (by rw [eX52, up2_o (Ne.symm hne)]; exact h1x) (by rw [eX52, up2_o (Ne.symm hne)]; exact h2x) (by intro j h; rw [eX52, up2_eq]; split; rfl; exact hz j (by omega)) (by intro a ha hb; rw [eX52, up2_o hb]; exact ho a ha hb) (by intro j; rw [eX52, up2_eq]; split; exact Or.inl rfl; exact hs9 j) (by omega) hw _ (lv_sub hl [0, 1, 2, 3] rfl)
  exact lp24 _ 0 X19 _ _ (by (first | assumption | omega)) (by rw [eX19, up2_k (by decide), eX2]; exact up2_s) (by rw [eX19]; exact up2_s) (by intro j h; omega) (by intro a ha hb; rw [eX19, up2_o ha, eX2, up2_o ha]) (by intro j; right; rw [eX19, up2_o hne, eX2, up2_o hne]) (Nat.lt_succ_self _) hw _ (lv_sub hl [0, 1, 2, 3] rfl)
