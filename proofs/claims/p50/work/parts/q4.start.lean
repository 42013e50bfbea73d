set_option maxHeartbeats 4000000 in
set_option maxRecDepth 100000 in
/-- from the entry, for every script of at most 260 ints, the law comes to its end with true -/
theorem whole_start {p : Program} {e : Env} {s : State} {m : MethodId} {below : List Frame} {meth : Method} {c : Code} (l : Launch) (hflags : l.flags = flags0) {b L : Nat} {xs : Nat → Int32} (hL : L ≤ 260) (C0 : lw_At p s m meth c b L xs) : W p l e room_1 s m #[Value.ref b] below meth c s.heap [] 0 0 (lw_Z below #[Value.ref b] s) (entryFrame m ([Value.ref b] : List Value).toArray 8) := by
  have hl9 := st_tr hflags
  obtain ⟨hx, hb, hr, hml, hown, hts, hXs, hbl, hlocks, hgv⟩ := C0
  obtain ⟨Γ, hKn⟩ := zKn_start hts
  have hX := zXs_start hts hgv
  have hG : ∀ w ∈ GG, w.before #[Value.ref b] s = true := fun w h => hts w (GG_in w h)
  have hw := Wd_start hKn
  have hbA : ¬ zA zK0 s.heap.size b := fun h => by
    rcases h with h | h
    · exact h rfl
    · omega
  have E0 : LE p s m c meth b L xs := ⟨⟨hx, hb, hml, hown⟩, hG, hX, hXs, hbl, hbA, hL, hr, hlocks⟩
  have hl := lv_entry ([.ref b]) (n := 8) (Nat.le_of_ble_eq_true rfl)
  rw [lg_entry_eq]
  generalize (lg_sl ([.ref b]) ++ List.replicate (8 - (lg_sl ([.ref b])).length) Slot.unset).toArray = ls at hl ⊢
  have hl : lv_has ls 8 [(0, .ref b)] := hl
  obtain ⟨X, hX0⟩ : ∃ X : zX, X = fun _ _ => 0 := ⟨_, rfl⟩
  obtain ⟨Rf, hR0⟩ : ∃ R : zR, R = fun _ _ => none := ⟨_, rfl⟩
  rw [← hX0, ← hR0] at hw
  refine znew (pc := 0) hx hb hG hown hw (T := TX8) (ci := 7) rfl wn_L_16 wt_X8 wi_X8 (by show 0 + 1 ≤ 600064; omega) (by show 0 + 8 ≤ 7301640; omega) dL_law_0 (fun q0 H hfq0 hw => ?_)
  obtain ⟨K0, eK0⟩ : ∃ Y : zK, Y = zup zK0 q0 (1, 7) := ⟨_, rfl⟩
  obtain ⟨X0, eX0⟩ : ∃ Y : zX, Y = zupX X q0 := ⟨_, rfl⟩
  obtain ⟨R0, eR0⟩ : ∃ Y : zR, Y = zupR Rf q0 := ⟨_, rfl⟩
  replace hw := Wd.re hw eK0 eX0 eR0
  have hk0 : K0 q0 = (1, 7) := by rw [eK0]; exact zup_s
  refine lv_dup (pc := 3) hx hb dL_law_3 rfl ?_
  have hkx : K0 q0 = (1, 7) := by rw [eK0]; exact zup_s
  refine zkV (pc := 4) (zrI (As := []) hx hb hml hown hG hw (c_X8_init l Γ K0 X0 R0 q0  (by (first | assumption | omega))) cb_X8_init wl_L_21 rfl ⟨Nat.le_of_ble_eq_true rfl, Nat.le_of_ble_eq_true rfl⟩ hl.1 rfl (Nat.le_of_ble_eq_true rfl) dL_law_4 ⟨(by show 0 + 1 + 20 ≤ 600064; omega), (by show 0 + 8 + 9200 ≤ 7301640; omega)⟩) hw (fun K4 X4 R4 H locs hp4 hw => ?_)
  obtain ⟨pr_4, pl_4, sr_4, dr_4, na_4, wo_4, p0_4, tu_4, to_4, be_4, sa_4, fe_4, fa_4, fn_4, ⟨cK4, cX4⟩, ⟨cz4, ck4⟩, ⟨cz4_1, ck4_1⟩, ⟨cz4_2, ck4_2⟩, ⟨cz4_3, ck4_3⟩, ⟨cz4_4, ck4_4⟩, ⟨cz4_5, ck4_5⟩, ⟨cz4_6, ck4_6⟩, ⟨cz4_7, ck4_7⟩, ⟨cz4_8, ck4_8⟩, ⟨cz4_9, ck4_9⟩, ⟨cz4_10, ck4_10⟩, ⟨cz4_11, ck4_11⟩, ⟨cz4_12, ck4_12⟩, ⟨cz4_13, ck4_13⟩, cr4, cr4_1, cr4_2, cr4_3, cr4_4, cr4_5, cr4_6, cr4_7, cr4_8, cr4_9, cr4_10, cr4_11, cr4_12, cr4_13, cP4⟩ := hp4
  have hk4 : K4 q0 = (1, 7) := (cK4 _ (zk1 hk0)).trans hk0
  have hn4 : Apt q0 pr_4 := zne hk0 cz4
  have hn4_1 : Apt q0 pl_4 := zne hk0 cz4_1
  have hn4_2 : Apt q0 sr_4 := zne hk0 cz4_2
  have hn4_3 : Apt q0 dr_4 := zne hk0 cz4_3
  have hn4_4 : Apt q0 na_4 := zne hk0 cz4_4
  have hn4_5 : Apt q0 wo_4 := zne hk0 cz4_5
  have hn4_6 : Apt q0 p0_4 := zne hk0 cz4_6
  have hn4_7 : Apt q0 tu_4 := zne hk0 cz4_7
  have hn4_8 : Apt q0 to_4 := zne hk0 cz4_8
  have hn4_9 : Apt q0 be_4 := zne hk0 cz4_9
  have hn4_10 : Apt q0 sa_4 := zne hk0 cz4_10
  have hn4_11 : Apt q0 fe_4 := zne hk0 cz4_11
  have hn4_12 : Apt q0 fa_4 := zne hk0 cz4_12
  have hn4_13 : Apt q0 fn_4 := zne hk0 cz4_13
  obtain ⟨ρ1, -, hC1⟩ := repC_new (ρ := fun _ => 0) ((cK4 _ (zk1 hkx)).trans hkx) ⟨cz4, ck4⟩ ⟨cz4_1, ck4_1⟩ ⟨cz4_2, ck4_2⟩ ⟨cz4_3, ck4_3⟩ ⟨cz4_4, ck4_4⟩ ⟨cz4_5, ck4_5⟩ ⟨cz4_6, ck4_6⟩ ⟨cz4_7, ck4_7⟩ ⟨cz4_8, ck4_8⟩ ⟨cz4_9, ck4_9⟩ ⟨cz4_10, ck4_10⟩ ⟨cz4_11, ck4_11⟩ ⟨cz4_12, ck4_12⟩ ⟨cz4_13, ck4_13⟩ cr4 cr4_1 cr4_2 cr4_3 cr4_4 cr4_5 cr4_6 cr4_7 cr4_8 cr4_9 cr4_10 cr4_11 cr4_12 cr4_13 cP4
  have hkq : K4 q0 = (1, 7) := hC1.1.1
  refine lv_astore_n (pc := 7) (lv' := [(1, .ref q0), (0, .ref b)]) hx hb dL_law_7 rfl hl (by decide) rfl (fun ls hl => ?_)
  refine ziconst (pc := 8) (n := 1) hx hb dL_law_8 ?_
  refine lv_aload_n (pc := 9) hx hb dL_law_9 rfl (lv_at hl 1 rfl) ?_
  refine ziconst (pc := 10) (n := 0) hx hb dL_law_10 ?_
  refine zkIp (pc := 11) (zrSs (As := [.ref b, .int (iI 0)]) hx hb hml hown hG hXs hbl hbA hw (c_L_cell l Γ K4 X4 R4 b 0 L xs hL (zKb hw hbA) (by (first | assumption | omega))) cb_L_cell wl_L_22 rfl ⟨Nat.le_of_ble_eq_true rfl, Nat.le_of_ble_eq_true rfl⟩ hl.1 rfl (Nat.le_of_ble_eq_true rfl) dL_law_11 ⟨(by show 0 + 1 + 20 + 0 ≤ 600064; omega), (by show 0 + 8 + 9200 + 0 ≤ 7301640; omega)⟩) hw (fun r11 H locs hp11 hw => ?_)
  refine ziconst (pc := 14) (n := 5) hx hb dL_law_14 ?_
  refine zkIp (pc := 15) (zrS (As := [.int (iI r11), .int (iI 5)]) hx hb hml hown hG hw (c_L_below l Γ K4 X4 R4 r11 5 (by (first | assumption | omega)) (by (first | assumption | omega))) cb_L_below wl_L_9 rfl ⟨Nat.le_of_ble_eq_true rfl, Nat.le_of_ble_eq_true rfl⟩ hl.1 rfl (Nat.le_of_ble_eq_true rfl) dL_law_15 ⟨(by show 0 + 1 + 20 + 0 ≤ 600064; omega), (by show 0 + 8 + 9200 + 0 ≤ 7301640; omega)⟩) hw (fun r15 H locs hp15 hw => ?_)
  refine zadd (pc := 18) hx hb dL_law_18 ?_
  refine ztop (fun x19 ex19 => ?_)
  refine lv_istore_n (pc := 19) (lv' := [(2, .int (iI x19)), (1, .ref q0), (0, .ref b)]) hx hb dL_law_19 rfl hl (by decide) rfl (fun ls hl => ?_)
  refine ziconst (pc := 20) (n := 0) hx hb dL_law_20 ?_
  refine lv_istore_n (pc := 21) (lv' := [(3, .int (iI 0)), (2, .int (iI x19)), (1, .ref q0), (0, .ref b)]) hx hb dL_law_21 rfl hl (by decide) rfl (fun ls hl => ?_)
  have lp22 : ∀ (n22 : Nat) (kk : Int) (ρ1a : zL) (M1 : zM) (cw1 : Nat) (sw1 : Nat) (KL22 : zK) (XL22 : zX) (RL22 : zR) (H : Heap) (locs : List Loc), (hkk : 0 ≤ kk ∧ kk ≤ x19) → (hC1a : repC ρ1a KL22 XL22 RL22 q0 M1) → (hM1 : okM M1) → (hv1 : M1 40 1 = kk ∧ M1 40 5 = 0 ∧ M1 40 16 = 0 ∧ M1 40 29 = 0) → (hpm1 : PM M1 kk) → (hcs1 : cw1 ≤ 40 + 2 * kk.toNat ∧ sw1 ≤ 9300 + 9 * kk.toNat) → ((x19 - kk).toNat < n22) → Wd Γ (zA zK0 s.heap.size) KL22 XL22 RL22 s H locs → ∀ ls : Array Slot, lv_has ls 8 [(3, .int (iI kk)), (2, .int (iI x19)), (1, .ref q0), (0, .ref b)] → W p l e room_1 s m #[Value.ref b] below meth c H locs cw1 sw1 (lw_Z below #[Value.ref b] s) (F0 m 22 ls []) := by
    intro n22
    induction n22 with
    | zero => intro kk ρ1a M1 cw1 sw1 KL22 XL22 RL22 H locs hkk hC1a hM1 hv1 hpm1 hcs1 hm22; exact absurd hm22 (Nat.not_lt_zero _)
    | succ n22 ih22 =>
      intro kk ρ1a M1 cw1 sw1 KL22 XL22 RL22 H locs hkk hC1a hM1 hv1 hpm1 hcs1 hm22 hw ls hl
      have hk22q : KL22 q0 = (1, 7) := hC1a.1.1
      refine lv_iload_n (pc := 22) hx hb dL_law_22 rfl (lv_at hl 0 rfl) ?_
      refine lv_iload_n (pc := 23) hx hb dL_law_23 rfl (lv_at hl 1 rfl) ?_
      refine zicmp_ge (pc := 24) hx hb 46 (by omega) (by omega) dL_law_24 (by decide) (fun c24 => ?_) (fun c24 => ?_)
      · skip
        exact lg_46 hl9 E0 hC1a hM1 (np := x19) ⟨by omega, by omega⟩ ⟨by omega, by omega, by omega, by omega⟩ (by rw [show x19 = kk by omega]; exact hpm1) ⟨by omega, by omega⟩ hw (lv_sub hl [1, 2, 3] rfl)
      · skip
        refine lv_aload_n (pc := 27) hx hb dL_law_27 rfl (lv_at hl 2 rfl) ?_
        refine lv_aload_n (pc := 28) hx hb dL_law_28 rfl (lv_at hl 3 rfl) ?_
        refine ziconst (pc := 29) (n := 1) hx hb dL_law_29 ?_
        refine lv_iload_n (pc := 30) hx hb dL_law_30 rfl (lv_at hl 0 rfl) ?_
        refine zadd (pc := 31) hx hb dL_law_31 ?_
        refine zkIp (pc := 32) (zrSs (As := [.ref b, .int (iI (1 + kk))]) hx hb hml hown hG hXs hbl hbA hw (c_L_cell l Γ KL22 XL22 RL22 b (1 + kk) L xs hL (zKb hw hbA) (by (first | assumption | omega))) cb_L_cell wl_L_22 rfl ⟨Nat.le_of_ble_eq_true rfl, Nat.le_of_ble_eq_true rfl⟩ hl.1 rfl (Nat.le_of_ble_eq_true rfl) dL_law_32 ⟨(by show cw1 + 0 ≤ 600064; omega), (by show sw1 + 0 ≤ 7301640; omega)⟩) hw (fun r32 H locs hp32 hw => ?_)
        refine ziconst (pc := 35) (n := 1) hx hb dL_law_35 ?_
        refine zxkI (pc := 36) (zxrS (As := [.ref q0, .int (iI r32), .int (iI 1)]) hx hb hml hown hG hX hw (c_L_pattern l hl9 Γ KL22 XL22 RL22 q0 r32 1 (ρ1a) M1 (by (first | assumption | omega)) (by (first | assumption | omega)) (by (first | assumption | omega)) (by (first | assumption | omega)) (by (first | assumption | omega))) cb_L_pattern wl_L_26 rfl ⟨Nat.le_of_ble_eq_true rfl, Nat.le_of_ble_eq_true rfl⟩ hl.1 rfl (Nat.le_of_ble_eq_true rfl) dL_law_36 ⟨(by show cw1 + 2 ≤ 600064; omega), (by show sw1 + 9 ≤ 7301640; omega)⟩) hw (fun E9 ce9 q9 H9 locs9 hxp9 hw9 hce9 hcv9 hcl9 => (by exfalso; first | exact hxp9 | omega | (rcases hxp9 with ⟨-, hq9⟩ | ⟨-, hq9⟩ | ⟨-, hq9⟩ <;> omega) | (rcases hxp9 with ⟨-, hq9⟩ | ⟨-, hq9⟩ <;> omega))) (fun r36 K36 X36 R36 H locs hp36 hw => ?_)
        obtain ⟨mo36, ki36, nu36, ⟨hcd36, hmk36⟩, ρ36, hC36⟩ := hp36
        have hk36 : K36 q0 = (1, 7) := hC36.1.1
        obtain ⟨M36, eM36⟩ : ∃ Z : zM, Z = padM M1 (M1 40 1).toNat mo36 ki36 nu36 := ⟨_, rfl⟩
        rw [← eM36] at hC36
        have hM36 : okM M36 := by rw [eM36]; exact okM_pad hM1 hcd36
        obtain ⟨hv36, hpm36⟩ := pad_v hv1.1 (by omega) eM36 hpm1 hmk36
        refine lv_pop (pc := 39) hx hb dL_law_39 rfl ?_
        refine ziinc (pc := 40) (lv' := [(3, .int (iI (kk + 1))), (2, .int (iI x19)), (1, .ref q0), (0, .ref b)]) hx hb 0 dL_law_40 hl rfl (by decide) rfl (fun ls hl => ?_)
        obtain ⟨x40, ex40⟩ : ∃ zz : Int, zz = (kk + 1) := ⟨_, rfl⟩
        rw [← ex40] at hl
        refine lv_goto (pc := 43) (tgt := 22) hx hb dL_law_43 (by decide) ?_
        exact ih22 x40 (ρ36) M36 (cw1 + 2) (sw1 + 9) K36 X36 R36 _ _ (by (first | assumption | omega)) (by (first | assumption | omega)) (by (first | assumption | omega)) (by (first | assumption | omega)) (by rw [ex40]; exact hpm36) (by (first | assumption | omega)) (by omega) hw _ (lv_sub hl [0, 1, 2, 3] rfl)
  exact lp22 _ 0 (ρ1) zM0 (0 + 1 + 20) (0 + 8 + 9200) K4 X4 R4 _ _ (by (first | assumption | omega)) (by (first | assumption | omega)) (by exact okM_0) (by exact zM0_v.1) (by exact zM0_v.2) (by (first | assumption | omega)) (Nat.lt_succ_self _) hw _ (lv_sub hl [0, 1, 2, 3] rfl)
