set_option maxHeartbeats 4000000 in
set_option maxRecDepth 100000 in
/-- from the entry, for every script of at most 4096 ints, the law comes to its end with true -/
theorem whole_start {p : Program} {e : Env} {s : State} {m : MethodId} {below : List Frame} {meth : Method} {c : Code} (l : Launch) (hflags : l.flags = flags0) {b L : Nat} {xs : Nat → Int32} (hL : L ≤ 4096) (C0 : lw_At p s m meth c b L xs) : W p l e room_1 s m #[Value.ref b] below meth c s.heap [] 0 0 (lw_Z below #[Value.ref b] s) (entryFrame m ([Value.ref b] : List Value).toArray 9) := by
  have hl9 := st_tr hflags
  obtain ⟨hx, hb, hr, hml, hown, hts, hXs, hbl, hlocks, hgv⟩ := C0
  obtain ⟨Γ, hKn⟩ := zKn_start hts
  have hX := zXs_start hts hgv
  have hG : ∀ w ∈ GG, w.before #[Value.ref b] s = true := fun w h => hts w (GG_in w h)
  have h46 := st_46 hts
  have hw := Wd_start hKn
  have hbA : ¬ zA zK0 s.heap.size b := fun h => by
    rcases h with h | h
    · exact h rfl
    · omega
  have E : LE p s m c b L xs zK0 := ⟨⟨hx, hb, hml, hown⟩, hG, h46, hX, hXs, hbl, hbA, hL⟩
  have hl := lv_entry ([.ref b]) (n := 9) (Nat.le_of_ble_eq_true rfl)
  rw [lg_entry_eq]
  generalize (lg_sl ([.ref b]) ++ List.replicate (9 - (lg_sl ([.ref b])).length) Slot.unset).toArray = ls at hl ⊢
  have hl : lv_has ls 9 [(0, .ref b)] := hl
  obtain ⟨X, hX0⟩ : ∃ X : zX, X = fun _ _ => 0 := ⟨_, rfl⟩
  obtain ⟨Rf, hR0⟩ : ∃ R : zR, R = fun _ _ => none := ⟨_, rfl⟩
  rw [← hX0, ← hR0] at hw
  refine znew (pc := 0) hx hb hG hown hw (T := TX8) (ci := 7) rfl wn_L_8 wt_X8 wi_X8 (by show 0 + 1 ≤ 601024; omega) (by show 0 + 8 ≤ 7293033; omega) dL_law_0 (fun q0 H hfq0 hw => ?_)
  obtain ⟨K0, eK0⟩ : ∃ Y : zK, Y = zup zK0 q0 (1, 7) := ⟨_, rfl⟩
  obtain ⟨X0, eX0⟩ : ∃ Y : zX, Y = zupX X q0 := ⟨_, rfl⟩
  obtain ⟨R0, eR0⟩ : ∃ Y : zR, Y = zupR Rf q0 := ⟨_, rfl⟩
  replace hw := Wd.re hw eK0 eX0 eR0
  have hk0 : K0 q0 = (1, 7) := by rw [eK0]; exact zup_s
  refine lv_dup (pc := 3) hx hb dL_law_3 rfl ?_
  have hkx : K0 q0 = (1, 7) := by rw [eK0]; exact zup_s
  refine zkV (pc := 4) (zrI (As := []) hx hb hml hown hG hw (c_X8_init l Γ K0 X0 R0 q0  (by (first | assumption | omega))) cb_X8_init wl_L_162 rfl ⟨Nat.le_of_ble_eq_true rfl, Nat.le_of_ble_eq_true rfl⟩ hl.1 rfl (Nat.le_of_ble_eq_true rfl) dL_law_4 ⟨(by show 0 + 1 + 20 ≤ 601024; omega), (by show 0 + 8 + 9200 ≤ 7293033; omega)⟩) hw (fun K4 X4 R4 H locs hp4 hw => ?_)
  obtain ⟨pr_4, pl_4, sr_4, dr_4, na_4, wo_4, p0_4, tu_4, to_4, be_4, sa_4, fe_4, fa_4, fn_4, ⟨cK4, cX4⟩, ⟨cz4, ck4⟩, ⟨cz4_1, ck4_1⟩, ⟨cz4_2, ck4_2⟩, ⟨cz4_3, ck4_3⟩, ⟨cz4_4, ck4_4⟩, ⟨cz4_5, ck4_5⟩, ⟨cz4_6, ck4_6⟩, ⟨cz4_7, ck4_7⟩, ⟨cz4_8, ck4_8⟩, ⟨cz4_9, ck4_9⟩, ⟨cz4_10, ck4_10⟩, ⟨cz4_11, ck4_11⟩, ⟨cz4_12, ck4_12⟩, ⟨cz4_13, ck4_13⟩, cr4, cr4_1, cr4_2, cr4_3, cr4_4, cr4_5, cr4_6, cr4_7, cr4_8, cr4_9, cr4_10, cr4_11, cr4_12, cr4_13, cP4⟩ := hp4
  have hk4 : K4 q0 = (1, 7) := (cK4 _ (zk1 hk0)).trans hk0
  have hn4 : Apt q0 pr_4 := zne hk0 cz4
  have hn4_1 : Apt q0 pl_4 := zne hk0 cz4_1
  have hn4_2 : Apt q0 sr_4 := zne hk0 cz4_2
  have hn4_3 : Apt q0 dr_4 := zne hk0 cz4_3
  have hn4_4 : Apt q0 na_4 := zne hk0 cz4_4
  have hn4_5 : Apt q0 wo_4 := zne hk0 cz4_5
  have hn4_6 : Apt q0 p0_4 := zne hk0 cz4_6
  have hn4_7 : Apt q0 tu_4 := zne hk0 cz4_7
  have hn4_8 : Apt q0 to_4 := zne hk0 cz4_8
  have hn4_9 : Apt q0 be_4 := zne hk0 cz4_9
  have hn4_10 : Apt q0 sa_4 := zne hk0 cz4_10
  have hn4_11 : Apt q0 fe_4 := zne hk0 cz4_11
  have hn4_12 : Apt q0 fa_4 := zne hk0 cz4_12
  have hn4_13 : Apt q0 fn_4 := zne hk0 cz4_13
  obtain ⟨ρ1, -, hC1⟩ := repC_new (ρ := fun _ => 0) ((cK4 _ (zk1 hkx)).trans hkx) ⟨cz4, ck4⟩ ⟨cz4_1, ck4_1⟩ ⟨cz4_2, ck4_2⟩ ⟨cz4_3, ck4_3⟩ ⟨cz4_4, ck4_4⟩ ⟨cz4_5, ck4_5⟩ ⟨cz4_6, ck4_6⟩ ⟨cz4_7, ck4_7⟩ ⟨cz4_8, ck4_8⟩ ⟨cz4_9, ck4_9⟩ ⟨cz4_10, ck4_10⟩ ⟨cz4_11, ck4_11⟩ ⟨cz4_12, ck4_12⟩ ⟨cz4_13, ck4_13⟩ cr4 cr4_1 cr4_2 cr4_3 cr4_4 cr4_5 cr4_6 cr4_7 cr4_8 cr4_9 cr4_10 cr4_11 cr4_12 cr4_13 cP4
  refine lv_astore_n (pc := 7) (lv' := [(1, .ref q0), (0, .ref b)]) hx hb dL_law_7 rfl hl (by decide) rfl (fun ls hl => ?_)
  refine znew (pc := 8) hx hb hG hown hw (T := TX9) (ci := 8) rfl wn_L_163 wt_X9 wi_X9 (by show 0 + 1 + 20 + 1 ≤ 601024; omega) (by show 0 + 8 + 9200 + 37 ≤ 7293033; omega) dL_law_8 (fun q8 H hfq8 hw => ?_)
  obtain ⟨K8, eK8⟩ : ∃ Y : zK, Y = zup K4 q8 (1, 8) := ⟨_, rfl⟩
  obtain ⟨X8, eX8⟩ : ∃ Y : zX, Y = zupX X4 q8 := ⟨_, rfl⟩
  obtain ⟨R8, eR8⟩ : ∃ Y : zR, Y = zupR R4 q8 := ⟨_, rfl⟩
  replace hw := Wd.re hw eK8 eX8 eR8
  have hk8 : K8 q0 = (1, 7) := by rw [eK8]; exact zup_k hfq8 hk4 (Nat.succ_ne_zero _)
  have hn8 : Apt q0 q8 := zne hk4 hfq8
  have hk8_1 : K8 pr_4 = (6, 24) := by rw [eK8]; exact zup_k hfq8 ck4 (Nat.succ_ne_zero _)
  have hn8_1 : Apt pr_4 q8 := zne ck4 hfq8
  have hk8_2 : K8 pl_4 = (7, 6) := by rw [eK8]; exact zup_k hfq8 ck4_1 (Nat.succ_ne_zero _)
  have hn8_2 : Apt pl_4 q8 := zne ck4_1 hfq8
  have hk8_3 : K8 sr_4 = (8, 6) := by rw [eK8]; exact zup_k hfq8 ck4_2 (Nat.succ_ne_zero _)
  have hn8_3 : Apt sr_4 q8 := zne ck4_2 hfq8
  have hk8_4 : K8 dr_4 = (1, 0) := by rw [eK8]; exact zup_k hfq8 ck4_3 (Nat.succ_ne_zero _)
  have hn8_4 : Apt dr_4 q8 := zne ck4_3 hfq8
  have hk8_5 : K8 na_4 = (2, 4733) := by rw [eK8]; exact zup_k hfq8 ck4_4 (Nat.succ_ne_zero _)
  have hn8_5 : Apt na_4 q8 := zne ck4_4 hfq8
  have hk8_6 : K8 wo_4 = (1, 6) := by rw [eK8]; exact zup_k hfq8 ck4_5 (Nat.succ_ne_zero _)
  have hn8_6 : Apt wo_4 q8 := zne ck4_5 hfq8
  have hk8_7 : K8 p0_4 = (1, 3) := by rw [eK8]; exact zup_k hfq8 ck4_6 (Nat.succ_ne_zero _)
  have hn8_7 : Apt p0_4 q8 := zne ck4_6 hfq8
  have hk8_8 : K8 tu_4 = (9, 6) := by rw [eK8]; exact zup_k hfq8 ck4_7 (Nat.succ_ne_zero _)
  have hn8_8 : Apt tu_4 q8 := zne ck4_7 hfq8
  have hk8_9 : K8 to_4 = (2, 6) := by rw [eK8]; exact zup_k hfq8 ck4_8 (Nat.succ_ne_zero _)
  have hn8_9 : Apt to_4 q8 := zne ck4_8 hfq8
  have hk8_10 : K8 be_4 = (2, 1201) := by rw [eK8]; exact zup_k hfq8 ck4_9 (Nat.succ_ne_zero _)
  have hn8_10 : Apt be_4 q8 := zne ck4_9 hfq8
  have hk8_11 : K8 sa_4 = (2, 1201) := by rw [eK8]; exact zup_k hfq8 ck4_10 (Nat.succ_ne_zero _)
  have hn8_11 : Apt sa_4 q8 := zne ck4_10 hfq8
  have hk8_12 : K8 fe_4 = (10, 20) := by rw [eK8]; exact zup_k hfq8 ck4_11 (Nat.succ_ne_zero _)
  have hn8_12 : Apt fe_4 q8 := zne ck4_11 hfq8
  have hk8_13 : K8 fa_4 = (1, 0) := by rw [eK8]; exact zup_k hfq8 ck4_12 (Nat.succ_ne_zero _)
  have hn8_13 : Apt fa_4 q8 := zne ck4_12 hfq8
  have hk8_14 : K8 fn_4 = (2, 1701) := by rw [eK8]; exact zup_k hfq8 ck4_13 (Nat.succ_ne_zero _)
  have hn8_14 : Apt fn_4 q8 := zne ck4_13 hfq8
  have hk8_15 : K8 q8 = (1, 8) := by rw [eK8]; exact zup_s
  have hr8 : R8 q0 0 = some pr_4 := by rw [eR8, zupR_n hn8]; exact cr4
  have hr8_1 : R8 q0 2 = some pl_4 := by rw [eR8, zupR_n hn8]; exact cr4_1
  have hr8_2 : R8 q0 4 = some sr_4 := by rw [eR8, zupR_n hn8]; exact cr4_2
  have hr8_3 : R8 q0 6 = some dr_4 := by rw [eR8, zupR_n hn8]; exact cr4_3
  have hr8_4 : R8 q0 7 = some wo_4 := by rw [eR8, zupR_n hn8]; exact cr4_4
  have hr8_5 : R8 dr_4 0 = some na_4 := by rw [eR8, zupR_n hn8_4]; exact cr4_5
  have hr8_6 : R8 wo_4 1 = some p0_4 := by rw [eR8, zupR_n hn8_6]; exact cr4_6
  have hr8_7 : R8 wo_4 5 = some fe_4 := by rw [eR8, zupR_n hn8_6]; exact cr4_7
  have hr8_8 : R8 wo_4 7 = some fa_4 := by rw [eR8, zupR_n hn8_6]; exact cr4_8
  have hr8_9 : R8 p0_4 1 = some tu_4 := by rw [eR8, zupR_n hn8_7]; exact cr4_9
  have hr8_10 : R8 p0_4 3 = some to_4 := by rw [eR8, zupR_n hn8_7]; exact cr4_10
  have hr8_11 : R8 p0_4 4 = some be_4 := by rw [eR8, zupR_n hn8_7]; exact cr4_11
  have hr8_12 : R8 p0_4 5 = some sa_4 := by rw [eR8, zupR_n hn8_7]; exact cr4_12
  have hr8_13 : R8 fa_4 0 = some fn_4 := by rw [eR8, zupR_n hn8_13]; exact cr4_13
  refine lv_dup (pc := 11) hx hb dL_law_11 rfl ?_
  have hkm : K8 q8 = (1, 8) := by rw [eK8]; exact zup_s
  obtain ⟨ρ2, hρ2⟩ : ∃ ρ : zL, ρ = fun a => if a = q8 then 2000 else ρ1 a := ⟨_, rfl⟩
  have hm2 : ρ2 q8 = 2000 := by rw [hρ2]; exact if_pos rfl
  have ho2 : ∀ a, (K4 a).1 ≠ 0 → a ≠ q8 := fun a g q => by rw [q] at g; exact g hfq8
  have hC2 : repC ρ2 K8 X8 R8 q0 zM0 := hC1.keep (fun a g1 g2 => ⟨by rw [eK8]; exact zup_n (ho2 a g1), by rw [hρ2]; exact if_neg (ho2 a g1), by rw [eX8]; exact zupX_n (ho2 a g1), by rw [eR8]; exact zupR_n (ho2 a g1)⟩)
  refine zkV (pc := 12) (zrI (As := []) hx hb hml hown hG hw (c_X9_init l Γ K8 X8 R8 q8 (ρ2) (by (first | assumption | omega)) (by rw [eX8]; exact zupX_s)) cb_X9_init wl_L_165 rfl ⟨Nat.le_of_ble_eq_true rfl, Nat.le_of_ble_eq_true rfl⟩ hl.1 rfl (Nat.le_of_ble_eq_true rfl) dL_law_12 ⟨(by show 0 + 1 + 20 + 1 + 20 ≤ 601024; omega), (by show 0 + 8 + 9200 + 37 + 77958 ≤ 7293033; omega)⟩) hw (fun K12 X12 R12 H locs hp12 hw => ?_)
  obtain ⟨hf3, ρ3, hl3, hR3, hp3⟩ := hp12
  have hC3 : repC ρ3 K12 X12 R12 q0 zM0 := hC2.keep (fun a g1 g2 => by
    have hne : a ≠ q8 := fun q => by
      rw [q, hkm, hm2] at g2
      rcases g2 with g2 | g2
      · unfold imk at g2; revert g2; decide
      · omega
    have w9 := hf3 a g1 hne
    exact ⟨w9.1, hl3 a g1 hne, w9.2.1, w9.2.2⟩)
  refine lv_astore_n (pc := 15) (lv' := [(2, .ref q8), (1, .ref q0), (0, .ref b)]) hx hb dL_law_15 rfl hl (by decide) rfl (fun ls hl => ?_)
  refine ziconst (pc := 16) (n := 1) hx hb dL_law_16 ?_
  refine znewl (pc := 17) hx hb hG hw wa_long ⟨by omega, by omega⟩ (by show 0 + 1 + 20 + 1 + 20 + 1 ≤ 601024; omega) (by show 0 + 8 + 9200 + 37 + 77958 + 1 ≤ 7293033; omega) dL_law_17 (fun q17 H hfq17 hw => ?_)
  obtain ⟨K17, eK17⟩ : ∃ Y : zK, Y = zup K12 q17 (4, 1) := ⟨_, rfl⟩
  obtain ⟨X17, eX17⟩ : ∃ Y : zX, Y = zupX X12 q17 := ⟨_, rfl⟩
  obtain ⟨R17, eR17⟩ : ∃ Y : zR, Y = zupR R12 q17 := ⟨_, rfl⟩
  replace hw := Wd.re hw eK17 eX17 eR17
  have hk17 : K17 q17 = (4, 1) := by rw [eK17]; exact zup_s
  refine lv_astore_n (pc := 19) (lv' := [(3, .ref q17), (2, .ref q8), (1, .ref q0), (0, .ref b)]) hx hb dL_law_19 rfl hl (by decide) rfl (fun ls hl => ?_)
  refine ziconst (pc := 20) (n := 1) hx hb dL_law_20 ?_
  refine znewd (pc := 21) hx hb hG hw wa_double ⟨by omega, by omega⟩ (by show 0 + 1 + 20 + 1 + 20 + 1 + 1 ≤ 601024; omega) (by show 0 + 8 + 9200 + 37 + 77958 + 1 + 1 ≤ 7293033; omega) dL_law_21 (fun q21 H hfq21 hw => ?_)
  obtain ⟨K21, eK21⟩ : ∃ Y : zK, Y = zup K17 q21 (5, 1) := ⟨_, rfl⟩
  obtain ⟨X21, eX21⟩ : ∃ Y : zX, Y = zupX X17 q21 := ⟨_, rfl⟩
  obtain ⟨R21, eR21⟩ : ∃ Y : zR, Y = zupR R17 q21 := ⟨_, rfl⟩
  replace hw := Wd.re hw eK21 eX21 eR21
  have hk21 : K21 q17 = (4, 1) := by rw [eK21]; exact zup_k hfq21 hk17 (Nat.succ_ne_zero _)
  have hn21 : Apt q17 q21 := zne hk17 hfq21
  have hk21_1 : K21 q21 = (5, 1) := by rw [eK21]; exact zup_s
  refine lv_astore (pc := 23) (lv' := [(4, .ref q21), (3, .ref q17), (2, .ref q8), (1, .ref q0), (0, .ref b)]) hx hb dL_law_23 hl (by decide) rfl (fun ls hl => ?_)
  refine ziconst (pc := 25) (n := 0) hx hb dL_law_25 ?_
  refine lv_istore (pc := 26) (lv' := [(5, .int (iI 0)), (4, .ref q21), (3, .ref q17), (2, .ref q8), (1, .ref q0), (0, .ref b)]) hx hb dL_law_26 hl (by decide) rfl (fun ls hl => ?_)
  obtain ⟨ρ4, hρ4⟩ : ∃ ρ : zL, ρ = fun a => if a = q17 then 4000 else if a = q21 then 4001 else ρ3 a := ⟨_, rfl⟩
  have gn17 : ∀ a, (K12 a).1 ≠ 0 → a ≠ q17 := fun a g q => by rw [q] at g; exact g hfq17
  have gk17 : K17 q17 = (4, 1) := by rw [eK17]; exact zup_s
  have h1721 : q17 ≠ q21 := fun q => by
    have g := hfq21
    rw [← q, gk17] at g; exact absurd g (by decide)
  have gn21 : ∀ a, (K12 a).1 ≠ 0 → a ≠ q21 := fun a g q => by
    have g2 := hfq21
    rw [← q, eK17, zup_n (gn17 a g)] at g2; exact g g2
  have hFK : ∀ a, (K12 a).1 ≠ 0 → K21 a = K12 a := fun a g => by rw [eK21, zup_n (gn21 a g), eK17, zup_n (gn17 a g)]
  have hFX : ∀ a, (K12 a).1 ≠ 0 → X21 a = X12 a := fun a g => by rw [eX21, zupX_n (gn21 a g), eX17, zupX_n (gn17 a g)]
  have hFR : ∀ a, (K12 a).1 ≠ 0 → R21 a = R12 a := fun a g => by rw [eR21, zupR_n (gn21 a g), eR17, zupR_n (gn17 a g)]
  have hFl : ∀ a, (K12 a).1 ≠ 0 → ρ4 a = ρ3 a := fun a g => by rw [hρ4]; dsimp only; rw [if_neg (gn17 a g), if_neg (gn21 a g)]
  have hC4 : repC ρ4 K21 X21 R21 q0 zM0 := hC3.keep (fun a g1 _ => ⟨hFK a g1, hFl a g1, hFX a g1, hFR a g1⟩)
  have hR4 := hR3.keepB (K' := K21) (ρ' := ρ4) (X' := X21) (Rf' := R21) (fun a g1 _ _ => ⟨hFK a g1, hFl a g1, hFX a g1, hFR a g1⟩)
  have hR5 : repR (rlb K21 ρ4) K21 X21 R21 q8 zM0 := hR4.1.rel (fun a _ g => rlb_n g)
  have hpt4 := ptR_ls hR4.2
  have hI : LI ρ4 K21 X21 R21 q0 q8 q17 q21 zM0 := ⟨hC4, hR5, okM_0, ⟨by rw [eK21, zup_n h1721]; exact gk17, by rw [hρ4]; exact if_pos rfl⟩, by rw [eK21]; exact zup_s, by rw [hρ4]; dsimp only; rw [if_neg (Ne.symm h1721), if_pos rfl]⟩
  exact law_loop hl9 E hr hlocks (fun _ => rfl) 513 0 ρ4 K21 X21 R21 zM0 0 _ _ _ _ ls (by omega) (by omega) (by omega) hI ⟨by omega, by omega⟩ hw (lv_sub hl [0, 1, 2, 3, 4, 5] rfl)
