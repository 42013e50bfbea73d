-- ===== the world at the law's entry =====
theorem st_arr {s : State} {args : Array Value} {ty : FieldType} (h : (Cond.arrayClass ty).before args s = true) : ∃ cA, s.vm.findClass ("[" ++ ty.toString) = some cA ∧ ArrOfT s cA ty := by
  obtain ⟨c, k, comp, h1, h2, h3⟩ := Cond.arrayClass_spec h
  exact ⟨c, h1, fun n z => ⟨fun k h => (by cases h), k, h2, comp, h3⟩⟩
theorem st_arO {s : State} {args : Array Value} {C : String} (h : (Cond.arrayOver (.object C)).before args s = true) : ∃ cA, ArrOfT s cA (.object C) ∧ va_RA s cA (.object C) := by
  obtain ⟨comp, c, k, h1, h2, h3, h4, h5⟩ := Cond.arrayOver_spec h
  exact ⟨c, fun n z => ⟨fun k h => (by cases h), k, h3, comp, h4⟩, k, comp, h3, h4, h1, h5⟩
theorem st_tr {l : Launch} (h : l.flags = flags0) : l.stackTraces = false := by unfold Launch.stackTraces; rw [h]; decide +kernel
set_option maxRecDepth 40000 in
theorem zKn_start {s : State} {b : Nat} (hts : ∀ w ∈ lw_tbl, w.before #[Value.ref b] s = true) : ∃ Γ : zG, zKn Γ s := by
  obtain ⟨c0, i0, k0⟩ := u_known (C := RX0) (T := TX0) (N := 3) (n := 3) hts GG_l0 (hts _ (GG_in _ wt_X0))
  obtain ⟨c2, i2, k2⟩ := u_known (C := RX2) (T := TX2) (N := 4) (n := 4) hts GG_l2 (hts _ (GG_in _ wt_X2))
  obtain ⟨c3, i3, k3⟩ := u_known (C := RX3) (T := TX3) (N := 3) (n := 3) hts GG_l3 (hts _ (GG_in _ wt_X3))
  obtain ⟨c4, i4, k4⟩ := u_known (C := RX4) (T := TX4) (N := 7) (n := 7) hts GG_l4 (hts _ (GG_in _ wt_X4))
  obtain ⟨c5, i5, k5⟩ := u_known (C := RX5) (T := TX5) (N := 18) (n := 18) hts GG_l5 (hts _ (GG_in _ wt_X5))
  obtain ⟨c6, i6, k6⟩ := u_known (C := RX6) (T := TX6) (N := 6) (n := 6) hts GG_l6 (hts _ (GG_in _ wt_X6))
  obtain ⟨c7, i7, k7⟩ := u_known (C := RX7) (T := TX7) (N := 8) (n := 8) hts GG_l7 (hts _ (GG_in _ wt_X7))
  obtain ⟨c8, i8, k8⟩ := u_known (C := RX8) (T := TX8) (N := 8) (n := 8) hts GG_l8 (hts _ (GG_in _ wt_X8))
  obtain ⟨aI, nI9, oI⟩ := st_arr (ty := .int) (hts _ (tb1 (i := 47) rfl))
  obtain ⟨aB, nB, oB⟩ := st_arr (ty := .byte) (hts _ (tb1 (i := 213) rfl))
  have ho3 : (Cond.arrayOver (.object RX3)).before #[Value.ref b] s = true := hts _ (tb1 (i := 26) rfl)
  obtain ⟨a3, r3, q3⟩ := st_arO ho3
  have ho4 : (Cond.arrayOver (.object RX4)).before #[Value.ref b] s = true := hts _ (tb1 (i := 28) rfl)
  obtain ⟨a4, r4, q4⟩ := st_arO ho4
  have ho5 : (Cond.arrayOver (.object RX5)).before #[Value.ref b] s = true := hts _ (tb1 (i := 30) rfl)
  obtain ⟨a5, r5, q5⟩ := st_arO ho5
  have ho6 : (Cond.arrayOver (.object RX6)).before #[Value.ref b] s = true := hts _ (tb1 (i := 61) rfl)
  obtain ⟨a6, r6, q6⟩ := st_arO ho6
  have ho2 : (Cond.arrayOver (.object RX2)).before #[Value.ref b] s = true := hts _ (tb1 (i := 86) rfl)
  obtain ⟨a2, r2, q2⟩ := st_arO ho2
  refine ⟨((fun k => match k with | 0 => c0 | 1 => c2 | 2 => c3 | 3 => c4 | 4 => c5 | 5 => c6 | 6 => c7 | _ => c8, fun k => match k with | 0 => i0 | 1 => i2 | 2 => i3 | 3 => i4 | 4 => i5 | 5 => i6 | 6 => i7 | _ => i8), fun k => match k with | 0 => aI | 1 => aB | 2 => aI | 3 => aI | 4 => a3 | 5 => a4 | 6 => a5 | 7 => a6 | 8 => a2 | _ => aI), ⟨fun k q hq => ?_, fun k q hq => ?_⟩, trivial, va_AO.of ho2, va_AO.of ho3, va_AO.of ho4, va_AO.of ho5, va_AO.of ho6, trivial⟩
  · match k, hq with
    | 0, hq => cases hq; exact k0
    | 1, hq => cases hq; exact k2
    | 2, hq => cases hq; exact k3
    | 3, hq => cases hq; exact k4
    | 4, hq => cases hq; exact k5
    | 5, hq => cases hq; exact k6
    | 6, hq => cases hq; exact k7
    | 7, hq => cases hq; exact k8
    | k + 8, hq => simp [zcl] at hq
  · match k, hq with
    | 0, hq => cases hq; exact ⟨oI, nI9⟩
    | 1, hq => cases hq; exact ⟨oB, nB⟩
    | 2, hq => cases hq; exact ⟨oI, nI9⟩
    | 3, hq => cases hq; exact ⟨oI, nI9⟩
    | 4, hq => cases hq; exact ⟨r3, q3⟩
    | 5, hq => cases hq; exact ⟨r4, q4⟩
    | 6, hq => cases hq; exact ⟨r5, q5⟩
    | 7, hq => cases hq; exact ⟨r6, q6⟩
    | 8, hq => cases hq; exact ⟨r2, q2⟩
    | 9, hq => cases hq; exact ⟨oI, nI9⟩
    | k + 10, hq => simp [ztys] at hq
def zK0 : zK := fun _ => (0, 0)
theorem st_and {a b : Cond} {args : Array Value} {s : State} (h : (Cond.and a b).before args s = true) : a.before args s = true ∧ b.before args s = true := by
  rw [Cond.before_and, Bool.and_eq_true] at h; exact h
theorem st_str {s : State} {args : Array Value} {k : Nat} {tx : String} (h1 : (Cond.stringRef RX8 k tx).before args s = true) (h2 : (Cond.exactly (.string RX8 k) "java/lang/String").before args s = true) : ∃ sa, vk_R RX8 k tx sa s := by
  obtain ⟨a, c, cell, k9, h3, -⟩ := Cond.exactly_spec h2
  exact ⟨a, vk_R.of h1 h3⟩
set_option maxRecDepth 40000 in
theorem zXs_start {s : State} {b : Nat} (hts : ∀ w ∈ lw_tbl, w.before #[Value.ref b] s = true) (hgv : (Jvm.Cond.and given_1 narrow_1).before #[Value.ref b] s = true) : zXs zK0 s := by
  obtain ⟨-, hn⟩ := st_and hgv
  have f1 := flat_of_before narrow_1 hn
  have hA : ∀ a : Nat, a < s.heap.size → ¬ zA zK0 s.heap.size a := fun a h1 h2 => by rcases h2 with h2 | h2; exact h2 rfl; omega
  have hI : (Cond.initialized Bundle.tN).before #[Value.ref b] s = true := hts _ (tb1 (i := 5) rfl)
  refine ⟨vx_Zqof (hts _ (tb1 (i := 173) rfl)) hI (f1 (.isRef (.static Bundle.tN "UNASSIGNED_STACK" Bundle.steD)) (by decide +kernel)) hA, vx_Zqof (hts _ (tb1 (i := 175) rfl)) hI (f1 (.isRef (.static Bundle.tN "SUPPRESSED_SENTINEL" Bundle.listD)) (by decide +kernel)) hA, ?_, ?_, fun _ h => absurd h List.not_mem_nil⟩
  · exact List.forall_mem_cons.mpr ⟨st_str (k := 138) (tx := "base is not -840 to 840") (hts _ (tb1 (i := 187) rfl)) (f1 (.exactly (.string RX8 138) "java/lang/String") (by decide +kernel)), List.forall_mem_cons.mpr ⟨st_str (k := 140) (tx := "there are 6 places") (hts _ (tb1 (i := 223) rfl)) (f1 (.exactly (.string RX8 140) "java/lang/String") (by decide +kernel)), List.forall_mem_cons.mpr ⟨st_str (k := 400) (tx := "no such place") (hts _ (tb2 (i := 8) rfl)) (f1 (.exactly (.string RX8 400) "java/lang/String") (by decide +kernel)), List.forall_mem_cons.mpr ⟨st_str (k := 398) (tx := "no such pattern") (hts _ (tb2 (i := 19) rfl)) (f1 (.exactly (.string RX8 398) "java/lang/String") (by decide +kernel)), List.forall_mem_cons.mpr ⟨st_str (k := 394) (tx := "year is not 1900 to 2099") (hts _ (tb2 (i := 26) rfl)) (f1 (.exactly (.string RX8 394) "java/lang/String") (by decide +kernel)), List.forall_mem_cons.mpr ⟨st_str (k := 396) (tx := "lastYear is not firstYear to 2099") (hts _ (tb2 (i := 27) rfl)) (f1 (.exactly (.string RX8 396) "java/lang/String") (by decide +kernel)), List.forall_mem_cons.mpr ⟨st_str (k := 151) (tx := "no such minute, clock or saving") (hts _ (tb2 (i := 28) rfl)) (f1 (.exactly (.string RX8 151) "java/lang/String") (by decide +kernel)), List.forall_mem_cons.mpr ⟨st_str (k := 159) (tx := "a turn goes by one day of a year") (hts _ (tb2 (i := 29) rfl)) (f1 (.exactly (.string RX8 159) "java/lang/String") (by decide +kernel)), List.forall_mem_cons.mpr ⟨st_str (k := 165) (tx := "the place has 6 turns") (hts _ (tb2 (i := 34) rfl)) (f1 (.exactly (.string RX8 165) "java/lang/String") (by decide +kernel)), List.forall_mem_cons.mpr ⟨st_str (k := 201) (tx := "no such begin") (hts _ (tb2 (i := 123) rfl)) (f1 (.exactly (.string RX8 201) "java/lang/String") (by decide +kernel)), List.forall_mem_cons.mpr ⟨st_str (k := 203) (tx := "no such kind, step or weekdays") (hts _ (tb2 (i := 124) rfl)) (f1 (.exactly (.string RX8 203) "java/lang/String") (by decide +kernel)), List.forall_mem_cons.mpr ⟨st_str (k := 205) (tx := "there are 6 series") (hts _ (tb2 (i := 125) rfl)) (f1 (.exactly (.string RX8 205) "java/lang/String") (by decide +kernel)), List.forall_mem_cons.mpr ⟨st_str (k := 402) (tx := "no such series") (hts _ (tb3 (i := 63) rfl)) (f1 (.exactly (.string RX8 402) "java/lang/String") (by decide +kernel)), List.forall_mem_cons.mpr ⟨st_str (k := 220) (tx := "the series has 4 patterns") (hts _ (tb3 (i := 64) rfl)) (f1 (.exactly (.string RX8 220) "java/lang/String") (by decide +kernel)), List.forall_mem_cons.mpr ⟨st_str (k := 227) (tx := "most is not 0 to 500") (hts _ (tb3 (i := 69) rfl)) (f1 (.exactly (.string RX8 227) "java/lang/String") (by decide +kernel)), List.forall_mem_cons.mpr ⟨st_str (k := 285) (tx := "weekdays is not 1 to 127") (hts _ (tb3 (i := 90) rfl)) (f1 (.exactly (.string RX8 285) "java/lang/String") (by decide +kernel)), List.forall_mem_cons.mpr ⟨st_str (k := 300) (tx := "way is not 0 to 3") (hts _ (tb3 (i := 95) rfl)) (f1 (.exactly (.string RX8 300) "java/lang/String") (by decide +kernel)), List.forall_mem_cons.mpr ⟨st_str (k := 309) (tx := "there are 20 feasts") (hts _ (tb3 (i := 96) rfl)) (f1 (.exactly (.string RX8 309) "java/lang/String") (by decide +kernel)), List.forall_mem_cons.mpr ⟨st_str (k := 108) (tx := "no such month or kind") (hts _ (tb4 (i := 81) rfl)) (f1 (.exactly (.string RX8 108) "java/lang/String") (by decide +kernel)), List.forall_mem_cons.mpr ⟨st_str (k := 113) (tx := "no such number of this kind") (hts _ (tb4 (i := 85) rfl)) (f1 (.exactly (.string RX8 113) "java/lang/String") (by decide +kernel)), List.forall_mem_cons.mpr ⟨st_str (k := 115) (tx := "a day by Easter has no month") (hts _ (tb4 (i := 86) rfl)) (f1 (.exactly (.string RX8 115) "java/lang/String") (by decide +kernel)), List.forall_mem_cons.mpr ⟨st_str (k := 119) (tx := "there are 24 patterns") (hts _ (tb4 (i := 87) rfl)) (f1 (.exactly (.string RX8 119) "java/lang/String") (by decide +kernel)), List.forall_mem_cons.mpr ⟨st_str (k := 392) (tx := "no such MOMENT") (hts _ (tb4 (i := 99) rfl)) (f1 (.exactly (.string RX8 392) "java/lang/String") (by decide +kernel)), List.forall_mem_cons.mpr ⟨st_str (k := 389) (tx := "no such DAY") (hts _ (tb4 (i := 136) rfl)) (f1 (.exactly (.string RX8 389) "java/lang/String") (by decide +kernel)), List.forall_mem_cons.mpr ⟨st_str (k := 58) (tx := "no such month") (hts _ (tb4 (i := 161) rfl)) (f1 (.exactly (.string RX8 58) "java/lang/String") (by decide +kernel)), List.forall_mem_cons.mpr ⟨st_str (k := 72) (tx := "the month has no such day") (hts _ (tb4 (i := 166) rfl)) (f1 (.exactly (.string RX8 72) "java/lang/String") (by decide +kernel)), List.forall_mem_cons.mpr ⟨st_str (k := 331) (tx := "days is not -200 to 200") (hts _ (tb4 (i := 180) rfl)) (f1 (.exactly (.string RX8 331) "java/lang/String") (by decide +kernel)), List.forall_mem_cons.mpr ⟨st_str (k := 326) (tx := "no such number of days") (hts _ (tb4 (i := 186) rfl)) (f1 (.exactly (.string RX8 326) "java/lang/String") (by decide +kernel)), List.forall_mem_cons.mpr ⟨st_str (k := 404) (tx := "no such date") (hts _ (tb4 (i := 197) rfl)) (f1 (.exactly (.string RX8 404) "java/lang/String") (by decide +kernel)), fun _ h => absurd h List.not_mem_nil⟩⟩⟩⟩⟩⟩⟩⟩⟩⟩⟩⟩⟩⟩⟩⟩⟩⟩⟩⟩⟩⟩⟩⟩⟩⟩⟩⟩⟩
  · exact List.forall_mem_cons.mpr ⟨va_Nw.of rfl (hts _ (tb1 (i := 148) rfl)), List.forall_mem_cons.mpr ⟨va_Nw.of rfl (hts _ (tb2 (i := 1) rfl)), List.forall_mem_cons.mpr ⟨va_Nw.of rfl (hts _ (tb1 (i := 216) rfl)), List.forall_mem_cons.mpr ⟨va_Nw.of rfl (hts _ (tb1 (i := 150) rfl)), List.forall_mem_cons.mpr ⟨va_Nw.of rfl (hts _ (tb1 (i := 152) rfl)), List.forall_mem_cons.mpr ⟨va_Nw.of rfl (hts _ (tb1 (i := 154) rfl)), fun _ h => absurd h List.not_mem_nil⟩⟩⟩⟩⟩⟩
theorem Wd_start {Γ : zG} {s : State} (h : zKn Γ s) : Wd Γ (zA zK0 s.heap.size) zK0 (fun _ _ => 0) (fun _ _ => none) s s.heap [] :=
  ⟨h, fun q g => Or.inr g, va_S.rf, [], fun a => ⟨fun g => absurd g List.not_mem_nil, fun g => absurd rfl g⟩, fun k q g => by simp [va_pl] at g, fun i j p q g => by simp [va_pl] at g, fun k q g => by simp [va_pl] at g⟩
