-- ===== the world at the law's entry =====
theorem st_arr {s : State} {args : Array Value} {ty : FieldType} (h : (Cond.arrayClass ty).before args s = true) : ∃ cA, s.vm.findClass ("[" ++ ty.toString) = some cA ∧ ArrOfT s cA ty := by
  obtain ⟨c, k, comp, h1, h2, h3⟩ := Cond.arrayClass_spec h
  exact ⟨c, h1, fun n z => ⟨fun k h => (by cases h), k, h2, comp, h3⟩⟩
theorem st_arO {s : State} {args : Array Value} {C : String} (h : (Cond.arrayOver (.object C)).before args s = true) : ∃ cA, ArrOfT s cA (.object C) ∧ va_RA s cA (.object C) := by
  obtain ⟨comp, c, k, h1, h2, h3, h4, h5⟩ := Cond.arrayOver_spec h
  exact ⟨c, fun n z => ⟨fun k h => (by cases h), k, h3, comp, h4⟩, k, comp, h3, h4, h1, h5⟩
theorem st_arA {s : State} {args : Array Value} (h : (Cond.arrayOver (.array .int)).before args s = true) : ∃ cA comp kA, s.vm.findClass (FieldType.array .int).toString = some comp ∧ ArrOfT s cA (.array .int) ∧ va_RA s cA (.array .int) ∧ s.vm.classes[cA]? = some kA ∧ kA.kind = .array comp (.array .int) := by
  obtain ⟨comp, c, k, h1, h2, h3, h4, h5⟩ := arrayOverA_spec h
  exact ⟨c, comp, k, h1, fun n z => ⟨fun k h => (by cases h), k, h3, comp, h4⟩, h5, h3, h4⟩
theorem st_tr {l : Launch} (h : l.flags = flags0) : l.stackTraces = false := by unfold Launch.stackTraces; rw [h]; decide +kernel
set_option maxRecDepth 40000 in
theorem zKn_start {s : State} {b : Nat} (hts : ∀ w ∈ lw_tbl, w.before #[Value.ref b] s = true) : ∃ Γ : zG, zKn Γ s := by
  obtain ⟨c0, i0, k0⟩ := u_known (C := RX0) (T := TX0) (N := 3) (n := 3) hts GG_l0 (hts _ (GG_in _ wt_X0))
  obtain ⟨c2, i2, k2⟩ := u_known (C := RX2) (T := TX2) (N := 4) (n := 4) hts GG_l2 (hts _ (GG_in _ wt_X2))
  obtain ⟨c3, i3, k3⟩ := u_known (C := RX3) (T := TX3) (N := 3) (n := 3) hts GG_l3 (hts _ (GG_in _ wt_X3))
  obtain ⟨c4, i4, k4⟩ := u_known (C := RX4) (T := TX4) (N := 7) (n := 7) hts GG_l4 (hts _ (GG_in _ wt_X4))
  obtain ⟨c5, i5, k5⟩ := u_known (C := RX5) (T := TX5) (N := 18) (n := 18) hts GG_l5 (hts _ (GG_in _ wt_X5))
  obtain ⟨c6, i6, k6⟩ := u_known (C := RX6) (T := TX6) (N := 6) (n := 6) hts GG_l6 (hts _ (GG_in _ wt_X6))
  obtain ⟨c7, i7, k7⟩ := u_known (C := RX7) (T := TX7) (N := 8) (n := 8) hts GG_l7 (hts _ (GG_in _ wt_X7))
  obtain ⟨c8, i8, k8⟩ := u_known (C := RX8) (T := TX8) (N := 8) (n := 8) hts GG_l8 (hts _ (GG_in _ wt_X8))
  obtain ⟨c9, i9, k9⟩ := u_known (C := RX9) (T := TX9) (N := 37) (n := 37) hts GG_l9 (hts _ (GG_in _ wt_X9))
  obtain ⟨aI, nI9, oI⟩ := st_arr (ty := .int) (hts _ (tb1 (i := 61) rfl))
  obtain ⟨aB, nB, oB⟩ := st_arr (ty := .byte) (hts _ (tb3 (i := 7) rfl))
  obtain ⟨aL, nL, oL⟩ := st_arr (ty := .long) (hts _ (tb9 (i := 87) rfl))
  obtain ⟨aD, nD, oD⟩ := st_arr (ty := .double) (hts _ (tb9 (i := 88) rfl))
  have ho3 : (Cond.arrayOver (.object RX3)).before #[Value.ref b] s = true := hts _ (tb1 (i := 40) rfl)
  obtain ⟨a3, r3, q3⟩ := st_arO ho3
  have ho4 : (Cond.arrayOver (.object RX4)).before #[Value.ref b] s = true := hts _ (tb1 (i := 42) rfl)
  obtain ⟨a4, r4, q4⟩ := st_arO ho4
  have ho5 : (Cond.arrayOver (.object RX5)).before #[Value.ref b] s = true := hts _ (tb1 (i := 44) rfl)
  obtain ⟨a5, r5, q5⟩ := st_arO ho5
  have ho6 : (Cond.arrayOver (.object RX6)).before #[Value.ref b] s = true := hts _ (tb1 (i := 75) rfl)
  obtain ⟨a6, r6, q6⟩ := st_arO ho6
  have ho2 : (Cond.arrayOver (.object RX2)).before #[Value.ref b] s = true := hts _ (tb1 (i := 100) rfl)
  obtain ⟨a2, r2, q2⟩ := st_arO ho2
  have hoA : (Cond.arrayOver (.array .int)).before #[Value.ref b] s = true := hts _ (tb5 (i := 208) rfl)
  obtain ⟨aA, comp, kA, e1, e2, e3, e4, e5⟩ := st_arA hoA
  have eI : comp = aI := Option.some.inj (e1.symm.trans nI9)
  refine ⟨((fun k => match k with | 0 => c0 | 1 => c2 | 2 => c3 | 3 => c4 | 4 => c5 | 5 => c6 | 6 => c7 | 7 => c8 | _ => c9, fun k => match k with | 0 => i0 | 1 => i2 | 2 => i3 | 3 => i4 | 4 => i5 | 5 => i6 | 6 => i7 | 7 => i8 | _ => i9), fun k => match k with | 0 => aI | 1 => aB | 2 => aL | 3 => aD | 4 => a3 | 5 => a4 | 6 => a5 | 7 => a6 | 8 => a2 | _ => aA), ⟨fun k q hq => ?_, fun k q hq => ?_⟩, ⟨kA, e4, by rw [← eI]; exact e5⟩, va_AO.of ho2, va_AO.of ho3, va_AO.of ho4, va_AO.of ho5, va_AO.of ho6, hoA, va_Nw.of rfl (hts _ (tb8 (i := 40) rfl))⟩
  · match k, hq with
    | 0, hq => cases hq; exact k0
    | 1, hq => cases hq; exact k2
    | 2, hq => cases hq; exact k3
    | 3, hq => cases hq; exact k4
    | 4, hq => cases hq; exact k5
    | 5, hq => cases hq; exact k6
    | 6, hq => cases hq; exact k7
    | 7, hq => cases hq; exact k8
    | 8, hq => cases hq; exact k9
    | k + 9, hq => simp [zcl] at hq
  · match k, hq with
    | 0, hq => cases hq; exact ⟨oI, nI9⟩
    | 1, hq => cases hq; exact ⟨oB, nB⟩
    | 2, hq => cases hq; exact ⟨oL, nL⟩
    | 3, hq => cases hq; exact ⟨oD, nD⟩
    | 4, hq => cases hq; exact ⟨r3, q3⟩
    | 5, hq => cases hq; exact ⟨r4, q4⟩
    | 6, hq => cases hq; exact ⟨r5, q5⟩
    | 7, hq => cases hq; exact ⟨r6, q6⟩
    | 8, hq => cases hq; exact ⟨r2, q2⟩
    | 9, hq => cases hq; exact ⟨e2, e3⟩
    | k + 10, hq => simp [ztys] at hq
def zK0 : zK := fun _ => (0, 0)
theorem st_and {a b : Cond} {args : Array Value} {s : State} (h : (Cond.and a b).before args s = true) : a.before args s = true ∧ b.before args s = true := by
  rw [Cond.before_and, Bool.and_eq_true] at h; exact h
theorem st_str {s : State} {args : Array Value} {k : Nat} {tx : String} (h1 : (Cond.stringRef RX8 k tx).before args s = true) (h2 : (Cond.exactly (.string RX8 k) "java/lang/String").before args s = true) : ∃ sa, vk_R RX8 k tx sa s := by
  obtain ⟨a, c, cell, k9, h3, -⟩ := Cond.exactly_spec h2
  exact ⟨a, vk_R.of h1 h3⟩
set_option maxRecDepth 40000 in
theorem zXs_start {s : State} {b : Nat} (hts : ∀ w ∈ lw_tbl, w.before #[Value.ref b] s = true) (hgv : (Jvm.Cond.and given_1 narrow_1).before #[Value.ref b] s = true) : zXs zK0 s := by
  obtain ⟨-, hn⟩ := st_and hgv
  obtain ⟨hn12, hn34⟩ := st_and hn
  obtain ⟨hn1, hn2⟩ := st_and hn12
  obtain ⟨hn3, hn4⟩ := st_and hn34
  have f1 := flat_of_before narrow_1_1 hn1
  have f2 := flat_of_before narrow_1_2 hn2
  have f3 := flat_of_before narrow_1_3 hn3
  have f4 := flat_of_before narrow_1_4 hn4
  have hA : ∀ a : Nat, a < s.heap.size → ¬ zA zK0 s.heap.size a := fun a h1 h2 => by rcases h2 with h2 | h2; exact h2 rfl; omega
  have hI : (Cond.initialized Bundle.tN).before #[Value.ref b] s = true := hts _ (tb1 (i := 6) rfl)
  refine ⟨vx_Zqof (hts _ (tb2 (i := 206) rfl)) hI (f1 (.isRef (.static Bundle.tN "UNASSIGNED_STACK" Bundle.steD)) (by decide +kernel)) hA, vx_Zqof (hts _ (tb2 (i := 208) rfl)) hI (f1 (.isRef (.static Bundle.tN "SUPPRESSED_SENTINEL" Bundle.listD)) (by decide +kernel)) hA, ?_, ?_, ?_⟩
  · exact List.forall_mem_cons.mpr ⟨st_str (k := 394) (tx := "year is not 1900 to 2099") (hts _ (tb2 (i := 221) rfl)) (f1 (.exactly (.string RX8 394) "java/lang/String") (by decide +kernel)), List.forall_mem_cons.mpr ⟨st_str (k := 58) (tx := "no such month") (hts _ (tb3 (i := 8) rfl)) (f1 (.exactly (.string RX8 58) "java/lang/String") (by decide +kernel)), List.forall_mem_cons.mpr ⟨st_str (k := 72) (tx := "the month has no such day") (hts _ (tb3 (i := 13) rfl)) (f1 (.exactly (.string RX8 72) "java/lang/String") (by decide +kernel)), List.forall_mem_cons.mpr ⟨st_str (k := 389) (tx := "no such DAY") (hts _ (tb3 (i := 36) rfl)) (f2 (.exactly (.string RX8 389) "java/lang/String") (by decide +kernel)), List.forall_mem_cons.mpr ⟨st_str (k := 100) (tx := "the year would not be 1900 to 2099") (hts _ (tb3 (i := 107) rfl)) (f2 (.exactly (.string RX8 100) "java/lang/String") (by decide +kernel)), List.forall_mem_cons.mpr ⟨st_str (k := 108) (tx := "no such month or kind") (hts _ (tb3 (i := 117) rfl)) (f2 (.exactly (.string RX8 108) "java/lang/String") (by decide +kernel)), List.forall_mem_cons.mpr ⟨st_str (k := 113) (tx := "no such number of this kind") (hts _ (tb3 (i := 121) rfl)) (f2 (.exactly (.string RX8 113) "java/lang/String") (by decide +kernel)), List.forall_mem_cons.mpr ⟨st_str (k := 115) (tx := "a day by Easter has no month") (hts _ (tb3 (i := 122) rfl)) (f2 (.exactly (.string RX8 115) "java/lang/String") (by decide +kernel)), List.forall_mem_cons.mpr ⟨st_str (k := 119) (tx := "there are 24 patterns") (hts _ (tb3 (i := 132) rfl)) (f2 (.exactly (.string RX8 119) "java/lang/String") (by decide +kernel)), List.forall_mem_cons.mpr ⟨st_str (k := 398) (tx := "no such pattern") (hts _ (tb3 (i := 166) rfl)) (f2 (.exactly (.string RX8 398) "java/lang/String") (by decide +kernel)), List.forall_mem_cons.mpr ⟨st_str (k := 138) (tx := "base is not -840 to 840") (hts _ (tb3 (i := 189) rfl)) (f2 (.exactly (.string RX8 138) "java/lang/String") (by decide +kernel)), List.forall_mem_cons.mpr ⟨st_str (k := 140) (tx := "there are 6 places") (hts _ (tb3 (i := 190) rfl)) (f2 (.exactly (.string RX8 140) "java/lang/String") (by decide +kernel)), List.forall_mem_cons.mpr ⟨st_str (k := 400) (tx := "no such place") (hts _ (tb3 (i := 203) rfl)) (f2 (.exactly (.string RX8 400) "java/lang/String") (by decide +kernel)), List.forall_mem_cons.mpr ⟨st_str (k := 396) (tx := "lastYear is not firstYear to 2099") (hts _ (tb3 (i := 207) rfl)) (f2 (.exactly (.string RX8 396) "java/lang/String") (by decide +kernel)), List.forall_mem_cons.mpr ⟨st_str (k := 151) (tx := "no such minute, clock or saving") (hts _ (tb3 (i := 208) rfl)) (f2 (.exactly (.string RX8 151) "java/lang/String") (by decide +kernel)), List.forall_mem_cons.mpr ⟨st_str (k := 159) (tx := "a turn goes by one day of a year") (hts _ (tb3 (i := 209) rfl)) (f2 (.exactly (.string RX8 159) "java/lang/String") (by decide +kernel)), List.forall_mem_cons.mpr ⟨st_str (k := 165) (tx := "the place has 6 turns") (hts _ (tb3 (i := 214) rfl)) (f2 (.exactly (.string RX8 165) "java/lang/String") (by decide +kernel)), List.forall_mem_cons.mpr ⟨st_str (k := 392) (tx := "no such MOMENT") (hts _ (tb4 (i := 43) rfl)) (f2 (.exactly (.string RX8 392) "java/lang/String") (by decide +kernel)), List.forall_mem_cons.mpr ⟨st_str (k := 201) (tx := "no such begin") (hts _ (tb4 (i := 93) rfl)) (f3 (.exactly (.string RX8 201) "java/lang/String") (by decide +kernel)), List.forall_mem_cons.mpr ⟨st_str (k := 203) (tx := "no such kind, step or weekdays") (hts _ (tb4 (i := 94) rfl)) (f3 (.exactly (.string RX8 203) "java/lang/String") (by decide +kernel)), List.forall_mem_cons.mpr ⟨st_str (k := 205) (tx := "there are 6 series") (hts _ (tb4 (i := 95) rfl)) (f3 (.exactly (.string RX8 205) "java/lang/String") (by decide +kernel)), List.forall_mem_cons.mpr ⟨st_str (k := 402) (tx := "no such series") (hts _ (tb4 (i := 234) rfl)) (f3 (.exactly (.string RX8 402) "java/lang/String") (by decide +kernel)), List.forall_mem_cons.mpr ⟨st_str (k := 220) (tx := "the series has 4 patterns") (hts _ (tb4 (i := 235) rfl)) (f3 (.exactly (.string RX8 220) "java/lang/String") (by decide +kernel)), List.forall_mem_cons.mpr ⟨st_str (k := 222) (tx := "choice is not -6 to 6") (hts _ (tb5 (i := 3) rfl)) (f3 (.exactly (.string RX8 222) "java/lang/String") (by decide +kernel)), List.forall_mem_cons.mpr ⟨st_str (k := 227) (tx := "most is not 0 to 500") (hts _ (tb5 (i := 11) rfl)) (f3 (.exactly (.string RX8 227) "java/lang/String") (by decide +kernel)), List.forall_mem_cons.mpr ⟨st_str (k := 238) (tx := "no last DAY of this series") (hts _ (tb5 (i := 19) rfl)) (f3 (.exactly (.string RX8 238) "java/lang/String") (by decide +kernel)), List.forall_mem_cons.mpr ⟨st_str (k := 254) (tx := "the series has 8 exceptions") (hts _ (tb5 (i := 28) rfl)) (f3 (.exactly (.string RX8 254) "java/lang/String") (by decide +kernel)), List.forall_mem_cons.mpr ⟨st_str (k := 404) (tx := "no such date") (hts _ (tb5 (i := 46) rfl)) (f3 (.exactly (.string RX8 404) "java/lang/String") (by decide +kernel)), List.forall_mem_cons.mpr ⟨st_str (k := 285) (tx := "weekdays is not 1 to 127") (hts _ (tb5 (i := 93) rfl)) (f3 (.exactly (.string RX8 285) "java/lang/String") (by decide +kernel)), List.forall_mem_cons.mpr ⟨st_str (k := 290) (tx := "first is not 0 to 1439") (hts _ (tb5 (i := 101) rfl)) (f3 (.exactly (.string RX8 290) "java/lang/String") (by decide +kernel)), List.forall_mem_cons.mpr ⟨st_str (k := 292) (tx := "last is not first + 1 to 1440") (hts _ (tb5 (i := 102) rfl)) (f3 (.exactly (.string RX8 292) "java/lang/String") (by decide +kernel)), List.forall_mem_cons.mpr ⟨st_str (k := 300) (tx := "way is not 0 to 3") (hts _ (tb5 (i := 110) rfl)) (f3 (.exactly (.string RX8 300) "java/lang/String") (by decide +kernel)), List.forall_mem_cons.mpr ⟨st_str (k := 309) (tx := "there are 20 feasts") (hts _ (tb5 (i := 111) rfl)) (f3 (.exactly (.string RX8 309) "java/lang/String") (by decide +kernel)), List.forall_mem_cons.mpr ⟨st_str (k := 326) (tx := "no such number of days") (hts _ (tb5 (i := 157) rfl)) (f3 (.exactly (.string RX8 326) "java/lang/String") (by decide +kernel)), List.forall_mem_cons.mpr ⟨st_str (k := 331) (tx := "days is not -200 to 200") (hts _ (tb5 (i := 165) rfl)) (f4 (.exactly (.string RX8 331) "java/lang/String") (by decide +kernel)), List.forall_mem_cons.mpr ⟨st_str (k := 344) (tx := "no such number of minutes") (hts _ (tb5 (i := 181) rfl)) (f4 (.exactly (.string RX8 344) "java/lang/String") (by decide +kernel)), List.forall_mem_cons.mpr ⟨st_str (k := 346) (tx := "work is not 1 to 10000") (hts _ (tb5 (i := 189) rfl)) (f4 (.exactly (.string RX8 346) "java/lang/String") (by decide +kernel)), fun _ h => absurd h List.not_mem_nil⟩⟩⟩⟩⟩⟩⟩⟩⟩⟩⟩⟩⟩⟩⟩⟩⟩⟩⟩⟩⟩⟩⟩⟩⟩⟩⟩⟩⟩⟩⟩⟩⟩⟩⟩⟩⟩
  · exact List.forall_mem_cons.mpr ⟨va_Nw.of rfl (hts _ (tb2 (i := 181) rfl)), List.forall_mem_cons.mpr ⟨va_Nw.of rfl (hts _ (tb3 (i := 29) rfl)), List.forall_mem_cons.mpr ⟨va_Nw.of rfl (hts _ (tb3 (i := 125) rfl)), List.forall_mem_cons.mpr ⟨va_Nw.of rfl (hts _ (tb2 (i := 183) rfl)), List.forall_mem_cons.mpr ⟨va_Nw.of rfl (hts _ (tb2 (i := 185) rfl)), List.forall_mem_cons.mpr ⟨va_Nw.of rfl (hts _ (tb2 (i := 187) rfl)), fun _ h => absurd h List.not_mem_nil⟩⟩⟩⟩⟩⟩
  · exact List.forall_mem_cons.mpr ⟨va_Nc.of (f1 (.not (.castable "java/lang/IllegalArgumentException" "java/lang/IndexOutOfBoundsException")) (by decide +kernel)), List.forall_mem_cons.mpr ⟨va_Nc.of (f1 (.not (.castable "java/lang/IllegalStateException" "java/lang/IndexOutOfBoundsException")) (by decide +kernel)), List.forall_mem_cons.mpr ⟨va_Nc.of (f1 (.not (.castable "java/lang/IllegalStateException" "java/lang/IllegalArgumentException")) (by decide +kernel)), fun _ h => absurd h List.not_mem_nil⟩⟩⟩
theorem st_46 {s : State} {b : Nat} (hts : ∀ w ∈ lw_tbl, w.before #[Value.ref b] s = true) : w46.before #[Value.ref b] s = true := hts _ (tb3 (i := 112) rfl)
theorem Wd_start {Γ : zG} {s : State} (h : zKn Γ s) : Wd Γ (zA zK0 s.heap.size) zK0 (fun _ _ => 0) (fun _ _ => none) s s.heap [] :=
  ⟨h, fun q g => Or.inr g, va_S.rf, [], fun a => ⟨fun g => absurd g List.not_mem_nil, fun g => absurd rfl g⟩, fun k q g => by simp [va_pl] at g, fun i j p q g => by simp [va_pl] at g, fun k q g => by simp [va_pl] at g⟩
