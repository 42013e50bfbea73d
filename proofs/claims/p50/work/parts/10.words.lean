/-- what a call of a method asks of the tables -/
def zcv (y : MethodName) (b : ByteArray) (n : Nat) (ret : Option FieldType) (na : Nat) : Prop := Cond.code y b n ret ∈ GG ∧ Cond.initialized y.cls ∈ GG ∧ Cond.instanceMethod y ∈ GG ∧ Cond.selects y.cls y y ∈ GG ∧ (y.cls ≠ "java/lang/invoke/MethodHandle" ∧ y.cls ≠ "java/lang/invoke/VarHandle" ∧ (parseMethodDescriptor y.desc).map (fun d => d.parameters.length) = some na)
def zci (y : MethodName) (b : ByteArray) (n : Nat) (na : Nat) : Prop := Cond.code y b n none ∈ GG ∧ Cond.initialized y.cls ∈ GG ∧ Cond.instanceMethod y ∈ GG ∧ y.name = "<init>" ∧ (y.cls ≠ "java/lang/invoke/MethodHandle" ∧ y.cls ≠ "java/lang/invoke/VarHandle" ∧ (parseMethodDescriptor y.desc).map (fun d => d.parameters.length) = some na)
def zcs (y : MethodName) (b : ByteArray) (n : Nat) (ret : Option FieldType) (na : Nat) : Prop := Cond.code y b n ret ∈ GG ∧ Cond.initialized y.cls ∈ GG ∧ Cond.static y ∈ GG ∧ (y.cls ≠ "java/lang/invoke/MethodHandle" ∧ y.cls ≠ "java/lang/invoke/VarHandle" ∧ (parseMethodDescriptor y.desc).map (fun d => d.parameters.length) = some na)
section ZBUN
variable {p : Program} {l : Launch} {e : Env} {R : Room} {s : State} {m : MethodId} {args : Array Value} {below : List Frame} {meth : Method} {c : Code} {H : Heap} {locs : List Loc} {cells slots : Nat} {Q : State → Prop}
variable {cc : ByteArray} {pc : Nat} {ls : Array Slot} {rest st0 : List Value} {Γ : zG} {A : Nat → Prop} {K : zK} {X X' : zX} {Rf Rf' : zR} {a : Nat}
variable {y : MethodName} {b : ByteArray} {n nL index na d mc ms : Nat} {ret : Option FieldType} {own : String} {As : List Value} {post : Option Value → zK → zX → zR → Prop}
theorem zrS (hx : p.tables.exec = Jvm.exec) (hb : c.code = cc) (hml : c.maxLocals = nL) (hown : s.vm.findClass own = some m.cls) (hG : ∀ w ∈ GG, w.before args s = true) (hw : Wd Γ A K X Rf s H locs) (hM : Ct l y b n ret d mc ms Γ As K X Rf post) (hv : zcs y b n ret na) (hl : Cond.methodLink own index y ∈ GG) (hn : As.length = na) (hR : d + 1 ≤ R.frames ∧ 8 + (n + 11) + 47 * d ≤ R.locals)
    (hsz : ls.size = nL) (hstk : st0 = As.reverse ++ rest) (hcat : (rest.map fun v => v.category).sum ≤ 8) (hdg : decode cc pc = .ok (.invokestatic index, 3)) (hf : cells + mc ≤ R.cells ∧ slots + ms ≤ R.slots) :
    va_Run p l e R s m args below meth c H locs cells slots mc ms (F0 m pc ls st0) rest (zQ Γ K H.size post As.toArray) (zA K H.size) := zrunS hx hb hml hown hG hw hM hv.1 hv.2.1 hl hv.2.2.1 hv.2.2.2 hn hR hsz hstk hcat hdg hf
theorem zrV (hx : p.tables.exec = Jvm.exec) (hb : c.code = cc) (hml : c.maxLocals = nL) (hown : s.vm.findClass own = some m.cls) (hG : ∀ w ∈ GG, w.before args s = true) (hw : Wd Γ A K X Rf s H locs) {rv ci : Nat} (hM : Ct l y b n ret d mc ms Γ (.ref rv :: As) K X Rf post) {T : u_T} {N : Nat} (hk : K rv = (1, ci)) (hcl : zcl[ci]? = some (y.cls, T, N)) (hv : zcv y b n ret na) (hl : Cond.methodLink own index y ∈ GG) (hn : As.length = na) (hR : d + 1 ≤ R.frames ∧ 8 + (n + 11) + 47 * d ≤ R.locals)
    (hsz : ls.size = nL) (hstk : st0 = As.reverse ++ .ref rv :: rest) (hcat : (rest.map fun v => v.category).sum ≤ 8) (hdg : decode cc pc = .ok (.invokevirtual index, 3)) (hf : cells + mc ≤ R.cells ∧ slots + ms ≤ R.slots) :
    va_Run p l e R s m args below meth c H locs cells slots mc ms (F0 m pc ls st0) rest (zQ Γ K H.size post (Value.ref rv :: As).toArray) (zA K H.size) := zrunV hx hb hml hown hG hw hM hk hcl hv.1 hv.2.1 hl hv.2.2.1 hv.2.2.2.1 hv.2.2.2.2 hn hR hsz hstk hcat hdg hf
theorem zrI (hx : p.tables.exec = Jvm.exec) (hb : c.code = cc) (hml : c.maxLocals = nL) (hown : s.vm.findClass own = some m.cls) (hG : ∀ w ∈ GG, w.before args s = true) (hw : Wd Γ A K X Rf s H locs) {rv : Nat} (hM : Ct l y b n none d mc ms Γ (.ref rv :: As) K X Rf post) (hv : zci y b n na) (hl : Cond.methodLink own index y ∈ GG) (hn : As.length = na) (hR : d + 1 ≤ R.frames ∧ 8 + (n + 11) + 47 * d ≤ R.locals)
    (hsz : ls.size = nL) (hstk : st0 = As.reverse ++ .ref rv :: rest) (hcat : (rest.map fun v => v.category).sum ≤ 8) (hdg : decode cc pc = .ok (.invokespecial index, 3)) (hf : cells + mc ≤ R.cells ∧ slots + ms ≤ R.slots) :
    va_Run p l e R s m args below meth c H locs cells slots mc ms (F0 m pc ls st0) rest (zQ Γ K H.size post (Value.ref rv :: As).toArray) (zA K H.size) := zrunI hx hb hml hown hG hw hM hv.1 hv.2.1 hl hv.2.2.1 hv.2.2.2.1 hv.2.2.2.2 hn hR hsz hstk hcat hdg hf
end ZBUN
theorem wn_L_16 : Cond.classLink RL 16 RX8 ∈ GG := GG_mem (i := 0) (j := 0) rfl rfl
theorem wt_X8 : Cond.instantiable RX8 8 ∈ GG := GG_mem (i := 0) (j := 1) rfl rfl
theorem wi_X8 : Cond.initialized RX8 ∈ GG := GG_mem (i := 0) (j := 2) rfl rfl
theorem wl_L_34 : Cond.methodLink RL 34 Lib.Math.min.name ∈ GG := GG_mem (i := 0) (j := 3) rfl rfl
theorem wi_javalangMath : Cond.initialized "java/lang/Math" ∈ GG := GG_mem (i := 0) (j := 5) rfl rfl
theorem wk_L_43 : Cond.constant RL 43 (iI 105190560) ∈ GG := by rw [show iI 105190560 = (105190560 : Int32) from by decide +kernel]; exact GG_mem (i := 0) (j := 7) rfl rfl
theorem wk_L_69 : Cond.constant RL 69 (iI 73049) ∈ GG := by rw [show iI 73049 = (73049 : Int32) from by decide +kernel]; exact GG_mem (i := 0) (j := 8) rfl rfl
theorem wl_L_21 : Cond.methodLink RL 21 yX8_init ∈ GG := GG_mem (i := 0) (j := 9) rfl rfl
theorem wl_X8_1 : Cond.methodLink RX8 1 objectInit ∈ GG := GG_mem (i := 0) (j := 12) rfl rfl
theorem wn_X8_7 : Cond.classLink RX8 7 RX3 ∈ GG := GG_mem (i := 0) (j := 15) rfl rfl
theorem wf_X8_9 : Cond.fieldLink RX8 9 "ZoneCalendar" "patterns" "[LZoneCalendar$Pattern;" ∈ GG := GG_mem (i := 0) (j := 16) rfl rfl
theorem wf_X8_15 : Cond.fieldLink RX8 15 "ZoneCalendar" "patternCount" "I" ∈ GG := GG_mem (i := 0) (j := 17) rfl rfl
theorem wn_X8_19 : Cond.classLink RX8 19 RX4 ∈ GG := GG_mem (i := 0) (j := 18) rfl rfl
theorem wf_X8_21 : Cond.fieldLink RX8 21 "ZoneCalendar" "places" "[LZoneCalendar$Place;" ∈ GG := GG_mem (i := 0) (j := 19) rfl rfl
theorem wf_X8_25 : Cond.fieldLink RX8 25 "ZoneCalendar" "placeCount" "I" ∈ GG := GG_mem (i := 0) (j := 20) rfl rfl
theorem wn_X8_28 : Cond.classLink RX8 28 RX5 ∈ GG := GG_mem (i := 0) (j := 21) rfl rfl
theorem wf_X8_30 : Cond.fieldLink RX8 30 "ZoneCalendar" "seriesRow" "[LZoneCalendar$Series;" ∈ GG := GG_mem (i := 0) (j := 22) rfl rfl
theorem wf_X8_34 : Cond.fieldLink RX8 34 "ZoneCalendar" "seriesCount" "I" ∈ GG := GG_mem (i := 0) (j := 23) rfl rfl
theorem wn_X8_37 : Cond.classLink RX8 37 RX0 ∈ GG := GG_mem (i := 1) (j := 0) rfl rfl
theorem wt_X0 : Cond.instantiable RX0 3 ∈ GG := GG_mem (i := 1) (j := 1) rfl rfl
theorem wi_X0 : Cond.initialized RX0 ∈ GG := GG_mem (i := 1) (j := 2) rfl rfl
theorem wf_X8_42 : Cond.fieldLink RX8 42 "ZoneCalendar" "fitting" "LZoneCalendar$DayRow;" ∈ GG := GG_mem (i := 1) (j := 3) rfl rfl
theorem wn_X8_46 : Cond.classLink RX8 46 RX7 ∈ GG := GG_mem (i := 1) (j := 4) rfl rfl
theorem wt_X7 : Cond.instantiable RX7 8 ∈ GG := GG_mem (i := 1) (j := 5) rfl rfl
theorem wi_X7 : Cond.initialized RX7 ∈ GG := GG_mem (i := 1) (j := 6) rfl rfl
theorem wf_X8_49 : Cond.fieldLink RX8 49 "ZoneCalendar" "work" "LZoneCalendar$Work;" ∈ GG := GG_mem (i := 1) (j := 7) rfl rfl
theorem wl_X8_39 : Cond.methodLink RX8 39 yX0_init ∈ GG := GG_mem (i := 1) (j := 8) rfl rfl
theorem wl_X0_1 : Cond.methodLink RX0 1 objectInit ∈ GG := GG_mem (i := 1) (j := 11) rfl rfl
theorem wa_int : Cond.arrayClass .int ∈ GG := GG_mem (i := 1) (j := 12) rfl rfl
theorem wf_X0_7 : Cond.fieldLink RX0 7 "ZoneCalendar$DayRow" "numbers" "[I" ∈ GG := GG_mem (i := 1) (j := 13) rfl rfl
theorem wf_X0_13 : Cond.fieldLink RX0 13 "ZoneCalendar$DayRow" "first" "I" ∈ GG := GG_mem (i := 1) (j := 14) rfl rfl
theorem wf_X0_17 : Cond.fieldLink RX0 17 "ZoneCalendar$DayRow" "last" "I" ∈ GG := GG_mem (i := 1) (j := 15) rfl rfl
theorem wl_X8_48 : Cond.methodLink RX8 48 yX7_init ∈ GG := GG_mem (i := 1) (j := 16) rfl rfl
theorem wl_X7_3 : Cond.methodLink RX7 3 objectInit ∈ GG := GG_mem (i := 1) (j := 19) rfl rfl
theorem wf_X7_9 : Cond.fieldLink RX7 9 "ZoneCalendar$Work" "placeNumber" "I" ∈ GG := GG_mem (i := 1) (j := 20) rfl rfl
theorem wn_X7_15 : Cond.classLink RX7 15 RX4 ∈ GG := GG_mem (i := 1) (j := 21) rfl rfl
theorem wt_X4 : Cond.instantiable RX4 7 ∈ GG := GG_mem (i := 1) (j := 22) rfl rfl
theorem wi_X4 : Cond.initialized RX4 ∈ GG := GG_mem (i := 1) (j := 23) rfl rfl
theorem wf_X7_20 : Cond.fieldLink RX7 20 "ZoneCalendar$Work" "clock" "LZoneCalendar$Place;" ∈ GG := GG_mem (i := 2) (j := 0) rfl rfl
theorem wf_X7_24 : Cond.fieldLink RX7 24 "ZoneCalendar$Work" "week" "I" ∈ GG := GG_mem (i := 2) (j := 1) rfl rfl
theorem wf_X7_27 : Cond.fieldLink RX7 27 "ZoneCalendar$Work" "firstMinute" "I" ∈ GG := GG_mem (i := 2) (j := 2) rfl rfl
theorem wf_X7_30 : Cond.fieldLink RX7 30 "ZoneCalendar$Work" "lastMinute" "I" ∈ GG := GG_mem (i := 2) (j := 3) rfl rfl
theorem wn_X7_33 : Cond.classLink RX7 33 RX2 ∈ GG := GG_mem (i := 2) (j := 4) rfl rfl
theorem wf_X7_35 : Cond.fieldLink RX7 35 "ZoneCalendar$Work" "feasts" "[LZoneCalendar$Feast;" ∈ GG := GG_mem (i := 2) (j := 5) rfl rfl
theorem wf_X7_39 : Cond.fieldLink RX7 39 "ZoneCalendar$Work" "feastCount" "I" ∈ GG := GG_mem (i := 2) (j := 6) rfl rfl
theorem wn_X7_42 : Cond.classLink RX7 42 RX0 ∈ GG := GG_mem (i := 2) (j := 7) rfl rfl
theorem wf_X7_45 : Cond.fieldLink RX7 45 "ZoneCalendar$Work" "falling" "LZoneCalendar$DayRow;" ∈ GG := GG_mem (i := 2) (j := 8) rfl rfl
theorem wl_X7_17 : Cond.methodLink RX7 17 yX4_init ∈ GG := GG_mem (i := 2) (j := 9) rfl rfl
theorem wl_X4_3 : Cond.methodLink RX4 3 objectInit ∈ GG := GG_mem (i := 2) (j := 12) rfl rfl
theorem wf_X4_9 : Cond.fieldLink RX4 9 "ZoneCalendar$Place" "base" "I" ∈ GG := GG_mem (i := 2) (j := 13) rfl rfl
theorem wn_X4_15 : Cond.classLink RX4 15 RX6 ∈ GG := GG_mem (i := 2) (j := 14) rfl rfl
theorem wf_X4_17 : Cond.fieldLink RX4 17 "ZoneCalendar$Place" "turns" "[LZoneCalendar$Turn;" ∈ GG := GG_mem (i := 2) (j := 15) rfl rfl
theorem wf_X4_21 : Cond.fieldLink RX4 21 "ZoneCalendar$Place" "turnCount" "I" ∈ GG := GG_mem (i := 2) (j := 16) rfl rfl
theorem wf_X4_24 : Cond.fieldLink RX4 24 "ZoneCalendar$Place" "told" "[I" ∈ GG := GG_mem (i := 2) (j := 17) rfl rfl
theorem wf_X4_28 : Cond.fieldLink RX4 28 "ZoneCalendar$Place" "begins" "[I" ∈ GG := GG_mem (i := 2) (j := 18) rfl rfl
theorem wf_X4_31 : Cond.fieldLink RX4 31 "ZoneCalendar$Place" "savings" "[I" ∈ GG := GG_mem (i := 2) (j := 19) rfl rfl
theorem wf_X4_34 : Cond.fieldLink RX4 34 "ZoneCalendar$Place" "pieces" "I" ∈ GG := GG_mem (i := 2) (j := 20) rfl rfl
theorem wl_X7_44 : Cond.methodLink RX7 44 yX0_init ∈ GG := GG_mem (i := 2) (j := 21) rfl rfl
theorem wl_L_22 : Cond.methodLink RL 22 yL_cell ∈ GG := GG_mem (i := 2) (j := 22) rfl rfl
theorem wi_L : Cond.initialized RL ∈ GG := GG_mem (i := 3) (j := 0) rfl rfl
theorem wk_L_8 : Cond.constant RL 8 (iI 790386105) ∈ GG := by rw [show iI 790386105 = (790386105 : Int32) from by decide +kernel]; exact GG_mem (i := 3) (j := 2) rfl rfl
theorem wl_L_9 : Cond.methodLink RL 9 yL_below ∈ GG := GG_mem (i := 3) (j := 3) rfl rfl
theorem wk_L_7 : Cond.constant RL 7 (iI 2147483647) ∈ GG := by rw [show iI 2147483647 = (2147483647 : Int32) from by decide +kernel]; exact GG_mem (i := 3) (j := 6) rfl rfl
theorem wl_L_26 : Cond.methodLink RL 26 yL_pattern ∈ GG := GG_mem (i := 3) (j := 7) rfl rfl
theorem wl_L_15 : Cond.methodLink RL 15 yX8_addPattern ∈ GG := GG_mem (i := 3) (j := 10) rfl rfl
theorem wn_X8_56 : Cond.classLink RX8 56 "java/lang/IllegalArgumentException" ∈ GG := GG_mem (i := 3) (j := 14) rfl rfl
theorem wi_javalangIllegalArgumentException : Cond.initialized "java/lang/IllegalArgumentException" ∈ GG := GG_mem (i := 3) (j := 15) rfl rfl
theorem wn_X8_117 : Cond.classLink RX8 117 "java/lang/IllegalStateException" ∈ GG := GG_mem (i := 3) (j := 16) rfl rfl
theorem wi_javalangIllegalStateException : Cond.initialized "java/lang/IllegalStateException" ∈ GG := GG_mem (i := 3) (j := 17) rfl rfl
theorem wt_X3 : Cond.instantiable RX3 3 ∈ GG := GG_mem (i := 3) (j := 18) rfl rfl
theorem wi_X3 : Cond.initialized RX3 ∈ GG := GG_mem (i := 3) (j := 19) rfl rfl
theorem wl_X8_110 : Cond.methodLink RX8 110 yX3_greatestNumber ∈ GG := GG_mem (i := 3) (j := 20) rfl rfl
theorem wl_X8_122 : Cond.methodLink RX8 122 yX3_init ∈ GG := GG_mem (i := 3) (j := 23) rfl rfl
theorem wl_X3_3 : Cond.methodLink RX3 3 objectInit ∈ GG := GG_mem (i := 4) (j := 2) rfl rfl
theorem wf_X3_9 : Cond.fieldLink RX3 9 "ZoneCalendar$Pattern" "month" "I" ∈ GG := GG_mem (i := 4) (j := 3) rfl rfl
theorem wf_X3_15 : Cond.fieldLink RX3 15 "ZoneCalendar$Pattern" "kind" "I" ∈ GG := GG_mem (i := 4) (j := 4) rfl rfl
theorem wf_X3_18 : Cond.fieldLink RX3 18 "ZoneCalendar$Pattern" "number" "I" ∈ GG := GG_mem (i := 4) (j := 5) rfl rfl
theorem wl_L_30 : Cond.methodLink RL 30 yX8_addPlace ∈ GG := GG_mem (i := 4) (j := 6) rfl rfl
theorem wl_X8_142 : Cond.methodLink RX8 142 yX4_init ∈ GG := GG_mem (i := 4) (j := 10) rfl rfl
theorem wl_L_39 : Cond.methodLink RL 39 yX8_addTurn ∈ GG := GG_mem (i := 4) (j := 11) rfl rfl
theorem wf_X8_153 : Cond.fieldLink RX8 153 "ZoneCalendar$Pattern" "month" "I" ∈ GG := GG_mem (i := 4) (j := 15) rfl rfl
theorem wf_X8_156 : Cond.fieldLink RX8 156 "ZoneCalendar$Pattern" "kind" "I" ∈ GG := GG_mem (i := 4) (j := 16) rfl rfl
theorem wn_X8_167 : Cond.classLink RX8 167 RX6 ∈ GG := GG_mem (i := 4) (j := 17) rfl rfl
theorem wt_X6 : Cond.instantiable RX6 6 ∈ GG := GG_mem (i := 4) (j := 18) rfl rfl
theorem wi_X6 : Cond.initialized RX6 ∈ GG := GG_mem (i := 4) (j := 19) rfl rfl
theorem wl_X8_143 : Cond.methodLink RX8 143 yX8_needPlace ∈ GG := GG_mem (i := 4) (j := 20) rfl rfl
theorem wn_X8_387 : Cond.classLink RX8 387 "java/lang/IndexOutOfBoundsException" ∈ GG := GG_mem (i := 5) (j := 0) rfl rfl
theorem wi_javalangIndexOutOfBoundsException : Cond.initialized "java/lang/IndexOutOfBoundsException" ∈ GG := GG_mem (i := 5) (j := 1) rfl rfl
theorem wl_X8_125 : Cond.methodLink RX8 125 yX8_needPattern ∈ GG := GG_mem (i := 5) (j := 2) rfl rfl
theorem wl_X8_147 : Cond.methodLink RX8 147 yX8_needYears ∈ GG := GG_mem (i := 5) (j := 6) rfl rfl
theorem wl_X8_53 : Cond.methodLink RX8 53 yX8_needYear ∈ GG := GG_mem (i := 5) (j := 9) rfl rfl
theorem wl_X8_161 : Cond.methodLink RX8 161 yX4_hasRoom ∈ GG := GG_mem (i := 5) (j := 12) rfl rfl
theorem wl_X8_169 : Cond.methodLink RX8 169 yX6_init ∈ GG := GG_mem (i := 5) (j := 16) rfl rfl
theorem wl_X6_3 : Cond.methodLink RX6 3 objectInit ∈ GG := GG_mem (i := 5) (j := 19) rfl rfl
theorem wf_X6_9 : Cond.fieldLink RX6 9 "ZoneCalendar$Turn" "firstYear" "I" ∈ GG := GG_mem (i := 5) (j := 20) rfl rfl
theorem wf_X6_15 : Cond.fieldLink RX6 15 "ZoneCalendar$Turn" "lastYear" "I" ∈ GG := GG_mem (i := 5) (j := 21) rfl rfl
theorem wf_X6_18 : Cond.fieldLink RX6 18 "ZoneCalendar$Turn" "pattern" "LZoneCalendar$Pattern;" ∈ GG := GG_mem (i := 5) (j := 22) rfl rfl
theorem wf_X6_22 : Cond.fieldLink RX6 22 "ZoneCalendar$Turn" "minute" "I" ∈ GG := GG_mem (i := 5) (j := 23) rfl rfl
theorem wf_X6_25 : Cond.fieldLink RX6 25 "ZoneCalendar$Turn" "clock" "I" ∈ GG := GG_mem (i := 6) (j := 0) rfl rfl
theorem wf_X6_28 : Cond.fieldLink RX6 28 "ZoneCalendar$Turn" "saving" "I" ∈ GG := GG_mem (i := 6) (j := 1) rfl rfl
theorem wl_X8_172 : Cond.methodLink RX8 172 yX4_put ∈ GG := GG_mem (i := 6) (j := 2) rfl rfl
theorem wl_X8_176 : Cond.methodLink RX8 176 yX4_findPieces ∈ GG := GG_mem (i := 6) (j := 6) rfl rfl
theorem wl_X4_57 : Cond.methodLink RX4 57 Lib.Math.max.name ∈ GG := GG_mem (i := 6) (j := 10) rfl rfl
theorem wf_X4_63 : Cond.fieldLink RX4 63 "ZoneCalendar$Turn" "saving" "I" ∈ GG := GG_mem (i := 6) (j := 13) rfl rfl
theorem wl_X4_37 : Cond.methodLink RX4 37 yX4_addPiece ∈ GG := GG_mem (i := 6) (j := 14) rfl rfl
theorem wk_X4_67 : Cond.constant RX4 67 (iI 105190559) ∈ GG := by rw [show iI 105190559 = (105190559 : Int32) from by decide +kernel]; exact GG_mem (i := 6) (j := 18) rfl rfl
theorem wl_X4_41 : Cond.methodLink RX4 41 yX4_tellTurns ∈ GG := GG_mem (i := 6) (j := 19) rfl rfl
theorem wl_X4_49 : Cond.methodLink RX4 49 yX6_toldIn ∈ GG := GG_mem (i := 6) (j := 23) rfl rfl
theorem wl_X6_31 : Cond.methodLink RX6 31 yX1_januaryOf ∈ GG := GG_mem (i := 7) (j := 3) rfl rfl
theorem wi_X1 : Cond.initialized RX1 ∈ GG := GG_mem (i := 7) (j := 5) rfl rfl
theorem wl_X6_37 : Cond.methodLink RX6 37 yX3_toldIn ∈ GG := GG_mem (i := 7) (j := 7) rfl rfl
theorem wl_X3_21 : Cond.methodLink RX3 21 yX1_monthBegin ∈ GG := GG_mem (i := 7) (j := 11) rfl rfl
theorem wk_X1_11 : Cond.constant RX1 11 (iI 73049) ∈ GG := by rw [show iI 73049 = (73049 : Int32) from by decide +kernel]; exact GG_mem (i := 7) (j := 14) rfl rfl
theorem wl_X3_27 : Cond.methodLink RX3 27 yX1_easter ∈ GG := GG_mem (i := 7) (j := 15) rfl rfl
theorem wl_X1_19 : Cond.methodLink RX1 19 yX1_januaryOf ∈ GG := GG_mem (i := 7) (j := 18) rfl rfl
theorem wl_X1_12 : Cond.methodLink RX1 12 yX1_monthBegin ∈ GG := GG_mem (i := 7) (j := 19) rfl rfl
theorem wl_X3_30 : Cond.methodLink RX3 30 yX3_numberTold ∈ GG := GG_mem (i := 7) (j := 20) rfl rfl
theorem wl_X3_34 : Cond.methodLink RX3 34 yJ9_floorMod_7cf53 ∈ GG := GG_mem (i := 8) (j := 0) rfl rfl
theorem wi_J9 : Cond.initialized RJ9 ∈ GG := GG_mem (i := 8) (j := 2) rfl rfl
theorem wl_X4_45 : Cond.methodLink RX4 45 yX4_takeEarliest ∈ GG := GG_mem (i := 8) (j := 4) rfl rfl
theorem wk_X4_66 : Cond.constant RX4 66 (iI 105190560) ∈ GG := by rw [show iI 105190560 = (105190560 : Int32) from by decide +kernel]; exact GG_mem (i := 8) (j := 8) rfl rfl
theorem wl_X4_53 : Cond.methodLink RX4 53 yX6_momentOfTold ∈ GG := GG_mem (i := 8) (j := 9) rfl rfl
theorem wl_L_44 : Cond.methodLink RL 44 yX8_addSeries ∈ GG := GG_mem (i := 8) (j := 13) rfl rfl
theorem wk_X8_200 : Cond.constant RX8 200 (iI 105190559) ∈ GG := by rw [show iI 105190559 = (105190559 : Int32) from by decide +kernel]; exact GG_mem (i := 8) (j := 17) rfl rfl
theorem wt_X5 : Cond.instantiable RX5 18 ∈ GG := GG_mem (i := 8) (j := 18) rfl rfl
theorem wi_X5 : Cond.initialized RX5 ∈ GG := GG_mem (i := 8) (j := 19) rfl rfl
theorem wl_X8_207 : Cond.methodLink RX8 207 yX5_init ∈ GG := GG_mem (i := 8) (j := 20) rfl rfl
theorem wl_X5_5 : Cond.methodLink RX5 5 objectInit ∈ GG := GG_mem (i := 8) (j := 23) rfl rfl
theorem wf_X5_11 : Cond.fieldLink RX5 11 "ZoneCalendar$Series" "place" "LZoneCalendar$Place;" ∈ GG := GG_mem (i := 9) (j := 0) rfl rfl
theorem wf_X5_15 : Cond.fieldLink RX5 15 "ZoneCalendar$Series" "begin" "I" ∈ GG := GG_mem (i := 9) (j := 1) rfl rfl
theorem wf_X5_19 : Cond.fieldLink RX5 19 "ZoneCalendar$Series" "kind" "I" ∈ GG := GG_mem (i := 9) (j := 2) rfl rfl
theorem wf_X5_22 : Cond.fieldLink RX5 22 "ZoneCalendar$Series" "step" "I" ∈ GG := GG_mem (i := 9) (j := 3) rfl rfl
theorem wf_X5_25 : Cond.fieldLink RX5 25 "ZoneCalendar$Series" "weekdays" "I" ∈ GG := GG_mem (i := 9) (j := 4) rfl rfl
theorem wf_X5_28 : Cond.fieldLink RX5 28 "ZoneCalendar$Series" "beginDay" "I" ∈ GG := GG_mem (i := 9) (j := 5) rfl rfl
theorem wk_X5_31 : Cond.constant RX5 31 (iI 73048) ∈ GG := by rw [show iI 73048 = (73048 : Int32) from by decide +kernel]; exact GG_mem (i := 9) (j := 6) rfl rfl
theorem wl_X5_32 : Cond.methodLink RX5 32 Lib.Math.min.name ∈ GG := GG_mem (i := 9) (j := 7) rfl rfl
theorem wf_X5_38 : Cond.fieldLink RX5 38 "ZoneCalendar$Series" "latest" "I" ∈ GG := GG_mem (i := 9) (j := 8) rfl rfl
theorem wn_X5_47 : Cond.classLink RX5 47 RX3 ∈ GG := GG_mem (i := 9) (j := 9) rfl rfl
theorem wf_X5_55 : Cond.fieldLink RX5 55 "ZoneCalendar$Series" "usual" "LZoneCalendar$Pattern;" ∈ GG := GG_mem (i := 9) (j := 10) rfl rfl
theorem wf_X5_59 : Cond.fieldLink RX5 59 "ZoneCalendar$Series" "patterns" "[LZoneCalendar$Pattern;" ∈ GG := GG_mem (i := 9) (j := 11) rfl rfl
theorem wf_X5_63 : Cond.fieldLink RX5 63 "ZoneCalendar$Series" "patternCount" "I" ∈ GG := GG_mem (i := 9) (j := 12) rfl rfl
theorem wf_X5_66 : Cond.fieldLink RX5 66 "ZoneCalendar$Series" "choice" "I" ∈ GG := GG_mem (i := 9) (j := 13) rfl rfl
theorem wf_X5_69 : Cond.fieldLink RX5 69 "ZoneCalendar$Series" "most" "I" ∈ GG := GG_mem (i := 9) (j := 14) rfl rfl
theorem wf_X5_72 : Cond.fieldLink RX5 72 "ZoneCalendar$Series" "last" "I" ∈ GG := GG_mem (i := 9) (j := 15) rfl rfl
theorem wf_X5_75 : Cond.fieldLink RX5 75 "ZoneCalendar$Series" "exceptions" "[I" ∈ GG := GG_mem (i := 9) (j := 16) rfl rfl
theorem wf_X5_79 : Cond.fieldLink RX5 79 "ZoneCalendar$Series" "exceptionCount" "I" ∈ GG := GG_mem (i := 9) (j := 17) rfl rfl
theorem wf_X5_82 : Cond.fieldLink RX5 82 "ZoneCalendar$Series" "found" "[I" ∈ GG := GG_mem (i := 9) (j := 18) rfl rfl
theorem wf_X5_85 : Cond.fieldLink RX5 85 "ZoneCalendar$Series" "foundCount" "I" ∈ GG := GG_mem (i := 9) (j := 19) rfl rfl
theorem wf_X5_88 : Cond.fieldLink RX5 88 "ZoneCalendar$Series" "taken" "I" ∈ GG := GG_mem (i := 9) (j := 20) rfl rfl
theorem wl_X5_41 : Cond.methodLink RX5 41 yX1_monthWith ∈ GG := GG_mem (i := 9) (j := 21) rfl rfl
theorem wl_X1_16 : Cond.methodLink RX1 16 yX1_yearWith ∈ GG := GG_mem (i := 10) (j := 0) rfl rfl
theorem wl_X5_49 : Cond.methodLink RX5 49 yX1_numberInMonth ∈ GG := GG_mem (i := 10) (j := 3) rfl rfl
theorem wl_X1_22 : Cond.methodLink RX1 22 yX1_monthWith ∈ GG := GG_mem (i := 10) (j := 6) rfl rfl
theorem wl_X5_52 : Cond.methodLink RX5 52 yX3_init ∈ GG := GG_mem (i := 10) (j := 7) rfl rfl
theorem wl_X8_210 : Cond.methodLink RX8 210 yX5_findDates ∈ GG := GG_mem (i := 10) (j := 8) rfl rfl
theorem wl_X5_91 : Cond.methodLink RX5 91 yX5_findCounting ∈ GG := GG_mem (i := 10) (j := 12) rfl rfl
theorem wl_X5_95 : Cond.methodLink RX5 95 yX5_spanBegin ∈ GG := GG_mem (i := 10) (j := 16) rfl rfl
theorem wl_X5_102 : Cond.methodLink RX5 102 yX1_weekday ∈ GG := GG_mem (i := 10) (j := 20) rfl rfl
theorem wl_X1_25 : Cond.methodLink RX1 25 yJ9_floorMod_7cf53 ∈ GG := GG_mem (i := 10) (j := 23) rfl rfl
theorem wl_X5_105 : Cond.methodLink RX5 105 yX1_monthBegin ∈ GG := GG_mem (i := 11) (j := 0) rfl rfl
theorem wl_X5_108 : Cond.methodLink RX5 108 yX1_yearWith ∈ GG := GG_mem (i := 11) (j := 1) rfl rfl
theorem wl_X5_111 : Cond.methodLink RX5 111 yX1_januaryOf ∈ GG := GG_mem (i := 11) (j := 2) rfl rfl
theorem wl_X5_114 : Cond.methodLink RX5 114 yX0_clear ∈ GG := GG_mem (i := 11) (j := 3) rfl rfl
theorem wl_X0_20 : Cond.methodLink RX0 20 Lib.Math.min.name ∈ GG := GG_mem (i := 11) (j := 7) rfl rfl
theorem wl_X5_120 : Cond.methodLink RX5 120 yX5_markTold ∈ GG := GG_mem (i := 11) (j := 8) rfl rfl
theorem wl_X5_124 : Cond.methodLink RX5 124 yX5_rightWeekdays ∈ GG := GG_mem (i := 11) (j := 12) rfl rfl
theorem wl_X5_128 : Cond.methodLink RX5 128 yX0_firstDay ∈ GG := GG_mem (i := 11) (j := 16) rfl rfl
theorem wl_X5_131 : Cond.methodLink RX5 131 yX0_lastDay ∈ GG := GG_mem (i := 11) (j := 20) rfl rfl
theorem wl_X5_134 : Cond.methodLink RX5 134 yX5_markDay ∈ GG := GG_mem (i := 12) (j := 0) rfl rfl
theorem wl_X5_140 : Cond.methodLink RX5 140 yX1_isIn ∈ GG := GG_mem (i := 12) (j := 3) rfl rfl
theorem wl_X5_144 : Cond.methodLink RX5 144 yX0_write ∈ GG := GG_mem (i := 12) (j := 6) rfl rfl
theorem wl_X5_137 : Cond.methodLink RX5 137 yX3_toldIn ∈ GG := GG_mem (i := 12) (j := 10) rfl rfl
theorem wl_X5_98 : Cond.methodLink RX5 98 yX5_takeSpan ∈ GG := GG_mem (i := 12) (j := 11) rfl rfl
theorem wl_X5_147 : Cond.methodLink RX5 147 yX5_chosen ∈ GG := GG_mem (i := 12) (j := 15) rfl rfl
theorem wl_X5_158 : Cond.methodLink RX5 158 Lib.Math.abs.name ∈ GG := GG_mem (i := 12) (j := 19) rfl rfl
theorem wl_X5_155 : Cond.methodLink RX5 155 yX0_read ∈ GG := GG_mem (i := 12) (j := 22) rfl rfl
theorem wl_X5_151 : Cond.methodLink RX5 151 yX5_takeDay ∈ GG := GG_mem (i := 13) (j := 2) rfl rfl
theorem wl_X5_161 : Cond.methodLink RX5 161 yX5_isException ∈ GG := GG_mem (i := 13) (j := 6) rfl rfl
theorem wl_L_48 : Cond.methodLink RL 48 yX8_usePattern ∈ GG := GG_mem (i := 13) (j := 10) rfl rfl
theorem wf_X8_218 : Cond.fieldLink RX8 218 "ZoneCalendar$Series" "patternCount" "I" ∈ GG := GG_mem (i := 13) (j := 14) rfl rfl
theorem wf_X8_219 : Cond.fieldLink RX8 219 "ZoneCalendar$Series" "patterns" "[LZoneCalendar$Pattern;" ∈ GG := GG_mem (i := 13) (j := 15) rfl rfl
theorem wl_X8_214 : Cond.methodLink RX8 214 yX8_needSeries ∈ GG := GG_mem (i := 13) (j := 16) rfl rfl
theorem wl_L_51 : Cond.methodLink RL 51 yX8_setMost ∈ GG := GG_mem (i := 13) (j := 20) rfl rfl
theorem wf_X8_229 : Cond.fieldLink RX8 229 "ZoneCalendar$Series" "most" "I" ∈ GG := GG_mem (i := 14) (j := 0) rfl rfl
theorem wl_L_54 : Cond.methodLink RL 54 yX8_addFeast ∈ GG := GG_mem (i := 14) (j := 1) rfl rfl
theorem wf_X8_302 : Cond.fieldLink RX8 302 "ZoneCalendar$Work" "feastCount" "I" ∈ GG := GG_mem (i := 14) (j := 5) rfl rfl
theorem wf_X8_305 : Cond.fieldLink RX8 305 "ZoneCalendar$Work" "feasts" "[LZoneCalendar$Feast;" ∈ GG := GG_mem (i := 14) (j := 6) rfl rfl
theorem wn_X8_311 : Cond.classLink RX8 311 RX2 ∈ GG := GG_mem (i := 14) (j := 7) rfl rfl
theorem wt_X2 : Cond.instantiable RX2 4 ∈ GG := GG_mem (i := 14) (j := 8) rfl rfl
theorem wi_X2 : Cond.initialized RX2 ∈ GG := GG_mem (i := 14) (j := 9) rfl rfl
theorem wl_X8_313 : Cond.methodLink RX8 313 yX2_init ∈ GG := GG_mem (i := 14) (j := 10) rfl rfl
theorem wl_X2_1 : Cond.methodLink RX2 1 objectInit ∈ GG := GG_mem (i := 14) (j := 13) rfl rfl
theorem wf_X2_7 : Cond.fieldLink RX2 7 "ZoneCalendar$Feast" "firstYear" "I" ∈ GG := GG_mem (i := 14) (j := 14) rfl rfl
theorem wf_X2_13 : Cond.fieldLink RX2 13 "ZoneCalendar$Feast" "lastYear" "I" ∈ GG := GG_mem (i := 14) (j := 15) rfl rfl
theorem wf_X2_16 : Cond.fieldLink RX2 16 "ZoneCalendar$Feast" "pattern" "LZoneCalendar$Pattern;" ∈ GG := GG_mem (i := 14) (j := 16) rfl rfl
theorem wf_X2_20 : Cond.fieldLink RX2 20 "ZoneCalendar$Feast" "way" "I" ∈ GG := GG_mem (i := 14) (j := 17) rfl rfl
theorem wl_L_58 : Cond.methodLink RL 58 yX8_setWeek ∈ GG := GG_mem (i := 14) (j := 18) rfl rfl
theorem wf_X8_287 : Cond.fieldLink RX8 287 "ZoneCalendar$Work" "week" "I" ∈ GG := GG_mem (i := 14) (j := 22) rfl rfl
theorem wl_L_61 : Cond.methodLink RL 61 yX8_digest ∈ GG := GG_mem (i := 14) (j := 23) rfl rfl
theorem wk_X8_356 : Cond.constantLong RX8 356 (lJ 2441) ∈ GG := by rw [show lJ 2441 = (2441 : Int64) from by decide +kernel]; exact GG_mem (i := 15) (j := 3) rfl rfl
theorem wl_X8_358 : Cond.methodLink RX8 358 yX8_digestPatterns ∈ GG := GG_mem (i := 15) (j := 4) rfl rfl
theorem wk_X8_377 : Cond.constant RX8 377 (iI 36600) ∈ GG := by rw [show iI 36600 = (36600 : Int32) from by decide +kernel]; exact GG_mem (i := 15) (j := 8) rfl rfl
theorem wl_X8_373 : Cond.methodLink RX8 373 yX8_mix ∈ GG := GG_mem (i := 15) (j := 9) rfl rfl
theorem wk_X8_371 : Cond.constantLong RX8 371 (lJ 31) ∈ GG := by rw [show lJ 31 = (31 : Int64) from by decide +kernel]; exact GG_mem (i := 15) (j := 12) rfl rfl
theorem wl_X8_129 : Cond.methodLink RX8 129 yX3_countIn ∈ GG := GG_mem (i := 15) (j := 13) rfl rfl
theorem wl_X3_39 : Cond.methodLink RX3 39 yX1_januaryOf ∈ GG := GG_mem (i := 15) (j := 17) rfl rfl
theorem wl_X3_42 : Cond.methodLink RX3 42 yX3_toldIn ∈ GG := GG_mem (i := 15) (j := 18) rfl rfl
theorem wl_X8_135 : Cond.methodLink RX8 135 yX3_firstFrom ∈ GG := GG_mem (i := 15) (j := 19) rfl rfl
theorem wl_X3_45 : Cond.methodLink RX3 45 yX1_monthWith ∈ GG := GG_mem (i := 15) (j := 23) rfl rfl
theorem wl_X8_362 : Cond.methodLink RX8 362 yX8_digestPlaces ∈ GG := GG_mem (i := 16) (j := 0) rfl rfl
theorem wk_X8_378 : Cond.constant RX8 378 (iI 52596000) ∈ GG := by rw [show iI 52596000 = (52596000 : Int32) from by decide +kernel]; exact GG_mem (i := 16) (j := 4) rfl rfl
theorem wk_X8_379 : Cond.constant RX8 379 (iI 52740120) ∈ GG := by rw [show iI 52740120 = (52740120 : Int32) from by decide +kernel]; exact GG_mem (i := 16) (j := 5) rfl rfl
theorem wl_X8_182 : Cond.methodLink RX8 182 yX4_savingThen ∈ GG := GG_mem (i := 16) (j := 6) rfl rfl
theorem wl_X4_74 : Cond.methodLink RX4 74 yX4_pieceWith ∈ GG := GG_mem (i := 16) (j := 10) rfl rfl
theorem wl_X4_71 : Cond.methodLink RX4 71 yX4_pieceBegin ∈ GG := GG_mem (i := 16) (j := 14) rfl rfl
theorem wl_X4_68 : Cond.methodLink RX4 68 yX4_pieceSaving ∈ GG := GG_mem (i := 16) (j := 18) rfl rfl
theorem wl_X8_185 : Cond.methodLink RX8 185 yX4_show ∈ GG := GG_mem (i := 16) (j := 22) rfl rfl
theorem wl_X4_78 : Cond.methodLink RX4 78 yX4_savingThen ∈ GG := GG_mem (i := 17) (j := 2) rfl rfl
theorem wl_X8_188 : Cond.methodLink RX8 188 yX4_changeBehind ∈ GG := GG_mem (i := 17) (j := 3) rfl rfl
theorem wl_X8_191 : Cond.methodLink RX8 191 yX4_countShown ∈ GG := GG_mem (i := 17) (j := 7) rfl rfl
theorem wl_X4_86 : Cond.methodLink RX4 86 yX4_latest ∈ GG := GG_mem (i := 17) (j := 11) rfl rfl
theorem wl_X4_90 : Cond.methodLink RX4 90 yX4_earliest ∈ GG := GG_mem (i := 17) (j := 15) rfl rfl
theorem wk_X4_84 : Cond.constantLong RX4 84 (lJ 180) ∈ GG := by rw [show lJ 180 = (180 : Int64) from by decide +kernel]; exact GG_mem (i := 17) (j := 19) rfl rfl
theorem wl_X4_93 : Cond.methodLink RX4 93 yX4_shownIn ∈ GG := GG_mem (i := 17) (j := 20) rfl rfl
theorem wl_X4_81 : Cond.methodLink RX4 81 yX4_pieceShift ∈ GG := GG_mem (i := 18) (j := 0) rfl rfl
theorem wl_X8_194 : Cond.methodLink RX8 194 yX4_momentFor ∈ GG := GG_mem (i := 18) (j := 4) rfl rfl
theorem wl_X4_96 : Cond.methodLink RX4 96 yX4_momentPassing ∈ GG := GG_mem (i := 18) (j := 8) rfl rfl
theorem wl_X8_197 : Cond.methodLink RX8 197 yX4_lastShown ∈ GG := GG_mem (i := 18) (j := 12) rfl rfl
theorem wl_X8_365 : Cond.methodLink RX8 365 yX8_digestSeries ∈ GG := GG_mem (i := 18) (j := 16) rfl rfl
theorem wf_X8_256 : Cond.fieldLink RX8 256 "ZoneCalendar$Series" "foundCount" "I" ∈ GG := GG_mem (i := 18) (j := 20) rfl rfl
theorem wl_X8_274 : Cond.methodLink RX8 274 yX5_greatestGap ∈ GG := GG_mem (i := 18) (j := 21) rfl rfl
theorem wl_X5_173 : Cond.methodLink RX5 173 Lib.Math.max.name ∈ GG := GG_mem (i := 19) (j := 1) rfl rfl
theorem wl_X5_165 : Cond.methodLink RX5 165 yX5_date ∈ GG := GG_mem (i := 19) (j := 2) rfl rfl
theorem wl_X8_380 : Cond.methodLink RX8 380 yX8_digestDates ∈ GG := GG_mem (i := 19) (j := 6) rfl rfl
theorem wl_X8_263 : Cond.methodLink RX8 263 yX5_date ∈ GG := GG_mem (i := 19) (j := 10) rfl rfl
theorem wl_X8_267 : Cond.methodLink RX8 267 yX5_momentOfDate ∈ GG := GG_mem (i := 19) (j := 11) rfl rfl
theorem wl_X5_168 : Cond.methodLink RX5 168 yX4_momentFor ∈ GG := GG_mem (i := 19) (j := 15) rfl rfl
theorem wl_X8_270 : Cond.methodLink RX8 270 yX5_countShared ∈ GG := GG_mem (i := 19) (j := 16) rfl rfl
theorem wl_X8_368 : Cond.methodLink RX8 368 yX8_digestWork ∈ GG := GG_mem (i := 19) (j := 20) rfl rfl
theorem wk_X8_384 : Cond.constant RX8 384 (iI 36500) ∈ GG := by rw [show iI 36500 = (36500 : Int32) from by decide +kernel]; exact GG_mem (i := 20) (j := 0) rfl rfl
theorem wk_X8_385 : Cond.constant RX8 385 (iI 52560000) ∈ GG := by rw [show iI 52560000 = (52560000 : Int32) from by decide +kernel]; exact GG_mem (i := 20) (j := 1) rfl rfl
theorem wk_X8_342 : Cond.constant RX8 342 (iI 50000) ∈ GG := by rw [show iI 50000 = (50000 : Int32) from by decide +kernel]; exact GG_mem (i := 20) (j := 2) rfl rfl
theorem wl_X8_316 : Cond.methodLink RX8 316 yX7_findFeasts ∈ GG := GG_mem (i := 20) (j := 3) rfl rfl
theorem wl_X7_49 : Cond.methodLink RX7 49 Lib.Math.max.name ∈ GG := GG_mem (i := 20) (j := 7) rfl rfl
theorem wk_X7_55 : Cond.constant RX7 55 (iI 73048) ∈ GG := by rw [show iI 73048 = (73048 : Int32) from by decide +kernel]; exact GG_mem (i := 20) (j := 8) rfl rfl
theorem wl_X7_56 : Cond.methodLink RX7 56 Lib.Math.min.name ∈ GG := GG_mem (i := 20) (j := 9) rfl rfl
theorem wf_X7_76 : Cond.fieldLink RX7 76 "ZoneCalendar$Feast" "firstYear" "I" ∈ GG := GG_mem (i := 20) (j := 10) rfl rfl
theorem wf_X7_82 : Cond.fieldLink RX7 82 "ZoneCalendar$Feast" "lastYear" "I" ∈ GG := GG_mem (i := 20) (j := 11) rfl rfl
theorem wl_X7_59 : Cond.methodLink RX7 59 yX0_clear ∈ GG := GG_mem (i := 20) (j := 12) rfl rfl
theorem wl_X7_63 : Cond.methodLink RX7 63 yX0_firstDay ∈ GG := GG_mem (i := 20) (j := 13) rfl rfl
theorem wl_X7_67 : Cond.methodLink RX7 67 yX1_monthWith ∈ GG := GG_mem (i := 20) (j := 14) rfl rfl
theorem wl_X7_73 : Cond.methodLink RX7 73 yX0_lastDay ∈ GG := GG_mem (i := 20) (j := 15) rfl rfl
theorem wl_X7_79 : Cond.methodLink RX7 79 yX1_januaryOf ∈ GG := GG_mem (i := 20) (j := 16) rfl rfl
theorem wl_X7_85 : Cond.methodLink RX7 85 yX7_findFeast ∈ GG := GG_mem (i := 20) (j := 17) rfl rfl
theorem wf_X7_89 : Cond.fieldLink RX7 89 "ZoneCalendar$Feast" "pattern" "LZoneCalendar$Pattern;" ∈ GG := GG_mem (i := 20) (j := 21) rfl rfl
theorem wf_X7_98 : Cond.fieldLink RX7 98 "ZoneCalendar$Feast" "way" "I" ∈ GG := GG_mem (i := 20) (j := 22) rfl rfl
theorem wl_X7_93 : Cond.methodLink RX7 93 yX3_toldIn ∈ GG := GG_mem (i := 20) (j := 23) rfl rfl
theorem wl_X7_101 : Cond.methodLink RX7 101 yX7_moved ∈ GG := GG_mem (i := 21) (j := 0) rfl rfl
theorem wl_X7_111 : Cond.methodLink RX7 111 yX7_takes ∈ GG := GG_mem (i := 21) (j := 4) rfl rfl
theorem wl_X7_115 : Cond.methodLink RX7 115 yJ9_floorMod_7cf53 ∈ GG := GG_mem (i := 21) (j := 8) rfl rfl
theorem wl_X7_105 : Cond.methodLink RX7 105 yX0_read ∈ GG := GG_mem (i := 21) (j := 9) rfl rfl
theorem wl_X7_108 : Cond.methodLink RX7 108 yX0_write ∈ GG := GG_mem (i := 21) (j := 10) rfl rfl
theorem wl_X8_319 : Cond.methodLink RX8 319 yX7_feastFound ∈ GG := GG_mem (i := 21) (j := 11) rfl rfl
theorem wl_X8_322 : Cond.methodLink RX8 322 yX7_worksOn ∈ GG := GG_mem (i := 21) (j := 15) rfl rfl
theorem wl_X7_118 : Cond.methodLink RX7 118 yX1_isIn ∈ GG := GG_mem (i := 21) (j := 19) rfl rfl
theorem wl_X8_328 : Cond.methodLink RX8 328 yX7_countDays ∈ GG := GG_mem (i := 21) (j := 20) rfl rfl
theorem wl_X7_122 : Cond.methodLink RX7 122 yX7_findFeasts ∈ GG := GG_mem (i := 22) (j := 0) rfl rfl
theorem wl_X7_125 : Cond.methodLink RX7 125 yX7_worksOn ∈ GG := GG_mem (i := 22) (j := 1) rfl rfl
theorem wl_X8_333 : Cond.methodLink RX8 333 yX7_dayBehind ∈ GG := GG_mem (i := 22) (j := 2) rfl rfl
theorem wl_X7_129 : Cond.methodLink RX7 129 Lib.Math.abs.name ∈ GG := GG_mem (i := 22) (j := 6) rfl rfl
theorem wl_X8_336 : Cond.methodLink RX8 336 yX7_findFeastsWithin ∈ GG := GG_mem (i := 22) (j := 7) rfl rfl
theorem wf_X7_132 : Cond.fieldLink RX7 132 "ZoneCalendar$Place" "base" "I" ∈ GG := GG_mem (i := 22) (j := 11) rfl rfl
theorem wl_X7_135 : Cond.methodLink RX7 135 yJ9_floorDiv_7cf53 ∈ GG := GG_mem (i := 22) (j := 12) rfl rfl
theorem wl_X8_339 : Cond.methodLink RX8 339 yX7_minutesWithin ∈ GG := GG_mem (i := 22) (j := 15) rfl rfl
theorem wl_X7_138 : Cond.methodLink RX7 138 yX4_pieceWith ∈ GG := GG_mem (i := 22) (j := 19) rfl rfl
theorem wl_X7_142 : Cond.methodLink RX7 142 yX4_pieceShift ∈ GG := GG_mem (i := 22) (j := 20) rfl rfl
theorem wl_X7_145 : Cond.methodLink RX7 145 yX4_pieceBegin ∈ GG := GG_mem (i := 22) (j := 21) rfl rfl
theorem wl_X7_148 : Cond.methodLink RX7 148 yX7_localMinutes ∈ GG := GG_mem (i := 22) (j := 22) rfl rfl
theorem wl_X8_348 : Cond.methodLink RX8 348 yX7_finish ∈ GG := GG_mem (i := 23) (j := 2) rfl rfl
theorem wl_X7_151 : Cond.methodLink RX7 151 yX7_minutesWithin ∈ GG := GG_mem (i := 23) (j := 6) rfl rfl
theorem wl_L_65 : Cond.methodLink RL 65 yL_areClocksSound ∈ GG := GG_mem (i := 23) (j := 7) rfl rfl
theorem wk_L_98 : Cond.constant RL 98 (iI 105190559) ∈ GG := by rw [show iI 105190559 = (105190559 : Int32) from by decide +kernel]; exact GG_mem (i := 23) (j := 10) rfl rfl
theorem wl_L_83 : Cond.methodLink RL 83 yX8_localAt ∈ GG := GG_mem (i := 23) (j := 11) rfl rfl
theorem wl_X8_179 : Cond.methodLink RX8 179 yX8_needMoment ∈ GG := GG_mem (i := 23) (j := 15) rfl rfl
theorem wl_L_86 : Cond.methodLink RL 86 yX8_momentOf ∈ GG := GG_mem (i := 23) (j := 18) rfl rfl
theorem wl_L_89 : Cond.methodLink RL 89 yX8_lastMomentOf ∈ GG := GG_mem (i := 23) (j := 22) rfl rfl
theorem wl_L_92 : Cond.methodLink RL 92 yX8_showsOften ∈ GG := GG_mem (i := 24) (j := 2) rfl rfl
theorem wl_L_95 : Cond.methodLink RL 95 yX8_nextChange ∈ GG := GG_mem (i := 24) (j := 6) rfl rfl
theorem wl_L_99 : Cond.methodLink RL 99 yX8_savingAt ∈ GG := GG_mem (i := 24) (j := 10) rfl rfl
theorem wl_L_102 : Cond.methodLink RL 102 yX8_ahead ∈ GG := GG_mem (i := 24) (j := 14) rfl rfl
theorem wl_L_70 : Cond.methodLink RL 70 yL_areDaysSound ∈ GG := GG_mem (i := 24) (j := 18) rfl rfl
theorem wl_L_105 : Cond.methodLink RL 105 yX8_nextTold ∈ GG := GG_mem (i := 24) (j := 21) rfl rfl
theorem wl_X8_77 : Cond.methodLink RX8 77 yX8_needDay ∈ GG := GG_mem (i := 25) (j := 1) rfl rfl
theorem wk_X8_386 : Cond.constant RX8 386 (iI 73048) ∈ GG := by rw [show iI 73048 = (73048 : Int32) from by decide +kernel]; exact GG_mem (i := 25) (j := 4) rfl rfl
theorem wl_L_108 : Cond.methodLink RL 108 yX8_tells ∈ GG := GG_mem (i := 25) (j := 5) rfl rfl
theorem wl_X8_83 : Cond.methodLink RX8 83 yX1_monthWith ∈ GG := GG_mem (i := 25) (j := 9) rfl rfl
theorem wl_X8_132 : Cond.methodLink RX8 132 yX3_toldIn ∈ GG := GG_mem (i := 25) (j := 10) rfl rfl
theorem wl_L_112 : Cond.methodLink RL 112 yX8_yearOf ∈ GG := GG_mem (i := 25) (j := 11) rfl rfl
theorem wl_X8_80 : Cond.methodLink RX8 80 yX1_yearWith ∈ GG := GG_mem (i := 25) (j := 15) rfl rfl
theorem wl_L_115 : Cond.methodLink RL 115 yX8_monthOf ∈ GG := GG_mem (i := 25) (j := 16) rfl rfl
theorem wl_L_118 : Cond.methodLink RL 118 yX8_dayOfMonth ∈ GG := GG_mem (i := 25) (j := 20) rfl rfl
theorem wl_X8_86 : Cond.methodLink RX8 86 yX1_numberInMonth ∈ GG := GG_mem (i := 26) (j := 0) rfl rfl
theorem wl_L_121 : Cond.methodLink RL 121 yX8_dayOf ∈ GG := GG_mem (i := 26) (j := 1) rfl rfl
theorem wl_X8_63 : Cond.methodLink RX8 63 yX1_januaryOf ∈ GG := GG_mem (i := 26) (j := 5) rfl rfl
theorem wl_X8_69 : Cond.methodLink RX8 69 yX1_monthLength ∈ GG := GG_mem (i := 26) (j := 6) rfl rfl
theorem wl_X8_74 : Cond.methodLink RX8 74 yX1_monthBegin ∈ GG := GG_mem (i := 26) (j := 9) rfl rfl
theorem wl_L_124 : Cond.methodLink RL 124 yX8_isWorking ∈ GG := GG_mem (i := 26) (j := 10) rfl rfl
theorem wl_L_128 : Cond.methodLink RL 128 yX8_feastOn ∈ GG := GG_mem (i := 26) (j := 14) rfl rfl
theorem wl_L_131 : Cond.methodLink RL 131 yX8_plusWorking ∈ GG := GG_mem (i := 26) (j := 18) rfl rfl
theorem wl_L_134 : Cond.methodLink RL 134 yX8_workingDays ∈ GG := GG_mem (i := 26) (j := 22) rfl rfl
theorem wk_X8_325 : Cond.constant RX8 325 (iI 73049) ∈ GG := by rw [show iI 73049 = (73049 : Int32) from by decide +kernel]; exact GG_mem (i := 27) (j := 2) rfl rfl
theorem wl_L_73 : Cond.methodLink RL 73 yL_isSeriesSound ∈ GG := GG_mem (i := 27) (j := 3) rfl rfl
theorem wl_L_143 : Cond.methodLink RL 143 Lib.Math.max.name ∈ GG := GG_mem (i := 27) (j := 6) rfl rfl
theorem wl_L_80 : Cond.methodLink RL 80 yX8_dates ∈ GG := GG_mem (i := 27) (j := 7) rfl rfl
theorem wl_L_137 : Cond.methodLink RL 137 yX8_dateAt ∈ GG := GG_mem (i := 27) (j := 11) rfl rfl
theorem wl_X8_259 : Cond.methodLink RX8 259 yX8_needDate ∈ GG := GG_mem (i := 27) (j := 15) rfl rfl
theorem wl_L_140 : Cond.methodLink RL 140 yX8_dateFrom ∈ GG := GG_mem (i := 27) (j := 18) rfl rfl
theorem wl_X8_266 : Cond.methodLink RX8 266 yX5_firstFrom ∈ GG := GG_mem (i := 27) (j := 22) rfl rfl
theorem wl_L_146 : Cond.methodLink RL 146 yX8_widestGap ∈ GG := GG_mem (i := 28) (j := 2) rfl rfl
theorem wl_L_77 : Cond.methodLink RL 77 yX8_common ∈ GG := GG_mem (i := 28) (j := 6) rfl rfl
theorem wl_L_149 : Cond.methodLink RL 149 yX8_meanGap ∈ GG := GG_mem (i := 28) (j := 10) rfl rfl
theorem wl_X8_352 : Cond.methodLink RX8 352 yX5_meanOfGaps ∈ GG := GG_mem (i := 28) (j := 14) rfl rfl
theorem w1_zmx : Cond.static Lib.Math.max.name ∈ GG := GG_mem (i := 6) (j := 11) rfl rfl
theorem w2_zmx : Cond.code Lib.Math.max.name Lib.Math.max.code 2 (some .int) ∈ GG := GG_mem (i := 6) (j := 12) rfl rfl
theorem w1_zmn : Cond.static Lib.Math.min.name ∈ GG := GG_mem (i := 0) (j := 4) rfl rfl
theorem w2_zmn : Cond.code Lib.Math.min.name Lib.Math.min.code 2 (some .int) ∈ GG := GG_mem (i := 0) (j := 6) rfl rfl
theorem w1_zab : Cond.static Lib.Math.abs.name ∈ GG := GG_mem (i := 12) (j := 20) rfl rfl
theorem w2_zab : Cond.code Lib.Math.abs.name Lib.Math.abs.code 1 (some .int) ∈ GG := GG_mem (i := 12) (j := 21) rfl rfl
theorem cb_X8_init : zci yX8_init cX8_init 1 0 := ⟨GG_mem (i := 0) (j := 11) rfl rfl, GG_mem (i := 0) (j := 2) rfl rfl, GG_mem (i := 0) (j := 10) rfl rfl, rfl, by decide +kernel⟩
theorem cb_X0_init : zci yX0_init cX0_init 2 1 := ⟨GG_mem (i := 1) (j := 10) rfl rfl, GG_mem (i := 1) (j := 2) rfl rfl, GG_mem (i := 1) (j := 9) rfl rfl, rfl, by decide +kernel⟩
theorem cb_X7_init : zci yX7_init cX7_init 1 0 := ⟨GG_mem (i := 1) (j := 18) rfl rfl, GG_mem (i := 1) (j := 6) rfl rfl, GG_mem (i := 1) (j := 17) rfl rfl, rfl, by decide +kernel⟩
theorem cb_X4_init : zci yX4_init cX4_init 2 1 := ⟨GG_mem (i := 2) (j := 11) rfl rfl, GG_mem (i := 1) (j := 23) rfl rfl, GG_mem (i := 2) (j := 10) rfl rfl, rfl, by decide +kernel⟩
theorem cb_L_cell : zcs yL_cell cL_cell 2 (some .int) 2 := ⟨GG_mem (i := 3) (j := 1) rfl rfl, GG_mem (i := 3) (j := 0) rfl rfl, GG_mem (i := 2) (j := 23) rfl rfl, by decide +kernel⟩
theorem cb_L_below : zcs yL_below cL_below 2 (some .int) 2 := ⟨GG_mem (i := 3) (j := 5) rfl rfl, GG_mem (i := 3) (j := 0) rfl rfl, GG_mem (i := 3) (j := 4) rfl rfl, by decide +kernel⟩
theorem cb_L_pattern : zcs yL_pattern cL_pattern 6 (some .int) 3 := ⟨GG_mem (i := 3) (j := 9) rfl rfl, GG_mem (i := 3) (j := 0) rfl rfl, GG_mem (i := 3) (j := 8) rfl rfl, by decide +kernel⟩
theorem cb_X8_addPattern : zcv yX8_addPattern cX8_addPattern 5 (some .int) 3 := ⟨GG_mem (i := 3) (j := 13) rfl rfl, GG_mem (i := 0) (j := 2) rfl rfl, GG_mem (i := 3) (j := 11) rfl rfl, GG_mem (i := 3) (j := 12) rfl rfl, by decide +kernel⟩
theorem cb_X3_greatestNumber : zcs yX3_greatestNumber cX3_greatestNumber 1 (some .int) 1 := ⟨GG_mem (i := 3) (j := 22) rfl rfl, GG_mem (i := 3) (j := 19) rfl rfl, GG_mem (i := 3) (j := 21) rfl rfl, by decide +kernel⟩
theorem cb_X3_init : zci yX3_init cX3_init 4 3 := ⟨GG_mem (i := 4) (j := 1) rfl rfl, GG_mem (i := 3) (j := 19) rfl rfl, GG_mem (i := 4) (j := 0) rfl rfl, rfl, by decide +kernel⟩
theorem cb_X8_addPlace : zcv yX8_addPlace cX8_addPlace 3 (some .int) 1 := ⟨GG_mem (i := 4) (j := 9) rfl rfl, GG_mem (i := 0) (j := 2) rfl rfl, GG_mem (i := 4) (j := 7) rfl rfl, GG_mem (i := 4) (j := 8) rfl rfl, by decide +kernel⟩
theorem cb_X8_addTurn : zcv yX8_addTurn cX8_addTurn 11 (some .int) 7 := ⟨GG_mem (i := 4) (j := 14) rfl rfl, GG_mem (i := 0) (j := 2) rfl rfl, GG_mem (i := 4) (j := 12) rfl rfl, GG_mem (i := 4) (j := 13) rfl rfl, by decide +kernel⟩
theorem cb_X8_needPlace : zcv yX8_needPlace cX8_needPlace 3 (some (.object "ZoneCalendar$Place")) 1 := ⟨GG_mem (i := 4) (j := 23) rfl rfl, GG_mem (i := 0) (j := 2) rfl rfl, GG_mem (i := 4) (j := 21) rfl rfl, GG_mem (i := 4) (j := 22) rfl rfl, by decide +kernel⟩
theorem cb_X8_needPattern : zcv yX8_needPattern cX8_needPattern 3 (some (.object "ZoneCalendar$Pattern")) 1 := ⟨GG_mem (i := 5) (j := 5) rfl rfl, GG_mem (i := 0) (j := 2) rfl rfl, GG_mem (i := 5) (j := 3) rfl rfl, GG_mem (i := 5) (j := 4) rfl rfl, by decide +kernel⟩
theorem cb_X8_needYears : zcs yX8_needYears cX8_needYears 2 none 2 := ⟨GG_mem (i := 5) (j := 8) rfl rfl, GG_mem (i := 0) (j := 2) rfl rfl, GG_mem (i := 5) (j := 7) rfl rfl, by decide +kernel⟩
theorem cb_X8_needYear : zcs yX8_needYear cX8_needYear 1 none 1 := ⟨GG_mem (i := 5) (j := 11) rfl rfl, GG_mem (i := 0) (j := 2) rfl rfl, GG_mem (i := 5) (j := 10) rfl rfl, by decide +kernel⟩
theorem cb_X4_hasRoom : zcv yX4_hasRoom cX4_hasRoom 1 (some .boolean) 0 := ⟨GG_mem (i := 5) (j := 15) rfl rfl, GG_mem (i := 1) (j := 23) rfl rfl, GG_mem (i := 5) (j := 13) rfl rfl, GG_mem (i := 5) (j := 14) rfl rfl, by decide +kernel⟩
theorem cb_X6_init : zci yX6_init cX6_init 7 6 := ⟨GG_mem (i := 5) (j := 18) rfl rfl, GG_mem (i := 4) (j := 19) rfl rfl, GG_mem (i := 5) (j := 17) rfl rfl, rfl, by decide +kernel⟩
theorem cb_X4_put : zcv yX4_put cX4_put 3 (some .int) 1 := ⟨GG_mem (i := 6) (j := 5) rfl rfl, GG_mem (i := 1) (j := 23) rfl rfl, GG_mem (i := 6) (j := 3) rfl rfl, GG_mem (i := 6) (j := 4) rfl rfl, by decide +kernel⟩
theorem cb_X4_findPieces : zcv yX4_findPieces cX4_findPieces 7 none 0 := ⟨GG_mem (i := 6) (j := 9) rfl rfl, GG_mem (i := 1) (j := 23) rfl rfl, GG_mem (i := 6) (j := 7) rfl rfl, GG_mem (i := 6) (j := 8) rfl rfl, by decide +kernel⟩
theorem cb_X4_addPiece : zcv yX4_addPiece cX4_addPiece 7 none 2 := ⟨GG_mem (i := 6) (j := 17) rfl rfl, GG_mem (i := 1) (j := 23) rfl rfl, GG_mem (i := 6) (j := 15) rfl rfl, GG_mem (i := 6) (j := 16) rfl rfl, by decide +kernel⟩
theorem cb_X4_tellTurns : zcv yX4_tellTurns cX4_tellTurns 4 none 1 := ⟨GG_mem (i := 6) (j := 22) rfl rfl, GG_mem (i := 1) (j := 23) rfl rfl, GG_mem (i := 6) (j := 20) rfl rfl, GG_mem (i := 6) (j := 21) rfl rfl, by decide +kernel⟩
theorem cb_X6_toldIn : zcv yX6_toldIn cX6_toldIn 5 (some .int) 1 := ⟨GG_mem (i := 7) (j := 2) rfl rfl, GG_mem (i := 4) (j := 19) rfl rfl, GG_mem (i := 7) (j := 0) rfl rfl, GG_mem (i := 7) (j := 1) rfl rfl, by decide +kernel⟩
theorem cb_X1_januaryOf : zcs yX1_januaryOf cX1_januaryOf 1 (some .int) 1 := ⟨GG_mem (i := 7) (j := 6) rfl rfl, GG_mem (i := 7) (j := 5) rfl rfl, GG_mem (i := 7) (j := 4) rfl rfl, by decide +kernel⟩
theorem cb_X3_toldIn : zcv yX3_toldIn cX3_toldIn 5 (some .int) 1 := ⟨GG_mem (i := 7) (j := 10) rfl rfl, GG_mem (i := 3) (j := 19) rfl rfl, GG_mem (i := 7) (j := 8) rfl rfl, GG_mem (i := 7) (j := 9) rfl rfl, by decide +kernel⟩
theorem cb_X1_monthBegin : zcs yX1_monthBegin cX1_monthBegin 5 (some .int) 1 := ⟨GG_mem (i := 7) (j := 13) rfl rfl, GG_mem (i := 7) (j := 5) rfl rfl, GG_mem (i := 7) (j := 12) rfl rfl, by decide +kernel⟩
theorem cb_X1_easter : zcs yX1_easter cX1_easter 7 (some .int) 1 := ⟨GG_mem (i := 7) (j := 17) rfl rfl, GG_mem (i := 7) (j := 5) rfl rfl, GG_mem (i := 7) (j := 16) rfl rfl, by decide +kernel⟩
theorem cb_X3_numberTold : zcv yX3_numberTold cX3_numberTold 3 (some .int) 2 := ⟨GG_mem (i := 7) (j := 23) rfl rfl, GG_mem (i := 3) (j := 19) rfl rfl, GG_mem (i := 7) (j := 21) rfl rfl, GG_mem (i := 7) (j := 22) rfl rfl, by decide +kernel⟩
theorem cb_J9_floorMod_7cf53 : zcs yJ9_floorMod_7cf53 cJ9_floorMod_7cf53 3 (some .int) 2 := ⟨GG_mem (i := 8) (j := 3) rfl rfl, GG_mem (i := 8) (j := 2) rfl rfl, GG_mem (i := 8) (j := 1) rfl rfl, by decide +kernel⟩
theorem cb_X4_takeEarliest : zcv yX4_takeEarliest cX4_takeEarliest 4 (some .int) 0 := ⟨GG_mem (i := 8) (j := 7) rfl rfl, GG_mem (i := 1) (j := 23) rfl rfl, GG_mem (i := 8) (j := 5) rfl rfl, GG_mem (i := 8) (j := 6) rfl rfl, by decide +kernel⟩
theorem cb_X6_momentOfTold : zcv yX6_momentOfTold cX6_momentOfTold 5 (some .int) 3 := ⟨GG_mem (i := 8) (j := 12) rfl rfl, GG_mem (i := 4) (j := 19) rfl rfl, GG_mem (i := 8) (j := 10) rfl rfl, GG_mem (i := 8) (j := 11) rfl rfl, by decide +kernel⟩
theorem cb_X8_addSeries : zcv yX8_addSeries cX8_addSeries 9 (some .int) 5 := ⟨GG_mem (i := 8) (j := 16) rfl rfl, GG_mem (i := 0) (j := 2) rfl rfl, GG_mem (i := 8) (j := 14) rfl rfl, GG_mem (i := 8) (j := 15) rfl rfl, by decide +kernel⟩
theorem cb_X5_init : zci yX5_init cX5_init 7 5 := ⟨GG_mem (i := 8) (j := 22) rfl rfl, GG_mem (i := 8) (j := 19) rfl rfl, GG_mem (i := 8) (j := 21) rfl rfl, rfl, by decide +kernel⟩
theorem cb_X1_monthWith : zcs yX1_monthWith cX1_monthWith 3 (some .int) 1 := ⟨GG_mem (i := 9) (j := 23) rfl rfl, GG_mem (i := 7) (j := 5) rfl rfl, GG_mem (i := 9) (j := 22) rfl rfl, by decide +kernel⟩
theorem cb_X1_yearWith : zcs yX1_yearWith cX1_yearWith 1 (some .int) 1 := ⟨GG_mem (i := 10) (j := 2) rfl rfl, GG_mem (i := 7) (j := 5) rfl rfl, GG_mem (i := 10) (j := 1) rfl rfl, by decide +kernel⟩
theorem cb_X1_numberInMonth : zcs yX1_numberInMonth cX1_numberInMonth 1 (some .int) 1 := ⟨GG_mem (i := 10) (j := 5) rfl rfl, GG_mem (i := 7) (j := 5) rfl rfl, GG_mem (i := 10) (j := 4) rfl rfl, by decide +kernel⟩
theorem cb_X5_findDates : zcv yX5_findDates cX5_findDates 4 none 1 := ⟨GG_mem (i := 10) (j := 11) rfl rfl, GG_mem (i := 8) (j := 19) rfl rfl, GG_mem (i := 10) (j := 9) rfl rfl, GG_mem (i := 10) (j := 10) rfl rfl, by decide +kernel⟩
theorem cb_X5_findCounting : zcv yX5_findCounting cX5_findCounting 3 none 1 := ⟨GG_mem (i := 10) (j := 15) rfl rfl, GG_mem (i := 8) (j := 19) rfl rfl, GG_mem (i := 10) (j := 13) rfl rfl, GG_mem (i := 10) (j := 14) rfl rfl, by decide +kernel⟩
theorem cb_X5_spanBegin : zcv yX5_spanBegin cX5_spanBegin 2 (some .int) 1 := ⟨GG_mem (i := 10) (j := 19) rfl rfl, GG_mem (i := 8) (j := 19) rfl rfl, GG_mem (i := 10) (j := 17) rfl rfl, GG_mem (i := 10) (j := 18) rfl rfl, by decide +kernel⟩
theorem cb_X1_weekday : zcs yX1_weekday cX1_weekday 1 (some .int) 1 := ⟨GG_mem (i := 10) (j := 22) rfl rfl, GG_mem (i := 7) (j := 5) rfl rfl, GG_mem (i := 10) (j := 21) rfl rfl, by decide +kernel⟩
theorem cb_X0_clear : zcv yX0_clear cX0_clear 4 none 2 := ⟨GG_mem (i := 11) (j := 6) rfl rfl, GG_mem (i := 1) (j := 2) rfl rfl, GG_mem (i := 11) (j := 4) rfl rfl, GG_mem (i := 11) (j := 5) rfl rfl, by decide +kernel⟩
theorem cb_X5_markTold : zcv yX5_markTold cX5_markTold 7 none 2 := ⟨GG_mem (i := 11) (j := 11) rfl rfl, GG_mem (i := 8) (j := 19) rfl rfl, GG_mem (i := 11) (j := 9) rfl rfl, GG_mem (i := 11) (j := 10) rfl rfl, by decide +kernel⟩
theorem cb_X5_rightWeekdays : zcv yX5_rightWeekdays cX5_rightWeekdays 1 (some .int) 0 := ⟨GG_mem (i := 11) (j := 15) rfl rfl, GG_mem (i := 8) (j := 19) rfl rfl, GG_mem (i := 11) (j := 13) rfl rfl, GG_mem (i := 11) (j := 14) rfl rfl, by decide +kernel⟩
theorem cb_X0_firstDay : zcv yX0_firstDay cX0_firstDay 1 (some .int) 0 := ⟨GG_mem (i := 11) (j := 19) rfl rfl, GG_mem (i := 1) (j := 2) rfl rfl, GG_mem (i := 11) (j := 17) rfl rfl, GG_mem (i := 11) (j := 18) rfl rfl, by decide +kernel⟩
theorem cb_X0_lastDay : zcv yX0_lastDay cX0_lastDay 1 (some .int) 0 := ⟨GG_mem (i := 11) (j := 23) rfl rfl, GG_mem (i := 1) (j := 2) rfl rfl, GG_mem (i := 11) (j := 21) rfl rfl, GG_mem (i := 11) (j := 22) rfl rfl, by decide +kernel⟩
theorem cb_X5_markDay : zcs yX5_markDay cX5_markDay 3 none 3 := ⟨GG_mem (i := 12) (j := 2) rfl rfl, GG_mem (i := 8) (j := 19) rfl rfl, GG_mem (i := 12) (j := 1) rfl rfl, by decide +kernel⟩
theorem cb_X1_isIn : zcs yX1_isIn cX1_isIn 2 (some .boolean) 2 := ⟨GG_mem (i := 12) (j := 5) rfl rfl, GG_mem (i := 7) (j := 5) rfl rfl, GG_mem (i := 12) (j := 4) rfl rfl, by decide +kernel⟩
theorem cb_X0_write : zcv yX0_write cX0_write 4 none 2 := ⟨GG_mem (i := 12) (j := 9) rfl rfl, GG_mem (i := 1) (j := 2) rfl rfl, GG_mem (i := 12) (j := 7) rfl rfl, GG_mem (i := 12) (j := 8) rfl rfl, by decide +kernel⟩
theorem cb_X5_takeSpan : zcv yX5_takeSpan cX5_takeSpan 5 none 3 := ⟨GG_mem (i := 12) (j := 14) rfl rfl, GG_mem (i := 8) (j := 19) rfl rfl, GG_mem (i := 12) (j := 12) rfl rfl, GG_mem (i := 12) (j := 13) rfl rfl, by decide +kernel⟩
theorem cb_X5_chosen : zcv yX5_chosen cX5_chosen 7 (some .int) 3 := ⟨GG_mem (i := 12) (j := 18) rfl rfl, GG_mem (i := 8) (j := 19) rfl rfl, GG_mem (i := 12) (j := 16) rfl rfl, GG_mem (i := 12) (j := 17) rfl rfl, by decide +kernel⟩
theorem cb_X0_read : zcv yX0_read cX0_read 3 (some .int) 1 := ⟨GG_mem (i := 13) (j := 1) rfl rfl, GG_mem (i := 1) (j := 2) rfl rfl, GG_mem (i := 12) (j := 23) rfl rfl, GG_mem (i := 13) (j := 0) rfl rfl, by decide +kernel⟩
theorem cb_X5_takeDay : zcv yX5_takeDay cX5_takeDay 4 none 1 := ⟨GG_mem (i := 13) (j := 5) rfl rfl, GG_mem (i := 8) (j := 19) rfl rfl, GG_mem (i := 13) (j := 3) rfl rfl, GG_mem (i := 13) (j := 4) rfl rfl, by decide +kernel⟩
theorem cb_X5_isException : zcv yX5_isException cX5_isException 3 (some .boolean) 1 := ⟨GG_mem (i := 13) (j := 9) rfl rfl, GG_mem (i := 8) (j := 19) rfl rfl, GG_mem (i := 13) (j := 7) rfl rfl, GG_mem (i := 13) (j := 8) rfl rfl, by decide +kernel⟩
theorem cb_X8_usePattern : zcv yX8_usePattern cX8_usePattern 6 (some .int) 2 := ⟨GG_mem (i := 13) (j := 13) rfl rfl, GG_mem (i := 0) (j := 2) rfl rfl, GG_mem (i := 13) (j := 11) rfl rfl, GG_mem (i := 13) (j := 12) rfl rfl, by decide +kernel⟩
theorem cb_X8_needSeries : zcv yX8_needSeries cX8_needSeries 3 (some (.object "ZoneCalendar$Series")) 1 := ⟨GG_mem (i := 13) (j := 19) rfl rfl, GG_mem (i := 0) (j := 2) rfl rfl, GG_mem (i := 13) (j := 17) rfl rfl, GG_mem (i := 13) (j := 18) rfl rfl, by decide +kernel⟩
theorem cb_X8_setMost : zcv yX8_setMost cX8_setMost 5 (some .int) 2 := ⟨GG_mem (i := 13) (j := 23) rfl rfl, GG_mem (i := 0) (j := 2) rfl rfl, GG_mem (i := 13) (j := 21) rfl rfl, GG_mem (i := 13) (j := 22) rfl rfl, by decide +kernel⟩
theorem cb_X8_addFeast : zcv yX8_addFeast cX8_addFeast 7 (some .int) 4 := ⟨GG_mem (i := 14) (j := 4) rfl rfl, GG_mem (i := 0) (j := 2) rfl rfl, GG_mem (i := 14) (j := 2) rfl rfl, GG_mem (i := 14) (j := 3) rfl rfl, by decide +kernel⟩
theorem cb_X2_init : zci yX2_init cX2_init 5 4 := ⟨GG_mem (i := 14) (j := 12) rfl rfl, GG_mem (i := 14) (j := 9) rfl rfl, GG_mem (i := 14) (j := 11) rfl rfl, rfl, by decide +kernel⟩
theorem cb_X8_setWeek : zcv yX8_setWeek cX8_setWeek 3 (some .int) 1 := ⟨GG_mem (i := 14) (j := 21) rfl rfl, GG_mem (i := 0) (j := 2) rfl rfl, GG_mem (i := 14) (j := 19) rfl rfl, GG_mem (i := 14) (j := 20) rfl rfl, by decide +kernel⟩
theorem cb_X8_digest : zcv yX8_digest cX8_digest 3 (some .long) 0 := ⟨GG_mem (i := 15) (j := 2) rfl rfl, GG_mem (i := 0) (j := 2) rfl rfl, GG_mem (i := 15) (j := 0) rfl rfl, GG_mem (i := 15) (j := 1) rfl rfl, by decide +kernel⟩
theorem cb_X8_digestPatterns : zcv yX8_digestPatterns cX8_digestPatterns 7 (some .long) 1 := ⟨GG_mem (i := 15) (j := 7) rfl rfl, GG_mem (i := 0) (j := 2) rfl rfl, GG_mem (i := 15) (j := 5) rfl rfl, GG_mem (i := 15) (j := 6) rfl rfl, by decide +kernel⟩
theorem cb_X8_mix : zcs yX8_mix cX8_mix 4 (some .long) 2 := ⟨GG_mem (i := 15) (j := 11) rfl rfl, GG_mem (i := 0) (j := 2) rfl rfl, GG_mem (i := 15) (j := 10) rfl rfl, by decide +kernel⟩
theorem cb_X3_countIn : zcv yX3_countIn cX3_countIn 5 (some .int) 1 := ⟨GG_mem (i := 15) (j := 16) rfl rfl, GG_mem (i := 3) (j := 19) rfl rfl, GG_mem (i := 15) (j := 14) rfl rfl, GG_mem (i := 15) (j := 15) rfl rfl, by decide +kernel⟩
theorem cb_X3_firstFrom : zcv yX3_firstFrom cX3_firstFrom 4 (some .int) 1 := ⟨GG_mem (i := 15) (j := 22) rfl rfl, GG_mem (i := 3) (j := 19) rfl rfl, GG_mem (i := 15) (j := 20) rfl rfl, GG_mem (i := 15) (j := 21) rfl rfl, by decide +kernel⟩
theorem cb_X8_digestPlaces : zcv yX8_digestPlaces cX8_digestPlaces 9 (some .long) 1 := ⟨GG_mem (i := 16) (j := 3) rfl rfl, GG_mem (i := 0) (j := 2) rfl rfl, GG_mem (i := 16) (j := 1) rfl rfl, GG_mem (i := 16) (j := 2) rfl rfl, by decide +kernel⟩
theorem cb_X4_savingThen : zcv yX4_savingThen cX4_savingThen 2 (some .int) 1 := ⟨GG_mem (i := 16) (j := 9) rfl rfl, GG_mem (i := 1) (j := 23) rfl rfl, GG_mem (i := 16) (j := 7) rfl rfl, GG_mem (i := 16) (j := 8) rfl rfl, by decide +kernel⟩
theorem cb_X4_pieceWith : zcv yX4_pieceWith cX4_pieceWith 7 (some .int) 1 := ⟨GG_mem (i := 16) (j := 13) rfl rfl, GG_mem (i := 1) (j := 23) rfl rfl, GG_mem (i := 16) (j := 11) rfl rfl, GG_mem (i := 16) (j := 12) rfl rfl, by decide +kernel⟩
theorem cb_X4_pieceBegin : zcv yX4_pieceBegin cX4_pieceBegin 2 (some .int) 1 := ⟨GG_mem (i := 16) (j := 17) rfl rfl, GG_mem (i := 1) (j := 23) rfl rfl, GG_mem (i := 16) (j := 15) rfl rfl, GG_mem (i := 16) (j := 16) rfl rfl, by decide +kernel⟩
theorem cb_X4_pieceSaving : zcv yX4_pieceSaving cX4_pieceSaving 2 (some .int) 1 := ⟨GG_mem (i := 16) (j := 21) rfl rfl, GG_mem (i := 1) (j := 23) rfl rfl, GG_mem (i := 16) (j := 19) rfl rfl, GG_mem (i := 16) (j := 20) rfl rfl, by decide +kernel⟩
theorem cb_X4_show : zcv yX4_show cX4_show 2 (some .int) 1 := ⟨GG_mem (i := 17) (j := 1) rfl rfl, GG_mem (i := 1) (j := 23) rfl rfl, GG_mem (i := 16) (j := 23) rfl rfl, GG_mem (i := 17) (j := 0) rfl rfl, by decide +kernel⟩
theorem cb_X4_changeBehind : zcv yX4_changeBehind cX4_changeBehind 3 (some .int) 1 := ⟨GG_mem (i := 17) (j := 6) rfl rfl, GG_mem (i := 1) (j := 23) rfl rfl, GG_mem (i := 17) (j := 4) rfl rfl, GG_mem (i := 17) (j := 5) rfl rfl, by decide +kernel⟩
theorem cb_X4_countShown : zcv yX4_countShown cX4_countShown 5 (some .int) 1 := ⟨GG_mem (i := 17) (j := 10) rfl rfl, GG_mem (i := 1) (j := 23) rfl rfl, GG_mem (i := 17) (j := 8) rfl rfl, GG_mem (i := 17) (j := 9) rfl rfl, by decide +kernel⟩
theorem cb_X4_latest : zcv yX4_latest cX4_latest 2 (some .long) 1 := ⟨GG_mem (i := 17) (j := 14) rfl rfl, GG_mem (i := 1) (j := 23) rfl rfl, GG_mem (i := 17) (j := 12) rfl rfl, GG_mem (i := 17) (j := 13) rfl rfl, by decide +kernel⟩
theorem cb_X4_earliest : zcv yX4_earliest cX4_earliest 2 (some .long) 1 := ⟨GG_mem (i := 17) (j := 18) rfl rfl, GG_mem (i := 1) (j := 23) rfl rfl, GG_mem (i := 17) (j := 16) rfl rfl, GG_mem (i := 17) (j := 17) rfl rfl, by decide +kernel⟩
theorem cb_X4_shownIn : zcv yX4_shownIn cX4_shownIn 5 (some .int) 2 := ⟨GG_mem (i := 17) (j := 23) rfl rfl, GG_mem (i := 1) (j := 23) rfl rfl, GG_mem (i := 17) (j := 21) rfl rfl, GG_mem (i := 17) (j := 22) rfl rfl, by decide +kernel⟩
theorem cb_X4_pieceShift : zcv yX4_pieceShift cX4_pieceShift 2 (some .int) 1 := ⟨GG_mem (i := 18) (j := 3) rfl rfl, GG_mem (i := 1) (j := 23) rfl rfl, GG_mem (i := 18) (j := 1) rfl rfl, GG_mem (i := 18) (j := 2) rfl rfl, by decide +kernel⟩
theorem cb_X4_momentFor : zcv yX4_momentFor cX4_momentFor 6 (some .int) 1 := ⟨GG_mem (i := 18) (j := 7) rfl rfl, GG_mem (i := 1) (j := 23) rfl rfl, GG_mem (i := 18) (j := 5) rfl rfl, GG_mem (i := 18) (j := 6) rfl rfl, by decide +kernel⟩
theorem cb_X4_momentPassing : zcv yX4_momentPassing cX4_momentPassing 7 (some .int) 3 := ⟨GG_mem (i := 18) (j := 11) rfl rfl, GG_mem (i := 1) (j := 23) rfl rfl, GG_mem (i := 18) (j := 9) rfl rfl, GG_mem (i := 18) (j := 10) rfl rfl, by decide +kernel⟩
theorem cb_X4_lastShown : zcv yX4_lastShown cX4_lastShown 5 (some .int) 1 := ⟨GG_mem (i := 18) (j := 15) rfl rfl, GG_mem (i := 1) (j := 23) rfl rfl, GG_mem (i := 18) (j := 13) rfl rfl, GG_mem (i := 18) (j := 14) rfl rfl, by decide +kernel⟩
theorem cb_X8_digestSeries : zcv yX8_digestSeries cX8_digestSeries 7 (some .long) 1 := ⟨GG_mem (i := 18) (j := 19) rfl rfl, GG_mem (i := 0) (j := 2) rfl rfl, GG_mem (i := 18) (j := 17) rfl rfl, GG_mem (i := 18) (j := 18) rfl rfl, by decide +kernel⟩
theorem cb_X5_greatestGap : zcv yX5_greatestGap cX5_greatestGap 3 (some .int) 0 := ⟨GG_mem (i := 19) (j := 0) rfl rfl, GG_mem (i := 8) (j := 19) rfl rfl, GG_mem (i := 18) (j := 22) rfl rfl, GG_mem (i := 18) (j := 23) rfl rfl, by decide +kernel⟩
theorem cb_X5_date : zcv yX5_date cX5_date 2 (some .int) 1 := ⟨GG_mem (i := 19) (j := 5) rfl rfl, GG_mem (i := 8) (j := 19) rfl rfl, GG_mem (i := 19) (j := 3) rfl rfl, GG_mem (i := 19) (j := 4) rfl rfl, by decide +kernel⟩
theorem cb_X8_digestDates : zcv yX8_digestDates cX8_digestDates 9 (some .long) 2 := ⟨GG_mem (i := 19) (j := 9) rfl rfl, GG_mem (i := 0) (j := 2) rfl rfl, GG_mem (i := 19) (j := 7) rfl rfl, GG_mem (i := 19) (j := 8) rfl rfl, by decide +kernel⟩
theorem cb_X5_momentOfDate : zcv yX5_momentOfDate cX5_momentOfDate 2 (some .int) 1 := ⟨GG_mem (i := 19) (j := 14) rfl rfl, GG_mem (i := 8) (j := 19) rfl rfl, GG_mem (i := 19) (j := 12) rfl rfl, GG_mem (i := 19) (j := 13) rfl rfl, by decide +kernel⟩
theorem cb_X5_countShared : zcv yX5_countShared cX5_countShared 6 (some .int) 1 := ⟨GG_mem (i := 19) (j := 19) rfl rfl, GG_mem (i := 8) (j := 19) rfl rfl, GG_mem (i := 19) (j := 17) rfl rfl, GG_mem (i := 19) (j := 18) rfl rfl, by decide +kernel⟩
theorem cb_X8_digestWork : zcv yX8_digestWork cX8_digestWork 8 (some .long) 1 := ⟨GG_mem (i := 19) (j := 23) rfl rfl, GG_mem (i := 0) (j := 2) rfl rfl, GG_mem (i := 19) (j := 21) rfl rfl, GG_mem (i := 19) (j := 22) rfl rfl, by decide +kernel⟩
theorem cb_X7_findFeasts : zcv yX7_findFeasts cX7_findFeasts 8 none 2 := ⟨GG_mem (i := 20) (j := 6) rfl rfl, GG_mem (i := 1) (j := 6) rfl rfl, GG_mem (i := 20) (j := 4) rfl rfl, GG_mem (i := 20) (j := 5) rfl rfl, by decide +kernel⟩
theorem cb_X7_findFeast : zcv yX7_findFeast cX7_findFeast 8 none 4 := ⟨GG_mem (i := 20) (j := 20) rfl rfl, GG_mem (i := 1) (j := 6) rfl rfl, GG_mem (i := 20) (j := 18) rfl rfl, GG_mem (i := 20) (j := 19) rfl rfl, by decide +kernel⟩
theorem cb_X7_moved : zcv yX7_moved cX7_moved 5 (some .int) 3 := ⟨GG_mem (i := 21) (j := 3) rfl rfl, GG_mem (i := 1) (j := 6) rfl rfl, GG_mem (i := 21) (j := 1) rfl rfl, GG_mem (i := 21) (j := 2) rfl rfl, by decide +kernel⟩
theorem cb_X7_takes : zcv yX7_takes cX7_takes 5 (some .boolean) 3 := ⟨GG_mem (i := 21) (j := 7) rfl rfl, GG_mem (i := 1) (j := 6) rfl rfl, GG_mem (i := 21) (j := 5) rfl rfl, GG_mem (i := 21) (j := 6) rfl rfl, by decide +kernel⟩
theorem cb_X7_feastFound : zcv yX7_feastFound cX7_feastFound 2 (some .int) 1 := ⟨GG_mem (i := 21) (j := 14) rfl rfl, GG_mem (i := 1) (j := 6) rfl rfl, GG_mem (i := 21) (j := 12) rfl rfl, GG_mem (i := 21) (j := 13) rfl rfl, by decide +kernel⟩
theorem cb_X7_worksOn : zcv yX7_worksOn cX7_worksOn 2 (some .boolean) 1 := ⟨GG_mem (i := 21) (j := 18) rfl rfl, GG_mem (i := 1) (j := 6) rfl rfl, GG_mem (i := 21) (j := 16) rfl rfl, GG_mem (i := 21) (j := 17) rfl rfl, by decide +kernel⟩
theorem cb_X7_countDays : zcv yX7_countDays cX7_countDays 5 (some .int) 2 := ⟨GG_mem (i := 21) (j := 23) rfl rfl, GG_mem (i := 1) (j := 6) rfl rfl, GG_mem (i := 21) (j := 21) rfl rfl, GG_mem (i := 21) (j := 22) rfl rfl, by decide +kernel⟩
theorem cb_X7_dayBehind : zcv yX7_dayBehind cX7_dayBehind 7 (some .int) 2 := ⟨GG_mem (i := 22) (j := 5) rfl rfl, GG_mem (i := 1) (j := 6) rfl rfl, GG_mem (i := 22) (j := 3) rfl rfl, GG_mem (i := 22) (j := 4) rfl rfl, by decide +kernel⟩
theorem cb_X7_findFeastsWithin : zcv yX7_findFeastsWithin cX7_findFeastsWithin 5 none 2 := ⟨GG_mem (i := 22) (j := 10) rfl rfl, GG_mem (i := 1) (j := 6) rfl rfl, GG_mem (i := 22) (j := 8) rfl rfl, GG_mem (i := 22) (j := 9) rfl rfl, by decide +kernel⟩
theorem cb_J9_floorDiv_7cf53 : zcs yJ9_floorDiv_7cf53 cJ9_floorDiv_7cf53 3 (some .int) 2 := ⟨GG_mem (i := 22) (j := 14) rfl rfl, GG_mem (i := 8) (j := 2) rfl rfl, GG_mem (i := 22) (j := 13) rfl rfl, by decide +kernel⟩
theorem cb_X7_minutesWithin : zcv yX7_minutesWithin cX7_minutesWithin 9 (some .int) 2 := ⟨GG_mem (i := 22) (j := 18) rfl rfl, GG_mem (i := 1) (j := 6) rfl rfl, GG_mem (i := 22) (j := 16) rfl rfl, GG_mem (i := 22) (j := 17) rfl rfl, by decide +kernel⟩
theorem cb_X7_localMinutes : zcv yX7_localMinutes cX7_localMinutes 9 (some .int) 2 := ⟨GG_mem (i := 23) (j := 1) rfl rfl, GG_mem (i := 1) (j := 6) rfl rfl, GG_mem (i := 22) (j := 23) rfl rfl, GG_mem (i := 23) (j := 0) rfl rfl, by decide +kernel⟩
theorem cb_X7_finish : zcv yX7_finish cX7_finish 8 (some .int) 3 := ⟨GG_mem (i := 23) (j := 5) rfl rfl, GG_mem (i := 1) (j := 6) rfl rfl, GG_mem (i := 23) (j := 3) rfl rfl, GG_mem (i := 23) (j := 4) rfl rfl, by decide +kernel⟩
theorem cb_L_areClocksSound : zcs yL_areClocksSound cL_areClocksSound 7 (some .boolean) 3 := ⟨GG_mem (i := 23) (j := 9) rfl rfl, GG_mem (i := 3) (j := 0) rfl rfl, GG_mem (i := 23) (j := 8) rfl rfl, by decide +kernel⟩
theorem cb_X8_localAt : zcv yX8_localAt cX8_localAt 4 (some .int) 2 := ⟨GG_mem (i := 23) (j := 14) rfl rfl, GG_mem (i := 0) (j := 2) rfl rfl, GG_mem (i := 23) (j := 12) rfl rfl, GG_mem (i := 23) (j := 13) rfl rfl, by decide +kernel⟩
theorem cb_X8_needMoment : zcs yX8_needMoment cX8_needMoment 1 none 1 := ⟨GG_mem (i := 23) (j := 17) rfl rfl, GG_mem (i := 0) (j := 2) rfl rfl, GG_mem (i := 23) (j := 16) rfl rfl, by decide +kernel⟩
theorem cb_X8_momentOf : zcv yX8_momentOf cX8_momentOf 3 (some .int) 2 := ⟨GG_mem (i := 23) (j := 21) rfl rfl, GG_mem (i := 0) (j := 2) rfl rfl, GG_mem (i := 23) (j := 19) rfl rfl, GG_mem (i := 23) (j := 20) rfl rfl, by decide +kernel⟩
theorem cb_X8_lastMomentOf : zcv yX8_lastMomentOf cX8_lastMomentOf 3 (some .int) 2 := ⟨GG_mem (i := 24) (j := 1) rfl rfl, GG_mem (i := 0) (j := 2) rfl rfl, GG_mem (i := 23) (j := 23) rfl rfl, GG_mem (i := 24) (j := 0) rfl rfl, by decide +kernel⟩
theorem cb_X8_showsOften : zcv yX8_showsOften cX8_showsOften 3 (some .int) 2 := ⟨GG_mem (i := 24) (j := 5) rfl rfl, GG_mem (i := 0) (j := 2) rfl rfl, GG_mem (i := 24) (j := 3) rfl rfl, GG_mem (i := 24) (j := 4) rfl rfl, by decide +kernel⟩
theorem cb_X8_nextChange : zcv yX8_nextChange cX8_nextChange 4 (some .int) 2 := ⟨GG_mem (i := 24) (j := 9) rfl rfl, GG_mem (i := 0) (j := 2) rfl rfl, GG_mem (i := 24) (j := 7) rfl rfl, GG_mem (i := 24) (j := 8) rfl rfl, by decide +kernel⟩
theorem cb_X8_savingAt : zcv yX8_savingAt cX8_savingAt 4 (some .int) 2 := ⟨GG_mem (i := 24) (j := 13) rfl rfl, GG_mem (i := 0) (j := 2) rfl rfl, GG_mem (i := 24) (j := 11) rfl rfl, GG_mem (i := 24) (j := 12) rfl rfl, by decide +kernel⟩
theorem cb_X8_ahead : zcv yX8_ahead cX8_ahead 6 (some .int) 3 := ⟨GG_mem (i := 24) (j := 17) rfl rfl, GG_mem (i := 0) (j := 2) rfl rfl, GG_mem (i := 24) (j := 15) rfl rfl, GG_mem (i := 24) (j := 16) rfl rfl, by decide +kernel⟩
theorem cb_L_areDaysSound : zcs yL_areDaysSound cL_areDaysSound 6 (some .boolean) 3 := ⟨GG_mem (i := 24) (j := 20) rfl rfl, GG_mem (i := 3) (j := 0) rfl rfl, GG_mem (i := 24) (j := 19) rfl rfl, by decide +kernel⟩
theorem cb_X8_nextTold : zcv yX8_nextTold cX8_nextTold 4 (some .int) 2 := ⟨GG_mem (i := 25) (j := 0) rfl rfl, GG_mem (i := 0) (j := 2) rfl rfl, GG_mem (i := 24) (j := 22) rfl rfl, GG_mem (i := 24) (j := 23) rfl rfl, by decide +kernel⟩
theorem cb_X8_needDay : zcs yX8_needDay cX8_needDay 1 none 1 := ⟨GG_mem (i := 25) (j := 3) rfl rfl, GG_mem (i := 0) (j := 2) rfl rfl, GG_mem (i := 25) (j := 2) rfl rfl, by decide +kernel⟩
theorem cb_X8_tells : zcv yX8_tells cX8_tells 4 (some .boolean) 2 := ⟨GG_mem (i := 25) (j := 8) rfl rfl, GG_mem (i := 0) (j := 2) rfl rfl, GG_mem (i := 25) (j := 6) rfl rfl, GG_mem (i := 25) (j := 7) rfl rfl, by decide +kernel⟩
theorem cb_X8_yearOf : zcv yX8_yearOf cX8_yearOf 2 (some .int) 1 := ⟨GG_mem (i := 25) (j := 14) rfl rfl, GG_mem (i := 0) (j := 2) rfl rfl, GG_mem (i := 25) (j := 12) rfl rfl, GG_mem (i := 25) (j := 13) rfl rfl, by decide +kernel⟩
theorem cb_X8_monthOf : zcv yX8_monthOf cX8_monthOf 2 (some .int) 1 := ⟨GG_mem (i := 25) (j := 19) rfl rfl, GG_mem (i := 0) (j := 2) rfl rfl, GG_mem (i := 25) (j := 17) rfl rfl, GG_mem (i := 25) (j := 18) rfl rfl, by decide +kernel⟩
theorem cb_X8_dayOfMonth : zcv yX8_dayOfMonth cX8_dayOfMonth 2 (some .int) 1 := ⟨GG_mem (i := 25) (j := 23) rfl rfl, GG_mem (i := 0) (j := 2) rfl rfl, GG_mem (i := 25) (j := 21) rfl rfl, GG_mem (i := 25) (j := 22) rfl rfl, by decide +kernel⟩
theorem cb_X8_dayOf : zcv yX8_dayOf cX8_dayOf 5 (some .int) 3 := ⟨GG_mem (i := 26) (j := 4) rfl rfl, GG_mem (i := 0) (j := 2) rfl rfl, GG_mem (i := 26) (j := 2) rfl rfl, GG_mem (i := 26) (j := 3) rfl rfl, by decide +kernel⟩
theorem cb_X1_monthLength : zcs yX1_monthLength cX1_monthLength 1 (some .int) 1 := ⟨GG_mem (i := 26) (j := 8) rfl rfl, GG_mem (i := 7) (j := 5) rfl rfl, GG_mem (i := 26) (j := 7) rfl rfl, by decide +kernel⟩
theorem cb_X8_isWorking : zcv yX8_isWorking cX8_isWorking 2 (some .boolean) 1 := ⟨GG_mem (i := 26) (j := 13) rfl rfl, GG_mem (i := 0) (j := 2) rfl rfl, GG_mem (i := 26) (j := 11) rfl rfl, GG_mem (i := 26) (j := 12) rfl rfl, by decide +kernel⟩
theorem cb_X8_feastOn : zcv yX8_feastOn cX8_feastOn 2 (some .int) 1 := ⟨GG_mem (i := 26) (j := 17) rfl rfl, GG_mem (i := 0) (j := 2) rfl rfl, GG_mem (i := 26) (j := 15) rfl rfl, GG_mem (i := 26) (j := 16) rfl rfl, by decide +kernel⟩
theorem cb_X8_plusWorking : zcv yX8_plusWorking cX8_plusWorking 3 (some .int) 2 := ⟨GG_mem (i := 26) (j := 21) rfl rfl, GG_mem (i := 0) (j := 2) rfl rfl, GG_mem (i := 26) (j := 19) rfl rfl, GG_mem (i := 26) (j := 20) rfl rfl, by decide +kernel⟩
theorem cb_X8_workingDays : zcv yX8_workingDays cX8_workingDays 3 (some .int) 2 := ⟨GG_mem (i := 27) (j := 1) rfl rfl, GG_mem (i := 0) (j := 2) rfl rfl, GG_mem (i := 26) (j := 23) rfl rfl, GG_mem (i := 27) (j := 0) rfl rfl, by decide +kernel⟩
theorem cb_L_isSeriesSound : zcs yL_isSeriesSound cL_isSeriesSound 6 (some .boolean) 2 := ⟨GG_mem (i := 27) (j := 5) rfl rfl, GG_mem (i := 3) (j := 0) rfl rfl, GG_mem (i := 27) (j := 4) rfl rfl, by decide +kernel⟩
theorem cb_X8_dates : zcv yX8_dates cX8_dates 2 (some .int) 1 := ⟨GG_mem (i := 27) (j := 10) rfl rfl, GG_mem (i := 0) (j := 2) rfl rfl, GG_mem (i := 27) (j := 8) rfl rfl, GG_mem (i := 27) (j := 9) rfl rfl, by decide +kernel⟩
theorem cb_X8_dateAt : zcv yX8_dateAt cX8_dateAt 4 (some .int) 2 := ⟨GG_mem (i := 27) (j := 14) rfl rfl, GG_mem (i := 0) (j := 2) rfl rfl, GG_mem (i := 27) (j := 12) rfl rfl, GG_mem (i := 27) (j := 13) rfl rfl, by decide +kernel⟩
theorem cb_X8_needDate : zcs yX8_needDate cX8_needDate 2 none 2 := ⟨GG_mem (i := 27) (j := 17) rfl rfl, GG_mem (i := 0) (j := 2) rfl rfl, GG_mem (i := 27) (j := 16) rfl rfl, by decide +kernel⟩
theorem cb_X8_dateFrom : zcv yX8_dateFrom cX8_dateFrom 4 (some .int) 2 := ⟨GG_mem (i := 27) (j := 21) rfl rfl, GG_mem (i := 0) (j := 2) rfl rfl, GG_mem (i := 27) (j := 19) rfl rfl, GG_mem (i := 27) (j := 20) rfl rfl, by decide +kernel⟩
theorem cb_X5_firstFrom : zcv yX5_firstFrom cX5_firstFrom 3 (some .int) 1 := ⟨GG_mem (i := 28) (j := 1) rfl rfl, GG_mem (i := 8) (j := 19) rfl rfl, GG_mem (i := 27) (j := 23) rfl rfl, GG_mem (i := 28) (j := 0) rfl rfl, by decide +kernel⟩
theorem cb_X8_widestGap : zcv yX8_widestGap cX8_widestGap 2 (some .int) 1 := ⟨GG_mem (i := 28) (j := 5) rfl rfl, GG_mem (i := 0) (j := 2) rfl rfl, GG_mem (i := 28) (j := 3) rfl rfl, GG_mem (i := 28) (j := 4) rfl rfl, by decide +kernel⟩
theorem cb_X8_common : zcv yX8_common cX8_common 5 (some .int) 2 := ⟨GG_mem (i := 28) (j := 9) rfl rfl, GG_mem (i := 0) (j := 2) rfl rfl, GG_mem (i := 28) (j := 7) rfl rfl, GG_mem (i := 28) (j := 8) rfl rfl, by decide +kernel⟩
theorem cb_X8_meanGap : zcv yX8_meanGap cX8_meanGap 2 (some .double) 1 := ⟨GG_mem (i := 28) (j := 13) rfl rfl, GG_mem (i := 0) (j := 2) rfl rfl, GG_mem (i := 28) (j := 11) rfl rfl, GG_mem (i := 28) (j := 12) rfl rfl, by decide +kernel⟩
theorem cb_X5_meanOfGaps : zcv yX5_meanOfGaps cX5_meanOfGaps 2 (some .double) 0 := ⟨GG_mem (i := 28) (j := 17) rfl rfl, GG_mem (i := 8) (j := 19) rfl rfl, GG_mem (i := 28) (j := 15) rfl rfl, GG_mem (i := 28) (j := 16) rfl rfl, by decide +kernel⟩
